theorem dX6_add_33 : decode cX6_add 33 = .ok (.getfield 13, 3) := by decide +kernel
theorem dX6_add_36 : decode cX6_add 36 = .ok (.ireturn, 1) := by decide +kernel
theorem dX7_init_0 : decode cX7_init 0 = .ok (.aload_n 0, 1) := by decide +kernel
theorem dX7_init_1 : decode cX7_init 1 = .ok (.invokespecial 1, 3) := by decide +kernel
theorem dX7_init_4 : decode cX7_init 4 = .ok (.aload_n 0, 1) := by decide +kernel
theorem dX7_init_5 : decode cX7_init 5 = .ok (.iload_n 1, 1) := by decide +kernel
theorem dX7_init_6 : decode cX7_init 6 = .ok (.putfield 7, 3) := by decide +kernel
theorem dX7_init_9 : decode cX7_init 9 = .ok (.aload_n 0, 1) := by decide +kernel
theorem dX7_init_10 : decode cX7_init 10 = .ok (.iload_n 2, 1) := by decide +kernel
theorem dX7_init_11 : decode cX7_init 11 = .ok (.putfield 13, 3) := by decide +kernel
theorem dX7_init_14 : decode cX7_init 14 = .ok (.return_, 1) := by decide +kernel
set_option maxRecDepth 20000 in
theorem ggX8_init_X2_init : GoodIn wsX8_init wsX2_init := goodIn_r _ [10, 11, 2, 3, 12, 16, 17, 18, 19, 20] (by decide +kernel) (by decide +kernel)
set_option maxRecDepth 20000 in
theorem gX8_init_X2_init : GoodIn wsX8_init (wsX2_init) := ggX8_init_X2_init
theorem dX8_init_0 : decode cX8_init 0 = .ok (.aload_n 0, 1) := by decide +kernel
theorem dX8_init_1 : decode cX8_init 1 = .ok (.invokespecial 3, 3) := by decide +kernel
theorem dX8_init_4 : decode cX8_init 4 = .ok (.aload_n 0, 1) := by decide +kernel
theorem dX8_init_5 : decode cX8_init 5 = .ok (.bipush 9, 2) := by decide +kernel
theorem dX8_init_7 : decode cX8_init 7 = .ok (.anewarray 9, 3) := by decide +kernel
theorem dX8_init_10 : decode cX8_init 10 = .ok (.putfield 11, 3) := by decide +kernel
theorem dX8_init_13 : decode cX8_init 13 = .ok (.iconst 0, 1) := by decide +kernel
theorem dX8_init_14 : decode cX8_init 14 = .ok (.istore_n 2, 1) := by decide +kernel
theorem dX8_init_15 : decode cX8_init 15 = .ok (.iload_n 2, 1) := by decide +kernel
theorem dX8_init_16 : decode cX8_init 16 = .ok (.bipush 9, 2) := by decide +kernel
theorem dX8_init_18 : decode cX8_init 18 = .ok (.if_icmp .ge 23, 3) := by decide +kernel
theorem dX8_init_21 : decode cX8_init 21 = .ok (.aload_n 0, 1) := by decide +kernel
theorem dX8_init_22 : decode cX8_init 22 = .ok (.getfield 11, 3) := by decide +kernel
theorem dX8_init_25 : decode cX8_init 25 = .ok (.iload_n 2, 1) := by decide +kernel
theorem dX8_init_26 : decode cX8_init 26 = .ok (.new 9, 3) := by decide +kernel
theorem dX8_init_29 : decode cX8_init 29 = .ok (.dup, 1) := by decide +kernel
theorem dX8_init_30 : decode cX8_init 30 = .ok (.aload_n 1, 1) := by decide +kernel
theorem dX8_init_31 : decode cX8_init 31 = .ok (.invokespecial 17, 3) := by decide +kernel
theorem dX8_init_34 : decode cX8_init 34 = .ok (.aastore, 1) := by decide +kernel
theorem dX8_init_35 : decode cX8_init 35 = .ok (.iinc 2 1, 3) := by decide +kernel
theorem dX8_init_38 : decode cX8_init 38 = .ok (.goto (-23), 3) := by decide +kernel
theorem dX8_init_41 : decode cX8_init 41 = .ok (.return_, 1) := by decide +kernel
theorem dX8_put_0 : decode cX8_put 0 = .ok (.aload_n 0, 1) := by decide +kernel
theorem dX8_put_1 : decode cX8_put 1 = .ok (.getfield 20, 3) := by decide +kernel
theorem dX8_put_4 : decode cX8_put 4 = .ok (.bipush 9, 2) := by decide +kernel
theorem dX8_put_6 : decode cX8_put 6 = .ok (.if_icmp .ge 57, 3) := by decide +kernel
theorem dX8_put_9 : decode cX8_put 9 = .ok (.aload_n 0, 1) := by decide +kernel
theorem dX8_put_10 : decode cX8_put 10 = .ok (.getfield 11, 3) := by decide +kernel
theorem dX8_put_13 : decode cX8_put 13 = .ok (.aload_n 0, 1) := by decide +kernel
theorem dX8_put_14 : decode cX8_put 14 = .ok (.getfield 20, 3) := by decide +kernel
theorem dX8_put_17 : decode cX8_put 17 = .ok (.aaload, 1) := by decide +kernel
theorem dX8_put_18 : decode cX8_put 18 = .ok (.astore 4, 2) := by decide +kernel
theorem dX8_put_20 : decode cX8_put 20 = .ok (.aload 4, 2) := by decide +kernel
theorem dX8_put_22 : decode cX8_put 22 = .ok (.aload_n 1, 1) := by decide +kernel
theorem dX8_put_23 : decode cX8_put 23 = .ok (.putfield 24, 3) := by decide +kernel
theorem dX8_put_26 : decode cX8_put 26 = .ok (.aload 4, 2) := by decide +kernel
theorem dX8_put_28 : decode cX8_put 28 = .ok (.iload_n 2, 1) := by decide +kernel
theorem dX8_put_29 : decode cX8_put 29 = .ok (.putfield 28, 3) := by decide +kernel
theorem dX8_put_32 : decode cX8_put 32 = .ok (.aload 4, 2) := by decide +kernel
theorem dX8_put_34 : decode cX8_put 34 = .ok (.iload_n 3, 1) := by decide +kernel
theorem dX8_put_35 : decode cX8_put 35 = .ok (.putfield 31, 3) := by decide +kernel
theorem dX8_put_38 : decode cX8_put 38 = .ok (.aload 4, 2) := by decide +kernel
theorem dX8_put_40 : decode cX8_put 40 = .ok (.aload_n 1, 1) := by decide +kernel
theorem dX8_put_41 : decode cX8_put 41 = .ok (.getfield 34, 3) := by decide +kernel
theorem dX8_put_44 : decode cX8_put 44 = .ok (.putfield 39, 3) := by decide +kernel
theorem dX8_put_47 : decode cX8_put 47 = .ok (.aload 4, 2) := by decide +kernel
theorem dX8_put_49 : decode cX8_put 49 = .ok (.iconst 0, 1) := by decide +kernel
theorem dX8_put_50 : decode cX8_put 50 = .ok (.putfield 40, 3) := by decide +kernel
theorem dX8_put_53 : decode cX8_put 53 = .ok (.aload_n 0, 1) := by decide +kernel
theorem dX8_put_54 : decode cX8_put 54 = .ok (.dup, 1) := by decide +kernel
theorem dX8_put_55 : decode cX8_put 55 = .ok (.getfield 20, 3) := by decide +kernel
theorem dX8_put_58 : decode cX8_put 58 = .ok (.iconst 1, 1) := by decide +kernel
theorem dX8_put_59 : decode cX8_put 59 = .ok (.iadd, 1) := by decide +kernel
theorem dX8_put_60 : decode cX8_put 60 = .ok (.putfield 20, 3) := by decide +kernel
theorem dX8_put_63 : decode cX8_put 63 = .ok (.return_, 1) := by decide +kernel
theorem dX8_isFull_0 : decode cX8_isFull 0 = .ok (.aload_n 0, 1) := by decide +kernel
theorem dX8_isFull_1 : decode cX8_isFull 1 = .ok (.getfield 20, 3) := by decide +kernel
theorem dX8_isFull_4 : decode cX8_isFull 4 = .ok (.bipush 9, 2) := by decide +kernel
theorem dX8_isFull_6 : decode cX8_isFull 6 = .ok (.if_icmp .lt 7, 3) := by decide +kernel
theorem dX8_isFull_9 : decode cX8_isFull 9 = .ok (.iconst 1, 1) := by decide +kernel
theorem dX8_isFull_10 : decode cX8_isFull 10 = .ok (.goto 4, 3) := by decide +kernel
theorem dX8_isFull_13 : decode cX8_isFull 13 = .ok (.iconst 0, 1) := by decide +kernel
theorem dX8_isFull_14 : decode cX8_isFull 14 = .ok (.ireturn, 1) := by decide +kernel
theorem dX8_top_0 : decode cX8_top 0 = .ok (.aload_n 0, 1) := by decide +kernel
theorem dX8_top_1 : decode cX8_top 1 = .ok (.getfield 11, 3) := by decide +kernel
theorem dX8_top_4 : decode cX8_top 4 = .ok (.aload_n 0, 1) := by decide +kernel
theorem dX8_top_5 : decode cX8_top 5 = .ok (.getfield 20, 3) := by decide +kernel
theorem dX8_top_8 : decode cX8_top 8 = .ok (.ifCond .le 12, 3) := by decide +kernel
theorem dX8_top_11 : decode cX8_top 11 = .ok (.aload_n 0, 1) := by decide +kernel
theorem dX8_top_12 : decode cX8_top 12 = .ok (.getfield 20, 3) := by decide +kernel
theorem dX8_top_15 : decode cX8_top 15 = .ok (.iconst 1, 1) := by decide +kernel
theorem dX8_top_16 : decode cX8_top 16 = .ok (.isub, 1) := by decide +kernel
theorem dX8_top_17 : decode cX8_top 17 = .ok (.goto 4, 3) := by decide +kernel
theorem dX8_top_20 : decode cX8_top 20 = .ok (.iconst 0, 1) := by decide +kernel
theorem dX8_top_21 : decode cX8_top 21 = .ok (.aaload, 1) := by decide +kernel
theorem dX8_top_22 : decode cX8_top 22 = .ok (.areturn, 1) := by decide +kernel
theorem dX8_belowTop_0 : decode cX8_belowTop 0 = .ok (.aload_n 0, 1) := by decide +kernel
theorem dX8_belowTop_1 : decode cX8_belowTop 1 = .ok (.getfield 11, 3) := by decide +kernel
theorem dX8_belowTop_4 : decode cX8_belowTop 4 = .ok (.aload_n 0, 1) := by decide +kernel
theorem dX8_belowTop_5 : decode cX8_belowTop 5 = .ok (.getfield 20, 3) := by decide +kernel
theorem dX8_belowTop_8 : decode cX8_belowTop 8 = .ok (.iconst 1, 1) := by decide +kernel
theorem dX8_belowTop_9 : decode cX8_belowTop 9 = .ok (.if_icmp .le 12, 3) := by decide +kernel
theorem dX8_belowTop_12 : decode cX8_belowTop 12 = .ok (.aload_n 0, 1) := by decide +kernel
theorem dX8_belowTop_13 : decode cX8_belowTop 13 = .ok (.getfield 20, 3) := by decide +kernel
theorem dX8_belowTop_16 : decode cX8_belowTop 16 = .ok (.iconst 2, 1) := by decide +kernel
theorem dX8_belowTop_17 : decode cX8_belowTop 17 = .ok (.isub, 1) := by decide +kernel
theorem dX8_belowTop_18 : decode cX8_belowTop 18 = .ok (.goto 4, 3) := by decide +kernel
theorem dX8_belowTop_21 : decode cX8_belowTop 21 = .ok (.iconst 0, 1) := by decide +kernel
theorem dX8_belowTop_22 : decode cX8_belowTop 22 = .ok (.aaload, 1) := by decide +kernel
theorem dX8_belowTop_23 : decode cX8_belowTop 23 = .ok (.areturn, 1) := by decide +kernel
set_option maxRecDepth 20000 in
theorem ggX8_isTopmost_X8_top : GoodIn wsX8_isTopmost wsX8_top := goodIn_r _ [8, 9, 1, 10, 11, 12] (by decide +kernel) (by decide +kernel)
set_option maxRecDepth 20000 in
theorem gX8_isTopmost_X8_top : GoodIn wsX8_isTopmost (wsV RX8 43 RX8 yX8_top wsX8_top) := goodIn_app (goodIn_of _ (by decide +kernel)) ggX8_isTopmost_X8_top
theorem dX8_isTopmost_0 : decode cX8_isTopmost 0 = .ok (.aload_n 0, 1) := by decide +kernel
theorem dX8_isTopmost_1 : decode cX8_isTopmost 1 = .ok (.getfield 20, 3) := by decide +kernel
theorem dX8_isTopmost_4 : decode cX8_isTopmost 4 = .ok (.ifCond .le 21, 3) := by decide +kernel
theorem dX8_isTopmost_7 : decode cX8_isTopmost 7 = .ok (.aload_n 0, 1) := by decide +kernel
theorem dX8_isTopmost_8 : decode cX8_isTopmost 8 = .ok (.invokevirtual 43, 3) := by decide +kernel
theorem dX8_isTopmost_11 : decode cX8_isTopmost 11 = .ok (.getfield 24, 3) := by decide +kernel
theorem dX8_isTopmost_14 : decode cX8_isTopmost 14 = .ok (.getfield 47, 3) := by decide +kernel
theorem dX8_isTopmost_17 : decode cX8_isTopmost 17 = .ok (.iload_n 1, 1) := by decide +kernel
theorem dX8_isTopmost_18 : decode cX8_isTopmost 18 = .ok (.if_icmp .ne 7, 3) := by decide +kernel
theorem dX8_isTopmost_21 : decode cX8_isTopmost 21 = .ok (.iconst 1, 1) := by decide +kernel
theorem dX8_isTopmost_22 : decode cX8_isTopmost 22 = .ok (.goto 4, 3) := by decide +kernel
theorem dX8_isTopmost_25 : decode cX8_isTopmost 25 = .ok (.iconst 0, 1) := by decide +kernel
theorem dX8_isTopmost_26 : decode cX8_isTopmost 26 = .ok (.ireturn, 1) := by decide +kernel
theorem dX8_height_0 : decode cX8_height 0 = .ok (.iconst 0, 1) := by decide +kernel
theorem dX8_height_1 : decode cX8_height 1 = .ok (.istore_n 1, 1) := by decide +kernel
theorem dX8_height_2 : decode cX8_height 2 = .ok (.iconst 0, 1) := by decide +kernel
theorem dX8_height_3 : decode cX8_height 3 = .ok (.istore_n 2, 1) := by decide +kernel
theorem dX8_height_4 : decode cX8_height 4 = .ok (.iload_n 2, 1) := by decide +kernel
theorem dX8_height_5 : decode cX8_height 5 = .ok (.aload_n 0, 1) := by decide +kernel
theorem dX8_height_6 : decode cX8_height 6 = .ok (.getfield 20, 3) := by decide +kernel
theorem dX8_height_9 : decode cX8_height 9 = .ok (.if_icmp .ge 21, 3) := by decide +kernel
theorem dX8_height_12 : decode cX8_height 12 = .ok (.iload_n 1, 1) := by decide +kernel
theorem dX8_height_13 : decode cX8_height 13 = .ok (.aload_n 0, 1) := by decide +kernel
theorem dX8_height_14 : decode cX8_height 14 = .ok (.getfield 11, 3) := by decide +kernel
theorem dX8_height_17 : decode cX8_height 17 = .ok (.iload_n 2, 1) := by decide +kernel
theorem dX8_height_18 : decode cX8_height 18 = .ok (.aaload, 1) := by decide +kernel
theorem dX8_height_19 : decode cX8_height 19 = .ok (.getfield 28, 3) := by decide +kernel
theorem dX8_height_22 : decode cX8_height 22 = .ok (.iadd, 1) := by decide +kernel
theorem dX8_height_23 : decode cX8_height 23 = .ok (.istore_n 1, 1) := by decide +kernel
theorem dX8_height_24 : decode cX8_height 24 = .ok (.iinc 2 1, 3) := by decide +kernel
theorem dX8_height_27 : decode cX8_height 27 = .ok (.goto (-23), 3) := by decide +kernel
theorem dX8_height_30 : decode cX8_height 30 = .ok (.iload_n 1, 1) := by decide +kernel
theorem dX8_height_31 : decode cX8_height 31 = .ok (.ireturn, 1) := by decide +kernel
set_option maxRecDepth 20000 in
theorem ggX8_see_X8_plain : GoodIn wsX8_see wsX8_plain := goodIn_r _ [5, 6, 7, 8, 9, 10, 11, 12, 13, 14, 15, 16, 17, 18, 19, 20, 21, 49, 50, 51, 52, 53, 54, 55, 56, 57, 58, 59, 60, 61, 62, 63, 64, 65, 66, 67] (by decide +kernel) (by decide +kernel)
set_option maxRecDepth 20000 in
theorem gX8_see_X8_plain : GoodIn wsX8_see (wsV RX8 51 RX8 yX8_plain wsX8_plain) := goodIn_app (goodIn_of _ (by decide +kernel)) ggX8_see_X8_plain
set_option maxRecDepth 20000 in
theorem ggX8_see_X8_heavy : GoodIn wsX8_see wsX8_heavy := goodIn_r _ [25, 6, 7, 26, 27, 28, 49, 50, 51, 52, 53, 54, 55, 56, 57, 58, 59, 60, 61, 62, 63, 64, 65, 66, 67] (by decide +kernel) (by decide +kernel)
set_option maxRecDepth 20000 in
theorem gX8_see_X8_heavy : GoodIn wsX8_see (wsV RX8 55 RX8 yX8_heavy wsX8_heavy) := goodIn_app (goodIn_of _ (by decide +kernel)) ggX8_see_X8_heavy
set_option maxRecDepth 20000 in
theorem ggX8_see_X8_heat : GoodIn wsX8_see wsX8_heat := goodIn_r _ [32, 6, 7, 26, 33, 34, 49, 50, 51, 52, 53, 54, 55, 56, 57, 58, 59, 60, 61, 62, 63, 64, 65, 66, 67] (by decide +kernel) (by decide +kernel)
set_option maxRecDepth 20000 in
theorem gX8_see_X8_heat : GoodIn wsX8_see (wsV RX8 58 RX8 yX8_heat wsX8_heat) := goodIn_app (goodIn_of _ (by decide +kernel)) ggX8_see_X8_heat
set_option maxRecDepth 20000 in
theorem ggX8_see_X8_lampLight : GoodIn wsX8_see wsX8_lampLight := goodIn_r _ [38, 6, 26, 39, 40, 41, 42, 43, 44, 45, 46, 47, 4, 48, 7, 49, 50, 51, 52, 53, 54, 55, 56, 57, 58, 59, 60, 61, 62, 63, 64, 65, 66, 67] (by decide +kernel) (by decide +kernel)
set_option maxRecDepth 20000 in
theorem gX8_see_X8_lampLight : GoodIn wsX8_see (wsV RX8 61 RX8 yX8_lampLight wsX8_lampLight) := goodIn_app (goodIn_of _ (by decide +kernel)) ggX8_see_X8_lampLight
theorem dX8_see_0 : decode cX8_see 0 = .ok (.iload_n 1, 1) := by decide +kernel
theorem dX8_see_1 : decode cX8_see 1 = .ok (.ifCond .ne 8, 3) := by decide +kernel
theorem dX8_see_4 : decode cX8_see 4 = .ok (.aload_n 0, 1) := by decide +kernel
theorem dX8_see_5 : decode cX8_see 5 = .ok (.invokevirtual 51, 3) := by decide +kernel
theorem dX8_see_8 : decode cX8_see 8 = .ok (.ireturn, 1) := by decide +kernel
theorem dX8_see_9 : decode cX8_see 9 = .ok (.iload_n 1, 1) := by decide +kernel
theorem dX8_see_10 : decode cX8_see 10 = .ok (.iconst 1, 1) := by decide +kernel
theorem dX8_see_11 : decode cX8_see 11 = .ok (.if_icmp .ne 8, 3) := by decide +kernel
theorem dX8_see_14 : decode cX8_see 14 = .ok (.aload_n 0, 1) := by decide +kernel
theorem dX8_see_15 : decode cX8_see 15 = .ok (.invokevirtual 55, 3) := by decide +kernel
theorem dX8_see_18 : decode cX8_see 18 = .ok (.ireturn, 1) := by decide +kernel
theorem dX8_see_19 : decode cX8_see 19 = .ok (.iload_n 1, 1) := by decide +kernel
theorem dX8_see_20 : decode cX8_see 20 = .ok (.iconst 2, 1) := by decide +kernel
theorem dX8_see_21 : decode cX8_see 21 = .ok (.if_icmp .ne 10, 3) := by decide +kernel
theorem dX8_see_24 : decode cX8_see 24 = .ok (.aload_n 0, 1) := by decide +kernel
theorem dX8_see_25 : decode cX8_see 25 = .ok (.invokevirtual 58, 3) := by decide +kernel
theorem dX8_see_28 : decode cX8_see 28 = .ok (.goto 7, 3) := by decide +kernel
theorem dX8_see_31 : decode cX8_see 31 = .ok (.aload_n 0, 1) := by decide +kernel
theorem dX8_see_32 : decode cX8_see 32 = .ok (.invokevirtual 61, 3) := by decide +kernel
theorem dX8_see_35 : decode cX8_see 35 = .ok (.ireturn, 1) := by decide +kernel
set_option maxRecDepth 20000 in
theorem ggX8_plain_X2_share : GoodIn wsX8_plain wsX2_share := goodIn_r _ [7, 8, 9, 10, 11, 20, 21, 22, 23, 24, 25, 26, 27, 28, 29, 30, 31, 32, 33, 34, 35] (by decide +kernel) (by decide +kernel)
set_option maxRecDepth 20000 in
theorem gX8_plain_X2_share : GoodIn wsX8_plain (wsV RX8 64 RX2 yX2_share wsX2_share) := goodIn_app (goodIn_of _ (by decide +kernel)) ggX8_plain_X2_share
set_option maxRecDepth 20000 in
theorem ggX8_plain_X2_seenTone : GoodIn wsX8_plain wsX2_seenTone := goodIn_r _ [15, 11, 16, 20, 21, 22, 23, 24] (by decide +kernel) (by decide +kernel)
set_option maxRecDepth 20000 in
theorem gX8_plain_X2_seenTone : GoodIn wsX8_plain (wsV RX8 67 RX2 yX2_seenTone wsX2_seenTone) := goodIn_app (goodIn_of _ (by decide +kernel)) ggX8_plain_X2_seenTone
theorem dX8_plain_0 : decode cX8_plain 0 = .ok (.bipush 100, 2) := by decide +kernel
theorem dX8_plain_2 : decode cX8_plain 2 = .ok (.istore_n 1, 1) := by decide +kernel
theorem dX8_plain_3 : decode cX8_plain 3 = .ok (.iconst 0, 1) := by decide +kernel
theorem dX8_plain_4 : decode cX8_plain 4 = .ok (.istore_n 2, 1) := by decide +kernel
theorem dX8_plain_5 : decode cX8_plain 5 = .ok (.aload_n 0, 1) := by decide +kernel
theorem dX8_plain_6 : decode cX8_plain 6 = .ok (.getfield 20, 3) := by decide +kernel
theorem dX8_plain_9 : decode cX8_plain 9 = .ok (.iconst 1, 1) := by decide +kernel
theorem dX8_plain_10 : decode cX8_plain 10 = .ok (.isub, 1) := by decide +kernel
theorem dX8_plain_11 : decode cX8_plain 11 = .ok (.istore_n 3, 1) := by decide +kernel
theorem dX8_plain_12 : decode cX8_plain 12 = .ok (.iload_n 3, 1) := by decide +kernel
theorem dX8_plain_13 : decode cX8_plain 13 = .ok (.ifCond .lt 45, 3) := by decide +kernel
theorem dX8_plain_16 : decode cX8_plain 16 = .ok (.iload_n 1, 1) := by decide +kernel
theorem dX8_plain_17 : decode cX8_plain 17 = .ok (.aload_n 0, 1) := by decide +kernel
theorem dX8_plain_18 : decode cX8_plain 18 = .ok (.getfield 11, 3) := by decide +kernel
theorem dX8_plain_21 : decode cX8_plain 21 = .ok (.iload_n 3, 1) := by decide +kernel
theorem dX8_plain_22 : decode cX8_plain 22 = .ok (.aaload, 1) := by decide +kernel
theorem dX8_plain_23 : decode cX8_plain 23 = .ok (.invokevirtual 64, 3) := by decide +kernel
theorem dX8_plain_26 : decode cX8_plain 26 = .ok (.imul, 1) := by decide +kernel
theorem dX8_plain_27 : decode cX8_plain 27 = .ok (.bipush 100, 2) := by decide +kernel
theorem dX8_plain_29 : decode cX8_plain 29 = .ok (.idiv, 1) := by decide +kernel
theorem dX8_plain_30 : decode cX8_plain 30 = .ok (.istore 4, 2) := by decide +kernel
theorem dX8_plain_32 : decode cX8_plain 32 = .ok (.iload_n 2, 1) := by decide +kernel
theorem dX8_plain_33 : decode cX8_plain 33 = .ok (.iload 4, 2) := by decide +kernel
theorem dX8_plain_35 : decode cX8_plain 35 = .ok (.aload_n 0, 1) := by decide +kernel
theorem dX8_plain_36 : decode cX8_plain 36 = .ok (.getfield 11, 3) := by decide +kernel
theorem dX8_plain_39 : decode cX8_plain 39 = .ok (.iload_n 3, 1) := by decide +kernel
theorem dX8_plain_40 : decode cX8_plain 40 = .ok (.aaload, 1) := by decide +kernel
theorem dX8_plain_41 : decode cX8_plain 41 = .ok (.invokevirtual 67, 3) := by decide +kernel
theorem dX8_plain_44 : decode cX8_plain 44 = .ok (.imul, 1) := by decide +kernel
theorem dX8_plain_45 : decode cX8_plain 45 = .ok (.iadd, 1) := by decide +kernel
theorem dX8_plain_46 : decode cX8_plain 46 = .ok (.istore_n 2, 1) := by decide +kernel
theorem dX8_plain_47 : decode cX8_plain 47 = .ok (.iload_n 1, 1) := by decide +kernel
theorem dX8_plain_48 : decode cX8_plain 48 = .ok (.iload 4, 2) := by decide +kernel
theorem dX8_plain_50 : decode cX8_plain 50 = .ok (.isub, 1) := by decide +kernel
theorem dX8_plain_51 : decode cX8_plain 51 = .ok (.istore_n 1, 1) := by decide +kernel
theorem dX8_plain_52 : decode cX8_plain 52 = .ok (.iinc 3 (-1), 3) := by decide +kernel
theorem dX8_plain_55 : decode cX8_plain 55 = .ok (.goto (-43), 3) := by decide +kernel
theorem dX8_plain_58 : decode cX8_plain 58 = .ok (.iload_n 2, 1) := by decide +kernel
theorem dX8_plain_59 : decode cX8_plain 59 = .ok (.iload_n 1, 1) := by decide +kernel
theorem dX8_plain_60 : decode cX8_plain 60 = .ok (.bipush 50, 2) := by decide +kernel
theorem dX8_plain_62 : decode cX8_plain 62 = .ok (.imul, 1) := by decide +kernel
theorem dX8_plain_63 : decode cX8_plain 63 = .ok (.iadd, 1) := by decide +kernel
theorem dX8_plain_64 : decode cX8_plain 64 = .ok (.bipush 100, 2) := by decide +kernel
theorem dX8_plain_66 : decode cX8_plain 66 = .ok (.idiv, 1) := by decide +kernel
theorem dX8_plain_67 : decode cX8_plain 67 = .ok (.ireturn, 1) := by decide +kernel
theorem dX8_heavy_0 : decode cX8_heavy 0 = .ok (.iconst 0, 1) := by decide +kernel
theorem dX8_heavy_1 : decode cX8_heavy 1 = .ok (.istore_n 1, 1) := by decide +kernel
theorem dX8_heavy_2 : decode cX8_heavy 2 = .ok (.iconst 0, 1) := by decide +kernel
theorem dX8_heavy_3 : decode cX8_heavy 3 = .ok (.istore_n 2, 1) := by decide +kernel
theorem dX8_heavy_4 : decode cX8_heavy 4 = .ok (.iload_n 2, 1) := by decide +kernel
theorem dX8_heavy_5 : decode cX8_heavy 5 = .ok (.aload_n 0, 1) := by decide +kernel
theorem dX8_heavy_6 : decode cX8_heavy 6 = .ok (.getfield 20, 3) := by decide +kernel
theorem dX8_heavy_9 : decode cX8_heavy 9 = .ok (.if_icmp .ge 34, 3) := by decide +kernel
theorem dX8_heavy_12 : decode cX8_heavy 12 = .ok (.iload_n 1, 1) := by decide +kernel
theorem dX8_heavy_13 : decode cX8_heavy 13 = .ok (.aload_n 0, 1) := by decide +kernel
theorem dX8_heavy_14 : decode cX8_heavy 14 = .ok (.getfield 11, 3) := by decide +kernel
theorem dX8_heavy_17 : decode cX8_heavy 17 = .ok (.iload_n 2, 1) := by decide +kernel
theorem dX8_heavy_18 : decode cX8_heavy 18 = .ok (.aaload, 1) := by decide +kernel
theorem dX8_heavy_19 : decode cX8_heavy 19 = .ok (.getfield 24, 3) := by decide +kernel
theorem dX8_heavy_22 : decode cX8_heavy 22 = .ok (.getfield 70, 3) := by decide +kernel
theorem dX8_heavy_25 : decode cX8_heavy 25 = .ok (.aload_n 0, 1) := by decide +kernel
theorem dX8_heavy_26 : decode cX8_heavy 26 = .ok (.getfield 11, 3) := by decide +kernel
theorem dX8_heavy_29 : decode cX8_heavy 29 = .ok (.iload_n 2, 1) := by decide +kernel
theorem dX8_heavy_30 : decode cX8_heavy 30 = .ok (.aaload, 1) := by decide +kernel
theorem dX8_heavy_31 : decode cX8_heavy 31 = .ok (.getfield 28, 3) := by decide +kernel
theorem dX8_heavy_34 : decode cX8_heavy 34 = .ok (.imul, 1) := by decide +kernel
theorem dX8_heavy_35 : decode cX8_heavy 35 = .ok (.iadd, 1) := by decide +kernel
theorem dX8_heavy_36 : decode cX8_heavy 36 = .ok (.istore_n 1, 1) := by decide +kernel
theorem dX8_heavy_37 : decode cX8_heavy 37 = .ok (.iinc 2 1, 3) := by decide +kernel
theorem dX8_heavy_40 : decode cX8_heavy 40 = .ok (.goto (-36), 3) := by decide +kernel
theorem dX8_heavy_43 : decode cX8_heavy 43 = .ok (.iload_n 1, 1) := by decide +kernel
theorem dX8_heavy_44 : decode cX8_heavy 44 = .ok (.bipush 10, 2) := by decide +kernel
theorem dX8_heavy_46 : decode cX8_heavy 46 = .ok (.idiv, 1) := by decide +kernel
theorem dX8_heavy_47 : decode cX8_heavy 47 = .ok (.ireturn, 1) := by decide +kernel
theorem dX8_heat_0 : decode cX8_heat 0 = .ok (.aload_n 0, 1) := by decide +kernel
theorem dX8_heat_1 : decode cX8_heat 1 = .ok (.getfield 20, 3) := by decide +kernel
theorem dX8_heat_4 : decode cX8_heat 4 = .ok (.iconst 1, 1) := by decide +kernel
theorem dX8_heat_5 : decode cX8_heat 5 = .ok (.isub, 1) := by decide +kernel
theorem dX8_heat_6 : decode cX8_heat 6 = .ok (.istore_n 1, 1) := by decide +kernel
theorem dX8_heat_7 : decode cX8_heat 7 = .ok (.iload_n 1, 1) := by decide +kernel
theorem dX8_heat_8 : decode cX8_heat 8 = .ok (.ifCond .lt 37, 3) := by decide +kernel
theorem dX8_heat_11 : decode cX8_heat 11 = .ok (.aload_n 0, 1) := by decide +kernel
theorem dX8_heat_12 : decode cX8_heat 12 = .ok (.getfield 11, 3) := by decide +kernel
theorem dX8_heat_15 : decode cX8_heat 15 = .ok (.iload_n 1, 1) := by decide +kernel
theorem dX8_heat_16 : decode cX8_heat 16 = .ok (.aaload, 1) := by decide +kernel
theorem dX8_heat_17 : decode cX8_heat 17 = .ok (.getfield 24, 3) := by decide +kernel
theorem dX8_heat_20 : decode cX8_heat 20 = .ok (.getfield 73, 3) := by decide +kernel
theorem dX8_heat_23 : decode cX8_heat 23 = .ok (.ifCond .ne 16, 3) := by decide +kernel
theorem dX8_heat_26 : decode cX8_heat 26 = .ok (.aload_n 0, 1) := by decide +kernel
theorem dX8_heat_27 : decode cX8_heat 27 = .ok (.getfield 11, 3) := by decide +kernel
theorem dX8_heat_30 : decode cX8_heat 30 = .ok (.iload_n 1, 1) := by decide +kernel
theorem dX8_heat_31 : decode cX8_heat 31 = .ok (.aaload, 1) := by decide +kernel
theorem dX8_heat_32 : decode cX8_heat 32 = .ok (.getfield 24, 3) := by decide +kernel
theorem dX8_heat_35 : decode cX8_heat 35 = .ok (.getfield 77, 3) := by decide +kernel
theorem dX8_heat_38 : decode cX8_heat 38 = .ok (.ireturn, 1) := by decide +kernel
theorem dX8_heat_39 : decode cX8_heat 39 = .ok (.iinc 1 (-1), 3) := by decide +kernel
theorem dX8_heat_42 : decode cX8_heat 42 = .ok (.goto (-35), 3) := by decide +kernel
theorem dX8_heat_45 : decode cX8_heat 45 = .ok (.iconst (-1), 1) := by decide +kernel
theorem dX8_heat_46 : decode cX8_heat 46 = .ok (.ireturn, 1) := by decide +kernel
set_option maxRecDepth 20000 in
theorem ggX8_lampLight_X8_top : GoodIn wsX8_lampLight wsX8_top := goodIn_r _ [13, 14, 1, 15, 16, 17] (by decide +kernel) (by decide +kernel)
set_option maxRecDepth 20000 in
theorem gX8_lampLight_X8_top : GoodIn wsX8_lampLight (wsV RX8 43 RX8 yX8_top wsX8_top) := goodIn_app (goodIn_of _ (by decide +kernel)) ggX8_lampLight_X8_top
theorem dX8_lampLight_0 : decode cX8_lampLight 0 = .ok (.aload_n 0, 1) := by decide +kernel
theorem dX8_lampLight_1 : decode cX8_lampLight 1 = .ok (.getfield 20, 3) := by decide +kernel
theorem dX8_lampLight_4 : decode cX8_lampLight 4 = .ok (.ifCond .le 29, 3) := by decide +kernel
theorem dX8_lampLight_7 : decode cX8_lampLight 7 = .ok (.bipush 9, 2) := by decide +kernel
theorem dX8_lampLight_9 : decode cX8_lampLight 9 = .ok (.aload_n 0, 1) := by decide +kernel
theorem dX8_lampLight_10 : decode cX8_lampLight 10 = .ok (.invokevirtual 43, 3) := by decide +kernel
theorem dX8_lampLight_13 : decode cX8_lampLight 13 = .ok (.getfield 24, 3) := by decide +kernel
theorem dX8_lampLight_16 : decode cX8_lampLight 16 = .ok (.getfield 80, 3) := by decide +kernel
theorem dX8_lampLight_19 : decode cX8_lampLight 19 = .ok (.aload_n 0, 1) := by decide +kernel
theorem dX8_lampLight_20 : decode cX8_lampLight 20 = .ok (.invokevirtual 43, 3) := by decide +kernel
theorem dX8_lampLight_23 : decode cX8_lampLight 23 = .ok (.getfield 40, 3) := by decide +kernel
theorem dX8_lampLight_26 : decode cX8_lampLight 26 = .ok (.iadd, 1) := by decide +kernel
theorem dX8_lampLight_27 : decode cX8_lampLight 27 = .ok (.invokestatic 83, 3) := by decide +kernel
theorem dX8_lampLight_30 : decode cX8_lampLight 30 = .ok (.goto 4, 3) := by decide +kernel
theorem dX8_lampLight_33 : decode cX8_lampLight 33 = .ok (.iconst 0, 1) := by decide +kernel
theorem dX8_lampLight_34 : decode cX8_lampLight 34 = .ok (.ireturn, 1) := by decide +kernel
theorem dX8_tire_0 : decode cX8_tire 0 = .ok (.aload_n 0, 1) := by decide +kernel
theorem dX8_tire_1 : decode cX8_tire 1 = .ok (.bipush 99, 2) := by decide +kernel
theorem dX8_tire_3 : decode cX8_tire 3 = .ok (.aload_n 0, 1) := by decide +kernel
theorem dX8_tire_4 : decode cX8_tire 4 = .ok (.getfield 89, 3) := by decide +kernel
theorem dX8_tire_7 : decode cX8_tire 7 = .ok (.iload_n 1, 1) := by decide +kernel
theorem dX8_tire_8 : decode cX8_tire 8 = .ok (.iadd, 1) := by decide +kernel
theorem dX8_tire_9 : decode cX8_tire 9 = .ok (.invokestatic 83, 3) := by decide +kernel
theorem dX8_tire_12 : decode cX8_tire 12 = .ok (.putfield 89, 3) := by decide +kernel
theorem dX8_tire_15 : decode cX8_tire 15 = .ok (.return_, 1) := by decide +kernel
set_option maxRecDepth 20000 in
theorem ggX8_age_X8_fadingRow : GoodIn wsX8_age wsX8_fadingRow := goodIn_r _ [9, 1, 2, 3, 10, 31, 32, 33, 34, 35, 36, 37, 38, 39, 40, 41, 42, 43, 44, 45, 46, 47, 48, 49] (by decide +kernel) (by decide +kernel)
set_option maxRecDepth 20000 in
theorem gX8_age_X8_fadingRow : GoodIn wsX8_age (wsV RX8 92 RX8 yX8_fadingRow wsX8_fadingRow) := goodIn_app (goodIn_of _ (by decide +kernel)) ggX8_age_X8_fadingRow
set_option maxRecDepth 20000 in
theorem ggX8_age_X9_clashesWith : GoodIn wsX8_age wsX9_clashesWith := goodIn_r _ [15, 16, 17, 39, 40, 41, 42, 43, 44, 45, 46, 47, 48, 49] (by decide +kernel) (by decide +kernel)
set_option maxRecDepth 20000 in
theorem gX8_age_X9_clashesWith : GoodIn wsX8_age (wsV RX8 98 RX9 yX9_clashesWith wsX9_clashesWith) := goodIn_app (goodIn_of _ (by decide +kernel)) ggX8_age_X9_clashesWith
set_option maxRecDepth 20000 in
theorem ggX8_age_X2_shift : GoodIn wsX8_age wsX2_shift := goodIn_r _ [22, 23, 24, 25, 26, 27, 28, 29, 30, 34, 35, 36, 37, 38] (by decide +kernel) (by decide +kernel)
set_option maxRecDepth 20000 in
theorem gX8_age_X2_shift : GoodIn wsX8_age (wsV RX8 102 RX2 yX2_shift wsX2_shift) := goodIn_app (goodIn_of _ (by decide +kernel)) ggX8_age_X2_shift
theorem dX8_age_0 : decode cX8_age 0 = .ok (.aload_n 0, 1) := by decide +kernel
theorem dX8_age_1 : decode cX8_age 1 = .ok (.invokevirtual 92, 3) := by decide +kernel
theorem dX8_age_4 : decode cX8_age 4 = .ok (.istore_n 3, 1) := by decide +kernel
theorem dX8_age_5 : decode cX8_age 5 = .ok (.iconst 0, 1) := by decide +kernel
theorem dX8_age_6 : decode cX8_age 6 = .ok (.istore 4, 2) := by decide +kernel
theorem dX8_age_8 : decode cX8_age 8 = .ok (.iload 4, 2) := by decide +kernel
theorem dX8_age_10 : decode cX8_age 10 = .ok (.aload_n 0, 1) := by decide +kernel
theorem dX8_age_11 : decode cX8_age 11 = .ok (.getfield 20, 3) := by decide +kernel
theorem dX8_age_14 : decode cX8_age 14 = .ok (.if_icmp .ge 104, 3) := by decide +kernel
theorem dX8_age_17 : decode cX8_age 17 = .ok (.aload_n 0, 1) := by decide +kernel
theorem dX8_age_18 : decode cX8_age 18 = .ok (.getfield 11, 3) := by decide +kernel
theorem dX8_age_21 : decode cX8_age 21 = .ok (.iload 4, 2) := by decide +kernel
theorem dX8_age_23 : decode cX8_age 23 = .ok (.aaload, 1) := by decide +kernel
theorem dX8_age_24 : decode cX8_age 24 = .ok (.getfield 24, 3) := by decide +kernel
theorem dX8_age_27 : decode cX8_age 27 = .ok (.astore 5, 2) := by decide +kernel
theorem dX8_age_29 : decode cX8_age 29 = .ok (.iload 4, 2) := by decide +kernel
theorem dX8_age_31 : decode cX8_age 31 = .ok (.iload_n 3, 1) := by decide +kernel
theorem dX8_age_32 : decode cX8_age 32 = .ok (.if_icmp .ne 16, 3) := by decide +kernel
theorem dX8_age_35 : decode cX8_age 35 = .ok (.aload 5, 2) := by decide +kernel
theorem dX8_age_37 : decode cX8_age 37 = .ok (.getfield 95, 3) := by decide +kernel
theorem dX8_age_40 : decode cX8_age 40 = .ok (.iload_n 2, 1) := by decide +kernel
theorem dX8_age_41 : decode cX8_age 41 = .ok (.imul, 1) := by decide +kernel
theorem dX8_age_42 : decode cX8_age 42 = .ok (.bipush 10, 2) := by decide +kernel
theorem dX8_age_44 : decode cX8_age 44 = .ok (.idiv, 1) := by decide +kernel
theorem dX8_age_45 : decode cX8_age 45 = .ok (.goto 4, 3) := by decide +kernel
theorem dX8_age_48 : decode cX8_age 48 = .ok (.iconst 0, 1) := by decide +kernel
theorem dX8_age_49 : decode cX8_age 49 = .ok (.istore 6, 2) := by decide +kernel
theorem dX8_age_51 : decode cX8_age 51 = .ok (.iload 4, 2) := by decide +kernel
theorem dX8_age_53 : decode cX8_age 53 = .ok (.iconst 1, 1) := by decide +kernel
theorem dX8_age_54 : decode cX8_age 54 = .ok (.iadd, 1) := by decide +kernel
theorem dX8_age_55 : decode cX8_age 55 = .ok (.aload_n 0, 1) := by decide +kernel
theorem dX8_age_56 : decode cX8_age 56 = .ok (.getfield 20, 3) := by decide +kernel
theorem dX8_age_59 : decode cX8_age 59 = .ok (.if_icmp .ge 27, 3) := by decide +kernel
theorem dX8_age_62 : decode cX8_age 62 = .ok (.aload 5, 2) := by decide +kernel
theorem dX8_age_64 : decode cX8_age 64 = .ok (.aload_n 0, 1) := by decide +kernel
theorem dX8_age_65 : decode cX8_age 65 = .ok (.getfield 11, 3) := by decide +kernel
theorem dX8_age_68 : decode cX8_age 68 = .ok (.iload 4, 2) := by decide +kernel
theorem dX8_age_70 : decode cX8_age 70 = .ok (.iconst 1, 1) := by decide +kernel
theorem dX8_age_71 : decode cX8_age 71 = .ok (.iadd, 1) := by decide +kernel
theorem dX8_age_72 : decode cX8_age 72 = .ok (.aaload, 1) := by decide +kernel
theorem dX8_age_73 : decode cX8_age 73 = .ok (.getfield 24, 3) := by decide +kernel
theorem dX8_age_76 : decode cX8_age 76 = .ok (.invokevirtual 98, 3) := by decide +kernel
theorem dX8_age_79 : decode cX8_age 79 = .ok (.ifCond .eq 7, 3) := by decide +kernel
theorem dX8_age_82 : decode cX8_age 82 = .ok (.iconst 1, 1) := by decide +kernel
theorem dX8_age_83 : decode cX8_age 83 = .ok (.goto 4, 3) := by decide +kernel
theorem dX8_age_86 : decode cX8_age 86 = .ok (.iconst 0, 1) := by decide +kernel
theorem dX8_age_87 : decode cX8_age 87 = .ok (.istore 7, 2) := by decide +kernel
theorem dX8_age_89 : decode cX8_age 89 = .ok (.iload 6, 2) := by decide +kernel
theorem dX8_age_91 : decode cX8_age 91 = .ok (.iload 7, 2) := by decide +kernel
theorem dX8_age_93 : decode cX8_age 93 = .ok (.iadd, 1) := by decide +kernel
theorem dX8_age_94 : decode cX8_age 94 = .ok (.ifCond .le 18, 3) := by decide +kernel
theorem dX8_age_97 : decode cX8_age 97 = .ok (.aload_n 0, 1) := by decide +kernel
theorem dX8_age_98 : decode cX8_age 98 = .ok (.getfield 11, 3) := by decide +kernel
theorem dX8_age_101 : decode cX8_age 101 = .ok (.iload 4, 2) := by decide +kernel
theorem dX8_age_103 : decode cX8_age 103 = .ok (.aaload, 1) := by decide +kernel
theorem dX8_age_104 : decode cX8_age 104 = .ok (.iload_n 1, 1) := by decide +kernel
theorem dX8_age_105 : decode cX8_age 105 = .ok (.iload 6, 2) := by decide +kernel
theorem dX8_age_107 : decode cX8_age 107 = .ok (.iload 7, 2) := by decide +kernel
theorem dX8_age_109 : decode cX8_age 109 = .ok (.invokevirtual 102, 3) := by decide +kernel
theorem dX8_age_112 : decode cX8_age 112 = .ok (.iinc 4 1, 3) := by decide +kernel
theorem dX8_age_115 : decode cX8_age 115 = .ok (.goto (-107), 3) := by decide +kernel
theorem dX8_age_118 : decode cX8_age 118 = .ok (.return_, 1) := by decide +kernel
theorem dX8_fadingRow_0 : decode cX8_fadingRow 0 = .ok (.aload_n 0, 1) := by decide +kernel
theorem dX8_fadingRow_1 : decode cX8_fadingRow 1 = .ok (.getfield 20, 3) := by decide +kernel
theorem dX8_fadingRow_4 : decode cX8_fadingRow 4 = .ok (.iconst 1, 1) := by decide +kernel
theorem dX8_fadingRow_5 : decode cX8_fadingRow 5 = .ok (.isub, 1) := by decide +kernel
theorem dX8_fadingRow_6 : decode cX8_fadingRow 6 = .ok (.istore_n 1, 1) := by decide +kernel
theorem dX8_fadingRow_7 : decode cX8_fadingRow 7 = .ok (.iload_n 1, 1) := by decide +kernel
theorem dX8_fadingRow_8 : decode cX8_fadingRow 8 = .ok (.ifCond .lt 45, 3) := by decide +kernel
theorem dX8_fadingRow_11 : decode cX8_fadingRow 11 = .ok (.aload_n 0, 1) := by decide +kernel
theorem dX8_fadingRow_12 : decode cX8_fadingRow 12 = .ok (.getfield 11, 3) := by decide +kernel
theorem dX8_fadingRow_15 : decode cX8_fadingRow 15 = .ok (.iload_n 1, 1) := by decide +kernel
theorem dX8_fadingRow_16 : decode cX8_fadingRow 16 = .ok (.aaload, 1) := by decide +kernel
theorem dX8_fadingRow_17 : decode cX8_fadingRow 17 = .ok (.getfield 24, 3) := by decide +kernel
theorem dX8_fadingRow_20 : decode cX8_fadingRow 20 = .ok (.getfield 47, 3) := by decide +kernel
theorem dX8_fadingRow_23 : decode cX8_fadingRow 23 = .ok (.bipush 118, 2) := by decide +kernel
theorem dX8_fadingRow_25 : decode cX8_fadingRow 25 = .ok (.if_icmp .eq 22, 3) := by decide +kernel
theorem dX8_fadingRow_28 : decode cX8_fadingRow 28 = .ok (.aload_n 0, 1) := by decide +kernel
theorem dX8_fadingRow_29 : decode cX8_fadingRow 29 = .ok (.getfield 11, 3) := by decide +kernel
theorem dX8_fadingRow_32 : decode cX8_fadingRow 32 = .ok (.iload_n 1, 1) := by decide +kernel
theorem dX8_fadingRow_33 : decode cX8_fadingRow 33 = .ok (.aaload, 1) := by decide +kernel
theorem dX8_fadingRow_34 : decode cX8_fadingRow 34 = .ok (.getfield 24, 3) := by decide +kernel
theorem dX8_fadingRow_37 : decode cX8_fadingRow 37 = .ok (.getfield 47, 3) := by decide +kernel
theorem dX8_fadingRow_40 : decode cX8_fadingRow 40 = .ok (.bipush 120, 2) := by decide +kernel
theorem dX8_fadingRow_42 : decode cX8_fadingRow 42 = .ok (.if_icmp .eq 5, 3) := by decide +kernel
theorem dX8_fadingRow_45 : decode cX8_fadingRow 45 = .ok (.iload_n 1, 1) := by decide +kernel
theorem dX8_fadingRow_46 : decode cX8_fadingRow 46 = .ok (.ireturn, 1) := by decide +kernel
theorem dX8_fadingRow_47 : decode cX8_fadingRow 47 = .ok (.iinc 1 (-1), 3) := by decide +kernel
theorem dX8_fadingRow_50 : decode cX8_fadingRow 50 = .ok (.goto (-43), 3) := by decide +kernel
theorem dX8_fadingRow_53 : decode cX8_fadingRow 53 = .ok (.iconst (-1), 1) := by decide +kernel
theorem dX8_fadingRow_54 : decode cX8_fadingRow 54 = .ok (.ireturn, 1) := by decide +kernel
set_option maxRecDepth 20000 in
theorem ggX8_wear_X8_tire : GoodIn wsX8_wear wsX8_tire := goodIn_r _ [13, 14, 15, 16, 3, 17, 18, 19, 20] (by decide +kernel) (by decide +kernel)
set_option maxRecDepth 20000 in
theorem gX8_wear_X8_tire : GoodIn wsX8_wear (wsV RX8 113 RX8 yX8_tire wsX8_tire) := goodIn_app (goodIn_of _ (by decide +kernel)) ggX8_wear_X8_tire
theorem dX8_wear_0 : decode cX8_wear 0 = .ok (.iload_n 2, 1) := by decide +kernel
theorem dX8_wear_1 : decode cX8_wear 1 = .ok (.bipush 50, 2) := by decide +kernel
theorem dX8_wear_3 : decode cX8_wear 3 = .ok (.isub, 1) := by decide +kernel
theorem dX8_wear_4 : decode cX8_wear 4 = .ok (.invokestatic 106, 3) := by decide +kernel
theorem dX8_wear_7 : decode cX8_wear 7 = .ok (.bipush 15, 2) := by decide +kernel
theorem dX8_wear_9 : decode cX8_wear 9 = .ok (.if_icmp .le 7, 3) := by decide +kernel
theorem dX8_wear_12 : decode cX8_wear 12 = .ok (.iconst 1, 1) := by decide +kernel
theorem dX8_wear_13 : decode cX8_wear 13 = .ok (.goto 4, 3) := by decide +kernel
theorem dX8_wear_16 : decode cX8_wear 16 = .ok (.iconst 0, 1) := by decide +kernel
theorem dX8_wear_17 : decode cX8_wear 17 = .ok (.istore_n 3, 1) := by decide +kernel
theorem dX8_wear_18 : decode cX8_wear 18 = .ok (.iconst 1, 1) := by decide +kernel
theorem dX8_wear_19 : decode cX8_wear 19 = .ok (.istore 4, 2) := by decide +kernel
theorem dX8_wear_21 : decode cX8_wear 21 = .ok (.iload 4, 2) := by decide +kernel
theorem dX8_wear_23 : decode cX8_wear 23 = .ok (.aload_n 0, 1) := by decide +kernel
theorem dX8_wear_24 : decode cX8_wear 24 = .ok (.getfield 20, 3) := by decide +kernel
theorem dX8_wear_27 : decode cX8_wear 27 = .ok (.if_icmp .ge 43, 3) := by decide +kernel
theorem dX8_wear_30 : decode cX8_wear 30 = .ok (.aload_n 0, 1) := by decide +kernel
theorem dX8_wear_31 : decode cX8_wear 31 = .ok (.getfield 11, 3) := by decide +kernel
theorem dX8_wear_34 : decode cX8_wear 34 = .ok (.iload 4, 2) := by decide +kernel
theorem dX8_wear_36 : decode cX8_wear 36 = .ok (.aaload, 1) := by decide +kernel
theorem dX8_wear_37 : decode cX8_wear 37 = .ok (.getfield 24, 3) := by decide +kernel
theorem dX8_wear_40 : decode cX8_wear 40 = .ok (.getfield 110, 3) := by decide +kernel
theorem dX8_wear_43 : decode cX8_wear 43 = .ok (.aload_n 0, 1) := by decide +kernel
theorem dX8_wear_44 : decode cX8_wear 44 = .ok (.getfield 11, 3) := by decide +kernel
theorem dX8_wear_47 : decode cX8_wear 47 = .ok (.iload 4, 2) := by decide +kernel
theorem dX8_wear_49 : decode cX8_wear 49 = .ok (.iconst 1, 1) := by decide +kernel
theorem dX8_wear_50 : decode cX8_wear 50 = .ok (.isub, 1) := by decide +kernel
theorem dX8_wear_51 : decode cX8_wear 51 = .ok (.aaload, 1) := by decide +kernel
theorem dX8_wear_52 : decode cX8_wear 52 = .ok (.getfield 24, 3) := by decide +kernel
theorem dX8_wear_55 : decode cX8_wear 55 = .ok (.getfield 110, 3) := by decide +kernel
theorem dX8_wear_58 : decode cX8_wear 58 = .ok (.if_icmp .ge 6, 3) := by decide +kernel
theorem dX8_wear_61 : decode cX8_wear 61 = .ok (.iinc 3 1, 3) := by decide +kernel
theorem dX8_wear_64 : decode cX8_wear 64 = .ok (.iinc 4 1, 3) := by decide +kernel
theorem dX8_wear_67 : decode cX8_wear 67 = .ok (.goto (-46), 3) := by decide +kernel
theorem dX8_wear_70 : decode cX8_wear 70 = .ok (.aload_n 0, 1) := by decide +kernel
theorem dX8_wear_71 : decode cX8_wear 71 = .ok (.getfield 20, 3) := by decide +kernel
theorem dX8_wear_74 : decode cX8_wear 74 = .ok (.ifCond .le 10, 3) := by decide +kernel
theorem dX8_wear_77 : decode cX8_wear 77 = .ok (.aload_n 0, 1) := by decide +kernel
theorem dX8_wear_78 : decode cX8_wear 78 = .ok (.iload_n 3, 1) := by decide +kernel
theorem dX8_wear_79 : decode cX8_wear 79 = .ok (.iload_n 1, 1) := by decide +kernel
theorem dX8_wear_80 : decode cX8_wear 80 = .ok (.imul, 1) := by decide +kernel
theorem dX8_wear_81 : decode cX8_wear 81 = .ok (.invokevirtual 113, 3) := by decide +kernel
theorem dX8_wear_84 : decode cX8_wear 84 = .ok (.return_, 1) := by decide +kernel
set_option maxRecDepth 20000 in
theorem ggX8_turnYellow_X8_isTopmost : GoodIn wsX8_turnYellow wsX8_isTopmost := goodIn_r _ [10, 11, 12, 13, 14, 15, 16, 9, 17, 18, 24, 25, 26, 19, 20, 21, 22, 23, 27, 28, 29, 30, 31, 32, 33, 34, 35, 36, 37] (by decide +kernel) (by decide +kernel)
set_option maxRecDepth 20000 in
theorem gX8_turnYellow_X8_isTopmost : GoodIn wsX8_turnYellow (wsV RX8 117 RX8 yX8_isTopmost wsX8_isTopmost) := goodIn_app (goodIn_of _ (by decide +kernel)) ggX8_turnYellow_X8_isTopmost
set_option maxRecDepth 20000 in
theorem ggX8_turnYellow_X8_top : GoodIn wsX8_turnYellow wsX8_top := goodIn_r _ [17, 18, 11, 24, 25, 26] (by decide +kernel) (by decide +kernel)
set_option maxRecDepth 20000 in
theorem gX8_turnYellow_X8_top : GoodIn wsX8_turnYellow (wsV RX8 43 RX8 yX8_top wsX8_top) := goodIn_app (goodIn_of _ (by decide +kernel)) ggX8_turnYellow_X8_top
theorem dX8_turnYellow_0 : decode cX8_turnYellow 0 = .ok (.aload_n 0, 1) := by decide +kernel
theorem dX8_turnYellow_1 : decode cX8_turnYellow 1 = .ok (.bipush 118, 2) := by decide +kernel
theorem dX8_turnYellow_3 : decode cX8_turnYellow 3 = .ok (.invokevirtual 117, 3) := by decide +kernel
theorem dX8_turnYellow_6 : decode cX8_turnYellow 6 = .ok (.ifCond .eq 24, 3) := by decide +kernel
theorem dX8_turnYellow_9 : decode cX8_turnYellow 9 = .ok (.aload_n 0, 1) := by decide +kernel
theorem dX8_turnYellow_10 : decode cX8_turnYellow 10 = .ok (.invokevirtual 43, 3) := by decide +kernel
theorem dX8_turnYellow_13 : decode cX8_turnYellow 13 = .ok (.bipush 99, 2) := by decide +kernel
theorem dX8_turnYellow_15 : decode cX8_turnYellow 15 = .ok (.aload_n 0, 1) := by decide +kernel
theorem dX8_turnYellow_16 : decode cX8_turnYellow 16 = .ok (.invokevirtual 43, 3) := by decide +kernel
theorem dX8_turnYellow_19 : decode cX8_turnYellow 19 = .ok (.getfield 40, 3) := by decide +kernel
theorem dX8_turnYellow_22 : decode cX8_turnYellow 22 = .ok (.iload_n 1, 1) := by decide +kernel
theorem dX8_turnYellow_23 : decode cX8_turnYellow 23 = .ok (.iadd, 1) := by decide +kernel
theorem dX8_turnYellow_24 : decode cX8_turnYellow 24 = .ok (.invokestatic 83, 3) := by decide +kernel
theorem dX8_turnYellow_27 : decode cX8_turnYellow 27 = .ok (.putfield 40, 3) := by decide +kernel
theorem dX8_turnYellow_30 : decode cX8_turnYellow 30 = .ok (.return_, 1) := by decide +kernel
theorem dX8_takeOff_0 : decode cX8_takeOff 0 = .ok (.iload_n 1, 1) := by decide +kernel
theorem dX8_takeOff_1 : decode cX8_takeOff 1 = .ok (.istore_n 2, 1) := by decide +kernel
theorem dX8_takeOff_2 : decode cX8_takeOff 2 = .ok (.aload_n 0, 1) := by decide +kernel
theorem dX8_takeOff_3 : decode cX8_takeOff 3 = .ok (.getfield 20, 3) := by decide +kernel
theorem dX8_takeOff_6 : decode cX8_takeOff 6 = .ok (.iconst 1, 1) := by decide +kernel
theorem dX8_takeOff_7 : decode cX8_takeOff 7 = .ok (.isub, 1) := by decide +kernel
theorem dX8_takeOff_8 : decode cX8_takeOff 8 = .ok (.istore_n 3, 1) := by decide +kernel
theorem dX8_takeOff_9 : decode cX8_takeOff 9 = .ok (.iload_n 3, 1) := by decide +kernel
theorem dX8_takeOff_10 : decode cX8_takeOff 10 = .ok (.ifCond .lt 98, 3) := by decide +kernel
theorem dX8_takeOff_13 : decode cX8_takeOff 13 = .ok (.iload_n 2, 1) := by decide +kernel
theorem dX8_takeOff_14 : decode cX8_takeOff 14 = .ok (.ifCond .le 94, 3) := by decide +kernel
theorem dX8_takeOff_17 : decode cX8_takeOff 17 = .ok (.aload_n 0, 1) := by decide +kernel
theorem dX8_takeOff_18 : decode cX8_takeOff 18 = .ok (.getfield 11, 3) := by decide +kernel
theorem dX8_takeOff_21 : decode cX8_takeOff 21 = .ok (.iload_n 3, 1) := by decide +kernel
theorem dX8_takeOff_22 : decode cX8_takeOff 22 = .ok (.aaload, 1) := by decide +kernel
theorem dX8_takeOff_23 : decode cX8_takeOff 23 = .ok (.astore 4, 2) := by decide +kernel
theorem dX8_takeOff_25 : decode cX8_takeOff 25 = .ok (.aload 4, 2) := by decide +kernel
theorem dX8_takeOff_27 : decode cX8_takeOff 27 = .ok (.getfield 24, 3) := by decide +kernel
theorem dX8_takeOff_30 : decode cX8_takeOff 30 = .ok (.getfield 47, 3) := by decide +kernel
theorem dX8_takeOff_33 : decode cX8_takeOff 33 = .ok (.bipush 115, 2) := by decide +kernel
theorem dX8_takeOff_35 : decode cX8_takeOff 35 = .ok (.if_icmp .ne 24, 3) := by decide +kernel
theorem dX8_takeOff_38 : decode cX8_takeOff 38 = .ok (.aload 4, 2) := by decide +kernel
theorem dX8_takeOff_40 : decode cX8_takeOff 40 = .ok (.iconst 1, 1) := by decide +kernel
theorem dX8_takeOff_41 : decode cX8_takeOff 41 = .ok (.aload 4, 2) := by decide +kernel
theorem dX8_takeOff_43 : decode cX8_takeOff 43 = .ok (.getfield 28, 3) := by decide +kernel
theorem dX8_takeOff_46 : decode cX8_takeOff 46 = .ok (.iload_n 2, 1) := by decide +kernel
theorem dX8_takeOff_47 : decode cX8_takeOff 47 = .ok (.isub, 1) := by decide +kernel
theorem dX8_takeOff_48 : decode cX8_takeOff 48 = .ok (.invokestatic 121, 3) := by decide +kernel
theorem dX8_takeOff_51 : decode cX8_takeOff 51 = .ok (.putfield 28, 3) := by decide +kernel
theorem dX8_takeOff_54 : decode cX8_takeOff 54 = .ok (.iconst 0, 1) := by decide +kernel
theorem dX8_takeOff_55 : decode cX8_takeOff 55 = .ok (.istore_n 2, 1) := by decide +kernel
theorem dX8_takeOff_56 : decode cX8_takeOff 56 = .ok (.goto 46, 3) := by decide +kernel
theorem dX8_takeOff_59 : decode cX8_takeOff 59 = .ok (.aload 4, 2) := by decide +kernel
theorem dX8_takeOff_61 : decode cX8_takeOff 61 = .ok (.getfield 28, 3) := by decide +kernel
theorem dX8_takeOff_64 : decode cX8_takeOff 64 = .ok (.iload_n 2, 1) := by decide +kernel
theorem dX8_takeOff_65 : decode cX8_takeOff 65 = .ok (.if_icmp .le 19, 3) := by decide +kernel
theorem dX8_takeOff_68 : decode cX8_takeOff 68 = .ok (.aload 4, 2) := by decide +kernel
theorem dX8_takeOff_70 : decode cX8_takeOff 70 = .ok (.dup, 1) := by decide +kernel
theorem dX8_takeOff_71 : decode cX8_takeOff 71 = .ok (.getfield 28, 3) := by decide +kernel
theorem dX8_takeOff_74 : decode cX8_takeOff 74 = .ok (.iload_n 2, 1) := by decide +kernel
theorem dX8_takeOff_75 : decode cX8_takeOff 75 = .ok (.isub, 1) := by decide +kernel
theorem dX8_takeOff_76 : decode cX8_takeOff 76 = .ok (.putfield 28, 3) := by decide +kernel
theorem dX8_takeOff_79 : decode cX8_takeOff 79 = .ok (.iconst 0, 1) := by decide +kernel
theorem dX8_takeOff_80 : decode cX8_takeOff 80 = .ok (.istore_n 2, 1) := by decide +kernel
theorem dX8_takeOff_81 : decode cX8_takeOff 81 = .ok (.goto 21, 3) := by decide +kernel
theorem dX8_takeOff_84 : decode cX8_takeOff 84 = .ok (.iload_n 2, 1) := by decide +kernel
theorem dX8_takeOff_85 : decode cX8_takeOff 85 = .ok (.aload 4, 2) := by decide +kernel
theorem dX8_takeOff_87 : decode cX8_takeOff 87 = .ok (.getfield 28, 3) := by decide +kernel
theorem dX8_takeOff_90 : decode cX8_takeOff 90 = .ok (.isub, 1) := by decide +kernel
theorem dX8_takeOff_91 : decode cX8_takeOff 91 = .ok (.istore_n 2, 1) := by decide +kernel
theorem dX8_takeOff_92 : decode cX8_takeOff 92 = .ok (.aload_n 0, 1) := by decide +kernel
theorem dX8_takeOff_93 : decode cX8_takeOff 93 = .ok (.dup, 1) := by decide +kernel
theorem dX8_takeOff_94 : decode cX8_takeOff 94 = .ok (.getfield 20, 3) := by decide +kernel
theorem dX8_takeOff_97 : decode cX8_takeOff 97 = .ok (.iconst 1, 1) := by decide +kernel
theorem dX8_takeOff_98 : decode cX8_takeOff 98 = .ok (.isub, 1) := by decide +kernel
theorem dX8_takeOff_99 : decode cX8_takeOff 99 = .ok (.putfield 20, 3) := by decide +kernel
theorem dX8_takeOff_102 : decode cX8_takeOff 102 = .ok (.iinc 3 (-1), 3) := by decide +kernel
theorem dX8_takeOff_105 : decode cX8_takeOff 105 = .ok (.goto (-96), 3) := by decide +kernel
theorem dX8_takeOff_108 : decode cX8_takeOff 108 = .ok (.return_, 1) := by decide +kernel
set_option maxRecDepth 20000 in
theorem ggX8_soluble_X9_isTakenBy : GoodIn wsX8_soluble wsX9_isTakenBy := goodIn_r _ [13, 14, 15, 16, 17, 18, 19, 20, 21, 22, 23, 24, 25, 26, 27, 28, 29, 30, 31, 32, 33, 34, 35, 36, 37, 38, 39, 40, 41, 42, 43, 44, 45, 7, 46, 47, 6, 8, 48, 49, 50, 51, 52, 53, 54, 55, 56, 57, 58, 59, 60, 61, 62, 63, 64, 65, 66, 67, 68, 69, 70, 71, 72, 73, 74, 75, 76, 77, 78, 79, 80, 81, 82, 83, 84, 85, 86, 87, 88, 89, 90, 91, 92, 93, 94, 95, 96, 97, 98, 99, 100, 101, 110, 111, 112, 113, 114, 115, 116, 117, 118, 119, 120, 121, 122, 123, 124] (by decide +kernel) (by decide +kernel)
set_option maxRecDepth 20000 in
theorem gX8_soluble_X9_isTakenBy : GoodIn wsX8_soluble (wsV RX8 124 RX9 yX9_isTakenBy wsX9_isTakenBy) := goodIn_app (goodIn_of _ (by decide +kernel)) ggX8_soluble_X9_isTakenBy
theorem dX8_soluble_0 : decode cX8_soluble 0 = .ok (.iconst 0, 1) := by decide +kernel
theorem dX8_soluble_1 : decode cX8_soluble 1 = .ok (.istore_n 3, 1) := by decide +kernel
theorem dX8_soluble_2 : decode cX8_soluble 2 = .ok (.aload_n 0, 1) := by decide +kernel
theorem dX8_soluble_3 : decode cX8_soluble 3 = .ok (.getfield 20, 3) := by decide +kernel
theorem dX8_soluble_6 : decode cX8_soluble 6 = .ok (.iconst 1, 1) := by decide +kernel
theorem dX8_soluble_7 : decode cX8_soluble 7 = .ok (.isub, 1) := by decide +kernel
theorem dX8_soluble_8 : decode cX8_soluble 8 = .ok (.istore 4, 2) := by decide +kernel
theorem dX8_soluble_10 : decode cX8_soluble 10 = .ok (.iload 4, 2) := by decide +kernel
theorem dX8_soluble_12 : decode cX8_soluble 12 = .ok (.ifCond .lt 50, 3) := by decide +kernel
theorem dX8_soluble_15 : decode cX8_soluble 15 = .ok (.iload_n 3, 1) := by decide +kernel
theorem dX8_soluble_16 : decode cX8_soluble 16 = .ok (.iload_n 2, 1) := by decide +kernel
theorem dX8_soluble_17 : decode cX8_soluble 17 = .ok (.if_icmp .ge 45, 3) := by decide +kernel
theorem dX8_soluble_20 : decode cX8_soluble 20 = .ok (.aload_n 0, 1) := by decide +kernel
theorem dX8_soluble_21 : decode cX8_soluble 21 = .ok (.getfield 11, 3) := by decide +kernel
theorem dX8_soluble_24 : decode cX8_soluble 24 = .ok (.iload 4, 2) := by decide +kernel
theorem dX8_soluble_26 : decode cX8_soluble 26 = .ok (.aaload, 1) := by decide +kernel
theorem dX8_soluble_27 : decode cX8_soluble 27 = .ok (.getfield 24, 3) := by decide +kernel
theorem dX8_soluble_30 : decode cX8_soluble 30 = .ok (.iload_n 1, 1) := by decide +kernel
theorem dX8_soluble_31 : decode cX8_soluble 31 = .ok (.invokevirtual 124, 3) := by decide +kernel
theorem dX8_soluble_34 : decode cX8_soluble 34 = .ok (.ifCond .ne 5, 3) := by decide +kernel
theorem dX8_soluble_37 : decode cX8_soluble 37 = .ok (.iload_n 3, 1) := by decide +kernel
theorem dX8_soluble_38 : decode cX8_soluble 38 = .ok (.ireturn, 1) := by decide +kernel
theorem dX8_soluble_39 : decode cX8_soluble 39 = .ok (.iload_n 2, 1) := by decide +kernel
theorem dX8_soluble_40 : decode cX8_soluble 40 = .ok (.iload_n 3, 1) := by decide +kernel
theorem dX8_soluble_41 : decode cX8_soluble 41 = .ok (.aload_n 0, 1) := by decide +kernel
theorem dX8_soluble_42 : decode cX8_soluble 42 = .ok (.getfield 11, 3) := by decide +kernel
theorem dX8_soluble_45 : decode cX8_soluble 45 = .ok (.iload 4, 2) := by decide +kernel
theorem dX8_soluble_47 : decode cX8_soluble 47 = .ok (.aaload, 1) := by decide +kernel
theorem dX8_soluble_48 : decode cX8_soluble 48 = .ok (.getfield 28, 3) := by decide +kernel
theorem dX8_soluble_51 : decode cX8_soluble 51 = .ok (.iadd, 1) := by decide +kernel
theorem dX8_soluble_52 : decode cX8_soluble 52 = .ok (.invokestatic 83, 3) := by decide +kernel
theorem dX8_soluble_55 : decode cX8_soluble 55 = .ok (.istore_n 3, 1) := by decide +kernel
theorem dX8_soluble_56 : decode cX8_soluble 56 = .ok (.iinc 4 (-1), 3) := by decide +kernel
theorem dX8_soluble_59 : decode cX8_soluble 59 = .ok (.goto (-49), 3) := by decide +kernel
theorem dX8_soluble_62 : decode cX8_soluble 62 = .ok (.iload_n 3, 1) := by decide +kernel
theorem dX8_soluble_63 : decode cX8_soluble 63 = .ok (.ireturn, 1) := by decide +kernel
theorem dX8_hasGlazeDownTo_0 : decode cX8_hasGlazeDownTo 0 = .ok (.iconst 0, 1) := by decide +kernel
theorem dX8_hasGlazeDownTo_1 : decode cX8_hasGlazeDownTo 1 = .ok (.istore_n 2, 1) := by decide +kernel
theorem dX8_hasGlazeDownTo_2 : decode cX8_hasGlazeDownTo 2 = .ok (.aload_n 0, 1) := by decide +kernel
theorem dX8_hasGlazeDownTo_3 : decode cX8_hasGlazeDownTo 3 = .ok (.getfield 20, 3) := by decide +kernel
theorem dX8_hasGlazeDownTo_6 : decode cX8_hasGlazeDownTo 6 = .ok (.iconst 1, 1) := by decide +kernel
theorem dX8_hasGlazeDownTo_7 : decode cX8_hasGlazeDownTo 7 = .ok (.isub, 1) := by decide +kernel
theorem dX8_hasGlazeDownTo_8 : decode cX8_hasGlazeDownTo 8 = .ok (.istore_n 3, 1) := by decide +kernel
theorem dX8_hasGlazeDownTo_9 : decode cX8_hasGlazeDownTo 9 = .ok (.iload_n 3, 1) := by decide +kernel
theorem dX8_hasGlazeDownTo_10 : decode cX8_hasGlazeDownTo 10 = .ok (.ifCond .lt 45, 3) := by decide +kernel
theorem dX8_hasGlazeDownTo_13 : decode cX8_hasGlazeDownTo 13 = .ok (.iload_n 2, 1) := by decide +kernel
theorem dX8_hasGlazeDownTo_14 : decode cX8_hasGlazeDownTo 14 = .ok (.iload_n 1, 1) := by decide +kernel
theorem dX8_hasGlazeDownTo_15 : decode cX8_hasGlazeDownTo 15 = .ok (.if_icmp .ge 40, 3) := by decide +kernel
theorem dX8_hasGlazeDownTo_18 : decode cX8_hasGlazeDownTo 18 = .ok (.aload_n 0, 1) := by decide +kernel
theorem dX8_hasGlazeDownTo_19 : decode cX8_hasGlazeDownTo 19 = .ok (.getfield 11, 3) := by decide +kernel
theorem dX8_hasGlazeDownTo_22 : decode cX8_hasGlazeDownTo 22 = .ok (.iload_n 3, 1) := by decide +kernel
theorem dX8_hasGlazeDownTo_23 : decode cX8_hasGlazeDownTo 23 = .ok (.aaload, 1) := by decide +kernel
theorem dX8_hasGlazeDownTo_24 : decode cX8_hasGlazeDownTo 24 = .ok (.getfield 24, 3) := by decide +kernel
theorem dX8_hasGlazeDownTo_27 : decode cX8_hasGlazeDownTo 27 = .ok (.getfield 47, 3) := by decide +kernel
theorem dX8_hasGlazeDownTo_30 : decode cX8_hasGlazeDownTo 30 = .ok (.bipush 122, 2) := by decide +kernel
theorem dX8_hasGlazeDownTo_32 : decode cX8_hasGlazeDownTo 32 = .ok (.if_icmp .ne 5, 3) := by decide +kernel
theorem dX8_hasGlazeDownTo_35 : decode cX8_hasGlazeDownTo 35 = .ok (.iconst 1, 1) := by decide +kernel
theorem dX8_hasGlazeDownTo_36 : decode cX8_hasGlazeDownTo 36 = .ok (.ireturn, 1) := by decide +kernel
theorem dX8_hasGlazeDownTo_37 : decode cX8_hasGlazeDownTo 37 = .ok (.iload_n 2, 1) := by decide +kernel
theorem dX8_hasGlazeDownTo_38 : decode cX8_hasGlazeDownTo 38 = .ok (.aload_n 0, 1) := by decide +kernel
theorem dX8_hasGlazeDownTo_39 : decode cX8_hasGlazeDownTo 39 = .ok (.getfield 11, 3) := by decide +kernel
theorem dX8_hasGlazeDownTo_42 : decode cX8_hasGlazeDownTo 42 = .ok (.iload_n 3, 1) := by decide +kernel
theorem dX8_hasGlazeDownTo_43 : decode cX8_hasGlazeDownTo 43 = .ok (.aaload, 1) := by decide +kernel
theorem dX8_hasGlazeDownTo_44 : decode cX8_hasGlazeDownTo 44 = .ok (.getfield 28, 3) := by decide +kernel
theorem dX8_hasGlazeDownTo_47 : decode cX8_hasGlazeDownTo 47 = .ok (.iadd, 1) := by decide +kernel
theorem dX8_hasGlazeDownTo_48 : decode cX8_hasGlazeDownTo 48 = .ok (.istore_n 2, 1) := by decide +kernel
theorem dX8_hasGlazeDownTo_49 : decode cX8_hasGlazeDownTo 49 = .ok (.iinc 3 (-1), 3) := by decide +kernel
theorem dX8_hasGlazeDownTo_52 : decode cX8_hasGlazeDownTo 52 = .ok (.goto (-43), 3) := by decide +kernel
theorem dX8_hasGlazeDownTo_55 : decode cX8_hasGlazeDownTo 55 = .ok (.iconst 0, 1) := by decide +kernel
theorem dX8_hasGlazeDownTo_56 : decode cX8_hasGlazeDownTo 56 = .ok (.ireturn, 1) := by decide +kernel
set_option maxRecDepth 20000 in
theorem ggX8_losesTopAlone_X8_top : GoodIn wsX8_losesTopAlone wsX8_top := goodIn_r _ [7, 8, 1, 113, 114, 115] (by decide +kernel) (by decide +kernel)
set_option maxRecDepth 20000 in
theorem gX8_losesTopAlone_X8_top : GoodIn wsX8_losesTopAlone (wsV RX8 43 RX8 yX8_top wsX8_top) := goodIn_app (goodIn_of _ (by decide +kernel)) ggX8_losesTopAlone_X8_top
set_option maxRecDepth 20000 in
theorem ggX8_losesTopAlone_X9_isTakenBy : GoodIn wsX8_losesTopAlone wsX9_isTakenBy := goodIn_r _ [13, 14, 15, 16, 17, 18, 19, 20, 21, 22, 23, 24, 25, 26, 27, 28, 29, 30, 31, 32, 33, 34, 35, 36, 37, 38, 39, 40, 41, 42, 43, 44, 45, 46, 47, 48, 49, 50, 51, 52, 53, 54, 55, 56, 57, 58, 59, 60, 61, 62, 63, 64, 65, 66, 67, 68, 69, 70, 71, 72, 73, 74, 75, 76, 77, 78, 79, 80, 81, 82, 83, 84, 85, 86, 87, 88, 89, 90, 91, 92, 93, 94, 95, 96, 97, 98, 99, 100, 101, 102, 103, 104, 121, 122, 123, 124, 125, 126, 127, 128, 129, 130, 131, 132, 133, 134, 135] (by decide +kernel) (by decide +kernel)
set_option maxRecDepth 20000 in
theorem gX8_losesTopAlone_X9_isTakenBy : GoodIn wsX8_losesTopAlone (wsV RX8 124 RX9 yX9_isTakenBy wsX9_isTakenBy) := goodIn_app (goodIn_of _ (by decide +kernel)) ggX8_losesTopAlone_X9_isTakenBy
set_option maxRecDepth 20000 in
theorem ggX8_losesTopAlone_X8_belowTop : GoodIn wsX8_losesTopAlone wsX8_belowTop := goodIn_r _ [108, 8, 1, 113, 114, 115] (by decide +kernel) (by decide +kernel)
set_option maxRecDepth 20000 in
theorem gX8_losesTopAlone_X8_belowTop : GoodIn wsX8_losesTopAlone (wsV RX8 128 RX8 yX8_belowTop wsX8_belowTop) := goodIn_app (goodIn_of _ (by decide +kernel)) ggX8_losesTopAlone_X8_belowTop
set_option maxRecDepth 20000 in
theorem ggX8_losesTopAlone_X9_swellsBy : GoodIn wsX8_losesTopAlone wsX9_swellsBy := goodIn_r _ [112, 14, 15, 121, 122, 123, 124, 125, 126, 127, 128, 129, 130, 131] (by decide +kernel) (by decide +kernel)
set_option maxRecDepth 20000 in
theorem gX8_losesTopAlone_X9_swellsBy : GoodIn wsX8_losesTopAlone (wsV RX8 131 RX9 yX9_swellsBy wsX9_swellsBy) := goodIn_app (goodIn_of _ (by decide +kernel)) ggX8_losesTopAlone_X9_swellsBy
theorem dX8_losesTopAlone_0 : decode cX8_losesTopAlone 0 = .ok (.aload_n 0, 1) := by decide +kernel
theorem dX8_losesTopAlone_1 : decode cX8_losesTopAlone 1 = .ok (.getfield 20, 3) := by decide +kernel
theorem dX8_losesTopAlone_4 : decode cX8_losesTopAlone 4 = .ok (.ifCond .eq 17, 3) := by decide +kernel
theorem dX8_losesTopAlone_7 : decode cX8_losesTopAlone 7 = .ok (.aload_n 0, 1) := by decide +kernel
theorem dX8_losesTopAlone_8 : decode cX8_losesTopAlone 8 = .ok (.invokevirtual 43, 3) := by decide +kernel
theorem dX8_losesTopAlone_11 : decode cX8_losesTopAlone 11 = .ok (.getfield 24, 3) := by decide +kernel
theorem dX8_losesTopAlone_14 : decode cX8_losesTopAlone 14 = .ok (.iload_n 1, 1) := by decide +kernel
theorem dX8_losesTopAlone_15 : decode cX8_losesTopAlone 15 = .ok (.invokevirtual 124, 3) := by decide +kernel
theorem dX8_losesTopAlone_18 : decode cX8_losesTopAlone 18 = .ok (.ifCond .ne 5, 3) := by decide +kernel
theorem dX8_losesTopAlone_21 : decode cX8_losesTopAlone 21 = .ok (.iconst 0, 1) := by decide +kernel
theorem dX8_losesTopAlone_22 : decode cX8_losesTopAlone 22 = .ok (.ireturn, 1) := by decide +kernel
theorem dX8_losesTopAlone_23 : decode cX8_losesTopAlone 23 = .ok (.aload_n 0, 1) := by decide +kernel
theorem dX8_losesTopAlone_24 : decode cX8_losesTopAlone 24 = .ok (.invokevirtual 128, 3) := by decide +kernel
theorem dX8_losesTopAlone_27 : decode cX8_losesTopAlone 27 = .ok (.getfield 24, 3) := by decide +kernel
theorem dX8_losesTopAlone_30 : decode cX8_losesTopAlone 30 = .ok (.astore_n 2, 1) := by decide +kernel
theorem dX8_losesTopAlone_31 : decode cX8_losesTopAlone 31 = .ok (.aload_n 0, 1) := by decide +kernel
theorem dX8_losesTopAlone_32 : decode cX8_losesTopAlone 32 = .ok (.getfield 20, 3) := by decide +kernel
theorem dX8_losesTopAlone_35 : decode cX8_losesTopAlone 35 = .ok (.iconst 2, 1) := by decide +kernel
theorem dX8_losesTopAlone_36 : decode cX8_losesTopAlone 36 = .ok (.if_icmp .lt 19, 3) := by decide +kernel
theorem dX8_losesTopAlone_39 : decode cX8_losesTopAlone 39 = .ok (.aload_n 2, 1) := by decide +kernel
theorem dX8_losesTopAlone_40 : decode cX8_losesTopAlone 40 = .ok (.iload_n 1, 1) := by decide +kernel
theorem dX8_losesTopAlone_41 : decode cX8_losesTopAlone 41 = .ok (.invokevirtual 124, 3) := by decide +kernel
theorem dX8_losesTopAlone_44 : decode cX8_losesTopAlone 44 = .ok (.ifCond .ne 15, 3) := by decide +kernel
theorem dX8_losesTopAlone_47 : decode cX8_losesTopAlone 47 = .ok (.aload_n 2, 1) := by decide +kernel
theorem dX8_losesTopAlone_48 : decode cX8_losesTopAlone 48 = .ok (.iload_n 1, 1) := by decide +kernel
theorem dX8_losesTopAlone_49 : decode cX8_losesTopAlone 49 = .ok (.invokevirtual 131, 3) := by decide +kernel
theorem dX8_losesTopAlone_52 : decode cX8_losesTopAlone 52 = .ok (.ifCond .ne 7, 3) := by decide +kernel
theorem dX8_losesTopAlone_55 : decode cX8_losesTopAlone 55 = .ok (.iconst 1, 1) := by decide +kernel
theorem dX8_losesTopAlone_56 : decode cX8_losesTopAlone 56 = .ok (.goto 4, 3) := by decide +kernel
theorem dX8_losesTopAlone_59 : decode cX8_losesTopAlone 59 = .ok (.iconst 0, 1) := by decide +kernel
theorem dX8_losesTopAlone_60 : decode cX8_losesTopAlone 60 = .ok (.ireturn, 1) := by decide +kernel
set_option maxRecDepth 20000 in
theorem ggX8_bear_X8_tire : GoodIn wsX8_bear wsX8_tire := goodIn_r _ [11, 1, 12, 13, 4, 14, 26, 27, 28] (by decide +kernel) (by decide +kernel)
set_option maxRecDepth 20000 in
theorem gX8_bear_X8_tire : GoodIn wsX8_bear (wsV RX8 113 RX8 yX8_tire wsX8_tire) := goodIn_app (goodIn_of _ (by decide +kernel)) ggX8_bear_X8_tire
set_option maxRecDepth 20000 in
theorem ggX8_bear_X8_isTopmost : GoodIn wsX8_bear wsX8_isTopmost := goodIn_r _ [18, 6, 19, 20, 21, 22, 23, 10, 24, 25, 26, 27, 28, 29, 30, 31, 32, 33, 34, 35, 36, 37, 38, 39, 40, 41, 42, 43, 44] (by decide +kernel) (by decide +kernel)
set_option maxRecDepth 20000 in
theorem gX8_bear_X8_isTopmost : GoodIn wsX8_bear (wsV RX8 117 RX8 yX8_isTopmost wsX8_isTopmost) := goodIn_app (goodIn_of _ (by decide +kernel)) ggX8_bear_X8_isTopmost
theorem dX8_bear_0 : decode cX8_bear 0 = .ok (.iload_n 1, 1) := by decide +kernel
theorem dX8_bear_1 : decode cX8_bear 1 = .ok (.aload_n 0, 1) := by decide +kernel
theorem dX8_bear_2 : decode cX8_bear 2 = .ok (.getfield 89, 3) := by decide +kernel
theorem dX8_bear_5 : decode cX8_bear 5 = .ok (.imul, 1) := by decide +kernel
theorem dX8_bear_6 : decode cX8_bear 6 = .ok (.bipush 20, 2) := by decide +kernel
theorem dX8_bear_8 : decode cX8_bear 8 = .ok (.idiv, 1) := by decide +kernel
theorem dX8_bear_9 : decode cX8_bear 9 = .ok (.iload_n 2, 1) := by decide +kernel
theorem dX8_bear_10 : decode cX8_bear 10 = .ok (.bipush 50, 2) := by decide +kernel
theorem dX8_bear_12 : decode cX8_bear 12 = .ok (.isub, 1) := by decide +kernel
theorem dX8_bear_13 : decode cX8_bear 13 = .ok (.invokestatic 106, 3) := by decide +kernel
theorem dX8_bear_16 : decode cX8_bear 16 = .ok (.bipush 10, 2) := by decide +kernel
theorem dX8_bear_18 : decode cX8_bear 18 = .ok (.idiv, 1) := by decide +kernel
theorem dX8_bear_19 : decode cX8_bear 19 = .ok (.iadd, 1) := by decide +kernel
theorem dX8_bear_20 : decode cX8_bear 20 = .ok (.istore_n 3, 1) := by decide +kernel
theorem dX8_bear_21 : decode cX8_bear 21 = .ok (.iload_n 3, 1) := by decide +kernel
theorem dX8_bear_22 : decode cX8_bear 22 = .ok (.bipush 10, 2) := by decide +kernel
theorem dX8_bear_24 : decode cX8_bear 24 = .ok (.if_icmp .ge 10, 3) := by decide +kernel
theorem dX8_bear_27 : decode cX8_bear 27 = .ok (.aload_n 0, 1) := by decide +kernel
theorem dX8_bear_28 : decode cX8_bear 28 = .ok (.iconst 1, 1) := by decide +kernel
theorem dX8_bear_29 : decode cX8_bear 29 = .ok (.invokevirtual 113, 3) := by decide +kernel
theorem dX8_bear_32 : decode cX8_bear 32 = .ok (.iconst 0, 1) := by decide +kernel
theorem dX8_bear_33 : decode cX8_bear 33 = .ok (.ireturn, 1) := by decide +kernel
theorem dX8_bear_34 : decode cX8_bear 34 = .ok (.aload_n 0, 1) := by decide +kernel
theorem dX8_bear_35 : decode cX8_bear 35 = .ok (.aload_n 0, 1) := by decide +kernel
theorem dX8_bear_36 : decode cX8_bear 36 = .ok (.getfield 89, 3) := by decide +kernel
theorem dX8_bear_39 : decode cX8_bear 39 = .ok (.iconst 2, 1) := by decide +kernel
theorem dX8_bear_40 : decode cX8_bear 40 = .ok (.idiv, 1) := by decide +kernel
theorem dX8_bear_41 : decode cX8_bear 41 = .ok (.putfield 89, 3) := by decide +kernel
theorem dX8_bear_44 : decode cX8_bear 44 = .ok (.aload_n 0, 1) := by decide +kernel
theorem dX8_bear_45 : decode cX8_bear 45 = .ok (.getfield 20, 3) := by decide +kernel
theorem dX8_bear_48 : decode cX8_bear 48 = .ok (.ifCond .eq 12, 3) := by decide +kernel
theorem dX8_bear_51 : decode cX8_bear 51 = .ok (.aload_n 0, 1) := by decide +kernel
theorem dX8_bear_52 : decode cX8_bear 52 = .ok (.bipush 115, 2) := by decide +kernel
theorem dX8_bear_54 : decode cX8_bear 54 = .ok (.invokevirtual 117, 3) := by decide +kernel
theorem dX8_bear_57 : decode cX8_bear 57 = .ok (.ifCond .eq 5, 3) := by decide +kernel
theorem dX8_bear_60 : decode cX8_bear 60 = .ok (.iconst 0, 1) := by decide +kernel
theorem dX8_bear_61 : decode cX8_bear 61 = .ok (.ireturn, 1) := by decide +kernel
theorem dX8_bear_62 : decode cX8_bear 62 = .ok (.aload_n 0, 1) := by decide +kernel
theorem dX8_bear_63 : decode cX8_bear 63 = .ok (.dup, 1) := by decide +kernel
theorem dX8_bear_64 : decode cX8_bear 64 = .ok (.getfield 20, 3) := by decide +kernel
theorem dX8_bear_67 : decode cX8_bear 67 = .ok (.iconst 1, 1) := by decide +kernel
theorem dX8_bear_68 : decode cX8_bear 68 = .ok (.isub, 1) := by decide +kernel
theorem dX8_bear_69 : decode cX8_bear 69 = .ok (.putfield 20, 3) := by decide +kernel
theorem dX8_bear_72 : decode cX8_bear 72 = .ok (.iconst 1, 1) := by decide +kernel
theorem dX8_bear_73 : decode cX8_bear 73 = .ok (.ireturn, 1) := by decide +kernel
theorem dX8_hasOriginal_0 : decode cX8_hasOriginal 0 = .ok (.iconst 0, 1) := by decide +kernel
theorem dX8_hasOriginal_1 : decode cX8_hasOriginal 1 = .ok (.istore_n 3, 1) := by decide +kernel
theorem dX8_hasOriginal_2 : decode cX8_hasOriginal 2 = .ok (.iload_n 3, 1) := by decide +kernel
theorem dX8_hasOriginal_3 : decode cX8_hasOriginal 3 = .ok (.aload_n 0, 1) := by decide +kernel
theorem dX8_hasOriginal_4 : decode cX8_hasOriginal 4 = .ok (.getfield 20, 3) := by decide +kernel
theorem dX8_hasOriginal_7 : decode cX8_hasOriginal 7 = .ok (.if_icmp .ge 43, 3) := by decide +kernel
theorem dX8_hasOriginal_10 : decode cX8_hasOriginal 10 = .ok (.aload_n 0, 1) := by decide +kernel
theorem dX8_hasOriginal_11 : decode cX8_hasOriginal 11 = .ok (.getfield 11, 3) := by decide +kernel
theorem dX8_hasOriginal_14 : decode cX8_hasOriginal 14 = .ok (.iload_n 3, 1) := by decide +kernel
theorem dX8_hasOriginal_15 : decode cX8_hasOriginal 15 = .ok (.aaload, 1) := by decide +kernel
theorem dX8_hasOriginal_16 : decode cX8_hasOriginal 16 = .ok (.getfield 24, 3) := by decide +kernel
theorem dX8_hasOriginal_19 : decode cX8_hasOriginal 19 = .ok (.getfield 77, 3) := by decide +kernel
theorem dX8_hasOriginal_22 : decode cX8_hasOriginal 22 = .ok (.aload_n 1, 1) := by decide +kernel
theorem dX8_hasOriginal_23 : decode cX8_hasOriginal 23 = .ok (.getfield 77, 3) := by decide +kernel
theorem dX8_hasOriginal_26 : decode cX8_hasOriginal 26 = .ok (.if_icmp .ne 18, 3) := by decide +kernel
theorem dX8_hasOriginal_29 : decode cX8_hasOriginal 29 = .ok (.aload_n 0, 1) := by decide +kernel
theorem dX8_hasOriginal_30 : decode cX8_hasOriginal 30 = .ok (.getfield 11, 3) := by decide +kernel
theorem dX8_hasOriginal_33 : decode cX8_hasOriginal 33 = .ok (.iload_n 3, 1) := by decide +kernel
theorem dX8_hasOriginal_34 : decode cX8_hasOriginal 34 = .ok (.aaload, 1) := by decide +kernel
theorem dX8_hasOriginal_35 : decode cX8_hasOriginal 35 = .ok (.getfield 31, 3) := by decide +kernel
theorem dX8_hasOriginal_38 : decode cX8_hasOriginal 38 = .ok (.iload_n 2, 1) := by decide +kernel
theorem dX8_hasOriginal_39 : decode cX8_hasOriginal 39 = .ok (.if_icmp .gt 5, 3) := by decide +kernel
theorem dX8_hasOriginal_42 : decode cX8_hasOriginal 42 = .ok (.iconst 1, 1) := by decide +kernel
theorem dX8_hasOriginal_43 : decode cX8_hasOriginal 43 = .ok (.ireturn, 1) := by decide +kernel
theorem dX8_hasOriginal_44 : decode cX8_hasOriginal 44 = .ok (.iinc 3 1, 3) := by decide +kernel
theorem dX8_hasOriginal_47 : decode cX8_hasOriginal 47 = .ok (.goto (-45), 3) := by decide +kernel
theorem dX8_hasOriginal_50 : decode cX8_hasOriginal 50 = .ok (.iconst 0, 1) := by decide +kernel
theorem dX8_hasOriginal_51 : decode cX8_hasOriginal 51 = .ok (.ireturn, 1) := by decide +kernel
set_option maxRecDepth 20000 in
theorem ggX8_copyFrom_X2_copyFrom : GoodIn wsX8_copyFrom wsX2_copyFrom := goodIn_r _ [8, 9, 10, 11, 12, 13, 17, 18, 19, 20, 21] (by decide +kernel) (by decide +kernel)
set_option maxRecDepth 20000 in
theorem gX8_copyFrom_X2_copyFrom : GoodIn wsX8_copyFrom (wsV RX8 134 RX2 yX2_copyFrom wsX2_copyFrom) := goodIn_app (goodIn_of _ (by decide +kernel)) ggX8_copyFrom_X2_copyFrom
theorem dX8_copyFrom_0 : decode cX8_copyFrom 0 = .ok (.aload_n 0, 1) := by decide +kernel
theorem dX8_copyFrom_1 : decode cX8_copyFrom 1 = .ok (.aload_n 1, 1) := by decide +kernel
theorem dX8_copyFrom_2 : decode cX8_copyFrom 2 = .ok (.getfield 20, 3) := by decide +kernel
theorem dX8_copyFrom_5 : decode cX8_copyFrom 5 = .ok (.putfield 20, 3) := by decide +kernel
theorem dX8_copyFrom_8 : decode cX8_copyFrom 8 = .ok (.aload_n 0, 1) := by decide +kernel
theorem dX8_copyFrom_9 : decode cX8_copyFrom 9 = .ok (.aload_n 1, 1) := by decide +kernel
theorem dX8_copyFrom_10 : decode cX8_copyFrom 10 = .ok (.getfield 89, 3) := by decide +kernel
theorem dX8_copyFrom_13 : decode cX8_copyFrom 13 = .ok (.putfield 89, 3) := by decide +kernel
theorem dX8_copyFrom_16 : decode cX8_copyFrom 16 = .ok (.iconst 0, 1) := by decide +kernel
theorem dX8_copyFrom_17 : decode cX8_copyFrom 17 = .ok (.istore_n 2, 1) := by decide +kernel
theorem dX8_copyFrom_18 : decode cX8_copyFrom 18 = .ok (.iload_n 2, 1) := by decide +kernel
theorem dX8_copyFrom_19 : decode cX8_copyFrom 19 = .ok (.aload_n 0, 1) := by decide +kernel
theorem dX8_copyFrom_20 : decode cX8_copyFrom 20 = .ok (.getfield 20, 3) := by decide +kernel
theorem dX8_copyFrom_23 : decode cX8_copyFrom 23 = .ok (.if_icmp .ge 24, 3) := by decide +kernel
theorem dX8_copyFrom_26 : decode cX8_copyFrom 26 = .ok (.aload_n 0, 1) := by decide +kernel
theorem dX8_copyFrom_27 : decode cX8_copyFrom 27 = .ok (.getfield 11, 3) := by decide +kernel
theorem dX8_copyFrom_30 : decode cX8_copyFrom 30 = .ok (.iload_n 2, 1) := by decide +kernel
theorem dX8_copyFrom_31 : decode cX8_copyFrom 31 = .ok (.aaload, 1) := by decide +kernel
theorem dX8_copyFrom_32 : decode cX8_copyFrom 32 = .ok (.aload_n 1, 1) := by decide +kernel
theorem dX8_copyFrom_33 : decode cX8_copyFrom 33 = .ok (.getfield 11, 3) := by decide +kernel
theorem dX8_copyFrom_36 : decode cX8_copyFrom 36 = .ok (.iload_n 2, 1) := by decide +kernel
theorem dX8_copyFrom_37 : decode cX8_copyFrom 37 = .ok (.aaload, 1) := by decide +kernel
theorem dX8_copyFrom_38 : decode cX8_copyFrom 38 = .ok (.invokevirtual 134, 3) := by decide +kernel
theorem dX8_copyFrom_41 : decode cX8_copyFrom 41 = .ok (.iinc 2 1, 3) := by decide +kernel
theorem dX8_copyFrom_44 : decode cX8_copyFrom 44 = .ok (.goto (-26), 3) := by decide +kernel
theorem dX8_copyFrom_47 : decode cX8_copyFrom 47 = .ok (.return_, 1) := by decide +kernel
set_option maxRecDepth 20000 in
theorem ggX8_isSameAs_X2_isSameAs : GoodIn wsX8_isSameAs wsX2_isSameAs := goodIn_r _ [8, 9, 10, 11, 12, 13, 14, 18, 19, 20, 21, 22, 23, 24, 25, 26, 27, 28, 29, 30, 31, 32, 33] (by decide +kernel) (by decide +kernel)
set_option maxRecDepth 20000 in
theorem gX8_isSameAs_X2_isSameAs : GoodIn wsX8_isSameAs (wsV RX8 138 RX2 yX2_isSameAs wsX2_isSameAs) := goodIn_app (goodIn_of _ (by decide +kernel)) ggX8_isSameAs_X2_isSameAs
theorem dX8_isSameAs_0 : decode cX8_isSameAs 0 = .ok (.aload_n 0, 1) := by decide +kernel
theorem dX8_isSameAs_1 : decode cX8_isSameAs 1 = .ok (.getfield 20, 3) := by decide +kernel
theorem dX8_isSameAs_4 : decode cX8_isSameAs 4 = .ok (.aload_n 1, 1) := by decide +kernel
theorem dX8_isSameAs_5 : decode cX8_isSameAs 5 = .ok (.getfield 20, 3) := by decide +kernel
theorem dX8_isSameAs_8 : decode cX8_isSameAs 8 = .ok (.if_icmp .ne 14, 3) := by decide +kernel
theorem dX8_isSameAs_11 : decode cX8_isSameAs 11 = .ok (.aload_n 0, 1) := by decide +kernel
theorem dX8_isSameAs_12 : decode cX8_isSameAs 12 = .ok (.getfield 89, 3) := by decide +kernel
theorem dX8_isSameAs_15 : decode cX8_isSameAs 15 = .ok (.aload_n 1, 1) := by decide +kernel
theorem dX8_isSameAs_16 : decode cX8_isSameAs 16 = .ok (.getfield 89, 3) := by decide +kernel
theorem dX8_isSameAs_19 : decode cX8_isSameAs 19 = .ok (.if_icmp .eq 5, 3) := by decide +kernel
theorem dX8_isSameAs_22 : decode cX8_isSameAs 22 = .ok (.iconst 0, 1) := by decide +kernel
theorem dX8_isSameAs_23 : decode cX8_isSameAs 23 = .ok (.ireturn, 1) := by decide +kernel
theorem dX8_isSameAs_24 : decode cX8_isSameAs 24 = .ok (.iconst 0, 1) := by decide +kernel
theorem dX8_isSameAs_25 : decode cX8_isSameAs 25 = .ok (.istore_n 2, 1) := by decide +kernel
theorem dX8_isSameAs_26 : decode cX8_isSameAs 26 = .ok (.iload_n 2, 1) := by decide +kernel
theorem dX8_isSameAs_27 : decode cX8_isSameAs 27 = .ok (.aload_n 0, 1) := by decide +kernel
theorem dX8_isSameAs_28 : decode cX8_isSameAs 28 = .ok (.getfield 20, 3) := by decide +kernel
theorem dX8_isSameAs_31 : decode cX8_isSameAs 31 = .ok (.if_icmp .ge 29, 3) := by decide +kernel
theorem dX8_isSameAs_34 : decode cX8_isSameAs 34 = .ok (.aload_n 0, 1) := by decide +kernel
theorem dX8_isSameAs_35 : decode cX8_isSameAs 35 = .ok (.getfield 11, 3) := by decide +kernel
theorem dX8_isSameAs_38 : decode cX8_isSameAs 38 = .ok (.iload_n 2, 1) := by decide +kernel
theorem dX8_isSameAs_39 : decode cX8_isSameAs 39 = .ok (.aaload, 1) := by decide +kernel
theorem dX8_isSameAs_40 : decode cX8_isSameAs 40 = .ok (.aload_n 1, 1) := by decide +kernel
theorem dX8_isSameAs_41 : decode cX8_isSameAs 41 = .ok (.getfield 11, 3) := by decide +kernel
theorem dX8_isSameAs_44 : decode cX8_isSameAs 44 = .ok (.iload_n 2, 1) := by decide +kernel
theorem dX8_isSameAs_45 : decode cX8_isSameAs 45 = .ok (.aaload, 1) := by decide +kernel
theorem dX8_isSameAs_46 : decode cX8_isSameAs 46 = .ok (.invokevirtual 138, 3) := by decide +kernel
theorem dX8_isSameAs_49 : decode cX8_isSameAs 49 = .ok (.ifCond .ne 5, 3) := by decide +kernel
theorem dX8_isSameAs_52 : decode cX8_isSameAs 52 = .ok (.iconst 0, 1) := by decide +kernel
theorem dX8_isSameAs_53 : decode cX8_isSameAs 53 = .ok (.ireturn, 1) := by decide +kernel
theorem dX8_isSameAs_54 : decode cX8_isSameAs 54 = .ok (.iinc 2 1, 3) := by decide +kernel
theorem dX8_isSameAs_57 : decode cX8_isSameAs 57 = .ok (.goto (-31), 3) := by decide +kernel
theorem dX8_isSameAs_60 : decode cX8_isSameAs 60 = .ok (.iconst 1, 1) := by decide +kernel
theorem dX8_isSameAs_61 : decode cX8_isSameAs 61 = .ok (.ireturn, 1) := by decide +kernel
theorem dX9_init_0 : decode cX9_init 0 = .ok (.aload_n 0, 1) := by decide +kernel
theorem dX9_init_1 : decode cX9_init 1 = .ok (.invokespecial 3, 3) := by decide +kernel
theorem dX9_init_4 : decode cX9_init 4 = .ok (.aload_n 0, 1) := by decide +kernel
theorem dX9_init_5 : decode cX9_init 5 = .ok (.iload_n 1, 1) := by decide +kernel
theorem dX9_init_6 : decode cX9_init 6 = .ok (.putfield 9, 3) := by decide +kernel
theorem dX9_init_9 : decode cX9_init 9 = .ok (.aload_n 0, 1) := by decide +kernel
theorem dX9_init_10 : decode cX9_init 10 = .ok (.iload_n 2, 1) := by decide +kernel
theorem dX9_init_11 : decode cX9_init 11 = .ok (.putfield 15, 3) := by decide +kernel
theorem dX9_init_14 : decode cX9_init 14 = .ok (.return_, 1) := by decide +kernel
theorem dX9_clashesWith_0 : decode cX9_clashesWith 0 = .ok (.aload_n 0, 1) := by decide +kernel
theorem dX9_clashesWith_1 : decode cX9_clashesWith 1 = .ok (.getfield 19, 3) := by decide +kernel
theorem dX9_clashesWith_4 : decode cX9_clashesWith 4 = .ok (.aload_n 1, 1) := by decide +kernel
theorem dX9_clashesWith_5 : decode cX9_clashesWith 5 = .ok (.getfield 9, 3) := by decide +kernel
theorem dX9_clashesWith_8 : decode cX9_clashesWith 8 = .ok (.ishr, 1) := by decide +kernel
theorem dX9_clashesWith_9 : decode cX9_clashesWith 9 = .ok (.iconst 1, 1) := by decide +kernel
theorem dX9_clashesWith_10 : decode cX9_clashesWith 10 = .ok (.iand, 1) := by decide +kernel
theorem dX9_clashesWith_11 : decode cX9_clashesWith 11 = .ok (.ifCond .eq 7, 3) := by decide +kernel
theorem dX9_clashesWith_14 : decode cX9_clashesWith 14 = .ok (.iconst 1, 1) := by decide +kernel
theorem dX9_clashesWith_15 : decode cX9_clashesWith 15 = .ok (.goto 4, 3) := by decide +kernel
theorem dX9_clashesWith_18 : decode cX9_clashesWith 18 = .ok (.iconst 0, 1) := by decide +kernel
theorem dX9_clashesWith_19 : decode cX9_clashesWith 19 = .ok (.ireturn, 1) := by decide +kernel
theorem dX9_setClash_0 : decode cX9_setClash 0 = .ok (.aload_n 0, 1) := by decide +kernel
theorem dX9_setClash_1 : decode cX9_setClash 1 = .ok (.dup, 1) := by decide +kernel
theorem dX9_setClash_2 : decode cX9_setClash 2 = .ok (.getfield 19, 3) := by decide +kernel
theorem dX9_setClash_5 : decode cX9_setClash 5 = .ok (.iconst 1, 1) := by decide +kernel
theorem dX9_setClash_6 : decode cX9_setClash 6 = .ok (.aload_n 1, 1) := by decide +kernel
theorem dX9_setClash_7 : decode cX9_setClash 7 = .ok (.getfield 9, 3) := by decide +kernel
theorem dX9_setClash_10 : decode cX9_setClash 10 = .ok (.ishl, 1) := by decide +kernel
theorem dX9_setClash_11 : decode cX9_setClash 11 = .ok (.ior, 1) := by decide +kernel
theorem dX9_setClash_12 : decode cX9_setClash 12 = .ok (.putfield 19, 3) := by decide +kernel
theorem dX9_setClash_15 : decode cX9_setClash 15 = .ok (.return_, 1) := by decide +kernel
set_option maxRecDepth 20000 in
theorem ggX9_isTakenBy_J0_indexOf_0f7a4 : GoodIn wsX9_isTakenBy wsJ0_indexOf_0f7a4 := goodIn_r _ [7, 8, 9, 10, 6, 11, 12, 13, 14, 15, 16, 17, 18, 19, 20, 21, 22, 23, 24, 25, 26, 27, 28, 29, 30, 31, 32, 33, 34, 35, 36, 37, 38, 39, 40, 41, 42, 43, 44, 45, 46, 47, 48, 49, 50, 51, 52, 53, 54, 55, 56, 57, 58, 59, 60, 61, 62, 63, 64, 65, 66, 67, 68, 69, 70, 71, 72, 73, 74, 75, 76, 77, 78, 79, 80, 81, 82, 83, 84, 85, 86, 87, 88, 89, 90, 91, 103, 104, 105, 106] (by decide +kernel) (by decide +kernel)
set_option maxRecDepth 20000 in
theorem gX9_isTakenBy_J0_indexOf_0f7a4 : GoodIn wsX9_isTakenBy (wsV RX9 27 RJ0 yJ0_indexOf_0f7a4 wsJ0_indexOf_0f7a4) := goodIn_app (goodIn_of _ (by decide +kernel)) ggX9_isTakenBy_J0_indexOf_0f7a4
theorem dX9_isTakenBy_0 : decode cX9_isTakenBy 0 = .ok (.aload_n 0, 1) := by decide +kernel
theorem dX9_isTakenBy_1 : decode cX9_isTakenBy 1 = .ok (.getfield 22, 3) := by decide +kernel
theorem dX9_isTakenBy_4 : decode cX9_isTakenBy 4 = .ok (.iload_n 1, 1) := by decide +kernel
theorem dX9_isTakenBy_5 : decode cX9_isTakenBy 5 = .ok (.if_icmp .ge 19, 3) := by decide +kernel
theorem dX9_isTakenBy_8 : decode cX9_isTakenBy 8 = .ok (.ldc 25, 2) := by decide +kernel
theorem dX9_isTakenBy_10 : decode cX9_isTakenBy 10 = .ok (.aload_n 0, 1) := by decide +kernel
theorem dX9_isTakenBy_11 : decode cX9_isTakenBy 11 = .ok (.getfield 15, 3) := by decide +kernel
theorem dX9_isTakenBy_14 : decode cX9_isTakenBy 14 = .ok (.invokevirtual 27, 3) := by decide +kernel
theorem dX9_isTakenBy_17 : decode cX9_isTakenBy 17 = .ok (.ifCond .lt 7, 3) := by decide +kernel
theorem dX9_isTakenBy_20 : decode cX9_isTakenBy 20 = .ok (.iconst 1, 1) := by decide +kernel
theorem dX9_isTakenBy_21 : decode cX9_isTakenBy 21 = .ok (.goto 4, 3) := by decide +kernel
theorem dX9_isTakenBy_24 : decode cX9_isTakenBy 24 = .ok (.iconst 0, 1) := by decide +kernel
theorem dX9_isTakenBy_25 : decode cX9_isTakenBy 25 = .ok (.ireturn, 1) := by decide +kernel
theorem dX9_swellsBy_0 : decode cX9_swellsBy 0 = .ok (.aload_n 0, 1) := by decide +kernel
theorem dX9_swellsBy_1 : decode cX9_swellsBy 1 = .ok (.getfield 22, 3) := by decide +kernel
theorem dX9_swellsBy_4 : decode cX9_swellsBy 4 = .ok (.iload_n 1, 1) := by decide +kernel
theorem dX9_swellsBy_5 : decode cX9_swellsBy 5 = .ok (.if_icmp .gt 25, 3) := by decide +kernel
theorem dX9_swellsBy_8 : decode cX9_swellsBy 8 = .ok (.aload_n 0, 1) := by decide +kernel
theorem dX9_swellsBy_9 : decode cX9_swellsBy 9 = .ok (.getfield 15, 3) := by decide +kernel
theorem dX9_swellsBy_12 : decode cX9_swellsBy 12 = .ok (.bipush 112, 2) := by decide +kernel
theorem dX9_swellsBy_14 : decode cX9_swellsBy 14 = .ok (.if_icmp .eq 12, 3) := by decide +kernel
theorem dX9_swellsBy_17 : decode cX9_swellsBy 17 = .ok (.aload_n 0, 1) := by decide +kernel
theorem dX9_swellsBy_18 : decode cX9_swellsBy 18 = .ok (.getfield 15, 3) := by decide +kernel
theorem dX9_swellsBy_21 : decode cX9_swellsBy 21 = .ok (.bipush 122, 2) := by decide +kernel
theorem dX9_swellsBy_23 : decode cX9_swellsBy 23 = .ok (.if_icmp .ne 7, 3) := by decide +kernel
theorem dX9_swellsBy_26 : decode cX9_swellsBy 26 = .ok (.iconst 1, 1) := by decide +kernel
theorem dX9_swellsBy_27 : decode cX9_swellsBy 27 = .ok (.goto 4, 3) := by decide +kernel
theorem dX9_swellsBy_30 : decode cX9_swellsBy 30 = .ok (.iconst 0, 1) := by decide +kernel
theorem dX9_swellsBy_31 : decode cX9_swellsBy 31 = .ok (.ireturn, 1) := by decide +kernel
theorem dX10_init_0 : decode cX10_init 0 = .ok (.aload_n 0, 1) := by decide +kernel
theorem dX10_init_1 : decode cX10_init 1 = .ok (.invokespecial 3, 3) := by decide +kernel
theorem dX10_init_4 : decode cX10_init 4 = .ok (.aload_n 0, 1) := by decide +kernel
theorem dX10_init_5 : decode cX10_init 5 = .ok (.bipush 9, 2) := by decide +kernel
theorem dX10_init_7 : decode cX10_init 7 = .ok (.newarray .int, 2) := by decide +kernel
theorem dX10_init_9 : decode cX10_init 9 = .ok (.putfield 9, 3) := by decide +kernel
theorem dX10_init_12 : decode cX10_init 12 = .ok (.return_, 1) := by decide +kernel
theorem dX10_add_0 : decode cX10_add 0 = .ok (.iconst 3, 1) := by decide +kernel
theorem dX10_add_1 : decode cX10_add 1 = .ok (.iload_n 1, 1) := by decide +kernel
theorem dX10_add_2 : decode cX10_add 2 = .ok (.isub, 1) := by decide +kernel
theorem dX10_add_3 : decode cX10_add 3 = .ok (.iload_n 2, 1) := by decide +kernel
theorem dX10_add_4 : decode cX10_add 4 = .ok (.isub, 1) := by decide +kernel
theorem dX10_add_5 : decode cX10_add 5 = .ok (.istore_n 3, 1) := by decide +kernel
theorem dX10_add_6 : decode cX10_add 6 = .ok (.aload_n 0, 1) := by decide +kernel
theorem dX10_add_7 : decode cX10_add 7 = .ok (.getfield 9, 3) := by decide +kernel
theorem dX10_add_10 : decode cX10_add 10 = .ok (.iload_n 1, 1) := by decide +kernel
theorem dX10_add_11 : decode cX10_add 11 = .ok (.iconst 3, 1) := by decide +kernel
theorem dX10_add_12 : decode cX10_add 12 = .ok (.imul, 1) := by decide +kernel
theorem dX10_add_13 : decode cX10_add 13 = .ok (.iload_n 2, 1) := by decide +kernel
theorem dX10_add_14 : decode cX10_add 14 = .ok (.iadd, 1) := by decide +kernel
theorem dX10_add_15 : decode cX10_add 15 = .ok (.dup2, 1) := by decide +kernel
theorem dX10_add_16 : decode cX10_add 16 = .ok (.iaload, 1) := by decide +kernel
theorem dX10_add_17 : decode cX10_add 17 = .ok (.iconst 1, 1) := by decide +kernel
theorem dX10_add_18 : decode cX10_add 18 = .ok (.iadd, 1) := by decide +kernel
theorem dX10_add_19 : decode cX10_add 19 = .ok (.iastore, 1) := by decide +kernel
theorem dX10_add_20 : decode cX10_add 20 = .ok (.aload_n 0, 1) := by decide +kernel
theorem dX10_add_21 : decode cX10_add 21 = .ok (.getfield 9, 3) := by decide +kernel
theorem dX10_add_24 : decode cX10_add 24 = .ok (.iload_n 1, 1) := by decide +kernel
theorem dX10_add_25 : decode cX10_add 25 = .ok (.iconst 3, 1) := by decide +kernel
theorem dX10_add_26 : decode cX10_add 26 = .ok (.imul, 1) := by decide +kernel
theorem dX10_add_27 : decode cX10_add 27 = .ok (.iload_n 3, 1) := by decide +kernel
theorem dX10_add_28 : decode cX10_add 28 = .ok (.iadd, 1) := by decide +kernel
theorem dX10_add_29 : decode cX10_add 29 = .ok (.dup2, 1) := by decide +kernel
theorem dX10_add_30 : decode cX10_add 30 = .ok (.iaload, 1) := by decide +kernel
theorem dX10_add_31 : decode cX10_add 31 = .ok (.iconst 1, 1) := by decide +kernel
theorem dX10_add_32 : decode cX10_add 32 = .ok (.iadd, 1) := by decide +kernel
theorem dX10_add_33 : decode cX10_add 33 = .ok (.iastore, 1) := by decide +kernel
theorem dX10_add_34 : decode cX10_add 34 = .ok (.aload_n 0, 1) := by decide +kernel
theorem dX10_add_35 : decode cX10_add 35 = .ok (.getfield 9, 3) := by decide +kernel
theorem dX10_add_38 : decode cX10_add 38 = .ok (.iload_n 2, 1) := by decide +kernel
theorem dX10_add_39 : decode cX10_add 39 = .ok (.iconst 3, 1) := by decide +kernel
theorem dX10_add_40 : decode cX10_add 40 = .ok (.imul, 1) := by decide +kernel
theorem dX10_add_41 : decode cX10_add 41 = .ok (.iload_n 3, 1) := by decide +kernel
theorem dX10_add_42 : decode cX10_add 42 = .ok (.iadd, 1) := by decide +kernel
theorem dX10_add_43 : decode cX10_add 43 = .ok (.dup2, 1) := by decide +kernel
theorem dX10_add_44 : decode cX10_add 44 = .ok (.iaload, 1) := by decide +kernel
theorem dX10_add_45 : decode cX10_add 45 = .ok (.iconst 1, 1) := by decide +kernel
theorem dX10_add_46 : decode cX10_add 46 = .ok (.iadd, 1) := by decide +kernel
theorem dX10_add_47 : decode cX10_add 47 = .ok (.iastore, 1) := by decide +kernel
theorem dX10_add_48 : decode cX10_add 48 = .ok (.aload_n 0, 1) := by decide +kernel
theorem dX10_add_49 : decode cX10_add 49 = .ok (.dup, 1) := by decide +kernel
theorem dX10_add_50 : decode cX10_add 50 = .ok (.getfield 15, 3) := by decide +kernel
theorem dX10_add_53 : decode cX10_add 53 = .ok (.iconst 1, 1) := by decide +kernel
theorem dX10_add_54 : decode cX10_add 54 = .ok (.iadd, 1) := by decide +kernel
theorem dX10_add_55 : decode cX10_add 55 = .ok (.putfield 15, 3) := by decide +kernel
theorem dX10_add_58 : decode cX10_add 58 = .ok (.aload_n 0, 1) := by decide +kernel
theorem dX10_add_59 : decode cX10_add 59 = .ok (.getfield 15, 3) := by decide +kernel
theorem dX10_add_62 : decode cX10_add 62 = .ok (.ireturn, 1) := by decide +kernel
theorem dX10_best_0 : decode cX10_best 0 = .ok (.iconst 0, 1) := by decide +kernel
theorem dX10_best_1 : decode cX10_best 1 = .ok (.istore_n 1, 1) := by decide +kernel
theorem dX10_best_2 : decode cX10_best 2 = .ok (.iload_n 1, 1) := by decide +kernel
theorem dX10_best_3 : decode cX10_best 3 = .ok (.iconst 3, 1) := by decide +kernel
theorem dX10_best_4 : decode cX10_best 4 = .ok (.if_icmp .ge 53, 3) := by decide +kernel
theorem dX10_best_7 : decode cX10_best 7 = .ok (.iconst 0, 1) := by decide +kernel
theorem dX10_best_8 : decode cX10_best 8 = .ok (.istore_n 2, 1) := by decide +kernel
theorem dX10_best_9 : decode cX10_best 9 = .ok (.iconst 0, 1) := by decide +kernel
theorem dX10_best_10 : decode cX10_best 10 = .ok (.istore_n 3, 1) := by decide +kernel
theorem dX10_best_11 : decode cX10_best 11 = .ok (.iload_n 3, 1) := by decide +kernel
theorem dX10_best_12 : decode cX10_best 12 = .ok (.iconst 3, 1) := by decide +kernel
theorem dX10_best_13 : decode cX10_best 13 = .ok (.if_icmp .ge 31, 3) := by decide +kernel
theorem dX10_best_16 : decode cX10_best 16 = .ok (.iconst 2, 1) := by decide +kernel
theorem dX10_best_17 : decode cX10_best 17 = .ok (.aload_n 0, 1) := by decide +kernel
theorem dX10_best_18 : decode cX10_best 18 = .ok (.getfield 9, 3) := by decide +kernel
theorem dX10_best_21 : decode cX10_best 21 = .ok (.iload_n 1, 1) := by decide +kernel
theorem dX10_best_22 : decode cX10_best 22 = .ok (.iconst 3, 1) := by decide +kernel
theorem dX10_best_23 : decode cX10_best 23 = .ok (.imul, 1) := by decide +kernel
theorem dX10_best_24 : decode cX10_best 24 = .ok (.iload_n 3, 1) := by decide +kernel
theorem dX10_best_25 : decode cX10_best 25 = .ok (.iadd, 1) := by decide +kernel
theorem dX10_best_26 : decode cX10_best 26 = .ok (.iaload, 1) := by decide +kernel
theorem dX10_best_27 : decode cX10_best 27 = .ok (.imul, 1) := by decide +kernel
theorem dX10_best_28 : decode cX10_best 28 = .ok (.aload_n 0, 1) := by decide +kernel
theorem dX10_best_29 : decode cX10_best 29 = .ok (.getfield 15, 3) := by decide +kernel
theorem dX10_best_32 : decode cX10_best 32 = .ok (.if_icmp .le 6, 3) := by decide +kernel
theorem dX10_best_35 : decode cX10_best 35 = .ok (.iinc 2 1, 3) := by decide +kernel
theorem dX10_best_38 : decode cX10_best 38 = .ok (.iinc 3 1, 3) := by decide +kernel
theorem dX10_best_41 : decode cX10_best 41 = .ok (.goto (-30), 3) := by decide +kernel
theorem dX10_best_44 : decode cX10_best 44 = .ok (.iload_n 2, 1) := by decide +kernel
theorem dX10_best_45 : decode cX10_best 45 = .ok (.iconst 2, 1) := by decide +kernel
theorem dX10_best_46 : decode cX10_best 46 = .ok (.if_icmp .ne 5, 3) := by decide +kernel
theorem dX10_best_49 : decode cX10_best 49 = .ok (.iload_n 1, 1) := by decide +kernel
theorem dX10_best_50 : decode cX10_best 50 = .ok (.ireturn, 1) := by decide +kernel
theorem dX10_best_51 : decode cX10_best 51 = .ok (.iinc 1 1, 3) := by decide +kernel
theorem dX10_best_54 : decode cX10_best 54 = .ok (.goto (-52), 3) := by decide +kernel
theorem dX10_best_57 : decode cX10_best 57 = .ok (.iconst (-1), 1) := by decide +kernel
theorem dX10_best_58 : decode cX10_best 58 = .ok (.ireturn, 1) := by decide +kernel
set_option maxRecDepth 20000 in
theorem ggX11_init_Jx4a65c_init_da8c8 : GoodIn wsX11_init wsJx4a65c_init_da8c8 := goodIn_r _ [40, 41, 42, 43, 44, 45, 46, 47, 48, 49, 50, 51, 52, 2, 3, 121, 122, 123] (by decide +kernel) (by decide +kernel)
set_option maxRecDepth 20000 in
theorem gX11_init_Jx4a65c_init_da8c8 : GoodIn wsX11_init (wsJx4a65c_init_da8c8) := ggX11_init_Jx4a65c_init_da8c8
set_option maxRecDepth 20000 in
theorem ggX11_init_X4_init : GoodIn wsX11_init wsX4_init := goodIn_r _ [54, 55, 2, 3, 56, 57, 58, 59, 60, 61, 62, 63, 27, 28, 64, 65, 66, 67, 68, 69, 70, 71, 72, 73, 74, 75, 76, 77, 78, 79, 80, 81, 82, 83, 138, 139, 140, 141, 168, 169, 170, 152, 153, 154, 155, 156, 157, 158, 159, 160, 161, 162, 171, 172, 173, 174, 175] (by decide +kernel) (by decide +kernel)
set_option maxRecDepth 20000 in
theorem gX11_init_X4_init_n24 : GoodIn wsX11_init (wsX4_init) := ggX11_init_X4_init
set_option maxRecDepth 20000 in
theorem ggX11_init_X1_init : GoodIn wsX11_init wsX1_init := goodIn_r _ [85, 86, 2, 3, 87, 88, 89, 90, 91, 58, 92, 93, 94, 95, 96, 97, 98, 176, 177, 142, 143, 144, 145, 146] (by decide +kernel) (by decide +kernel)
set_option maxRecDepth 20000 in
theorem gX11_init_X1_init_n31 : GoodIn wsX11_init (wsX1_init) := ggX11_init_X1_init
set_option maxRecDepth 20000 in
theorem ggX11_init_X10_init : GoodIn wsX11_init wsX10_init := goodIn_r _ [100, 101, 2, 3, 58, 102, 147, 148] (by decide +kernel) (by decide +kernel)
set_option maxRecDepth 20000 in
theorem gX11_init_X10_init_n38 : GoodIn wsX11_init (wsX10_init) := ggX11_init_X10_init
set_option maxRecDepth 20000 in
theorem ggX11_init_X3_init : GoodIn wsX11_init wsX3_init := goodIn_r _ [104, 105, 2, 3, 58, 106, 107, 149, 150, 151] (by decide +kernel) (by decide +kernel)
set_option maxRecDepth 20000 in
theorem gX11_init_X3_init_n45 : GoodIn wsX11_init (wsX3_init) := ggX11_init_X3_init
set_option maxRecDepth 20000 in
theorem ggX11_init_X9_init : GoodIn wsX11_init wsX9_init := goodIn_r _ [67, 68, 2, 3, 69, 70, 152, 153, 154, 155, 156, 157, 158, 159, 160, 161, 162] (by decide +kernel) (by decide +kernel)
set_option maxRecDepth 20000 in
theorem gX11_init_X9_init : GoodIn wsX11_init (wsX9_init) := ggX11_init_X9_init
set_option maxRecDepth 20000 in
theorem ggX11_init_X5_init : GoodIn wsX11_init wsX5_init := goodIn_r _ [111, 112, 2, 3, 113, 114, 58, 115, 116, 117, 118, 27, 28, 61, 62, 119, 66, 67, 68, 69, 70, 120, 72, 73, 74, 75, 76, 77, 78, 79, 80, 81, 82, 83, 163, 164, 165, 166, 167, 152, 153, 154, 155, 156, 157, 158, 159, 160, 161, 162, 168, 169, 170, 171, 172, 173, 174, 175] (by decide +kernel) (by decide +kernel)
set_option maxRecDepth 20000 in
theorem gX11_init_X5_init : GoodIn wsX11_init (wsX5_init) := ggX11_init_X5_init
theorem dX11_init_0 : decode cX11_init 0 = .ok (.aload_n 0, 1) := by decide +kernel
theorem dX11_init_1 : decode cX11_init 1 = .ok (.invokespecial 1, 3) := by decide +kernel
theorem dX11_init_4 : decode cX11_init 4 = .ok (.aload_n 0, 1) := by decide +kernel
theorem dX11_init_5 : decode cX11_init 5 = .ok (.new 7, 3) := by decide +kernel
theorem dX11_init_8 : decode cX11_init 8 = .ok (.dup, 1) := by decide +kernel
theorem dX11_init_9 : decode cX11_init 9 = .ok (.invokespecial 9, 3) := by decide +kernel
theorem dX11_init_12 : decode cX11_init 12 = .ok (.putfield 10, 3) := by decide +kernel
theorem dX11_init_15 : decode cX11_init 15 = .ok (.aload_n 0, 1) := by decide +kernel
theorem dX11_init_16 : decode cX11_init 16 = .ok (.new 7, 3) := by decide +kernel
theorem dX11_init_19 : decode cX11_init 19 = .ok (.dup, 1) := by decide +kernel
theorem dX11_init_20 : decode cX11_init 20 = .ok (.invokespecial 9, 3) := by decide +kernel
theorem dX11_init_23 : decode cX11_init 23 = .ok (.putfield 16, 3) := by decide +kernel
theorem dX11_init_26 : decode cX11_init 26 = .ok (.aload_n 0, 1) := by decide +kernel
theorem dX11_init_27 : decode cX11_init 27 = .ok (.new 7, 3) := by decide +kernel
theorem dX11_init_30 : decode cX11_init 30 = .ok (.dup, 1) := by decide +kernel
theorem dX11_init_31 : decode cX11_init 31 = .ok (.invokespecial 9, 3) := by decide +kernel
theorem dX11_init_34 : decode cX11_init 34 = .ok (.putfield 19, 3) := by decide +kernel
theorem dX11_init_37 : decode cX11_init 37 = .ok (.aload_n 0, 1) := by decide +kernel
theorem dX11_init_38 : decode cX11_init 38 = .ok (.new 22, 3) := by decide +kernel
theorem dX11_init_41 : decode cX11_init 41 = .ok (.dup, 1) := by decide +kernel
theorem dX11_init_42 : decode cX11_init 42 = .ok (.invokespecial 24, 3) := by decide +kernel
theorem dX11_init_45 : decode cX11_init 45 = .ok (.putfield 25, 3) := by decide +kernel
theorem dX11_init_48 : decode cX11_init 48 = .ok (.aload_n 0, 1) := by decide +kernel
theorem dX11_init_49 : decode cX11_init 49 = .ok (.new 29, 3) := by decide +kernel
theorem dX11_init_52 : decode cX11_init 52 = .ok (.dup, 1) := by decide +kernel
theorem dX11_init_53 : decode cX11_init 53 = .ok (.invokespecial 31, 3) := by decide +kernel
theorem dX11_init_56 : decode cX11_init 56 = .ok (.putfield 32, 3) := by decide +kernel
theorem dX11_init_59 : decode cX11_init 59 = .ok (.aload_n 0, 1) := by decide +kernel
theorem dX11_init_60 : decode cX11_init 60 = .ok (.new 36, 3) := by decide +kernel
theorem dX11_init_63 : decode cX11_init 63 = .ok (.dup, 1) := by decide +kernel
theorem dX11_init_64 : decode cX11_init 64 = .ok (.invokespecial 38, 3) := by decide +kernel
theorem dX11_init_67 : decode cX11_init 67 = .ok (.putfield 39, 3) := by decide +kernel
theorem dX11_init_70 : decode cX11_init 70 = .ok (.aload_n 0, 1) := by decide +kernel
theorem dX11_init_71 : decode cX11_init 71 = .ok (.new 43, 3) := by decide +kernel
theorem dX11_init_74 : decode cX11_init 74 = .ok (.dup, 1) := by decide +kernel
theorem dX11_init_75 : decode cX11_init 75 = .ok (.invokespecial 45, 3) := by decide +kernel
theorem dX11_init_78 : decode cX11_init 78 = .ok (.putfield 46, 3) := by decide +kernel
theorem dX11_init_81 : decode cX11_init 81 = .ok (.aload_n 0, 1) := by decide +kernel
theorem dX11_init_82 : decode cX11_init 82 = .ok (.new 50, 3) := by decide +kernel
theorem dX11_init_85 : decode cX11_init 85 = .ok (.dup, 1) := by decide +kernel
theorem dX11_init_86 : decode cX11_init 86 = .ok (.iconst 0, 1) := by decide +kernel
theorem dX11_init_87 : decode cX11_init 87 = .ok (.bipush 115, 2) := by decide +kernel
theorem dX11_init_89 : decode cX11_init 89 = .ok (.invokespecial 52, 3) := by decide +kernel
theorem dX11_init_92 : decode cX11_init 92 = .ok (.putfield 55, 3) := by decide +kernel
theorem dX11_init_95 : decode cX11_init 95 = .ok (.aload_n 0, 1) := by decide +kernel
theorem dX11_init_96 : decode cX11_init 96 = .ok (.new 59, 3) := by decide +kernel
theorem dX11_init_99 : decode cX11_init 99 = .ok (.dup, 1) := by decide +kernel
theorem dX11_init_100 : decode cX11_init 100 = .ok (.invokespecial 61, 3) := by decide +kernel
theorem dX11_init_103 : decode cX11_init 103 = .ok (.putfield 62, 3) := by decide +kernel
theorem dX11_init_106 : decode cX11_init 106 = .ok (.aload_n 0, 1) := by decide +kernel
theorem dX11_init_107 : decode cX11_init 107 = .ok (.new 59, 3) := by decide +kernel
theorem dX11_init_110 : decode cX11_init 110 = .ok (.dup, 1) := by decide +kernel
theorem dX11_init_111 : decode cX11_init 111 = .ok (.invokespecial 61, 3) := by decide +kernel
theorem dX11_init_114 : decode cX11_init 114 = .ok (.putfield 66, 3) := by decide +kernel
theorem dX11_init_117 : decode cX11_init 117 = .ok (.aload_n 0, 1) := by decide +kernel
theorem dX11_init_118 : decode cX11_init 118 = .ok (.iconst 5, 1) := by decide +kernel
theorem dX11_init_119 : decode cX11_init 119 = .ok (.putfield 69, 3) := by decide +kernel
theorem dX11_init_122 : decode cX11_init 122 = .ok (.aload_n 0, 1) := by decide +kernel
theorem dX11_init_123 : decode cX11_init 123 = .ok (.bipush 50, 2) := by decide +kernel
theorem dX11_init_125 : decode cX11_init 125 = .ok (.putfield 73, 3) := by decide +kernel
theorem dX11_init_128 : decode cX11_init 128 = .ok (.aload_n 0, 1) := by decide +kernel
theorem dX11_init_129 : decode cX11_init 129 = .ok (.sipush 1600, 3) := by decide +kernel
theorem dX11_init_132 : decode cX11_init 132 = .ok (.putfield 76, 3) := by decide +kernel
theorem dX11_init_135 : decode cX11_init 135 = .ok (.return_, 1) := by decide +kernel
set_option maxRecDepth 20000 in
theorem ggX11_stuff_J0_indexOf_0f7a4 : GoodIn wsX11_stuff wsJ0_indexOf_0f7a4 := goodIn_r _ [18, 19, 20, 21, 17, 22, 23, 24, 25, 26, 27, 28, 29, 30, 31, 32, 33, 34, 35, 36, 37, 38, 39, 40, 41, 42, 43, 44, 45, 46, 47, 48, 49, 50, 51, 52, 53, 54, 55, 56, 57, 58, 59, 60, 61, 62, 63, 64, 65, 66, 67, 68, 69, 70, 71, 72, 73, 74, 75, 76, 77, 78, 79, 80, 81, 82, 83, 84, 85, 86, 87, 88, 89, 90, 91, 92, 93, 94, 95, 96, 97, 98, 99, 100, 101, 102, 205, 206, 207, 208] (by decide +kernel) (by decide +kernel)
set_option maxRecDepth 20000 in
theorem gX11_stuff_J0_indexOf_0f7a4 : GoodIn wsX11_stuff (wsV RX11 81 RJ0 yJ0_indexOf_0f7a4 wsJ0_indexOf_0f7a4) := goodIn_app (goodIn_of _ (by decide +kernel)) ggX11_stuff_J0_indexOf_0f7a4
set_option maxRecDepth 20000 in
theorem ggX11_stuff_X11_demandArgument : GoodIn wsX11_stuff wsX11_demandArgument := goodIn_ca (goodIn_r _ [106, 107, 108] (by decide +kernel) (by decide +kernel)) (goodIn_sub (fun _ h => List.mem_cons_of_mem _ (List.mem_append_left _ (List.mem_append_right _ h))) (by decide +kernel))
set_option maxRecDepth 20000 in
theorem gX11_stuff_X11_demandArgument : GoodIn wsX11_stuff (va_wsS RX11 87 yX11_demandArgument wsX11_demandArgument) := goodIn_app (goodIn_of _ (by decide +kernel)) ggX11_stuff_X11_demandArgument
set_option maxRecDepth 20000 in
theorem ggX11_stuff_X11_isWithin : GoodIn wsX11_stuff wsX11_isWithin := goodIn_r _ [111] (by decide +kernel) (by decide +kernel)
set_option maxRecDepth 20000 in
theorem gX11_stuff_X11_isWithin : GoodIn wsX11_stuff (va_wsS RX11 91 yX11_isWithin wsX11_isWithin) := goodIn_app (goodIn_of _ (by decide +kernel)) ggX11_stuff_X11_isWithin
set_option maxRecDepth 20000 in
theorem ggX11_stuff_Jx4a65c_size_8abf5 : GoodIn wsX11_stuff wsJx4a65c_size_8abf5 := goodIn_r _ [116, 117, 209, 210, 211] (by decide +kernel) (by decide +kernel)
set_option maxRecDepth 20000 in
theorem gX11_stuff_Jx4a65c_size_8abf5 : GoodIn wsX11_stuff (wsV RX11 95 RJx4a65c yJx4a65c_size_8abf5 wsJx4a65c_size_8abf5) := goodIn_app (goodIn_of _ (by decide +kernel)) ggX11_stuff_Jx4a65c_size_8abf5
set_option maxRecDepth 20000 in
theorem ggX11_stuff_X11_demandRoom : GoodIn wsX11_stuff wsX11_demandRoom := goodIn_ca (goodIn_r _ [120, 121, 122] (by decide +kernel) (by decide +kernel)) (goodIn_sub (fun _ h => List.mem_cons_of_mem _ (List.mem_append_right _ h)) (by decide +kernel))
set_option maxRecDepth 20000 in
theorem gX11_stuff_X11_demandRoom : GoodIn wsX11_stuff (va_wsS RX11 99 yX11_demandRoom wsX11_demandRoom) := goodIn_app (goodIn_of _ (by decide +kernel)) ggX11_stuff_X11_demandRoom
set_option maxRecDepth 20000 in
theorem ggX11_stuff_X9_init : GoodIn wsX11_stuff wsX9_init := goodIn_r _ [125, 126, 127, 128, 129, 130, 194, 195, 196, 197, 198, 199, 200, 201, 202, 203, 204] (by decide +kernel) (by decide +kernel)
set_option maxRecDepth 20000 in
theorem gX11_stuff_X9_init : GoodIn wsX11_stuff (wsX9_init) := ggX11_stuff_X9_init
set_option maxRecDepth 20000 in
theorem ggX11_stuff_Jx4a65c_add_9ea2d : GoodIn wsX11_stuff wsJx4a65c_add_9ea2d := goodIn_r _ [134, 135, 136, 137, 117, 138, 139, 140, 115, 141, 142, 143, 144, 145, 146, 147, 148, 149, 150, 151, 43, 44, 45, 152, 153, 154, 155, 156, 157, 158, 159, 160, 161, 162, 163, 164, 165, 166, 167, 168, 169, 170, 171, 172, 173, 174, 175, 47, 48, 176, 177, 178, 179, 209, 210, 211] (by decide +kernel) (by decide +kernel)
set_option maxRecDepth 20000 in
theorem gX11_stuff_Jx4a65c_add_9ea2d : GoodIn wsX11_stuff (wsV RX11 127 RJx4a65c yJx4a65c_add_9ea2d wsJx4a65c_add_9ea2d) := goodIn_app (goodIn_of _ (by decide +kernel)) ggX11_stuff_Jx4a65c_add_9ea2d
theorem dX11_stuff_0 : decode cX11_stuff 0 = .ok (.ldc 79, 2) := by decide +kernel
theorem dX11_stuff_2 : decode cX11_stuff 2 = .ok (.iload_n 1, 1) := by decide +kernel
theorem dX11_stuff_3 : decode cX11_stuff 3 = .ok (.invokevirtual 81, 3) := by decide +kernel
theorem dX11_stuff_6 : decode cX11_stuff 6 = .ok (.ifCond .lt 7, 3) := by decide +kernel
theorem dX11_stuff_9 : decode cX11_stuff 9 = .ok (.iconst 1, 1) := by decide +kernel
theorem dX11_stuff_10 : decode cX11_stuff 10 = .ok (.goto 4, 3) := by decide +kernel
theorem dX11_stuff_13 : decode cX11_stuff 13 = .ok (.iconst 0, 1) := by decide +kernel
theorem dX11_stuff_14 : decode cX11_stuff 14 = .ok (.invokestatic 87, 3) := by decide +kernel
theorem dX11_stuff_17 : decode cX11_stuff 17 = .ok (.iload_n 2, 1) := by decide +kernel
theorem dX11_stuff_18 : decode cX11_stuff 18 = .ok (.iconst 0, 1) := by decide +kernel
theorem dX11_stuff_19 : decode cX11_stuff 19 = .ok (.bipush 99, 2) := by decide +kernel
theorem dX11_stuff_21 : decode cX11_stuff 21 = .ok (.invokestatic 91, 3) := by decide +kernel
theorem dX11_stuff_24 : decode cX11_stuff 24 = .ok (.ifCond .eq 29, 3) := by decide +kernel
theorem dX11_stuff_27 : decode cX11_stuff 27 = .ok (.iload_n 3, 1) := by decide +kernel
theorem dX11_stuff_28 : decode cX11_stuff 28 = .ok (.iconst 1, 1) := by decide +kernel
theorem dX11_stuff_29 : decode cX11_stuff 29 = .ok (.bipush 100, 2) := by decide +kernel
theorem dX11_stuff_31 : decode cX11_stuff 31 = .ok (.invokestatic 91, 3) := by decide +kernel
theorem dX11_stuff_34 : decode cX11_stuff 34 = .ok (.ifCond .eq 19, 3) := by decide +kernel
theorem dX11_stuff_37 : decode cX11_stuff 37 = .ok (.iload 8, 2) := by decide +kernel
theorem dX11_stuff_39 : decode cX11_stuff 39 = .ok (.iconst 0, 1) := by decide +kernel
theorem dX11_stuff_40 : decode cX11_stuff 40 = .ok (.sipush 9999, 3) := by decide +kernel
theorem dX11_stuff_43 : decode cX11_stuff 43 = .ok (.invokestatic 91, 3) := by decide +kernel
theorem dX11_stuff_46 : decode cX11_stuff 46 = .ok (.ifCond .eq 7, 3) := by decide +kernel
theorem dX11_stuff_49 : decode cX11_stuff 49 = .ok (.iconst 1, 1) := by decide +kernel
theorem dX11_stuff_50 : decode cX11_stuff 50 = .ok (.goto 4, 3) := by decide +kernel
theorem dX11_stuff_53 : decode cX11_stuff 53 = .ok (.iconst 0, 1) := by decide +kernel
theorem dX11_stuff_54 : decode cX11_stuff 54 = .ok (.invokestatic 87, 3) := by decide +kernel
theorem dX11_stuff_57 : decode cX11_stuff 57 = .ok (.iload 4, 2) := by decide +kernel
theorem dX11_stuff_59 : decode cX11_stuff 59 = .ok (.iconst 0, 1) := by decide +kernel
theorem dX11_stuff_60 : decode cX11_stuff 60 = .ok (.bipush 9, 2) := by decide +kernel
theorem dX11_stuff_62 : decode cX11_stuff 62 = .ok (.invokestatic 91, 3) := by decide +kernel
theorem dX11_stuff_65 : decode cX11_stuff 65 = .ok (.ifCond .eq 18, 3) := by decide +kernel
theorem dX11_stuff_68 : decode cX11_stuff 68 = .ok (.iload 5, 2) := by decide +kernel
theorem dX11_stuff_70 : decode cX11_stuff 70 = .ok (.iconst 0, 1) := by decide +kernel
theorem dX11_stuff_71 : decode cX11_stuff 71 = .ok (.bipush 9, 2) := by decide +kernel
theorem dX11_stuff_73 : decode cX11_stuff 73 = .ok (.invokestatic 91, 3) := by decide +kernel
theorem dX11_stuff_76 : decode cX11_stuff 76 = .ok (.ifCond .eq 7, 3) := by decide +kernel
theorem dX11_stuff_79 : decode cX11_stuff 79 = .ok (.iconst 1, 1) := by decide +kernel
theorem dX11_stuff_80 : decode cX11_stuff 80 = .ok (.goto 4, 3) := by decide +kernel
theorem dX11_stuff_83 : decode cX11_stuff 83 = .ok (.iconst 0, 1) := by decide +kernel
theorem dX11_stuff_84 : decode cX11_stuff 84 = .ok (.invokestatic 87, 3) := by decide +kernel
theorem dX11_stuff_87 : decode cX11_stuff 87 = .ok (.iload 6, 2) := by decide +kernel
theorem dX11_stuff_89 : decode cX11_stuff 89 = .ok (.iconst 0, 1) := by decide +kernel
theorem dX11_stuff_90 : decode cX11_stuff 90 = .ok (.bipush 9, 2) := by decide +kernel
theorem dX11_stuff_92 : decode cX11_stuff 92 = .ok (.invokestatic 91, 3) := by decide +kernel
theorem dX11_stuff_95 : decode cX11_stuff 95 = .ok (.ifCond .eq 18, 3) := by decide +kernel
theorem dX11_stuff_98 : decode cX11_stuff 98 = .ok (.iload 7, 2) := by decide +kernel
theorem dX11_stuff_100 : decode cX11_stuff 100 = .ok (.iconst 0, 1) := by decide +kernel
theorem dX11_stuff_101 : decode cX11_stuff 101 = .ok (.bipush 9, 2) := by decide +kernel
theorem dX11_stuff_103 : decode cX11_stuff 103 = .ok (.invokestatic 91, 3) := by decide +kernel
theorem dX11_stuff_106 : decode cX11_stuff 106 = .ok (.ifCond .eq 7, 3) := by decide +kernel
theorem dX11_stuff_109 : decode cX11_stuff 109 = .ok (.iconst 1, 1) := by decide +kernel
theorem dX11_stuff_110 : decode cX11_stuff 110 = .ok (.goto 4, 3) := by decide +kernel
theorem dX11_stuff_113 : decode cX11_stuff 113 = .ok (.iconst 0, 1) := by decide +kernel
theorem dX11_stuff_114 : decode cX11_stuff 114 = .ok (.invokestatic 87, 3) := by decide +kernel
theorem dX11_stuff_117 : decode cX11_stuff 117 = .ok (.aload_n 0, 1) := by decide +kernel
theorem dX11_stuff_118 : decode cX11_stuff 118 = .ok (.getfield 10, 3) := by decide +kernel
theorem dX11_stuff_121 : decode cX11_stuff 121 = .ok (.invokevirtual 95, 3) := by decide +kernel
theorem dX11_stuff_124 : decode cX11_stuff 124 = .ok (.bipush 12, 2) := by decide +kernel
theorem dX11_stuff_126 : decode cX11_stuff 126 = .ok (.if_icmp .ge 7, 3) := by decide +kernel
theorem dX11_stuff_129 : decode cX11_stuff 129 = .ok (.iconst 1, 1) := by decide +kernel
theorem dX11_stuff_130 : decode cX11_stuff 130 = .ok (.goto 4, 3) := by decide +kernel
theorem dX11_stuff_133 : decode cX11_stuff 133 = .ok (.iconst 0, 1) := by decide +kernel
theorem dX11_stuff_134 : decode cX11_stuff 134 = .ok (.invokestatic 99, 3) := by decide +kernel
theorem dX11_stuff_137 : decode cX11_stuff 137 = .ok (.new 50, 3) := by decide +kernel
theorem dX11_stuff_140 : decode cX11_stuff 140 = .ok (.dup, 1) := by decide +kernel
theorem dX11_stuff_141 : decode cX11_stuff 141 = .ok (.aload_n 0, 1) := by decide +kernel
theorem dX11_stuff_142 : decode cX11_stuff 142 = .ok (.getfield 10, 3) := by decide +kernel
theorem dX11_stuff_145 : decode cX11_stuff 145 = .ok (.invokevirtual 95, 3) := by decide +kernel
theorem dX11_stuff_148 : decode cX11_stuff 148 = .ok (.iload_n 1, 1) := by decide +kernel
theorem dX11_stuff_149 : decode cX11_stuff 149 = .ok (.invokespecial 52, 3) := by decide +kernel
theorem dX11_stuff_152 : decode cX11_stuff 152 = .ok (.astore 10, 2) := by decide +kernel
theorem dX11_stuff_154 : decode cX11_stuff 154 = .ok (.aload 10, 2) := by decide +kernel
theorem dX11_stuff_156 : decode cX11_stuff 156 = .ok (.iload_n 2, 1) := by decide +kernel
theorem dX11_stuff_157 : decode cX11_stuff 157 = .ok (.putfield 102, 3) := by decide +kernel
theorem dX11_stuff_160 : decode cX11_stuff 160 = .ok (.aload 10, 2) := by decide +kernel
theorem dX11_stuff_162 : decode cX11_stuff 162 = .ok (.iload_n 3, 1) := by decide +kernel
theorem dX11_stuff_163 : decode cX11_stuff 163 = .ok (.putfield 105, 3) := by decide +kernel
theorem dX11_stuff_166 : decode cX11_stuff 166 = .ok (.aload 10, 2) := by decide +kernel
theorem dX11_stuff_168 : decode cX11_stuff 168 = .ok (.iload 4, 2) := by decide +kernel
theorem dX11_stuff_170 : decode cX11_stuff 170 = .ok (.putfield 108, 3) := by decide +kernel
theorem dX11_stuff_173 : decode cX11_stuff 173 = .ok (.aload 10, 2) := by decide +kernel
theorem dX11_stuff_175 : decode cX11_stuff 175 = .ok (.iload 5, 2) := by decide +kernel
theorem dX11_stuff_177 : decode cX11_stuff 177 = .ok (.putfield 111, 3) := by decide +kernel
theorem dX11_stuff_180 : decode cX11_stuff 180 = .ok (.aload 10, 2) := by decide +kernel
theorem dX11_stuff_182 : decode cX11_stuff 182 = .ok (.iload 6, 2) := by decide +kernel
theorem dX11_stuff_184 : decode cX11_stuff 184 = .ok (.putfield 114, 3) := by decide +kernel
theorem dX11_stuff_187 : decode cX11_stuff 187 = .ok (.aload 10, 2) := by decide +kernel
theorem dX11_stuff_189 : decode cX11_stuff 189 = .ok (.iload 7, 2) := by decide +kernel
theorem dX11_stuff_191 : decode cX11_stuff 191 = .ok (.putfield 117, 3) := by decide +kernel
theorem dX11_stuff_194 : decode cX11_stuff 194 = .ok (.aload 10, 2) := by decide +kernel
theorem dX11_stuff_196 : decode cX11_stuff 196 = .ok (.iload 8, 2) := by decide +kernel
theorem dX11_stuff_198 : decode cX11_stuff 198 = .ok (.putfield 120, 3) := by decide +kernel
theorem dX11_stuff_201 : decode cX11_stuff 201 = .ok (.aload 10, 2) := by decide +kernel
theorem dX11_stuff_203 : decode cX11_stuff 203 = .ok (.iload 9, 2) := by decide +kernel
theorem dX11_stuff_205 : decode cX11_stuff 205 = .ok (.putfield 123, 3) := by decide +kernel
theorem dX11_stuff_208 : decode cX11_stuff 208 = .ok (.aload_n 0, 1) := by decide +kernel
theorem dX11_stuff_209 : decode cX11_stuff 209 = .ok (.getfield 10, 3) := by decide +kernel
theorem dX11_stuff_212 : decode cX11_stuff 212 = .ok (.aload 10, 2) := by decide +kernel
theorem dX11_stuff_214 : decode cX11_stuff 214 = .ok (.invokevirtual 127, 3) := by decide +kernel
theorem dX11_stuff_217 : decode cX11_stuff 217 = .ok (.pop, 1) := by decide +kernel
theorem dX11_stuff_218 : decode cX11_stuff 218 = .ok (.aload 10, 2) := by decide +kernel
theorem dX11_stuff_220 : decode cX11_stuff 220 = .ok (.getfield 131, 3) := by decide +kernel
theorem dX11_stuff_223 : decode cX11_stuff 223 = .ok (.ireturn, 1) := by decide +kernel
set_option maxRecDepth 20000 in
theorem ggX11_clash_Jx4a65c_size_8abf5 : GoodIn wsX11_clash wsJx4a65c_size_8abf5 := goodIn_r _ [8, 9, 67, 68, 69] (by decide +kernel) (by decide +kernel)
set_option maxRecDepth 20000 in
theorem gX11_clash_Jx4a65c_size_8abf5 : GoodIn wsX11_clash (wsV RX11 95 RJx4a65c yJx4a65c_size_8abf5 wsJx4a65c_size_8abf5) := goodIn_app (goodIn_of _ (by decide +kernel)) ggX11_clash_Jx4a65c_size_8abf5
set_option maxRecDepth 20000 in
theorem ggX11_clash_X11_demandIndex : GoodIn wsX11_clash wsX11_demandIndex := goodIn_ca (goodIn_r _ [13, 14, 15] (by decide +kernel) (by decide +kernel)) (goodIn_sub (fun _ h => List.mem_cons_of_mem _ (List.mem_append_left _ (List.mem_append_right _ h))) (by decide +kernel))
set_option maxRecDepth 20000 in
theorem gX11_clash_X11_demandIndex : GoodIn wsX11_clash (va_wsS RX11 134 yX11_demandIndex wsX11_demandIndex) := goodIn_app (goodIn_of _ (by decide +kernel)) ggX11_clash_X11_demandIndex
set_option maxRecDepth 20000 in
theorem ggX11_clash_Jx4a65c_isEmpty_aae02 : GoodIn wsX11_clash wsJx4a65c_isEmpty_aae02 := goodIn_r _ [19, 9, 67, 68, 69] (by decide +kernel) (by decide +kernel)
set_option maxRecDepth 20000 in
theorem gX11_clash_Jx4a65c_isEmpty_aae02 : GoodIn wsX11_clash (wsV RX11 138 RJx4a65c yJx4a65c_isEmpty_aae02 wsJx4a65c_isEmpty_aae02) := goodIn_app (goodIn_of _ (by decide +kernel)) ggX11_clash_Jx4a65c_isEmpty_aae02
set_option maxRecDepth 20000 in
theorem ggX11_clash_X11_demandPossible : GoodIn wsX11_clash wsX11_demandPossible := goodIn_ca (goodIn_r _ [22, 23, 24] (by decide +kernel) (by decide +kernel)) (goodIn_sub (fun _ h => List.mem_cons_of_mem _ (List.mem_append_right _ h)) (by decide +kernel))
set_option maxRecDepth 20000 in
theorem gX11_clash_X11_demandPossible : GoodIn wsX11_clash (va_wsS RX11 142 yX11_demandPossible wsX11_demandPossible) := goodIn_app (goodIn_of _ (by decide +kernel)) ggX11_clash_X11_demandPossible
set_option maxRecDepth 20000 in
theorem ggX11_clash_Jx4a65c_get_915e3 : GoodIn wsX11_clash wsJx4a65c_get_915e3 := goodIn_r _ [28, 9, 29, 30, 31, 32, 33, 34, 35, 36, 37, 38, 39, 7, 40, 41, 67, 68, 69] (by decide +kernel) (by decide +kernel)
set_option maxRecDepth 20000 in
theorem gX11_clash_Jx4a65c_get_915e3 : GoodIn wsX11_clash (wsV RX11 145 RJx4a65c yJx4a65c_get_915e3 wsJx4a65c_get_915e3) := goodIn_app (goodIn_of _ (by decide +kernel)) ggX11_clash_Jx4a65c_get_915e3
set_option maxRecDepth 20000 in
theorem ggX11_clash_X9_clashesWith : GoodIn wsX11_clash wsX9_clashesWith := goodIn_r _ [46, 47, 48, 70, 71, 72, 73, 74, 75, 76, 77, 78, 79, 80] (by decide +kernel) (by decide +kernel)
set_option maxRecDepth 20000 in
theorem gX11_clash_X9_clashesWith : GoodIn wsX11_clash (wsV RX11 149 RX9 yX9_clashesWith wsX9_clashesWith) := goodIn_app (goodIn_of _ (by decide +kernel)) ggX11_clash_X9_clashesWith
set_option maxRecDepth 20000 in
theorem ggX11_clash_X9_setClash : GoodIn wsX11_clash wsX9_setClash := goodIn_r _ [52, 47, 48, 70, 71, 72, 73, 74, 75, 76, 77, 78, 79, 80] (by decide +kernel) (by decide +kernel)
set_option maxRecDepth 20000 in
theorem gX11_clash_X9_setClash : GoodIn wsX11_clash (wsV RX11 153 RX9 yX9_setClash wsX9_setClash) := goodIn_app (goodIn_of _ (by decide +kernel)) ggX11_clash_X9_setClash
theorem dX11_clash_0 : decode cX11_clash 0 = .ok (.iload_n 1, 1) := by decide +kernel
theorem dX11_clash_1 : decode cX11_clash 1 = .ok (.aload_n 0, 1) := by decide +kernel
theorem dX11_clash_2 : decode cX11_clash 2 = .ok (.getfield 10, 3) := by decide +kernel
theorem dX11_clash_5 : decode cX11_clash 5 = .ok (.invokevirtual 95, 3) := by decide +kernel
theorem dX11_clash_8 : decode cX11_clash 8 = .ok (.invokestatic 134, 3) := by decide +kernel
theorem dX11_clash_11 : decode cX11_clash 11 = .ok (.iload_n 2, 1) := by decide +kernel
theorem dX11_clash_12 : decode cX11_clash 12 = .ok (.aload_n 0, 1) := by decide +kernel
theorem dX11_clash_13 : decode cX11_clash 13 = .ok (.getfield 10, 3) := by decide +kernel
theorem dX11_clash_16 : decode cX11_clash 16 = .ok (.invokevirtual 95, 3) := by decide +kernel
theorem dX11_clash_19 : decode cX11_clash 19 = .ok (.invokestatic 134, 3) := by decide +kernel
theorem dX11_clash_22 : decode cX11_clash 22 = .ok (.aload_n 0, 1) := by decide +kernel
theorem dX11_clash_23 : decode cX11_clash 23 = .ok (.getfield 19, 3) := by decide +kernel
theorem dX11_clash_26 : decode cX11_clash 26 = .ok (.invokevirtual 138, 3) := by decide +kernel
theorem dX11_clash_29 : decode cX11_clash 29 = .ok (.invokestatic 142, 3) := by decide +kernel
theorem dX11_clash_32 : decode cX11_clash 32 = .ok (.aload_n 0, 1) := by decide +kernel
theorem dX11_clash_33 : decode cX11_clash 33 = .ok (.getfield 10, 3) := by decide +kernel
theorem dX11_clash_36 : decode cX11_clash 36 = .ok (.iload_n 1, 1) := by decide +kernel
theorem dX11_clash_37 : decode cX11_clash 37 = .ok (.invokevirtual 145, 3) := by decide +kernel
theorem dX11_clash_40 : decode cX11_clash 40 = .ok (.checkcast 50, 3) := by decide +kernel
theorem dX11_clash_43 : decode cX11_clash 43 = .ok (.astore_n 3, 1) := by decide +kernel
theorem dX11_clash_44 : decode cX11_clash 44 = .ok (.aload_n 0, 1) := by decide +kernel
theorem dX11_clash_45 : decode cX11_clash 45 = .ok (.getfield 10, 3) := by decide +kernel
theorem dX11_clash_48 : decode cX11_clash 48 = .ok (.iload_n 2, 1) := by decide +kernel
theorem dX11_clash_49 : decode cX11_clash 49 = .ok (.invokevirtual 145, 3) := by decide +kernel
theorem dX11_clash_52 : decode cX11_clash 52 = .ok (.checkcast 50, 3) := by decide +kernel
theorem dX11_clash_55 : decode cX11_clash 55 = .ok (.astore 4, 2) := by decide +kernel
theorem dX11_clash_57 : decode cX11_clash 57 = .ok (.aload_n 3, 1) := by decide +kernel
theorem dX11_clash_58 : decode cX11_clash 58 = .ok (.aload 4, 2) := by decide +kernel
theorem dX11_clash_60 : decode cX11_clash 60 = .ok (.invokevirtual 149, 3) := by decide +kernel
theorem dX11_clash_63 : decode cX11_clash 63 = .ok (.ifCond .eq 5, 3) := by decide +kernel
theorem dX11_clash_66 : decode cX11_clash 66 = .ok (.iconst 0, 1) := by decide +kernel
theorem dX11_clash_67 : decode cX11_clash 67 = .ok (.ireturn, 1) := by decide +kernel
theorem dX11_clash_68 : decode cX11_clash 68 = .ok (.aload_n 3, 1) := by decide +kernel
theorem dX11_clash_69 : decode cX11_clash 69 = .ok (.aload 4, 2) := by decide +kernel
theorem dX11_clash_71 : decode cX11_clash 71 = .ok (.invokevirtual 153, 3) := by decide +kernel
theorem dX11_clash_74 : decode cX11_clash 74 = .ok (.aload 4, 2) := by decide +kernel
theorem dX11_clash_76 : decode cX11_clash 76 = .ok (.aload_n 3, 1) := by decide +kernel
theorem dX11_clash_77 : decode cX11_clash 77 = .ok (.invokevirtual 153, 3) := by decide +kernel
theorem dX11_clash_80 : decode cX11_clash 80 = .ok (.iconst 1, 1) := by decide +kernel
theorem dX11_clash_81 : decode cX11_clash 81 = .ok (.ireturn, 1) := by decide +kernel
set_option maxRecDepth 20000 in
theorem ggX11_lay_Jx4a65c_size_8abf5 : GoodIn wsX11_lay wsJx4a65c_size_8abf5 := goodIn_r _ [12, 13, 443, 444, 445] (by decide +kernel) (by decide +kernel)
set_option maxRecDepth 20000 in
theorem gX11_lay_Jx4a65c_size_8abf5 : GoodIn wsX11_lay (wsV RX11 95 RJx4a65c yJx4a65c_size_8abf5 wsJx4a65c_size_8abf5) := goodIn_app (goodIn_of _ (by decide +kernel)) ggX11_lay_Jx4a65c_size_8abf5
set_option maxRecDepth 20000 in
theorem ggX11_lay_X11_demandIndex : GoodIn wsX11_lay wsX11_demandIndex := goodIn_ca (goodIn_r _ [17, 18, 19] (by decide +kernel) (by decide +kernel)) (goodIn_sub (fun _ h => List.mem_cons_of_mem _ (List.mem_append_left _ (List.mem_append_left _ (List.mem_append_left _ (List.mem_append_left _ (List.mem_append_right _ h)))))) (by decide +kernel))
set_option maxRecDepth 20000 in
theorem gX11_lay_X11_demandIndex : GoodIn wsX11_lay (va_wsS RX11 134 yX11_demandIndex wsX11_demandIndex) := goodIn_app (goodIn_of _ (by decide +kernel)) ggX11_lay_X11_demandIndex
set_option maxRecDepth 20000 in
theorem ggX11_lay_X11_isWithin : GoodIn wsX11_lay wsX11_isWithin := goodIn_r _ [22] (by decide +kernel) (by decide +kernel)
set_option maxRecDepth 20000 in
theorem gX11_lay_X11_isWithin : GoodIn wsX11_lay (va_wsS RX11 91 yX11_isWithin wsX11_isWithin) := goodIn_app (goodIn_of _ (by decide +kernel)) ggX11_lay_X11_isWithin
set_option maxRecDepth 20000 in
theorem ggX11_lay_X11_demandArgument : GoodIn wsX11_lay wsX11_demandArgument := goodIn_ca (goodIn_r _ [25, 26, 27] (by decide +kernel) (by decide +kernel)) (goodIn_sub (fun _ h => List.mem_cons_of_mem _ (List.mem_append_left _ (List.mem_append_left _ (List.mem_append_left _ (List.mem_append_right _ h))))) (by decide +kernel))
set_option maxRecDepth 20000 in
theorem gX11_lay_X11_demandArgument : GoodIn wsX11_lay (va_wsS RX11 87 yX11_demandArgument wsX11_demandArgument) := goodIn_app (goodIn_of _ (by decide +kernel)) ggX11_lay_X11_demandArgument
set_option maxRecDepth 20000 in
theorem ggX11_lay_X11_isPlace : GoodIn wsX11_lay wsX11_isPlace := goodIn_r _ [30] (by decide +kernel) (by decide +kernel)
set_option maxRecDepth 20000 in
theorem gX11_lay_X11_isPlace : GoodIn wsX11_lay (va_wsS RX11 157 yX11_isPlace wsX11_isPlace) := goodIn_app (goodIn_of _ (by decide +kernel)) ggX11_lay_X11_isPlace
set_option maxRecDepth 20000 in
theorem ggX11_lay_Jx4a65c_get_915e3 : GoodIn wsX11_lay wsJx4a65c_get_915e3 := goodIn_r _ [34, 13, 35, 36, 37, 38, 39, 40, 41, 42, 43, 44, 45, 11, 46, 47, 443, 444, 445] (by decide +kernel) (by decide +kernel)
set_option maxRecDepth 20000 in
theorem gX11_lay_Jx4a65c_get_915e3 : GoodIn wsX11_lay (wsV RX11 145 RJx4a65c yJx4a65c_get_915e3 wsJx4a65c_get_915e3) := goodIn_app (goodIn_of _ (by decide +kernel)) ggX11_lay_Jx4a65c_get_915e3
set_option maxRecDepth 20000 in
theorem ggX11_lay_X0_init : GoodIn wsX11_lay wsX0_init := goodIn_r _ [50, 51, 52, 53, 54, 55, 56, 57, 58, 59, 60, 61, 62, 63, 64, 65, 66, 67, 68, 446, 447, 448, 431, 432, 433, 434, 435, 436, 437, 438, 439, 440, 441, 442] (by decide +kernel) (by decide +kernel)
set_option maxRecDepth 20000 in
theorem gX11_lay_X0_init : GoodIn wsX11_lay (wsX0_init) := ggX11_lay_X0_init
set_option maxRecDepth 20000 in
theorem ggX11_lay_X11_enter : GoodIn wsX11_lay wsX11_enter := goodIn_ca (goodIn_ca (goodIn_ca (goodIn_r _ [72, 73, 74, 75, 76, 77, 78, 79, 80, 81, 82, 83, 84, 85, 86, 87, 88, 89, 90, 91, 16, 92, 93, 94, 95, 96, 97, 98, 99, 100, 101, 102, 103, 104, 105, 106, 107, 108, 109, 110, 111, 112, 113, 114, 115, 29, 30, 116, 117, 118, 119, 120, 121, 122, 123, 124, 125, 126, 8, 9, 10, 11, 12, 13, 127, 128, 129, 130, 131, 132, 133, 134, 135, 136, 137, 47, 138, 139, 140, 141, 142, 143, 144, 145, 146, 147, 148, 149, 150, 151, 152, 153, 154, 155, 156, 157, 158, 159, 160, 161, 162, 163, 164, 165, 166, 167, 168, 169, 170, 171, 172, 173, 174, 175, 176, 177, 178, 179, 180, 181, 182, 183, 184, 185, 186, 187, 188, 189, 190, 191, 192, 193, 194, 195, 196, 197, 198, 199, 200, 201, 202, 203, 204, 205, 206, 207, 208, 209, 210, 211, 212, 213, 214, 215, 216, 217, 218, 219, 220, 221, 222, 223, 224, 225, 226, 227, 228, 229, 230, 231, 232, 233, 234, 235, 236, 237, 238, 239, 240, 241, 242, 243, 244, 245, 246, 247, 248, 249, 250, 251, 252, 253, 254, 255, 256, 257, 258, 259, 260, 261, 262, 263, 264, 265, 266, 267, 268, 269, 270, 271, 272, 273, 274, 275, 276, 277, 278, 279, 280, 281, 282, 283, 284, 285, 286, 287, 288, 289, 290, 291, 292, 293, 294, 295, 296, 297, 298, 299, 300, 301, 302, 303, 304, 305, 306, 307, 308, 309, 310, 311, 312, 313, 314, 315, 316, 317, 318, 319, 320, 321, 322, 323, 324, 325, 326, 327, 328, 329, 330, 331, 332, 333, 334, 335, 336, 337, 338, 339, 340, 341, 342, 343, 41, 344, 345, 346, 347, 348, 349, 350, 351, 352, 353, 354, 355, 356, 357, 358, 359, 360, 361, 362, 363, 364, 365, 366, 367, 368, 369, 370, 371, 372, 373, 374, 375, 376, 377, 378, 379, 380, 381, 382, 383, 384, 385, 386, 387, 388, 389, 390, 391, 392, 393, 394, 395, 396, 397, 398, 399, 400, 401, 402, 403, 404, 405, 406, 407, 408, 409, 410, 411, 412, 413, 414, 415, 416, 417, 418, 419, 420, 421, 422, 423, 424, 425, 426, 427, 428, 429, 430, 431, 432, 433, 434, 435, 436, 437, 438, 439, 440, 441, 442, 449, 450, 451, 446, 447, 448, 452, 453, 454, 455, 456, 457, 458, 459, 460, 461, 443, 444, 445, 462, 463, 464, 465, 466, 467, 468, 469, 470, 471, 472, 473, 474, 475, 476] (by decide +kernel) (by decide +kernel)) (goodIn_sub (fun _ h => List.mem_cons_of_mem _ (List.mem_append_left _ (List.mem_append_left _ (List.mem_append_right _ h)))) (by decide +kernel))) (goodIn_sub (fun _ h => List.mem_cons_of_mem _ (List.mem_append_left _ (List.mem_append_right _ h))) (by decide +kernel))) (goodIn_sub (fun _ h => List.mem_cons_of_mem _ (List.mem_append_right _ h)) (by decide +kernel))
set_option maxRecDepth 20000 in
theorem gX11_lay_X11_enter : GoodIn wsX11_lay (wsV RX11 172 RX11 yX11_enter wsX11_enter) := goodIn_app (goodIn_of _ (by decide +kernel)) ggX11_lay_X11_enter
theorem dX11_lay_0 : decode cX11_lay 0 = .ok (.iload_n 1, 1) := by decide +kernel
theorem dX11_lay_1 : decode cX11_lay 1 = .ok (.aload_n 0, 1) := by decide +kernel
theorem dX11_lay_2 : decode cX11_lay 2 = .ok (.getfield 10, 3) := by decide +kernel
theorem dX11_lay_5 : decode cX11_lay 5 = .ok (.invokevirtual 95, 3) := by decide +kernel
theorem dX11_lay_8 : decode cX11_lay 8 = .ok (.invokestatic 134, 3) := by decide +kernel
theorem dX11_lay_11 : decode cX11_lay 11 = .ok (.iload_n 2, 1) := by decide +kernel
theorem dX11_lay_12 : decode cX11_lay 12 = .ok (.iconst 1, 1) := by decide +kernel
theorem dX11_lay_13 : decode cX11_lay 13 = .ok (.sipush 200, 3) := by decide +kernel
theorem dX11_lay_16 : decode cX11_lay 16 = .ok (.invokestatic 91, 3) := by decide +kernel
theorem dX11_lay_19 : decode cX11_lay 19 = .ok (.invokestatic 87, 3) := by decide +kernel
theorem dX11_lay_22 : decode cX11_lay 22 = .ok (.iload_n 3, 1) := by decide +kernel
theorem dX11_lay_23 : decode cX11_lay 23 = .ok (.iload 4, 2) := by decide +kernel
theorem dX11_lay_25 : decode cX11_lay 25 = .ok (.invokestatic 157, 3) := by decide +kernel
theorem dX11_lay_28 : decode cX11_lay 28 = .ok (.ifCond .eq 30, 3) := by decide +kernel
theorem dX11_lay_31 : decode cX11_lay 31 = .ok (.iload 5, 2) := by decide +kernel
theorem dX11_lay_33 : decode cX11_lay 33 = .ok (.iload 6, 2) := by decide +kernel
theorem dX11_lay_35 : decode cX11_lay 35 = .ok (.invokestatic 157, 3) := by decide +kernel
theorem dX11_lay_38 : decode cX11_lay 38 = .ok (.ifCond .eq 20, 3) := by decide +kernel
theorem dX11_lay_41 : decode cX11_lay 41 = .ok (.iload_n 3, 1) := by decide +kernel
theorem dX11_lay_42 : decode cX11_lay 42 = .ok (.iload 5, 2) := by decide +kernel
theorem dX11_lay_44 : decode cX11_lay 44 = .ok (.if_icmp .gt 14, 3) := by decide +kernel
theorem dX11_lay_47 : decode cX11_lay 47 = .ok (.iload 4, 2) := by decide +kernel
theorem dX11_lay_49 : decode cX11_lay 49 = .ok (.iload 6, 2) := by decide +kernel
theorem dX11_lay_51 : decode cX11_lay 51 = .ok (.if_icmp .gt 7, 3) := by decide +kernel
theorem dX11_lay_54 : decode cX11_lay 54 = .ok (.iconst 1, 1) := by decide +kernel
theorem dX11_lay_55 : decode cX11_lay 55 = .ok (.goto 4, 3) := by decide +kernel
theorem dX11_lay_58 : decode cX11_lay 58 = .ok (.iconst 0, 1) := by decide +kernel
theorem dX11_lay_59 : decode cX11_lay 59 = .ok (.invokestatic 87, 3) := by decide +kernel
theorem dX11_lay_62 : decode cX11_lay 62 = .ok (.new 161, 3) := by decide +kernel
theorem dX11_lay_65 : decode cX11_lay 65 = .ok (.dup, 1) := by decide +kernel
theorem dX11_lay_66 : decode cX11_lay 66 = .ok (.bipush 108, 2) := by decide +kernel
theorem dX11_lay_68 : decode cX11_lay 68 = .ok (.aload_n 0, 1) := by decide +kernel
theorem dX11_lay_69 : decode cX11_lay 69 = .ok (.getfield 10, 3) := by decide +kernel
theorem dX11_lay_72 : decode cX11_lay 72 = .ok (.iload_n 1, 1) := by decide +kernel
theorem dX11_lay_73 : decode cX11_lay 73 = .ok (.invokevirtual 145, 3) := by decide +kernel
theorem dX11_lay_76 : decode cX11_lay 76 = .ok (.checkcast 50, 3) := by decide +kernel
theorem dX11_lay_79 : decode cX11_lay 79 = .ok (.iload_n 2, 1) := by decide +kernel
theorem dX11_lay_80 : decode cX11_lay 80 = .ok (.iload_n 3, 1) := by decide +kernel
theorem dX11_lay_81 : decode cX11_lay 81 = .ok (.iload 4, 2) := by decide +kernel
theorem dX11_lay_83 : decode cX11_lay 83 = .ok (.invokespecial 163, 3) := by decide +kernel
theorem dX11_lay_86 : decode cX11_lay 86 = .ok (.astore 7, 2) := by decide +kernel
theorem dX11_lay_88 : decode cX11_lay 88 = .ok (.aload 7, 2) := by decide +kernel
theorem dX11_lay_90 : decode cX11_lay 90 = .ok (.iload 5, 2) := by decide +kernel
theorem dX11_lay_92 : decode cX11_lay 92 = .ok (.putfield 166, 3) := by decide +kernel
theorem dX11_lay_95 : decode cX11_lay 95 = .ok (.aload 7, 2) := by decide +kernel
theorem dX11_lay_97 : decode cX11_lay 97 = .ok (.iload 6, 2) := by decide +kernel
theorem dX11_lay_99 : decode cX11_lay 99 = .ok (.putfield 169, 3) := by decide +kernel
theorem dX11_lay_102 : decode cX11_lay 102 = .ok (.aload_n 0, 1) := by decide +kernel
theorem dX11_lay_103 : decode cX11_lay 103 = .ok (.aload 7, 2) := by decide +kernel
theorem dX11_lay_105 : decode cX11_lay 105 = .ok (.invokevirtual 172, 3) := by decide +kernel
theorem dX11_lay_108 : decode cX11_lay 108 = .ok (.ireturn, 1) := by decide +kernel
set_option maxRecDepth 20000 in
theorem ggX11_layers_X11_demandPlace : GoodIn wsX11_layers wsX11_demandPlace := goodIn_ca (goodIn_r _ [6, 7, 8, 9, 10, 5, 11] (by decide +kernel) (by decide +kernel)) (goodIn_sub (fun _ h => List.mem_cons_of_mem _ (List.mem_append_right _ h)) (by decide +kernel))
set_option maxRecDepth 20000 in
theorem gX11_layers_X11_demandPlace : GoodIn wsX11_layers (va_wsS RX11 176 yX11_demandPlace wsX11_demandPlace) := goodIn_app (goodIn_of _ (by decide +kernel)) ggX11_layers_X11_demandPlace
set_option maxRecDepth 20000 in
theorem ggX11_layers_X5_at : GoodIn wsX11_layers wsX5_at := goodIn_r _ [16, 17, 18, 5, 19, 37, 38, 39, 40, 41] (by decide +kernel) (by decide +kernel)
set_option maxRecDepth 20000 in
theorem gX11_layers_X5_at : GoodIn wsX11_layers (wsV RX11 179 RX5 yX5_at wsX5_at) := goodIn_app (goodIn_of _ (by decide +kernel)) ggX11_layers_X5_at
theorem dX11_layers_0 : decode cX11_layers 0 = .ok (.iload_n 1, 1) := by decide +kernel
theorem dX11_layers_1 : decode cX11_layers 1 = .ok (.iload_n 2, 1) := by decide +kernel
theorem dX11_layers_2 : decode cX11_layers 2 = .ok (.invokestatic 176, 3) := by decide +kernel
theorem dX11_layers_5 : decode cX11_layers 5 = .ok (.aload_n 0, 1) := by decide +kernel
theorem dX11_layers_6 : decode cX11_layers 6 = .ok (.getfield 62, 3) := by decide +kernel
theorem dX11_layers_9 : decode cX11_layers 9 = .ok (.iload_n 1, 1) := by decide +kernel
theorem dX11_layers_10 : decode cX11_layers 10 = .ok (.iload_n 2, 1) := by decide +kernel
theorem dX11_layers_11 : decode cX11_layers 11 = .ok (.invokevirtual 179, 3) := by decide +kernel
theorem dX11_layers_14 : decode cX11_layers 14 = .ok (.getfield 183, 3) := by decide +kernel
theorem dX11_layers_17 : decode cX11_layers 17 = .ok (.ireturn, 1) := by decide +kernel
set_option maxRecDepth 20000 in
theorem ggX11_layerAt_X11_demandPlace : GoodIn wsX11_layerAt wsX11_demandPlace := goodIn_ca (goodIn_r _ [7, 8, 9, 10, 11, 6, 12] (by decide +kernel) (by decide +kernel)) (goodIn_sub (fun _ h => List.mem_cons_of_mem _ (List.mem_append_left _ (List.mem_append_right _ h))) (by decide +kernel))
set_option maxRecDepth 20000 in
theorem gX11_layerAt_X11_demandPlace : GoodIn wsX11_layerAt (va_wsS RX11 176 yX11_demandPlace wsX11_demandPlace) := goodIn_app (goodIn_of _ (by decide +kernel)) ggX11_layerAt_X11_demandPlace
set_option maxRecDepth 20000 in
theorem ggX11_layerAt_X11_demandArgument : GoodIn wsX11_layerAt wsX11_demandArgument := goodIn_ca (goodIn_r _ [15, 8, 9] (by decide +kernel) (by decide +kernel)) (goodIn_sub (fun _ h => List.mem_cons_of_mem _ (List.mem_append_left _ (List.mem_append_right _ h))) (by decide +kernel))
set_option maxRecDepth 20000 in
theorem gX11_layerAt_X11_demandArgument : GoodIn wsX11_layerAt (va_wsS RX11 87 yX11_demandArgument wsX11_demandArgument) := goodIn_app (goodIn_of _ (by decide +kernel)) ggX11_layerAt_X11_demandArgument
set_option maxRecDepth 20000 in
theorem ggX11_layerAt_X5_at : GoodIn wsX11_layerAt wsX5_at := goodIn_r _ [20, 21, 22, 6, 23, 60, 61, 62, 63, 64] (by decide +kernel) (by decide +kernel)
set_option maxRecDepth 20000 in
theorem gX11_layerAt_X5_at : GoodIn wsX11_layerAt (wsV RX11 179 RX5 yX5_at wsX5_at) := goodIn_app (goodIn_of _ (by decide +kernel)) ggX11_layerAt_X5_at
set_option maxRecDepth 20000 in
theorem ggX11_layerAt_X11_isWithin : GoodIn wsX11_layerAt wsX11_isWithin := goodIn_r _ [26] (by decide +kernel) (by decide +kernel)
set_option maxRecDepth 20000 in
theorem gX11_layerAt_X11_isWithin : GoodIn wsX11_layerAt (va_wsS RX11 91 yX11_isWithin wsX11_isWithin) := goodIn_app (goodIn_of _ (by decide +kernel)) ggX11_layerAt_X11_isWithin
set_option maxRecDepth 20000 in
theorem ggX11_layerAt_X11_demandElement : GoodIn wsX11_layerAt wsX11_demandElement := goodIn_ca (goodIn_r _ [29, 30, 31] (by decide +kernel) (by decide +kernel)) (goodIn_sub (fun _ h => List.mem_cons_of_mem _ (List.mem_append_right _ h)) (by decide +kernel))
set_option maxRecDepth 20000 in
theorem gX11_layerAt_X11_demandElement : GoodIn wsX11_layerAt (va_wsS RX11 187 yX11_demandElement wsX11_demandElement) := goodIn_app (goodIn_of _ (by decide +kernel)) ggX11_layerAt_X11_demandElement
set_option maxRecDepth 20000 in
theorem ggX11_layerAt_X2_tell : GoodIn wsX11_layerAt wsX2_tell := goodIn_r _ [36, 37, 38, 39, 40, 41, 42, 65, 66, 67, 68, 69, 70, 71, 72, 73, 74, 75, 76, 77, 78, 79, 80] (by decide +kernel) (by decide +kernel)
set_option maxRecDepth 20000 in
theorem gX11_layerAt_X2_tell : GoodIn wsX11_layerAt (wsV RX11 194 RX2 yX2_tell wsX2_tell) := goodIn_app (goodIn_of _ (by decide +kernel)) ggX11_layerAt_X2_tell
theorem dX11_layerAt_0 : decode cX11_layerAt 0 = .ok (.iload_n 1, 1) := by decide +kernel
theorem dX11_layerAt_1 : decode cX11_layerAt 1 = .ok (.iload_n 2, 1) := by decide +kernel
theorem dX11_layerAt_2 : decode cX11_layerAt 2 = .ok (.invokestatic 176, 3) := by decide +kernel
theorem dX11_layerAt_5 : decode cX11_layerAt 5 = .ok (.iload 4, 2) := by decide +kernel
theorem dX11_layerAt_7 : decode cX11_layerAt 7 = .ok (.bipush 115, 2) := by decide +kernel
theorem dX11_layerAt_9 : decode cX11_layerAt 9 = .ok (.if_icmp .eq 31, 3) := by decide +kernel
theorem dX11_layerAt_12 : decode cX11_layerAt 12 = .ok (.iload 4, 2) := by decide +kernel
theorem dX11_layerAt_14 : decode cX11_layerAt 14 = .ok (.bipush 116, 2) := by decide +kernel
theorem dX11_layerAt_16 : decode cX11_layerAt 16 = .ok (.if_icmp .eq 24, 3) := by decide +kernel
theorem dX11_layerAt_19 : decode cX11_layerAt 19 = .ok (.iload 4, 2) := by decide +kernel
theorem dX11_layerAt_21 : decode cX11_layerAt 21 = .ok (.bipush 121, 2) := by decide +kernel
theorem dX11_layerAt_23 : decode cX11_layerAt 23 = .ok (.if_icmp .eq 17, 3) := by decide +kernel
theorem dX11_layerAt_26 : decode cX11_layerAt 26 = .ok (.iload 4, 2) := by decide +kernel
theorem dX11_layerAt_28 : decode cX11_layerAt 28 = .ok (.bipush 99, 2) := by decide +kernel
theorem dX11_layerAt_30 : decode cX11_layerAt 30 = .ok (.if_icmp .eq 10, 3) := by decide +kernel
theorem dX11_layerAt_33 : decode cX11_layerAt 33 = .ok (.iload 4, 2) := by decide +kernel
theorem dX11_layerAt_35 : decode cX11_layerAt 35 = .ok (.bipush 103, 2) := by decide +kernel
theorem dX11_layerAt_37 : decode cX11_layerAt 37 = .ok (.if_icmp .ne 7, 3) := by decide +kernel
theorem dX11_layerAt_40 : decode cX11_layerAt 40 = .ok (.iconst 1, 1) := by decide +kernel
theorem dX11_layerAt_41 : decode cX11_layerAt 41 = .ok (.goto 4, 3) := by decide +kernel
theorem dX11_layerAt_44 : decode cX11_layerAt 44 = .ok (.iconst 0, 1) := by decide +kernel
theorem dX11_layerAt_45 : decode cX11_layerAt 45 = .ok (.invokestatic 87, 3) := by decide +kernel
theorem dX11_layerAt_48 : decode cX11_layerAt 48 = .ok (.aload_n 0, 1) := by decide +kernel
theorem dX11_layerAt_49 : decode cX11_layerAt 49 = .ok (.getfield 62, 3) := by decide +kernel
theorem dX11_layerAt_52 : decode cX11_layerAt 52 = .ok (.iload_n 1, 1) := by decide +kernel
theorem dX11_layerAt_53 : decode cX11_layerAt 53 = .ok (.iload_n 2, 1) := by decide +kernel
theorem dX11_layerAt_54 : decode cX11_layerAt 54 = .ok (.invokevirtual 179, 3) := by decide +kernel
theorem dX11_layerAt_57 : decode cX11_layerAt 57 = .ok (.astore 5, 2) := by decide +kernel
theorem dX11_layerAt_59 : decode cX11_layerAt 59 = .ok (.iload_n 3, 1) := by decide +kernel
theorem dX11_layerAt_60 : decode cX11_layerAt 60 = .ok (.iconst 0, 1) := by decide +kernel
theorem dX11_layerAt_61 : decode cX11_layerAt 61 = .ok (.aload 5, 2) := by decide +kernel
theorem dX11_layerAt_63 : decode cX11_layerAt 63 = .ok (.getfield 183, 3) := by decide +kernel
theorem dX11_layerAt_66 : decode cX11_layerAt 66 = .ok (.iconst 1, 1) := by decide +kernel
theorem dX11_layerAt_67 : decode cX11_layerAt 67 = .ok (.isub, 1) := by decide +kernel
theorem dX11_layerAt_68 : decode cX11_layerAt 68 = .ok (.invokestatic 91, 3) := by decide +kernel
theorem dX11_layerAt_71 : decode cX11_layerAt 71 = .ok (.invokestatic 187, 3) := by decide +kernel
theorem dX11_layerAt_74 : decode cX11_layerAt 74 = .ok (.aload 5, 2) := by decide +kernel
theorem dX11_layerAt_76 : decode cX11_layerAt 76 = .ok (.getfield 190, 3) := by decide +kernel
theorem dX11_layerAt_79 : decode cX11_layerAt 79 = .ok (.iload_n 3, 1) := by decide +kernel
theorem dX11_layerAt_80 : decode cX11_layerAt 80 = .ok (.aaload, 1) := by decide +kernel
theorem dX11_layerAt_81 : decode cX11_layerAt 81 = .ok (.iload 4, 2) := by decide +kernel
theorem dX11_layerAt_83 : decode cX11_layerAt 83 = .ok (.invokevirtual 194, 3) := by decide +kernel
theorem dX11_layerAt_86 : decode cX11_layerAt 86 = .ok (.ireturn, 1) := by decide +kernel
set_option maxRecDepth 20000 in
theorem ggX11_tired_X11_demandPlace : GoodIn wsX11_tired wsX11_demandPlace := goodIn_ca (goodIn_r _ [6, 7, 8, 9, 10, 5, 11] (by decide +kernel) (by decide +kernel)) (goodIn_sub (fun _ h => List.mem_cons_of_mem _ (List.mem_append_right _ h)) (by decide +kernel))
set_option maxRecDepth 20000 in
theorem gX11_tired_X11_demandPlace : GoodIn wsX11_tired (va_wsS RX11 176 yX11_demandPlace wsX11_demandPlace) := goodIn_app (goodIn_of _ (by decide +kernel)) ggX11_tired_X11_demandPlace
set_option maxRecDepth 20000 in
theorem ggX11_tired_X5_at : GoodIn wsX11_tired wsX5_at := goodIn_r _ [16, 17, 18, 5, 19, 37, 38, 39, 40, 41] (by decide +kernel) (by decide +kernel)
set_option maxRecDepth 20000 in
theorem gX11_tired_X5_at : GoodIn wsX11_tired (wsV RX11 179 RX5 yX5_at wsX5_at) := goodIn_app (goodIn_of _ (by decide +kernel)) ggX11_tired_X5_at
theorem dX11_tired_0 : decode cX11_tired 0 = .ok (.iload_n 1, 1) := by decide +kernel
theorem dX11_tired_1 : decode cX11_tired 1 = .ok (.iload_n 2, 1) := by decide +kernel
theorem dX11_tired_2 : decode cX11_tired 2 = .ok (.invokestatic 176, 3) := by decide +kernel
theorem dX11_tired_5 : decode cX11_tired 5 = .ok (.aload_n 0, 1) := by decide +kernel
theorem dX11_tired_6 : decode cX11_tired 6 = .ok (.getfield 62, 3) := by decide +kernel
theorem dX11_tired_9 : decode cX11_tired 9 = .ok (.iload_n 1, 1) := by decide +kernel
theorem dX11_tired_10 : decode cX11_tired 10 = .ok (.iload_n 2, 1) := by decide +kernel
theorem dX11_tired_11 : decode cX11_tired 11 = .ok (.invokevirtual 179, 3) := by decide +kernel
theorem dX11_tired_14 : decode cX11_tired 14 = .ok (.getfield 200, 3) := by decide +kernel
theorem dX11_tired_17 : decode cX11_tired 17 = .ok (.ireturn, 1) := by decide +kernel
set_option maxRecDepth 20000 in
theorem ggX11_light_X11_isWithin : GoodIn wsX11_light wsX11_isWithin := goodIn_r _ [5] (by decide +kernel) (by decide +kernel)
set_option maxRecDepth 20000 in
theorem gX11_light_X11_isWithin : GoodIn wsX11_light (va_wsS RX11 91 yX11_isWithin wsX11_isWithin) := goodIn_app (goodIn_of _ (by decide +kernel)) ggX11_light_X11_isWithin
set_option maxRecDepth 20000 in
theorem ggX11_light_X11_demandArgument : GoodIn wsX11_light wsX11_demandArgument := goodIn_ca (goodIn_r _ [8, 9, 10] (by decide +kernel) (by decide +kernel)) (goodIn_sub (fun _ h => List.mem_cons_of_mem _ (List.mem_append_right _ h)) (by decide +kernel))
set_option maxRecDepth 20000 in
theorem gX11_light_X11_demandArgument : GoodIn wsX11_light (va_wsS RX11 87 yX11_demandArgument wsX11_demandArgument) := goodIn_app (goodIn_of _ (by decide +kernel)) ggX11_light_X11_demandArgument
theorem dX11_light_0 : decode cX11_light 0 = .ok (.iload_n 1, 1) := by decide +kernel
theorem dX11_light_1 : decode cX11_light 1 = .ok (.iconst 0, 1) := by decide +kernel
theorem dX11_light_2 : decode cX11_light 2 = .ok (.bipush 9, 2) := by decide +kernel
theorem dX11_light_4 : decode cX11_light 4 = .ok (.invokestatic 91, 3) := by decide +kernel
theorem dX11_light_7 : decode cX11_light 7 = .ok (.invokestatic 87, 3) := by decide +kernel
theorem dX11_light_10 : decode cX11_light 10 = .ok (.aload_n 0, 1) := by decide +kernel
theorem dX11_light_11 : decode cX11_light 11 = .ok (.getfield 69, 3) := by decide +kernel
theorem dX11_light_14 : decode cX11_light 14 = .ok (.istore_n 2, 1) := by decide +kernel
theorem dX11_light_15 : decode cX11_light 15 = .ok (.aload_n 0, 1) := by decide +kernel
theorem dX11_light_16 : decode cX11_light 16 = .ok (.iload_n 1, 1) := by decide +kernel
theorem dX11_light_17 : decode cX11_light 17 = .ok (.putfield 69, 3) := by decide +kernel
theorem dX11_light_20 : decode cX11_light 20 = .ok (.iload_n 2, 1) := by decide +kernel
theorem dX11_light_21 : decode cX11_light 21 = .ok (.ireturn, 1) := by decide +kernel
set_option maxRecDepth 20000 in
theorem ggX11_damp_X11_isWithin : GoodIn wsX11_damp wsX11_isWithin := goodIn_r _ [5] (by decide +kernel) (by decide +kernel)
set_option maxRecDepth 20000 in
theorem gX11_damp_X11_isWithin : GoodIn wsX11_damp (va_wsS RX11 91 yX11_isWithin wsX11_isWithin) := goodIn_app (goodIn_of _ (by decide +kernel)) ggX11_damp_X11_isWithin
set_option maxRecDepth 20000 in
theorem ggX11_damp_X11_demandArgument : GoodIn wsX11_damp wsX11_demandArgument := goodIn_ca (goodIn_r _ [8, 9, 10] (by decide +kernel) (by decide +kernel)) (goodIn_sub (fun _ h => List.mem_cons_of_mem _ (List.mem_append_right _ h)) (by decide +kernel))
set_option maxRecDepth 20000 in
theorem gX11_damp_X11_demandArgument : GoodIn wsX11_damp (va_wsS RX11 87 yX11_demandArgument wsX11_demandArgument) := goodIn_app (goodIn_of _ (by decide +kernel)) ggX11_damp_X11_demandArgument
theorem dX11_damp_0 : decode cX11_damp 0 = .ok (.iload_n 1, 1) := by decide +kernel
theorem dX11_damp_1 : decode cX11_damp 1 = .ok (.iconst 0, 1) := by decide +kernel
theorem dX11_damp_2 : decode cX11_damp 2 = .ok (.bipush 99, 2) := by decide +kernel
theorem dX11_damp_4 : decode cX11_damp 4 = .ok (.invokestatic 91, 3) := by decide +kernel
theorem dX11_damp_7 : decode cX11_damp 7 = .ok (.invokestatic 87, 3) := by decide +kernel
theorem dX11_damp_10 : decode cX11_damp 10 = .ok (.aload_n 0, 1) := by decide +kernel
theorem dX11_damp_11 : decode cX11_damp 11 = .ok (.getfield 73, 3) := by decide +kernel
theorem dX11_damp_14 : decode cX11_damp 14 = .ok (.istore_n 2, 1) := by decide +kernel
theorem dX11_damp_15 : decode cX11_damp 15 = .ok (.aload_n 0, 1) := by decide +kernel
theorem dX11_damp_16 : decode cX11_damp 16 = .ok (.iload_n 1, 1) := by decide +kernel
theorem dX11_damp_17 : decode cX11_damp 17 = .ok (.putfield 73, 3) := by decide +kernel
theorem dX11_damp_20 : decode cX11_damp 20 = .ok (.iload_n 2, 1) := by decide +kernel
theorem dX11_damp_21 : decode cX11_damp 21 = .ok (.ireturn, 1) := by decide +kernel
set_option maxRecDepth 20000 in
theorem ggX11_pass_X11_isWithin : GoodIn wsX11_pass wsX11_isWithin := goodIn_r _ [12] (by decide +kernel) (by decide +kernel)
set_option maxRecDepth 20000 in
theorem gX11_pass_X11_isWithin : GoodIn wsX11_pass (va_wsS RX11 91 yX11_isWithin wsX11_isWithin) := goodIn_app (goodIn_of _ (by decide +kernel)) ggX11_pass_X11_isWithin
set_option maxRecDepth 20000 in
theorem ggX11_pass_X11_demandArgument : GoodIn wsX11_pass wsX11_demandArgument := goodIn_ca (goodIn_r _ [15, 16, 17] (by decide +kernel) (by decide +kernel)) (goodIn_sub (fun _ h => List.mem_cons_of_mem _ (List.mem_append_left _ (List.mem_append_left _ (List.mem_append_left _ (List.mem_append_right _ h))))) (by decide +kernel))
set_option maxRecDepth 20000 in
theorem gX11_pass_X11_demandArgument : GoodIn wsX11_pass (va_wsS RX11 87 yX11_demandArgument wsX11_demandArgument) := goodIn_app (goodIn_of _ (by decide +kernel)) ggX11_pass_X11_demandArgument
set_option maxRecDepth 20000 in
theorem ggX11_pass_X0_init : GoodIn wsX11_pass wsX0_init := goodIn_r _ [20, 21, 22, 23, 24, 25, 26, 27, 28, 29, 30, 31, 32, 33, 34, 35, 36, 37, 38, 423, 424, 425, 397, 398, 399, 400, 401, 402, 403, 404, 405, 406, 407, 408] (by decide +kernel) (by decide +kernel)
set_option maxRecDepth 20000 in
theorem gX11_pass_X0_init : GoodIn wsX11_pass (wsX0_init) := ggX11_pass_X0_init
set_option maxRecDepth 20000 in
theorem ggX11_pass_X11_enter : GoodIn wsX11_pass wsX11_enter := goodIn_ca (goodIn_ca (goodIn_ca (goodIn_r _ [42, 43, 44, 45, 46, 47, 48, 49, 50, 51, 52, 53, 54, 55, 56, 57, 58, 59, 60, 61, 11, 62, 63, 64, 65, 66, 67, 68, 69, 70, 71, 72, 73, 74, 75, 76, 77, 78, 79, 80, 81, 82, 83, 84, 85, 86, 87, 88, 89, 90, 91, 92, 93, 94, 95, 96, 97, 98, 99, 100, 101, 102, 103, 104, 105, 106, 107, 108, 109, 110, 111, 112, 113, 114, 115, 116, 117, 118, 119, 120, 121, 122, 123, 124, 125, 126, 127, 128, 129, 130, 131, 132, 133, 134, 135, 136, 137, 138, 139, 140, 141, 142, 143, 144, 145, 146, 147, 148, 149, 150, 151, 152, 153, 154, 155, 156, 157, 158, 159, 160, 161, 162, 163, 164, 165, 166, 167, 168, 169, 170, 171, 172, 173, 174, 175, 176, 177, 178, 179, 180, 181, 182, 183, 184, 185, 186, 187, 188, 189, 190, 191, 192, 193, 194, 195, 196, 197, 198, 199, 200, 201, 202, 203, 204, 205, 206, 207, 208, 209, 210, 211, 212, 213, 214, 215, 216, 217, 218, 219, 220, 221, 222, 223, 224, 225, 226, 227, 228, 229, 230, 231, 232, 233, 234, 235, 236, 237, 238, 239, 240, 241, 242, 243, 244, 245, 246, 247, 248, 249, 250, 251, 252, 253, 254, 255, 256, 257, 258, 259, 260, 261, 262, 263, 264, 265, 266, 267, 268, 269, 270, 271, 272, 273, 274, 275, 276, 277, 278, 279, 280, 281, 282, 283, 284, 285, 286, 287, 288, 289, 290, 291, 292, 293, 294, 295, 296, 297, 298, 299, 300, 301, 302, 303, 304, 305, 306, 307, 308, 309, 310, 311, 312, 313, 314, 315, 316, 317, 318, 319, 320, 321, 322, 323, 324, 325, 326, 327, 328, 329, 330, 331, 332, 333, 334, 335, 336, 337, 338, 339, 340, 341, 342, 343, 344, 345, 346, 347, 348, 349, 350, 351, 352, 353, 354, 355, 356, 357, 358, 359, 360, 361, 362, 363, 364, 365, 366, 367, 368, 369, 370, 371, 372, 373, 374, 375, 376, 377, 378, 379, 380, 381, 382, 383, 384, 385, 386, 387, 388, 389, 390, 391, 392, 393, 394, 395, 396, 409, 410, 411, 412, 413, 414, 415, 416, 417, 418, 419, 420, 421, 422, 397, 398, 399, 400, 401, 402, 403, 404, 405, 406, 407, 408, 426, 427, 428, 423, 424, 425, 429, 430, 431, 432, 433, 434, 435, 436, 437, 438, 439, 440, 441, 442, 443, 444, 445, 446, 447, 448, 449, 450, 451, 452, 453, 454, 455, 456] (by decide +kernel) (by decide +kernel)) (goodIn_sub (fun _ h => List.mem_cons_of_mem _ (List.mem_append_left _ (List.mem_append_left _ (List.mem_append_right _ h)))) (by decide +kernel))) (goodIn_sub (fun _ h => List.mem_cons_of_mem _ (List.mem_append_left _ (List.mem_append_right _ h))) (by decide +kernel))) (goodIn_sub (fun _ h => List.mem_cons_of_mem _ (List.mem_append_right _ h)) (by decide +kernel))
set_option maxRecDepth 20000 in
theorem gX11_pass_X11_enter : GoodIn wsX11_pass (wsV RX11 172 RX11 yX11_enter wsX11_enter) := goodIn_app (goodIn_of _ (by decide +kernel)) ggX11_pass_X11_enter
theorem dX11_pass_0 : decode cX11_pass 0 = .ok (.iload_n 1, 1) := by decide +kernel
theorem dX11_pass_1 : decode cX11_pass 1 = .ok (.iconst 1, 1) := by decide +kernel
theorem dX11_pass_2 : decode cX11_pass 2 = .ok (.bipush 50, 2) := by decide +kernel
theorem dX11_pass_4 : decode cX11_pass 4 = .ok (.invokestatic 91, 3) := by decide +kernel
theorem dX11_pass_7 : decode cX11_pass 7 = .ok (.invokestatic 87, 3) := by decide +kernel
theorem dX11_pass_10 : decode cX11_pass 10 = .ok (.new 161, 3) := by decide +kernel
theorem dX11_pass_13 : decode cX11_pass 13 = .ok (.dup, 1) := by decide +kernel
theorem dX11_pass_14 : decode cX11_pass 14 = .ok (.bipush 121, 2) := by decide +kernel
theorem dX11_pass_16 : decode cX11_pass 16 = .ok (.aload_n 0, 1) := by decide +kernel
theorem dX11_pass_17 : decode cX11_pass 17 = .ok (.getfield 55, 3) := by decide +kernel
theorem dX11_pass_20 : decode cX11_pass 20 = .ok (.iload_n 1, 1) := by decide +kernel
theorem dX11_pass_21 : decode cX11_pass 21 = .ok (.iconst 0, 1) := by decide +kernel
theorem dX11_pass_22 : decode cX11_pass 22 = .ok (.iconst 0, 1) := by decide +kernel
theorem dX11_pass_23 : decode cX11_pass 23 = .ok (.invokespecial 163, 3) := by decide +kernel
theorem dX11_pass_26 : decode cX11_pass 26 = .ok (.astore_n 2, 1) := by decide +kernel
theorem dX11_pass_27 : decode cX11_pass 27 = .ok (.aload_n 2, 1) := by decide +kernel
theorem dX11_pass_28 : decode cX11_pass 28 = .ok (.aload_n 0, 1) := by decide +kernel
theorem dX11_pass_29 : decode cX11_pass 29 = .ok (.getfield 69, 3) := by decide +kernel
theorem dX11_pass_32 : decode cX11_pass 32 = .ok (.putfield 203, 3) := by decide +kernel
theorem dX11_pass_35 : decode cX11_pass 35 = .ok (.aload_n 2, 1) := by decide +kernel
theorem dX11_pass_36 : decode cX11_pass 36 = .ok (.aload_n 0, 1) := by decide +kernel
theorem dX11_pass_37 : decode cX11_pass 37 = .ok (.getfield 73, 3) := by decide +kernel
theorem dX11_pass_40 : decode cX11_pass 40 = .ok (.putfield 206, 3) := by decide +kernel
theorem dX11_pass_43 : decode cX11_pass 43 = .ok (.aload_n 0, 1) := by decide +kernel
theorem dX11_pass_44 : decode cX11_pass 44 = .ok (.aload_n 2, 1) := by decide +kernel
theorem dX11_pass_45 : decode cX11_pass 45 = .ok (.invokevirtual 172, 3) := by decide +kernel
theorem dX11_pass_48 : decode cX11_pass 48 = .ok (.ireturn, 1) := by decide +kernel
theorem dX11_year_0 : decode cX11_year 0 = .ok (.aload_n 0, 1) := by decide +kernel
theorem dX11_year_1 : decode cX11_year 1 = .ok (.getfield 62, 3) := by decide +kernel
theorem dX11_year_4 : decode cX11_year 4 = .ok (.getfield 209, 3) := by decide +kernel
theorem dX11_year_7 : decode cX11_year 7 = .ok (.ireturn, 1) := by decide +kernel
set_option maxRecDepth 20000 in
theorem ggX11_view_X11_demandRayAndPlace : GoodIn wsX11_view wsX11_demandRayAndPlace := goodIn_ca (goodIn_r _ [5, 6, 7, 8, 9, 10, 11, 12, 13, 14, 15, 16, 17, 18, 19, 20, 21, 22, 23, 24, 25, 26, 27, 28, 29, 30, 31, 32, 33, 34, 35, 36, 37, 38, 39, 40, 41, 42, 43, 44, 45, 46, 47, 48, 49, 50, 51, 52, 53, 54, 55, 56, 57, 58, 59, 60, 61, 62, 63, 64, 65, 66, 67, 68, 69, 70, 71, 72, 73, 74, 75, 76, 77, 78, 79, 80, 81, 82, 83, 84, 85, 86, 87, 88, 89, 90, 91, 92, 93, 94, 95, 96, 97, 98, 4, 99, 187, 188, 189, 190] (by decide +kernel) (by decide +kernel)) (goodIn_sub (fun _ h => List.mem_cons_of_mem _ (List.mem_append_left _ (List.mem_append_right _ h))) (by decide +kernel))
set_option maxRecDepth 20000 in
theorem gX11_view_X11_demandRayAndPlace : GoodIn wsX11_view (va_wsS RX11 212 yX11_demandRayAndPlace wsX11_demandRayAndPlace) := goodIn_app (goodIn_of _ (by decide +kernel)) ggX11_view_X11_demandRayAndPlace
set_option maxRecDepth 20000 in
theorem ggX11_view_J0_indexOf_0f7a4 : GoodIn wsX11_view wsJ0_indexOf_0f7a4 := goodIn_r _ [12, 13, 14, 15, 11, 16, 17, 18, 19, 20, 21, 22, 23, 24, 25, 26, 27, 28, 29, 30, 31, 32, 33, 34, 35, 36, 37, 38, 39, 40, 41, 42, 43, 44, 45, 46, 47, 48, 49, 50, 51, 52, 53, 54, 55, 56, 57, 58, 59, 60, 61, 62, 63, 64, 65, 66, 67, 68, 69, 70, 71, 72, 73, 74, 75, 76, 77, 78, 79, 80, 81, 82, 83, 84, 85, 86, 87, 88, 89, 90, 91, 92, 93, 94, 95, 96, 187, 188, 189, 190] (by decide +kernel) (by decide +kernel)
set_option maxRecDepth 20000 in
theorem gX11_view_J0_indexOf_0f7a4 : GoodIn wsX11_view (wsV RX11 81 RJ0 yJ0_indexOf_0f7a4 wsJ0_indexOf_0f7a4) := goodIn_app (goodIn_of _ (by decide +kernel)) ggX11_view_J0_indexOf_0f7a4
set_option maxRecDepth 20000 in
theorem ggX11_view_X5_see : GoodIn wsX11_view wsX5_see := goodIn_ca (goodIn_r _ [104, 105, 106, 107, 103, 108, 109, 110, 38, 111, 112, 37, 39, 113, 114, 115, 116, 117, 118, 4, 119, 120, 121, 122, 123, 124, 125, 126, 127, 98, 99, 128, 129, 130, 131, 132, 133, 134, 135, 136, 137, 138, 139, 140, 141, 142, 143, 144, 145, 146, 147, 148, 149, 150, 151, 152, 153, 154, 155, 156, 157, 158, 159, 160, 161, 162, 163, 164, 165, 166, 167, 168, 41, 42, 169, 170, 171, 172, 191, 192, 193, 194, 195, 196, 197, 198, 199, 200, 201, 202, 203, 204, 205, 206, 207, 208, 209, 210, 211, 212, 213, 214] (by decide +kernel) (by decide +kernel)) (goodIn_sub (fun _ h => List.mem_cons_of_mem _ (List.mem_append_right _ h)) (by decide +kernel))
set_option maxRecDepth 20000 in
theorem gX11_view_X5_see : GoodIn wsX11_view (wsV RX11 218 RX5 yX5_see wsX5_see) := goodIn_app (goodIn_of _ (by decide +kernel)) ggX11_view_X5_see
theorem dX11_view_0 : decode cX11_view 0 = .ok (.iload_n 1, 1) := by decide +kernel
theorem dX11_view_1 : decode cX11_view 1 = .ok (.iload_n 2, 1) := by decide +kernel
theorem dX11_view_2 : decode cX11_view 2 = .ok (.iload_n 3, 1) := by decide +kernel
theorem dX11_view_3 : decode cX11_view 3 = .ok (.invokestatic 212, 3) := by decide +kernel
theorem dX11_view_6 : decode cX11_view 6 = .ok (.aload_n 0, 1) := by decide +kernel
theorem dX11_view_7 : decode cX11_view 7 = .ok (.getfield 62, 3) := by decide +kernel
theorem dX11_view_10 : decode cX11_view 10 = .ok (.ldc 216, 2) := by decide +kernel
theorem dX11_view_12 : decode cX11_view 12 = .ok (.iload_n 1, 1) := by decide +kernel
theorem dX11_view_13 : decode cX11_view 13 = .ok (.invokevirtual 81, 3) := by decide +kernel
theorem dX11_view_16 : decode cX11_view 16 = .ok (.iload_n 2, 1) := by decide +kernel
theorem dX11_view_17 : decode cX11_view 17 = .ok (.iload_n 3, 1) := by decide +kernel
theorem dX11_view_18 : decode cX11_view 18 = .ok (.invokevirtual 218, 3) := by decide +kernel
theorem dX11_view_21 : decode cX11_view 21 = .ok (.ireturn, 1) := by decide +kernel
set_option maxRecDepth 20000 in
theorem ggX11_note_X11_demandRayAndPlace : GoodIn wsX11_note wsX11_demandRayAndPlace := goodIn_ca (goodIn_r _ [6, 7, 8, 9, 10, 11, 12, 13, 14, 15, 16, 17, 18, 19, 20, 21, 22, 23, 24, 25, 26, 27, 28, 29, 30, 31, 32, 33, 34, 35, 36, 37, 38, 39, 40, 41, 42, 43, 44, 45, 46, 47, 48, 49, 50, 51, 52, 53, 54, 55, 56, 57, 58, 59, 60, 61, 62, 63, 64, 65, 66, 67, 68, 69, 70, 71, 72, 73, 74, 75, 76, 77, 78, 79, 80, 81, 82, 83, 84, 85, 86, 87, 88, 89, 90, 91, 92, 93, 94, 95, 96, 97, 98, 99, 5, 100, 196, 197, 198, 199] (by decide +kernel) (by decide +kernel)) (goodIn_sub (fun _ h => List.mem_cons_of_mem _ (List.mem_append_left _ (List.mem_append_right _ h))) (by decide +kernel))
set_option maxRecDepth 20000 in
theorem gX11_note_X11_demandRayAndPlace : GoodIn wsX11_note (va_wsS RX11 212 yX11_demandRayAndPlace wsX11_demandRayAndPlace) := goodIn_app (goodIn_of _ (by decide +kernel)) ggX11_note_X11_demandRayAndPlace
set_option maxRecDepth 20000 in
theorem ggX11_note_J0_indexOf_0f7a4 : GoodIn wsX11_note wsJ0_indexOf_0f7a4 := goodIn_r _ [13, 14, 15, 16, 12, 17, 18, 19, 20, 21, 22, 23, 24, 25, 26, 27, 28, 29, 30, 31, 32, 33, 34, 35, 36, 37, 38, 39, 40, 41, 42, 43, 44, 45, 46, 47, 48, 49, 50, 51, 52, 53, 54, 55, 56, 57, 58, 59, 60, 61, 62, 63, 64, 65, 66, 67, 68, 69, 70, 71, 72, 73, 74, 75, 76, 77, 78, 79, 80, 81, 82, 83, 84, 85, 86, 87, 88, 89, 90, 91, 92, 93, 94, 95, 96, 97, 196, 197, 198, 199] (by decide +kernel) (by decide +kernel)
set_option maxRecDepth 20000 in
theorem gX11_note_J0_indexOf_0f7a4 : GoodIn wsX11_note (wsV RX11 81 RJ0 yJ0_indexOf_0f7a4 wsJ0_indexOf_0f7a4) := goodIn_app (goodIn_of _ (by decide +kernel)) ggX11_note_J0_indexOf_0f7a4
set_option maxRecDepth 20000 in
theorem ggX11_note_X5_see : GoodIn wsX11_note wsX5_see := goodIn_ca (goodIn_r _ [105, 106, 107, 108, 104, 109, 110, 111, 39, 112, 113, 38, 40, 114, 115, 116, 117, 118, 119, 5, 120, 121, 122, 123, 124, 125, 126, 127, 128, 99, 100, 129, 130, 131, 132, 133, 134, 135, 136, 137, 138, 139, 140, 141, 142, 143, 144, 145, 146, 147, 148, 149, 150, 151, 152, 153, 154, 155, 156, 157, 158, 159, 160, 161, 162, 163, 164, 165, 166, 167, 168, 169, 42, 43, 170, 171, 172, 173, 200, 201, 202, 203, 204, 205, 206, 207, 208, 209, 210, 211, 212, 213, 214, 215, 216, 217, 218, 219, 220, 221, 222, 223] (by decide +kernel) (by decide +kernel)) (goodIn_sub (fun _ h => List.mem_cons_of_mem _ (List.mem_append_right _ h)) (by decide +kernel))
set_option maxRecDepth 20000 in
theorem gX11_note_X5_see : GoodIn wsX11_note (wsV RX11 218 RX5 yX5_see wsX5_see) := goodIn_app (goodIn_of _ (by decide +kernel)) ggX11_note_X5_see
set_option maxRecDepth 20000 in
theorem ggX11_note_X11_placeOf : GoodIn wsX11_note wsX11_placeOf := goodIn_r _ [120] (by decide +kernel) (by decide +kernel)
set_option maxRecDepth 20000 in
theorem gX11_note_X11_placeOf : GoodIn wsX11_note (va_wsS RX11 222 yX11_placeOf wsX11_placeOf) := goodIn_app (goodIn_of _ (by decide +kernel)) ggX11_note_X11_placeOf
set_option maxRecDepth 20000 in
theorem ggX11_note_X4_keep : GoodIn wsX11_note wsX4_keep := goodIn_ca (goodIn_r _ [179, 180, 181, 224, 225, 226, 227] (by decide +kernel) (by decide +kernel)) (goodIn_sub (fun _ h => List.mem_cons_of_mem _ (List.mem_append_right _ h)) (by decide +kernel))
set_option maxRecDepth 20000 in
theorem gX11_note_X4_keep : GoodIn wsX11_note (wsV RX11 226 RX4 yX4_keep wsX4_keep) := goodIn_app (goodIn_of _ (by decide +kernel)) ggX11_note_X4_keep
theorem dX11_note_0 : decode cX11_note 0 = .ok (.iload_n 1, 1) := by decide +kernel
theorem dX11_note_1 : decode cX11_note 1 = .ok (.iload_n 2, 1) := by decide +kernel
theorem dX11_note_2 : decode cX11_note 2 = .ok (.iload_n 3, 1) := by decide +kernel
theorem dX11_note_3 : decode cX11_note 3 = .ok (.invokestatic 212, 3) := by decide +kernel
theorem dX11_note_6 : decode cX11_note 6 = .ok (.aload_n 0, 1) := by decide +kernel
theorem dX11_note_7 : decode cX11_note 7 = .ok (.getfield 62, 3) := by decide +kernel
theorem dX11_note_10 : decode cX11_note 10 = .ok (.ldc 216, 2) := by decide +kernel
theorem dX11_note_12 : decode cX11_note 12 = .ok (.iload_n 1, 1) := by decide +kernel
theorem dX11_note_13 : decode cX11_note 13 = .ok (.invokevirtual 81, 3) := by decide +kernel
theorem dX11_note_16 : decode cX11_note 16 = .ok (.iload_n 2, 1) := by decide +kernel
theorem dX11_note_17 : decode cX11_note 17 = .ok (.iload_n 3, 1) := by decide +kernel
theorem dX11_note_18 : decode cX11_note 18 = .ok (.invokevirtual 218, 3) := by decide +kernel
theorem dX11_note_21 : decode cX11_note 21 = .ok (.istore 4, 2) := by decide +kernel
theorem dX11_note_23 : decode cX11_note 23 = .ok (.aload_n 0, 1) := by decide +kernel
theorem dX11_note_24 : decode cX11_note 24 = .ok (.getfield 25, 3) := by decide +kernel
theorem dX11_note_27 : decode cX11_note 27 = .ok (.ldc 216, 2) := by decide +kernel
theorem dX11_note_29 : decode cX11_note 29 = .ok (.iload_n 1, 1) := by decide +kernel
theorem dX11_note_30 : decode cX11_note 30 = .ok (.invokevirtual 81, 3) := by decide +kernel
theorem dX11_note_33 : decode cX11_note 33 = .ok (.iload_n 2, 1) := by decide +kernel
theorem dX11_note_34 : decode cX11_note 34 = .ok (.iload_n 3, 1) := by decide +kernel
theorem dX11_note_35 : decode cX11_note 35 = .ok (.invokestatic 222, 3) := by decide +kernel
theorem dX11_note_38 : decode cX11_note 38 = .ok (.iload 4, 2) := by decide +kernel
theorem dX11_note_40 : decode cX11_note 40 = .ok (.invokevirtual 226, 3) := by decide +kernel
theorem dX11_note_43 : decode cX11_note 43 = .ok (.iload 4, 2) := by decide +kernel
theorem dX11_note_45 : decode cX11_note 45 = .ok (.ireturn, 1) := by decide +kernel
set_option maxRecDepth 20000 in
theorem ggX11_noted_X11_demandRayAndPlace : GoodIn wsX11_noted wsX11_demandRayAndPlace := goodIn_ca (goodIn_r _ [5, 6, 7, 8, 9, 10, 11, 12, 13, 14, 15, 16, 17, 18, 19, 20, 21, 22, 23, 24, 25, 26, 27, 28, 29, 30, 31, 32, 33, 34, 35, 36, 37, 38, 39, 40, 41, 42, 43, 44, 45, 46, 47, 48, 49, 50, 51, 52, 53, 54, 55, 56, 57, 58, 59, 60, 61, 62, 63, 64, 65, 66, 67, 68, 69, 70, 71, 72, 73, 74, 75, 76, 77, 78, 79, 80, 81, 82, 83, 84, 85, 86, 87, 88, 89, 90, 91, 92, 93, 94, 95, 96, 97, 98, 4, 99, 133, 134, 135, 136] (by decide +kernel) (by decide +kernel)) (goodIn_sub (fun _ h => List.mem_cons_of_mem _ (List.mem_append_left _ (List.mem_append_left _ (List.mem_append_right _ h)))) (by decide +kernel))
set_option maxRecDepth 20000 in
theorem gX11_noted_X11_demandRayAndPlace : GoodIn wsX11_noted (va_wsS RX11 212 yX11_demandRayAndPlace wsX11_demandRayAndPlace) := goodIn_app (goodIn_of _ (by decide +kernel)) ggX11_noted_X11_demandRayAndPlace
set_option maxRecDepth 20000 in
theorem ggX11_noted_J0_indexOf_0f7a4 : GoodIn wsX11_noted wsJ0_indexOf_0f7a4 := goodIn_r _ [12, 13, 14, 15, 11, 16, 17, 18, 19, 20, 21, 22, 23, 24, 25, 26, 27, 28, 29, 30, 31, 32, 33, 34, 35, 36, 37, 38, 39, 40, 41, 42, 43, 44, 45, 46, 47, 48, 49, 50, 51, 52, 53, 54, 55, 56, 57, 58, 59, 60, 61, 62, 63, 64, 65, 66, 67, 68, 69, 70, 71, 72, 73, 74, 75, 76, 77, 78, 79, 80, 81, 82, 83, 84, 85, 86, 87, 88, 89, 90, 91, 92, 93, 94, 95, 96, 133, 134, 135, 136] (by decide +kernel) (by decide +kernel)
set_option maxRecDepth 20000 in
theorem gX11_noted_J0_indexOf_0f7a4 : GoodIn wsX11_noted (wsV RX11 81 RJ0 yJ0_indexOf_0f7a4 wsJ0_indexOf_0f7a4) := goodIn_app (goodIn_of _ (by decide +kernel)) ggX11_noted_J0_indexOf_0f7a4
set_option maxRecDepth 20000 in
theorem ggX11_noted_X11_placeOf : GoodIn wsX11_noted wsX11_placeOf := goodIn_r _ [102] (by decide +kernel) (by decide +kernel)
set_option maxRecDepth 20000 in
theorem gX11_noted_X11_placeOf : GoodIn wsX11_noted (va_wsS RX11 222 yX11_placeOf wsX11_placeOf) := goodIn_app (goodIn_of _ (by decide +kernel)) ggX11_noted_X11_placeOf
set_option maxRecDepth 20000 in
theorem ggX11_noted_X4_has : GoodIn wsX11_noted wsX4_has := goodIn_ca (goodIn_r _ [107, 108, 137, 138, 139, 140] (by decide +kernel) (by decide +kernel)) (goodIn_sub (fun _ h => List.mem_cons_of_mem _ (List.mem_append_left _ (List.mem_append_right _ h))) (by decide +kernel))
set_option maxRecDepth 20000 in
theorem gX11_noted_X4_has : GoodIn wsX11_noted (wsV RX11 230 RX4 yX4_has wsX4_has) := goodIn_app (goodIn_of _ (by decide +kernel)) ggX11_noted_X4_has
set_option maxRecDepth 20000 in
theorem ggX11_noted_X11_demandElement : GoodIn wsX11_noted wsX11_demandElement := goodIn_ca (goodIn_r _ [111, 112, 113] (by decide +kernel) (by decide +kernel)) (goodIn_sub (fun _ h => List.mem_cons_of_mem _ (List.mem_append_right _ h)) (by decide +kernel))
set_option maxRecDepth 20000 in
theorem gX11_noted_X11_demandElement : GoodIn wsX11_noted (va_wsS RX11 187 yX11_demandElement wsX11_demandElement) := goodIn_app (goodIn_of _ (by decide +kernel)) ggX11_noted_X11_demandElement
set_option maxRecDepth 20000 in
theorem ggX11_noted_X4_read : GoodIn wsX11_noted wsX4_read := goodIn_ca (goodIn_r _ [117, 118, 137, 138, 139, 140] (by decide +kernel) (by decide +kernel)) (goodIn_sub (fun _ h => List.mem_cons_of_mem _ (List.mem_append_left _ (List.mem_append_right _ h))) (by decide +kernel))
set_option maxRecDepth 20000 in
theorem gX11_noted_X4_read : GoodIn wsX11_noted (wsV RX11 233 RX4 yX4_read wsX4_read) := goodIn_app (goodIn_of _ (by decide +kernel)) ggX11_noted_X4_read
theorem dX11_noted_0 : decode cX11_noted 0 = .ok (.iload_n 1, 1) := by decide +kernel
theorem dX11_noted_1 : decode cX11_noted 1 = .ok (.iload_n 2, 1) := by decide +kernel
theorem dX11_noted_2 : decode cX11_noted 2 = .ok (.iload_n 3, 1) := by decide +kernel
theorem dX11_noted_3 : decode cX11_noted 3 = .ok (.invokestatic 212, 3) := by decide +kernel
theorem dX11_noted_6 : decode cX11_noted 6 = .ok (.aload_n 0, 1) := by decide +kernel
theorem dX11_noted_7 : decode cX11_noted 7 = .ok (.getfield 25, 3) := by decide +kernel
theorem dX11_noted_10 : decode cX11_noted 10 = .ok (.ldc 216, 2) := by decide +kernel
theorem dX11_noted_12 : decode cX11_noted 12 = .ok (.iload_n 1, 1) := by decide +kernel
theorem dX11_noted_13 : decode cX11_noted 13 = .ok (.invokevirtual 81, 3) := by decide +kernel
theorem dX11_noted_16 : decode cX11_noted 16 = .ok (.iload_n 2, 1) := by decide +kernel
theorem dX11_noted_17 : decode cX11_noted 17 = .ok (.iload_n 3, 1) := by decide +kernel
theorem dX11_noted_18 : decode cX11_noted 18 = .ok (.invokestatic 222, 3) := by decide +kernel
theorem dX11_noted_21 : decode cX11_noted 21 = .ok (.invokevirtual 230, 3) := by decide +kernel
theorem dX11_noted_24 : decode cX11_noted 24 = .ok (.invokestatic 187, 3) := by decide +kernel
theorem dX11_noted_27 : decode cX11_noted 27 = .ok (.aload_n 0, 1) := by decide +kernel
theorem dX11_noted_28 : decode cX11_noted 28 = .ok (.getfield 25, 3) := by decide +kernel
theorem dX11_noted_31 : decode cX11_noted 31 = .ok (.ldc 216, 2) := by decide +kernel
theorem dX11_noted_33 : decode cX11_noted 33 = .ok (.iload_n 1, 1) := by decide +kernel
theorem dX11_noted_34 : decode cX11_noted 34 = .ok (.invokevirtual 81, 3) := by decide +kernel
theorem dX11_noted_37 : decode cX11_noted 37 = .ok (.iload_n 2, 1) := by decide +kernel
theorem dX11_noted_38 : decode cX11_noted 38 = .ok (.iload_n 3, 1) := by decide +kernel
theorem dX11_noted_39 : decode cX11_noted 39 = .ok (.invokestatic 222, 3) := by decide +kernel
theorem dX11_noted_42 : decode cX11_noted 42 = .ok (.invokevirtual 233, 3) := by decide +kernel
theorem dX11_noted_45 : decode cX11_noted 45 = .ok (.ireturn, 1) := by decide +kernel
set_option maxRecDepth 20000 in
theorem ggX11_guesses_X11_demandPlace : GoodIn wsX11_guesses wsX11_demandPlace := goodIn_ca (goodIn_r _ [7, 8, 9, 10, 11, 6, 12] (by decide +kernel) (by decide +kernel)) (goodIn_sub (fun _ h => List.mem_cons_of_mem _ (List.mem_append_left _ (List.mem_append_right _ h))) (by decide +kernel))
set_option maxRecDepth 20000 in
theorem gX11_guesses_X11_demandPlace : GoodIn wsX11_guesses (va_wsS RX11 176 yX11_demandPlace wsX11_demandPlace) := goodIn_app (goodIn_of _ (by decide +kernel)) ggX11_guesses_X11_demandPlace
set_option maxRecDepth 20000 in
theorem ggX11_guesses_X11_placeOf : GoodIn wsX11_guesses wsX11_placeOf := goodIn_r _ [15] (by decide +kernel) (by decide +kernel)
set_option maxRecDepth 20000 in
theorem gX11_guesses_X11_placeOf : GoodIn wsX11_guesses (va_wsS RX11 222 yX11_placeOf wsX11_placeOf) := goodIn_app (goodIn_of _ (by decide +kernel)) ggX11_guesses_X11_placeOf
set_option maxRecDepth 20000 in
theorem ggX11_guesses_X4_countGuesses : GoodIn wsX11_guesses wsX4_countGuesses := goodIn_ca (goodIn_r _ [20, 21, 22, 23, 24, 25, 26, 27, 28, 29, 30, 31, 32, 33, 34, 35, 36, 37, 38, 39, 40, 41, 42, 43, 44, 45, 46, 47, 48, 49, 19, 50, 51, 52, 53, 54, 55, 56, 57, 58, 59, 60, 61, 62, 63, 64, 65, 66, 67, 68, 69, 70, 71, 72, 73, 74, 75, 76, 77, 78, 79, 80, 81, 82, 83, 84, 85, 86, 87, 88, 89, 90, 91, 92, 93, 94, 95, 96, 97, 98, 99, 100, 101, 102, 103, 104, 105, 106, 107, 108, 109, 110, 111, 112, 113, 114, 115, 116, 117, 118, 119, 120, 121, 122, 123, 124, 125, 126, 127, 128, 129, 130, 131, 132, 147, 148, 149, 150, 151, 152, 153, 154, 155, 156, 157, 158, 159, 160, 161, 162, 163, 164, 165, 166, 167, 168, 169, 170, 171, 172] (by decide +kernel) (by decide +kernel)) (goodIn_sub (fun _ h => List.mem_cons_of_mem _ (List.mem_append_right _ h)) (by decide +kernel))
set_option maxRecDepth 20000 in
theorem gX11_guesses_X4_countGuesses : GoodIn wsX11_guesses (wsV RX11 237 RX4 yX4_countGuesses wsX4_countGuesses) := goodIn_app (goodIn_of _ (by decide +kernel)) ggX11_guesses_X4_countGuesses
theorem dX11_guesses_0 : decode cX11_guesses 0 = .ok (.iload_n 1, 1) := by decide +kernel
theorem dX11_guesses_1 : decode cX11_guesses 1 = .ok (.iload_n 2, 1) := by decide +kernel
theorem dX11_guesses_2 : decode cX11_guesses 2 = .ok (.invokestatic 176, 3) := by decide +kernel
theorem dX11_guesses_5 : decode cX11_guesses 5 = .ok (.aload_n 0, 1) := by decide +kernel
theorem dX11_guesses_6 : decode cX11_guesses 6 = .ok (.getfield 25, 3) := by decide +kernel
theorem dX11_guesses_9 : decode cX11_guesses 9 = .ok (.aload_n 0, 1) := by decide +kernel
theorem dX11_guesses_10 : decode cX11_guesses 10 = .ok (.getfield 10, 3) := by decide +kernel
theorem dX11_guesses_13 : decode cX11_guesses 13 = .ok (.iload_n 1, 1) := by decide +kernel
theorem dX11_guesses_14 : decode cX11_guesses 14 = .ok (.iload_n 2, 1) := by decide +kernel
theorem dX11_guesses_15 : decode cX11_guesses 15 = .ok (.invokestatic 222, 3) := by decide +kernel
theorem dX11_guesses_18 : decode cX11_guesses 18 = .ok (.ldc 236, 2) := by decide +kernel
theorem dX11_guesses_20 : decode cX11_guesses 20 = .ok (.invokevirtual 237, 3) := by decide +kernel
theorem dX11_guesses_23 : decode cX11_guesses 23 = .ok (.ireturn, 1) := by decide +kernel
set_option maxRecDepth 20000 in
theorem ggX11_guessAt_X11_demandPlace : GoodIn wsX11_guessAt wsX11_demandPlace := goodIn_ca (goodIn_r _ [11, 12, 13, 14, 15, 10, 16] (by decide +kernel) (by decide +kernel)) (goodIn_sub (fun _ h => List.mem_cons_of_mem _ (List.mem_append_left _ (List.mem_append_left _ (List.mem_append_right _ h)))) (by decide +kernel))
set_option maxRecDepth 20000 in
theorem gX11_guessAt_X11_demandPlace : GoodIn wsX11_guessAt (va_wsS RX11 176 yX11_demandPlace wsX11_demandPlace) := goodIn_app (goodIn_of _ (by decide +kernel)) ggX11_guessAt_X11_demandPlace
set_option maxRecDepth 20000 in
theorem ggX11_guessAt_X11_demandElement : GoodIn wsX11_guessAt wsX11_demandElement := goodIn_ca (goodIn_r _ [19, 20, 21] (by decide +kernel) (by decide +kernel)) (goodIn_sub (fun _ h => List.mem_cons_of_mem _ (List.mem_append_left _ (List.mem_append_right _ h))) (by decide +kernel))
set_option maxRecDepth 20000 in
theorem gX11_guessAt_X11_demandElement : GoodIn wsX11_guessAt (va_wsS RX11 187 yX11_demandElement wsX11_demandElement) := goodIn_app (goodIn_of _ (by decide +kernel)) ggX11_guessAt_X11_demandElement
set_option maxRecDepth 20000 in
theorem ggX11_guessAt_X11_placeOf : GoodIn wsX11_guessAt wsX11_placeOf := goodIn_r _ [24] (by decide +kernel) (by decide +kernel)
set_option maxRecDepth 20000 in
theorem gX11_guessAt_X11_placeOf : GoodIn wsX11_guessAt (va_wsS RX11 222 yX11_placeOf wsX11_placeOf) := goodIn_app (goodIn_of _ (by decide +kernel)) ggX11_guessAt_X11_placeOf
set_option maxRecDepth 20000 in
theorem ggX11_guessAt_X4_countGuesses : GoodIn wsX11_guessAt wsX4_countGuesses := goodIn_ca (goodIn_r _ [29, 30, 31, 32, 33, 34, 35, 36, 37, 38, 39, 40, 41, 42, 43, 44, 45, 46, 47, 48, 49, 50, 51, 52, 53, 54, 55, 56, 57, 58, 28, 59, 60, 61, 62, 63, 64, 65, 66, 67, 68, 69, 70, 71, 72, 73, 74, 75, 76, 77, 78, 79, 80, 81, 82, 83, 84, 85, 86, 87, 88, 89, 90, 91, 92, 93, 94, 95, 96, 97, 98, 99, 100, 101, 102, 103, 104, 105, 106, 107, 108, 109, 110, 111, 112, 113, 114, 115, 116, 117, 118, 119, 120, 121, 122, 123, 124, 125, 126, 127, 128, 129, 130, 131, 132, 133, 134, 135, 136, 137, 138, 139, 140, 141, 159, 160, 161, 162, 171, 172, 173, 174, 175, 176, 177, 178, 179, 180, 181, 182, 183, 184, 163, 164, 165, 166, 167, 168, 169, 170] (by decide +kernel) (by decide +kernel)) (goodIn_sub (fun _ h => List.mem_cons_of_mem _ (List.mem_append_right _ h)) (by decide +kernel))
set_option maxRecDepth 20000 in
theorem gX11_guessAt_X4_countGuesses : GoodIn wsX11_guessAt (wsV RX11 237 RX4 yX4_countGuesses wsX4_countGuesses) := goodIn_app (goodIn_of _ (by decide +kernel)) ggX11_guessAt_X4_countGuesses
set_option maxRecDepth 20000 in
theorem ggX11_guessAt_X11_isWithin : GoodIn wsX11_guessAt wsX11_isWithin := goodIn_r _ [144] (by decide +kernel) (by decide +kernel)
set_option maxRecDepth 20000 in
theorem gX11_guessAt_X11_isWithin : GoodIn wsX11_guessAt (va_wsS RX11 91 yX11_isWithin wsX11_isWithin) := goodIn_app (goodIn_of _ (by decide +kernel)) ggX11_guessAt_X11_isWithin
theorem dX11_guessAt_0 : decode cX11_guessAt 0 = .ok (.iload_n 1, 1) := by decide +kernel
theorem dX11_guessAt_1 : decode cX11_guessAt 1 = .ok (.iload_n 2, 1) := by decide +kernel
theorem dX11_guessAt_2 : decode cX11_guessAt 2 = .ok (.invokestatic 176, 3) := by decide +kernel
theorem dX11_guessAt_5 : decode cX11_guessAt 5 = .ok (.iload_n 3, 1) := by decide +kernel
theorem dX11_guessAt_6 : decode cX11_guessAt 6 = .ok (.ifCond .lt 7, 3) := by decide +kernel
theorem dX11_guessAt_9 : decode cX11_guessAt 9 = .ok (.iconst 1, 1) := by decide +kernel
theorem dX11_guessAt_10 : decode cX11_guessAt 10 = .ok (.goto 4, 3) := by decide +kernel
theorem dX11_guessAt_13 : decode cX11_guessAt 13 = .ok (.iconst 0, 1) := by decide +kernel
theorem dX11_guessAt_14 : decode cX11_guessAt 14 = .ok (.invokestatic 187, 3) := by decide +kernel
theorem dX11_guessAt_17 : decode cX11_guessAt 17 = .ok (.aload_n 0, 1) := by decide +kernel
theorem dX11_guessAt_18 : decode cX11_guessAt 18 = .ok (.getfield 25, 3) := by decide +kernel
theorem dX11_guessAt_21 : decode cX11_guessAt 21 = .ok (.aload_n 0, 1) := by decide +kernel
theorem dX11_guessAt_22 : decode cX11_guessAt 22 = .ok (.getfield 10, 3) := by decide +kernel
theorem dX11_guessAt_25 : decode cX11_guessAt 25 = .ok (.iload_n 1, 1) := by decide +kernel
theorem dX11_guessAt_26 : decode cX11_guessAt 26 = .ok (.iload_n 2, 1) := by decide +kernel
theorem dX11_guessAt_27 : decode cX11_guessAt 27 = .ok (.invokestatic 222, 3) := by decide +kernel
theorem dX11_guessAt_30 : decode cX11_guessAt 30 = .ok (.iload_n 3, 1) := by decide +kernel
theorem dX11_guessAt_31 : decode cX11_guessAt 31 = .ok (.invokevirtual 237, 3) := by decide +kernel
theorem dX11_guessAt_34 : decode cX11_guessAt 34 = .ok (.iload_n 3, 1) := by decide +kernel
theorem dX11_guessAt_35 : decode cX11_guessAt 35 = .ok (.if_icmp .le 7, 3) := by decide +kernel
theorem dX11_guessAt_38 : decode cX11_guessAt 38 = .ok (.iconst 1, 1) := by decide +kernel
theorem dX11_guessAt_39 : decode cX11_guessAt 39 = .ok (.goto 4, 3) := by decide +kernel
theorem dX11_guessAt_42 : decode cX11_guessAt 42 = .ok (.iconst 0, 1) := by decide +kernel
theorem dX11_guessAt_43 : decode cX11_guessAt 43 = .ok (.invokestatic 187, 3) := by decide +kernel
theorem dX11_guessAt_46 : decode cX11_guessAt 46 = .ok (.aload_n 0, 1) := by decide +kernel
theorem dX11_guessAt_47 : decode cX11_guessAt 47 = .ok (.getfield 25, 3) := by decide +kernel
theorem dX11_guessAt_50 : decode cX11_guessAt 50 = .ok (.getfield 241, 3) := by decide +kernel
theorem dX11_guessAt_53 : decode cX11_guessAt 53 = .ok (.astore 5, 2) := by decide +kernel
theorem dX11_guessAt_55 : decode cX11_guessAt 55 = .ok (.iload 4, 2) := by decide +kernel
theorem dX11_guessAt_57 : decode cX11_guessAt 57 = .ok (.iconst 0, 1) := by decide +kernel
theorem dX11_guessAt_58 : decode cX11_guessAt 58 = .ok (.aload 5, 2) := by decide +kernel
theorem dX11_guessAt_60 : decode cX11_guessAt 60 = .ok (.getfield 183, 3) := by decide +kernel
theorem dX11_guessAt_63 : decode cX11_guessAt 63 = .ok (.iconst 1, 1) := by decide +kernel
theorem dX11_guessAt_64 : decode cX11_guessAt 64 = .ok (.isub, 1) := by decide +kernel
theorem dX11_guessAt_65 : decode cX11_guessAt 65 = .ok (.invokestatic 91, 3) := by decide +kernel
theorem dX11_guessAt_68 : decode cX11_guessAt 68 = .ok (.invokestatic 187, 3) := by decide +kernel
theorem dX11_guessAt_71 : decode cX11_guessAt 71 = .ok (.aload 5, 2) := by decide +kernel
theorem dX11_guessAt_73 : decode cX11_guessAt 73 = .ok (.getfield 190, 3) := by decide +kernel
theorem dX11_guessAt_76 : decode cX11_guessAt 76 = .ok (.iload 4, 2) := by decide +kernel
theorem dX11_guessAt_78 : decode cX11_guessAt 78 = .ok (.aaload, 1) := by decide +kernel
theorem dX11_guessAt_79 : decode cX11_guessAt 79 = .ok (.getfield 245, 3) := by decide +kernel
theorem dX11_guessAt_82 : decode cX11_guessAt 82 = .ok (.getfield 131, 3) := by decide +kernel
theorem dX11_guessAt_85 : decode cX11_guessAt 85 = .ok (.ireturn, 1) := by decide +kernel
set_option maxRecDepth 20000 in
theorem ggX11_isPossible_X11_demandPlace : GoodIn wsX11_isPossible wsX11_demandPlace := goodIn_ca (goodIn_r _ [6, 7, 8, 9, 10, 5, 11] (by decide +kernel) (by decide +kernel)) (goodIn_sub (fun _ h => List.mem_cons_of_mem _ (List.mem_append_left _ (List.mem_append_right _ h))) (by decide +kernel))
set_option maxRecDepth 20000 in
theorem gX11_isPossible_X11_demandPlace : GoodIn wsX11_isPossible (va_wsS RX11 176 yX11_demandPlace wsX11_demandPlace) := goodIn_app (goodIn_of _ (by decide +kernel)) ggX11_isPossible_X11_demandPlace
set_option maxRecDepth 20000 in
theorem ggX11_isPossible_X11_placeOf : GoodIn wsX11_isPossible wsX11_placeOf := goodIn_r _ [14] (by decide +kernel) (by decide +kernel)
set_option maxRecDepth 20000 in
theorem gX11_isPossible_X11_placeOf : GoodIn wsX11_isPossible (va_wsS RX11 222 yX11_placeOf wsX11_placeOf) := goodIn_app (goodIn_of _ (by decide +kernel)) ggX11_isPossible_X11_placeOf
set_option maxRecDepth 20000 in
theorem ggX11_isPossible_X5_at : GoodIn wsX11_isPossible wsX5_at := goodIn_r _ [19, 20, 13, 5, 14, 105, 106, 107, 108, 109] (by decide +kernel) (by decide +kernel)
set_option maxRecDepth 20000 in
theorem gX11_isPossible_X5_at : GoodIn wsX11_isPossible (wsV RX11 179 RX5 yX5_at wsX5_at) := goodIn_app (goodIn_of _ (by decide +kernel)) ggX11_isPossible_X5_at
set_option maxRecDepth 20000 in
theorem ggX11_isPossible_X4_match : GoodIn wsX11_isPossible wsX4_match := goodIn_ca (goodIn_r _ [25, 26, 27, 28, 29, 30, 31, 32, 24, 33, 34, 35, 36, 37, 38, 39, 40, 41, 42, 43, 44, 45, 46, 47, 48, 49, 50, 51, 52, 53, 54, 55, 56, 57, 58, 59, 60, 61, 62, 63, 64, 65, 66, 67, 68, 69, 70, 71, 72, 73, 74, 75, 76, 77, 78, 79, 80, 81, 82, 83, 84, 85, 86, 87, 88, 89, 90, 110, 111, 112, 113, 114, 115, 116, 117, 118, 119, 120, 121, 122, 123, 124, 125, 126, 127, 128, 129, 130, 131, 132] (by decide +kernel) (by decide +kernel)) (goodIn_sub (fun _ h => List.mem_cons_of_mem _ (List.mem_append_right _ h)) (by decide +kernel))
set_option maxRecDepth 20000 in
theorem gX11_isPossible_X4_match : GoodIn wsX11_isPossible (wsV RX11 248 RX4 yX4_match wsX4_match) := goodIn_app (goodIn_of _ (by decide +kernel)) ggX11_isPossible_X4_match
theorem dX11_isPossible_0 : decode cX11_isPossible 0 = .ok (.iload_n 1, 1) := by decide +kernel
theorem dX11_isPossible_1 : decode cX11_isPossible 1 = .ok (.iload_n 2, 1) := by decide +kernel
theorem dX11_isPossible_2 : decode cX11_isPossible 2 = .ok (.invokestatic 176, 3) := by decide +kernel
theorem dX11_isPossible_5 : decode cX11_isPossible 5 = .ok (.aload_n 0, 1) := by decide +kernel
theorem dX11_isPossible_6 : decode cX11_isPossible 6 = .ok (.getfield 25, 3) := by decide +kernel
theorem dX11_isPossible_9 : decode cX11_isPossible 9 = .ok (.iload_n 1, 1) := by decide +kernel
theorem dX11_isPossible_10 : decode cX11_isPossible 10 = .ok (.iload_n 2, 1) := by decide +kernel
theorem dX11_isPossible_11 : decode cX11_isPossible 11 = .ok (.invokestatic 222, 3) := by decide +kernel
theorem dX11_isPossible_14 : decode cX11_isPossible 14 = .ok (.aload_n 0, 1) := by decide +kernel
theorem dX11_isPossible_15 : decode cX11_isPossible 15 = .ok (.getfield 62, 3) := by decide +kernel
theorem dX11_isPossible_18 : decode cX11_isPossible 18 = .ok (.iload_n 1, 1) := by decide +kernel
theorem dX11_isPossible_19 : decode cX11_isPossible 19 = .ok (.iload_n 2, 1) := by decide +kernel
theorem dX11_isPossible_20 : decode cX11_isPossible 20 = .ok (.invokevirtual 179, 3) := by decide +kernel
theorem dX11_isPossible_23 : decode cX11_isPossible 23 = .ok (.invokevirtual 248, 3) := by decide +kernel
theorem dX11_isPossible_26 : decode cX11_isPossible 26 = .ok (.ireturn, 1) := by decide +kernel
set_option maxRecDepth 20000 in
theorem ggX11_original_X11_isWithin : GoodIn wsX11_original wsX11_isWithin := goodIn_r _ [5] (by decide +kernel) (by decide +kernel)
set_option maxRecDepth 20000 in
theorem gX11_original_X11_isWithin : GoodIn wsX11_original (va_wsS RX11 91 yX11_isWithin wsX11_isWithin) := goodIn_app (goodIn_of _ (by decide +kernel)) ggX11_original_X11_isWithin
set_option maxRecDepth 20000 in
theorem ggX11_original_X11_demandArgument : GoodIn wsX11_original wsX11_demandArgument := goodIn_ca (goodIn_r _ [8, 9, 10] (by decide +kernel) (by decide +kernel)) (goodIn_sub (fun _ h => List.mem_cons_of_mem _ (List.mem_append_right _ h)) (by decide +kernel))
set_option maxRecDepth 20000 in
theorem gX11_original_X11_demandArgument : GoodIn wsX11_original (va_wsS RX11 87 yX11_demandArgument wsX11_demandArgument) := goodIn_app (goodIn_of _ (by decide +kernel)) ggX11_original_X11_demandArgument
theorem dX11_original_0 : decode cX11_original 0 = .ok (.iload_n 1, 1) := by decide +kernel
theorem dX11_original_1 : decode cX11_original 1 = .ok (.iconst 0, 1) := by decide +kernel
theorem dX11_original_2 : decode cX11_original 2 = .ok (.sipush 9999, 3) := by decide +kernel
theorem dX11_original_5 : decode cX11_original 5 = .ok (.invokestatic 91, 3) := by decide +kernel
theorem dX11_original_8 : decode cX11_original 8 = .ok (.invokestatic 87, 3) := by decide +kernel
theorem dX11_original_11 : decode cX11_original 11 = .ok (.aload_n 0, 1) := by decide +kernel
theorem dX11_original_12 : decode cX11_original 12 = .ok (.getfield 76, 3) := by decide +kernel
theorem dX11_original_15 : decode cX11_original 15 = .ok (.istore_n 2, 1) := by decide +kernel
theorem dX11_original_16 : decode cX11_original 16 = .ok (.aload_n 0, 1) := by decide +kernel
theorem dX11_original_17 : decode cX11_original 17 = .ok (.iload_n 1, 1) := by decide +kernel
theorem dX11_original_18 : decode cX11_original 18 = .ok (.putfield 76, 3) := by decide +kernel
theorem dX11_original_21 : decode cX11_original 21 = .ok (.iload_n 2, 1) := by decide +kernel
theorem dX11_original_22 : decode cX11_original 22 = .ok (.ireturn, 1) := by decide +kernel
set_option maxRecDepth 20000 in
theorem ggX11_tooYoung_X11_isWithin : GoodIn wsX11_tooYoung wsX11_isWithin := goodIn_r _ [9] (by decide +kernel) (by decide +kernel)
set_option maxRecDepth 20000 in
theorem gX11_tooYoung_X11_isWithin : GoodIn wsX11_tooYoung (va_wsS RX11 91 yX11_isWithin wsX11_isWithin) := goodIn_app (goodIn_of _ (by decide +kernel)) ggX11_tooYoung_X11_isWithin
set_option maxRecDepth 20000 in
theorem ggX11_tooYoung_X11_demandArgument : GoodIn wsX11_tooYoung wsX11_demandArgument := goodIn_ca (goodIn_r _ [12, 13, 14] (by decide +kernel) (by decide +kernel)) (goodIn_sub (fun _ h => List.mem_cons_of_mem _ (List.mem_append_left _ (List.mem_append_right _ h))) (by decide +kernel))
set_option maxRecDepth 20000 in
theorem gX11_tooYoung_X11_demandArgument : GoodIn wsX11_tooYoung (va_wsS RX11 87 yX11_demandArgument wsX11_demandArgument) := goodIn_app (goodIn_of _ (by decide +kernel)) ggX11_tooYoung_X11_demandArgument
set_option maxRecDepth 20000 in
theorem ggX11_tooYoung_Jx4a65c_size_8abf5 : GoodIn wsX11_tooYoung wsJx4a65c_size_8abf5 := goodIn_r _ [19, 20, 84, 85, 86] (by decide +kernel) (by decide +kernel)
set_option maxRecDepth 20000 in
theorem gX11_tooYoung_Jx4a65c_size_8abf5 : GoodIn wsX11_tooYoung (wsV RX11 95 RJx4a65c yJx4a65c_size_8abf5 wsJx4a65c_size_8abf5) := goodIn_app (goodIn_of _ (by decide +kernel)) ggX11_tooYoung_Jx4a65c_size_8abf5
set_option maxRecDepth 20000 in
theorem ggX11_tooYoung_Jx4a65c_get_915e3 : GoodIn wsX11_tooYoung wsJx4a65c_get_915e3 := goodIn_r _ [24, 20, 25, 26, 27, 28, 29, 30, 31, 32, 33, 34, 35, 18, 36, 37, 84, 85, 86] (by decide +kernel) (by decide +kernel)
set_option maxRecDepth 20000 in
theorem gX11_tooYoung_Jx4a65c_get_915e3 : GoodIn wsX11_tooYoung (wsV RX11 145 RJx4a65c yJx4a65c_get_915e3 wsJx4a65c_get_915e3) := goodIn_app (goodIn_of _ (by decide +kernel)) ggX11_tooYoung_Jx4a65c_get_915e3
set_option maxRecDepth 20000 in
theorem ggX11_tooYoung_X5_hasOriginal : GoodIn wsX11_tooYoung wsX5_hasOriginal := goodIn_r _ [42, 43, 44, 45, 46, 47, 48, 49, 50, 51, 52, 53, 87, 88, 89, 90, 91, 92, 93, 94, 95, 96, 97, 98, 99, 73, 74, 75, 76, 77, 78, 79, 80, 81, 82, 83] (by decide +kernel) (by decide +kernel)
set_option maxRecDepth 20000 in
theorem gX11_tooYoung_X5_hasOriginal : GoodIn wsX11_tooYoung (wsV RX11 252 RX5 yX5_hasOriginal wsX5_hasOriginal) := goodIn_app (goodIn_of _ (by decide +kernel)) ggX11_tooYoung_X5_hasOriginal
set_option maxRecDepth 20000 in
theorem ggX11_tooYoung_X11_demandElement : GoodIn wsX11_tooYoung wsX11_demandElement := goodIn_ca (goodIn_r _ [56, 57, 58] (by decide +kernel) (by decide +kernel)) (goodIn_sub (fun _ h => List.mem_cons_of_mem _ (List.mem_append_right _ h)) (by decide +kernel))
set_option maxRecDepth 20000 in
theorem gX11_tooYoung_X11_demandElement : GoodIn wsX11_tooYoung (va_wsS RX11 187 yX11_demandElement wsX11_demandElement) := goodIn_app (goodIn_of _ (by decide +kernel)) ggX11_tooYoung_X11_demandElement
theorem dX11_tooYoung_0 : decode cX11_tooYoung 0 = .ok (.iload_n 1, 1) := by decide +kernel
theorem dX11_tooYoung_1 : decode cX11_tooYoung 1 = .ok (.iconst 0, 1) := by decide +kernel
theorem dX11_tooYoung_2 : decode cX11_tooYoung 2 = .ok (.sipush 9999, 3) := by decide +kernel
theorem dX11_tooYoung_5 : decode cX11_tooYoung 5 = .ok (.invokestatic 91, 3) := by decide +kernel
theorem dX11_tooYoung_8 : decode cX11_tooYoung 8 = .ok (.invokestatic 87, 3) := by decide +kernel
theorem dX11_tooYoung_11 : decode cX11_tooYoung 11 = .ok (.iconst (-1), 1) := by decide +kernel
theorem dX11_tooYoung_12 : decode cX11_tooYoung 12 = .ok (.istore_n 2, 1) := by decide +kernel
theorem dX11_tooYoung_13 : decode cX11_tooYoung 13 = .ok (.aload_n 0, 1) := by decide +kernel
theorem dX11_tooYoung_14 : decode cX11_tooYoung 14 = .ok (.getfield 10, 3) := by decide +kernel
theorem dX11_tooYoung_17 : decode cX11_tooYoung 17 = .ok (.invokevirtual 95, 3) := by decide +kernel
theorem dX11_tooYoung_20 : decode cX11_tooYoung 20 = .ok (.iconst 1, 1) := by decide +kernel
theorem dX11_tooYoung_21 : decode cX11_tooYoung 21 = .ok (.isub, 1) := by decide +kernel
theorem dX11_tooYoung_22 : decode cX11_tooYoung 22 = .ok (.istore_n 3, 1) := by decide +kernel
theorem dX11_tooYoung_23 : decode cX11_tooYoung 23 = .ok (.iload_n 3, 1) := by decide +kernel
theorem dX11_tooYoung_24 : decode cX11_tooYoung 24 = .ok (.ifCond .lt 49, 3) := by decide +kernel
theorem dX11_tooYoung_27 : decode cX11_tooYoung 27 = .ok (.aload_n 0, 1) := by decide +kernel
theorem dX11_tooYoung_28 : decode cX11_tooYoung 28 = .ok (.getfield 10, 3) := by decide +kernel
theorem dX11_tooYoung_31 : decode cX11_tooYoung 31 = .ok (.iload_n 3, 1) := by decide +kernel
theorem dX11_tooYoung_32 : decode cX11_tooYoung 32 = .ok (.invokevirtual 145, 3) := by decide +kernel
theorem dX11_tooYoung_35 : decode cX11_tooYoung 35 = .ok (.checkcast 50, 3) := by decide +kernel
theorem dX11_tooYoung_38 : decode cX11_tooYoung 38 = .ok (.astore 4, 2) := by decide +kernel
theorem dX11_tooYoung_40 : decode cX11_tooYoung 40 = .ok (.aload 4, 2) := by decide +kernel
theorem dX11_tooYoung_42 : decode cX11_tooYoung 42 = .ok (.getfield 120, 3) := by decide +kernel
theorem dX11_tooYoung_45 : decode cX11_tooYoung 45 = .ok (.iload_n 1, 1) := by decide +kernel
theorem dX11_tooYoung_46 : decode cX11_tooYoung 46 = .ok (.if_icmp .le 21, 3) := by decide +kernel
theorem dX11_tooYoung_49 : decode cX11_tooYoung 49 = .ok (.aload_n 0, 1) := by decide +kernel
theorem dX11_tooYoung_50 : decode cX11_tooYoung 50 = .ok (.getfield 62, 3) := by decide +kernel
theorem dX11_tooYoung_53 : decode cX11_tooYoung 53 = .ok (.aload 4, 2) := by decide +kernel
theorem dX11_tooYoung_55 : decode cX11_tooYoung 55 = .ok (.aload_n 0, 1) := by decide +kernel
theorem dX11_tooYoung_56 : decode cX11_tooYoung 56 = .ok (.getfield 76, 3) := by decide +kernel
theorem dX11_tooYoung_59 : decode cX11_tooYoung 59 = .ok (.invokevirtual 252, 3) := by decide +kernel
theorem dX11_tooYoung_62 : decode cX11_tooYoung 62 = .ok (.ifCond .eq 5, 3) := by decide +kernel
theorem dX11_tooYoung_65 : decode cX11_tooYoung 65 = .ok (.iload_n 3, 1) := by decide +kernel
theorem dX11_tooYoung_66 : decode cX11_tooYoung 66 = .ok (.istore_n 2, 1) := by decide +kernel
theorem dX11_tooYoung_67 : decode cX11_tooYoung 67 = .ok (.iinc 3 (-1), 3) := by decide +kernel
theorem dX11_tooYoung_70 : decode cX11_tooYoung 70 = .ok (.goto (-47), 3) := by decide +kernel
theorem dX11_tooYoung_73 : decode cX11_tooYoung 73 = .ok (.iload_n 2, 1) := by decide +kernel
theorem dX11_tooYoung_74 : decode cX11_tooYoung 74 = .ok (.iconst (-1), 1) := by decide +kernel
theorem dX11_tooYoung_75 : decode cX11_tooYoung 75 = .ok (.if_icmp .eq 7, 3) := by decide +kernel
theorem dX11_tooYoung_78 : decode cX11_tooYoung 78 = .ok (.iconst 1, 1) := by decide +kernel
theorem dX11_tooYoung_79 : decode cX11_tooYoung 79 = .ok (.goto 4, 3) := by decide +kernel
theorem dX11_tooYoung_82 : decode cX11_tooYoung 82 = .ok (.iconst 0, 1) := by decide +kernel
theorem dX11_tooYoung_83 : decode cX11_tooYoung 83 = .ok (.invokestatic 187, 3) := by decide +kernel
theorem dX11_tooYoung_86 : decode cX11_tooYoung 86 = .ok (.iload_n 2, 1) := by decide +kernel
theorem dX11_tooYoung_87 : decode cX11_tooYoung 87 = .ok (.ireturn, 1) := by decide +kernel
set_option maxRecDepth 20000 in
theorem ggX11_ring_X11_isWithin : GoodIn wsX11_ring wsX11_isWithin := goodIn_r _ [9] (by decide +kernel) (by decide +kernel)
set_option maxRecDepth 20000 in
theorem gX11_ring_X11_isWithin : GoodIn wsX11_ring (va_wsS RX11 91 yX11_isWithin wsX11_isWithin) := goodIn_app (goodIn_of _ (by decide +kernel)) ggX11_ring_X11_isWithin
set_option maxRecDepth 20000 in
theorem ggX11_ring_X11_demandArgument : GoodIn wsX11_ring wsX11_demandArgument := goodIn_ca (goodIn_r _ [12, 13, 14] (by decide +kernel) (by decide +kernel)) (goodIn_sub (fun _ h => List.mem_cons_of_mem _ (List.mem_append_left _ (List.mem_append_left _ (List.mem_append_right _ h)))) (by decide +kernel))
set_option maxRecDepth 20000 in
theorem gX11_ring_X11_demandArgument : GoodIn wsX11_ring (va_wsS RX11 87 yX11_demandArgument wsX11_demandArgument) := goodIn_app (goodIn_of _ (by decide +kernel)) ggX11_ring_X11_demandArgument
set_option maxRecDepth 20000 in
theorem ggX11_ring_X11_demandRoom : GoodIn wsX11_ring wsX11_demandRoom := goodIn_ca (goodIn_r _ [17, 18, 19] (by decide +kernel) (by decide +kernel)) (goodIn_sub (fun _ h => List.mem_cons_of_mem _ (List.mem_append_left _ (List.mem_append_right _ h))) (by decide +kernel))
set_option maxRecDepth 20000 in
theorem gX11_ring_X11_demandRoom : GoodIn wsX11_ring (va_wsS RX11 99 yX11_demandRoom wsX11_demandRoom) := goodIn_app (goodIn_of _ (by decide +kernel)) ggX11_ring_X11_demandRoom
set_option maxRecDepth 20000 in
theorem ggX11_ring_X6_add : GoodIn wsX11_ring wsX6_add := goodIn_ca (goodIn_r _ [24, 25, 26, 46, 47] (by decide +kernel) (by decide +kernel)) (goodIn_sub (fun _ h => List.mem_cons_of_mem _ (List.mem_append_right _ h)) (by decide +kernel))
set_option maxRecDepth 20000 in
theorem gX11_ring_X6_add : GoodIn wsX11_ring (wsV RX11 270 RX6 yX6_add wsX6_add) := goodIn_app (goodIn_of _ (by decide +kernel)) ggX11_ring_X6_add
theorem dX11_ring_0 : decode cX11_ring 0 = .ok (.iload_n 1, 1) := by decide +kernel
theorem dX11_ring_1 : decode cX11_ring 1 = .ok (.iconst 1, 1) := by decide +kernel
theorem dX11_ring_2 : decode cX11_ring 2 = .ok (.bipush 99, 2) := by decide +kernel
theorem dX11_ring_4 : decode cX11_ring 4 = .ok (.invokestatic 91, 3) := by decide +kernel
theorem dX11_ring_7 : decode cX11_ring 7 = .ok (.invokestatic 87, 3) := by decide +kernel
theorem dX11_ring_10 : decode cX11_ring 10 = .ok (.iload_n 2, 1) := by decide +kernel
theorem dX11_ring_11 : decode cX11_ring 11 = .ok (.ifCond .eq 13, 3) := by decide +kernel
theorem dX11_ring_14 : decode cX11_ring 14 = .ok (.aload_n 0, 1) := by decide +kernel
theorem dX11_ring_15 : decode cX11_ring 15 = .ok (.getfield 32, 3) := by decide +kernel
theorem dX11_ring_18 : decode cX11_ring 18 = .ok (.getfield 256, 3) := by decide +kernel
theorem dX11_ring_21 : decode cX11_ring 21 = .ok (.goto 10, 3) := by decide +kernel
theorem dX11_ring_24 : decode cX11_ring 24 = .ok (.aload_n 0, 1) := by decide +kernel
theorem dX11_ring_25 : decode cX11_ring 25 = .ok (.getfield 32, 3) := by decide +kernel
theorem dX11_ring_28 : decode cX11_ring 28 = .ok (.getfield 260, 3) := by decide +kernel
theorem dX11_ring_31 : decode cX11_ring 31 = .ok (.astore_n 3, 1) := by decide +kernel
theorem dX11_ring_32 : decode cX11_ring 32 = .ok (.aload_n 3, 1) := by decide +kernel
theorem dX11_ring_33 : decode cX11_ring 33 = .ok (.getfield 263, 3) := by decide +kernel
theorem dX11_ring_36 : decode cX11_ring 36 = .ok (.aload_n 3, 1) := by decide +kernel
theorem dX11_ring_37 : decode cX11_ring 37 = .ok (.getfield 266, 3) := by decide +kernel
theorem dX11_ring_40 : decode cX11_ring 40 = .ok (.arraylength, 1) := by decide +kernel
theorem dX11_ring_41 : decode cX11_ring 41 = .ok (.if_icmp .ge 7, 3) := by decide +kernel
theorem dX11_ring_44 : decode cX11_ring 44 = .ok (.iconst 1, 1) := by decide +kernel
theorem dX11_ring_45 : decode cX11_ring 45 = .ok (.goto 4, 3) := by decide +kernel
theorem dX11_ring_48 : decode cX11_ring 48 = .ok (.iconst 0, 1) := by decide +kernel
theorem dX11_ring_49 : decode cX11_ring 49 = .ok (.invokestatic 99, 3) := by decide +kernel
theorem dX11_ring_52 : decode cX11_ring 52 = .ok (.aload_n 3, 1) := by decide +kernel
theorem dX11_ring_53 : decode cX11_ring 53 = .ok (.iload_n 1, 1) := by decide +kernel
theorem dX11_ring_54 : decode cX11_ring 54 = .ok (.invokevirtual 270, 3) := by decide +kernel
theorem dX11_ring_57 : decode cX11_ring 57 = .ok (.ireturn, 1) := by decide +kernel
set_option maxRecDepth 20000 in
theorem ggX11_boardAt_X11_demandElement : GoodIn wsX11_boardAt wsX11_demandElement := goodIn_ca (goodIn_r _ [8, 9, 10] (by decide +kernel) (by decide +kernel)) (goodIn_sub (fun _ h => List.mem_cons_of_mem _ (List.mem_append_left _ (List.mem_append_right _ h))) (by decide +kernel))
set_option maxRecDepth 20000 in
theorem gX11_boardAt_X11_demandElement : GoodIn wsX11_boardAt (va_wsS RX11 187 yX11_demandElement wsX11_demandElement) := goodIn_app (goodIn_of _ (by decide +kernel)) ggX11_boardAt_X11_demandElement
set_option maxRecDepth 20000 in
theorem ggX11_boardAt_X1_bestPlace : GoodIn wsX11_boardAt wsX1_bestPlace := goodIn_ca (goodIn_r _ [15, 16, 17, 18, 19, 20, 21, 22, 23, 24, 39, 40, 41, 42, 43, 44, 45] (by decide +kernel) (by decide +kernel)) (goodIn_sub (fun _ h => List.mem_cons_of_mem _ (List.mem_append_right _ h)) (by decide +kernel))
set_option maxRecDepth 20000 in
theorem gX11_boardAt_X1_bestPlace : GoodIn wsX11_boardAt (wsV RX11 272 RX1 yX1_bestPlace wsX1_bestPlace) := goodIn_app (goodIn_of _ (by decide +kernel)) ggX11_boardAt_X1_bestPlace
theorem dX11_boardAt_0 : decode cX11_boardAt 0 = .ok (.aload_n 0, 1) := by decide +kernel
theorem dX11_boardAt_1 : decode cX11_boardAt 1 = .ok (.getfield 32, 3) := by decide +kernel
theorem dX11_boardAt_4 : decode cX11_boardAt 4 = .ok (.getfield 260, 3) := by decide +kernel
theorem dX11_boardAt_7 : decode cX11_boardAt 7 = .ok (.getfield 263, 3) := by decide +kernel
theorem dX11_boardAt_10 : decode cX11_boardAt 10 = .ok (.ifCond .le 30, 3) := by decide +kernel
theorem dX11_boardAt_13 : decode cX11_boardAt 13 = .ok (.aload_n 0, 1) := by decide +kernel
theorem dX11_boardAt_14 : decode cX11_boardAt 14 = .ok (.getfield 32, 3) := by decide +kernel
theorem dX11_boardAt_17 : decode cX11_boardAt 17 = .ok (.getfield 260, 3) := by decide +kernel
theorem dX11_boardAt_20 : decode cX11_boardAt 20 = .ok (.getfield 263, 3) := by decide +kernel
theorem dX11_boardAt_23 : decode cX11_boardAt 23 = .ok (.aload_n 0, 1) := by decide +kernel
theorem dX11_boardAt_24 : decode cX11_boardAt 24 = .ok (.getfield 32, 3) := by decide +kernel
theorem dX11_boardAt_27 : decode cX11_boardAt 27 = .ok (.getfield 256, 3) := by decide +kernel
theorem dX11_boardAt_30 : decode cX11_boardAt 30 = .ok (.getfield 263, 3) := by decide +kernel
theorem dX11_boardAt_33 : decode cX11_boardAt 33 = .ok (.if_icmp .gt 7, 3) := by decide +kernel
theorem dX11_boardAt_36 : decode cX11_boardAt 36 = .ok (.iconst 1, 1) := by decide +kernel
theorem dX11_boardAt_37 : decode cX11_boardAt 37 = .ok (.goto 4, 3) := by decide +kernel
theorem dX11_boardAt_40 : decode cX11_boardAt 40 = .ok (.iconst 0, 1) := by decide +kernel
theorem dX11_boardAt_41 : decode cX11_boardAt 41 = .ok (.invokestatic 187, 3) := by decide +kernel
theorem dX11_boardAt_44 : decode cX11_boardAt 44 = .ok (.aload_n 0, 1) := by decide +kernel
theorem dX11_boardAt_45 : decode cX11_boardAt 45 = .ok (.getfield 32, 3) := by decide +kernel
theorem dX11_boardAt_48 : decode cX11_boardAt 48 = .ok (.invokevirtual 272, 3) := by decide +kernel
theorem dX11_boardAt_51 : decode cX11_boardAt 51 = .ok (.ireturn, 1) := by decide +kernel
set_option maxRecDepth 20000 in
theorem ggX11_painter_X11_demandHabits : GoodIn wsX11_painter wsX11_demandHabits := goodIn_ca (goodIn_r _ [6, 7, 8, 5, 9, 10, 11, 12, 13, 14] (by decide +kernel) (by decide +kernel)) (goodIn_sub (fun _ h => List.mem_cons_of_mem _ (List.mem_append_left _ (List.mem_append_left _ (List.mem_append_right _ h)))) (by decide +kernel))
set_option maxRecDepth 20000 in
theorem gX11_painter_X11_demandHabits : GoodIn wsX11_painter (va_wsS RX11 275 yX11_demandHabits wsX11_demandHabits) := goodIn_app (goodIn_of _ (by decide +kernel)) ggX11_painter_X11_demandHabits
set_option maxRecDepth 20000 in
theorem ggX11_painter_X11_demandRoom : GoodIn wsX11_painter wsX11_demandRoom := goodIn_ca (goodIn_r _ [17, 18, 19] (by decide +kernel) (by decide +kernel)) (goodIn_sub (fun _ h => List.mem_cons_of_mem _ (List.mem_append_left _ (List.mem_append_right _ h))) (by decide +kernel))
set_option maxRecDepth 20000 in
theorem gX11_painter_X11_demandRoom : GoodIn wsX11_painter (va_wsS RX11 99 yX11_demandRoom wsX11_demandRoom) := goodIn_app (goodIn_of _ (by decide +kernel)) ggX11_painter_X11_demandRoom
set_option maxRecDepth 20000 in
theorem ggX11_painter_X1_addPainter : GoodIn wsX11_painter wsX1_addPainter := goodIn_ca (goodIn_r _ [24, 25, 26, 41, 42, 43, 44, 45] (by decide +kernel) (by decide +kernel)) (goodIn_sub (fun _ h => List.mem_cons_of_mem _ (List.mem_append_right _ h)) (by decide +kernel))
set_option maxRecDepth 20000 in
theorem gX11_painter_X1_addPainter : GoodIn wsX11_painter (wsV RX11 282 RX1 yX1_addPainter wsX1_addPainter) := goodIn_app (goodIn_of _ (by decide +kernel)) ggX11_painter_X1_addPainter
theorem dX11_painter_0 : decode cX11_painter 0 = .ok (.iload_n 1, 1) := by decide +kernel
theorem dX11_painter_1 : decode cX11_painter 1 = .ok (.iload_n 2, 1) := by decide +kernel
theorem dX11_painter_2 : decode cX11_painter 2 = .ok (.iload_n 3, 1) := by decide +kernel
theorem dX11_painter_3 : decode cX11_painter 3 = .ok (.iload 4, 2) := by decide +kernel
theorem dX11_painter_5 : decode cX11_painter 5 = .ok (.invokestatic 275, 3) := by decide +kernel
theorem dX11_painter_8 : decode cX11_painter 8 = .ok (.aload_n 0, 1) := by decide +kernel
theorem dX11_painter_9 : decode cX11_painter 9 = .ok (.getfield 32, 3) := by decide +kernel
theorem dX11_painter_12 : decode cX11_painter 12 = .ok (.getfield 279, 3) := by decide +kernel
theorem dX11_painter_15 : decode cX11_painter 15 = .ok (.bipush 6, 2) := by decide +kernel
theorem dX11_painter_17 : decode cX11_painter 17 = .ok (.if_icmp .ge 7, 3) := by decide +kernel
theorem dX11_painter_20 : decode cX11_painter 20 = .ok (.iconst 1, 1) := by decide +kernel
theorem dX11_painter_21 : decode cX11_painter 21 = .ok (.goto 4, 3) := by decide +kernel
theorem dX11_painter_24 : decode cX11_painter 24 = .ok (.iconst 0, 1) := by decide +kernel
theorem dX11_painter_25 : decode cX11_painter 25 = .ok (.invokestatic 99, 3) := by decide +kernel
theorem dX11_painter_28 : decode cX11_painter 28 = .ok (.aload_n 0, 1) := by decide +kernel
theorem dX11_painter_29 : decode cX11_painter 29 = .ok (.getfield 32, 3) := by decide +kernel
theorem dX11_painter_32 : decode cX11_painter 32 = .ok (.iload_n 1, 1) := by decide +kernel
theorem dX11_painter_33 : decode cX11_painter 33 = .ok (.iload_n 2, 1) := by decide +kernel
theorem dX11_painter_34 : decode cX11_painter 34 = .ok (.iload_n 3, 1) := by decide +kernel
theorem dX11_painter_35 : decode cX11_painter 35 = .ok (.iload 4, 2) := by decide +kernel
theorem dX11_painter_37 : decode cX11_painter 37 = .ok (.invokevirtual 282, 3) := by decide +kernel
theorem dX11_painter_40 : decode cX11_painter 40 = .ok (.ireturn, 1) := by decide +kernel
set_option maxRecDepth 20000 in
theorem ggX11_likely_X11_demandHabits : GoodIn wsX11_likely wsX11_demandHabits := goodIn_ca (goodIn_r _ [6, 7, 8, 5, 9, 10, 11, 12, 13, 14] (by decide +kernel) (by decide +kernel)) (goodIn_sub (fun _ h => List.mem_cons_of_mem _ (List.mem_append_left _ (List.mem_append_left _ (List.mem_append_right _ h)))) (by decide +kernel))
set_option maxRecDepth 20000 in
theorem gX11_likely_X11_demandHabits : GoodIn wsX11_likely (va_wsS RX11 275 yX11_demandHabits wsX11_demandHabits) := goodIn_app (goodIn_of _ (by decide +kernel)) ggX11_likely_X11_demandHabits
set_option maxRecDepth 20000 in
theorem ggX11_likely_X11_demandElement : GoodIn wsX11_likely wsX11_demandElement := goodIn_ca (goodIn_r _ [17, 18, 19] (by decide +kernel) (by decide +kernel)) (goodIn_sub (fun _ h => List.mem_cons_of_mem _ (List.mem_append_left _ (List.mem_append_right _ h))) (by decide +kernel))
set_option maxRecDepth 20000 in
theorem gX11_likely_X11_demandElement : GoodIn wsX11_likely (va_wsS RX11 187 yX11_demandElement wsX11_demandElement) := goodIn_app (goodIn_of _ (by decide +kernel)) ggX11_likely_X11_demandElement
set_option maxRecDepth 20000 in
theorem ggX11_likely_X1_compare : GoodIn wsX11_likely wsX1_compare := goodIn_ca (goodIn_r _ [24, 25, 26, 27, 28, 29, 23, 30, 50, 51, 52, 53, 54] (by decide +kernel) (by decide +kernel)) (goodIn_sub (fun _ h => List.mem_cons_of_mem _ (List.mem_append_right _ h)) (by decide +kernel))
set_option maxRecDepth 20000 in
theorem gX11_likely_X1_compare : GoodIn wsX11_likely (wsV RX11 286 RX1 yX1_compare wsX1_compare) := goodIn_app (goodIn_of _ (by decide +kernel)) ggX11_likely_X1_compare
set_option maxRecDepth 20000 in
theorem ggX11_likely_X1_nearest : GoodIn wsX11_likely wsX1_nearest := goodIn_ca (goodIn_r _ [34, 35, 25, 26, 50, 51, 52, 53, 54] (by decide +kernel) (by decide +kernel)) (goodIn_sub (fun _ h => List.mem_cons_of_mem _ (List.mem_append_right _ h)) (by decide +kernel))
set_option maxRecDepth 20000 in
theorem gX11_likely_X1_nearest : GoodIn wsX11_likely (wsV RX11 289 RX1 yX1_nearest wsX1_nearest) := goodIn_app (goodIn_of _ (by decide +kernel)) ggX11_likely_X1_nearest
theorem dX11_likely_0 : decode cX11_likely 0 = .ok (.iload_n 1, 1) := by decide +kernel
theorem dX11_likely_1 : decode cX11_likely 1 = .ok (.iload_n 2, 1) := by decide +kernel
theorem dX11_likely_2 : decode cX11_likely 2 = .ok (.iload_n 3, 1) := by decide +kernel
theorem dX11_likely_3 : decode cX11_likely 3 = .ok (.iload 4, 2) := by decide +kernel
theorem dX11_likely_5 : decode cX11_likely 5 = .ok (.invokestatic 275, 3) := by decide +kernel
theorem dX11_likely_8 : decode cX11_likely 8 = .ok (.aload_n 0, 1) := by decide +kernel
theorem dX11_likely_9 : decode cX11_likely 9 = .ok (.getfield 32, 3) := by decide +kernel
