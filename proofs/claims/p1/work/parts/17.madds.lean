theorem dJ6_valueOf_2dffe_0 : decode cJ6_valueOf_2dffe 0 = .ok (.iload_n 0, 1) := by decide +kernel
theorem dJ6_valueOf_2dffe_1 : decode cJ6_valueOf_2dffe 1 = .ok (.bipush (-128), 2) := by decide +kernel
theorem dJ6_valueOf_2dffe_3 : decode cJ6_valueOf_2dffe 3 = .ok (.if_icmp .lt 20, 3) := by decide +kernel
theorem dJ6_valueOf_2dffe_6 : decode cJ6_valueOf_2dffe 6 = .ok (.iload_n 0, 1) := by decide +kernel
theorem dJ6_valueOf_2dffe_7 : decode cJ6_valueOf_2dffe 7 = .ok (.getstatic 191, 3) := by decide +kernel
theorem dJ6_valueOf_2dffe_10 : decode cJ6_valueOf_2dffe 10 = .ok (.if_icmp .gt 13, 3) := by decide +kernel
theorem dJ6_valueOf_2dffe_13 : decode cJ6_valueOf_2dffe 13 = .ok (.getstatic 195, 3) := by decide +kernel
theorem dJ6_valueOf_2dffe_16 : decode cJ6_valueOf_2dffe 16 = .ok (.iload_n 0, 1) := by decide +kernel
theorem dJ6_valueOf_2dffe_17 : decode cJ6_valueOf_2dffe 17 = .ok (.sipush 128, 3) := by decide +kernel
theorem dJ6_valueOf_2dffe_20 : decode cJ6_valueOf_2dffe 20 = .ok (.iadd, 1) := by decide +kernel
theorem dJ6_valueOf_2dffe_21 : decode cJ6_valueOf_2dffe 21 = .ok (.aaload, 1) := by decide +kernel
theorem dJ6_valueOf_2dffe_22 : decode cJ6_valueOf_2dffe 22 = .ok (.areturn, 1) := by decide +kernel
theorem dX18_ring_0 : decode cX18_ring 0 = .ok (.aload_n 0, 1) := by decide +kernel
theorem dX18_ring_1 : decode cX18_ring 1 = .ok (.iconst 0, 1) := by decide +kernel
theorem dX18_ring_2 : decode cX18_ring 2 = .ok (.putfield 67, 3) := by decide +kernel
theorem dX18_ring_5 : decode cX18_ring 5 = .ok (.iload_n 1, 1) := by decide +kernel
theorem dX18_ring_6 : decode cX18_ring 6 = .ok (.iconst 1, 1) := by decide +kernel
theorem dX18_ring_7 : decode cX18_ring 7 = .ok (.bipush 99, 2) := by decide +kernel
set_option maxRecDepth 20000 in
theorem ggX18_ring_X18_in : GoodIn wsX18_ring wsX18_in := goodIn_r _ [7] (by decide +kernel) (by decide +kernel)
set_option maxRecDepth 20000 in
theorem gX18_ring_X18_in : GoodIn wsX18_ring (va_wsS RX18 70 yX18_in wsX18_in) := goodIn_app (goodIn_of _ (by decide +kernel)) ggX18_ring_X18_in
theorem dX18_ring_9 : decode cX18_ring 9 = .ok (.invokestatic 70, 3) := by decide +kernel
theorem dX18_ring_12 : decode cX18_ring 12 = .ok (.ifCond .ne 9, 3) := by decide +kernel
theorem dX18_ring_21 : decode cX18_ring 21 = .ok (.iload_n 2, 1) := by decide +kernel
theorem dX18_ring_22 : decode cX18_ring 22 = .ok (.ifCond .eq 10, 3) := by decide +kernel
theorem dX18_ring_32 : decode cX18_ring 32 = .ok (.aload_n 0, 1) := by decide +kernel
theorem dX18_ring_33 : decode cX18_ring 33 = .ok (.getfield 49, 3) := by decide +kernel
theorem dX18_ring_36 : decode cX18_ring 36 = .ok (.astore_n 3, 1) := by decide +kernel
theorem dX18_ring_37 : decode cX18_ring 37 = .ok (.aload_n 3, 1) := by decide +kernel
set_option maxRecDepth 20000 in
theorem ggX18_ring_Jx4a65c_size_8abf5 : GoodIn wsX18_ring wsJx4a65c_size_8abf5 := goodIn_r _ [16, 17, 108, 109, 110] (by decide +kernel) (by decide +kernel)
set_option maxRecDepth 20000 in
theorem gX18_ring_Jx4a65c_size_8abf5_f74Jx4a65c : GoodIn wsX18_ring (va_wsF RX18 74 RJx4a65c ⟨"java/util/List", "size", "()I"⟩ yJx4a65c_size_8abf5 wsJx4a65c_size_8abf5) := goodIn_app (goodIn_of _ (by decide +kernel)) ggX18_ring_Jx4a65c_size_8abf5
theorem dX18_ring_38 : decode cX18_ring 38 = .ok (.invokeinterface 74 1, 5) := by decide +kernel
theorem dX18_ring_43 : decode cX18_ring 43 = .ok (.iload_n 2, 1) := by decide +kernel
theorem dX18_ring_44 : decode cX18_ring 44 = .ok (.ifCond .eq 8, 3) := by decide +kernel
theorem dX18_ring_52 : decode cX18_ring 52 = .ok (.bipush 20, 2) := by decide +kernel
theorem dX18_ring_54 : decode cX18_ring 54 = .ok (.if_icmp .ne 9, 3) := by decide +kernel
theorem dX18_ring_63 : decode cX18_ring 63 = .ok (.aload_n 3, 1) := by decide +kernel
theorem dX18_ring_64 : decode cX18_ring 64 = .ok (.iload_n 1, 1) := by decide +kernel
set_option maxRecDepth 20000 in
theorem ggX18_ring_J6_valueOf_2dffe : GoodIn wsX18_ring wsJ6_valueOf_2dffe := goodIn_r _ [21, 22, 23, 24, 25, 20, 26, 27, 28, 29, 30, 31, 32, 33, 34, 35, 36, 111] (by decide +kernel) (by decide +kernel)
set_option maxRecDepth 20000 in
theorem gX18_ring_J6_valueOf_2dffe : GoodIn wsX18_ring (va_wsS RX18 211 yJ6_valueOf_2dffe wsJ6_valueOf_2dffe) := goodIn_app (goodIn_of _ (by decide +kernel)) ggX18_ring_J6_valueOf_2dffe
theorem dX18_ring_65 : decode cX18_ring 65 = .ok (.invokestatic 211, 3) := by decide +kernel
set_option maxRecDepth 20000 in
theorem ggX18_ring_Jx4a65c_add_9ea2d : GoodIn wsX18_ring wsJx4a65c_add_9ea2d := goodIn_r _ [40, 41, 42, 43, 17, 44, 45, 46, 15, 47, 48, 49, 50, 51, 52, 53, 54, 55, 56, 57, 58, 59, 60, 61, 62, 63, 64, 65, 66, 67, 68, 69, 70, 71, 72, 73, 74, 75, 76, 77, 78, 79, 80, 81, 82, 83, 84, 85, 86, 87, 88, 89, 90, 108, 109, 110] (by decide +kernel) (by decide +kernel)
set_option maxRecDepth 20000 in
theorem gX18_ring_Jx4a65c_add_9ea2d_f96Jx4a65c : GoodIn wsX18_ring (va_wsF RX18 96 RJx4a65c ⟨"java/util/List", "add", "(Ljava/lang/Object;)Z"⟩ yJx4a65c_add_9ea2d wsJx4a65c_add_9ea2d) := goodIn_app (goodIn_of _ (by decide +kernel)) ggX18_ring_Jx4a65c_add_9ea2d
theorem dX18_ring_68 : decode cX18_ring 68 = .ok (.invokeinterface 96 2, 5) := by decide +kernel
theorem dX18_ring_73 : decode cX18_ring 73 = .ok (.pop, 1) := by decide +kernel
theorem dX18_ring_74 : decode cX18_ring 74 = .ok (.aload_n 3, 1) := by decide +kernel
theorem dX18_ring_75 : decode cX18_ring 75 = .ok (.invokeinterface 74 1, 5) := by decide +kernel
theorem dX18_ring_80 : decode cX18_ring 80 = .ok (.ireturn, 1) := by decide +kernel
theorem dX18_ring_47 : decode cX18_ring 47 = .ok (.bipush 60, 2) := by decide +kernel
theorem dX18_ring_49 : decode cX18_ring 49 = .ok (.goto 5, 3) := by decide +kernel
theorem dX18_ring_25 : decode cX18_ring 25 = .ok (.aload_n 0, 1) := by decide +kernel
theorem dX18_ring_26 : decode cX18_ring 26 = .ok (.getfield 52, 3) := by decide +kernel
theorem dX18_ring_29 : decode cX18_ring 29 = .ok (.goto 7, 3) := by decide +kernel
theorem dX18_ring_15 : decode cX18_ring 15 = .ok (.aload_n 0, 1) := by decide +kernel
theorem dX18_ring_16 : decode cX18_ring 16 = .ok (.iconst 1, 1) := by decide +kernel
set_option maxRecDepth 20000 in
theorem ggX18_ring_X18_fails : GoodIn wsX18_ring wsX18_fails := goodIn_r _ [11, 1, 91, 92, 93, 94, 95, 96, 97, 98, 99, 100, 101, 102, 103, 104, 105, 106, 107] (by decide +kernel) (by decide +kernel)
set_option maxRecDepth 20000 in
theorem gX18_ring_X18_fails : GoodIn wsX18_ring (wsV RX18 88 RX18 yX18_fails wsX18_fails) := goodIn_app (goodIn_of _ (by decide +kernel)) ggX18_ring_X18_fails
theorem dX18_ring_17 : decode cX18_ring 17 = .ok (.invokevirtual 88, 3) := by decide +kernel
theorem dX18_ring_20 : decode cX18_ring 20 = .ok (.ireturn, 1) := by decide +kernel
theorem dX18_painter_0 : decode cX18_painter 0 = .ok (.aload_n 0, 1) := by decide +kernel
theorem dX18_painter_1 : decode cX18_painter 1 = .ok (.iconst 0, 1) := by decide +kernel
theorem dX18_painter_2 : decode cX18_painter 2 = .ok (.putfield 67, 3) := by decide +kernel
theorem dX18_painter_5 : decode cX18_painter 5 = .ok (.iload_n 1, 1) := by decide +kernel
theorem dX18_painter_6 : decode cX18_painter 6 = .ok (.iload_n 2, 1) := by decide +kernel
theorem dX18_painter_7 : decode cX18_painter 7 = .ok (.iload_n 3, 1) := by decide +kernel
theorem dX18_painter_8 : decode cX18_painter 8 = .ok (.iload 4, 2) := by decide +kernel
set_option maxRecDepth 20000 in
theorem ggX18_painter_X18_areHabits : GoodIn wsX18_painter wsX18_areHabits := goodIn_r _ [7, 8, 9, 6, 10] (by decide +kernel) (by decide +kernel)
set_option maxRecDepth 20000 in
theorem gX18_painter_X18_areHabits : GoodIn wsX18_painter (va_wsS RX18 243 yX18_areHabits wsX18_areHabits) := goodIn_app (goodIn_of _ (by decide +kernel)) ggX18_painter_X18_areHabits
theorem dX18_painter_10 : decode cX18_painter 10 = .ok (.invokestatic 243, 3) := by decide +kernel
theorem dX18_painter_13 : decode cX18_painter 13 = .ok (.ifCond .ne 9, 3) := by decide +kernel
theorem dX18_painter_22 : decode cX18_painter 22 = .ok (.aload_n 0, 1) := by decide +kernel
theorem dX18_painter_23 : decode cX18_painter 23 = .ok (.getfield 55, 3) := by decide +kernel
set_option maxRecDepth 20000 in
theorem ggX18_painter_Jx4a65c_size_8abf5 : GoodIn wsX18_painter wsJx4a65c_size_8abf5 := goodIn_r _ [19, 20, 92, 93, 94] (by decide +kernel) (by decide +kernel)
set_option maxRecDepth 20000 in
theorem gX18_painter_Jx4a65c_size_8abf5_f74Jx4a65c : GoodIn wsX18_painter (va_wsF RX18 74 RJx4a65c ⟨"java/util/List", "size", "()I"⟩ yJx4a65c_size_8abf5 wsJx4a65c_size_8abf5) := goodIn_app (goodIn_of _ (by decide +kernel)) ggX18_painter_Jx4a65c_size_8abf5
theorem dX18_painter_26 : decode cX18_painter 26 = .ok (.invokeinterface 74 1, 5) := by decide +kernel
theorem dX18_painter_31 : decode cX18_painter 31 = .ok (.bipush 6, 2) := by decide +kernel
theorem dX18_painter_33 : decode cX18_painter 33 = .ok (.if_icmp .ne 9, 3) := by decide +kernel
theorem dX18_painter_42 : decode cX18_painter 42 = .ok (.aload_n 0, 1) := by decide +kernel
theorem dX18_painter_43 : decode cX18_painter 43 = .ok (.getfield 55, 3) := by decide +kernel
theorem dX18_painter_46 : decode cX18_painter 46 = .ok (.iconst 4, 1) := by decide +kernel
theorem dX18_painter_47 : decode cX18_painter 47 = .ok (.newarray .int, 2) := by decide +kernel
theorem dX18_painter_49 : decode cX18_painter 49 = .ok (.dup, 1) := by decide +kernel
theorem dX18_painter_50 : decode cX18_painter 50 = .ok (.iconst 0, 1) := by decide +kernel
theorem dX18_painter_51 : decode cX18_painter 51 = .ok (.iload_n 1, 1) := by decide +kernel
theorem dX18_painter_52 : decode cX18_painter 52 = .ok (.iastore, 1) := by decide +kernel
theorem dX18_painter_53 : decode cX18_painter 53 = .ok (.dup, 1) := by decide +kernel
theorem dX18_painter_54 : decode cX18_painter 54 = .ok (.iconst 1, 1) := by decide +kernel
theorem dX18_painter_55 : decode cX18_painter 55 = .ok (.iload_n 2, 1) := by decide +kernel
theorem dX18_painter_56 : decode cX18_painter 56 = .ok (.iastore, 1) := by decide +kernel
theorem dX18_painter_57 : decode cX18_painter 57 = .ok (.dup, 1) := by decide +kernel
theorem dX18_painter_58 : decode cX18_painter 58 = .ok (.iconst 2, 1) := by decide +kernel
theorem dX18_painter_59 : decode cX18_painter 59 = .ok (.iload_n 3, 1) := by decide +kernel
theorem dX18_painter_60 : decode cX18_painter 60 = .ok (.iastore, 1) := by decide +kernel
theorem dX18_painter_61 : decode cX18_painter 61 = .ok (.dup, 1) := by decide +kernel
theorem dX18_painter_62 : decode cX18_painter 62 = .ok (.iconst 3, 1) := by decide +kernel
theorem dX18_painter_63 : decode cX18_painter 63 = .ok (.iload 4, 2) := by decide +kernel
theorem dX18_painter_65 : decode cX18_painter 65 = .ok (.iastore, 1) := by decide +kernel
set_option maxRecDepth 20000 in
theorem ggX18_painter_Jx4a65c_add_9ea2d : GoodIn wsX18_painter wsJx4a65c_add_9ea2d := goodIn_r _ [24, 25, 26, 27, 20, 28, 29, 30, 18, 31, 32, 33, 34, 35, 36, 37, 38, 39, 40, 41, 42, 43, 44, 45, 46, 47, 48, 49, 50, 51, 52, 53, 54, 55, 56, 57, 58, 59, 60, 61, 62, 63, 64, 65, 66, 67, 68, 69, 70, 71, 72, 73, 74, 92, 93, 94] (by decide +kernel) (by decide +kernel)
set_option maxRecDepth 20000 in
theorem gX18_painter_Jx4a65c_add_9ea2d_f96Jx4a65c : GoodIn wsX18_painter (va_wsF RX18 96 RJx4a65c ⟨"java/util/List", "add", "(Ljava/lang/Object;)Z"⟩ yJx4a65c_add_9ea2d wsJx4a65c_add_9ea2d) := goodIn_app (goodIn_of _ (by decide +kernel)) ggX18_painter_Jx4a65c_add_9ea2d
theorem dX18_painter_66 : decode cX18_painter 66 = .ok (.invokeinterface 96 2, 5) := by decide +kernel
theorem dX18_painter_71 : decode cX18_painter 71 = .ok (.pop, 1) := by decide +kernel
theorem dX18_painter_72 : decode cX18_painter 72 = .ok (.aload_n 0, 1) := by decide +kernel
theorem dX18_painter_73 : decode cX18_painter 73 = .ok (.getfield 55, 3) := by decide +kernel
theorem dX18_painter_76 : decode cX18_painter 76 = .ok (.invokeinterface 74 1, 5) := by decide +kernel
theorem dX18_painter_81 : decode cX18_painter 81 = .ok (.iconst 1, 1) := by decide +kernel
theorem dX18_painter_82 : decode cX18_painter 82 = .ok (.isub, 1) := by decide +kernel
theorem dX18_painter_83 : decode cX18_painter 83 = .ok (.ireturn, 1) := by decide +kernel
theorem dX18_painter_16 : decode cX18_painter 16 = .ok (.aload_n 0, 1) := by decide +kernel
theorem dX18_painter_17 : decode cX18_painter 17 = .ok (.iconst 1, 1) := by decide +kernel
set_option maxRecDepth 20000 in
theorem ggX18_painter_X18_fails : GoodIn wsX18_painter wsX18_fails := goodIn_r _ [14, 1, 75, 76, 77, 78, 79, 80, 81, 82, 83, 84, 85, 86, 87, 88, 89, 90, 91] (by decide +kernel) (by decide +kernel)
set_option maxRecDepth 20000 in
theorem gX18_painter_X18_fails : GoodIn wsX18_painter (wsV RX18 88 RX18 yX18_fails wsX18_fails) := goodIn_app (goodIn_of _ (by decide +kernel)) ggX18_painter_X18_fails
theorem dX18_painter_18 : decode cX18_painter 18 = .ok (.invokevirtual 88, 3) := by decide +kernel
theorem dX18_painter_21 : decode cX18_painter 21 = .ok (.ireturn, 1) := by decide +kernel
theorem dX18_solvent_0 : decode cX18_solvent 0 = .ok (.aload_n 0, 1) := by decide +kernel
theorem dX18_solvent_1 : decode cX18_solvent 1 = .ok (.iconst 0, 1) := by decide +kernel
theorem dX18_solvent_2 : decode cX18_solvent 2 = .ok (.putfield 67, 3) := by decide +kernel
theorem dX18_solvent_5 : decode cX18_solvent 5 = .ok (.iload_n 1, 1) := by decide +kernel
theorem dX18_solvent_6 : decode cX18_solvent 6 = .ok (.iconst 1, 1) := by decide +kernel
theorem dX18_solvent_7 : decode cX18_solvent 7 = .ok (.bipush 9, 2) := by decide +kernel
set_option maxRecDepth 20000 in
theorem ggX18_solvent_X18_in : GoodIn wsX18_solvent wsX18_in := goodIn_r _ [7] (by decide +kernel) (by decide +kernel)
set_option maxRecDepth 20000 in
theorem gX18_solvent_X18_in : GoodIn wsX18_solvent (va_wsS RX18 70 yX18_in wsX18_in) := goodIn_app (goodIn_of _ (by decide +kernel)) ggX18_solvent_X18_in
theorem dX18_solvent_9 : decode cX18_solvent 9 = .ok (.invokestatic 70, 3) := by decide +kernel
theorem dX18_solvent_12 : decode cX18_solvent 12 = .ok (.ifCond .eq 13, 3) := by decide +kernel
theorem dX18_solvent_25 : decode cX18_solvent 25 = .ok (.aload_n 0, 1) := by decide +kernel
theorem dX18_solvent_26 : decode cX18_solvent 26 = .ok (.iconst 1, 1) := by decide +kernel
set_option maxRecDepth 20000 in
theorem ggX18_solvent_X18_fails : GoodIn wsX18_solvent wsX18_fails := goodIn_r _ [11, 1, 72, 73, 74, 75, 76, 77, 78, 79, 80, 81, 82, 83, 84, 85, 86, 87, 88] (by decide +kernel) (by decide +kernel)
set_option maxRecDepth 20000 in
theorem gX18_solvent_X18_fails : GoodIn wsX18_solvent (wsV RX18 88 RX18 yX18_fails wsX18_fails) := goodIn_app (goodIn_of _ (by decide +kernel)) ggX18_solvent_X18_fails
theorem dX18_solvent_27 : decode cX18_solvent 27 = .ok (.invokevirtual 88, 3) := by decide +kernel
theorem dX18_solvent_30 : decode cX18_solvent 30 = .ok (.ireturn, 1) := by decide +kernel
theorem dX18_solvent_15 : decode cX18_solvent 15 = .ok (.iload_n 2, 1) := by decide +kernel
theorem dX18_solvent_16 : decode cX18_solvent 16 = .ok (.iconst 1, 1) := by decide +kernel
theorem dX18_solvent_17 : decode cX18_solvent 17 = .ok (.bipush 20, 2) := by decide +kernel
theorem dX18_solvent_19 : decode cX18_solvent 19 = .ok (.invokestatic 70, 3) := by decide +kernel
theorem dX18_solvent_22 : decode cX18_solvent 22 = .ok (.ifCond .ne 9, 3) := by decide +kernel
theorem dX18_solvent_31 : decode cX18_solvent 31 = .ok (.aload_n 0, 1) := by decide +kernel
theorem dX18_solvent_32 : decode cX18_solvent 32 = .ok (.getfield 58, 3) := by decide +kernel
set_option maxRecDepth 20000 in
theorem ggX18_solvent_Jx4a65c_size_8abf5 : GoodIn wsX18_solvent wsJx4a65c_size_8abf5 := goodIn_r _ [16, 17, 89, 90, 91] (by decide +kernel) (by decide +kernel)
set_option maxRecDepth 20000 in
theorem gX18_solvent_Jx4a65c_size_8abf5_f74Jx4a65c : GoodIn wsX18_solvent (va_wsF RX18 74 RJx4a65c ⟨"java/util/List", "size", "()I"⟩ yJx4a65c_size_8abf5 wsJx4a65c_size_8abf5) := goodIn_app (goodIn_of _ (by decide +kernel)) ggX18_solvent_Jx4a65c_size_8abf5
theorem dX18_solvent_35 : decode cX18_solvent 35 = .ok (.invokeinterface 74 1, 5) := by decide +kernel
theorem dX18_solvent_40 : decode cX18_solvent 40 = .ok (.bipush 6, 2) := by decide +kernel
theorem dX18_solvent_42 : decode cX18_solvent 42 = .ok (.if_icmp .ne 9, 3) := by decide +kernel
theorem dX18_solvent_51 : decode cX18_solvent 51 = .ok (.aload_n 0, 1) := by decide +kernel
theorem dX18_solvent_52 : decode cX18_solvent 52 = .ok (.getfield 58, 3) := by decide +kernel
theorem dX18_solvent_55 : decode cX18_solvent 55 = .ok (.iconst 3, 1) := by decide +kernel
theorem dX18_solvent_56 : decode cX18_solvent 56 = .ok (.newarray .int, 2) := by decide +kernel
theorem dX18_solvent_58 : decode cX18_solvent 58 = .ok (.dup, 1) := by decide +kernel
theorem dX18_solvent_59 : decode cX18_solvent 59 = .ok (.iconst 0, 1) := by decide +kernel
theorem dX18_solvent_60 : decode cX18_solvent 60 = .ok (.iload_n 1, 1) := by decide +kernel
theorem dX18_solvent_61 : decode cX18_solvent 61 = .ok (.iastore, 1) := by decide +kernel
theorem dX18_solvent_62 : decode cX18_solvent 62 = .ok (.dup, 1) := by decide +kernel
theorem dX18_solvent_63 : decode cX18_solvent 63 = .ok (.iconst 1, 1) := by decide +kernel
theorem dX18_solvent_64 : decode cX18_solvent 64 = .ok (.iload_n 2, 1) := by decide +kernel
theorem dX18_solvent_65 : decode cX18_solvent 65 = .ok (.iastore, 1) := by decide +kernel
theorem dX18_solvent_66 : decode cX18_solvent 66 = .ok (.dup, 1) := by decide +kernel
theorem dX18_solvent_67 : decode cX18_solvent 67 = .ok (.iconst 2, 1) := by decide +kernel
theorem dX18_solvent_68 : decode cX18_solvent 68 = .ok (.iconst 0, 1) := by decide +kernel
theorem dX18_solvent_69 : decode cX18_solvent 69 = .ok (.iastore, 1) := by decide +kernel
set_option maxRecDepth 20000 in
theorem ggX18_solvent_Jx4a65c_add_9ea2d : GoodIn wsX18_solvent wsJx4a65c_add_9ea2d := goodIn_r _ [21, 22, 23, 24, 17, 25, 26, 27, 15, 28, 29, 30, 31, 32, 33, 34, 35, 36, 37, 38, 39, 40, 41, 42, 43, 44, 45, 46, 47, 48, 49, 50, 51, 52, 53, 54, 55, 56, 57, 58, 59, 60, 61, 62, 63, 64, 65, 66, 67, 68, 69, 70, 71, 89, 90, 91] (by decide +kernel) (by decide +kernel)
set_option maxRecDepth 20000 in
theorem gX18_solvent_Jx4a65c_add_9ea2d_f96Jx4a65c : GoodIn wsX18_solvent (va_wsF RX18 96 RJx4a65c ⟨"java/util/List", "add", "(Ljava/lang/Object;)Z"⟩ yJx4a65c_add_9ea2d wsJx4a65c_add_9ea2d) := goodIn_app (goodIn_of _ (by decide +kernel)) ggX18_solvent_Jx4a65c_add_9ea2d
theorem dX18_solvent_70 : decode cX18_solvent 70 = .ok (.invokeinterface 96 2, 5) := by decide +kernel
theorem dX18_solvent_75 : decode cX18_solvent 75 = .ok (.pop, 1) := by decide +kernel
theorem dX18_solvent_76 : decode cX18_solvent 76 = .ok (.aload_n 0, 1) := by decide +kernel
theorem dX18_solvent_77 : decode cX18_solvent 77 = .ok (.getfield 58, 3) := by decide +kernel
theorem dX18_solvent_80 : decode cX18_solvent 80 = .ok (.invokeinterface 74 1, 5) := by decide +kernel
theorem dX18_solvent_85 : decode cX18_solvent 85 = .ok (.iconst 1, 1) := by decide +kernel
theorem dX18_solvent_86 : decode cX18_solvent 86 = .ok (.isub, 1) := by decide +kernel
theorem dX18_solvent_87 : decode cX18_solvent 87 = .ok (.ireturn, 1) := by decide +kernel
theorem dX18_leg_0 : decode cX18_leg 0 = .ok (.aload_n 0, 1) := by decide +kernel
theorem dX18_leg_1 : decode cX18_leg 1 = .ok (.iconst 0, 1) := by decide +kernel
theorem dX18_leg_2 : decode cX18_leg 2 = .ok (.putfield 67, 3) := by decide +kernel
theorem dX18_leg_5 : decode cX18_leg 5 = .ok (.iload_n 1, 1) := by decide +kernel
theorem dX18_leg_6 : decode cX18_leg 6 = .ok (.iconst 0, 1) := by decide +kernel
theorem dX18_leg_7 : decode cX18_leg 7 = .ok (.bipush 9, 2) := by decide +kernel
set_option maxRecDepth 20000 in
theorem ggX18_leg_X18_in : GoodIn wsX18_leg wsX18_in := goodIn_r _ [6] (by decide +kernel) (by decide +kernel)
set_option maxRecDepth 20000 in
theorem gX18_leg_X18_in : GoodIn wsX18_leg (va_wsS RX18 70 yX18_in wsX18_in) := goodIn_app (goodIn_of _ (by decide +kernel)) ggX18_leg_X18_in
theorem dX18_leg_9 : decode cX18_leg 9 = .ok (.invokestatic 70, 3) := by decide +kernel
theorem dX18_leg_12 : decode cX18_leg 12 = .ok (.ifCond .eq 13, 3) := by decide +kernel
theorem dX18_leg_25 : decode cX18_leg 25 = .ok (.aload_n 0, 1) := by decide +kernel
theorem dX18_leg_26 : decode cX18_leg 26 = .ok (.iconst 1, 1) := by decide +kernel
set_option maxRecDepth 20000 in
theorem ggX18_leg_X18_fails : GoodIn wsX18_leg wsX18_fails := goodIn_r _ [10, 1, 90, 91, 92, 93, 94, 95, 96, 97, 98, 99, 100, 101, 102, 103, 104, 105, 106] (by decide +kernel) (by decide +kernel)
set_option maxRecDepth 20000 in
theorem gX18_leg_X18_fails : GoodIn wsX18_leg (wsV RX18 88 RX18 yX18_fails wsX18_fails) := goodIn_app (goodIn_of _ (by decide +kernel)) ggX18_leg_X18_fails
theorem dX18_leg_27 : decode cX18_leg 27 = .ok (.invokevirtual 88, 3) := by decide +kernel
theorem dX18_leg_30 : decode cX18_leg 30 = .ok (.ireturn, 1) := by decide +kernel
theorem dX18_leg_15 : decode cX18_leg 15 = .ok (.iload_n 2, 1) := by decide +kernel
theorem dX18_leg_16 : decode cX18_leg 16 = .ok (.iconst 0, 1) := by decide +kernel
theorem dX18_leg_17 : decode cX18_leg 17 = .ok (.bipush 99, 2) := by decide +kernel
theorem dX18_leg_19 : decode cX18_leg 19 = .ok (.invokestatic 70, 3) := by decide +kernel
theorem dX18_leg_22 : decode cX18_leg 22 = .ok (.ifCond .ne 9, 3) := by decide +kernel
theorem dX18_leg_31 : decode cX18_leg 31 = .ok (.aload_n 0, 1) := by decide +kernel
theorem dX18_leg_32 : decode cX18_leg 32 = .ok (.getfield 64, 3) := by decide +kernel
set_option maxRecDepth 20000 in
theorem ggX18_leg_Jx4a65c_size_8abf5 : GoodIn wsX18_leg wsJx4a65c_size_8abf5 := goodIn_r _ [15, 16, 107, 108, 109] (by decide +kernel) (by decide +kernel)
set_option maxRecDepth 20000 in
theorem gX18_leg_Jx4a65c_size_8abf5_f74Jx4a65c : GoodIn wsX18_leg (va_wsF RX18 74 RJx4a65c ⟨"java/util/List", "size", "()I"⟩ yJx4a65c_size_8abf5 wsJx4a65c_size_8abf5) := goodIn_app (goodIn_of _ (by decide +kernel)) ggX18_leg_Jx4a65c_size_8abf5
theorem dX18_leg_35 : decode cX18_leg 35 = .ok (.invokeinterface 74 1, 5) := by decide +kernel
theorem dX18_leg_40 : decode cX18_leg 40 = .ok (.bipush 16, 2) := by decide +kernel
theorem dX18_leg_42 : decode cX18_leg 42 = .ok (.if_icmp .ne 9, 3) := by decide +kernel
theorem dX18_leg_51 : decode cX18_leg 51 = .ok (.aload_n 0, 1) := by decide +kernel
theorem dX18_leg_52 : decode cX18_leg 52 = .ok (.getfield 64, 3) := by decide +kernel
theorem dX18_leg_55 : decode cX18_leg 55 = .ok (.iload_n 1, 1) := by decide +kernel
set_option maxRecDepth 20000 in
theorem ggX18_leg_J6_valueOf_2dffe : GoodIn wsX18_leg wsJ6_valueOf_2dffe := goodIn_r _ [20, 21, 22, 23, 24, 19, 25, 26, 27, 28, 29, 30, 31, 32, 33, 34, 35, 110] (by decide +kernel) (by decide +kernel)
set_option maxRecDepth 20000 in
theorem gX18_leg_J6_valueOf_2dffe : GoodIn wsX18_leg (va_wsS RX18 211 yJ6_valueOf_2dffe wsJ6_valueOf_2dffe) := goodIn_app (goodIn_of _ (by decide +kernel)) ggX18_leg_J6_valueOf_2dffe
theorem dX18_leg_56 : decode cX18_leg 56 = .ok (.invokestatic 211, 3) := by decide +kernel
set_option maxRecDepth 20000 in
theorem ggX18_leg_Jx4a65c_add_9ea2d : GoodIn wsX18_leg wsJx4a65c_add_9ea2d := goodIn_r _ [39, 40, 41, 42, 16, 43, 44, 45, 14, 46, 47, 48, 49, 50, 51, 52, 53, 54, 55, 56, 57, 58, 59, 60, 61, 62, 63, 64, 65, 66, 67, 68, 69, 70, 71, 72, 73, 74, 75, 76, 77, 78, 79, 80, 81, 82, 83, 84, 85, 86, 87, 88, 89, 107, 108, 109] (by decide +kernel) (by decide +kernel)
set_option maxRecDepth 20000 in
theorem gX18_leg_Jx4a65c_add_9ea2d_f96Jx4a65c : GoodIn wsX18_leg (va_wsF RX18 96 RJx4a65c ⟨"java/util/List", "add", "(Ljava/lang/Object;)Z"⟩ yJx4a65c_add_9ea2d wsJx4a65c_add_9ea2d) := goodIn_app (goodIn_of _ (by decide +kernel)) ggX18_leg_Jx4a65c_add_9ea2d
theorem dX18_leg_59 : decode cX18_leg 59 = .ok (.invokeinterface 96 2, 5) := by decide +kernel
theorem dX18_leg_64 : decode cX18_leg 64 = .ok (.pop, 1) := by decide +kernel
theorem dX18_leg_65 : decode cX18_leg 65 = .ok (.aload_n 0, 1) := by decide +kernel
theorem dX18_leg_66 : decode cX18_leg 66 = .ok (.getfield 64, 3) := by decide +kernel
theorem dX18_leg_69 : decode cX18_leg 69 = .ok (.iload_n 2, 1) := by decide +kernel
theorem dX18_leg_70 : decode cX18_leg 70 = .ok (.invokestatic 211, 3) := by decide +kernel
theorem dX18_leg_73 : decode cX18_leg 73 = .ok (.invokeinterface 96 2, 5) := by decide +kernel
theorem dX18_leg_78 : decode cX18_leg 78 = .ok (.pop, 1) := by decide +kernel
theorem dX18_leg_79 : decode cX18_leg 79 = .ok (.aload_n 0, 1) := by decide +kernel
theorem dX18_leg_80 : decode cX18_leg 80 = .ok (.getfield 64, 3) := by decide +kernel
theorem dX18_leg_83 : decode cX18_leg 83 = .ok (.invokeinterface 74 1, 5) := by decide +kernel
theorem dX18_leg_88 : decode cX18_leg 88 = .ok (.iconst 2, 1) := by decide +kernel
theorem dX18_leg_89 : decode cX18_leg 89 = .ok (.idiv, 1) := by decide +kernel
theorem dX18_leg_90 : decode cX18_leg 90 = .ok (.ireturn, 1) := by decide +kernel
theorem dX17_init_0 : decode cX17_init 0 = .ok (.aload_n 0, 1) := by decide +kernel
theorem dX17_init_1 : decode cX17_init 1 = .ok (.invokespecial 1, 3) := by decide +kernel
theorem dX17_init_4 : decode cX17_init 4 = .ok (.aload_n 0, 1) := by decide +kernel
theorem dX17_init_5 : decode cX17_init 5 = .ok (.iload_n 1, 1) := by decide +kernel
theorem dX17_init_6 : decode cX17_init 6 = .ok (.putfield 7, 3) := by decide +kernel
theorem dX17_init_9 : decode cX17_init 9 = .ok (.aload_n 0, 1) := by decide +kernel
theorem dX17_init_10 : decode cX17_init 10 = .ok (.iload_n 2, 1) := by decide +kernel
theorem dX17_init_11 : decode cX17_init 11 = .ok (.putfield 13, 3) := by decide +kernel
theorem dX17_init_14 : decode cX17_init 14 = .ok (.aload_n 0, 1) := by decide +kernel
theorem dX17_init_15 : decode cX17_init 15 = .ok (.iload_n 3, 1) := by decide +kernel
theorem dX17_init_16 : decode cX17_init 16 = .ok (.putfield 17, 3) := by decide +kernel
theorem dX17_init_19 : decode cX17_init 19 = .ok (.aload_n 0, 1) := by decide +kernel
theorem dX17_init_20 : decode cX17_init 20 = .ok (.iload 4, 2) := by decide +kernel
theorem dX17_init_22 : decode cX17_init 22 = .ok (.putfield 20, 3) := by decide +kernel
theorem dX17_init_25 : decode cX17_init 25 = .ok (.aload_n 0, 1) := by decide +kernel
theorem dX17_init_26 : decode cX17_init 26 = .ok (.iload 5, 2) := by decide +kernel
theorem dX17_init_28 : decode cX17_init 28 = .ok (.putfield 23, 3) := by decide +kernel
theorem dX17_init_31 : decode cX17_init 31 = .ok (.aload_n 0, 1) := by decide +kernel
theorem dX17_init_32 : decode cX17_init 32 = .ok (.iload 6, 2) := by decide +kernel
theorem dX17_init_34 : decode cX17_init 34 = .ok (.putfield 26, 3) := by decide +kernel
theorem dX17_init_37 : decode cX17_init 37 = .ok (.aload_n 0, 1) := by decide +kernel
theorem dX17_init_38 : decode cX17_init 38 = .ok (.iload 7, 2) := by decide +kernel
theorem dX17_init_40 : decode cX17_init 40 = .ok (.putfield 29, 3) := by decide +kernel
theorem dX17_init_43 : decode cX17_init 43 = .ok (.aload_n 0, 1) := by decide +kernel
theorem dX17_init_44 : decode cX17_init 44 = .ok (.iload 8, 2) := by decide +kernel
theorem dX17_init_46 : decode cX17_init 46 = .ok (.putfield 32, 3) := by decide +kernel
theorem dX17_init_49 : decode cX17_init 49 = .ok (.aload_n 0, 1) := by decide +kernel
theorem dX17_init_50 : decode cX17_init 50 = .ok (.iload 9, 2) := by decide +kernel
theorem dX17_init_52 : decode cX17_init 52 = .ok (.putfield 35, 3) := by decide +kernel
theorem dX17_init_55 : decode cX17_init 55 = .ok (.aload_n 0, 1) := by decide +kernel
theorem dX17_init_56 : decode cX17_init 56 = .ok (.iload 10, 2) := by decide +kernel
theorem dX17_init_58 : decode cX17_init 58 = .ok (.putfield 38, 3) := by decide +kernel
theorem dX17_init_61 : decode cX17_init 61 = .ok (.return_, 1) := by decide +kernel
theorem z_c_valueOf_117 (v : Int32) (a_0 : 0 ≤ v) (a_1 : v ≤ 127) (a_2 : v < (-128)) : False := by grind
theorem z_c_valueOf_118 (v : Int32) (a_0 : 0 ≤ v) (a_1 : v ≤ 127) (a_2 : ¬ v < (-128)) (a_3 : 127 < v) : False := by grind
theorem z_c_valueOf_119 (v : Int32) (x_3 : Int32) (a_0 : 0 ≤ v) (a_1 : v ≤ 127) (a_2 : ¬ v < (-128)) (a_3 : ¬ 127 < v) (a_4 : x_3 = v + 128) : 0 ≤ x_3 := by grind
theorem z_c_valueOf_120 (v : Int32) (x_3 : Int32) (a_0 : 0 ≤ v) (a_1 : v ≤ 127) (a_2 : ¬ v < (-128)) (a_3 : ¬ 127 < v) (a_4 : x_3 = v + 128) : x_3 < 256 := by grind
set_option maxHeartbeats 4000000 in
set_option maxRecDepth 100000 in
/-- Integer.valueOf of a small number -/
theorem c_valueOf (l : Launch) (dC : Nat → ClassId) (dI : Nat → Nat → Nat) (b0 : Nat) (en : EnT) (sz : Nat) (v : Int32) (h0 : 0 ≤ v) (h1 : v ≤ 127) : Met l yJ6_valueOf_2dffe wsJ6_valueOf_2dffe ({ frames := 0, cells := 0, slots := 0, locals := 0 } : Room) (cP b0 en (dC, dI) [] [] [] sz (fun _ => True) [.int v]) (va_Qq (fun (r : Option Nat) (_ : Unit) => r = some (en.2.2.2 (3 + (nC v)))) (fun _ _ => True) (va_A [] sz)) 0 0 (va_A [] sz) := by
  refine Met.ofW (cc := cJ6_valueOf_2dffe) (maxL := 1) (ret := (some (.object "java/lang/Integer"))) (by decide) rfl ?_
  intro p e s m args below meth c s₁ B hml hv
  obtain ⟨rfl, hsz, hb0, hE, hPP, hK, hDD, hF0⟩ := hv
  have hx := B.exec
  have hb := B.bytes
  have hr := B.returns
  have hts := atoms_spec (ws := wsJ6_valueOf_2dffe) B.pre
  have hown : s.vm.findClass RJ6 = some m.cls := findClass_of_methodNamed B.named
  have hlocks := B.notSynchronized
  subst hsz
  have hN0 := en_N hPP hDD rfl
  have hP : va_P (dC, dI) vwCl [] s.heap := hPP.sub [] rfl
  have hR0 : va_P (dC, dI) vwCl [] s.heap := hPP.sub [] rfl
  have hD0 : va_D (fun q => b0 ≤ q) [] := hDD.sub [] (by decide) rfl
  have hDr : va_D (fun q => b0 ≤ q) [] := hDD.sub [] (by decide) rfl
  have hAb := en_A (sz := s.heap.size) hD0 hb0
  have hD := hD0.self (sz := s.heap.size)
  generalize hAe : va_A [] s.heap.size = A at hD hAb hN0 ⊢
  have hA : ∀ q : Nat, s.heap.size ≤ q → A q := fun q h => by rw [← hAe]; exact Or.inr h
  have hS : va_S A s.heap s.heap [] := va_S.rf
  have hR := hR0
  have hl := lv_entry [.int v] (n := 1) (Nat.le_of_ble_eq_true rfl)
  rw [lg_entry_eq]
  generalize (lg_sl [.int v] ++ List.replicate (1 - (lg_sl [.int v]).length) Slot.unset).toArray = ls at hl ⊢
  have hl : lv_has ls 1 [(0, .int v)] := hl
  refine lv_iload_n hx hb dJ6_valueOf_2dffe_0 rfl (lv_at hl 0 rfl) ?_
  refine lv_bipush (v := (-128)) hx hb dJ6_valueOf_2dffe_1 (by decide) ?_
  refine lv_icmp_lt (tgt := 23) hx hb dJ6_valueOf_2dffe_3 (by decide) (fun c_1 => ?_) (fun c_1 => ?_)
  · skip
    exact absurd (z_c_valueOf_117 v h0 h1 c_1) (fun z => z)
  · skip
    refine lv_iload_n hx hb dJ6_valueOf_2dffe_6 rfl (lv_at hl 0 rfl) ?_
    refine va_gets hx hb (hE.ih hAb) hS hown (hts (.fieldLink RJ6 191 "java/lang/Integer$IntegerCache" "high" "I") (by decide +kernel)) (fun _ h9 => h9) dJ6_valueOf_2dffe_7 ?_
    refine lv_icmp_gt (tgt := 23) hx hb dJ6_valueOf_2dffe_10 (by decide) (fun c_2 => ?_) (fun c_2 => ?_)
    · skip
      exact absurd (z_c_valueOf_118 v h0 h1 c_1 c_2) (fun z => z)
    · skip
      refine va_gets hx hb (hE.ic hAb) hS hown (hts (.fieldLink RJ6 195 "java/lang/Integer$IntegerCache" "cache" "[Ljava/lang/Integer;") (by decide +kernel)) (fun _ h9 => h9) dJ6_valueOf_2dffe_13 ?_
      refine lv_iload_n hx hb dJ6_valueOf_2dffe_16 rfl (lv_at hl 0 rfl) ?_
      refine lv_sipush (v := 128) hx hb dJ6_valueOf_2dffe_17 (by decide) ?_
      refine lv_iadd hx hb dJ6_valueOf_2dffe_20 ?_
      refine lv_topi (fun x_3 ex_3 => ?_)
      refine va_tq hx hb (hE.ica hAb) hS (vp_ok (by decide) (z_c_valueOf_119 v x_3 h0 h1 c_1 c_2 ex_3) (z_c_valueOf_120 v x_3 h0 h1 c_1 c_2 ex_3)) (v := en.2.2.2 (3 + (nC v))) (by rw [show nC v = x_3.toNatClampNeg by rw [ex_3]; rfl]) dJ6_valueOf_2dffe_21 ?_
      refine W.widen (k := 0) (n := 0) (Nat.le_of_ble_eq_true rfl) (Nat.le_of_ble_eq_true rfl) ?_
      exact W.aret (v := .ref (en.2.2.2 (3 + (nC v)))) hx hb hr (by first | exact Or.inl ⟨_, rfl⟩ | exact Or.inr ⟨_, rfl⟩) (by first | exact Or.inl rfl | exact va_rf_or _ | exact Or.inr ⟨_, rfl⟩) (fun t ht hW => ⟨⟨(some (en.2.2.2 (3 + (nC v)))), (), rfl, rfl, trivial⟩, hS.F ht⟩) hS.2.2 dJ6_valueOf_2dffe_22
theorem z_c_X18_ring_121 (w : Int32) (z : Int32) (r_1 : Int32) (a_0 : r_1 = if 1 ≤ w ∧ w ≤ 99 then 1 else 0) (a_1 : ¬ r_1 = 0) (a_2 : z = 0) (a_3 : z = 0) : 0 ≤ w := by grind
theorem z_c_X18_ring_122 (w : Int32) (z : Int32) (r_1 : Int32) (a_0 : r_1 = if 1 ≤ w ∧ w ≤ 99 then 1 else 0) (a_1 : ¬ r_1 = 0) (a_2 : z = 0) (a_3 : z = 0) : w ≤ 127 := by grind
theorem z_c_X18_ring_123 (w : Int32) (z : Int32) (r_1 : Int32) (a_0 : r_1 = if 1 ≤ w ∧ w ≤ 99 then 1 else 0) (a_1 : ¬ r_1 = 0) (a_2 : z = 0) (a_3 : z = 0) : ((0 : Int32) = 0 ∧ (1 : Int32) = 1 ∧ (1 ≤ w ∧ w ≤ 99)) ∨ ((0 : Int32) = 1 ∧ ¬ (1 ≤ w ∧ w ≤ 99)) := by grind
theorem z_c_X18_ring_124 (w : Int32) (z : Int32) (r_1 : Int32) (a_0 : r_1 = if 1 ≤ w ∧ w ≤ 99 then 1 else 0) (a_1 : ¬ r_1 = 0) (a_2 : z = 0) (a_3 : ¬ z = 0) : 0 ≤ w := by grind
theorem z_c_X18_ring_125 (w : Int32) (z : Int32) (r_1 : Int32) (a_0 : r_1 = if 1 ≤ w ∧ w ≤ 99 then 1 else 0) (a_1 : ¬ r_1 = 0) (a_2 : z = 0) (a_3 : ¬ z = 0) : w ≤ 127 := by grind
theorem z_c_X18_ring_126 (w : Int32) (z : Int32) (r_1 : Int32) (a_0 : r_1 = if 1 ≤ w ∧ w ≤ 99 then 1 else 0) (a_1 : ¬ r_1 = 0) (a_2 : z = 0) (a_3 : ¬ z = 0) : ((0 : Int32) = 0 ∧ (1 : Int32) = 1 ∧ (1 ≤ w ∧ w ≤ 99)) ∨ ((0 : Int32) = 1 ∧ ¬ (1 ≤ w ∧ w ≤ 99)) := by grind
theorem z_c_X18_ring_127 (w : Int32) (z : Int32) (r_1 : Int32) (a_0 : r_1 = if 1 ≤ w ∧ w ≤ 99 then 1 else 0) (a_1 : ¬ r_1 = 0) (a_2 : ¬ z = 0) (a_3 : z = 0) : 0 ≤ w := by grind
theorem z_c_X18_ring_128 (w : Int32) (z : Int32) (r_1 : Int32) (a_0 : r_1 = if 1 ≤ w ∧ w ≤ 99 then 1 else 0) (a_1 : ¬ r_1 = 0) (a_2 : ¬ z = 0) (a_3 : z = 0) : w ≤ 127 := by grind
theorem z_c_X18_ring_129 (w : Int32) (z : Int32) (r_1 : Int32) (a_0 : r_1 = if 1 ≤ w ∧ w ≤ 99 then 1 else 0) (a_1 : ¬ r_1 = 0) (a_2 : ¬ z = 0) (a_3 : z = 0) : ((0 : Int32) = 0 ∧ (1 : Int32) = 1 ∧ (1 ≤ w ∧ w ≤ 99)) ∨ ((0 : Int32) = 1 ∧ ¬ (1 ≤ w ∧ w ≤ 99)) := by grind
theorem z_c_X18_ring_130 (w : Int32) (z : Int32) (r_1 : Int32) (a_0 : r_1 = if 1 ≤ w ∧ w ≤ 99 then 1 else 0) (a_1 : ¬ r_1 = 0) (a_2 : ¬ z = 0) (a_3 : ¬ z = 0) : 0 ≤ w := by grind
theorem z_c_X18_ring_131 (w : Int32) (z : Int32) (r_1 : Int32) (a_0 : r_1 = if 1 ≤ w ∧ w ≤ 99 then 1 else 0) (a_1 : ¬ r_1 = 0) (a_2 : ¬ z = 0) (a_3 : ¬ z = 0) : w ≤ 127 := by grind
theorem z_c_X18_ring_132 (w : Int32) (z : Int32) (r_1 : Int32) (a_0 : r_1 = if 1 ≤ w ∧ w ≤ 99 then 1 else 0) (a_1 : ¬ r_1 = 0) (a_2 : ¬ z = 0) (a_3 : ¬ z = 0) : ((0 : Int32) = 0 ∧ (1 : Int32) = 1 ∧ (1 ≤ w ∧ w ≤ 99)) ∨ ((0 : Int32) = 1 ∧ ¬ (1 ≤ w ∧ w ≤ 99)) := by grind
theorem z_c_X18_ring_133 (w : Int32) (r_1 : Int32) (a_0 : r_1 = if 1 ≤ w ∧ w ≤ 99 then 1 else 0) (a_1 : r_1 = 0) : ((1 : Int32) = 0 ∧ (0 : Int32) = 1 ∧ (1 ≤ w ∧ w ≤ 99)) ∨ ((1 : Int32) = 1 ∧ ¬ (1 ≤ w ∧ w ≤ 99)) := by grind
set_option maxHeartbeats 4000000 in
set_option maxRecDepth 100000 in
theorem c_X18_ring (l : Launch) (dC : Nat → ClassId) (dI : Nat → Nat → Nat) (b0 : Nat) (en : EnT) (sz : Nat) (mm stu cla pic act nts isn boa mas pai sol bal leg : Nat) (w z : Int32) : Met l yX18_ring wsX18_ring ({ frames := 5, cells := 1, slots := 10, locals := 127 } : Room) (cP b0 en (dC, dI) [] [(mm, .inr (24, [.int 0, .ref stu, .ref cla, .ref pic, .ref act, .int 5, .int 50, .ref nts, .ref isn, .int 1600, .ref boa, .ref mas, .ref pai, .ref sol, .int 0, .ref bal, .ref leg])), (boa, .inr (5, [.int 0, .ref en.2.2.1, .int 0])), (mas, .inr (5, [.int 0, .ref en.2.2.1, .int 0]))] [] sz (fun _ => True) [.ref mm, .int w, .int z]) (va_Qi (fun (r : Int32) (u : Int32 × List Value) => (u.1 = 0 ∧ r = 1 ∧ (1 ≤ w ∧ w ≤ 99)) ∨ (u.1 = 1 ∧ ¬ (1 ≤ w ∧ w ≤ 99))) (fun u t => cB (dC, dI) [] [(mm, .inr (24, .int u.1 :: u.2))] (va_A [(mm, .inr (24, [.int 0, .ref stu, .ref cla, .ref pic, .ref act, .int 5, .int 50, .ref nts, .ref isn, .int 1600, .ref boa, .ref mas, .ref pai, .ref sol, .int 0, .ref bal, .ref leg])), (boa, .inr (5, [.int 0, .ref en.2.2.1, .int 0])), (mas, .inr (5, [.int 0, .ref en.2.2.1, .int 0]))] sz) (fun _ => True) t) (va_A [(mm, .inr (24, [.int 0, .ref stu, .ref cla, .ref pic, .ref act, .int 5, .int 50, .ref nts, .ref isn, .int 1600, .ref boa, .ref mas, .ref pai, .ref sol, .int 0, .ref bal, .ref leg])), (boa, .inr (5, [.int 0, .ref en.2.2.1, .int 0])), (mas, .inr (5, [.int 0, .ref en.2.2.1, .int 0]))] sz)) 1 10 (va_A [(mm, .inr (24, [.int 0, .ref stu, .ref cla, .ref pic, .ref act, .int 5, .int 50, .ref nts, .ref isn, .int 1600, .ref boa, .ref mas, .ref pai, .ref sol, .int 0, .ref bal, .ref leg])), (boa, .inr (5, [.int 0, .ref en.2.2.1, .int 0])), (mas, .inr (5, [.int 0, .ref en.2.2.1, .int 0]))] sz) := by
  refine Met.ofW (cc := cX18_ring) (maxL := 4) (ret := (some .int)) (by decide) rfl ?_
  intro p e s m args below meth c s₁ B hml hv
  obtain ⟨rfl, hsz, hb0, hE, hPP, hK, hDD, hF0⟩ := hv
  have hx := B.exec
  have hb := B.bytes
  have hr := B.returns
  have hts := atoms_spec (ws := wsX18_ring) B.pre
  have hown : s.vm.findClass RX18 = some m.cls := findClass_of_methodNamed B.named
  have hlocks := B.notSynchronized
  subst hsz
  have hN0 := en_N hPP hDD rfl
  have hP : va_P (dC, dI) vwCl [(mm, .inr (24, [.int 0, .ref stu, .ref cla, .ref pic, .ref act, .int 5, .int 50, .ref nts, .ref isn, .int 1600, .ref boa, .ref mas, .ref pai, .ref sol, .int 0, .ref bal, .ref leg])), (boa, .inr (5, [.int 0, .ref en.2.2.1, .int 0])), (mas, .inr (5, [.int 0, .ref en.2.2.1, .int 0]))] s.heap := hPP.sub [0, 1, 2] rfl
  have hR0 : va_P (dC, dI) vwCl [] s.heap := hPP.sub [] rfl
  have hD0 : va_D (fun q => b0 ≤ q) [(mm, .inr (24, [.int 0, .ref stu, .ref cla, .ref pic, .ref act, .int 5, .int 50, .ref nts, .ref isn, .int 1600, .ref boa, .ref mas, .ref pai, .ref sol, .int 0, .ref bal, .ref leg])), (boa, .inr (5, [.int 0, .ref en.2.2.1, .int 0])), (mas, .inr (5, [.int 0, .ref en.2.2.1, .int 0]))] := hDD.sub [0, 1, 2] (by decide) rfl
  have hDr : va_D (fun q => b0 ≤ q) [] := hDD.sub [] (by decide) rfl
  have hAb := en_A (sz := s.heap.size) hD0 hb0
  have hD := hD0.self (sz := s.heap.size)
  generalize hAe : va_A [(mm, .inr (24, [.int 0, .ref stu, .ref cla, .ref pic, .ref act, .int 5, .int 50, .ref nts, .ref isn, .int 1600, .ref boa, .ref mas, .ref pai, .ref sol, .int 0, .ref bal, .ref leg])), (boa, .inr (5, [.int 0, .ref en.2.2.1, .int 0])), (mas, .inr (5, [.int 0, .ref en.2.2.1, .int 0]))] s.heap.size = A at hD hAb hN0 ⊢
  have hA : ∀ q : Nat, s.heap.size ≤ q → A q := fun q h => by rw [← hAe]; exact Or.inr h
  have hS : va_S A s.heap s.heap [] := va_S.rf
  have hR := hR0
  have hl := lv_entry [.ref mm, .int w, .int z] (n := 4) (Nat.le_of_ble_eq_true rfl)
  rw [lg_entry_eq]
  generalize (lg_sl [.ref mm, .int w, .int z] ++ List.replicate (4 - (lg_sl [.ref mm, .int w, .int z]).length) Slot.unset).toArray = ls at hl ⊢
  have hl : lv_has ls 4 [(0, .ref mm), (1, .int w), (2, .int z)] := hl
  refine lv_aload_n hx hb dX18_ring_0 rfl (lv_at hl 0 rfl) ?_
  refine lv_iconst (v := 0) hx hb dX18_ring_1 (by decide) ?_
  refine va_put (D := (dC, dI)) (ci := 24) (v := .int 0) (ty := .int) (C := RX18) (T := TX18) (N := 17) hx hb hts (by decide +kernel) tyX18 tyX18_ok nmX18 hown hK hP hD hS 0 rfl rfl 0 (by decide) (hts (.fieldLink RX18 67 "UnderpaintModel" "code" "I") (by decide +kernel)) (fun _ h9 => h9) rfl (by decide +kernel) rfl rfl (Nat.le_of_ble_eq_true rfl) dX18_ring_2 (fun H locs hP hD hS => ?_)
  have hP : va_P (dC, dI) vwCl [(mm, .inr (24, [.int 0, .ref stu, .ref cla, .ref pic, .ref act, .int 5, .int 50, .ref nts, .ref isn, .int 1600, .ref boa, .ref mas, .ref pai, .ref sol, .int 0, .ref bal, .ref leg])), (boa, .inr (5, [.int 0, .ref en.2.2.1, .int 0])), (mas, .inr (5, [.int 0, .ref en.2.2.1, .int 0]))] H := hP
  have hD : va_D A [(mm, .inr (24, [.int 0, .ref stu, .ref cla, .ref pic, .ref act, .int 5, .int 50, .ref nts, .ref isn, .int 1600, .ref boa, .ref mas, .ref pai, .ref sol, .int 0, .ref bal, .ref leg])), (boa, .inr (5, [.int 0, .ref en.2.2.1, .int 0])), (mas, .inr (5, [.int 0, .ref en.2.2.1, .int 0]))] := hD
  have hR : va_P (dC, dI) vwCl [] H := fun k q h => by simp at h
  refine lv_iload_n hx hb dX18_ring_5 rfl (lv_at hl 1 rfl) ?_
  refine lv_iconst (v := 1) hx hb dX18_ring_6 (by decide) ?_
  refine lv_bipush (v := 99) hx hb dX18_ring_7 (by decide) ?_
  have hPc := (hP.app hR).sub (ws' := [] ++ []) [] rfl
  have hDc := (en_DD hD hDr hN0 hAb).sub (ws' := [] ++ []) [] (by decide) rfl
  have hKc := hK.sub (tys' := []) [] rfl
  have hFc := va_free (wc := []) hD hS hA [] rfl
  refine va_calli (va_runS (As := [.int w, .int 1, .int 99]) (rest := []) ⟨hx, hb, hml, hown, hts⟩ (c_X18_in l dC dI b0 en H.size w 1 99) (va_cwS 3 hts gX18_ring_X18_in rfl rfl rfl (by decide +kernel) ⟨Nat.le_of_ble_eq_true rfl, Nat.le_of_ble_eq_true rfl⟩) ⟨cP.blind, cP.use (en_z hb0 hS) (hE.on hAb hS) hPc hKc hDc trivial⟩ rfl rfl hl.1 rfl (lv_room (Nat.le_of_ble_eq_true rfl)) dX18_ring_9 ⟨Nat.le_of_ble_eq_true rfl, Nat.le_of_ble_eq_true rfl⟩) hS (fun q _ h => hFc q h) hFc (fun r_1 u t H1 locs ht hvm hw hB hz1 hk1 hS => ?_)
  have hP1 : va_P (dC, dI) vwCl [] H1 := fun k q h => by simp at h
  have hD1 : va_D (va_A [] H.size) [] := ⟨fun i j p q h => by simp at h, fun k q h => by simp at h⟩
  try dsimp only at hw
  obtain ⟨hP, hD⟩ := va_join (wr := [(mm, .inr (24, [.int 0, .ref stu, .ref cla, .ref pic, .ref act, .int 5, .int 50, .ref nts, .ref isn, .int 1600, .ref boa, .ref mas, .ref pai, .ref sol, .int 0, .ref bal, .ref leg])), (boa, .inr (5, [.int 0, .ref en.2.2.1, .int 0])), (mas, .inr (5, [.int 0, .ref en.2.2.1, .int 0]))]) (w1 := []) hP hD [] [0, 1, 2] rfl rfl (by decide) (by decide) hk1 hFc hP1 hD1
  generalize H1 = H at hP hS ⊢
  have hP : va_P (dC, dI) vwCl [(mm, .inr (24, [.int 0, .ref stu, .ref cla, .ref pic, .ref act, .int 5, .int 50, .ref nts, .ref isn, .int 1600, .ref boa, .ref mas, .ref pai, .ref sol, .int 0, .ref bal, .ref leg])), (boa, .inr (5, [.int 0, .ref en.2.2.1, .int 0])), (mas, .inr (5, [.int 0, .ref en.2.2.1, .int 0]))] H := hP
  have hD : va_D A [(mm, .inr (24, [.int 0, .ref stu, .ref cla, .ref pic, .ref act, .int 5, .int 50, .ref nts, .ref isn, .int 1600, .ref boa, .ref mas, .ref pai, .ref sol, .int 0, .ref bal, .ref leg])), (boa, .inr (5, [.int 0, .ref en.2.2.1, .int 0])), (mas, .inr (5, [.int 0, .ref en.2.2.1, .int 0]))] := hD
  have hR : va_P (dC, dI) vwCl [] H := fun k q h => by simp at h
  refine W.widen (k := 0) (n := 0) (Nat.le_of_ble_eq_true rfl) (Nat.le_of_ble_eq_true rfl) ?_
  have h_2 := hw
  refine lv_if_ne (tgt := 21) hx hb dX18_ring_12 (by decide) (fun c_3 => ?_) (fun c_3 => ?_)
  · skip
    refine lv_iload_n hx hb dX18_ring_21 rfl (lv_at hl 2 rfl) ?_
    refine lv_if_eq (tgt := 32) hx hb dX18_ring_22 (by decide) (fun c_4 => ?_) (fun c_4 => ?_)
    · skip
      refine lv_aload_n hx hb dX18_ring_32 rfl (lv_at hl 0 rfl) ?_
      refine va_get (D := (dC, dI)) (ci := 24) (v := .ref boa) (C := RX18) (T := TX18) (N := 17) hx hb hts (by decide +kernel) hown hK hP 0 rfl rfl 10 (by decide) (hts (.fieldLink RX18 49 "UnderpaintModel" "board" "Ljava/util/List;") (by decide +kernel)) (fun _ h9 => h9) rfl dX18_ring_33 ?_
      refine lv_astore_n (lv' := [(3, .ref boa), (0, .ref mm), (1, .int w), (2, .int z)]) hx hb dX18_ring_36 rfl hl (by decide) rfl (fun ls hl => ?_)
      refine lv_aload_n hx hb dX18_ring_37 rfl (lv_at hl 0 rfl) ?_
      have hPc := (hP.app hR).sub (ws' := [] ++ [(boa, .inr (5, [.int 0, .ref en.2.2.1, .int 0]))]) [1] rfl
      have hDc := (en_DD hD hDr hN0 hAb).sub (ws' := [] ++ [(boa, .inr (5, [.int 0, .ref en.2.2.1, .int 0]))]) [1] (by decide) rfl
      have hKc := hK.sub (tys' := []) [] rfl
      have hFc := va_free (wc := []) hD hS hA [] rfl
      refine va_callFi (va_runF (As := []) (rest := []) (hK.1 5 _ rfl).2 ⟨hx, hb, hml, hown, hts⟩ (c_Jx4a65c_size l dC dI b0 en H.size boa en.2.2.1 0 0) (va_cwF 0 hts gX18_ring_Jx4a65c_size_8abf5_f74Jx4a65c rfl rfl rfl (hE.face ("java/util/ArrayList", ⟨"java/util/List", "size", "()I"⟩, ⟨"java/util/ArrayList", "size", "()I"⟩) (by decide +kernel)) (by decide +kernel) ⟨Nat.le_of_ble_eq_true rfl, Nat.le_of_ble_eq_true rfl⟩) ⟨cP.blind, va_recv hK hP (ci := 5) (q0 := 1) rfl rfl, cP.use (en_z hb0 hS) (hE.on hAb hS) hPc hKc hDc trivial⟩ rfl rfl hl.1 rfl (lv_room (Nat.le_of_ble_eq_true rfl)) dX18_ring_38 ⟨Nat.le_of_ble_eq_true rfl, Nat.le_of_ble_eq_true rfl⟩) hS (fun q _ h => hFc q h) hFc (fun r_5 u t H1 locs ht hvm hw hB hz1 hk1 hS => ?_)
      have hP1 : va_P (dC, dI) vwCl [] H1 := fun k q h => by simp at h
      have hD1 : va_D (va_A [] H.size) [] := ⟨fun i j p q h => by simp at h, fun k q h => by simp at h⟩
      try dsimp only at hw
      obtain ⟨hP, hD⟩ := va_join (wr := [(mm, .inr (24, [.int 0, .ref stu, .ref cla, .ref pic, .ref act, .int 5, .int 50, .ref nts, .ref isn, .int 1600, .ref boa, .ref mas, .ref pai, .ref sol, .int 0, .ref bal, .ref leg])), (boa, .inr (5, [.int 0, .ref en.2.2.1, .int 0])), (mas, .inr (5, [.int 0, .ref en.2.2.1, .int 0]))]) (w1 := []) hP hD [] [0, 1, 2] rfl rfl (by decide) (by decide) hk1 hFc hP1 hD1
      generalize H1 = H at hP hS ⊢
      have hP : va_P (dC, dI) vwCl [(mm, .inr (24, [.int 0, .ref stu, .ref cla, .ref pic, .ref act, .int 5, .int 50, .ref nts, .ref isn, .int 1600, .ref boa, .ref mas, .ref pai, .ref sol, .int 0, .ref bal, .ref leg])), (boa, .inr (5, [.int 0, .ref en.2.2.1, .int 0])), (mas, .inr (5, [.int 0, .ref en.2.2.1, .int 0]))] H := hP
      have hD : va_D A [(mm, .inr (24, [.int 0, .ref stu, .ref cla, .ref pic, .ref act, .int 5, .int 50, .ref nts, .ref isn, .int 1600, .ref boa, .ref mas, .ref pai, .ref sol, .int 0, .ref bal, .ref leg])), (boa, .inr (5, [.int 0, .ref en.2.2.1, .int 0])), (mas, .inr (5, [.int 0, .ref en.2.2.1, .int 0]))] := hD
      have hR : va_P (dC, dI) vwCl [] H := fun k q h => by simp at h
      refine W.widen (k := 0) (n := 0) (Nat.le_of_ble_eq_true rfl) (Nat.le_of_ble_eq_true rfl) ?_
      subst r_5
      refine lv_iload_n hx hb dX18_ring_43 rfl (lv_at hl 3 rfl) ?_
      refine lv_if_eq (tgt := 52) hx hb dX18_ring_44 (by decide) (fun c_6 => ?_) (fun c_6 => ?_)
      · skip
        refine lv_bipush (v := 20) hx hb dX18_ring_52 (by decide) ?_
        refine lv_icmp_ne (tgt := 63) hx hb dX18_ring_54 (by decide) (fun c_7 => ?_) (fun c_7 => absurd c_7 (by decide))
        refine lv_aload_n hx hb dX18_ring_63 rfl (lv_at hl 0 rfl) ?_
        refine lv_iload_n hx hb dX18_ring_64 rfl (lv_at hl 2 rfl) ?_
        have hPc := (hP.app hR).sub (ws' := [] ++ []) [] rfl
        have hDc := (en_DD hD hDr hN0 hAb).sub (ws' := [] ++ []) [] (by decide) rfl
        have hKc := hK.sub (tys' := []) [] rfl
        have hFc := va_free (wc := []) hD hS hA [] rfl
        refine va_callq (va_runS (As := [.int w]) (rest := [.ref boa]) ⟨hx, hb, hml, hown, hts⟩ (c_valueOf l dC dI b0 en H.size w (z_c_X18_ring_121 w z r_1 h_2 c_3 c_4 c_6) (z_c_X18_ring_122 w z r_1 h_2 c_3 c_4 c_6)) (va_cwS 1 hts gX18_ring_J6_valueOf_2dffe rfl rfl rfl (by decide +kernel) ⟨Nat.le_of_ble_eq_true rfl, Nat.le_of_ble_eq_true rfl⟩) ⟨cP.blind, cP.use (en_z hb0 hS) (hE.on hAb hS) hPc hKc hDc trivial⟩ rfl rfl hl.1 rfl (lv_room (Nat.le_of_ble_eq_true rfl)) dX18_ring_65 ⟨Nat.le_of_ble_eq_true rfl, Nat.le_of_ble_eq_true rfl⟩) hS (fun q _ h => hFc q h) hFc (fun r_8 u t H1 locs ht hvm hw hB hz1 hk1 hS => ?_)
        have hP1 : va_P (dC, dI) vwCl [] H1 := fun k q h => by simp at h
        have hD1 : va_D (va_A [] H.size) [] := ⟨fun i j p q h => by simp at h, fun k q h => by simp at h⟩
        try dsimp only at hw
        obtain ⟨hP, hD⟩ := va_join (wr := [(mm, .inr (24, [.int 0, .ref stu, .ref cla, .ref pic, .ref act, .int 5, .int 50, .ref nts, .ref isn, .int 1600, .ref boa, .ref mas, .ref pai, .ref sol, .int 0, .ref bal, .ref leg])), (boa, .inr (5, [.int 0, .ref en.2.2.1, .int 0])), (mas, .inr (5, [.int 0, .ref en.2.2.1, .int 0]))]) (w1 := []) hP hD [] [0, 1, 2] rfl rfl (by decide) (by decide) hk1 hFc hP1 hD1
        generalize H1 = H at hP hS ⊢
        have hP : va_P (dC, dI) vwCl [(mm, .inr (24, [.int 0, .ref stu, .ref cla, .ref pic, .ref act, .int 5, .int 50, .ref nts, .ref isn, .int 1600, .ref boa, .ref mas, .ref pai, .ref sol, .int 0, .ref bal, .ref leg])), (boa, .inr (5, [.int 0, .ref en.2.2.1, .int 0])), (mas, .inr (5, [.int 0, .ref en.2.2.1, .int 0]))] H := hP
        have hD : va_D A [(mm, .inr (24, [.int 0, .ref stu, .ref cla, .ref pic, .ref act, .int 5, .int 50, .ref nts, .ref isn, .int 1600, .ref boa, .ref mas, .ref pai, .ref sol, .int 0, .ref bal, .ref leg])), (boa, .inr (5, [.int 0, .ref en.2.2.1, .int 0])), (mas, .inr (5, [.int 0, .ref en.2.2.1, .int 0]))] := hD
        have hR : va_P (dC, dI) vwCl [] H := fun k q h => by simp at h
        refine W.widen (k := 0) (n := 0) (Nat.le_of_ble_eq_true rfl) (Nat.le_of_ble_eq_true rfl) ?_
        subst r_8
        have hPc := (hP.app hR).sub (ws' := [(boa, .inr (5, [.int 0, .ref en.2.2.1, .int 0]))] ++ []) [1] rfl
        have hDc := (en_DD hD hDr hN0 hAb).sub (ws' := [(boa, .inr (5, [.int 0, .ref en.2.2.1, .int 0]))] ++ []) [1] (by decide) rfl
        have hKc := hK.sub (tys' := []) [] rfl
        have hFc := va_free (wc := [(boa, .inr (5, [.int 0, .ref en.2.2.1, .int 0]))]) hD hS hA [1] rfl
        refine va_callFi (va_runF (As := [.ref (en.2.2.2 (3 + (nC w)))]) (rest := []) (hK.1 5 _ rfl).2 ⟨hx, hb, hml, hown, hts⟩ (c_addi l dC dI b0 en H.size boa (nC w) (nC_lt (z_c_X18_ring_121 w z r_1 h_2 c_3 c_4 c_6) (z_c_X18_ring_122 w z r_1 h_2 c_3 c_4 c_6))) (va_cwF 1 hts gX18_ring_Jx4a65c_add_9ea2d_f96Jx4a65c rfl rfl rfl (hE.face ("java/util/ArrayList", ⟨"java/util/List", "add", "(Ljava/lang/Object;)Z"⟩, ⟨"java/util/ArrayList", "add", "(Ljava/lang/Object;)Z"⟩) (by decide +kernel)) (by decide +kernel) ⟨Nat.le_of_ble_eq_true rfl, Nat.le_of_ble_eq_true rfl⟩) ⟨cP.blind, va_recv hK hP (ci := 5) (q0 := 1) rfl rfl, cP.use (en_z hb0 hS) (hE.on hAb hS) hPc hKc hDc trivial⟩ rfl rfl hl.1 rfl (lv_room (Nat.le_of_ble_eq_true rfl)) dX18_ring_68 ⟨Nat.le_of_ble_eq_true rfl, Nat.le_of_ble_eq_true rfl⟩) hS (fun q _ h => hFc q h) hFc (fun r_10 u_9 t H1 locs ht hvm hw hB hz1 hk1 hS => ?_)
        obtain ⟨hP1, hK1, hD1, hF1⟩ := hB
        rw [ht] at hP1
        try rw [ht] at hF1
        have hK1 := va_K.moved hvm.symm hK1
        try dsimp only at hw
        obtain ⟨hP, hD⟩ := va_join (wr := [(mm, .inr (24, [.int 0, .ref stu, .ref cla, .ref pic, .ref act, .int 5, .int 50, .ref nts, .ref isn, .int 1600, .ref boa, .ref mas, .ref pai, .ref sol, .int 0, .ref bal, .ref leg])), (mas, .inr (5, [.int 0, .ref en.2.2.1, .int 0]))]) (w1 := [(boa, .inr (5, [.int 1, .ref u_9.1, .int 1])), (u_9.1, .inl (u_9.2.1, 10, .inr (.inr (.inr (.inr u_9.2.2)))))]) hP hD [1] [0, 2] rfl rfl (by decide) (by decide) hk1 hFc hP1 hD1
        have hK := hK.app hK1
        generalize H1 = H at hP hS ⊢
        have hP : va_P (dC, dI) vwCl [(mm, .inr (24, [.int 0, .ref stu, .ref cla, .ref pic, .ref act, .int 5, .int 50, .ref nts, .ref isn, .int 1600, .ref boa, .ref mas, .ref pai, .ref sol, .int 0, .ref bal, .ref leg])), (mas, .inr (5, [.int 0, .ref en.2.2.1, .int 0])), (boa, .inr (5, [.int 1, .ref u_9.1, .int 1])), (u_9.1, .inl (u_9.2.1, 10, .inr (.inr (.inr (.inr u_9.2.2)))))] H := hP
        have hD : va_D A [(mm, .inr (24, [.int 0, .ref stu, .ref cla, .ref pic, .ref act, .int 5, .int 50, .ref nts, .ref isn, .int 1600, .ref boa, .ref mas, .ref pai, .ref sol, .int 0, .ref bal, .ref leg])), (mas, .inr (5, [.int 0, .ref en.2.2.1, .int 0])), (boa, .inr (5, [.int 1, .ref u_9.1, .int 1])), (u_9.1, .inl (u_9.2.1, 10, .inr (.inr (.inr (.inr u_9.2.2)))))] := hD
        have hR : va_P (dC, dI) vwCl [] H := fun k q h => by simp at h
        refine W.widen (k := 1) (n := 10) (Nat.le_of_ble_eq_true rfl) (Nat.le_of_ble_eq_true rfl) ?_
        subst r_10
        refine lv_pop hx hb dX18_ring_73 rfl ?_
        refine lv_aload_n hx hb dX18_ring_74 rfl (lv_at hl 0 rfl) ?_
        have hPc := (hP.app hR).sub (ws' := [] ++ [(boa, .inr (5, [.int 1, .ref u_9.1, .int 1]))]) [2] rfl
        have hDc := (en_DD hD hDr hN0 hAb).sub (ws' := [] ++ [(boa, .inr (5, [.int 1, .ref u_9.1, .int 1]))]) [2] (by decide) rfl
        have hKc := hK.sub (tys' := []) [] rfl
        have hFc := va_free (wc := []) hD hS hA [] rfl
        refine va_callFi (va_runF (As := []) (rest := []) (hK.1 5 _ rfl).2 ⟨hx, hb, hml, hown, hts⟩ (c_Jx4a65c_size l dC dI b0 en H.size boa u_9.1 1 1) (va_cwF 0 hts gX18_ring_Jx4a65c_size_8abf5_f74Jx4a65c rfl rfl rfl (hE.face ("java/util/ArrayList", ⟨"java/util/List", "size", "()I"⟩, ⟨"java/util/ArrayList", "size", "()I"⟩) (by decide +kernel)) (by decide +kernel) ⟨Nat.le_of_ble_eq_true rfl, Nat.le_of_ble_eq_true rfl⟩) ⟨cP.blind, va_recv hK hP (ci := 5) (q0 := 2) rfl rfl, cP.use (en_z hb0 hS) (hE.on hAb hS) hPc hKc hDc trivial⟩ rfl rfl hl.1 rfl (lv_room (Nat.le_of_ble_eq_true rfl)) dX18_ring_75 ⟨Nat.le_of_ble_eq_true rfl, Nat.le_of_ble_eq_true rfl⟩) hS (fun q _ h => hFc q h) hFc (fun r_11 u t H1 locs ht hvm hw hB hz1 hk1 hS => ?_)
        have hP1 : va_P (dC, dI) vwCl [] H1 := fun k q h => by simp at h
        have hD1 : va_D (va_A [] H.size) [] := ⟨fun i j p q h => by simp at h, fun k q h => by simp at h⟩
        try dsimp only at hw
        obtain ⟨hP, hD⟩ := va_join (wr := [(mm, .inr (24, [.int 0, .ref stu, .ref cla, .ref pic, .ref act, .int 5, .int 50, .ref nts, .ref isn, .int 1600, .ref boa, .ref mas, .ref pai, .ref sol, .int 0, .ref bal, .ref leg])), (mas, .inr (5, [.int 0, .ref en.2.2.1, .int 0])), (boa, .inr (5, [.int 1, .ref u_9.1, .int 1])), (u_9.1, .inl (u_9.2.1, 10, .inr (.inr (.inr (.inr u_9.2.2)))))]) (w1 := []) hP hD [] [0, 1, 2, 3] rfl rfl (by decide) (by decide) hk1 hFc hP1 hD1
        generalize H1 = H at hP hS ⊢
        have hP : va_P (dC, dI) vwCl [(mm, .inr (24, [.int 0, .ref stu, .ref cla, .ref pic, .ref act, .int 5, .int 50, .ref nts, .ref isn, .int 1600, .ref boa, .ref mas, .ref pai, .ref sol, .int 0, .ref bal, .ref leg])), (mas, .inr (5, [.int 0, .ref en.2.2.1, .int 0])), (boa, .inr (5, [.int 1, .ref u_9.1, .int 1])), (u_9.1, .inl (u_9.2.1, 10, .inr (.inr (.inr (.inr u_9.2.2)))))] H := hP
        have hD : va_D A [(mm, .inr (24, [.int 0, .ref stu, .ref cla, .ref pic, .ref act, .int 5, .int 50, .ref nts, .ref isn, .int 1600, .ref boa, .ref mas, .ref pai, .ref sol, .int 0, .ref bal, .ref leg])), (mas, .inr (5, [.int 0, .ref en.2.2.1, .int 0])), (boa, .inr (5, [.int 1, .ref u_9.1, .int 1])), (u_9.1, .inl (u_9.2.1, 10, .inr (.inr (.inr (.inr u_9.2.2)))))] := hD
        have hR : va_P (dC, dI) vwCl [] H := fun k q h => by simp at h
        refine W.widen (k := 1) (n := 10) (Nat.le_of_ble_eq_true rfl) (Nat.le_of_ble_eq_true rfl) ?_
        subst r_11
        refine W.widen (k := 1) (n := 10) (Nat.le_of_ble_eq_true rfl) (Nat.le_of_ble_eq_true rfl) ?_
        exact W.iret (v := 1) hx hb hr (fun t ht hW => ⟨⟨1, ⟨0, [.ref stu, .ref cla, .ref pic, .ref act, .int 5, .int 50, .ref nts, .ref isn, .int 1600, .ref boa, .ref mas, .ref pai, .ref sol, .int 0, .ref bal, .ref leg]⟩, rfl, (z_c_X18_ring_123 w z r_1 h_2 c_3 c_4 c_6), cB.mk ht hW (hP.sub [0] rfl) (hK.sub [] rfl) (hD.sub [0] (by decide) rfl) (trivial)⟩, hS.F ht⟩) hS.2.2 dX18_ring_80
      · skip
        refine lv_bipush (v := 60) hx hb dX18_ring_47 (by decide) ?_
        refine lv_goto (tgt := 54) hx hb dX18_ring_49 (by decide) ?_
        refine lv_icmp_ne (tgt := 63) hx hb dX18_ring_54 (by decide) (fun c_12 => ?_) (fun c_12 => absurd c_12 (by decide))
        refine lv_aload_n hx hb dX18_ring_63 rfl (lv_at hl 0 rfl) ?_
        refine lv_iload_n hx hb dX18_ring_64 rfl (lv_at hl 2 rfl) ?_
        have hPc := (hP.app hR).sub (ws' := [] ++ []) [] rfl
        have hDc := (en_DD hD hDr hN0 hAb).sub (ws' := [] ++ []) [] (by decide) rfl
        have hKc := hK.sub (tys' := []) [] rfl
        have hFc := va_free (wc := []) hD hS hA [] rfl
        refine va_callq (va_runS (As := [.int w]) (rest := [.ref boa]) ⟨hx, hb, hml, hown, hts⟩ (c_valueOf l dC dI b0 en H.size w (z_c_X18_ring_124 w z r_1 h_2 c_3 c_4 c_6) (z_c_X18_ring_125 w z r_1 h_2 c_3 c_4 c_6)) (va_cwS 1 hts gX18_ring_J6_valueOf_2dffe rfl rfl rfl (by decide +kernel) ⟨Nat.le_of_ble_eq_true rfl, Nat.le_of_ble_eq_true rfl⟩) ⟨cP.blind, cP.use (en_z hb0 hS) (hE.on hAb hS) hPc hKc hDc trivial⟩ rfl rfl hl.1 rfl (lv_room (Nat.le_of_ble_eq_true rfl)) dX18_ring_65 ⟨Nat.le_of_ble_eq_true rfl, Nat.le_of_ble_eq_true rfl⟩) hS (fun q _ h => hFc q h) hFc (fun r_13 u t H1 locs ht hvm hw hB hz1 hk1 hS => ?_)
        have hP1 : va_P (dC, dI) vwCl [] H1 := fun k q h => by simp at h
        have hD1 : va_D (va_A [] H.size) [] := ⟨fun i j p q h => by simp at h, fun k q h => by simp at h⟩
        try dsimp only at hw
        obtain ⟨hP, hD⟩ := va_join (wr := [(mm, .inr (24, [.int 0, .ref stu, .ref cla, .ref pic, .ref act, .int 5, .int 50, .ref nts, .ref isn, .int 1600, .ref boa, .ref mas, .ref pai, .ref sol, .int 0, .ref bal, .ref leg])), (boa, .inr (5, [.int 0, .ref en.2.2.1, .int 0])), (mas, .inr (5, [.int 0, .ref en.2.2.1, .int 0]))]) (w1 := []) hP hD [] [0, 1, 2] rfl rfl (by decide) (by decide) hk1 hFc hP1 hD1
        generalize H1 = H at hP hS ⊢
        have hP : va_P (dC, dI) vwCl [(mm, .inr (24, [.int 0, .ref stu, .ref cla, .ref pic, .ref act, .int 5, .int 50, .ref nts, .ref isn, .int 1600, .ref boa, .ref mas, .ref pai, .ref sol, .int 0, .ref bal, .ref leg])), (boa, .inr (5, [.int 0, .ref en.2.2.1, .int 0])), (mas, .inr (5, [.int 0, .ref en.2.2.1, .int 0]))] H := hP
        have hD : va_D A [(mm, .inr (24, [.int 0, .ref stu, .ref cla, .ref pic, .ref act, .int 5, .int 50, .ref nts, .ref isn, .int 1600, .ref boa, .ref mas, .ref pai, .ref sol, .int 0, .ref bal, .ref leg])), (boa, .inr (5, [.int 0, .ref en.2.2.1, .int 0])), (mas, .inr (5, [.int 0, .ref en.2.2.1, .int 0]))] := hD
        have hR : va_P (dC, dI) vwCl [] H := fun k q h => by simp at h
        refine W.widen (k := 0) (n := 0) (Nat.le_of_ble_eq_true rfl) (Nat.le_of_ble_eq_true rfl) ?_
        subst r_13
        have hPc := (hP.app hR).sub (ws' := [(boa, .inr (5, [.int 0, .ref en.2.2.1, .int 0]))] ++ []) [1] rfl
        have hDc := (en_DD hD hDr hN0 hAb).sub (ws' := [(boa, .inr (5, [.int 0, .ref en.2.2.1, .int 0]))] ++ []) [1] (by decide) rfl
        have hKc := hK.sub (tys' := []) [] rfl
        have hFc := va_free (wc := [(boa, .inr (5, [.int 0, .ref en.2.2.1, .int 0]))]) hD hS hA [1] rfl
        refine va_callFi (va_runF (As := [.ref (en.2.2.2 (3 + (nC w)))]) (rest := []) (hK.1 5 _ rfl).2 ⟨hx, hb, hml, hown, hts⟩ (c_addi l dC dI b0 en H.size boa (nC w) (nC_lt (z_c_X18_ring_124 w z r_1 h_2 c_3 c_4 c_6) (z_c_X18_ring_125 w z r_1 h_2 c_3 c_4 c_6))) (va_cwF 1 hts gX18_ring_Jx4a65c_add_9ea2d_f96Jx4a65c rfl rfl rfl (hE.face ("java/util/ArrayList", ⟨"java/util/List", "add", "(Ljava/lang/Object;)Z"⟩, ⟨"java/util/ArrayList", "add", "(Ljava/lang/Object;)Z"⟩) (by decide +kernel)) (by decide +kernel) ⟨Nat.le_of_ble_eq_true rfl, Nat.le_of_ble_eq_true rfl⟩) ⟨cP.blind, va_recv hK hP (ci := 5) (q0 := 1) rfl rfl, cP.use (en_z hb0 hS) (hE.on hAb hS) hPc hKc hDc trivial⟩ rfl rfl hl.1 rfl (lv_room (Nat.le_of_ble_eq_true rfl)) dX18_ring_68 ⟨Nat.le_of_ble_eq_true rfl, Nat.le_of_ble_eq_true rfl⟩) hS (fun q _ h => hFc q h) hFc (fun r_15 u_14 t H1 locs ht hvm hw hB hz1 hk1 hS => ?_)
        obtain ⟨hP1, hK1, hD1, hF1⟩ := hB
        rw [ht] at hP1
        try rw [ht] at hF1
        have hK1 := va_K.moved hvm.symm hK1
        try dsimp only at hw
        obtain ⟨hP, hD⟩ := va_join (wr := [(mm, .inr (24, [.int 0, .ref stu, .ref cla, .ref pic, .ref act, .int 5, .int 50, .ref nts, .ref isn, .int 1600, .ref boa, .ref mas, .ref pai, .ref sol, .int 0, .ref bal, .ref leg])), (mas, .inr (5, [.int 0, .ref en.2.2.1, .int 0]))]) (w1 := [(boa, .inr (5, [.int 1, .ref u_14.1, .int 1])), (u_14.1, .inl (u_14.2.1, 10, .inr (.inr (.inr (.inr u_14.2.2)))))]) hP hD [1] [0, 2] rfl rfl (by decide) (by decide) hk1 hFc hP1 hD1
        have hK := hK.app hK1
        generalize H1 = H at hP hS ⊢
        have hP : va_P (dC, dI) vwCl [(mm, .inr (24, [.int 0, .ref stu, .ref cla, .ref pic, .ref act, .int 5, .int 50, .ref nts, .ref isn, .int 1600, .ref boa, .ref mas, .ref pai, .ref sol, .int 0, .ref bal, .ref leg])), (mas, .inr (5, [.int 0, .ref en.2.2.1, .int 0])), (boa, .inr (5, [.int 1, .ref u_14.1, .int 1])), (u_14.1, .inl (u_14.2.1, 10, .inr (.inr (.inr (.inr u_14.2.2)))))] H := hP
        have hD : va_D A [(mm, .inr (24, [.int 0, .ref stu, .ref cla, .ref pic, .ref act, .int 5, .int 50, .ref nts, .ref isn, .int 1600, .ref boa, .ref mas, .ref pai, .ref sol, .int 0, .ref bal, .ref leg])), (mas, .inr (5, [.int 0, .ref en.2.2.1, .int 0])), (boa, .inr (5, [.int 1, .ref u_14.1, .int 1])), (u_14.1, .inl (u_14.2.1, 10, .inr (.inr (.inr (.inr u_14.2.2)))))] := hD
        have hR : va_P (dC, dI) vwCl [] H := fun k q h => by simp at h
        refine W.widen (k := 1) (n := 10) (Nat.le_of_ble_eq_true rfl) (Nat.le_of_ble_eq_true rfl) ?_
        subst r_15
        refine lv_pop hx hb dX18_ring_73 rfl ?_
        refine lv_aload_n hx hb dX18_ring_74 rfl (lv_at hl 0 rfl) ?_
        have hPc := (hP.app hR).sub (ws' := [] ++ [(boa, .inr (5, [.int 1, .ref u_14.1, .int 1]))]) [2] rfl
        have hDc := (en_DD hD hDr hN0 hAb).sub (ws' := [] ++ [(boa, .inr (5, [.int 1, .ref u_14.1, .int 1]))]) [2] (by decide) rfl
        have hKc := hK.sub (tys' := []) [] rfl
        have hFc := va_free (wc := []) hD hS hA [] rfl
        refine va_callFi (va_runF (As := []) (rest := []) (hK.1 5 _ rfl).2 ⟨hx, hb, hml, hown, hts⟩ (c_Jx4a65c_size l dC dI b0 en H.size boa u_14.1 1 1) (va_cwF 0 hts gX18_ring_Jx4a65c_size_8abf5_f74Jx4a65c rfl rfl rfl (hE.face ("java/util/ArrayList", ⟨"java/util/List", "size", "()I"⟩, ⟨"java/util/ArrayList", "size", "()I"⟩) (by decide +kernel)) (by decide +kernel) ⟨Nat.le_of_ble_eq_true rfl, Nat.le_of_ble_eq_true rfl⟩) ⟨cP.blind, va_recv hK hP (ci := 5) (q0 := 2) rfl rfl, cP.use (en_z hb0 hS) (hE.on hAb hS) hPc hKc hDc trivial⟩ rfl rfl hl.1 rfl (lv_room (Nat.le_of_ble_eq_true rfl)) dX18_ring_75 ⟨Nat.le_of_ble_eq_true rfl, Nat.le_of_ble_eq_true rfl⟩) hS (fun q _ h => hFc q h) hFc (fun r_16 u t H1 locs ht hvm hw hB hz1 hk1 hS => ?_)
        have hP1 : va_P (dC, dI) vwCl [] H1 := fun k q h => by simp at h
        have hD1 : va_D (va_A [] H.size) [] := ⟨fun i j p q h => by simp at h, fun k q h => by simp at h⟩
        try dsimp only at hw
        obtain ⟨hP, hD⟩ := va_join (wr := [(mm, .inr (24, [.int 0, .ref stu, .ref cla, .ref pic, .ref act, .int 5, .int 50, .ref nts, .ref isn, .int 1600, .ref boa, .ref mas, .ref pai, .ref sol, .int 0, .ref bal, .ref leg])), (mas, .inr (5, [.int 0, .ref en.2.2.1, .int 0])), (boa, .inr (5, [.int 1, .ref u_14.1, .int 1])), (u_14.1, .inl (u_14.2.1, 10, .inr (.inr (.inr (.inr u_14.2.2)))))]) (w1 := []) hP hD [] [0, 1, 2, 3] rfl rfl (by decide) (by decide) hk1 hFc hP1 hD1
        generalize H1 = H at hP hS ⊢
        have hP : va_P (dC, dI) vwCl [(mm, .inr (24, [.int 0, .ref stu, .ref cla, .ref pic, .ref act, .int 5, .int 50, .ref nts, .ref isn, .int 1600, .ref boa, .ref mas, .ref pai, .ref sol, .int 0, .ref bal, .ref leg])), (mas, .inr (5, [.int 0, .ref en.2.2.1, .int 0])), (boa, .inr (5, [.int 1, .ref u_14.1, .int 1])), (u_14.1, .inl (u_14.2.1, 10, .inr (.inr (.inr (.inr u_14.2.2)))))] H := hP
        have hD : va_D A [(mm, .inr (24, [.int 0, .ref stu, .ref cla, .ref pic, .ref act, .int 5, .int 50, .ref nts, .ref isn, .int 1600, .ref boa, .ref mas, .ref pai, .ref sol, .int 0, .ref bal, .ref leg])), (mas, .inr (5, [.int 0, .ref en.2.2.1, .int 0])), (boa, .inr (5, [.int 1, .ref u_14.1, .int 1])), (u_14.1, .inl (u_14.2.1, 10, .inr (.inr (.inr (.inr u_14.2.2)))))] := hD
        have hR : va_P (dC, dI) vwCl [] H := fun k q h => by simp at h
        refine W.widen (k := 1) (n := 10) (Nat.le_of_ble_eq_true rfl) (Nat.le_of_ble_eq_true rfl) ?_
        subst r_16
        refine W.widen (k := 1) (n := 10) (Nat.le_of_ble_eq_true rfl) (Nat.le_of_ble_eq_true rfl) ?_
        exact W.iret (v := 1) hx hb hr (fun t ht hW => ⟨⟨1, ⟨0, [.ref stu, .ref cla, .ref pic, .ref act, .int 5, .int 50, .ref nts, .ref isn, .int 1600, .ref boa, .ref mas, .ref pai, .ref sol, .int 0, .ref bal, .ref leg]⟩, rfl, (z_c_X18_ring_126 w z r_1 h_2 c_3 c_4 c_6), cB.mk ht hW (hP.sub [0] rfl) (hK.sub [] rfl) (hD.sub [0] (by decide) rfl) (trivial)⟩, hS.F ht⟩) hS.2.2 dX18_ring_80
    · skip
      refine lv_aload_n hx hb dX18_ring_25 rfl (lv_at hl 0 rfl) ?_
      refine va_get (D := (dC, dI)) (ci := 24) (v := .ref mas) (C := RX18) (T := TX18) (N := 17) hx hb hts (by decide +kernel) hown hK hP 0 rfl rfl 11 (by decide) (hts (.fieldLink RX18 52 "UnderpaintModel" "master" "Ljava/util/List;") (by decide +kernel)) (fun _ h9 => h9) rfl dX18_ring_26 ?_
      refine lv_goto (tgt := 36) hx hb dX18_ring_29 (by decide) ?_
      refine lv_astore_n (lv' := [(3, .ref mas), (0, .ref mm), (1, .int w), (2, .int z)]) hx hb dX18_ring_36 rfl hl (by decide) rfl (fun ls hl => ?_)
      refine lv_aload_n hx hb dX18_ring_37 rfl (lv_at hl 0 rfl) ?_
      have hPc := (hP.app hR).sub (ws' := [] ++ [(mas, .inr (5, [.int 0, .ref en.2.2.1, .int 0]))]) [2] rfl
      have hDc := (en_DD hD hDr hN0 hAb).sub (ws' := [] ++ [(mas, .inr (5, [.int 0, .ref en.2.2.1, .int 0]))]) [2] (by decide) rfl
      have hKc := hK.sub (tys' := []) [] rfl
      have hFc := va_free (wc := []) hD hS hA [] rfl
      refine va_callFi (va_runF (As := []) (rest := []) (hK.1 5 _ rfl).2 ⟨hx, hb, hml, hown, hts⟩ (c_Jx4a65c_size l dC dI b0 en H.size mas en.2.2.1 0 0) (va_cwF 0 hts gX18_ring_Jx4a65c_size_8abf5_f74Jx4a65c rfl rfl rfl (hE.face ("java/util/ArrayList", ⟨"java/util/List", "size", "()I"⟩, ⟨"java/util/ArrayList", "size", "()I"⟩) (by decide +kernel)) (by decide +kernel) ⟨Nat.le_of_ble_eq_true rfl, Nat.le_of_ble_eq_true rfl⟩) ⟨cP.blind, va_recv hK hP (ci := 5) (q0 := 2) rfl rfl, cP.use (en_z hb0 hS) (hE.on hAb hS) hPc hKc hDc trivial⟩ rfl rfl hl.1 rfl (lv_room (Nat.le_of_ble_eq_true rfl)) dX18_ring_38 ⟨Nat.le_of_ble_eq_true rfl, Nat.le_of_ble_eq_true rfl⟩) hS (fun q _ h => hFc q h) hFc (fun r_17 u t H1 locs ht hvm hw hB hz1 hk1 hS => ?_)
      have hP1 : va_P (dC, dI) vwCl [] H1 := fun k q h => by simp at h
      have hD1 : va_D (va_A [] H.size) [] := ⟨fun i j p q h => by simp at h, fun k q h => by simp at h⟩
      try dsimp only at hw
      obtain ⟨hP, hD⟩ := va_join (wr := [(mm, .inr (24, [.int 0, .ref stu, .ref cla, .ref pic, .ref act, .int 5, .int 50, .ref nts, .ref isn, .int 1600, .ref boa, .ref mas, .ref pai, .ref sol, .int 0, .ref bal, .ref leg])), (boa, .inr (5, [.int 0, .ref en.2.2.1, .int 0])), (mas, .inr (5, [.int 0, .ref en.2.2.1, .int 0]))]) (w1 := []) hP hD [] [0, 1, 2] rfl rfl (by decide) (by decide) hk1 hFc hP1 hD1
      generalize H1 = H at hP hS ⊢
      have hP : va_P (dC, dI) vwCl [(mm, .inr (24, [.int 0, .ref stu, .ref cla, .ref pic, .ref act, .int 5, .int 50, .ref nts, .ref isn, .int 1600, .ref boa, .ref mas, .ref pai, .ref sol, .int 0, .ref bal, .ref leg])), (boa, .inr (5, [.int 0, .ref en.2.2.1, .int 0])), (mas, .inr (5, [.int 0, .ref en.2.2.1, .int 0]))] H := hP
      have hD : va_D A [(mm, .inr (24, [.int 0, .ref stu, .ref cla, .ref pic, .ref act, .int 5, .int 50, .ref nts, .ref isn, .int 1600, .ref boa, .ref mas, .ref pai, .ref sol, .int 0, .ref bal, .ref leg])), (boa, .inr (5, [.int 0, .ref en.2.2.1, .int 0])), (mas, .inr (5, [.int 0, .ref en.2.2.1, .int 0]))] := hD
      have hR : va_P (dC, dI) vwCl [] H := fun k q h => by simp at h
      refine W.widen (k := 0) (n := 0) (Nat.le_of_ble_eq_true rfl) (Nat.le_of_ble_eq_true rfl) ?_
      subst r_17
      refine lv_iload_n hx hb dX18_ring_43 rfl (lv_at hl 3 rfl) ?_
      refine lv_if_eq (tgt := 52) hx hb dX18_ring_44 (by decide) (fun c_18 => ?_) (fun c_18 => ?_)
      · skip
        refine lv_bipush (v := 20) hx hb dX18_ring_52 (by decide) ?_
        refine lv_icmp_ne (tgt := 63) hx hb dX18_ring_54 (by decide) (fun c_19 => ?_) (fun c_19 => absurd c_19 (by decide))
        refine lv_aload_n hx hb dX18_ring_63 rfl (lv_at hl 0 rfl) ?_
        refine lv_iload_n hx hb dX18_ring_64 rfl (lv_at hl 2 rfl) ?_
        have hPc := (hP.app hR).sub (ws' := [] ++ []) [] rfl
        have hDc := (en_DD hD hDr hN0 hAb).sub (ws' := [] ++ []) [] (by decide) rfl
        have hKc := hK.sub (tys' := []) [] rfl
        have hFc := va_free (wc := []) hD hS hA [] rfl
        refine va_callq (va_runS (As := [.int w]) (rest := [.ref mas]) ⟨hx, hb, hml, hown, hts⟩ (c_valueOf l dC dI b0 en H.size w (z_c_X18_ring_127 w z r_1 h_2 c_3 c_4 c_18) (z_c_X18_ring_128 w z r_1 h_2 c_3 c_4 c_18)) (va_cwS 1 hts gX18_ring_J6_valueOf_2dffe rfl rfl rfl (by decide +kernel) ⟨Nat.le_of_ble_eq_true rfl, Nat.le_of_ble_eq_true rfl⟩) ⟨cP.blind, cP.use (en_z hb0 hS) (hE.on hAb hS) hPc hKc hDc trivial⟩ rfl rfl hl.1 rfl (lv_room (Nat.le_of_ble_eq_true rfl)) dX18_ring_65 ⟨Nat.le_of_ble_eq_true rfl, Nat.le_of_ble_eq_true rfl⟩) hS (fun q _ h => hFc q h) hFc (fun r_20 u t H1 locs ht hvm hw hB hz1 hk1 hS => ?_)
        have hP1 : va_P (dC, dI) vwCl [] H1 := fun k q h => by simp at h
        have hD1 : va_D (va_A [] H.size) [] := ⟨fun i j p q h => by simp at h, fun k q h => by simp at h⟩
        try dsimp only at hw
        obtain ⟨hP, hD⟩ := va_join (wr := [(mm, .inr (24, [.int 0, .ref stu, .ref cla, .ref pic, .ref act, .int 5, .int 50, .ref nts, .ref isn, .int 1600, .ref boa, .ref mas, .ref pai, .ref sol, .int 0, .ref bal, .ref leg])), (boa, .inr (5, [.int 0, .ref en.2.2.1, .int 0])), (mas, .inr (5, [.int 0, .ref en.2.2.1, .int 0]))]) (w1 := []) hP hD [] [0, 1, 2] rfl rfl (by decide) (by decide) hk1 hFc hP1 hD1
        generalize H1 = H at hP hS ⊢
        have hP : va_P (dC, dI) vwCl [(mm, .inr (24, [.int 0, .ref stu, .ref cla, .ref pic, .ref act, .int 5, .int 50, .ref nts, .ref isn, .int 1600, .ref boa, .ref mas, .ref pai, .ref sol, .int 0, .ref bal, .ref leg])), (boa, .inr (5, [.int 0, .ref en.2.2.1, .int 0])), (mas, .inr (5, [.int 0, .ref en.2.2.1, .int 0]))] H := hP
        have hD : va_D A [(mm, .inr (24, [.int 0, .ref stu, .ref cla, .ref pic, .ref act, .int 5, .int 50, .ref nts, .ref isn, .int 1600, .ref boa, .ref mas, .ref pai, .ref sol, .int 0, .ref bal, .ref leg])), (boa, .inr (5, [.int 0, .ref en.2.2.1, .int 0])), (mas, .inr (5, [.int 0, .ref en.2.2.1, .int 0]))] := hD
        have hR : va_P (dC, dI) vwCl [] H := fun k q h => by simp at h
        refine W.widen (k := 0) (n := 0) (Nat.le_of_ble_eq_true rfl) (Nat.le_of_ble_eq_true rfl) ?_
        subst r_20
        have hPc := (hP.app hR).sub (ws' := [(mas, .inr (5, [.int 0, .ref en.2.2.1, .int 0]))] ++ []) [2] rfl
        have hDc := (en_DD hD hDr hN0 hAb).sub (ws' := [(mas, .inr (5, [.int 0, .ref en.2.2.1, .int 0]))] ++ []) [2] (by decide) rfl
        have hKc := hK.sub (tys' := []) [] rfl
        have hFc := va_free (wc := [(mas, .inr (5, [.int 0, .ref en.2.2.1, .int 0]))]) hD hS hA [2] rfl
        refine va_callFi (va_runF (As := [.ref (en.2.2.2 (3 + (nC w)))]) (rest := []) (hK.1 5 _ rfl).2 ⟨hx, hb, hml, hown, hts⟩ (c_addi l dC dI b0 en H.size mas (nC w) (nC_lt (z_c_X18_ring_127 w z r_1 h_2 c_3 c_4 c_18) (z_c_X18_ring_128 w z r_1 h_2 c_3 c_4 c_18))) (va_cwF 1 hts gX18_ring_Jx4a65c_add_9ea2d_f96Jx4a65c rfl rfl rfl (hE.face ("java/util/ArrayList", ⟨"java/util/List", "add", "(Ljava/lang/Object;)Z"⟩, ⟨"java/util/ArrayList", "add", "(Ljava/lang/Object;)Z"⟩) (by decide +kernel)) (by decide +kernel) ⟨Nat.le_of_ble_eq_true rfl, Nat.le_of_ble_eq_true rfl⟩) ⟨cP.blind, va_recv hK hP (ci := 5) (q0 := 2) rfl rfl, cP.use (en_z hb0 hS) (hE.on hAb hS) hPc hKc hDc trivial⟩ rfl rfl hl.1 rfl (lv_room (Nat.le_of_ble_eq_true rfl)) dX18_ring_68 ⟨Nat.le_of_ble_eq_true rfl, Nat.le_of_ble_eq_true rfl⟩) hS (fun q _ h => hFc q h) hFc (fun r_22 u_21 t H1 locs ht hvm hw hB hz1 hk1 hS => ?_)
        obtain ⟨hP1, hK1, hD1, hF1⟩ := hB
        rw [ht] at hP1
        try rw [ht] at hF1
        have hK1 := va_K.moved hvm.symm hK1
        try dsimp only at hw
        obtain ⟨hP, hD⟩ := va_join (wr := [(mm, .inr (24, [.int 0, .ref stu, .ref cla, .ref pic, .ref act, .int 5, .int 50, .ref nts, .ref isn, .int 1600, .ref boa, .ref mas, .ref pai, .ref sol, .int 0, .ref bal, .ref leg])), (boa, .inr (5, [.int 0, .ref en.2.2.1, .int 0]))]) (w1 := [(mas, .inr (5, [.int 1, .ref u_21.1, .int 1])), (u_21.1, .inl (u_21.2.1, 10, .inr (.inr (.inr (.inr u_21.2.2)))))]) hP hD [2] [0, 1] rfl rfl (by decide) (by decide) hk1 hFc hP1 hD1
        have hK := hK.app hK1
        generalize H1 = H at hP hS ⊢
        have hP : va_P (dC, dI) vwCl [(mm, .inr (24, [.int 0, .ref stu, .ref cla, .ref pic, .ref act, .int 5, .int 50, .ref nts, .ref isn, .int 1600, .ref boa, .ref mas, .ref pai, .ref sol, .int 0, .ref bal, .ref leg])), (boa, .inr (5, [.int 0, .ref en.2.2.1, .int 0])), (mas, .inr (5, [.int 1, .ref u_21.1, .int 1])), (u_21.1, .inl (u_21.2.1, 10, .inr (.inr (.inr (.inr u_21.2.2)))))] H := hP
        have hD : va_D A [(mm, .inr (24, [.int 0, .ref stu, .ref cla, .ref pic, .ref act, .int 5, .int 50, .ref nts, .ref isn, .int 1600, .ref boa, .ref mas, .ref pai, .ref sol, .int 0, .ref bal, .ref leg])), (boa, .inr (5, [.int 0, .ref en.2.2.1, .int 0])), (mas, .inr (5, [.int 1, .ref u_21.1, .int 1])), (u_21.1, .inl (u_21.2.1, 10, .inr (.inr (.inr (.inr u_21.2.2)))))] := hD
        have hR : va_P (dC, dI) vwCl [] H := fun k q h => by simp at h
        refine W.widen (k := 1) (n := 10) (Nat.le_of_ble_eq_true rfl) (Nat.le_of_ble_eq_true rfl) ?_
        subst r_22
        refine lv_pop hx hb dX18_ring_73 rfl ?_
        refine lv_aload_n hx hb dX18_ring_74 rfl (lv_at hl 0 rfl) ?_
        have hPc := (hP.app hR).sub (ws' := [] ++ [(mas, .inr (5, [.int 1, .ref u_21.1, .int 1]))]) [2] rfl
        have hDc := (en_DD hD hDr hN0 hAb).sub (ws' := [] ++ [(mas, .inr (5, [.int 1, .ref u_21.1, .int 1]))]) [2] (by decide) rfl
        have hKc := hK.sub (tys' := []) [] rfl
        have hFc := va_free (wc := []) hD hS hA [] rfl
        refine va_callFi (va_runF (As := []) (rest := []) (hK.1 5 _ rfl).2 ⟨hx, hb, hml, hown, hts⟩ (c_Jx4a65c_size l dC dI b0 en H.size mas u_21.1 1 1) (va_cwF 0 hts gX18_ring_Jx4a65c_size_8abf5_f74Jx4a65c rfl rfl rfl (hE.face ("java/util/ArrayList", ⟨"java/util/List", "size", "()I"⟩, ⟨"java/util/ArrayList", "size", "()I"⟩) (by decide +kernel)) (by decide +kernel) ⟨Nat.le_of_ble_eq_true rfl, Nat.le_of_ble_eq_true rfl⟩) ⟨cP.blind, va_recv hK hP (ci := 5) (q0 := 2) rfl rfl, cP.use (en_z hb0 hS) (hE.on hAb hS) hPc hKc hDc trivial⟩ rfl rfl hl.1 rfl (lv_room (Nat.le_of_ble_eq_true rfl)) dX18_ring_75 ⟨Nat.le_of_ble_eq_true rfl, Nat.le_of_ble_eq_true rfl⟩) hS (fun q _ h => hFc q h) hFc (fun r_23 u t H1 locs ht hvm hw hB hz1 hk1 hS => ?_)
        have hP1 : va_P (dC, dI) vwCl [] H1 := fun k q h => by simp at h
        have hD1 : va_D (va_A [] H.size) [] := ⟨fun i j p q h => by simp at h, fun k q h => by simp at h⟩
        try dsimp only at hw
        obtain ⟨hP, hD⟩ := va_join (wr := [(mm, .inr (24, [.int 0, .ref stu, .ref cla, .ref pic, .ref act, .int 5, .int 50, .ref nts, .ref isn, .int 1600, .ref boa, .ref mas, .ref pai, .ref sol, .int 0, .ref bal, .ref leg])), (boa, .inr (5, [.int 0, .ref en.2.2.1, .int 0])), (mas, .inr (5, [.int 1, .ref u_21.1, .int 1])), (u_21.1, .inl (u_21.2.1, 10, .inr (.inr (.inr (.inr u_21.2.2)))))]) (w1 := []) hP hD [] [0, 1, 2, 3] rfl rfl (by decide) (by decide) hk1 hFc hP1 hD1
        generalize H1 = H at hP hS ⊢
        have hP : va_P (dC, dI) vwCl [(mm, .inr (24, [.int 0, .ref stu, .ref cla, .ref pic, .ref act, .int 5, .int 50, .ref nts, .ref isn, .int 1600, .ref boa, .ref mas, .ref pai, .ref sol, .int 0, .ref bal, .ref leg])), (boa, .inr (5, [.int 0, .ref en.2.2.1, .int 0])), (mas, .inr (5, [.int 1, .ref u_21.1, .int 1])), (u_21.1, .inl (u_21.2.1, 10, .inr (.inr (.inr (.inr u_21.2.2)))))] H := hP
        have hD : va_D A [(mm, .inr (24, [.int 0, .ref stu, .ref cla, .ref pic, .ref act, .int 5, .int 50, .ref nts, .ref isn, .int 1600, .ref boa, .ref mas, .ref pai, .ref sol, .int 0, .ref bal, .ref leg])), (boa, .inr (5, [.int 0, .ref en.2.2.1, .int 0])), (mas, .inr (5, [.int 1, .ref u_21.1, .int 1])), (u_21.1, .inl (u_21.2.1, 10, .inr (.inr (.inr (.inr u_21.2.2)))))] := hD
        have hR : va_P (dC, dI) vwCl [] H := fun k q h => by simp at h
        refine W.widen (k := 1) (n := 10) (Nat.le_of_ble_eq_true rfl) (Nat.le_of_ble_eq_true rfl) ?_
        subst r_23
        refine W.widen (k := 1) (n := 10) (Nat.le_of_ble_eq_true rfl) (Nat.le_of_ble_eq_true rfl) ?_
        exact W.iret (v := 1) hx hb hr (fun t ht hW => ⟨⟨1, ⟨0, [.ref stu, .ref cla, .ref pic, .ref act, .int 5, .int 50, .ref nts, .ref isn, .int 1600, .ref boa, .ref mas, .ref pai, .ref sol, .int 0, .ref bal, .ref leg]⟩, rfl, (z_c_X18_ring_129 w z r_1 h_2 c_3 c_4 c_18), cB.mk ht hW (hP.sub [0] rfl) (hK.sub [] rfl) (hD.sub [0] (by decide) rfl) (trivial)⟩, hS.F ht⟩) hS.2.2 dX18_ring_80
      · skip
        refine lv_bipush (v := 60) hx hb dX18_ring_47 (by decide) ?_
        refine lv_goto (tgt := 54) hx hb dX18_ring_49 (by decide) ?_
        refine lv_icmp_ne (tgt := 63) hx hb dX18_ring_54 (by decide) (fun c_24 => ?_) (fun c_24 => absurd c_24 (by decide))
        refine lv_aload_n hx hb dX18_ring_63 rfl (lv_at hl 0 rfl) ?_
        refine lv_iload_n hx hb dX18_ring_64 rfl (lv_at hl 2 rfl) ?_
        have hPc := (hP.app hR).sub (ws' := [] ++ []) [] rfl
        have hDc := (en_DD hD hDr hN0 hAb).sub (ws' := [] ++ []) [] (by decide) rfl
        have hKc := hK.sub (tys' := []) [] rfl
        have hFc := va_free (wc := []) hD hS hA [] rfl
        refine va_callq (va_runS (As := [.int w]) (rest := [.ref mas]) ⟨hx, hb, hml, hown, hts⟩ (c_valueOf l dC dI b0 en H.size w (z_c_X18_ring_130 w z r_1 h_2 c_3 c_4 c_18) (z_c_X18_ring_131 w z r_1 h_2 c_3 c_4 c_18)) (va_cwS 1 hts gX18_ring_J6_valueOf_2dffe rfl rfl rfl (by decide +kernel) ⟨Nat.le_of_ble_eq_true rfl, Nat.le_of_ble_eq_true rfl⟩) ⟨cP.blind, cP.use (en_z hb0 hS) (hE.on hAb hS) hPc hKc hDc trivial⟩ rfl rfl hl.1 rfl (lv_room (Nat.le_of_ble_eq_true rfl)) dX18_ring_65 ⟨Nat.le_of_ble_eq_true rfl, Nat.le_of_ble_eq_true rfl⟩) hS (fun q _ h => hFc q h) hFc (fun r_25 u t H1 locs ht hvm hw hB hz1 hk1 hS => ?_)
        have hP1 : va_P (dC, dI) vwCl [] H1 := fun k q h => by simp at h
        have hD1 : va_D (va_A [] H.size) [] := ⟨fun i j p q h => by simp at h, fun k q h => by simp at h⟩
        try dsimp only at hw
        obtain ⟨hP, hD⟩ := va_join (wr := [(mm, .inr (24, [.int 0, .ref stu, .ref cla, .ref pic, .ref act, .int 5, .int 50, .ref nts, .ref isn, .int 1600, .ref boa, .ref mas, .ref pai, .ref sol, .int 0, .ref bal, .ref leg])), (boa, .inr (5, [.int 0, .ref en.2.2.1, .int 0])), (mas, .inr (5, [.int 0, .ref en.2.2.1, .int 0]))]) (w1 := []) hP hD [] [0, 1, 2] rfl rfl (by decide) (by decide) hk1 hFc hP1 hD1
        generalize H1 = H at hP hS ⊢
        have hP : va_P (dC, dI) vwCl [(mm, .inr (24, [.int 0, .ref stu, .ref cla, .ref pic, .ref act, .int 5, .int 50, .ref nts, .ref isn, .int 1600, .ref boa, .ref mas, .ref pai, .ref sol, .int 0, .ref bal, .ref leg])), (boa, .inr (5, [.int 0, .ref en.2.2.1, .int 0])), (mas, .inr (5, [.int 0, .ref en.2.2.1, .int 0]))] H := hP
        have hD : va_D A [(mm, .inr (24, [.int 0, .ref stu, .ref cla, .ref pic, .ref act, .int 5, .int 50, .ref nts, .ref isn, .int 1600, .ref boa, .ref mas, .ref pai, .ref sol, .int 0, .ref bal, .ref leg])), (boa, .inr (5, [.int 0, .ref en.2.2.1, .int 0])), (mas, .inr (5, [.int 0, .ref en.2.2.1, .int 0]))] := hD
        have hR : va_P (dC, dI) vwCl [] H := fun k q h => by simp at h
        refine W.widen (k := 0) (n := 0) (Nat.le_of_ble_eq_true rfl) (Nat.le_of_ble_eq_true rfl) ?_
        subst r_25
        have hPc := (hP.app hR).sub (ws' := [(mas, .inr (5, [.int 0, .ref en.2.2.1, .int 0]))] ++ []) [2] rfl
        have hDc := (en_DD hD hDr hN0 hAb).sub (ws' := [(mas, .inr (5, [.int 0, .ref en.2.2.1, .int 0]))] ++ []) [2] (by decide) rfl
        have hKc := hK.sub (tys' := []) [] rfl
        have hFc := va_free (wc := [(mas, .inr (5, [.int 0, .ref en.2.2.1, .int 0]))]) hD hS hA [2] rfl
        refine va_callFi (va_runF (As := [.ref (en.2.2.2 (3 + (nC w)))]) (rest := []) (hK.1 5 _ rfl).2 ⟨hx, hb, hml, hown, hts⟩ (c_addi l dC dI b0 en H.size mas (nC w) (nC_lt (z_c_X18_ring_130 w z r_1 h_2 c_3 c_4 c_18) (z_c_X18_ring_131 w z r_1 h_2 c_3 c_4 c_18))) (va_cwF 1 hts gX18_ring_Jx4a65c_add_9ea2d_f96Jx4a65c rfl rfl rfl (hE.face ("java/util/ArrayList", ⟨"java/util/List", "add", "(Ljava/lang/Object;)Z"⟩, ⟨"java/util/ArrayList", "add", "(Ljava/lang/Object;)Z"⟩) (by decide +kernel)) (by decide +kernel) ⟨Nat.le_of_ble_eq_true rfl, Nat.le_of_ble_eq_true rfl⟩) ⟨cP.blind, va_recv hK hP (ci := 5) (q0 := 2) rfl rfl, cP.use (en_z hb0 hS) (hE.on hAb hS) hPc hKc hDc trivial⟩ rfl rfl hl.1 rfl (lv_room (Nat.le_of_ble_eq_true rfl)) dX18_ring_68 ⟨Nat.le_of_ble_eq_true rfl, Nat.le_of_ble_eq_true rfl⟩) hS (fun q _ h => hFc q h) hFc (fun r_27 u_26 t H1 locs ht hvm hw hB hz1 hk1 hS => ?_)
        obtain ⟨hP1, hK1, hD1, hF1⟩ := hB
        rw [ht] at hP1
        try rw [ht] at hF1
        have hK1 := va_K.moved hvm.symm hK1
        try dsimp only at hw
        obtain ⟨hP, hD⟩ := va_join (wr := [(mm, .inr (24, [.int 0, .ref stu, .ref cla, .ref pic, .ref act, .int 5, .int 50, .ref nts, .ref isn, .int 1600, .ref boa, .ref mas, .ref pai, .ref sol, .int 0, .ref bal, .ref leg])), (boa, .inr (5, [.int 0, .ref en.2.2.1, .int 0]))]) (w1 := [(mas, .inr (5, [.int 1, .ref u_26.1, .int 1])), (u_26.1, .inl (u_26.2.1, 10, .inr (.inr (.inr (.inr u_26.2.2)))))]) hP hD [2] [0, 1] rfl rfl (by decide) (by decide) hk1 hFc hP1 hD1
        have hK := hK.app hK1
        generalize H1 = H at hP hS ⊢
        have hP : va_P (dC, dI) vwCl [(mm, .inr (24, [.int 0, .ref stu, .ref cla, .ref pic, .ref act, .int 5, .int 50, .ref nts, .ref isn, .int 1600, .ref boa, .ref mas, .ref pai, .ref sol, .int 0, .ref bal, .ref leg])), (boa, .inr (5, [.int 0, .ref en.2.2.1, .int 0])), (mas, .inr (5, [.int 1, .ref u_26.1, .int 1])), (u_26.1, .inl (u_26.2.1, 10, .inr (.inr (.inr (.inr u_26.2.2)))))] H := hP
        have hD : va_D A [(mm, .inr (24, [.int 0, .ref stu, .ref cla, .ref pic, .ref act, .int 5, .int 50, .ref nts, .ref isn, .int 1600, .ref boa, .ref mas, .ref pai, .ref sol, .int 0, .ref bal, .ref leg])), (boa, .inr (5, [.int 0, .ref en.2.2.1, .int 0])), (mas, .inr (5, [.int 1, .ref u_26.1, .int 1])), (u_26.1, .inl (u_26.2.1, 10, .inr (.inr (.inr (.inr u_26.2.2)))))] := hD
        have hR : va_P (dC, dI) vwCl [] H := fun k q h => by simp at h
        refine W.widen (k := 1) (n := 10) (Nat.le_of_ble_eq_true rfl) (Nat.le_of_ble_eq_true rfl) ?_
        subst r_27
        refine lv_pop hx hb dX18_ring_73 rfl ?_
        refine lv_aload_n hx hb dX18_ring_74 rfl (lv_at hl 0 rfl) ?_
        have hPc := (hP.app hR).sub (ws' := [] ++ [(mas, .inr (5, [.int 1, .ref u_26.1, .int 1]))]) [2] rfl
        have hDc := (en_DD hD hDr hN0 hAb).sub (ws' := [] ++ [(mas, .inr (5, [.int 1, .ref u_26.1, .int 1]))]) [2] (by decide) rfl
        have hKc := hK.sub (tys' := []) [] rfl
        have hFc := va_free (wc := []) hD hS hA [] rfl
        refine va_callFi (va_runF (As := []) (rest := []) (hK.1 5 _ rfl).2 ⟨hx, hb, hml, hown, hts⟩ (c_Jx4a65c_size l dC dI b0 en H.size mas u_26.1 1 1) (va_cwF 0 hts gX18_ring_Jx4a65c_size_8abf5_f74Jx4a65c rfl rfl rfl (hE.face ("java/util/ArrayList", ⟨"java/util/List", "size", "()I"⟩, ⟨"java/util/ArrayList", "size", "()I"⟩) (by decide +kernel)) (by decide +kernel) ⟨Nat.le_of_ble_eq_true rfl, Nat.le_of_ble_eq_true rfl⟩) ⟨cP.blind, va_recv hK hP (ci := 5) (q0 := 2) rfl rfl, cP.use (en_z hb0 hS) (hE.on hAb hS) hPc hKc hDc trivial⟩ rfl rfl hl.1 rfl (lv_room (Nat.le_of_ble_eq_true rfl)) dX18_ring_75 ⟨Nat.le_of_ble_eq_true rfl, Nat.le_of_ble_eq_true rfl⟩) hS (fun q _ h => hFc q h) hFc (fun r_28 u t H1 locs ht hvm hw hB hz1 hk1 hS => ?_)
        have hP1 : va_P (dC, dI) vwCl [] H1 := fun k q h => by simp at h
        have hD1 : va_D (va_A [] H.size) [] := ⟨fun i j p q h => by simp at h, fun k q h => by simp at h⟩
        try dsimp only at hw
        obtain ⟨hP, hD⟩ := va_join (wr := [(mm, .inr (24, [.int 0, .ref stu, .ref cla, .ref pic, .ref act, .int 5, .int 50, .ref nts, .ref isn, .int 1600, .ref boa, .ref mas, .ref pai, .ref sol, .int 0, .ref bal, .ref leg])), (boa, .inr (5, [.int 0, .ref en.2.2.1, .int 0])), (mas, .inr (5, [.int 1, .ref u_26.1, .int 1])), (u_26.1, .inl (u_26.2.1, 10, .inr (.inr (.inr (.inr u_26.2.2)))))]) (w1 := []) hP hD [] [0, 1, 2, 3] rfl rfl (by decide) (by decide) hk1 hFc hP1 hD1
        generalize H1 = H at hP hS ⊢
        have hP : va_P (dC, dI) vwCl [(mm, .inr (24, [.int 0, .ref stu, .ref cla, .ref pic, .ref act, .int 5, .int 50, .ref nts, .ref isn, .int 1600, .ref boa, .ref mas, .ref pai, .ref sol, .int 0, .ref bal, .ref leg])), (boa, .inr (5, [.int 0, .ref en.2.2.1, .int 0])), (mas, .inr (5, [.int 1, .ref u_26.1, .int 1])), (u_26.1, .inl (u_26.2.1, 10, .inr (.inr (.inr (.inr u_26.2.2)))))] H := hP
        have hD : va_D A [(mm, .inr (24, [.int 0, .ref stu, .ref cla, .ref pic, .ref act, .int 5, .int 50, .ref nts, .ref isn, .int 1600, .ref boa, .ref mas, .ref pai, .ref sol, .int 0, .ref bal, .ref leg])), (boa, .inr (5, [.int 0, .ref en.2.2.1, .int 0])), (mas, .inr (5, [.int 1, .ref u_26.1, .int 1])), (u_26.1, .inl (u_26.2.1, 10, .inr (.inr (.inr (.inr u_26.2.2)))))] := hD
        have hR : va_P (dC, dI) vwCl [] H := fun k q h => by simp at h
        refine W.widen (k := 1) (n := 10) (Nat.le_of_ble_eq_true rfl) (Nat.le_of_ble_eq_true rfl) ?_
        subst r_28
        refine W.widen (k := 1) (n := 10) (Nat.le_of_ble_eq_true rfl) (Nat.le_of_ble_eq_true rfl) ?_
        exact W.iret (v := 1) hx hb hr (fun t ht hW => ⟨⟨1, ⟨0, [.ref stu, .ref cla, .ref pic, .ref act, .int 5, .int 50, .ref nts, .ref isn, .int 1600, .ref boa, .ref mas, .ref pai, .ref sol, .int 0, .ref bal, .ref leg]⟩, rfl, (z_c_X18_ring_132 w z r_1 h_2 c_3 c_4 c_18), cB.mk ht hW (hP.sub [0] rfl) (hK.sub [] rfl) (hD.sub [0] (by decide) rfl) (trivial)⟩, hS.F ht⟩) hS.2.2 dX18_ring_80
  · skip
    refine lv_aload_n hx hb dX18_ring_15 rfl (lv_at hl 0 rfl) ?_
    refine lv_iconst (v := 1) hx hb dX18_ring_16 (by decide) ?_
    have hPc := (hP.app hR).sub (ws' := [(mm, .inr (24, .int 0 :: ([.ref stu, .ref cla, .ref pic, .ref act, .int 5, .int 50, .ref nts, .ref isn, .int 1600, .ref boa, .ref mas, .ref pai, .ref sol, .int 0, .ref bal, .ref leg])))] ++ []) [0] rfl
    have hDc := (en_DD hD hDr hN0 hAb).sub (ws' := [(mm, .inr (24, .int 0 :: ([.ref stu, .ref cla, .ref pic, .ref act, .int 5, .int 50, .ref nts, .ref isn, .int 1600, .ref boa, .ref mas, .ref pai, .ref sol, .int 0, .ref bal, .ref leg])))] ++ []) [0] (by decide) rfl
    have hKc := hK.sub (tys' := []) [] rfl
    have hFc := va_free (wc := [(mm, .inr (24, .int 0 :: ([.ref stu, .ref cla, .ref pic, .ref act, .int 5, .int 50, .ref nts, .ref isn, .int 1600, .ref boa, .ref mas, .ref pai, .ref sol, .int 0, .ref bal, .ref leg])))]) hD hS hA [0] rfl
    refine va_calli (va_runV (As := [.int 1]) (rest := []) ⟨hx, hb, hml, hown, hts⟩ (c_X18_fails l dC dI b0 en H.size mm 0 1 ([.ref stu, .ref cla, .ref pic, .ref act, .int 5, .int 50, .ref nts, .ref isn, .int 1600, .ref boa, .ref mas, .ref pai, .ref sol, .int 0, .ref bal, .ref leg])) (cwV 1 hts gX18_ring_X18_fails rfl rfl rfl (by decide +kernel) ⟨Nat.le_of_ble_eq_true rfl, Nat.le_of_ble_eq_true rfl⟩) ⟨cP.blind, va_recv hK hP (ci := 24) (q0 := 0) rfl rfl, cP.use (en_z hb0 hS) (hE.on hAb hS) hPc hKc hDc trivial⟩ rfl rfl hl.1 rfl (lv_room (Nat.le_of_ble_eq_true rfl)) dX18_ring_17 ⟨Nat.le_of_ble_eq_true rfl, Nat.le_of_ble_eq_true rfl⟩) hS (fun q _ h => hFc q h) hFc (fun r_29 u t H1 locs ht hvm hw hB hz1 hk1 hS => ?_)
    obtain ⟨hP1, hK1, hD1, hF1⟩ := hB
    rw [ht] at hP1
    try rw [ht] at hF1
    have hK1 := va_K.moved hvm.symm hK1
    try dsimp only at hw
    obtain ⟨hP, hD⟩ := va_join (wr := [(boa, .inr (5, [.int 0, .ref en.2.2.1, .int 0])), (mas, .inr (5, [.int 0, .ref en.2.2.1, .int 0]))]) (w1 := [(mm, .inr (24, [.int 1, .ref stu, .ref cla, .ref pic, .ref act, .int 5, .int 50, .ref nts, .ref isn, .int 1600, .ref boa, .ref mas, .ref pai, .ref sol, .int 0, .ref bal, .ref leg]))]) hP hD [0] [1, 2] rfl rfl (by decide) (by decide) hk1 hFc hP1 hD1
    generalize H1 = H at hP hS ⊢
    have hP : va_P (dC, dI) vwCl [(boa, .inr (5, [.int 0, .ref en.2.2.1, .int 0])), (mas, .inr (5, [.int 0, .ref en.2.2.1, .int 0])), (mm, .inr (24, [.int 1, .ref stu, .ref cla, .ref pic, .ref act, .int 5, .int 50, .ref nts, .ref isn, .int 1600, .ref boa, .ref mas, .ref pai, .ref sol, .int 0, .ref bal, .ref leg]))] H := hP
    have hD : va_D A [(boa, .inr (5, [.int 0, .ref en.2.2.1, .int 0])), (mas, .inr (5, [.int 0, .ref en.2.2.1, .int 0])), (mm, .inr (24, [.int 1, .ref stu, .ref cla, .ref pic, .ref act, .int 5, .int 50, .ref nts, .ref isn, .int 1600, .ref boa, .ref mas, .ref pai, .ref sol, .int 0, .ref bal, .ref leg]))] := hD
    have hR : va_P (dC, dI) vwCl [] H := fun k q h => by simp at h
    refine W.widen (k := 0) (n := 0) (Nat.le_of_ble_eq_true rfl) (Nat.le_of_ble_eq_true rfl) ?_
    subst r_29
    refine W.widen (k := 1) (n := 10) (Nat.le_of_ble_eq_true rfl) (Nat.le_of_ble_eq_true rfl) ?_
    exact W.iret (v := 0) hx hb hr (fun t ht hW => ⟨⟨0, ⟨1, [.ref stu, .ref cla, .ref pic, .ref act, .int 5, .int 50, .ref nts, .ref isn, .int 1600, .ref boa, .ref mas, .ref pai, .ref sol, .int 0, .ref bal, .ref leg]⟩, rfl, (z_c_X18_ring_133 w r_1 h_2 c_3), cB.mk ht hW (hP.sub [2] rfl) (hK.sub [] rfl) (hD.sub [2] (by decide) rfl) (trivial)⟩, hS.F ht⟩) hS.2.2 dX18_ring_20
theorem z_c_X18_painter_134 (a : Int32) (b : Int32) (c9 : Int32) (d : Int32) (r_1 : Int32) (a_0 : r_1 = if (0 ≤ a ∧ a ≤ 99) ∧ (0 ≤ b ∧ b ≤ 99) ∧ (0 ≤ c9 ∧ c9 ≤ 99) ∧ (0 ≤ d ∧ d ≤ 99) then 1 else 0) (a_1 : ¬ r_1 = 0) : ((0 : Int32) = 0 ∧ (0 : Int32) = 0 ∧ (0 ≤ a ∧ a ≤ 99) ∧ (0 ≤ b ∧ b ≤ 99) ∧ (0 ≤ c9 ∧ c9 ≤ 99) ∧ (0 ≤ d ∧ d ≤ 99)) ∨ ((0 : Int32) = 1 ∧ ¬ ((0 ≤ a ∧ a ≤ 99) ∧ (0 ≤ b ∧ b ≤ 99) ∧ (0 ≤ c9 ∧ c9 ≤ 99) ∧ (0 ≤ d ∧ d ≤ 99))) := by grind
theorem z_c_X18_painter_135 (a : Int32) (b : Int32) (c9 : Int32) (d : Int32) (r_1 : Int32) (a_0 : r_1 = if (0 ≤ a ∧ a ≤ 99) ∧ (0 ≤ b ∧ b ≤ 99) ∧ (0 ≤ c9 ∧ c9 ≤ 99) ∧ (0 ≤ d ∧ d ≤ 99) then 1 else 0) (a_1 : r_1 = 0) : ((1 : Int32) = 0 ∧ (0 : Int32) = 0 ∧ (0 ≤ a ∧ a ≤ 99) ∧ (0 ≤ b ∧ b ≤ 99) ∧ (0 ≤ c9 ∧ c9 ≤ 99) ∧ (0 ≤ d ∧ d ≤ 99)) ∨ ((1 : Int32) = 1 ∧ ¬ ((0 ≤ a ∧ a ≤ 99) ∧ (0 ≤ b ∧ b ≤ 99) ∧ (0 ≤ c9 ∧ c9 ≤ 99) ∧ (0 ≤ d ∧ d ≤ 99))) := by grind
set_option maxHeartbeats 4000000 in
set_option maxRecDepth 100000 in
theorem c_X18_painter (l : Launch) (dC : Nat → ClassId) (dI : Nat → Nat → Nat) (b0 : Nat) (en : EnT) (sz : Nat) (mm stu cla pic act nts isn boa mas pai sol bal leg : Nat) (a b c9 d : Int32) : Met l yX18_painter wsX18_painter ({ frames := 5, cells := 2, slots := 14, locals := 127 } : Room) (cP b0 en (dC, dI) [] [(mm, .inr (24, [.int 0, .ref stu, .ref cla, .ref pic, .ref act, .int 5, .int 50, .ref nts, .ref isn, .int 1600, .ref boa, .ref mas, .ref pai, .ref sol, .int 0, .ref bal, .ref leg])), (pai, .inr (5, [.int 0, .ref en.2.2.1, .int 0]))] [] sz (fun _ => True) [.ref mm, .int a, .int b, .int c9, .int d]) (va_Qi (fun (r : Int32) (u : Int32 × List Value) => (u.1 = 0 ∧ r = 0 ∧ (0 ≤ a ∧ a ≤ 99) ∧ (0 ≤ b ∧ b ≤ 99) ∧ (0 ≤ c9 ∧ c9 ≤ 99) ∧ (0 ≤ d ∧ d ≤ 99)) ∨ (u.1 = 1 ∧ ¬ ((0 ≤ a ∧ a ≤ 99) ∧ (0 ≤ b ∧ b ≤ 99) ∧ (0 ≤ c9 ∧ c9 ≤ 99) ∧ (0 ≤ d ∧ d ≤ 99)))) (fun u t => cB (dC, dI) [] [(mm, .inr (24, .int u.1 :: u.2))] (va_A [(mm, .inr (24, [.int 0, .ref stu, .ref cla, .ref pic, .ref act, .int 5, .int 50, .ref nts, .ref isn, .int 1600, .ref boa, .ref mas, .ref pai, .ref sol, .int 0, .ref bal, .ref leg])), (pai, .inr (5, [.int 0, .ref en.2.2.1, .int 0]))] sz) (fun _ => True) t) (va_A [(mm, .inr (24, [.int 0, .ref stu, .ref cla, .ref pic, .ref act, .int 5, .int 50, .ref nts, .ref isn, .int 1600, .ref boa, .ref mas, .ref pai, .ref sol, .int 0, .ref bal, .ref leg])), (pai, .inr (5, [.int 0, .ref en.2.2.1, .int 0]))] sz)) 2 14 (va_A [(mm, .inr (24, [.int 0, .ref stu, .ref cla, .ref pic, .ref act, .int 5, .int 50, .ref nts, .ref isn, .int 1600, .ref boa, .ref mas, .ref pai, .ref sol, .int 0, .ref bal, .ref leg])), (pai, .inr (5, [.int 0, .ref en.2.2.1, .int 0]))] sz) := by
  refine Met.ofW (cc := cX18_painter) (maxL := 5) (ret := (some .int)) (by decide) rfl ?_
  intro p e s m args below meth c s₁ B hml hv
  obtain ⟨rfl, hsz, hb0, hE, hPP, hK, hDD, hF0⟩ := hv
  have hx := B.exec
  have hb := B.bytes
  have hr := B.returns
  have hts := atoms_spec (ws := wsX18_painter) B.pre
  have hown : s.vm.findClass RX18 = some m.cls := findClass_of_methodNamed B.named
  have hlocks := B.notSynchronized
  subst hsz
  have hN0 := en_N hPP hDD rfl
  have hP : va_P (dC, dI) vwCl [(mm, .inr (24, [.int 0, .ref stu, .ref cla, .ref pic, .ref act, .int 5, .int 50, .ref nts, .ref isn, .int 1600, .ref boa, .ref mas, .ref pai, .ref sol, .int 0, .ref bal, .ref leg])), (pai, .inr (5, [.int 0, .ref en.2.2.1, .int 0]))] s.heap := hPP.sub [0, 1] rfl
  have hR0 : va_P (dC, dI) vwCl [] s.heap := hPP.sub [] rfl
  have hD0 : va_D (fun q => b0 ≤ q) [(mm, .inr (24, [.int 0, .ref stu, .ref cla, .ref pic, .ref act, .int 5, .int 50, .ref nts, .ref isn, .int 1600, .ref boa, .ref mas, .ref pai, .ref sol, .int 0, .ref bal, .ref leg])), (pai, .inr (5, [.int 0, .ref en.2.2.1, .int 0]))] := hDD.sub [0, 1] (by decide) rfl
  have hDr : va_D (fun q => b0 ≤ q) [] := hDD.sub [] (by decide) rfl
  have hAb := en_A (sz := s.heap.size) hD0 hb0
  have hD := hD0.self (sz := s.heap.size)
  generalize hAe : va_A [(mm, .inr (24, [.int 0, .ref stu, .ref cla, .ref pic, .ref act, .int 5, .int 50, .ref nts, .ref isn, .int 1600, .ref boa, .ref mas, .ref pai, .ref sol, .int 0, .ref bal, .ref leg])), (pai, .inr (5, [.int 0, .ref en.2.2.1, .int 0]))] s.heap.size = A at hD hAb hN0 ⊢
  have hA : ∀ q : Nat, s.heap.size ≤ q → A q := fun q h => by rw [← hAe]; exact Or.inr h
  have hS : va_S A s.heap s.heap [] := va_S.rf
  have hR := hR0
  have hl := lv_entry [.ref mm, .int a, .int b, .int c9, .int d] (n := 5) (Nat.le_of_ble_eq_true rfl)
  rw [lg_entry_eq]
  generalize (lg_sl [.ref mm, .int a, .int b, .int c9, .int d] ++ List.replicate (5 - (lg_sl [.ref mm, .int a, .int b, .int c9, .int d]).length) Slot.unset).toArray = ls at hl ⊢
  have hl : lv_has ls 5 [(0, .ref mm), (1, .int a), (2, .int b), (3, .int c9), (4, .int d)] := hl
  refine lv_aload_n hx hb dX18_painter_0 rfl (lv_at hl 0 rfl) ?_
  refine lv_iconst (v := 0) hx hb dX18_painter_1 (by decide) ?_
  refine va_put (D := (dC, dI)) (ci := 24) (v := .int 0) (ty := .int) (C := RX18) (T := TX18) (N := 17) hx hb hts (by decide +kernel) tyX18 tyX18_ok nmX18 hown hK hP hD hS 0 rfl rfl 0 (by decide) (hts (.fieldLink RX18 67 "UnderpaintModel" "code" "I") (by decide +kernel)) (fun _ h9 => h9) rfl (by decide +kernel) rfl rfl (Nat.le_of_ble_eq_true rfl) dX18_painter_2 (fun H locs hP hD hS => ?_)
  have hP : va_P (dC, dI) vwCl [(mm, .inr (24, [.int 0, .ref stu, .ref cla, .ref pic, .ref act, .int 5, .int 50, .ref nts, .ref isn, .int 1600, .ref boa, .ref mas, .ref pai, .ref sol, .int 0, .ref bal, .ref leg])), (pai, .inr (5, [.int 0, .ref en.2.2.1, .int 0]))] H := hP
  have hD : va_D A [(mm, .inr (24, [.int 0, .ref stu, .ref cla, .ref pic, .ref act, .int 5, .int 50, .ref nts, .ref isn, .int 1600, .ref boa, .ref mas, .ref pai, .ref sol, .int 0, .ref bal, .ref leg])), (pai, .inr (5, [.int 0, .ref en.2.2.1, .int 0]))] := hD
  have hR : va_P (dC, dI) vwCl [] H := fun k q h => by simp at h
  refine lv_iload_n hx hb dX18_painter_5 rfl (lv_at hl 1 rfl) ?_
  refine lv_iload_n hx hb dX18_painter_6 rfl (lv_at hl 2 rfl) ?_
  refine lv_iload_n hx hb dX18_painter_7 rfl (lv_at hl 3 rfl) ?_
  refine lv_iload hx hb dX18_painter_8 (lv_at hl 4 rfl) ?_
  have hPc := (hP.app hR).sub (ws' := [] ++ []) [] rfl
  have hDc := (en_DD hD hDr hN0 hAb).sub (ws' := [] ++ []) [] (by decide) rfl
  have hKc := hK.sub (tys' := []) [] rfl
  have hFc := va_free (wc := []) hD hS hA [] rfl
  refine va_calli (va_runS (As := [.int a, .int b, .int c9, .int d]) (rest := []) ⟨hx, hb, hml, hown, hts⟩ (c_X18_areHabits l dC dI b0 en H.size a b c9 d) (va_cwS 4 hts gX18_painter_X18_areHabits rfl rfl rfl (by decide +kernel) ⟨Nat.le_of_ble_eq_true rfl, Nat.le_of_ble_eq_true rfl⟩) ⟨cP.blind, cP.use (en_z hb0 hS) (hE.on hAb hS) hPc hKc hDc trivial⟩ rfl rfl hl.1 rfl (lv_room (Nat.le_of_ble_eq_true rfl)) dX18_painter_10 ⟨Nat.le_of_ble_eq_true rfl, Nat.le_of_ble_eq_true rfl⟩) hS (fun q _ h => hFc q h) hFc (fun r_1 u t H1 locs ht hvm hw hB hz1 hk1 hS => ?_)
  have hP1 : va_P (dC, dI) vwCl [] H1 := fun k q h => by simp at h
  have hD1 : va_D (va_A [] H.size) [] := ⟨fun i j p q h => by simp at h, fun k q h => by simp at h⟩
  try dsimp only at hw
  obtain ⟨hP, hD⟩ := va_join (wr := [(mm, .inr (24, [.int 0, .ref stu, .ref cla, .ref pic, .ref act, .int 5, .int 50, .ref nts, .ref isn, .int 1600, .ref boa, .ref mas, .ref pai, .ref sol, .int 0, .ref bal, .ref leg])), (pai, .inr (5, [.int 0, .ref en.2.2.1, .int 0]))]) (w1 := []) hP hD [] [0, 1] rfl rfl (by decide) (by decide) hk1 hFc hP1 hD1
  generalize H1 = H at hP hS ⊢
  have hP : va_P (dC, dI) vwCl [(mm, .inr (24, [.int 0, .ref stu, .ref cla, .ref pic, .ref act, .int 5, .int 50, .ref nts, .ref isn, .int 1600, .ref boa, .ref mas, .ref pai, .ref sol, .int 0, .ref bal, .ref leg])), (pai, .inr (5, [.int 0, .ref en.2.2.1, .int 0]))] H := hP
  have hD : va_D A [(mm, .inr (24, [.int 0, .ref stu, .ref cla, .ref pic, .ref act, .int 5, .int 50, .ref nts, .ref isn, .int 1600, .ref boa, .ref mas, .ref pai, .ref sol, .int 0, .ref bal, .ref leg])), (pai, .inr (5, [.int 0, .ref en.2.2.1, .int 0]))] := hD
  have hR : va_P (dC, dI) vwCl [] H := fun k q h => by simp at h
  refine W.widen (k := 0) (n := 0) (Nat.le_of_ble_eq_true rfl) (Nat.le_of_ble_eq_true rfl) ?_
  have h_2 := hw
  refine lv_if_ne (tgt := 22) hx hb dX18_painter_13 (by decide) (fun c_3 => ?_) (fun c_3 => ?_)
  · skip
    refine lv_aload_n hx hb dX18_painter_22 rfl (lv_at hl 0 rfl) ?_
    refine va_get (D := (dC, dI)) (ci := 24) (v := .ref pai) (C := RX18) (T := TX18) (N := 17) hx hb hts (by decide +kernel) hown hK hP 0 rfl rfl 12 (by decide) (hts (.fieldLink RX18 55 "UnderpaintModel" "painters" "Ljava/util/List;") (by decide +kernel)) (fun _ h9 => h9) rfl dX18_painter_23 ?_
    have hPc := (hP.app hR).sub (ws' := [] ++ [(pai, .inr (5, [.int 0, .ref en.2.2.1, .int 0]))]) [1] rfl
    have hDc := (en_DD hD hDr hN0 hAb).sub (ws' := [] ++ [(pai, .inr (5, [.int 0, .ref en.2.2.1, .int 0]))]) [1] (by decide) rfl
    have hKc := hK.sub (tys' := []) [] rfl
    have hFc := va_free (wc := []) hD hS hA [] rfl
    refine va_callFi (va_runF (As := []) (rest := []) (hK.1 5 _ rfl).2 ⟨hx, hb, hml, hown, hts⟩ (c_Jx4a65c_size l dC dI b0 en H.size pai en.2.2.1 0 0) (va_cwF 0 hts gX18_painter_Jx4a65c_size_8abf5_f74Jx4a65c rfl rfl rfl (hE.face ("java/util/ArrayList", ⟨"java/util/List", "size", "()I"⟩, ⟨"java/util/ArrayList", "size", "()I"⟩) (by decide +kernel)) (by decide +kernel) ⟨Nat.le_of_ble_eq_true rfl, Nat.le_of_ble_eq_true rfl⟩) ⟨cP.blind, va_recv hK hP (ci := 5) (q0 := 1) rfl rfl, cP.use (en_z hb0 hS) (hE.on hAb hS) hPc hKc hDc trivial⟩ rfl rfl hl.1 rfl (lv_room (Nat.le_of_ble_eq_true rfl)) dX18_painter_26 ⟨Nat.le_of_ble_eq_true rfl, Nat.le_of_ble_eq_true rfl⟩) hS (fun q _ h => hFc q h) hFc (fun r_4 u t H1 locs ht hvm hw hB hz1 hk1 hS => ?_)
    have hP1 : va_P (dC, dI) vwCl [] H1 := fun k q h => by simp at h
    have hD1 : va_D (va_A [] H.size) [] := ⟨fun i j p q h => by simp at h, fun k q h => by simp at h⟩
    try dsimp only at hw
    obtain ⟨hP, hD⟩ := va_join (wr := [(mm, .inr (24, [.int 0, .ref stu, .ref cla, .ref pic, .ref act, .int 5, .int 50, .ref nts, .ref isn, .int 1600, .ref boa, .ref mas, .ref pai, .ref sol, .int 0, .ref bal, .ref leg])), (pai, .inr (5, [.int 0, .ref en.2.2.1, .int 0]))]) (w1 := []) hP hD [] [0, 1] rfl rfl (by decide) (by decide) hk1 hFc hP1 hD1
    generalize H1 = H at hP hS ⊢
    have hP : va_P (dC, dI) vwCl [(mm, .inr (24, [.int 0, .ref stu, .ref cla, .ref pic, .ref act, .int 5, .int 50, .ref nts, .ref isn, .int 1600, .ref boa, .ref mas, .ref pai, .ref sol, .int 0, .ref bal, .ref leg])), (pai, .inr (5, [.int 0, .ref en.2.2.1, .int 0]))] H := hP
    have hD : va_D A [(mm, .inr (24, [.int 0, .ref stu, .ref cla, .ref pic, .ref act, .int 5, .int 50, .ref nts, .ref isn, .int 1600, .ref boa, .ref mas, .ref pai, .ref sol, .int 0, .ref bal, .ref leg])), (pai, .inr (5, [.int 0, .ref en.2.2.1, .int 0]))] := hD
    have hR : va_P (dC, dI) vwCl [] H := fun k q h => by simp at h
    refine W.widen (k := 0) (n := 0) (Nat.le_of_ble_eq_true rfl) (Nat.le_of_ble_eq_true rfl) ?_
    subst r_4
    refine lv_bipush (v := 6) hx hb dX18_painter_31 (by decide) ?_
    refine lv_icmp_ne (tgt := 42) hx hb dX18_painter_33 (by decide) (fun c_5 => ?_) (fun c_5 => absurd c_5 (by decide))
    refine lv_aload_n hx hb dX18_painter_42 rfl (lv_at hl 0 rfl) ?_
    refine va_get (D := (dC, dI)) (ci := 24) (v := .ref pai) (C := RX18) (T := TX18) (N := 17) hx hb hts (by decide +kernel) hown hK hP 0 rfl rfl 12 (by decide) (hts (.fieldLink RX18 55 "UnderpaintModel" "painters" "Ljava/util/List;") (by decide +kernel)) (fun _ h9 => h9) rfl dX18_painter_43 ?_
    refine lv_iconst (v := 4) hx hb dX18_painter_46 (by decide) ?_
    refine va_newa (atype := .int) (a0 := (4, .inl (fun _ => 0))) hx hb (hts (.arrayClass .int) (by decide +kernel)) rfl hK hP hD hS hA (fun _ => rfl) (by decide) (by decide) (by decide) (Nat.le_of_ble_eq_true rfl) (Nat.le_of_ble_eq_true rfl) dX18_painter_47 (fun q_6 k_7 H hK hP hD hS => ?_)
    have hP : va_P (dC, dI) vwCl [(mm, .inr (24, [.int 0, .ref stu, .ref cla, .ref pic, .ref act, .int 5, .int 50, .ref nts, .ref isn, .int 1600, .ref boa, .ref mas, .ref pai, .ref sol, .int 0, .ref bal, .ref leg])), (pai, .inr (5, [.int 0, .ref en.2.2.1, .int 0])), (q_6, .inl (k_7, 4, .inl (fun _ => 0)))] H := hP
    have hD : va_D A [(mm, .inr (24, [.int 0, .ref stu, .ref cla, .ref pic, .ref act, .int 5, .int 50, .ref nts, .ref isn, .int 1600, .ref boa, .ref mas, .ref pai, .ref sol, .int 0, .ref bal, .ref leg])), (pai, .inr (5, [.int 0, .ref en.2.2.1, .int 0])), (q_6, .inl (k_7, 4, .inl (fun _ => 0)))] := hD
    have hR : va_P (dC, dI) vwCl [] H := fun k q h => by simp at h
    refine W.widen (k := 1) (n := 4) (Nat.le_of_ble_eq_true rfl) (Nat.le_of_ble_eq_true rfl) ?_
    refine lv_dup hx hb dX18_painter_49 rfl ?_
    refine lv_iconst (v := 0) hx hb dX18_painter_50 (by decide) ?_
    refine lv_iload_n hx hb dX18_painter_51 rfl (lv_at hl 1 rfl) ?_
    refine va_iast hx hb hK hP hD hS 2 0 rfl rfl (vp_in_nI (by decide : 0 < 4) (by decide)) dX18_painter_52 (fun H locs hP hD hS => ?_)
    generalize ef_8 : upd (fun _ => 0) (0 : Int32).toNatClampNeg a = f_8 at hP hD
    have hP : va_P (dC, dI) vwCl [(mm, .inr (24, [.int 0, .ref stu, .ref cla, .ref pic, .ref act, .int 5, .int 50, .ref nts, .ref isn, .int 1600, .ref boa, .ref mas, .ref pai, .ref sol, .int 0, .ref bal, .ref leg])), (pai, .inr (5, [.int 0, .ref en.2.2.1, .int 0])), (q_6, .inl (k_7, 4, .inl f_8))] H := hP
    have hD : va_D A [(mm, .inr (24, [.int 0, .ref stu, .ref cla, .ref pic, .ref act, .int 5, .int 50, .ref nts, .ref isn, .int 1600, .ref boa, .ref mas, .ref pai, .ref sol, .int 0, .ref bal, .ref leg])), (pai, .inr (5, [.int 0, .ref en.2.2.1, .int 0])), (q_6, .inl (k_7, 4, .inl f_8))] := hD
    have hR : va_P (dC, dI) vwCl [] H := fun k q h => by simp at h
    refine lv_dup hx hb dX18_painter_53 rfl ?_
    refine lv_iconst (v := 1) hx hb dX18_painter_54 (by decide) ?_
    refine lv_iload_n hx hb dX18_painter_55 rfl (lv_at hl 2 rfl) ?_
    refine va_iast hx hb hK hP hD hS 2 0 rfl rfl (vp_in_nI (by decide : 1 < 4) (by decide)) dX18_painter_56 (fun H locs hP hD hS => ?_)
    generalize ef_9 : upd f_8 (1 : Int32).toNatClampNeg b = f_9 at hP hD
    have hP : va_P (dC, dI) vwCl [(mm, .inr (24, [.int 0, .ref stu, .ref cla, .ref pic, .ref act, .int 5, .int 50, .ref nts, .ref isn, .int 1600, .ref boa, .ref mas, .ref pai, .ref sol, .int 0, .ref bal, .ref leg])), (pai, .inr (5, [.int 0, .ref en.2.2.1, .int 0])), (q_6, .inl (k_7, 4, .inl f_9))] H := hP
    have hD : va_D A [(mm, .inr (24, [.int 0, .ref stu, .ref cla, .ref pic, .ref act, .int 5, .int 50, .ref nts, .ref isn, .int 1600, .ref boa, .ref mas, .ref pai, .ref sol, .int 0, .ref bal, .ref leg])), (pai, .inr (5, [.int 0, .ref en.2.2.1, .int 0])), (q_6, .inl (k_7, 4, .inl f_9))] := hD
    have hR : va_P (dC, dI) vwCl [] H := fun k q h => by simp at h
    refine lv_dup hx hb dX18_painter_57 rfl ?_
    refine lv_iconst (v := 2) hx hb dX18_painter_58 (by decide) ?_
    refine lv_iload_n hx hb dX18_painter_59 rfl (lv_at hl 3 rfl) ?_
    refine va_iast hx hb hK hP hD hS 2 0 rfl rfl (vp_in_nI (by decide : 2 < 4) (by decide)) dX18_painter_60 (fun H locs hP hD hS => ?_)
    generalize ef_10 : upd f_9 (2 : Int32).toNatClampNeg c9 = f_10 at hP hD
    have hP : va_P (dC, dI) vwCl [(mm, .inr (24, [.int 0, .ref stu, .ref cla, .ref pic, .ref act, .int 5, .int 50, .ref nts, .ref isn, .int 1600, .ref boa, .ref mas, .ref pai, .ref sol, .int 0, .ref bal, .ref leg])), (pai, .inr (5, [.int 0, .ref en.2.2.1, .int 0])), (q_6, .inl (k_7, 4, .inl f_10))] H := hP
    have hD : va_D A [(mm, .inr (24, [.int 0, .ref stu, .ref cla, .ref pic, .ref act, .int 5, .int 50, .ref nts, .ref isn, .int 1600, .ref boa, .ref mas, .ref pai, .ref sol, .int 0, .ref bal, .ref leg])), (pai, .inr (5, [.int 0, .ref en.2.2.1, .int 0])), (q_6, .inl (k_7, 4, .inl f_10))] := hD
    have hR : va_P (dC, dI) vwCl [] H := fun k q h => by simp at h
    refine lv_dup hx hb dX18_painter_61 rfl ?_
    refine lv_iconst (v := 3) hx hb dX18_painter_62 (by decide) ?_
    refine lv_iload hx hb dX18_painter_63 (lv_at hl 4 rfl) ?_
    refine va_iast hx hb hK hP hD hS 2 0 rfl rfl (vp_in_nI (by decide : 3 < 4) (by decide)) dX18_painter_65 (fun H locs hP hD hS => ?_)
    generalize ef_11 : upd f_10 (3 : Int32).toNatClampNeg d = f_11 at hP hD
    have hP : va_P (dC, dI) vwCl [(mm, .inr (24, [.int 0, .ref stu, .ref cla, .ref pic, .ref act, .int 5, .int 50, .ref nts, .ref isn, .int 1600, .ref boa, .ref mas, .ref pai, .ref sol, .int 0, .ref bal, .ref leg])), (pai, .inr (5, [.int 0, .ref en.2.2.1, .int 0])), (q_6, .inl (k_7, 4, .inl f_11))] H := hP
    have hD : va_D A [(mm, .inr (24, [.int 0, .ref stu, .ref cla, .ref pic, .ref act, .int 5, .int 50, .ref nts, .ref isn, .int 1600, .ref boa, .ref mas, .ref pai, .ref sol, .int 0, .ref bal, .ref leg])), (pai, .inr (5, [.int 0, .ref en.2.2.1, .int 0])), (q_6, .inl (k_7, 4, .inl f_11))] := hD
    have hR : va_P (dC, dI) vwCl [] H := fun k q h => by simp at h
    have hPc := (hP.app hR).sub (ws' := [(pai, .inr (5, [.int 0, .ref en.2.2.1, .int 0]))] ++ [(q_6, .inl (k_7, (4, .inl f_11)))]) [1, 2] rfl
    have hDc := (en_DD hD hDr hN0 hAb).sub (ws' := [(pai, .inr (5, [.int 0, .ref en.2.2.1, .int 0]))] ++ [(q_6, .inl (k_7, (4, .inl f_11)))]) [1, 2] (by decide) rfl
    have hKc := hK.sub (tys' := [(k_7, .int)]) [0] rfl
    have hFc := va_free (wc := [(pai, .inr (5, [.int 0, .ref en.2.2.1, .int 0]))]) hD hS hA [1] rfl
    refine va_callFi (va_runF (As := [.ref q_6]) (rest := []) (hK.1 5 _ rfl).2 ⟨hx, hb, hml, hown, hts⟩ (c_adda l dC dI b0 en H.size pai q_6 k_7 (4, .inl f_11)) (va_cwF 1 hts gX18_painter_Jx4a65c_add_9ea2d_f96Jx4a65c rfl rfl rfl (hE.face ("java/util/ArrayList", ⟨"java/util/List", "add", "(Ljava/lang/Object;)Z"⟩, ⟨"java/util/ArrayList", "add", "(Ljava/lang/Object;)Z"⟩) (by decide +kernel)) (by decide +kernel) ⟨Nat.le_of_ble_eq_true rfl, Nat.le_of_ble_eq_true rfl⟩) ⟨cP.blind, va_recv hK hP (ci := 5) (q0 := 1) rfl rfl, cP.use (en_z hb0 hS) (hE.on hAb hS) hPc hKc hDc trivial⟩ rfl rfl hl.1 rfl (lv_room (Nat.le_of_ble_eq_true rfl)) dX18_painter_66 ⟨Nat.le_of_ble_eq_true rfl, Nat.le_of_ble_eq_true rfl⟩) hS (fun q _ h => hFc q h) hFc (fun r_13 u_12 t H1 locs ht hvm hw hB hz1 hk1 hS => ?_)
    obtain ⟨hP1, hK1, hD1, hF1⟩ := hB
    rw [ht] at hP1
    try rw [ht] at hF1
    have hK1 := va_K.moved hvm.symm hK1
    try dsimp only at hw
    obtain ⟨hP, hD⟩ := va_join (wr := [(mm, .inr (24, [.int 0, .ref stu, .ref cla, .ref pic, .ref act, .int 5, .int 50, .ref nts, .ref isn, .int 1600, .ref boa, .ref mas, .ref pai, .ref sol, .int 0, .ref bal, .ref leg])), (q_6, .inl (k_7, 4, .inl f_11))]) (w1 := [(pai, .inr (5, [.int 1, .ref u_12.1, .int 1])), (u_12.1, .inl (u_12.2.1, 10, .inr (.inr (.inr (.inr u_12.2.2)))))]) hP hD [1] [0, 2] rfl rfl (by decide) (by decide) hk1 hFc hP1 hD1
    have hK := hK.app hK1
    generalize H1 = H at hP hS ⊢
    have hP : va_P (dC, dI) vwCl [(mm, .inr (24, [.int 0, .ref stu, .ref cla, .ref pic, .ref act, .int 5, .int 50, .ref nts, .ref isn, .int 1600, .ref boa, .ref mas, .ref pai, .ref sol, .int 0, .ref bal, .ref leg])), (q_6, .inl (k_7, 4, .inl f_11)), (pai, .inr (5, [.int 1, .ref u_12.1, .int 1])), (u_12.1, .inl (u_12.2.1, 10, .inr (.inr (.inr (.inr u_12.2.2)))))] H := hP
    have hD : va_D A [(mm, .inr (24, [.int 0, .ref stu, .ref cla, .ref pic, .ref act, .int 5, .int 50, .ref nts, .ref isn, .int 1600, .ref boa, .ref mas, .ref pai, .ref sol, .int 0, .ref bal, .ref leg])), (q_6, .inl (k_7, 4, .inl f_11)), (pai, .inr (5, [.int 1, .ref u_12.1, .int 1])), (u_12.1, .inl (u_12.2.1, 10, .inr (.inr (.inr (.inr u_12.2.2)))))] := hD
    have hR : va_P (dC, dI) vwCl [] H := fun k q h => by simp at h
    refine W.widen (k := 2) (n := 14) (Nat.le_of_ble_eq_true rfl) (Nat.le_of_ble_eq_true rfl) ?_
    subst r_13
    refine lv_pop hx hb dX18_painter_71 rfl ?_
    refine lv_aload_n hx hb dX18_painter_72 rfl (lv_at hl 0 rfl) ?_
    refine va_get (D := (dC, dI)) (ci := 24) (v := .ref pai) (C := RX18) (T := TX18) (N := 17) hx hb hts (by decide +kernel) hown hK hP 0 rfl rfl 12 (by decide) (hts (.fieldLink RX18 55 "UnderpaintModel" "painters" "Ljava/util/List;") (by decide +kernel)) (fun _ h9 => h9) rfl dX18_painter_73 ?_
    have hPc := (hP.app hR).sub (ws' := [] ++ [(pai, .inr (5, [.int 1, .ref u_12.1, .int 1]))]) [2] rfl
    have hDc := (en_DD hD hDr hN0 hAb).sub (ws' := [] ++ [(pai, .inr (5, [.int 1, .ref u_12.1, .int 1]))]) [2] (by decide) rfl
    have hKc := hK.sub (tys' := []) [] rfl
    have hFc := va_free (wc := []) hD hS hA [] rfl
    refine va_callFi (va_runF (As := []) (rest := []) (hK.1 5 _ rfl).2 ⟨hx, hb, hml, hown, hts⟩ (c_Jx4a65c_size l dC dI b0 en H.size pai u_12.1 1 1) (va_cwF 0 hts gX18_painter_Jx4a65c_size_8abf5_f74Jx4a65c rfl rfl rfl (hE.face ("java/util/ArrayList", ⟨"java/util/List", "size", "()I"⟩, ⟨"java/util/ArrayList", "size", "()I"⟩) (by decide +kernel)) (by decide +kernel) ⟨Nat.le_of_ble_eq_true rfl, Nat.le_of_ble_eq_true rfl⟩) ⟨cP.blind, va_recv hK hP (ci := 5) (q0 := 2) rfl rfl, cP.use (en_z hb0 hS) (hE.on hAb hS) hPc hKc hDc trivial⟩ rfl rfl hl.1 rfl (lv_room (Nat.le_of_ble_eq_true rfl)) dX18_painter_76 ⟨Nat.le_of_ble_eq_true rfl, Nat.le_of_ble_eq_true rfl⟩) hS (fun q _ h => hFc q h) hFc (fun r_14 u t H1 locs ht hvm hw hB hz1 hk1 hS => ?_)
    have hP1 : va_P (dC, dI) vwCl [] H1 := fun k q h => by simp at h
    have hD1 : va_D (va_A [] H.size) [] := ⟨fun i j p q h => by simp at h, fun k q h => by simp at h⟩
    try dsimp only at hw
    obtain ⟨hP, hD⟩ := va_join (wr := [(mm, .inr (24, [.int 0, .ref stu, .ref cla, .ref pic, .ref act, .int 5, .int 50, .ref nts, .ref isn, .int 1600, .ref boa, .ref mas, .ref pai, .ref sol, .int 0, .ref bal, .ref leg])), (q_6, .inl (k_7, 4, .inl f_11)), (pai, .inr (5, [.int 1, .ref u_12.1, .int 1])), (u_12.1, .inl (u_12.2.1, 10, .inr (.inr (.inr (.inr u_12.2.2)))))]) (w1 := []) hP hD [] [0, 1, 2, 3] rfl rfl (by decide) (by decide) hk1 hFc hP1 hD1
    generalize H1 = H at hP hS ⊢
    have hP : va_P (dC, dI) vwCl [(mm, .inr (24, [.int 0, .ref stu, .ref cla, .ref pic, .ref act, .int 5, .int 50, .ref nts, .ref isn, .int 1600, .ref boa, .ref mas, .ref pai, .ref sol, .int 0, .ref bal, .ref leg])), (q_6, .inl (k_7, 4, .inl f_11)), (pai, .inr (5, [.int 1, .ref u_12.1, .int 1])), (u_12.1, .inl (u_12.2.1, 10, .inr (.inr (.inr (.inr u_12.2.2)))))] H := hP
    have hD : va_D A [(mm, .inr (24, [.int 0, .ref stu, .ref cla, .ref pic, .ref act, .int 5, .int 50, .ref nts, .ref isn, .int 1600, .ref boa, .ref mas, .ref pai, .ref sol, .int 0, .ref bal, .ref leg])), (q_6, .inl (k_7, 4, .inl f_11)), (pai, .inr (5, [.int 1, .ref u_12.1, .int 1])), (u_12.1, .inl (u_12.2.1, 10, .inr (.inr (.inr (.inr u_12.2.2)))))] := hD
    have hR : va_P (dC, dI) vwCl [] H := fun k q h => by simp at h
    refine W.widen (k := 2) (n := 14) (Nat.le_of_ble_eq_true rfl) (Nat.le_of_ble_eq_true rfl) ?_
    subst r_14
    refine lv_iconst (v := 1) hx hb dX18_painter_81 (by decide) ?_
    refine lv_isub hx hb dX18_painter_82 ?_
    refine lv_topi (fun x_15 ex_15 => ?_)
    obtain rfl : x_15 = 0 := ex_15.trans (by decide)
    refine W.widen (k := 2) (n := 14) (Nat.le_of_ble_eq_true rfl) (Nat.le_of_ble_eq_true rfl) ?_
    exact W.iret (v := 0) hx hb hr (fun t ht hW => ⟨⟨0, ⟨0, [.ref stu, .ref cla, .ref pic, .ref act, .int 5, .int 50, .ref nts, .ref isn, .int 1600, .ref boa, .ref mas, .ref pai, .ref sol, .int 0, .ref bal, .ref leg]⟩, rfl, (z_c_X18_painter_134 a b c9 d r_1 h_2 c_3), cB.mk ht hW (hP.sub [0] rfl) (hK.sub [] rfl) (hD.sub [0] (by decide) rfl) (trivial)⟩, hS.F ht⟩) hS.2.2 dX18_painter_83
  · skip
    refine lv_aload_n hx hb dX18_painter_16 rfl (lv_at hl 0 rfl) ?_
    refine lv_iconst (v := 1) hx hb dX18_painter_17 (by decide) ?_
    have hPc := (hP.app hR).sub (ws' := [(mm, .inr (24, .int 0 :: ([.ref stu, .ref cla, .ref pic, .ref act, .int 5, .int 50, .ref nts, .ref isn, .int 1600, .ref boa, .ref mas, .ref pai, .ref sol, .int 0, .ref bal, .ref leg])))] ++ []) [0] rfl
    have hDc := (en_DD hD hDr hN0 hAb).sub (ws' := [(mm, .inr (24, .int 0 :: ([.ref stu, .ref cla, .ref pic, .ref act, .int 5, .int 50, .ref nts, .ref isn, .int 1600, .ref boa, .ref mas, .ref pai, .ref sol, .int 0, .ref bal, .ref leg])))] ++ []) [0] (by decide) rfl
    have hKc := hK.sub (tys' := []) [] rfl
    have hFc := va_free (wc := [(mm, .inr (24, .int 0 :: ([.ref stu, .ref cla, .ref pic, .ref act, .int 5, .int 50, .ref nts, .ref isn, .int 1600, .ref boa, .ref mas, .ref pai, .ref sol, .int 0, .ref bal, .ref leg])))]) hD hS hA [0] rfl
    refine va_calli (va_runV (As := [.int 1]) (rest := []) ⟨hx, hb, hml, hown, hts⟩ (c_X18_fails l dC dI b0 en H.size mm 0 1 ([.ref stu, .ref cla, .ref pic, .ref act, .int 5, .int 50, .ref nts, .ref isn, .int 1600, .ref boa, .ref mas, .ref pai, .ref sol, .int 0, .ref bal, .ref leg])) (cwV 1 hts gX18_painter_X18_fails rfl rfl rfl (by decide +kernel) ⟨Nat.le_of_ble_eq_true rfl, Nat.le_of_ble_eq_true rfl⟩) ⟨cP.blind, va_recv hK hP (ci := 24) (q0 := 0) rfl rfl, cP.use (en_z hb0 hS) (hE.on hAb hS) hPc hKc hDc trivial⟩ rfl rfl hl.1 rfl (lv_room (Nat.le_of_ble_eq_true rfl)) dX18_painter_18 ⟨Nat.le_of_ble_eq_true rfl, Nat.le_of_ble_eq_true rfl⟩) hS (fun q _ h => hFc q h) hFc (fun r_16 u t H1 locs ht hvm hw hB hz1 hk1 hS => ?_)
    obtain ⟨hP1, hK1, hD1, hF1⟩ := hB
    rw [ht] at hP1
    try rw [ht] at hF1
    have hK1 := va_K.moved hvm.symm hK1
    try dsimp only at hw
    obtain ⟨hP, hD⟩ := va_join (wr := [(pai, .inr (5, [.int 0, .ref en.2.2.1, .int 0]))]) (w1 := [(mm, .inr (24, [.int 1, .ref stu, .ref cla, .ref pic, .ref act, .int 5, .int 50, .ref nts, .ref isn, .int 1600, .ref boa, .ref mas, .ref pai, .ref sol, .int 0, .ref bal, .ref leg]))]) hP hD [0] [1] rfl rfl (by decide) (by decide) hk1 hFc hP1 hD1
    generalize H1 = H at hP hS ⊢
    have hP : va_P (dC, dI) vwCl [(pai, .inr (5, [.int 0, .ref en.2.2.1, .int 0])), (mm, .inr (24, [.int 1, .ref stu, .ref cla, .ref pic, .ref act, .int 5, .int 50, .ref nts, .ref isn, .int 1600, .ref boa, .ref mas, .ref pai, .ref sol, .int 0, .ref bal, .ref leg]))] H := hP
    have hD : va_D A [(pai, .inr (5, [.int 0, .ref en.2.2.1, .int 0])), (mm, .inr (24, [.int 1, .ref stu, .ref cla, .ref pic, .ref act, .int 5, .int 50, .ref nts, .ref isn, .int 1600, .ref boa, .ref mas, .ref pai, .ref sol, .int 0, .ref bal, .ref leg]))] := hD
    have hR : va_P (dC, dI) vwCl [] H := fun k q h => by simp at h
    refine W.widen (k := 0) (n := 0) (Nat.le_of_ble_eq_true rfl) (Nat.le_of_ble_eq_true rfl) ?_
    subst r_16
    refine W.widen (k := 2) (n := 14) (Nat.le_of_ble_eq_true rfl) (Nat.le_of_ble_eq_true rfl) ?_
    exact W.iret (v := 0) hx hb hr (fun t ht hW => ⟨⟨0, ⟨1, [.ref stu, .ref cla, .ref pic, .ref act, .int 5, .int 50, .ref nts, .ref isn, .int 1600, .ref boa, .ref mas, .ref pai, .ref sol, .int 0, .ref bal, .ref leg]⟩, rfl, (z_c_X18_painter_135 a b c9 d r_1 h_2 c_3), cB.mk ht hW (hP.sub [1] rfl) (hK.sub [] rfl) (hD.sub [1] (by decide) rfl) (trivial)⟩, hS.F ht⟩) hS.2.2 dX18_painter_21
theorem z_c_X18_solvent_136 (a : Int32) (b : Int32) (r_1 : Int32) (a_0 : r_1 = if 1 ≤ a ∧ a ≤ 9 then 1 else 0) (a_1 : r_1 = 0) : ((1 : Int32) = 0 ∧ (0 : Int32) = 0 ∧ (1 ≤ a ∧ a ≤ 9) ∧ (1 ≤ b ∧ b ≤ 20)) ∨ ((1 : Int32) = 1 ∧ ¬ ((1 ≤ a ∧ a ≤ 9) ∧ (1 ≤ b ∧ b ≤ 20))) := by grind
theorem z_c_X18_solvent_137 (a : Int32) (b : Int32) (r_1 : Int32) (r_5 : Int32) (a_0 : r_1 = if 1 ≤ a ∧ a ≤ 9 then 1 else 0) (a_1 : ¬ r_1 = 0) (a_2 : r_5 = if 1 ≤ b ∧ b ≤ 20 then 1 else 0) (a_3 : ¬ r_5 = 0) : ((0 : Int32) = 0 ∧ (0 : Int32) = 0 ∧ (1 ≤ a ∧ a ≤ 9) ∧ (1 ≤ b ∧ b ≤ 20)) ∨ ((0 : Int32) = 1 ∧ ¬ ((1 ≤ a ∧ a ≤ 9) ∧ (1 ≤ b ∧ b ≤ 20))) := by grind
theorem z_c_X18_solvent_138 (a : Int32) (b : Int32) (r_1 : Int32) (r_5 : Int32) (a_0 : r_1 = if 1 ≤ a ∧ a ≤ 9 then 1 else 0) (a_1 : ¬ r_1 = 0) (a_2 : r_5 = if 1 ≤ b ∧ b ≤ 20 then 1 else 0) (a_3 : r_5 = 0) : ((1 : Int32) = 0 ∧ (0 : Int32) = 0 ∧ (1 ≤ a ∧ a ≤ 9) ∧ (1 ≤ b ∧ b ≤ 20)) ∨ ((1 : Int32) = 1 ∧ ¬ ((1 ≤ a ∧ a ≤ 9) ∧ (1 ≤ b ∧ b ≤ 20))) := by grind
set_option maxHeartbeats 4000000 in
set_option maxRecDepth 100000 in
theorem c_X18_solvent (l : Launch) (dC : Nat → ClassId) (dI : Nat → Nat → Nat) (b0 : Nat) (en : EnT) (sz : Nat) (mm stu cla pic act nts isn boa mas pai sol bal leg : Nat) (a b : Int32) : Met l yX18_solvent wsX18_solvent ({ frames := 5, cells := 2, slots := 13, locals := 127 } : Room) (cP b0 en (dC, dI) [] [(mm, .inr (24, [.int 0, .ref stu, .ref cla, .ref pic, .ref act, .int 5, .int 50, .ref nts, .ref isn, .int 1600, .ref boa, .ref mas, .ref pai, .ref sol, .int 0, .ref bal, .ref leg])), (sol, .inr (5, [.int 0, .ref en.2.2.1, .int 0]))] [] sz (fun _ => True) [.ref mm, .int a, .int b]) (va_Qi (fun (r : Int32) (u : Int32 × List Value) => (u.1 = 0 ∧ r = 0 ∧ (1 ≤ a ∧ a ≤ 9) ∧ (1 ≤ b ∧ b ≤ 20)) ∨ (u.1 = 1 ∧ ¬ ((1 ≤ a ∧ a ≤ 9) ∧ (1 ≤ b ∧ b ≤ 20)))) (fun u t => cB (dC, dI) [] [(mm, .inr (24, .int u.1 :: u.2))] (va_A [(mm, .inr (24, [.int 0, .ref stu, .ref cla, .ref pic, .ref act, .int 5, .int 50, .ref nts, .ref isn, .int 1600, .ref boa, .ref mas, .ref pai, .ref sol, .int 0, .ref bal, .ref leg])), (sol, .inr (5, [.int 0, .ref en.2.2.1, .int 0]))] sz) (fun _ => True) t) (va_A [(mm, .inr (24, [.int 0, .ref stu, .ref cla, .ref pic, .ref act, .int 5, .int 50, .ref nts, .ref isn, .int 1600, .ref boa, .ref mas, .ref pai, .ref sol, .int 0, .ref bal, .ref leg])), (sol, .inr (5, [.int 0, .ref en.2.2.1, .int 0]))] sz)) 2 13 (va_A [(mm, .inr (24, [.int 0, .ref stu, .ref cla, .ref pic, .ref act, .int 5, .int 50, .ref nts, .ref isn, .int 1600, .ref boa, .ref mas, .ref pai, .ref sol, .int 0, .ref bal, .ref leg])), (sol, .inr (5, [.int 0, .ref en.2.2.1, .int 0]))] sz) := by
  refine Met.ofW (cc := cX18_solvent) (maxL := 3) (ret := (some .int)) (by decide) rfl ?_
  intro p e s m args below meth c s₁ B hml hv
  obtain ⟨rfl, hsz, hb0, hE, hPP, hK, hDD, hF0⟩ := hv
  have hx := B.exec
  have hb := B.bytes
  have hr := B.returns
  have hts := atoms_spec (ws := wsX18_solvent) B.pre
  have hown : s.vm.findClass RX18 = some m.cls := findClass_of_methodNamed B.named
  have hlocks := B.notSynchronized
  subst hsz
  have hN0 := en_N hPP hDD rfl
  have hP : va_P (dC, dI) vwCl [(mm, .inr (24, [.int 0, .ref stu, .ref cla, .ref pic, .ref act, .int 5, .int 50, .ref nts, .ref isn, .int 1600, .ref boa, .ref mas, .ref pai, .ref sol, .int 0, .ref bal, .ref leg])), (sol, .inr (5, [.int 0, .ref en.2.2.1, .int 0]))] s.heap := hPP.sub [0, 1] rfl
  have hR0 : va_P (dC, dI) vwCl [] s.heap := hPP.sub [] rfl
  have hD0 : va_D (fun q => b0 ≤ q) [(mm, .inr (24, [.int 0, .ref stu, .ref cla, .ref pic, .ref act, .int 5, .int 50, .ref nts, .ref isn, .int 1600, .ref boa, .ref mas, .ref pai, .ref sol, .int 0, .ref bal, .ref leg])), (sol, .inr (5, [.int 0, .ref en.2.2.1, .int 0]))] := hDD.sub [0, 1] (by decide) rfl
  have hDr : va_D (fun q => b0 ≤ q) [] := hDD.sub [] (by decide) rfl
  have hAb := en_A (sz := s.heap.size) hD0 hb0
  have hD := hD0.self (sz := s.heap.size)
  generalize hAe : va_A [(mm, .inr (24, [.int 0, .ref stu, .ref cla, .ref pic, .ref act, .int 5, .int 50, .ref nts, .ref isn, .int 1600, .ref boa, .ref mas, .ref pai, .ref sol, .int 0, .ref bal, .ref leg])), (sol, .inr (5, [.int 0, .ref en.2.2.1, .int 0]))] s.heap.size = A at hD hAb hN0 ⊢
  have hA : ∀ q : Nat, s.heap.size ≤ q → A q := fun q h => by rw [← hAe]; exact Or.inr h
  have hS : va_S A s.heap s.heap [] := va_S.rf
  have hR := hR0
  have hl := lv_entry [.ref mm, .int a, .int b] (n := 3) (Nat.le_of_ble_eq_true rfl)
  rw [lg_entry_eq]
  generalize (lg_sl [.ref mm, .int a, .int b] ++ List.replicate (3 - (lg_sl [.ref mm, .int a, .int b]).length) Slot.unset).toArray = ls at hl ⊢
  have hl : lv_has ls 3 [(0, .ref mm), (1, .int a), (2, .int b)] := hl
  refine lv_aload_n hx hb dX18_solvent_0 rfl (lv_at hl 0 rfl) ?_
  refine lv_iconst (v := 0) hx hb dX18_solvent_1 (by decide) ?_
  refine va_put (D := (dC, dI)) (ci := 24) (v := .int 0) (ty := .int) (C := RX18) (T := TX18) (N := 17) hx hb hts (by decide +kernel) tyX18 tyX18_ok nmX18 hown hK hP hD hS 0 rfl rfl 0 (by decide) (hts (.fieldLink RX18 67 "UnderpaintModel" "code" "I") (by decide +kernel)) (fun _ h9 => h9) rfl (by decide +kernel) rfl rfl (Nat.le_of_ble_eq_true rfl) dX18_solvent_2 (fun H locs hP hD hS => ?_)
  have hP : va_P (dC, dI) vwCl [(mm, .inr (24, [.int 0, .ref stu, .ref cla, .ref pic, .ref act, .int 5, .int 50, .ref nts, .ref isn, .int 1600, .ref boa, .ref mas, .ref pai, .ref sol, .int 0, .ref bal, .ref leg])), (sol, .inr (5, [.int 0, .ref en.2.2.1, .int 0]))] H := hP
  have hD : va_D A [(mm, .inr (24, [.int 0, .ref stu, .ref cla, .ref pic, .ref act, .int 5, .int 50, .ref nts, .ref isn, .int 1600, .ref boa, .ref mas, .ref pai, .ref sol, .int 0, .ref bal, .ref leg])), (sol, .inr (5, [.int 0, .ref en.2.2.1, .int 0]))] := hD
  have hR : va_P (dC, dI) vwCl [] H := fun k q h => by simp at h
  refine lv_iload_n hx hb dX18_solvent_5 rfl (lv_at hl 1 rfl) ?_
  refine lv_iconst (v := 1) hx hb dX18_solvent_6 (by decide) ?_
  refine lv_bipush (v := 9) hx hb dX18_solvent_7 (by decide) ?_
  have hPc := (hP.app hR).sub (ws' := [] ++ []) [] rfl
  have hDc := (en_DD hD hDr hN0 hAb).sub (ws' := [] ++ []) [] (by decide) rfl
  have hKc := hK.sub (tys' := []) [] rfl
  have hFc := va_free (wc := []) hD hS hA [] rfl
  refine va_calli (va_runS (As := [.int a, .int 1, .int 9]) (rest := []) ⟨hx, hb, hml, hown, hts⟩ (c_X18_in l dC dI b0 en H.size a 1 9) (va_cwS 3 hts gX18_solvent_X18_in rfl rfl rfl (by decide +kernel) ⟨Nat.le_of_ble_eq_true rfl, Nat.le_of_ble_eq_true rfl⟩) ⟨cP.blind, cP.use (en_z hb0 hS) (hE.on hAb hS) hPc hKc hDc trivial⟩ rfl rfl hl.1 rfl (lv_room (Nat.le_of_ble_eq_true rfl)) dX18_solvent_9 ⟨Nat.le_of_ble_eq_true rfl, Nat.le_of_ble_eq_true rfl⟩) hS (fun q _ h => hFc q h) hFc (fun r_1 u t H1 locs ht hvm hw hB hz1 hk1 hS => ?_)
  have hP1 : va_P (dC, dI) vwCl [] H1 := fun k q h => by simp at h
  have hD1 : va_D (va_A [] H.size) [] := ⟨fun i j p q h => by simp at h, fun k q h => by simp at h⟩
  try dsimp only at hw
  obtain ⟨hP, hD⟩ := va_join (wr := [(mm, .inr (24, [.int 0, .ref stu, .ref cla, .ref pic, .ref act, .int 5, .int 50, .ref nts, .ref isn, .int 1600, .ref boa, .ref mas, .ref pai, .ref sol, .int 0, .ref bal, .ref leg])), (sol, .inr (5, [.int 0, .ref en.2.2.1, .int 0]))]) (w1 := []) hP hD [] [0, 1] rfl rfl (by decide) (by decide) hk1 hFc hP1 hD1
  generalize H1 = H at hP hS ⊢
  have hP : va_P (dC, dI) vwCl [(mm, .inr (24, [.int 0, .ref stu, .ref cla, .ref pic, .ref act, .int 5, .int 50, .ref nts, .ref isn, .int 1600, .ref boa, .ref mas, .ref pai, .ref sol, .int 0, .ref bal, .ref leg])), (sol, .inr (5, [.int 0, .ref en.2.2.1, .int 0]))] H := hP
  have hD : va_D A [(mm, .inr (24, [.int 0, .ref stu, .ref cla, .ref pic, .ref act, .int 5, .int 50, .ref nts, .ref isn, .int 1600, .ref boa, .ref mas, .ref pai, .ref sol, .int 0, .ref bal, .ref leg])), (sol, .inr (5, [.int 0, .ref en.2.2.1, .int 0]))] := hD
  have hR : va_P (dC, dI) vwCl [] H := fun k q h => by simp at h
  refine W.widen (k := 0) (n := 0) (Nat.le_of_ble_eq_true rfl) (Nat.le_of_ble_eq_true rfl) ?_
  have h_2 := hw
  refine lv_if_eq (tgt := 25) hx hb dX18_solvent_12 (by decide) (fun c_3 => ?_) (fun c_3 => ?_)
  · skip
    refine lv_aload_n hx hb dX18_solvent_25 rfl (lv_at hl 0 rfl) ?_
    refine lv_iconst (v := 1) hx hb dX18_solvent_26 (by decide) ?_
    have hPc := (hP.app hR).sub (ws' := [(mm, .inr (24, .int 0 :: ([.ref stu, .ref cla, .ref pic, .ref act, .int 5, .int 50, .ref nts, .ref isn, .int 1600, .ref boa, .ref mas, .ref pai, .ref sol, .int 0, .ref bal, .ref leg])))] ++ []) [0] rfl
    have hDc := (en_DD hD hDr hN0 hAb).sub (ws' := [(mm, .inr (24, .int 0 :: ([.ref stu, .ref cla, .ref pic, .ref act, .int 5, .int 50, .ref nts, .ref isn, .int 1600, .ref boa, .ref mas, .ref pai, .ref sol, .int 0, .ref bal, .ref leg])))] ++ []) [0] (by decide) rfl
    have hKc := hK.sub (tys' := []) [] rfl
    have hFc := va_free (wc := [(mm, .inr (24, .int 0 :: ([.ref stu, .ref cla, .ref pic, .ref act, .int 5, .int 50, .ref nts, .ref isn, .int 1600, .ref boa, .ref mas, .ref pai, .ref sol, .int 0, .ref bal, .ref leg])))]) hD hS hA [0] rfl
    refine va_calli (va_runV (As := [.int 1]) (rest := []) ⟨hx, hb, hml, hown, hts⟩ (c_X18_fails l dC dI b0 en H.size mm 0 1 ([.ref stu, .ref cla, .ref pic, .ref act, .int 5, .int 50, .ref nts, .ref isn, .int 1600, .ref boa, .ref mas, .ref pai, .ref sol, .int 0, .ref bal, .ref leg])) (cwV 1 hts gX18_solvent_X18_fails rfl rfl rfl (by decide +kernel) ⟨Nat.le_of_ble_eq_true rfl, Nat.le_of_ble_eq_true rfl⟩) ⟨cP.blind, va_recv hK hP (ci := 24) (q0 := 0) rfl rfl, cP.use (en_z hb0 hS) (hE.on hAb hS) hPc hKc hDc trivial⟩ rfl rfl hl.1 rfl (lv_room (Nat.le_of_ble_eq_true rfl)) dX18_solvent_27 ⟨Nat.le_of_ble_eq_true rfl, Nat.le_of_ble_eq_true rfl⟩) hS (fun q _ h => hFc q h) hFc (fun r_4 u t H1 locs ht hvm hw hB hz1 hk1 hS => ?_)
    obtain ⟨hP1, hK1, hD1, hF1⟩ := hB
    rw [ht] at hP1
    try rw [ht] at hF1
    have hK1 := va_K.moved hvm.symm hK1
    try dsimp only at hw
    obtain ⟨hP, hD⟩ := va_join (wr := [(sol, .inr (5, [.int 0, .ref en.2.2.1, .int 0]))]) (w1 := [(mm, .inr (24, [.int 1, .ref stu, .ref cla, .ref pic, .ref act, .int 5, .int 50, .ref nts, .ref isn, .int 1600, .ref boa, .ref mas, .ref pai, .ref sol, .int 0, .ref bal, .ref leg]))]) hP hD [0] [1] rfl rfl (by decide) (by decide) hk1 hFc hP1 hD1
    generalize H1 = H at hP hS ⊢
    have hP : va_P (dC, dI) vwCl [(sol, .inr (5, [.int 0, .ref en.2.2.1, .int 0])), (mm, .inr (24, [.int 1, .ref stu, .ref cla, .ref pic, .ref act, .int 5, .int 50, .ref nts, .ref isn, .int 1600, .ref boa, .ref mas, .ref pai, .ref sol, .int 0, .ref bal, .ref leg]))] H := hP
    have hD : va_D A [(sol, .inr (5, [.int 0, .ref en.2.2.1, .int 0])), (mm, .inr (24, [.int 1, .ref stu, .ref cla, .ref pic, .ref act, .int 5, .int 50, .ref nts, .ref isn, .int 1600, .ref boa, .ref mas, .ref pai, .ref sol, .int 0, .ref bal, .ref leg]))] := hD
    have hR : va_P (dC, dI) vwCl [] H := fun k q h => by simp at h
    refine W.widen (k := 0) (n := 0) (Nat.le_of_ble_eq_true rfl) (Nat.le_of_ble_eq_true rfl) ?_
    subst r_4
    refine W.widen (k := 2) (n := 13) (Nat.le_of_ble_eq_true rfl) (Nat.le_of_ble_eq_true rfl) ?_
    exact W.iret (v := 0) hx hb hr (fun t ht hW => ⟨⟨0, ⟨1, [.ref stu, .ref cla, .ref pic, .ref act, .int 5, .int 50, .ref nts, .ref isn, .int 1600, .ref boa, .ref mas, .ref pai, .ref sol, .int 0, .ref bal, .ref leg]⟩, rfl, (z_c_X18_solvent_136 a b r_1 h_2 c_3), cB.mk ht hW (hP.sub [1] rfl) (hK.sub [] rfl) (hD.sub [1] (by decide) rfl) (trivial)⟩, hS.F ht⟩) hS.2.2 dX18_solvent_30
  · skip
    refine lv_iload_n hx hb dX18_solvent_15 rfl (lv_at hl 2 rfl) ?_
    refine lv_iconst (v := 1) hx hb dX18_solvent_16 (by decide) ?_
    refine lv_bipush (v := 20) hx hb dX18_solvent_17 (by decide) ?_
    have hPc := (hP.app hR).sub (ws' := [] ++ []) [] rfl
    have hDc := (en_DD hD hDr hN0 hAb).sub (ws' := [] ++ []) [] (by decide) rfl
    have hKc := hK.sub (tys' := []) [] rfl
    have hFc := va_free (wc := []) hD hS hA [] rfl
    refine va_calli (va_runS (As := [.int b, .int 1, .int 20]) (rest := []) ⟨hx, hb, hml, hown, hts⟩ (c_X18_in l dC dI b0 en H.size b 1 20) (va_cwS 3 hts gX18_solvent_X18_in rfl rfl rfl (by decide +kernel) ⟨Nat.le_of_ble_eq_true rfl, Nat.le_of_ble_eq_true rfl⟩) ⟨cP.blind, cP.use (en_z hb0 hS) (hE.on hAb hS) hPc hKc hDc trivial⟩ rfl rfl hl.1 rfl (lv_room (Nat.le_of_ble_eq_true rfl)) dX18_solvent_19 ⟨Nat.le_of_ble_eq_true rfl, Nat.le_of_ble_eq_true rfl⟩) hS (fun q _ h => hFc q h) hFc (fun r_5 u t H1 locs ht hvm hw hB hz1 hk1 hS => ?_)
    have hP1 : va_P (dC, dI) vwCl [] H1 := fun k q h => by simp at h
    have hD1 : va_D (va_A [] H.size) [] := ⟨fun i j p q h => by simp at h, fun k q h => by simp at h⟩
    try dsimp only at hw
    obtain ⟨hP, hD⟩ := va_join (wr := [(mm, .inr (24, [.int 0, .ref stu, .ref cla, .ref pic, .ref act, .int 5, .int 50, .ref nts, .ref isn, .int 1600, .ref boa, .ref mas, .ref pai, .ref sol, .int 0, .ref bal, .ref leg])), (sol, .inr (5, [.int 0, .ref en.2.2.1, .int 0]))]) (w1 := []) hP hD [] [0, 1] rfl rfl (by decide) (by decide) hk1 hFc hP1 hD1
    generalize H1 = H at hP hS ⊢
    have hP : va_P (dC, dI) vwCl [(mm, .inr (24, [.int 0, .ref stu, .ref cla, .ref pic, .ref act, .int 5, .int 50, .ref nts, .ref isn, .int 1600, .ref boa, .ref mas, .ref pai, .ref sol, .int 0, .ref bal, .ref leg])), (sol, .inr (5, [.int 0, .ref en.2.2.1, .int 0]))] H := hP
    have hD : va_D A [(mm, .inr (24, [.int 0, .ref stu, .ref cla, .ref pic, .ref act, .int 5, .int 50, .ref nts, .ref isn, .int 1600, .ref boa, .ref mas, .ref pai, .ref sol, .int 0, .ref bal, .ref leg])), (sol, .inr (5, [.int 0, .ref en.2.2.1, .int 0]))] := hD
    have hR : va_P (dC, dI) vwCl [] H := fun k q h => by simp at h
    refine W.widen (k := 0) (n := 0) (Nat.le_of_ble_eq_true rfl) (Nat.le_of_ble_eq_true rfl) ?_
    have h_6 := hw
    refine lv_if_ne (tgt := 31) hx hb dX18_solvent_22 (by decide) (fun c_7 => ?_) (fun c_7 => ?_)
    · skip
      refine lv_aload_n hx hb dX18_solvent_31 rfl (lv_at hl 0 rfl) ?_
      refine va_get (D := (dC, dI)) (ci := 24) (v := .ref sol) (C := RX18) (T := TX18) (N := 17) hx hb hts (by decide +kernel) hown hK hP 0 rfl rfl 13 (by decide) (hts (.fieldLink RX18 58 "UnderpaintModel" "solvents" "Ljava/util/List;") (by decide +kernel)) (fun _ h9 => h9) rfl dX18_solvent_32 ?_
      have hPc := (hP.app hR).sub (ws' := [] ++ [(sol, .inr (5, [.int 0, .ref en.2.2.1, .int 0]))]) [1] rfl
      have hDc := (en_DD hD hDr hN0 hAb).sub (ws' := [] ++ [(sol, .inr (5, [.int 0, .ref en.2.2.1, .int 0]))]) [1] (by decide) rfl
      have hKc := hK.sub (tys' := []) [] rfl
      have hFc := va_free (wc := []) hD hS hA [] rfl
      refine va_callFi (va_runF (As := []) (rest := []) (hK.1 5 _ rfl).2 ⟨hx, hb, hml, hown, hts⟩ (c_Jx4a65c_size l dC dI b0 en H.size sol en.2.2.1 0 0) (va_cwF 0 hts gX18_solvent_Jx4a65c_size_8abf5_f74Jx4a65c rfl rfl rfl (hE.face ("java/util/ArrayList", ⟨"java/util/List", "size", "()I"⟩, ⟨"java/util/ArrayList", "size", "()I"⟩) (by decide +kernel)) (by decide +kernel) ⟨Nat.le_of_ble_eq_true rfl, Nat.le_of_ble_eq_true rfl⟩) ⟨cP.blind, va_recv hK hP (ci := 5) (q0 := 1) rfl rfl, cP.use (en_z hb0 hS) (hE.on hAb hS) hPc hKc hDc trivial⟩ rfl rfl hl.1 rfl (lv_room (Nat.le_of_ble_eq_true rfl)) dX18_solvent_35 ⟨Nat.le_of_ble_eq_true rfl, Nat.le_of_ble_eq_true rfl⟩) hS (fun q _ h => hFc q h) hFc (fun r_8 u t H1 locs ht hvm hw hB hz1 hk1 hS => ?_)
      have hP1 : va_P (dC, dI) vwCl [] H1 := fun k q h => by simp at h
      have hD1 : va_D (va_A [] H.size) [] := ⟨fun i j p q h => by simp at h, fun k q h => by simp at h⟩
      try dsimp only at hw
      obtain ⟨hP, hD⟩ := va_join (wr := [(mm, .inr (24, [.int 0, .ref stu, .ref cla, .ref pic, .ref act, .int 5, .int 50, .ref nts, .ref isn, .int 1600, .ref boa, .ref mas, .ref pai, .ref sol, .int 0, .ref bal, .ref leg])), (sol, .inr (5, [.int 0, .ref en.2.2.1, .int 0]))]) (w1 := []) hP hD [] [0, 1] rfl rfl (by decide) (by decide) hk1 hFc hP1 hD1
      generalize H1 = H at hP hS ⊢
      have hP : va_P (dC, dI) vwCl [(mm, .inr (24, [.int 0, .ref stu, .ref cla, .ref pic, .ref act, .int 5, .int 50, .ref nts, .ref isn, .int 1600, .ref boa, .ref mas, .ref pai, .ref sol, .int 0, .ref bal, .ref leg])), (sol, .inr (5, [.int 0, .ref en.2.2.1, .int 0]))] H := hP
      have hD : va_D A [(mm, .inr (24, [.int 0, .ref stu, .ref cla, .ref pic, .ref act, .int 5, .int 50, .ref nts, .ref isn, .int 1600, .ref boa, .ref mas, .ref pai, .ref sol, .int 0, .ref bal, .ref leg])), (sol, .inr (5, [.int 0, .ref en.2.2.1, .int 0]))] := hD
      have hR : va_P (dC, dI) vwCl [] H := fun k q h => by simp at h
      refine W.widen (k := 0) (n := 0) (Nat.le_of_ble_eq_true rfl) (Nat.le_of_ble_eq_true rfl) ?_
      subst r_8
      refine lv_bipush (v := 6) hx hb dX18_solvent_40 (by decide) ?_
      refine lv_icmp_ne (tgt := 51) hx hb dX18_solvent_42 (by decide) (fun c_9 => ?_) (fun c_9 => absurd c_9 (by decide))
      refine lv_aload_n hx hb dX18_solvent_51 rfl (lv_at hl 0 rfl) ?_
      refine va_get (D := (dC, dI)) (ci := 24) (v := .ref sol) (C := RX18) (T := TX18) (N := 17) hx hb hts (by decide +kernel) hown hK hP 0 rfl rfl 13 (by decide) (hts (.fieldLink RX18 58 "UnderpaintModel" "solvents" "Ljava/util/List;") (by decide +kernel)) (fun _ h9 => h9) rfl dX18_solvent_52 ?_
      refine lv_iconst (v := 3) hx hb dX18_solvent_55 (by decide) ?_
      refine va_newa (atype := .int) (a0 := (3, .inl (fun _ => 0))) hx hb (hts (.arrayClass .int) (by decide +kernel)) rfl hK hP hD hS hA (fun _ => rfl) (by decide) (by decide) (by decide) (Nat.le_of_ble_eq_true rfl) (Nat.le_of_ble_eq_true rfl) dX18_solvent_56 (fun q_10 k_11 H hK hP hD hS => ?_)
      have hP : va_P (dC, dI) vwCl [(mm, .inr (24, [.int 0, .ref stu, .ref cla, .ref pic, .ref act, .int 5, .int 50, .ref nts, .ref isn, .int 1600, .ref boa, .ref mas, .ref pai, .ref sol, .int 0, .ref bal, .ref leg])), (sol, .inr (5, [.int 0, .ref en.2.2.1, .int 0])), (q_10, .inl (k_11, 3, .inl (fun _ => 0)))] H := hP
      have hD : va_D A [(mm, .inr (24, [.int 0, .ref stu, .ref cla, .ref pic, .ref act, .int 5, .int 50, .ref nts, .ref isn, .int 1600, .ref boa, .ref mas, .ref pai, .ref sol, .int 0, .ref bal, .ref leg])), (sol, .inr (5, [.int 0, .ref en.2.2.1, .int 0])), (q_10, .inl (k_11, 3, .inl (fun _ => 0)))] := hD
      have hR : va_P (dC, dI) vwCl [] H := fun k q h => by simp at h
      refine W.widen (k := 1) (n := 3) (Nat.le_of_ble_eq_true rfl) (Nat.le_of_ble_eq_true rfl) ?_
      refine lv_dup hx hb dX18_solvent_58 rfl ?_
      refine lv_iconst (v := 0) hx hb dX18_solvent_59 (by decide) ?_
      refine lv_iload_n hx hb dX18_solvent_60 rfl (lv_at hl 1 rfl) ?_
      refine va_iast hx hb hK hP hD hS 2 0 rfl rfl (vp_in_nI (by decide : 0 < 3) (by decide)) dX18_solvent_61 (fun H locs hP hD hS => ?_)
      generalize ef_12 : upd (fun _ => 0) (0 : Int32).toNatClampNeg a = f_12 at hP hD
      have hP : va_P (dC, dI) vwCl [(mm, .inr (24, [.int 0, .ref stu, .ref cla, .ref pic, .ref act, .int 5, .int 50, .ref nts, .ref isn, .int 1600, .ref boa, .ref mas, .ref pai, .ref sol, .int 0, .ref bal, .ref leg])), (sol, .inr (5, [.int 0, .ref en.2.2.1, .int 0])), (q_10, .inl (k_11, 3, .inl f_12))] H := hP
      have hD : va_D A [(mm, .inr (24, [.int 0, .ref stu, .ref cla, .ref pic, .ref act, .int 5, .int 50, .ref nts, .ref isn, .int 1600, .ref boa, .ref mas, .ref pai, .ref sol, .int 0, .ref bal, .ref leg])), (sol, .inr (5, [.int 0, .ref en.2.2.1, .int 0])), (q_10, .inl (k_11, 3, .inl f_12))] := hD
      have hR : va_P (dC, dI) vwCl [] H := fun k q h => by simp at h
      refine lv_dup hx hb dX18_solvent_62 rfl ?_
      refine lv_iconst (v := 1) hx hb dX18_solvent_63 (by decide) ?_
      refine lv_iload_n hx hb dX18_solvent_64 rfl (lv_at hl 2 rfl) ?_
      refine va_iast hx hb hK hP hD hS 2 0 rfl rfl (vp_in_nI (by decide : 1 < 3) (by decide)) dX18_solvent_65 (fun H locs hP hD hS => ?_)
      generalize ef_13 : upd f_12 (1 : Int32).toNatClampNeg b = f_13 at hP hD
      have hP : va_P (dC, dI) vwCl [(mm, .inr (24, [.int 0, .ref stu, .ref cla, .ref pic, .ref act, .int 5, .int 50, .ref nts, .ref isn, .int 1600, .ref boa, .ref mas, .ref pai, .ref sol, .int 0, .ref bal, .ref leg])), (sol, .inr (5, [.int 0, .ref en.2.2.1, .int 0])), (q_10, .inl (k_11, 3, .inl f_13))] H := hP
      have hD : va_D A [(mm, .inr (24, [.int 0, .ref stu, .ref cla, .ref pic, .ref act, .int 5, .int 50, .ref nts, .ref isn, .int 1600, .ref boa, .ref mas, .ref pai, .ref sol, .int 0, .ref bal, .ref leg])), (sol, .inr (5, [.int 0, .ref en.2.2.1, .int 0])), (q_10, .inl (k_11, 3, .inl f_13))] := hD
      have hR : va_P (dC, dI) vwCl [] H := fun k q h => by simp at h
      refine lv_dup hx hb dX18_solvent_66 rfl ?_
      refine lv_iconst (v := 2) hx hb dX18_solvent_67 (by decide) ?_
      refine lv_iconst (v := 0) hx hb dX18_solvent_68 (by decide) ?_
      refine va_iast hx hb hK hP hD hS 2 0 rfl rfl (vp_in_nI (by decide : 2 < 3) (by decide)) dX18_solvent_69 (fun H locs hP hD hS => ?_)
      generalize ef_14 : upd f_13 (2 : Int32).toNatClampNeg 0 = f_14 at hP hD
      have hP : va_P (dC, dI) vwCl [(mm, .inr (24, [.int 0, .ref stu, .ref cla, .ref pic, .ref act, .int 5, .int 50, .ref nts, .ref isn, .int 1600, .ref boa, .ref mas, .ref pai, .ref sol, .int 0, .ref bal, .ref leg])), (sol, .inr (5, [.int 0, .ref en.2.2.1, .int 0])), (q_10, .inl (k_11, 3, .inl f_14))] H := hP
      have hD : va_D A [(mm, .inr (24, [.int 0, .ref stu, .ref cla, .ref pic, .ref act, .int 5, .int 50, .ref nts, .ref isn, .int 1600, .ref boa, .ref mas, .ref pai, .ref sol, .int 0, .ref bal, .ref leg])), (sol, .inr (5, [.int 0, .ref en.2.2.1, .int 0])), (q_10, .inl (k_11, 3, .inl f_14))] := hD
      have hR : va_P (dC, dI) vwCl [] H := fun k q h => by simp at h
      have hPc := (hP.app hR).sub (ws' := [(sol, .inr (5, [.int 0, .ref en.2.2.1, .int 0]))] ++ [(q_10, .inl (k_11, (3, .inl f_14)))]) [1, 2] rfl
      have hDc := (en_DD hD hDr hN0 hAb).sub (ws' := [(sol, .inr (5, [.int 0, .ref en.2.2.1, .int 0]))] ++ [(q_10, .inl (k_11, (3, .inl f_14)))]) [1, 2] (by decide) rfl
      have hKc := hK.sub (tys' := [(k_11, .int)]) [0] rfl
      have hFc := va_free (wc := [(sol, .inr (5, [.int 0, .ref en.2.2.1, .int 0]))]) hD hS hA [1] rfl
      refine va_callFi (va_runF (As := [.ref q_10]) (rest := []) (hK.1 5 _ rfl).2 ⟨hx, hb, hml, hown, hts⟩ (c_adda l dC dI b0 en H.size sol q_10 k_11 (3, .inl f_14)) (va_cwF 1 hts gX18_solvent_Jx4a65c_add_9ea2d_f96Jx4a65c rfl rfl rfl (hE.face ("java/util/ArrayList", ⟨"java/util/List", "add", "(Ljava/lang/Object;)Z"⟩, ⟨"java/util/ArrayList", "add", "(Ljava/lang/Object;)Z"⟩) (by decide +kernel)) (by decide +kernel) ⟨Nat.le_of_ble_eq_true rfl, Nat.le_of_ble_eq_true rfl⟩) ⟨cP.blind, va_recv hK hP (ci := 5) (q0 := 1) rfl rfl, cP.use (en_z hb0 hS) (hE.on hAb hS) hPc hKc hDc trivial⟩ rfl rfl hl.1 rfl (lv_room (Nat.le_of_ble_eq_true rfl)) dX18_solvent_70 ⟨Nat.le_of_ble_eq_true rfl, Nat.le_of_ble_eq_true rfl⟩) hS (fun q _ h => hFc q h) hFc (fun r_16 u_15 t H1 locs ht hvm hw hB hz1 hk1 hS => ?_)
      obtain ⟨hP1, hK1, hD1, hF1⟩ := hB
      rw [ht] at hP1
      try rw [ht] at hF1
      have hK1 := va_K.moved hvm.symm hK1
      try dsimp only at hw
      obtain ⟨hP, hD⟩ := va_join (wr := [(mm, .inr (24, [.int 0, .ref stu, .ref cla, .ref pic, .ref act, .int 5, .int 50, .ref nts, .ref isn, .int 1600, .ref boa, .ref mas, .ref pai, .ref sol, .int 0, .ref bal, .ref leg])), (q_10, .inl (k_11, 3, .inl f_14))]) (w1 := [(sol, .inr (5, [.int 1, .ref u_15.1, .int 1])), (u_15.1, .inl (u_15.2.1, 10, .inr (.inr (.inr (.inr u_15.2.2)))))]) hP hD [1] [0, 2] rfl rfl (by decide) (by decide) hk1 hFc hP1 hD1
      have hK := hK.app hK1
      generalize H1 = H at hP hS ⊢
      have hP : va_P (dC, dI) vwCl [(mm, .inr (24, [.int 0, .ref stu, .ref cla, .ref pic, .ref act, .int 5, .int 50, .ref nts, .ref isn, .int 1600, .ref boa, .ref mas, .ref pai, .ref sol, .int 0, .ref bal, .ref leg])), (q_10, .inl (k_11, 3, .inl f_14)), (sol, .inr (5, [.int 1, .ref u_15.1, .int 1])), (u_15.1, .inl (u_15.2.1, 10, .inr (.inr (.inr (.inr u_15.2.2)))))] H := hP
      have hD : va_D A [(mm, .inr (24, [.int 0, .ref stu, .ref cla, .ref pic, .ref act, .int 5, .int 50, .ref nts, .ref isn, .int 1600, .ref boa, .ref mas, .ref pai, .ref sol, .int 0, .ref bal, .ref leg])), (q_10, .inl (k_11, 3, .inl f_14)), (sol, .inr (5, [.int 1, .ref u_15.1, .int 1])), (u_15.1, .inl (u_15.2.1, 10, .inr (.inr (.inr (.inr u_15.2.2)))))] := hD
      have hR : va_P (dC, dI) vwCl [] H := fun k q h => by simp at h
      refine W.widen (k := 2) (n := 13) (Nat.le_of_ble_eq_true rfl) (Nat.le_of_ble_eq_true rfl) ?_
      subst r_16
      refine lv_pop hx hb dX18_solvent_75 rfl ?_
      refine lv_aload_n hx hb dX18_solvent_76 rfl (lv_at hl 0 rfl) ?_
      refine va_get (D := (dC, dI)) (ci := 24) (v := .ref sol) (C := RX18) (T := TX18) (N := 17) hx hb hts (by decide +kernel) hown hK hP 0 rfl rfl 13 (by decide) (hts (.fieldLink RX18 58 "UnderpaintModel" "solvents" "Ljava/util/List;") (by decide +kernel)) (fun _ h9 => h9) rfl dX18_solvent_77 ?_
      have hPc := (hP.app hR).sub (ws' := [] ++ [(sol, .inr (5, [.int 1, .ref u_15.1, .int 1]))]) [2] rfl
      have hDc := (en_DD hD hDr hN0 hAb).sub (ws' := [] ++ [(sol, .inr (5, [.int 1, .ref u_15.1, .int 1]))]) [2] (by decide) rfl
      have hKc := hK.sub (tys' := []) [] rfl
      have hFc := va_free (wc := []) hD hS hA [] rfl
      refine va_callFi (va_runF (As := []) (rest := []) (hK.1 5 _ rfl).2 ⟨hx, hb, hml, hown, hts⟩ (c_Jx4a65c_size l dC dI b0 en H.size sol u_15.1 1 1) (va_cwF 0 hts gX18_solvent_Jx4a65c_size_8abf5_f74Jx4a65c rfl rfl rfl (hE.face ("java/util/ArrayList", ⟨"java/util/List", "size", "()I"⟩, ⟨"java/util/ArrayList", "size", "()I"⟩) (by decide +kernel)) (by decide +kernel) ⟨Nat.le_of_ble_eq_true rfl, Nat.le_of_ble_eq_true rfl⟩) ⟨cP.blind, va_recv hK hP (ci := 5) (q0 := 2) rfl rfl, cP.use (en_z hb0 hS) (hE.on hAb hS) hPc hKc hDc trivial⟩ rfl rfl hl.1 rfl (lv_room (Nat.le_of_ble_eq_true rfl)) dX18_solvent_80 ⟨Nat.le_of_ble_eq_true rfl, Nat.le_of_ble_eq_true rfl⟩) hS (fun q _ h => hFc q h) hFc (fun r_17 u t H1 locs ht hvm hw hB hz1 hk1 hS => ?_)
      have hP1 : va_P (dC, dI) vwCl [] H1 := fun k q h => by simp at h
      have hD1 : va_D (va_A [] H.size) [] := ⟨fun i j p q h => by simp at h, fun k q h => by simp at h⟩
      try dsimp only at hw
      obtain ⟨hP, hD⟩ := va_join (wr := [(mm, .inr (24, [.int 0, .ref stu, .ref cla, .ref pic, .ref act, .int 5, .int 50, .ref nts, .ref isn, .int 1600, .ref boa, .ref mas, .ref pai, .ref sol, .int 0, .ref bal, .ref leg])), (q_10, .inl (k_11, 3, .inl f_14)), (sol, .inr (5, [.int 1, .ref u_15.1, .int 1])), (u_15.1, .inl (u_15.2.1, 10, .inr (.inr (.inr (.inr u_15.2.2)))))]) (w1 := []) hP hD [] [0, 1, 2, 3] rfl rfl (by decide) (by decide) hk1 hFc hP1 hD1
      generalize H1 = H at hP hS ⊢
      have hP : va_P (dC, dI) vwCl [(mm, .inr (24, [.int 0, .ref stu, .ref cla, .ref pic, .ref act, .int 5, .int 50, .ref nts, .ref isn, .int 1600, .ref boa, .ref mas, .ref pai, .ref sol, .int 0, .ref bal, .ref leg])), (q_10, .inl (k_11, 3, .inl f_14)), (sol, .inr (5, [.int 1, .ref u_15.1, .int 1])), (u_15.1, .inl (u_15.2.1, 10, .inr (.inr (.inr (.inr u_15.2.2)))))] H := hP
      have hD : va_D A [(mm, .inr (24, [.int 0, .ref stu, .ref cla, .ref pic, .ref act, .int 5, .int 50, .ref nts, .ref isn, .int 1600, .ref boa, .ref mas, .ref pai, .ref sol, .int 0, .ref bal, .ref leg])), (q_10, .inl (k_11, 3, .inl f_14)), (sol, .inr (5, [.int 1, .ref u_15.1, .int 1])), (u_15.1, .inl (u_15.2.1, 10, .inr (.inr (.inr (.inr u_15.2.2)))))] := hD
      have hR : va_P (dC, dI) vwCl [] H := fun k q h => by simp at h
      refine W.widen (k := 2) (n := 13) (Nat.le_of_ble_eq_true rfl) (Nat.le_of_ble_eq_true rfl) ?_
      subst r_17
      refine lv_iconst (v := 1) hx hb dX18_solvent_85 (by decide) ?_
      refine lv_isub hx hb dX18_solvent_86 ?_
      refine lv_topi (fun x_18 ex_18 => ?_)
      obtain rfl : x_18 = 0 := ex_18.trans (by decide)
      refine W.widen (k := 2) (n := 13) (Nat.le_of_ble_eq_true rfl) (Nat.le_of_ble_eq_true rfl) ?_
      exact W.iret (v := 0) hx hb hr (fun t ht hW => ⟨⟨0, ⟨0, [.ref stu, .ref cla, .ref pic, .ref act, .int 5, .int 50, .ref nts, .ref isn, .int 1600, .ref boa, .ref mas, .ref pai, .ref sol, .int 0, .ref bal, .ref leg]⟩, rfl, (z_c_X18_solvent_137 a b r_1 r_5 h_2 c_3 h_6 c_7), cB.mk ht hW (hP.sub [0] rfl) (hK.sub [] rfl) (hD.sub [0] (by decide) rfl) (trivial)⟩, hS.F ht⟩) hS.2.2 dX18_solvent_87
    · skip
      refine lv_aload_n hx hb dX18_solvent_25 rfl (lv_at hl 0 rfl) ?_
      refine lv_iconst (v := 1) hx hb dX18_solvent_26 (by decide) ?_
      have hPc := (hP.app hR).sub (ws' := [(mm, .inr (24, .int 0 :: ([.ref stu, .ref cla, .ref pic, .ref act, .int 5, .int 50, .ref nts, .ref isn, .int 1600, .ref boa, .ref mas, .ref pai, .ref sol, .int 0, .ref bal, .ref leg])))] ++ []) [0] rfl
      have hDc := (en_DD hD hDr hN0 hAb).sub (ws' := [(mm, .inr (24, .int 0 :: ([.ref stu, .ref cla, .ref pic, .ref act, .int 5, .int 50, .ref nts, .ref isn, .int 1600, .ref boa, .ref mas, .ref pai, .ref sol, .int 0, .ref bal, .ref leg])))] ++ []) [0] (by decide) rfl
      have hKc := hK.sub (tys' := []) [] rfl
      have hFc := va_free (wc := [(mm, .inr (24, .int 0 :: ([.ref stu, .ref cla, .ref pic, .ref act, .int 5, .int 50, .ref nts, .ref isn, .int 1600, .ref boa, .ref mas, .ref pai, .ref sol, .int 0, .ref bal, .ref leg])))]) hD hS hA [0] rfl
      refine va_calli (va_runV (As := [.int 1]) (rest := []) ⟨hx, hb, hml, hown, hts⟩ (c_X18_fails l dC dI b0 en H.size mm 0 1 ([.ref stu, .ref cla, .ref pic, .ref act, .int 5, .int 50, .ref nts, .ref isn, .int 1600, .ref boa, .ref mas, .ref pai, .ref sol, .int 0, .ref bal, .ref leg])) (cwV 1 hts gX18_solvent_X18_fails rfl rfl rfl (by decide +kernel) ⟨Nat.le_of_ble_eq_true rfl, Nat.le_of_ble_eq_true rfl⟩) ⟨cP.blind, va_recv hK hP (ci := 24) (q0 := 0) rfl rfl, cP.use (en_z hb0 hS) (hE.on hAb hS) hPc hKc hDc trivial⟩ rfl rfl hl.1 rfl (lv_room (Nat.le_of_ble_eq_true rfl)) dX18_solvent_27 ⟨Nat.le_of_ble_eq_true rfl, Nat.le_of_ble_eq_true rfl⟩) hS (fun q _ h => hFc q h) hFc (fun r_19 u t H1 locs ht hvm hw hB hz1 hk1 hS => ?_)
      obtain ⟨hP1, hK1, hD1, hF1⟩ := hB
      rw [ht] at hP1
      try rw [ht] at hF1
      have hK1 := va_K.moved hvm.symm hK1
      try dsimp only at hw
      obtain ⟨hP, hD⟩ := va_join (wr := [(sol, .inr (5, [.int 0, .ref en.2.2.1, .int 0]))]) (w1 := [(mm, .inr (24, [.int 1, .ref stu, .ref cla, .ref pic, .ref act, .int 5, .int 50, .ref nts, .ref isn, .int 1600, .ref boa, .ref mas, .ref pai, .ref sol, .int 0, .ref bal, .ref leg]))]) hP hD [0] [1] rfl rfl (by decide) (by decide) hk1 hFc hP1 hD1
      generalize H1 = H at hP hS ⊢
      have hP : va_P (dC, dI) vwCl [(sol, .inr (5, [.int 0, .ref en.2.2.1, .int 0])), (mm, .inr (24, [.int 1, .ref stu, .ref cla, .ref pic, .ref act, .int 5, .int 50, .ref nts, .ref isn, .int 1600, .ref boa, .ref mas, .ref pai, .ref sol, .int 0, .ref bal, .ref leg]))] H := hP
      have hD : va_D A [(sol, .inr (5, [.int 0, .ref en.2.2.1, .int 0])), (mm, .inr (24, [.int 1, .ref stu, .ref cla, .ref pic, .ref act, .int 5, .int 50, .ref nts, .ref isn, .int 1600, .ref boa, .ref mas, .ref pai, .ref sol, .int 0, .ref bal, .ref leg]))] := hD
      have hR : va_P (dC, dI) vwCl [] H := fun k q h => by simp at h
      refine W.widen (k := 0) (n := 0) (Nat.le_of_ble_eq_true rfl) (Nat.le_of_ble_eq_true rfl) ?_
      subst r_19
      refine W.widen (k := 2) (n := 13) (Nat.le_of_ble_eq_true rfl) (Nat.le_of_ble_eq_true rfl) ?_
      exact W.iret (v := 0) hx hb hr (fun t ht hW => ⟨⟨0, ⟨1, [.ref stu, .ref cla, .ref pic, .ref act, .int 5, .int 50, .ref nts, .ref isn, .int 1600, .ref boa, .ref mas, .ref pai, .ref sol, .int 0, .ref bal, .ref leg]⟩, rfl, (z_c_X18_solvent_138 a b r_1 r_5 h_2 c_3 h_6 c_7), cB.mk ht hW (hP.sub [1] rfl) (hK.sub [] rfl) (hD.sub [1] (by decide) rfl) (trivial)⟩, hS.F ht⟩) hS.2.2 dX18_solvent_30

set_option maxHeartbeats 4000000 in
set_option maxRecDepth 100000 in
/-- ArrayList.add(e, elementData, size): the second one -/
theorem c_add3i2 (l : Launch) (dC : Nat → ClassId) (dI : Nat → Nat → Nat) (b0 : Nat) (en : EnT) (sz : Nat) (li ar : Nat) (cO : ClassId) (fA : Nat → Option Nat) (j : Nat) (hj : j < 256) : Met l yJx4a65c_add_72be8 wsJx4a65c_add_72be8 ({ frames := 0, cells := 0, slots := 0, locals := 0 } : Room) (cP b0 en (dC, dI) [(cO, .object "java/lang/Object")] [(li, .inr (5, [.int 2, .ref ar, .int 1])), (ar, .inl (cO, 10, .inr (.inr (.inr (.inr fA)))))] [] sz (fun _ => True) [.ref li, .ref (en.2.2.2 (3 + j)), .ref ar, .int 1]) (va_Qv (fun u : Nat → Option Nat => True) (fun u t => cB (dC, dI) [] [(li, .inr (5, [.int 2, .ref ar, .int 2])), (ar, .inl (cO, 10, .inr (.inr (.inr (.inr u)))))] (va_A [(li, .inr (5, [.int 2, .ref ar, .int 1])), (ar, .inl (cO, 10, .inr (.inr (.inr (.inr fA)))))] sz) (fun _ => True) t) (va_A [(li, .inr (5, [.int 2, .ref ar, .int 1])), (ar, .inl (cO, 10, .inr (.inr (.inr (.inr fA)))))] sz)) 0 0 (va_A [(li, .inr (5, [.int 2, .ref ar, .int 1])), (ar, .inl (cO, 10, .inr (.inr (.inr (.inr fA)))))] sz) := by
  refine Met.ofW (cc := cJx4a65c_add_72be8) (maxL := 4) (ret := none) (by decide) rfl ?_
  intro p e s m args below meth c s₁ B hml hv
  obtain ⟨rfl, hsz, hb0, hE, hPP, hK, hDD, hF0⟩ := hv
  have hx := B.exec
  have hb := B.bytes
  have hr := B.returns
  have hts := atoms_spec (ws := wsJx4a65c_add_72be8) B.pre
  have hown : s.vm.findClass RJx4a65c = some m.cls := findClass_of_methodNamed B.named
  have hlocks := B.notSynchronized
  subst hsz
  have hN0 := en_N hPP hDD rfl
  have hP : va_P (dC, dI) vwCl [(li, .inr (5, [.int 2, .ref ar, .int 1])), (ar, .inl (cO, 10, .inr (.inr (.inr (.inr fA)))))] s.heap := hPP.sub [0, 1] rfl
  have hR0 : va_P (dC, dI) vwCl [] s.heap := hPP.sub [] rfl
  have hD0 : va_D (fun q => b0 ≤ q) [(li, .inr (5, [.int 2, .ref ar, .int 1])), (ar, .inl (cO, 10, .inr (.inr (.inr (.inr fA)))))] := hDD.sub [0, 1] (by decide) rfl
  have hDr : va_D (fun q => b0 ≤ q) [] := hDD.sub [] (by decide) rfl
  have hAb := en_A (sz := s.heap.size) hD0 hb0
  have hD := hD0.self (sz := s.heap.size)
  generalize hAe : va_A [(li, .inr (5, [.int 2, .ref ar, .int 1])), (ar, .inl (cO, 10, .inr (.inr (.inr (.inr fA)))))] s.heap.size = A at hD hAb hN0 ⊢
  have hA : ∀ q : Nat, s.heap.size ≤ q → A q := fun q h => by rw [← hAe]; exact Or.inr h
  have hS : va_S A s.heap s.heap [] := va_S.rf
  have hR := hR0
  have hl := lv_entry [.ref li, .ref (en.2.2.2 (3 + j)), .ref ar, .int 1] (n := 4) (Nat.le_of_ble_eq_true rfl)
  rw [lg_entry_eq]
  generalize (lg_sl [.ref li, .ref (en.2.2.2 (3 + j)), .ref ar, .int 1] ++ List.replicate (4 - (lg_sl [.ref li, .ref (en.2.2.2 (3 + j)), .ref ar, .int 1]).length) Slot.unset).toArray = ls at hl ⊢
  have hl : lv_has ls 4 [(0, .ref li), (1, .ref (en.2.2.2 (3 + j))), (2, .ref ar), (3, .int 1)] := hl
  refine lv_iload_n hx hb dJx4a65c_add_72be8_0 rfl (lv_at hl 3 rfl) ?_
  refine lv_aload_n hx hb dJx4a65c_add_72be8_1 rfl (lv_at hl 2 rfl) ?_
  refine va_alen hx hb hK hP 1 0 rfl rfl (v := 10) rfl dJx4a65c_add_72be8_2 ?_
  refine lv_icmp_ne (tgt := 11) hx hb dJx4a65c_add_72be8_3 (by decide) (fun c_1 => ?_) (fun c_1 => absurd c_1 (by decide))
  refine lv_aload_n hx hb dJx4a65c_add_72be8_11 rfl (lv_at hl 2 rfl) ?_
  refine lv_iload_n hx hb dJx4a65c_add_72be8_12 rfl (lv_at hl 3 rfl) ?_
  refine lv_aload_n hx hb dJx4a65c_add_72be8_13 rfl (lv_at hl 1 rfl) ?_
  refine va_astqM hx hb hK hP hD hS 1 0 rfl rfl (anyInt ((hE.io hAb).1 j hj) hS (hE.obj (by decide +kernel))) (vp_in_nI (by decide : 1 < 10) (by decide)) dJx4a65c_add_72be8_14 (fun H locs hP hD hS => ?_)
  generalize ef_2 : va_up fA (1 : Int32).toNatClampNeg (some (en.2.2.2 (3 + j))) = f_2 at hP hD
  have hP : va_P (dC, dI) vwCl [(li, .inr (5, [.int 2, .ref ar, .int 1])), (ar, .inl (cO, 10, .inr (.inr (.inr (.inr f_2)))))] H := hP
  have hD : va_D A [(li, .inr (5, [.int 2, .ref ar, .int 1])), (ar, .inl (cO, 10, .inr (.inr (.inr (.inr f_2)))))] := hD
  have hR : va_P (dC, dI) vwCl [] H := fun k q h => by simp at h
  refine lv_aload_n hx hb dJx4a65c_add_72be8_15 rfl (lv_at hl 0 rfl) ?_
  refine lv_iload_n hx hb dJx4a65c_add_72be8_16 rfl (lv_at hl 3 rfl) ?_
  refine lv_iconst (v := 1) hx hb dJx4a65c_add_72be8_17 (by decide) ?_
  refine lv_iadd hx hb dJx4a65c_add_72be8_18 ?_
  refine lv_topi (fun x_3 ex_3 => ?_)
  obtain rfl : x_3 = 2 := ex_3.trans (by decide)
  refine va_put (D := (dC, dI)) (ci := 5) (v := .int 2) (ty := .int) (C := RJx4a65c) (T := TJx4a65c) (N := 3) hx hb hts (by decide +kernel) tyJx4a65c tyJx4a65c_ok nmJx4a65c hown hK hP hD hS 0 rfl rfl 2 (by decide) (hts (.fieldLink RJx4a65c 48 "java/util/ArrayList" "size" "I") (by decide +kernel)) (fun _ h9 => h9) rfl (by decide +kernel) rfl rfl (Nat.le_of_ble_eq_true rfl) dJx4a65c_add_72be8_19 (fun H locs hP hD hS => ?_)
  have hP : va_P (dC, dI) vwCl [(li, .inr (5, [.int 2, .ref ar, .int 2])), (ar, .inl (cO, 10, .inr (.inr (.inr (.inr f_2)))))] H := hP
  have hD : va_D A [(li, .inr (5, [.int 2, .ref ar, .int 2])), (ar, .inl (cO, 10, .inr (.inr (.inr (.inr f_2)))))] := hD
  have hR : va_P (dC, dI) vwCl [] H := fun k q h => by simp at h
  refine W.widen (k := 0) (n := 0) (Nat.le_of_ble_eq_true rfl) (Nat.le_of_ble_eq_true rfl) ?_
  exact W.vret hx hb hr (fun t ht hW => ⟨⟨f_2, rfl, trivial, cB.mk ht hW (hP.sub [0, 1] rfl) (hK.sub [] rfl) (hD.sub [0, 1] (by decide) rfl) (trivial)⟩, hS.F ht⟩) hS.2.2 dJx4a65c_add_72be8_22

set_option maxHeartbeats 4000000 in
set_option maxRecDepth 100000 in
/-- ArrayList.add(e): the second one -/
theorem c_addi2 (l : Launch) (dC : Nat → ClassId) (dI : Nat → Nat → Nat) (b0 : Nat) (en : EnT) (sz : Nat) (li ar : Nat) (cO : ClassId) (fA : Nat → Option Nat) (j : Nat) (hj : j < 256) : Met l yJx4a65c_add_9ea2d wsJx4a65c_add_9ea2d ({ frames := 1, cells := 0, slots := 0, locals := 23 } : Room) (cP b0 en (dC, dI) [(cO, .object "java/lang/Object")] [(li, .inr (5, [.int 1, .ref ar, .int 1])), (ar, .inl (cO, 10, .inr (.inr (.inr (.inr fA)))))] [] sz (fun _ => True) [.ref li, .ref (en.2.2.2 (3 + j))]) (va_Qi (fun (r : Int32) (u : Nat → Option Nat) => r = 1) (fun u t => cB (dC, dI) [] [(li, .inr (5, [.int 2, .ref ar, .int 2])), (ar, .inl (cO, 10, .inr (.inr (.inr (.inr u)))))] (va_A [(li, .inr (5, [.int 1, .ref ar, .int 1])), (ar, .inl (cO, 10, .inr (.inr (.inr (.inr fA)))))] sz) (fun _ => True) t) (va_A [(li, .inr (5, [.int 1, .ref ar, .int 1])), (ar, .inl (cO, 10, .inr (.inr (.inr (.inr fA)))))] sz)) 0 0 (va_A [(li, .inr (5, [.int 1, .ref ar, .int 1])), (ar, .inl (cO, 10, .inr (.inr (.inr (.inr fA)))))] sz) := by
  refine Met.ofW (cc := cJx4a65c_add_9ea2d) (maxL := 2) (ret := (some .boolean)) (by decide) rfl ?_
  intro p e s m args below meth c s₁ B hml hv
  obtain ⟨rfl, hsz, hb0, hE, hPP, hK, hDD, hF0⟩ := hv
  have hx := B.exec
  have hb := B.bytes
  have hr := B.returns
  have hts := atoms_spec (ws := wsJx4a65c_add_9ea2d) B.pre
  have hown : s.vm.findClass RJx4a65c = some m.cls := findClass_of_methodNamed B.named
  have hlocks := B.notSynchronized
  subst hsz
  have hN0 := en_N hPP hDD rfl
  have hP : va_P (dC, dI) vwCl [(li, .inr (5, [.int 1, .ref ar, .int 1])), (ar, .inl (cO, 10, .inr (.inr (.inr (.inr fA)))))] s.heap := hPP.sub [0, 1] rfl
  have hR0 : va_P (dC, dI) vwCl [] s.heap := hPP.sub [] rfl
  have hD0 : va_D (fun q => b0 ≤ q) [(li, .inr (5, [.int 1, .ref ar, .int 1])), (ar, .inl (cO, 10, .inr (.inr (.inr (.inr fA)))))] := hDD.sub [0, 1] (by decide) rfl
  have hDr : va_D (fun q => b0 ≤ q) [] := hDD.sub [] (by decide) rfl
  have hAb := en_A (sz := s.heap.size) hD0 hb0
  have hD := hD0.self (sz := s.heap.size)
  generalize hAe : va_A [(li, .inr (5, [.int 1, .ref ar, .int 1])), (ar, .inl (cO, 10, .inr (.inr (.inr (.inr fA)))))] s.heap.size = A at hD hAb hN0 ⊢
  have hA : ∀ q : Nat, s.heap.size ≤ q → A q := fun q h => by rw [← hAe]; exact Or.inr h
  have hS : va_S A s.heap s.heap [] := va_S.rf
  have hR := hR0
  have hl := lv_entry [.ref li, .ref (en.2.2.2 (3 + j))] (n := 2) (Nat.le_of_ble_eq_true rfl)
  rw [lg_entry_eq]
  generalize (lg_sl [.ref li, .ref (en.2.2.2 (3 + j))] ++ List.replicate (2 - (lg_sl [.ref li, .ref (en.2.2.2 (3 + j))]).length) Slot.unset).toArray = ls at hl ⊢
  have hl : lv_has ls 2 [(0, .ref li), (1, .ref (en.2.2.2 (3 + j)))] := hl
  refine lv_aload_n hx hb dJx4a65c_add_9ea2d_0 rfl (lv_at hl 0 rfl) ?_
  refine lv_dup hx hb dJx4a65c_add_9ea2d_1 rfl ?_
  refine va_get (D := (dC, dI)) (ci := 5) (v := .int 1) (C := RJx4a65c) (T := TJx4a65c) (N := 3) hx hb hts (by decide +kernel) hown hK hP 0 rfl rfl 0 (by decide) (hts (.fieldLink RJx4a65c 63 "java/util/ArrayList" "modCount" "I") (by decide +kernel)) (fun x h9 => u_same (hts (.sameField "java/util/ArrayList" "java/util/AbstractList" "modCount" "I") (by decide +kernel)) x h9) rfl dJx4a65c_add_9ea2d_2 ?_
  refine lv_iconst (v := 1) hx hb dJx4a65c_add_9ea2d_5 (by decide) ?_
  refine lv_iadd hx hb dJx4a65c_add_9ea2d_6 ?_
  refine lv_topi (fun x_1 ex_1 => ?_)
  obtain rfl : x_1 = 2 := ex_1.trans (by decide)
  refine va_put (D := (dC, dI)) (ci := 5) (v := .int 2) (ty := .int) (C := RJx4a65c) (T := TJx4a65c) (N := 3) hx hb hts (by decide +kernel) tyJx4a65c tyJx4a65c_ok nmJx4a65c hown hK hP hD hS 0 rfl rfl 0 (by decide) (hts (.fieldLink RJx4a65c 63 "java/util/ArrayList" "modCount" "I") (by decide +kernel)) (fun x h9 => u_same (hts (.sameField "java/util/ArrayList" "java/util/AbstractList" "modCount" "I") (by decide +kernel)) x h9) rfl (by decide +kernel) rfl rfl (Nat.le_of_ble_eq_true rfl) dJx4a65c_add_9ea2d_7 (fun H locs hP hD hS => ?_)
  have hP : va_P (dC, dI) vwCl [(li, .inr (5, [.int 2, .ref ar, .int 1])), (ar, .inl (cO, 10, .inr (.inr (.inr (.inr fA)))))] H := hP
  have hD : va_D A [(li, .inr (5, [.int 2, .ref ar, .int 1])), (ar, .inl (cO, 10, .inr (.inr (.inr (.inr fA)))))] := hD
  have hR : va_P (dC, dI) vwCl [] H := fun k q h => by simp at h
  refine lv_aload_n hx hb dJx4a65c_add_9ea2d_10 rfl (lv_at hl 0 rfl) ?_
  refine lv_aload_n hx hb dJx4a65c_add_9ea2d_11 rfl (lv_at hl 1 rfl) ?_
  refine lv_aload_n hx hb dJx4a65c_add_9ea2d_12 rfl (lv_at hl 0 rfl) ?_
  refine va_get (D := (dC, dI)) (ci := 5) (v := .ref ar) (C := RJx4a65c) (T := TJx4a65c) (N := 3) hx hb hts (by decide +kernel) hown hK hP 0 rfl rfl 1 (by decide) (hts (.fieldLink RJx4a65c 9 "java/util/ArrayList" "elementData" "[Ljava/lang/Object;") (by decide +kernel)) (fun _ h9 => h9) rfl dJx4a65c_add_9ea2d_13 ?_
  refine lv_aload_n hx hb dJx4a65c_add_9ea2d_16 rfl (lv_at hl 0 rfl) ?_
  refine va_get (D := (dC, dI)) (ci := 5) (v := .int 1) (C := RJx4a65c) (T := TJx4a65c) (N := 3) hx hb hts (by decide +kernel) hown hK hP 0 rfl rfl 2 (by decide) (hts (.fieldLink RJx4a65c 48 "java/util/ArrayList" "size" "I") (by decide +kernel)) (fun _ h9 => h9) rfl dJx4a65c_add_9ea2d_17 ?_
  have hPc := (hP.app hR).sub (ws' := [(li, .inr (5, [.int 2, .ref ar, .int 1])), (ar, .inl (cO, 10, .inr (.inr (.inr (.inr fA)))))] ++ []) [0, 1] rfl
  have hDc := (en_DD hD hDr hN0 hAb).sub (ws' := [(li, .inr (5, [.int 2, .ref ar, .int 1])), (ar, .inl (cO, 10, .inr (.inr (.inr (.inr fA)))))] ++ []) [0, 1] (by decide) rfl
  have hKc := hK.sub (tys' := [(cO, .object "java/lang/Object")]) [0] rfl
  have hFc := va_free (wc := [(li, .inr (5, [.int 2, .ref ar, .int 1])), (ar, .inl (cO, 10, .inr (.inr (.inr (.inr fA)))))]) hD hS hA [0, 1] rfl
  refine va_callv (va_runV (As := [.ref (en.2.2.2 (3 + j)), .ref ar, .int 1]) (rest := []) ⟨hx, hb, hml, hown, hts⟩ (c_add3i2 l dC dI b0 en H.size li ar cO fA j hj) (cwV 3 hts gJx4a65c_add_9ea2d_Jx4a65c_add_72be8 rfl rfl rfl (by decide +kernel) ⟨Nat.le_of_ble_eq_true rfl, Nat.le_of_ble_eq_true rfl⟩) ⟨cP.blind, va_recv hK hP (ci := 5) (q0 := 0) rfl rfl, cP.use (en_z hb0 hS) (hE.on hAb hS) hPc hKc hDc trivial⟩ rfl rfl hl.1 rfl (lv_room (Nat.le_of_ble_eq_true rfl)) dJx4a65c_add_9ea2d_20 ⟨Nat.le_of_ble_eq_true rfl, Nat.le_of_ble_eq_true rfl⟩) hS (fun q _ h => hFc q h) hFc (fun u_2 t H1 locs ht hvm hw hB hz1 hk1 hS => ?_)
  obtain ⟨hP1, hK1, hD1, hF1⟩ := hB
  rw [ht] at hP1
  try rw [ht] at hF1
  have hK1 := va_K.moved hvm.symm hK1
  try dsimp only at hw
  obtain ⟨hP, hD⟩ := va_join (wr := []) (w1 := [(li, .inr (5, [.int 2, .ref ar, .int 2])), (ar, .inl (cO, 10, .inr (.inr (.inr (.inr u_2)))))]) hP hD [0, 1] [] rfl rfl (by decide) (by decide) hk1 hFc hP1 hD1
  generalize H1 = H at hP hS ⊢
  have hP : va_P (dC, dI) vwCl [(li, .inr (5, [.int 2, .ref ar, .int 2])), (ar, .inl (cO, 10, .inr (.inr (.inr (.inr u_2)))))] H := hP
  have hD : va_D A [(li, .inr (5, [.int 2, .ref ar, .int 2])), (ar, .inl (cO, 10, .inr (.inr (.inr (.inr u_2)))))] := hD
  have hR : va_P (dC, dI) vwCl [] H := fun k q h => by simp at h
  refine W.widen (k := 0) (n := 0) (Nat.le_of_ble_eq_true rfl) (Nat.le_of_ble_eq_true rfl) ?_
  refine lv_iconst (v := 1) hx hb dJx4a65c_add_9ea2d_23 (by decide) ?_
  refine W.widen (k := 0) (n := 0) (Nat.le_of_ble_eq_true rfl) (Nat.le_of_ble_eq_true rfl) ?_
  exact W.zret (v := 1) hx hb hr (by first | rfl | decide +kernel) (fun t ht hW => ⟨⟨1, u_2, rfl, (z_c_isEmpty0_22), cB.mk ht hW (hP.sub [0, 1] rfl) (hK.sub [] rfl) (hD.sub [0, 1] (by decide) rfl) (trivial)⟩, hS.F ht⟩) hS.2.2 dJx4a65c_add_9ea2d_24
theorem z_c_X18_leg_139 (a : Int32) (b : Int32) (r_1 : Int32) (a_0 : r_1 = if 0 ≤ a ∧ a ≤ 9 then 1 else 0) (a_1 : r_1 = 0) : ((1 : Int32) = 0 ∧ (0 : Int32) = 1 ∧ (0 ≤ a ∧ a ≤ 9) ∧ (0 ≤ b ∧ b ≤ 99)) ∨ ((1 : Int32) = 1 ∧ ¬ ((0 ≤ a ∧ a ≤ 9) ∧ (0 ≤ b ∧ b ≤ 99))) := by grind
theorem z_c_X18_leg_140 (a : Int32) (b : Int32) (r_1 : Int32) (r_5 : Int32) (a_0 : r_1 = if 0 ≤ a ∧ a ≤ 9 then 1 else 0) (a_1 : ¬ r_1 = 0) (a_2 : r_5 = if 0 ≤ b ∧ b ≤ 99 then 1 else 0) (a_3 : ¬ r_5 = 0) : 0 ≤ a := by grind
theorem z_c_X18_leg_141 (a : Int32) (b : Int32) (r_1 : Int32) (r_5 : Int32) (a_0 : r_1 = if 0 ≤ a ∧ a ≤ 9 then 1 else 0) (a_1 : ¬ r_1 = 0) (a_2 : r_5 = if 0 ≤ b ∧ b ≤ 99 then 1 else 0) (a_3 : ¬ r_5 = 0) : a ≤ 127 := by grind
theorem z_c_X18_leg_142 (a : Int32) (b : Int32) (r_1 : Int32) (r_5 : Int32) (a_0 : r_1 = if 0 ≤ a ∧ a ≤ 9 then 1 else 0) (a_1 : ¬ r_1 = 0) (a_2 : r_5 = if 0 ≤ b ∧ b ≤ 99 then 1 else 0) (a_3 : ¬ r_5 = 0) : 0 ≤ b := by grind
theorem z_c_X18_leg_143 (a : Int32) (b : Int32) (r_1 : Int32) (r_5 : Int32) (a_0 : r_1 = if 0 ≤ a ∧ a ≤ 9 then 1 else 0) (a_1 : ¬ r_1 = 0) (a_2 : r_5 = if 0 ≤ b ∧ b ≤ 99 then 1 else 0) (a_3 : ¬ r_5 = 0) : b ≤ 127 := by grind
theorem z_c_X18_leg_144 (a : Int32) (b : Int32) (r_1 : Int32) (r_5 : Int32) (a_0 : r_1 = if 0 ≤ a ∧ a ≤ 9 then 1 else 0) (a_1 : ¬ r_1 = 0) (a_2 : r_5 = if 0 ≤ b ∧ b ≤ 99 then 1 else 0) (a_3 : ¬ r_5 = 0) : ((0 : Int32) = 0 ∧ (1 : Int32) = 1 ∧ (0 ≤ a ∧ a ≤ 9) ∧ (0 ≤ b ∧ b ≤ 99)) ∨ ((0 : Int32) = 1 ∧ ¬ ((0 ≤ a ∧ a ≤ 9) ∧ (0 ≤ b ∧ b ≤ 99))) := by grind
theorem z_c_X18_leg_145 (a : Int32) (b : Int32) (r_1 : Int32) (r_5 : Int32) (a_0 : r_1 = if 0 ≤ a ∧ a ≤ 9 then 1 else 0) (a_1 : ¬ r_1 = 0) (a_2 : r_5 = if 0 ≤ b ∧ b ≤ 99 then 1 else 0) (a_3 : r_5 = 0) : ((1 : Int32) = 0 ∧ (0 : Int32) = 1 ∧ (0 ≤ a ∧ a ≤ 9) ∧ (0 ≤ b ∧ b ≤ 99)) ∨ ((1 : Int32) = 1 ∧ ¬ ((0 ≤ a ∧ a ≤ 9) ∧ (0 ≤ b ∧ b ≤ 99))) := by grind
set_option maxHeartbeats 4000000 in
set_option maxRecDepth 100000 in
theorem c_X18_leg (l : Launch) (dC : Nat → ClassId) (dI : Nat → Nat → Nat) (b0 : Nat) (en : EnT) (sz : Nat) (mm stu cla pic act nts isn boa mas pai sol bal leg : Nat) (a b : Int32) : Met l yX18_leg wsX18_leg ({ frames := 5, cells := 1, slots := 10, locals := 127 } : Room) (cP b0 en (dC, dI) [] [(mm, .inr (24, [.int 0, .ref stu, .ref cla, .ref pic, .ref act, .int 5, .int 50, .ref nts, .ref isn, .int 1600, .ref boa, .ref mas, .ref pai, .ref sol, .int 0, .ref bal, .ref leg])), (leg, .inr (5, [.int 0, .ref en.2.2.1, .int 0]))] [] sz (fun _ => True) [.ref mm, .int a, .int b]) (va_Qi (fun (r : Int32) (u : Int32 × List Value) => (u.1 = 0 ∧ r = 1 ∧ (0 ≤ a ∧ a ≤ 9) ∧ (0 ≤ b ∧ b ≤ 99)) ∨ (u.1 = 1 ∧ ¬ ((0 ≤ a ∧ a ≤ 9) ∧ (0 ≤ b ∧ b ≤ 99)))) (fun u t => cB (dC, dI) [] [(mm, .inr (24, .int u.1 :: u.2))] (va_A [(mm, .inr (24, [.int 0, .ref stu, .ref cla, .ref pic, .ref act, .int 5, .int 50, .ref nts, .ref isn, .int 1600, .ref boa, .ref mas, .ref pai, .ref sol, .int 0, .ref bal, .ref leg])), (leg, .inr (5, [.int 0, .ref en.2.2.1, .int 0]))] sz) (fun _ => True) t) (va_A [(mm, .inr (24, [.int 0, .ref stu, .ref cla, .ref pic, .ref act, .int 5, .int 50, .ref nts, .ref isn, .int 1600, .ref boa, .ref mas, .ref pai, .ref sol, .int 0, .ref bal, .ref leg])), (leg, .inr (5, [.int 0, .ref en.2.2.1, .int 0]))] sz)) 1 10 (va_A [(mm, .inr (24, [.int 0, .ref stu, .ref cla, .ref pic, .ref act, .int 5, .int 50, .ref nts, .ref isn, .int 1600, .ref boa, .ref mas, .ref pai, .ref sol, .int 0, .ref bal, .ref leg])), (leg, .inr (5, [.int 0, .ref en.2.2.1, .int 0]))] sz) := by
  refine Met.ofW (cc := cX18_leg) (maxL := 3) (ret := (some .int)) (by decide) rfl ?_
  intro p e s m args below meth c s₁ B hml hv
  obtain ⟨rfl, hsz, hb0, hE, hPP, hK, hDD, hF0⟩ := hv
  have hx := B.exec
  have hb := B.bytes
  have hr := B.returns
  have hts := atoms_spec (ws := wsX18_leg) B.pre
  have hown : s.vm.findClass RX18 = some m.cls := findClass_of_methodNamed B.named
  have hlocks := B.notSynchronized
  subst hsz
  have hN0 := en_N hPP hDD rfl
  have hP : va_P (dC, dI) vwCl [(mm, .inr (24, [.int 0, .ref stu, .ref cla, .ref pic, .ref act, .int 5, .int 50, .ref nts, .ref isn, .int 1600, .ref boa, .ref mas, .ref pai, .ref sol, .int 0, .ref bal, .ref leg])), (leg, .inr (5, [.int 0, .ref en.2.2.1, .int 0]))] s.heap := hPP.sub [0, 1] rfl
  have hR0 : va_P (dC, dI) vwCl [] s.heap := hPP.sub [] rfl
  have hD0 : va_D (fun q => b0 ≤ q) [(mm, .inr (24, [.int 0, .ref stu, .ref cla, .ref pic, .ref act, .int 5, .int 50, .ref nts, .ref isn, .int 1600, .ref boa, .ref mas, .ref pai, .ref sol, .int 0, .ref bal, .ref leg])), (leg, .inr (5, [.int 0, .ref en.2.2.1, .int 0]))] := hDD.sub [0, 1] (by decide) rfl
  have hDr : va_D (fun q => b0 ≤ q) [] := hDD.sub [] (by decide) rfl
  have hAb := en_A (sz := s.heap.size) hD0 hb0
  have hD := hD0.self (sz := s.heap.size)
  generalize hAe : va_A [(mm, .inr (24, [.int 0, .ref stu, .ref cla, .ref pic, .ref act, .int 5, .int 50, .ref nts, .ref isn, .int 1600, .ref boa, .ref mas, .ref pai, .ref sol, .int 0, .ref bal, .ref leg])), (leg, .inr (5, [.int 0, .ref en.2.2.1, .int 0]))] s.heap.size = A at hD hAb hN0 ⊢
  have hA : ∀ q : Nat, s.heap.size ≤ q → A q := fun q h => by rw [← hAe]; exact Or.inr h
  have hS : va_S A s.heap s.heap [] := va_S.rf
  have hR := hR0
  have hl := lv_entry [.ref mm, .int a, .int b] (n := 3) (Nat.le_of_ble_eq_true rfl)
  rw [lg_entry_eq]
  generalize (lg_sl [.ref mm, .int a, .int b] ++ List.replicate (3 - (lg_sl [.ref mm, .int a, .int b]).length) Slot.unset).toArray = ls at hl ⊢
  have hl : lv_has ls 3 [(0, .ref mm), (1, .int a), (2, .int b)] := hl
  refine lv_aload_n hx hb dX18_leg_0 rfl (lv_at hl 0 rfl) ?_
  refine lv_iconst (v := 0) hx hb dX18_leg_1 (by decide) ?_
  refine va_put (D := (dC, dI)) (ci := 24) (v := .int 0) (ty := .int) (C := RX18) (T := TX18) (N := 17) hx hb hts (by decide +kernel) tyX18 tyX18_ok nmX18 hown hK hP hD hS 0 rfl rfl 0 (by decide) (hts (.fieldLink RX18 67 "UnderpaintModel" "code" "I") (by decide +kernel)) (fun _ h9 => h9) rfl (by decide +kernel) rfl rfl (Nat.le_of_ble_eq_true rfl) dX18_leg_2 (fun H locs hP hD hS => ?_)
  have hP : va_P (dC, dI) vwCl [(mm, .inr (24, [.int 0, .ref stu, .ref cla, .ref pic, .ref act, .int 5, .int 50, .ref nts, .ref isn, .int 1600, .ref boa, .ref mas, .ref pai, .ref sol, .int 0, .ref bal, .ref leg])), (leg, .inr (5, [.int 0, .ref en.2.2.1, .int 0]))] H := hP
  have hD : va_D A [(mm, .inr (24, [.int 0, .ref stu, .ref cla, .ref pic, .ref act, .int 5, .int 50, .ref nts, .ref isn, .int 1600, .ref boa, .ref mas, .ref pai, .ref sol, .int 0, .ref bal, .ref leg])), (leg, .inr (5, [.int 0, .ref en.2.2.1, .int 0]))] := hD
  have hR : va_P (dC, dI) vwCl [] H := fun k q h => by simp at h
  refine lv_iload_n hx hb dX18_leg_5 rfl (lv_at hl 1 rfl) ?_
  refine lv_iconst (v := 0) hx hb dX18_leg_6 (by decide) ?_
  refine lv_bipush (v := 9) hx hb dX18_leg_7 (by decide) ?_
  have hPc := (hP.app hR).sub (ws' := [] ++ []) [] rfl
  have hDc := (en_DD hD hDr hN0 hAb).sub (ws' := [] ++ []) [] (by decide) rfl
  have hKc := hK.sub (tys' := []) [] rfl
  have hFc := va_free (wc := []) hD hS hA [] rfl
  refine va_calli (va_runS (As := [.int a, .int 0, .int 9]) (rest := []) ⟨hx, hb, hml, hown, hts⟩ (c_X18_in l dC dI b0 en H.size a 0 9) (va_cwS 3 hts gX18_leg_X18_in rfl rfl rfl (by decide +kernel) ⟨Nat.le_of_ble_eq_true rfl, Nat.le_of_ble_eq_true rfl⟩) ⟨cP.blind, cP.use (en_z hb0 hS) (hE.on hAb hS) hPc hKc hDc trivial⟩ rfl rfl hl.1 rfl (lv_room (Nat.le_of_ble_eq_true rfl)) dX18_leg_9 ⟨Nat.le_of_ble_eq_true rfl, Nat.le_of_ble_eq_true rfl⟩) hS (fun q _ h => hFc q h) hFc (fun r_1 u t H1 locs ht hvm hw hB hz1 hk1 hS => ?_)
  have hP1 : va_P (dC, dI) vwCl [] H1 := fun k q h => by simp at h
  have hD1 : va_D (va_A [] H.size) [] := ⟨fun i j p q h => by simp at h, fun k q h => by simp at h⟩
  try dsimp only at hw
  obtain ⟨hP, hD⟩ := va_join (wr := [(mm, .inr (24, [.int 0, .ref stu, .ref cla, .ref pic, .ref act, .int 5, .int 50, .ref nts, .ref isn, .int 1600, .ref boa, .ref mas, .ref pai, .ref sol, .int 0, .ref bal, .ref leg])), (leg, .inr (5, [.int 0, .ref en.2.2.1, .int 0]))]) (w1 := []) hP hD [] [0, 1] rfl rfl (by decide) (by decide) hk1 hFc hP1 hD1
  generalize H1 = H at hP hS ⊢
  have hP : va_P (dC, dI) vwCl [(mm, .inr (24, [.int 0, .ref stu, .ref cla, .ref pic, .ref act, .int 5, .int 50, .ref nts, .ref isn, .int 1600, .ref boa, .ref mas, .ref pai, .ref sol, .int 0, .ref bal, .ref leg])), (leg, .inr (5, [.int 0, .ref en.2.2.1, .int 0]))] H := hP
  have hD : va_D A [(mm, .inr (24, [.int 0, .ref stu, .ref cla, .ref pic, .ref act, .int 5, .int 50, .ref nts, .ref isn, .int 1600, .ref boa, .ref mas, .ref pai, .ref sol, .int 0, .ref bal, .ref leg])), (leg, .inr (5, [.int 0, .ref en.2.2.1, .int 0]))] := hD
  have hR : va_P (dC, dI) vwCl [] H := fun k q h => by simp at h
  refine W.widen (k := 0) (n := 0) (Nat.le_of_ble_eq_true rfl) (Nat.le_of_ble_eq_true rfl) ?_
  have h_2 := hw
  refine lv_if_eq (tgt := 25) hx hb dX18_leg_12 (by decide) (fun c_3 => ?_) (fun c_3 => ?_)
  · skip
    refine lv_aload_n hx hb dX18_leg_25 rfl (lv_at hl 0 rfl) ?_
    refine lv_iconst (v := 1) hx hb dX18_leg_26 (by decide) ?_
    have hPc := (hP.app hR).sub (ws' := [(mm, .inr (24, .int 0 :: ([.ref stu, .ref cla, .ref pic, .ref act, .int 5, .int 50, .ref nts, .ref isn, .int 1600, .ref boa, .ref mas, .ref pai, .ref sol, .int 0, .ref bal, .ref leg])))] ++ []) [0] rfl
    have hDc := (en_DD hD hDr hN0 hAb).sub (ws' := [(mm, .inr (24, .int 0 :: ([.ref stu, .ref cla, .ref pic, .ref act, .int 5, .int 50, .ref nts, .ref isn, .int 1600, .ref boa, .ref mas, .ref pai, .ref sol, .int 0, .ref bal, .ref leg])))] ++ []) [0] (by decide) rfl
    have hKc := hK.sub (tys' := []) [] rfl
    have hFc := va_free (wc := [(mm, .inr (24, .int 0 :: ([.ref stu, .ref cla, .ref pic, .ref act, .int 5, .int 50, .ref nts, .ref isn, .int 1600, .ref boa, .ref mas, .ref pai, .ref sol, .int 0, .ref bal, .ref leg])))]) hD hS hA [0] rfl
    refine va_calli (va_runV (As := [.int 1]) (rest := []) ⟨hx, hb, hml, hown, hts⟩ (c_X18_fails l dC dI b0 en H.size mm 0 1 ([.ref stu, .ref cla, .ref pic, .ref act, .int 5, .int 50, .ref nts, .ref isn, .int 1600, .ref boa, .ref mas, .ref pai, .ref sol, .int 0, .ref bal, .ref leg])) (cwV 1 hts gX18_leg_X18_fails rfl rfl rfl (by decide +kernel) ⟨Nat.le_of_ble_eq_true rfl, Nat.le_of_ble_eq_true rfl⟩) ⟨cP.blind, va_recv hK hP (ci := 24) (q0 := 0) rfl rfl, cP.use (en_z hb0 hS) (hE.on hAb hS) hPc hKc hDc trivial⟩ rfl rfl hl.1 rfl (lv_room (Nat.le_of_ble_eq_true rfl)) dX18_leg_27 ⟨Nat.le_of_ble_eq_true rfl, Nat.le_of_ble_eq_true rfl⟩) hS (fun q _ h => hFc q h) hFc (fun r_4 u t H1 locs ht hvm hw hB hz1 hk1 hS => ?_)
    obtain ⟨hP1, hK1, hD1, hF1⟩ := hB
    rw [ht] at hP1
    try rw [ht] at hF1
    have hK1 := va_K.moved hvm.symm hK1
    try dsimp only at hw
    obtain ⟨hP, hD⟩ := va_join (wr := [(leg, .inr (5, [.int 0, .ref en.2.2.1, .int 0]))]) (w1 := [(mm, .inr (24, [.int 1, .ref stu, .ref cla, .ref pic, .ref act, .int 5, .int 50, .ref nts, .ref isn, .int 1600, .ref boa, .ref mas, .ref pai, .ref sol, .int 0, .ref bal, .ref leg]))]) hP hD [0] [1] rfl rfl (by decide) (by decide) hk1 hFc hP1 hD1
    generalize H1 = H at hP hS ⊢
    have hP : va_P (dC, dI) vwCl [(leg, .inr (5, [.int 0, .ref en.2.2.1, .int 0])), (mm, .inr (24, [.int 1, .ref stu, .ref cla, .ref pic, .ref act, .int 5, .int 50, .ref nts, .ref isn, .int 1600, .ref boa, .ref mas, .ref pai, .ref sol, .int 0, .ref bal, .ref leg]))] H := hP
    have hD : va_D A [(leg, .inr (5, [.int 0, .ref en.2.2.1, .int 0])), (mm, .inr (24, [.int 1, .ref stu, .ref cla, .ref pic, .ref act, .int 5, .int 50, .ref nts, .ref isn, .int 1600, .ref boa, .ref mas, .ref pai, .ref sol, .int 0, .ref bal, .ref leg]))] := hD
    have hR : va_P (dC, dI) vwCl [] H := fun k q h => by simp at h
    refine W.widen (k := 0) (n := 0) (Nat.le_of_ble_eq_true rfl) (Nat.le_of_ble_eq_true rfl) ?_
    subst r_4
    refine W.widen (k := 1) (n := 10) (Nat.le_of_ble_eq_true rfl) (Nat.le_of_ble_eq_true rfl) ?_
    exact W.iret (v := 0) hx hb hr (fun t ht hW => ⟨⟨0, ⟨1, [.ref stu, .ref cla, .ref pic, .ref act, .int 5, .int 50, .ref nts, .ref isn, .int 1600, .ref boa, .ref mas, .ref pai, .ref sol, .int 0, .ref bal, .ref leg]⟩, rfl, (z_c_X18_leg_139 a b r_1 h_2 c_3), cB.mk ht hW (hP.sub [1] rfl) (hK.sub [] rfl) (hD.sub [1] (by decide) rfl) (trivial)⟩, hS.F ht⟩) hS.2.2 dX18_leg_30
  · skip
    refine lv_iload_n hx hb dX18_leg_15 rfl (lv_at hl 2 rfl) ?_
    refine lv_iconst (v := 0) hx hb dX18_leg_16 (by decide) ?_
    refine lv_bipush (v := 99) hx hb dX18_leg_17 (by decide) ?_
    have hPc := (hP.app hR).sub (ws' := [] ++ []) [] rfl
    have hDc := (en_DD hD hDr hN0 hAb).sub (ws' := [] ++ []) [] (by decide) rfl
    have hKc := hK.sub (tys' := []) [] rfl
    have hFc := va_free (wc := []) hD hS hA [] rfl
    refine va_calli (va_runS (As := [.int b, .int 0, .int 99]) (rest := []) ⟨hx, hb, hml, hown, hts⟩ (c_X18_in l dC dI b0 en H.size b 0 99) (va_cwS 3 hts gX18_leg_X18_in rfl rfl rfl (by decide +kernel) ⟨Nat.le_of_ble_eq_true rfl, Nat.le_of_ble_eq_true rfl⟩) ⟨cP.blind, cP.use (en_z hb0 hS) (hE.on hAb hS) hPc hKc hDc trivial⟩ rfl rfl hl.1 rfl (lv_room (Nat.le_of_ble_eq_true rfl)) dX18_leg_19 ⟨Nat.le_of_ble_eq_true rfl, Nat.le_of_ble_eq_true rfl⟩) hS (fun q _ h => hFc q h) hFc (fun r_5 u t H1 locs ht hvm hw hB hz1 hk1 hS => ?_)
    have hP1 : va_P (dC, dI) vwCl [] H1 := fun k q h => by simp at h
    have hD1 : va_D (va_A [] H.size) [] := ⟨fun i j p q h => by simp at h, fun k q h => by simp at h⟩
    try dsimp only at hw
    obtain ⟨hP, hD⟩ := va_join (wr := [(mm, .inr (24, [.int 0, .ref stu, .ref cla, .ref pic, .ref act, .int 5, .int 50, .ref nts, .ref isn, .int 1600, .ref boa, .ref mas, .ref pai, .ref sol, .int 0, .ref bal, .ref leg])), (leg, .inr (5, [.int 0, .ref en.2.2.1, .int 0]))]) (w1 := []) hP hD [] [0, 1] rfl rfl (by decide) (by decide) hk1 hFc hP1 hD1
    generalize H1 = H at hP hS ⊢
    have hP : va_P (dC, dI) vwCl [(mm, .inr (24, [.int 0, .ref stu, .ref cla, .ref pic, .ref act, .int 5, .int 50, .ref nts, .ref isn, .int 1600, .ref boa, .ref mas, .ref pai, .ref sol, .int 0, .ref bal, .ref leg])), (leg, .inr (5, [.int 0, .ref en.2.2.1, .int 0]))] H := hP
    have hD : va_D A [(mm, .inr (24, [.int 0, .ref stu, .ref cla, .ref pic, .ref act, .int 5, .int 50, .ref nts, .ref isn, .int 1600, .ref boa, .ref mas, .ref pai, .ref sol, .int 0, .ref bal, .ref leg])), (leg, .inr (5, [.int 0, .ref en.2.2.1, .int 0]))] := hD
    have hR : va_P (dC, dI) vwCl [] H := fun k q h => by simp at h
    refine W.widen (k := 0) (n := 0) (Nat.le_of_ble_eq_true rfl) (Nat.le_of_ble_eq_true rfl) ?_
    have h_6 := hw
    refine lv_if_ne (tgt := 31) hx hb dX18_leg_22 (by decide) (fun c_7 => ?_) (fun c_7 => ?_)
    · skip
      refine lv_aload_n hx hb dX18_leg_31 rfl (lv_at hl 0 rfl) ?_
      refine va_get (D := (dC, dI)) (ci := 24) (v := .ref leg) (C := RX18) (T := TX18) (N := 17) hx hb hts (by decide +kernel) hown hK hP 0 rfl rfl 16 (by decide) (hts (.fieldLink RX18 64 "UnderpaintModel" "legs" "Ljava/util/List;") (by decide +kernel)) (fun _ h9 => h9) rfl dX18_leg_32 ?_
      have hPc := (hP.app hR).sub (ws' := [] ++ [(leg, .inr (5, [.int 0, .ref en.2.2.1, .int 0]))]) [1] rfl
      have hDc := (en_DD hD hDr hN0 hAb).sub (ws' := [] ++ [(leg, .inr (5, [.int 0, .ref en.2.2.1, .int 0]))]) [1] (by decide) rfl
      have hKc := hK.sub (tys' := []) [] rfl
      have hFc := va_free (wc := []) hD hS hA [] rfl
      refine va_callFi (va_runF (As := []) (rest := []) (hK.1 5 _ rfl).2 ⟨hx, hb, hml, hown, hts⟩ (c_Jx4a65c_size l dC dI b0 en H.size leg en.2.2.1 0 0) (va_cwF 0 hts gX18_leg_Jx4a65c_size_8abf5_f74Jx4a65c rfl rfl rfl (hE.face ("java/util/ArrayList", ⟨"java/util/List", "size", "()I"⟩, ⟨"java/util/ArrayList", "size", "()I"⟩) (by decide +kernel)) (by decide +kernel) ⟨Nat.le_of_ble_eq_true rfl, Nat.le_of_ble_eq_true rfl⟩) ⟨cP.blind, va_recv hK hP (ci := 5) (q0 := 1) rfl rfl, cP.use (en_z hb0 hS) (hE.on hAb hS) hPc hKc hDc trivial⟩ rfl rfl hl.1 rfl (lv_room (Nat.le_of_ble_eq_true rfl)) dX18_leg_35 ⟨Nat.le_of_ble_eq_true rfl, Nat.le_of_ble_eq_true rfl⟩) hS (fun q _ h => hFc q h) hFc (fun r_8 u t H1 locs ht hvm hw hB hz1 hk1 hS => ?_)
      have hP1 : va_P (dC, dI) vwCl [] H1 := fun k q h => by simp at h
      have hD1 : va_D (va_A [] H.size) [] := ⟨fun i j p q h => by simp at h, fun k q h => by simp at h⟩
      try dsimp only at hw
      obtain ⟨hP, hD⟩ := va_join (wr := [(mm, .inr (24, [.int 0, .ref stu, .ref cla, .ref pic, .ref act, .int 5, .int 50, .ref nts, .ref isn, .int 1600, .ref boa, .ref mas, .ref pai, .ref sol, .int 0, .ref bal, .ref leg])), (leg, .inr (5, [.int 0, .ref en.2.2.1, .int 0]))]) (w1 := []) hP hD [] [0, 1] rfl rfl (by decide) (by decide) hk1 hFc hP1 hD1
      generalize H1 = H at hP hS ⊢
      have hP : va_P (dC, dI) vwCl [(mm, .inr (24, [.int 0, .ref stu, .ref cla, .ref pic, .ref act, .int 5, .int 50, .ref nts, .ref isn, .int 1600, .ref boa, .ref mas, .ref pai, .ref sol, .int 0, .ref bal, .ref leg])), (leg, .inr (5, [.int 0, .ref en.2.2.1, .int 0]))] H := hP
      have hD : va_D A [(mm, .inr (24, [.int 0, .ref stu, .ref cla, .ref pic, .ref act, .int 5, .int 50, .ref nts, .ref isn, .int 1600, .ref boa, .ref mas, .ref pai, .ref sol, .int 0, .ref bal, .ref leg])), (leg, .inr (5, [.int 0, .ref en.2.2.1, .int 0]))] := hD
      have hR : va_P (dC, dI) vwCl [] H := fun k q h => by simp at h
      refine W.widen (k := 0) (n := 0) (Nat.le_of_ble_eq_true rfl) (Nat.le_of_ble_eq_true rfl) ?_
      subst r_8
      refine lv_bipush (v := 16) hx hb dX18_leg_40 (by decide) ?_
      refine lv_icmp_ne (tgt := 51) hx hb dX18_leg_42 (by decide) (fun c_9 => ?_) (fun c_9 => absurd c_9 (by decide))
      refine lv_aload_n hx hb dX18_leg_51 rfl (lv_at hl 0 rfl) ?_
      refine va_get (D := (dC, dI)) (ci := 24) (v := .ref leg) (C := RX18) (T := TX18) (N := 17) hx hb hts (by decide +kernel) hown hK hP 0 rfl rfl 16 (by decide) (hts (.fieldLink RX18 64 "UnderpaintModel" "legs" "Ljava/util/List;") (by decide +kernel)) (fun _ h9 => h9) rfl dX18_leg_52 ?_
      refine lv_iload_n hx hb dX18_leg_55 rfl (lv_at hl 1 rfl) ?_
      have hPc := (hP.app hR).sub (ws' := [] ++ []) [] rfl
      have hDc := (en_DD hD hDr hN0 hAb).sub (ws' := [] ++ []) [] (by decide) rfl
      have hKc := hK.sub (tys' := []) [] rfl
      have hFc := va_free (wc := []) hD hS hA [] rfl
      refine va_callq (va_runS (As := [.int a]) (rest := [.ref leg]) ⟨hx, hb, hml, hown, hts⟩ (c_valueOf l dC dI b0 en H.size a (z_c_X18_leg_140 a b r_1 r_5 h_2 c_3 h_6 c_7) (z_c_X18_leg_141 a b r_1 r_5 h_2 c_3 h_6 c_7)) (va_cwS 1 hts gX18_leg_J6_valueOf_2dffe rfl rfl rfl (by decide +kernel) ⟨Nat.le_of_ble_eq_true rfl, Nat.le_of_ble_eq_true rfl⟩) ⟨cP.blind, cP.use (en_z hb0 hS) (hE.on hAb hS) hPc hKc hDc trivial⟩ rfl rfl hl.1 rfl (lv_room (Nat.le_of_ble_eq_true rfl)) dX18_leg_56 ⟨Nat.le_of_ble_eq_true rfl, Nat.le_of_ble_eq_true rfl⟩) hS (fun q _ h => hFc q h) hFc (fun r_10 u t H1 locs ht hvm hw hB hz1 hk1 hS => ?_)
      have hP1 : va_P (dC, dI) vwCl [] H1 := fun k q h => by simp at h
      have hD1 : va_D (va_A [] H.size) [] := ⟨fun i j p q h => by simp at h, fun k q h => by simp at h⟩
      try dsimp only at hw
      obtain ⟨hP, hD⟩ := va_join (wr := [(mm, .inr (24, [.int 0, .ref stu, .ref cla, .ref pic, .ref act, .int 5, .int 50, .ref nts, .ref isn, .int 1600, .ref boa, .ref mas, .ref pai, .ref sol, .int 0, .ref bal, .ref leg])), (leg, .inr (5, [.int 0, .ref en.2.2.1, .int 0]))]) (w1 := []) hP hD [] [0, 1] rfl rfl (by decide) (by decide) hk1 hFc hP1 hD1
      generalize H1 = H at hP hS ⊢
      have hP : va_P (dC, dI) vwCl [(mm, .inr (24, [.int 0, .ref stu, .ref cla, .ref pic, .ref act, .int 5, .int 50, .ref nts, .ref isn, .int 1600, .ref boa, .ref mas, .ref pai, .ref sol, .int 0, .ref bal, .ref leg])), (leg, .inr (5, [.int 0, .ref en.2.2.1, .int 0]))] H := hP
      have hD : va_D A [(mm, .inr (24, [.int 0, .ref stu, .ref cla, .ref pic, .ref act, .int 5, .int 50, .ref nts, .ref isn, .int 1600, .ref boa, .ref mas, .ref pai, .ref sol, .int 0, .ref bal, .ref leg])), (leg, .inr (5, [.int 0, .ref en.2.2.1, .int 0]))] := hD
      have hR : va_P (dC, dI) vwCl [] H := fun k q h => by simp at h
      refine W.widen (k := 0) (n := 0) (Nat.le_of_ble_eq_true rfl) (Nat.le_of_ble_eq_true rfl) ?_
      subst r_10
      have hPc := (hP.app hR).sub (ws' := [(leg, .inr (5, [.int 0, .ref en.2.2.1, .int 0]))] ++ []) [1] rfl
      have hDc := (en_DD hD hDr hN0 hAb).sub (ws' := [(leg, .inr (5, [.int 0, .ref en.2.2.1, .int 0]))] ++ []) [1] (by decide) rfl
      have hKc := hK.sub (tys' := []) [] rfl
      have hFc := va_free (wc := [(leg, .inr (5, [.int 0, .ref en.2.2.1, .int 0]))]) hD hS hA [1] rfl
      refine va_callFi (va_runF (As := [.ref (en.2.2.2 (3 + (nC a)))]) (rest := []) (hK.1 5 _ rfl).2 ⟨hx, hb, hml, hown, hts⟩ (c_addi l dC dI b0 en H.size leg (nC a) (nC_lt (z_c_X18_leg_140 a b r_1 r_5 h_2 c_3 h_6 c_7) (z_c_X18_leg_141 a b r_1 r_5 h_2 c_3 h_6 c_7))) (va_cwF 1 hts gX18_leg_Jx4a65c_add_9ea2d_f96Jx4a65c rfl rfl rfl (hE.face ("java/util/ArrayList", ⟨"java/util/List", "add", "(Ljava/lang/Object;)Z"⟩, ⟨"java/util/ArrayList", "add", "(Ljava/lang/Object;)Z"⟩) (by decide +kernel)) (by decide +kernel) ⟨Nat.le_of_ble_eq_true rfl, Nat.le_of_ble_eq_true rfl⟩) ⟨cP.blind, va_recv hK hP (ci := 5) (q0 := 1) rfl rfl, cP.use (en_z hb0 hS) (hE.on hAb hS) hPc hKc hDc trivial⟩ rfl rfl hl.1 rfl (lv_room (Nat.le_of_ble_eq_true rfl)) dX18_leg_59 ⟨Nat.le_of_ble_eq_true rfl, Nat.le_of_ble_eq_true rfl⟩) hS (fun q _ h => hFc q h) hFc (fun r_12 u_11 t H1 locs ht hvm hw hB hz1 hk1 hS => ?_)
      obtain ⟨hP1, hK1, hD1, hF1⟩ := hB
      rw [ht] at hP1
      try rw [ht] at hF1
      have hK1 := va_K.moved hvm.symm hK1
      try dsimp only at hw
      obtain ⟨hP, hD⟩ := va_join (wr := [(mm, .inr (24, [.int 0, .ref stu, .ref cla, .ref pic, .ref act, .int 5, .int 50, .ref nts, .ref isn, .int 1600, .ref boa, .ref mas, .ref pai, .ref sol, .int 0, .ref bal, .ref leg]))]) (w1 := [(leg, .inr (5, [.int 1, .ref u_11.1, .int 1])), (u_11.1, .inl (u_11.2.1, 10, .inr (.inr (.inr (.inr u_11.2.2)))))]) hP hD [1] [0] rfl rfl (by decide) (by decide) hk1 hFc hP1 hD1
      have hK := hK.app hK1
      generalize H1 = H at hP hS ⊢
      have hP : va_P (dC, dI) vwCl [(mm, .inr (24, [.int 0, .ref stu, .ref cla, .ref pic, .ref act, .int 5, .int 50, .ref nts, .ref isn, .int 1600, .ref boa, .ref mas, .ref pai, .ref sol, .int 0, .ref bal, .ref leg])), (leg, .inr (5, [.int 1, .ref u_11.1, .int 1])), (u_11.1, .inl (u_11.2.1, 10, .inr (.inr (.inr (.inr u_11.2.2)))))] H := hP
      have hD : va_D A [(mm, .inr (24, [.int 0, .ref stu, .ref cla, .ref pic, .ref act, .int 5, .int 50, .ref nts, .ref isn, .int 1600, .ref boa, .ref mas, .ref pai, .ref sol, .int 0, .ref bal, .ref leg])), (leg, .inr (5, [.int 1, .ref u_11.1, .int 1])), (u_11.1, .inl (u_11.2.1, 10, .inr (.inr (.inr (.inr u_11.2.2)))))] := hD
      have hR : va_P (dC, dI) vwCl [] H := fun k q h => by simp at h
      refine W.widen (k := 1) (n := 10) (Nat.le_of_ble_eq_true rfl) (Nat.le_of_ble_eq_true rfl) ?_
      subst r_12
      refine lv_pop hx hb dX18_leg_64 rfl ?_
      refine lv_aload_n hx hb dX18_leg_65 rfl (lv_at hl 0 rfl) ?_
      refine va_get (D := (dC, dI)) (ci := 24) (v := .ref leg) (C := RX18) (T := TX18) (N := 17) hx hb hts (by decide +kernel) hown hK hP 0 rfl rfl 16 (by decide) (hts (.fieldLink RX18 64 "UnderpaintModel" "legs" "Ljava/util/List;") (by decide +kernel)) (fun _ h9 => h9) rfl dX18_leg_66 ?_
      refine lv_iload_n hx hb dX18_leg_69 rfl (lv_at hl 2 rfl) ?_
      have hPc := (hP.app hR).sub (ws' := [] ++ []) [] rfl
      have hDc := (en_DD hD hDr hN0 hAb).sub (ws' := [] ++ []) [] (by decide) rfl
      have hKc := hK.sub (tys' := []) [] rfl
      have hFc := va_free (wc := []) hD hS hA [] rfl
      refine va_callq (va_runS (As := [.int b]) (rest := [.ref leg]) ⟨hx, hb, hml, hown, hts⟩ (c_valueOf l dC dI b0 en H.size b (z_c_X18_leg_142 a b r_1 r_5 h_2 c_3 h_6 c_7) (z_c_X18_leg_143 a b r_1 r_5 h_2 c_3 h_6 c_7)) (va_cwS 1 hts gX18_leg_J6_valueOf_2dffe rfl rfl rfl (by decide +kernel) ⟨Nat.le_of_ble_eq_true rfl, Nat.le_of_ble_eq_true rfl⟩) ⟨cP.blind, cP.use (en_z hb0 hS) (hE.on hAb hS) hPc hKc hDc trivial⟩ rfl rfl hl.1 rfl (lv_room (Nat.le_of_ble_eq_true rfl)) dX18_leg_70 ⟨Nat.le_of_ble_eq_true rfl, Nat.le_of_ble_eq_true rfl⟩) hS (fun q _ h => hFc q h) hFc (fun r_13 u t H1 locs ht hvm hw hB hz1 hk1 hS => ?_)
      have hP1 : va_P (dC, dI) vwCl [] H1 := fun k q h => by simp at h
      have hD1 : va_D (va_A [] H.size) [] := ⟨fun i j p q h => by simp at h, fun k q h => by simp at h⟩
      try dsimp only at hw
      obtain ⟨hP, hD⟩ := va_join (wr := [(mm, .inr (24, [.int 0, .ref stu, .ref cla, .ref pic, .ref act, .int 5, .int 50, .ref nts, .ref isn, .int 1600, .ref boa, .ref mas, .ref pai, .ref sol, .int 0, .ref bal, .ref leg])), (leg, .inr (5, [.int 1, .ref u_11.1, .int 1])), (u_11.1, .inl (u_11.2.1, 10, .inr (.inr (.inr (.inr u_11.2.2)))))]) (w1 := []) hP hD [] [0, 1, 2] rfl rfl (by decide) (by decide) hk1 hFc hP1 hD1
      generalize H1 = H at hP hS ⊢
      have hP : va_P (dC, dI) vwCl [(mm, .inr (24, [.int 0, .ref stu, .ref cla, .ref pic, .ref act, .int 5, .int 50, .ref nts, .ref isn, .int 1600, .ref boa, .ref mas, .ref pai, .ref sol, .int 0, .ref bal, .ref leg])), (leg, .inr (5, [.int 1, .ref u_11.1, .int 1])), (u_11.1, .inl (u_11.2.1, 10, .inr (.inr (.inr (.inr u_11.2.2)))))] H := hP
      have hD : va_D A [(mm, .inr (24, [.int 0, .ref stu, .ref cla, .ref pic, .ref act, .int 5, .int 50, .ref nts, .ref isn, .int 1600, .ref boa, .ref mas, .ref pai, .ref sol, .int 0, .ref bal, .ref leg])), (leg, .inr (5, [.int 1, .ref u_11.1, .int 1])), (u_11.1, .inl (u_11.2.1, 10, .inr (.inr (.inr (.inr u_11.2.2)))))] := hD
      have hR : va_P (dC, dI) vwCl [] H := fun k q h => by simp at h
      refine W.widen (k := 1) (n := 10) (Nat.le_of_ble_eq_true rfl) (Nat.le_of_ble_eq_true rfl) ?_
      subst r_13
      have hPc := (hP.app hR).sub (ws' := [(leg, .inr (5, [.int 1, .ref u_11.1, .int 1])), (u_11.1, .inl (u_11.2.1, 10, .inr (.inr (.inr (.inr u_11.2.2)))))] ++ []) [1, 2] rfl
      have hDc := (en_DD hD hDr hN0 hAb).sub (ws' := [(leg, .inr (5, [.int 1, .ref u_11.1, .int 1])), (u_11.1, .inl (u_11.2.1, 10, .inr (.inr (.inr (.inr u_11.2.2)))))] ++ []) [1, 2] (by decide) rfl
      have hKc := hK.sub (tys' := [(u_11.2.1, .object "java/lang/Object")]) [0] rfl
      have hFc := va_free (wc := [(leg, .inr (5, [.int 1, .ref u_11.1, .int 1])), (u_11.1, .inl (u_11.2.1, 10, .inr (.inr (.inr (.inr u_11.2.2)))))]) hD hS hA [1, 2] rfl
      refine va_callFi (va_runF (As := [.ref (en.2.2.2 (3 + (nC b)))]) (rest := []) (hK.1 5 _ rfl).2 ⟨hx, hb, hml, hown, hts⟩ (c_addi2 l dC dI b0 en H.size leg u_11.1 u_11.2.1 u_11.2.2 (nC b) (nC_lt (z_c_X18_leg_142 a b r_1 r_5 h_2 c_3 h_6 c_7) (z_c_X18_leg_143 a b r_1 r_5 h_2 c_3 h_6 c_7))) (va_cwF 1 hts gX18_leg_Jx4a65c_add_9ea2d_f96Jx4a65c rfl rfl rfl (hE.face ("java/util/ArrayList", ⟨"java/util/List", "add", "(Ljava/lang/Object;)Z"⟩, ⟨"java/util/ArrayList", "add", "(Ljava/lang/Object;)Z"⟩) (by decide +kernel)) (by decide +kernel) ⟨Nat.le_of_ble_eq_true rfl, Nat.le_of_ble_eq_true rfl⟩) ⟨cP.blind, va_recv hK hP (ci := 5) (q0 := 1) rfl rfl, cP.use (en_z hb0 hS) (hE.on hAb hS) hPc hKc hDc trivial⟩ rfl rfl hl.1 rfl (lv_room (Nat.le_of_ble_eq_true rfl)) dX18_leg_73 ⟨Nat.le_of_ble_eq_true rfl, Nat.le_of_ble_eq_true rfl⟩) hS (fun q _ h => hFc q h) hFc (fun r_15 u_14 t H1 locs ht hvm hw hB hz1 hk1 hS => ?_)
      obtain ⟨hP1, hK1, hD1, hF1⟩ := hB
      rw [ht] at hP1
      try rw [ht] at hF1
      have hK1 := va_K.moved hvm.symm hK1
      try dsimp only at hw
      obtain ⟨hP, hD⟩ := va_join (wr := [(mm, .inr (24, [.int 0, .ref stu, .ref cla, .ref pic, .ref act, .int 5, .int 50, .ref nts, .ref isn, .int 1600, .ref boa, .ref mas, .ref pai, .ref sol, .int 0, .ref bal, .ref leg]))]) (w1 := [(leg, .inr (5, [.int 2, .ref u_11.1, .int 2])), (u_11.1, .inl (u_11.2.1, 10, .inr (.inr (.inr (.inr u_14)))))]) hP hD [1, 2] [0] rfl rfl (by decide) (by decide) hk1 hFc hP1 hD1
      generalize H1 = H at hP hS ⊢
      have hP : va_P (dC, dI) vwCl [(mm, .inr (24, [.int 0, .ref stu, .ref cla, .ref pic, .ref act, .int 5, .int 50, .ref nts, .ref isn, .int 1600, .ref boa, .ref mas, .ref pai, .ref sol, .int 0, .ref bal, .ref leg])), (leg, .inr (5, [.int 2, .ref u_11.1, .int 2])), (u_11.1, .inl (u_11.2.1, 10, .inr (.inr (.inr (.inr u_14)))))] H := hP
      have hD : va_D A [(mm, .inr (24, [.int 0, .ref stu, .ref cla, .ref pic, .ref act, .int 5, .int 50, .ref nts, .ref isn, .int 1600, .ref boa, .ref mas, .ref pai, .ref sol, .int 0, .ref bal, .ref leg])), (leg, .inr (5, [.int 2, .ref u_11.1, .int 2])), (u_11.1, .inl (u_11.2.1, 10, .inr (.inr (.inr (.inr u_14)))))] := hD
      have hR : va_P (dC, dI) vwCl [] H := fun k q h => by simp at h
      refine W.widen (k := 1) (n := 10) (Nat.le_of_ble_eq_true rfl) (Nat.le_of_ble_eq_true rfl) ?_
      subst r_15
      refine lv_pop hx hb dX18_leg_78 rfl ?_
      refine lv_aload_n hx hb dX18_leg_79 rfl (lv_at hl 0 rfl) ?_
      refine va_get (D := (dC, dI)) (ci := 24) (v := .ref leg) (C := RX18) (T := TX18) (N := 17) hx hb hts (by decide +kernel) hown hK hP 0 rfl rfl 16 (by decide) (hts (.fieldLink RX18 64 "UnderpaintModel" "legs" "Ljava/util/List;") (by decide +kernel)) (fun _ h9 => h9) rfl dX18_leg_80 ?_
      have hPc := (hP.app hR).sub (ws' := [] ++ [(leg, .inr (5, [.int 2, .ref u_11.1, .int 2]))]) [1] rfl
      have hDc := (en_DD hD hDr hN0 hAb).sub (ws' := [] ++ [(leg, .inr (5, [.int 2, .ref u_11.1, .int 2]))]) [1] (by decide) rfl
      have hKc := hK.sub (tys' := []) [] rfl
      have hFc := va_free (wc := []) hD hS hA [] rfl
      refine va_callFi (va_runF (As := []) (rest := []) (hK.1 5 _ rfl).2 ⟨hx, hb, hml, hown, hts⟩ (c_Jx4a65c_size l dC dI b0 en H.size leg u_11.1 2 2) (va_cwF 0 hts gX18_leg_Jx4a65c_size_8abf5_f74Jx4a65c rfl rfl rfl (hE.face ("java/util/ArrayList", ⟨"java/util/List", "size", "()I"⟩, ⟨"java/util/ArrayList", "size", "()I"⟩) (by decide +kernel)) (by decide +kernel) ⟨Nat.le_of_ble_eq_true rfl, Nat.le_of_ble_eq_true rfl⟩) ⟨cP.blind, va_recv hK hP (ci := 5) (q0 := 1) rfl rfl, cP.use (en_z hb0 hS) (hE.on hAb hS) hPc hKc hDc trivial⟩ rfl rfl hl.1 rfl (lv_room (Nat.le_of_ble_eq_true rfl)) dX18_leg_83 ⟨Nat.le_of_ble_eq_true rfl, Nat.le_of_ble_eq_true rfl⟩) hS (fun q _ h => hFc q h) hFc (fun r_16 u t H1 locs ht hvm hw hB hz1 hk1 hS => ?_)
      have hP1 : va_P (dC, dI) vwCl [] H1 := fun k q h => by simp at h
      have hD1 : va_D (va_A [] H.size) [] := ⟨fun i j p q h => by simp at h, fun k q h => by simp at h⟩
      try dsimp only at hw
      obtain ⟨hP, hD⟩ := va_join (wr := [(mm, .inr (24, [.int 0, .ref stu, .ref cla, .ref pic, .ref act, .int 5, .int 50, .ref nts, .ref isn, .int 1600, .ref boa, .ref mas, .ref pai, .ref sol, .int 0, .ref bal, .ref leg])), (leg, .inr (5, [.int 2, .ref u_11.1, .int 2])), (u_11.1, .inl (u_11.2.1, 10, .inr (.inr (.inr (.inr u_14)))))]) (w1 := []) hP hD [] [0, 1, 2] rfl rfl (by decide) (by decide) hk1 hFc hP1 hD1
      generalize H1 = H at hP hS ⊢
      have hP : va_P (dC, dI) vwCl [(mm, .inr (24, [.int 0, .ref stu, .ref cla, .ref pic, .ref act, .int 5, .int 50, .ref nts, .ref isn, .int 1600, .ref boa, .ref mas, .ref pai, .ref sol, .int 0, .ref bal, .ref leg])), (leg, .inr (5, [.int 2, .ref u_11.1, .int 2])), (u_11.1, .inl (u_11.2.1, 10, .inr (.inr (.inr (.inr u_14)))))] H := hP
      have hD : va_D A [(mm, .inr (24, [.int 0, .ref stu, .ref cla, .ref pic, .ref act, .int 5, .int 50, .ref nts, .ref isn, .int 1600, .ref boa, .ref mas, .ref pai, .ref sol, .int 0, .ref bal, .ref leg])), (leg, .inr (5, [.int 2, .ref u_11.1, .int 2])), (u_11.1, .inl (u_11.2.1, 10, .inr (.inr (.inr (.inr u_14)))))] := hD
      have hR : va_P (dC, dI) vwCl [] H := fun k q h => by simp at h
      refine W.widen (k := 1) (n := 10) (Nat.le_of_ble_eq_true rfl) (Nat.le_of_ble_eq_true rfl) ?_
      subst r_16
      refine lv_iconst (v := 2) hx hb dX18_leg_88 (by decide) ?_
      refine lv_idiv hx hb dX18_leg_89 (by decide) ?_
      refine lv_topi (fun x_17 ex_17 => ?_)
      obtain rfl : x_17 = 1 := ex_17.trans (by decide)
      refine W.widen (k := 1) (n := 10) (Nat.le_of_ble_eq_true rfl) (Nat.le_of_ble_eq_true rfl) ?_
      exact W.iret (v := 1) hx hb hr (fun t ht hW => ⟨⟨1, ⟨0, [.ref stu, .ref cla, .ref pic, .ref act, .int 5, .int 50, .ref nts, .ref isn, .int 1600, .ref boa, .ref mas, .ref pai, .ref sol, .int 0, .ref bal, .ref leg]⟩, rfl, (z_c_X18_leg_144 a b r_1 r_5 h_2 c_3 h_6 c_7), cB.mk ht hW (hP.sub [0] rfl) (hK.sub [] rfl) (hD.sub [0] (by decide) rfl) (trivial)⟩, hS.F ht⟩) hS.2.2 dX18_leg_90
    · skip
      refine lv_aload_n hx hb dX18_leg_25 rfl (lv_at hl 0 rfl) ?_
      refine lv_iconst (v := 1) hx hb dX18_leg_26 (by decide) ?_
      have hPc := (hP.app hR).sub (ws' := [(mm, .inr (24, .int 0 :: ([.ref stu, .ref cla, .ref pic, .ref act, .int 5, .int 50, .ref nts, .ref isn, .int 1600, .ref boa, .ref mas, .ref pai, .ref sol, .int 0, .ref bal, .ref leg])))] ++ []) [0] rfl
      have hDc := (en_DD hD hDr hN0 hAb).sub (ws' := [(mm, .inr (24, .int 0 :: ([.ref stu, .ref cla, .ref pic, .ref act, .int 5, .int 50, .ref nts, .ref isn, .int 1600, .ref boa, .ref mas, .ref pai, .ref sol, .int 0, .ref bal, .ref leg])))] ++ []) [0] (by decide) rfl
      have hKc := hK.sub (tys' := []) [] rfl
      have hFc := va_free (wc := [(mm, .inr (24, .int 0 :: ([.ref stu, .ref cla, .ref pic, .ref act, .int 5, .int 50, .ref nts, .ref isn, .int 1600, .ref boa, .ref mas, .ref pai, .ref sol, .int 0, .ref bal, .ref leg])))]) hD hS hA [0] rfl
      refine va_calli (va_runV (As := [.int 1]) (rest := []) ⟨hx, hb, hml, hown, hts⟩ (c_X18_fails l dC dI b0 en H.size mm 0 1 ([.ref stu, .ref cla, .ref pic, .ref act, .int 5, .int 50, .ref nts, .ref isn, .int 1600, .ref boa, .ref mas, .ref pai, .ref sol, .int 0, .ref bal, .ref leg])) (cwV 1 hts gX18_leg_X18_fails rfl rfl rfl (by decide +kernel) ⟨Nat.le_of_ble_eq_true rfl, Nat.le_of_ble_eq_true rfl⟩) ⟨cP.blind, va_recv hK hP (ci := 24) (q0 := 0) rfl rfl, cP.use (en_z hb0 hS) (hE.on hAb hS) hPc hKc hDc trivial⟩ rfl rfl hl.1 rfl (lv_room (Nat.le_of_ble_eq_true rfl)) dX18_leg_27 ⟨Nat.le_of_ble_eq_true rfl, Nat.le_of_ble_eq_true rfl⟩) hS (fun q _ h => hFc q h) hFc (fun r_18 u t H1 locs ht hvm hw hB hz1 hk1 hS => ?_)
      obtain ⟨hP1, hK1, hD1, hF1⟩ := hB
      rw [ht] at hP1
      try rw [ht] at hF1
      have hK1 := va_K.moved hvm.symm hK1
      try dsimp only at hw
      obtain ⟨hP, hD⟩ := va_join (wr := [(leg, .inr (5, [.int 0, .ref en.2.2.1, .int 0]))]) (w1 := [(mm, .inr (24, [.int 1, .ref stu, .ref cla, .ref pic, .ref act, .int 5, .int 50, .ref nts, .ref isn, .int 1600, .ref boa, .ref mas, .ref pai, .ref sol, .int 0, .ref bal, .ref leg]))]) hP hD [0] [1] rfl rfl (by decide) (by decide) hk1 hFc hP1 hD1
      generalize H1 = H at hP hS ⊢
      have hP : va_P (dC, dI) vwCl [(leg, .inr (5, [.int 0, .ref en.2.2.1, .int 0])), (mm, .inr (24, [.int 1, .ref stu, .ref cla, .ref pic, .ref act, .int 5, .int 50, .ref nts, .ref isn, .int 1600, .ref boa, .ref mas, .ref pai, .ref sol, .int 0, .ref bal, .ref leg]))] H := hP
      have hD : va_D A [(leg, .inr (5, [.int 0, .ref en.2.2.1, .int 0])), (mm, .inr (24, [.int 1, .ref stu, .ref cla, .ref pic, .ref act, .int 5, .int 50, .ref nts, .ref isn, .int 1600, .ref boa, .ref mas, .ref pai, .ref sol, .int 0, .ref bal, .ref leg]))] := hD
      have hR : va_P (dC, dI) vwCl [] H := fun k q h => by simp at h
      refine W.widen (k := 0) (n := 0) (Nat.le_of_ble_eq_true rfl) (Nat.le_of_ble_eq_true rfl) ?_
      subst r_18
      refine W.widen (k := 1) (n := 10) (Nat.le_of_ble_eq_true rfl) (Nat.le_of_ble_eq_true rfl) ?_
      exact W.iret (v := 0) hx hb hr (fun t ht hW => ⟨⟨0, ⟨1, [.ref stu, .ref cla, .ref pic, .ref act, .int 5, .int 50, .ref nts, .ref isn, .int 1600, .ref boa, .ref mas, .ref pai, .ref sol, .int 0, .ref bal, .ref leg]⟩, rfl, (z_c_X18_leg_145 a b r_1 r_5 h_2 c_3 h_6 c_7), cB.mk ht hW (hP.sub [1] rfl) (hK.sub [] rfl) (hD.sub [1] (by decide) rfl) (trivial)⟩, hS.F ht⟩) hS.2.2 dX18_leg_30

set_option maxHeartbeats 4000000 in
set_option maxRecDepth 100000 in
/-- Stuff(..) -/
theorem c_X17_init (l : Launch) (dC : Nat → ClassId) (dI : Nat → Nat → Nat) (b0 : Nat) (en : EnT) (sz : Nat) (q : Nat) (number c9 tone cover weight lamp hold fading yr z9 : Int32) (hnar_c9 : narrow .char (.int c9) = .int c9) (hfit_c9 : fits .char (.int c9) = true) (hnar_z9 : narrow .boolean (.int z9) = .int z9) (hfit_z9 : fits .boolean (.int z9) = true) : Met l yX17_init wsX17_init ({ frames := 1, cells := 0, slots := 0, locals := 30 } : Room) (cP b0 en (dC, dI) [] [(q, .inr (23, [.int 0, .int 0, .int 0, .int 0, .int 0, .int 0, .int 0, .int 0, .int 0, .int 0]))] [] sz (fun _ => True) [.ref q, .int number, .int c9, .int tone, .int cover, .int weight, .int lamp, .int hold, .int fading, .int yr, .int z9]) (va_Qv (fun u : Unit => True) (fun u t => cB (dC, dI) [] [(q, .inr (23, [.int number, .int c9, .int tone, .int cover, .int weight, .int lamp, .int hold, .int fading, .int yr, .int z9]))] (va_A [(q, .inr (23, [.int 0, .int 0, .int 0, .int 0, .int 0, .int 0, .int 0, .int 0, .int 0, .int 0]))] sz) (fun _ => True) t) (va_A [(q, .inr (23, [.int 0, .int 0, .int 0, .int 0, .int 0, .int 0, .int 0, .int 0, .int 0, .int 0]))] sz)) 0 0 (va_A [(q, .inr (23, [.int 0, .int 0, .int 0, .int 0, .int 0, .int 0, .int 0, .int 0, .int 0, .int 0]))] sz) := by
  refine Met.ofW (cc := cX17_init) (maxL := 11) (ret := none) (by decide) rfl ?_
  intro p e s m args below meth c s₁ B hml hv
  obtain ⟨rfl, hsz, hb0, hE, hPP, hK, hDD, hF0⟩ := hv
  have hx := B.exec
  have hb := B.bytes
  have hr := B.returns
  have hts := atoms_spec (ws := wsX17_init) B.pre
  have hown : s.vm.findClass RX17 = some m.cls := findClass_of_methodNamed B.named
  have hlocks := B.notSynchronized
  have hin : meth.name = "<init>" := (name_of_methodNamed B.named B.method).1
  subst hsz
  have hN0 := en_N hPP hDD rfl
  have hP : va_P (dC, dI) vwCl [(q, .inr (23, [.int 0, .int 0, .int 0, .int 0, .int 0, .int 0, .int 0, .int 0, .int 0, .int 0]))] s.heap := hPP.sub [0] rfl
  have hR0 : va_P (dC, dI) vwCl [] s.heap := hPP.sub [] rfl
  have hD0 : va_D (fun q => b0 ≤ q) [(q, .inr (23, [.int 0, .int 0, .int 0, .int 0, .int 0, .int 0, .int 0, .int 0, .int 0, .int 0]))] := hDD.sub [0] (by decide) rfl
  have hDr : va_D (fun q => b0 ≤ q) [] := hDD.sub [] (by decide) rfl
  have hAb := en_A (sz := s.heap.size) hD0 hb0
  have hD := hD0.self (sz := s.heap.size)
  generalize hAe : va_A [(q, .inr (23, [.int 0, .int 0, .int 0, .int 0, .int 0, .int 0, .int 0, .int 0, .int 0, .int 0]))] s.heap.size = A at hD hAb hN0 ⊢
  have hA : ∀ q : Nat, s.heap.size ≤ q → A q := fun q h => by rw [← hAe]; exact Or.inr h
  have hS : va_S A s.heap s.heap [] := va_S.rf
  have hR := hR0
  have hl := lv_entry [.ref q, .int number, .int c9, .int tone, .int cover, .int weight, .int lamp, .int hold, .int fading, .int yr, .int z9] (n := 11) (Nat.le_of_ble_eq_true rfl)
  rw [lg_entry_eq]
  generalize (lg_sl [.ref q, .int number, .int c9, .int tone, .int cover, .int weight, .int lamp, .int hold, .int fading, .int yr, .int z9] ++ List.replicate (11 - (lg_sl [.ref q, .int number, .int c9, .int tone, .int cover, .int weight, .int lamp, .int hold, .int fading, .int yr, .int z9]).length) Slot.unset).toArray = ls at hl ⊢
  have hl : lv_has ls 11 [(0, .ref q), (1, .int number), (2, .int c9), (3, .int tone), (4, .int cover), (5, .int weight), (6, .int lamp), (7, .int hold), (8, .int fading), (9, .int yr), (10, .int z9)] := hl
  refine lv_aload_n hx hb dX17_init_0 rfl (lv_at hl 0 rfl) ?_
  refine W.objInit hx hb hown (hts (.methodLink RX17 1 objectInit) (by decide +kernel)) (hts (.instanceMethod objectInit) (by decide +kernel)) (hts (.code objectInit ⟨#[0xb1]⟩ 1 none) (by decide +kernel)) rfl (by rw [hml]; exact hl.1) rfl dX17_init_1 (Nat.le_of_ble_eq_true rfl) (Nat.le_of_ble_eq_true rfl) ?_
  refine lv_aload_n hx hb dX17_init_4 rfl (lv_at hl 0 rfl) ?_
  refine lv_iload_n hx hb dX17_init_5 rfl (lv_at hl 1 rfl) ?_
  refine va_putF (D := (dC, dI)) (ci := 23) (v := .int number) (ty := .int) (C := RX17) (T := TX17) (N := 10) hx hb hts (by decide +kernel) tyX17 tyX17_ok nmX17 hown hK hP hD hS 0 rfl rfl 0 (by decide) (hts (.fieldLink RX17 7 "UnderpaintModel$Stuff" "number" "I") (by decide +kernel)) (fun _ h9 => h9) rfl hin rfl (by decide +kernel) rfl rfl (Nat.le_of_ble_eq_true rfl) dX17_init_6 (fun H locs hP hD hS => ?_)
  have hP : va_P (dC, dI) vwCl [(q, .inr (23, [.int number, .int 0, .int 0, .int 0, .int 0, .int 0, .int 0, .int 0, .int 0, .int 0]))] H := hP
  have hD : va_D A [(q, .inr (23, [.int number, .int 0, .int 0, .int 0, .int 0, .int 0, .int 0, .int 0, .int 0, .int 0]))] := hD
  have hR : va_P (dC, dI) vwCl [] H := fun k q h => by simp at h
  refine lv_aload_n hx hb dX17_init_9 rfl (lv_at hl 0 rfl) ?_
  refine lv_iload_n hx hb dX17_init_10 rfl (lv_at hl 2 rfl) ?_
  refine va_putF (D := (dC, dI)) (ci := 23) (v := .int c9) (ty := .char) (C := RX17) (T := TX17) (N := 10) hx hb hts (by decide +kernel) tyX17 tyX17_ok nmX17 hown hK hP hD hS 0 rfl rfl 1 (by decide) (hts (.fieldLink RX17 13 "UnderpaintModel$Stuff" "kind" "C") (by decide +kernel)) (fun _ h9 => h9) rfl hin rfl (by decide +kernel) hnar_c9 hfit_c9 (Nat.le_of_ble_eq_true rfl) dX17_init_11 (fun H locs hP hD hS => ?_)
  have hP : va_P (dC, dI) vwCl [(q, .inr (23, [.int number, .int c9, .int 0, .int 0, .int 0, .int 0, .int 0, .int 0, .int 0, .int 0]))] H := hP
  have hD : va_D A [(q, .inr (23, [.int number, .int c9, .int 0, .int 0, .int 0, .int 0, .int 0, .int 0, .int 0, .int 0]))] := hD
  have hR : va_P (dC, dI) vwCl [] H := fun k q h => by simp at h
  refine lv_aload_n hx hb dX17_init_14 rfl (lv_at hl 0 rfl) ?_
  refine lv_iload_n hx hb dX17_init_15 rfl (lv_at hl 3 rfl) ?_
  refine va_putF (D := (dC, dI)) (ci := 23) (v := .int tone) (ty := .int) (C := RX17) (T := TX17) (N := 10) hx hb hts (by decide +kernel) tyX17 tyX17_ok nmX17 hown hK hP hD hS 0 rfl rfl 2 (by decide) (hts (.fieldLink RX17 17 "UnderpaintModel$Stuff" "tone" "I") (by decide +kernel)) (fun _ h9 => h9) rfl hin rfl (by decide +kernel) rfl rfl (Nat.le_of_ble_eq_true rfl) dX17_init_16 (fun H locs hP hD hS => ?_)
  have hP : va_P (dC, dI) vwCl [(q, .inr (23, [.int number, .int c9, .int tone, .int 0, .int 0, .int 0, .int 0, .int 0, .int 0, .int 0]))] H := hP
  have hD : va_D A [(q, .inr (23, [.int number, .int c9, .int tone, .int 0, .int 0, .int 0, .int 0, .int 0, .int 0, .int 0]))] := hD
  have hR : va_P (dC, dI) vwCl [] H := fun k q h => by simp at h
  refine lv_aload_n hx hb dX17_init_19 rfl (lv_at hl 0 rfl) ?_
  refine lv_iload hx hb dX17_init_20 (lv_at hl 4 rfl) ?_
  refine va_putF (D := (dC, dI)) (ci := 23) (v := .int cover) (ty := .int) (C := RX17) (T := TX17) (N := 10) hx hb hts (by decide +kernel) tyX17 tyX17_ok nmX17 hown hK hP hD hS 0 rfl rfl 3 (by decide) (hts (.fieldLink RX17 20 "UnderpaintModel$Stuff" "cover" "I") (by decide +kernel)) (fun _ h9 => h9) rfl hin rfl (by decide +kernel) rfl rfl (Nat.le_of_ble_eq_true rfl) dX17_init_22 (fun H locs hP hD hS => ?_)
  have hP : va_P (dC, dI) vwCl [(q, .inr (23, [.int number, .int c9, .int tone, .int cover, .int 0, .int 0, .int 0, .int 0, .int 0, .int 0]))] H := hP
  have hD : va_D A [(q, .inr (23, [.int number, .int c9, .int tone, .int cover, .int 0, .int 0, .int 0, .int 0, .int 0, .int 0]))] := hD
  have hR : va_P (dC, dI) vwCl [] H := fun k q h => by simp at h
  refine lv_aload_n hx hb dX17_init_25 rfl (lv_at hl 0 rfl) ?_
  refine lv_iload hx hb dX17_init_26 (lv_at hl 5 rfl) ?_
  refine va_putF (D := (dC, dI)) (ci := 23) (v := .int weight) (ty := .int) (C := RX17) (T := TX17) (N := 10) hx hb hts (by decide +kernel) tyX17 tyX17_ok nmX17 hown hK hP hD hS 0 rfl rfl 4 (by decide) (hts (.fieldLink RX17 23 "UnderpaintModel$Stuff" "weight" "I") (by decide +kernel)) (fun _ h9 => h9) rfl hin rfl (by decide +kernel) rfl rfl (Nat.le_of_ble_eq_true rfl) dX17_init_28 (fun H locs hP hD hS => ?_)
  have hP : va_P (dC, dI) vwCl [(q, .inr (23, [.int number, .int c9, .int tone, .int cover, .int weight, .int 0, .int 0, .int 0, .int 0, .int 0]))] H := hP
  have hD : va_D A [(q, .inr (23, [.int number, .int c9, .int tone, .int cover, .int weight, .int 0, .int 0, .int 0, .int 0, .int 0]))] := hD
  have hR : va_P (dC, dI) vwCl [] H := fun k q h => by simp at h
  refine lv_aload_n hx hb dX17_init_31 rfl (lv_at hl 0 rfl) ?_
  refine lv_iload hx hb dX17_init_32 (lv_at hl 6 rfl) ?_
  refine va_putF (D := (dC, dI)) (ci := 23) (v := .int lamp) (ty := .int) (C := RX17) (T := TX17) (N := 10) hx hb hts (by decide +kernel) tyX17 tyX17_ok nmX17 hown hK hP hD hS 0 rfl rfl 5 (by decide) (hts (.fieldLink RX17 26 "UnderpaintModel$Stuff" "lamp" "I") (by decide +kernel)) (fun _ h9 => h9) rfl hin rfl (by decide +kernel) rfl rfl (Nat.le_of_ble_eq_true rfl) dX17_init_34 (fun H locs hP hD hS => ?_)
  have hP : va_P (dC, dI) vwCl [(q, .inr (23, [.int number, .int c9, .int tone, .int cover, .int weight, .int lamp, .int 0, .int 0, .int 0, .int 0]))] H := hP
  have hD : va_D A [(q, .inr (23, [.int number, .int c9, .int tone, .int cover, .int weight, .int lamp, .int 0, .int 0, .int 0, .int 0]))] := hD
  have hR : va_P (dC, dI) vwCl [] H := fun k q h => by simp at h
  refine lv_aload_n hx hb dX17_init_37 rfl (lv_at hl 0 rfl) ?_
  refine lv_iload hx hb dX17_init_38 (lv_at hl 7 rfl) ?_
  refine va_putF (D := (dC, dI)) (ci := 23) (v := .int hold) (ty := .int) (C := RX17) (T := TX17) (N := 10) hx hb hts (by decide +kernel) tyX17 tyX17_ok nmX17 hown hK hP hD hS 0 rfl rfl 6 (by decide) (hts (.fieldLink RX17 29 "UnderpaintModel$Stuff" "hold" "I") (by decide +kernel)) (fun _ h9 => h9) rfl hin rfl (by decide +kernel) rfl rfl (Nat.le_of_ble_eq_true rfl) dX17_init_40 (fun H locs hP hD hS => ?_)
  have hP : va_P (dC, dI) vwCl [(q, .inr (23, [.int number, .int c9, .int tone, .int cover, .int weight, .int lamp, .int hold, .int 0, .int 0, .int 0]))] H := hP
  have hD : va_D A [(q, .inr (23, [.int number, .int c9, .int tone, .int cover, .int weight, .int lamp, .int hold, .int 0, .int 0, .int 0]))] := hD
  have hR : va_P (dC, dI) vwCl [] H := fun k q h => by simp at h
  refine lv_aload_n hx hb dX17_init_43 rfl (lv_at hl 0 rfl) ?_
  refine lv_iload hx hb dX17_init_44 (lv_at hl 8 rfl) ?_
  refine va_putF (D := (dC, dI)) (ci := 23) (v := .int fading) (ty := .int) (C := RX17) (T := TX17) (N := 10) hx hb hts (by decide +kernel) tyX17 tyX17_ok nmX17 hown hK hP hD hS 0 rfl rfl 7 (by decide) (hts (.fieldLink RX17 32 "UnderpaintModel$Stuff" "fading" "I") (by decide +kernel)) (fun _ h9 => h9) rfl hin rfl (by decide +kernel) rfl rfl (Nat.le_of_ble_eq_true rfl) dX17_init_46 (fun H locs hP hD hS => ?_)
  have hP : va_P (dC, dI) vwCl [(q, .inr (23, [.int number, .int c9, .int tone, .int cover, .int weight, .int lamp, .int hold, .int fading, .int 0, .int 0]))] H := hP
  have hD : va_D A [(q, .inr (23, [.int number, .int c9, .int tone, .int cover, .int weight, .int lamp, .int hold, .int fading, .int 0, .int 0]))] := hD
  have hR : va_P (dC, dI) vwCl [] H := fun k q h => by simp at h
  refine lv_aload_n hx hb dX17_init_49 rfl (lv_at hl 0 rfl) ?_
  refine lv_iload hx hb dX17_init_50 (lv_at hl 9 rfl) ?_
  refine va_putF (D := (dC, dI)) (ci := 23) (v := .int yr) (ty := .int) (C := RX17) (T := TX17) (N := 10) hx hb hts (by decide +kernel) tyX17 tyX17_ok nmX17 hown hK hP hD hS 0 rfl rfl 8 (by decide) (hts (.fieldLink RX17 35 "UnderpaintModel$Stuff" "year" "I") (by decide +kernel)) (fun _ h9 => h9) rfl hin rfl (by decide +kernel) rfl rfl (Nat.le_of_ble_eq_true rfl) dX17_init_52 (fun H locs hP hD hS => ?_)
  have hP : va_P (dC, dI) vwCl [(q, .inr (23, [.int number, .int c9, .int tone, .int cover, .int weight, .int lamp, .int hold, .int fading, .int yr, .int 0]))] H := hP
  have hD : va_D A [(q, .inr (23, [.int number, .int c9, .int tone, .int cover, .int weight, .int lamp, .int hold, .int fading, .int yr, .int 0]))] := hD
  have hR : va_P (dC, dI) vwCl [] H := fun k q h => by simp at h
  refine lv_aload_n hx hb dX17_init_55 rfl (lv_at hl 0 rfl) ?_
  refine lv_iload hx hb dX17_init_56 (lv_at hl 10 rfl) ?_
  refine va_putF (D := (dC, dI)) (ci := 23) (v := .int z9) (ty := .boolean) (C := RX17) (T := TX17) (N := 10) hx hb hts (by decide +kernel) tyX17 tyX17_ok nmX17 hown hK hP hD hS 0 rfl rfl 9 (by decide) (hts (.fieldLink RX17 38 "UnderpaintModel$Stuff" "isThrough" "Z") (by decide +kernel)) (fun _ h9 => h9) rfl hin rfl (by decide +kernel) hnar_z9 hfit_z9 (Nat.le_of_ble_eq_true rfl) dX17_init_58 (fun H locs hP hD hS => ?_)
  have hP : va_P (dC, dI) vwCl [(q, .inr (23, [.int number, .int c9, .int tone, .int cover, .int weight, .int lamp, .int hold, .int fading, .int yr, .int z9]))] H := hP
  have hD : va_D A [(q, .inr (23, [.int number, .int c9, .int tone, .int cover, .int weight, .int lamp, .int hold, .int fading, .int yr, .int z9]))] := hD
  have hR : va_P (dC, dI) vwCl [] H := fun k q h => by simp at h
  refine W.widen (k := 0) (n := 0) (Nat.le_of_ble_eq_true rfl) (Nat.le_of_ble_eq_true rfl) ?_
  exact W.vret hx hb hr (fun t ht hW => ⟨⟨(), rfl, trivial, cB.mk ht hW (hP.sub [0] rfl) (hK.sub [] rfl) (hD.sub [0] (by decide) rfl) (trivial)⟩, hS.F ht⟩) hS.2.2 dX17_init_61
