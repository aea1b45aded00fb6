theorem dX12_init_0 : decode cX12_init 0 = .ok (.aload_n 0, 1) := by decide +kernel
theorem dX12_init_1 : decode cX12_init 1 = .ok (.invokespecial 1, 3) := by decide +kernel
theorem dX12_init_4 : decode cX12_init 4 = .ok (.aload_n 0, 1) := by decide +kernel
theorem dX12_init_5 : decode cX12_init 5 = .ok (.iload_n 1, 1) := by decide +kernel
theorem dX12_init_6 : decode cX12_init 6 = .ok (.putfield 7, 3) := by decide +kernel
theorem dX12_init_9 : decode cX12_init 9 = .ok (.aload_n 0, 1) := by decide +kernel
theorem dX12_init_10 : decode cX12_init 10 = .ok (.aload_n 2, 1) := by decide +kernel
theorem dX12_init_11 : decode cX12_init 11 = .ok (.putfield 13, 3) := by decide +kernel
theorem dX12_init_14 : decode cX12_init 14 = .ok (.return_, 1) := by decide +kernel
theorem dX18_pass_0 : decode cX18_pass 0 = .ok (.aload_n 0, 1) := by decide +kernel
theorem dX18_pass_1 : decode cX18_pass 1 = .ok (.iconst 0, 1) := by decide +kernel
theorem dX18_pass_2 : decode cX18_pass 2 = .ok (.putfield 67, 3) := by decide +kernel
theorem dX18_pass_5 : decode cX18_pass 5 = .ok (.iload_n 1, 1) := by decide +kernel
theorem dX18_pass_6 : decode cX18_pass 6 = .ok (.iconst 1, 1) := by decide +kernel
theorem dX18_pass_7 : decode cX18_pass 7 = .ok (.bipush 50, 2) := by decide +kernel
theorem dX18_pass_9 : decode cX18_pass 9 = .ok (.invokestatic 70, 3) := by decide +kernel
theorem dX18_pass_12 : decode cX18_pass 12 = .ok (.ifCond .eq 41, 3) := by decide +kernel
theorem dX18_pass_53 : decode cX18_pass 53 = .ok (.aload_n 0, 1) := by decide +kernel
theorem dX18_pass_54 : decode cX18_pass 54 = .ok (.iconst 1, 1) := by decide +kernel
theorem dX18_pass_55 : decode cX18_pass 55 = .ok (.invokevirtual 88, 3) := by decide +kernel
theorem dX18_pass_58 : decode cX18_pass 58 = .ok (.ireturn, 1) := by decide +kernel
theorem dX18_pass_15 : decode cX18_pass 15 = .ok (.aload_n 0, 1) := by decide +kernel
theorem dX18_pass_16 : decode cX18_pass 16 = .ok (.new 128, 3) := by decide +kernel
theorem dX18_pass_19 : decode cX18_pass 19 = .ok (.dup, 1) := by decide +kernel
theorem dX18_pass_20 : decode cX18_pass 20 = .ok (.bipush 121, 2) := by decide +kernel
theorem dX18_pass_22 : decode cX18_pass 22 = .ok (.iconst 3, 1) := by decide +kernel
theorem dX18_pass_23 : decode cX18_pass 23 = .ok (.newarray .int, 2) := by decide +kernel
theorem dX18_pass_25 : decode cX18_pass 25 = .ok (.dup, 1) := by decide +kernel
theorem dX18_pass_26 : decode cX18_pass 26 = .ok (.iconst 0, 1) := by decide +kernel
theorem dX18_pass_27 : decode cX18_pass 27 = .ok (.iload_n 1, 1) := by decide +kernel
theorem dX18_pass_28 : decode cX18_pass 28 = .ok (.iastore, 1) := by decide +kernel
theorem dX18_pass_29 : decode cX18_pass 29 = .ok (.dup, 1) := by decide +kernel
theorem dX18_pass_30 : decode cX18_pass 30 = .ok (.iconst 1, 1) := by decide +kernel
theorem dX18_pass_31 : decode cX18_pass 31 = .ok (.aload_n 0, 1) := by decide +kernel
theorem dX18_pass_32 : decode cX18_pass 32 = .ok (.getfield 32, 3) := by decide +kernel
theorem dX18_pass_35 : decode cX18_pass 35 = .ok (.iastore, 1) := by decide +kernel
theorem dX18_pass_36 : decode cX18_pass 36 = .ok (.dup, 1) := by decide +kernel
theorem dX18_pass_37 : decode cX18_pass 37 = .ok (.iconst 2, 1) := by decide +kernel
theorem dX18_pass_38 : decode cX18_pass 38 = .ok (.aload_n 0, 1) := by decide +kernel
theorem dX18_pass_39 : decode cX18_pass 39 = .ok (.getfield 36, 3) := by decide +kernel
theorem dX18_pass_42 : decode cX18_pass 42 = .ok (.iastore, 1) := by decide +kernel
theorem dX18_pass_43 : decode cX18_pass 43 = .ok (.invokespecial 130, 3) := by decide +kernel
theorem dX18_pass_46 : decode cX18_pass 46 = .ok (.iconst (-1), 1) := by decide +kernel
theorem dX18_pass_47 : decode cX18_pass 47 = .ok (.invokevirtual 133, 3) := by decide +kernel
theorem dX18_pass_50 : decode cX18_pass 50 = .ok (.goto 8, 3) := by decide +kernel
theorem dX18_scratch_0 : decode cX18_scratch 0 = .ok (.aload_n 0, 1) := by decide +kernel
theorem dX18_scratch_1 : decode cX18_scratch 1 = .ok (.iconst 0, 1) := by decide +kernel
theorem dX18_scratch_2 : decode cX18_scratch 2 = .ok (.putfield 67, 3) := by decide +kernel
theorem dX18_scratch_5 : decode cX18_scratch 5 = .ok (.iload_n 1, 1) := by decide +kernel
theorem dX18_scratch_6 : decode cX18_scratch 6 = .ok (.iload_n 2, 1) := by decide +kernel
theorem dX18_scratch_7 : decode cX18_scratch 7 = .ok (.invokestatic 124, 3) := by decide +kernel
theorem dX18_scratch_10 : decode cX18_scratch 10 = .ok (.ifCond .eq 47, 3) := by decide +kernel
theorem dX18_scratch_57 : decode cX18_scratch 57 = .ok (.aload_n 0, 1) := by decide +kernel
theorem dX18_scratch_58 : decode cX18_scratch 58 = .ok (.iconst 1, 1) := by decide +kernel
theorem dX18_scratch_59 : decode cX18_scratch 59 = .ok (.invokevirtual 88, 3) := by decide +kernel
theorem dX18_scratch_62 : decode cX18_scratch 62 = .ok (.ireturn, 1) := by decide +kernel
theorem dX18_scratch_13 : decode cX18_scratch 13 = .ok (.iload_n 3, 1) := by decide +kernel
theorem dX18_scratch_14 : decode cX18_scratch 14 = .ok (.iconst 1, 1) := by decide +kernel
theorem dX18_scratch_15 : decode cX18_scratch 15 = .ok (.sipush 999, 3) := by decide +kernel
theorem dX18_scratch_18 : decode cX18_scratch 18 = .ok (.invokestatic 70, 3) := by decide +kernel
theorem dX18_scratch_21 : decode cX18_scratch 21 = .ok (.ifCond .eq 36, 3) := by decide +kernel
theorem dX18_scratch_24 : decode cX18_scratch 24 = .ok (.aload_n 0, 1) := by decide +kernel
theorem dX18_scratch_25 : decode cX18_scratch 25 = .ok (.new 128, 3) := by decide +kernel
theorem dX18_scratch_28 : decode cX18_scratch 28 = .ok (.dup, 1) := by decide +kernel
theorem dX18_scratch_29 : decode cX18_scratch 29 = .ok (.bipush 115, 2) := by decide +kernel
theorem dX18_scratch_31 : decode cX18_scratch 31 = .ok (.iconst 2, 1) := by decide +kernel
theorem dX18_scratch_32 : decode cX18_scratch 32 = .ok (.newarray .int, 2) := by decide +kernel
theorem dX18_scratch_34 : decode cX18_scratch 34 = .ok (.dup, 1) := by decide +kernel
theorem dX18_scratch_35 : decode cX18_scratch 35 = .ok (.iconst 0, 1) := by decide +kernel
theorem dX18_scratch_36 : decode cX18_scratch 36 = .ok (.bipush 8, 2) := by decide +kernel
theorem dX18_scratch_38 : decode cX18_scratch 38 = .ok (.iload_n 2, 1) := by decide +kernel
theorem dX18_scratch_39 : decode cX18_scratch 39 = .ok (.imul, 1) := by decide +kernel
theorem dX18_scratch_40 : decode cX18_scratch 40 = .ok (.iload_n 1, 1) := by decide +kernel
theorem dX18_scratch_41 : decode cX18_scratch 41 = .ok (.iadd, 1) := by decide +kernel
theorem dX18_scratch_42 : decode cX18_scratch 42 = .ok (.iastore, 1) := by decide +kernel
theorem dX18_scratch_43 : decode cX18_scratch 43 = .ok (.dup, 1) := by decide +kernel
theorem dX18_scratch_44 : decode cX18_scratch 44 = .ok (.iconst 1, 1) := by decide +kernel
theorem dX18_scratch_45 : decode cX18_scratch 45 = .ok (.iload_n 3, 1) := by decide +kernel
theorem dX18_scratch_46 : decode cX18_scratch 46 = .ok (.iastore, 1) := by decide +kernel
theorem dX18_scratch_47 : decode cX18_scratch 47 = .ok (.invokespecial 130, 3) := by decide +kernel
theorem dX18_scratch_50 : decode cX18_scratch 50 = .ok (.iconst 2, 1) := by decide +kernel
theorem dX18_scratch_51 : decode cX18_scratch 51 = .ok (.invokevirtual 133, 3) := by decide +kernel
theorem dX18_scratch_54 : decode cX18_scratch 54 = .ok (.goto 8, 3) := by decide +kernel
theorem dX18_glue_0 : decode cX18_glue 0 = .ok (.aload_n 0, 1) := by decide +kernel
theorem dX18_glue_1 : decode cX18_glue 1 = .ok (.iconst 0, 1) := by decide +kernel
theorem dX18_glue_2 : decode cX18_glue 2 = .ok (.putfield 67, 3) := by decide +kernel
theorem dX18_glue_5 : decode cX18_glue 5 = .ok (.iload_n 1, 1) := by decide +kernel
theorem dX18_glue_6 : decode cX18_glue 6 = .ok (.iload_n 2, 1) := by decide +kernel
theorem dX18_glue_7 : decode cX18_glue 7 = .ok (.invokestatic 124, 3) := by decide +kernel
theorem dX18_glue_10 : decode cX18_glue 10 = .ok (.ifCond .eq 32, 3) := by decide +kernel
theorem dX18_glue_42 : decode cX18_glue 42 = .ok (.aload_n 0, 1) := by decide +kernel
theorem dX18_glue_43 : decode cX18_glue 43 = .ok (.iconst 1, 1) := by decide +kernel
theorem dX18_glue_44 : decode cX18_glue 44 = .ok (.invokevirtual 88, 3) := by decide +kernel
theorem dX18_glue_47 : decode cX18_glue 47 = .ok (.ireturn, 1) := by decide +kernel
theorem dX18_glue_13 : decode cX18_glue 13 = .ok (.aload_n 0, 1) := by decide +kernel
theorem dX18_glue_14 : decode cX18_glue 14 = .ok (.new 128, 3) := by decide +kernel
theorem dX18_glue_17 : decode cX18_glue 17 = .ok (.dup, 1) := by decide +kernel
theorem dX18_glue_18 : decode cX18_glue 18 = .ok (.bipush 103, 2) := by decide +kernel
theorem dX18_glue_20 : decode cX18_glue 20 = .ok (.iconst 1, 1) := by decide +kernel
theorem dX18_glue_21 : decode cX18_glue 21 = .ok (.newarray .int, 2) := by decide +kernel
theorem dX18_glue_23 : decode cX18_glue 23 = .ok (.dup, 1) := by decide +kernel
theorem dX18_glue_24 : decode cX18_glue 24 = .ok (.iconst 0, 1) := by decide +kernel
theorem dX18_glue_25 : decode cX18_glue 25 = .ok (.bipush 8, 2) := by decide +kernel
theorem dX18_glue_27 : decode cX18_glue 27 = .ok (.iload_n 2, 1) := by decide +kernel
theorem dX18_glue_28 : decode cX18_glue 28 = .ok (.imul, 1) := by decide +kernel
theorem dX18_glue_29 : decode cX18_glue 29 = .ok (.iload_n 1, 1) := by decide +kernel
theorem dX18_glue_30 : decode cX18_glue 30 = .ok (.iadd, 1) := by decide +kernel
theorem dX18_glue_31 : decode cX18_glue 31 = .ok (.iastore, 1) := by decide +kernel
theorem dX18_glue_32 : decode cX18_glue 32 = .ok (.invokespecial 130, 3) := by decide +kernel
theorem dX18_glue_35 : decode cX18_glue 35 = .ok (.iconst (-1), 1) := by decide +kernel
theorem dX18_glue_36 : decode cX18_glue 36 = .ok (.invokevirtual 133, 3) := by decide +kernel
theorem dX18_glue_39 : decode cX18_glue 39 = .ok (.goto 8, 3) := by decide +kernel
theorem dX18_layerAt_0 : decode cX18_layerAt 0 = .ok (.aload_n 0, 1) := by decide +kernel
theorem dX18_layerAt_1 : decode cX18_layerAt 1 = .ok (.iconst 0, 1) := by decide +kernel
theorem dX18_layerAt_2 : decode cX18_layerAt 2 = .ok (.putfield 67, 3) := by decide +kernel
theorem dX18_layerAt_5 : decode cX18_layerAt 5 = .ok (.iload_n 1, 1) := by decide +kernel
theorem dX18_layerAt_6 : decode cX18_layerAt 6 = .ok (.iload_n 2, 1) := by decide +kernel
set_option maxRecDepth 20000 in
theorem ggX18_layerAt_X18_isPlace : GoodIn wsX18_layerAt wsX18_isPlace := goodIn_r _ [7, 8, 9, 6, 10] (by decide +kernel) (by decide +kernel)
set_option maxRecDepth 20000 in
theorem gX18_layerAt_X18_isPlace : GoodIn wsX18_layerAt (va_wsS RX18 124 yX18_isPlace wsX18_isPlace) := goodIn_app (goodIn_of _ (by decide +kernel)) ggX18_layerAt_X18_isPlace
theorem dX18_layerAt_7 : decode cX18_layerAt 7 = .ok (.invokestatic 124, 3) := by decide +kernel
theorem dX18_layerAt_10 : decode cX18_layerAt 10 = .ok (.ifCond .eq 27, 3) := by decide +kernel
theorem dX18_layerAt_37 : decode cX18_layerAt 37 = .ok (.aload_n 0, 1) := by decide +kernel
theorem dX18_layerAt_38 : decode cX18_layerAt 38 = .ok (.iconst 1, 1) := by decide +kernel
set_option maxRecDepth 20000 in
theorem ggX18_layerAt_X18_fails : GoodIn wsX18_layerAt wsX18_fails := goodIn_r _ [103, 1, 126, 127, 128, 129, 130, 131, 132, 133, 134, 135, 136, 137, 138, 139, 140, 141, 142] (by decide +kernel) (by decide +kernel)
set_option maxRecDepth 20000 in
theorem gX18_layerAt_X18_fails : GoodIn wsX18_layerAt (wsV RX18 88 RX18 yX18_fails wsX18_fails) := goodIn_app (goodIn_of _ (by decide +kernel)) ggX18_layerAt_X18_fails
theorem dX18_layerAt_39 : decode cX18_layerAt 39 = .ok (.invokevirtual 88, 3) := by decide +kernel
theorem dX18_layerAt_42 : decode cX18_layerAt 42 = .ok (.ireturn, 1) := by decide +kernel
theorem dX18_layerAt_13 : decode cX18_layerAt 13 = .ok (.ldc 146, 2) := by decide +kernel
theorem dX18_layerAt_15 : decode cX18_layerAt 15 = .ok (.iload 4, 2) := by decide +kernel
set_option maxRecDepth 20000 in
theorem ggX18_layerAt_J0_indexOf_0f7a4 : GoodIn wsX18_layerAt wsJ0_indexOf_0f7a4 := goodIn_r _ [15, 16, 17, 18, 14, 19, 20, 21, 22, 23, 24, 25, 26, 27, 28, 29, 30, 31, 32, 33, 34, 35, 36, 37, 38, 39, 40, 41, 42, 43, 44, 45, 46, 47, 48, 49, 50, 51, 52, 53, 54, 55, 56, 57, 58, 59, 60, 61, 62, 63, 64, 65, 66, 67, 68, 69, 70, 71, 72, 73, 74, 75, 76, 77, 78, 79, 80, 81, 82, 83, 84, 85, 86, 87, 88, 89, 90, 91, 92, 93, 94, 95, 96, 97, 98, 99, 167, 168, 169, 170] (by decide +kernel) (by decide +kernel)
set_option maxRecDepth 20000 in
theorem gX18_layerAt_J0_indexOf_0f7a4 : GoodIn wsX18_layerAt (wsV RX18 82 RJ0 yJ0_indexOf_0f7a4 wsJ0_indexOf_0f7a4) := goodIn_app (goodIn_of _ (by decide +kernel)) ggX18_layerAt_J0_indexOf_0f7a4
theorem dX18_layerAt_17 : decode cX18_layerAt 17 = .ok (.invokevirtual 82, 3) := by decide +kernel
theorem dX18_layerAt_20 : decode cX18_layerAt 20 = .ok (.ifCond .ge 23, 3) := by decide +kernel
theorem dX18_layerAt_43 : decode cX18_layerAt 43 = .ok (.aload_n 0, 1) := by decide +kernel
theorem dX18_layerAt_44 : decode cX18_layerAt 44 = .ok (.getfield 25, 3) := by decide +kernel
theorem dX18_layerAt_47 : decode cX18_layerAt 47 = .ok (.getfield 137, 3) := by decide +kernel
theorem dX18_layerAt_50 : decode cX18_layerAt 50 = .ok (.bipush 8, 2) := by decide +kernel
theorem dX18_layerAt_52 : decode cX18_layerAt 52 = .ok (.iload_n 2, 1) := by decide +kernel
theorem dX18_layerAt_53 : decode cX18_layerAt 53 = .ok (.imul, 1) := by decide +kernel
theorem dX18_layerAt_54 : decode cX18_layerAt 54 = .ok (.iload_n 1, 1) := by decide +kernel
theorem dX18_layerAt_55 : decode cX18_layerAt 55 = .ok (.iadd, 1) := by decide +kernel
theorem dX18_layerAt_56 : decode cX18_layerAt 56 = .ok (.aaload, 1) := by decide +kernel
theorem dX18_layerAt_57 : decode cX18_layerAt 57 = .ok (.getfield 141, 3) := by decide +kernel
theorem dX18_layerAt_60 : decode cX18_layerAt 60 = .ok (.astore 5, 2) := by decide +kernel
theorem dX18_layerAt_62 : decode cX18_layerAt 62 = .ok (.iload_n 3, 1) := by decide +kernel
theorem dX18_layerAt_63 : decode cX18_layerAt 63 = .ok (.iconst 0, 1) := by decide +kernel
theorem dX18_layerAt_64 : decode cX18_layerAt 64 = .ok (.aload 5, 2) := by decide +kernel
set_option maxRecDepth 20000 in
theorem ggX18_layerAt_Jx4a65c_size_8abf5 : GoodIn wsX18_layerAt wsJx4a65c_size_8abf5 := goodIn_r _ [108, 109, 171, 172, 173] (by decide +kernel) (by decide +kernel)
set_option maxRecDepth 20000 in
theorem gX18_layerAt_Jx4a65c_size_8abf5_f74Jx4a65c : GoodIn wsX18_layerAt (va_wsF RX18 74 RJx4a65c ⟨"java/util/List", "size", "()I"⟩ yJx4a65c_size_8abf5 wsJx4a65c_size_8abf5) := goodIn_app (goodIn_of _ (by decide +kernel)) ggX18_layerAt_Jx4a65c_size_8abf5
theorem dX18_layerAt_66 : decode cX18_layerAt 66 = .ok (.invokeinterface 74 1, 5) := by decide +kernel
theorem dX18_layerAt_71 : decode cX18_layerAt 71 = .ok (.iconst 1, 1) := by decide +kernel
theorem dX18_layerAt_72 : decode cX18_layerAt 72 = .ok (.isub, 1) := by decide +kernel
set_option maxRecDepth 20000 in
theorem ggX18_layerAt_X18_in : GoodIn wsX18_layerAt wsX18_in := goodIn_r _ [10] (by decide +kernel) (by decide +kernel)
set_option maxRecDepth 20000 in
theorem gX18_layerAt_X18_in : GoodIn wsX18_layerAt (va_wsS RX18 70 yX18_in wsX18_in) := goodIn_app (goodIn_of _ (by decide +kernel)) ggX18_layerAt_X18_in
theorem dX18_layerAt_73 : decode cX18_layerAt 73 = .ok (.invokestatic 70, 3) := by decide +kernel
theorem dX18_layerAt_76 : decode cX18_layerAt 76 = .ok (.ifCond .ne 9, 3) := by decide +kernel
theorem dX18_layerAt_79 : decode cX18_layerAt 79 = .ok (.aload_n 0, 1) := by decide +kernel
theorem dX18_layerAt_80 : decode cX18_layerAt 80 = .ok (.iconst 2, 1) := by decide +kernel
theorem dX18_layerAt_81 : decode cX18_layerAt 81 = .ok (.invokevirtual 88, 3) := by decide +kernel
theorem dX18_layerAt_84 : decode cX18_layerAt 84 = .ok (.ireturn, 1) := by decide +kernel
theorem dX18_layerAt_23 : decode cX18_layerAt 23 = .ok (.iload 4, 2) := by decide +kernel
theorem dX18_layerAt_25 : decode cX18_layerAt 25 = .ok (.bipush 99, 2) := by decide +kernel
theorem dX18_layerAt_27 : decode cX18_layerAt 27 = .ok (.if_icmp .eq 16, 3) := by decide +kernel
theorem dX18_layerAt_30 : decode cX18_layerAt 30 = .ok (.iload 4, 2) := by decide +kernel
theorem dX18_layerAt_32 : decode cX18_layerAt 32 = .ok (.bipush 103, 2) := by decide +kernel
theorem dX18_layerAt_34 : decode cX18_layerAt 34 = .ok (.if_icmp .eq 9, 3) := by decide +kernel
theorem dX18_coveredShare_0 : decode cX18_coveredShare 0 = .ok (.aload_n 0, 1) := by decide +kernel
theorem dX18_coveredShare_1 : decode cX18_coveredShare 1 = .ok (.iconst 0, 1) := by decide +kernel
theorem dX18_coveredShare_2 : decode cX18_coveredShare 2 = .ok (.putfield 67, 3) := by decide +kernel
theorem dX18_coveredShare_5 : decode cX18_coveredShare 5 = .ok (.aload_n 0, 1) := by decide +kernel
set_option maxRecDepth 20000 in
theorem ggX18_coveredShare_X18_covered : GoodIn wsX18_coveredShare wsX18_covered := goodIn_r _ [7, 8, 9, 10, 11, 12, 13, 14, 15, 16, 17, 18, 19, 20, 21, 22, 23, 24, 25, 26, 27, 28, 29, 30, 31, 32, 33, 34, 35, 36, 37, 38, 39, 40, 41, 42, 43] (by decide +kernel) (by decide +kernel)
set_option maxRecDepth 20000 in
theorem gX18_coveredShare_X18_covered : GoodIn wsX18_coveredShare (wsV RX18 333 RX18 yX18_covered wsX18_covered) := goodIn_app (goodIn_of _ (by decide +kernel)) ggX18_coveredShare_X18_covered
theorem dX18_coveredShare_6 : decode cX18_coveredShare 6 = .ok (.invokevirtual 333, 3) := by decide +kernel
theorem dX18_coveredShare_9 : decode cX18_coveredShare 9 = .ok (.i2f, 1) := by decide +kernel
theorem dX18_coveredShare_10 : decode cX18_coveredShare 10 = .ok (.ldc_w 336, 3) := by decide +kernel
theorem dX18_coveredShare_13 : decode cX18_coveredShare 13 = .ok (.fdiv, 1) := by decide +kernel
theorem dX18_coveredShare_14 : decode cX18_coveredShare 14 = .ok (.freturn, 1) := by decide +kernel
theorem dX18_loan_0 : decode cX18_loan 0 = .ok (.aload_n 0, 1) := by decide +kernel
theorem dX18_loan_1 : decode cX18_loan 1 = .ok (.getfield 64, 3) := by decide +kernel
theorem dX18_loan_4 : decode cX18_loan 4 = .ok (.invokeinterface 74 1, 5) := by decide +kernel
theorem dX18_loan_9 : decode cX18_loan 9 = .ok (.newarray .int, 2) := by decide +kernel
theorem dX18_loan_11 : decode cX18_loan 11 = .ok (.astore_n 1, 1) := by decide +kernel
theorem dX18_loan_12 : decode cX18_loan 12 = .ok (.iconst 0, 1) := by decide +kernel
theorem dX18_loan_13 : decode cX18_loan 13 = .ok (.istore_n 2, 1) := by decide +kernel
theorem dX18_loan_14 : decode cX18_loan 14 = .ok (.iload_n 2, 1) := by decide +kernel
theorem dX18_loan_15 : decode cX18_loan 15 = .ok (.aload_n 1, 1) := by decide +kernel
theorem dX18_loan_16 : decode cX18_loan 16 = .ok (.arraylength, 1) := by decide +kernel
theorem dX18_loan_17 : decode cX18_loan 17 = .ok (.if_icmp .ge 28, 3) := by decide +kernel
theorem dX18_loan_45 : decode cX18_loan 45 = .ok (.new 128, 3) := by decide +kernel
theorem dX18_loan_48 : decode cX18_loan 48 = .ok (.dup, 1) := by decide +kernel
theorem dX18_loan_49 : decode cX18_loan 49 = .ok (.bipush 111, 2) := by decide +kernel
theorem dX18_loan_51 : decode cX18_loan 51 = .ok (.aload_n 1, 1) := by decide +kernel
theorem dX18_loan_52 : decode cX18_loan 52 = .ok (.invokespecial 130, 3) := by decide +kernel
theorem dX18_loan_55 : decode cX18_loan 55 = .ok (.areturn, 1) := by decide +kernel
theorem dX18_risk_0 : decode cX18_risk 0 = .ok (.aload_n 0, 1) := by decide +kernel
theorem dX18_risk_1 : decode cX18_risk 1 = .ok (.iconst 0, 1) := by decide +kernel
theorem dX18_risk_2 : decode cX18_risk 2 = .ok (.putfield 67, 3) := by decide +kernel
theorem dX18_risk_5 : decode cX18_risk 5 = .ok (.aload_n 0, 1) := by decide +kernel
theorem dX18_risk_6 : decode cX18_risk 6 = .ok (.getfield 25, 3) := by decide +kernel
theorem dX18_risk_9 : decode cX18_risk 9 = .ok (.invokevirtual 111, 3) := by decide +kernel
theorem dX18_risk_12 : decode cX18_risk 12 = .ok (.aload_n 0, 1) := by decide +kernel
theorem dX18_risk_13 : decode cX18_risk 13 = .ok (.invokevirtual 319, 3) := by decide +kernel
theorem dX18_risk_16 : decode cX18_risk 16 = .ok (.invokevirtual 115, 3) := by decide +kernel
theorem dX18_risk_19 : decode cX18_risk 19 = .ok (.ireturn, 1) := by decide +kernel

def wo_c_X12_init_w : List Cond := [Cond.methodLink RX12 1 objectInit, Cond.instanceMethod objectInit, Cond.code objectInit ⟨#[0xb1]⟩ 1 none, Cond.fieldLink RX12 7 "UnderpaintModel$Act" "what" "C", Cond.fieldLink RX12 13 "UnderpaintModel$Act" "n" "[I"]
def wo_c_X12_init : List Cond := .code yX12_init cX12_init 3 none :: (wo_c_X12_init_w ++ (u_ws RX12 TX12 2 ++ List.nil))
theorem gw_wo_c_X12_init : wo_c_X12_init.all goodWord = true := gw_c (by decide +kernel) (gw_a (by decide +kernel) (gw_a (by decide +kernel) rfl))
set_option maxHeartbeats 4000000 in
set_option maxRecDepth 100000 in
/-- Act(what, n) -/
theorem c_X12_init (l : Launch) (dC : Nat → ClassId) (dI : Nat → Nat → Nat) (b0 : Nat) (en : EnT) (sz : Nat) (ac na : Nat) (w : Int32) (hnar_w : narrow .char (.int w) = .int w) (hfit_w : fits .char (.int w) = true) : Met l yX12_init wo_c_X12_init ({ frames := 1, cells := 0, slots := 0, locals := 30 } : Room) (cP b0 en (dC, dI) [] [(ac, .inr (18, [.int 0, .null]))] [] sz (fun _ => True) [.ref ac, .int w, .ref na]) (va_Qv (fun u : Unit => True) (fun u t => cB (dC, dI) [] [(ac, .inr (18, [.int w, .ref na]))] (va_A [(ac, .inr (18, [.int 0, .null]))] sz) (fun _ => True) t) (va_A [(ac, .inr (18, [.int 0, .null]))] sz)) 0 0 (va_A [(ac, .inr (18, [.int 0, .null]))] sz) := by
  refine Met.ofW (cc := cX12_init) (maxL := 3) (ret := none) (by decide) rfl ?_
  intro p e s m args below meth c s₁ B hml hv
  obtain ⟨rfl, hsz, hb0, hE, hPP, hK, hDD, hF0⟩ := hv
  have hx := B.exec
  have hb := B.bytes
  have hr := B.returns
  have hts := atoms_spec (ws := wo_c_X12_init) B.pre
  have hown : s.vm.findClass RX12 = some m.cls := findClass_of_methodNamed B.named
  have hlocks := B.notSynchronized
  have hin : meth.name = "<init>" := (name_of_methodNamed B.named B.method).1
  subst hsz
  have hN0 := en_N hPP hDD rfl
  have hP : va_P (dC, dI) vwCl [(ac, .inr (18, [.int 0, .null]))] s.heap := hPP.sub [0] rfl
  have hR0 : va_P (dC, dI) vwCl [] s.heap := hPP.sub [] rfl
  have hD0 : va_D (fun q => b0 ≤ q) [(ac, .inr (18, [.int 0, .null]))] := hDD.sub [0] (by decide) rfl
  have hDr : va_D (fun q => b0 ≤ q) [] := hDD.sub [] (by decide) rfl
  have hAb := en_A (sz := s.heap.size) hD0 hb0
  have hD := hD0.self (sz := s.heap.size)
  generalize hAe : va_A [(ac, .inr (18, [.int 0, .null]))] s.heap.size = A at hD hAb hN0 ⊢
  have hA : ∀ q : Nat, s.heap.size ≤ q → A q := fun q h => by rw [← hAe]; exact Or.inr h
  have hS : va_S A s.heap s.heap [] := va_S.rf
  have hR := hR0
  have hl := lv_entry [.ref ac, .int w, .ref na] (n := 3) (Nat.le_of_ble_eq_true rfl)
  rw [lg_entry_eq]
  generalize (lg_sl [.ref ac, .int w, .ref na] ++ List.replicate (3 - (lg_sl [.ref ac, .int w, .ref na]).length) Slot.unset).toArray = ls at hl ⊢
  have hl : lv_has ls 3 [(0, .ref ac), (1, .int w), (2, .ref na)] := hl
  refine lv_aload_n hx hb dX12_init_0 rfl (lv_at hl 0 rfl) ?_
  refine W.objInit hx hb hown (hts (.methodLink RX12 1 objectInit) (by decide +kernel)) (hts (.instanceMethod objectInit) (by decide +kernel)) (hts (.code objectInit ⟨#[0xb1]⟩ 1 none) (by decide +kernel)) rfl (by rw [hml]; exact hl.1) rfl dX12_init_1 (Nat.le_of_ble_eq_true rfl) (Nat.le_of_ble_eq_true rfl) ?_
  refine lv_aload_n hx hb dX12_init_4 rfl (lv_at hl 0 rfl) ?_
  refine lv_iload_n hx hb dX12_init_5 rfl (lv_at hl 1 rfl) ?_
  refine va_putF (D := (dC, dI)) (ci := 18) (v := .int w) (ty := .char) (C := RX12) (T := TX12) (N := 2) hx hb hts (by decide +kernel) tyX12 tyX12_ok nmX12 hown hK hP hD hS 0 rfl rfl 0 (by decide) (hts (.fieldLink RX12 7 "UnderpaintModel$Act" "what" "C") (by decide +kernel)) (fun _ h9 => h9) rfl hin rfl (by decide +kernel) hnar_w hfit_w (Nat.le_of_ble_eq_true rfl) dX12_init_6 (fun H locs hP hD hS => ?_)
  have hP : va_P (dC, dI) vwCl [(ac, .inr (18, [.int w, .null]))] H := hP
  have hD : va_D A [(ac, .inr (18, [.int w, .null]))] := hD
  have hR : va_P (dC, dI) vwCl [] H := fun k q h => by simp at h
  refine lv_aload_n hx hb dX12_init_9 rfl (lv_at hl 0 rfl) ?_
  refine lv_aload_n hx hb dX12_init_10 rfl (lv_at hl 2 rfl) ?_
  refine va_putF (D := (dC, dI)) (ci := 18) (v := .ref na) (ty := .array (.int)) (C := RX12) (T := TX12) (N := 2) hx hb hts (by decide +kernel) tyX12 tyX12_ok nmX12 hown hK hP hD hS 0 rfl rfl 1 (by decide) (hts (.fieldLink RX12 13 "UnderpaintModel$Act" "n" "[I") (by decide +kernel)) (fun _ h9 => h9) rfl hin rfl (by decide +kernel) rfl rfl (Nat.le_of_ble_eq_true rfl) dX12_init_11 (fun H locs hP hD hS => ?_)
  have hP : va_P (dC, dI) vwCl [(ac, .inr (18, [.int w, .ref na]))] H := hP
  have hD : va_D A [(ac, .inr (18, [.int w, .ref na]))] := hD
  have hR : va_P (dC, dI) vwCl [] H := fun k q h => by simp at h
  refine W.widen (k := 0) (n := 0) (Nat.le_of_ble_eq_true rfl) (Nat.le_of_ble_eq_true rfl) ?_
  exact W.vret hx hb hr (fun t ht hW => ⟨⟨(), rfl, trivial, cB.mk ht hW (hP.sub [0] rfl) (hK.sub [] rfl) (hD.sub [0] (by decide) rfl) (trivial)⟩, hS.F ht⟩) hS.2.2 dX12_init_14
theorem yN {n : Int32} (h : 0 ≤ n ∧ n ≤ 50) : ∃ N : Nat, N ≤ 50 ∧ n = nI N := nI_of2 (M := 50) (n := 50) (by decide) (Int32.not_lt.mpr h.1) h.2
theorem z_c_X18_pass_173 (n : Int32) (a_0 : ¬ (1 ≤ n ∧ n ≤ 50)) : ((1 : Int32) = 0 ∧ (0 : Int32) = 1600 + n ∧ (1 ≤ n ∧ n ≤ 50)) ∨ ((1 : Int32) = 1 ∧ ¬ (1 ≤ n ∧ n ≤ 50)) := by grind
theorem z_c_X18_pass_174 (n : Int32) (a_0 : 1 ≤ n ∧ n ≤ 50) : 0 ≤ n ∧ n ≤ 50 := by grind
theorem z_c_X18_pass_175 (n : Int32) (yy : Nat) (kc_13 : Int32) (r_15 : Int32) (a_0 : 1 ≤ n ∧ n ≤ 50) (a_1 : n = nI yy) (a_2 : kc_13 = 0 ∧ r_15 = 1600 + nI yy) : (kc_13 = 0 ∧ r_15 = 1600 + n ∧ (1 ≤ n ∧ n ≤ 50)) ∨ (kc_13 = 1 ∧ ¬ (1 ≤ n ∧ n ≤ 50)) := by grind
set_option maxRecDepth 100000 in
theorem gw_wsX18_in : wsX18_in.all goodWord = true := by decide +kernel
def wo_c_X18_pass_w : List Cond := [Cond.fieldLink RX18 67 "UnderpaintModel" "code" "I", Cond.classLink RX18 128 RX12, Cond.instantiable RX12 2, Cond.initialized RX12, Cond.arrayClass .int, Cond.fieldLink RX18 32 "UnderpaintModel" "light" "I", Cond.fieldLink RX18 36 "UnderpaintModel" "damp" "I", Cond.methodLink RX18 130 yX12_init, Cond.instanceMethod yX12_init]
def wo_c_X18_pass : List Cond := .code yX18_pass cX18_pass 2 (some .int) :: (wo_c_X18_pass_w ++ (u_ws RX18 TX18 17 ++ (u_ws RX12 TX12 2 ++ (va_wsS RX18 70 yX18_in wsX18_in ++ (wsV RX18 88 RX18 yX18_fails wsX18_fails ++ (wo_c_X12_init ++ (wsV RX18 133 RX18 yX18_keeps wo_c_keeps_y ++ List.nil)))))))
theorem gw_wo_c_X18_pass : wo_c_X18_pass.all goodWord = true := gw_c (by decide +kernel) (gw_a (by decide +kernel) (gw_a (by decide +kernel) (gw_a (by decide +kernel) (gw_a (gw_a (by decide +kernel) gw_wsX18_in) (gw_a (gw_a (by decide +kernel) gw_wsX18_fails) (gw_a gw_wo_c_X12_init (gw_a (gw_a (by decide +kernel) gw_wo_c_keeps_y) rfl)))))))
theorem go_c_X18_pass_0 : GoodIn wo_c_X18_pass (va_wsS RX18 70 yX18_in wsX18_in) := goodIn_sub (fun _ h => List.mem_cons_of_mem _ (List.mem_append_right _ (List.mem_append_right _ (List.mem_append_right _ (List.mem_append_left _ h))))) (gw_a (by decide +kernel) gw_wsX18_in)
theorem go_c_X18_pass_1 : GoodIn wo_c_X18_pass (wsV RX18 88 RX18 yX18_fails wsX18_fails) := goodIn_sub (fun _ h => List.mem_cons_of_mem _ (List.mem_append_right _ (List.mem_append_right _ (List.mem_append_right _ (List.mem_append_right _ (List.mem_append_left _ h)))))) (gw_a (by decide +kernel) gw_wsX18_fails)
theorem go_c_X18_pass_2 : GoodIn wo_c_X18_pass (wo_c_X12_init) := goodIn_sub (fun _ h => List.mem_cons_of_mem _ (List.mem_append_right _ (List.mem_append_right _ (List.mem_append_right _ (List.mem_append_right _ (List.mem_append_right _ (List.mem_append_left _ h))))))) gw_wo_c_X12_init
theorem go_c_X18_pass_3 : GoodIn wo_c_X18_pass (wsV RX18 133 RX18 yX18_keeps wo_c_keeps_y) := goodIn_sub (fun _ h => List.mem_cons_of_mem _ (List.mem_append_right _ (List.mem_append_right _ (List.mem_append_right _ (List.mem_append_right _ (List.mem_append_right _ (List.mem_append_right _ (List.mem_append_left _ h)))))))) (gw_a (by decide +kernel) gw_wo_c_keeps_y)
set_option maxHeartbeats 4000000 in
set_option maxRecDepth 100000 in
theorem c_X18_pass (l : Launch) (dC : Nat → ClassId) (dI : Nat → Nat → Nat) (b0 : Nat) (en : EnT) (sz : Nat) (mm stu cla pic act nts isn boa mas pai sol bal leg : Nat) (ap scr : Nat) (g : Nat → Option Nat) (kP : ClassId) (N : Nat → Prop) (n : Int32) (hNb : ∀ a, N a → b0 ≤ a ∧ a < sz) (hNw : ∀ a, N a → a ∉ List.map Prod.fst ([(mm, .inr (24, [.int 0, .ref stu, .ref cla, .ref pic, .ref act, .int 5, .int 50, .ref nts, .ref isn, .int 1600, .ref boa, .ref mas, .ref pai, .ref sol, .int 0, .ref bal, .ref leg])), (act, .inr (5, [.int 0, .ref en.2.2.1, .int 0]))] : va_W)) (hNr : ∀ a, N a → a ∉ List.map Prod.fst ([(pic, .inr (20, [.ref ap, .ref scr, .int 1600, .int 0, .int 0, .ref mm])), (ap, .inl (kP, 48, .inr (.inr (.inr (.inr g))))), (scr, .inr (5, [.int 0, .ref en.2.2.1, .int 0]))] : va_W)) : Met l yX18_pass wo_c_X18_pass ({ frames := 8, cells := 151, slots := 552, locals := 182 } : Room) (cP b0 en (dC, dI) [(kP, .object "UnderpaintModel$Place")] [(mm, .inr (24, [.int 0, .ref stu, .ref cla, .ref pic, .ref act, .int 5, .int 50, .ref nts, .ref isn, .int 1600, .ref boa, .ref mas, .ref pai, .ref sol, .int 0, .ref bal, .ref leg])), (act, .inr (5, [.int 0, .ref en.2.2.1, .int 0]))] [(pic, .inr (20, [.ref ap, .ref scr, .int 1600, .int 0, .int 0, .ref mm])), (ap, .inl (kP, 48, .inr (.inr (.inr (.inr g))))), (scr, .inr (5, [.int 0, .ref en.2.2.1, .int 0]))] sz (FamP (dC, dI) N en.2.2.1 g) [.ref mm, .int n]) (va_Qi (fun (r : Int32) (u : Int32 × List Value) => (u.1 = 0 ∧ r = 1600 + n ∧ (1 ≤ n ∧ n ≤ 50)) ∨ (u.1 = 1 ∧ ¬ (1 ≤ n ∧ n ≤ 50))) (fun u t => cB (dC, dI) [] [(mm, .inr (24, .int u.1 :: u.2))] (va_A [(mm, .inr (24, [.int 0, .ref stu, .ref cla, .ref pic, .ref act, .int 5, .int 50, .ref nts, .ref isn, .int 1600, .ref boa, .ref mas, .ref pai, .ref sol, .int 0, .ref bal, .ref leg])), (act, .inr (5, [.int 0, .ref en.2.2.1, .int 0]))] sz) (fun _ => True) t) (va_A [(mm, .inr (24, [.int 0, .ref stu, .ref cla, .ref pic, .ref act, .int 5, .int 50, .ref nts, .ref isn, .int 1600, .ref boa, .ref mas, .ref pai, .ref sol, .int 0, .ref bal, .ref leg])), (act, .inr (5, [.int 0, .ref en.2.2.1, .int 0]))] sz)) 151 552 (va_A [(mm, .inr (24, [.int 0, .ref stu, .ref cla, .ref pic, .ref act, .int 5, .int 50, .ref nts, .ref isn, .int 1600, .ref boa, .ref mas, .ref pai, .ref sol, .int 0, .ref bal, .ref leg])), (act, .inr (5, [.int 0, .ref en.2.2.1, .int 0]))] sz) := by
  refine Met.ofW (cc := cX18_pass) (maxL := 2) (ret := (some .int)) (by decide) rfl ?_
  intro p e s m args below meth c s₁ B hml hv
  obtain ⟨rfl, hsz, hb0, hE, hPP, hK, hDD, hF0⟩ := hv
  have hx := B.exec
  have hb := B.bytes
  have hr := B.returns
  have hts := atoms_spec (ws := wo_c_X18_pass) B.pre
  have hown : s.vm.findClass RX18 = some m.cls := findClass_of_methodNamed B.named
  have hlocks := B.notSynchronized
  subst hsz
  have hN0 := en_N hPP hDD rfl
  have hP : va_P (dC, dI) vwCl [(mm, .inr (24, [.int 0, .ref stu, .ref cla, .ref pic, .ref act, .int 5, .int 50, .ref nts, .ref isn, .int 1600, .ref boa, .ref mas, .ref pai, .ref sol, .int 0, .ref bal, .ref leg])), (act, .inr (5, [.int 0, .ref en.2.2.1, .int 0]))] s.heap := hPP.sub [0, 1] rfl
  have hR0 : va_P (dC, dI) vwCl [(pic, .inr (20, [.ref ap, .ref scr, .int 1600, .int 0, .int 0, .ref mm])), (ap, .inl (kP, 48, .inr (.inr (.inr (.inr g))))), (scr, .inr (5, [.int 0, .ref en.2.2.1, .int 0]))] s.heap := hPP.sub [2, 3, 4] rfl
  have hD0 : va_D (fun q => b0 ≤ q) [(mm, .inr (24, [.int 0, .ref stu, .ref cla, .ref pic, .ref act, .int 5, .int 50, .ref nts, .ref isn, .int 1600, .ref boa, .ref mas, .ref pai, .ref sol, .int 0, .ref bal, .ref leg])), (act, .inr (5, [.int 0, .ref en.2.2.1, .int 0]))] := hDD.sub [0, 1] (by decide) rfl
  have hDr : va_D (fun q => b0 ≤ q) [(pic, .inr (20, [.ref ap, .ref scr, .int 1600, .int 0, .int 0, .ref mm])), (ap, .inl (kP, 48, .inr (.inr (.inr (.inr g))))), (scr, .inr (5, [.int 0, .ref en.2.2.1, .int 0]))] := hDD.sub [2, 3, 4] (by decide) rfl
  have hAb := en_A (sz := s.heap.size) hD0 hb0
  have hD := hD0.self (sz := s.heap.size)
  generalize hAe : va_A [(mm, .inr (24, [.int 0, .ref stu, .ref cla, .ref pic, .ref act, .int 5, .int 50, .ref nts, .ref isn, .int 1600, .ref boa, .ref mas, .ref pai, .ref sol, .int 0, .ref bal, .ref leg])), (act, .inr (5, [.int 0, .ref en.2.2.1, .int 0]))] s.heap.size = A at hD hAb hN0 ⊢
  have hA : ∀ q : Nat, s.heap.size ≤ q → A q := fun q h => by rw [← hAe]; exact Or.inr h
  have hS : va_S A s.heap s.heap [] := va_S.rf
  have hR := hR0
  have hl := lv_entry [.ref mm, .int n] (n := 2) (Nat.le_of_ble_eq_true rfl)
  rw [lg_entry_eq]
  generalize (lg_sl [.ref mm, .int n] ++ List.replicate (2 - (lg_sl [.ref mm, .int n]).length) Slot.unset).toArray = ls at hl ⊢
  have hl : lv_has ls 2 [(0, .ref mm), (1, .int n)] := hl
  have hR0b := hR0
  have hDrb := hDr
  have hN0b := hN0
  refine lv_aload_n hx hb dX18_pass_0 rfl (lv_at hl 0 rfl) ?_
  refine lv_iconst (v := 0) hx hb dX18_pass_1 (by decide) ?_
  refine va_put (D := (dC, dI)) (ci := 24) (v := .int 0) (ty := .int) (C := RX18) (T := TX18) (N := 17) hx hb hts (by decide +kernel) tyX18 tyX18_ok nmX18 hown hK hP hD hS 0 rfl rfl 0 (by decide) (hts (.fieldLink RX18 67 "UnderpaintModel" "code" "I") (by decide +kernel)) (fun _ h9 => h9) rfl (by decide +kernel) rfl rfl (Nat.le_of_ble_eq_true rfl) dX18_pass_2 (fun H locs hP hD hS => ?_)
  have hP : va_P (dC, dI) vwCl [(mm, .inr (24, [.int 0, .ref stu, .ref cla, .ref pic, .ref act, .int 5, .int 50, .ref nts, .ref isn, .int 1600, .ref boa, .ref mas, .ref pai, .ref sol, .int 0, .ref bal, .ref leg])), (act, .inr (5, [.int 0, .ref en.2.2.1, .int 0]))] H := hP
  have hD : va_D A [(mm, .inr (24, [.int 0, .ref stu, .ref cla, .ref pic, .ref act, .int 5, .int 50, .ref nts, .ref isn, .int 1600, .ref boa, .ref mas, .ref pai, .ref sol, .int 0, .ref bal, .ref leg])), (act, .inr (5, [.int 0, .ref en.2.2.1, .int 0]))] := hD
  have hR := en_R hR0 hN0 hS
  refine lv_iload_n hx hb dX18_pass_5 rfl (lv_at hl 1 rfl) ?_
  refine lv_iconst (v := 1) hx hb dX18_pass_6 (by decide) ?_
  refine lv_bipush (v := 50) hx hb dX18_pass_7 (by decide) ?_
  have hPc := (hP.app hR).sub (ws' := [] ++ []) [] rfl
  have hDc := (en_DD hD hDr hN0 hAb).sub (ws' := [] ++ []) [] (by decide) rfl
  have hKc := hK.sub (tys' := []) [] rfl
  have hFc := va_free (wc := []) hD hS hA [] rfl
  refine va_calli (va_runS (As := [.int n, .int 1, .int 50]) (rest := []) ⟨hx, hb, hml, hown, hts⟩ (c_X18_in l dC dI b0 en H.size n 1 50) (va_cwS 3 hts go_c_X18_pass_0 rfl rfl rfl (by decide +kernel) ⟨Nat.le_of_ble_eq_true rfl, Nat.le_of_ble_eq_true rfl⟩) ⟨cP.blind, cP.use (en_z hb0 hS) (hE.on hAb hS) hPc hKc hDc trivial⟩ rfl rfl hl.1 rfl (lv_room (Nat.le_of_ble_eq_true rfl)) dX18_pass_9 ⟨Nat.le_of_ble_eq_true rfl, Nat.le_of_ble_eq_true rfl⟩) hS (fun q _ h => hFc q h) hFc (fun r_1 u t H1 locs ht hvm hw hB hz1 hk1 hS => ?_)
  have hP1 : va_P (dC, dI) vwCl [] H1 := fun k q h => by simp at h
  have hD1 : va_D (va_A [] H.size) [] := ⟨fun i j p q h => by simp at h, fun k q h => by simp at h⟩
  try dsimp only at hw
  obtain ⟨hP, hD⟩ := va_join (wr := [(mm, .inr (24, [.int 0, .ref stu, .ref cla, .ref pic, .ref act, .int 5, .int 50, .ref nts, .ref isn, .int 1600, .ref boa, .ref mas, .ref pai, .ref sol, .int 0, .ref bal, .ref leg])), (act, .inr (5, [.int 0, .ref en.2.2.1, .int 0]))]) (w1 := []) hP hD [] [0, 1] rfl rfl (by decide) (by decide) hk1 hFc hP1 hD1
  generalize H1 = H at hP hS ⊢
  have hP : va_P (dC, dI) vwCl [(mm, .inr (24, [.int 0, .ref stu, .ref cla, .ref pic, .ref act, .int 5, .int 50, .ref nts, .ref isn, .int 1600, .ref boa, .ref mas, .ref pai, .ref sol, .int 0, .ref bal, .ref leg])), (act, .inr (5, [.int 0, .ref en.2.2.1, .int 0]))] H := hP
  have hD : va_D A [(mm, .inr (24, [.int 0, .ref stu, .ref cla, .ref pic, .ref act, .int 5, .int 50, .ref nts, .ref isn, .int 1600, .ref boa, .ref mas, .ref pai, .ref sol, .int 0, .ref bal, .ref leg])), (act, .inr (5, [.int 0, .ref en.2.2.1, .int 0]))] := hD
  have hR := en_R hR0 hN0 hS
  refine W.widen (k := 0) (n := 0) (Nat.le_of_ble_eq_true rfl) (Nat.le_of_ble_eq_true rfl) ?_
  have h_2 := hw
  refine lv_if_eq (tgt := 53) hx hb dX18_pass_12 (by decide) (fun c_3 => ?_) (fun c_3 => ?_)
  · skip
    refine lv_aload_n hx hb dX18_pass_53 rfl (lv_at hl 0 rfl) ?_
    refine lv_iconst (v := 1) hx hb dX18_pass_54 (by decide) ?_
    have hPc := (hP.app hR).sub (ws' := [(mm, .inr (24, .int 0 :: ([.ref stu, .ref cla, .ref pic, .ref act, .int 5, .int 50, .ref nts, .ref isn, .int 1600, .ref boa, .ref mas, .ref pai, .ref sol, .int 0, .ref bal, .ref leg])))] ++ []) [0] rfl
    have hDc := (en_DD hD hDr hN0 hAb).sub (ws' := [(mm, .inr (24, .int 0 :: ([.ref stu, .ref cla, .ref pic, .ref act, .int 5, .int 50, .ref nts, .ref isn, .int 1600, .ref boa, .ref mas, .ref pai, .ref sol, .int 0, .ref bal, .ref leg])))] ++ []) [0] (by decide) rfl
    have hKc := hK.sub (tys' := []) [] rfl
    have hFc := va_free (wc := [(mm, .inr (24, .int 0 :: ([.ref stu, .ref cla, .ref pic, .ref act, .int 5, .int 50, .ref nts, .ref isn, .int 1600, .ref boa, .ref mas, .ref pai, .ref sol, .int 0, .ref bal, .ref leg])))]) hD hS hA [0] rfl
    refine va_calli (va_runV (As := [.int 1]) (rest := []) ⟨hx, hb, hml, hown, hts⟩ (c_X18_fails l dC dI b0 en H.size mm 0 1 ([.ref stu, .ref cla, .ref pic, .ref act, .int 5, .int 50, .ref nts, .ref isn, .int 1600, .ref boa, .ref mas, .ref pai, .ref sol, .int 0, .ref bal, .ref leg])) (cwV 1 hts go_c_X18_pass_1 rfl rfl rfl (by decide +kernel) ⟨Nat.le_of_ble_eq_true rfl, Nat.le_of_ble_eq_true rfl⟩) ⟨cP.blind, va_recv hK hP (ci := 24) (q0 := 0) rfl rfl, cP.use (en_z hb0 hS) (hE.on hAb hS) hPc hKc hDc trivial⟩ rfl rfl hl.1 rfl (lv_room (Nat.le_of_ble_eq_true rfl)) dX18_pass_55 ⟨Nat.le_of_ble_eq_true rfl, Nat.le_of_ble_eq_true rfl⟩) hS (fun q _ h => hFc q h) hFc (fun r_4 u t H1 locs ht hvm hw hB hz1 hk1 hS => ?_)
    obtain ⟨hP1, hK1, hD1, hF1⟩ := hB
    rw [ht] at hP1
    try rw [ht] at hF1
    have hK1 := va_K.moved hvm.symm hK1
    try dsimp only at hw
    obtain ⟨hP, hD⟩ := va_join (wr := [(act, .inr (5, [.int 0, .ref en.2.2.1, .int 0]))]) (w1 := [(mm, .inr (24, [.int 1, .ref stu, .ref cla, .ref pic, .ref act, .int 5, .int 50, .ref nts, .ref isn, .int 1600, .ref boa, .ref mas, .ref pai, .ref sol, .int 0, .ref bal, .ref leg]))]) hP hD [0] [1] rfl rfl (by decide) (by decide) hk1 hFc hP1 hD1
    generalize H1 = H at hP hS ⊢
    have hP : va_P (dC, dI) vwCl [(act, .inr (5, [.int 0, .ref en.2.2.1, .int 0])), (mm, .inr (24, [.int 1, .ref stu, .ref cla, .ref pic, .ref act, .int 5, .int 50, .ref nts, .ref isn, .int 1600, .ref boa, .ref mas, .ref pai, .ref sol, .int 0, .ref bal, .ref leg]))] H := hP
    have hD : va_D A [(act, .inr (5, [.int 0, .ref en.2.2.1, .int 0])), (mm, .inr (24, [.int 1, .ref stu, .ref cla, .ref pic, .ref act, .int 5, .int 50, .ref nts, .ref isn, .int 1600, .ref boa, .ref mas, .ref pai, .ref sol, .int 0, .ref bal, .ref leg]))] := hD
    have hR := en_R hR0 hN0 hS
    refine W.widen (k := 0) (n := 0) (Nat.le_of_ble_eq_true rfl) (Nat.le_of_ble_eq_true rfl) ?_
    subst r_4
    refine W.widen (k := 151) (n := 552) (Nat.le_of_ble_eq_true rfl) (Nat.le_of_ble_eq_true rfl) ?_
    exact W.iret (v := 0) hx hb hr (fun t ht hW => ⟨⟨0, ⟨1, [.ref stu, .ref cla, .ref pic, .ref act, .int 5, .int 50, .ref nts, .ref isn, .int 1600, .ref boa, .ref mas, .ref pai, .ref sol, .int 0, .ref bal, .ref leg]⟩, rfl, (z_c_X18_pass_173 n (b_no h_2 c_3)), cB.mk ht hW (hP.sub [1] rfl) (hK.sub [] rfl) (hD.sub [1] (by decide) rfl) (trivial)⟩, hS.F ht⟩) hS.2.2 dX18_pass_58
  · skip
    obtain ⟨yy, hN, hNe⟩ : ∃ yy : Nat, yy ≤ 50 ∧ n = nI yy := yN (z_c_X18_pass_174 n (b_yes h_2 c_3))
    refine lv_aload_n hx hb dX18_pass_15 rfl (lv_at hl 0 rfl) ?_
    have hz9 := hS.1
    refine va_newX (ci := 18) (fs := [.int 0, .null]) (C := RX12) (T := TX12) (N := 2) hx hb hts (by decide +kernel) tyX12 tyX12_ok hown (hts (.classLink RX18 128 RX12) (by decide +kernel)) (hts (.instantiable RX12 2) (by decide +kernel)) (hts (.initialized RX12) (by decide +kernel)) hK hP hD hS hA rfl (fun j hj => by rcases (show j = 0 ∨ j = 1 by omega) with rfl | rfl <;> rfl) (Nat.le_of_ble_eq_true rfl) (Nat.le_of_ble_eq_true rfl) dX18_pass_16 (fun q_5 H hP hD hS hoq hoz => ?_)
    have hP : va_P (dC, dI) vwCl [(mm, .inr (24, [.int 0, .ref stu, .ref cla, .ref pic, .ref act, .int 5, .int 50, .ref nts, .ref isn, .int 1600, .ref boa, .ref mas, .ref pai, .ref sol, .int 0, .ref bal, .ref leg])), (act, .inr (5, [.int 0, .ref en.2.2.1, .int 0])), (q_5, .inr (18, [.int 0, .null]))] H := hP
    have hD : va_D A [(mm, .inr (24, [.int 0, .ref stu, .ref cla, .ref pic, .ref act, .int 5, .int 50, .ref nts, .ref isn, .int 1600, .ref boa, .ref mas, .ref pai, .ref sol, .int 0, .ref bal, .ref leg])), (act, .inr (5, [.int 0, .ref en.2.2.1, .int 0])), (q_5, .inr (18, [.int 0, .null]))] := hD
    have hR := en_R hR0 hN0 hS
    refine W.widen (k := 1) (n := 2) (Nat.le_of_ble_eq_true rfl) (Nat.le_of_ble_eq_true rfl) ?_
    have hgz_q_5 : s.heap.size ≤ q_5 := by rw [hoz]; exact hz9
    have hoz_q_5 := hoz
    refine lv_dup hx hb dX18_pass_19 rfl ?_
    refine lv_bipush (v := 121) hx hb dX18_pass_20 (by decide) ?_
    refine lv_iconst (v := 3) hx hb dX18_pass_22 (by decide) ?_
    have hz9 := hS.1
    refine va_newaX (atype := .int) (a0 := (3, .inl (fun _ => 0))) hx hb (hts (.arrayClass .int) (by decide +kernel)) rfl hK hP hD hS hA (fun _ => rfl) (by decide) (by decide) (by decide) (Nat.le_of_ble_eq_true rfl) (Nat.le_of_ble_eq_true rfl) dX18_pass_23 (fun q_6 k_7 H hK hP hD hS hoq hoz => ?_)
    have hP : va_P (dC, dI) vwCl [(mm, .inr (24, [.int 0, .ref stu, .ref cla, .ref pic, .ref act, .int 5, .int 50, .ref nts, .ref isn, .int 1600, .ref boa, .ref mas, .ref pai, .ref sol, .int 0, .ref bal, .ref leg])), (act, .inr (5, [.int 0, .ref en.2.2.1, .int 0])), (q_5, .inr (18, [.int 0, .null])), (q_6, .inl (k_7, 3, .inl (fun _ => 0)))] H := hP
    have hD : va_D A [(mm, .inr (24, [.int 0, .ref stu, .ref cla, .ref pic, .ref act, .int 5, .int 50, .ref nts, .ref isn, .int 1600, .ref boa, .ref mas, .ref pai, .ref sol, .int 0, .ref bal, .ref leg])), (act, .inr (5, [.int 0, .ref en.2.2.1, .int 0])), (q_5, .inr (18, [.int 0, .null])), (q_6, .inl (k_7, 3, .inl (fun _ => 0)))] := hD
    have hR := en_R hR0 hN0 hS
    refine W.widen (k := 2) (n := 5) (Nat.le_of_ble_eq_true rfl) (Nat.le_of_ble_eq_true rfl) ?_
    have hgz_q_6 : s.heap.size ≤ q_6 := by rw [hoz]; exact hz9
    have hoz_q_6 := hoz
    refine lv_dup hx hb dX18_pass_25 rfl ?_
    refine lv_iconst (v := 0) hx hb dX18_pass_26 (by decide) ?_
    refine lv_iload_n hx hb dX18_pass_27 rfl (lv_at hl 1 rfl) ?_
    refine va_iast hx hb hK hP hD hS 3 1 rfl rfl (vp_in_nI (by decide : 0 < 3) (by decide)) dX18_pass_28 (fun H locs hP hD hS => ?_)
    generalize ef_8 : upd (fun _ => 0) (0 : Int32).toNatClampNeg n = f_8 at hP hD
    have hP : va_P (dC, dI) vwCl [(mm, .inr (24, [.int 0, .ref stu, .ref cla, .ref pic, .ref act, .int 5, .int 50, .ref nts, .ref isn, .int 1600, .ref boa, .ref mas, .ref pai, .ref sol, .int 0, .ref bal, .ref leg])), (act, .inr (5, [.int 0, .ref en.2.2.1, .int 0])), (q_5, .inr (18, [.int 0, .null])), (q_6, .inl (k_7, 3, .inl f_8))] H := hP
    have hD : va_D A [(mm, .inr (24, [.int 0, .ref stu, .ref cla, .ref pic, .ref act, .int 5, .int 50, .ref nts, .ref isn, .int 1600, .ref boa, .ref mas, .ref pai, .ref sol, .int 0, .ref bal, .ref leg])), (act, .inr (5, [.int 0, .ref en.2.2.1, .int 0])), (q_5, .inr (18, [.int 0, .null])), (q_6, .inl (k_7, 3, .inl f_8))] := hD
    have hR := en_R hR0 hN0 hS
    refine lv_dup hx hb dX18_pass_29 rfl ?_
    refine lv_iconst (v := 1) hx hb dX18_pass_30 (by decide) ?_
    refine lv_aload_n hx hb dX18_pass_31 rfl (lv_at hl 0 rfl) ?_
    refine va_get (D := (dC, dI)) (ci := 24) (v := .int 5) (C := RX18) (T := TX18) (N := 17) hx hb hts (by decide +kernel) hown hK hP 0 rfl rfl 5 (by decide) (hts (.fieldLink RX18 32 "UnderpaintModel" "light" "I") (by decide +kernel)) (fun _ h9 => h9) rfl dX18_pass_32 ?_
    refine va_iast hx hb hK hP hD hS 3 1 rfl rfl (vp_in_nI (by decide : 1 < 3) (by decide)) dX18_pass_35 (fun H locs hP hD hS => ?_)
    generalize ef_9 : upd f_8 (1 : Int32).toNatClampNeg 5 = f_9 at hP hD
    have hP : va_P (dC, dI) vwCl [(mm, .inr (24, [.int 0, .ref stu, .ref cla, .ref pic, .ref act, .int 5, .int 50, .ref nts, .ref isn, .int 1600, .ref boa, .ref mas, .ref pai, .ref sol, .int 0, .ref bal, .ref leg])), (act, .inr (5, [.int 0, .ref en.2.2.1, .int 0])), (q_5, .inr (18, [.int 0, .null])), (q_6, .inl (k_7, 3, .inl f_9))] H := hP
    have hD : va_D A [(mm, .inr (24, [.int 0, .ref stu, .ref cla, .ref pic, .ref act, .int 5, .int 50, .ref nts, .ref isn, .int 1600, .ref boa, .ref mas, .ref pai, .ref sol, .int 0, .ref bal, .ref leg])), (act, .inr (5, [.int 0, .ref en.2.2.1, .int 0])), (q_5, .inr (18, [.int 0, .null])), (q_6, .inl (k_7, 3, .inl f_9))] := hD
    have hR := en_R hR0 hN0 hS
    refine lv_dup hx hb dX18_pass_36 rfl ?_
    refine lv_iconst (v := 2) hx hb dX18_pass_37 (by decide) ?_
    refine lv_aload_n hx hb dX18_pass_38 rfl (lv_at hl 0 rfl) ?_
    refine va_get (D := (dC, dI)) (ci := 24) (v := .int 50) (C := RX18) (T := TX18) (N := 17) hx hb hts (by decide +kernel) hown hK hP 0 rfl rfl 6 (by decide) (hts (.fieldLink RX18 36 "UnderpaintModel" "damp" "I") (by decide +kernel)) (fun _ h9 => h9) rfl dX18_pass_39 ?_
    refine va_iast hx hb hK hP hD hS 3 1 rfl rfl (vp_in_nI (by decide : 2 < 3) (by decide)) dX18_pass_42 (fun H locs hP hD hS => ?_)
    generalize ef_10 : upd f_9 (2 : Int32).toNatClampNeg 50 = f_10 at hP hD
    have hP : va_P (dC, dI) vwCl [(mm, .inr (24, [.int 0, .ref stu, .ref cla, .ref pic, .ref act, .int 5, .int 50, .ref nts, .ref isn, .int 1600, .ref boa, .ref mas, .ref pai, .ref sol, .int 0, .ref bal, .ref leg])), (act, .inr (5, [.int 0, .ref en.2.2.1, .int 0])), (q_5, .inr (18, [.int 0, .null])), (q_6, .inl (k_7, 3, .inl f_10))] H := hP
    have hD : va_D A [(mm, .inr (24, [.int 0, .ref stu, .ref cla, .ref pic, .ref act, .int 5, .int 50, .ref nts, .ref isn, .int 1600, .ref boa, .ref mas, .ref pai, .ref sol, .int 0, .ref bal, .ref leg])), (act, .inr (5, [.int 0, .ref en.2.2.1, .int 0])), (q_5, .inr (18, [.int 0, .null])), (q_6, .inl (k_7, 3, .inl f_10))] := hD
    have hR := en_R hR0 hN0 hS
    have hPc := (hP.app hR).sub (ws' := [(q_5, .inr (18, [.int 0, .null]))] ++ []) [2] rfl
    have hDc := (en_DD hD hDr hN0 hAb).sub (ws' := [(q_5, .inr (18, [.int 0, .null]))] ++ []) [2] (by decide) rfl
    have hKc := hK.sub (tys' := []) [] rfl
    have hFc := va_free (wc := [(q_5, .inr (18, [.int 0, .null]))]) hD hS hA [2] rfl
    refine va_callv (va_runI (As := [.int 121, .ref q_6]) (rest := [.ref q_5, .ref mm]) ⟨hx, hb, hml, hown, hts⟩ (c_X12_init l dC dI b0 en H.size q_5 q_6 121 (by decide +kernel) (by decide +kernel)) (cwI 2 hts go_c_X18_pass_2 rfl rfl rfl (hts (.initialized RX12) (by decide +kernel)) (hts (.methodLink RX18 130 yX12_init) (by decide +kernel)) (hts (.instanceMethod yX12_init) (by decide +kernel)) rfl (by decide +kernel) ⟨Nat.le_of_ble_eq_true rfl, Nat.le_of_ble_eq_true rfl⟩) ⟨cP.blind, cP.use (en_z hb0 hS) (hE.on hAb hS) hPc hKc hDc trivial⟩ rfl rfl hl.1 rfl (lv_room (Nat.le_of_ble_eq_true rfl)) dX18_pass_43 ⟨Nat.le_of_ble_eq_true rfl, Nat.le_of_ble_eq_true rfl⟩) hS (fun q _ h => hFc q h) hFc (fun u t H1 locs ht hvm hw hB hz1 hk1 hS => ?_)
    obtain ⟨hP1, hK1, hD1, hF1⟩ := hB
    rw [ht] at hP1
    try rw [ht] at hF1
    have hK1 := va_K.moved hvm.symm hK1
    try dsimp only at hw
    obtain ⟨hP, hD⟩ := va_join (wr := [(mm, .inr (24, [.int 0, .ref stu, .ref cla, .ref pic, .ref act, .int 5, .int 50, .ref nts, .ref isn, .int 1600, .ref boa, .ref mas, .ref pai, .ref sol, .int 0, .ref bal, .ref leg])), (act, .inr (5, [.int 0, .ref en.2.2.1, .int 0])), (q_6, .inl (k_7, 3, .inl f_10))]) (w1 := [(q_5, .inr (18, [.int 121, .ref q_6]))]) hP hD [2] [0, 1, 3] rfl rfl (by decide) (by decide) hk1 hFc hP1 hD1
    generalize H1 = H at hP hS ⊢
    have hP : va_P (dC, dI) vwCl [(mm, .inr (24, [.int 0, .ref stu, .ref cla, .ref pic, .ref act, .int 5, .int 50, .ref nts, .ref isn, .int 1600, .ref boa, .ref mas, .ref pai, .ref sol, .int 0, .ref bal, .ref leg])), (act, .inr (5, [.int 0, .ref en.2.2.1, .int 0])), (q_6, .inl (k_7, 3, .inl f_10)), (q_5, .inr (18, [.int 121, .ref q_6]))] H := hP
    have hD : va_D A [(mm, .inr (24, [.int 0, .ref stu, .ref cla, .ref pic, .ref act, .int 5, .int 50, .ref nts, .ref isn, .int 1600, .ref boa, .ref mas, .ref pai, .ref sol, .int 0, .ref bal, .ref leg])), (act, .inr (5, [.int 0, .ref en.2.2.1, .int 0])), (q_6, .inl (k_7, 3, .inl f_10)), (q_5, .inr (18, [.int 121, .ref q_6]))] := hD
    have hR := en_R hR0 hN0 hS
    refine W.widen (k := 2) (n := 5) (Nat.le_of_ble_eq_true rfl) (Nat.le_of_ble_eq_true rfl) ?_
    refine lv_iconst (v := (-1)) hx hb dX18_pass_46 (by decide) ?_
    have hPc := (hP.app hR).sub (ws' := [(mm, .inr (24, [.int 0, .ref stu, .ref cla, .ref pic, .ref act, .int 5, .int 50, .ref nts, .ref isn, .int 1600, .ref boa, .ref mas, .ref pai, .ref sol, .int 0, .ref bal, .ref leg])), (act, .inr (5, [.int 0, .ref en.2.2.1, .int 0]))] ++ [(pic, .inr (20, [.ref ap, .ref scr, .int 1600, .int 0, .int 0, .ref mm])), (ap, .inl (kP, 48, .inr (.inr (.inr (.inr g))))), (scr, .inr (5, [.int 0, .ref en.2.2.1, .int 0])), (q_5, .inr (18, [.int 121, .ref q_6])), (q_6, .inl (k_7, 3, .inl f_10))]) [0, 1, 4, 5, 6, 3, 2] rfl
    have hDc := (en_DD hD hDr hN0 hAb).sub (ws' := [(mm, .inr (24, [.int 0, .ref stu, .ref cla, .ref pic, .ref act, .int 5, .int 50, .ref nts, .ref isn, .int 1600, .ref boa, .ref mas, .ref pai, .ref sol, .int 0, .ref bal, .ref leg])), (act, .inr (5, [.int 0, .ref en.2.2.1, .int 0]))] ++ [(pic, .inr (20, [.ref ap, .ref scr, .int 1600, .int 0, .int 0, .ref mm])), (ap, .inl (kP, 48, .inr (.inr (.inr (.inr g))))), (scr, .inr (5, [.int 0, .ref en.2.2.1, .int 0])), (q_5, .inr (18, [.int 121, .ref q_6])), (q_6, .inl (k_7, 3, .inl f_10))]) [0, 1, 4, 5, 6, 3, 2] (by decide) rfl
    have hKc := hK.sub (tys' := [(kP, .object "UnderpaintModel$Place"), (k_7, .int)]) [0, 1] rfl
    have hFc := va_free (wc := [(mm, .inr (24, [.int 0, .ref stu, .ref cla, .ref pic, .ref act, .int 5, .int 50, .ref nts, .ref isn, .int 1600, .ref boa, .ref mas, .ref pai, .ref sol, .int 0, .ref bal, .ref leg])), (act, .inr (5, [.int 0, .ref en.2.2.1, .int 0]))]) hD hS hA [0, 1] rfl
    refine va_calli (va_runV (As := [.ref q_5, .int (-1)]) (rest := []) ⟨hx, hb, hml, hown, hts⟩ (c_keeps_y l dC dI b0 en H.size mm stu cla pic act nts isn boa mas pai sol bal leg ap scr g kP N q_5 q_6 k_7 f_10 yy (fun a9 h9 => ⟨(hNb a9 h9).1, Nat.lt_of_lt_of_le (hNb a9 h9).2 hS.1⟩) (fun a9 h9 z9 => by have g1 := hNw a9 h9; have g2 := hNr a9 h9; have g3 := (hNb a9 h9).2; simp only [List.map_cons, List.map_nil, List.mem_cons, List.not_mem_nil, or_false, not_or] at g1 g2 z9 <;> omega) (fun a9 h9 z9 => by have g1 := hNw a9 h9; have g2 := hNr a9 h9; have g3 := (hNb a9 h9).2; simp only [List.map_cons, List.map_nil, List.mem_cons, List.not_mem_nil, or_false, not_or] at g1 g2 z9 <;> omega) hN ((show f_10 0 = n from (by rw [← ef_10, ← ef_9, ← ef_8]; rfl)).trans hNe)) (cwV 2 hts go_c_X18_pass_3 rfl rfl rfl (by decide +kernel) ⟨Nat.le_of_ble_eq_true rfl, Nat.le_of_ble_eq_true rfl⟩) ⟨cP.blind, va_recv hK hP (ci := 24) (q0 := 0) rfl rfl, cP.use (en_z hb0 hS) (hE.on hAb hS) hPc hKc hDc (hF0.on (fun a9 h8 h9 => by rw [← hAe]; exact vA1 h8 (hNw a9 h9)) hS)⟩ rfl rfl hl.1 rfl (lv_room (Nat.le_of_ble_eq_true rfl)) dX18_pass_47 ⟨Nat.le_of_ble_eq_true rfl, Nat.le_of_ble_eq_true rfl⟩) hS (fun q _ h => hFc q h) hFc (fun r_15 ⟨kc_13, vs_14⟩ t H1 locs ht hvm hw hB hz1 hk1 hS => ?_)
    obtain ⟨hP1, hK1, hD1, hF1⟩ := hB
    rw [ht] at hP1
    try rw [ht] at hF1
    have hK1 := va_K.moved hvm.symm hK1
    try dsimp only at hw
    obtain ⟨hP, hD⟩ := va_join (wr := [(q_6, .inl (k_7, 3, .inl f_10)), (q_5, .inr (18, [.int 121, .ref q_6]))]) (w1 := [(mm, .inr (24, .int kc_13 :: vs_14))]) hP hD [0, 1] [2, 3] rfl rfl (by decide) (by decide) hk1 hFc hP1 hD1
    generalize H1 = H at hP hS ⊢
    have hP : va_P (dC, dI) vwCl [(q_6, .inl (k_7, 3, .inl f_10)), (q_5, .inr (18, [.int 121, .ref q_6])), (mm, .inr (24, .int kc_13 :: vs_14))] H := hP
    have hD : va_D A [(q_6, .inl (k_7, 3, .inl f_10)), (q_5, .inr (18, [.int 121, .ref q_6])), (mm, .inr (24, .int kc_13 :: vs_14))] := hD
    have hR := en_R hR0 hN0 hS
    refine W.widen (k := 151) (n := 552) (Nat.le_of_ble_eq_true rfl) (Nat.le_of_ble_eq_true rfl) ?_
    have h_16 := hw
    refine lv_goto (tgt := 58) hx hb dX18_pass_50 (by decide) ?_
    refine W.widen (k := 151) (n := 552) (Nat.le_of_ble_eq_true rfl) (Nat.le_of_ble_eq_true rfl) ?_
    exact W.iret (v := r_15) hx hb hr (fun t ht hW => ⟨⟨r_15, ⟨kc_13, vs_14⟩, rfl, (z_c_X18_pass_175 n yy kc_13 r_15 (b_yes h_2 c_3) hNe h_16), cB.mk ht hW (hP.sub [2] rfl) (hK.sub [] rfl) (hD.sub [2] (by decide) rfl) (trivial)⟩, hS.F ht⟩) hS.2.2 dX18_pass_58
theorem z_c_X18_scratch_176 (x : Int32) (y : Int32) (de : Int32) (a_0 : ¬ ((0 ≤ x ∧ x < 8) ∧ (0 ≤ y ∧ y < 6))) : (1 : Int32) = if ((0 ≤ x ∧ x < 8) ∧ (0 ≤ y ∧ y < 6)) ∧ (1 ≤ de ∧ de ≤ 999) then 2 else 1 := by grind
theorem z_c_X18_scratch_177 (x : Int32) (y : Int32) (de : Int32) (a_0 : (0 ≤ x ∧ x < 8) ∧ (0 ≤ y ∧ y < 6)) (a_1 : ¬ (1 ≤ de ∧ de ≤ 999)) : (1 : Int32) = if ((0 ≤ x ∧ x < 8) ∧ (0 ≤ y ∧ y < 6)) ∧ (1 ≤ de ∧ de ≤ 999) then 2 else 1 := by grind
theorem z_c_X18_scratch_178 (x : Int32) (y : Int32) (de : Int32) (x_12 : Int32) (x_13 : Int32) (f_15 : Nat → Int32) (a_0 : (0 ≤ x ∧ x < 8) ∧ (0 ≤ y ∧ y < 6)) (a_1 : 1 ≤ de ∧ de ≤ 999) (a_2 : x_12 = 8 * y) (a_3 : x_13 = x_12 + x) (a_4 : f_15 0 = x_13) : 0 ≤ f_15 0 := by grind
theorem z_c_X18_scratch_179 (x : Int32) (y : Int32) (de : Int32) (x_12 : Int32) (x_13 : Int32) (f_15 : Nat → Int32) (a_0 : (0 ≤ x ∧ x < 8) ∧ (0 ≤ y ∧ y < 6)) (a_1 : 1 ≤ de ∧ de ≤ 999) (a_2 : x_12 = 8 * y) (a_3 : x_13 = x_12 + x) (a_4 : f_15 0 = x_13) : f_15 0 < 48 := by grind
theorem z_c_X18_scratch_180 (x : Int32) (y : Int32) (de : Int32) (x_12 : Int32) (x_13 : Int32) (kc_20 : Int32) (a_0 : (0 ≤ x ∧ x < 8) ∧ (0 ≤ y ∧ y < 6)) (a_1 : 1 ≤ de ∧ de ≤ 999) (a_2 : x_12 = 8 * y) (a_3 : x_13 = x_12 + x) (a_4 : kc_20 = 2) : kc_20 = if ((0 ≤ x ∧ x < 8) ∧ (0 ≤ y ∧ y < 6)) ∧ (1 ≤ de ∧ de ≤ 999) then 2 else 1 := by grind
set_option maxRecDepth 100000 in
theorem gw_wsX18_isPlace : wsX18_isPlace.all goodWord = true := by decide +kernel
def wo_c_X18_scratch_w : List Cond := [Cond.fieldLink RX18 67 "UnderpaintModel" "code" "I", Cond.classLink RX18 128 RX12, Cond.instantiable RX12 2, Cond.initialized RX12, Cond.arrayClass .int, Cond.methodLink RX18 130 yX12_init, Cond.instanceMethod yX12_init]
def wo_c_X18_scratch : List Cond := .code yX18_scratch cX18_scratch 4 (some .int) :: (wo_c_X18_scratch_w ++ (u_ws RX18 TX18 17 ++ (u_ws RX12 TX12 2 ++ (va_wsS RX18 124 yX18_isPlace wsX18_isPlace ++ (wsV RX18 88 RX18 yX18_fails wsX18_fails ++ (va_wsS RX18 70 yX18_in wsX18_in ++ (wo_c_X12_init ++ (wsV RX18 133 RX18 yX18_keeps wo_c_keeps_s ++ List.nil))))))))
theorem gw_wo_c_X18_scratch : wo_c_X18_scratch.all goodWord = true := gw_c (by decide +kernel) (gw_a (by decide +kernel) (gw_a (by decide +kernel) (gw_a (by decide +kernel) (gw_a (gw_a (by decide +kernel) gw_wsX18_isPlace) (gw_a (gw_a (by decide +kernel) gw_wsX18_fails) (gw_a (gw_a (by decide +kernel) gw_wsX18_in) (gw_a gw_wo_c_X12_init (gw_a (gw_a (by decide +kernel) gw_wo_c_keeps_s) rfl))))))))
theorem go_c_X18_scratch_0 : GoodIn wo_c_X18_scratch (va_wsS RX18 124 yX18_isPlace wsX18_isPlace) := goodIn_sub (fun _ h => List.mem_cons_of_mem _ (List.mem_append_right _ (List.mem_append_right _ (List.mem_append_right _ (List.mem_append_left _ h))))) (gw_a (by decide +kernel) gw_wsX18_isPlace)
theorem go_c_X18_scratch_1 : GoodIn wo_c_X18_scratch (wsV RX18 88 RX18 yX18_fails wsX18_fails) := goodIn_sub (fun _ h => List.mem_cons_of_mem _ (List.mem_append_right _ (List.mem_append_right _ (List.mem_append_right _ (List.mem_append_right _ (List.mem_append_left _ h)))))) (gw_a (by decide +kernel) gw_wsX18_fails)
theorem go_c_X18_scratch_2 : GoodIn wo_c_X18_scratch (va_wsS RX18 70 yX18_in wsX18_in) := goodIn_sub (fun _ h => List.mem_cons_of_mem _ (List.mem_append_right _ (List.mem_append_right _ (List.mem_append_right _ (List.mem_append_right _ (List.mem_append_right _ (List.mem_append_left _ h))))))) (gw_a (by decide +kernel) gw_wsX18_in)
theorem go_c_X18_scratch_3 : GoodIn wo_c_X18_scratch (wo_c_X12_init) := goodIn_sub (fun _ h => List.mem_cons_of_mem _ (List.mem_append_right _ (List.mem_append_right _ (List.mem_append_right _ (List.mem_append_right _ (List.mem_append_right _ (List.mem_append_right _ (List.mem_append_left _ h)))))))) gw_wo_c_X12_init
theorem go_c_X18_scratch_4 : GoodIn wo_c_X18_scratch (wsV RX18 133 RX18 yX18_keeps wo_c_keeps_s) := goodIn_sub (fun _ h => List.mem_cons_of_mem _ (List.mem_append_right _ (List.mem_append_right _ (List.mem_append_right _ (List.mem_append_right _ (List.mem_append_right _ (List.mem_append_right _ (List.mem_append_right _ (List.mem_append_left _ h))))))))) (gw_a (by decide +kernel) gw_wo_c_keeps_s)
set_option maxHeartbeats 4000000 in
set_option maxRecDepth 100000 in
theorem c_X18_scratch (l : Launch) (dC : Nat → ClassId) (dI : Nat → Nat → Nat) (b0 : Nat) (en : EnT) (sz : Nat) (mm stu cla pic act nts isn boa mas pai sol bal leg : Nat) (ap scr : Nat) (g : Nat → Option Nat) (kP : ClassId) (N : Nat → Prop) (x y de : Int32) (hNb : ∀ a, N a → b0 ≤ a ∧ a < sz) (hNw : ∀ a, N a → a ∉ List.map Prod.fst ([(mm, .inr (24, [.int 0, .ref stu, .ref cla, .ref pic, .ref act, .int 5, .int 50, .ref nts, .ref isn, .int 1600, .ref boa, .ref mas, .ref pai, .ref sol, .int 0, .ref bal, .ref leg])), (act, .inr (5, [.int 0, .ref en.2.2.1, .int 0]))] : va_W)) (hNr : ∀ a, N a → a ∉ List.map Prod.fst ([(pic, .inr (20, [.ref ap, .ref scr, .int 1600, .int 0, .int 0, .ref mm])), (ap, .inl (kP, 48, .inr (.inr (.inr (.inr g))))), (scr, .inr (5, [.int 0, .ref en.2.2.1, .int 0]))] : va_W)) : Met l yX18_scratch wo_c_X18_scratch ({ frames := 8, cells := 150, slots := 541, locals := 182 } : Room) (cP b0 en (dC, dI) [(kP, .object "UnderpaintModel$Place")] [(mm, .inr (24, [.int 0, .ref stu, .ref cla, .ref pic, .ref act, .int 5, .int 50, .ref nts, .ref isn, .int 1600, .ref boa, .ref mas, .ref pai, .ref sol, .int 0, .ref bal, .ref leg])), (act, .inr (5, [.int 0, .ref en.2.2.1, .int 0]))] [(pic, .inr (20, [.ref ap, .ref scr, .int 1600, .int 0, .int 0, .ref mm])), (ap, .inl (kP, 48, .inr (.inr (.inr (.inr g))))), (scr, .inr (5, [.int 0, .ref en.2.2.1, .int 0]))] sz (FamP (dC, dI) N en.2.2.1 g) [.ref mm, .int x, .int y, .int de]) (va_Qi (fun (r : Int32) (u : Int32 × List Value) => u.1 = if ((0 ≤ x ∧ x < 8) ∧ (0 ≤ y ∧ y < 6)) ∧ (1 ≤ de ∧ de ≤ 999) then 2 else 1) (fun u t => cB (dC, dI) [] [(mm, .inr (24, .int u.1 :: u.2))] (va_A [(mm, .inr (24, [.int 0, .ref stu, .ref cla, .ref pic, .ref act, .int 5, .int 50, .ref nts, .ref isn, .int 1600, .ref boa, .ref mas, .ref pai, .ref sol, .int 0, .ref bal, .ref leg])), (act, .inr (5, [.int 0, .ref en.2.2.1, .int 0]))] sz) (fun _ => True) t) (va_A [(mm, .inr (24, [.int 0, .ref stu, .ref cla, .ref pic, .ref act, .int 5, .int 50, .ref nts, .ref isn, .int 1600, .ref boa, .ref mas, .ref pai, .ref sol, .int 0, .ref bal, .ref leg])), (act, .inr (5, [.int 0, .ref en.2.2.1, .int 0]))] sz)) 150 541 (va_A [(mm, .inr (24, [.int 0, .ref stu, .ref cla, .ref pic, .ref act, .int 5, .int 50, .ref nts, .ref isn, .int 1600, .ref boa, .ref mas, .ref pai, .ref sol, .int 0, .ref bal, .ref leg])), (act, .inr (5, [.int 0, .ref en.2.2.1, .int 0]))] sz) := by
  refine Met.ofW (cc := cX18_scratch) (maxL := 4) (ret := (some .int)) (by decide) rfl ?_
  intro p e s m args below meth c s₁ B hml hv
  obtain ⟨rfl, hsz, hb0, hE, hPP, hK, hDD, hF0⟩ := hv
  have hx := B.exec
  have hb := B.bytes
  have hr := B.returns
  have hts := atoms_spec (ws := wo_c_X18_scratch) B.pre
  have hown : s.vm.findClass RX18 = some m.cls := findClass_of_methodNamed B.named
  have hlocks := B.notSynchronized
  subst hsz
  have hN0 := en_N hPP hDD rfl
  have hP : va_P (dC, dI) vwCl [(mm, .inr (24, [.int 0, .ref stu, .ref cla, .ref pic, .ref act, .int 5, .int 50, .ref nts, .ref isn, .int 1600, .ref boa, .ref mas, .ref pai, .ref sol, .int 0, .ref bal, .ref leg])), (act, .inr (5, [.int 0, .ref en.2.2.1, .int 0]))] s.heap := hPP.sub [0, 1] rfl
  have hR0 : va_P (dC, dI) vwCl [(pic, .inr (20, [.ref ap, .ref scr, .int 1600, .int 0, .int 0, .ref mm])), (ap, .inl (kP, 48, .inr (.inr (.inr (.inr g))))), (scr, .inr (5, [.int 0, .ref en.2.2.1, .int 0]))] s.heap := hPP.sub [2, 3, 4] rfl
  have hD0 : va_D (fun q => b0 ≤ q) [(mm, .inr (24, [.int 0, .ref stu, .ref cla, .ref pic, .ref act, .int 5, .int 50, .ref nts, .ref isn, .int 1600, .ref boa, .ref mas, .ref pai, .ref sol, .int 0, .ref bal, .ref leg])), (act, .inr (5, [.int 0, .ref en.2.2.1, .int 0]))] := hDD.sub [0, 1] (by decide) rfl
  have hDr : va_D (fun q => b0 ≤ q) [(pic, .inr (20, [.ref ap, .ref scr, .int 1600, .int 0, .int 0, .ref mm])), (ap, .inl (kP, 48, .inr (.inr (.inr (.inr g))))), (scr, .inr (5, [.int 0, .ref en.2.2.1, .int 0]))] := hDD.sub [2, 3, 4] (by decide) rfl
  have hAb := en_A (sz := s.heap.size) hD0 hb0
  have hD := hD0.self (sz := s.heap.size)
  generalize hAe : va_A [(mm, .inr (24, [.int 0, .ref stu, .ref cla, .ref pic, .ref act, .int 5, .int 50, .ref nts, .ref isn, .int 1600, .ref boa, .ref mas, .ref pai, .ref sol, .int 0, .ref bal, .ref leg])), (act, .inr (5, [.int 0, .ref en.2.2.1, .int 0]))] s.heap.size = A at hD hAb hN0 ⊢
  have hA : ∀ q : Nat, s.heap.size ≤ q → A q := fun q h => by rw [← hAe]; exact Or.inr h
  have hS : va_S A s.heap s.heap [] := va_S.rf
  have hR := hR0
  have hl := lv_entry [.ref mm, .int x, .int y, .int de] (n := 4) (Nat.le_of_ble_eq_true rfl)
  rw [lg_entry_eq]
  generalize (lg_sl [.ref mm, .int x, .int y, .int de] ++ List.replicate (4 - (lg_sl [.ref mm, .int x, .int y, .int de]).length) Slot.unset).toArray = ls at hl ⊢
  have hl : lv_has ls 4 [(0, .ref mm), (1, .int x), (2, .int y), (3, .int de)] := hl
  have hR0b := hR0
  have hDrb := hDr
  have hN0b := hN0
  refine lv_aload_n hx hb dX18_scratch_0 rfl (lv_at hl 0 rfl) ?_
  refine lv_iconst (v := 0) hx hb dX18_scratch_1 (by decide) ?_
  refine va_put (D := (dC, dI)) (ci := 24) (v := .int 0) (ty := .int) (C := RX18) (T := TX18) (N := 17) hx hb hts (by decide +kernel) tyX18 tyX18_ok nmX18 hown hK hP hD hS 0 rfl rfl 0 (by decide) (hts (.fieldLink RX18 67 "UnderpaintModel" "code" "I") (by decide +kernel)) (fun _ h9 => h9) rfl (by decide +kernel) rfl rfl (Nat.le_of_ble_eq_true rfl) dX18_scratch_2 (fun H locs hP hD hS => ?_)
  have hP : va_P (dC, dI) vwCl [(mm, .inr (24, [.int 0, .ref stu, .ref cla, .ref pic, .ref act, .int 5, .int 50, .ref nts, .ref isn, .int 1600, .ref boa, .ref mas, .ref pai, .ref sol, .int 0, .ref bal, .ref leg])), (act, .inr (5, [.int 0, .ref en.2.2.1, .int 0]))] H := hP
  have hD : va_D A [(mm, .inr (24, [.int 0, .ref stu, .ref cla, .ref pic, .ref act, .int 5, .int 50, .ref nts, .ref isn, .int 1600, .ref boa, .ref mas, .ref pai, .ref sol, .int 0, .ref bal, .ref leg])), (act, .inr (5, [.int 0, .ref en.2.2.1, .int 0]))] := hD
  have hR := en_R hR0 hN0 hS
  refine lv_iload_n hx hb dX18_scratch_5 rfl (lv_at hl 1 rfl) ?_
  refine lv_iload_n hx hb dX18_scratch_6 rfl (lv_at hl 2 rfl) ?_
  have hPc := (hP.app hR).sub (ws' := [] ++ []) [] rfl
  have hDc := (en_DD hD hDr hN0 hAb).sub (ws' := [] ++ []) [] (by decide) rfl
  have hKc := hK.sub (tys' := []) [] rfl
  have hFc := va_free (wc := []) hD hS hA [] rfl
  refine va_calli (va_runS (As := [.int x, .int y]) (rest := []) ⟨hx, hb, hml, hown, hts⟩ (c_X18_isPlace l dC dI b0 en H.size x y) (va_cwS 2 hts go_c_X18_scratch_0 rfl rfl rfl (by decide +kernel) ⟨Nat.le_of_ble_eq_true rfl, Nat.le_of_ble_eq_true rfl⟩) ⟨cP.blind, cP.use (en_z hb0 hS) (hE.on hAb hS) hPc hKc hDc trivial⟩ rfl rfl hl.1 rfl (lv_room (Nat.le_of_ble_eq_true rfl)) dX18_scratch_7 ⟨Nat.le_of_ble_eq_true rfl, Nat.le_of_ble_eq_true rfl⟩) hS (fun q _ h => hFc q h) hFc (fun r_1 u t H1 locs ht hvm hw hB hz1 hk1 hS => ?_)
  have hP1 : va_P (dC, dI) vwCl [] H1 := fun k q h => by simp at h
  have hD1 : va_D (va_A [] H.size) [] := ⟨fun i j p q h => by simp at h, fun k q h => by simp at h⟩
  try dsimp only at hw
  obtain ⟨hP, hD⟩ := va_join (wr := [(mm, .inr (24, [.int 0, .ref stu, .ref cla, .ref pic, .ref act, .int 5, .int 50, .ref nts, .ref isn, .int 1600, .ref boa, .ref mas, .ref pai, .ref sol, .int 0, .ref bal, .ref leg])), (act, .inr (5, [.int 0, .ref en.2.2.1, .int 0]))]) (w1 := []) hP hD [] [0, 1] rfl rfl (by decide) (by decide) hk1 hFc hP1 hD1
  generalize H1 = H at hP hS ⊢
  have hP : va_P (dC, dI) vwCl [(mm, .inr (24, [.int 0, .ref stu, .ref cla, .ref pic, .ref act, .int 5, .int 50, .ref nts, .ref isn, .int 1600, .ref boa, .ref mas, .ref pai, .ref sol, .int 0, .ref bal, .ref leg])), (act, .inr (5, [.int 0, .ref en.2.2.1, .int 0]))] H := hP
  have hD : va_D A [(mm, .inr (24, [.int 0, .ref stu, .ref cla, .ref pic, .ref act, .int 5, .int 50, .ref nts, .ref isn, .int 1600, .ref boa, .ref mas, .ref pai, .ref sol, .int 0, .ref bal, .ref leg])), (act, .inr (5, [.int 0, .ref en.2.2.1, .int 0]))] := hD
  have hR := en_R hR0 hN0 hS
  refine W.widen (k := 0) (n := 0) (Nat.le_of_ble_eq_true rfl) (Nat.le_of_ble_eq_true rfl) ?_
  have h_2 := hw
  refine lv_if_eq (tgt := 57) hx hb dX18_scratch_10 (by decide) (fun c_3 => ?_) (fun c_3 => ?_)
  · skip
    refine lv_aload_n hx hb dX18_scratch_57 rfl (lv_at hl 0 rfl) ?_
    refine lv_iconst (v := 1) hx hb dX18_scratch_58 (by decide) ?_
    have hPc := (hP.app hR).sub (ws' := [(mm, .inr (24, .int 0 :: ([.ref stu, .ref cla, .ref pic, .ref act, .int 5, .int 50, .ref nts, .ref isn, .int 1600, .ref boa, .ref mas, .ref pai, .ref sol, .int 0, .ref bal, .ref leg])))] ++ []) [0] rfl
    have hDc := (en_DD hD hDr hN0 hAb).sub (ws' := [(mm, .inr (24, .int 0 :: ([.ref stu, .ref cla, .ref pic, .ref act, .int 5, .int 50, .ref nts, .ref isn, .int 1600, .ref boa, .ref mas, .ref pai, .ref sol, .int 0, .ref bal, .ref leg])))] ++ []) [0] (by decide) rfl
    have hKc := hK.sub (tys' := []) [] rfl
    have hFc := va_free (wc := [(mm, .inr (24, .int 0 :: ([.ref stu, .ref cla, .ref pic, .ref act, .int 5, .int 50, .ref nts, .ref isn, .int 1600, .ref boa, .ref mas, .ref pai, .ref sol, .int 0, .ref bal, .ref leg])))]) hD hS hA [0] rfl
    refine va_calli (va_runV (As := [.int 1]) (rest := []) ⟨hx, hb, hml, hown, hts⟩ (c_X18_fails l dC dI b0 en H.size mm 0 1 ([.ref stu, .ref cla, .ref pic, .ref act, .int 5, .int 50, .ref nts, .ref isn, .int 1600, .ref boa, .ref mas, .ref pai, .ref sol, .int 0, .ref bal, .ref leg])) (cwV 1 hts go_c_X18_scratch_1 rfl rfl rfl (by decide +kernel) ⟨Nat.le_of_ble_eq_true rfl, Nat.le_of_ble_eq_true rfl⟩) ⟨cP.blind, va_recv hK hP (ci := 24) (q0 := 0) rfl rfl, cP.use (en_z hb0 hS) (hE.on hAb hS) hPc hKc hDc trivial⟩ rfl rfl hl.1 rfl (lv_room (Nat.le_of_ble_eq_true rfl)) dX18_scratch_59 ⟨Nat.le_of_ble_eq_true rfl, Nat.le_of_ble_eq_true rfl⟩) hS (fun q _ h => hFc q h) hFc (fun r_4 u t H1 locs ht hvm hw hB hz1 hk1 hS => ?_)
    obtain ⟨hP1, hK1, hD1, hF1⟩ := hB
    rw [ht] at hP1
    try rw [ht] at hF1
    have hK1 := va_K.moved hvm.symm hK1
    try dsimp only at hw
    obtain ⟨hP, hD⟩ := va_join (wr := [(act, .inr (5, [.int 0, .ref en.2.2.1, .int 0]))]) (w1 := [(mm, .inr (24, [.int 1, .ref stu, .ref cla, .ref pic, .ref act, .int 5, .int 50, .ref nts, .ref isn, .int 1600, .ref boa, .ref mas, .ref pai, .ref sol, .int 0, .ref bal, .ref leg]))]) hP hD [0] [1] rfl rfl (by decide) (by decide) hk1 hFc hP1 hD1
    generalize H1 = H at hP hS ⊢
    have hP : va_P (dC, dI) vwCl [(act, .inr (5, [.int 0, .ref en.2.2.1, .int 0])), (mm, .inr (24, [.int 1, .ref stu, .ref cla, .ref pic, .ref act, .int 5, .int 50, .ref nts, .ref isn, .int 1600, .ref boa, .ref mas, .ref pai, .ref sol, .int 0, .ref bal, .ref leg]))] H := hP
    have hD : va_D A [(act, .inr (5, [.int 0, .ref en.2.2.1, .int 0])), (mm, .inr (24, [.int 1, .ref stu, .ref cla, .ref pic, .ref act, .int 5, .int 50, .ref nts, .ref isn, .int 1600, .ref boa, .ref mas, .ref pai, .ref sol, .int 0, .ref bal, .ref leg]))] := hD
    have hR := en_R hR0 hN0 hS
    refine W.widen (k := 0) (n := 0) (Nat.le_of_ble_eq_true rfl) (Nat.le_of_ble_eq_true rfl) ?_
    subst r_4
    refine W.widen (k := 150) (n := 541) (Nat.le_of_ble_eq_true rfl) (Nat.le_of_ble_eq_true rfl) ?_
    exact W.iret (v := 0) hx hb hr (fun t ht hW => ⟨⟨0, ⟨1, [.ref stu, .ref cla, .ref pic, .ref act, .int 5, .int 50, .ref nts, .ref isn, .int 1600, .ref boa, .ref mas, .ref pai, .ref sol, .int 0, .ref bal, .ref leg]⟩, rfl, (z_c_X18_scratch_176 x y de (b_no h_2 c_3)), cB.mk ht hW (hP.sub [1] rfl) (hK.sub [] rfl) (hD.sub [1] (by decide) rfl) (trivial)⟩, hS.F ht⟩) hS.2.2 dX18_scratch_62
  · skip
    refine lv_iload_n hx hb dX18_scratch_13 rfl (lv_at hl 3 rfl) ?_
    refine lv_iconst (v := 1) hx hb dX18_scratch_14 (by decide) ?_
    refine lv_sipush (v := 999) hx hb dX18_scratch_15 (by decide) ?_
    have hPc := (hP.app hR).sub (ws' := [] ++ []) [] rfl
    have hDc := (en_DD hD hDr hN0 hAb).sub (ws' := [] ++ []) [] (by decide) rfl
    have hKc := hK.sub (tys' := []) [] rfl
    have hFc := va_free (wc := []) hD hS hA [] rfl
    refine va_calli (va_runS (As := [.int de, .int 1, .int 999]) (rest := []) ⟨hx, hb, hml, hown, hts⟩ (c_X18_in l dC dI b0 en H.size de 1 999) (va_cwS 3 hts go_c_X18_scratch_2 rfl rfl rfl (by decide +kernel) ⟨Nat.le_of_ble_eq_true rfl, Nat.le_of_ble_eq_true rfl⟩) ⟨cP.blind, cP.use (en_z hb0 hS) (hE.on hAb hS) hPc hKc hDc trivial⟩ rfl rfl hl.1 rfl (lv_room (Nat.le_of_ble_eq_true rfl)) dX18_scratch_18 ⟨Nat.le_of_ble_eq_true rfl, Nat.le_of_ble_eq_true rfl⟩) hS (fun q _ h => hFc q h) hFc (fun r_5 u t H1 locs ht hvm hw hB hz1 hk1 hS => ?_)
    have hP1 : va_P (dC, dI) vwCl [] H1 := fun k q h => by simp at h
    have hD1 : va_D (va_A [] H.size) [] := ⟨fun i j p q h => by simp at h, fun k q h => by simp at h⟩
    try dsimp only at hw
    obtain ⟨hP, hD⟩ := va_join (wr := [(mm, .inr (24, [.int 0, .ref stu, .ref cla, .ref pic, .ref act, .int 5, .int 50, .ref nts, .ref isn, .int 1600, .ref boa, .ref mas, .ref pai, .ref sol, .int 0, .ref bal, .ref leg])), (act, .inr (5, [.int 0, .ref en.2.2.1, .int 0]))]) (w1 := []) hP hD [] [0, 1] rfl rfl (by decide) (by decide) hk1 hFc hP1 hD1
    generalize H1 = H at hP hS ⊢
    have hP : va_P (dC, dI) vwCl [(mm, .inr (24, [.int 0, .ref stu, .ref cla, .ref pic, .ref act, .int 5, .int 50, .ref nts, .ref isn, .int 1600, .ref boa, .ref mas, .ref pai, .ref sol, .int 0, .ref bal, .ref leg])), (act, .inr (5, [.int 0, .ref en.2.2.1, .int 0]))] H := hP
    have hD : va_D A [(mm, .inr (24, [.int 0, .ref stu, .ref cla, .ref pic, .ref act, .int 5, .int 50, .ref nts, .ref isn, .int 1600, .ref boa, .ref mas, .ref pai, .ref sol, .int 0, .ref bal, .ref leg])), (act, .inr (5, [.int 0, .ref en.2.2.1, .int 0]))] := hD
    have hR := en_R hR0 hN0 hS
    refine W.widen (k := 0) (n := 0) (Nat.le_of_ble_eq_true rfl) (Nat.le_of_ble_eq_true rfl) ?_
    have h_6 := hw
    refine lv_if_eq (tgt := 57) hx hb dX18_scratch_21 (by decide) (fun c_7 => ?_) (fun c_7 => ?_)
    · skip
      refine lv_aload_n hx hb dX18_scratch_57 rfl (lv_at hl 0 rfl) ?_
      refine lv_iconst (v := 1) hx hb dX18_scratch_58 (by decide) ?_
      have hPc := (hP.app hR).sub (ws' := [(mm, .inr (24, .int 0 :: ([.ref stu, .ref cla, .ref pic, .ref act, .int 5, .int 50, .ref nts, .ref isn, .int 1600, .ref boa, .ref mas, .ref pai, .ref sol, .int 0, .ref bal, .ref leg])))] ++ []) [0] rfl
      have hDc := (en_DD hD hDr hN0 hAb).sub (ws' := [(mm, .inr (24, .int 0 :: ([.ref stu, .ref cla, .ref pic, .ref act, .int 5, .int 50, .ref nts, .ref isn, .int 1600, .ref boa, .ref mas, .ref pai, .ref sol, .int 0, .ref bal, .ref leg])))] ++ []) [0] (by decide) rfl
      have hKc := hK.sub (tys' := []) [] rfl
      have hFc := va_free (wc := [(mm, .inr (24, .int 0 :: ([.ref stu, .ref cla, .ref pic, .ref act, .int 5, .int 50, .ref nts, .ref isn, .int 1600, .ref boa, .ref mas, .ref pai, .ref sol, .int 0, .ref bal, .ref leg])))]) hD hS hA [0] rfl
      refine va_calli (va_runV (As := [.int 1]) (rest := []) ⟨hx, hb, hml, hown, hts⟩ (c_X18_fails l dC dI b0 en H.size mm 0 1 ([.ref stu, .ref cla, .ref pic, .ref act, .int 5, .int 50, .ref nts, .ref isn, .int 1600, .ref boa, .ref mas, .ref pai, .ref sol, .int 0, .ref bal, .ref leg])) (cwV 1 hts go_c_X18_scratch_1 rfl rfl rfl (by decide +kernel) ⟨Nat.le_of_ble_eq_true rfl, Nat.le_of_ble_eq_true rfl⟩) ⟨cP.blind, va_recv hK hP (ci := 24) (q0 := 0) rfl rfl, cP.use (en_z hb0 hS) (hE.on hAb hS) hPc hKc hDc trivial⟩ rfl rfl hl.1 rfl (lv_room (Nat.le_of_ble_eq_true rfl)) dX18_scratch_59 ⟨Nat.le_of_ble_eq_true rfl, Nat.le_of_ble_eq_true rfl⟩) hS (fun q _ h => hFc q h) hFc (fun r_8 u t H1 locs ht hvm hw hB hz1 hk1 hS => ?_)
      obtain ⟨hP1, hK1, hD1, hF1⟩ := hB
      rw [ht] at hP1
      try rw [ht] at hF1
      have hK1 := va_K.moved hvm.symm hK1
      try dsimp only at hw
      obtain ⟨hP, hD⟩ := va_join (wr := [(act, .inr (5, [.int 0, .ref en.2.2.1, .int 0]))]) (w1 := [(mm, .inr (24, [.int 1, .ref stu, .ref cla, .ref pic, .ref act, .int 5, .int 50, .ref nts, .ref isn, .int 1600, .ref boa, .ref mas, .ref pai, .ref sol, .int 0, .ref bal, .ref leg]))]) hP hD [0] [1] rfl rfl (by decide) (by decide) hk1 hFc hP1 hD1
      generalize H1 = H at hP hS ⊢
      have hP : va_P (dC, dI) vwCl [(act, .inr (5, [.int 0, .ref en.2.2.1, .int 0])), (mm, .inr (24, [.int 1, .ref stu, .ref cla, .ref pic, .ref act, .int 5, .int 50, .ref nts, .ref isn, .int 1600, .ref boa, .ref mas, .ref pai, .ref sol, .int 0, .ref bal, .ref leg]))] H := hP
      have hD : va_D A [(act, .inr (5, [.int 0, .ref en.2.2.1, .int 0])), (mm, .inr (24, [.int 1, .ref stu, .ref cla, .ref pic, .ref act, .int 5, .int 50, .ref nts, .ref isn, .int 1600, .ref boa, .ref mas, .ref pai, .ref sol, .int 0, .ref bal, .ref leg]))] := hD
      have hR := en_R hR0 hN0 hS
      refine W.widen (k := 0) (n := 0) (Nat.le_of_ble_eq_true rfl) (Nat.le_of_ble_eq_true rfl) ?_
      subst r_8
      refine W.widen (k := 150) (n := 541) (Nat.le_of_ble_eq_true rfl) (Nat.le_of_ble_eq_true rfl) ?_
      exact W.iret (v := 0) hx hb hr (fun t ht hW => ⟨⟨0, ⟨1, [.ref stu, .ref cla, .ref pic, .ref act, .int 5, .int 50, .ref nts, .ref isn, .int 1600, .ref boa, .ref mas, .ref pai, .ref sol, .int 0, .ref bal, .ref leg]⟩, rfl, (z_c_X18_scratch_177 x y de (b_yes h_2 c_3) (b_no h_6 c_7)), cB.mk ht hW (hP.sub [1] rfl) (hK.sub [] rfl) (hD.sub [1] (by decide) rfl) (trivial)⟩, hS.F ht⟩) hS.2.2 dX18_scratch_62
    · skip
      refine lv_aload_n hx hb dX18_scratch_24 rfl (lv_at hl 0 rfl) ?_
      have hz9 := hS.1
      refine va_newX (ci := 18) (fs := [.int 0, .null]) (C := RX12) (T := TX12) (N := 2) hx hb hts (by decide +kernel) tyX12 tyX12_ok hown (hts (.classLink RX18 128 RX12) (by decide +kernel)) (hts (.instantiable RX12 2) (by decide +kernel)) (hts (.initialized RX12) (by decide +kernel)) hK hP hD hS hA rfl (fun j hj => by rcases (show j = 0 ∨ j = 1 by omega) with rfl | rfl <;> rfl) (Nat.le_of_ble_eq_true rfl) (Nat.le_of_ble_eq_true rfl) dX18_scratch_25 (fun q_9 H hP hD hS hoq hoz => ?_)
      have hP : va_P (dC, dI) vwCl [(mm, .inr (24, [.int 0, .ref stu, .ref cla, .ref pic, .ref act, .int 5, .int 50, .ref nts, .ref isn, .int 1600, .ref boa, .ref mas, .ref pai, .ref sol, .int 0, .ref bal, .ref leg])), (act, .inr (5, [.int 0, .ref en.2.2.1, .int 0])), (q_9, .inr (18, [.int 0, .null]))] H := hP
      have hD : va_D A [(mm, .inr (24, [.int 0, .ref stu, .ref cla, .ref pic, .ref act, .int 5, .int 50, .ref nts, .ref isn, .int 1600, .ref boa, .ref mas, .ref pai, .ref sol, .int 0, .ref bal, .ref leg])), (act, .inr (5, [.int 0, .ref en.2.2.1, .int 0])), (q_9, .inr (18, [.int 0, .null]))] := hD
      have hR := en_R hR0 hN0 hS
      refine W.widen (k := 1) (n := 2) (Nat.le_of_ble_eq_true rfl) (Nat.le_of_ble_eq_true rfl) ?_
      have hgz_q_9 : s.heap.size ≤ q_9 := by rw [hoz]; exact hz9
      have hoz_q_9 := hoz
      refine lv_dup hx hb dX18_scratch_28 rfl ?_
      refine lv_bipush (v := 115) hx hb dX18_scratch_29 (by decide) ?_
      refine lv_iconst (v := 2) hx hb dX18_scratch_31 (by decide) ?_
      have hz9 := hS.1
      refine va_newaX (atype := .int) (a0 := (2, .inl (fun _ => 0))) hx hb (hts (.arrayClass .int) (by decide +kernel)) rfl hK hP hD hS hA (fun _ => rfl) (by decide) (by decide) (by decide) (Nat.le_of_ble_eq_true rfl) (Nat.le_of_ble_eq_true rfl) dX18_scratch_32 (fun q_10 k_11 H hK hP hD hS hoq hoz => ?_)
      have hP : va_P (dC, dI) vwCl [(mm, .inr (24, [.int 0, .ref stu, .ref cla, .ref pic, .ref act, .int 5, .int 50, .ref nts, .ref isn, .int 1600, .ref boa, .ref mas, .ref pai, .ref sol, .int 0, .ref bal, .ref leg])), (act, .inr (5, [.int 0, .ref en.2.2.1, .int 0])), (q_9, .inr (18, [.int 0, .null])), (q_10, .inl (k_11, 2, .inl (fun _ => 0)))] H := hP
      have hD : va_D A [(mm, .inr (24, [.int 0, .ref stu, .ref cla, .ref pic, .ref act, .int 5, .int 50, .ref nts, .ref isn, .int 1600, .ref boa, .ref mas, .ref pai, .ref sol, .int 0, .ref bal, .ref leg])), (act, .inr (5, [.int 0, .ref en.2.2.1, .int 0])), (q_9, .inr (18, [.int 0, .null])), (q_10, .inl (k_11, 2, .inl (fun _ => 0)))] := hD
      have hR := en_R hR0 hN0 hS
      refine W.widen (k := 2) (n := 4) (Nat.le_of_ble_eq_true rfl) (Nat.le_of_ble_eq_true rfl) ?_
      have hgz_q_10 : s.heap.size ≤ q_10 := by rw [hoz]; exact hz9
      have hoz_q_10 := hoz
      refine lv_dup hx hb dX18_scratch_34 rfl ?_
      refine lv_iconst (v := 0) hx hb dX18_scratch_35 (by decide) ?_
      refine lv_bipush (v := 8) hx hb dX18_scratch_36 (by decide) ?_
      refine lv_iload_n hx hb dX18_scratch_38 rfl (lv_at hl 2 rfl) ?_
      refine lv_imul hx hb dX18_scratch_39 ?_
      refine lv_topi (fun x_12 ex_12 => ?_)
      refine lv_iload_n hx hb dX18_scratch_40 rfl (lv_at hl 1 rfl) ?_
      refine lv_iadd hx hb dX18_scratch_41 ?_
      refine lv_topi (fun x_13 ex_13 => ?_)
      refine va_iast hx hb hK hP hD hS 3 1 rfl rfl (vp_in_nI (by decide : 0 < 2) (by decide)) dX18_scratch_42 (fun H locs hP hD hS => ?_)
      generalize ef_14 : upd (fun _ => 0) (0 : Int32).toNatClampNeg x_13 = f_14 at hP hD
      have hP : va_P (dC, dI) vwCl [(mm, .inr (24, [.int 0, .ref stu, .ref cla, .ref pic, .ref act, .int 5, .int 50, .ref nts, .ref isn, .int 1600, .ref boa, .ref mas, .ref pai, .ref sol, .int 0, .ref bal, .ref leg])), (act, .inr (5, [.int 0, .ref en.2.2.1, .int 0])), (q_9, .inr (18, [.int 0, .null])), (q_10, .inl (k_11, 2, .inl f_14))] H := hP
      have hD : va_D A [(mm, .inr (24, [.int 0, .ref stu, .ref cla, .ref pic, .ref act, .int 5, .int 50, .ref nts, .ref isn, .int 1600, .ref boa, .ref mas, .ref pai, .ref sol, .int 0, .ref bal, .ref leg])), (act, .inr (5, [.int 0, .ref en.2.2.1, .int 0])), (q_9, .inr (18, [.int 0, .null])), (q_10, .inl (k_11, 2, .inl f_14))] := hD
      have hR := en_R hR0 hN0 hS
      refine lv_dup hx hb dX18_scratch_43 rfl ?_
      refine lv_iconst (v := 1) hx hb dX18_scratch_44 (by decide) ?_
      refine lv_iload_n hx hb dX18_scratch_45 rfl (lv_at hl 3 rfl) ?_
      refine va_iast hx hb hK hP hD hS 3 1 rfl rfl (vp_in_nI (by decide : 1 < 2) (by decide)) dX18_scratch_46 (fun H locs hP hD hS => ?_)
      generalize ef_15 : upd f_14 (1 : Int32).toNatClampNeg de = f_15 at hP hD
      have hP : va_P (dC, dI) vwCl [(mm, .inr (24, [.int 0, .ref stu, .ref cla, .ref pic, .ref act, .int 5, .int 50, .ref nts, .ref isn, .int 1600, .ref boa, .ref mas, .ref pai, .ref sol, .int 0, .ref bal, .ref leg])), (act, .inr (5, [.int 0, .ref en.2.2.1, .int 0])), (q_9, .inr (18, [.int 0, .null])), (q_10, .inl (k_11, 2, .inl f_15))] H := hP
      have hD : va_D A [(mm, .inr (24, [.int 0, .ref stu, .ref cla, .ref pic, .ref act, .int 5, .int 50, .ref nts, .ref isn, .int 1600, .ref boa, .ref mas, .ref pai, .ref sol, .int 0, .ref bal, .ref leg])), (act, .inr (5, [.int 0, .ref en.2.2.1, .int 0])), (q_9, .inr (18, [.int 0, .null])), (q_10, .inl (k_11, 2, .inl f_15))] := hD
      have hR := en_R hR0 hN0 hS
      have hPc := (hP.app hR).sub (ws' := [(q_9, .inr (18, [.int 0, .null]))] ++ []) [2] rfl
      have hDc := (en_DD hD hDr hN0 hAb).sub (ws' := [(q_9, .inr (18, [.int 0, .null]))] ++ []) [2] (by decide) rfl
      have hKc := hK.sub (tys' := []) [] rfl
      have hFc := va_free (wc := [(q_9, .inr (18, [.int 0, .null]))]) hD hS hA [2] rfl
      refine va_callv (va_runI (As := [.int 115, .ref q_10]) (rest := [.ref q_9, .ref mm]) ⟨hx, hb, hml, hown, hts⟩ (c_X12_init l dC dI b0 en H.size q_9 q_10 115 (by decide +kernel) (by decide +kernel)) (cwI 2 hts go_c_X18_scratch_3 rfl rfl rfl (hts (.initialized RX12) (by decide +kernel)) (hts (.methodLink RX18 130 yX12_init) (by decide +kernel)) (hts (.instanceMethod yX12_init) (by decide +kernel)) rfl (by decide +kernel) ⟨Nat.le_of_ble_eq_true rfl, Nat.le_of_ble_eq_true rfl⟩) ⟨cP.blind, cP.use (en_z hb0 hS) (hE.on hAb hS) hPc hKc hDc trivial⟩ rfl rfl hl.1 rfl (lv_room (Nat.le_of_ble_eq_true rfl)) dX18_scratch_47 ⟨Nat.le_of_ble_eq_true rfl, Nat.le_of_ble_eq_true rfl⟩) hS (fun q _ h => hFc q h) hFc (fun u t H1 locs ht hvm hw hB hz1 hk1 hS => ?_)
      obtain ⟨hP1, hK1, hD1, hF1⟩ := hB
      rw [ht] at hP1
      try rw [ht] at hF1
      have hK1 := va_K.moved hvm.symm hK1
      try dsimp only at hw
      obtain ⟨hP, hD⟩ := va_join (wr := [(mm, .inr (24, [.int 0, .ref stu, .ref cla, .ref pic, .ref act, .int 5, .int 50, .ref nts, .ref isn, .int 1600, .ref boa, .ref mas, .ref pai, .ref sol, .int 0, .ref bal, .ref leg])), (act, .inr (5, [.int 0, .ref en.2.2.1, .int 0])), (q_10, .inl (k_11, 2, .inl f_15))]) (w1 := [(q_9, .inr (18, [.int 115, .ref q_10]))]) hP hD [2] [0, 1, 3] rfl rfl (by decide) (by decide) hk1 hFc hP1 hD1
      generalize H1 = H at hP hS ⊢
      have hP : va_P (dC, dI) vwCl [(mm, .inr (24, [.int 0, .ref stu, .ref cla, .ref pic, .ref act, .int 5, .int 50, .ref nts, .ref isn, .int 1600, .ref boa, .ref mas, .ref pai, .ref sol, .int 0, .ref bal, .ref leg])), (act, .inr (5, [.int 0, .ref en.2.2.1, .int 0])), (q_10, .inl (k_11, 2, .inl f_15)), (q_9, .inr (18, [.int 115, .ref q_10]))] H := hP
      have hD : va_D A [(mm, .inr (24, [.int 0, .ref stu, .ref cla, .ref pic, .ref act, .int 5, .int 50, .ref nts, .ref isn, .int 1600, .ref boa, .ref mas, .ref pai, .ref sol, .int 0, .ref bal, .ref leg])), (act, .inr (5, [.int 0, .ref en.2.2.1, .int 0])), (q_10, .inl (k_11, 2, .inl f_15)), (q_9, .inr (18, [.int 115, .ref q_10]))] := hD
      have hR := en_R hR0 hN0 hS
      refine W.widen (k := 2) (n := 4) (Nat.le_of_ble_eq_true rfl) (Nat.le_of_ble_eq_true rfl) ?_
      refine lv_iconst (v := 2) hx hb dX18_scratch_50 (by decide) ?_
      have h_17 : f_15 0 = x_13 := (by rw [← ef_15, ← ef_14]; rfl)
      have h_18 : f_15 0 = x_13 := (by rw [← ef_15, ← ef_14]; rfl)
      have hPc := (hP.app hR).sub (ws' := [(mm, .inr (24, [.int 0, .ref stu, .ref cla, .ref pic, .ref act, .int 5, .int 50, .ref nts, .ref isn, .int 1600, .ref boa, .ref mas, .ref pai, .ref sol, .int 0, .ref bal, .ref leg])), (act, .inr (5, [.int 0, .ref en.2.2.1, .int 0]))] ++ [(pic, .inr (20, [.ref ap, .ref scr, .int 1600, .int 0, .int 0, .ref mm])), (ap, .inl (kP, 48, .inr (.inr (.inr (.inr g))))), (scr, .inr (5, [.int 0, .ref en.2.2.1, .int 0])), (q_9, .inr (18, [.int 115, .ref q_10])), (q_10, .inl (k_11, 2, .inl f_15))]) [0, 1, 4, 5, 6, 3, 2] rfl
      have hDc := (en_DD hD hDr hN0 hAb).sub (ws' := [(mm, .inr (24, [.int 0, .ref stu, .ref cla, .ref pic, .ref act, .int 5, .int 50, .ref nts, .ref isn, .int 1600, .ref boa, .ref mas, .ref pai, .ref sol, .int 0, .ref bal, .ref leg])), (act, .inr (5, [.int 0, .ref en.2.2.1, .int 0]))] ++ [(pic, .inr (20, [.ref ap, .ref scr, .int 1600, .int 0, .int 0, .ref mm])), (ap, .inl (kP, 48, .inr (.inr (.inr (.inr g))))), (scr, .inr (5, [.int 0, .ref en.2.2.1, .int 0])), (q_9, .inr (18, [.int 115, .ref q_10])), (q_10, .inl (k_11, 2, .inl f_15))]) [0, 1, 4, 5, 6, 3, 2] (by decide) rfl
      have hKc := hK.sub (tys' := [(kP, .object "UnderpaintModel$Place"), (k_11, .int)]) [0, 1] rfl
      have hFc := va_free (wc := [(mm, .inr (24, [.int 0, .ref stu, .ref cla, .ref pic, .ref act, .int 5, .int 50, .ref nts, .ref isn, .int 1600, .ref boa, .ref mas, .ref pai, .ref sol, .int 0, .ref bal, .ref leg])), (act, .inr (5, [.int 0, .ref en.2.2.1, .int 0]))]) hD hS hA [0, 1] rfl
      refine va_calli (va_runV (As := [.ref q_9, .int 2]) (rest := []) ⟨hx, hb, hml, hown, hts⟩ (c_keeps_s l dC dI b0 en H.size mm stu cla pic act nts isn boa mas pai sol bal leg ap scr g kP N q_9 q_10 k_11 f_15 (fun a9 h9 => ⟨(hNb a9 h9).1, Nat.lt_of_lt_of_le (hNb a9 h9).2 hS.1⟩) (fun a9 h9 z9 => by have g1 := hNw a9 h9; have g2 := hNr a9 h9; have g3 := (hNb a9 h9).2; simp only [List.map_cons, List.map_nil, List.mem_cons, List.not_mem_nil, or_false, not_or] at g1 g2 z9 <;> omega) (fun a9 h9 z9 => by have g1 := hNw a9 h9; have g2 := hNr a9 h9; have g3 := (hNb a9 h9).2; simp only [List.map_cons, List.map_nil, List.mem_cons, List.not_mem_nil, or_false, not_or] at g1 g2 z9 <;> omega) (z_c_X18_scratch_178 x y de x_12 x_13 f_15 (b_yes h_2 c_3) (b_yes h_6 c_7) ex_12 ex_13 h_17) (z_c_X18_scratch_179 x y de x_12 x_13 f_15 (b_yes h_2 c_3) (b_yes h_6 c_7) ex_12 ex_13 h_18)) (cwV 2 hts go_c_X18_scratch_4 rfl rfl rfl (by decide +kernel) ⟨Nat.le_of_ble_eq_true rfl, Nat.le_of_ble_eq_true rfl⟩) ⟨cP.blind, va_recv hK hP (ci := 24) (q0 := 0) rfl rfl, cP.use (en_z hb0 hS) (hE.on hAb hS) hPc hKc hDc (hF0.on (fun a9 h8 h9 => by rw [← hAe]; exact vA1 h8 (hNw a9 h9)) hS)⟩ rfl rfl hl.1 rfl (lv_room (Nat.le_of_ble_eq_true rfl)) dX18_scratch_51 ⟨Nat.le_of_ble_eq_true rfl, Nat.le_of_ble_eq_true rfl⟩) hS (fun q _ h => hFc q h) hFc (fun r_22 ⟨kc_20, vs_21⟩ t H1 locs ht hvm hw hB hz1 hk1 hS => ?_)
      obtain ⟨hP1, hK1, hD1, hF1⟩ := hB
      rw [ht] at hP1
      try rw [ht] at hF1
      have hK1 := va_K.moved hvm.symm hK1
      try dsimp only at hw
      obtain ⟨hP, hD⟩ := va_join (wr := [(q_10, .inl (k_11, 2, .inl f_15)), (q_9, .inr (18, [.int 115, .ref q_10]))]) (w1 := [(mm, .inr (24, .int kc_20 :: vs_21))]) hP hD [0, 1] [2, 3] rfl rfl (by decide) (by decide) hk1 hFc hP1 hD1
      generalize H1 = H at hP hS ⊢
      have hP : va_P (dC, dI) vwCl [(q_10, .inl (k_11, 2, .inl f_15)), (q_9, .inr (18, [.int 115, .ref q_10])), (mm, .inr (24, .int kc_20 :: vs_21))] H := hP
      have hD : va_D A [(q_10, .inl (k_11, 2, .inl f_15)), (q_9, .inr (18, [.int 115, .ref q_10])), (mm, .inr (24, .int kc_20 :: vs_21))] := hD
      have hR := en_R hR0 hN0 hS
      refine W.widen (k := 150) (n := 541) (Nat.le_of_ble_eq_true rfl) (Nat.le_of_ble_eq_true rfl) ?_
      have h_23 := hw
      refine lv_goto (tgt := 62) hx hb dX18_scratch_54 (by decide) ?_
      refine W.widen (k := 150) (n := 541) (Nat.le_of_ble_eq_true rfl) (Nat.le_of_ble_eq_true rfl) ?_
      exact W.iret (v := r_22) hx hb hr (fun t ht hW => ⟨⟨r_22, ⟨kc_20, vs_21⟩, rfl, (z_c_X18_scratch_180 x y de x_12 x_13 kc_20 (b_yes h_2 c_3) (b_yes h_6 c_7) ex_12 ex_13 h_23), cB.mk ht hW (hP.sub [2] rfl) (hK.sub [] rfl) (hD.sub [2] (by decide) rfl) (trivial)⟩, hS.F ht⟩) hS.2.2 dX18_scratch_62
theorem z_c_X18_glue_181 (x : Int32) (y : Int32) (a_0 : ¬ ((0 ≤ x ∧ x < 8) ∧ (0 ≤ y ∧ y < 6))) : ((1 : Int32) = 0 ∧ (0 : Int32) = 0 ∧ ((0 ≤ x ∧ x < 8) ∧ (0 ≤ y ∧ y < 6))) ∨ ((1 : Int32) = 1 ∧ ¬ ((0 ≤ x ∧ x < 8) ∧ (0 ≤ y ∧ y < 6))) := by grind
theorem z_c_X18_glue_182 (x : Int32) (y : Int32) (x_8 : Int32) (x_9 : Int32) (f_10 : Nat → Int32) (a_0 : (0 ≤ x ∧ x < 8) ∧ (0 ≤ y ∧ y < 6)) (a_1 : x_8 = 8 * y) (a_2 : x_9 = x_8 + x) (a_3 : f_10 0 = x_9) : 0 ≤ f_10 0 := by grind
theorem z_c_X18_glue_183 (x : Int32) (y : Int32) (x_8 : Int32) (x_9 : Int32) (f_10 : Nat → Int32) (a_0 : (0 ≤ x ∧ x < 8) ∧ (0 ≤ y ∧ y < 6)) (a_1 : x_8 = 8 * y) (a_2 : x_9 = x_8 + x) (a_3 : f_10 0 = x_9) : f_10 0 < 48 := by grind
theorem z_c_X18_glue_184 (x : Int32) (y : Int32) (x_8 : Int32) (x_9 : Int32) (kc_15 : Int32) (r_17 : Int32) (a_0 : (0 ≤ x ∧ x < 8) ∧ (0 ≤ y ∧ y < 6)) (a_1 : x_8 = 8 * y) (a_2 : x_9 = x_8 + x) (a_3 : kc_15 = 0 ∧ r_17 = 0) : (kc_15 = 0 ∧ r_17 = 0 ∧ ((0 ≤ x ∧ x < 8) ∧ (0 ≤ y ∧ y < 6))) ∨ (kc_15 = 1 ∧ ¬ ((0 ≤ x ∧ x < 8) ∧ (0 ≤ y ∧ y < 6))) := by grind
def wo_c_X18_glue_w : List Cond := [Cond.fieldLink RX18 67 "UnderpaintModel" "code" "I", Cond.classLink RX18 128 RX12, Cond.instantiable RX12 2, Cond.initialized RX12, Cond.arrayClass .int, Cond.methodLink RX18 130 yX12_init, Cond.instanceMethod yX12_init]
def wo_c_X18_glue : List Cond := .code yX18_glue cX18_glue 3 (some .int) :: (wo_c_X18_glue_w ++ (u_ws RX18 TX18 17 ++ (u_ws RX12 TX12 2 ++ (va_wsS RX18 124 yX18_isPlace wsX18_isPlace ++ (wsV RX18 88 RX18 yX18_fails wsX18_fails ++ (wo_c_X12_init ++ (wsV RX18 133 RX18 yX18_keeps wo_c_keeps_g ++ List.nil)))))))
theorem gw_wo_c_X18_glue : wo_c_X18_glue.all goodWord = true := gw_c (by decide +kernel) (gw_a (by decide +kernel) (gw_a (by decide +kernel) (gw_a (by decide +kernel) (gw_a (gw_a (by decide +kernel) gw_wsX18_isPlace) (gw_a (gw_a (by decide +kernel) gw_wsX18_fails) (gw_a gw_wo_c_X12_init (gw_a (gw_a (by decide +kernel) gw_wo_c_keeps_g) rfl)))))))
theorem go_c_X18_glue_0 : GoodIn wo_c_X18_glue (va_wsS RX18 124 yX18_isPlace wsX18_isPlace) := goodIn_sub (fun _ h => List.mem_cons_of_mem _ (List.mem_append_right _ (List.mem_append_right _ (List.mem_append_right _ (List.mem_append_left _ h))))) (gw_a (by decide +kernel) gw_wsX18_isPlace)
theorem go_c_X18_glue_1 : GoodIn wo_c_X18_glue (wsV RX18 88 RX18 yX18_fails wsX18_fails) := goodIn_sub (fun _ h => List.mem_cons_of_mem _ (List.mem_append_right _ (List.mem_append_right _ (List.mem_append_right _ (List.mem_append_right _ (List.mem_append_left _ h)))))) (gw_a (by decide +kernel) gw_wsX18_fails)
theorem go_c_X18_glue_2 : GoodIn wo_c_X18_glue (wo_c_X12_init) := goodIn_sub (fun _ h => List.mem_cons_of_mem _ (List.mem_append_right _ (List.mem_append_right _ (List.mem_append_right _ (List.mem_append_right _ (List.mem_append_right _ (List.mem_append_left _ h))))))) gw_wo_c_X12_init
theorem go_c_X18_glue_3 : GoodIn wo_c_X18_glue (wsV RX18 133 RX18 yX18_keeps wo_c_keeps_g) := goodIn_sub (fun _ h => List.mem_cons_of_mem _ (List.mem_append_right _ (List.mem_append_right _ (List.mem_append_right _ (List.mem_append_right _ (List.mem_append_right _ (List.mem_append_right _ (List.mem_append_left _ h)))))))) (gw_a (by decide +kernel) gw_wo_c_keeps_g)
set_option maxHeartbeats 4000000 in
set_option maxRecDepth 100000 in
theorem c_X18_glue (l : Launch) (dC : Nat → ClassId) (dI : Nat → Nat → Nat) (b0 : Nat) (en : EnT) (sz : Nat) (mm stu cla pic act nts isn boa mas pai sol bal leg : Nat) (ap scr : Nat) (g : Nat → Option Nat) (kP : ClassId) (N : Nat → Prop) (x y : Int32) (hNb : ∀ a, N a → b0 ≤ a ∧ a < sz) (hNw : ∀ a, N a → a ∉ List.map Prod.fst ([(mm, .inr (24, [.int 0, .ref stu, .ref cla, .ref pic, .ref act, .int 5, .int 50, .ref nts, .ref isn, .int 1600, .ref boa, .ref mas, .ref pai, .ref sol, .int 0, .ref bal, .ref leg])), (act, .inr (5, [.int 0, .ref en.2.2.1, .int 0]))] : va_W)) (hNr : ∀ a, N a → a ∉ List.map Prod.fst ([(pic, .inr (20, [.ref ap, .ref scr, .int 1600, .int 0, .int 0, .ref mm])), (ap, .inl (kP, 48, .inr (.inr (.inr (.inr g))))), (scr, .inr (5, [.int 0, .ref en.2.2.1, .int 0]))] : va_W)) : Met l yX18_glue wo_c_X18_glue ({ frames := 8, cells := 151, slots := 550, locals := 182 } : Room) (cP b0 en (dC, dI) [(kP, .object "UnderpaintModel$Place")] [(mm, .inr (24, [.int 0, .ref stu, .ref cla, .ref pic, .ref act, .int 5, .int 50, .ref nts, .ref isn, .int 1600, .ref boa, .ref mas, .ref pai, .ref sol, .int 0, .ref bal, .ref leg])), (act, .inr (5, [.int 0, .ref en.2.2.1, .int 0]))] [(pic, .inr (20, [.ref ap, .ref scr, .int 1600, .int 0, .int 0, .ref mm])), (ap, .inl (kP, 48, .inr (.inr (.inr (.inr g))))), (scr, .inr (5, [.int 0, .ref en.2.2.1, .int 0]))] sz (FamP (dC, dI) N en.2.2.1 g) [.ref mm, .int x, .int y]) (va_Qi (fun (r : Int32) (u : Int32 × List Value) => (u.1 = 0 ∧ r = 0 ∧ ((0 ≤ x ∧ x < 8) ∧ (0 ≤ y ∧ y < 6))) ∨ (u.1 = 1 ∧ ¬ ((0 ≤ x ∧ x < 8) ∧ (0 ≤ y ∧ y < 6)))) (fun u t => cB (dC, dI) [] [(mm, .inr (24, .int u.1 :: u.2))] (va_A [(mm, .inr (24, [.int 0, .ref stu, .ref cla, .ref pic, .ref act, .int 5, .int 50, .ref nts, .ref isn, .int 1600, .ref boa, .ref mas, .ref pai, .ref sol, .int 0, .ref bal, .ref leg])), (act, .inr (5, [.int 0, .ref en.2.2.1, .int 0]))] sz) (fun _ => True) t) (va_A [(mm, .inr (24, [.int 0, .ref stu, .ref cla, .ref pic, .ref act, .int 5, .int 50, .ref nts, .ref isn, .int 1600, .ref boa, .ref mas, .ref pai, .ref sol, .int 0, .ref bal, .ref leg])), (act, .inr (5, [.int 0, .ref en.2.2.1, .int 0]))] sz)) 151 550 (va_A [(mm, .inr (24, [.int 0, .ref stu, .ref cla, .ref pic, .ref act, .int 5, .int 50, .ref nts, .ref isn, .int 1600, .ref boa, .ref mas, .ref pai, .ref sol, .int 0, .ref bal, .ref leg])), (act, .inr (5, [.int 0, .ref en.2.2.1, .int 0]))] sz) := by
  refine Met.ofW (cc := cX18_glue) (maxL := 3) (ret := (some .int)) (by decide) rfl ?_
  intro p e s m args below meth c s₁ B hml hv
  obtain ⟨rfl, hsz, hb0, hE, hPP, hK, hDD, hF0⟩ := hv
  have hx := B.exec
  have hb := B.bytes
  have hr := B.returns
  have hts := atoms_spec (ws := wo_c_X18_glue) B.pre
  have hown : s.vm.findClass RX18 = some m.cls := findClass_of_methodNamed B.named
  have hlocks := B.notSynchronized
  subst hsz
  have hN0 := en_N hPP hDD rfl
  have hP : va_P (dC, dI) vwCl [(mm, .inr (24, [.int 0, .ref stu, .ref cla, .ref pic, .ref act, .int 5, .int 50, .ref nts, .ref isn, .int 1600, .ref boa, .ref mas, .ref pai, .ref sol, .int 0, .ref bal, .ref leg])), (act, .inr (5, [.int 0, .ref en.2.2.1, .int 0]))] s.heap := hPP.sub [0, 1] rfl
  have hR0 : va_P (dC, dI) vwCl [(pic, .inr (20, [.ref ap, .ref scr, .int 1600, .int 0, .int 0, .ref mm])), (ap, .inl (kP, 48, .inr (.inr (.inr (.inr g))))), (scr, .inr (5, [.int 0, .ref en.2.2.1, .int 0]))] s.heap := hPP.sub [2, 3, 4] rfl
  have hD0 : va_D (fun q => b0 ≤ q) [(mm, .inr (24, [.int 0, .ref stu, .ref cla, .ref pic, .ref act, .int 5, .int 50, .ref nts, .ref isn, .int 1600, .ref boa, .ref mas, .ref pai, .ref sol, .int 0, .ref bal, .ref leg])), (act, .inr (5, [.int 0, .ref en.2.2.1, .int 0]))] := hDD.sub [0, 1] (by decide) rfl
  have hDr : va_D (fun q => b0 ≤ q) [(pic, .inr (20, [.ref ap, .ref scr, .int 1600, .int 0, .int 0, .ref mm])), (ap, .inl (kP, 48, .inr (.inr (.inr (.inr g))))), (scr, .inr (5, [.int 0, .ref en.2.2.1, .int 0]))] := hDD.sub [2, 3, 4] (by decide) rfl
  have hAb := en_A (sz := s.heap.size) hD0 hb0
  have hD := hD0.self (sz := s.heap.size)
  generalize hAe : va_A [(mm, .inr (24, [.int 0, .ref stu, .ref cla, .ref pic, .ref act, .int 5, .int 50, .ref nts, .ref isn, .int 1600, .ref boa, .ref mas, .ref pai, .ref sol, .int 0, .ref bal, .ref leg])), (act, .inr (5, [.int 0, .ref en.2.2.1, .int 0]))] s.heap.size = A at hD hAb hN0 ⊢
  have hA : ∀ q : Nat, s.heap.size ≤ q → A q := fun q h => by rw [← hAe]; exact Or.inr h
  have hS : va_S A s.heap s.heap [] := va_S.rf
  have hR := hR0
  have hl := lv_entry [.ref mm, .int x, .int y] (n := 3) (Nat.le_of_ble_eq_true rfl)
  rw [lg_entry_eq]
  generalize (lg_sl [.ref mm, .int x, .int y] ++ List.replicate (3 - (lg_sl [.ref mm, .int x, .int y]).length) Slot.unset).toArray = ls at hl ⊢
  have hl : lv_has ls 3 [(0, .ref mm), (1, .int x), (2, .int y)] := hl
  have hR0b := hR0
  have hDrb := hDr
  have hN0b := hN0
  refine lv_aload_n hx hb dX18_glue_0 rfl (lv_at hl 0 rfl) ?_
  refine lv_iconst (v := 0) hx hb dX18_glue_1 (by decide) ?_
  refine va_put (D := (dC, dI)) (ci := 24) (v := .int 0) (ty := .int) (C := RX18) (T := TX18) (N := 17) hx hb hts (by decide +kernel) tyX18 tyX18_ok nmX18 hown hK hP hD hS 0 rfl rfl 0 (by decide) (hts (.fieldLink RX18 67 "UnderpaintModel" "code" "I") (by decide +kernel)) (fun _ h9 => h9) rfl (by decide +kernel) rfl rfl (Nat.le_of_ble_eq_true rfl) dX18_glue_2 (fun H locs hP hD hS => ?_)
  have hP : va_P (dC, dI) vwCl [(mm, .inr (24, [.int 0, .ref stu, .ref cla, .ref pic, .ref act, .int 5, .int 50, .ref nts, .ref isn, .int 1600, .ref boa, .ref mas, .ref pai, .ref sol, .int 0, .ref bal, .ref leg])), (act, .inr (5, [.int 0, .ref en.2.2.1, .int 0]))] H := hP
  have hD : va_D A [(mm, .inr (24, [.int 0, .ref stu, .ref cla, .ref pic, .ref act, .int 5, .int 50, .ref nts, .ref isn, .int 1600, .ref boa, .ref mas, .ref pai, .ref sol, .int 0, .ref bal, .ref leg])), (act, .inr (5, [.int 0, .ref en.2.2.1, .int 0]))] := hD
  have hR := en_R hR0 hN0 hS
  refine lv_iload_n hx hb dX18_glue_5 rfl (lv_at hl 1 rfl) ?_
  refine lv_iload_n hx hb dX18_glue_6 rfl (lv_at hl 2 rfl) ?_
  have hPc := (hP.app hR).sub (ws' := [] ++ []) [] rfl
  have hDc := (en_DD hD hDr hN0 hAb).sub (ws' := [] ++ []) [] (by decide) rfl
  have hKc := hK.sub (tys' := []) [] rfl
  have hFc := va_free (wc := []) hD hS hA [] rfl
  refine va_calli (va_runS (As := [.int x, .int y]) (rest := []) ⟨hx, hb, hml, hown, hts⟩ (c_X18_isPlace l dC dI b0 en H.size x y) (va_cwS 2 hts go_c_X18_glue_0 rfl rfl rfl (by decide +kernel) ⟨Nat.le_of_ble_eq_true rfl, Nat.le_of_ble_eq_true rfl⟩) ⟨cP.blind, cP.use (en_z hb0 hS) (hE.on hAb hS) hPc hKc hDc trivial⟩ rfl rfl hl.1 rfl (lv_room (Nat.le_of_ble_eq_true rfl)) dX18_glue_7 ⟨Nat.le_of_ble_eq_true rfl, Nat.le_of_ble_eq_true rfl⟩) hS (fun q _ h => hFc q h) hFc (fun r_1 u t H1 locs ht hvm hw hB hz1 hk1 hS => ?_)
  have hP1 : va_P (dC, dI) vwCl [] H1 := fun k q h => by simp at h
  have hD1 : va_D (va_A [] H.size) [] := ⟨fun i j p q h => by simp at h, fun k q h => by simp at h⟩
  try dsimp only at hw
  obtain ⟨hP, hD⟩ := va_join (wr := [(mm, .inr (24, [.int 0, .ref stu, .ref cla, .ref pic, .ref act, .int 5, .int 50, .ref nts, .ref isn, .int 1600, .ref boa, .ref mas, .ref pai, .ref sol, .int 0, .ref bal, .ref leg])), (act, .inr (5, [.int 0, .ref en.2.2.1, .int 0]))]) (w1 := []) hP hD [] [0, 1] rfl rfl (by decide) (by decide) hk1 hFc hP1 hD1
  generalize H1 = H at hP hS ⊢
  have hP : va_P (dC, dI) vwCl [(mm, .inr (24, [.int 0, .ref stu, .ref cla, .ref pic, .ref act, .int 5, .int 50, .ref nts, .ref isn, .int 1600, .ref boa, .ref mas, .ref pai, .ref sol, .int 0, .ref bal, .ref leg])), (act, .inr (5, [.int 0, .ref en.2.2.1, .int 0]))] H := hP
  have hD : va_D A [(mm, .inr (24, [.int 0, .ref stu, .ref cla, .ref pic, .ref act, .int 5, .int 50, .ref nts, .ref isn, .int 1600, .ref boa, .ref mas, .ref pai, .ref sol, .int 0, .ref bal, .ref leg])), (act, .inr (5, [.int 0, .ref en.2.2.1, .int 0]))] := hD
  have hR := en_R hR0 hN0 hS
  refine W.widen (k := 0) (n := 0) (Nat.le_of_ble_eq_true rfl) (Nat.le_of_ble_eq_true rfl) ?_
  have h_2 := hw
  refine lv_if_eq (tgt := 42) hx hb dX18_glue_10 (by decide) (fun c_3 => ?_) (fun c_3 => ?_)
  · skip
    refine lv_aload_n hx hb dX18_glue_42 rfl (lv_at hl 0 rfl) ?_
    refine lv_iconst (v := 1) hx hb dX18_glue_43 (by decide) ?_
    have hPc := (hP.app hR).sub (ws' := [(mm, .inr (24, .int 0 :: ([.ref stu, .ref cla, .ref pic, .ref act, .int 5, .int 50, .ref nts, .ref isn, .int 1600, .ref boa, .ref mas, .ref pai, .ref sol, .int 0, .ref bal, .ref leg])))] ++ []) [0] rfl
    have hDc := (en_DD hD hDr hN0 hAb).sub (ws' := [(mm, .inr (24, .int 0 :: ([.ref stu, .ref cla, .ref pic, .ref act, .int 5, .int 50, .ref nts, .ref isn, .int 1600, .ref boa, .ref mas, .ref pai, .ref sol, .int 0, .ref bal, .ref leg])))] ++ []) [0] (by decide) rfl
    have hKc := hK.sub (tys' := []) [] rfl
    have hFc := va_free (wc := [(mm, .inr (24, .int 0 :: ([.ref stu, .ref cla, .ref pic, .ref act, .int 5, .int 50, .ref nts, .ref isn, .int 1600, .ref boa, .ref mas, .ref pai, .ref sol, .int 0, .ref bal, .ref leg])))]) hD hS hA [0] rfl
    refine va_calli (va_runV (As := [.int 1]) (rest := []) ⟨hx, hb, hml, hown, hts⟩ (c_X18_fails l dC dI b0 en H.size mm 0 1 ([.ref stu, .ref cla, .ref pic, .ref act, .int 5, .int 50, .ref nts, .ref isn, .int 1600, .ref boa, .ref mas, .ref pai, .ref sol, .int 0, .ref bal, .ref leg])) (cwV 1 hts go_c_X18_glue_1 rfl rfl rfl (by decide +kernel) ⟨Nat.le_of_ble_eq_true rfl, Nat.le_of_ble_eq_true rfl⟩) ⟨cP.blind, va_recv hK hP (ci := 24) (q0 := 0) rfl rfl, cP.use (en_z hb0 hS) (hE.on hAb hS) hPc hKc hDc trivial⟩ rfl rfl hl.1 rfl (lv_room (Nat.le_of_ble_eq_true rfl)) dX18_glue_44 ⟨Nat.le_of_ble_eq_true rfl, Nat.le_of_ble_eq_true rfl⟩) hS (fun q _ h => hFc q h) hFc (fun r_4 u t H1 locs ht hvm hw hB hz1 hk1 hS => ?_)
    obtain ⟨hP1, hK1, hD1, hF1⟩ := hB
    rw [ht] at hP1
    try rw [ht] at hF1
    have hK1 := va_K.moved hvm.symm hK1
    try dsimp only at hw
    obtain ⟨hP, hD⟩ := va_join (wr := [(act, .inr (5, [.int 0, .ref en.2.2.1, .int 0]))]) (w1 := [(mm, .inr (24, [.int 1, .ref stu, .ref cla, .ref pic, .ref act, .int 5, .int 50, .ref nts, .ref isn, .int 1600, .ref boa, .ref mas, .ref pai, .ref sol, .int 0, .ref bal, .ref leg]))]) hP hD [0] [1] rfl rfl (by decide) (by decide) hk1 hFc hP1 hD1
    generalize H1 = H at hP hS ⊢
    have hP : va_P (dC, dI) vwCl [(act, .inr (5, [.int 0, .ref en.2.2.1, .int 0])), (mm, .inr (24, [.int 1, .ref stu, .ref cla, .ref pic, .ref act, .int 5, .int 50, .ref nts, .ref isn, .int 1600, .ref boa, .ref mas, .ref pai, .ref sol, .int 0, .ref bal, .ref leg]))] H := hP
    have hD : va_D A [(act, .inr (5, [.int 0, .ref en.2.2.1, .int 0])), (mm, .inr (24, [.int 1, .ref stu, .ref cla, .ref pic, .ref act, .int 5, .int 50, .ref nts, .ref isn, .int 1600, .ref boa, .ref mas, .ref pai, .ref sol, .int 0, .ref bal, .ref leg]))] := hD
    have hR := en_R hR0 hN0 hS
    refine W.widen (k := 0) (n := 0) (Nat.le_of_ble_eq_true rfl) (Nat.le_of_ble_eq_true rfl) ?_
    subst r_4
    refine W.widen (k := 151) (n := 550) (Nat.le_of_ble_eq_true rfl) (Nat.le_of_ble_eq_true rfl) ?_
    exact W.iret (v := 0) hx hb hr (fun t ht hW => ⟨⟨0, ⟨1, [.ref stu, .ref cla, .ref pic, .ref act, .int 5, .int 50, .ref nts, .ref isn, .int 1600, .ref boa, .ref mas, .ref pai, .ref sol, .int 0, .ref bal, .ref leg]⟩, rfl, (z_c_X18_glue_181 x y (b_no h_2 c_3)), cB.mk ht hW (hP.sub [1] rfl) (hK.sub [] rfl) (hD.sub [1] (by decide) rfl) (trivial)⟩, hS.F ht⟩) hS.2.2 dX18_glue_47
  · skip
    refine lv_aload_n hx hb dX18_glue_13 rfl (lv_at hl 0 rfl) ?_
    have hz9 := hS.1
    refine va_newX (ci := 18) (fs := [.int 0, .null]) (C := RX12) (T := TX12) (N := 2) hx hb hts (by decide +kernel) tyX12 tyX12_ok hown (hts (.classLink RX18 128 RX12) (by decide +kernel)) (hts (.instantiable RX12 2) (by decide +kernel)) (hts (.initialized RX12) (by decide +kernel)) hK hP hD hS hA rfl (fun j hj => by rcases (show j = 0 ∨ j = 1 by omega) with rfl | rfl <;> rfl) (Nat.le_of_ble_eq_true rfl) (Nat.le_of_ble_eq_true rfl) dX18_glue_14 (fun q_5 H hP hD hS hoq hoz => ?_)
    have hP : va_P (dC, dI) vwCl [(mm, .inr (24, [.int 0, .ref stu, .ref cla, .ref pic, .ref act, .int 5, .int 50, .ref nts, .ref isn, .int 1600, .ref boa, .ref mas, .ref pai, .ref sol, .int 0, .ref bal, .ref leg])), (act, .inr (5, [.int 0, .ref en.2.2.1, .int 0])), (q_5, .inr (18, [.int 0, .null]))] H := hP
    have hD : va_D A [(mm, .inr (24, [.int 0, .ref stu, .ref cla, .ref pic, .ref act, .int 5, .int 50, .ref nts, .ref isn, .int 1600, .ref boa, .ref mas, .ref pai, .ref sol, .int 0, .ref bal, .ref leg])), (act, .inr (5, [.int 0, .ref en.2.2.1, .int 0])), (q_5, .inr (18, [.int 0, .null]))] := hD
    have hR := en_R hR0 hN0 hS
    refine W.widen (k := 1) (n := 2) (Nat.le_of_ble_eq_true rfl) (Nat.le_of_ble_eq_true rfl) ?_
    have hgz_q_5 : s.heap.size ≤ q_5 := by rw [hoz]; exact hz9
    have hoz_q_5 := hoz
    refine lv_dup hx hb dX18_glue_17 rfl ?_
    refine lv_bipush (v := 103) hx hb dX18_glue_18 (by decide) ?_
    refine lv_iconst (v := 1) hx hb dX18_glue_20 (by decide) ?_
    have hz9 := hS.1
    refine va_newaX (atype := .int) (a0 := (1, .inl (fun _ => 0))) hx hb (hts (.arrayClass .int) (by decide +kernel)) rfl hK hP hD hS hA (fun _ => rfl) (by decide) (by decide) (by decide) (Nat.le_of_ble_eq_true rfl) (Nat.le_of_ble_eq_true rfl) dX18_glue_21 (fun q_6 k_7 H hK hP hD hS hoq hoz => ?_)
    have hP : va_P (dC, dI) vwCl [(mm, .inr (24, [.int 0, .ref stu, .ref cla, .ref pic, .ref act, .int 5, .int 50, .ref nts, .ref isn, .int 1600, .ref boa, .ref mas, .ref pai, .ref sol, .int 0, .ref bal, .ref leg])), (act, .inr (5, [.int 0, .ref en.2.2.1, .int 0])), (q_5, .inr (18, [.int 0, .null])), (q_6, .inl (k_7, 1, .inl (fun _ => 0)))] H := hP
    have hD : va_D A [(mm, .inr (24, [.int 0, .ref stu, .ref cla, .ref pic, .ref act, .int 5, .int 50, .ref nts, .ref isn, .int 1600, .ref boa, .ref mas, .ref pai, .ref sol, .int 0, .ref bal, .ref leg])), (act, .inr (5, [.int 0, .ref en.2.2.1, .int 0])), (q_5, .inr (18, [.int 0, .null])), (q_6, .inl (k_7, 1, .inl (fun _ => 0)))] := hD
    have hR := en_R hR0 hN0 hS
    refine W.widen (k := 2) (n := 3) (Nat.le_of_ble_eq_true rfl) (Nat.le_of_ble_eq_true rfl) ?_
    have hgz_q_6 : s.heap.size ≤ q_6 := by rw [hoz]; exact hz9
    have hoz_q_6 := hoz
    refine lv_dup hx hb dX18_glue_23 rfl ?_
    refine lv_iconst (v := 0) hx hb dX18_glue_24 (by decide) ?_
    refine lv_bipush (v := 8) hx hb dX18_glue_25 (by decide) ?_
    refine lv_iload_n hx hb dX18_glue_27 rfl (lv_at hl 2 rfl) ?_
    refine lv_imul hx hb dX18_glue_28 ?_
    refine lv_topi (fun x_8 ex_8 => ?_)
    refine lv_iload_n hx hb dX18_glue_29 rfl (lv_at hl 1 rfl) ?_
    refine lv_iadd hx hb dX18_glue_30 ?_
    refine lv_topi (fun x_9 ex_9 => ?_)
    refine va_iast hx hb hK hP hD hS 3 1 rfl rfl (vp_in_nI (by decide : 0 < 1) (by decide)) dX18_glue_31 (fun H locs hP hD hS => ?_)
    generalize ef_10 : upd (fun _ => 0) (0 : Int32).toNatClampNeg x_9 = f_10 at hP hD
    have hP : va_P (dC, dI) vwCl [(mm, .inr (24, [.int 0, .ref stu, .ref cla, .ref pic, .ref act, .int 5, .int 50, .ref nts, .ref isn, .int 1600, .ref boa, .ref mas, .ref pai, .ref sol, .int 0, .ref bal, .ref leg])), (act, .inr (5, [.int 0, .ref en.2.2.1, .int 0])), (q_5, .inr (18, [.int 0, .null])), (q_6, .inl (k_7, 1, .inl f_10))] H := hP
    have hD : va_D A [(mm, .inr (24, [.int 0, .ref stu, .ref cla, .ref pic, .ref act, .int 5, .int 50, .ref nts, .ref isn, .int 1600, .ref boa, .ref mas, .ref pai, .ref sol, .int 0, .ref bal, .ref leg])), (act, .inr (5, [.int 0, .ref en.2.2.1, .int 0])), (q_5, .inr (18, [.int 0, .null])), (q_6, .inl (k_7, 1, .inl f_10))] := hD
    have hR := en_R hR0 hN0 hS
    have hPc := (hP.app hR).sub (ws' := [(q_5, .inr (18, [.int 0, .null]))] ++ []) [2] rfl
    have hDc := (en_DD hD hDr hN0 hAb).sub (ws' := [(q_5, .inr (18, [.int 0, .null]))] ++ []) [2] (by decide) rfl
    have hKc := hK.sub (tys' := []) [] rfl
    have hFc := va_free (wc := [(q_5, .inr (18, [.int 0, .null]))]) hD hS hA [2] rfl
    refine va_callv (va_runI (As := [.int 103, .ref q_6]) (rest := [.ref q_5, .ref mm]) ⟨hx, hb, hml, hown, hts⟩ (c_X12_init l dC dI b0 en H.size q_5 q_6 103 (by decide +kernel) (by decide +kernel)) (cwI 2 hts go_c_X18_glue_2 rfl rfl rfl (hts (.initialized RX12) (by decide +kernel)) (hts (.methodLink RX18 130 yX12_init) (by decide +kernel)) (hts (.instanceMethod yX12_init) (by decide +kernel)) rfl (by decide +kernel) ⟨Nat.le_of_ble_eq_true rfl, Nat.le_of_ble_eq_true rfl⟩) ⟨cP.blind, cP.use (en_z hb0 hS) (hE.on hAb hS) hPc hKc hDc trivial⟩ rfl rfl hl.1 rfl (lv_room (Nat.le_of_ble_eq_true rfl)) dX18_glue_32 ⟨Nat.le_of_ble_eq_true rfl, Nat.le_of_ble_eq_true rfl⟩) hS (fun q _ h => hFc q h) hFc (fun u t H1 locs ht hvm hw hB hz1 hk1 hS => ?_)
    obtain ⟨hP1, hK1, hD1, hF1⟩ := hB
    rw [ht] at hP1
    try rw [ht] at hF1
    have hK1 := va_K.moved hvm.symm hK1
    try dsimp only at hw
    obtain ⟨hP, hD⟩ := va_join (wr := [(mm, .inr (24, [.int 0, .ref stu, .ref cla, .ref pic, .ref act, .int 5, .int 50, .ref nts, .ref isn, .int 1600, .ref boa, .ref mas, .ref pai, .ref sol, .int 0, .ref bal, .ref leg])), (act, .inr (5, [.int 0, .ref en.2.2.1, .int 0])), (q_6, .inl (k_7, 1, .inl f_10))]) (w1 := [(q_5, .inr (18, [.int 103, .ref q_6]))]) hP hD [2] [0, 1, 3] rfl rfl (by decide) (by decide) hk1 hFc hP1 hD1
    generalize H1 = H at hP hS ⊢
    have hP : va_P (dC, dI) vwCl [(mm, .inr (24, [.int 0, .ref stu, .ref cla, .ref pic, .ref act, .int 5, .int 50, .ref nts, .ref isn, .int 1600, .ref boa, .ref mas, .ref pai, .ref sol, .int 0, .ref bal, .ref leg])), (act, .inr (5, [.int 0, .ref en.2.2.1, .int 0])), (q_6, .inl (k_7, 1, .inl f_10)), (q_5, .inr (18, [.int 103, .ref q_6]))] H := hP
    have hD : va_D A [(mm, .inr (24, [.int 0, .ref stu, .ref cla, .ref pic, .ref act, .int 5, .int 50, .ref nts, .ref isn, .int 1600, .ref boa, .ref mas, .ref pai, .ref sol, .int 0, .ref bal, .ref leg])), (act, .inr (5, [.int 0, .ref en.2.2.1, .int 0])), (q_6, .inl (k_7, 1, .inl f_10)), (q_5, .inr (18, [.int 103, .ref q_6]))] := hD
    have hR := en_R hR0 hN0 hS
    refine W.widen (k := 2) (n := 3) (Nat.le_of_ble_eq_true rfl) (Nat.le_of_ble_eq_true rfl) ?_
    refine lv_iconst (v := (-1)) hx hb dX18_glue_35 (by decide) ?_
    have h_12 : f_10 0 = x_9 := (by rw [← ef_10]; rfl)
    have h_13 : f_10 0 = x_9 := (by rw [← ef_10]; rfl)
    have hPc := (hP.app hR).sub (ws' := [(mm, .inr (24, [.int 0, .ref stu, .ref cla, .ref pic, .ref act, .int 5, .int 50, .ref nts, .ref isn, .int 1600, .ref boa, .ref mas, .ref pai, .ref sol, .int 0, .ref bal, .ref leg])), (act, .inr (5, [.int 0, .ref en.2.2.1, .int 0]))] ++ [(pic, .inr (20, [.ref ap, .ref scr, .int 1600, .int 0, .int 0, .ref mm])), (ap, .inl (kP, 48, .inr (.inr (.inr (.inr g))))), (scr, .inr (5, [.int 0, .ref en.2.2.1, .int 0])), (q_5, .inr (18, [.int 103, .ref q_6])), (q_6, .inl (k_7, 1, .inl f_10))]) [0, 1, 4, 5, 6, 3, 2] rfl
    have hDc := (en_DD hD hDr hN0 hAb).sub (ws' := [(mm, .inr (24, [.int 0, .ref stu, .ref cla, .ref pic, .ref act, .int 5, .int 50, .ref nts, .ref isn, .int 1600, .ref boa, .ref mas, .ref pai, .ref sol, .int 0, .ref bal, .ref leg])), (act, .inr (5, [.int 0, .ref en.2.2.1, .int 0]))] ++ [(pic, .inr (20, [.ref ap, .ref scr, .int 1600, .int 0, .int 0, .ref mm])), (ap, .inl (kP, 48, .inr (.inr (.inr (.inr g))))), (scr, .inr (5, [.int 0, .ref en.2.2.1, .int 0])), (q_5, .inr (18, [.int 103, .ref q_6])), (q_6, .inl (k_7, 1, .inl f_10))]) [0, 1, 4, 5, 6, 3, 2] (by decide) rfl
    have hKc := hK.sub (tys' := [(kP, .object "UnderpaintModel$Place"), (k_7, .int)]) [0, 1] rfl
    have hFc := va_free (wc := [(mm, .inr (24, [.int 0, .ref stu, .ref cla, .ref pic, .ref act, .int 5, .int 50, .ref nts, .ref isn, .int 1600, .ref boa, .ref mas, .ref pai, .ref sol, .int 0, .ref bal, .ref leg])), (act, .inr (5, [.int 0, .ref en.2.2.1, .int 0]))]) hD hS hA [0, 1] rfl
    refine va_calli (va_runV (As := [.ref q_5, .int (-1)]) (rest := []) ⟨hx, hb, hml, hown, hts⟩ (c_keeps_g l dC dI b0 en H.size mm stu cla pic act nts isn boa mas pai sol bal leg ap scr g kP N q_5 q_6 k_7 f_10 (fun a9 h9 => ⟨(hNb a9 h9).1, Nat.lt_of_lt_of_le (hNb a9 h9).2 hS.1⟩) (fun a9 h9 z9 => by have g1 := hNw a9 h9; have g2 := hNr a9 h9; have g3 := (hNb a9 h9).2; simp only [List.map_cons, List.map_nil, List.mem_cons, List.not_mem_nil, or_false, not_or] at g1 g2 z9 <;> omega) (fun a9 h9 z9 => by have g1 := hNw a9 h9; have g2 := hNr a9 h9; have g3 := (hNb a9 h9).2; simp only [List.map_cons, List.map_nil, List.mem_cons, List.not_mem_nil, or_false, not_or] at g1 g2 z9 <;> omega) (z_c_X18_glue_182 x y x_8 x_9 f_10 (b_yes h_2 c_3) ex_8 ex_9 h_12) (z_c_X18_glue_183 x y x_8 x_9 f_10 (b_yes h_2 c_3) ex_8 ex_9 h_13)) (cwV 2 hts go_c_X18_glue_3 rfl rfl rfl (by decide +kernel) ⟨Nat.le_of_ble_eq_true rfl, Nat.le_of_ble_eq_true rfl⟩) ⟨cP.blind, va_recv hK hP (ci := 24) (q0 := 0) rfl rfl, cP.use (en_z hb0 hS) (hE.on hAb hS) hPc hKc hDc (hF0.on (fun a9 h8 h9 => by rw [← hAe]; exact vA1 h8 (hNw a9 h9)) hS)⟩ rfl rfl hl.1 rfl (lv_room (Nat.le_of_ble_eq_true rfl)) dX18_glue_36 ⟨Nat.le_of_ble_eq_true rfl, Nat.le_of_ble_eq_true rfl⟩) hS (fun q _ h => hFc q h) hFc (fun r_17 ⟨kc_15, vs_16⟩ t H1 locs ht hvm hw hB hz1 hk1 hS => ?_)
    obtain ⟨hP1, hK1, hD1, hF1⟩ := hB
    rw [ht] at hP1
    try rw [ht] at hF1
    have hK1 := va_K.moved hvm.symm hK1
    try dsimp only at hw
    obtain ⟨hP, hD⟩ := va_join (wr := [(q_6, .inl (k_7, 1, .inl f_10)), (q_5, .inr (18, [.int 103, .ref q_6]))]) (w1 := [(mm, .inr (24, .int kc_15 :: vs_16))]) hP hD [0, 1] [2, 3] rfl rfl (by decide) (by decide) hk1 hFc hP1 hD1
    generalize H1 = H at hP hS ⊢
    have hP : va_P (dC, dI) vwCl [(q_6, .inl (k_7, 1, .inl f_10)), (q_5, .inr (18, [.int 103, .ref q_6])), (mm, .inr (24, .int kc_15 :: vs_16))] H := hP
    have hD : va_D A [(q_6, .inl (k_7, 1, .inl f_10)), (q_5, .inr (18, [.int 103, .ref q_6])), (mm, .inr (24, .int kc_15 :: vs_16))] := hD
    have hR := en_R hR0 hN0 hS
    refine W.widen (k := 151) (n := 550) (Nat.le_of_ble_eq_true rfl) (Nat.le_of_ble_eq_true rfl) ?_
    have h_18 := hw
    refine lv_goto (tgt := 47) hx hb dX18_glue_39 (by decide) ?_
    refine W.widen (k := 151) (n := 550) (Nat.le_of_ble_eq_true rfl) (Nat.le_of_ble_eq_true rfl) ?_
    exact W.iret (v := r_17) hx hb hr (fun t ht hW => ⟨⟨r_17, ⟨kc_15, vs_16⟩, rfl, (z_c_X18_glue_184 x y x_8 x_9 kc_15 r_17 (b_yes h_2 c_3) ex_8 ex_9 h_18), cB.mk ht hW (hP.sub [2] rfl) (hK.sub [] rfl) (hD.sub [2] (by decide) rfl) (trivial)⟩, hS.F ht⟩) hS.2.2 dX18_glue_47
theorem z_c_X18_layerAt_185 (x : Int32) (y : Int32) (w : Int32) (r_1 : Int32) (a_0 : r_1 = if (0 ≤ x ∧ x < 8) ∧ (0 ≤ y ∧ y < 6) then 1 else 0) (a_1 : r_1 = 0) : (1 : Int32) = if ((0 ≤ x ∧ x < 8) ∧ (0 ≤ y ∧ y < 6)) ∧ (0 ≤ ixL 3 w ∨ w = 99 ∨ w = 103) then 2 else 1 := by grind [ixL3]
theorem z_c_X18_layerAt_186 (x : Int32) (y : Int32) (r_1 : Int32) (a_0 : r_1 = if (0 ≤ x ∧ x < 8) ∧ (0 ≤ y ∧ y < 6) then 1 else 0) (a_1 : ¬ r_1 = 0) : 3 < 6 := by grind [ixL3]
theorem z_c_X18_layerAt_187 (x : Int32) (y : Int32) (w : Int32) (r_1 : Int32) (x_7 : Int32) (x_8 : Int32) (a_0 : r_1 = if (0 ≤ x ∧ x < 8) ∧ (0 ≤ y ∧ y < 6) then 1 else 0) (a_1 : ¬ r_1 = 0) (a_2 : 0 ≤ (ixL 3 w)) (a_3 : x_7 = 8 * y) (a_4 : x_8 = x_7 + x) : 0 ≤ x_8 := by grind [ixL3]
theorem z_c_X18_layerAt_188 (x : Int32) (y : Int32) (w : Int32) (r_1 : Int32) (x_7 : Int32) (x_8 : Int32) (a_0 : r_1 = if (0 ≤ x ∧ x < 8) ∧ (0 ≤ y ∧ y < 6) then 1 else 0) (a_1 : ¬ r_1 = 0) (a_2 : 0 ≤ (ixL 3 w)) (a_3 : x_7 = 8 * y) (a_4 : x_8 = x_7 + x) : x_8 < 48 := by grind [ixL3]
theorem z_c_X18_layerAt_189 (x : Int32) (y : Int32) (w : Int32) (r_1 : Int32) (x_7 : Int32) (x_8 : Int32) (a_0 : r_1 = if (0 ≤ x ∧ x < 8) ∧ (0 ≤ y ∧ y < 6) then 1 else 0) (a_1 : ¬ r_1 = 0) (a_2 : 0 ≤ (ixL 3 w)) (a_3 : x_7 = 8 * y) (a_4 : x_8 = x_7 + x) : (2 : Int32) = if ((0 ≤ x ∧ x < 8) ∧ (0 ≤ y ∧ y < 6)) ∧ (0 ≤ ixL 3 w ∨ w = 99 ∨ w = 103) then 2 else 1 := by grind [ixL3]
theorem z_c_X18_layerAt_190 (x : Int32) (y : Int32) (w : Int32) (r_1 : Int32) (x_17 : Int32) (x_18 : Int32) (a_0 : r_1 = if (0 ≤ x ∧ x < 8) ∧ (0 ≤ y ∧ y < 6) then 1 else 0) (a_1 : ¬ r_1 = 0) (a_2 : ¬ 0 ≤ (ixL 3 w)) (a_3 : w = 99) (a_4 : x_17 = 8 * y) (a_5 : x_18 = x_17 + x) : 0 ≤ x_18 := by grind [ixL3]
theorem z_c_X18_layerAt_191 (x : Int32) (y : Int32) (w : Int32) (r_1 : Int32) (x_17 : Int32) (x_18 : Int32) (a_0 : r_1 = if (0 ≤ x ∧ x < 8) ∧ (0 ≤ y ∧ y < 6) then 1 else 0) (a_1 : ¬ r_1 = 0) (a_2 : ¬ 0 ≤ (ixL 3 w)) (a_3 : w = 99) (a_4 : x_17 = 8 * y) (a_5 : x_18 = x_17 + x) : x_18 < 48 := by grind [ixL3]
theorem z_c_X18_layerAt_192 (x : Int32) (y : Int32) (w : Int32) (r_1 : Int32) (x_17 : Int32) (x_18 : Int32) (a_0 : r_1 = if (0 ≤ x ∧ x < 8) ∧ (0 ≤ y ∧ y < 6) then 1 else 0) (a_1 : ¬ r_1 = 0) (a_2 : ¬ 0 ≤ (ixL 3 w)) (a_3 : w = 99) (a_4 : x_17 = 8 * y) (a_5 : x_18 = x_17 + x) : (2 : Int32) = if ((0 ≤ x ∧ x < 8) ∧ (0 ≤ y ∧ y < 6)) ∧ (0 ≤ ixL 3 w ∨ w = 99 ∨ w = 103) then 2 else 1 := by grind [ixL3]
theorem z_c_X18_layerAt_193 (x : Int32) (y : Int32) (w : Int32) (r_1 : Int32) (x_27 : Int32) (x_28 : Int32) (a_0 : r_1 = if (0 ≤ x ∧ x < 8) ∧ (0 ≤ y ∧ y < 6) then 1 else 0) (a_1 : ¬ r_1 = 0) (a_2 : ¬ 0 ≤ (ixL 3 w)) (a_3 : ¬ w = 99) (a_4 : w = 103) (a_5 : x_27 = 8 * y) (a_6 : x_28 = x_27 + x) : 0 ≤ x_28 := by grind [ixL3]
theorem z_c_X18_layerAt_194 (x : Int32) (y : Int32) (w : Int32) (r_1 : Int32) (x_27 : Int32) (x_28 : Int32) (a_0 : r_1 = if (0 ≤ x ∧ x < 8) ∧ (0 ≤ y ∧ y < 6) then 1 else 0) (a_1 : ¬ r_1 = 0) (a_2 : ¬ 0 ≤ (ixL 3 w)) (a_3 : ¬ w = 99) (a_4 : w = 103) (a_5 : x_27 = 8 * y) (a_6 : x_28 = x_27 + x) : x_28 < 48 := by grind [ixL3]
theorem z_c_X18_layerAt_195 (x : Int32) (y : Int32) (w : Int32) (r_1 : Int32) (x_27 : Int32) (x_28 : Int32) (a_0 : r_1 = if (0 ≤ x ∧ x < 8) ∧ (0 ≤ y ∧ y < 6) then 1 else 0) (a_1 : ¬ r_1 = 0) (a_2 : ¬ 0 ≤ (ixL 3 w)) (a_3 : ¬ w = 99) (a_4 : w = 103) (a_5 : x_27 = 8 * y) (a_6 : x_28 = x_27 + x) : (2 : Int32) = if ((0 ≤ x ∧ x < 8) ∧ (0 ≤ y ∧ y < 6)) ∧ (0 ≤ ixL 3 w ∨ w = 99 ∨ w = 103) then 2 else 1 := by grind [ixL3]
theorem z_c_X18_layerAt_196 (x : Int32) (y : Int32) (w : Int32) (r_1 : Int32) (a_0 : r_1 = if (0 ≤ x ∧ x < 8) ∧ (0 ≤ y ∧ y < 6) then 1 else 0) (a_1 : ¬ r_1 = 0) (a_2 : ¬ 0 ≤ (ixL 3 w)) (a_3 : ¬ w = 99) (a_4 : ¬ w = 103) : (1 : Int32) = if ((0 ≤ x ∧ x < 8) ∧ (0 ≤ y ∧ y < 6)) ∧ (0 ≤ ixL 3 w ∨ w = 99 ∨ w = 103) then 2 else 1 := by grind [ixL3]
set_option maxHeartbeats 4000000 in
set_option maxRecDepth 100000 in
theorem c_X18_layerAt (l : Launch) (dC : Nat → ClassId) (dI : Nat → Nat → Nat) (b0 : Nat) (en : EnT) (sz : Nat) (mm stu cla pic act nts isn boa mas pai sol bal leg : Nat) (ap scr : Nat) (g : Nat → Option Nat) (kP : ClassId) (N : Nat → Prop) (x y k w : Int32) (hNb : ∀ a, N a → b0 ≤ a ∧ a < sz) (hNw : ∀ a, N a → a ∉ List.map Prod.fst ([(mm, .inr (24, [.int 0, .ref stu, .ref cla, .ref pic, .ref act, .int 5, .int 50, .ref nts, .ref isn, .int 1600, .ref boa, .ref mas, .ref pai, .ref sol, .int 0, .ref bal, .ref leg]))] : va_W)) (hNr : ∀ a, N a → a ∉ List.map Prod.fst ([(pic, .inr (20, [.ref ap, .ref scr, .int 1600, .int 0, .int 0, .ref mm])), (ap, .inl (kP, 48, .inr (.inr (.inr (.inr g)))))] : va_W)) : Met l yX18_layerAt wsX18_layerAt ({ frames := 4, cells := 0, slots := 0, locals := 131 } : Room) (cP b0 en (dC, dI) [(kP, .object "UnderpaintModel$Place")] [(mm, .inr (24, [.int 0, .ref stu, .ref cla, .ref pic, .ref act, .int 5, .int 50, .ref nts, .ref isn, .int 1600, .ref boa, .ref mas, .ref pai, .ref sol, .int 0, .ref bal, .ref leg]))] [(pic, .inr (20, [.ref ap, .ref scr, .int 1600, .int 0, .int 0, .ref mm])), (ap, .inl (kP, 48, .inr (.inr (.inr (.inr g)))))] sz (FamP (dC, dI) N en.2.2.1 g) [.ref mm, .int x, .int y, .int k, .int w]) (va_Qi (fun (r : Int32) (u : Int32 × List Value) => u.1 = if ((0 ≤ x ∧ x < 8) ∧ (0 ≤ y ∧ y < 6)) ∧ (0 ≤ ixL 3 w ∨ w = 99 ∨ w = 103) then 2 else 1) (fun u t => cB (dC, dI) [] [(mm, .inr (24, .int u.1 :: u.2))] (va_A [(mm, .inr (24, [.int 0, .ref stu, .ref cla, .ref pic, .ref act, .int 5, .int 50, .ref nts, .ref isn, .int 1600, .ref boa, .ref mas, .ref pai, .ref sol, .int 0, .ref bal, .ref leg]))] sz) (fun _ => True) t) (va_A [(mm, .inr (24, [.int 0, .ref stu, .ref cla, .ref pic, .ref act, .int 5, .int 50, .ref nts, .ref isn, .int 1600, .ref boa, .ref mas, .ref pai, .ref sol, .int 0, .ref bal, .ref leg]))] sz)) 0 0 (va_A [(mm, .inr (24, [.int 0, .ref stu, .ref cla, .ref pic, .ref act, .int 5, .int 50, .ref nts, .ref isn, .int 1600, .ref boa, .ref mas, .ref pai, .ref sol, .int 0, .ref bal, .ref leg]))] sz) := by
  refine Met.ofW (cc := cX18_layerAt) (maxL := 7) (ret := (some .int)) (by decide) rfl ?_
  intro p e s m args below meth c s₁ B hml hv
  obtain ⟨rfl, hsz, hb0, hE, hPP, hK, hDD, hF0⟩ := hv
  have hx := B.exec
  have hb := B.bytes
  have hr := B.returns
  have hts := atoms_spec (ws := wsX18_layerAt) B.pre
  have hown : s.vm.findClass RX18 = some m.cls := findClass_of_methodNamed B.named
  have hlocks := B.notSynchronized
  subst hsz
  have hN0 := en_N hPP hDD rfl
  have hP : va_P (dC, dI) vwCl [(mm, .inr (24, [.int 0, .ref stu, .ref cla, .ref pic, .ref act, .int 5, .int 50, .ref nts, .ref isn, .int 1600, .ref boa, .ref mas, .ref pai, .ref sol, .int 0, .ref bal, .ref leg]))] s.heap := hPP.sub [0] rfl
  have hR0 : va_P (dC, dI) vwCl [(pic, .inr (20, [.ref ap, .ref scr, .int 1600, .int 0, .int 0, .ref mm])), (ap, .inl (kP, 48, .inr (.inr (.inr (.inr g)))))] s.heap := hPP.sub [1, 2] rfl
  have hD0 : va_D (fun q => b0 ≤ q) [(mm, .inr (24, [.int 0, .ref stu, .ref cla, .ref pic, .ref act, .int 5, .int 50, .ref nts, .ref isn, .int 1600, .ref boa, .ref mas, .ref pai, .ref sol, .int 0, .ref bal, .ref leg]))] := hDD.sub [0] (by decide) rfl
  have hDr : va_D (fun q => b0 ≤ q) [(pic, .inr (20, [.ref ap, .ref scr, .int 1600, .int 0, .int 0, .ref mm])), (ap, .inl (kP, 48, .inr (.inr (.inr (.inr g)))))] := hDD.sub [1, 2] (by decide) rfl
  have hAb := en_A (sz := s.heap.size) hD0 hb0
  have hD := hD0.self (sz := s.heap.size)
  generalize hAe : va_A [(mm, .inr (24, [.int 0, .ref stu, .ref cla, .ref pic, .ref act, .int 5, .int 50, .ref nts, .ref isn, .int 1600, .ref boa, .ref mas, .ref pai, .ref sol, .int 0, .ref bal, .ref leg]))] s.heap.size = A at hD hAb hN0 ⊢
  have hA : ∀ q : Nat, s.heap.size ≤ q → A q := fun q h => by rw [← hAe]; exact Or.inr h
  have hS : va_S A s.heap s.heap [] := va_S.rf
  have hR := hR0
  have hl := lv_entry [.ref mm, .int x, .int y, .int k, .int w] (n := 7) (Nat.le_of_ble_eq_true rfl)
  rw [lg_entry_eq]
  generalize (lg_sl [.ref mm, .int x, .int y, .int k, .int w] ++ List.replicate (7 - (lg_sl [.ref mm, .int x, .int y, .int k, .int w]).length) Slot.unset).toArray = ls at hl ⊢
  have hl : lv_has ls 7 [(0, .ref mm), (1, .int x), (2, .int y), (3, .int k), (4, .int w)] := hl
  have hR0b := hR0
  have hDrb := hDr
  have hN0b := hN0
  refine lv_aload_n hx hb dX18_layerAt_0 rfl (lv_at hl 0 rfl) ?_
  refine lv_iconst (v := 0) hx hb dX18_layerAt_1 (by decide) ?_
  refine va_put (D := (dC, dI)) (ci := 24) (v := .int 0) (ty := .int) (C := RX18) (T := TX18) (N := 17) hx hb hts (by decide +kernel) tyX18 tyX18_ok nmX18 hown hK hP hD hS 0 rfl rfl 0 (by decide) (hts (.fieldLink RX18 67 "UnderpaintModel" "code" "I") (by decide +kernel)) (fun _ h9 => h9) rfl (by decide +kernel) rfl rfl (Nat.le_of_ble_eq_true rfl) dX18_layerAt_2 (fun H locs hP hD hS => ?_)
  have hP : va_P (dC, dI) vwCl [(mm, .inr (24, [.int 0, .ref stu, .ref cla, .ref pic, .ref act, .int 5, .int 50, .ref nts, .ref isn, .int 1600, .ref boa, .ref mas, .ref pai, .ref sol, .int 0, .ref bal, .ref leg]))] H := hP
  have hD : va_D A [(mm, .inr (24, [.int 0, .ref stu, .ref cla, .ref pic, .ref act, .int 5, .int 50, .ref nts, .ref isn, .int 1600, .ref boa, .ref mas, .ref pai, .ref sol, .int 0, .ref bal, .ref leg]))] := hD
  have hR := en_R hR0 hN0 hS
  refine lv_iload_n hx hb dX18_layerAt_5 rfl (lv_at hl 1 rfl) ?_
  refine lv_iload_n hx hb dX18_layerAt_6 rfl (lv_at hl 2 rfl) ?_
  have hPc := (hP.app hR).sub (ws' := [] ++ []) [] rfl
  have hDc := (en_DD hD hDr hN0 hAb).sub (ws' := [] ++ []) [] (by decide) rfl
  have hKc := hK.sub (tys' := []) [] rfl
  have hFc := va_free (wc := []) hD hS hA [] rfl
  refine va_calli (va_runS (As := [.int x, .int y]) (rest := []) ⟨hx, hb, hml, hown, hts⟩ (c_X18_isPlace l dC dI b0 en H.size x y) (va_cwS 2 hts gX18_layerAt_X18_isPlace rfl rfl rfl (by decide +kernel) ⟨Nat.le_of_ble_eq_true rfl, Nat.le_of_ble_eq_true rfl⟩) ⟨cP.blind, cP.use (en_z hb0 hS) (hE.on hAb hS) hPc hKc hDc trivial⟩ rfl rfl hl.1 rfl (lv_room (Nat.le_of_ble_eq_true rfl)) dX18_layerAt_7 ⟨Nat.le_of_ble_eq_true rfl, Nat.le_of_ble_eq_true rfl⟩) hS (fun q _ h => hFc q h) hFc (fun r_1 u t H1 locs ht hvm hw hB hz1 hk1 hS => ?_)
  have hP1 : va_P (dC, dI) vwCl [] H1 := fun k q h => by simp at h
  have hD1 : va_D (va_A [] H.size) [] := ⟨fun i j p q h => by simp at h, fun k q h => by simp at h⟩
  try dsimp only at hw
  obtain ⟨hP, hD⟩ := va_join (wr := [(mm, .inr (24, [.int 0, .ref stu, .ref cla, .ref pic, .ref act, .int 5, .int 50, .ref nts, .ref isn, .int 1600, .ref boa, .ref mas, .ref pai, .ref sol, .int 0, .ref bal, .ref leg]))]) (w1 := []) hP hD [] [0] rfl rfl (by decide) (by decide) hk1 hFc hP1 hD1
  generalize H1 = H at hP hS ⊢
  have hP : va_P (dC, dI) vwCl [(mm, .inr (24, [.int 0, .ref stu, .ref cla, .ref pic, .ref act, .int 5, .int 50, .ref nts, .ref isn, .int 1600, .ref boa, .ref mas, .ref pai, .ref sol, .int 0, .ref bal, .ref leg]))] H := hP
  have hD : va_D A [(mm, .inr (24, [.int 0, .ref stu, .ref cla, .ref pic, .ref act, .int 5, .int 50, .ref nts, .ref isn, .int 1600, .ref boa, .ref mas, .ref pai, .ref sol, .int 0, .ref bal, .ref leg]))] := hD
  have hR := en_R hR0 hN0 hS
  refine W.widen (k := 0) (n := 0) (Nat.le_of_ble_eq_true rfl) (Nat.le_of_ble_eq_true rfl) ?_
  have h_2 := hw
  refine lv_if_eq (tgt := 37) hx hb dX18_layerAt_10 (by decide) (fun c_3 => ?_) (fun c_3 => ?_)
  · skip
    refine lv_aload_n hx hb dX18_layerAt_37 rfl (lv_at hl 0 rfl) ?_
    refine lv_iconst (v := 1) hx hb dX18_layerAt_38 (by decide) ?_
    have hPc := (hP.app hR).sub (ws' := [(mm, .inr (24, .int 0 :: ([.ref stu, .ref cla, .ref pic, .ref act, .int 5, .int 50, .ref nts, .ref isn, .int 1600, .ref boa, .ref mas, .ref pai, .ref sol, .int 0, .ref bal, .ref leg])))] ++ []) [0] rfl
    have hDc := (en_DD hD hDr hN0 hAb).sub (ws' := [(mm, .inr (24, .int 0 :: ([.ref stu, .ref cla, .ref pic, .ref act, .int 5, .int 50, .ref nts, .ref isn, .int 1600, .ref boa, .ref mas, .ref pai, .ref sol, .int 0, .ref bal, .ref leg])))] ++ []) [0] (by decide) rfl
    have hKc := hK.sub (tys' := []) [] rfl
    have hFc := va_free (wc := [(mm, .inr (24, .int 0 :: ([.ref stu, .ref cla, .ref pic, .ref act, .int 5, .int 50, .ref nts, .ref isn, .int 1600, .ref boa, .ref mas, .ref pai, .ref sol, .int 0, .ref bal, .ref leg])))]) hD hS hA [0] rfl
    refine va_calli (va_runV (As := [.int 1]) (rest := []) ⟨hx, hb, hml, hown, hts⟩ (c_X18_fails l dC dI b0 en H.size mm 0 1 ([.ref stu, .ref cla, .ref pic, .ref act, .int 5, .int 50, .ref nts, .ref isn, .int 1600, .ref boa, .ref mas, .ref pai, .ref sol, .int 0, .ref bal, .ref leg])) (cwV 1 hts gX18_layerAt_X18_fails rfl rfl rfl (by decide +kernel) ⟨Nat.le_of_ble_eq_true rfl, Nat.le_of_ble_eq_true rfl⟩) ⟨cP.blind, va_recv hK hP (ci := 24) (q0 := 0) rfl rfl, cP.use (en_z hb0 hS) (hE.on hAb hS) hPc hKc hDc trivial⟩ rfl rfl hl.1 rfl (lv_room (Nat.le_of_ble_eq_true rfl)) dX18_layerAt_39 ⟨Nat.le_of_ble_eq_true rfl, Nat.le_of_ble_eq_true rfl⟩) hS (fun q _ h => hFc q h) hFc (fun r_4 u t H1 locs ht hvm hw hB hz1 hk1 hS => ?_)
    obtain ⟨hP1, hK1, hD1, hF1⟩ := hB
    rw [ht] at hP1
    try rw [ht] at hF1
    have hK1 := va_K.moved hvm.symm hK1
    try dsimp only at hw
    obtain ⟨hP, hD⟩ := va_join (wr := []) (w1 := [(mm, .inr (24, [.int 1, .ref stu, .ref cla, .ref pic, .ref act, .int 5, .int 50, .ref nts, .ref isn, .int 1600, .ref boa, .ref mas, .ref pai, .ref sol, .int 0, .ref bal, .ref leg]))]) hP hD [0] [] rfl rfl (by decide) (by decide) hk1 hFc hP1 hD1
    generalize H1 = H at hP hS ⊢
    have hP : va_P (dC, dI) vwCl [(mm, .inr (24, [.int 1, .ref stu, .ref cla, .ref pic, .ref act, .int 5, .int 50, .ref nts, .ref isn, .int 1600, .ref boa, .ref mas, .ref pai, .ref sol, .int 0, .ref bal, .ref leg]))] H := hP
    have hD : va_D A [(mm, .inr (24, [.int 1, .ref stu, .ref cla, .ref pic, .ref act, .int 5, .int 50, .ref nts, .ref isn, .int 1600, .ref boa, .ref mas, .ref pai, .ref sol, .int 0, .ref bal, .ref leg]))] := hD
    have hR := en_R hR0 hN0 hS
    refine W.widen (k := 0) (n := 0) (Nat.le_of_ble_eq_true rfl) (Nat.le_of_ble_eq_true rfl) ?_
    subst r_4
    refine W.widen (k := 0) (n := 0) (Nat.le_of_ble_eq_true rfl) (Nat.le_of_ble_eq_true rfl) ?_
    exact W.iret (v := 0) hx hb hr (fun t ht hW => ⟨⟨0, ⟨1, [.ref stu, .ref cla, .ref pic, .ref act, .int 5, .int 50, .ref nts, .ref isn, .int 1600, .ref boa, .ref mas, .ref pai, .ref sol, .int 0, .ref bal, .ref leg]⟩, rfl, (z_c_X18_layerAt_185 x y w r_1 h_2 c_3), cB.mk ht hW (hP.sub [0] rfl) (hK.sub [] rfl) (hD.sub [0] (by decide) rfl) (trivial)⟩, hS.F ht⟩) hS.2.2 dX18_layerAt_42
  · skip
    refine va_ldcS hx hb hown (hE.ldc (3, "UnderpaintModel", 146, "sty") (by decide +kernel)) dX18_layerAt_13 ?_
    refine lv_iload hx hb dX18_layerAt_15 (lv_at hl 4 rfl) ?_
    have hPc := (hP.app hR).sub (ws' := [] ++ []) [] rfl
    have hDc := (en_DD hD hDr hN0 hAb).sub (ws' := [] ++ []) [] (by decide) rfl
    have hKc := hK.sub (tys' := []) [] rfl
    have hFc := va_free (wc := []) hD hS hA [] rfl
    refine va_calli (va_runV (As := [.int w]) (rest := []) ⟨hx, hb, hml, hown, hts⟩ (c_J0_indexOf l dC dI b0 en H.size 3 w (z_c_X18_layerAt_186 x y r_1 h_2 c_3)) (cwV 1 hts gX18_layerAt_J0_indexOf_0f7a4 rfl rfl rfl (by decide +kernel) ⟨Nat.le_of_ble_eq_true rfl, Nat.le_of_ble_eq_true rfl⟩) ⟨cP.blind, (en_recv (hE.lit hAb 3 (by decide)).1 hS), cP.use (en_z hb0 hS) (hE.on hAb hS) hPc hKc hDc trivial⟩ rfl rfl hl.1 rfl (lv_room (Nat.le_of_ble_eq_true rfl)) dX18_layerAt_17 ⟨Nat.le_of_ble_eq_true rfl, Nat.le_of_ble_eq_true rfl⟩) hS (fun q _ h => hFc q h) hFc (fun r_5 u t H1 locs ht hvm hw hB hz1 hk1 hS => ?_)
    have hP1 : va_P (dC, dI) vwCl [] H1 := fun k q h => by simp at h
    have hD1 : va_D (va_A [] H.size) [] := ⟨fun i j p q h => by simp at h, fun k q h => by simp at h⟩
    try dsimp only at hw
    obtain ⟨hP, hD⟩ := va_join (wr := [(mm, .inr (24, [.int 0, .ref stu, .ref cla, .ref pic, .ref act, .int 5, .int 50, .ref nts, .ref isn, .int 1600, .ref boa, .ref mas, .ref pai, .ref sol, .int 0, .ref bal, .ref leg]))]) (w1 := []) hP hD [] [0] rfl rfl (by decide) (by decide) hk1 hFc hP1 hD1
    generalize H1 = H at hP hS ⊢
    have hP : va_P (dC, dI) vwCl [(mm, .inr (24, [.int 0, .ref stu, .ref cla, .ref pic, .ref act, .int 5, .int 50, .ref nts, .ref isn, .int 1600, .ref boa, .ref mas, .ref pai, .ref sol, .int 0, .ref bal, .ref leg]))] H := hP
    have hD : va_D A [(mm, .inr (24, [.int 0, .ref stu, .ref cla, .ref pic, .ref act, .int 5, .int 50, .ref nts, .ref isn, .int 1600, .ref boa, .ref mas, .ref pai, .ref sol, .int 0, .ref bal, .ref leg]))] := hD
    have hR := en_R hR0 hN0 hS
    refine W.widen (k := 0) (n := 0) (Nat.le_of_ble_eq_true rfl) (Nat.le_of_ble_eq_true rfl) ?_
    subst r_5
    refine lv_if_ge (tgt := 43) hx hb dX18_layerAt_20 (by decide) (fun c_6 => ?_) (fun c_6 => ?_)
    · skip
      refine lv_aload_n hx hb dX18_layerAt_43 rfl (lv_at hl 0 rfl) ?_
      refine va_get (D := (dC, dI)) (ci := 24) (v := .ref pic) (C := RX18) (T := TX18) (N := 17) hx hb hts (by decide +kernel) hown hK hP 0 rfl rfl 3 (by decide) (hts (.fieldLink RX18 25 "UnderpaintModel" "picture" "LUnderpaintModel$Picture;") (by decide +kernel)) (fun _ h9 => h9) rfl dX18_layerAt_44 ?_
      refine va_getN (D := (dC, dI)) (ci := 20) (v := .ref ap) (C := RX14) (T := TX14) (N := 6) hx hb hts (by decide +kernel) hown hK hR 0 rfl rfl 0 (by decide) (va_Nw.use rfl (hE.nf ("UnderpaintModel", 137, "UnderpaintModel$Picture", "at", "[LUnderpaintModel$Place;", "UnderpaintModel") (by decide +kernel))) (fun _ h9 => h9) rfl dX18_layerAt_47 ?_
      refine lv_bipush (v := 8) hx hb dX18_layerAt_50 (by decide) ?_
      refine lv_iload_n hx hb dX18_layerAt_52 rfl (lv_at hl 2 rfl) ?_
      refine lv_imul hx hb dX18_layerAt_53 ?_
      refine lv_topi (fun x_7 ex_7 => ?_)
      refine lv_iload_n hx hb dX18_layerAt_54 rfl (lv_at hl 1 rfl) ?_
      refine lv_iadd hx hb dX18_layerAt_55 ?_
      refine lv_topi (fun x_8 ex_8 => ?_)
      obtain ⟨i_9, hi_i_9, hx_i_9⟩ := (ix48 (z_c_X18_layerAt_187 x y w r_1 x_7 x_8 h_2 c_3 c_6 ex_7 ex_8) (z_c_X18_layerAt_188 x y w r_1 x_7 x_8 h_2 c_3 c_6 ex_7 ex_8))
      refine va_aldq hx hb hK hR 1 0 rfl rfl (pl_in hi_i_9 hx_i_9) dX18_layerAt_56 ?_
      obtain ⟨ap_10, lp_10, hgp_10, hup_10, hvp_10, hnp_10, hmp_10, hdp_10⟩ := hF0 i_9 hi_i_9
      refine lv_topv (w := .ref ap_10) (by rw [pl_cl hi_i_9 hx_i_9, hgp_10]; rfl) ?_
      have hxp_10 : ¬ A ap_10 := by rw [← hAe]; exact vA1 (ws := [(mm, .inr (24, [.int 0, .ref stu, .ref cla, .ref pic, .ref act, .int 5, .int 50, .ref nts, .ref isn, .int 1600, .ref boa, .ref mas, .ref pai, .ref sol, .int 0, .ref bal, .ref leg]))]) hup_10.lt (hNw ap_10 hnp_10)
      have hyp_10 : ¬ A lp_10 := by rw [← hAe]; exact vA1 (ws := [(mm, .inr (24, [.int 0, .ref stu, .ref cla, .ref pic, .ref act, .int 5, .int 50, .ref nts, .ref isn, .int 1600, .ref boa, .ref mas, .ref pai, .ref sol, .int 0, .ref bal, .ref leg]))]) hvp_10.lt (hNw lp_10 hmp_10)
      have hfa := va1 (hup_10.kept (hS.2.1 _ hup_10.lt hxp_10))
      refine va_getN (D := (dC, dI)) (ci := 21) (v := .ref lp_10) (C := RX15) (T := TX15) (N := 3) hx hb hts (by decide +kernel) hown hK hfa 0 rfl rfl 1 (by decide) (va_Nw.use rfl (hE.nf ("UnderpaintModel", 141, "UnderpaintModel$Place", "layers", "Ljava/util/List;", "UnderpaintModel") (by decide +kernel))) (fun _ h9 => h9) rfl dX18_layerAt_57 ?_
      refine lv_astore (lv' := [(5, .ref lp_10), (0, .ref mm), (1, .int x), (2, .int y), (3, .int k), (4, .int w)]) hx hb dX18_layerAt_60 hl (by decide) rfl (fun ls hl => ?_)
      refine lv_iload_n hx hb dX18_layerAt_62 rfl (lv_at hl 4 rfl) ?_
      refine lv_iconst (v := 0) hx hb dX18_layerAt_63 (by decide) ?_
      refine lv_aload hx hb dX18_layerAt_64 (lv_at hl 0 rfl) ?_
      have hR0 : va_P (dC, dI) vwCl [(pic, .inr (20, [.ref ap, .ref scr, .int 1600, .int 0, .int 0, .ref mm])), (ap, .inl (kP, 48, .inr (.inr (.inr (.inr g))))), (lp_10, .inr (5, [.int 0, .ref en.2.2.1, .int 0]))] s.heap := (hR0b.app (va1 hvp_10))
      have hDr : va_D (fun q => b0 ≤ q) [(pic, .inr (20, [.ref ap, .ref scr, .int 1600, .int 0, .int 0, .ref mm])), (ap, .inl (kP, 48, .inr (.inr (.inr (.inr g))))), (lp_10, .inr (5, [.int 0, .ref en.2.2.1, .int 0]))] := (vD_push hDrb (hNb lp_10 hmp_10).1 (nR (hNr lp_10 hmp_10)))
      have hN0 : ∀ (k9 : Nat) (q9 : Nat × va_E), [(pic, .inr (20, [.ref ap, .ref scr, .int 1600, .int 0, .int 0, .ref mm])), (ap, .inl (kP, 48, .inr (.inr (.inr (.inr g))))), (lp_10, .inr (5, [.int 0, .ref en.2.2.1, .int 0]))][k9]? = some q9 → ¬ A q9.1 := (vN_push hN0b hyp_10)
      have hR : va_P (dC, dI) vwCl [(pic, .inr (20, [.ref ap, .ref scr, .int 1600, .int 0, .int 0, .ref mm])), (ap, .inl (kP, 48, .inr (.inr (.inr (.inr g))))), (lp_10, .inr (5, [.int 0, .ref en.2.2.1, .int 0]))] H := en_R hR0 hN0 hS
      have hPc := (hP.app hR).sub (ws' := [] ++ [(lp_10, .inr (5, [.int 0, .ref en.2.2.1, .int 0]))]) [3] rfl
      have hDc := (en_DD hD hDr hN0 hAb).sub (ws' := [] ++ [(lp_10, .inr (5, [.int 0, .ref en.2.2.1, .int 0]))]) [3] (by decide) rfl
      have hKc := hK.sub (tys' := []) [] rfl
      have hFc := va_free (wc := []) hD hS hA [] rfl
      refine va_callFi (va_runF (As := []) (rest := [.int 0, .int k]) (hK.1 5 _ rfl).2 ⟨hx, hb, hml, hown, hts⟩ (c_Jx4a65c_size l dC dI b0 en H.size lp_10 en.2.2.1 0 0) (va_cwF 0 hts gX18_layerAt_Jx4a65c_size_8abf5_f74Jx4a65c rfl rfl rfl (hE.face ("java/util/ArrayList", ⟨"java/util/List", "size", "()I"⟩, ⟨"java/util/ArrayList", "size", "()I"⟩) (by decide +kernel)) (by decide +kernel) ⟨Nat.le_of_ble_eq_true rfl, Nat.le_of_ble_eq_true rfl⟩) ⟨cP.blind, va_recv hK hR (ci := 5) (q0 := 2) rfl rfl, cP.use (en_z hb0 hS) (hE.on hAb hS) hPc hKc hDc trivial⟩ rfl rfl hl.1 rfl (lv_room (Nat.le_of_ble_eq_true rfl)) dX18_layerAt_66 ⟨Nat.le_of_ble_eq_true rfl, Nat.le_of_ble_eq_true rfl⟩) hS (fun q _ h => hFc q h) hFc (fun r_11 u t H1 locs ht hvm hw hB hz1 hk1 hS => ?_)
      have hP1 : va_P (dC, dI) vwCl [] H1 := fun k q h => by simp at h
      have hD1 : va_D (va_A [] H.size) [] := ⟨fun i j p q h => by simp at h, fun k q h => by simp at h⟩
      try dsimp only at hw
      obtain ⟨hP, hD⟩ := va_join (wr := [(mm, .inr (24, [.int 0, .ref stu, .ref cla, .ref pic, .ref act, .int 5, .int 50, .ref nts, .ref isn, .int 1600, .ref boa, .ref mas, .ref pai, .ref sol, .int 0, .ref bal, .ref leg]))]) (w1 := []) hP hD [] [0] rfl rfl (by decide) (by decide) hk1 hFc hP1 hD1
      generalize H1 = H at hP hS ⊢
      have hP : va_P (dC, dI) vwCl [(mm, .inr (24, [.int 0, .ref stu, .ref cla, .ref pic, .ref act, .int 5, .int 50, .ref nts, .ref isn, .int 1600, .ref boa, .ref mas, .ref pai, .ref sol, .int 0, .ref bal, .ref leg]))] H := hP
      have hD : va_D A [(mm, .inr (24, [.int 0, .ref stu, .ref cla, .ref pic, .ref act, .int 5, .int 50, .ref nts, .ref isn, .int 1600, .ref boa, .ref mas, .ref pai, .ref sol, .int 0, .ref bal, .ref leg]))] := hD
      have hR := en_R hR0 hN0 hS
      refine W.widen (k := 0) (n := 0) (Nat.le_of_ble_eq_true rfl) (Nat.le_of_ble_eq_true rfl) ?_
      subst r_11
      refine lv_iconst (v := 1) hx hb dX18_layerAt_71 (by decide) ?_
      refine lv_isub hx hb dX18_layerAt_72 ?_
      refine lv_topi (fun x_12 ex_12 => ?_)
      obtain rfl : x_12 = (-1) := ex_12.trans (by decide)
      have hPc := (hP.app hR).sub (ws' := [] ++ []) [] rfl
      have hDc := (en_DD hD hDr hN0 hAb).sub (ws' := [] ++ []) [] (by decide) rfl
      have hKc := hK.sub (tys' := []) [] rfl
      have hFc := va_free (wc := []) hD hS hA [] rfl
      refine va_calli (va_runS (As := [.int k, .int 0, .int (-1)]) (rest := []) ⟨hx, hb, hml, hown, hts⟩ (c_X18_in0 l dC dI b0 en H.size k) (va_cwS 3 hts gX18_layerAt_X18_in rfl rfl rfl (by decide +kernel) ⟨Nat.le_of_ble_eq_true rfl, Nat.le_of_ble_eq_true rfl⟩) ⟨cP.blind, cP.use (en_z hb0 hS) (hE.on hAb hS) hPc hKc hDc trivial⟩ rfl rfl hl.1 rfl (lv_room (Nat.le_of_ble_eq_true rfl)) dX18_layerAt_73 ⟨Nat.le_of_ble_eq_true rfl, Nat.le_of_ble_eq_true rfl⟩) hS (fun q _ h => hFc q h) hFc (fun r_13 u t H1 locs ht hvm hw hB hz1 hk1 hS => ?_)
      have hP1 : va_P (dC, dI) vwCl [] H1 := fun k q h => by simp at h
      have hD1 : va_D (va_A [] H.size) [] := ⟨fun i j p q h => by simp at h, fun k q h => by simp at h⟩
      try dsimp only at hw
      obtain ⟨hP, hD⟩ := va_join (wr := [(mm, .inr (24, [.int 0, .ref stu, .ref cla, .ref pic, .ref act, .int 5, .int 50, .ref nts, .ref isn, .int 1600, .ref boa, .ref mas, .ref pai, .ref sol, .int 0, .ref bal, .ref leg]))]) (w1 := []) hP hD [] [0] rfl rfl (by decide) (by decide) hk1 hFc hP1 hD1
      generalize H1 = H at hP hS ⊢
      have hP : va_P (dC, dI) vwCl [(mm, .inr (24, [.int 0, .ref stu, .ref cla, .ref pic, .ref act, .int 5, .int 50, .ref nts, .ref isn, .int 1600, .ref boa, .ref mas, .ref pai, .ref sol, .int 0, .ref bal, .ref leg]))] H := hP
      have hD : va_D A [(mm, .inr (24, [.int 0, .ref stu, .ref cla, .ref pic, .ref act, .int 5, .int 50, .ref nts, .ref isn, .int 1600, .ref boa, .ref mas, .ref pai, .ref sol, .int 0, .ref bal, .ref leg]))] := hD
      have hR := en_R hR0 hN0 hS
      refine W.widen (k := 0) (n := 0) (Nat.le_of_ble_eq_true rfl) (Nat.le_of_ble_eq_true rfl) ?_
      subst r_13
      refine lv_if_ne (tgt := 85) hx hb dX18_layerAt_76 (by decide) (fun c_14 => absurd c_14 (by decide)) (fun c_14 => ?_)
      refine lv_aload_n hx hb dX18_layerAt_79 rfl (lv_at hl 1 rfl) ?_
      refine lv_iconst (v := 2) hx hb dX18_layerAt_80 (by decide) ?_
      have hPc := (hP.app hR).sub (ws' := [(mm, .inr (24, .int 0 :: ([.ref stu, .ref cla, .ref pic, .ref act, .int 5, .int 50, .ref nts, .ref isn, .int 1600, .ref boa, .ref mas, .ref pai, .ref sol, .int 0, .ref bal, .ref leg])))] ++ []) [0] rfl
      have hDc := (en_DD hD hDr hN0 hAb).sub (ws' := [(mm, .inr (24, .int 0 :: ([.ref stu, .ref cla, .ref pic, .ref act, .int 5, .int 50, .ref nts, .ref isn, .int 1600, .ref boa, .ref mas, .ref pai, .ref sol, .int 0, .ref bal, .ref leg])))] ++ []) [0] (by decide) rfl
      have hKc := hK.sub (tys' := []) [] rfl
      have hFc := va_free (wc := [(mm, .inr (24, .int 0 :: ([.ref stu, .ref cla, .ref pic, .ref act, .int 5, .int 50, .ref nts, .ref isn, .int 1600, .ref boa, .ref mas, .ref pai, .ref sol, .int 0, .ref bal, .ref leg])))]) hD hS hA [0] rfl
      refine va_calli (va_runV (As := [.int 2]) (rest := []) ⟨hx, hb, hml, hown, hts⟩ (c_X18_fails l dC dI b0 en H.size mm 0 2 ([.ref stu, .ref cla, .ref pic, .ref act, .int 5, .int 50, .ref nts, .ref isn, .int 1600, .ref boa, .ref mas, .ref pai, .ref sol, .int 0, .ref bal, .ref leg])) (cwV 1 hts gX18_layerAt_X18_fails rfl rfl rfl (by decide +kernel) ⟨Nat.le_of_ble_eq_true rfl, Nat.le_of_ble_eq_true rfl⟩) ⟨cP.blind, va_recv hK hP (ci := 24) (q0 := 0) rfl rfl, cP.use (en_z hb0 hS) (hE.on hAb hS) hPc hKc hDc trivial⟩ rfl rfl hl.1 rfl (lv_room (Nat.le_of_ble_eq_true rfl)) dX18_layerAt_81 ⟨Nat.le_of_ble_eq_true rfl, Nat.le_of_ble_eq_true rfl⟩) hS (fun q _ h => hFc q h) hFc (fun r_15 u t H1 locs ht hvm hw hB hz1 hk1 hS => ?_)
      obtain ⟨hP1, hK1, hD1, hF1⟩ := hB
      rw [ht] at hP1
      try rw [ht] at hF1
      have hK1 := va_K.moved hvm.symm hK1
      try dsimp only at hw
      obtain ⟨hP, hD⟩ := va_join (wr := []) (w1 := [(mm, .inr (24, [.int 2, .ref stu, .ref cla, .ref pic, .ref act, .int 5, .int 50, .ref nts, .ref isn, .int 1600, .ref boa, .ref mas, .ref pai, .ref sol, .int 0, .ref bal, .ref leg]))]) hP hD [0] [] rfl rfl (by decide) (by decide) hk1 hFc hP1 hD1
      generalize H1 = H at hP hS ⊢
      have hP : va_P (dC, dI) vwCl [(mm, .inr (24, [.int 2, .ref stu, .ref cla, .ref pic, .ref act, .int 5, .int 50, .ref nts, .ref isn, .int 1600, .ref boa, .ref mas, .ref pai, .ref sol, .int 0, .ref bal, .ref leg]))] H := hP
      have hD : va_D A [(mm, .inr (24, [.int 2, .ref stu, .ref cla, .ref pic, .ref act, .int 5, .int 50, .ref nts, .ref isn, .int 1600, .ref boa, .ref mas, .ref pai, .ref sol, .int 0, .ref bal, .ref leg]))] := hD
      have hR := en_R hR0 hN0 hS
      refine W.widen (k := 0) (n := 0) (Nat.le_of_ble_eq_true rfl) (Nat.le_of_ble_eq_true rfl) ?_
      subst r_15
      refine W.widen (k := 0) (n := 0) (Nat.le_of_ble_eq_true rfl) (Nat.le_of_ble_eq_true rfl) ?_
      exact W.iret (v := 0) hx hb hr (fun t ht hW => ⟨⟨0, ⟨2, [.ref stu, .ref cla, .ref pic, .ref act, .int 5, .int 50, .ref nts, .ref isn, .int 1600, .ref boa, .ref mas, .ref pai, .ref sol, .int 0, .ref bal, .ref leg]⟩, rfl, (z_c_X18_layerAt_189 x y w r_1 x_7 x_8 h_2 c_3 c_6 ex_7 ex_8), cB.mk ht hW (hP.sub [0] rfl) (hK.sub [] rfl) (hD.sub [0] (by decide) rfl) (trivial)⟩, hS.F ht⟩) hS.2.2 dX18_layerAt_84
    · skip
      refine lv_iload hx hb dX18_layerAt_23 (lv_at hl 4 rfl) ?_
      refine lv_bipush (v := 99) hx hb dX18_layerAt_25 (by decide) ?_
      refine lv_icmp_eq (tgt := 43) hx hb dX18_layerAt_27 (by decide) (fun c_16 => ?_) (fun c_16 => ?_)
      · skip
        refine lv_aload_n hx hb dX18_layerAt_43 rfl (lv_at hl 0 rfl) ?_
        refine va_get (D := (dC, dI)) (ci := 24) (v := .ref pic) (C := RX18) (T := TX18) (N := 17) hx hb hts (by decide +kernel) hown hK hP 0 rfl rfl 3 (by decide) (hts (.fieldLink RX18 25 "UnderpaintModel" "picture" "LUnderpaintModel$Picture;") (by decide +kernel)) (fun _ h9 => h9) rfl dX18_layerAt_44 ?_
        refine va_getN (D := (dC, dI)) (ci := 20) (v := .ref ap) (C := RX14) (T := TX14) (N := 6) hx hb hts (by decide +kernel) hown hK hR 0 rfl rfl 0 (by decide) (va_Nw.use rfl (hE.nf ("UnderpaintModel", 137, "UnderpaintModel$Picture", "at", "[LUnderpaintModel$Place;", "UnderpaintModel") (by decide +kernel))) (fun _ h9 => h9) rfl dX18_layerAt_47 ?_
        refine lv_bipush (v := 8) hx hb dX18_layerAt_50 (by decide) ?_
        refine lv_iload_n hx hb dX18_layerAt_52 rfl (lv_at hl 2 rfl) ?_
        refine lv_imul hx hb dX18_layerAt_53 ?_
        refine lv_topi (fun x_17 ex_17 => ?_)
        refine lv_iload_n hx hb dX18_layerAt_54 rfl (lv_at hl 1 rfl) ?_
        refine lv_iadd hx hb dX18_layerAt_55 ?_
        refine lv_topi (fun x_18 ex_18 => ?_)
        obtain ⟨i_19, hi_i_19, hx_i_19⟩ := (ix48 (z_c_X18_layerAt_190 x y w r_1 x_17 x_18 h_2 c_3 c_6 c_16 ex_17 ex_18) (z_c_X18_layerAt_191 x y w r_1 x_17 x_18 h_2 c_3 c_6 c_16 ex_17 ex_18))
        refine va_aldq hx hb hK hR 1 0 rfl rfl (pl_in hi_i_19 hx_i_19) dX18_layerAt_56 ?_
        obtain ⟨ap_20, lp_20, hgp_20, hup_20, hvp_20, hnp_20, hmp_20, hdp_20⟩ := hF0 i_19 hi_i_19
        refine lv_topv (w := .ref ap_20) (by rw [pl_cl hi_i_19 hx_i_19, hgp_20]; rfl) ?_
        have hxp_20 : ¬ A ap_20 := by rw [← hAe]; exact vA1 (ws := [(mm, .inr (24, [.int 0, .ref stu, .ref cla, .ref pic, .ref act, .int 5, .int 50, .ref nts, .ref isn, .int 1600, .ref boa, .ref mas, .ref pai, .ref sol, .int 0, .ref bal, .ref leg]))]) hup_20.lt (hNw ap_20 hnp_20)
        have hyp_20 : ¬ A lp_20 := by rw [← hAe]; exact vA1 (ws := [(mm, .inr (24, [.int 0, .ref stu, .ref cla, .ref pic, .ref act, .int 5, .int 50, .ref nts, .ref isn, .int 1600, .ref boa, .ref mas, .ref pai, .ref sol, .int 0, .ref bal, .ref leg]))]) hvp_20.lt (hNw lp_20 hmp_20)
        have hfa := va1 (hup_20.kept (hS.2.1 _ hup_20.lt hxp_20))
        refine va_getN (D := (dC, dI)) (ci := 21) (v := .ref lp_20) (C := RX15) (T := TX15) (N := 3) hx hb hts (by decide +kernel) hown hK hfa 0 rfl rfl 1 (by decide) (va_Nw.use rfl (hE.nf ("UnderpaintModel", 141, "UnderpaintModel$Place", "layers", "Ljava/util/List;", "UnderpaintModel") (by decide +kernel))) (fun _ h9 => h9) rfl dX18_layerAt_57 ?_
        refine lv_astore (lv' := [(5, .ref lp_20), (0, .ref mm), (1, .int x), (2, .int y), (3, .int k), (4, .int w)]) hx hb dX18_layerAt_60 hl (by decide) rfl (fun ls hl => ?_)
        refine lv_iload_n hx hb dX18_layerAt_62 rfl (lv_at hl 4 rfl) ?_
        refine lv_iconst (v := 0) hx hb dX18_layerAt_63 (by decide) ?_
        refine lv_aload hx hb dX18_layerAt_64 (lv_at hl 0 rfl) ?_
        have hR0 : va_P (dC, dI) vwCl [(pic, .inr (20, [.ref ap, .ref scr, .int 1600, .int 0, .int 0, .ref mm])), (ap, .inl (kP, 48, .inr (.inr (.inr (.inr g))))), (lp_20, .inr (5, [.int 0, .ref en.2.2.1, .int 0]))] s.heap := (hR0b.app (va1 hvp_20))
        have hDr : va_D (fun q => b0 ≤ q) [(pic, .inr (20, [.ref ap, .ref scr, .int 1600, .int 0, .int 0, .ref mm])), (ap, .inl (kP, 48, .inr (.inr (.inr (.inr g))))), (lp_20, .inr (5, [.int 0, .ref en.2.2.1, .int 0]))] := (vD_push hDrb (hNb lp_20 hmp_20).1 (nR (hNr lp_20 hmp_20)))
        have hN0 : ∀ (k9 : Nat) (q9 : Nat × va_E), [(pic, .inr (20, [.ref ap, .ref scr, .int 1600, .int 0, .int 0, .ref mm])), (ap, .inl (kP, 48, .inr (.inr (.inr (.inr g))))), (lp_20, .inr (5, [.int 0, .ref en.2.2.1, .int 0]))][k9]? = some q9 → ¬ A q9.1 := (vN_push hN0b hyp_20)
        have hR : va_P (dC, dI) vwCl [(pic, .inr (20, [.ref ap, .ref scr, .int 1600, .int 0, .int 0, .ref mm])), (ap, .inl (kP, 48, .inr (.inr (.inr (.inr g))))), (lp_20, .inr (5, [.int 0, .ref en.2.2.1, .int 0]))] H := en_R hR0 hN0 hS
        have hPc := (hP.app hR).sub (ws' := [] ++ [(lp_20, .inr (5, [.int 0, .ref en.2.2.1, .int 0]))]) [3] rfl
        have hDc := (en_DD hD hDr hN0 hAb).sub (ws' := [] ++ [(lp_20, .inr (5, [.int 0, .ref en.2.2.1, .int 0]))]) [3] (by decide) rfl
        have hKc := hK.sub (tys' := []) [] rfl
        have hFc := va_free (wc := []) hD hS hA [] rfl
        refine va_callFi (va_runF (As := []) (rest := [.int 0, .int k]) (hK.1 5 _ rfl).2 ⟨hx, hb, hml, hown, hts⟩ (c_Jx4a65c_size l dC dI b0 en H.size lp_20 en.2.2.1 0 0) (va_cwF 0 hts gX18_layerAt_Jx4a65c_size_8abf5_f74Jx4a65c rfl rfl rfl (hE.face ("java/util/ArrayList", ⟨"java/util/List", "size", "()I"⟩, ⟨"java/util/ArrayList", "size", "()I"⟩) (by decide +kernel)) (by decide +kernel) ⟨Nat.le_of_ble_eq_true rfl, Nat.le_of_ble_eq_true rfl⟩) ⟨cP.blind, va_recv hK hR (ci := 5) (q0 := 2) rfl rfl, cP.use (en_z hb0 hS) (hE.on hAb hS) hPc hKc hDc trivial⟩ rfl rfl hl.1 rfl (lv_room (Nat.le_of_ble_eq_true rfl)) dX18_layerAt_66 ⟨Nat.le_of_ble_eq_true rfl, Nat.le_of_ble_eq_true rfl⟩) hS (fun q _ h => hFc q h) hFc (fun r_21 u t H1 locs ht hvm hw hB hz1 hk1 hS => ?_)
        have hP1 : va_P (dC, dI) vwCl [] H1 := fun k q h => by simp at h
        have hD1 : va_D (va_A [] H.size) [] := ⟨fun i j p q h => by simp at h, fun k q h => by simp at h⟩
        try dsimp only at hw
        obtain ⟨hP, hD⟩ := va_join (wr := [(mm, .inr (24, [.int 0, .ref stu, .ref cla, .ref pic, .ref act, .int 5, .int 50, .ref nts, .ref isn, .int 1600, .ref boa, .ref mas, .ref pai, .ref sol, .int 0, .ref bal, .ref leg]))]) (w1 := []) hP hD [] [0] rfl rfl (by decide) (by decide) hk1 hFc hP1 hD1
        generalize H1 = H at hP hS ⊢
        have hP : va_P (dC, dI) vwCl [(mm, .inr (24, [.int 0, .ref stu, .ref cla, .ref pic, .ref act, .int 5, .int 50, .ref nts, .ref isn, .int 1600, .ref boa, .ref mas, .ref pai, .ref sol, .int 0, .ref bal, .ref leg]))] H := hP
        have hD : va_D A [(mm, .inr (24, [.int 0, .ref stu, .ref cla, .ref pic, .ref act, .int 5, .int 50, .ref nts, .ref isn, .int 1600, .ref boa, .ref mas, .ref pai, .ref sol, .int 0, .ref bal, .ref leg]))] := hD
        have hR := en_R hR0 hN0 hS
        refine W.widen (k := 0) (n := 0) (Nat.le_of_ble_eq_true rfl) (Nat.le_of_ble_eq_true rfl) ?_
        subst r_21
        refine lv_iconst (v := 1) hx hb dX18_layerAt_71 (by decide) ?_
        refine lv_isub hx hb dX18_layerAt_72 ?_
        refine lv_topi (fun x_22 ex_22 => ?_)
        obtain rfl : x_22 = (-1) := ex_22.trans (by decide)
        have hPc := (hP.app hR).sub (ws' := [] ++ []) [] rfl
        have hDc := (en_DD hD hDr hN0 hAb).sub (ws' := [] ++ []) [] (by decide) rfl
        have hKc := hK.sub (tys' := []) [] rfl
        have hFc := va_free (wc := []) hD hS hA [] rfl
        refine va_calli (va_runS (As := [.int k, .int 0, .int (-1)]) (rest := []) ⟨hx, hb, hml, hown, hts⟩ (c_X18_in0 l dC dI b0 en H.size k) (va_cwS 3 hts gX18_layerAt_X18_in rfl rfl rfl (by decide +kernel) ⟨Nat.le_of_ble_eq_true rfl, Nat.le_of_ble_eq_true rfl⟩) ⟨cP.blind, cP.use (en_z hb0 hS) (hE.on hAb hS) hPc hKc hDc trivial⟩ rfl rfl hl.1 rfl (lv_room (Nat.le_of_ble_eq_true rfl)) dX18_layerAt_73 ⟨Nat.le_of_ble_eq_true rfl, Nat.le_of_ble_eq_true rfl⟩) hS (fun q _ h => hFc q h) hFc (fun r_23 u t H1 locs ht hvm hw hB hz1 hk1 hS => ?_)
        have hP1 : va_P (dC, dI) vwCl [] H1 := fun k q h => by simp at h
        have hD1 : va_D (va_A [] H.size) [] := ⟨fun i j p q h => by simp at h, fun k q h => by simp at h⟩
        try dsimp only at hw
        obtain ⟨hP, hD⟩ := va_join (wr := [(mm, .inr (24, [.int 0, .ref stu, .ref cla, .ref pic, .ref act, .int 5, .int 50, .ref nts, .ref isn, .int 1600, .ref boa, .ref mas, .ref pai, .ref sol, .int 0, .ref bal, .ref leg]))]) (w1 := []) hP hD [] [0] rfl rfl (by decide) (by decide) hk1 hFc hP1 hD1
        generalize H1 = H at hP hS ⊢
        have hP : va_P (dC, dI) vwCl [(mm, .inr (24, [.int 0, .ref stu, .ref cla, .ref pic, .ref act, .int 5, .int 50, .ref nts, .ref isn, .int 1600, .ref boa, .ref mas, .ref pai, .ref sol, .int 0, .ref bal, .ref leg]))] H := hP
        have hD : va_D A [(mm, .inr (24, [.int 0, .ref stu, .ref cla, .ref pic, .ref act, .int 5, .int 50, .ref nts, .ref isn, .int 1600, .ref boa, .ref mas, .ref pai, .ref sol, .int 0, .ref bal, .ref leg]))] := hD
        have hR := en_R hR0 hN0 hS
        refine W.widen (k := 0) (n := 0) (Nat.le_of_ble_eq_true rfl) (Nat.le_of_ble_eq_true rfl) ?_
        subst r_23
        refine lv_if_ne (tgt := 85) hx hb dX18_layerAt_76 (by decide) (fun c_24 => absurd c_24 (by decide)) (fun c_24 => ?_)
        refine lv_aload_n hx hb dX18_layerAt_79 rfl (lv_at hl 1 rfl) ?_
        refine lv_iconst (v := 2) hx hb dX18_layerAt_80 (by decide) ?_
        have hPc := (hP.app hR).sub (ws' := [(mm, .inr (24, .int 0 :: ([.ref stu, .ref cla, .ref pic, .ref act, .int 5, .int 50, .ref nts, .ref isn, .int 1600, .ref boa, .ref mas, .ref pai, .ref sol, .int 0, .ref bal, .ref leg])))] ++ []) [0] rfl
        have hDc := (en_DD hD hDr hN0 hAb).sub (ws' := [(mm, .inr (24, .int 0 :: ([.ref stu, .ref cla, .ref pic, .ref act, .int 5, .int 50, .ref nts, .ref isn, .int 1600, .ref boa, .ref mas, .ref pai, .ref sol, .int 0, .ref bal, .ref leg])))] ++ []) [0] (by decide) rfl
        have hKc := hK.sub (tys' := []) [] rfl
        have hFc := va_free (wc := [(mm, .inr (24, .int 0 :: ([.ref stu, .ref cla, .ref pic, .ref act, .int 5, .int 50, .ref nts, .ref isn, .int 1600, .ref boa, .ref mas, .ref pai, .ref sol, .int 0, .ref bal, .ref leg])))]) hD hS hA [0] rfl
        refine va_calli (va_runV (As := [.int 2]) (rest := []) ⟨hx, hb, hml, hown, hts⟩ (c_X18_fails l dC dI b0 en H.size mm 0 2 ([.ref stu, .ref cla, .ref pic, .ref act, .int 5, .int 50, .ref nts, .ref isn, .int 1600, .ref boa, .ref mas, .ref pai, .ref sol, .int 0, .ref bal, .ref leg])) (cwV 1 hts gX18_layerAt_X18_fails rfl rfl rfl (by decide +kernel) ⟨Nat.le_of_ble_eq_true rfl, Nat.le_of_ble_eq_true rfl⟩) ⟨cP.blind, va_recv hK hP (ci := 24) (q0 := 0) rfl rfl, cP.use (en_z hb0 hS) (hE.on hAb hS) hPc hKc hDc trivial⟩ rfl rfl hl.1 rfl (lv_room (Nat.le_of_ble_eq_true rfl)) dX18_layerAt_81 ⟨Nat.le_of_ble_eq_true rfl, Nat.le_of_ble_eq_true rfl⟩) hS (fun q _ h => hFc q h) hFc (fun r_25 u t H1 locs ht hvm hw hB hz1 hk1 hS => ?_)
        obtain ⟨hP1, hK1, hD1, hF1⟩ := hB
        rw [ht] at hP1
        try rw [ht] at hF1
        have hK1 := va_K.moved hvm.symm hK1
        try dsimp only at hw
        obtain ⟨hP, hD⟩ := va_join (wr := []) (w1 := [(mm, .inr (24, [.int 2, .ref stu, .ref cla, .ref pic, .ref act, .int 5, .int 50, .ref nts, .ref isn, .int 1600, .ref boa, .ref mas, .ref pai, .ref sol, .int 0, .ref bal, .ref leg]))]) hP hD [0] [] rfl rfl (by decide) (by decide) hk1 hFc hP1 hD1
        generalize H1 = H at hP hS ⊢
        have hP : va_P (dC, dI) vwCl [(mm, .inr (24, [.int 2, .ref stu, .ref cla, .ref pic, .ref act, .int 5, .int 50, .ref nts, .ref isn, .int 1600, .ref boa, .ref mas, .ref pai, .ref sol, .int 0, .ref bal, .ref leg]))] H := hP
        have hD : va_D A [(mm, .inr (24, [.int 2, .ref stu, .ref cla, .ref pic, .ref act, .int 5, .int 50, .ref nts, .ref isn, .int 1600, .ref boa, .ref mas, .ref pai, .ref sol, .int 0, .ref bal, .ref leg]))] := hD
        have hR := en_R hR0 hN0 hS
        refine W.widen (k := 0) (n := 0) (Nat.le_of_ble_eq_true rfl) (Nat.le_of_ble_eq_true rfl) ?_
        subst r_25
        refine W.widen (k := 0) (n := 0) (Nat.le_of_ble_eq_true rfl) (Nat.le_of_ble_eq_true rfl) ?_
        exact W.iret (v := 0) hx hb hr (fun t ht hW => ⟨⟨0, ⟨2, [.ref stu, .ref cla, .ref pic, .ref act, .int 5, .int 50, .ref nts, .ref isn, .int 1600, .ref boa, .ref mas, .ref pai, .ref sol, .int 0, .ref bal, .ref leg]⟩, rfl, (z_c_X18_layerAt_192 x y w r_1 x_17 x_18 h_2 c_3 c_6 c_16 ex_17 ex_18), cB.mk ht hW (hP.sub [0] rfl) (hK.sub [] rfl) (hD.sub [0] (by decide) rfl) (trivial)⟩, hS.F ht⟩) hS.2.2 dX18_layerAt_84
      · skip
        refine lv_iload hx hb dX18_layerAt_30 (lv_at hl 4 rfl) ?_
        refine lv_bipush (v := 103) hx hb dX18_layerAt_32 (by decide) ?_
        refine lv_icmp_eq (tgt := 43) hx hb dX18_layerAt_34 (by decide) (fun c_26 => ?_) (fun c_26 => ?_)
        · skip
          refine lv_aload_n hx hb dX18_layerAt_43 rfl (lv_at hl 0 rfl) ?_
          refine va_get (D := (dC, dI)) (ci := 24) (v := .ref pic) (C := RX18) (T := TX18) (N := 17) hx hb hts (by decide +kernel) hown hK hP 0 rfl rfl 3 (by decide) (hts (.fieldLink RX18 25 "UnderpaintModel" "picture" "LUnderpaintModel$Picture;") (by decide +kernel)) (fun _ h9 => h9) rfl dX18_layerAt_44 ?_
          refine va_getN (D := (dC, dI)) (ci := 20) (v := .ref ap) (C := RX14) (T := TX14) (N := 6) hx hb hts (by decide +kernel) hown hK hR 0 rfl rfl 0 (by decide) (va_Nw.use rfl (hE.nf ("UnderpaintModel", 137, "UnderpaintModel$Picture", "at", "[LUnderpaintModel$Place;", "UnderpaintModel") (by decide +kernel))) (fun _ h9 => h9) rfl dX18_layerAt_47 ?_
          refine lv_bipush (v := 8) hx hb dX18_layerAt_50 (by decide) ?_
          refine lv_iload_n hx hb dX18_layerAt_52 rfl (lv_at hl 2 rfl) ?_
          refine lv_imul hx hb dX18_layerAt_53 ?_
          refine lv_topi (fun x_27 ex_27 => ?_)
          refine lv_iload_n hx hb dX18_layerAt_54 rfl (lv_at hl 1 rfl) ?_
          refine lv_iadd hx hb dX18_layerAt_55 ?_
          refine lv_topi (fun x_28 ex_28 => ?_)
          obtain ⟨i_29, hi_i_29, hx_i_29⟩ := (ix48 (z_c_X18_layerAt_193 x y w r_1 x_27 x_28 h_2 c_3 c_6 c_16 c_26 ex_27 ex_28) (z_c_X18_layerAt_194 x y w r_1 x_27 x_28 h_2 c_3 c_6 c_16 c_26 ex_27 ex_28))
          refine va_aldq hx hb hK hR 1 0 rfl rfl (pl_in hi_i_29 hx_i_29) dX18_layerAt_56 ?_
          obtain ⟨ap_30, lp_30, hgp_30, hup_30, hvp_30, hnp_30, hmp_30, hdp_30⟩ := hF0 i_29 hi_i_29
          refine lv_topv (w := .ref ap_30) (by rw [pl_cl hi_i_29 hx_i_29, hgp_30]; rfl) ?_
          have hxp_30 : ¬ A ap_30 := by rw [← hAe]; exact vA1 (ws := [(mm, .inr (24, [.int 0, .ref stu, .ref cla, .ref pic, .ref act, .int 5, .int 50, .ref nts, .ref isn, .int 1600, .ref boa, .ref mas, .ref pai, .ref sol, .int 0, .ref bal, .ref leg]))]) hup_30.lt (hNw ap_30 hnp_30)
          have hyp_30 : ¬ A lp_30 := by rw [← hAe]; exact vA1 (ws := [(mm, .inr (24, [.int 0, .ref stu, .ref cla, .ref pic, .ref act, .int 5, .int 50, .ref nts, .ref isn, .int 1600, .ref boa, .ref mas, .ref pai, .ref sol, .int 0, .ref bal, .ref leg]))]) hvp_30.lt (hNw lp_30 hmp_30)
          have hfa := va1 (hup_30.kept (hS.2.1 _ hup_30.lt hxp_30))
          refine va_getN (D := (dC, dI)) (ci := 21) (v := .ref lp_30) (C := RX15) (T := TX15) (N := 3) hx hb hts (by decide +kernel) hown hK hfa 0 rfl rfl 1 (by decide) (va_Nw.use rfl (hE.nf ("UnderpaintModel", 141, "UnderpaintModel$Place", "layers", "Ljava/util/List;", "UnderpaintModel") (by decide +kernel))) (fun _ h9 => h9) rfl dX18_layerAt_57 ?_
          refine lv_astore (lv' := [(5, .ref lp_30), (0, .ref mm), (1, .int x), (2, .int y), (3, .int k), (4, .int w)]) hx hb dX18_layerAt_60 hl (by decide) rfl (fun ls hl => ?_)
          refine lv_iload_n hx hb dX18_layerAt_62 rfl (lv_at hl 4 rfl) ?_
          refine lv_iconst (v := 0) hx hb dX18_layerAt_63 (by decide) ?_
          refine lv_aload hx hb dX18_layerAt_64 (lv_at hl 0 rfl) ?_
          have hR0 : va_P (dC, dI) vwCl [(pic, .inr (20, [.ref ap, .ref scr, .int 1600, .int 0, .int 0, .ref mm])), (ap, .inl (kP, 48, .inr (.inr (.inr (.inr g))))), (lp_30, .inr (5, [.int 0, .ref en.2.2.1, .int 0]))] s.heap := (hR0b.app (va1 hvp_30))
          have hDr : va_D (fun q => b0 ≤ q) [(pic, .inr (20, [.ref ap, .ref scr, .int 1600, .int 0, .int 0, .ref mm])), (ap, .inl (kP, 48, .inr (.inr (.inr (.inr g))))), (lp_30, .inr (5, [.int 0, .ref en.2.2.1, .int 0]))] := (vD_push hDrb (hNb lp_30 hmp_30).1 (nR (hNr lp_30 hmp_30)))
          have hN0 : ∀ (k9 : Nat) (q9 : Nat × va_E), [(pic, .inr (20, [.ref ap, .ref scr, .int 1600, .int 0, .int 0, .ref mm])), (ap, .inl (kP, 48, .inr (.inr (.inr (.inr g))))), (lp_30, .inr (5, [.int 0, .ref en.2.2.1, .int 0]))][k9]? = some q9 → ¬ A q9.1 := (vN_push hN0b hyp_30)
          have hR : va_P (dC, dI) vwCl [(pic, .inr (20, [.ref ap, .ref scr, .int 1600, .int 0, .int 0, .ref mm])), (ap, .inl (kP, 48, .inr (.inr (.inr (.inr g))))), (lp_30, .inr (5, [.int 0, .ref en.2.2.1, .int 0]))] H := en_R hR0 hN0 hS
          have hPc := (hP.app hR).sub (ws' := [] ++ [(lp_30, .inr (5, [.int 0, .ref en.2.2.1, .int 0]))]) [3] rfl
          have hDc := (en_DD hD hDr hN0 hAb).sub (ws' := [] ++ [(lp_30, .inr (5, [.int 0, .ref en.2.2.1, .int 0]))]) [3] (by decide) rfl
          have hKc := hK.sub (tys' := []) [] rfl
          have hFc := va_free (wc := []) hD hS hA [] rfl
          refine va_callFi (va_runF (As := []) (rest := [.int 0, .int k]) (hK.1 5 _ rfl).2 ⟨hx, hb, hml, hown, hts⟩ (c_Jx4a65c_size l dC dI b0 en H.size lp_30 en.2.2.1 0 0) (va_cwF 0 hts gX18_layerAt_Jx4a65c_size_8abf5_f74Jx4a65c rfl rfl rfl (hE.face ("java/util/ArrayList", ⟨"java/util/List", "size", "()I"⟩, ⟨"java/util/ArrayList", "size", "()I"⟩) (by decide +kernel)) (by decide +kernel) ⟨Nat.le_of_ble_eq_true rfl, Nat.le_of_ble_eq_true rfl⟩) ⟨cP.blind, va_recv hK hR (ci := 5) (q0 := 2) rfl rfl, cP.use (en_z hb0 hS) (hE.on hAb hS) hPc hKc hDc trivial⟩ rfl rfl hl.1 rfl (lv_room (Nat.le_of_ble_eq_true rfl)) dX18_layerAt_66 ⟨Nat.le_of_ble_eq_true rfl, Nat.le_of_ble_eq_true rfl⟩) hS (fun q _ h => hFc q h) hFc (fun r_31 u t H1 locs ht hvm hw hB hz1 hk1 hS => ?_)
          have hP1 : va_P (dC, dI) vwCl [] H1 := fun k q h => by simp at h
          have hD1 : va_D (va_A [] H.size) [] := ⟨fun i j p q h => by simp at h, fun k q h => by simp at h⟩
          try dsimp only at hw
          obtain ⟨hP, hD⟩ := va_join (wr := [(mm, .inr (24, [.int 0, .ref stu, .ref cla, .ref pic, .ref act, .int 5, .int 50, .ref nts, .ref isn, .int 1600, .ref boa, .ref mas, .ref pai, .ref sol, .int 0, .ref bal, .ref leg]))]) (w1 := []) hP hD [] [0] rfl rfl (by decide) (by decide) hk1 hFc hP1 hD1
          generalize H1 = H at hP hS ⊢
          have hP : va_P (dC, dI) vwCl [(mm, .inr (24, [.int 0, .ref stu, .ref cla, .ref pic, .ref act, .int 5, .int 50, .ref nts, .ref isn, .int 1600, .ref boa, .ref mas, .ref pai, .ref sol, .int 0, .ref bal, .ref leg]))] H := hP
          have hD : va_D A [(mm, .inr (24, [.int 0, .ref stu, .ref cla, .ref pic, .ref act, .int 5, .int 50, .ref nts, .ref isn, .int 1600, .ref boa, .ref mas, .ref pai, .ref sol, .int 0, .ref bal, .ref leg]))] := hD
          have hR := en_R hR0 hN0 hS
          refine W.widen (k := 0) (n := 0) (Nat.le_of_ble_eq_true rfl) (Nat.le_of_ble_eq_true rfl) ?_
          subst r_31
          refine lv_iconst (v := 1) hx hb dX18_layerAt_71 (by decide) ?_
          refine lv_isub hx hb dX18_layerAt_72 ?_
          refine lv_topi (fun x_32 ex_32 => ?_)
          obtain rfl : x_32 = (-1) := ex_32.trans (by decide)
          have hPc := (hP.app hR).sub (ws' := [] ++ []) [] rfl
          have hDc := (en_DD hD hDr hN0 hAb).sub (ws' := [] ++ []) [] (by decide) rfl
          have hKc := hK.sub (tys' := []) [] rfl
          have hFc := va_free (wc := []) hD hS hA [] rfl
          refine va_calli (va_runS (As := [.int k, .int 0, .int (-1)]) (rest := []) ⟨hx, hb, hml, hown, hts⟩ (c_X18_in0 l dC dI b0 en H.size k) (va_cwS 3 hts gX18_layerAt_X18_in rfl rfl rfl (by decide +kernel) ⟨Nat.le_of_ble_eq_true rfl, Nat.le_of_ble_eq_true rfl⟩) ⟨cP.blind, cP.use (en_z hb0 hS) (hE.on hAb hS) hPc hKc hDc trivial⟩ rfl rfl hl.1 rfl (lv_room (Nat.le_of_ble_eq_true rfl)) dX18_layerAt_73 ⟨Nat.le_of_ble_eq_true rfl, Nat.le_of_ble_eq_true rfl⟩) hS (fun q _ h => hFc q h) hFc (fun r_33 u t H1 locs ht hvm hw hB hz1 hk1 hS => ?_)
          have hP1 : va_P (dC, dI) vwCl [] H1 := fun k q h => by simp at h
          have hD1 : va_D (va_A [] H.size) [] := ⟨fun i j p q h => by simp at h, fun k q h => by simp at h⟩
          try dsimp only at hw
          obtain ⟨hP, hD⟩ := va_join (wr := [(mm, .inr (24, [.int 0, .ref stu, .ref cla, .ref pic, .ref act, .int 5, .int 50, .ref nts, .ref isn, .int 1600, .ref boa, .ref mas, .ref pai, .ref sol, .int 0, .ref bal, .ref leg]))]) (w1 := []) hP hD [] [0] rfl rfl (by decide) (by decide) hk1 hFc hP1 hD1
          generalize H1 = H at hP hS ⊢
          have hP : va_P (dC, dI) vwCl [(mm, .inr (24, [.int 0, .ref stu, .ref cla, .ref pic, .ref act, .int 5, .int 50, .ref nts, .ref isn, .int 1600, .ref boa, .ref mas, .ref pai, .ref sol, .int 0, .ref bal, .ref leg]))] H := hP
          have hD : va_D A [(mm, .inr (24, [.int 0, .ref stu, .ref cla, .ref pic, .ref act, .int 5, .int 50, .ref nts, .ref isn, .int 1600, .ref boa, .ref mas, .ref pai, .ref sol, .int 0, .ref bal, .ref leg]))] := hD
          have hR := en_R hR0 hN0 hS
          refine W.widen (k := 0) (n := 0) (Nat.le_of_ble_eq_true rfl) (Nat.le_of_ble_eq_true rfl) ?_
          subst r_33
          refine lv_if_ne (tgt := 85) hx hb dX18_layerAt_76 (by decide) (fun c_34 => absurd c_34 (by decide)) (fun c_34 => ?_)
          refine lv_aload_n hx hb dX18_layerAt_79 rfl (lv_at hl 1 rfl) ?_
          refine lv_iconst (v := 2) hx hb dX18_layerAt_80 (by decide) ?_
          have hPc := (hP.app hR).sub (ws' := [(mm, .inr (24, .int 0 :: ([.ref stu, .ref cla, .ref pic, .ref act, .int 5, .int 50, .ref nts, .ref isn, .int 1600, .ref boa, .ref mas, .ref pai, .ref sol, .int 0, .ref bal, .ref leg])))] ++ []) [0] rfl
          have hDc := (en_DD hD hDr hN0 hAb).sub (ws' := [(mm, .inr (24, .int 0 :: ([.ref stu, .ref cla, .ref pic, .ref act, .int 5, .int 50, .ref nts, .ref isn, .int 1600, .ref boa, .ref mas, .ref pai, .ref sol, .int 0, .ref bal, .ref leg])))] ++ []) [0] (by decide) rfl
          have hKc := hK.sub (tys' := []) [] rfl
          have hFc := va_free (wc := [(mm, .inr (24, .int 0 :: ([.ref stu, .ref cla, .ref pic, .ref act, .int 5, .int 50, .ref nts, .ref isn, .int 1600, .ref boa, .ref mas, .ref pai, .ref sol, .int 0, .ref bal, .ref leg])))]) hD hS hA [0] rfl
          refine va_calli (va_runV (As := [.int 2]) (rest := []) ⟨hx, hb, hml, hown, hts⟩ (c_X18_fails l dC dI b0 en H.size mm 0 2 ([.ref stu, .ref cla, .ref pic, .ref act, .int 5, .int 50, .ref nts, .ref isn, .int 1600, .ref boa, .ref mas, .ref pai, .ref sol, .int 0, .ref bal, .ref leg])) (cwV 1 hts gX18_layerAt_X18_fails rfl rfl rfl (by decide +kernel) ⟨Nat.le_of_ble_eq_true rfl, Nat.le_of_ble_eq_true rfl⟩) ⟨cP.blind, va_recv hK hP (ci := 24) (q0 := 0) rfl rfl, cP.use (en_z hb0 hS) (hE.on hAb hS) hPc hKc hDc trivial⟩ rfl rfl hl.1 rfl (lv_room (Nat.le_of_ble_eq_true rfl)) dX18_layerAt_81 ⟨Nat.le_of_ble_eq_true rfl, Nat.le_of_ble_eq_true rfl⟩) hS (fun q _ h => hFc q h) hFc (fun r_35 u t H1 locs ht hvm hw hB hz1 hk1 hS => ?_)
          obtain ⟨hP1, hK1, hD1, hF1⟩ := hB
          rw [ht] at hP1
          try rw [ht] at hF1
          have hK1 := va_K.moved hvm.symm hK1
          try dsimp only at hw
          obtain ⟨hP, hD⟩ := va_join (wr := []) (w1 := [(mm, .inr (24, [.int 2, .ref stu, .ref cla, .ref pic, .ref act, .int 5, .int 50, .ref nts, .ref isn, .int 1600, .ref boa, .ref mas, .ref pai, .ref sol, .int 0, .ref bal, .ref leg]))]) hP hD [0] [] rfl rfl (by decide) (by decide) hk1 hFc hP1 hD1
          generalize H1 = H at hP hS ⊢
          have hP : va_P (dC, dI) vwCl [(mm, .inr (24, [.int 2, .ref stu, .ref cla, .ref pic, .ref act, .int 5, .int 50, .ref nts, .ref isn, .int 1600, .ref boa, .ref mas, .ref pai, .ref sol, .int 0, .ref bal, .ref leg]))] H := hP
          have hD : va_D A [(mm, .inr (24, [.int 2, .ref stu, .ref cla, .ref pic, .ref act, .int 5, .int 50, .ref nts, .ref isn, .int 1600, .ref boa, .ref mas, .ref pai, .ref sol, .int 0, .ref bal, .ref leg]))] := hD
          have hR := en_R hR0 hN0 hS
          refine W.widen (k := 0) (n := 0) (Nat.le_of_ble_eq_true rfl) (Nat.le_of_ble_eq_true rfl) ?_
          subst r_35
          refine W.widen (k := 0) (n := 0) (Nat.le_of_ble_eq_true rfl) (Nat.le_of_ble_eq_true rfl) ?_
          exact W.iret (v := 0) hx hb hr (fun t ht hW => ⟨⟨0, ⟨2, [.ref stu, .ref cla, .ref pic, .ref act, .int 5, .int 50, .ref nts, .ref isn, .int 1600, .ref boa, .ref mas, .ref pai, .ref sol, .int 0, .ref bal, .ref leg]⟩, rfl, (z_c_X18_layerAt_195 x y w r_1 x_27 x_28 h_2 c_3 c_6 c_16 c_26 ex_27 ex_28), cB.mk ht hW (hP.sub [0] rfl) (hK.sub [] rfl) (hD.sub [0] (by decide) rfl) (trivial)⟩, hS.F ht⟩) hS.2.2 dX18_layerAt_84
        · skip
          refine lv_aload_n hx hb dX18_layerAt_37 rfl (lv_at hl 0 rfl) ?_
          refine lv_iconst (v := 1) hx hb dX18_layerAt_38 (by decide) ?_
          have hPc := (hP.app hR).sub (ws' := [(mm, .inr (24, .int 0 :: ([.ref stu, .ref cla, .ref pic, .ref act, .int 5, .int 50, .ref nts, .ref isn, .int 1600, .ref boa, .ref mas, .ref pai, .ref sol, .int 0, .ref bal, .ref leg])))] ++ []) [0] rfl
          have hDc := (en_DD hD hDr hN0 hAb).sub (ws' := [(mm, .inr (24, .int 0 :: ([.ref stu, .ref cla, .ref pic, .ref act, .int 5, .int 50, .ref nts, .ref isn, .int 1600, .ref boa, .ref mas, .ref pai, .ref sol, .int 0, .ref bal, .ref leg])))] ++ []) [0] (by decide) rfl
          have hKc := hK.sub (tys' := []) [] rfl
          have hFc := va_free (wc := [(mm, .inr (24, .int 0 :: ([.ref stu, .ref cla, .ref pic, .ref act, .int 5, .int 50, .ref nts, .ref isn, .int 1600, .ref boa, .ref mas, .ref pai, .ref sol, .int 0, .ref bal, .ref leg])))]) hD hS hA [0] rfl
          refine va_calli (va_runV (As := [.int 1]) (rest := []) ⟨hx, hb, hml, hown, hts⟩ (c_X18_fails l dC dI b0 en H.size mm 0 1 ([.ref stu, .ref cla, .ref pic, .ref act, .int 5, .int 50, .ref nts, .ref isn, .int 1600, .ref boa, .ref mas, .ref pai, .ref sol, .int 0, .ref bal, .ref leg])) (cwV 1 hts gX18_layerAt_X18_fails rfl rfl rfl (by decide +kernel) ⟨Nat.le_of_ble_eq_true rfl, Nat.le_of_ble_eq_true rfl⟩) ⟨cP.blind, va_recv hK hP (ci := 24) (q0 := 0) rfl rfl, cP.use (en_z hb0 hS) (hE.on hAb hS) hPc hKc hDc trivial⟩ rfl rfl hl.1 rfl (lv_room (Nat.le_of_ble_eq_true rfl)) dX18_layerAt_39 ⟨Nat.le_of_ble_eq_true rfl, Nat.le_of_ble_eq_true rfl⟩) hS (fun q _ h => hFc q h) hFc (fun r_36 u t H1 locs ht hvm hw hB hz1 hk1 hS => ?_)
          obtain ⟨hP1, hK1, hD1, hF1⟩ := hB
          rw [ht] at hP1
          try rw [ht] at hF1
          have hK1 := va_K.moved hvm.symm hK1
          try dsimp only at hw
          obtain ⟨hP, hD⟩ := va_join (wr := []) (w1 := [(mm, .inr (24, [.int 1, .ref stu, .ref cla, .ref pic, .ref act, .int 5, .int 50, .ref nts, .ref isn, .int 1600, .ref boa, .ref mas, .ref pai, .ref sol, .int 0, .ref bal, .ref leg]))]) hP hD [0] [] rfl rfl (by decide) (by decide) hk1 hFc hP1 hD1
          generalize H1 = H at hP hS ⊢
          have hP : va_P (dC, dI) vwCl [(mm, .inr (24, [.int 1, .ref stu, .ref cla, .ref pic, .ref act, .int 5, .int 50, .ref nts, .ref isn, .int 1600, .ref boa, .ref mas, .ref pai, .ref sol, .int 0, .ref bal, .ref leg]))] H := hP
          have hD : va_D A [(mm, .inr (24, [.int 1, .ref stu, .ref cla, .ref pic, .ref act, .int 5, .int 50, .ref nts, .ref isn, .int 1600, .ref boa, .ref mas, .ref pai, .ref sol, .int 0, .ref bal, .ref leg]))] := hD
          have hR := en_R hR0 hN0 hS
          refine W.widen (k := 0) (n := 0) (Nat.le_of_ble_eq_true rfl) (Nat.le_of_ble_eq_true rfl) ?_
          subst r_36
          refine W.widen (k := 0) (n := 0) (Nat.le_of_ble_eq_true rfl) (Nat.le_of_ble_eq_true rfl) ?_
          exact W.iret (v := 0) hx hb hr (fun t ht hW => ⟨⟨0, ⟨1, [.ref stu, .ref cla, .ref pic, .ref act, .int 5, .int 50, .ref nts, .ref isn, .int 1600, .ref boa, .ref mas, .ref pai, .ref sol, .int 0, .ref bal, .ref leg]⟩, rfl, (z_c_X18_layerAt_196 x y w r_1 h_2 c_3 c_6 c_16 c_26), cB.mk ht hW (hP.sub [0] rfl) (hK.sub [] rfl) (hD.sub [0] (by decide) rfl) (trivial)⟩, hS.F ht⟩) hS.2.2 dX18_layerAt_42
theorem lv_ldcwf {p : Program} {l : Launch} {e : Env} {R : Room} {s : State} {m : MethodId} {args : Array Value} {below : List Frame} {meth : Method} {c : Code} {H : Heap} {locs : List Loc} {cells slots : Nat} {Q : State → Prop} {cc : ByteArray} {pc : Nat} {ls : Array Slot} {rest : List Value} (hexec : p.tables.exec = Jvm.exec) (hb : c.code = cc) {own : String} {index : Nat} {v : UInt32} (hown : s.vm.findClass own = some m.cls) (hconst : (Jvm.Cond.constantFloat own index v).before args s = true) (hdg : decode cc pc = .ok (.ldc_w index, 3)) (k : W p l e R s m args below meth c H locs cells slots Q (F0 m (pc + 3) ls (.float v :: rest))) : W p l e R s m args below meth c H locs cells slots Q (F0 m pc ls rest) := by
  intro T hT X
  obtain ⟨t, a, b⟩ := k T hT X
  refine ⟨t, ?_, b⟩
  obtain ⟨kk, cf, hk, hcf, hcp⟩ := Cond.constantFloat_spec hown hconst
  obtain ⟨k', hk', he⟩ := X.warmed.alike.2.2 _ _ hk
  have hd : decode c.code (F0 m pc ls rest).pc = .ok (.ldc_w index, 3) := by rw [hb]; exact hdg
  have hk2 : T.vm.classes[(F0 m pc ls rest).method.cls]? = some k' := hk'
  jvm_step X.here [hexec, hd, Op.ldc_w.wp_float (s := T) (f := F0 m pc ls rest) X.here.top hk2 (by rw [he]; exact hcf) hcp]
  exact a
theorem z_c_X18_coveredShare_197   : (0 : Int32) = 0 ∧ (FP.fdiv (FP.i2f 0) 1111490560) = FP.fdiv (FP.i2f 0) 1111490560 := by grind
set_option maxHeartbeats 4000000 in
set_option maxRecDepth 100000 in
theorem c_X18_coveredShare (l : Launch) (dC : Nat → ClassId) (dI : Nat → Nat → Nat) (b0 : Nat) (en : EnT) (sz : Nat) (mm stu cla pic act nts isn boa mas pai sol bal leg : Nat) (ap scr : Nat) (g : Nat → Option Nat) (kP : ClassId) (N : Nat → Prop) (hNb : ∀ a, N a → b0 ≤ a ∧ a < sz) (hNw : ∀ a, N a → a ∉ List.map Prod.fst ([(mm, .inr (24, [.int 0, .ref stu, .ref cla, .ref pic, .ref act, .int 5, .int 50, .ref nts, .ref isn, .int 1600, .ref boa, .ref mas, .ref pai, .ref sol, .int 0, .ref bal, .ref leg]))] : va_W)) (hNr : ∀ a, N a → a ∉ List.map Prod.fst ([(pic, .inr (20, [.ref ap, .ref scr, .int 1600, .int 0, .int 0, .ref mm])), (ap, .inl (kP, 48, .inr (.inr (.inr (.inr g)))))] : va_W)) : Met l yX18_coveredShare wsX18_coveredShare ({ frames := 2, cells := 0, slots := 0, locals := 45 } : Room) (cP b0 en (dC, dI) [(kP, .object "UnderpaintModel$Place")] [(mm, .inr (24, [.int 0, .ref stu, .ref cla, .ref pic, .ref act, .int 5, .int 50, .ref nts, .ref isn, .int 1600, .ref boa, .ref mas, .ref pai, .ref sol, .int 0, .ref bal, .ref leg]))] [(pic, .inr (20, [.ref ap, .ref scr, .int 1600, .int 0, .int 0, .ref mm])), (ap, .inl (kP, 48, .inr (.inr (.inr (.inr g)))))] sz (FamP (dC, dI) N en.2.2.1 g) [.ref mm]) (va_Qf (fun (r : UInt32) (u : Int32 × List Value) => u.1 = 0 ∧ r = FP.fdiv (FP.i2f 0) 1111490560) (fun u t => cB (dC, dI) [] [(mm, .inr (24, .int u.1 :: u.2))] (va_A [(mm, .inr (24, [.int 0, .ref stu, .ref cla, .ref pic, .ref act, .int 5, .int 50, .ref nts, .ref isn, .int 1600, .ref boa, .ref mas, .ref pai, .ref sol, .int 0, .ref bal, .ref leg]))] sz) (fun _ => True) t) (va_A [(mm, .inr (24, [.int 0, .ref stu, .ref cla, .ref pic, .ref act, .int 5, .int 50, .ref nts, .ref isn, .int 1600, .ref boa, .ref mas, .ref pai, .ref sol, .int 0, .ref bal, .ref leg]))] sz)) 0 0 (va_A [(mm, .inr (24, [.int 0, .ref stu, .ref cla, .ref pic, .ref act, .int 5, .int 50, .ref nts, .ref isn, .int 1600, .ref boa, .ref mas, .ref pai, .ref sol, .int 0, .ref bal, .ref leg]))] sz) := by
  refine Met.ofW (cc := cX18_coveredShare) (maxL := 1) (ret := (some .float)) (by decide) rfl ?_
  intro p e s m args below meth c s₁ B hml hv
  obtain ⟨rfl, hsz, hb0, hE, hPP, hK, hDD, hF0⟩ := hv
  have hx := B.exec
  have hb := B.bytes
  have hr := B.returns
  have hts := atoms_spec (ws := wsX18_coveredShare) B.pre
  have hown : s.vm.findClass RX18 = some m.cls := findClass_of_methodNamed B.named
  have hlocks := B.notSynchronized
  subst hsz
  have hN0 := en_N hPP hDD rfl
  have hP : va_P (dC, dI) vwCl [(mm, .inr (24, [.int 0, .ref stu, .ref cla, .ref pic, .ref act, .int 5, .int 50, .ref nts, .ref isn, .int 1600, .ref boa, .ref mas, .ref pai, .ref sol, .int 0, .ref bal, .ref leg]))] s.heap := hPP.sub [0] rfl
  have hR0 : va_P (dC, dI) vwCl [(pic, .inr (20, [.ref ap, .ref scr, .int 1600, .int 0, .int 0, .ref mm])), (ap, .inl (kP, 48, .inr (.inr (.inr (.inr g)))))] s.heap := hPP.sub [1, 2] rfl
  have hD0 : va_D (fun q => b0 ≤ q) [(mm, .inr (24, [.int 0, .ref stu, .ref cla, .ref pic, .ref act, .int 5, .int 50, .ref nts, .ref isn, .int 1600, .ref boa, .ref mas, .ref pai, .ref sol, .int 0, .ref bal, .ref leg]))] := hDD.sub [0] (by decide) rfl
  have hDr : va_D (fun q => b0 ≤ q) [(pic, .inr (20, [.ref ap, .ref scr, .int 1600, .int 0, .int 0, .ref mm])), (ap, .inl (kP, 48, .inr (.inr (.inr (.inr g)))))] := hDD.sub [1, 2] (by decide) rfl
  have hAb := en_A (sz := s.heap.size) hD0 hb0
  have hD := hD0.self (sz := s.heap.size)
  generalize hAe : va_A [(mm, .inr (24, [.int 0, .ref stu, .ref cla, .ref pic, .ref act, .int 5, .int 50, .ref nts, .ref isn, .int 1600, .ref boa, .ref mas, .ref pai, .ref sol, .int 0, .ref bal, .ref leg]))] s.heap.size = A at hD hAb hN0 ⊢
  have hA : ∀ q : Nat, s.heap.size ≤ q → A q := fun q h => by rw [← hAe]; exact Or.inr h
  have hS : va_S A s.heap s.heap [] := va_S.rf
  have hR := hR0
  have hl := lv_entry [.ref mm] (n := 1) (Nat.le_of_ble_eq_true rfl)
  rw [lg_entry_eq]
  generalize (lg_sl [.ref mm] ++ List.replicate (1 - (lg_sl [.ref mm]).length) Slot.unset).toArray = ls at hl ⊢
  have hl : lv_has ls 1 [(0, .ref mm)] := hl
  have hR0b := hR0
  have hDrb := hDr
  have hN0b := hN0
  refine lv_aload_n hx hb dX18_coveredShare_0 rfl (lv_at hl 0 rfl) ?_
  refine lv_iconst (v := 0) hx hb dX18_coveredShare_1 (by decide) ?_
  refine va_put (D := (dC, dI)) (ci := 24) (v := .int 0) (ty := .int) (C := RX18) (T := TX18) (N := 17) hx hb hts (by decide +kernel) tyX18 tyX18_ok nmX18 hown hK hP hD hS 0 rfl rfl 0 (by decide) (hts (.fieldLink RX18 67 "UnderpaintModel" "code" "I") (by decide +kernel)) (fun _ h9 => h9) rfl (by decide +kernel) rfl rfl (Nat.le_of_ble_eq_true rfl) dX18_coveredShare_2 (fun H locs hP hD hS => ?_)
  have hP : va_P (dC, dI) vwCl [(mm, .inr (24, [.int 0, .ref stu, .ref cla, .ref pic, .ref act, .int 5, .int 50, .ref nts, .ref isn, .int 1600, .ref boa, .ref mas, .ref pai, .ref sol, .int 0, .ref bal, .ref leg]))] H := hP
  have hD : va_D A [(mm, .inr (24, [.int 0, .ref stu, .ref cla, .ref pic, .ref act, .int 5, .int 50, .ref nts, .ref isn, .int 1600, .ref boa, .ref mas, .ref pai, .ref sol, .int 0, .ref bal, .ref leg]))] := hD
  have hR := en_R hR0 hN0 hS
  refine lv_aload_n hx hb dX18_coveredShare_5 rfl (lv_at hl 0 rfl) ?_
  have hPc := (hP.app hR).sub (ws' := [] ++ [(mm, .inr (24, [.int 0, .ref stu, .ref cla, .ref pic, .ref act, .int 5, .int 50, .ref nts, .ref isn, .int 1600, .ref boa, .ref mas, .ref pai, .ref sol, .int 0, .ref bal, .ref leg])), (pic, .inr (20, [.ref ap, .ref scr, .int 1600, .int 0, .int 0, .ref mm])), (ap, .inl (kP, 48, .inr (.inr (.inr (.inr g)))))]) [0, 1, 2] rfl
  have hDc := (en_DD hD hDr hN0 hAb).sub (ws' := [] ++ [(mm, .inr (24, [.int 0, .ref stu, .ref cla, .ref pic, .ref act, .int 5, .int 50, .ref nts, .ref isn, .int 1600, .ref boa, .ref mas, .ref pai, .ref sol, .int 0, .ref bal, .ref leg])), (pic, .inr (20, [.ref ap, .ref scr, .int 1600, .int 0, .int 0, .ref mm])), (ap, .inl (kP, 48, .inr (.inr (.inr (.inr g)))))]) [0, 1, 2] (by decide) rfl
  have hKc := hK.sub (tys' := [(kP, .object "UnderpaintModel$Place")]) [0] rfl
  have hFc := va_free (wc := []) hD hS hA [] rfl
  refine va_calli (va_runV (As := []) (rest := []) ⟨hx, hb, hml, hown, hts⟩ (c_X18_covered l dC dI b0 en H.size mm stu cla pic act nts isn boa mas pai sol bal leg ap scr g kP N (fun a9 h9 => ⟨(hNb a9 h9).1, Nat.lt_of_lt_of_le (hNb a9 h9).2 hS.1⟩) (fun a9 h9 z9 => by have g1 := hNw a9 h9; have g2 := hNr a9 h9; have g3 := (hNb a9 h9).2; simp only [List.map_cons, List.map_nil, List.mem_cons, List.not_mem_nil, or_false, not_or] at g1 g2 z9 <;> omega) (fun a9 h9 z9 => by have g1 := hNw a9 h9; have g2 := hNr a9 h9; have g3 := (hNb a9 h9).2; simp only [List.map_cons, List.map_nil, List.mem_cons, List.not_mem_nil, or_false, not_or] at g1 g2 z9 <;> omega)) (cwV 0 hts gX18_coveredShare_X18_covered rfl rfl rfl (by decide +kernel) ⟨Nat.le_of_ble_eq_true rfl, Nat.le_of_ble_eq_true rfl⟩) ⟨cP.blind, va_recv hK hP (ci := 24) (q0 := 0) rfl rfl, cP.use (en_z hb0 hS) (hE.on hAb hS) hPc hKc hDc (hF0.on (fun a9 h8 h9 => by rw [← hAe]; exact vA1 h8 (hNw a9 h9)) hS)⟩ rfl rfl hl.1 rfl (lv_room (Nat.le_of_ble_eq_true rfl)) dX18_coveredShare_6 ⟨Nat.le_of_ble_eq_true rfl, Nat.le_of_ble_eq_true rfl⟩) hS (fun q _ h => hFc q h) hFc (fun r_1 u t H1 locs ht hvm hw hB hz1 hk1 hS => ?_)
  have hP1 : va_P (dC, dI) vwCl [] H1 := fun k q h => by simp at h
  have hD1 : va_D (va_A [] H.size) [] := ⟨fun i j p q h => by simp at h, fun k q h => by simp at h⟩
  try dsimp only at hw
  obtain ⟨hP, hD⟩ := va_join (wr := [(mm, .inr (24, [.int 0, .ref stu, .ref cla, .ref pic, .ref act, .int 5, .int 50, .ref nts, .ref isn, .int 1600, .ref boa, .ref mas, .ref pai, .ref sol, .int 0, .ref bal, .ref leg]))]) (w1 := []) hP hD [] [0] rfl rfl (by decide) (by decide) hk1 hFc hP1 hD1
  generalize H1 = H at hP hS ⊢
  have hP : va_P (dC, dI) vwCl [(mm, .inr (24, [.int 0, .ref stu, .ref cla, .ref pic, .ref act, .int 5, .int 50, .ref nts, .ref isn, .int 1600, .ref boa, .ref mas, .ref pai, .ref sol, .int 0, .ref bal, .ref leg]))] H := hP
  have hD : va_D A [(mm, .inr (24, [.int 0, .ref stu, .ref cla, .ref pic, .ref act, .int 5, .int 50, .ref nts, .ref isn, .int 1600, .ref boa, .ref mas, .ref pai, .ref sol, .int 0, .ref bal, .ref leg]))] := hD
  have hR := en_R hR0 hN0 hS
  refine W.widen (k := 0) (n := 0) (Nat.le_of_ble_eq_true rfl) (Nat.le_of_ble_eq_true rfl) ?_
  subst r_1
  refine lv_i2f hx hb dX18_coveredShare_9 ?_
  refine lv_ldcwf (v := 1111490560) hx hb hown (hts (.constantFloat RX18 336 (1111490560)) (by decide +kernel)) dX18_coveredShare_10 ?_
  refine lv_fdiv hx hb dX18_coveredShare_13 (by unfold vf_n32; decide +kernel) ?_
  refine W.widen (k := 0) (n := 0) (Nat.le_of_ble_eq_true rfl) (Nat.le_of_ble_eq_true rfl) ?_
  exact W.fret (v := (FP.fdiv (FP.i2f 0) 1111490560)) hx hb hr (fun t ht hW => ⟨⟨(FP.fdiv (FP.i2f 0) 1111490560), ⟨0, [.ref stu, .ref cla, .ref pic, .ref act, .int 5, .int 50, .ref nts, .ref isn, .int 1600, .ref boa, .ref mas, .ref pai, .ref sol, .int 0, .ref bal, .ref leg]⟩, rfl, (z_c_X18_coveredShare_197), cB.mk ht hW (hP.sub [0] rfl) (hK.sub [] rfl) (hD.sub [0] (by decide) rfl) (trivial)⟩, hS.F ht⟩) hS.2.2 dX18_coveredShare_14
theorem z_c_X18_loan_198   : narrow .char (.int 111) = .int 111 := by first | decide +kernel | grind
theorem z_c_X18_loan_199   : fits .char (.int 111) = true := by first | decide +kernel | grind
def wo_c_X18_loan_w : List Cond := [Cond.fieldLink RX18 64 "UnderpaintModel" "legs" "Ljava/util/List;", Cond.arrayClass .int, Cond.classLink RX18 128 RX12, Cond.instantiable RX12 2, Cond.initialized RX12, Cond.methodLink RX18 130 yX12_init, Cond.instanceMethod yX12_init]
def wo_c_X18_loan : List Cond := .code yX18_loan cX18_loan 3 (some (.object "UnderpaintModel$Act")) :: (wo_c_X18_loan_w ++ (u_ws RX18 TX18 17 ++ (u_ws RX12 TX12 2 ++ (va_wsF RX18 74 RJx4a65c ⟨"java/util/List", "size", "()I"⟩ yJx4a65c_size_8abf5 wsJx4a65c_size_8abf5 ++ (wo_c_X12_init ++ List.nil)))))
theorem gw_wo_c_X18_loan : wo_c_X18_loan.all goodWord = true := gw_c (by decide +kernel) (gw_a (by decide +kernel) (gw_a (by decide +kernel) (gw_a (by decide +kernel) (gw_a (gw_a (by decide +kernel) gw_wsJx4a65c_size_8abf5) (gw_a gw_wo_c_X12_init rfl)))))
theorem go_c_X18_loan_0 : GoodIn wo_c_X18_loan (va_wsF RX18 74 RJx4a65c ⟨"java/util/List", "size", "()I"⟩ yJx4a65c_size_8abf5 wsJx4a65c_size_8abf5) := goodIn_sub (fun _ h => List.mem_cons_of_mem _ (List.mem_append_right _ (List.mem_append_right _ (List.mem_append_right _ (List.mem_append_left _ h))))) (gw_a (by decide +kernel) gw_wsJx4a65c_size_8abf5)
theorem go_c_X18_loan_1 : GoodIn wo_c_X18_loan (wo_c_X12_init) := goodIn_sub (fun _ h => List.mem_cons_of_mem _ (List.mem_append_right _ (List.mem_append_right _ (List.mem_append_right _ (List.mem_append_right _ (List.mem_append_left _ h)))))) gw_wo_c_X12_init
set_option maxHeartbeats 4000000 in
set_option maxRecDepth 100000 in
/-- loan() without legs -/
theorem c_X18_loan (l : Launch) (dC : Nat → ClassId) (dI : Nat → Nat → Nat) (b0 : Nat) (en : EnT) (sz : Nat) (mm stu cla pic act nts isn boa mas pai sol bal leg : Nat) : Met l yX18_loan wo_c_X18_loan ({ frames := 2, cells := 2, slots := 2, locals := 52 } : Room) (cP b0 en (dC, dI) [] [] [(mm, .inr (24, [.int 0, .ref stu, .ref cla, .ref pic, .ref act, .int 5, .int 50, .ref nts, .ref isn, .int 1600, .ref boa, .ref mas, .ref pai, .ref sol, .int 0, .ref bal, .ref leg])), (leg, .inr (5, [.int 0, .ref en.2.2.1, .int 0]))] sz (fun _ => True) [.ref mm]) (va_Qr (fun u : Nat × ClassId × (Nat → Int32) => True) (fun u r t => cB (dC, dI) [(u.2.1, .int)] [(r, .inr (18, [.int 111, .ref u.1])), (u.1, .inl (u.2.1, 0, .inl u.2.2))] (va_A [] sz) (fun _ => True) t) (va_A [] sz)) 2 2 (va_A [] sz) := by
  refine Met.ofW (cc := cX18_loan) (maxL := 3) (ret := (some (.object "UnderpaintModel$Act"))) (by decide) rfl ?_
  intro p e s m args below meth c s₁ B hml hv
  obtain ⟨rfl, hsz, hb0, hE, hPP, hK, hDD, hF0⟩ := hv
  have hx := B.exec
  have hb := B.bytes
  have hr := B.returns
  have hts := atoms_spec (ws := wo_c_X18_loan) B.pre
  have hown : s.vm.findClass RX18 = some m.cls := findClass_of_methodNamed B.named
  have hlocks := B.notSynchronized
  subst hsz
  have hN0 := en_N hPP hDD rfl
  have hP : va_P (dC, dI) vwCl [] s.heap := hPP.sub [] rfl
  have hR0 : va_P (dC, dI) vwCl [(mm, .inr (24, [.int 0, .ref stu, .ref cla, .ref pic, .ref act, .int 5, .int 50, .ref nts, .ref isn, .int 1600, .ref boa, .ref mas, .ref pai, .ref sol, .int 0, .ref bal, .ref leg])), (leg, .inr (5, [.int 0, .ref en.2.2.1, .int 0]))] s.heap := hPP.sub [0, 1] rfl
  have hD0 : va_D (fun q => b0 ≤ q) [] := hDD.sub [] (by decide) rfl
  have hDr : va_D (fun q => b0 ≤ q) [(mm, .inr (24, [.int 0, .ref stu, .ref cla, .ref pic, .ref act, .int 5, .int 50, .ref nts, .ref isn, .int 1600, .ref boa, .ref mas, .ref pai, .ref sol, .int 0, .ref bal, .ref leg])), (leg, .inr (5, [.int 0, .ref en.2.2.1, .int 0]))] := hDD.sub [0, 1] (by decide) rfl
  have hAb := en_A (sz := s.heap.size) hD0 hb0
  have hD := hD0.self (sz := s.heap.size)
  generalize hAe : va_A [] s.heap.size = A at hD hAb hN0 ⊢
  have hA : ∀ q : Nat, s.heap.size ≤ q → A q := fun q h => by rw [← hAe]; exact Or.inr h
  have hS : va_S A s.heap s.heap [] := va_S.rf
  have hR := hR0
  have hl := lv_entry [.ref mm] (n := 3) (Nat.le_of_ble_eq_true rfl)
  rw [lg_entry_eq]
  generalize (lg_sl [.ref mm] ++ List.replicate (3 - (lg_sl [.ref mm]).length) Slot.unset).toArray = ls at hl ⊢
  have hl : lv_has ls 3 [(0, .ref mm)] := hl
  refine lv_aload_n hx hb dX18_loan_0 rfl (lv_at hl 0 rfl) ?_
  refine va_get (D := (dC, dI)) (ci := 24) (v := .ref leg) (C := RX18) (T := TX18) (N := 17) hx hb hts (by decide +kernel) hown hK hR 0 rfl rfl 16 (by decide) (hts (.fieldLink RX18 64 "UnderpaintModel" "legs" "Ljava/util/List;") (by decide +kernel)) (fun _ h9 => h9) rfl dX18_loan_1 ?_
  have hPc := (hP.app hR).sub (ws' := [] ++ [(leg, .inr (5, [.int 0, .ref en.2.2.1, .int 0]))]) [1] rfl
  have hDc := (en_DD hD hDr hN0 hAb).sub (ws' := [] ++ [(leg, .inr (5, [.int 0, .ref en.2.2.1, .int 0]))]) [1] (by decide) rfl
  have hKc := hK.sub (tys' := []) [] rfl
  have hFc := va_free (wc := []) hD hS hA [] rfl
  refine va_callFi (va_runF (As := []) (rest := []) (hK.1 5 _ rfl).2 ⟨hx, hb, hml, hown, hts⟩ (c_Jx4a65c_size l dC dI b0 en s.heap.size leg en.2.2.1 0 0) (va_cwF 0 hts go_c_X18_loan_0 rfl rfl rfl (hE.face ("java/util/ArrayList", ⟨"java/util/List", "size", "()I"⟩, ⟨"java/util/ArrayList", "size", "()I"⟩) (by decide +kernel)) (by decide +kernel) ⟨Nat.le_of_ble_eq_true rfl, Nat.le_of_ble_eq_true rfl⟩) ⟨cP.blind, va_recv hK hR (ci := 5) (q0 := 1) rfl rfl, cP.use (en_z hb0 hS) (hE.on hAb hS) hPc hKc hDc trivial⟩ rfl rfl hl.1 rfl (lv_room (Nat.le_of_ble_eq_true rfl)) dX18_loan_4 ⟨Nat.le_of_ble_eq_true rfl, Nat.le_of_ble_eq_true rfl⟩) hS (fun q _ h => hFc q h) hFc (fun r_1 u t H1 locs ht hvm hw hB hz1 hk1 hS => ?_)
  have hP1 : va_P (dC, dI) vwCl [] H1 := fun k q h => by simp at h
  have hD1 : va_D (va_A [] s.heap.size) [] := ⟨fun i j p q h => by simp at h, fun k q h => by simp at h⟩
  try dsimp only at hw
  obtain ⟨hP, hD⟩ := va_join (wr := []) (w1 := []) hP hD [] [] rfl rfl (by decide) (by decide) hk1 hFc hP1 hD1
  generalize H1 = H at hP hS ⊢
  have hP : va_P (dC, dI) vwCl [] H := hP
  have hD : va_D A [] := hD
  have hR := en_R hR0 hN0 hS
  refine W.widen (k := 0) (n := 0) (Nat.le_of_ble_eq_true rfl) (Nat.le_of_ble_eq_true rfl) ?_
  subst r_1
  have hz9 := hS.1
  refine va_newaX (atype := .int) (a0 := (0, .inl (fun _ => 0))) hx hb (hts (.arrayClass .int) (by decide +kernel)) rfl hK hP hD hS hA (fun _ => rfl) (by decide) (by decide) (by decide) (Nat.le_of_ble_eq_true rfl) (Nat.le_of_ble_eq_true rfl) dX18_loan_9 (fun q_2 k_3 H hK hP hD hS hoq hoz => ?_)
  have hP : va_P (dC, dI) vwCl [(q_2, .inl (k_3, 0, .inl (fun _ => 0)))] H := hP
  have hD : va_D A [(q_2, .inl (k_3, 0, .inl (fun _ => 0)))] := hD
  have hR := en_R hR0 hN0 hS
  refine W.widen (k := 1) (n := 0) (Nat.le_of_ble_eq_true rfl) (Nat.le_of_ble_eq_true rfl) ?_
  have hgz_q_2 : s.heap.size ≤ q_2 := by rw [hoz]; exact hz9
  have hoz_q_2 := hoz
  refine lv_astore_n (lv' := [(1, .ref q_2), (0, .ref mm)]) hx hb dX18_loan_11 rfl hl (by decide) rfl (fun ls hl => ?_)
  refine lv_iconst (v := 0) hx hb dX18_loan_12 (by decide) ?_
  refine lv_istore_n (lv' := [(2, .int 0), (1, .ref q_2), (0, .ref mm)]) hx hb dX18_loan_13 rfl hl (by decide) rfl (fun ls hl => ?_)
  refine lv_iload_n hx hb dX18_loan_14 rfl (lv_at hl 0 rfl) ?_
  refine lv_aload_n hx hb dX18_loan_15 rfl (lv_at hl 1 rfl) ?_
  refine va_alen hx hb hK hP 0 0 rfl rfl (v := 0) rfl dX18_loan_16 ?_
  refine lv_icmp_ge (tgt := 45) hx hb dX18_loan_17 (by decide) (fun c_4 => ?_) (fun c_4 => absurd c_4 (by decide))
  have hz9 := hS.1
  refine va_newX (ci := 18) (fs := [.int 0, .null]) (C := RX12) (T := TX12) (N := 2) hx hb hts (by decide +kernel) tyX12 tyX12_ok hown (hts (.classLink RX18 128 RX12) (by decide +kernel)) (hts (.instantiable RX12 2) (by decide +kernel)) (hts (.initialized RX12) (by decide +kernel)) hK hP hD hS hA rfl (fun j hj => by rcases (show j = 0 ∨ j = 1 by omega) with rfl | rfl <;> rfl) (Nat.le_of_ble_eq_true rfl) (Nat.le_of_ble_eq_true rfl) dX18_loan_45 (fun q_5 H hP hD hS hoq hoz => ?_)
  have hP : va_P (dC, dI) vwCl [(q_2, .inl (k_3, 0, .inl (fun _ => 0))), (q_5, .inr (18, [.int 0, .null]))] H := hP
  have hD : va_D A [(q_2, .inl (k_3, 0, .inl (fun _ => 0))), (q_5, .inr (18, [.int 0, .null]))] := hD
  have hR := en_R hR0 hN0 hS
  refine W.widen (k := 2) (n := 2) (Nat.le_of_ble_eq_true rfl) (Nat.le_of_ble_eq_true rfl) ?_
  have hgz_q_5 : s.heap.size ≤ q_5 := by rw [hoz]; exact hz9
  have hoz_q_5 := hoz
  refine lv_dup hx hb dX18_loan_48 rfl ?_
  refine lv_bipush (v := 111) hx hb dX18_loan_49 (by decide) ?_
  refine lv_aload_n hx hb dX18_loan_51 rfl (lv_at hl 1 rfl) ?_
  have hPc := (hP.app hR).sub (ws' := [(q_5, .inr (18, [.int 0, .null]))] ++ []) [1] rfl
  have hDc := (en_DD hD hDr hN0 hAb).sub (ws' := [(q_5, .inr (18, [.int 0, .null]))] ++ []) [1] (by decide) rfl
  have hKc := hK.sub (tys' := []) [] rfl
  have hFc := va_free (wc := [(q_5, .inr (18, [.int 0, .null]))]) hD hS hA [1] rfl
  refine va_callv (va_runI (As := [.int 111, .ref q_2]) (rest := [.ref q_5]) ⟨hx, hb, hml, hown, hts⟩ (c_X12_init l dC dI b0 en H.size q_5 q_2 111 (z_c_X18_loan_198) (z_c_X18_loan_199)) (cwI 2 hts go_c_X18_loan_1 rfl rfl rfl (hts (.initialized RX12) (by decide +kernel)) (hts (.methodLink RX18 130 yX12_init) (by decide +kernel)) (hts (.instanceMethod yX12_init) (by decide +kernel)) rfl (by decide +kernel) ⟨Nat.le_of_ble_eq_true rfl, Nat.le_of_ble_eq_true rfl⟩) ⟨cP.blind, cP.use (en_z hb0 hS) (hE.on hAb hS) hPc hKc hDc trivial⟩ rfl rfl hl.1 rfl (lv_room (Nat.le_of_ble_eq_true rfl)) dX18_loan_52 ⟨Nat.le_of_ble_eq_true rfl, Nat.le_of_ble_eq_true rfl⟩) hS (fun q _ h => hFc q h) hFc (fun u t H1 locs ht hvm hw hB hz1 hk1 hS => ?_)
  obtain ⟨hP1, hK1, hD1, hF1⟩ := hB
  rw [ht] at hP1
  try rw [ht] at hF1
  have hK1 := va_K.moved hvm.symm hK1
  try dsimp only at hw
  obtain ⟨hP, hD⟩ := va_join (wr := [(q_2, .inl (k_3, 0, .inl (fun _ => 0)))]) (w1 := [(q_5, .inr (18, [.int 111, .ref q_2]))]) hP hD [1] [0] rfl rfl (by decide) (by decide) hk1 hFc hP1 hD1
  generalize H1 = H at hP hS ⊢
  have hP : va_P (dC, dI) vwCl [(q_2, .inl (k_3, 0, .inl (fun _ => 0))), (q_5, .inr (18, [.int 111, .ref q_2]))] H := hP
  have hD : va_D A [(q_2, .inl (k_3, 0, .inl (fun _ => 0))), (q_5, .inr (18, [.int 111, .ref q_2]))] := hD
  have hR := en_R hR0 hN0 hS
  refine W.widen (k := 2) (n := 2) (Nat.le_of_ble_eq_true rfl) (Nat.le_of_ble_eq_true rfl) ?_
  refine W.widen (k := 2) (n := 2) (Nat.le_of_ble_eq_true rfl) (Nat.le_of_ble_eq_true rfl) ?_
  exact W.aret (v := .ref q_5) hx hb hr (by first | exact Or.inl ⟨_, rfl⟩ | exact Or.inr ⟨_, rfl⟩) (Or.inr ⟨_, rfl⟩) (fun t ht hW => ⟨⟨⟨q_2, k_3, (fun _ => 0)⟩, q_5, rfl, trivial, cB.mk ht hW (hP.sub [1, 0] rfl) (hK.sub [0] rfl) (hD.sub [1, 0] (by decide) rfl) (trivial)⟩, hS.F ht⟩) hS.2.2 dX18_loan_55
theorem z_c_X18_risk_200   : (0 : Int32) = 0 ∧ (0 : Int32) = 0 := by first | decide +kernel | grind
def wo_c_X18_risk_w : List Cond := [Cond.fieldLink RX18 67 "UnderpaintModel" "code" "I", Cond.fieldLink RX18 25 "UnderpaintModel" "picture" "LUnderpaintModel$Picture;"]
def wo_c_X18_risk : List Cond := .code yX18_risk cX18_risk 1 (some .int) :: (wo_c_X18_risk_w ++ (u_ws RX18 TX18 17 ++ (wsV RX18 111 RX14 yX14_copy wsX14_copy ++ (wsV RX18 319 RX18 yX18_loan wo_c_X18_loan ++ (wsV RX18 115 RX14 yX14_does wo_c_does_o ++ List.nil)))))
theorem gw_wo_c_X18_risk : wo_c_X18_risk.all goodWord = true := gw_c (by decide +kernel) (gw_a (by decide +kernel) (gw_a (by decide +kernel) (gw_a (gw_a (by decide +kernel) gw_wsX14_copy) (gw_a (gw_a (by decide +kernel) gw_wo_c_X18_loan) (gw_a (gw_a (by decide +kernel) gw_wo_c_does_o) rfl)))))
theorem go_c_X18_risk_0 : GoodIn wo_c_X18_risk (wsV RX18 111 RX14 yX14_copy wsX14_copy) := goodIn_sub (fun _ h => List.mem_cons_of_mem _ (List.mem_append_right _ (List.mem_append_right _ (List.mem_append_left _ h)))) (gw_a (by decide +kernel) gw_wsX14_copy)
theorem go_c_X18_risk_1 : GoodIn wo_c_X18_risk (wsV RX18 319 RX18 yX18_loan wo_c_X18_loan) := goodIn_sub (fun _ h => List.mem_cons_of_mem _ (List.mem_append_right _ (List.mem_append_right _ (List.mem_append_right _ (List.mem_append_left _ h))))) (gw_a (by decide +kernel) gw_wo_c_X18_loan)
theorem go_c_X18_risk_2 : GoodIn wo_c_X18_risk (wsV RX18 115 RX14 yX14_does wo_c_does_o) := goodIn_sub (fun _ h => List.mem_cons_of_mem _ (List.mem_append_right _ (List.mem_append_right _ (List.mem_append_right _ (List.mem_append_right _ (List.mem_append_left _ h)))))) (gw_a (by decide +kernel) gw_wo_c_does_o)
set_option maxHeartbeats 4000000 in
set_option maxRecDepth 100000 in
theorem c_X18_risk (l : Launch) (dC : Nat → ClassId) (dI : Nat → Nat → Nat) (b0 : Nat) (en : EnT) (sz : Nat) (mm stu cla pic act nts isn boa mas pai sol bal leg : Nat) (ap scr : Nat) (g : Nat → Option Nat) (kP : ClassId) (N : Nat → Prop) (hNb : ∀ a, N a → b0 ≤ a ∧ a < sz) (hNw : ∀ a, N a → a ∉ List.map Prod.fst ([(mm, .inr (24, [.int 0, .ref stu, .ref cla, .ref pic, .ref act, .int 5, .int 50, .ref nts, .ref isn, .int 1600, .ref boa, .ref mas, .ref pai, .ref sol, .int 0, .ref bal, .ref leg]))] : va_W)) (hNr : ∀ a, N a → a ∉ List.map Prod.fst ([(pic, .inr (20, [.ref ap, .ref scr, .int 1600, .int 0, .int 0, .ref mm])), (ap, .inl (kP, 48, .inr (.inr (.inr (.inr g))))), (scr, .inr (5, [.int 0, .ref en.2.2.1, .int 0])), (leg, .inr (5, [.int 0, .ref en.2.2.1, .int 0]))] : va_W)) : Met l yX18_risk wo_c_X18_risk ({ frames := 7, cells := 150, slots := 539, locals := 158 } : Room) (cP b0 en (dC, dI) [(kP, .object "UnderpaintModel$Place")] [(mm, .inr (24, [.int 0, .ref stu, .ref cla, .ref pic, .ref act, .int 5, .int 50, .ref nts, .ref isn, .int 1600, .ref boa, .ref mas, .ref pai, .ref sol, .int 0, .ref bal, .ref leg]))] [(pic, .inr (20, [.ref ap, .ref scr, .int 1600, .int 0, .int 0, .ref mm])), (ap, .inl (kP, 48, .inr (.inr (.inr (.inr g))))), (scr, .inr (5, [.int 0, .ref en.2.2.1, .int 0])), (leg, .inr (5, [.int 0, .ref en.2.2.1, .int 0]))] sz (FamP (dC, dI) N en.2.2.1 g) [.ref mm]) (va_Qi (fun (r : Int32) (u : Int32 × List Value) => u.1 = 0 ∧ r = 0) (fun u t => cB (dC, dI) [] [(mm, .inr (24, .int u.1 :: u.2))] (va_A [(mm, .inr (24, [.int 0, .ref stu, .ref cla, .ref pic, .ref act, .int 5, .int 50, .ref nts, .ref isn, .int 1600, .ref boa, .ref mas, .ref pai, .ref sol, .int 0, .ref bal, .ref leg]))] sz) (fun _ => True) t) (va_A [(mm, .inr (24, [.int 0, .ref stu, .ref cla, .ref pic, .ref act, .int 5, .int 50, .ref nts, .ref isn, .int 1600, .ref boa, .ref mas, .ref pai, .ref sol, .int 0, .ref bal, .ref leg]))] sz)) 150 539 (va_A [(mm, .inr (24, [.int 0, .ref stu, .ref cla, .ref pic, .ref act, .int 5, .int 50, .ref nts, .ref isn, .int 1600, .ref boa, .ref mas, .ref pai, .ref sol, .int 0, .ref bal, .ref leg]))] sz) := by
  refine Met.ofW (cc := cX18_risk) (maxL := 1) (ret := (some .int)) (by decide) rfl ?_
  intro p e s m args below meth c s₁ B hml hv
  obtain ⟨rfl, hsz, hb0, hE, hPP, hK, hDD, hF0⟩ := hv
  have hx := B.exec
  have hb := B.bytes
  have hr := B.returns
  have hts := atoms_spec (ws := wo_c_X18_risk) B.pre
  have hown : s.vm.findClass RX18 = some m.cls := findClass_of_methodNamed B.named
  have hlocks := B.notSynchronized
  subst hsz
  have hN0 := en_N hPP hDD rfl
  have hP : va_P (dC, dI) vwCl [(mm, .inr (24, [.int 0, .ref stu, .ref cla, .ref pic, .ref act, .int 5, .int 50, .ref nts, .ref isn, .int 1600, .ref boa, .ref mas, .ref pai, .ref sol, .int 0, .ref bal, .ref leg]))] s.heap := hPP.sub [0] rfl
  have hR0 : va_P (dC, dI) vwCl [(pic, .inr (20, [.ref ap, .ref scr, .int 1600, .int 0, .int 0, .ref mm])), (ap, .inl (kP, 48, .inr (.inr (.inr (.inr g))))), (scr, .inr (5, [.int 0, .ref en.2.2.1, .int 0])), (leg, .inr (5, [.int 0, .ref en.2.2.1, .int 0]))] s.heap := hPP.sub [1, 2, 3, 4] rfl
  have hD0 : va_D (fun q => b0 ≤ q) [(mm, .inr (24, [.int 0, .ref stu, .ref cla, .ref pic, .ref act, .int 5, .int 50, .ref nts, .ref isn, .int 1600, .ref boa, .ref mas, .ref pai, .ref sol, .int 0, .ref bal, .ref leg]))] := hDD.sub [0] (by decide) rfl
  have hDr : va_D (fun q => b0 ≤ q) [(pic, .inr (20, [.ref ap, .ref scr, .int 1600, .int 0, .int 0, .ref mm])), (ap, .inl (kP, 48, .inr (.inr (.inr (.inr g))))), (scr, .inr (5, [.int 0, .ref en.2.2.1, .int 0])), (leg, .inr (5, [.int 0, .ref en.2.2.1, .int 0]))] := hDD.sub [1, 2, 3, 4] (by decide) rfl
  have hAb := en_A (sz := s.heap.size) hD0 hb0
  have hD := hD0.self (sz := s.heap.size)
  generalize hAe : va_A [(mm, .inr (24, [.int 0, .ref stu, .ref cla, .ref pic, .ref act, .int 5, .int 50, .ref nts, .ref isn, .int 1600, .ref boa, .ref mas, .ref pai, .ref sol, .int 0, .ref bal, .ref leg]))] s.heap.size = A at hD hAb hN0 ⊢
  have hA : ∀ q : Nat, s.heap.size ≤ q → A q := fun q h => by rw [← hAe]; exact Or.inr h
  have hS : va_S A s.heap s.heap [] := va_S.rf
  have hR := hR0
  have hl := lv_entry [.ref mm] (n := 1) (Nat.le_of_ble_eq_true rfl)
  rw [lg_entry_eq]
  generalize (lg_sl [.ref mm] ++ List.replicate (1 - (lg_sl [.ref mm]).length) Slot.unset).toArray = ls at hl ⊢
  have hl : lv_has ls 1 [(0, .ref mm)] := hl
  have hAc := hA
  have hlt_mm : mm < s.heap.size := (hPP 0 _ rfl).lt
  have hlt_pic : pic < s.heap.size := (hPP 1 _ rfl).lt
  have hlt_ap : ap < s.heap.size := (hPP 2 _ rfl).lt
  have hlt_scr : scr < s.heap.size := (hPP 3 _ rfl).lt
  have hlt_leg : leg < s.heap.size := (hPP 4 _ rfl).lt
  have hR0b := hR0
  have hDrb := hDr
  have hN0b := hN0
  refine lv_aload_n hx hb dX18_risk_0 rfl (lv_at hl 0 rfl) ?_
  refine lv_iconst (v := 0) hx hb dX18_risk_1 (by decide) ?_
  refine va_put (D := (dC, dI)) (ci := 24) (v := .int 0) (ty := .int) (C := RX18) (T := TX18) (N := 17) hx hb hts (by decide +kernel) tyX18 tyX18_ok nmX18 hown hK hP hD hS 0 rfl rfl 0 (by decide) (hts (.fieldLink RX18 67 "UnderpaintModel" "code" "I") (by decide +kernel)) (fun _ h9 => h9) rfl (by decide +kernel) rfl rfl (Nat.le_of_ble_eq_true rfl) dX18_risk_2 (fun H locs hP hD hS => ?_)
  have hP : va_P (dC, dI) vwCl [(mm, .inr (24, [.int 0, .ref stu, .ref cla, .ref pic, .ref act, .int 5, .int 50, .ref nts, .ref isn, .int 1600, .ref boa, .ref mas, .ref pai, .ref sol, .int 0, .ref bal, .ref leg]))] H := hP
  have hD : va_D A [(mm, .inr (24, [.int 0, .ref stu, .ref cla, .ref pic, .ref act, .int 5, .int 50, .ref nts, .ref isn, .int 1600, .ref boa, .ref mas, .ref pai, .ref sol, .int 0, .ref bal, .ref leg]))] := hD
  have hR := en_R hR0 hN0 hS
  refine lv_aload_n hx hb dX18_risk_5 rfl (lv_at hl 0 rfl) ?_
  refine va_get (D := (dC, dI)) (ci := 24) (v := .ref pic) (C := RX18) (T := TX18) (N := 17) hx hb hts (by decide +kernel) hown hK hP 0 rfl rfl 3 (by decide) (hts (.fieldLink RX18 25 "UnderpaintModel" "picture" "LUnderpaintModel$Picture;") (by decide +kernel)) (fun _ h9 => h9) rfl dX18_risk_6 ?_
  have hS9 := hS
  have hPc := (hP.app hR).sub (ws' := [] ++ [(pic, .inr (20, [.ref ap, .ref scr, .int 1600, .int 0, .int 0, .ref mm])), (ap, .inl (kP, 48, .inr (.inr (.inr (.inr g))))), (scr, .inr (5, [.int 0, .ref en.2.2.1, .int 0]))]) [1, 2, 3] rfl
  have hDc := (en_DD hD hDr hN0 hAb).sub (ws' := [] ++ [(pic, .inr (20, [.ref ap, .ref scr, .int 1600, .int 0, .int 0, .ref mm])), (ap, .inl (kP, 48, .inr (.inr (.inr (.inr g))))), (scr, .inr (5, [.int 0, .ref en.2.2.1, .int 0]))]) [1, 2, 3] (by decide) rfl
  have hKc := hK.sub (tys' := [(kP, .object "UnderpaintModel$Place")]) [0] rfl
  have hFc := va_free (wc := []) hD hS hA [] rfl
  refine va_callr (va_runV (As := []) (rest := []) ⟨hx, hb, hml, hown, hts⟩ (c_X14_copy l dC dI b0 en H.size pic ap scr mm g kP N (fun a9 h9 => ⟨(hNb a9 h9).1, Nat.lt_of_lt_of_le (hNb a9 h9).2 hS.1⟩) (fun a9 h9 z9 => by have g1 := hNw a9 h9; have g2 := hNr a9 h9; have g3 := (hNb a9 h9).2; simp only [List.map_cons, List.map_nil, List.mem_cons, List.not_mem_nil, or_false, not_or] at g1 g2 z9 <;> omega) (fun a9 h9 z9 => by have g1 := hNw a9 h9; have g2 := hNr a9 h9; have g3 := (hNb a9 h9).2; simp only [List.map_cons, List.map_nil, List.mem_cons, List.not_mem_nil, or_false, not_or] at g1 g2 z9 <;> omega)) (cwV 0 hts go_c_X18_risk_0 rfl rfl rfl (by decide +kernel) ⟨Nat.le_of_ble_eq_true rfl, Nat.le_of_ble_eq_true rfl⟩) ⟨cP.blind, va_recv hK hR (ci := 20) (q0 := 0) rfl rfl, cP.use (en_z hb0 hS) (hE.on hAb hS) hPc hKc hDc (hF0.on (fun a9 h8 h9 => by rw [← hAe]; exact vA1 h8 (hNw a9 h9)) hS)⟩ rfl rfl hl.1 rfl (lv_room (Nat.le_of_ble_eq_true rfl)) dX18_risk_9 ⟨Nat.le_of_ble_eq_true rfl, Nat.le_of_ble_eq_true rfl⟩) hS (fun q _ h => hFc q h) hFc (fun ⟨ap2_2, sc2_3, kQ_4, g2_5⟩ r_6 t H1 locs ht hvm hw hB hz1 hk1 hS => ?_)
  obtain ⟨hP1, hK1, hD1, hF1⟩ := hB
  rw [ht] at hP1
  try rw [ht] at hF1
  have hK1 := va_K.moved hvm.symm hK1
  try dsimp only at hw
  obtain ⟨hP, hD⟩ := va_join (wr := [(mm, .inr (24, [.int 0, .ref stu, .ref cla, .ref pic, .ref act, .int 5, .int 50, .ref nts, .ref isn, .int 1600, .ref boa, .ref mas, .ref pai, .ref sol, .int 0, .ref bal, .ref leg]))]) (w1 := [(r_6, .inr (20, [.ref ap2_2, .ref sc2_3, .int 1600, .int 0, .int 0, .ref mm])), (ap2_2, .inl (kQ_4, 48, .inr (.inr (.inr (.inr g2_5))))), (sc2_3, .inr (5, [.int 1, .ref en.2.2.1, .int 0]))]) hP hD [] [0] rfl rfl (by decide) (by decide) hk1 hFc hP1 hD1
  have hK := hK.app hK1
  have hG : FamP (dC, dI) (vN s.heap.size [r_6, ap2_2, sc2_3]) en.2.2.1 g2_5 H1 := FamP.mono hF1 (fun a9 h9 => ⟨Nat.le_trans hS9.1 h9.1, h9.2⟩)
  have hge_r_6 : s.heap.size ≤ r_6 := Nat.le_trans hS9.1 (vGe hD1 0 rfl)
  have hge_ap2_2 : s.heap.size ≤ ap2_2 := Nat.le_trans hS9.1 (vGe hD1 1 rfl)
  have hge_sc2_3 : s.heap.size ≤ sc2_3 := Nat.le_trans hS9.1 (vGe hD1 2 rfl)
  have hgz_r_6 : s.heap.size ≤ r_6 := Nat.le_trans hS9.1 (vGeN hD1 0 rfl (by simp only [List.map_cons, List.map_nil, List.mem_cons, List.not_mem_nil, or_false, not_or, not_false_eq_true]))
  have hgz_ap2_2 : s.heap.size ≤ ap2_2 := Nat.le_trans hS9.1 (vGeN hD1 1 rfl (by simp only [List.map_cons, List.map_nil, List.mem_cons, List.not_mem_nil, or_false, not_or, not_false_eq_true]))
  have hgz_sc2_3 : s.heap.size ≤ sc2_3 := Nat.le_trans hS9.1 (vGeN hD1 2 rfl (by simp only [List.map_cons, List.map_nil, List.mem_cons, List.not_mem_nil, or_false, not_or, not_false_eq_true]))
  generalize H1 = H at hP hS hG ⊢
  have hP : va_P (dC, dI) vwCl [(mm, .inr (24, [.int 0, .ref stu, .ref cla, .ref pic, .ref act, .int 5, .int 50, .ref nts, .ref isn, .int 1600, .ref boa, .ref mas, .ref pai, .ref sol, .int 0, .ref bal, .ref leg])), (r_6, .inr (20, [.ref ap2_2, .ref sc2_3, .int 1600, .int 0, .int 0, .ref mm])), (ap2_2, .inl (kQ_4, 48, .inr (.inr (.inr (.inr g2_5))))), (sc2_3, .inr (5, [.int 1, .ref en.2.2.1, .int 0]))] H := hP
  have hD : va_D A [(mm, .inr (24, [.int 0, .ref stu, .ref cla, .ref pic, .ref act, .int 5, .int 50, .ref nts, .ref isn, .int 1600, .ref boa, .ref mas, .ref pai, .ref sol, .int 0, .ref bal, .ref leg])), (r_6, .inr (20, [.ref ap2_2, .ref sc2_3, .int 1600, .int 0, .int 0, .ref mm])), (ap2_2, .inl (kQ_4, 48, .inr (.inr (.inr (.inr g2_5))))), (sc2_3, .inr (5, [.int 1, .ref en.2.2.1, .int 0]))] := hD
  have hR := en_R hR0 hN0 hS
  refine W.widen (k := 148) (n := 537) (Nat.le_of_ble_eq_true rfl) (Nat.le_of_ble_eq_true rfl) ?_
  refine lv_aload_n hx hb dX18_risk_12 rfl (lv_at hl 0 rfl) ?_
  have hS9 := hS
  have hPc := (hP.app hR).sub (ws' := [] ++ [(mm, .inr (24, [.int 0, .ref stu, .ref cla, .ref pic, .ref act, .int 5, .int 50, .ref nts, .ref isn, .int 1600, .ref boa, .ref mas, .ref pai, .ref sol, .int 0, .ref bal, .ref leg])), (leg, .inr (5, [.int 0, .ref en.2.2.1, .int 0]))]) [0, 7] rfl
  have hDc := (en_DD hD hDr hN0 hAb).sub (ws' := [] ++ [(mm, .inr (24, [.int 0, .ref stu, .ref cla, .ref pic, .ref act, .int 5, .int 50, .ref nts, .ref isn, .int 1600, .ref boa, .ref mas, .ref pai, .ref sol, .int 0, .ref bal, .ref leg])), (leg, .inr (5, [.int 0, .ref en.2.2.1, .int 0]))]) [0, 7] (by decide) rfl
  have hKc := hK.sub (tys' := []) [] rfl
  have hFc := va_free (wc := []) hD hS hA [] rfl
  refine va_callr (va_runV (As := []) (rest := [.ref r_6]) ⟨hx, hb, hml, hown, hts⟩ (c_X18_loan l dC dI b0 en H.size mm stu cla pic act nts isn boa mas pai sol bal leg) (cwV 0 hts go_c_X18_risk_1 rfl rfl rfl (by decide +kernel) ⟨Nat.le_of_ble_eq_true rfl, Nat.le_of_ble_eq_true rfl⟩) ⟨cP.blind, va_recv hK hP (ci := 24) (q0 := 0) rfl rfl, cP.use (en_z hb0 hS) (hE.on hAb hS) hPc hKc hDc trivial⟩ rfl rfl hl.1 rfl (lv_room (Nat.le_of_ble_eq_true rfl)) dX18_risk_13 ⟨Nat.le_of_ble_eq_true rfl, Nat.le_of_ble_eq_true rfl⟩) hS (fun q _ h => hFc q h) hFc (fun ⟨na_8, kA_9, fN_10⟩ r_11 t H1 locs ht hvm hw hB hz1 hk1 hS => ?_)
  obtain ⟨hP1, hK1, hD1, hF1⟩ := hB
  rw [ht] at hP1
  try rw [ht] at hF1
  have hK1 := va_K.moved hvm.symm hK1
  try dsimp only at hw
  obtain ⟨hP, hD⟩ := va_join (wr := [(mm, .inr (24, [.int 0, .ref stu, .ref cla, .ref pic, .ref act, .int 5, .int 50, .ref nts, .ref isn, .int 1600, .ref boa, .ref mas, .ref pai, .ref sol, .int 0, .ref bal, .ref leg])), (r_6, .inr (20, [.ref ap2_2, .ref sc2_3, .int 1600, .int 0, .int 0, .ref mm])), (ap2_2, .inl (kQ_4, 48, .inr (.inr (.inr (.inr g2_5))))), (sc2_3, .inr (5, [.int 1, .ref en.2.2.1, .int 0]))]) (w1 := [(r_11, .inr (18, [.int 111, .ref na_8])), (na_8, .inl (kA_9, 0, .inl fN_10))]) hP hD [] [0, 1, 2, 3] rfl rfl (by decide) (by decide) hk1 hFc hP1 hD1
  have hK := hK.app hK1
  have hG := hG.hq (hq_.of (ws := []) hk1)
  have hge_r_11 : s.heap.size ≤ r_11 := Nat.le_trans hS9.1 (vGe hD1 0 rfl)
  have hge_na_8 : s.heap.size ≤ na_8 := Nat.le_trans hS9.1 (vGe hD1 1 rfl)
  have hgz_r_11 : s.heap.size ≤ r_11 := Nat.le_trans hS9.1 (vGeN hD1 0 rfl (by simp only [List.map_cons, List.map_nil, List.mem_cons, List.not_mem_nil, or_false, not_or, not_false_eq_true]))
  have hgz_na_8 : s.heap.size ≤ na_8 := Nat.le_trans hS9.1 (vGeN hD1 1 rfl (by simp only [List.map_cons, List.map_nil, List.mem_cons, List.not_mem_nil, or_false, not_or, not_false_eq_true]))
  generalize H1 = H at hP hS hG ⊢
  have hP : va_P (dC, dI) vwCl [(mm, .inr (24, [.int 0, .ref stu, .ref cla, .ref pic, .ref act, .int 5, .int 50, .ref nts, .ref isn, .int 1600, .ref boa, .ref mas, .ref pai, .ref sol, .int 0, .ref bal, .ref leg])), (r_6, .inr (20, [.ref ap2_2, .ref sc2_3, .int 1600, .int 0, .int 0, .ref mm])), (ap2_2, .inl (kQ_4, 48, .inr (.inr (.inr (.inr g2_5))))), (sc2_3, .inr (5, [.int 1, .ref en.2.2.1, .int 0])), (r_11, .inr (18, [.int 111, .ref na_8])), (na_8, .inl (kA_9, 0, .inl fN_10))] H := hP
  have hD : va_D A [(mm, .inr (24, [.int 0, .ref stu, .ref cla, .ref pic, .ref act, .int 5, .int 50, .ref nts, .ref isn, .int 1600, .ref boa, .ref mas, .ref pai, .ref sol, .int 0, .ref bal, .ref leg])), (r_6, .inr (20, [.ref ap2_2, .ref sc2_3, .int 1600, .int 0, .int 0, .ref mm])), (ap2_2, .inl (kQ_4, 48, .inr (.inr (.inr (.inr g2_5))))), (sc2_3, .inr (5, [.int 1, .ref en.2.2.1, .int 0])), (r_11, .inr (18, [.int 111, .ref na_8])), (na_8, .inl (kA_9, 0, .inl fN_10))] := hD
  have hR := en_R hR0 hN0 hS
  refine W.widen (k := 150) (n := 539) (Nat.le_of_ble_eq_true rfl) (Nat.le_of_ble_eq_true rfl) ?_
  have hPc := (hP.app hR).sub (ws' := [(r_6, .inr (20, [.ref ap2_2, .ref sc2_3, .int 1600, .int 0, .int 0, .ref mm])), (ap2_2, .inl (kQ_4, 48, .inr (.inr (.inr (.inr g2_5))))), (sc2_3, .inr (5, [.int 1, .ref en.2.2.1, .int 0])), (r_11, .inr (18, [.int 111, .ref na_8])), (na_8, .inl (kA_9, 0, .inl fN_10))] ++ []) [1, 2, 3, 4, 5] rfl
  have hDc := (en_DD hD hDr hN0 hAb).sub (ws' := [(r_6, .inr (20, [.ref ap2_2, .ref sc2_3, .int 1600, .int 0, .int 0, .ref mm])), (ap2_2, .inl (kQ_4, 48, .inr (.inr (.inr (.inr g2_5))))), (sc2_3, .inr (5, [.int 1, .ref en.2.2.1, .int 0])), (r_11, .inr (18, [.int 111, .ref na_8])), (na_8, .inl (kA_9, 0, .inl fN_10))] ++ []) [1, 2, 3, 4, 5] (by decide) rfl
  have hKc := hK.sub (tys' := [(kQ_4, .object "UnderpaintModel$Place"), (kA_9, .int)]) [1, 2] rfl
  have hFc : ∀ q, vC s.heap.size q → A q := fun q h => hAc q h
  refine va_calli (va_runV (As := [.ref r_11]) (rest := []) ⟨hx, hb, hml, hown, hts⟩ (c_does_o l dC dI b0 en H.size r_6 ap2_2 sc2_3 mm s.heap.size kQ_4 g2_5 r_11 na_8 kA_9 fN_10 hb0 hS.1 (vW1 (by first | exact hge_r_6 | exact hc0_r_6 | omega) (vW1 (by first | exact hge_ap2_2 | exact hc0_ap2_2 | omega) (vW1 (by first | exact hge_sc2_3 | exact hc0_sc2_3 | omega) (vW1 (by first | exact hge_r_11 | exact hc0_r_11 | omega) (vW1 (by first | exact hge_na_8 | exact hc0_na_8 | omega) vW0))))) vL0) (cwV 1 hts go_c_X18_risk_2 rfl rfl rfl (by decide +kernel) ⟨Nat.le_of_ble_eq_true rfl, Nat.le_of_ble_eq_true rfl⟩) ⟨cP.blind, va_recv hK hP (ci := 20) (q0 := 1) rfl rfl, cP.use (en_z hb0 hS) (hE.on hAb hS) hPc hKc hDc hG⟩ rfl rfl hl.1 rfl (lv_room (Nat.le_of_ble_eq_true rfl)) dX18_risk_16 ⟨Nat.le_of_ble_eq_true rfl, Nat.le_of_ble_eq_true rfl⟩) hS (fun q _ h => hFc q h) hFc (fun r_12 u t H1 locs ht hvm hw hB hz1 hk1 hS => ?_)
  obtain ⟨hP1, hK1, hD1, hF1⟩ := hB
  rw [ht] at hP1
  try rw [ht] at hF1
  have hK1 := va_K.moved hvm.symm hK1
  try dsimp only at hw
  have hLk : ∀ (k9 : Nat) (q9 : Nat × va_E), ([(mm, .inr (24, [.int 0, .ref stu, .ref cla, .ref pic, .ref act, .int 5, .int 50, .ref nts, .ref isn, .int 1600, .ref boa, .ref mas, .ref pai, .ref sol, .int 0, .ref bal, .ref leg]))] : va_W)[k9]? = some q9 → q9.1 < s.heap.size := (vL1 (by first | exact hlt_mm | omega) vL0)
  have hP := (vC_kept (hP.sub (ws' := [(mm, .inr (24, [.int 0, .ref stu, .ref cla, .ref pic, .ref act, .int 5, .int 50, .ref nts, .ref isn, .int 1600, .ref boa, .ref mas, .ref pai, .ref sol, .int 0, .ref bal, .ref leg]))]) [0] rfl) hLk hk1).app hP1
  have hD := vC_app (hD.sub (ws' := [(mm, .inr (24, [.int 0, .ref stu, .ref cla, .ref pic, .ref act, .int 5, .int 50, .ref nts, .ref isn, .int 1600, .ref boa, .ref mas, .ref pai, .ref sol, .int 0, .ref bal, .ref leg]))]) [0] (by decide) rfl) hLk hD1 hAc
  generalize H1 = H at hP hS ⊢
  have hP : va_P (dC, dI) vwCl [(mm, .inr (24, [.int 0, .ref stu, .ref cla, .ref pic, .ref act, .int 5, .int 50, .ref nts, .ref isn, .int 1600, .ref boa, .ref mas, .ref pai, .ref sol, .int 0, .ref bal, .ref leg]))] H := hP
  have hD : va_D A [(mm, .inr (24, [.int 0, .ref stu, .ref cla, .ref pic, .ref act, .int 5, .int 50, .ref nts, .ref isn, .int 1600, .ref boa, .ref mas, .ref pai, .ref sol, .int 0, .ref bal, .ref leg]))] := hD
  have hR := en_R hR0 hN0 hS
  refine W.widen (k := 150) (n := 539) (Nat.le_of_ble_eq_true rfl) (Nat.le_of_ble_eq_true rfl) ?_
  subst r_12
  refine W.widen (k := 150) (n := 539) (Nat.le_of_ble_eq_true rfl) (Nat.le_of_ble_eq_true rfl) ?_
  exact W.iret (v := 0) hx hb hr (fun t ht hW => ⟨⟨0, ⟨0, [.ref stu, .ref cla, .ref pic, .ref act, .int 5, .int 50, .ref nts, .ref isn, .int 1600, .ref boa, .ref mas, .ref pai, .ref sol, .int 0, .ref bal, .ref leg]⟩, rfl, (z_c_X18_risk_200), cB.mk ht hW (hP.sub [0] rfl) (hK.sub [] rfl) (hD.sub [0] (by decide) rfl) (trivial)⟩, hS.F ht⟩) hS.2.2 dX18_risk_19
