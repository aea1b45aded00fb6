theorem dX18_retouched_0 : decode cX18_retouched 0 = .ok (.aload_n 0, 1) := by decide +kernel
theorem dX18_retouched_1 : decode cX18_retouched 1 = .ok (.iconst 0, 1) := by decide +kernel
theorem dX18_retouched_2 : decode cX18_retouched 2 = .ok (.putfield 67, 3) := by decide +kernel
theorem dX18_retouched_5 : decode cX18_retouched 5 = .ok (.iload_n 1, 1) := by decide +kernel
theorem dX18_retouched_6 : decode cX18_retouched 6 = .ok (.iload_n 2, 1) := by decide +kernel
set_option maxRecDepth 20000 in
theorem ggX18_retouched_X18_isPlace : GoodIn wsX18_retouched wsX18_isPlace := goodIn_r _ [6, 7, 8, 5, 9] (by decide +kernel) (by decide +kernel)
set_option maxRecDepth 20000 in
theorem gX18_retouched_X18_isPlace : GoodIn wsX18_retouched (va_wsS RX18 124 yX18_isPlace wsX18_isPlace) := goodIn_app (goodIn_of _ (by decide +kernel)) ggX18_retouched_X18_isPlace
theorem dX18_retouched_7 : decode cX18_retouched 7 = .ok (.invokestatic 124, 3) := by decide +kernel
theorem dX18_retouched_10 : decode cX18_retouched 10 = .ok (.ifCond .ne 10, 3) := by decide +kernel
theorem dX18_retouched_20 : decode cX18_retouched 20 = .ok (.aload_n 0, 1) := by decide +kernel
theorem dX18_retouched_21 : decode cX18_retouched 21 = .ok (.getfield 25, 3) := by decide +kernel
theorem dX18_retouched_24 : decode cX18_retouched 24 = .ok (.getfield 137, 3) := by decide +kernel
theorem dX18_retouched_27 : decode cX18_retouched 27 = .ok (.bipush 8, 2) := by decide +kernel
theorem dX18_retouched_29 : decode cX18_retouched 29 = .ok (.iload_n 2, 1) := by decide +kernel
theorem dX18_retouched_30 : decode cX18_retouched 30 = .ok (.imul, 1) := by decide +kernel
theorem dX18_retouched_31 : decode cX18_retouched 31 = .ok (.iload_n 1, 1) := by decide +kernel
theorem dX18_retouched_32 : decode cX18_retouched 32 = .ok (.iadd, 1) := by decide +kernel
theorem dX18_retouched_33 : decode cX18_retouched 33 = .ok (.aaload, 1) := by decide +kernel
theorem dX18_retouched_34 : decode cX18_retouched 34 = .ok (.astore_n 3, 1) := by decide +kernel
theorem dX18_retouched_35 : decode cX18_retouched 35 = .ok (.aload_n 0, 1) := by decide +kernel
theorem dX18_retouched_36 : decode cX18_retouched 36 = .ok (.aload_n 3, 1) := by decide +kernel
set_option maxRecDepth 20000 in
theorem ggX18_retouched_X15_top : GoodIn wsX18_retouched wsX15_top := goodIn_r _ [14, 15, 16, 17, 18, 19, 20, 21, 22, 23, 24, 25, 26, 27, 28, 29, 30, 31, 32, 33, 34, 35, 36, 37, 38, 39, 40, 41, 42, 43, 82, 83, 84, 85, 86, 87] (by decide +kernel) (by decide +kernel)
set_option maxRecDepth 20000 in
theorem gX18_retouched_X15_top : GoodIn wsX18_retouched (wsV RX18 283 RX15 yX15_top wsX15_top) := goodIn_app (goodIn_of _ (by decide +kernel)) ggX18_retouched_X15_top
theorem dX18_retouched_37 : decode cX18_retouched 37 = .ok (.invokevirtual 283, 3) := by decide +kernel
theorem dX18_retouched_40 : decode cX18_retouched 40 = .ok (.ifnull 22, 3) := by decide +kernel
theorem dX18_retouched_62 : decode cX18_retouched 62 = .ok (.iconst 2, 1) := by decide +kernel
theorem dX18_retouched_63 : decode cX18_retouched 63 = .ok (.putfield 67, 3) := by decide +kernel
theorem dX18_retouched_66 : decode cX18_retouched 66 = .ok (.aload_n 0, 1) := by decide +kernel
theorem dX18_retouched_67 : decode cX18_retouched 67 = .ok (.getfield 67, 3) := by decide +kernel
theorem dX18_retouched_70 : decode cX18_retouched 70 = .ok (.ifCond .le 7, 3) := by decide +kernel
theorem dX18_retouched_73 : decode cX18_retouched 73 = .ok (.aconst_null, 1) := by decide +kernel
theorem dX18_retouched_74 : decode cX18_retouched 74 = .ok (.goto 7, 3) := by decide +kernel
theorem dX18_retouched_81 : decode cX18_retouched 81 = .ok (.areturn, 1) := by decide +kernel
theorem dX18_retouched_13 : decode cX18_retouched 13 = .ok (.aload_n 0, 1) := by decide +kernel
theorem dX18_retouched_14 : decode cX18_retouched 14 = .ok (.iconst 1, 1) := by decide +kernel
theorem dX18_retouched_15 : decode cX18_retouched 15 = .ok (.putfield 67, 3) := by decide +kernel
theorem dX18_retouched_18 : decode cX18_retouched 18 = .ok (.aconst_null, 1) := by decide +kernel
theorem dX18_retouched_19 : decode cX18_retouched 19 = .ok (.areturn, 1) := by decide +kernel
theorem dX18_isTold_0 : decode cX18_isTold 0 = .ok (.aload_n 0, 1) := by decide +kernel
theorem dX18_isTold_1 : decode cX18_isTold 1 = .ok (.iload_n 1, 1) := by decide +kernel
theorem dX18_isTold_2 : decode cX18_isTold 2 = .ok (.iload_n 2, 1) := by decide +kernel
set_option maxRecDepth 20000 in
theorem ggX18_isTold_X18_retouched : GoodIn wsX18_isTold wsX18_retouched := goodIn_r _ [10, 11, 12, 13, 14, 9, 15, 16, 17, 18, 19, 20, 21, 22, 23, 24, 25, 26, 27, 28, 29, 30, 31, 32, 33, 34, 35, 36, 37, 38, 39, 40, 41, 42, 43, 44, 45, 46, 47, 48, 49, 50, 51, 52, 70, 71, 72, 73, 74, 75, 76, 77, 78, 79, 80, 81, 82, 83, 84, 85, 86, 87, 88, 89, 90, 91, 92, 55, 56, 57, 58, 59, 60, 61, 62, 63, 64, 65, 66, 67, 68, 69, 93, 94, 95, 96, 97, 98] (by decide +kernel) (by decide +kernel)
set_option maxRecDepth 20000 in
theorem gX18_isTold_X18_retouched : GoodIn wsX18_isTold (wsV RX18 287 RX18 yX18_retouched wsX18_retouched) := goodIn_app (goodIn_of _ (by decide +kernel)) ggX18_isTold_X18_retouched
theorem dX18_isTold_3 : decode cX18_isTold 3 = .ok (.invokevirtual 287, 3) := by decide +kernel
theorem dX18_isTold_6 : decode cX18_isTold 6 = .ok (.astore_n 3, 1) := by decide +kernel
theorem dX18_isTold_7 : decode cX18_isTold 7 = .ok (.aload_n 3, 1) := by decide +kernel
theorem dX18_isTold_8 : decode cX18_isTold 8 = .ok (.ifnonnull 5, 3) := by decide +kernel
theorem dX18_isTold_11 : decode cX18_isTold 11 = .ok (.iconst 0, 1) := by decide +kernel
theorem dX18_isTold_12 : decode cX18_isTold 12 = .ok (.ireturn, 1) := by decide +kernel
theorem dX18_comesOff_0 : decode cX18_comesOff 0 = .ok (.aload_n 0, 1) := by decide +kernel
theorem dX18_comesOff_1 : decode cX18_comesOff 1 = .ok (.iload_n 1, 1) := by decide +kernel
theorem dX18_comesOff_2 : decode cX18_comesOff 2 = .ok (.iload_n 2, 1) := by decide +kernel
set_option maxRecDepth 20000 in
theorem ggX18_comesOff_X18_retouched : GoodIn wsX18_comesOff wsX18_retouched := goodIn_r _ [8, 9, 10, 11, 12, 7, 13, 14, 15, 16, 17, 18, 19, 20, 21, 22, 23, 24, 25, 26, 27, 28, 29, 30, 31, 32, 33, 34, 35, 36, 37, 38, 39, 40, 41, 42, 43, 44, 45, 46, 47, 48, 49, 50, 157, 158, 159, 160, 161, 162, 163, 164, 165, 166, 167, 168, 169, 170, 171, 172, 173, 174, 175, 176, 177, 178, 179, 152, 153, 154, 155, 156, 180, 181, 182, 183, 184, 185, 186, 187, 188, 189, 190, 191, 192, 193, 194, 195] (by decide +kernel) (by decide +kernel)
set_option maxRecDepth 20000 in
theorem gX18_comesOff_X18_retouched : GoodIn wsX18_comesOff (wsV RX18 287 RX18 yX18_retouched wsX18_retouched) := goodIn_app (goodIn_of _ (by decide +kernel)) ggX18_comesOff_X18_retouched
theorem dX18_comesOff_3 : decode cX18_comesOff 3 = .ok (.invokevirtual 287, 3) := by decide +kernel
theorem dX18_comesOff_6 : decode cX18_comesOff 6 = .ok (.astore_n 3, 1) := by decide +kernel
theorem dX18_comesOff_7 : decode cX18_comesOff 7 = .ok (.aload_n 3, 1) := by decide +kernel
theorem dX18_comesOff_8 : decode cX18_comesOff 8 = .ok (.ifnonnull 5, 3) := by decide +kernel
theorem dX18_comesOff_11 : decode cX18_comesOff 11 = .ok (.iconst 0, 1) := by decide +kernel
theorem dX18_comesOff_12 : decode cX18_comesOff 12 = .ok (.ireturn, 1) := by decide +kernel
theorem dX18_covered_0 : decode cX18_covered 0 = .ok (.iconst 0, 1) := by decide +kernel
theorem dX18_covered_1 : decode cX18_covered 1 = .ok (.istore_n 1, 1) := by decide +kernel
theorem dX18_covered_2 : decode cX18_covered 2 = .ok (.aload_n 0, 1) := by decide +kernel
theorem dX18_covered_3 : decode cX18_covered 3 = .ok (.getfield 25, 3) := by decide +kernel
theorem dX18_covered_6 : decode cX18_covered 6 = .ok (.getfield 137, 3) := by decide +kernel
theorem dX18_covered_9 : decode cX18_covered 9 = .ok (.astore_n 2, 1) := by decide +kernel
theorem dX18_covered_10 : decode cX18_covered 10 = .ok (.aload_n 2, 1) := by decide +kernel
theorem dX18_covered_11 : decode cX18_covered 11 = .ok (.arraylength, 1) := by decide +kernel
theorem dX18_covered_12 : decode cX18_covered 12 = .ok (.istore_n 3, 1) := by decide +kernel
theorem dX18_covered_13 : decode cX18_covered 13 = .ok (.iconst 0, 1) := by decide +kernel
theorem dX18_covered_14 : decode cX18_covered 14 = .ok (.istore 4, 2) := by decide +kernel
theorem dX18_covered_16 : decode cX18_covered 16 = .ok (.iload 4, 2) := by decide +kernel
theorem dX18_covered_18 : decode cX18_covered 18 = .ok (.iload_n 3, 1) := by decide +kernel
theorem dX18_covered_19 : decode cX18_covered 19 = .ok (.if_icmp .ge 36, 3) := by decide +kernel
theorem dX18_covered_55 : decode cX18_covered 55 = .ok (.iload_n 1, 1) := by decide +kernel
theorem dX18_covered_56 : decode cX18_covered 56 = .ok (.ireturn, 1) := by decide +kernel
theorem dX18_covered_22 : decode cX18_covered 22 = .ok (.aload_n 2, 1) := by decide +kernel
theorem dX18_covered_23 : decode cX18_covered 23 = .ok (.iload 4, 2) := by decide +kernel
theorem dX18_covered_25 : decode cX18_covered 25 = .ok (.aaload, 1) := by decide +kernel
theorem dX18_covered_26 : decode cX18_covered 26 = .ok (.astore 5, 2) := by decide +kernel
theorem dX18_covered_28 : decode cX18_covered 28 = .ok (.iload_n 1, 1) := by decide +kernel
theorem dX18_covered_29 : decode cX18_covered 29 = .ok (.aload 5, 2) := by decide +kernel
theorem dX18_covered_31 : decode cX18_covered 31 = .ok (.getfield 141, 3) := by decide +kernel
set_option maxRecDepth 20000 in
theorem ggX18_covered_Jx4a65c_isEmpty_aae02 : GoodIn wsX18_covered wsJx4a65c_isEmpty_aae02 := goodIn_r _ [6, 7, 34, 35, 36] (by decide +kernel) (by decide +kernel)
set_option maxRecDepth 20000 in
theorem gX18_covered_Jx4a65c_isEmpty_aae02_f107Jx4a65c : GoodIn wsX18_covered (va_wsF RX18 107 RJx4a65c ⟨"java/util/List", "isEmpty", "()Z"⟩ yJx4a65c_isEmpty_aae02 wsJx4a65c_isEmpty_aae02) := goodIn_app (goodIn_of _ (by decide +kernel)) ggX18_covered_Jx4a65c_isEmpty_aae02
theorem dX18_covered_34 : decode cX18_covered 34 = .ok (.invokeinterface 107 1, 5) := by decide +kernel
theorem dX18_covered_39 : decode cX18_covered 39 = .ok (.ifCond .eq 7, 3) := by decide +kernel
theorem dX18_covered_42 : decode cX18_covered 42 = .ok (.iconst 0, 1) := by decide +kernel
theorem dX18_covered_43 : decode cX18_covered 43 = .ok (.goto 4, 3) := by decide +kernel
theorem dX18_covered_47 : decode cX18_covered 47 = .ok (.iadd, 1) := by decide +kernel
theorem dX18_covered_48 : decode cX18_covered 48 = .ok (.istore_n 1, 1) := by decide +kernel
theorem dX18_covered_49 : decode cX18_covered 49 = .ok (.iinc 4 1, 3) := by decide +kernel
theorem dX18_covered_52 : decode cX18_covered 52 = .ok (.goto (-36), 3) := by decide +kernel
theorem dX18_meanTone_0 : decode cX18_meanTone 0 = .ok (.iconst 0, 1) := by decide +kernel
theorem dX18_meanTone_1 : decode cX18_meanTone 1 = .ok (.istore_n 1, 1) := by decide +kernel
theorem dX18_meanTone_2 : decode cX18_meanTone 2 = .ok (.aload_n 0, 1) := by decide +kernel
theorem dX18_meanTone_3 : decode cX18_meanTone 3 = .ok (.getfield 25, 3) := by decide +kernel
theorem dX18_meanTone_6 : decode cX18_meanTone 6 = .ok (.getfield 137, 3) := by decide +kernel
theorem dX18_meanTone_9 : decode cX18_meanTone 9 = .ok (.astore_n 2, 1) := by decide +kernel
theorem dX18_meanTone_10 : decode cX18_meanTone 10 = .ok (.aload_n 2, 1) := by decide +kernel
theorem dX18_meanTone_11 : decode cX18_meanTone 11 = .ok (.arraylength, 1) := by decide +kernel
theorem dX18_meanTone_12 : decode cX18_meanTone 12 = .ok (.istore_n 3, 1) := by decide +kernel
theorem dX18_meanTone_13 : decode cX18_meanTone 13 = .ok (.iconst 0, 1) := by decide +kernel
theorem dX18_meanTone_14 : decode cX18_meanTone 14 = .ok (.istore 4, 2) := by decide +kernel
theorem dX18_meanTone_16 : decode cX18_meanTone 16 = .ok (.iload 4, 2) := by decide +kernel
theorem dX18_meanTone_18 : decode cX18_meanTone 18 = .ok (.iload_n 3, 1) := by decide +kernel
theorem dX18_meanTone_19 : decode cX18_meanTone 19 = .ok (.if_icmp .ge 40, 3) := by decide +kernel
theorem dX18_meanTone_59 : decode cX18_meanTone 59 = .ok (.aload_n 0, 1) := by decide +kernel
theorem dX18_meanTone_60 : decode cX18_meanTone 60 = .ok (.aload_n 0, 1) := by decide +kernel
set_option maxRecDepth 20000 in
theorem ggX18_meanTone_X18_covered : GoodIn wsX18_meanTone wsX18_covered := goodIn_r _ [45, 1, 3, 4, 5, 6, 7, 8, 46, 47, 48, 49, 50, 51, 52, 53, 54, 55, 56, 57, 58, 59, 60, 61, 62, 63, 64, 65, 66, 67, 68, 69, 70, 71, 72, 73, 74] (by decide +kernel) (by decide +kernel)
set_option maxRecDepth 20000 in
theorem gX18_meanTone_X18_covered : GoodIn wsX18_meanTone (wsV RX18 333 RX18 yX18_covered wsX18_covered) := goodIn_app (goodIn_of _ (by decide +kernel)) ggX18_meanTone_X18_covered
theorem dX18_meanTone_61 : decode cX18_meanTone 61 = .ok (.invokevirtual 333, 3) := by decide +kernel
theorem dX18_meanTone_64 : decode cX18_meanTone 64 = .ok (.ifCond .ne 7, 3) := by decide +kernel
theorem dX18_meanTone_67 : decode cX18_meanTone 67 = .ok (.iconst 1, 1) := by decide +kernel
theorem dX18_meanTone_68 : decode cX18_meanTone 68 = .ok (.goto 4, 3) := by decide +kernel
theorem dX18_meanTone_72 : decode cX18_meanTone 72 = .ok (.putfield 67, 3) := by decide +kernel
theorem dX18_meanTone_75 : decode cX18_meanTone 75 = .ok (.aload_n 0, 1) := by decide +kernel
theorem dX18_meanTone_76 : decode cX18_meanTone 76 = .ok (.getfield 67, 3) := by decide +kernel
theorem dX18_meanTone_79 : decode cX18_meanTone 79 = .ok (.ifCond .le 7, 3) := by decide +kernel
theorem dX18_meanTone_82 : decode cX18_meanTone 82 = .ok (.dconst 0, 1) := by decide +kernel
theorem dX18_meanTone_83 : decode cX18_meanTone 83 = .ok (.goto 11, 3) := by decide +kernel
theorem dX18_meanTone_94 : decode cX18_meanTone 94 = .ok (.dreturn, 1) := by decide +kernel
theorem dX18_meanTone_22 : decode cX18_meanTone 22 = .ok (.aload_n 2, 1) := by decide +kernel
theorem dX18_meanTone_23 : decode cX18_meanTone 23 = .ok (.iload 4, 2) := by decide +kernel
theorem dX18_meanTone_25 : decode cX18_meanTone 25 = .ok (.aaload, 1) := by decide +kernel
theorem dX18_meanTone_26 : decode cX18_meanTone 26 = .ok (.astore 5, 2) := by decide +kernel
theorem dX18_meanTone_28 : decode cX18_meanTone 28 = .ok (.iload_n 1, 1) := by decide +kernel
theorem dX18_meanTone_29 : decode cX18_meanTone 29 = .ok (.aload 5, 2) := by decide +kernel
theorem dX18_meanTone_31 : decode cX18_meanTone 31 = .ok (.getfield 141, 3) := by decide +kernel
set_option maxRecDepth 20000 in
theorem ggX18_meanTone_Jx4a65c_isEmpty_aae02 : GoodIn wsX18_meanTone wsJx4a65c_isEmpty_aae02 := goodIn_r _ [7, 8, 72, 73, 74] (by decide +kernel) (by decide +kernel)
set_option maxRecDepth 20000 in
theorem gX18_meanTone_Jx4a65c_isEmpty_aae02_f107Jx4a65c : GoodIn wsX18_meanTone (va_wsF RX18 107 RJx4a65c ⟨"java/util/List", "isEmpty", "()Z"⟩ yJx4a65c_isEmpty_aae02 wsJx4a65c_isEmpty_aae02) := goodIn_app (goodIn_of _ (by decide +kernel)) ggX18_meanTone_Jx4a65c_isEmpty_aae02
theorem dX18_meanTone_34 : decode cX18_meanTone 34 = .ok (.invokeinterface 107 1, 5) := by decide +kernel
theorem dX18_meanTone_39 : decode cX18_meanTone 39 = .ok (.ifCond .eq 7, 3) := by decide +kernel
theorem dX18_meanTone_42 : decode cX18_meanTone 42 = .ok (.iconst 0, 1) := by decide +kernel
theorem dX18_meanTone_43 : decode cX18_meanTone 43 = .ok (.goto 8, 3) := by decide +kernel
theorem dX18_meanTone_51 : decode cX18_meanTone 51 = .ok (.iadd, 1) := by decide +kernel
theorem dX18_meanTone_52 : decode cX18_meanTone 52 = .ok (.istore_n 1, 1) := by decide +kernel
theorem dX18_meanTone_53 : decode cX18_meanTone 53 = .ok (.iinc 4 1, 3) := by decide +kernel
theorem dX18_meanTone_56 : decode cX18_meanTone 56 = .ok (.goto (-40), 3) := by decide +kernel
theorem dX18_checksum_0 : decode cX18_checksum 0 = .ok (.aload_n 0, 1) := by decide +kernel
theorem dX18_checksum_1 : decode cX18_checksum 1 = .ok (.iconst 0, 1) := by decide +kernel
theorem dX18_checksum_2 : decode cX18_checksum 2 = .ok (.putfield 67, 3) := by decide +kernel
theorem dX18_checksum_5 : decode cX18_checksum 5 = .ok (.ldc2_w 329, 3) := by decide +kernel
theorem dX18_checksum_8 : decode cX18_checksum 8 = .ok (.lstore_n 1, 1) := by decide +kernel
theorem dX18_checksum_9 : decode cX18_checksum 9 = .ok (.aload_n 0, 1) := by decide +kernel
theorem dX18_checksum_10 : decode cX18_checksum 10 = .ok (.getfield 25, 3) := by decide +kernel
theorem dX18_checksum_13 : decode cX18_checksum 13 = .ok (.getfield 137, 3) := by decide +kernel
theorem dX18_checksum_16 : decode cX18_checksum 16 = .ok (.astore_n 3, 1) := by decide +kernel
theorem dX18_checksum_17 : decode cX18_checksum 17 = .ok (.aload_n 3, 1) := by decide +kernel
theorem dX18_checksum_18 : decode cX18_checksum 18 = .ok (.arraylength, 1) := by decide +kernel
theorem dX18_checksum_19 : decode cX18_checksum 19 = .ok (.istore 4, 2) := by decide +kernel
theorem dX18_checksum_21 : decode cX18_checksum 21 = .ok (.iconst 0, 1) := by decide +kernel
theorem dX18_checksum_22 : decode cX18_checksum 22 = .ok (.istore 5, 2) := by decide +kernel
theorem dX18_checksum_24 : decode cX18_checksum 24 = .ok (.iload 5, 2) := by decide +kernel
theorem dX18_checksum_26 : decode cX18_checksum 26 = .ok (.iload 4, 2) := by decide +kernel
theorem dX18_checksum_28 : decode cX18_checksum 28 = .ok (.if_icmp .ge 98, 3) := by decide +kernel
theorem dX18_checksum_126 : decode cX18_checksum 126 = .ok (.aload_n 0, 1) := by decide +kernel
theorem dX18_checksum_127 : decode cX18_checksum 127 = .ok (.getfield 25, 3) := by decide +kernel
theorem dX18_checksum_130 : decode cX18_checksum 130 = .ok (.getfield 137, 3) := by decide +kernel
theorem dX18_checksum_133 : decode cX18_checksum 133 = .ok (.astore_n 3, 1) := by decide +kernel
theorem dX18_checksum_134 : decode cX18_checksum 134 = .ok (.aload_n 3, 1) := by decide +kernel
theorem dX18_checksum_135 : decode cX18_checksum 135 = .ok (.arraylength, 1) := by decide +kernel
theorem dX18_checksum_136 : decode cX18_checksum 136 = .ok (.istore 4, 2) := by decide +kernel
theorem dX18_checksum_138 : decode cX18_checksum 138 = .ok (.iconst 0, 1) := by decide +kernel
theorem dX18_checksum_139 : decode cX18_checksum 139 = .ok (.istore 5, 2) := by decide +kernel
theorem dX18_checksum_141 : decode cX18_checksum 141 = .ok (.iload 5, 2) := by decide +kernel
theorem dX18_checksum_143 : decode cX18_checksum 143 = .ok (.iload 4, 2) := by decide +kernel
theorem dX18_checksum_145 : decode cX18_checksum 145 = .ok (.if_icmp .ge 28, 3) := by decide +kernel
theorem dX18_checksum_173 : decode cX18_checksum 173 = .ok (.lload_n 1, 1) := by decide +kernel
theorem dX18_checksum_174 : decode cX18_checksum 174 = .ok (.lreturn, 1) := by decide +kernel
theorem dX18_checksum_148 : decode cX18_checksum 148 = .ok (.aload_n 3, 1) := by decide +kernel
theorem dX18_checksum_149 : decode cX18_checksum 149 = .ok (.iload 5, 2) := by decide +kernel
theorem dX18_checksum_151 : decode cX18_checksum 151 = .ok (.aaload, 1) := by decide +kernel
theorem dX18_checksum_152 : decode cX18_checksum 152 = .ok (.astore 6, 2) := by decide +kernel
theorem dX18_checksum_154 : decode cX18_checksum 154 = .ok (.ldc2_w 331, 3) := by decide +kernel
theorem dX18_checksum_157 : decode cX18_checksum 157 = .ok (.lload_n 1, 1) := by decide +kernel
theorem dX18_checksum_158 : decode cX18_checksum 158 = .ok (.lmul, 1) := by decide +kernel
theorem dX18_checksum_159 : decode cX18_checksum 159 = .ok (.aload 6, 2) := by decide +kernel
theorem dX18_checksum_161 : decode cX18_checksum 161 = .ok (.getfield 173, 3) := by decide +kernel
theorem dX18_checksum_164 : decode cX18_checksum 164 = .ok (.i2l, 1) := by decide +kernel
theorem dX18_checksum_165 : decode cX18_checksum 165 = .ok (.ladd, 1) := by decide +kernel
theorem dX18_checksum_166 : decode cX18_checksum 166 = .ok (.lstore_n 1, 1) := by decide +kernel
theorem dX18_checksum_167 : decode cX18_checksum 167 = .ok (.iinc 5 1, 3) := by decide +kernel
theorem dX18_checksum_170 : decode cX18_checksum 170 = .ok (.goto (-29), 3) := by decide +kernel
theorem dX18_checksum_31 : decode cX18_checksum 31 = .ok (.aload_n 3, 1) := by decide +kernel
theorem dX18_checksum_32 : decode cX18_checksum 32 = .ok (.iload 5, 2) := by decide +kernel
theorem dX18_checksum_34 : decode cX18_checksum 34 = .ok (.aaload, 1) := by decide +kernel
theorem dX18_checksum_35 : decode cX18_checksum 35 = .ok (.astore 6, 2) := by decide +kernel
theorem dX18_checksum_37 : decode cX18_checksum 37 = .ok (.aload 6, 2) := by decide +kernel
theorem dX18_checksum_39 : decode cX18_checksum 39 = .ok (.getfield 141, 3) := by decide +kernel
set_option maxRecDepth 20000 in
theorem ggX18_checksum_Jx4a65c_iterator_32c93 : GoodIn wsX18_checksum wsJx4a65c_iterator_32c93 := goodIn_r _ [10, 11, 12, 13, 14, 15, 16, 17, 18, 19, 20, 21, 22, 23, 24, 80, 81, 82, 83, 84, 85, 86] (by decide +kernel) (by decide +kernel)
set_option maxRecDepth 20000 in
theorem gX18_checksum_Jx4a65c_iterator_32c93_f224Jx4a65c : GoodIn wsX18_checksum (va_wsF RX18 224 RJx4a65c ⟨"java/util/List", "iterator", "()Ljava/util/Iterator;"⟩ yJx4a65c_iterator_32c93 wsJx4a65c_iterator_32c93) := goodIn_app (goodIn_of _ (by decide +kernel)) ggX18_checksum_Jx4a65c_iterator_32c93
theorem dX18_checksum_42 : decode cX18_checksum 42 = .ok (.invokeinterface 224 1, 5) := by decide +kernel
theorem dX18_checksum_47 : decode cX18_checksum 47 = .ok (.astore 7, 2) := by decide +kernel
theorem dX18_checksum_49 : decode cX18_checksum 49 = .ok (.aload 7, 2) := by decide +kernel
set_option maxRecDepth 20000 in
theorem ggX18_checksum_Jx35411_hasNext_aae02 : GoodIn wsX18_checksum wsJx35411_hasNext_aae02 := goodIn_r _ [28, 29, 17, 80, 81, 82, 83, 84, 85, 86] (by decide +kernel) (by decide +kernel)
set_option maxRecDepth 20000 in
theorem gX18_checksum_Jx35411_hasNext_aae02_f228Jx35411 : GoodIn wsX18_checksum (va_wsF RX18 228 RJx35411 ⟨"java/util/Iterator", "hasNext", "()Z"⟩ yJx35411_hasNext_aae02 wsJx35411_hasNext_aae02) := goodIn_app (goodIn_of _ (by decide +kernel)) ggX18_checksum_Jx35411_hasNext_aae02
theorem dX18_checksum_51 : decode cX18_checksum 51 = .ok (.invokeinterface 228 1, 5) := by decide +kernel
theorem dX18_checksum_56 : decode cX18_checksum 56 = .ok (.ifCond .eq 64, 3) := by decide +kernel
theorem dX18_checksum_120 : decode cX18_checksum 120 = .ok (.iinc 5 1, 3) := by decide +kernel
theorem dX18_checksum_123 : decode cX18_checksum 123 = .ok (.goto (-99), 3) := by decide +kernel
theorem z_c_X18_retouched_111 (x : Int32) (y : Int32) (r_1 : Int32) (x_4 : Int32) (x_5 : Int32) (a_0 : r_1 = if (0 ≤ x ∧ x < 8) ∧ (0 ≤ y ∧ y < 6) then 1 else 0) (a_1 : ¬ r_1 = 0) (a_2 : x_4 = 8 * y) (a_3 : x_5 = x_4 + x) : (none : Option Nat) = none ∧ (2 : Int32) = if (0 ≤ x ∧ x < 8) ∧ (0 ≤ y ∧ y < 6) then 2 else 1 := by grind
theorem z_c_X18_retouched_112 (x : Int32) (y : Int32) (r_1 : Int32) (a_0 : r_1 = if (0 ≤ x ∧ x < 8) ∧ (0 ≤ y ∧ y < 6) then 1 else 0) (a_1 : r_1 = 0) : (none : Option Nat) = none ∧ (1 : Int32) = if (0 ≤ x ∧ x < 8) ∧ (0 ≤ y ∧ y < 6) then 2 else 1 := by grind
set_option maxHeartbeats 4000000 in
set_option maxRecDepth 100000 in
/-- retouched: nothing is -/
theorem c_X18_retouched (l : Launch) (dC : Nat → ClassId) (dI : Nat → Nat → Nat) (b0 : Nat) (en : EnT) (sz : Nat) (mm stu cla pic act nts isn boa mas pai sol bal leg : Nat) (ap scr : Nat) (g : Nat → Option Nat) (kP : ClassId) (N : Nat → Prop) (x y : Int32) (hNb : ∀ a, N a → b0 ≤ a ∧ a < sz) (hNw : ∀ a, N a → a ∉ List.map Prod.fst ([(mm, .inr (24, [.int 0, .ref stu, .ref cla, .ref pic, .ref act, .int 5, .int 50, .ref nts, .ref isn, .int 1600, .ref boa, .ref mas, .ref pai, .ref sol, .int 0, .ref bal, .ref leg]))] : va_W)) (hNr : ∀ a, N a → a ∉ List.map Prod.fst ([(pic, .inr (20, [.ref ap, .ref scr, .int 1600, .int 0, .int 0, .ref mm])), (ap, .inl (kP, 48, .inr (.inr (.inr (.inr g)))))] : va_W)) : Met l yX18_retouched wsX18_retouched ({ frames := 2, cells := 0, slots := 0, locals := 43 } : Room) (cP b0 en (dC, dI) [(kP, .object "UnderpaintModel$Place")] [(mm, .inr (24, [.int 0, .ref stu, .ref cla, .ref pic, .ref act, .int 5, .int 50, .ref nts, .ref isn, .int 1600, .ref boa, .ref mas, .ref pai, .ref sol, .int 0, .ref bal, .ref leg]))] [(pic, .inr (20, [.ref ap, .ref scr, .int 1600, .int 0, .int 0, .ref mm])), (ap, .inl (kP, 48, .inr (.inr (.inr (.inr g)))))] sz (FamP (dC, dI) N en.2.2.1 g) [.ref mm, .int x, .int y]) (va_Qq (fun (r : Option Nat) (u : Int32 × List Value) => r = none ∧ u.1 = if (0 ≤ x ∧ x < 8) ∧ (0 ≤ y ∧ y < 6) then 2 else 1) (fun u t => cB (dC, dI) [] [(mm, .inr (24, .int u.1 :: u.2))] (va_A [(mm, .inr (24, [.int 0, .ref stu, .ref cla, .ref pic, .ref act, .int 5, .int 50, .ref nts, .ref isn, .int 1600, .ref boa, .ref mas, .ref pai, .ref sol, .int 0, .ref bal, .ref leg]))] sz) (fun _ => True) t) (va_A [(mm, .inr (24, [.int 0, .ref stu, .ref cla, .ref pic, .ref act, .int 5, .int 50, .ref nts, .ref isn, .int 1600, .ref boa, .ref mas, .ref pai, .ref sol, .int 0, .ref bal, .ref leg]))] sz)) 0 0 (va_A [(mm, .inr (24, [.int 0, .ref stu, .ref cla, .ref pic, .ref act, .int 5, .int 50, .ref nts, .ref isn, .int 1600, .ref boa, .ref mas, .ref pai, .ref sol, .int 0, .ref bal, .ref leg]))] sz) := by
  refine Met.ofW (cc := cX18_retouched) (maxL := 4) (ret := (some (.object "java/util/List"))) (by decide) rfl ?_
  intro p e s m args below meth c s₁ B hml hv
  obtain ⟨rfl, hsz, hb0, hE, hPP, hK, hDD, hF0⟩ := hv
  have hx := B.exec
  have hb := B.bytes
  have hr := B.returns
  have hts := atoms_spec (ws := wsX18_retouched) B.pre
  have hown : s.vm.findClass RX18 = some m.cls := findClass_of_methodNamed B.named
  have hlocks := B.notSynchronized
  subst hsz
  have hN0 := en_N hPP hDD rfl
  have hP : va_P (dC, dI) vwCl [(mm, .inr (24, [.int 0, .ref stu, .ref cla, .ref pic, .ref act, .int 5, .int 50, .ref nts, .ref isn, .int 1600, .ref boa, .ref mas, .ref pai, .ref sol, .int 0, .ref bal, .ref leg]))] s.heap := hPP.sub [0] rfl
  have hR0 : va_P (dC, dI) vwCl [(pic, .inr (20, [.ref ap, .ref scr, .int 1600, .int 0, .int 0, .ref mm])), (ap, .inl (kP, 48, .inr (.inr (.inr (.inr g)))))] s.heap := hPP.sub [1, 2] rfl
  have hD0 : va_D (fun q => b0 ≤ q) [(mm, .inr (24, [.int 0, .ref stu, .ref cla, .ref pic, .ref act, .int 5, .int 50, .ref nts, .ref isn, .int 1600, .ref boa, .ref mas, .ref pai, .ref sol, .int 0, .ref bal, .ref leg]))] := hDD.sub [0] (by decide) rfl
  have hDr : va_D (fun q => b0 ≤ q) [(pic, .inr (20, [.ref ap, .ref scr, .int 1600, .int 0, .int 0, .ref mm])), (ap, .inl (kP, 48, .inr (.inr (.inr (.inr g)))))] := hDD.sub [1, 2] (by decide) rfl
  have hAb := en_A (sz := s.heap.size) hD0 hb0
  have hD := hD0.self (sz := s.heap.size)
  generalize hAe : va_A [(mm, .inr (24, [.int 0, .ref stu, .ref cla, .ref pic, .ref act, .int 5, .int 50, .ref nts, .ref isn, .int 1600, .ref boa, .ref mas, .ref pai, .ref sol, .int 0, .ref bal, .ref leg]))] s.heap.size = A at hD hAb hN0 ⊢
  have hA : ∀ q : Nat, s.heap.size ≤ q → A q := fun q h => by rw [← hAe]; exact Or.inr h
  have hS : va_S A s.heap s.heap [] := va_S.rf
  have hR := hR0
  have hl := lv_entry [.ref mm, .int x, .int y] (n := 4) (Nat.le_of_ble_eq_true rfl)
  rw [lg_entry_eq]
  generalize (lg_sl [.ref mm, .int x, .int y] ++ List.replicate (4 - (lg_sl [.ref mm, .int x, .int y]).length) Slot.unset).toArray = ls at hl ⊢
  have hl : lv_has ls 4 [(0, .ref mm), (1, .int x), (2, .int y)] := hl
  have hR0b := hR0
  have hDrb := hDr
  have hN0b := hN0
  refine lv_aload_n hx hb dX18_retouched_0 rfl (lv_at hl 0 rfl) ?_
  refine lv_iconst (v := 0) hx hb dX18_retouched_1 (by decide) ?_
  refine va_put (D := (dC, dI)) (ci := 24) (v := .int 0) (ty := .int) (C := RX18) (T := TX18) (N := 17) hx hb hts (by decide +kernel) tyX18 tyX18_ok nmX18 hown hK hP hD hS 0 rfl rfl 0 (by decide) (hts (.fieldLink RX18 67 "UnderpaintModel" "code" "I") (by decide +kernel)) (fun _ h9 => h9) rfl (by decide +kernel) rfl rfl (Nat.le_of_ble_eq_true rfl) dX18_retouched_2 (fun H locs hP hD hS => ?_)
  have hP : va_P (dC, dI) vwCl [(mm, .inr (24, [.int 0, .ref stu, .ref cla, .ref pic, .ref act, .int 5, .int 50, .ref nts, .ref isn, .int 1600, .ref boa, .ref mas, .ref pai, .ref sol, .int 0, .ref bal, .ref leg]))] H := hP
  have hD : va_D A [(mm, .inr (24, [.int 0, .ref stu, .ref cla, .ref pic, .ref act, .int 5, .int 50, .ref nts, .ref isn, .int 1600, .ref boa, .ref mas, .ref pai, .ref sol, .int 0, .ref bal, .ref leg]))] := hD
  have hR := en_R hR0 hN0 hS
  refine lv_iload_n hx hb dX18_retouched_5 rfl (lv_at hl 1 rfl) ?_
  refine lv_iload_n hx hb dX18_retouched_6 rfl (lv_at hl 2 rfl) ?_
  have hPc := (hP.app hR).sub (ws' := [] ++ []) [] rfl
  have hDc := (en_DD hD hDr hN0 hAb).sub (ws' := [] ++ []) [] (by decide) rfl
  have hKc := hK.sub (tys' := []) [] rfl
  have hFc := va_free (wc := []) hD hS hA [] rfl
  refine va_calli (va_runS (As := [.int x, .int y]) (rest := []) ⟨hx, hb, hml, hown, hts⟩ (c_X18_isPlace l dC dI b0 en H.size x y) (va_cwS 2 hts gX18_retouched_X18_isPlace rfl rfl rfl (by decide +kernel) ⟨Nat.le_of_ble_eq_true rfl, Nat.le_of_ble_eq_true rfl⟩) ⟨cP.blind, cP.use (en_z hb0 hS) (hE.on hAb hS) hPc hKc hDc trivial⟩ rfl rfl hl.1 rfl (lv_room (Nat.le_of_ble_eq_true rfl)) dX18_retouched_7 ⟨Nat.le_of_ble_eq_true rfl, Nat.le_of_ble_eq_true rfl⟩) hS (fun q _ h => hFc q h) hFc (fun r_1 u t H1 locs ht hvm hw hB hz1 hk1 hS => ?_)
  have hP1 : va_P (dC, dI) vwCl [] H1 := fun k q h => by simp at h
  have hD1 : va_D (va_A [] H.size) [] := ⟨fun i j p q h => by simp at h, fun k q h => by simp at h⟩
  try dsimp only at hw
  obtain ⟨hP, hD⟩ := va_join (wr := [(mm, .inr (24, [.int 0, .ref stu, .ref cla, .ref pic, .ref act, .int 5, .int 50, .ref nts, .ref isn, .int 1600, .ref boa, .ref mas, .ref pai, .ref sol, .int 0, .ref bal, .ref leg]))]) (w1 := []) hP hD [] [0] rfl rfl (by decide) (by decide) hk1 hFc hP1 hD1
  generalize H1 = H at hP hS ⊢
  have hP : va_P (dC, dI) vwCl [(mm, .inr (24, [.int 0, .ref stu, .ref cla, .ref pic, .ref act, .int 5, .int 50, .ref nts, .ref isn, .int 1600, .ref boa, .ref mas, .ref pai, .ref sol, .int 0, .ref bal, .ref leg]))] H := hP
  have hD : va_D A [(mm, .inr (24, [.int 0, .ref stu, .ref cla, .ref pic, .ref act, .int 5, .int 50, .ref nts, .ref isn, .int 1600, .ref boa, .ref mas, .ref pai, .ref sol, .int 0, .ref bal, .ref leg]))] := hD
  have hR := en_R hR0 hN0 hS
  refine W.widen (k := 0) (n := 0) (Nat.le_of_ble_eq_true rfl) (Nat.le_of_ble_eq_true rfl) ?_
  have h_2 := hw
  refine lv_if_ne (tgt := 20) hx hb dX18_retouched_10 (by decide) (fun c_3 => ?_) (fun c_3 => ?_)
  · skip
    refine lv_aload_n hx hb dX18_retouched_20 rfl (lv_at hl 0 rfl) ?_
    refine va_get (D := (dC, dI)) (ci := 24) (v := .ref pic) (C := RX18) (T := TX18) (N := 17) hx hb hts (by decide +kernel) hown hK hP 0 rfl rfl 3 (by decide) (hts (.fieldLink RX18 25 "UnderpaintModel" "picture" "LUnderpaintModel$Picture;") (by decide +kernel)) (fun _ h9 => h9) rfl dX18_retouched_21 ?_
    refine va_getN (D := (dC, dI)) (ci := 20) (v := .ref ap) (C := RX14) (T := TX14) (N := 6) hx hb hts (by decide +kernel) hown hK hR 0 rfl rfl 0 (by decide) (va_Nw.use rfl (hE.nf ("UnderpaintModel", 137, "UnderpaintModel$Picture", "at", "[LUnderpaintModel$Place;", "UnderpaintModel") (by decide +kernel))) (fun _ h9 => h9) rfl dX18_retouched_24 ?_
    refine lv_bipush (v := 8) hx hb dX18_retouched_27 (by decide) ?_
    refine lv_iload_n hx hb dX18_retouched_29 rfl (lv_at hl 2 rfl) ?_
    refine lv_imul hx hb dX18_retouched_30 ?_
    refine lv_topi (fun x_4 ex_4 => ?_)
    refine lv_iload_n hx hb dX18_retouched_31 rfl (lv_at hl 1 rfl) ?_
    refine lv_iadd hx hb dX18_retouched_32 ?_
    refine lv_topi (fun x_5 ex_5 => ?_)
    obtain ⟨i_6, hi_i_6, hx_i_6⟩ := (ix48 (z_c_X18_isPossible_101 x y r_1 x_4 x_5 h_2 c_3 ex_4 ex_5) (z_c_X18_isPossible_102 x y r_1 x_4 x_5 h_2 c_3 ex_4 ex_5))
    refine va_aldq hx hb hK hR 1 0 rfl rfl (pl_in hi_i_6 hx_i_6) dX18_retouched_33 ?_
    obtain ⟨ap_7, lp_7, hgp_7, hup_7, hvp_7, hnp_7, hmp_7, hdp_7⟩ := hF0 i_6 hi_i_6
    refine lv_topv (w := .ref ap_7) (by rw [pl_cl hi_i_6 hx_i_6, hgp_7]; rfl) ?_
    have hxp_7 : ¬ A ap_7 := by rw [← hAe]; exact vA1 (ws := [(mm, .inr (24, [.int 0, .ref stu, .ref cla, .ref pic, .ref act, .int 5, .int 50, .ref nts, .ref isn, .int 1600, .ref boa, .ref mas, .ref pai, .ref sol, .int 0, .ref bal, .ref leg]))]) hup_7.lt (hNw ap_7 hnp_7)
    have hyp_7 : ¬ A lp_7 := by rw [← hAe]; exact vA1 (ws := [(mm, .inr (24, [.int 0, .ref stu, .ref cla, .ref pic, .ref act, .int 5, .int 50, .ref nts, .ref isn, .int 1600, .ref boa, .ref mas, .ref pai, .ref sol, .int 0, .ref bal, .ref leg]))]) hvp_7.lt (hNw lp_7 hmp_7)
    refine lv_astore_n (lv' := [(3, .ref ap_7), (0, .ref mm), (1, .int x), (2, .int y)]) hx hb dX18_retouched_34 rfl hl (by decide) rfl (fun ls hl => ?_)
    refine lv_aload_n hx hb dX18_retouched_35 rfl (lv_at hl 1 rfl) ?_
    refine lv_aload_n hx hb dX18_retouched_36 rfl (lv_at hl 0 rfl) ?_
    have hR0 : va_P (dC, dI) vwCl [(pic, .inr (20, [.ref ap, .ref scr, .int 1600, .int 0, .int 0, .ref mm])), (ap, .inl (kP, 48, .inr (.inr (.inr (.inr g))))), (ap_7, .inr (21, [.int (nI i_6), .ref lp_7, .int 0])), (lp_7, .inr (5, [.int 0, .ref en.2.2.1, .int 0]))] s.heap := ((hR0b.app (va1 hup_7)).app (va1 hvp_7))
    have hDr : va_D (fun q => b0 ≤ q) [(pic, .inr (20, [.ref ap, .ref scr, .int 1600, .int 0, .int 0, .ref mm])), (ap, .inl (kP, 48, .inr (.inr (.inr (.inr g))))), (ap_7, .inr (21, [.int (nI i_6), .ref lp_7, .int 0])), (lp_7, .inr (5, [.int 0, .ref en.2.2.1, .int 0]))] := (vD_push (vD_push hDrb (hNb ap_7 hnp_7).1 (nR (hNr ap_7 hnp_7))) (hNb lp_7 hmp_7).1 (vR_push (nR (hNr lp_7 hmp_7)) hdp_7))
    have hN0 : ∀ (k : Nat) (q : Nat × va_E), [(pic, .inr (20, [.ref ap, .ref scr, .int 1600, .int 0, .int 0, .ref mm])), (ap, .inl (kP, 48, .inr (.inr (.inr (.inr g))))), (ap_7, .inr (21, [.int (nI i_6), .ref lp_7, .int 0])), (lp_7, .inr (5, [.int 0, .ref en.2.2.1, .int 0]))][k]? = some q → ¬ A q.1 := (vN_push (vN_push hN0b hxp_7) hyp_7)
    have hR : va_P (dC, dI) vwCl [(pic, .inr (20, [.ref ap, .ref scr, .int 1600, .int 0, .int 0, .ref mm])), (ap, .inl (kP, 48, .inr (.inr (.inr (.inr g))))), (ap_7, .inr (21, [.int (nI i_6), .ref lp_7, .int 0])), (lp_7, .inr (5, [.int 0, .ref en.2.2.1, .int 0]))] H := en_R hR0 hN0 hS
    have hPc := (hP.app hR).sub (ws' := [] ++ [(ap_7, .inr (21, [.int (nI i_6), .ref lp_7, .int 0])), (lp_7, .inr (5, [.int 0, .ref en.2.2.1, .int 0]))]) [3, 4] rfl
    have hDc := (en_DD hD hDr hN0 hAb).sub (ws' := [] ++ [(ap_7, .inr (21, [.int (nI i_6), .ref lp_7, .int 0])), (lp_7, .inr (5, [.int 0, .ref en.2.2.1, .int 0]))]) [3, 4] (by decide) rfl
    have hKc := hK.sub (tys' := []) [] rfl
    have hFc := va_free (wc := []) hD hS hA [] rfl
    refine va_callq (va_runV (As := []) (rest := [.ref mm]) ⟨hx, hb, hml, hown, hts⟩ (c_X15_top l dC dI b0 en H.size ap_7 lp_7 (nI i_6)) (cwV 0 hts gX18_retouched_X15_top rfl rfl rfl (by decide +kernel) ⟨Nat.le_of_ble_eq_true rfl, Nat.le_of_ble_eq_true rfl⟩) ⟨cP.blind, va_recv hK hR (ci := 21) (q0 := 2) rfl rfl, cP.use (en_z hb0 hS) (hE.on hAb hS) hPc hKc hDc trivial⟩ rfl rfl hl.1 rfl (lv_room (Nat.le_of_ble_eq_true rfl)) dX18_retouched_37 ⟨Nat.le_of_ble_eq_true rfl, Nat.le_of_ble_eq_true rfl⟩) hS (fun q _ h => hFc q h) hFc (fun r_8 u t H1 locs ht hvm hw hB hz1 hk1 hS => ?_)
    have hP1 : va_P (dC, dI) vwCl [] H1 := fun k q h => by simp at h
    have hD1 : va_D (va_A [] H.size) [] := ⟨fun i j p q h => by simp at h, fun k q h => by simp at h⟩
    try dsimp only at hw
    obtain ⟨hP, hD⟩ := va_join (wr := [(mm, .inr (24, [.int 0, .ref stu, .ref cla, .ref pic, .ref act, .int 5, .int 50, .ref nts, .ref isn, .int 1600, .ref boa, .ref mas, .ref pai, .ref sol, .int 0, .ref bal, .ref leg]))]) (w1 := []) hP hD [] [0] rfl rfl (by decide) (by decide) hk1 hFc hP1 hD1
    generalize H1 = H at hP hS ⊢
    have hP : va_P (dC, dI) vwCl [(mm, .inr (24, [.int 0, .ref stu, .ref cla, .ref pic, .ref act, .int 5, .int 50, .ref nts, .ref isn, .int 1600, .ref boa, .ref mas, .ref pai, .ref sol, .int 0, .ref bal, .ref leg]))] H := hP
    have hD : va_D A [(mm, .inr (24, [.int 0, .ref stu, .ref cla, .ref pic, .ref act, .int 5, .int 50, .ref nts, .ref isn, .int 1600, .ref boa, .ref mas, .ref pai, .ref sol, .int 0, .ref bal, .ref leg]))] := hD
    have hR := en_R hR0 hN0 hS
    refine W.widen (k := 0) (n := 0) (Nat.le_of_ble_eq_true rfl) (Nat.le_of_ble_eq_true rfl) ?_
    subst r_8
    refine lv_ifnullN (tgt := 62) hx hb dX18_retouched_40 (by decide) ?_
    refine lv_iconst (v := 2) hx hb dX18_retouched_62 (by decide) ?_
    refine va_put (D := (dC, dI)) (ci := 24) (v := .int 2) (ty := .int) (C := RX18) (T := TX18) (N := 17) hx hb hts (by decide +kernel) tyX18 tyX18_ok nmX18 hown hK hP hD hS 0 rfl rfl 0 (by decide) (hts (.fieldLink RX18 67 "UnderpaintModel" "code" "I") (by decide +kernel)) (fun _ h9 => h9) rfl (by decide +kernel) rfl rfl (Nat.le_of_ble_eq_true rfl) dX18_retouched_63 (fun H locs hP hD hS => ?_)
    have hP : va_P (dC, dI) vwCl [(mm, .inr (24, [.int 2, .ref stu, .ref cla, .ref pic, .ref act, .int 5, .int 50, .ref nts, .ref isn, .int 1600, .ref boa, .ref mas, .ref pai, .ref sol, .int 0, .ref bal, .ref leg]))] H := hP
    have hD : va_D A [(mm, .inr (24, [.int 2, .ref stu, .ref cla, .ref pic, .ref act, .int 5, .int 50, .ref nts, .ref isn, .int 1600, .ref boa, .ref mas, .ref pai, .ref sol, .int 0, .ref bal, .ref leg]))] := hD
    have hR := en_R hR0 hN0 hS
    refine lv_aload_n hx hb dX18_retouched_66 rfl (lv_at hl 1 rfl) ?_
    refine va_get (D := (dC, dI)) (ci := 24) (v := .int 2) (C := RX18) (T := TX18) (N := 17) hx hb hts (by decide +kernel) hown hK hP 0 rfl rfl 0 (by decide) (hts (.fieldLink RX18 67 "UnderpaintModel" "code" "I") (by decide +kernel)) (fun _ h9 => h9) rfl dX18_retouched_67 ?_
    refine lv_if_le (tgt := 77) hx hb dX18_retouched_70 (by decide) (fun c_9 => absurd c_9 (by decide)) (fun c_9 => ?_)
    refine lv_null hx hb dX18_retouched_73 ?_
    refine lv_goto (tgt := 81) hx hb dX18_retouched_74 (by decide) ?_
    refine W.widen (k := 0) (n := 0) (Nat.le_of_ble_eq_true rfl) (Nat.le_of_ble_eq_true rfl) ?_
    exact W.aret (v := .null) hx hb hr (by first | exact Or.inl ⟨_, rfl⟩ | exact Or.inr ⟨_, rfl⟩) (by first | exact Or.inl rfl | exact va_rf_or _ | exact Or.inr ⟨_, rfl⟩) (fun t ht hW => ⟨⟨none, ⟨2, [.ref stu, .ref cla, .ref pic, .ref act, .int 5, .int 50, .ref nts, .ref isn, .int 1600, .ref boa, .ref mas, .ref pai, .ref sol, .int 0, .ref bal, .ref leg]⟩, rfl, (z_c_X18_retouched_111 x y r_1 x_4 x_5 h_2 c_3 ex_4 ex_5), cB.mk ht hW (hP.sub [0] rfl) (hK.sub [] rfl) (hD.sub [0] (by decide) rfl) (trivial)⟩, hS.F ht⟩) hS.2.2 dX18_retouched_81
  · skip
    refine lv_aload_n hx hb dX18_retouched_13 rfl (lv_at hl 0 rfl) ?_
    refine lv_iconst (v := 1) hx hb dX18_retouched_14 (by decide) ?_
    refine va_put (D := (dC, dI)) (ci := 24) (v := .int 1) (ty := .int) (C := RX18) (T := TX18) (N := 17) hx hb hts (by decide +kernel) tyX18 tyX18_ok nmX18 hown hK hP hD hS 0 rfl rfl 0 (by decide) (hts (.fieldLink RX18 67 "UnderpaintModel" "code" "I") (by decide +kernel)) (fun _ h9 => h9) rfl (by decide +kernel) rfl rfl (Nat.le_of_ble_eq_true rfl) dX18_retouched_15 (fun H locs hP hD hS => ?_)
    have hP : va_P (dC, dI) vwCl [(mm, .inr (24, [.int 1, .ref stu, .ref cla, .ref pic, .ref act, .int 5, .int 50, .ref nts, .ref isn, .int 1600, .ref boa, .ref mas, .ref pai, .ref sol, .int 0, .ref bal, .ref leg]))] H := hP
    have hD : va_D A [(mm, .inr (24, [.int 1, .ref stu, .ref cla, .ref pic, .ref act, .int 5, .int 50, .ref nts, .ref isn, .int 1600, .ref boa, .ref mas, .ref pai, .ref sol, .int 0, .ref bal, .ref leg]))] := hD
    have hR := en_R hR0 hN0 hS
    refine lv_null hx hb dX18_retouched_18 ?_
    refine W.widen (k := 0) (n := 0) (Nat.le_of_ble_eq_true rfl) (Nat.le_of_ble_eq_true rfl) ?_
    exact W.aret (v := .null) hx hb hr (by first | exact Or.inl ⟨_, rfl⟩ | exact Or.inr ⟨_, rfl⟩) (by first | exact Or.inl rfl | exact va_rf_or _ | exact Or.inr ⟨_, rfl⟩) (fun t ht hW => ⟨⟨none, ⟨1, [.ref stu, .ref cla, .ref pic, .ref act, .int 5, .int 50, .ref nts, .ref isn, .int 1600, .ref boa, .ref mas, .ref pai, .ref sol, .int 0, .ref bal, .ref leg]⟩, rfl, (z_c_X18_retouched_112 x y r_1 h_2 c_3), cB.mk ht hW (hP.sub [0] rfl) (hK.sub [] rfl) (hD.sub [0] (by decide) rfl) (trivial)⟩, hS.F ht⟩) hS.2.2 dX18_retouched_19
theorem z_c_X18_isTold_113 (x : Int32) (y : Int32) (u_1 : Int32 × List Value) (a_0 : u_1.1 = if (0 ≤ x ∧ x < 8) ∧ (0 ≤ y ∧ y < 6) then 2 else 1) : u_1.1 = if (0 ≤ x ∧ x < 8) ∧ (0 ≤ y ∧ y < 6) then 2 else 1 := by grind
set_option maxHeartbeats 4000000 in
set_option maxRecDepth 100000 in
theorem c_X18_isTold (l : Launch) (dC : Nat → ClassId) (dI : Nat → Nat → Nat) (b0 : Nat) (en : EnT) (sz : Nat) (mm stu cla pic act nts isn boa mas pai sol bal leg : Nat) (ap scr : Nat) (g : Nat → Option Nat) (kP : ClassId) (N : Nat → Prop) (x y : Int32) (hNb : ∀ a, N a → b0 ≤ a ∧ a < sz) (hNw : ∀ a, N a → a ∉ List.map Prod.fst ([(mm, .inr (24, [.int 0, .ref stu, .ref cla, .ref pic, .ref act, .int 5, .int 50, .ref nts, .ref isn, .int 1600, .ref boa, .ref mas, .ref pai, .ref sol, .int 0, .ref bal, .ref leg]))] : va_W)) (hNr : ∀ a, N a → a ∉ List.map Prod.fst ([(pic, .inr (20, [.ref ap, .ref scr, .int 1600, .int 0, .int 0, .ref mm])), (ap, .inl (kP, 48, .inr (.inr (.inr (.inr g)))))] : va_W)) : Met l yX18_isTold wsX18_isTold ({ frames := 3, cells := 0, slots := 0, locals := 66 } : Room) (cP b0 en (dC, dI) [(kP, .object "UnderpaintModel$Place")] [(mm, .inr (24, [.int 0, .ref stu, .ref cla, .ref pic, .ref act, .int 5, .int 50, .ref nts, .ref isn, .int 1600, .ref boa, .ref mas, .ref pai, .ref sol, .int 0, .ref bal, .ref leg]))] [(pic, .inr (20, [.ref ap, .ref scr, .int 1600, .int 0, .int 0, .ref mm])), (ap, .inl (kP, 48, .inr (.inr (.inr (.inr g)))))] sz (FamP (dC, dI) N en.2.2.1 g) [.ref mm, .int x, .int y]) (va_Qi (fun (r : Int32) (u : Int32 × List Value) => u.1 = if (0 ≤ x ∧ x < 8) ∧ (0 ≤ y ∧ y < 6) then 2 else 1) (fun u t => cB (dC, dI) [] [(mm, .inr (24, .int u.1 :: u.2))] (va_A [(mm, .inr (24, [.int 0, .ref stu, .ref cla, .ref pic, .ref act, .int 5, .int 50, .ref nts, .ref isn, .int 1600, .ref boa, .ref mas, .ref pai, .ref sol, .int 0, .ref bal, .ref leg]))] sz) (fun _ => True) t) (va_A [(mm, .inr (24, [.int 0, .ref stu, .ref cla, .ref pic, .ref act, .int 5, .int 50, .ref nts, .ref isn, .int 1600, .ref boa, .ref mas, .ref pai, .ref sol, .int 0, .ref bal, .ref leg]))] sz)) 0 0 (va_A [(mm, .inr (24, [.int 0, .ref stu, .ref cla, .ref pic, .ref act, .int 5, .int 50, .ref nts, .ref isn, .int 1600, .ref boa, .ref mas, .ref pai, .ref sol, .int 0, .ref bal, .ref leg]))] sz) := by
  refine Met.ofW (cc := cX18_isTold) (maxL := 5) (ret := (some .boolean)) (by decide) rfl ?_
  intro p e s m args below meth c s₁ B hml hv
  obtain ⟨rfl, hsz, hb0, hE, hPP, hK, hDD, hF0⟩ := hv
  have hx := B.exec
  have hb := B.bytes
  have hr := B.returns
  have hts := atoms_spec (ws := wsX18_isTold) B.pre
  have hown : s.vm.findClass RX18 = some m.cls := findClass_of_methodNamed B.named
  have hlocks := B.notSynchronized
  subst hsz
  have hN0 := en_N hPP hDD rfl
  have hP : va_P (dC, dI) vwCl [(mm, .inr (24, [.int 0, .ref stu, .ref cla, .ref pic, .ref act, .int 5, .int 50, .ref nts, .ref isn, .int 1600, .ref boa, .ref mas, .ref pai, .ref sol, .int 0, .ref bal, .ref leg]))] s.heap := hPP.sub [0] rfl
  have hR0 : va_P (dC, dI) vwCl [(pic, .inr (20, [.ref ap, .ref scr, .int 1600, .int 0, .int 0, .ref mm])), (ap, .inl (kP, 48, .inr (.inr (.inr (.inr g)))))] s.heap := hPP.sub [1, 2] rfl
  have hD0 : va_D (fun q => b0 ≤ q) [(mm, .inr (24, [.int 0, .ref stu, .ref cla, .ref pic, .ref act, .int 5, .int 50, .ref nts, .ref isn, .int 1600, .ref boa, .ref mas, .ref pai, .ref sol, .int 0, .ref bal, .ref leg]))] := hDD.sub [0] (by decide) rfl
  have hDr : va_D (fun q => b0 ≤ q) [(pic, .inr (20, [.ref ap, .ref scr, .int 1600, .int 0, .int 0, .ref mm])), (ap, .inl (kP, 48, .inr (.inr (.inr (.inr g)))))] := hDD.sub [1, 2] (by decide) rfl
  have hAb := en_A (sz := s.heap.size) hD0 hb0
  have hD := hD0.self (sz := s.heap.size)
  generalize hAe : va_A [(mm, .inr (24, [.int 0, .ref stu, .ref cla, .ref pic, .ref act, .int 5, .int 50, .ref nts, .ref isn, .int 1600, .ref boa, .ref mas, .ref pai, .ref sol, .int 0, .ref bal, .ref leg]))] s.heap.size = A at hD hAb hN0 ⊢
  have hA : ∀ q : Nat, s.heap.size ≤ q → A q := fun q h => by rw [← hAe]; exact Or.inr h
  have hS : va_S A s.heap s.heap [] := va_S.rf
  have hR := hR0
  have hl := lv_entry [.ref mm, .int x, .int y] (n := 5) (Nat.le_of_ble_eq_true rfl)
  rw [lg_entry_eq]
  generalize (lg_sl [.ref mm, .int x, .int y] ++ List.replicate (5 - (lg_sl [.ref mm, .int x, .int y]).length) Slot.unset).toArray = ls at hl ⊢
  have hl : lv_has ls 5 [(0, .ref mm), (1, .int x), (2, .int y)] := hl
  have hR0b := hR0
  have hDrb := hDr
  have hN0b := hN0
  refine lv_aload_n hx hb dX18_isTold_0 rfl (lv_at hl 0 rfl) ?_
  refine lv_iload_n hx hb dX18_isTold_1 rfl (lv_at hl 1 rfl) ?_
  refine lv_iload_n hx hb dX18_isTold_2 rfl (lv_at hl 2 rfl) ?_
  have hPc := (hP.app hR).sub (ws' := [(mm, .inr (24, [.int 0, .ref stu, .ref cla, .ref pic, .ref act, .int 5, .int 50, .ref nts, .ref isn, .int 1600, .ref boa, .ref mas, .ref pai, .ref sol, .int 0, .ref bal, .ref leg]))] ++ [(pic, .inr (20, [.ref ap, .ref scr, .int 1600, .int 0, .int 0, .ref mm])), (ap, .inl (kP, 48, .inr (.inr (.inr (.inr g)))))]) [0, 1, 2] rfl
  have hDc := (en_DD hD hDr hN0 hAb).sub (ws' := [(mm, .inr (24, [.int 0, .ref stu, .ref cla, .ref pic, .ref act, .int 5, .int 50, .ref nts, .ref isn, .int 1600, .ref boa, .ref mas, .ref pai, .ref sol, .int 0, .ref bal, .ref leg]))] ++ [(pic, .inr (20, [.ref ap, .ref scr, .int 1600, .int 0, .int 0, .ref mm])), (ap, .inl (kP, 48, .inr (.inr (.inr (.inr g)))))]) [0, 1, 2] (by decide) rfl
  have hKc := hK.sub (tys' := [(kP, .object "UnderpaintModel$Place")]) [0] rfl
  have hFc := va_free (wc := [(mm, .inr (24, [.int 0, .ref stu, .ref cla, .ref pic, .ref act, .int 5, .int 50, .ref nts, .ref isn, .int 1600, .ref boa, .ref mas, .ref pai, .ref sol, .int 0, .ref bal, .ref leg]))]) hD hS hA [0] rfl
  refine va_callq (va_runV (As := [.int x, .int y]) (rest := []) ⟨hx, hb, hml, hown, hts⟩ (c_X18_retouched l dC dI b0 en s.heap.size mm stu cla pic act nts isn boa mas pai sol bal leg ap scr g kP N x y (fun a9 h9 => ⟨(hNb a9 h9).1, Nat.lt_of_lt_of_le (hNb a9 h9).2 hS.1⟩) (fun a9 h9 z9 => by have g1 := hNw a9 h9; have g2 := hNr a9 h9; simp only [List.map_cons, List.map_nil, List.mem_cons, List.not_mem_nil, or_false, not_or] at g1 g2 z9 <;> omega) (fun a9 h9 z9 => by have g1 := hNw a9 h9; have g2 := hNr a9 h9; simp only [List.map_cons, List.map_nil, List.mem_cons, List.not_mem_nil, or_false, not_or] at g1 g2 z9 <;> omega)) (cwV 2 hts gX18_isTold_X18_retouched rfl rfl rfl (by decide +kernel) ⟨Nat.le_of_ble_eq_true rfl, Nat.le_of_ble_eq_true rfl⟩) ⟨cP.blind, va_recv hK hP (ci := 24) (q0 := 0) rfl rfl, cP.use (en_z hb0 hS) (hE.on hAb hS) hPc hKc hDc (hF0.on (fun a9 h8 h9 => by rw [← hAe]; exact vA1 h8 (hNw a9 h9)) hS)⟩ rfl rfl hl.1 rfl (lv_room (Nat.le_of_ble_eq_true rfl)) dX18_isTold_3 ⟨Nat.le_of_ble_eq_true rfl, Nat.le_of_ble_eq_true rfl⟩) hS (fun q _ h => hFc q h) hFc (fun r_2 u_1 t H1 locs ht hvm hw hB hz1 hk1 hS => ?_)
  obtain ⟨hP1, hK1, hD1, hF1⟩ := hB
  rw [ht] at hP1
  try rw [ht] at hF1
  have hK1 := va_K.moved hvm.symm hK1
  try dsimp only at hw
  obtain ⟨hP, hD⟩ := va_join (wr := []) (w1 := [(mm, .inr (24, .int u_1.1 :: u_1.2))]) hP hD [0] [] rfl rfl (by decide) (by decide) hk1 hFc hP1 hD1
  generalize H1 = H at hP hS ⊢
  have hP : va_P (dC, dI) vwCl [(mm, .inr (24, .int u_1.1 :: u_1.2))] H := hP
  have hD : va_D A [(mm, .inr (24, .int u_1.1 :: u_1.2))] := hD
  have hR := en_R hR0 hN0 hS
  refine W.widen (k := 0) (n := 0) (Nat.le_of_ble_eq_true rfl) (Nat.le_of_ble_eq_true rfl) ?_
  obtain ⟨hw, h_3⟩ := hw
  subst r_2
  refine lv_astore_nN (lv' := [(3, .null), (0, .ref mm), (1, .int x), (2, .int y)]) hx hb dX18_isTold_6 rfl hl (by decide) rfl (fun ls hl => ?_)
  refine lv_aload_nN hx hb dX18_isTold_7 rfl (lv_at hl 0 rfl) ?_
  refine lv_ifnonnullN hx hb dX18_isTold_8 ?_
  refine lv_iconst (v := 0) hx hb dX18_isTold_11 (by decide) ?_
  refine W.widen (k := 0) (n := 0) (Nat.le_of_ble_eq_true rfl) (Nat.le_of_ble_eq_true rfl) ?_
  exact W.zret (v := 0) hx hb hr (by first | rfl | decide +kernel) (fun t ht hW => ⟨⟨0, ⟨u_1.1, u_1.2⟩, rfl, (z_c_X18_isTold_113 x y u_1 h_3), cB.mk ht hW (hP.sub [0] rfl) (hK.sub [] rfl) (hD.sub [0] (by decide) rfl) (trivial)⟩, hS.F ht⟩) hS.2.2 dX18_isTold_12

set_option maxHeartbeats 4000000 in
set_option maxRecDepth 100000 in
theorem c_X18_comesOff (l : Launch) (dC : Nat → ClassId) (dI : Nat → Nat → Nat) (b0 : Nat) (en : EnT) (sz : Nat) (mm stu cla pic act nts isn boa mas pai sol bal leg : Nat) (ap scr : Nat) (g : Nat → Option Nat) (kP : ClassId) (N : Nat → Prop) (x y : Int32) (hNb : ∀ a, N a → b0 ≤ a ∧ a < sz) (hNw : ∀ a, N a → a ∉ List.map Prod.fst ([(mm, .inr (24, [.int 0, .ref stu, .ref cla, .ref pic, .ref act, .int 5, .int 50, .ref nts, .ref isn, .int 1600, .ref boa, .ref mas, .ref pai, .ref sol, .int 0, .ref bal, .ref leg]))] : va_W)) (hNr : ∀ a, N a → a ∉ List.map Prod.fst ([(pic, .inr (20, [.ref ap, .ref scr, .int 1600, .int 0, .int 0, .ref mm])), (ap, .inl (kP, 48, .inr (.inr (.inr (.inr g)))))] : va_W)) : Met l yX18_comesOff wsX18_comesOff ({ frames := 3, cells := 0, slots := 0, locals := 66 } : Room) (cP b0 en (dC, dI) [(kP, .object "UnderpaintModel$Place")] [(mm, .inr (24, [.int 0, .ref stu, .ref cla, .ref pic, .ref act, .int 5, .int 50, .ref nts, .ref isn, .int 1600, .ref boa, .ref mas, .ref pai, .ref sol, .int 0, .ref bal, .ref leg]))] [(pic, .inr (20, [.ref ap, .ref scr, .int 1600, .int 0, .int 0, .ref mm])), (ap, .inl (kP, 48, .inr (.inr (.inr (.inr g)))))] sz (FamP (dC, dI) N en.2.2.1 g) [.ref mm, .int x, .int y]) (va_Qi (fun (r : Int32) (u : Int32 × List Value) => u.1 = if (0 ≤ x ∧ x < 8) ∧ (0 ≤ y ∧ y < 6) then 2 else 1) (fun u t => cB (dC, dI) [] [(mm, .inr (24, .int u.1 :: u.2))] (va_A [(mm, .inr (24, [.int 0, .ref stu, .ref cla, .ref pic, .ref act, .int 5, .int 50, .ref nts, .ref isn, .int 1600, .ref boa, .ref mas, .ref pai, .ref sol, .int 0, .ref bal, .ref leg]))] sz) (fun _ => True) t) (va_A [(mm, .inr (24, [.int 0, .ref stu, .ref cla, .ref pic, .ref act, .int 5, .int 50, .ref nts, .ref isn, .int 1600, .ref boa, .ref mas, .ref pai, .ref sol, .int 0, .ref bal, .ref leg]))] sz)) 0 0 (va_A [(mm, .inr (24, [.int 0, .ref stu, .ref cla, .ref pic, .ref act, .int 5, .int 50, .ref nts, .ref isn, .int 1600, .ref boa, .ref mas, .ref pai, .ref sol, .int 0, .ref bal, .ref leg]))] sz) := by
  refine Met.ofW (cc := cX18_comesOff) (maxL := 9) (ret := (some .int)) (by decide) rfl ?_
  intro p e s m args below meth c s₁ B hml hv
  obtain ⟨rfl, hsz, hb0, hE, hPP, hK, hDD, hF0⟩ := hv
  have hx := B.exec
  have hb := B.bytes
  have hr := B.returns
  have hts := atoms_spec (ws := wsX18_comesOff) B.pre
  have hown : s.vm.findClass RX18 = some m.cls := findClass_of_methodNamed B.named
  have hlocks := B.notSynchronized
  subst hsz
  have hN0 := en_N hPP hDD rfl
  have hP : va_P (dC, dI) vwCl [(mm, .inr (24, [.int 0, .ref stu, .ref cla, .ref pic, .ref act, .int 5, .int 50, .ref nts, .ref isn, .int 1600, .ref boa, .ref mas, .ref pai, .ref sol, .int 0, .ref bal, .ref leg]))] s.heap := hPP.sub [0] rfl
  have hR0 : va_P (dC, dI) vwCl [(pic, .inr (20, [.ref ap, .ref scr, .int 1600, .int 0, .int 0, .ref mm])), (ap, .inl (kP, 48, .inr (.inr (.inr (.inr g)))))] s.heap := hPP.sub [1, 2] rfl
  have hD0 : va_D (fun q => b0 ≤ q) [(mm, .inr (24, [.int 0, .ref stu, .ref cla, .ref pic, .ref act, .int 5, .int 50, .ref nts, .ref isn, .int 1600, .ref boa, .ref mas, .ref pai, .ref sol, .int 0, .ref bal, .ref leg]))] := hDD.sub [0] (by decide) rfl
  have hDr : va_D (fun q => b0 ≤ q) [(pic, .inr (20, [.ref ap, .ref scr, .int 1600, .int 0, .int 0, .ref mm])), (ap, .inl (kP, 48, .inr (.inr (.inr (.inr g)))))] := hDD.sub [1, 2] (by decide) rfl
  have hAb := en_A (sz := s.heap.size) hD0 hb0
  have hD := hD0.self (sz := s.heap.size)
  generalize hAe : va_A [(mm, .inr (24, [.int 0, .ref stu, .ref cla, .ref pic, .ref act, .int 5, .int 50, .ref nts, .ref isn, .int 1600, .ref boa, .ref mas, .ref pai, .ref sol, .int 0, .ref bal, .ref leg]))] s.heap.size = A at hD hAb hN0 ⊢
  have hA : ∀ q : Nat, s.heap.size ≤ q → A q := fun q h => by rw [← hAe]; exact Or.inr h
  have hS : va_S A s.heap s.heap [] := va_S.rf
  have hR := hR0
  have hl := lv_entry [.ref mm, .int x, .int y] (n := 9) (Nat.le_of_ble_eq_true rfl)
  rw [lg_entry_eq]
  generalize (lg_sl [.ref mm, .int x, .int y] ++ List.replicate (9 - (lg_sl [.ref mm, .int x, .int y]).length) Slot.unset).toArray = ls at hl ⊢
  have hl : lv_has ls 9 [(0, .ref mm), (1, .int x), (2, .int y)] := hl
  have hR0b := hR0
  have hDrb := hDr
  have hN0b := hN0
  refine lv_aload_n hx hb dX18_comesOff_0 rfl (lv_at hl 0 rfl) ?_
  refine lv_iload_n hx hb dX18_comesOff_1 rfl (lv_at hl 1 rfl) ?_
  refine lv_iload_n hx hb dX18_comesOff_2 rfl (lv_at hl 2 rfl) ?_
  have hPc := (hP.app hR).sub (ws' := [(mm, .inr (24, [.int 0, .ref stu, .ref cla, .ref pic, .ref act, .int 5, .int 50, .ref nts, .ref isn, .int 1600, .ref boa, .ref mas, .ref pai, .ref sol, .int 0, .ref bal, .ref leg]))] ++ [(pic, .inr (20, [.ref ap, .ref scr, .int 1600, .int 0, .int 0, .ref mm])), (ap, .inl (kP, 48, .inr (.inr (.inr (.inr g)))))]) [0, 1, 2] rfl
  have hDc := (en_DD hD hDr hN0 hAb).sub (ws' := [(mm, .inr (24, [.int 0, .ref stu, .ref cla, .ref pic, .ref act, .int 5, .int 50, .ref nts, .ref isn, .int 1600, .ref boa, .ref mas, .ref pai, .ref sol, .int 0, .ref bal, .ref leg]))] ++ [(pic, .inr (20, [.ref ap, .ref scr, .int 1600, .int 0, .int 0, .ref mm])), (ap, .inl (kP, 48, .inr (.inr (.inr (.inr g)))))]) [0, 1, 2] (by decide) rfl
  have hKc := hK.sub (tys' := [(kP, .object "UnderpaintModel$Place")]) [0] rfl
  have hFc := va_free (wc := [(mm, .inr (24, [.int 0, .ref stu, .ref cla, .ref pic, .ref act, .int 5, .int 50, .ref nts, .ref isn, .int 1600, .ref boa, .ref mas, .ref pai, .ref sol, .int 0, .ref bal, .ref leg]))]) hD hS hA [0] rfl
  refine va_callq (va_runV (As := [.int x, .int y]) (rest := []) ⟨hx, hb, hml, hown, hts⟩ (c_X18_retouched l dC dI b0 en s.heap.size mm stu cla pic act nts isn boa mas pai sol bal leg ap scr g kP N x y (fun a9 h9 => ⟨(hNb a9 h9).1, Nat.lt_of_lt_of_le (hNb a9 h9).2 hS.1⟩) (fun a9 h9 z9 => by have g1 := hNw a9 h9; have g2 := hNr a9 h9; simp only [List.map_cons, List.map_nil, List.mem_cons, List.not_mem_nil, or_false, not_or] at g1 g2 z9 <;> omega) (fun a9 h9 z9 => by have g1 := hNw a9 h9; have g2 := hNr a9 h9; simp only [List.map_cons, List.map_nil, List.mem_cons, List.not_mem_nil, or_false, not_or] at g1 g2 z9 <;> omega)) (cwV 2 hts gX18_comesOff_X18_retouched rfl rfl rfl (by decide +kernel) ⟨Nat.le_of_ble_eq_true rfl, Nat.le_of_ble_eq_true rfl⟩) ⟨cP.blind, va_recv hK hP (ci := 24) (q0 := 0) rfl rfl, cP.use (en_z hb0 hS) (hE.on hAb hS) hPc hKc hDc (hF0.on (fun a9 h8 h9 => by rw [← hAe]; exact vA1 h8 (hNw a9 h9)) hS)⟩ rfl rfl hl.1 rfl (lv_room (Nat.le_of_ble_eq_true rfl)) dX18_comesOff_3 ⟨Nat.le_of_ble_eq_true rfl, Nat.le_of_ble_eq_true rfl⟩) hS (fun q _ h => hFc q h) hFc (fun r_2 u_1 t H1 locs ht hvm hw hB hz1 hk1 hS => ?_)
  obtain ⟨hP1, hK1, hD1, hF1⟩ := hB
  rw [ht] at hP1
  try rw [ht] at hF1
  have hK1 := va_K.moved hvm.symm hK1
  try dsimp only at hw
  obtain ⟨hP, hD⟩ := va_join (wr := []) (w1 := [(mm, .inr (24, .int u_1.1 :: u_1.2))]) hP hD [0] [] rfl rfl (by decide) (by decide) hk1 hFc hP1 hD1
  generalize H1 = H at hP hS ⊢
  have hP : va_P (dC, dI) vwCl [(mm, .inr (24, .int u_1.1 :: u_1.2))] H := hP
  have hD : va_D A [(mm, .inr (24, .int u_1.1 :: u_1.2))] := hD
  have hR := en_R hR0 hN0 hS
  refine W.widen (k := 0) (n := 0) (Nat.le_of_ble_eq_true rfl) (Nat.le_of_ble_eq_true rfl) ?_
  obtain ⟨hw, h_3⟩ := hw
  subst r_2
  refine lv_astore_nN (lv' := [(3, .null), (0, .ref mm), (1, .int x), (2, .int y)]) hx hb dX18_comesOff_6 rfl hl (by decide) rfl (fun ls hl => ?_)
  refine lv_aload_nN hx hb dX18_comesOff_7 rfl (lv_at hl 0 rfl) ?_
  refine lv_ifnonnullN hx hb dX18_comesOff_8 ?_
  refine lv_iconst (v := 0) hx hb dX18_comesOff_11 (by decide) ?_
  refine W.widen (k := 0) (n := 0) (Nat.le_of_ble_eq_true rfl) (Nat.le_of_ble_eq_true rfl) ?_
  exact W.iret (v := 0) hx hb hr (fun t ht hW => ⟨⟨0, ⟨u_1.1, u_1.2⟩, rfl, (z_c_X18_isTold_113 x y u_1 h_3), cB.mk ht hW (hP.sub [0] rfl) (hK.sub [] rfl) (hD.sub [0] (by decide) rfl) (trivial)⟩, hS.F ht⟩) hS.2.2 dX18_comesOff_12

set_option maxHeartbeats 4000000 in
set_option maxRecDepth 100000 in
/-- covered: none -/
theorem c_X18_covered (l : Launch) (dC : Nat → ClassId) (dI : Nat → Nat → Nat) (b0 : Nat) (en : EnT) (sz : Nat) (mm stu cla pic act nts isn boa mas pai sol bal leg : Nat) (ap scr : Nat) (g : Nat → Option Nat) (kP : ClassId) (N : Nat → Prop) (hNb : ∀ a, N a → b0 ≤ a ∧ a < sz) (hNw : ∀ a, N a → a ∉ List.map Prod.fst ([] : va_W)) (hNr : ∀ a, N a → a ∉ List.map Prod.fst ([(mm, .inr (24, [.int 0, .ref stu, .ref cla, .ref pic, .ref act, .int 5, .int 50, .ref nts, .ref isn, .int 1600, .ref boa, .ref mas, .ref pai, .ref sol, .int 0, .ref bal, .ref leg])), (pic, .inr (20, [.ref ap, .ref scr, .int 1600, .int 0, .int 0, .ref mm])), (ap, .inl (kP, 48, .inr (.inr (.inr (.inr g)))))] : va_W)) : Met l yX18_covered wsX18_covered ({ frames := 1, cells := 0, slots := 0, locals := 20 } : Room) (cP b0 en (dC, dI) [(kP, .object "UnderpaintModel$Place")] [] [(mm, .inr (24, [.int 0, .ref stu, .ref cla, .ref pic, .ref act, .int 5, .int 50, .ref nts, .ref isn, .int 1600, .ref boa, .ref mas, .ref pai, .ref sol, .int 0, .ref bal, .ref leg])), (pic, .inr (20, [.ref ap, .ref scr, .int 1600, .int 0, .int 0, .ref mm])), (ap, .inl (kP, 48, .inr (.inr (.inr (.inr g)))))] sz (FamP (dC, dI) N en.2.2.1 g) [.ref mm]) (va_Qi (fun (r : Int32) (_ : Unit) => r = 0) (fun _ _ => True) (va_A [] sz)) 0 0 (va_A [] sz) := by
  refine Met.ofW (cc := cX18_covered) (maxL := 6) (ret := (some .int)) (by decide) rfl ?_
  intro p e s m args below meth c s₁ B hml hv
  obtain ⟨rfl, hsz, hb0, hE, hPP, hK, hDD, hF0⟩ := hv
  have hx := B.exec
  have hb := B.bytes
  have hr := B.returns
  have hts := atoms_spec (ws := wsX18_covered) B.pre
  have hown : s.vm.findClass RX18 = some m.cls := findClass_of_methodNamed B.named
  have hlocks := B.notSynchronized
  subst hsz
  have hN0 := en_N hPP hDD rfl
  have hP : va_P (dC, dI) vwCl [] s.heap := hPP.sub [] rfl
  have hR0 : va_P (dC, dI) vwCl [(mm, .inr (24, [.int 0, .ref stu, .ref cla, .ref pic, .ref act, .int 5, .int 50, .ref nts, .ref isn, .int 1600, .ref boa, .ref mas, .ref pai, .ref sol, .int 0, .ref bal, .ref leg])), (pic, .inr (20, [.ref ap, .ref scr, .int 1600, .int 0, .int 0, .ref mm])), (ap, .inl (kP, 48, .inr (.inr (.inr (.inr g)))))] s.heap := hPP.sub [0, 1, 2] rfl
  have hD0 : va_D (fun q => b0 ≤ q) [] := hDD.sub [] (by decide) rfl
  have hDr : va_D (fun q => b0 ≤ q) [(mm, .inr (24, [.int 0, .ref stu, .ref cla, .ref pic, .ref act, .int 5, .int 50, .ref nts, .ref isn, .int 1600, .ref boa, .ref mas, .ref pai, .ref sol, .int 0, .ref bal, .ref leg])), (pic, .inr (20, [.ref ap, .ref scr, .int 1600, .int 0, .int 0, .ref mm])), (ap, .inl (kP, 48, .inr (.inr (.inr (.inr g)))))] := hDD.sub [0, 1, 2] (by decide) rfl
  have hAb := en_A (sz := s.heap.size) hD0 hb0
  have hD := hD0.self (sz := s.heap.size)
  generalize hAe : va_A [] s.heap.size = A at hD hAb hN0 ⊢
  have hA : ∀ q : Nat, s.heap.size ≤ q → A q := fun q h => by rw [← hAe]; exact Or.inr h
  have hS : va_S A s.heap s.heap [] := va_S.rf
  have hR := hR0
  have hl := lv_entry [.ref mm] (n := 6) (Nat.le_of_ble_eq_true rfl)
  rw [lg_entry_eq]
  generalize (lg_sl [.ref mm] ++ List.replicate (6 - (lg_sl [.ref mm]).length) Slot.unset).toArray = ls at hl ⊢
  have hl : lv_has ls 6 [(0, .ref mm)] := hl
  refine W.gen (fun Q hQ => ?_)
  have hR0b := hR0
  have hDrb := hDr
  have hN0b := hN0
  refine lv_iconst (v := 0) hx hb dX18_covered_0 (by decide) ?_
  refine lv_istore_n (lv' := [(1, .int 0), (0, .ref mm)]) hx hb dX18_covered_1 rfl hl (by decide) rfl (fun ls hl => ?_)
  refine lv_aload_n hx hb dX18_covered_2 rfl (lv_at hl 1 rfl) ?_
  refine va_get (D := (dC, dI)) (ci := 24) (v := .ref pic) (C := RX18) (T := TX18) (N := 17) hx hb hts (by decide +kernel) hown hK hR 0 rfl rfl 3 (by decide) (hts (.fieldLink RX18 25 "UnderpaintModel" "picture" "LUnderpaintModel$Picture;") (by decide +kernel)) (fun _ h9 => h9) rfl dX18_covered_3 ?_
  refine va_getN (D := (dC, dI)) (ci := 20) (v := .ref ap) (C := RX14) (T := TX14) (N := 6) hx hb hts (by decide +kernel) hown hK hR 1 rfl rfl 0 (by decide) (va_Nw.use rfl (hE.nf ("UnderpaintModel", 137, "UnderpaintModel$Picture", "at", "[LUnderpaintModel$Place;", "UnderpaintModel") (by decide +kernel))) (fun _ h9 => h9) rfl dX18_covered_6 ?_
  refine lv_astore_n (lv' := [(2, .ref ap), (1, .int 0), (0, .ref mm)]) hx hb dX18_covered_9 rfl hl (by decide) rfl (fun ls hl => ?_)
  refine lv_aload_n hx hb dX18_covered_10 rfl (lv_at hl 0 rfl) ?_
  refine va_alen hx hb hK hR 2 0 rfl rfl (v := 48) rfl dX18_covered_11 ?_
  refine lv_istore_n (lv' := [(3, .int 48), (2, .ref ap), (1, .int 0), (0, .ref mm)]) hx hb dX18_covered_12 rfl hl (by decide) rfl (fun ls hl => ?_)
  refine lv_iconst (v := 0) hx hb dX18_covered_13 (by decide) ?_
  refine lv_istore (lv' := [(4, .int 0), (3, .int 48), (2, .ref ap), (1, .int 0), (0, .ref mm)]) hx hb dX18_covered_14 hl (by decide) rfl (fun ls hl => ?_)
  have loop_16 : ∀ (n_2 k_1 : Nat), k_1 + n_2 = 48 → ∀ (H : Heap) (locs : List Loc), va_P (dC, dI) vwCl [] H → va_D A [] → va_S A s.heap H locs → ∀ ls : Array Slot, lv_has ls 6 [(4, .int (nI k_1)), (3, .int 48), (2, .ref ap), (1, .int 0), (0, .ref mm)] → W p l e (headSpec wsX18_covered ({ frames := 1, cells := 0, slots := 0, locals := 20 } : Room)).room s m #[.ref mm] below meth c H locs 0 0 Q (F0 m 16 ls []) := by
    intro n_2
    induction n_2 with
    | zero =>
      intro k_1 hk_3 H locs hP hD hS ls hl
      have ek_1 : k_1 = 48 := by omega
      subst ek_1
      have hl : lv_has ls 6 [(4, .int 48), (3, .int 48), (2, .ref ap), (1, .int 0), (0, .ref mm)] := hl
      have hR := en_R hR0 hN0 hS
      refine lv_iload hx hb dX18_covered_16 (lv_at hl 0 rfl) ?_
      refine lv_iload_n hx hb dX18_covered_18 rfl (lv_at hl 1 rfl) ?_
      refine lv_icmp_ge (tgt := 55) hx hb dX18_covered_19 (by decide) (fun c_5 => ?_) (fun c_5 => absurd c_5 (by decide))
      refine lv_iload_n hx hb dX18_covered_55 rfl (lv_at hl 3 rfl) ?_
      subst hQ
      refine W.widen (k := 0) (n := 0) (Nat.le_of_ble_eq_true rfl) (Nat.le_of_ble_eq_true rfl) ?_
      exact W.iret (v := 0) hx hb hr (fun t ht hW => ⟨⟨0, (), rfl, (z_c_X18_fails_14), trivial⟩, hS.F ht⟩) hS.2.2 dX18_covered_56
    | succ n_2 ih =>
      intro k_1 hk_3 H locs hP hD hS ls hl
      have hk_6 : k_1 < 48 := by omega
      have hb_7 : 0 ≤ nI k_1 ∧ nI k_1 < 48 := ⟨nI_le (Nat.zero_le _) (by omega), nI_lk hk_6 (by decide)⟩
      have hR := en_R hR0 hN0 hS
      refine lv_iload hx hb dX18_covered_16 (lv_at hl 0 rfl) ?_
      refine lv_iload_n hx hb dX18_covered_18 rfl (lv_at hl 1 rfl) ?_
      refine lv_icmp_ge (tgt := 55) hx hb dX18_covered_19 (by decide) (fun c_8 => ?_) (fun c_8 => ?_)
      · skip
        first | exact absurd c_8 (nI_ge hk_6 (by decide)) | exact absurd (nI_lk hk_6 (by decide)) c_8
      · skip
        refine lv_aload_n hx hb dX18_covered_22 rfl (lv_at hl 2 rfl) ?_
        refine lv_iload hx hb dX18_covered_23 (lv_at hl 0 rfl) ?_
        refine va_aldq hx hb hK hR 2 0 rfl rfl (vp_in_nI hk_6 (by decide)) dX18_covered_25 ?_
        obtain ⟨ap_9, lp_9, hgp_9, hup_9, hvp_9, hnp_9, hmp_9, hdp_9⟩ := hF0 k_1 hk_6
        refine lv_topv (w := .ref ap_9) (by rw [nI_clamp (by omega), hgp_9]; rfl) ?_
        have hxp_9 : ¬ A ap_9 := by rw [← hAe]; exact vA0 hup_9.lt
        have hyp_9 : ¬ A lp_9 := by rw [← hAe]; exact vA0 hvp_9.lt
        refine lv_astore (lv' := [(5, .ref ap_9), (4, .int (nI k_1)), (3, .int 48), (2, .ref ap), (1, .int 0), (0, .ref mm)]) hx hb dX18_covered_26 hl (by decide) rfl (fun ls hl => ?_)
        refine lv_iload_n hx hb dX18_covered_28 rfl (lv_at hl 4 rfl) ?_
        refine lv_aload hx hb dX18_covered_29 (lv_at hl 0 rfl) ?_
        have hfa := va1 (hup_9.kept (hS.2.1 _ hup_9.lt hxp_9))
        refine va_getN (D := (dC, dI)) (ci := 21) (v := .ref lp_9) (C := RX15) (T := TX15) (N := 3) hx hb hts (by decide +kernel) hown hK hfa 0 rfl rfl 1 (by decide) (va_Nw.use rfl (hE.nf ("UnderpaintModel", 141, "UnderpaintModel$Place", "layers", "Ljava/util/List;", "UnderpaintModel") (by decide +kernel))) (fun _ h9 => h9) rfl dX18_covered_31 ?_
        have hR0 : va_P (dC, dI) vwCl [(mm, .inr (24, [.int 0, .ref stu, .ref cla, .ref pic, .ref act, .int 5, .int 50, .ref nts, .ref isn, .int 1600, .ref boa, .ref mas, .ref pai, .ref sol, .int 0, .ref bal, .ref leg])), (pic, .inr (20, [.ref ap, .ref scr, .int 1600, .int 0, .int 0, .ref mm])), (ap, .inl (kP, 48, .inr (.inr (.inr (.inr g))))), (lp_9, .inr (5, [.int 0, .ref en.2.2.1, .int 0]))] s.heap := (hR0b.app (va1 hvp_9))
        have hDr : va_D (fun q => b0 ≤ q) [(mm, .inr (24, [.int 0, .ref stu, .ref cla, .ref pic, .ref act, .int 5, .int 50, .ref nts, .ref isn, .int 1600, .ref boa, .ref mas, .ref pai, .ref sol, .int 0, .ref bal, .ref leg])), (pic, .inr (20, [.ref ap, .ref scr, .int 1600, .int 0, .int 0, .ref mm])), (ap, .inl (kP, 48, .inr (.inr (.inr (.inr g))))), (lp_9, .inr (5, [.int 0, .ref en.2.2.1, .int 0]))] := (vD_push hDrb (hNb lp_9 hmp_9).1 (nR (hNr lp_9 hmp_9)))
        have hN0 : ∀ (k : Nat) (q : Nat × va_E), [(mm, .inr (24, [.int 0, .ref stu, .ref cla, .ref pic, .ref act, .int 5, .int 50, .ref nts, .ref isn, .int 1600, .ref boa, .ref mas, .ref pai, .ref sol, .int 0, .ref bal, .ref leg])), (pic, .inr (20, [.ref ap, .ref scr, .int 1600, .int 0, .int 0, .ref mm])), (ap, .inl (kP, 48, .inr (.inr (.inr (.inr g))))), (lp_9, .inr (5, [.int 0, .ref en.2.2.1, .int 0]))][k]? = some q → ¬ A q.1 := (vN_push hN0b hyp_9)
        have hR : va_P (dC, dI) vwCl [(mm, .inr (24, [.int 0, .ref stu, .ref cla, .ref pic, .ref act, .int 5, .int 50, .ref nts, .ref isn, .int 1600, .ref boa, .ref mas, .ref pai, .ref sol, .int 0, .ref bal, .ref leg])), (pic, .inr (20, [.ref ap, .ref scr, .int 1600, .int 0, .int 0, .ref mm])), (ap, .inl (kP, 48, .inr (.inr (.inr (.inr g))))), (lp_9, .inr (5, [.int 0, .ref en.2.2.1, .int 0]))] H := en_R hR0 hN0 hS
        have hPc := (hP.app hR).sub (ws' := [] ++ [(lp_9, .inr (5, [.int 0, .ref en.2.2.1, .int 0]))]) [3] rfl
        have hDc := (en_DD hD hDr hN0 hAb).sub (ws' := [] ++ [(lp_9, .inr (5, [.int 0, .ref en.2.2.1, .int 0]))]) [3] (by decide) rfl
        have hKc := hK.sub (tys' := []) [] rfl
        have hFc := va_free (wc := []) hD hS hA [] rfl
        refine va_callFi (va_runF (As := []) (rest := [.int 0]) (hK.1 5 _ rfl).2 ⟨hx, hb, hml, hown, hts⟩ (c_isEmpty0 l dC dI b0 en H.size lp_9 en.2.2.1 0) (va_cwF 0 hts gX18_covered_Jx4a65c_isEmpty_aae02_f107Jx4a65c rfl rfl rfl (hE.face ("java/util/ArrayList", ⟨"java/util/List", "isEmpty", "()Z"⟩, ⟨"java/util/ArrayList", "isEmpty", "()Z"⟩) (by decide +kernel)) (by decide +kernel) ⟨Nat.le_of_ble_eq_true rfl, Nat.le_of_ble_eq_true rfl⟩) ⟨cP.blind, va_recv hK hR (ci := 5) (q0 := 3) rfl rfl, cP.use (en_z hb0 hS) (hE.on hAb hS) hPc hKc hDc trivial⟩ rfl rfl hl.1 rfl (lv_room (Nat.le_of_ble_eq_true rfl)) dX18_covered_34 ⟨Nat.le_of_ble_eq_true rfl, Nat.le_of_ble_eq_true rfl⟩) hS (fun q _ h => hFc q h) hFc (fun r_10 u t H1 locs ht hvm hw hB hz1 hk1 hS => ?_)
        have hP1 : va_P (dC, dI) vwCl [] H1 := fun k q h => by simp at h
        have hD1 : va_D (va_A [] H.size) [] := ⟨fun i j p q h => by simp at h, fun k q h => by simp at h⟩
        try dsimp only at hw
        obtain ⟨hP, hD⟩ := va_join (wr := []) (w1 := []) hP hD [] [] rfl rfl (by decide) (by decide) hk1 hFc hP1 hD1
        generalize H1 = H at hP hS ⊢
        have hP : va_P (dC, dI) vwCl [] H := hP
        have hD : va_D A [] := hD
        have hR := en_R hR0 hN0 hS
        refine W.widen (k := 0) (n := 0) (Nat.le_of_ble_eq_true rfl) (Nat.le_of_ble_eq_true rfl) ?_
        subst r_10
        refine lv_if_eq (tgt := 46) hx hb dX18_covered_39 (by decide) (fun c_11 => absurd c_11 (by decide)) (fun c_11 => ?_)
        refine lv_iconst (v := 0) hx hb dX18_covered_42 (by decide) ?_
        refine lv_goto (tgt := 47) hx hb dX18_covered_43 (by decide) ?_
        refine lv_iadd hx hb dX18_covered_47 ?_
        refine lv_topi (fun x_12 ex_12 => ?_)
        obtain rfl : x_12 = 0 := ex_12.trans (by decide)
        refine lv_istore_n (lv' := [(1, .int 0), (5, .ref ap_9), (4, .int (nI k_1)), (3, .int 48), (2, .ref ap), (0, .ref mm)]) hx hb dX18_covered_48 rfl hl (by decide) rfl (fun ls hl => ?_)
        obtain ⟨x_13, ex_13⟩ : ∃ y : Int32, y = (nI k_1) + 1 := ⟨_, rfl⟩
        refine lv_iinc (v := x_13) (lv' := [(4, .int x_13), (1, .int 0), (5, .ref ap_9), (3, .int 48), (2, .ref ap), (0, .ref mm)]) hx hb dX18_covered_49 hl (k := 2) rfl (by rw [ex_13]; rfl) (by decide) rfl (fun ls hl => ?_)
        have hy : x_13 = nI (k_1 + 1) := by rw [ex_13]; exact nI_1 k_1
        subst hy
        refine lv_goto (tgt := 16) hx hb dX18_covered_52 (by decide) ?_
        exact ih (k_1 + 1) (by omega)  _ _ hP hD hS _ (lv_sub hl [0, 3, 4, 1, 5] rfl)
  exact loop_16 48 0 rfl  _ _ hP hD hS ls (lv_sub hl [0, 1, 2, 3, 4] rfl)

set_option maxHeartbeats 4000000 in
set_option maxRecDepth 100000 in
theorem c_X18_meanTone (l : Launch) (dC : Nat → ClassId) (dI : Nat → Nat → Nat) (b0 : Nat) (en : EnT) (sz : Nat) (mm stu cla pic act nts isn boa mas pai sol bal leg : Nat) (ap scr : Nat) (g : Nat → Option Nat) (kP : ClassId) (N : Nat → Prop) (hNb : ∀ a, N a → b0 ≤ a ∧ a < sz) (hNw : ∀ a, N a → a ∉ List.map Prod.fst ([(mm, .inr (24, [.int 0, .ref stu, .ref cla, .ref pic, .ref act, .int 5, .int 50, .ref nts, .ref isn, .int 1600, .ref boa, .ref mas, .ref pai, .ref sol, .int 0, .ref bal, .ref leg]))] : va_W)) (hNr : ∀ a, N a → a ∉ List.map Prod.fst ([(pic, .inr (20, [.ref ap, .ref scr, .int 1600, .int 0, .int 0, .ref mm])), (ap, .inl (kP, 48, .inr (.inr (.inr (.inr g)))))] : va_W)) : Met l yX18_meanTone wsX18_meanTone ({ frames := 2, cells := 0, slots := 0, locals := 45 } : Room) (cP b0 en (dC, dI) [(kP, .object "UnderpaintModel$Place")] [(mm, .inr (24, [.int 0, .ref stu, .ref cla, .ref pic, .ref act, .int 5, .int 50, .ref nts, .ref isn, .int 1600, .ref boa, .ref mas, .ref pai, .ref sol, .int 0, .ref bal, .ref leg]))] [(pic, .inr (20, [.ref ap, .ref scr, .int 1600, .int 0, .int 0, .ref mm])), (ap, .inl (kP, 48, .inr (.inr (.inr (.inr g)))))] sz (FamP (dC, dI) N en.2.2.1 g) [.ref mm]) (va_Qd (fun (r : UInt64) (u : Int32 × List Value) => u.1 = 1) (fun u t => cB (dC, dI) [] [(mm, .inr (24, .int u.1 :: u.2))] (va_A [(mm, .inr (24, [.int 0, .ref stu, .ref cla, .ref pic, .ref act, .int 5, .int 50, .ref nts, .ref isn, .int 1600, .ref boa, .ref mas, .ref pai, .ref sol, .int 0, .ref bal, .ref leg]))] sz) (fun _ => True) t) (va_A [(mm, .inr (24, [.int 0, .ref stu, .ref cla, .ref pic, .ref act, .int 5, .int 50, .ref nts, .ref isn, .int 1600, .ref boa, .ref mas, .ref pai, .ref sol, .int 0, .ref bal, .ref leg]))] sz)) 0 0 (va_A [(mm, .inr (24, [.int 0, .ref stu, .ref cla, .ref pic, .ref act, .int 5, .int 50, .ref nts, .ref isn, .int 1600, .ref boa, .ref mas, .ref pai, .ref sol, .int 0, .ref bal, .ref leg]))] sz) := by
  refine Met.ofW (cc := cX18_meanTone) (maxL := 6) (ret := (some .double)) (by decide) rfl ?_
  intro p e s m args below meth c s₁ B hml hv
  obtain ⟨rfl, hsz, hb0, hE, hPP, hK, hDD, hF0⟩ := hv
  have hx := B.exec
  have hb := B.bytes
  have hr := B.returns
  have hts := atoms_spec (ws := wsX18_meanTone) B.pre
  have hown : s.vm.findClass RX18 = some m.cls := findClass_of_methodNamed B.named
  have hlocks := B.notSynchronized
  subst hsz
  have hN0 := en_N hPP hDD rfl
  have hP : va_P (dC, dI) vwCl [(mm, .inr (24, [.int 0, .ref stu, .ref cla, .ref pic, .ref act, .int 5, .int 50, .ref nts, .ref isn, .int 1600, .ref boa, .ref mas, .ref pai, .ref sol, .int 0, .ref bal, .ref leg]))] s.heap := hPP.sub [0] rfl
  have hR0 : va_P (dC, dI) vwCl [(pic, .inr (20, [.ref ap, .ref scr, .int 1600, .int 0, .int 0, .ref mm])), (ap, .inl (kP, 48, .inr (.inr (.inr (.inr g)))))] s.heap := hPP.sub [1, 2] rfl
  have hD0 : va_D (fun q => b0 ≤ q) [(mm, .inr (24, [.int 0, .ref stu, .ref cla, .ref pic, .ref act, .int 5, .int 50, .ref nts, .ref isn, .int 1600, .ref boa, .ref mas, .ref pai, .ref sol, .int 0, .ref bal, .ref leg]))] := hDD.sub [0] (by decide) rfl
  have hDr : va_D (fun q => b0 ≤ q) [(pic, .inr (20, [.ref ap, .ref scr, .int 1600, .int 0, .int 0, .ref mm])), (ap, .inl (kP, 48, .inr (.inr (.inr (.inr g)))))] := hDD.sub [1, 2] (by decide) rfl
  have hAb := en_A (sz := s.heap.size) hD0 hb0
  have hD := hD0.self (sz := s.heap.size)
  generalize hAe : va_A [(mm, .inr (24, [.int 0, .ref stu, .ref cla, .ref pic, .ref act, .int 5, .int 50, .ref nts, .ref isn, .int 1600, .ref boa, .ref mas, .ref pai, .ref sol, .int 0, .ref bal, .ref leg]))] s.heap.size = A at hD hAb hN0 ⊢
  have hA : ∀ q : Nat, s.heap.size ≤ q → A q := fun q h => by rw [← hAe]; exact Or.inr h
  have hS : va_S A s.heap s.heap [] := va_S.rf
  have hR := hR0
  have hl := lv_entry [.ref mm] (n := 6) (Nat.le_of_ble_eq_true rfl)
  rw [lg_entry_eq]
  generalize (lg_sl [.ref mm] ++ List.replicate (6 - (lg_sl [.ref mm]).length) Slot.unset).toArray = ls at hl ⊢
  have hl : lv_has ls 6 [(0, .ref mm)] := hl
  refine W.gen (fun Q hQ => ?_)
  have hR0b := hR0
  have hDrb := hDr
  have hN0b := hN0
  refine lv_iconst (v := 0) hx hb dX18_meanTone_0 (by decide) ?_
  refine lv_istore_n (lv' := [(1, .int 0), (0, .ref mm)]) hx hb dX18_meanTone_1 rfl hl (by decide) rfl (fun ls hl => ?_)
  refine lv_aload_n hx hb dX18_meanTone_2 rfl (lv_at hl 1 rfl) ?_
  refine va_get (D := (dC, dI)) (ci := 24) (v := .ref pic) (C := RX18) (T := TX18) (N := 17) hx hb hts (by decide +kernel) hown hK hP 0 rfl rfl 3 (by decide) (hts (.fieldLink RX18 25 "UnderpaintModel" "picture" "LUnderpaintModel$Picture;") (by decide +kernel)) (fun _ h9 => h9) rfl dX18_meanTone_3 ?_
  refine va_getN (D := (dC, dI)) (ci := 20) (v := .ref ap) (C := RX14) (T := TX14) (N := 6) hx hb hts (by decide +kernel) hown hK hR 0 rfl rfl 0 (by decide) (va_Nw.use rfl (hE.nf ("UnderpaintModel", 137, "UnderpaintModel$Picture", "at", "[LUnderpaintModel$Place;", "UnderpaintModel") (by decide +kernel))) (fun _ h9 => h9) rfl dX18_meanTone_6 ?_
  refine lv_astore_n (lv' := [(2, .ref ap), (1, .int 0), (0, .ref mm)]) hx hb dX18_meanTone_9 rfl hl (by decide) rfl (fun ls hl => ?_)
  refine lv_aload_n hx hb dX18_meanTone_10 rfl (lv_at hl 0 rfl) ?_
  refine va_alen hx hb hK hR 1 0 rfl rfl (v := 48) rfl dX18_meanTone_11 ?_
  refine lv_istore_n (lv' := [(3, .int 48), (2, .ref ap), (1, .int 0), (0, .ref mm)]) hx hb dX18_meanTone_12 rfl hl (by decide) rfl (fun ls hl => ?_)
  refine lv_iconst (v := 0) hx hb dX18_meanTone_13 (by decide) ?_
  refine lv_istore (lv' := [(4, .int 0), (3, .int 48), (2, .ref ap), (1, .int 0), (0, .ref mm)]) hx hb dX18_meanTone_14 hl (by decide) rfl (fun ls hl => ?_)
  have loop_16 : ∀ (n_2 k_1 : Nat), k_1 + n_2 = 48 → ∀ (H : Heap) (locs : List Loc), va_P (dC, dI) vwCl [(mm, .inr (24, [.int 0, .ref stu, .ref cla, .ref pic, .ref act, .int 5, .int 50, .ref nts, .ref isn, .int 1600, .ref boa, .ref mas, .ref pai, .ref sol, .int 0, .ref bal, .ref leg]))] H → va_D A [(mm, .inr (24, [.int 0, .ref stu, .ref cla, .ref pic, .ref act, .int 5, .int 50, .ref nts, .ref isn, .int 1600, .ref boa, .ref mas, .ref pai, .ref sol, .int 0, .ref bal, .ref leg]))] → va_S A s.heap H locs → ∀ ls : Array Slot, lv_has ls 6 [(4, .int (nI k_1)), (3, .int 48), (2, .ref ap), (1, .int 0), (0, .ref mm)] → W p l e (headSpec wsX18_meanTone ({ frames := 2, cells := 0, slots := 0, locals := 45 } : Room)).room s m #[.ref mm] below meth c H locs 0 0 Q (F0 m 16 ls []) := by
    intro n_2
    induction n_2 with
    | zero =>
      intro k_1 hk_3 H locs hP hD hS ls hl
      have ek_1 : k_1 = 48 := by omega
      subst ek_1
      have hl : lv_has ls 6 [(4, .int 48), (3, .int 48), (2, .ref ap), (1, .int 0), (0, .ref mm)] := hl
      have hR := en_R hR0 hN0 hS
      refine lv_iload hx hb dX18_meanTone_16 (lv_at hl 0 rfl) ?_
      refine lv_iload_n hx hb dX18_meanTone_18 rfl (lv_at hl 1 rfl) ?_
      refine lv_icmp_ge (tgt := 59) hx hb dX18_meanTone_19 (by decide) (fun c_5 => ?_) (fun c_5 => absurd c_5 (by decide))
      refine lv_aload_n hx hb dX18_meanTone_59 rfl (lv_at hl 4 rfl) ?_
      refine lv_aload_n hx hb dX18_meanTone_60 rfl (lv_at hl 4 rfl) ?_
      have hPc := (hP.app hR).sub (ws' := [] ++ [(mm, .inr (24, [.int 0, .ref stu, .ref cla, .ref pic, .ref act, .int 5, .int 50, .ref nts, .ref isn, .int 1600, .ref boa, .ref mas, .ref pai, .ref sol, .int 0, .ref bal, .ref leg])), (pic, .inr (20, [.ref ap, .ref scr, .int 1600, .int 0, .int 0, .ref mm])), (ap, .inl (kP, 48, .inr (.inr (.inr (.inr g)))))]) [0, 1, 2] rfl
      have hDc := (en_DD hD hDr hN0 hAb).sub (ws' := [] ++ [(mm, .inr (24, [.int 0, .ref stu, .ref cla, .ref pic, .ref act, .int 5, .int 50, .ref nts, .ref isn, .int 1600, .ref boa, .ref mas, .ref pai, .ref sol, .int 0, .ref bal, .ref leg])), (pic, .inr (20, [.ref ap, .ref scr, .int 1600, .int 0, .int 0, .ref mm])), (ap, .inl (kP, 48, .inr (.inr (.inr (.inr g)))))]) [0, 1, 2] (by decide) rfl
      have hKc := hK.sub (tys' := [(kP, .object "UnderpaintModel$Place")]) [0] rfl
      have hFc := va_free (wc := []) hD hS hA [] rfl
      refine va_calli (va_runV (As := []) (rest := [.ref mm]) ⟨hx, hb, hml, hown, hts⟩ (c_X18_covered l dC dI b0 en H.size mm stu cla pic act nts isn boa mas pai sol bal leg ap scr g kP N (fun a9 h9 => ⟨(hNb a9 h9).1, Nat.lt_of_lt_of_le (hNb a9 h9).2 hS.1⟩) (fun a9 h9 z9 => by have g1 := hNw a9 h9; have g2 := hNr a9 h9; simp only [List.map_cons, List.map_nil, List.mem_cons, List.not_mem_nil, or_false, not_or] at g1 g2 z9 <;> omega) (fun a9 h9 z9 => by have g1 := hNw a9 h9; have g2 := hNr a9 h9; simp only [List.map_cons, List.map_nil, List.mem_cons, List.not_mem_nil, or_false, not_or] at g1 g2 z9 <;> omega)) (cwV 0 hts gX18_meanTone_X18_covered rfl rfl rfl (by decide +kernel) ⟨Nat.le_of_ble_eq_true rfl, Nat.le_of_ble_eq_true rfl⟩) ⟨cP.blind, va_recv hK hP (ci := 24) (q0 := 0) rfl rfl, cP.use (en_z hb0 hS) (hE.on hAb hS) hPc hKc hDc (hF0.on (fun a9 h8 h9 => by rw [← hAe]; exact vA1 h8 (hNw a9 h9)) hS)⟩ rfl rfl hl.1 rfl (lv_room (Nat.le_of_ble_eq_true rfl)) dX18_meanTone_61 ⟨Nat.le_of_ble_eq_true rfl, Nat.le_of_ble_eq_true rfl⟩) hS (fun q _ h => hFc q h) hFc (fun r_6 u t H1 locs ht hvm hw hB hz1 hk1 hS => ?_)
      have hP1 : va_P (dC, dI) vwCl [] H1 := fun k q h => by simp at h
      have hD1 : va_D (va_A [] H.size) [] := ⟨fun i j p q h => by simp at h, fun k q h => by simp at h⟩
      try dsimp only at hw
      obtain ⟨hP, hD⟩ := va_join (wr := [(mm, .inr (24, [.int 0, .ref stu, .ref cla, .ref pic, .ref act, .int 5, .int 50, .ref nts, .ref isn, .int 1600, .ref boa, .ref mas, .ref pai, .ref sol, .int 0, .ref bal, .ref leg]))]) (w1 := []) hP hD [] [0] rfl rfl (by decide) (by decide) hk1 hFc hP1 hD1
      generalize H1 = H at hP hS ⊢
      have hP : va_P (dC, dI) vwCl [(mm, .inr (24, [.int 0, .ref stu, .ref cla, .ref pic, .ref act, .int 5, .int 50, .ref nts, .ref isn, .int 1600, .ref boa, .ref mas, .ref pai, .ref sol, .int 0, .ref bal, .ref leg]))] H := hP
      have hD : va_D A [(mm, .inr (24, [.int 0, .ref stu, .ref cla, .ref pic, .ref act, .int 5, .int 50, .ref nts, .ref isn, .int 1600, .ref boa, .ref mas, .ref pai, .ref sol, .int 0, .ref bal, .ref leg]))] := hD
      have hR := en_R hR0 hN0 hS
      refine W.widen (k := 0) (n := 0) (Nat.le_of_ble_eq_true rfl) (Nat.le_of_ble_eq_true rfl) ?_
      subst r_6
      refine lv_if_ne (tgt := 71) hx hb dX18_meanTone_64 (by decide) (fun c_7 => absurd c_7 (by decide)) (fun c_7 => ?_)
      refine lv_iconst (v := 1) hx hb dX18_meanTone_67 (by decide) ?_
      refine lv_goto (tgt := 72) hx hb dX18_meanTone_68 (by decide) ?_
      refine va_put (D := (dC, dI)) (ci := 24) (v := .int 1) (ty := .int) (C := RX18) (T := TX18) (N := 17) hx hb hts (by decide +kernel) tyX18 tyX18_ok nmX18 hown hK hP hD hS 0 rfl rfl 0 (by decide) (hts (.fieldLink RX18 67 "UnderpaintModel" "code" "I") (by decide +kernel)) (fun _ h9 => h9) rfl (by decide +kernel) rfl rfl (Nat.le_of_ble_eq_true rfl) dX18_meanTone_72 (fun H locs hP hD hS => ?_)
      have hP : va_P (dC, dI) vwCl [(mm, .inr (24, [.int 1, .ref stu, .ref cla, .ref pic, .ref act, .int 5, .int 50, .ref nts, .ref isn, .int 1600, .ref boa, .ref mas, .ref pai, .ref sol, .int 0, .ref bal, .ref leg]))] H := hP
      have hD : va_D A [(mm, .inr (24, [.int 1, .ref stu, .ref cla, .ref pic, .ref act, .int 5, .int 50, .ref nts, .ref isn, .int 1600, .ref boa, .ref mas, .ref pai, .ref sol, .int 0, .ref bal, .ref leg]))] := hD
      have hR := en_R hR0 hN0 hS
      refine lv_aload_n hx hb dX18_meanTone_75 rfl (lv_at hl 4 rfl) ?_
      refine va_get (D := (dC, dI)) (ci := 24) (v := .int 1) (C := RX18) (T := TX18) (N := 17) hx hb hts (by decide +kernel) hown hK hP 0 rfl rfl 0 (by decide) (hts (.fieldLink RX18 67 "UnderpaintModel" "code" "I") (by decide +kernel)) (fun _ h9 => h9) rfl dX18_meanTone_76 ?_
      refine lv_if_le (tgt := 86) hx hb dX18_meanTone_79 (by decide) (fun c_8 => absurd c_8 (by decide)) (fun c_8 => ?_)
      refine lv_dconst0 hx hb dX18_meanTone_82 ?_
      refine lv_goto (tgt := 94) hx hb dX18_meanTone_83 (by decide) ?_
      subst hQ
      refine W.widen (k := 0) (n := 0) (Nat.le_of_ble_eq_true rfl) (Nat.le_of_ble_eq_true rfl) ?_
      exact W.dret (v := FP.dconst0) hx hb hr (fun t ht hW => ⟨⟨FP.dconst0, ⟨1, [.ref stu, .ref cla, .ref pic, .ref act, .int 5, .int 50, .ref nts, .ref isn, .int 1600, .ref boa, .ref mas, .ref pai, .ref sol, .int 0, .ref bal, .ref leg]⟩, rfl, (z_c_isEmpty0_22), cB.mk ht hW (hP.sub [0] rfl) (hK.sub [] rfl) (hD.sub [0] (by decide) rfl) (trivial)⟩, hS.F ht⟩) hS.2.2 dX18_meanTone_94
    | succ n_2 ih =>
      intro k_1 hk_3 H locs hP hD hS ls hl
      have hk_9 : k_1 < 48 := by omega
      have hb_10 : 0 ≤ nI k_1 ∧ nI k_1 < 48 := ⟨nI_le (Nat.zero_le _) (by omega), nI_lk hk_9 (by decide)⟩
      have hR := en_R hR0 hN0 hS
      refine lv_iload hx hb dX18_meanTone_16 (lv_at hl 0 rfl) ?_
      refine lv_iload_n hx hb dX18_meanTone_18 rfl (lv_at hl 1 rfl) ?_
      refine lv_icmp_ge (tgt := 59) hx hb dX18_meanTone_19 (by decide) (fun c_11 => ?_) (fun c_11 => ?_)
      · skip
        first | exact absurd c_11 (nI_ge hk_9 (by decide)) | exact absurd (nI_lk hk_9 (by decide)) c_11
      · skip
        refine lv_aload_n hx hb dX18_meanTone_22 rfl (lv_at hl 2 rfl) ?_
        refine lv_iload hx hb dX18_meanTone_23 (lv_at hl 0 rfl) ?_
        refine va_aldq hx hb hK hR 1 0 rfl rfl (vp_in_nI hk_9 (by decide)) dX18_meanTone_25 ?_
        obtain ⟨ap_12, lp_12, hgp_12, hup_12, hvp_12, hnp_12, hmp_12, hdp_12⟩ := hF0 k_1 hk_9
        refine lv_topv (w := .ref ap_12) (by rw [nI_clamp (by omega), hgp_12]; rfl) ?_
        have hxp_12 : ¬ A ap_12 := by rw [← hAe]; exact vA1 (ws := [(mm, .inr (24, [.int 0, .ref stu, .ref cla, .ref pic, .ref act, .int 5, .int 50, .ref nts, .ref isn, .int 1600, .ref boa, .ref mas, .ref pai, .ref sol, .int 0, .ref bal, .ref leg]))]) hup_12.lt (hNw ap_12 hnp_12)
        have hyp_12 : ¬ A lp_12 := by rw [← hAe]; exact vA1 (ws := [(mm, .inr (24, [.int 0, .ref stu, .ref cla, .ref pic, .ref act, .int 5, .int 50, .ref nts, .ref isn, .int 1600, .ref boa, .ref mas, .ref pai, .ref sol, .int 0, .ref bal, .ref leg]))]) hvp_12.lt (hNw lp_12 hmp_12)
        refine lv_astore (lv' := [(5, .ref ap_12), (4, .int (nI k_1)), (3, .int 48), (2, .ref ap), (1, .int 0), (0, .ref mm)]) hx hb dX18_meanTone_26 hl (by decide) rfl (fun ls hl => ?_)
        refine lv_iload_n hx hb dX18_meanTone_28 rfl (lv_at hl 4 rfl) ?_
        refine lv_aload hx hb dX18_meanTone_29 (lv_at hl 0 rfl) ?_
        have hfa := va1 (hup_12.kept (hS.2.1 _ hup_12.lt hxp_12))
        refine va_getN (D := (dC, dI)) (ci := 21) (v := .ref lp_12) (C := RX15) (T := TX15) (N := 3) hx hb hts (by decide +kernel) hown hK hfa 0 rfl rfl 1 (by decide) (va_Nw.use rfl (hE.nf ("UnderpaintModel", 141, "UnderpaintModel$Place", "layers", "Ljava/util/List;", "UnderpaintModel") (by decide +kernel))) (fun _ h9 => h9) rfl dX18_meanTone_31 ?_
        have hR0 : va_P (dC, dI) vwCl [(pic, .inr (20, [.ref ap, .ref scr, .int 1600, .int 0, .int 0, .ref mm])), (ap, .inl (kP, 48, .inr (.inr (.inr (.inr g))))), (lp_12, .inr (5, [.int 0, .ref en.2.2.1, .int 0]))] s.heap := (hR0b.app (va1 hvp_12))
        have hDr : va_D (fun q => b0 ≤ q) [(pic, .inr (20, [.ref ap, .ref scr, .int 1600, .int 0, .int 0, .ref mm])), (ap, .inl (kP, 48, .inr (.inr (.inr (.inr g))))), (lp_12, .inr (5, [.int 0, .ref en.2.2.1, .int 0]))] := (vD_push hDrb (hNb lp_12 hmp_12).1 (nR (hNr lp_12 hmp_12)))
        have hN0 : ∀ (k : Nat) (q : Nat × va_E), [(pic, .inr (20, [.ref ap, .ref scr, .int 1600, .int 0, .int 0, .ref mm])), (ap, .inl (kP, 48, .inr (.inr (.inr (.inr g))))), (lp_12, .inr (5, [.int 0, .ref en.2.2.1, .int 0]))][k]? = some q → ¬ A q.1 := (vN_push hN0b hyp_12)
        have hR : va_P (dC, dI) vwCl [(pic, .inr (20, [.ref ap, .ref scr, .int 1600, .int 0, .int 0, .ref mm])), (ap, .inl (kP, 48, .inr (.inr (.inr (.inr g))))), (lp_12, .inr (5, [.int 0, .ref en.2.2.1, .int 0]))] H := en_R hR0 hN0 hS
        have hPc := (hP.app hR).sub (ws' := [] ++ [(lp_12, .inr (5, [.int 0, .ref en.2.2.1, .int 0]))]) [3] rfl
        have hDc := (en_DD hD hDr hN0 hAb).sub (ws' := [] ++ [(lp_12, .inr (5, [.int 0, .ref en.2.2.1, .int 0]))]) [3] (by decide) rfl
        have hKc := hK.sub (tys' := []) [] rfl
        have hFc := va_free (wc := []) hD hS hA [] rfl
        refine va_callFi (va_runF (As := []) (rest := [.int 0]) (hK.1 5 _ rfl).2 ⟨hx, hb, hml, hown, hts⟩ (c_isEmpty0 l dC dI b0 en H.size lp_12 en.2.2.1 0) (va_cwF 0 hts gX18_meanTone_Jx4a65c_isEmpty_aae02_f107Jx4a65c rfl rfl rfl (hE.face ("java/util/ArrayList", ⟨"java/util/List", "isEmpty", "()Z"⟩, ⟨"java/util/ArrayList", "isEmpty", "()Z"⟩) (by decide +kernel)) (by decide +kernel) ⟨Nat.le_of_ble_eq_true rfl, Nat.le_of_ble_eq_true rfl⟩) ⟨cP.blind, va_recv hK hR (ci := 5) (q0 := 2) rfl rfl, cP.use (en_z hb0 hS) (hE.on hAb hS) hPc hKc hDc trivial⟩ rfl rfl hl.1 rfl (lv_room (Nat.le_of_ble_eq_true rfl)) dX18_meanTone_34 ⟨Nat.le_of_ble_eq_true rfl, Nat.le_of_ble_eq_true rfl⟩) hS (fun q _ h => hFc q h) hFc (fun r_13 u t H1 locs ht hvm hw hB hz1 hk1 hS => ?_)
        have hP1 : va_P (dC, dI) vwCl [] H1 := fun k q h => by simp at h
        have hD1 : va_D (va_A [] H.size) [] := ⟨fun i j p q h => by simp at h, fun k q h => by simp at h⟩
        try dsimp only at hw
        obtain ⟨hP, hD⟩ := va_join (wr := [(mm, .inr (24, [.int 0, .ref stu, .ref cla, .ref pic, .ref act, .int 5, .int 50, .ref nts, .ref isn, .int 1600, .ref boa, .ref mas, .ref pai, .ref sol, .int 0, .ref bal, .ref leg]))]) (w1 := []) hP hD [] [0] rfl rfl (by decide) (by decide) hk1 hFc hP1 hD1
        generalize H1 = H at hP hS ⊢
        have hP : va_P (dC, dI) vwCl [(mm, .inr (24, [.int 0, .ref stu, .ref cla, .ref pic, .ref act, .int 5, .int 50, .ref nts, .ref isn, .int 1600, .ref boa, .ref mas, .ref pai, .ref sol, .int 0, .ref bal, .ref leg]))] H := hP
        have hD : va_D A [(mm, .inr (24, [.int 0, .ref stu, .ref cla, .ref pic, .ref act, .int 5, .int 50, .ref nts, .ref isn, .int 1600, .ref boa, .ref mas, .ref pai, .ref sol, .int 0, .ref bal, .ref leg]))] := hD
        have hR := en_R hR0 hN0 hS
        refine W.widen (k := 0) (n := 0) (Nat.le_of_ble_eq_true rfl) (Nat.le_of_ble_eq_true rfl) ?_
        subst r_13
        refine lv_if_eq (tgt := 46) hx hb dX18_meanTone_39 (by decide) (fun c_14 => absurd c_14 (by decide)) (fun c_14 => ?_)
        refine lv_iconst (v := 0) hx hb dX18_meanTone_42 (by decide) ?_
        refine lv_goto (tgt := 51) hx hb dX18_meanTone_43 (by decide) ?_
        refine lv_iadd hx hb dX18_meanTone_51 ?_
        refine lv_topi (fun x_15 ex_15 => ?_)
        obtain rfl : x_15 = 0 := ex_15.trans (by decide)
        refine lv_istore_n (lv' := [(1, .int 0), (5, .ref ap_12), (4, .int (nI k_1)), (3, .int 48), (2, .ref ap), (0, .ref mm)]) hx hb dX18_meanTone_52 rfl hl (by decide) rfl (fun ls hl => ?_)
        obtain ⟨x_16, ex_16⟩ : ∃ y : Int32, y = (nI k_1) + 1 := ⟨_, rfl⟩
        refine lv_iinc (v := x_16) (lv' := [(4, .int x_16), (1, .int 0), (5, .ref ap_12), (3, .int 48), (2, .ref ap), (0, .ref mm)]) hx hb dX18_meanTone_53 hl (k := 2) rfl (by rw [ex_16]; rfl) (by decide) rfl (fun ls hl => ?_)
        have hy : x_16 = nI (k_1 + 1) := by rw [ex_16]; exact nI_1 k_1
        subst hy
        refine lv_goto (tgt := 16) hx hb dX18_meanTone_56 (by decide) ?_
        exact ih (k_1 + 1) (by omega)  _ _ hP hD hS _ (lv_sub hl [0, 3, 4, 1, 5] rfl)
  exact loop_16 48 0 rfl  _ _ hP hD hS ls (lv_sub hl [0, 1, 2, 3, 4] rfl)
theorem z_c_X18_checksum_114 (hh : Int64) (a_0 : hh = chk 48) : (0 : Int32) = 0 ∧ hh = chk 48 := by first | rfl | exact ⟨rfl, by assumption⟩ | (subst_vars; rfl)
theorem z_c_X18_checksum_115 (hh : Int64) (k_6 : Nat) (y_15 : Int64) (y_16 : Int64) (y_17 : Int64) (a_0 : 0 ≤ nI k_6 ∧ nI k_6 < 48) (a_1 : hh = chk k_6) (a_2 : y_15 = 31 * hh) (a_3 : y_16 = (0 : Int32).toInt64) (a_4 : y_17 = y_15 + y_16) : y_17 = chk (k_6 + 1) := by first | rfl | exact ⟨rfl, by assumption⟩ | (subst_vars; rfl)
theorem z_c_X18_checksum_116   : (7 : Int64) = chk 0 := by first | rfl | exact ⟨rfl, by assumption⟩ | (subst_vars; rfl)
set_option maxHeartbeats 4000000 in
set_option maxRecDepth 100000 in
theorem c_X18_checksum (l : Launch) (dC : Nat → ClassId) (dI : Nat → Nat → Nat) (b0 : Nat) (en : EnT) (sz : Nat) (mm stu cla pic act nts isn boa mas pai sol bal leg : Nat) (ap scr : Nat) (g : Nat → Option Nat) (kP : ClassId) (N : Nat → Prop) (hNb : ∀ a, N a → b0 ≤ a ∧ a < sz) (hNw : ∀ a, N a → a ∉ List.map Prod.fst ([(mm, .inr (24, [.int 0, .ref stu, .ref cla, .ref pic, .ref act, .int 5, .int 50, .ref nts, .ref isn, .int 1600, .ref boa, .ref mas, .ref pai, .ref sol, .int 0, .ref bal, .ref leg]))] : va_W)) (hNr : ∀ a, N a → a ∉ List.map Prod.fst ([(pic, .inr (20, [.ref ap, .ref scr, .int 1600, .int 0, .int 0, .ref mm])), (ap, .inl (kP, 48, .inr (.inr (.inr (.inr g)))))] : va_W)) : Met l yX18_checksum wsX18_checksum ({ frames := 3, cells := 48, slots := 192, locals := 71 } : Room) (cP b0 en (dC, dI) [(kP, .object "UnderpaintModel$Place")] [(mm, .inr (24, [.int 0, .ref stu, .ref cla, .ref pic, .ref act, .int 5, .int 50, .ref nts, .ref isn, .int 1600, .ref boa, .ref mas, .ref pai, .ref sol, .int 0, .ref bal, .ref leg]))] [(pic, .inr (20, [.ref ap, .ref scr, .int 1600, .int 0, .int 0, .ref mm])), (ap, .inl (kP, 48, .inr (.inr (.inr (.inr g)))))] sz (FamP (dC, dI) N en.2.2.1 g) [.ref mm]) (va_Ql (fun (r : Int64) (u : Int32 × List Value) => u.1 = 0 ∧ r = chk 48) (fun u t => cB (dC, dI) [] [(mm, .inr (24, .int u.1 :: u.2))] (va_A [(mm, .inr (24, [.int 0, .ref stu, .ref cla, .ref pic, .ref act, .int 5, .int 50, .ref nts, .ref isn, .int 1600, .ref boa, .ref mas, .ref pai, .ref sol, .int 0, .ref bal, .ref leg]))] sz) (fun _ => True) t) (va_A [(mm, .inr (24, [.int 0, .ref stu, .ref cla, .ref pic, .ref act, .int 5, .int 50, .ref nts, .ref isn, .int 1600, .ref boa, .ref mas, .ref pai, .ref sol, .int 0, .ref bal, .ref leg]))] sz)) 48 192 (va_A [(mm, .inr (24, [.int 0, .ref stu, .ref cla, .ref pic, .ref act, .int 5, .int 50, .ref nts, .ref isn, .int 1600, .ref boa, .ref mas, .ref pai, .ref sol, .int 0, .ref bal, .ref leg]))] sz) := by
  refine Met.ofW (cc := cX18_checksum) (maxL := 9) (ret := (some .long)) (by decide) rfl ?_
  intro p e s m args below meth c s₁ B hml hv
  obtain ⟨rfl, hsz, hb0, hE, hPP, hK, hDD, hF0⟩ := hv
  have hx := B.exec
  have hb := B.bytes
  have hr := B.returns
  have hts := atoms_spec (ws := wsX18_checksum) B.pre
  have hown : s.vm.findClass RX18 = some m.cls := findClass_of_methodNamed B.named
  have hlocks := B.notSynchronized
  subst hsz
  have hN0 := en_N hPP hDD rfl
  have hP : va_P (dC, dI) vwCl [(mm, .inr (24, [.int 0, .ref stu, .ref cla, .ref pic, .ref act, .int 5, .int 50, .ref nts, .ref isn, .int 1600, .ref boa, .ref mas, .ref pai, .ref sol, .int 0, .ref bal, .ref leg]))] s.heap := hPP.sub [0] rfl
  have hR0 : va_P (dC, dI) vwCl [(pic, .inr (20, [.ref ap, .ref scr, .int 1600, .int 0, .int 0, .ref mm])), (ap, .inl (kP, 48, .inr (.inr (.inr (.inr g)))))] s.heap := hPP.sub [1, 2] rfl
  have hD0 : va_D (fun q => b0 ≤ q) [(mm, .inr (24, [.int 0, .ref stu, .ref cla, .ref pic, .ref act, .int 5, .int 50, .ref nts, .ref isn, .int 1600, .ref boa, .ref mas, .ref pai, .ref sol, .int 0, .ref bal, .ref leg]))] := hDD.sub [0] (by decide) rfl
  have hDr : va_D (fun q => b0 ≤ q) [(pic, .inr (20, [.ref ap, .ref scr, .int 1600, .int 0, .int 0, .ref mm])), (ap, .inl (kP, 48, .inr (.inr (.inr (.inr g)))))] := hDD.sub [1, 2] (by decide) rfl
  have hAb := en_A (sz := s.heap.size) hD0 hb0
  have hD := hD0.self (sz := s.heap.size)
  generalize hAe : va_A [(mm, .inr (24, [.int 0, .ref stu, .ref cla, .ref pic, .ref act, .int 5, .int 50, .ref nts, .ref isn, .int 1600, .ref boa, .ref mas, .ref pai, .ref sol, .int 0, .ref bal, .ref leg]))] s.heap.size = A at hD hAb hN0 ⊢
  have hA : ∀ q : Nat, s.heap.size ≤ q → A q := fun q h => by rw [← hAe]; exact Or.inr h
  have hS : va_S A s.heap s.heap [] := va_S.rf
  have hR := hR0
  have hl := lv_entry [.ref mm] (n := 9) (Nat.le_of_ble_eq_true rfl)
  rw [lg_entry_eq]
  generalize (lg_sl [.ref mm] ++ List.replicate (9 - (lg_sl [.ref mm]).length) Slot.unset).toArray = ls at hl ⊢
  have hl : lv_has ls 9 [(0, .ref mm)] := hl
  refine W.gen (fun Q hQ => ?_)
  have hR0b := hR0
  have hDrb := hDr
  have hN0b := hN0
  refine lv_aload_n hx hb dX18_checksum_0 rfl (lv_at hl 0 rfl) ?_
  refine lv_iconst (v := 0) hx hb dX18_checksum_1 (by decide) ?_
  refine va_put (D := (dC, dI)) (ci := 24) (v := .int 0) (ty := .int) (C := RX18) (T := TX18) (N := 17) hx hb hts (by decide +kernel) tyX18 tyX18_ok nmX18 hown hK hP hD hS 0 rfl rfl 0 (by decide) (hts (.fieldLink RX18 67 "UnderpaintModel" "code" "I") (by decide +kernel)) (fun _ h9 => h9) rfl (by decide +kernel) rfl rfl (Nat.le_of_ble_eq_true rfl) dX18_checksum_2 (fun H locs hP hD hS => ?_)
  have hP : va_P (dC, dI) vwCl [(mm, .inr (24, [.int 0, .ref stu, .ref cla, .ref pic, .ref act, .int 5, .int 50, .ref nts, .ref isn, .int 1600, .ref boa, .ref mas, .ref pai, .ref sol, .int 0, .ref bal, .ref leg]))] H := hP
  have hD : va_D A [(mm, .inr (24, [.int 0, .ref stu, .ref cla, .ref pic, .ref act, .int 5, .int 50, .ref nts, .ref isn, .int 1600, .ref boa, .ref mas, .ref pai, .ref sol, .int 0, .ref bal, .ref leg]))] := hD
  have hR := en_R hR0 hN0 hS
  refine lv_ldc2 (v := 7) hx hb hown (hts (.constantLong RX18 329 (7)) (by decide +kernel)) dX18_checksum_5 ?_
  refine lv_lstore_n (lv' := [(1, .long 7), (0, .ref mm)]) hx hb dX18_checksum_8 rfl hl (by decide) rfl (fun ls hl => ?_)
  refine lv_aload_n hx hb dX18_checksum_9 rfl (lv_at hl 1 rfl) ?_
  refine va_get (D := (dC, dI)) (ci := 24) (v := .ref pic) (C := RX18) (T := TX18) (N := 17) hx hb hts (by decide +kernel) hown hK hP 0 rfl rfl 3 (by decide) (hts (.fieldLink RX18 25 "UnderpaintModel" "picture" "LUnderpaintModel$Picture;") (by decide +kernel)) (fun _ h9 => h9) rfl dX18_checksum_10 ?_
  refine va_getN (D := (dC, dI)) (ci := 20) (v := .ref ap) (C := RX14) (T := TX14) (N := 6) hx hb hts (by decide +kernel) hown hK hR 0 rfl rfl 0 (by decide) (va_Nw.use rfl (hE.nf ("UnderpaintModel", 137, "UnderpaintModel$Picture", "at", "[LUnderpaintModel$Place;", "UnderpaintModel") (by decide +kernel))) (fun _ h9 => h9) rfl dX18_checksum_13 ?_
  refine lv_astore_n (lv' := [(3, .ref ap), (1, .long 7), (0, .ref mm)]) hx hb dX18_checksum_16 rfl hl (by decide) rfl (fun ls hl => ?_)
  refine lv_aload_n hx hb dX18_checksum_17 rfl (lv_at hl 0 rfl) ?_
  refine va_alen hx hb hK hR 1 0 rfl rfl (v := 48) rfl dX18_checksum_18 ?_
  refine lv_istore (lv' := [(4, .int 48), (3, .ref ap), (1, .long 7), (0, .ref mm)]) hx hb dX18_checksum_19 hl (by decide) rfl (fun ls hl => ?_)
  refine lv_iconst (v := 0) hx hb dX18_checksum_21 (by decide) ?_
  refine lv_istore (lv' := [(5, .int 0), (4, .int 48), (3, .ref ap), (1, .long 7), (0, .ref mm)]) hx hb dX18_checksum_22 hl (by decide) rfl (fun ls hl => ?_)
  have loop_24 : ∀ (n_2 k_1 : Nat), k_1 + n_2 = 48 → ∀ (H : Heap) (locs : List Loc), va_P (dC, dI) vwCl [(mm, .inr (24, [.int 0, .ref stu, .ref cla, .ref pic, .ref act, .int 5, .int 50, .ref nts, .ref isn, .int 1600, .ref boa, .ref mas, .ref pai, .ref sol, .int 0, .ref bal, .ref leg]))] H → va_D A [(mm, .inr (24, [.int 0, .ref stu, .ref cla, .ref pic, .ref act, .int 5, .int 50, .ref nts, .ref isn, .int 1600, .ref boa, .ref mas, .ref pai, .ref sol, .int 0, .ref bal, .ref leg]))] → va_S A s.heap H locs → ∀ ls : Array Slot, lv_has ls 9 [(5, .int (nI k_1)), (4, .int 48), (3, .ref ap), (1, .long 7), (0, .ref mm)] → W p l e (headSpec wsX18_checksum ({ frames := 3, cells := 48, slots := 192, locals := 71 } : Room)).room s m #[.ref mm] below meth c H locs (0 + 1 * k_1) (0 + 4 * k_1) Q (F0 m 24 ls []) := by
    intro n_2
    induction n_2 with
    | zero =>
      intro k_1 hk_3 H locs hP hD hS ls hl
      have ek_1 : k_1 = 48 := by omega
      subst ek_1
      have hl : lv_has ls 9 [(5, .int 48), (4, .int 48), (3, .ref ap), (1, .long 7), (0, .ref mm)] := hl
      refine W.widen (k := 48) (n := 192) (Nat.le_of_ble_eq_true rfl) (Nat.le_of_ble_eq_true rfl) ?_
      have hR := en_R hR0 hN0 hS
      refine lv_iload hx hb dX18_checksum_24 (lv_at hl 0 rfl) ?_
      refine lv_iload hx hb dX18_checksum_26 (lv_at hl 1 rfl) ?_
      refine lv_icmp_ge (tgt := 126) hx hb dX18_checksum_28 (by decide) (fun c_5 => ?_) (fun c_5 => absurd c_5 (by decide))
      refine lv_aload_n hx hb dX18_checksum_126 rfl (lv_at hl 4 rfl) ?_
      refine va_get (D := (dC, dI)) (ci := 24) (v := .ref pic) (C := RX18) (T := TX18) (N := 17) hx hb hts (by decide +kernel) hown hK hP 0 rfl rfl 3 (by decide) (hts (.fieldLink RX18 25 "UnderpaintModel" "picture" "LUnderpaintModel$Picture;") (by decide +kernel)) (fun _ h9 => h9) rfl dX18_checksum_127 ?_
      refine va_getN (D := (dC, dI)) (ci := 20) (v := .ref ap) (C := RX14) (T := TX14) (N := 6) hx hb hts (by decide +kernel) hown hK hR 0 rfl rfl 0 (by decide) (va_Nw.use rfl (hE.nf ("UnderpaintModel", 137, "UnderpaintModel$Picture", "at", "[LUnderpaintModel$Place;", "UnderpaintModel") (by decide +kernel))) (fun _ h9 => h9) rfl dX18_checksum_130 ?_
      refine lv_astore_n (lv' := [(3, .ref ap), (5, .int 48), (4, .int 48), (1, .long 7), (0, .ref mm)]) hx hb dX18_checksum_133 rfl hl (by decide) rfl (fun ls hl => ?_)
      refine lv_aload_n hx hb dX18_checksum_134 rfl (lv_at hl 0 rfl) ?_
      refine va_alen hx hb hK hR 1 0 rfl rfl (v := 48) rfl dX18_checksum_135 ?_
      refine lv_istore (lv' := [(4, .int 48), (3, .ref ap), (5, .int 48), (1, .long 7), (0, .ref mm)]) hx hb dX18_checksum_136 hl (by decide) rfl (fun ls hl => ?_)
      refine lv_iconst (v := 0) hx hb dX18_checksum_138 (by decide) ?_
      refine lv_istore (lv' := [(5, .int 0), (4, .int 48), (3, .ref ap), (1, .long 7), (0, .ref mm)]) hx hb dX18_checksum_139 hl (by decide) rfl (fun ls hl => ?_)
      have loop_141 : ∀ (n_7 k_6 : Nat), k_6 + n_7 = 48 → ∀ hh : Int64, hh = chk k_6 → ∀ (H : Heap) (locs : List Loc), va_P (dC, dI) vwCl [(mm, .inr (24, [.int 0, .ref stu, .ref cla, .ref pic, .ref act, .int 5, .int 50, .ref nts, .ref isn, .int 1600, .ref boa, .ref mas, .ref pai, .ref sol, .int 0, .ref bal, .ref leg]))] H → va_D A [(mm, .inr (24, [.int 0, .ref stu, .ref cla, .ref pic, .ref act, .int 5, .int 50, .ref nts, .ref isn, .int 1600, .ref boa, .ref mas, .ref pai, .ref sol, .int 0, .ref bal, .ref leg]))] → va_S A s.heap H locs → ∀ ls : Array Slot, lv_has ls 9 [(5, .int (nI k_6)), (4, .int 48), (3, .ref ap), (1, .long hh), (0, .ref mm)] → W p l e (headSpec wsX18_checksum ({ frames := 3, cells := 48, slots := 192, locals := 71 } : Room)).room s m #[.ref mm] below meth c H locs 48 192 Q (F0 m 141 ls []) := by
        intro n_7
        induction n_7 with
        | zero =>
          intro k_6 hk_8 hh h_9 H locs hP hD hS ls hl
          have ek_6 : k_6 = 48 := by omega
          subst ek_6
          have hl : lv_has ls 9 [(5, .int 48), (4, .int 48), (3, .ref ap), (1, .long hh), (0, .ref mm)] := hl
          have hR := en_R hR0 hN0 hS
          refine lv_iload hx hb dX18_checksum_141 (lv_at hl 0 rfl) ?_
          refine lv_iload hx hb dX18_checksum_143 (lv_at hl 1 rfl) ?_
          refine lv_icmp_ge (tgt := 173) hx hb dX18_checksum_145 (by decide) (fun c_10 => ?_) (fun c_10 => absurd c_10 (by decide))
          refine lv_lload_n hx hb dX18_checksum_173 rfl (lv_at hl 3 rfl) ?_
          subst hQ
          refine W.widen (k := 48) (n := 192) (Nat.le_of_ble_eq_true rfl) (Nat.le_of_ble_eq_true rfl) ?_
          exact W.lret (v := hh) hx hb hr (fun t ht hW => ⟨⟨hh, ⟨0, [.ref stu, .ref cla, .ref pic, .ref act, .int 5, .int 50, .ref nts, .ref isn, .int 1600, .ref boa, .ref mas, .ref pai, .ref sol, .int 0, .ref bal, .ref leg]⟩, rfl, (z_c_X18_checksum_114 hh h_9), cB.mk ht hW (hP.sub [0] rfl) (hK.sub [] rfl) (hD.sub [0] (by decide) rfl) (trivial)⟩, hS.F ht⟩) hS.2.2 dX18_checksum_174
        | succ n_7 ih =>
          intro k_6 hk_8 hh h_9 H locs hP hD hS ls hl
          have hk_11 : k_6 < 48 := by omega
          have hb_12 : 0 ≤ nI k_6 ∧ nI k_6 < 48 := ⟨nI_le (Nat.zero_le _) (by omega), nI_lk hk_11 (by decide)⟩
          have hR := en_R hR0 hN0 hS
          refine lv_iload hx hb dX18_checksum_141 (lv_at hl 0 rfl) ?_
          refine lv_iload hx hb dX18_checksum_143 (lv_at hl 1 rfl) ?_
          refine lv_icmp_ge (tgt := 173) hx hb dX18_checksum_145 (by decide) (fun c_13 => ?_) (fun c_13 => ?_)
          · skip
            first | exact absurd c_13 (nI_ge hk_11 (by decide)) | exact absurd (nI_lk hk_11 (by decide)) c_13
          · skip
            refine lv_aload_n hx hb dX18_checksum_148 rfl (lv_at hl 2 rfl) ?_
            refine lv_iload hx hb dX18_checksum_149 (lv_at hl 0 rfl) ?_
            refine va_aldq hx hb hK hR 1 0 rfl rfl (vp_in_nI hk_11 (by decide)) dX18_checksum_151 ?_
            obtain ⟨ap_14, lp_14, hgp_14, hup_14, hvp_14, hnp_14, hmp_14, hdp_14⟩ := hF0 k_6 hk_11
            refine lv_topv (w := .ref ap_14) (by rw [nI_clamp (by omega), hgp_14]; rfl) ?_
            have hxp_14 : ¬ A ap_14 := by rw [← hAe]; exact vA1 (ws := [(mm, .inr (24, [.int 0, .ref stu, .ref cla, .ref pic, .ref act, .int 5, .int 50, .ref nts, .ref isn, .int 1600, .ref boa, .ref mas, .ref pai, .ref sol, .int 0, .ref bal, .ref leg]))]) hup_14.lt (hNw ap_14 hnp_14)
            have hyp_14 : ¬ A lp_14 := by rw [← hAe]; exact vA1 (ws := [(mm, .inr (24, [.int 0, .ref stu, .ref cla, .ref pic, .ref act, .int 5, .int 50, .ref nts, .ref isn, .int 1600, .ref boa, .ref mas, .ref pai, .ref sol, .int 0, .ref bal, .ref leg]))]) hvp_14.lt (hNw lp_14 hmp_14)
            refine lv_astore (lv' := [(6, .ref ap_14), (5, .int (nI k_6)), (4, .int 48), (3, .ref ap), (1, .long hh), (0, .ref mm)]) hx hb dX18_checksum_152 hl (by decide) rfl (fun ls hl => ?_)
            refine lv_ldc2 (v := 31) hx hb hown (hts (.constantLong RX18 331 (31)) (by decide +kernel)) dX18_checksum_154 ?_
            refine lv_lload_n hx hb dX18_checksum_157 rfl (lv_at hl 4 rfl) ?_
            refine lv_lmul hx hb dX18_checksum_158 ?_
            refine lv_topl (fun y_15 ey_15 => ?_)
            refine lv_aload hx hb dX18_checksum_159 (lv_at hl 0 rfl) ?_
            have hfa := va1 (hup_14.kept (hS.2.1 _ hup_14.lt hxp_14))
            refine va_getN (D := (dC, dI)) (ci := 21) (v := .int 0) (C := RX15) (T := TX15) (N := 3) hx hb hts (by decide +kernel) hown hK hfa 0 rfl rfl 2 (by decide) (va_Nw.use rfl (hE.nf ("UnderpaintModel", 173, "UnderpaintModel$Place", "tired", "I", "UnderpaintModel") (by decide +kernel))) (fun _ h9 => h9) rfl dX18_checksum_161 ?_
            refine lv_i2l hx hb dX18_checksum_164 rfl ?_
            refine lv_topl (fun y_16 ey_16 => ?_)
            refine lv_ladd hx hb dX18_checksum_165 ?_
            refine lv_topl (fun y_17 ey_17 => ?_)
            refine lv_lstore_n (lv' := [(1, .long y_17), (6, .ref ap_14), (5, .int (nI k_6)), (4, .int 48), (3, .ref ap), (0, .ref mm)]) hx hb dX18_checksum_166 rfl hl (by decide) rfl (fun ls hl => ?_)
            obtain ⟨x_18, ex_18⟩ : ∃ y : Int32, y = (nI k_6) + 1 := ⟨_, rfl⟩
            refine lv_iinc (v := x_18) (lv' := [(5, .int x_18), (1, .long y_17), (6, .ref ap_14), (4, .int 48), (3, .ref ap), (0, .ref mm)]) hx hb dX18_checksum_167 hl (k := 2) rfl (by rw [ex_18]; rfl) (by decide) rfl (fun ls hl => ?_)
            have hy : x_18 = nI (k_6 + 1) := by rw [ex_18]; exact nI_1 k_6
            subst hy
            refine lv_goto (tgt := 141) hx hb dX18_checksum_170 (by decide) ?_
            exact ih (k_6 + 1) (by omega) y_17 (z_c_X18_checksum_115 hh k_6 y_15 y_16 y_17 hb_12 h_9 ey_15 ey_16 ey_17) _ _ hP hD hS _ (lv_sub hl [0, 3, 4, 1, 5] rfl)
      exact loop_141 48 0 rfl 7 (z_c_X18_checksum_116) _ _ hP hD hS ls (lv_sub hl [0, 1, 2, 3, 4] rfl)
    | succ n_2 ih =>
      intro k_1 hk_3 H locs hP hD hS ls hl
      have hk_19 : k_1 < 48 := by omega
      have hb_20 : 0 ≤ nI k_1 ∧ nI k_1 < 48 := ⟨nI_le (Nat.zero_le _) (by omega), nI_lk hk_19 (by decide)⟩
      have hR := en_R hR0 hN0 hS
      refine lv_iload hx hb dX18_checksum_24 (lv_at hl 0 rfl) ?_
      refine lv_iload hx hb dX18_checksum_26 (lv_at hl 1 rfl) ?_
      refine lv_icmp_ge (tgt := 126) hx hb dX18_checksum_28 (by decide) (fun c_21 => ?_) (fun c_21 => ?_)
      · skip
        first | exact absurd c_21 (nI_ge hk_19 (by decide)) | exact absurd (nI_lk hk_19 (by decide)) c_21
      · skip
        refine lv_aload_n hx hb dX18_checksum_31 rfl (lv_at hl 2 rfl) ?_
        refine lv_iload hx hb dX18_checksum_32 (lv_at hl 0 rfl) ?_
        refine va_aldq hx hb hK hR 1 0 rfl rfl (vp_in_nI hk_19 (by decide)) dX18_checksum_34 ?_
        obtain ⟨ap_22, lp_22, hgp_22, hup_22, hvp_22, hnp_22, hmp_22, hdp_22⟩ := hF0 k_1 hk_19
        refine lv_topv (w := .ref ap_22) (by rw [nI_clamp (by omega), hgp_22]; rfl) ?_
        have hxp_22 : ¬ A ap_22 := by rw [← hAe]; exact vA1 (ws := [(mm, .inr (24, [.int 0, .ref stu, .ref cla, .ref pic, .ref act, .int 5, .int 50, .ref nts, .ref isn, .int 1600, .ref boa, .ref mas, .ref pai, .ref sol, .int 0, .ref bal, .ref leg]))]) hup_22.lt (hNw ap_22 hnp_22)
        have hyp_22 : ¬ A lp_22 := by rw [← hAe]; exact vA1 (ws := [(mm, .inr (24, [.int 0, .ref stu, .ref cla, .ref pic, .ref act, .int 5, .int 50, .ref nts, .ref isn, .int 1600, .ref boa, .ref mas, .ref pai, .ref sol, .int 0, .ref bal, .ref leg]))]) hvp_22.lt (hNw lp_22 hmp_22)
        refine lv_astore (lv' := [(6, .ref ap_22), (5, .int (nI k_1)), (4, .int 48), (3, .ref ap), (1, .long 7), (0, .ref mm)]) hx hb dX18_checksum_35 hl (by decide) rfl (fun ls hl => ?_)
        refine lv_aload hx hb dX18_checksum_37 (lv_at hl 0 rfl) ?_
        have hfa := va1 (hup_22.kept (hS.2.1 _ hup_22.lt hxp_22))
        refine va_getN (D := (dC, dI)) (ci := 21) (v := .ref lp_22) (C := RX15) (T := TX15) (N := 3) hx hb hts (by decide +kernel) hown hK hfa 0 rfl rfl 1 (by decide) (va_Nw.use rfl (hE.nf ("UnderpaintModel", 141, "UnderpaintModel$Place", "layers", "Ljava/util/List;", "UnderpaintModel") (by decide +kernel))) (fun _ h9 => h9) rfl dX18_checksum_39 ?_
        have hR0 : va_P (dC, dI) vwCl [(pic, .inr (20, [.ref ap, .ref scr, .int 1600, .int 0, .int 0, .ref mm])), (ap, .inl (kP, 48, .inr (.inr (.inr (.inr g))))), (lp_22, .inr (5, [.int 0, .ref en.2.2.1, .int 0]))] s.heap := (hR0b.app (va1 hvp_22))
        have hDr : va_D (fun q => b0 ≤ q) [(pic, .inr (20, [.ref ap, .ref scr, .int 1600, .int 0, .int 0, .ref mm])), (ap, .inl (kP, 48, .inr (.inr (.inr (.inr g))))), (lp_22, .inr (5, [.int 0, .ref en.2.2.1, .int 0]))] := (vD_push hDrb (hNb lp_22 hmp_22).1 (nR (hNr lp_22 hmp_22)))
        have hN0 : ∀ (k : Nat) (q : Nat × va_E), [(pic, .inr (20, [.ref ap, .ref scr, .int 1600, .int 0, .int 0, .ref mm])), (ap, .inl (kP, 48, .inr (.inr (.inr (.inr g))))), (lp_22, .inr (5, [.int 0, .ref en.2.2.1, .int 0]))][k]? = some q → ¬ A q.1 := (vN_push hN0b hyp_22)
        have hR : va_P (dC, dI) vwCl [(pic, .inr (20, [.ref ap, .ref scr, .int 1600, .int 0, .int 0, .ref mm])), (ap, .inl (kP, 48, .inr (.inr (.inr (.inr g))))), (lp_22, .inr (5, [.int 0, .ref en.2.2.1, .int 0]))] H := en_R hR0 hN0 hS
        have hPc := (hP.app hR).sub (ws' := [] ++ [(lp_22, .inr (5, [.int 0, .ref en.2.2.1, .int 0]))]) [3] rfl
        have hDc := (en_DD hD hDr hN0 hAb).sub (ws' := [] ++ [(lp_22, .inr (5, [.int 0, .ref en.2.2.1, .int 0]))]) [3] (by decide) rfl
        have hKc := hK.sub (tys' := []) [] rfl
        have hFc := va_free (wc := []) hD hS hA [] rfl
        refine va_callFr (va_runF (As := []) (rest := []) (hK.1 5 _ rfl).2 ⟨hx, hb, hml, hown, hts⟩ (c_iterator l dC dI b0 en H.size lp_22 en.2.2.1 0 0) (va_cwF 0 hts gX18_checksum_Jx4a65c_iterator_32c93_f224Jx4a65c rfl rfl rfl (hE.face ("java/util/ArrayList", ⟨"java/util/List", "iterator", "()Ljava/util/Iterator;"⟩, ⟨"java/util/ArrayList", "iterator", "()Ljava/util/Iterator;"⟩) (by decide +kernel)) (by decide +kernel) ⟨Nat.le_of_ble_eq_true rfl, Nat.le_of_ble_eq_true rfl⟩) ⟨cP.blind, va_recv hK hR (ci := 5) (q0 := 2) rfl rfl, cP.use (en_z hb0 hS) (hE.on hAb hS) hPc hKc hDc trivial⟩ rfl rfl hl.1 rfl (lv_room (Nat.le_of_ble_eq_true rfl)) dX18_checksum_42 ⟨(by show (_ : Nat) ≤ 48; omega), (by show (_ : Nat) ≤ 192; omega)⟩) hS (fun q _ h => hFc q h) hFc (fun u r_23 t H1 locs ht hvm hw hB hz1 hk1 hS => ?_)
        obtain ⟨hP1, hK1, hD1, hF1⟩ := hB
        rw [ht] at hP1
        try rw [ht] at hF1
        have hK1 := va_K.moved hvm.symm hK1
        try dsimp only at hw
        obtain ⟨hP, hD⟩ := va_join (wr := [(mm, .inr (24, [.int 0, .ref stu, .ref cla, .ref pic, .ref act, .int 5, .int 50, .ref nts, .ref isn, .int 1600, .ref boa, .ref mas, .ref pai, .ref sol, .int 0, .ref bal, .ref leg]))]) (w1 := [(r_23, .inr (4, [.int 0, .int (-1), .int 0, .ref lp_22]))]) hP hD [] [0] rfl rfl (by decide) (by decide) hk1 hFc hP1 hD1
        generalize H1 = H at hP hS ⊢
        have hP : va_P (dC, dI) vwCl [(mm, .inr (24, [.int 0, .ref stu, .ref cla, .ref pic, .ref act, .int 5, .int 50, .ref nts, .ref isn, .int 1600, .ref boa, .ref mas, .ref pai, .ref sol, .int 0, .ref bal, .ref leg])), (r_23, .inr (4, [.int 0, .int (-1), .int 0, .ref lp_22]))] H := hP
        have hD : va_D A [(mm, .inr (24, [.int 0, .ref stu, .ref cla, .ref pic, .ref act, .int 5, .int 50, .ref nts, .ref isn, .int 1600, .ref boa, .ref mas, .ref pai, .ref sol, .int 0, .ref bal, .ref leg])), (r_23, .inr (4, [.int 0, .int (-1), .int 0, .ref lp_22]))] := hD
        have hR := en_R hR0 hN0 hS
        refine W.widen (k := (1 + 1 * k_1)) (n := (4 + 4 * k_1)) (by omega) (by omega) ?_
        refine lv_astore (lv' := [(7, .ref r_23), (6, .ref ap_22), (5, .int (nI k_1)), (4, .int 48), (3, .ref ap), (1, .long 7), (0, .ref mm)]) hx hb dX18_checksum_47 hl (by decide) rfl (fun ls hl => ?_)
        refine lv_aload hx hb dX18_checksum_49 (lv_at hl 0 rfl) ?_
        have hPc := (hP.app hR).sub (ws' := [] ++ [(r_23, .inr (4, [.int 0, .int (-1), .int 0, .ref lp_22])), (lp_22, .inr (5, [.int 0, .ref en.2.2.1, .int 0]))]) [1, 4] rfl
        have hDc := (en_DD hD hDr hN0 hAb).sub (ws' := [] ++ [(r_23, .inr (4, [.int 0, .int (-1), .int 0, .ref lp_22])), (lp_22, .inr (5, [.int 0, .ref en.2.2.1, .int 0]))]) [1, 4] (by decide) rfl
        have hKc := hK.sub (tys' := []) [] rfl
        have hFc := va_free (wc := []) hD hS hA [] rfl
        refine va_callFi (va_runF (As := []) (rest := []) (hK.1 4 _ rfl).2 ⟨hx, hb, hml, hown, hts⟩ (c_hasNext l dC dI b0 en H.size r_23 lp_22 en.2.2.1 0 0) (va_cwF 0 hts gX18_checksum_Jx35411_hasNext_aae02_f228Jx35411 rfl rfl rfl (hE.face ("java/util/ArrayList$Itr", ⟨"java/util/Iterator", "hasNext", "()Z"⟩, ⟨"java/util/ArrayList$Itr", "hasNext", "()Z"⟩) (by decide +kernel)) (by decide +kernel) ⟨Nat.le_of_ble_eq_true rfl, Nat.le_of_ble_eq_true rfl⟩) ⟨cP.blind, va_recv hK hP (ci := 4) (q0 := 1) rfl rfl, cP.use (en_z hb0 hS) (hE.on hAb hS) hPc hKc hDc trivial⟩ rfl rfl hl.1 rfl (lv_room (Nat.le_of_ble_eq_true rfl)) dX18_checksum_51 ⟨(by show (_ : Nat) ≤ 48; omega), (by show (_ : Nat) ≤ 192; omega)⟩) hS (fun q _ h => hFc q h) hFc (fun r_24 u t H1 locs ht hvm hw hB hz1 hk1 hS => ?_)
        have hP1 : va_P (dC, dI) vwCl [] H1 := fun k q h => by simp at h
        have hD1 : va_D (va_A [] H.size) [] := ⟨fun i j p q h => by simp at h, fun k q h => by simp at h⟩
        try dsimp only at hw
        obtain ⟨hP, hD⟩ := va_join (wr := [(mm, .inr (24, [.int 0, .ref stu, .ref cla, .ref pic, .ref act, .int 5, .int 50, .ref nts, .ref isn, .int 1600, .ref boa, .ref mas, .ref pai, .ref sol, .int 0, .ref bal, .ref leg])), (r_23, .inr (4, [.int 0, .int (-1), .int 0, .ref lp_22]))]) (w1 := []) hP hD [] [0, 1] rfl rfl (by decide) (by decide) hk1 hFc hP1 hD1
        generalize H1 = H at hP hS ⊢
        have hP : va_P (dC, dI) vwCl [(mm, .inr (24, [.int 0, .ref stu, .ref cla, .ref pic, .ref act, .int 5, .int 50, .ref nts, .ref isn, .int 1600, .ref boa, .ref mas, .ref pai, .ref sol, .int 0, .ref bal, .ref leg])), (r_23, .inr (4, [.int 0, .int (-1), .int 0, .ref lp_22]))] H := hP
        have hD : va_D A [(mm, .inr (24, [.int 0, .ref stu, .ref cla, .ref pic, .ref act, .int 5, .int 50, .ref nts, .ref isn, .int 1600, .ref boa, .ref mas, .ref pai, .ref sol, .int 0, .ref bal, .ref leg])), (r_23, .inr (4, [.int 0, .int (-1), .int 0, .ref lp_22]))] := hD
        have hR := en_R hR0 hN0 hS
        refine W.widen (k := (1 + 1 * k_1)) (n := (4 + 4 * k_1)) (by omega) (by omega) ?_
        subst r_24
        refine lv_if_eq (tgt := 120) hx hb dX18_checksum_56 (by decide) (fun c_25 => ?_) (fun c_25 => absurd c_25 (by decide))
        obtain ⟨x_26, ex_26⟩ : ∃ y : Int32, y = (nI k_1) + 1 := ⟨_, rfl⟩
        refine lv_iinc (v := x_26) (lv' := [(5, .int x_26), (7, .ref r_23), (6, .ref ap_22), (4, .int 48), (3, .ref ap), (1, .long 7), (0, .ref mm)]) hx hb dX18_checksum_120 hl (k := 2) rfl (by rw [ex_26]; rfl) (by decide) rfl (fun ls hl => ?_)
        have hy : x_26 = nI (k_1 + 1) := by rw [ex_26]; exact nI_1 k_1
        subst hy
        refine lv_goto (tgt := 24) hx hb dX18_checksum_123 (by decide) ?_
        refine W.widen (k := 0 + 1 * (k_1 + 1)) (n := 0 + 4 * (k_1 + 1)) (by omega) (by omega) ?_
        exact ih (k_1 + 1) (by omega)  _ _ (hP.sub [0] rfl) (hD.sub [0] (by decide) rfl) hS _ (lv_sub hl [0, 3, 4, 5, 6] rfl)
  exact loop_24 48 0 rfl  _ _ hP hD hS ls (lv_sub hl [0, 1, 2, 3, 4] rfl)
