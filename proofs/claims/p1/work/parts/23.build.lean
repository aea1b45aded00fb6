theorem dJ5_init_d00df_0 : decode cJ5_init_d00df 0 = .ok (.aload_n 0, 1) := by decide +kernel
theorem dJ5_init_d00df_1 : decode cJ5_init_d00df 1 = .ok (.invokespecial 3, 3) := by decide +kernel
theorem dJ5_init_d00df_4 : decode cJ5_init_d00df 4 = .ok (.getstatic 18, 3) := by decide +kernel
theorem dJ5_init_d00df_7 : decode cJ5_init_d00df 7 = .ok (.ifCond .eq 18, 3) := by decide +kernel
theorem dJ5_init_d00df_10 : decode cJ5_init_d00df 10 = .ok (.aload_n 0, 1) := by decide +kernel
theorem dJ5_init_d00df_11 : decode cJ5_init_d00df 11 = .ok (.iload_n 1, 1) := by decide +kernel
theorem dJ5_init_d00df_12 : decode cJ5_init_d00df 12 = .ok (.newarray .byte, 2) := by decide +kernel
theorem dJ5_init_d00df_14 : decode cJ5_init_d00df 14 = .ok (.putfield 15, 3) := by decide +kernel
theorem dJ5_init_d00df_17 : decode cJ5_init_d00df 17 = .ok (.aload_n 0, 1) := by decide +kernel
theorem dJ5_init_d00df_18 : decode cJ5_init_d00df 18 = .ok (.iconst 0, 1) := by decide +kernel
theorem dJ5_init_d00df_19 : decode cJ5_init_d00df 19 = .ok (.putfield 22, 3) := by decide +kernel
theorem dJ5_init_d00df_22 : decode cJ5_init_d00df 22 = .ok (.goto 16, 3) := by decide +kernel
theorem dJ5_init_d00df_38 : decode cJ5_init_d00df 38 = .ok (.return_, 1) := by decide +kernel
theorem dJ4_init_da8c8_0 : decode cJ4_init_da8c8 0 = .ok (.aload_n 0, 1) := by decide +kernel
theorem dJ4_init_da8c8_1 : decode cJ4_init_da8c8 1 = .ok (.bipush 16, 2) := by decide +kernel
set_option maxRecDepth 20000 in
theorem ggJ4_init_da8c8_J5_init_d00df : GoodIn wsJ4_init_da8c8 wsJ5_init_d00df := goodIn_r _ [4, 5, 6, 7, 8, 9, 10, 11, 12, 13, 14, 15, 16, 17, 18, 19, 20, 21, 22, 23] (by decide +kernel) (by decide +kernel)
set_option maxRecDepth 20000 in
theorem gJ4_init_da8c8_J5_init_d00df : GoodIn wsJ4_init_da8c8 (wsJ5_init_d00df) := ggJ4_init_da8c8_J5_init_d00df
theorem dJ4_init_da8c8_3 : decode cJ4_init_da8c8 3 = .ok (.invokespecial 1, 3) := by decide +kernel
theorem dJ4_init_da8c8_6 : decode cJ4_init_da8c8 6 = .ok (.return_, 1) := by decide +kernel
theorem dJ5_ensureCapacityInternal_d00df_0 : decode cJ5_ensureCapacityInternal_d00df 0 = .ok (.aload_n 0, 1) := by decide +kernel
theorem dJ5_ensureCapacityInternal_d00df_1 : decode cJ5_ensureCapacityInternal_d00df 1 = .ok (.getfield 15, 3) := by decide +kernel
theorem dJ5_ensureCapacityInternal_d00df_4 : decode cJ5_ensureCapacityInternal_d00df 4 = .ok (.arraylength, 1) := by decide +kernel
theorem dJ5_ensureCapacityInternal_d00df_5 : decode cJ5_ensureCapacityInternal_d00df 5 = .ok (.aload_n 0, 1) := by decide +kernel
theorem dJ5_ensureCapacityInternal_d00df_6 : decode cJ5_ensureCapacityInternal_d00df 6 = .ok (.getfield 22, 3) := by decide +kernel
theorem dJ5_ensureCapacityInternal_d00df_9 : decode cJ5_ensureCapacityInternal_d00df 9 = .ok (.ishr, 1) := by decide +kernel
theorem dJ5_ensureCapacityInternal_d00df_10 : decode cJ5_ensureCapacityInternal_d00df 10 = .ok (.istore_n 2, 1) := by decide +kernel
theorem dJ5_ensureCapacityInternal_d00df_11 : decode cJ5_ensureCapacityInternal_d00df 11 = .ok (.iload_n 1, 1) := by decide +kernel
theorem dJ5_ensureCapacityInternal_d00df_12 : decode cJ5_ensureCapacityInternal_d00df 12 = .ok (.iload_n 2, 1) := by decide +kernel
theorem dJ5_ensureCapacityInternal_d00df_13 : decode cJ5_ensureCapacityInternal_d00df 13 = .ok (.isub, 1) := by decide +kernel
theorem dJ5_ensureCapacityInternal_d00df_14 : decode cJ5_ensureCapacityInternal_d00df 14 = .ok (.ifCond .le 24, 3) := by decide +kernel
theorem dJ5_ensureCapacityInternal_d00df_38 : decode cJ5_ensureCapacityInternal_d00df 38 = .ok (.return_, 1) := by decide +kernel
theorem dJ5_inflateIfNeededFor_a7421_0 : decode cJ5_inflateIfNeededFor_a7421 0 = .ok (.getstatic 18, 3) := by decide +kernel
theorem dJ5_inflateIfNeededFor_a7421_3 : decode cJ5_inflateIfNeededFor_a7421 3 = .ok (.ifCond .eq 18, 3) := by decide +kernel
theorem dJ5_inflateIfNeededFor_a7421_6 : decode cJ5_inflateIfNeededFor_a7421 6 = .ok (.aload_n 0, 1) := by decide +kernel
theorem dJ5_inflateIfNeededFor_a7421_7 : decode cJ5_inflateIfNeededFor_a7421 7 = .ok (.getfield 22, 3) := by decide +kernel
theorem dJ5_inflateIfNeededFor_a7421_10 : decode cJ5_inflateIfNeededFor_a7421 10 = .ok (.aload_n 1, 1) := by decide +kernel
set_option maxRecDepth 20000 in
theorem ggJ5_inflateIfNeededFor_a7421_J0_coder_7d493 : GoodIn wsJ5_inflateIfNeededFor_a7421 wsJ0_coder_7d493 := goodIn_r _ [7, 8, 9, 63, 64, 65, 66] (by decide +kernel) (by decide +kernel)
set_option maxRecDepth 20000 in
theorem gJ5_inflateIfNeededFor_a7421_J0_coder_7d493 : GoodIn wsJ5_inflateIfNeededFor_a7421 (wsV RJ5 40 RJ0 yJ0_coder_7d493 wsJ0_coder_7d493) := goodIn_app (goodIn_of _ (by decide +kernel)) ggJ5_inflateIfNeededFor_a7421_J0_coder_7d493
theorem dJ5_inflateIfNeededFor_a7421_11 : decode cJ5_inflateIfNeededFor_a7421 11 = .ok (.invokevirtual 40, 3) := by decide +kernel
theorem dJ5_inflateIfNeededFor_a7421_14 : decode cJ5_inflateIfNeededFor_a7421 14 = .ok (.if_icmp .eq 7, 3) := by decide +kernel
theorem dJ5_inflateIfNeededFor_a7421_21 : decode cJ5_inflateIfNeededFor_a7421 21 = .ok (.return_, 1) := by decide +kernel
theorem dJ0_getBytes_840e7_0 : decode cJ0_getBytes_840e7 0 = .ok (.aload_n 0, 1) := by decide +kernel
set_option maxRecDepth 20000 in
theorem ggJ0_getBytes_840e7_J0_coder_7d493 : GoodIn wsJ0_getBytes_840e7 wsJ0_coder_7d493 := goodIn_r _ [10, 11, 12, 41, 42, 43, 44] (by decide +kernel) (by decide +kernel)
set_option maxRecDepth 20000 in
theorem gJ0_getBytes_840e7_J0_coder_7d493 : GoodIn wsJ0_getBytes_840e7 (wsV RJ0 335 RJ0 yJ0_coder_7d493 wsJ0_coder_7d493) := goodIn_app (goodIn_of _ (by decide +kernel)) ggJ0_getBytes_840e7_J0_coder_7d493
theorem dJ0_getBytes_840e7_1 : decode cJ0_getBytes_840e7 1 = .ok (.invokevirtual 335, 3) := by decide +kernel
theorem dJ0_getBytes_840e7_4 : decode cJ0_getBytes_840e7 4 = .ok (.iload_n 3, 1) := by decide +kernel
theorem dJ0_getBytes_840e7_5 : decode cJ0_getBytes_840e7 5 = .ok (.if_icmp .ne 23, 3) := by decide +kernel
theorem dJ0_getBytes_840e7_8 : decode cJ0_getBytes_840e7 8 = .ok (.aload_n 0, 1) := by decide +kernel
theorem dJ0_getBytes_840e7_9 : decode cJ0_getBytes_840e7 9 = .ok (.getfield 9, 3) := by decide +kernel
theorem dJ0_getBytes_840e7_12 : decode cJ0_getBytes_840e7 12 = .ok (.iconst 0, 1) := by decide +kernel
theorem dJ0_getBytes_840e7_13 : decode cJ0_getBytes_840e7 13 = .ok (.aload_n 1, 1) := by decide +kernel
theorem dJ0_getBytes_840e7_14 : decode cJ0_getBytes_840e7 14 = .ok (.iload_n 2, 1) := by decide +kernel
theorem dJ0_getBytes_840e7_15 : decode cJ0_getBytes_840e7 15 = .ok (.iload_n 3, 1) := by decide +kernel
theorem dJ0_getBytes_840e7_16 : decode cJ0_getBytes_840e7 16 = .ok (.ishl, 1) := by decide +kernel
theorem dJ0_getBytes_840e7_17 : decode cJ0_getBytes_840e7 17 = .ok (.aload_n 0, 1) := by decide +kernel
theorem dJ0_getBytes_840e7_18 : decode cJ0_getBytes_840e7 18 = .ok (.getfield 9, 3) := by decide +kernel
theorem dJ0_getBytes_840e7_21 : decode cJ0_getBytes_840e7 21 = .ok (.arraylength, 1) := by decide +kernel
theorem dJ0_getBytes_840e7_22 : decode cJ0_getBytes_840e7 22 = .ok (.invokestatic 212, 3) := by decide +kernel
theorem dJ0_getBytes_840e7_25 : decode cJ0_getBytes_840e7 25 = .ok (.goto 18, 3) := by decide +kernel
theorem dJ0_getBytes_840e7_43 : decode cJ0_getBytes_840e7 43 = .ok (.return_, 1) := by decide +kernel
theorem dJ5_putStringAt_47b60_0 : decode cJ5_putStringAt_47b60 0 = .ok (.aload_n 0, 1) := by decide +kernel
theorem dJ5_putStringAt_47b60_1 : decode cJ5_putStringAt_47b60 1 = .ok (.aload_n 2, 1) := by decide +kernel
set_option maxRecDepth 20000 in
theorem ggJ5_putStringAt_47b60_J5_inflateIfNeededFor_a7421 : GoodIn wsJ5_putStringAt_47b60 wsJ5_inflateIfNeededFor_a7421 := goodIn_r _ [8, 9, 2, 10, 11, 12, 13, 14, 15, 16, 17, 18, 19, 20, 7, 21, 1, 22, 23, 24, 25, 26, 27, 28, 29, 30, 31, 32, 33, 34, 35, 36, 37, 38, 39, 40, 41, 42, 43, 44, 45, 46, 47, 48, 49, 50, 51, 52, 53, 54, 55, 56, 57, 58, 59, 60, 61, 62, 63, 75, 76, 77, 78, 79, 80, 81, 82] (by decide +kernel) (by decide +kernel)
set_option maxRecDepth 20000 in
theorem gJ5_putStringAt_47b60_J5_inflateIfNeededFor_a7421_u397J4 : GoodIn wsJ5_putStringAt_47b60 (va_wsU RJ5 397 RJ4 "java/lang/AbstractStringBuilder" ⟨"java/lang/AbstractStringBuilder", "inflateIfNeededFor", "(Ljava/lang/String;)V"⟩ yJ5_inflateIfNeededFor_a7421 wsJ5_inflateIfNeededFor_a7421) := goodIn_app (goodIn_of _ (by decide +kernel)) ggJ5_putStringAt_47b60_J5_inflateIfNeededFor_a7421
theorem dJ5_putStringAt_47b60_2 : decode cJ5_putStringAt_47b60 2 = .ok (.invokevirtual 397, 3) := by decide +kernel
theorem dJ5_putStringAt_47b60_5 : decode cJ5_putStringAt_47b60 5 = .ok (.aload_n 2, 1) := by decide +kernel
theorem dJ5_putStringAt_47b60_6 : decode cJ5_putStringAt_47b60 6 = .ok (.aload_n 0, 1) := by decide +kernel
theorem dJ5_putStringAt_47b60_7 : decode cJ5_putStringAt_47b60 7 = .ok (.getfield 15, 3) := by decide +kernel
theorem dJ5_putStringAt_47b60_10 : decode cJ5_putStringAt_47b60 10 = .ok (.iload_n 1, 1) := by decide +kernel
theorem dJ5_putStringAt_47b60_11 : decode cJ5_putStringAt_47b60 11 = .ok (.aload_n 0, 1) := by decide +kernel
theorem dJ5_putStringAt_47b60_12 : decode cJ5_putStringAt_47b60 12 = .ok (.getfield 22, 3) := by decide +kernel
set_option maxRecDepth 20000 in
theorem ggJ5_putStringAt_47b60_J0_getBytes_840e7 : GoodIn wsJ5_putStringAt_47b60 wsJ0_getBytes_840e7 := goodIn_r _ [67, 68, 69, 70, 71, 72, 73, 11, 12, 13, 14, 15, 16, 74, 38, 39, 40, 41, 42, 30, 43, 44, 45, 46, 47, 48, 49, 50, 51, 52, 53, 54, 55, 56, 57, 58, 59, 60, 61, 62, 63, 79, 80, 81, 82] (by decide +kernel) (by decide +kernel)
set_option maxRecDepth 20000 in
theorem gJ5_putStringAt_47b60_J0_getBytes_840e7 : GoodIn wsJ5_putStringAt_47b60 (wsV RJ5 399 RJ0 yJ0_getBytes_840e7 wsJ0_getBytes_840e7) := goodIn_app (goodIn_of _ (by decide +kernel)) ggJ5_putStringAt_47b60_J0_getBytes_840e7
theorem dJ5_putStringAt_47b60_15 : decode cJ5_putStringAt_47b60 15 = .ok (.invokevirtual 399, 3) := by decide +kernel
theorem dJ5_putStringAt_47b60_18 : decode cJ5_putStringAt_47b60 18 = .ok (.return_, 1) := by decide +kernel
theorem dJ5_append_cf1ce_0 : decode cJ5_append_cf1ce 0 = .ok (.aload_n 1, 1) := by decide +kernel
theorem dJ5_append_cf1ce_1 : decode cJ5_append_cf1ce 1 = .ok (.ifnonnull 8, 3) := by decide +kernel
theorem dJ5_append_cf1ce_9 : decode cJ5_append_cf1ce 9 = .ok (.aload_n 1, 1) := by decide +kernel
set_option maxRecDepth 20000 in
theorem ggJ5_append_cf1ce_J0_length_8abf5 : GoodIn wsJ5_append_cf1ce wsJ0_length_8abf5 := goodIn_r _ [85, 86, 87, 88, 89, 70, 90, 91, 92, 142, 143, 144, 145] (by decide +kernel) (by decide +kernel)
set_option maxRecDepth 20000 in
theorem gJ5_append_cf1ce_J0_length_8abf5 : GoodIn wsJ5_append_cf1ce (wsV RJ5 32 RJ0 yJ0_length_8abf5 wsJ0_length_8abf5) := goodIn_app (goodIn_of _ (by decide +kernel)) ggJ5_append_cf1ce_J0_length_8abf5
theorem dJ5_append_cf1ce_10 : decode cJ5_append_cf1ce 10 = .ok (.invokevirtual 32, 3) := by decide +kernel
theorem dJ5_append_cf1ce_13 : decode cJ5_append_cf1ce 13 = .ok (.istore_n 2, 1) := by decide +kernel
theorem dJ5_append_cf1ce_14 : decode cJ5_append_cf1ce 14 = .ok (.aload_n 0, 1) := by decide +kernel
theorem dJ5_append_cf1ce_15 : decode cJ5_append_cf1ce 15 = .ok (.aload_n 0, 1) := by decide +kernel
theorem dJ5_append_cf1ce_16 : decode cJ5_append_cf1ce 16 = .ok (.getfield 79, 3) := by decide +kernel
theorem dJ5_append_cf1ce_19 : decode cJ5_append_cf1ce 19 = .ok (.iload_n 2, 1) := by decide +kernel
theorem dJ5_append_cf1ce_20 : decode cJ5_append_cf1ce 20 = .ok (.iadd, 1) := by decide +kernel
set_option maxRecDepth 20000 in
theorem ggJ5_append_cf1ce_J5_ensureCapacityInternal_d00df : GoodIn wsJ5_append_cf1ce wsJ5_ensureCapacityInternal_d00df := goodIn_r _ [13, 8, 14, 15, 16, 17, 18, 6, 19, 20, 21, 22, 23, 24, 25, 26, 27, 28, 29, 30, 31, 32, 33, 34, 35, 36, 37, 38, 39, 40, 41, 42, 43, 44, 45, 46, 47, 48, 49, 50, 138, 139, 140, 141] (by decide +kernel) (by decide +kernel)
set_option maxRecDepth 20000 in
theorem gJ5_append_cf1ce_J5_ensureCapacityInternal_d00df_u100J4 : GoodIn wsJ5_append_cf1ce (va_wsU RJ5 100 RJ4 "java/lang/AbstractStringBuilder" ⟨"java/lang/AbstractStringBuilder", "ensureCapacityInternal", "(I)V"⟩ yJ5_ensureCapacityInternal_d00df wsJ5_ensureCapacityInternal_d00df) := goodIn_app (goodIn_of _ (by decide +kernel)) ggJ5_append_cf1ce_J5_ensureCapacityInternal_d00df
theorem dJ5_append_cf1ce_21 : decode cJ5_append_cf1ce 21 = .ok (.invokevirtual 100, 3) := by decide +kernel
theorem dJ5_append_cf1ce_24 : decode cJ5_append_cf1ce 24 = .ok (.aload_n 0, 1) := by decide +kernel
theorem dJ5_append_cf1ce_25 : decode cJ5_append_cf1ce 25 = .ok (.aload_n 0, 1) := by decide +kernel
theorem dJ5_append_cf1ce_26 : decode cJ5_append_cf1ce 26 = .ok (.getfield 79, 3) := by decide +kernel
theorem dJ5_append_cf1ce_29 : decode cJ5_append_cf1ce 29 = .ok (.aload_n 1, 1) := by decide +kernel
set_option maxRecDepth 20000 in
theorem ggJ5_append_cf1ce_J5_putStringAt_47b60 : GoodIn wsJ5_append_cf1ce wsJ5_putStringAt_47b60 := goodIn_r _ [97, 8, 14, 98, 99, 100, 101, 6, 102, 56, 103, 88, 89, 70, 90, 91, 92, 104, 105, 106, 107, 108, 1, 51, 52, 53, 54, 55, 109, 110, 59, 111, 43, 112, 113, 114, 115, 116, 117, 118, 119, 120, 121, 122, 123, 124, 125, 65, 66, 67, 126, 127, 128, 72, 129, 130, 75, 131, 77, 78, 79, 61, 80, 81, 132, 133, 134, 135, 86, 136, 48, 49, 50, 87, 137, 138, 139, 140, 141, 142, 143, 144, 145] (by decide +kernel) (by decide +kernel)
set_option maxRecDepth 20000 in
theorem gJ5_append_cf1ce_J5_putStringAt_47b60_u208J4 : GoodIn wsJ5_append_cf1ce (va_wsU RJ5 208 RJ4 "java/lang/AbstractStringBuilder" ⟨"java/lang/AbstractStringBuilder", "putStringAt", "(ILjava/lang/String;)V"⟩ yJ5_putStringAt_47b60 wsJ5_putStringAt_47b60) := goodIn_app (goodIn_of _ (by decide +kernel)) ggJ5_append_cf1ce_J5_putStringAt_47b60
theorem dJ5_append_cf1ce_30 : decode cJ5_append_cf1ce 30 = .ok (.invokevirtual 208, 3) := by decide +kernel
theorem dJ5_append_cf1ce_33 : decode cJ5_append_cf1ce 33 = .ok (.aload_n 0, 1) := by decide +kernel
theorem dJ5_append_cf1ce_34 : decode cJ5_append_cf1ce 34 = .ok (.dup, 1) := by decide +kernel
theorem dJ5_append_cf1ce_35 : decode cJ5_append_cf1ce 35 = .ok (.getfield 79, 3) := by decide +kernel
theorem dJ5_append_cf1ce_38 : decode cJ5_append_cf1ce 38 = .ok (.iload_n 2, 1) := by decide +kernel
theorem dJ5_append_cf1ce_39 : decode cJ5_append_cf1ce 39 = .ok (.iadd, 1) := by decide +kernel
theorem dJ5_append_cf1ce_40 : decode cJ5_append_cf1ce 40 = .ok (.putfield 79, 3) := by decide +kernel
theorem dJ5_append_cf1ce_43 : decode cJ5_append_cf1ce 43 = .ok (.aload_n 0, 1) := by decide +kernel
theorem dJ5_append_cf1ce_44 : decode cJ5_append_cf1ce 44 = .ok (.areturn, 1) := by decide +kernel
theorem dJ4_append_15ec4_0 : decode cJ4_append_15ec4 0 = .ok (.aload_n 0, 1) := by decide +kernel
theorem dJ4_append_15ec4_1 : decode cJ4_append_15ec4 1 = .ok (.aload_n 1, 1) := by decide +kernel
set_option maxRecDepth 20000 in
theorem ggJ4_append_15ec4_J5_append_cf1ce : GoodIn wsJ4_append_15ec4 wsJ5_append_cf1ce := goodIn_r _ [6, 7, 8, 9, 10, 11, 5, 12, 13, 14, 15, 16, 17, 18, 19, 20, 21, 22, 23, 24, 25, 26, 27, 28, 29, 30, 31, 32, 33, 34, 35, 36, 37, 38, 39, 40, 41, 42, 43, 44, 45, 46, 47, 48, 49, 50, 51, 52, 53, 54, 55, 56, 57, 58, 59, 60, 61, 62, 63, 64, 65, 66, 67, 68, 69, 70, 71, 72, 73, 74, 75, 76, 77, 78, 79, 80, 81, 82, 83, 84, 85, 86, 87, 88, 89, 90, 91, 92, 93, 94, 95, 96, 97, 98, 99, 100, 101, 102, 103, 104, 105, 106, 107, 108, 109, 110, 111, 112, 113, 114, 115, 116, 117, 118, 119, 120, 121, 122, 123, 124, 125, 126, 127, 128, 129, 130, 131, 132, 133, 134, 135, 136, 137, 138, 139, 140, 141, 142, 143, 144, 145, 146, 147, 148, 149, 150] (by decide +kernel) (by decide +kernel)
set_option maxRecDepth 20000 in
theorem gJ4_append_15ec4_J5_append_cf1ce_s29 : GoodIn wsJ4_append_15ec4 (va_wsSU RJ4 29 yJ5_append_cf1ce wsJ5_append_cf1ce) := goodIn_app (goodIn_of _ (by decide +kernel)) ggJ4_append_15ec4_J5_append_cf1ce
theorem dJ4_append_15ec4_2 : decode cJ4_append_15ec4 2 = .ok (.invokespecial 29, 3) := by decide +kernel
theorem dJ4_append_15ec4_5 : decode cJ4_append_15ec4 5 = .ok (.pop, 1) := by decide +kernel
theorem dJ4_append_15ec4_6 : decode cJ4_append_15ec4 6 = .ok (.aload_n 0, 1) := by decide +kernel
theorem dJ4_append_15ec4_7 : decode cJ4_append_15ec4 7 = .ok (.areturn, 1) := by decide +kernel
theorem dJ5_isLatin1_aae02_0 : decode cJ5_isLatin1_aae02 0 = .ok (.getstatic 18, 3) := by decide +kernel
theorem dJ5_isLatin1_aae02_3 : decode cJ5_isLatin1_aae02 3 = .ok (.ifCond .eq 14, 3) := by decide +kernel
theorem dJ5_isLatin1_aae02_6 : decode cJ5_isLatin1_aae02 6 = .ok (.aload_n 0, 1) := by decide +kernel
theorem dJ5_isLatin1_aae02_7 : decode cJ5_isLatin1_aae02 7 = .ok (.getfield 22, 3) := by decide +kernel
theorem dJ5_isLatin1_aae02_10 : decode cJ5_isLatin1_aae02 10 = .ok (.ifCond .ne 7, 3) := by decide +kernel
theorem dJ5_isLatin1_aae02_13 : decode cJ5_isLatin1_aae02 13 = .ok (.iconst 1, 1) := by decide +kernel
theorem dJ5_isLatin1_aae02_14 : decode cJ5_isLatin1_aae02 14 = .ok (.goto 4, 3) := by decide +kernel
theorem dJ5_isLatin1_aae02_18 : decode cJ5_isLatin1_aae02 18 = .ok (.ireturn, 1) := by decide +kernel
theorem dJ1_canEncode_fc78d_0 : decode cJ1_canEncode_fc78d 0 = .ok (.iload_n 0, 1) := by decide +kernel
theorem dJ1_canEncode_fc78d_1 : decode cJ1_canEncode_fc78d 1 = .ok (.sipush 255, 3) := by decide +kernel
theorem dJ1_canEncode_fc78d_4 : decode cJ1_canEncode_fc78d 4 = .ok (.if_icmp .gt 7, 3) := by decide +kernel
theorem dJ1_canEncode_fc78d_7 : decode cJ1_canEncode_fc78d 7 = .ok (.iconst 1, 1) := by decide +kernel
theorem dJ1_canEncode_fc78d_8 : decode cJ1_canEncode_fc78d 8 = .ok (.goto 4, 3) := by decide +kernel
theorem dJ1_canEncode_fc78d_12 : decode cJ1_canEncode_fc78d 12 = .ok (.ireturn, 1) := by decide +kernel
theorem dJ5_append_3fe6f_0 : decode cJ5_append_3fe6f 0 = .ok (.aload_n 0, 1) := by decide +kernel
theorem dJ5_append_3fe6f_1 : decode cJ5_append_3fe6f 1 = .ok (.aload_n 0, 1) := by decide +kernel
theorem dJ5_append_3fe6f_2 : decode cJ5_append_3fe6f 2 = .ok (.getfield 79, 3) := by decide +kernel
theorem dJ5_append_3fe6f_5 : decode cJ5_append_3fe6f 5 = .ok (.iconst 1, 1) := by decide +kernel
theorem dJ5_append_3fe6f_6 : decode cJ5_append_3fe6f 6 = .ok (.iadd, 1) := by decide +kernel
set_option maxRecDepth 20000 in
theorem ggJ5_append_3fe6f_J5_ensureCapacityInternal_d00df : GoodIn wsJ5_append_3fe6f wsJ5_ensureCapacityInternal_d00df := goodIn_r _ [8, 2, 9, 10, 11, 12, 13, 7, 14, 15, 16, 17, 18, 19, 20, 21, 22, 23, 24, 25, 26, 27, 28, 29, 30, 31, 32, 33, 34, 35, 36, 37, 38, 39, 40, 41, 42, 43, 44, 45, 108, 109, 110, 111] (by decide +kernel) (by decide +kernel)
set_option maxRecDepth 20000 in
theorem gJ5_append_3fe6f_J5_ensureCapacityInternal_d00df_u100J4 : GoodIn wsJ5_append_3fe6f (va_wsU RJ5 100 RJ4 "java/lang/AbstractStringBuilder" ⟨"java/lang/AbstractStringBuilder", "ensureCapacityInternal", "(I)V"⟩ yJ5_ensureCapacityInternal_d00df wsJ5_ensureCapacityInternal_d00df) := goodIn_app (goodIn_of _ (by decide +kernel)) ggJ5_append_3fe6f_J5_ensureCapacityInternal_d00df
theorem dJ5_append_3fe6f_7 : decode cJ5_append_3fe6f 7 = .ok (.invokevirtual 100, 3) := by decide +kernel
theorem dJ5_append_3fe6f_10 : decode cJ5_append_3fe6f 10 = .ok (.aload_n 0, 1) := by decide +kernel
set_option maxRecDepth 20000 in
theorem ggJ5_append_3fe6f_J5_isLatin1_aae02 : GoodIn wsJ5_append_3fe6f wsJ5_isLatin1_aae02 := goodIn_r _ [50, 51, 9, 108, 109, 110, 111] (by decide +kernel) (by decide +kernel)
set_option maxRecDepth 20000 in
theorem gJ5_append_3fe6f_J5_isLatin1_aae02_u83J4 : GoodIn wsJ5_append_3fe6f (va_wsU RJ5 83 RJ4 "java/lang/AbstractStringBuilder" ⟨"java/lang/AbstractStringBuilder", "isLatin1", "()Z"⟩ yJ5_isLatin1_aae02 wsJ5_isLatin1_aae02) := goodIn_app (goodIn_of _ (by decide +kernel)) ggJ5_append_3fe6f_J5_isLatin1_aae02
theorem dJ5_append_3fe6f_11 : decode cJ5_append_3fe6f 11 = .ok (.invokevirtual 83, 3) := by decide +kernel
theorem dJ5_append_3fe6f_14 : decode cJ5_append_3fe6f 14 = .ok (.ifCond .eq 31, 3) := by decide +kernel
theorem dJ5_append_3fe6f_17 : decode cJ5_append_3fe6f 17 = .ok (.iload_n 1, 1) := by decide +kernel
set_option maxRecDepth 20000 in
theorem ggJ5_append_3fe6f_J1_canEncode_fc78d : GoodIn wsJ5_append_3fe6f wsJ1_canEncode_fc78d := goodIn_r _ [55] (by decide +kernel) (by decide +kernel)
set_option maxRecDepth 20000 in
theorem gJ5_append_3fe6f_J1_canEncode_fc78d : GoodIn wsJ5_append_3fe6f (va_wsS RJ5 191 yJ1_canEncode_fc78d wsJ1_canEncode_fc78d) := goodIn_app (goodIn_of _ (by decide +kernel)) ggJ5_append_3fe6f_J1_canEncode_fc78d
theorem dJ5_append_3fe6f_18 : decode cJ5_append_3fe6f 18 = .ok (.invokestatic 191, 3) := by decide +kernel
theorem dJ5_append_3fe6f_21 : decode cJ5_append_3fe6f 21 = .ok (.ifCond .eq 24, 3) := by decide +kernel
theorem dJ5_append_3fe6f_24 : decode cJ5_append_3fe6f 24 = .ok (.aload_n 0, 1) := by decide +kernel
theorem dJ5_append_3fe6f_25 : decode cJ5_append_3fe6f 25 = .ok (.getfield 15, 3) := by decide +kernel
theorem dJ5_append_3fe6f_28 : decode cJ5_append_3fe6f 28 = .ok (.aload_n 0, 1) := by decide +kernel
theorem dJ5_append_3fe6f_29 : decode cJ5_append_3fe6f 29 = .ok (.dup, 1) := by decide +kernel
theorem dJ5_append_3fe6f_30 : decode cJ5_append_3fe6f 30 = .ok (.getfield 79, 3) := by decide +kernel
theorem dJ5_append_3fe6f_33 : decode cJ5_append_3fe6f 33 = .ok (.dup_x1, 1) := by decide +kernel
theorem dJ5_append_3fe6f_34 : decode cJ5_append_3fe6f 34 = .ok (.iconst 1, 1) := by decide +kernel
theorem dJ5_append_3fe6f_35 : decode cJ5_append_3fe6f 35 = .ok (.iadd, 1) := by decide +kernel
theorem dJ5_append_3fe6f_36 : decode cJ5_append_3fe6f 36 = .ok (.putfield 79, 3) := by decide +kernel
theorem dJ5_append_3fe6f_39 : decode cJ5_append_3fe6f 39 = .ok (.iload_n 1, 1) := by decide +kernel
theorem dJ5_append_3fe6f_40 : decode cJ5_append_3fe6f 40 = .ok (.i2b, 1) := by decide +kernel
theorem dJ5_append_3fe6f_41 : decode cJ5_append_3fe6f 41 = .ok (.bastore, 1) := by decide +kernel
theorem dJ5_append_3fe6f_42 : decode cJ5_append_3fe6f 42 = .ok (.goto 33, 3) := by decide +kernel
theorem dJ5_append_3fe6f_75 : decode cJ5_append_3fe6f 75 = .ok (.aload_n 0, 1) := by decide +kernel
theorem dJ5_append_3fe6f_76 : decode cJ5_append_3fe6f 76 = .ok (.areturn, 1) := by decide +kernel
theorem dJ4_append_cf468_0 : decode cJ4_append_cf468 0 = .ok (.aload_n 0, 1) := by decide +kernel
theorem dJ4_append_cf468_1 : decode cJ4_append_cf468 1 = .ok (.iload_n 1, 1) := by decide +kernel
set_option maxRecDepth 20000 in
theorem ggJ4_append_cf468_J5_append_3fe6f : GoodIn wsJ4_append_cf468 wsJ5_append_3fe6f := goodIn_r _ [6, 7, 8, 9, 10, 11, 12, 5, 13, 14, 15, 16, 17, 18, 19, 20, 21, 22, 23, 24, 25, 26, 27, 28, 29, 30, 31, 32, 33, 34, 35, 36, 37, 38, 39, 40, 41, 42, 43, 44, 45, 46, 47, 48, 49, 50, 51, 52, 53, 54, 55, 56, 57, 58, 59, 60, 61, 62, 63, 64, 65, 66, 67, 68, 69, 70, 71, 72, 73, 74, 75, 76, 77, 78, 79, 80, 81, 82, 83, 84, 85, 86, 87, 88, 89, 90, 91, 92, 93, 94, 95, 96, 97, 98, 99, 100, 101, 102, 103, 104, 105, 106, 107, 108, 109, 110, 111, 112, 113, 114, 115, 116] (by decide +kernel) (by decide +kernel)
set_option maxRecDepth 20000 in
theorem gJ4_append_cf468_J5_append_3fe6f_s50 : GoodIn wsJ4_append_cf468 (va_wsSU RJ4 50 yJ5_append_3fe6f wsJ5_append_3fe6f) := goodIn_app (goodIn_of _ (by decide +kernel)) ggJ4_append_cf468_J5_append_3fe6f
theorem dJ4_append_cf468_2 : decode cJ4_append_cf468 2 = .ok (.invokespecial 50, 3) := by decide +kernel
theorem dJ4_append_cf468_5 : decode cJ4_append_cf468 5 = .ok (.pop, 1) := by decide +kernel
theorem dJ4_append_cf468_6 : decode cJ4_append_cf468 6 = .ok (.aload_n 0, 1) := by decide +kernel
theorem dJ4_append_cf468_7 : decode cJ4_append_cf468 7 = .ok (.areturn, 1) := by decide +kernel
theorem dJ5_getValue_6d5f1_0 : decode cJ5_getValue_6d5f1 0 = .ok (.aload_n 0, 1) := by decide +kernel
theorem dJ5_getValue_6d5f1_1 : decode cJ5_getValue_6d5f1 1 = .ok (.getfield 15, 3) := by decide +kernel
theorem dJ5_getValue_6d5f1_4 : decode cJ5_getValue_6d5f1 4 = .ok (.areturn, 1) := by decide +kernel
theorem dJ5_length_8abf5_0 : decode cJ5_length_8abf5 0 = .ok (.aload_n 0, 1) := by decide +kernel
theorem dJ5_length_8abf5_1 : decode cJ5_length_8abf5 1 = .ok (.getfield 79, 3) := by decide +kernel
theorem dJ5_length_8abf5_4 : decode cJ5_length_8abf5 4 = .ok (.ireturn, 1) := by decide +kernel
theorem dJ4_length_8abf5_0 : decode cJ4_length_8abf5 0 = .ok (.aload_n 0, 1) := by decide +kernel
set_option maxRecDepth 20000 in
theorem ggJ4_length_8abf5_J5_length_8abf5 : GoodIn wsJ4_length_8abf5 wsJ5_length_8abf5 := goodIn_r _ [6, 7, 8, 9, 10, 11] (by decide +kernel) (by decide +kernel)
set_option maxRecDepth 20000 in
theorem gJ4_length_8abf5_J5_length_8abf5_s343 : GoodIn wsJ4_length_8abf5 (va_wsSU RJ4 343 yJ5_length_8abf5 wsJ5_length_8abf5) := goodIn_app (goodIn_of _ (by decide +kernel)) ggJ4_length_8abf5_J5_length_8abf5
theorem dJ4_length_8abf5_1 : decode cJ4_length_8abf5 1 = .ok (.invokespecial 343, 3) := by decide +kernel
theorem dJ4_length_8abf5_4 : decode cJ4_length_8abf5 4 = .ok (.ireturn, 1) := by decide +kernel
theorem dJ7_checkLength_df160_0 : decode cJ7_checkLength_df160 0 = .ok (.iload_n 1, 1) := by decide +kernel
theorem dJ7_checkLength_df160_1 : decode cJ7_checkLength_df160 1 = .ok (.iload_n 0, 1) := by decide +kernel
theorem dJ7_checkLength_df160_2 : decode cJ7_checkLength_df160 2 = .ok (.if_icmp .ge 35, 3) := by decide +kernel
theorem dJ7_checkLength_df160_37 : decode cJ7_checkLength_df160 37 = .ok (.return_, 1) := by decide +kernel
theorem dJ7_copyOfRangeByte_39247_0 : decode cJ7_copyOfRangeByte_39247 0 = .ok (.iload_n 1, 1) := by decide +kernel
theorem dJ7_copyOfRangeByte_39247_1 : decode cJ7_copyOfRangeByte_39247 1 = .ok (.iload_n 2, 1) := by decide +kernel
set_option maxRecDepth 20000 in
theorem ggJ7_copyOfRangeByte_39247_J7_checkLength_df160 : GoodIn wsJ7_copyOfRangeByte_39247 wsJ7_checkLength_df160 := goodIn_r _ [13, 14, 15, 16, 17, 18, 19, 20] (by decide +kernel) (by decide +kernel)
set_option maxRecDepth 20000 in
theorem gJ7_copyOfRangeByte_39247_J7_checkLength_df160 : GoodIn wsJ7_copyOfRangeByte_39247 (va_wsS RJ7 343 yJ7_checkLength_df160 wsJ7_checkLength_df160) := goodIn_app (goodIn_of _ (by decide +kernel)) ggJ7_copyOfRangeByte_39247_J7_checkLength_df160
theorem dJ7_copyOfRangeByte_39247_2 : decode cJ7_copyOfRangeByte_39247 2 = .ok (.invokestatic 343, 3) := by decide +kernel
theorem dJ7_copyOfRangeByte_39247_5 : decode cJ7_copyOfRangeByte_39247 5 = .ok (.iload_n 2, 1) := by decide +kernel
theorem dJ7_copyOfRangeByte_39247_6 : decode cJ7_copyOfRangeByte_39247 6 = .ok (.iload_n 1, 1) := by decide +kernel
theorem dJ7_copyOfRangeByte_39247_7 : decode cJ7_copyOfRangeByte_39247 7 = .ok (.isub, 1) := by decide +kernel
theorem dJ7_copyOfRangeByte_39247_8 : decode cJ7_copyOfRangeByte_39247 8 = .ok (.istore_n 3, 1) := by decide +kernel
theorem dJ7_copyOfRangeByte_39247_9 : decode cJ7_copyOfRangeByte_39247 9 = .ok (.iload_n 3, 1) := by decide +kernel
theorem dJ7_copyOfRangeByte_39247_10 : decode cJ7_copyOfRangeByte_39247 10 = .ok (.newarray .byte, 2) := by decide +kernel
theorem dJ7_copyOfRangeByte_39247_12 : decode cJ7_copyOfRangeByte_39247 12 = .ok (.astore 4, 2) := by decide +kernel
theorem dJ7_copyOfRangeByte_39247_14 : decode cJ7_copyOfRangeByte_39247 14 = .ok (.aload_n 0, 1) := by decide +kernel
theorem dJ7_copyOfRangeByte_39247_15 : decode cJ7_copyOfRangeByte_39247 15 = .ok (.iload_n 1, 1) := by decide +kernel
theorem dJ7_copyOfRangeByte_39247_16 : decode cJ7_copyOfRangeByte_39247 16 = .ok (.aload 4, 2) := by decide +kernel
theorem dJ7_copyOfRangeByte_39247_18 : decode cJ7_copyOfRangeByte_39247 18 = .ok (.iconst 0, 1) := by decide +kernel
theorem dJ7_copyOfRangeByte_39247_19 : decode cJ7_copyOfRangeByte_39247 19 = .ok (.aload_n 0, 1) := by decide +kernel
theorem dJ7_copyOfRangeByte_39247_20 : decode cJ7_copyOfRangeByte_39247 20 = .ok (.arraylength, 1) := by decide +kernel
theorem dJ7_copyOfRangeByte_39247_21 : decode cJ7_copyOfRangeByte_39247 21 = .ok (.iload_n 1, 1) := by decide +kernel
theorem dJ7_copyOfRangeByte_39247_22 : decode cJ7_copyOfRangeByte_39247 22 = .ok (.isub, 1) := by decide +kernel
theorem dJ7_copyOfRangeByte_39247_23 : decode cJ7_copyOfRangeByte_39247 23 = .ok (.iload_n 3, 1) := by decide +kernel
theorem dJ7_copyOfRangeByte_39247_24 : decode cJ7_copyOfRangeByte_39247 24 = .ok (.invokestatic 304, 3) := by decide +kernel
theorem dJ7_copyOfRangeByte_39247_27 : decode cJ7_copyOfRangeByte_39247 27 = .ok (.invokestatic 150, 3) := by decide +kernel
theorem dJ7_copyOfRangeByte_39247_30 : decode cJ7_copyOfRangeByte_39247 30 = .ok (.aload 4, 2) := by decide +kernel
theorem dJ7_copyOfRangeByte_39247_32 : decode cJ7_copyOfRangeByte_39247 32 = .ok (.areturn, 1) := by decide +kernel
theorem dJ7_copyOfRange_39247_0 : decode cJ7_copyOfRange_39247 0 = .ok (.iload_n 1, 1) := by decide +kernel
theorem dJ7_copyOfRange_39247_1 : decode cJ7_copyOfRange_39247 1 = .ok (.ifCond .ne 9, 3) := by decide +kernel
theorem dJ7_copyOfRange_39247_4 : decode cJ7_copyOfRange_39247 4 = .ok (.iload_n 2, 1) := by decide +kernel
theorem dJ7_copyOfRange_39247_5 : decode cJ7_copyOfRange_39247 5 = .ok (.aload_n 0, 1) := by decide +kernel
theorem dJ7_copyOfRange_39247_6 : decode cJ7_copyOfRange_39247 6 = .ok (.arraylength, 1) := by decide +kernel
theorem dJ7_copyOfRange_39247_7 : decode cJ7_copyOfRange_39247 7 = .ok (.if_icmp .eq 10, 3) := by decide +kernel
theorem dJ7_copyOfRange_39247_10 : decode cJ7_copyOfRange_39247 10 = .ok (.aload_n 0, 1) := by decide +kernel
theorem dJ7_copyOfRange_39247_11 : decode cJ7_copyOfRange_39247 11 = .ok (.iload_n 1, 1) := by decide +kernel
theorem dJ7_copyOfRange_39247_12 : decode cJ7_copyOfRange_39247 12 = .ok (.iload_n 2, 1) := by decide +kernel
set_option maxRecDepth 20000 in
theorem ggJ7_copyOfRange_39247_J7_copyOfRangeByte_39247 : GoodIn wsJ7_copyOfRange_39247 wsJ7_copyOfRangeByte_39247 := goodIn_r _ [10, 11, 12, 13, 14, 15, 16, 17, 18, 19, 20, 21, 9, 22, 23, 24, 25, 26, 27, 28, 29] (by decide +kernel) (by decide +kernel)
set_option maxRecDepth 20000 in
theorem gJ7_copyOfRange_39247_J7_copyOfRangeByte_39247 : GoodIn wsJ7_copyOfRange_39247 (va_wsS RJ7 339 yJ7_copyOfRangeByte_39247 wsJ7_copyOfRangeByte_39247) := goodIn_app (goodIn_of _ (by decide +kernel)) ggJ7_copyOfRange_39247_J7_copyOfRangeByte_39247
theorem dJ7_copyOfRange_39247_13 : decode cJ7_copyOfRange_39247 13 = .ok (.invokestatic 339, 3) := by decide +kernel
theorem dJ7_copyOfRange_39247_16 : decode cJ7_copyOfRange_39247 16 = .ok (.areturn, 1) := by decide +kernel
theorem dJ0_init_db425_0 : decode cJ0_init_db425 0 = .ok (.aload_n 0, 1) := by decide +kernel
theorem dJ0_init_db425_1 : decode cJ0_init_db425 1 = .ok (.invokespecial 1, 3) := by decide +kernel
theorem dJ0_init_db425_4 : decode cJ0_init_db425 4 = .ok (.aload_n 1, 1) := by decide +kernel
set_option maxRecDepth 20000 in
theorem ggJ0_init_db425_J5_getValue_6d5f1 : GoodIn wsJ0_init_db425 wsJ5_getValue_6d5f1 := goodIn_r _ [13, 14, 101, 102, 103, 104] (by decide +kernel) (by decide +kernel)
set_option maxRecDepth 20000 in
theorem gJ0_init_db425_J5_getValue_6d5f1_u552J4 : GoodIn wsJ0_init_db425 (va_wsU RJ0 552 RJ4 "java/lang/AbstractStringBuilder" ⟨"java/lang/AbstractStringBuilder", "getValue", "()[B"⟩ yJ5_getValue_6d5f1 wsJ5_getValue_6d5f1) := goodIn_app (goodIn_of _ (by decide +kernel)) ggJ0_init_db425_J5_getValue_6d5f1
theorem dJ0_init_db425_5 : decode cJ0_init_db425 5 = .ok (.invokevirtual 552, 3) := by decide +kernel
theorem dJ0_init_db425_8 : decode cJ0_init_db425 8 = .ok (.astore_n 3, 1) := by decide +kernel
theorem dJ0_init_db425_9 : decode cJ0_init_db425 9 = .ok (.aload_n 1, 1) := by decide +kernel
set_option maxRecDepth 20000 in
theorem ggJ0_init_db425_J4_length_8abf5 : GoodIn wsJ0_init_db425 wsJ4_length_8abf5 := goodIn_r _ [21, 22, 16, 23, 24, 12, 25, 26, 101, 102, 103, 104] (by decide +kernel) (by decide +kernel)
set_option maxRecDepth 20000 in
theorem gJ0_init_db425_J4_length_8abf5_u549J4 : GoodIn wsJ0_init_db425 (va_wsO RJ0 549 RJ4 "java/lang/AbstractStringBuilder" ⟨"java/lang/AbstractStringBuilder", "length", "()I"⟩ yJ4_length_8abf5 wsJ4_length_8abf5) := goodIn_app (goodIn_of _ (by decide +kernel)) ggJ0_init_db425_J4_length_8abf5
theorem dJ0_init_db425_10 : decode cJ0_init_db425 10 = .ok (.invokevirtual 549, 3) := by decide +kernel
theorem dJ0_init_db425_13 : decode cJ0_init_db425 13 = .ok (.istore 4, 2) := by decide +kernel
theorem dJ0_init_db425_15 : decode cJ0_init_db425 15 = .ok (.aload_n 1, 1) := by decide +kernel
set_option maxRecDepth 20000 in
theorem ggJ0_init_db425_J5_isLatin1_aae02 : GoodIn wsJ0_init_db425 wsJ5_isLatin1_aae02 := goodIn_r _ [31, 32, 33, 101, 102, 103, 104] (by decide +kernel) (by decide +kernel)
set_option maxRecDepth 20000 in
theorem gJ0_init_db425_J5_isLatin1_aae02_u1047J4 : GoodIn wsJ0_init_db425 (va_wsU RJ0 1047 RJ4 "java/lang/AbstractStringBuilder" ⟨"java/lang/AbstractStringBuilder", "isLatin1", "()Z"⟩ yJ5_isLatin1_aae02 wsJ5_isLatin1_aae02) := goodIn_app (goodIn_of _ (by decide +kernel)) ggJ0_init_db425_J5_isLatin1_aae02
theorem dJ0_init_db425_16 : decode cJ0_init_db425 16 = .ok (.invokevirtual 1047, 3) := by decide +kernel
theorem dJ0_init_db425_19 : decode cJ0_init_db425 19 = .ok (.ifCond .eq 22, 3) := by decide +kernel
theorem dJ0_init_db425_22 : decode cJ0_init_db425 22 = .ok (.aload_n 0, 1) := by decide +kernel
theorem dJ0_init_db425_23 : decode cJ0_init_db425 23 = .ok (.iconst 0, 1) := by decide +kernel
theorem dJ0_init_db425_24 : decode cJ0_init_db425 24 = .ok (.putfield 15, 3) := by decide +kernel
theorem dJ0_init_db425_27 : decode cJ0_init_db425 27 = .ok (.aload_n 0, 1) := by decide +kernel
theorem dJ0_init_db425_28 : decode cJ0_init_db425 28 = .ok (.aload_n 3, 1) := by decide +kernel
theorem dJ0_init_db425_29 : decode cJ0_init_db425 29 = .ok (.iconst 0, 1) := by decide +kernel
theorem dJ0_init_db425_30 : decode cJ0_init_db425 30 = .ok (.iload 4, 2) := by decide +kernel
set_option maxRecDepth 20000 in
theorem ggJ0_init_db425_J7_copyOfRange_39247 : GoodIn wsJ0_init_db425 wsJ7_copyOfRange_39247 := goodIn_r _ [37, 38, 39, 40, 41, 42, 43, 44, 45, 36, 46, 47, 48, 49, 50, 51, 52, 53, 54, 55, 56, 57, 58, 59, 60, 20, 101, 102, 103, 104] (by decide +kernel) (by decide +kernel)
set_option maxRecDepth 20000 in
theorem gJ0_init_db425_J7_copyOfRange_39247 : GoodIn wsJ0_init_db425 (va_wsS RJ0 54 yJ7_copyOfRange_39247 wsJ7_copyOfRange_39247) := goodIn_app (goodIn_of _ (by decide +kernel)) ggJ0_init_db425_J7_copyOfRange_39247
theorem dJ0_init_db425_32 : decode cJ0_init_db425 32 = .ok (.invokestatic 54, 3) := by decide +kernel
theorem dJ0_init_db425_35 : decode cJ0_init_db425 35 = .ok (.putfield 9, 3) := by decide +kernel
theorem dJ0_init_db425_38 : decode cJ0_init_db425 38 = .ok (.goto 59, 3) := by decide +kernel
theorem dJ0_init_db425_97 : decode cJ0_init_db425 97 = .ok (.return_, 1) := by decide +kernel
theorem dJ0_init_81219_0 : decode cJ0_init_81219 0 = .ok (.aload_n 0, 1) := by decide +kernel
theorem dJ0_init_81219_1 : decode cJ0_init_81219 1 = .ok (.aload_n 1, 1) := by decide +kernel
theorem dJ0_init_81219_2 : decode cJ0_init_81219 2 = .ok (.aconst_null, 1) := by decide +kernel
set_option maxRecDepth 20000 in
theorem ggJ0_init_81219_J0_init_db425 : GoodIn wsJ0_init_81219 wsJ0_init_db425 := goodIn_r _ [4, 5, 6, 7, 8, 9, 10, 11, 12, 13, 14, 15, 16, 17, 18, 19, 20, 21, 22, 23, 24, 25, 26, 27, 28, 29, 30, 31, 32, 33, 34, 35, 36, 37, 38, 39, 40, 41, 42, 43, 44, 45, 46, 47, 48, 49, 50, 51, 52, 53, 54, 55, 56, 57, 58, 59, 60, 61, 62, 63, 64, 65, 66, 67, 68, 69, 70, 71, 72, 73, 74, 75, 76, 77, 78, 79, 3, 80, 81, 82, 83, 84, 85, 86, 87, 88, 89, 90, 91, 92, 93, 94, 95, 96, 97, 98, 99, 100, 101, 102, 103, 104, 105, 106, 107] (by decide +kernel) (by decide +kernel)
set_option maxRecDepth 20000 in
theorem gJ0_init_81219_J0_init_db425 : GoodIn wsJ0_init_81219 (wsJ0_init_db425) := ggJ0_init_81219_J0_init_db425
theorem dJ0_init_81219_3 : decode cJ0_init_81219 3 = .ok (.invokespecial 489, 3) := by decide +kernel
theorem dJ0_init_81219_6 : decode cJ0_init_81219 6 = .ok (.return_, 1) := by decide +kernel
theorem dJ4_toString_0e30d_0 : decode cJ4_toString_0e30d 0 = .ok (.new 18, 3) := by decide +kernel
theorem dJ4_toString_0e30d_3 : decode cJ4_toString_0e30d 3 = .ok (.dup, 1) := by decide +kernel
theorem dJ4_toString_0e30d_4 : decode cJ4_toString_0e30d 4 = .ok (.aload_n 0, 1) := by decide +kernel
set_option maxRecDepth 20000 in
theorem ggJ4_toString_0e30d_J0_init_81219 : GoodIn wsJ4_toString_0e30d wsJ0_init_81219 := goodIn_r _ [6, 7, 8, 3, 9, 10, 11, 12, 13, 14, 15, 16, 17, 18, 19, 20, 21, 22, 23, 24, 25, 26, 27, 28, 29, 30, 31, 32, 33, 34, 35, 36, 37, 38, 39, 40, 41, 42, 43, 44, 45, 46, 47, 48, 49, 50, 51, 52, 53, 54, 55, 56, 57, 58, 59, 60, 61, 62, 63, 64, 65, 66, 67, 68, 69, 70, 71, 72, 73, 74, 75, 76, 77, 78, 79, 80, 81, 82, 83, 84, 85, 86, 87, 88, 89, 90, 91, 92, 93, 94, 95, 96, 97, 98, 99, 100, 101, 102, 103, 104, 105, 106, 107, 108, 109, 110, 111, 112] (by decide +kernel) (by decide +kernel)
set_option maxRecDepth 20000 in
theorem gJ4_toString_0e30d_J0_init_81219 : GoodIn wsJ4_toString_0e30d (wsJ0_init_81219) := ggJ4_toString_0e30d_J0_init_81219
theorem dJ4_toString_0e30d_5 : decode cJ4_toString_0e30d 5 = .ok (.invokespecial 137, 3) := by decide +kernel
theorem dJ4_toString_0e30d_8 : decode cJ4_toString_0e30d 8 = .ok (.areturn, 1) := by decide +kernel
theorem dX18_ballot_0 : decode cX18_ballot 0 = .ok (.aload_n 0, 1) := by decide +kernel
theorem dX18_ballot_1 : decode cX18_ballot 1 = .ok (.iconst 0, 1) := by decide +kernel
theorem dX18_ballot_2 : decode cX18_ballot 2 = .ok (.putfield 67, 3) := by decide +kernel
theorem dX18_ballot_5 : decode cX18_ballot 5 = .ok (.ldc_w 301, 3) := by decide +kernel
theorem dX18_ballot_8 : decode cX18_ballot 8 = .ok (.iload_n 1, 1) := by decide +kernel
set_option maxRecDepth 20000 in
theorem ggX18_ballot_J0_indexOf_0f7a4 : GoodIn wsX18_ballot wsJ0_indexOf_0f7a4 := goodIn_r _ [10, 11, 12, 13, 9, 14, 15, 16, 17, 18, 19, 20, 21, 22, 23, 24, 25, 26, 27, 28, 29, 30, 31, 32, 33, 34, 35, 36, 37, 38, 39, 40, 41, 42, 43, 44, 45, 46, 47, 48, 49, 50, 51, 52, 53, 54, 55, 56, 57, 58, 59, 60, 61, 62, 63, 64, 65, 66, 67, 68, 69, 70, 71, 72, 73, 74, 75, 76, 77, 78, 79, 80, 81, 82, 83, 84, 85, 86, 87, 88, 89, 90, 91, 92, 93, 94, 354, 355, 356, 357] (by decide +kernel) (by decide +kernel)
set_option maxRecDepth 20000 in
theorem gX18_ballot_J0_indexOf_0f7a4 : GoodIn wsX18_ballot (wsV RX18 82 RJ0 yJ0_indexOf_0f7a4 wsJ0_indexOf_0f7a4) := goodIn_app (goodIn_of _ (by decide +kernel)) ggX18_ballot_J0_indexOf_0f7a4
theorem dX18_ballot_9 : decode cX18_ballot 9 = .ok (.invokevirtual 82, 3) := by decide +kernel
theorem dX18_ballot_12 : decode cX18_ballot 12 = .ok (.ifCond .lt 18, 3) := by decide +kernel
theorem dX18_ballot_30 : decode cX18_ballot 30 = .ok (.aload_n 0, 1) := by decide +kernel
theorem dX18_ballot_31 : decode cX18_ballot 31 = .ok (.iconst 1, 1) := by decide +kernel
set_option maxRecDepth 20000 in
theorem ggX18_ballot_X18_fails : GoodIn wsX18_ballot wsX18_fails := goodIn_r _ [99, 1, 333, 334, 335, 336, 337, 338, 339, 340, 341, 342, 343, 344, 345, 346, 347, 348, 349] (by decide +kernel) (by decide +kernel)
set_option maxRecDepth 20000 in
theorem gX18_ballot_X18_fails : GoodIn wsX18_ballot (wsV RX18 88 RX18 yX18_fails wsX18_fails) := goodIn_app (goodIn_of _ (by decide +kernel)) ggX18_ballot_X18_fails
theorem dX18_ballot_32 : decode cX18_ballot 32 = .ok (.invokevirtual 88, 3) := by decide +kernel
theorem dX18_ballot_35 : decode cX18_ballot 35 = .ok (.ireturn, 1) := by decide +kernel
theorem dX18_ballot_15 : decode cX18_ballot 15 = .ok (.ldc_w 301, 3) := by decide +kernel
theorem dX18_ballot_18 : decode cX18_ballot 18 = .ok (.iload_n 2, 1) := by decide +kernel
theorem dX18_ballot_19 : decode cX18_ballot 19 = .ok (.invokevirtual 82, 3) := by decide +kernel
theorem dX18_ballot_22 : decode cX18_ballot 22 = .ok (.ifCond .lt 8, 3) := by decide +kernel
theorem dX18_ballot_25 : decode cX18_ballot 25 = .ok (.iload_n 1, 1) := by decide +kernel
theorem dX18_ballot_26 : decode cX18_ballot 26 = .ok (.iload_n 2, 1) := by decide +kernel
theorem dX18_ballot_27 : decode cX18_ballot 27 = .ok (.if_icmp .ne 9, 3) := by decide +kernel
theorem dX18_ballot_36 : decode cX18_ballot 36 = .ok (.aload_n 0, 1) := by decide +kernel
theorem dX18_ballot_37 : decode cX18_ballot 37 = .ok (.getfield 61, 3) := by decide +kernel
set_option maxRecDepth 20000 in
theorem ggX18_ballot_Jx4a65c_size_8abf5 : GoodIn wsX18_ballot wsJx4a65c_size_8abf5 := goodIn_r _ [104, 105, 358, 359, 360] (by decide +kernel) (by decide +kernel)
set_option maxRecDepth 20000 in
theorem gX18_ballot_Jx4a65c_size_8abf5_f74Jx4a65c : GoodIn wsX18_ballot (va_wsF RX18 74 RJx4a65c ⟨"java/util/List", "size", "()I"⟩ yJx4a65c_size_8abf5 wsJx4a65c_size_8abf5) := goodIn_app (goodIn_of _ (by decide +kernel)) ggX18_ballot_Jx4a65c_size_8abf5
theorem dX18_ballot_40 : decode cX18_ballot 40 = .ok (.invokeinterface 74 1, 5) := by decide +kernel
theorem dX18_ballot_45 : decode cX18_ballot 45 = .ok (.bipush 9, 2) := by decide +kernel
theorem dX18_ballot_47 : decode cX18_ballot 47 = .ok (.if_icmp .ne 9, 3) := by decide +kernel
theorem dX18_ballot_56 : decode cX18_ballot 56 = .ok (.sipush 313, 3) := by decide +kernel
theorem dX18_ballot_59 : decode cX18_ballot 59 = .ok (.iload_n 1, 1) := by decide +kernel
theorem dX18_ballot_60 : decode cX18_ballot 60 = .ok (.isub, 1) := by decide +kernel
theorem dX18_ballot_61 : decode cX18_ballot 61 = .ok (.iload_n 2, 1) := by decide +kernel
theorem dX18_ballot_62 : decode cX18_ballot 62 = .ok (.isub, 1) := by decide +kernel
theorem dX18_ballot_63 : decode cX18_ballot 63 = .ok (.i2c, 1) := by decide +kernel
theorem dX18_ballot_64 : decode cX18_ballot 64 = .ok (.istore_n 3, 1) := by decide +kernel
theorem dX18_ballot_65 : decode cX18_ballot 65 = .ok (.aload_n 0, 1) := by decide +kernel
theorem dX18_ballot_66 : decode cX18_ballot 66 = .ok (.getfield 61, 3) := by decide +kernel
theorem dX18_ballot_69 : decode cX18_ballot 69 = .ok (.new 303, 3) := by decide +kernel
theorem dX18_ballot_72 : decode cX18_ballot 72 = .ok (.dup, 1) := by decide +kernel
set_option maxRecDepth 20000 in
theorem ggX18_ballot_J4_init_da8c8 : GoodIn wsX18_ballot wsJ4_init_da8c8 := goodIn_r _ [108, 109, 110, 111, 112, 113, 114, 115, 116, 117, 118, 119, 120, 121, 49, 122, 123, 124, 125, 126, 350, 351, 352, 353] (by decide +kernel) (by decide +kernel)
set_option maxRecDepth 20000 in
theorem gX18_ballot_J4_init_da8c8 : GoodIn wsX18_ballot (wsJ4_init_da8c8) := ggX18_ballot_J4_init_da8c8
theorem dX18_ballot_73 : decode cX18_ballot 73 = .ok (.invokespecial 305, 3) := by decide +kernel
theorem dX18_ballot_76 : decode cX18_ballot 76 = .ok (.ldc_w 306, 3) := by decide +kernel
set_option maxRecDepth 20000 in
theorem ggX18_ballot_J4_append_15ec4 : GoodIn wsX18_ballot wsJ4_append_15ec4 := goodIn_r _ [130, 131, 132, 133, 134, 111, 135, 136, 137, 138, 139, 140, 141, 118, 142, 143, 144, 145, 146, 119, 147, 148, 149, 150, 151, 152, 153, 154, 155, 156, 157, 35, 36, 37, 158, 159, 160, 161, 162, 163, 164, 165, 166, 167, 168, 169, 170, 171, 117, 172, 39, 40, 173, 174, 175, 176, 177, 178, 179, 180, 181, 116, 182, 183, 49, 184, 77, 57, 58, 59, 60, 61, 62, 63, 64, 9, 65, 66, 67, 68, 69, 70, 185, 186, 187, 78, 79, 188, 23, 24, 25, 15, 26, 27, 28, 29, 20, 21, 189, 190, 191, 192, 193, 194, 195, 196, 197, 198, 199, 200, 201, 202, 203, 204, 120, 121, 122, 123, 124, 125, 126, 205, 206, 32, 207, 208, 209, 210, 211, 212, 213, 214, 215, 216, 217, 218, 219, 220, 221, 222, 223, 224, 225, 350, 351, 352, 353, 354, 355, 356, 357] (by decide +kernel) (by decide +kernel)
set_option maxRecDepth 20000 in
theorem gX18_ballot_J4_append_15ec4 : GoodIn wsX18_ballot (wsV RX18 308 RJ4 yJ4_append_15ec4 wsJ4_append_15ec4) := goodIn_app (goodIn_of _ (by decide +kernel)) ggX18_ballot_J4_append_15ec4
theorem dX18_ballot_79 : decode cX18_ballot 79 = .ok (.invokevirtual 308, 3) := by decide +kernel
theorem dX18_ballot_82 : decode cX18_ballot 82 = .ok (.iload_n 1, 1) := by decide +kernel
set_option maxRecDepth 20000 in
theorem ggX18_ballot_J4_append_cf468 : GoodIn wsX18_ballot wsJ4_append_cf468 := goodIn_r _ [229, 230, 231, 133, 232, 111, 233, 136, 118, 142, 143, 144, 145, 146, 119, 147, 148, 149, 150, 151, 152, 153, 154, 155, 156, 157, 35, 36, 37, 158, 159, 160, 161, 162, 163, 164, 165, 166, 167, 168, 169, 170, 171, 117, 172, 39, 40, 173, 174, 175, 176, 177, 178, 179, 180, 181, 116, 234, 235, 32, 236, 200, 201, 202, 203, 204, 120, 121, 49, 122, 123, 124, 125, 126, 205, 206, 207, 208, 209, 210, 211, 212, 213, 60, 61, 62, 214, 215, 9, 216, 66, 217, 218, 69, 219, 185, 186, 187, 77, 78, 79, 237, 238, 239, 240, 241, 242, 243, 244, 245, 246, 247, 248, 350, 351, 352, 353] (by decide +kernel) (by decide +kernel)
set_option maxRecDepth 20000 in
theorem gX18_ballot_J4_append_cf468 : GoodIn wsX18_ballot (wsV RX18 312 RJ4 yJ4_append_cf468 wsJ4_append_cf468) := goodIn_app (goodIn_of _ (by decide +kernel)) ggX18_ballot_J4_append_cf468
theorem dX18_ballot_83 : decode cX18_ballot 83 = .ok (.invokevirtual 312, 3) := by decide +kernel
theorem dX18_ballot_86 : decode cX18_ballot 86 = .ok (.iload_n 2, 1) := by decide +kernel
theorem dX18_ballot_87 : decode cX18_ballot 87 = .ok (.invokevirtual 312, 3) := by decide +kernel
theorem dX18_ballot_90 : decode cX18_ballot 90 = .ok (.iload_n 3, 1) := by decide +kernel
theorem dX18_ballot_91 : decode cX18_ballot 91 = .ok (.invokevirtual 312, 3) := by decide +kernel
set_option maxRecDepth 20000 in
theorem ggX18_ballot_J4_toString_0e30d : GoodIn wsX18_ballot wsJ4_toString_0e30d := goodIn_r _ [252, 253, 254, 9, 255, 256, 257, 258, 259, 260, 261, 114, 115, 21, 15, 20, 262, 263, 264, 265, 266, 111, 267, 118, 268, 269, 270, 271, 272, 5, 273, 274, 133, 275, 276, 136, 277, 178, 179, 180, 181, 116, 119, 278, 279, 164, 280, 166, 167, 168, 169, 170, 171, 281, 282, 283, 117, 172, 39, 36, 40, 173, 174, 175, 176, 284, 285, 286, 287, 4, 288, 289, 49, 290, 291, 292, 293, 211, 212, 213, 60, 61, 62, 214, 215, 216, 66, 217, 218, 69, 219, 74, 75, 76, 77, 78, 79, 123, 124, 125, 126, 294, 295, 296, 297, 354, 355, 356, 357, 350, 351, 352, 353] (by decide +kernel) (by decide +kernel)
set_option maxRecDepth 20000 in
theorem gX18_ballot_J4_toString_0e30d : GoodIn wsX18_ballot (wsV RX18 315 RJ4 yJ4_toString_0e30d wsJ4_toString_0e30d) := goodIn_app (goodIn_of _ (by decide +kernel)) ggX18_ballot_J4_toString_0e30d
theorem dX18_ballot_94 : decode cX18_ballot 94 = .ok (.invokevirtual 315, 3) := by decide +kernel
set_option maxRecDepth 20000 in
theorem ggX18_ballot_Jx4a65c_add_9ea2d : GoodIn wsX18_ballot wsJx4a65c_add_9ea2d := goodIn_r _ [301, 302, 303, 304, 105, 305, 306, 307, 103, 308, 309, 310, 311, 312, 313, 314, 315, 316, 317, 318, 35, 36, 37, 319, 320, 154, 155, 156, 157, 158, 159, 160, 161, 321, 322, 164, 323, 324, 325, 326, 327, 328, 329, 330, 331, 332, 172, 39, 40, 173, 174, 175, 176, 358, 359, 360] (by decide +kernel) (by decide +kernel)
set_option maxRecDepth 20000 in
theorem gX18_ballot_Jx4a65c_add_9ea2d_f96Jx4a65c : GoodIn wsX18_ballot (va_wsF RX18 96 RJx4a65c ⟨"java/util/List", "add", "(Ljava/lang/Object;)Z"⟩ yJx4a65c_add_9ea2d wsJx4a65c_add_9ea2d) := goodIn_app (goodIn_of _ (by decide +kernel)) ggX18_ballot_Jx4a65c_add_9ea2d
theorem dX18_ballot_97 : decode cX18_ballot 97 = .ok (.invokeinterface 96 2, 5) := by decide +kernel
theorem dX18_ballot_102 : decode cX18_ballot 102 = .ok (.pop, 1) := by decide +kernel
theorem dX18_ballot_103 : decode cX18_ballot 103 = .ok (.aload_n 0, 1) := by decide +kernel
theorem dX18_ballot_104 : decode cX18_ballot 104 = .ok (.getfield 61, 3) := by decide +kernel
theorem dX18_ballot_107 : decode cX18_ballot 107 = .ok (.invokeinterface 74 1, 5) := by decide +kernel
theorem dX18_ballot_112 : decode cX18_ballot 112 = .ok (.ireturn, 1) := by decide +kernel
theorem dX18_winner_0 : decode cX18_winner 0 = .ok (.aload_n 0, 1) := by decide +kernel
theorem dX18_winner_1 : decode cX18_winner 1 = .ok (.iconst 0, 1) := by decide +kernel
theorem dX18_winner_2 : decode cX18_winner 2 = .ok (.putfield 67, 3) := by decide +kernel
theorem dX18_winner_5 : decode cX18_winner 5 = .ok (.iconst 0, 1) := by decide +kernel
theorem dX18_winner_6 : decode cX18_winner 6 = .ok (.istore_n 1, 1) := by decide +kernel
theorem dX18_winner_7 : decode cX18_winner 7 = .ok (.iload_n 1, 1) := by decide +kernel
theorem dX18_winner_8 : decode cX18_winner 8 = .ok (.iconst 3, 1) := by decide +kernel
theorem dX18_winner_9 : decode cX18_winner 9 = .ok (.if_icmp .ge 143, 3) := by decide +kernel
theorem dX18_winner_12 : decode cX18_winner 12 = .ok (.ldc_w 301, 3) := by decide +kernel
theorem dX18_winner_15 : decode cX18_winner 15 = .ok (.iload_n 1, 1) := by decide +kernel
set_option maxRecDepth 20000 in
theorem ggX18_winner_J0_charAt_5068e : GoodIn wsX18_winner wsJ0_charAt_5068e := goodIn_r _ [8, 9, 10, 11, 12, 7, 13, 14, 15, 16, 17, 18, 19, 20, 21, 22, 23, 24, 25, 26, 27, 28, 29, 30, 31, 32, 33, 34, 35, 36, 37, 38, 39, 40, 41, 42, 43, 44, 168, 169, 170, 171] (by decide +kernel) (by decide +kernel)
set_option maxRecDepth 20000 in
theorem gX18_winner_J0_charAt_5068e : GoodIn wsX18_winner (wsV RX18 189 RJ0 yJ0_charAt_5068e wsJ0_charAt_5068e) := goodIn_app (goodIn_of _ (by decide +kernel)) ggX18_winner_J0_charAt_5068e
theorem dX18_winner_16 : decode cX18_winner 16 = .ok (.invokevirtual 189, 3) := by decide +kernel
theorem dX18_winner_19 : decode cX18_winner 19 = .ok (.istore_n 2, 1) := by decide +kernel
theorem dX18_winner_20 : decode cX18_winner 20 = .ok (.iconst 1, 1) := by decide +kernel
theorem dX18_winner_21 : decode cX18_winner 21 = .ok (.istore_n 3, 1) := by decide +kernel
theorem dX18_winner_22 : decode cX18_winner 22 = .ok (.iconst 0, 1) := by decide +kernel
theorem dX18_winner_23 : decode cX18_winner 23 = .ok (.istore 4, 2) := by decide +kernel
theorem dX18_winner_25 : decode cX18_winner 25 = .ok (.iload 4, 2) := by decide +kernel
theorem dX18_winner_27 : decode cX18_winner 27 = .ok (.iconst 3, 1) := by decide +kernel
theorem dX18_winner_28 : decode cX18_winner 28 = .ok (.if_icmp .ge 112, 3) := by decide +kernel
theorem dX18_winner_31 : decode cX18_winner 31 = .ok (.iconst 0, 1) := by decide +kernel
theorem dX18_winner_32 : decode cX18_winner 32 = .ok (.istore 5, 2) := by decide +kernel
theorem dX18_winner_34 : decode cX18_winner 34 = .ok (.aload_n 0, 1) := by decide +kernel
theorem dX18_winner_35 : decode cX18_winner 35 = .ok (.getfield 61, 3) := by decide +kernel
set_option maxRecDepth 20000 in
theorem ggX18_winner_Jx4a65c_iterator_32c93 : GoodIn wsX18_winner wsJx4a65c_iterator_32c93 := goodIn_r _ [49, 50, 51, 52, 53, 54, 55, 56, 57, 58, 59, 60, 61, 62, 63, 172, 173, 174, 175, 176, 177, 178] (by decide +kernel) (by decide +kernel)
set_option maxRecDepth 20000 in
theorem gX18_winner_Jx4a65c_iterator_32c93_f224Jx4a65c : GoodIn wsX18_winner (va_wsF RX18 224 RJx4a65c ⟨"java/util/List", "iterator", "()Ljava/util/Iterator;"⟩ yJx4a65c_iterator_32c93 wsJx4a65c_iterator_32c93) := goodIn_app (goodIn_of _ (by decide +kernel)) ggX18_winner_Jx4a65c_iterator_32c93
theorem dX18_winner_38 : decode cX18_winner 38 = .ok (.invokeinterface 224 1, 5) := by decide +kernel
theorem dX18_winner_43 : decode cX18_winner 43 = .ok (.astore 6, 2) := by decide +kernel
theorem dX18_winner_45 : decode cX18_winner 45 = .ok (.aload 6, 2) := by decide +kernel
set_option maxRecDepth 20000 in
theorem ggX18_winner_Jx35411_hasNext_aae02 : GoodIn wsX18_winner wsJx35411_hasNext_aae02 := goodIn_r _ [67, 68, 56, 172, 173, 174, 175, 176, 177, 178] (by decide +kernel) (by decide +kernel)
set_option maxRecDepth 20000 in
theorem gX18_winner_Jx35411_hasNext_aae02_f228Jx35411 : GoodIn wsX18_winner (va_wsF RX18 228 RJx35411 ⟨"java/util/Iterator", "hasNext", "()Z"⟩ yJx35411_hasNext_aae02 wsJx35411_hasNext_aae02) := goodIn_app (goodIn_of _ (by decide +kernel)) ggX18_winner_Jx35411_hasNext_aae02
theorem dX18_winner_47 : decode cX18_winner 47 = .ok (.invokeinterface 228 1, 5) := by decide +kernel
theorem dX18_winner_52 : decode cX18_winner 52 = .ok (.ifCond .eq 50, 3) := by decide +kernel
theorem dX18_winner_102 : decode cX18_winner 102 = .ok (.iload_n 3, 1) := by decide +kernel
theorem dX18_winner_103 : decode cX18_winner 103 = .ok (.ifCond .eq 29, 3) := by decide +kernel
theorem dX18_winner_106 : decode cX18_winner 106 = .ok (.iload 4, 2) := by decide +kernel
theorem dX18_winner_108 : decode cX18_winner 108 = .ok (.iload_n 1, 1) := by decide +kernel
theorem dX18_winner_109 : decode cX18_winner 109 = .ok (.if_icmp .eq 19, 3) := by decide +kernel
theorem dX18_winner_128 : decode cX18_winner 128 = .ok (.iconst 1, 1) := by decide +kernel
theorem dX18_winner_129 : decode cX18_winner 129 = .ok (.goto 4, 3) := by decide +kernel
theorem dX18_winner_133 : decode cX18_winner 133 = .ok (.istore_n 3, 1) := by decide +kernel
theorem dX18_winner_134 : decode cX18_winner 134 = .ok (.iinc 4 1, 3) := by decide +kernel
theorem dX18_winner_137 : decode cX18_winner 137 = .ok (.goto (-112), 3) := by decide +kernel
theorem dX18_winner_112 : decode cX18_winner 112 = .ok (.iconst 2, 1) := by decide +kernel
theorem dX18_winner_113 : decode cX18_winner 113 = .ok (.iload 5, 2) := by decide +kernel
theorem dX18_winner_115 : decode cX18_winner 115 = .ok (.imul, 1) := by decide +kernel
theorem dX18_winner_116 : decode cX18_winner 116 = .ok (.aload_n 0, 1) := by decide +kernel
theorem dX18_winner_117 : decode cX18_winner 117 = .ok (.getfield 61, 3) := by decide +kernel
set_option maxRecDepth 20000 in
theorem ggX18_winner_Jx4a65c_size_8abf5 : GoodIn wsX18_winner wsJx4a65c_size_8abf5 := goodIn_r _ [149, 150, 176, 177, 178] (by decide +kernel) (by decide +kernel)
set_option maxRecDepth 20000 in
theorem gX18_winner_Jx4a65c_size_8abf5_f74Jx4a65c : GoodIn wsX18_winner (va_wsF RX18 74 RJx4a65c ⟨"java/util/List", "size", "()I"⟩ yJx4a65c_size_8abf5 wsJx4a65c_size_8abf5) := goodIn_app (goodIn_of _ (by decide +kernel)) ggX18_winner_Jx4a65c_size_8abf5
theorem dX18_winner_120 : decode cX18_winner 120 = .ok (.invokeinterface 74 1, 5) := by decide +kernel
theorem dX18_winner_125 : decode cX18_winner 125 = .ok (.if_icmp .le 7, 3) := by decide +kernel
theorem dX18_winner_132 : decode cX18_winner 132 = .ok (.iconst 0, 1) := by decide +kernel
theorem dX18_winner_140 : decode cX18_winner 140 = .ok (.iload_n 3, 1) := by decide +kernel
theorem dX18_winner_141 : decode cX18_winner 141 = .ok (.ifCond .eq 5, 3) := by decide +kernel
theorem dX18_winner_146 : decode cX18_winner 146 = .ok (.iinc 1 1, 3) := by decide +kernel
theorem dX18_winner_149 : decode cX18_winner 149 = .ok (.goto (-142), 3) := by decide +kernel
theorem dX18_winner_152 : decode cX18_winner 152 = .ok (.aload_n 0, 1) := by decide +kernel
theorem dX18_winner_153 : decode cX18_winner 153 = .ok (.iconst 1, 1) := by decide +kernel
theorem dX18_winner_154 : decode cX18_winner 154 = .ok (.putfield 67, 3) := by decide +kernel
theorem dX18_winner_157 : decode cX18_winner 157 = .ok (.iconst 0, 1) := by decide +kernel
theorem dX18_winner_158 : decode cX18_winner 158 = .ok (.ireturn, 1) := by decide +kernel
/-- bytes -/
def bfit (f : Nat → Int32) : Prop := ∀ i : Nat, fits .byte (.int (f i)) = true
theorem bfit0 : bfit (fun _ => 0) := fun _ => (by decide : fits .byte (.int 0) = true)
theorem bfit_nar (x : Int32) : fits .byte (.int (vp_nar .byte x)) = true := fits_narrow_byte x
theorem bfit_upd {f : Nat → Int32} {k : Nat} {x : Int32} (h : bfit f) : bfit (upd f k (vp_nar .byte x)) := fun i => by
  unfold upd
  split
  · exact bfit_nar x
  · exact h i
theorem bfit_cpy0 {f g : Nat → Int32} {a b : Nat} (h : bfit g) : bfit (va_cpy f g a b 0) := fun i => by
  have e : va_cpy f g a b 0 i = g i := by
    simp only [va_cpy]
    split
    · omega
    · rfl
  rw [e]; exact h i

set_option maxHeartbeats 4000000 in
set_option maxRecDepth 100000 in
/-- AbstractStringBuilder(16) -/
theorem c_J5_init (l : Launch) (dC : Nat → ClassId) (dI : Nat → Nat → Nat) (b0 : Nat) (en : EnT) (sz : Nat) (sb : Nat) : Met l yJ5_init_d00df wsJ5_init_d00df ({ frames := 1, cells := 1, slots := 16, locals := 30 } : Room) (cP b0 en (dC, dI) [] [(sb, .inr (1, [.null, .int 0, .int 0, .int 0]))] [] sz (fun _ => True) [.ref sb, .int 16]) (va_Qv (fun u : Nat × ClassId × (Nat → Int32) => bfit u.2.2) (fun u t => cB (dC, dI) [(u.2.1, .byte)] [(sb, .inr (1, [.ref u.1, .int 0, .int 0, .int 0])), (u.1, .inl (u.2.1, 16, .inl u.2.2))] (va_A [(sb, .inr (1, [.null, .int 0, .int 0, .int 0]))] sz) (fun _ => True) t) (va_A [(sb, .inr (1, [.null, .int 0, .int 0, .int 0]))] sz)) 1 16 (va_A [(sb, .inr (1, [.null, .int 0, .int 0, .int 0]))] sz) := by
  refine Met.ofW (cc := cJ5_init_d00df) (maxL := 2) (ret := none) (by decide) rfl ?_
  intro p e s m args below meth c s₁ B hml hv
  obtain ⟨rfl, hsz, hb0, hE, hPP, hK, hDD, hF0⟩ := hv
  have hx := B.exec
  have hb := B.bytes
  have hr := B.returns
  have hts := atoms_spec (ws := wsJ5_init_d00df) B.pre
  have hown : s.vm.findClass RJ5 = some m.cls := findClass_of_methodNamed B.named
  have hlocks := B.notSynchronized
  have hin : meth.name = "<init>" := (name_of_methodNamed B.named B.method).1
  subst hsz
  have hN0 := en_N hPP hDD rfl
  have hP : va_P (dC, dI) vwCl [(sb, .inr (1, [.null, .int 0, .int 0, .int 0]))] s.heap := hPP.sub [0] rfl
  have hR0 : va_P (dC, dI) vwCl [] s.heap := hPP.sub [] rfl
  have hD0 : va_D (fun q => b0 ≤ q) [(sb, .inr (1, [.null, .int 0, .int 0, .int 0]))] := hDD.sub [0] (by decide) rfl
  have hDr : va_D (fun q => b0 ≤ q) [] := hDD.sub [] (by decide) rfl
  have hAb := en_A (sz := s.heap.size) hD0 hb0
  have hD := hD0.self (sz := s.heap.size)
  generalize hAe : va_A [(sb, .inr (1, [.null, .int 0, .int 0, .int 0]))] s.heap.size = A at hD hAb hN0 ⊢
  have hA : ∀ q : Nat, s.heap.size ≤ q → A q := fun q h => by rw [← hAe]; exact Or.inr h
  have hS : va_S A s.heap s.heap [] := va_S.rf
  have hR := hR0
  have hl := lv_entry [.ref sb, .int 16] (n := 2) (Nat.le_of_ble_eq_true rfl)
  rw [lg_entry_eq]
  generalize (lg_sl [.ref sb, .int 16] ++ List.replicate (2 - (lg_sl [.ref sb, .int 16]).length) Slot.unset).toArray = ls at hl ⊢
  have hl : lv_has ls 2 [(0, .ref sb), (1, .int 16)] := hl
  refine lv_aload_n hx hb dJ5_init_d00df_0 rfl (lv_at hl 0 rfl) ?_
  refine W.objInit hx hb hown (hts (.methodLink RJ5 3 objectInit) (by decide +kernel)) (hts (.instanceMethod objectInit) (by decide +kernel)) (hts (.code objectInit ⟨#[0xb1]⟩ 1 none) (by decide +kernel)) rfl (by rw [hml]; exact hl.1) rfl dJ5_init_d00df_1 (Nat.le_of_ble_eq_true rfl) (Nat.le_of_ble_eq_true rfl) ?_
  refine va_gets hx hb (hE.cs hAb) hS hown (hts (.fieldLink RJ5 18 "java/lang/String" "COMPACT_STRINGS" "Z") (by decide +kernel)) (fun _ h9 => h9) dJ5_init_d00df_4 ?_
  refine lv_if_eq (tgt := 25) hx hb dJ5_init_d00df_7 (by first | decide | rfl) (fun c_1 => absurd c_1 (by decide)) (fun c_1 => ?_)
  refine lv_aload_n hx hb dJ5_init_d00df_10 rfl (lv_at hl 0 rfl) ?_
  refine lv_iload_n hx hb dJ5_init_d00df_11 rfl (lv_at hl 1 rfl) ?_
  refine va_newa (atype := .byte) (a0 := (16, .inl (fun _ => 0))) hx hb (hts (.arrayClass .byte) (by decide +kernel)) rfl hK hP hD hS hA (fun _ => rfl) (by decide) (by decide) (by decide) (Nat.le_of_ble_eq_true rfl) (Nat.le_of_ble_eq_true rfl) dJ5_init_d00df_12 (fun q_2 k_3 H hK hP hD hS => ?_)
  have hP : va_P (dC, dI) vwCl [(sb, .inr (1, [.null, .int 0, .int 0, .int 0])), (q_2, .inl (k_3, 16, .inl (fun _ => 0)))] H := hP
  have hD : va_D A [(sb, .inr (1, [.null, .int 0, .int 0, .int 0])), (q_2, .inl (k_3, 16, .inl (fun _ => 0)))] := hD
  have hR : va_P (dC, dI) vwCl [] H := fun k q h => by simp at h
  refine W.widen (k := 1) (n := 16) (Nat.le_of_ble_eq_true rfl) (Nat.le_of_ble_eq_true rfl) ?_
  refine va_put (D := (dC, dI)) (ci := 1) (v := .ref q_2) (ty := .array (.byte)) (C := RJ4) (T := TJ4) (N := 4) hx hb hts (by decide +kernel) tyJ4 tyJ4_ok nmJ4 hown hK hP hD hS 0 rfl rfl 0 (by decide) (hts (.fieldLink RJ5 15 "java/lang/AbstractStringBuilder" "value" "[B") (by decide +kernel)) (fun _ h9 => h9) rfl (by decide +kernel) rfl rfl (Nat.le_of_ble_eq_true rfl) dJ5_init_d00df_14 (fun H locs hP hD hS => ?_)
  have hP : va_P (dC, dI) vwCl [(sb, .inr (1, [.ref q_2, .int 0, .int 0, .int 0])), (q_2, .inl (k_3, 16, .inl (fun _ => 0)))] H := hP
  have hD : va_D A [(sb, .inr (1, [.ref q_2, .int 0, .int 0, .int 0])), (q_2, .inl (k_3, 16, .inl (fun _ => 0)))] := hD
  have hR : va_P (dC, dI) vwCl [] H := fun k q h => by simp at h
  refine lv_aload_n hx hb dJ5_init_d00df_17 rfl (lv_at hl 0 rfl) ?_
  refine lv_iconst (v := 0) hx hb dJ5_init_d00df_18 (by decide) ?_
  refine va_put (D := (dC, dI)) (ci := 1) (v := .int 0) (ty := .byte) (C := RJ4) (T := TJ4) (N := 4) hx hb hts (by decide +kernel) tyJ4 tyJ4_ok nmJ4 hown hK hP hD hS 0 rfl rfl 1 (by decide) (hts (.fieldLink RJ5 22 "java/lang/AbstractStringBuilder" "coder" "B") (by decide +kernel)) (fun _ h9 => h9) rfl (by decide +kernel) (by first | rfl | decide +kernel) (by first | rfl | decide +kernel) (Nat.le_of_ble_eq_true rfl) dJ5_init_d00df_19 (fun H locs hP hD hS => ?_)
  have hP : va_P (dC, dI) vwCl [(sb, .inr (1, [.ref q_2, .int 0, .int 0, .int 0])), (q_2, .inl (k_3, 16, .inl (fun _ => 0)))] H := hP
  have hD : va_D A [(sb, .inr (1, [.ref q_2, .int 0, .int 0, .int 0])), (q_2, .inl (k_3, 16, .inl (fun _ => 0)))] := hD
  have hR : va_P (dC, dI) vwCl [] H := fun k q h => by simp at h
  refine lv_goto (tgt := 38) hx hb dJ5_init_d00df_22 (by first | decide | rfl) ?_
  refine W.widen (k := 1) (n := 16) (Nat.le_of_ble_eq_true rfl) (Nat.le_of_ble_eq_true rfl) ?_
  exact W.vret hx hb hr (fun t ht hW => ⟨⟨⟨q_2, k_3, (fun _ => 0)⟩, rfl, bfit0, cB.mk ht hW (hP.sub [0, 1] rfl) (hK.sub [0] rfl) (hD.sub [0, 1] (by decide) rfl) (trivial)⟩, hS.F ht⟩) hS.2.2 dJ5_init_d00df_38

set_option maxHeartbeats 4000000 in
set_option maxRecDepth 100000 in
/-- StringBuilder() -/
theorem c_J4_init (l : Launch) (dC : Nat → ClassId) (dI : Nat → Nat → Nat) (b0 : Nat) (en : EnT) (sz : Nat) (sb : Nat) : Met l yJ4_init_da8c8 wsJ4_init_da8c8 ({ frames := 2, cells := 1, slots := 16, locals := 51 } : Room) (cP b0 en (dC, dI) [] [(sb, .inr (1, [.null, .int 0, .int 0, .int 0]))] [] sz (fun _ => True) [.ref sb]) (va_Qv (fun u : Nat × ClassId × (Nat → Int32) => bfit u.2.2) (fun u t => cB (dC, dI) [(u.2.1, .byte)] [(sb, .inr (1, [.ref u.1, .int 0, .int 0, .int 0])), (u.1, .inl (u.2.1, 16, .inl u.2.2))] (va_A [(sb, .inr (1, [.null, .int 0, .int 0, .int 0]))] sz) (fun _ => True) t) (va_A [(sb, .inr (1, [.null, .int 0, .int 0, .int 0]))] sz)) 1 16 (va_A [(sb, .inr (1, [.null, .int 0, .int 0, .int 0]))] sz) := by
  refine Met.ofW (cc := cJ4_init_da8c8) (maxL := 1) (ret := none) (by decide) rfl ?_
  intro p e s m args below meth c s₁ B hml hv
  obtain ⟨rfl, hsz, hb0, hE, hPP, hK, hDD, hF0⟩ := hv
  have hx := B.exec
  have hb := B.bytes
  have hr := B.returns
  have hts := atoms_spec (ws := wsJ4_init_da8c8) B.pre
  have hown : s.vm.findClass RJ4 = some m.cls := findClass_of_methodNamed B.named
  have hlocks := B.notSynchronized
  have hin : meth.name = "<init>" := (name_of_methodNamed B.named B.method).1
  subst hsz
  have hN0 := en_N hPP hDD rfl
  have hP : va_P (dC, dI) vwCl [(sb, .inr (1, [.null, .int 0, .int 0, .int 0]))] s.heap := hPP.sub [0] rfl
  have hR0 : va_P (dC, dI) vwCl [] s.heap := hPP.sub [] rfl
  have hD0 : va_D (fun q => b0 ≤ q) [(sb, .inr (1, [.null, .int 0, .int 0, .int 0]))] := hDD.sub [0] (by decide) rfl
  have hDr : va_D (fun q => b0 ≤ q) [] := hDD.sub [] (by decide) rfl
  have hAb := en_A (sz := s.heap.size) hD0 hb0
  have hD := hD0.self (sz := s.heap.size)
  generalize hAe : va_A [(sb, .inr (1, [.null, .int 0, .int 0, .int 0]))] s.heap.size = A at hD hAb hN0 ⊢
  have hA : ∀ q : Nat, s.heap.size ≤ q → A q := fun q h => by rw [← hAe]; exact Or.inr h
  have hS : va_S A s.heap s.heap [] := va_S.rf
  have hR := hR0
  have hl := lv_entry [.ref sb] (n := 1) (Nat.le_of_ble_eq_true rfl)
  rw [lg_entry_eq]
  generalize (lg_sl [.ref sb] ++ List.replicate (1 - (lg_sl [.ref sb]).length) Slot.unset).toArray = ls at hl ⊢
  have hl : lv_has ls 1 [(0, .ref sb)] := hl
  refine lv_aload_n hx hb dJ4_init_da8c8_0 rfl (lv_at hl 0 rfl) ?_
  refine lv_bipush (v := 16) hx hb dJ4_init_da8c8_1 (by decide) ?_
  have hPc := (hP.app hR).sub (ws' := [(sb, .inr (1, [.null, .int 0, .int 0, .int 0]))] ++ []) [0] rfl
  have hDc := (en_DD hD hDr hN0 hAb).sub (ws' := [(sb, .inr (1, [.null, .int 0, .int 0, .int 0]))] ++ []) [0] (by decide) rfl
  have hKc := hK.sub (tys' := []) [] rfl
  have hFc := va_free (wc := [(sb, .inr (1, [.null, .int 0, .int 0, .int 0]))]) hD hS hA [0] rfl
  refine va_callv (va_runI (As := [.int 16]) (rest := []) ⟨hx, hb, hml, hown, hts⟩ (c_J5_init l dC dI b0 en s.heap.size sb) (cwI 1 hts gJ4_init_da8c8_J5_init_d00df rfl rfl rfl (hts (.initialized RJ5) (by decide +kernel)) (hts (.methodLink RJ4 1 yJ5_init_d00df) (by decide +kernel)) (hts (.instanceMethod yJ5_init_d00df) (by decide +kernel)) rfl (by decide +kernel) ⟨Nat.le_of_ble_eq_true rfl, Nat.le_of_ble_eq_true rfl⟩) ⟨cP.blind, cP.use (en_z hb0 hS) (hE.on hAb hS) hPc hKc hDc trivial⟩ rfl rfl hl.1 rfl (lv_room (Nat.le_of_ble_eq_true rfl)) dJ4_init_da8c8_3 ⟨Nat.le_of_ble_eq_true rfl, Nat.le_of_ble_eq_true rfl⟩) hS (fun q _ h => hFc q h) hFc (fun ⟨va_2, kV_3, fV2_4⟩ t H1 locs ht hvm hw hB hz1 hk1 hS => ?_)
  obtain ⟨hP1, hK1, hD1, hF1⟩ := hB
  rw [ht] at hP1
  try rw [ht] at hF1
  have hK1 := va_K.moved hvm.symm hK1
  try dsimp only at hw
  obtain ⟨hP, hD⟩ := va_join (wr := []) (w1 := [(sb, .inr (1, [.ref va_2, .int 0, .int 0, .int 0])), (va_2, .inl (kV_3, 16, .inl fV2_4))]) hP hD [0] [] rfl rfl (by decide) (by decide) hk1 hFc hP1 hD1
  have hK := hK.app hK1
  generalize H1 = H at hP hS ⊢
  have hP : va_P (dC, dI) vwCl [(sb, .inr (1, [.ref va_2, .int 0, .int 0, .int 0])), (va_2, .inl (kV_3, 16, .inl fV2_4))] H := hP
  have hD : va_D A [(sb, .inr (1, [.ref va_2, .int 0, .int 0, .int 0])), (va_2, .inl (kV_3, 16, .inl fV2_4))] := hD
  have hR : va_P (dC, dI) vwCl [] H := fun k q h => by simp at h
  refine W.widen (k := 1) (n := 16) (Nat.le_of_ble_eq_true rfl) (Nat.le_of_ble_eq_true rfl) ?_
  have h_6 := hw
  refine W.widen (k := 1) (n := 16) (Nat.le_of_ble_eq_true rfl) (Nat.le_of_ble_eq_true rfl) ?_
  exact W.vret hx hb hr (fun t ht hW => ⟨⟨⟨va_2, kV_3, fV2_4⟩, rfl, h_6, cB.mk ht hW (hP.sub [0, 1] rfl) (hK.sub [0] rfl) (hD.sub [0, 1] (by decide) rfl) (trivial)⟩, hS.F ht⟩) hS.2.2 dJ4_init_da8c8_6
theorem z_c_ens_205 (mn : Int32) (x_2 : Int32) (a_0 : (0 : Int32) ≤ mn) (a_1 : (mn : Int32) ≤ 4) (a_2 : x_2 = mn - 16) (a_3 : ¬ x_2 ≤ 0) : False := by grind
set_option maxHeartbeats 4000000 in
set_option maxRecDepth 100000 in
/-- ensureCapacityInternal: there is room -/
theorem c_ens (l : Launch) (dC : Nat → ClassId) (dI : Nat → Nat → Nat) (b0 : Nat) (en : EnT) (sz : Nat) (sb va : Nat) (kV : ClassId) (fV : Nat → Int32) (n mn : Int32) (h0 : (0 : Int32) ≤ mn) (h1 : (mn : Int32) ≤ 4) : Met l yJ5_ensureCapacityInternal_d00df wsJ5_ensureCapacityInternal_d00df ({ frames := 0, cells := 0, slots := 0, locals := 0 } : Room) (cP b0 en (dC, dI) [(kV, .byte)] [] [(sb, .inr (1, [.ref va, .int 0, .int 0, .int n])), (va, .inl (kV, 16, .inl fV))] sz (fun _ => True) [.ref sb, .int mn]) (va_Qv (fun _ : Unit => True) (fun _ _ => True) (va_A [] sz)) 0 0 (va_A [] sz) := by
  refine Met.ofW (cc := cJ5_ensureCapacityInternal_d00df) (maxL := 3) (ret := none) (by decide) rfl ?_
  intro p e s m args below meth c s₁ B hml hv
  obtain ⟨rfl, hsz, hb0, hE, hPP, hK, hDD, hF0⟩ := hv
  have hx := B.exec
  have hb := B.bytes
  have hr := B.returns
  have hts := atoms_spec (ws := wsJ5_ensureCapacityInternal_d00df) B.pre
  have hown : s.vm.findClass RJ5 = some m.cls := findClass_of_methodNamed B.named
  have hlocks := B.notSynchronized
  subst hsz
  have hN0 := en_N hPP hDD rfl
  have hP : va_P (dC, dI) vwCl [] s.heap := hPP.sub [] rfl
  have hR0 : va_P (dC, dI) vwCl [(sb, .inr (1, [.ref va, .int 0, .int 0, .int n])), (va, .inl (kV, 16, .inl fV))] s.heap := hPP.sub [0, 1] rfl
  have hD0 : va_D (fun q => b0 ≤ q) [] := hDD.sub [] (by decide) rfl
  have hDr : va_D (fun q => b0 ≤ q) [(sb, .inr (1, [.ref va, .int 0, .int 0, .int n])), (va, .inl (kV, 16, .inl fV))] := hDD.sub [0, 1] (by decide) rfl
  have hAb := en_A (sz := s.heap.size) hD0 hb0
  have hD := hD0.self (sz := s.heap.size)
  generalize hAe : va_A [] s.heap.size = A at hD hAb hN0 ⊢
  have hA : ∀ q : Nat, s.heap.size ≤ q → A q := fun q h => by rw [← hAe]; exact Or.inr h
  have hS : va_S A s.heap s.heap [] := va_S.rf
  have hR := hR0
  have hl := lv_entry [.ref sb, .int mn] (n := 3) (Nat.le_of_ble_eq_true rfl)
  rw [lg_entry_eq]
  generalize (lg_sl [.ref sb, .int mn] ++ List.replicate (3 - (lg_sl [.ref sb, .int mn]).length) Slot.unset).toArray = ls at hl ⊢
  have hl : lv_has ls 3 [(0, .ref sb), (1, .int mn)] := hl
  refine lv_aload_n hx hb dJ5_ensureCapacityInternal_d00df_0 rfl (lv_at hl 0 rfl) ?_
  refine va_get (D := (dC, dI)) (ci := 1) (v := .ref va) (C := RJ4) (T := TJ4) (N := 4) hx hb hts (by decide +kernel) hown hK hR 0 rfl rfl 0 (by decide) (hts (.fieldLink RJ5 15 "java/lang/AbstractStringBuilder" "value" "[B") (by decide +kernel)) (fun _ h9 => h9) rfl dJ5_ensureCapacityInternal_d00df_1 ?_
  refine va_alen hx hb hK hR 1 0 rfl rfl (v := 16) rfl dJ5_ensureCapacityInternal_d00df_4 ?_
  refine lv_aload_n hx hb dJ5_ensureCapacityInternal_d00df_5 rfl (lv_at hl 0 rfl) ?_
  refine va_get (D := (dC, dI)) (ci := 1) (v := .int 0) (C := RJ4) (T := TJ4) (N := 4) hx hb hts (by decide +kernel) hown hK hR 0 rfl rfl 1 (by decide) (hts (.fieldLink RJ5 22 "java/lang/AbstractStringBuilder" "coder" "B") (by decide +kernel)) (fun _ h9 => h9) rfl dJ5_ensureCapacityInternal_d00df_6 ?_
  refine lv_ishr hx hb dJ5_ensureCapacityInternal_d00df_9 ?_
  refine lv_topi (fun x_1 ex_1 => ?_)
  obtain rfl : x_1 = 16 := ex_1.trans (by decide)
  refine lv_istore_n (lv' := [(2, .int 16), (0, .ref sb), (1, .int mn)]) hx hb dJ5_ensureCapacityInternal_d00df_10 rfl hl (by decide) rfl (fun ls hl => ?_)
  refine lv_iload_n hx hb dJ5_ensureCapacityInternal_d00df_11 rfl (lv_at hl 2 rfl) ?_
  refine lv_iload_n hx hb dJ5_ensureCapacityInternal_d00df_12 rfl (lv_at hl 0 rfl) ?_
  refine lv_isub hx hb dJ5_ensureCapacityInternal_d00df_13 ?_
  refine lv_topi (fun x_2 ex_2 => ?_)
  refine lv_if_le (tgt := 38) hx hb dJ5_ensureCapacityInternal_d00df_14 (by first | decide | rfl) (fun c_3 => ?_) (fun c_3 => ?_)
  · skip
    refine W.widen (k := 0) (n := 0) (Nat.le_of_ble_eq_true rfl) (Nat.le_of_ble_eq_true rfl) ?_
    exact W.vret hx hb hr (fun t ht hW => ⟨⟨(), rfl, trivial, trivial⟩, hS.F ht⟩) hS.2.2 dJ5_ensureCapacityInternal_d00df_38
  · skip
    exact absurd (z_c_ens_205 mn x_2 h0 h1 ex_2 c_3) (fun z => z)

set_option maxHeartbeats 4000000 in
set_option maxRecDepth 100000 in
/-- inflateIfNeededFor(""): no need -/
theorem c_infl (l : Launch) (dC : Nat → ClassId) (dI : Nat → Nat → Nat) (b0 : Nat) (en : EnT) (sz : Nat) (sb va : Nat) (kV : ClassId) (fV : Nat → Int32) (n : Int32) : Met l yJ5_inflateIfNeededFor_a7421 wsJ5_inflateIfNeededFor_a7421 ({ frames := 1, cells := 0, slots := 0, locals := 20 } : Room) (cP b0 en (dC, dI) [(kV, .byte)] [] [(sb, .inr (1, [.ref va, .int 0, .int 0, .int n])), (va, .inl (kV, 16, .inl fV))] sz (fun _ => True) [.ref sb, .ref (en.1 5)]) (va_Qv (fun _ : Unit => True) (fun _ _ => True) (va_A [] sz)) 0 0 (va_A [] sz) := by
  refine Met.ofW (cc := cJ5_inflateIfNeededFor_a7421) (maxL := 2) (ret := none) (by decide) rfl ?_
  intro p e s m args below meth c s₁ B hml hv
  obtain ⟨rfl, hsz, hb0, hE, hPP, hK, hDD, hF0⟩ := hv
  have hx := B.exec
  have hb := B.bytes
  have hr := B.returns
  have hts := atoms_spec (ws := wsJ5_inflateIfNeededFor_a7421) B.pre
  have hown : s.vm.findClass RJ5 = some m.cls := findClass_of_methodNamed B.named
  have hlocks := B.notSynchronized
  subst hsz
  have hN0 := en_N hPP hDD rfl
  have hP : va_P (dC, dI) vwCl [] s.heap := hPP.sub [] rfl
  have hR0 : va_P (dC, dI) vwCl [(sb, .inr (1, [.ref va, .int 0, .int 0, .int n])), (va, .inl (kV, 16, .inl fV))] s.heap := hPP.sub [0, 1] rfl
  have hD0 : va_D (fun q => b0 ≤ q) [] := hDD.sub [] (by decide) rfl
  have hDr : va_D (fun q => b0 ≤ q) [(sb, .inr (1, [.ref va, .int 0, .int 0, .int n])), (va, .inl (kV, 16, .inl fV))] := hDD.sub [0, 1] (by decide) rfl
  have hAb := en_A (sz := s.heap.size) hD0 hb0
  have hD := hD0.self (sz := s.heap.size)
  generalize hAe : va_A [] s.heap.size = A at hD hAb hN0 ⊢
  have hA : ∀ q : Nat, s.heap.size ≤ q → A q := fun q h => by rw [← hAe]; exact Or.inr h
  have hS : va_S A s.heap s.heap [] := va_S.rf
  have hR := hR0
  have hl := lv_entry [.ref sb, .ref (en.1 5)] (n := 2) (Nat.le_of_ble_eq_true rfl)
  rw [lg_entry_eq]
  generalize (lg_sl [.ref sb, .ref (en.1 5)] ++ List.replicate (2 - (lg_sl [.ref sb, .ref (en.1 5)]).length) Slot.unset).toArray = ls at hl ⊢
  have hl : lv_has ls 2 [(0, .ref sb), (1, .ref (en.1 5))] := hl
  refine va_gets hx hb (hE.cs hAb) hS hown (hts (.fieldLink RJ5 18 "java/lang/String" "COMPACT_STRINGS" "Z") (by decide +kernel)) (fun _ h9 => h9) dJ5_inflateIfNeededFor_a7421_0 ?_
  refine lv_if_eq (tgt := 21) hx hb dJ5_inflateIfNeededFor_a7421_3 (by first | decide | rfl) (fun c_1 => absurd c_1 (by decide)) (fun c_1 => ?_)
  refine lv_aload_n hx hb dJ5_inflateIfNeededFor_a7421_6 rfl (lv_at hl 0 rfl) ?_
  refine va_get (D := (dC, dI)) (ci := 1) (v := .int 0) (C := RJ4) (T := TJ4) (N := 4) hx hb hts (by decide +kernel) hown hK hR 0 rfl rfl 1 (by decide) (hts (.fieldLink RJ5 22 "java/lang/AbstractStringBuilder" "coder" "B") (by decide +kernel)) (fun _ h9 => h9) rfl dJ5_inflateIfNeededFor_a7421_7 ?_
  refine lv_aload_n hx hb dJ5_inflateIfNeededFor_a7421_10 rfl (lv_at hl 1 rfl) ?_
  have hPc := (hP.app hR).sub (ws' := [] ++ []) [] rfl
  have hDc := (en_DD hD hDr hN0 hAb).sub (ws' := [] ++ []) [] (by decide) rfl
  have hKc := hK.sub (tys' := []) [] rfl
  have hFc := va_free (wc := []) hD hS hA [] rfl
  refine va_calli (va_runV (As := []) (rest := [.int 0]) ⟨hx, hb, hml, hown, hts⟩ (c_J0_coder l dC dI b0 en s.heap.size 5 (by decide)) (cwV 0 hts gJ5_inflateIfNeededFor_a7421_J0_coder_7d493 rfl rfl rfl (by decide +kernel) ⟨Nat.le_of_ble_eq_true rfl, Nat.le_of_ble_eq_true rfl⟩) ⟨cP.blind, (en_recv (hE.lit hAb 5 (by decide)).1 hS), cP.use (en_z hb0 hS) (hE.on hAb hS) hPc hKc hDc trivial⟩ rfl rfl hl.1 rfl (lv_room (Nat.le_of_ble_eq_true rfl)) dJ5_inflateIfNeededFor_a7421_11 ⟨Nat.le_of_ble_eq_true rfl, Nat.le_of_ble_eq_true rfl⟩) hS (fun q _ h => hFc q h) hFc (fun r_2 u t H1 locs ht hvm hw hB hz1 hk1 hS => ?_)
  have hP1 : va_P (dC, dI) vwCl [] H1 := fun k q h => by simp at h
  have hD1 : va_D (va_A [] s.heap.size) [] := ⟨fun i j p q h => by simp at h, fun k q h => by simp at h⟩
  try dsimp only at hw
  obtain ⟨hP, hD⟩ := va_join (wr := []) (w1 := []) hP hD [] [] rfl rfl (by decide) (by decide) hk1 hFc hP1 hD1
  generalize H1 = H at hP hS ⊢
  have hP : va_P (dC, dI) vwCl [] H := hP
  have hD : va_D A [] := hD
  have hR := en_R hR0 hN0 hS
  refine W.widen (k := 0) (n := 0) (Nat.le_of_ble_eq_true rfl) (Nat.le_of_ble_eq_true rfl) ?_
  subst r_2
  refine lv_icmp_eq (tgt := 21) hx hb dJ5_inflateIfNeededFor_a7421_14 (by first | decide | rfl) (fun c_3 => ?_) (fun c_3 => absurd c_3 (by decide))
  refine W.widen (k := 0) (n := 0) (Nat.le_of_ble_eq_true rfl) (Nat.le_of_ble_eq_true rfl) ?_
  exact W.vret hx hb hr (fun t ht hW => ⟨⟨(), rfl, trivial, trivial⟩, hS.F ht⟩) hS.2.2 dJ5_inflateIfNeededFor_a7421_21

set_option maxHeartbeats 4000000 in
set_option maxRecDepth 100000 in
/-- "".getBytes into the row -/
theorem c_getBytes (l : Launch) (dC : Nat → ClassId) (dI : Nat → Nat → Nat) (b0 : Nat) (en : EnT) (sz : Nat) (va : Nat) (kV : ClassId) (fV : Nat → Int32) (hfit : bfit fV) : Met l yJ0_getBytes_840e7 wsJ0_getBytes_840e7 ({ frames := 1, cells := 0, slots := 0, locals := 40 } : Room) (cP b0 en (dC, dI) [(kV, .byte)] [(va, .inl (kV, 16, .inl fV))] [] sz (fun _ => True) [.ref (en.1 5), .ref va, .int 0, .int 0]) (va_Qv (fun u : Nat → Int32 => bfit u) (fun u t => cB (dC, dI) [] [(va, .inl (kV, 16, .inl u))] (va_A [(va, .inl (kV, 16, .inl fV))] sz) (fun _ => True) t) (va_A [(va, .inl (kV, 16, .inl fV))] sz)) 0 0 (va_A [(va, .inl (kV, 16, .inl fV))] sz) := by
  refine Met.ofW (cc := cJ0_getBytes_840e7) (maxL := 4) (ret := none) (by decide) rfl ?_
  intro p e s m args below meth c s₁ B hml hv
  obtain ⟨rfl, hsz, hb0, hE, hPP, hK, hDD, hF0⟩ := hv
  have hx := B.exec
  have hb := B.bytes
  have hr := B.returns
  have hts := atoms_spec (ws := wsJ0_getBytes_840e7) B.pre
  have hown : s.vm.findClass RJ0 = some m.cls := findClass_of_methodNamed B.named
  have hlocks := B.notSynchronized
  subst hsz
  have hN0 := en_N hPP hDD rfl
  have hP : va_P (dC, dI) vwCl [(va, .inl (kV, 16, .inl fV))] s.heap := hPP.sub [0] rfl
  have hR0 : va_P (dC, dI) vwCl [] s.heap := hPP.sub [] rfl
  have hD0 : va_D (fun q => b0 ≤ q) [(va, .inl (kV, 16, .inl fV))] := hDD.sub [0] (by decide) rfl
  have hDr : va_D (fun q => b0 ≤ q) [] := hDD.sub [] (by decide) rfl
  have hAb := en_A (sz := s.heap.size) hD0 hb0
  have hD := hD0.self (sz := s.heap.size)
  generalize hAe : va_A [(va, .inl (kV, 16, .inl fV))] s.heap.size = A at hD hAb hN0 ⊢
  have hA : ∀ q : Nat, s.heap.size ≤ q → A q := fun q h => by rw [← hAe]; exact Or.inr h
  have hS : va_S A s.heap s.heap [] := va_S.rf
  have hR := hR0
  have hl := lv_entry [.ref (en.1 5), .ref va, .int 0, .int 0] (n := 4) (Nat.le_of_ble_eq_true rfl)
  rw [lg_entry_eq]
  generalize (lg_sl [.ref (en.1 5), .ref va, .int 0, .int 0] ++ List.replicate (4 - (lg_sl [.ref (en.1 5), .ref va, .int 0, .int 0]).length) Slot.unset).toArray = ls at hl ⊢
  have hl : lv_has ls 4 [(0, .ref (en.1 5)), (1, .ref va), (2, .int 0), (3, .int 0)] := hl
  refine lv_aload_n hx hb dJ0_getBytes_840e7_0 rfl (lv_at hl 0 rfl) ?_
  have hPc := (hP.app hR).sub (ws' := [] ++ []) [] rfl
  have hDc := (en_DD hD hDr hN0 hAb).sub (ws' := [] ++ []) [] (by decide) rfl
  have hKc := hK.sub (tys' := []) [] rfl
  have hFc := va_free (wc := []) hD hS hA [] rfl
  refine va_calli (va_runV (As := []) (rest := []) ⟨hx, hb, hml, hown, hts⟩ (c_J0_coder l dC dI b0 en s.heap.size 5 (by decide)) (cwV 0 hts gJ0_getBytes_840e7_J0_coder_7d493 rfl rfl rfl (by decide +kernel) ⟨Nat.le_of_ble_eq_true rfl, Nat.le_of_ble_eq_true rfl⟩) ⟨cP.blind, (en_recv (hE.lit hAb 5 (by decide)).1 hS), cP.use (en_z hb0 hS) (hE.on hAb hS) hPc hKc hDc trivial⟩ rfl rfl hl.1 rfl (lv_room (Nat.le_of_ble_eq_true rfl)) dJ0_getBytes_840e7_1 ⟨Nat.le_of_ble_eq_true rfl, Nat.le_of_ble_eq_true rfl⟩) hS (fun q _ h => hFc q h) hFc (fun r_1 u t H1 locs ht hvm hw hB hz1 hk1 hS => ?_)
  have hP1 : va_P (dC, dI) vwCl [] H1 := fun k q h => by simp at h
  have hD1 : va_D (va_A [] s.heap.size) [] := ⟨fun i j p q h => by simp at h, fun k q h => by simp at h⟩
  try dsimp only at hw
  obtain ⟨hP, hD⟩ := va_join (wr := [(va, .inl (kV, 16, .inl fV))]) (w1 := []) hP hD [] [0] rfl rfl (by decide) (by decide) hk1 hFc hP1 hD1
  generalize H1 = H at hP hS ⊢
  have hP : va_P (dC, dI) vwCl [(va, .inl (kV, 16, .inl fV))] H := hP
  have hD : va_D A [(va, .inl (kV, 16, .inl fV))] := hD
  have hR : va_P (dC, dI) vwCl [] H := fun k q h => by simp at h
  refine W.widen (k := 0) (n := 0) (Nat.le_of_ble_eq_true rfl) (Nat.le_of_ble_eq_true rfl) ?_
  subst r_1
  refine lv_iload_n hx hb dJ0_getBytes_840e7_4 rfl (lv_at hl 3 rfl) ?_
  refine lv_icmp_ne (tgt := 28) hx hb dJ0_getBytes_840e7_5 (by first | decide | rfl) (fun c_2 => absurd c_2 (by decide)) (fun c_2 => ?_)
  refine lv_aload_n hx hb dJ0_getBytes_840e7_8 rfl (lv_at hl 0 rfl) ?_
  refine vk_getf hx hb (hE.lit hAb 5 (by decide)).2.2.1 hS hown (hts (.fieldLink RJ0 9 "java/lang/String" "value" "[B") (by decide +kernel)) (fun _ h9 => h9) dJ0_getBytes_840e7_9 ?_
  refine lv_iconst (v := 0) hx hb dJ0_getBytes_840e7_12 (by decide) ?_
  refine lv_aload_n hx hb dJ0_getBytes_840e7_13 rfl (lv_at hl 1 rfl) ?_
  refine lv_iload_n hx hb dJ0_getBytes_840e7_14 rfl (lv_at hl 2 rfl) ?_
  refine lv_iload_n hx hb dJ0_getBytes_840e7_15 rfl (lv_at hl 3 rfl) ?_
  refine lv_ishl hx hb dJ0_getBytes_840e7_16 ?_
  refine lv_topi (fun x_3 ex_3 => ?_)
  obtain rfl : x_3 = 0 := ex_3.trans (by decide)
  refine lv_aload_n hx hb dJ0_getBytes_840e7_17 rfl (lv_at hl 0 rfl) ?_
  refine vk_getf hx hb (hE.lit hAb 5 (by decide)).2.2.1 hS hown (hts (.fieldLink RJ0 9 "java/lang/String" "value" "[B") (by decide +kernel)) (fun _ h9 => h9) dJ0_getBytes_840e7_18 ?_
  refine va_tlen hx hb (hE.lit hAb 5 (by decide)).2.2.2 hS (v := nI (List.length (en_B.getD 5 []))) rfl dJ0_getBytes_840e7_21 ?_
  refine lv_topv (w := .int 0) rfl ?_
  refine vk_copyt hx hb (hml.trans hl.1.symm) hown (hts (.methodLink RJ0 212 arraycopyName) (by decide +kernel)) (hts (.native arraycopyName) (by decide +kernel)) (hts (.static arraycopyName) (by decide +kernel)) (hts (.initialized "java/lang/System") (by decide +kernel)) hK hP hD hS (hE.lit hAb 5 (by decide)).2.2.2 0 0 rfl rfl (by decide) (by decide) (by decide) (by decide) (by decide) (fun i9 h9 => absurd h9 (Nat.not_lt_zero i9)) (Nat.le_of_ble_eq_true rfl) (Nat.le_of_ble_eq_true rfl) dJ0_getBytes_840e7_22 (fun H locs hP hD hS => ?_)
  generalize hP_f_4 : va_cpy _ fV _ _ _ = f_4 at hP hD
  have hP : va_P (dC, dI) vwCl [(va, .inl (kV, 16, .inl f_4))] H := hP
  have hD : va_D A [(va, .inl (kV, 16, .inl f_4))] := hD
  have hR : va_P (dC, dI) vwCl [] H := fun k q h => by simp at h
  refine lv_goto (tgt := 43) hx hb dJ0_getBytes_840e7_25 (by first | decide | rfl) ?_
  refine W.widen (k := 0) (n := 0) (Nat.le_of_ble_eq_true rfl) (Nat.le_of_ble_eq_true rfl) ?_
  exact W.vret hx hb hr (fun t ht hW => ⟨⟨f_4, rfl, (by rw [← hP_f_4]; exact bfit_cpy0 hfit), cB.mk ht hW (hP.sub [0] rfl) (hK.sub [] rfl) (hD.sub [0] (by decide) rfl) (trivial)⟩, hS.F ht⟩) hS.2.2 dJ0_getBytes_840e7_43

set_option maxHeartbeats 4000000 in
set_option maxRecDepth 100000 in
/-- putStringAt(0, "") -/
theorem c_putS (l : Launch) (dC : Nat → ClassId) (dI : Nat → Nat → Nat) (b0 : Nat) (en : EnT) (sz : Nat) (sb va : Nat) (kV : ClassId) (fV : Nat → Int32) (hfit : bfit fV) : Met l yJ5_putStringAt_47b60 wsJ5_putStringAt_47b60 ({ frames := 2, cells := 0, slots := 0, locals := 63 } : Room) (cP b0 en (dC, dI) [(kV, .byte)] [(sb, .inr (1, [.ref va, .int 0, .int 0, .int 0])), (va, .inl (kV, 16, .inl fV))] [] sz (fun _ => True) [.ref sb, .int 0, .ref (en.1 5)]) (va_Qv (fun u : Nat → Int32 => bfit u) (fun u t => cB (dC, dI) [] [(sb, .inr (1, [.ref va, .int 0, .int 0, .int 0])), (va, .inl (kV, 16, .inl u))] (va_A [(sb, .inr (1, [.ref va, .int 0, .int 0, .int 0])), (va, .inl (kV, 16, .inl fV))] sz) (fun _ => True) t) (va_A [(sb, .inr (1, [.ref va, .int 0, .int 0, .int 0])), (va, .inl (kV, 16, .inl fV))] sz)) 0 0 (va_A [(sb, .inr (1, [.ref va, .int 0, .int 0, .int 0])), (va, .inl (kV, 16, .inl fV))] sz) := by
  refine Met.ofW (cc := cJ5_putStringAt_47b60) (maxL := 3) (ret := none) (by decide) rfl ?_
  intro p e s m args below meth c s₁ B hml hv
  obtain ⟨rfl, hsz, hb0, hE, hPP, hK, hDD, hF0⟩ := hv
  have hx := B.exec
  have hb := B.bytes
  have hr := B.returns
  have hts := atoms_spec (ws := wsJ5_putStringAt_47b60) B.pre
  have hown : s.vm.findClass RJ5 = some m.cls := findClass_of_methodNamed B.named
  have hlocks := B.notSynchronized
  subst hsz
  have hN0 := en_N hPP hDD rfl
  have hP : va_P (dC, dI) vwCl [(sb, .inr (1, [.ref va, .int 0, .int 0, .int 0])), (va, .inl (kV, 16, .inl fV))] s.heap := hPP.sub [0, 1] rfl
  have hR0 : va_P (dC, dI) vwCl [] s.heap := hPP.sub [] rfl
  have hD0 : va_D (fun q => b0 ≤ q) [(sb, .inr (1, [.ref va, .int 0, .int 0, .int 0])), (va, .inl (kV, 16, .inl fV))] := hDD.sub [0, 1] (by decide) rfl
  have hDr : va_D (fun q => b0 ≤ q) [] := hDD.sub [] (by decide) rfl
  have hAb := en_A (sz := s.heap.size) hD0 hb0
  have hD := hD0.self (sz := s.heap.size)
  generalize hAe : va_A [(sb, .inr (1, [.ref va, .int 0, .int 0, .int 0])), (va, .inl (kV, 16, .inl fV))] s.heap.size = A at hD hAb hN0 ⊢
  have hA : ∀ q : Nat, s.heap.size ≤ q → A q := fun q h => by rw [← hAe]; exact Or.inr h
  have hS : va_S A s.heap s.heap [] := va_S.rf
  have hR := hR0
  have hl := lv_entry [.ref sb, .int 0, .ref (en.1 5)] (n := 3) (Nat.le_of_ble_eq_true rfl)
  rw [lg_entry_eq]
  generalize (lg_sl [.ref sb, .int 0, .ref (en.1 5)] ++ List.replicate (3 - (lg_sl [.ref sb, .int 0, .ref (en.1 5)]).length) Slot.unset).toArray = ls at hl ⊢
  have hl : lv_has ls 3 [(0, .ref sb), (1, .int 0), (2, .ref (en.1 5))] := hl
  refine lv_aload_n hx hb dJ5_putStringAt_47b60_0 rfl (lv_at hl 0 rfl) ?_
  refine lv_aload_n hx hb dJ5_putStringAt_47b60_1 rfl (lv_at hl 2 rfl) ?_
  have hPc := (hP.app hR).sub (ws' := [] ++ [(sb, .inr (1, [.ref va, .int 0, .int 0, .int 0])), (va, .inl (kV, 16, .inl fV))]) [0, 1] rfl
  have hDc := (en_DD hD hDr hN0 hAb).sub (ws' := [] ++ [(sb, .inr (1, [.ref va, .int 0, .int 0, .int 0])), (va, .inl (kV, 16, .inl fV))]) [0, 1] (by decide) rfl
  have hKc := hK.sub (tys' := [(kV, .byte)]) [0] rfl
  have hFc := va_free (wc := []) hD hS hA [] rfl
  refine va_callv (va_runU (As := [.ref (en.1 5)]) (rest := []) ⟨hx, hb, hml, hown, hts⟩ (c_infl l dC dI b0 en s.heap.size sb va kV fV 0) (va_cwU 1 hts gJ5_putStringAt_47b60_J5_inflateIfNeededFor_a7421_u397J4 rfl rfl rfl rfl (by decide +kernel) ⟨Nat.le_of_ble_eq_true rfl, Nat.le_of_ble_eq_true rfl⟩) ⟨cP.blind, va_recv hK hP (ci := 1) (q0 := 0) rfl rfl, cP.use (en_z hb0 hS) (hE.on hAb hS) hPc hKc hDc trivial⟩ rfl rfl hl.1 rfl (lv_room (Nat.le_of_ble_eq_true rfl)) dJ5_putStringAt_47b60_2 ⟨Nat.le_of_ble_eq_true rfl, Nat.le_of_ble_eq_true rfl⟩) hS (fun q _ h => hFc q h) hFc (fun u t H1 locs ht hvm hw hB hz1 hk1 hS => ?_)
  have hP1 : va_P (dC, dI) vwCl [] H1 := fun k q h => by simp at h
  have hD1 : va_D (va_A [] s.heap.size) [] := ⟨fun i j p q h => by simp at h, fun k q h => by simp at h⟩
  try dsimp only at hw
  obtain ⟨hP, hD⟩ := va_join (wr := [(sb, .inr (1, [.ref va, .int 0, .int 0, .int 0])), (va, .inl (kV, 16, .inl fV))]) (w1 := []) hP hD [] [0, 1] rfl rfl (by decide) (by decide) hk1 hFc hP1 hD1
  generalize H1 = H at hP hS ⊢
  have hP : va_P (dC, dI) vwCl [(sb, .inr (1, [.ref va, .int 0, .int 0, .int 0])), (va, .inl (kV, 16, .inl fV))] H := hP
  have hD : va_D A [(sb, .inr (1, [.ref va, .int 0, .int 0, .int 0])), (va, .inl (kV, 16, .inl fV))] := hD
  have hR : va_P (dC, dI) vwCl [] H := fun k q h => by simp at h
  refine W.widen (k := 0) (n := 0) (Nat.le_of_ble_eq_true rfl) (Nat.le_of_ble_eq_true rfl) ?_
  refine lv_aload_n hx hb dJ5_putStringAt_47b60_5 rfl (lv_at hl 2 rfl) ?_
  refine lv_aload_n hx hb dJ5_putStringAt_47b60_6 rfl (lv_at hl 0 rfl) ?_
  refine va_get (D := (dC, dI)) (ci := 1) (v := .ref va) (C := RJ4) (T := TJ4) (N := 4) hx hb hts (by decide +kernel) hown hK hP 0 rfl rfl 0 (by decide) (hts (.fieldLink RJ5 15 "java/lang/AbstractStringBuilder" "value" "[B") (by decide +kernel)) (fun _ h9 => h9) rfl dJ5_putStringAt_47b60_7 ?_
  refine lv_iload_n hx hb dJ5_putStringAt_47b60_10 rfl (lv_at hl 1 rfl) ?_
  refine lv_aload_n hx hb dJ5_putStringAt_47b60_11 rfl (lv_at hl 0 rfl) ?_
  refine va_get (D := (dC, dI)) (ci := 1) (v := .int 0) (C := RJ4) (T := TJ4) (N := 4) hx hb hts (by decide +kernel) hown hK hP 0 rfl rfl 1 (by decide) (hts (.fieldLink RJ5 22 "java/lang/AbstractStringBuilder" "coder" "B") (by decide +kernel)) (fun _ h9 => h9) rfl dJ5_putStringAt_47b60_12 ?_
  have hPc := (hP.app hR).sub (ws' := [(va, .inl (kV, 16, .inl fV))] ++ []) [1] rfl
  have hDc := (en_DD hD hDr hN0 hAb).sub (ws' := [(va, .inl (kV, 16, .inl fV))] ++ []) [1] (by decide) rfl
  have hKc := hK.sub (tys' := [(kV, .byte)]) [0] rfl
  have hFc := va_free (wc := [(va, .inl (kV, 16, .inl fV))]) hD hS hA [1] rfl
  refine va_callv (va_runV (As := [.ref va, .int 0, .int 0]) (rest := []) ⟨hx, hb, hml, hown, hts⟩ (c_getBytes l dC dI b0 en H.size va kV fV hfit) (cwV 3 hts gJ5_putStringAt_47b60_J0_getBytes_840e7 rfl rfl rfl (by decide +kernel) ⟨Nat.le_of_ble_eq_true rfl, Nat.le_of_ble_eq_true rfl⟩) ⟨cP.blind, (en_recv (hE.lit hAb 5 (by decide)).1 hS), cP.use (en_z hb0 hS) (hE.on hAb hS) hPc hKc hDc trivial⟩ rfl rfl hl.1 rfl (lv_room (Nat.le_of_ble_eq_true rfl)) dJ5_putStringAt_47b60_15 ⟨Nat.le_of_ble_eq_true rfl, Nat.le_of_ble_eq_true rfl⟩) hS (fun q _ h => hFc q h) hFc (fun u_2 t H1 locs ht hvm hw hB hz1 hk1 hS => ?_)
  obtain ⟨hP1, hK1, hD1, hF1⟩ := hB
  rw [ht] at hP1
  try rw [ht] at hF1
  have hK1 := va_K.moved hvm.symm hK1
  try dsimp only at hw
  obtain ⟨hP, hD⟩ := va_join (wr := [(sb, .inr (1, [.ref va, .int 0, .int 0, .int 0]))]) (w1 := [(va, .inl (kV, 16, .inl u_2))]) hP hD [1] [0] rfl rfl (by decide) (by decide) hk1 hFc hP1 hD1
  generalize H1 = H at hP hS ⊢
  have hP : va_P (dC, dI) vwCl [(sb, .inr (1, [.ref va, .int 0, .int 0, .int 0])), (va, .inl (kV, 16, .inl u_2))] H := hP
  have hD : va_D A [(sb, .inr (1, [.ref va, .int 0, .int 0, .int 0])), (va, .inl (kV, 16, .inl u_2))] := hD
  have hR : va_P (dC, dI) vwCl [] H := fun k q h => by simp at h
  refine W.widen (k := 0) (n := 0) (Nat.le_of_ble_eq_true rfl) (Nat.le_of_ble_eq_true rfl) ?_
  have h_4 := hw
  refine W.widen (k := 0) (n := 0) (Nat.le_of_ble_eq_true rfl) (Nat.le_of_ble_eq_true rfl) ?_
  exact W.vret hx hb hr (fun t ht hW => ⟨⟨u_2, rfl, h_4, cB.mk ht hW (hP.sub [0, 1] rfl) (hK.sub [] rfl) (hD.sub [0, 1] (by decide) rfl) (trivial)⟩, hS.F ht⟩) hS.2.2 dJ5_putStringAt_47b60_18
theorem z_c_appS5_206 (fV : Nat → Int32) (a_0 : bfit fV) : (0 : Int32) ≤ 0 := by grind
theorem z_c_appS5_207 (fV : Nat → Int32) (a_0 : bfit fV) : (0 : Int32) ≤ 4 := by grind
set_option maxHeartbeats 4000000 in
set_option maxRecDepth 100000 in
/-- append("") -/
theorem c_appS5 (l : Launch) (dC : Nat → ClassId) (dI : Nat → Nat → Nat) (b0 : Nat) (en : EnT) (sz : Nat) (sb va : Nat) (kV : ClassId) (fV : Nat → Int32) (hfit : bfit fV) : Met l yJ5_append_cf1ce wsJ5_append_cf1ce ({ frames := 3, cells := 0, slots := 0, locals := 85 } : Room) (cP b0 en (dC, dI) [(kV, .byte)] [(sb, .inr (1, [.ref va, .int 0, .int 0, .int 0])), (va, .inl (kV, 16, .inl fV))] [] sz (fun _ => True) [.ref sb, .ref (en.1 5)]) (va_Qq (fun (r : Option Nat) (u : Nat → Int32) => r = some sb ∧ bfit u) (fun u t => cB (dC, dI) [] [(sb, .inr (1, [.ref va, .int 0, .int 0, .int 0])), (va, .inl (kV, 16, .inl u))] (va_A [(sb, .inr (1, [.ref va, .int 0, .int 0, .int 0])), (va, .inl (kV, 16, .inl fV))] sz) (fun _ => True) t) (va_A [(sb, .inr (1, [.ref va, .int 0, .int 0, .int 0])), (va, .inl (kV, 16, .inl fV))] sz)) 0 0 (va_A [(sb, .inr (1, [.ref va, .int 0, .int 0, .int 0])), (va, .inl (kV, 16, .inl fV))] sz) := by
  refine Met.ofW (cc := cJ5_append_cf1ce) (maxL := 3) (ret := (some (.object "java/lang/AbstractStringBuilder"))) (by decide) rfl ?_
  intro p e s m args below meth c s₁ B hml hv
  obtain ⟨rfl, hsz, hb0, hE, hPP, hK, hDD, hF0⟩ := hv
  have hx := B.exec
  have hb := B.bytes
  have hr := B.returns
  have hts := atoms_spec (ws := wsJ5_append_cf1ce) B.pre
  have hown : s.vm.findClass RJ5 = some m.cls := findClass_of_methodNamed B.named
  have hlocks := B.notSynchronized
  subst hsz
  have hN0 := en_N hPP hDD rfl
  have hP : va_P (dC, dI) vwCl [(sb, .inr (1, [.ref va, .int 0, .int 0, .int 0])), (va, .inl (kV, 16, .inl fV))] s.heap := hPP.sub [0, 1] rfl
  have hR0 : va_P (dC, dI) vwCl [] s.heap := hPP.sub [] rfl
  have hD0 : va_D (fun q => b0 ≤ q) [(sb, .inr (1, [.ref va, .int 0, .int 0, .int 0])), (va, .inl (kV, 16, .inl fV))] := hDD.sub [0, 1] (by decide) rfl
  have hDr : va_D (fun q => b0 ≤ q) [] := hDD.sub [] (by decide) rfl
  have hAb := en_A (sz := s.heap.size) hD0 hb0
  have hD := hD0.self (sz := s.heap.size)
  generalize hAe : va_A [(sb, .inr (1, [.ref va, .int 0, .int 0, .int 0])), (va, .inl (kV, 16, .inl fV))] s.heap.size = A at hD hAb hN0 ⊢
  have hA : ∀ q : Nat, s.heap.size ≤ q → A q := fun q h => by rw [← hAe]; exact Or.inr h
  have hS : va_S A s.heap s.heap [] := va_S.rf
  have hR := hR0
  have hl := lv_entry [.ref sb, .ref (en.1 5)] (n := 3) (Nat.le_of_ble_eq_true rfl)
  rw [lg_entry_eq]
  generalize (lg_sl [.ref sb, .ref (en.1 5)] ++ List.replicate (3 - (lg_sl [.ref sb, .ref (en.1 5)]).length) Slot.unset).toArray = ls at hl ⊢
  have hl : lv_has ls 3 [(0, .ref sb), (1, .ref (en.1 5))] := hl
  refine lv_aload_n hx hb dJ5_append_cf1ce_0 rfl (lv_at hl 1 rfl) ?_
  refine lv_ifnonnull (tgt := 9) hx hb dJ5_append_cf1ce_1 (by first | decide | rfl) ?_
  refine lv_aload_n hx hb dJ5_append_cf1ce_9 rfl (lv_at hl 1 rfl) ?_
  have hPc := (hP.app hR).sub (ws' := [] ++ []) [] rfl
  have hDc := (en_DD hD hDr hN0 hAb).sub (ws' := [] ++ []) [] (by decide) rfl
  have hKc := hK.sub (tys' := []) [] rfl
  have hFc := va_free (wc := []) hD hS hA [] rfl
  refine va_calli (va_runV (As := []) (rest := []) ⟨hx, hb, hml, hown, hts⟩ (c_J0_length l dC dI b0 en s.heap.size 5 (by decide)) (cwV 0 hts gJ5_append_cf1ce_J0_length_8abf5 rfl rfl rfl (by decide +kernel) ⟨Nat.le_of_ble_eq_true rfl, Nat.le_of_ble_eq_true rfl⟩) ⟨cP.blind, (en_recv (hE.lit hAb 5 (by decide)).1 hS), cP.use (en_z hb0 hS) (hE.on hAb hS) hPc hKc hDc trivial⟩ rfl rfl hl.1 rfl (lv_room (Nat.le_of_ble_eq_true rfl)) dJ5_append_cf1ce_10 ⟨Nat.le_of_ble_eq_true rfl, Nat.le_of_ble_eq_true rfl⟩) hS (fun q _ h => hFc q h) hFc (fun r_1 u t H1 locs ht hvm hw hB hz1 hk1 hS => ?_)
  have hP1 : va_P (dC, dI) vwCl [] H1 := fun k q h => by simp at h
  have hD1 : va_D (va_A [] s.heap.size) [] := ⟨fun i j p q h => by simp at h, fun k q h => by simp at h⟩
  try dsimp only at hw
  obtain ⟨hP, hD⟩ := va_join (wr := [(sb, .inr (1, [.ref va, .int 0, .int 0, .int 0])), (va, .inl (kV, 16, .inl fV))]) (w1 := []) hP hD [] [0, 1] rfl rfl (by decide) (by decide) hk1 hFc hP1 hD1
  generalize H1 = H at hP hS ⊢
  have hP : va_P (dC, dI) vwCl [(sb, .inr (1, [.ref va, .int 0, .int 0, .int 0])), (va, .inl (kV, 16, .inl fV))] H := hP
  have hD : va_D A [(sb, .inr (1, [.ref va, .int 0, .int 0, .int 0])), (va, .inl (kV, 16, .inl fV))] := hD
  have hR : va_P (dC, dI) vwCl [] H := fun k q h => by simp at h
  refine W.widen (k := 0) (n := 0) (Nat.le_of_ble_eq_true rfl) (Nat.le_of_ble_eq_true rfl) ?_
  subst r_1
  refine lv_topv (w := .int 0) rfl ?_
  refine lv_istore_n (lv' := [(2, .int 0), (0, .ref sb), (1, .ref (en.1 5))]) hx hb dJ5_append_cf1ce_13 rfl hl (by decide) rfl (fun ls hl => ?_)
  refine lv_aload_n hx hb dJ5_append_cf1ce_14 rfl (lv_at hl 1 rfl) ?_
  refine lv_aload_n hx hb dJ5_append_cf1ce_15 rfl (lv_at hl 1 rfl) ?_
  refine va_get (D := (dC, dI)) (ci := 1) (v := .int 0) (C := RJ4) (T := TJ4) (N := 4) hx hb hts (by decide +kernel) hown hK hP 0 rfl rfl 3 (by decide) (hts (.fieldLink RJ5 79 "java/lang/AbstractStringBuilder" "count" "I") (by decide +kernel)) (fun _ h9 => h9) rfl dJ5_append_cf1ce_16 ?_
  refine lv_iload_n hx hb dJ5_append_cf1ce_19 rfl (lv_at hl 0 rfl) ?_
  refine lv_iadd hx hb dJ5_append_cf1ce_20 ?_
  refine lv_topi (fun x_2 ex_2 => ?_)
  obtain rfl : x_2 = 0 := ex_2.trans (by decide)
  have hPc := (hP.app hR).sub (ws' := [] ++ [(sb, .inr (1, [.ref va, .int 0, .int 0, .int 0])), (va, .inl (kV, 16, .inl fV))]) [0, 1] rfl
  have hDc := (en_DD hD hDr hN0 hAb).sub (ws' := [] ++ [(sb, .inr (1, [.ref va, .int 0, .int 0, .int 0])), (va, .inl (kV, 16, .inl fV))]) [0, 1] (by decide) rfl
  have hKc := hK.sub (tys' := [(kV, .byte)]) [0] rfl
  have hFc := va_free (wc := []) hD hS hA [] rfl
  refine va_callv (va_runU (As := [.int 0]) (rest := []) ⟨hx, hb, hml, hown, hts⟩ (c_ens l dC dI b0 en H.size sb va kV fV 0 0 (z_c_appS5_206 fV hfit) (z_c_appS5_207 fV hfit)) (va_cwU 1 hts gJ5_append_cf1ce_J5_ensureCapacityInternal_d00df_u100J4 rfl rfl rfl rfl (by decide +kernel) ⟨Nat.le_of_ble_eq_true rfl, Nat.le_of_ble_eq_true rfl⟩) ⟨cP.blind, va_recv hK hP (ci := 1) (q0 := 0) rfl rfl, cP.use (en_z hb0 hS) (hE.on hAb hS) hPc hKc hDc trivial⟩ rfl rfl hl.1 rfl (lv_room (Nat.le_of_ble_eq_true rfl)) dJ5_append_cf1ce_21 ⟨Nat.le_of_ble_eq_true rfl, Nat.le_of_ble_eq_true rfl⟩) hS (fun q _ h => hFc q h) hFc (fun u t H1 locs ht hvm hw hB hz1 hk1 hS => ?_)
  have hP1 : va_P (dC, dI) vwCl [] H1 := fun k q h => by simp at h
  have hD1 : va_D (va_A [] H.size) [] := ⟨fun i j p q h => by simp at h, fun k q h => by simp at h⟩
  try dsimp only at hw
  obtain ⟨hP, hD⟩ := va_join (wr := [(sb, .inr (1, [.ref va, .int 0, .int 0, .int 0])), (va, .inl (kV, 16, .inl fV))]) (w1 := []) hP hD [] [0, 1] rfl rfl (by decide) (by decide) hk1 hFc hP1 hD1
  generalize H1 = H at hP hS ⊢
  have hP : va_P (dC, dI) vwCl [(sb, .inr (1, [.ref va, .int 0, .int 0, .int 0])), (va, .inl (kV, 16, .inl fV))] H := hP
  have hD : va_D A [(sb, .inr (1, [.ref va, .int 0, .int 0, .int 0])), (va, .inl (kV, 16, .inl fV))] := hD
  have hR : va_P (dC, dI) vwCl [] H := fun k q h => by simp at h
  refine W.widen (k := 0) (n := 0) (Nat.le_of_ble_eq_true rfl) (Nat.le_of_ble_eq_true rfl) ?_
  refine lv_aload_n hx hb dJ5_append_cf1ce_24 rfl (lv_at hl 1 rfl) ?_
  refine lv_aload_n hx hb dJ5_append_cf1ce_25 rfl (lv_at hl 1 rfl) ?_
  refine va_get (D := (dC, dI)) (ci := 1) (v := .int 0) (C := RJ4) (T := TJ4) (N := 4) hx hb hts (by decide +kernel) hown hK hP 0 rfl rfl 3 (by decide) (hts (.fieldLink RJ5 79 "java/lang/AbstractStringBuilder" "count" "I") (by decide +kernel)) (fun _ h9 => h9) rfl dJ5_append_cf1ce_26 ?_
  refine lv_aload_n hx hb dJ5_append_cf1ce_29 rfl (lv_at hl 2 rfl) ?_
  have hPc := (hP.app hR).sub (ws' := [(sb, .inr (1, [.ref va, .int 0, .int 0, .int 0])), (va, .inl (kV, 16, .inl fV))] ++ []) [0, 1] rfl
  have hDc := (en_DD hD hDr hN0 hAb).sub (ws' := [(sb, .inr (1, [.ref va, .int 0, .int 0, .int 0])), (va, .inl (kV, 16, .inl fV))] ++ []) [0, 1] (by decide) rfl
  have hKc := hK.sub (tys' := [(kV, .byte)]) [0] rfl
  have hFc := va_free (wc := [(sb, .inr (1, [.ref va, .int 0, .int 0, .int 0])), (va, .inl (kV, 16, .inl fV))]) hD hS hA [0, 1] rfl
  refine va_callv (va_runU (As := [.int 0, .ref (en.1 5)]) (rest := []) ⟨hx, hb, hml, hown, hts⟩ (c_putS l dC dI b0 en H.size sb va kV fV hfit) (va_cwU 2 hts gJ5_append_cf1ce_J5_putStringAt_47b60_u208J4 rfl rfl rfl rfl (by decide +kernel) ⟨Nat.le_of_ble_eq_true rfl, Nat.le_of_ble_eq_true rfl⟩) ⟨cP.blind, va_recv hK hP (ci := 1) (q0 := 0) rfl rfl, cP.use (en_z hb0 hS) (hE.on hAb hS) hPc hKc hDc trivial⟩ rfl rfl hl.1 rfl (lv_room (Nat.le_of_ble_eq_true rfl)) dJ5_append_cf1ce_30 ⟨Nat.le_of_ble_eq_true rfl, Nat.le_of_ble_eq_true rfl⟩) hS (fun q _ h => hFc q h) hFc (fun u_4 t H1 locs ht hvm hw hB hz1 hk1 hS => ?_)
  obtain ⟨hP1, hK1, hD1, hF1⟩ := hB
  rw [ht] at hP1
  try rw [ht] at hF1
  have hK1 := va_K.moved hvm.symm hK1
  try dsimp only at hw
  obtain ⟨hP, hD⟩ := va_join (wr := []) (w1 := [(sb, .inr (1, [.ref va, .int 0, .int 0, .int 0])), (va, .inl (kV, 16, .inl u_4))]) hP hD [0, 1] [] rfl rfl (by decide) (by decide) hk1 hFc hP1 hD1
  generalize H1 = H at hP hS ⊢
  have hP : va_P (dC, dI) vwCl [(sb, .inr (1, [.ref va, .int 0, .int 0, .int 0])), (va, .inl (kV, 16, .inl u_4))] H := hP
  have hD : va_D A [(sb, .inr (1, [.ref va, .int 0, .int 0, .int 0])), (va, .inl (kV, 16, .inl u_4))] := hD
  have hR : va_P (dC, dI) vwCl [] H := fun k q h => by simp at h
  refine W.widen (k := 0) (n := 0) (Nat.le_of_ble_eq_true rfl) (Nat.le_of_ble_eq_true rfl) ?_
  have h_6 := hw
  refine lv_aload_n hx hb dJ5_append_cf1ce_33 rfl (lv_at hl 1 rfl) ?_
  refine lv_dup hx hb dJ5_append_cf1ce_34 rfl ?_
  refine va_get (D := (dC, dI)) (ci := 1) (v := .int 0) (C := RJ4) (T := TJ4) (N := 4) hx hb hts (by decide +kernel) hown hK hP 0 rfl rfl 3 (by decide) (hts (.fieldLink RJ5 79 "java/lang/AbstractStringBuilder" "count" "I") (by decide +kernel)) (fun _ h9 => h9) rfl dJ5_append_cf1ce_35 ?_
  refine lv_iload_n hx hb dJ5_append_cf1ce_38 rfl (lv_at hl 0 rfl) ?_
  refine lv_iadd hx hb dJ5_append_cf1ce_39 ?_
  refine lv_topi (fun x_7 ex_7 => ?_)
  obtain rfl : x_7 = 0 := ex_7.trans (by decide)
  refine va_put (D := (dC, dI)) (ci := 1) (v := .int 0) (ty := .int) (C := RJ4) (T := TJ4) (N := 4) hx hb hts (by decide +kernel) tyJ4 tyJ4_ok nmJ4 hown hK hP hD hS 0 rfl rfl 3 (by decide) (hts (.fieldLink RJ5 79 "java/lang/AbstractStringBuilder" "count" "I") (by decide +kernel)) (fun _ h9 => h9) rfl (by decide +kernel) rfl rfl (Nat.le_of_ble_eq_true rfl) dJ5_append_cf1ce_40 (fun H locs hP hD hS => ?_)
  have hP : va_P (dC, dI) vwCl [(sb, .inr (1, [.ref va, .int 0, .int 0, .int 0])), (va, .inl (kV, 16, .inl u_4))] H := hP
  have hD : va_D A [(sb, .inr (1, [.ref va, .int 0, .int 0, .int 0])), (va, .inl (kV, 16, .inl u_4))] := hD
  have hR : va_P (dC, dI) vwCl [] H := fun k q h => by simp at h
  refine lv_aload_n hx hb dJ5_append_cf1ce_43 rfl (lv_at hl 1 rfl) ?_
  refine W.widen (k := 0) (n := 0) (Nat.le_of_ble_eq_true rfl) (Nat.le_of_ble_eq_true rfl) ?_
  exact W.aret (v := .ref sb) hx hb hr (by first | exact Or.inl ⟨_, rfl⟩ | exact Or.inr ⟨_, rfl⟩) (by first | exact Or.inl rfl | exact va_rf_or _ | exact Or.inr ⟨_, rfl⟩) (fun t ht hW => ⟨⟨(some sb), u_4, rfl, ⟨rfl, h_6⟩, cB.mk ht hW (hP.sub [0, 1] rfl) (hK.sub [] rfl) (hD.sub [0, 1] (by decide) rfl) (trivial)⟩, hS.F ht⟩) hS.2.2 dJ5_append_cf1ce_44

set_option maxHeartbeats 4000000 in
set_option maxRecDepth 100000 in
/-- append("") -/
theorem c_appS4 (l : Launch) (dC : Nat → ClassId) (dI : Nat → Nat → Nat) (b0 : Nat) (en : EnT) (sz : Nat) (sb va : Nat) (kV : ClassId) (fV : Nat → Int32) (hfit : bfit fV) : Met l yJ4_append_15ec4 wsJ4_append_15ec4 ({ frames := 4, cells := 0, slots := 0, locals := 107 } : Room) (cP b0 en (dC, dI) [(kV, .byte)] [(sb, .inr (1, [.ref va, .int 0, .int 0, .int 0])), (va, .inl (kV, 16, .inl fV))] [] sz (fun _ => True) [.ref sb, .ref (en.1 5)]) (va_Qq (fun (r : Option Nat) (u : Nat → Int32) => r = some sb ∧ bfit u) (fun u t => cB (dC, dI) [] [(sb, .inr (1, [.ref va, .int 0, .int 0, .int 0])), (va, .inl (kV, 16, .inl u))] (va_A [(sb, .inr (1, [.ref va, .int 0, .int 0, .int 0])), (va, .inl (kV, 16, .inl fV))] sz) (fun _ => True) t) (va_A [(sb, .inr (1, [.ref va, .int 0, .int 0, .int 0])), (va, .inl (kV, 16, .inl fV))] sz)) 0 0 (va_A [(sb, .inr (1, [.ref va, .int 0, .int 0, .int 0])), (va, .inl (kV, 16, .inl fV))] sz) := by
  refine Met.ofW (cc := cJ4_append_15ec4) (maxL := 2) (ret := (some (.object "java/lang/StringBuilder"))) (by decide) rfl ?_
  intro p e s m args below meth c s₁ B hml hv
  obtain ⟨rfl, hsz, hb0, hE, hPP, hK, hDD, hF0⟩ := hv
  have hx := B.exec
  have hb := B.bytes
  have hr := B.returns
  have hts := atoms_spec (ws := wsJ4_append_15ec4) B.pre
  have hown : s.vm.findClass RJ4 = some m.cls := findClass_of_methodNamed B.named
  have hlocks := B.notSynchronized
  subst hsz
  have hN0 := en_N hPP hDD rfl
  have hP : va_P (dC, dI) vwCl [(sb, .inr (1, [.ref va, .int 0, .int 0, .int 0])), (va, .inl (kV, 16, .inl fV))] s.heap := hPP.sub [0, 1] rfl
  have hR0 : va_P (dC, dI) vwCl [] s.heap := hPP.sub [] rfl
  have hD0 : va_D (fun q => b0 ≤ q) [(sb, .inr (1, [.ref va, .int 0, .int 0, .int 0])), (va, .inl (kV, 16, .inl fV))] := hDD.sub [0, 1] (by decide) rfl
  have hDr : va_D (fun q => b0 ≤ q) [] := hDD.sub [] (by decide) rfl
  have hAb := en_A (sz := s.heap.size) hD0 hb0
  have hD := hD0.self (sz := s.heap.size)
  generalize hAe : va_A [(sb, .inr (1, [.ref va, .int 0, .int 0, .int 0])), (va, .inl (kV, 16, .inl fV))] s.heap.size = A at hD hAb hN0 ⊢
  have hA : ∀ q : Nat, s.heap.size ≤ q → A q := fun q h => by rw [← hAe]; exact Or.inr h
  have hS : va_S A s.heap s.heap [] := va_S.rf
  have hR := hR0
  have hl := lv_entry [.ref sb, .ref (en.1 5)] (n := 2) (Nat.le_of_ble_eq_true rfl)
  rw [lg_entry_eq]
  generalize (lg_sl [.ref sb, .ref (en.1 5)] ++ List.replicate (2 - (lg_sl [.ref sb, .ref (en.1 5)]).length) Slot.unset).toArray = ls at hl ⊢
  have hl : lv_has ls 2 [(0, .ref sb), (1, .ref (en.1 5))] := hl
  refine lv_aload_n hx hb dJ4_append_15ec4_0 rfl (lv_at hl 0 rfl) ?_
  refine lv_aload_n hx hb dJ4_append_15ec4_1 rfl (lv_at hl 1 rfl) ?_
  have hPc := (hP.app hR).sub (ws' := [(sb, .inr (1, [.ref va, .int 0, .int 0, .int 0])), (va, .inl (kV, 16, .inl fV))] ++ []) [0, 1] rfl
  have hDc := (en_DD hD hDr hN0 hAb).sub (ws' := [(sb, .inr (1, [.ref va, .int 0, .int 0, .int 0])), (va, .inl (kV, 16, .inl fV))] ++ []) [0, 1] (by decide) rfl
  have hKc := hK.sub (tys' := [(kV, .byte)]) [0] rfl
  have hFc := va_free (wc := [(sb, .inr (1, [.ref va, .int 0, .int 0, .int 0])), (va, .inl (kV, 16, .inl fV))]) hD hS hA [0, 1] rfl
  refine va_callq (va_runSU (As := [.ref (en.1 5)]) (rest := []) (hK.1 1 _ rfl).2 ⟨hx, hb, hml, hown, hts⟩ (c_appS5 l dC dI b0 en s.heap.size sb va kV fV hfit) (va_cwSU 1 hts gJ4_append_15ec4_J5_append_cf1ce_s29 rfl rfl rfl (by decide +kernel) ⟨Nat.le_of_ble_eq_true rfl, Nat.le_of_ble_eq_true rfl⟩) ⟨cP.blind, va_recv hK hP (ci := 1) (q0 := 0) rfl rfl, cP.use (en_z hb0 hS) (hE.on hAb hS) hPc hKc hDc trivial⟩ rfl rfl hl.1 rfl (lv_room (Nat.le_of_ble_eq_true rfl)) dJ4_append_15ec4_2 ⟨Nat.le_of_ble_eq_true rfl, Nat.le_of_ble_eq_true rfl⟩) hS (fun q _ h => hFc q h) hFc (fun r_2 u_1 t H1 locs ht hvm hw hB hz1 hk1 hS => ?_)
  obtain ⟨hP1, hK1, hD1, hF1⟩ := hB
  rw [ht] at hP1
  try rw [ht] at hF1
  have hK1 := va_K.moved hvm.symm hK1
  try dsimp only at hw
  obtain ⟨hP, hD⟩ := va_join (wr := []) (w1 := [(sb, .inr (1, [.ref va, .int 0, .int 0, .int 0])), (va, .inl (kV, 16, .inl u_1))]) hP hD [0, 1] [] rfl rfl (by decide) (by decide) hk1 hFc hP1 hD1
  generalize H1 = H at hP hS ⊢
  have hP : va_P (dC, dI) vwCl [(sb, .inr (1, [.ref va, .int 0, .int 0, .int 0])), (va, .inl (kV, 16, .inl u_1))] H := hP
  have hD : va_D A [(sb, .inr (1, [.ref va, .int 0, .int 0, .int 0])), (va, .inl (kV, 16, .inl u_1))] := hD
  have hR : va_P (dC, dI) vwCl [] H := fun k q h => by simp at h
  refine W.widen (k := 0) (n := 0) (Nat.le_of_ble_eq_true rfl) (Nat.le_of_ble_eq_true rfl) ?_
  obtain ⟨hw, h_3⟩ := hw
  subst r_2
  refine lv_pop hx hb dJ4_append_15ec4_5 rfl ?_
  refine lv_aload_n hx hb dJ4_append_15ec4_6 rfl (lv_at hl 0 rfl) ?_
  refine W.widen (k := 0) (n := 0) (Nat.le_of_ble_eq_true rfl) (Nat.le_of_ble_eq_true rfl) ?_
  exact W.aret (v := .ref sb) hx hb hr (by first | exact Or.inl ⟨_, rfl⟩ | exact Or.inr ⟨_, rfl⟩) (by first | exact Or.inl rfl | exact va_rf_or _ | exact Or.inr ⟨_, rfl⟩) (fun t ht hW => ⟨⟨(some sb), u_1, rfl, ⟨rfl, h_3⟩, cB.mk ht hW (hP.sub [0, 1] rfl) (hK.sub [] rfl) (hD.sub [0, 1] (by decide) rfl) (trivial)⟩, hS.F ht⟩) hS.2.2 dJ4_append_15ec4_7

set_option maxHeartbeats 4000000 in
set_option maxRecDepth 100000 in
/-- isLatin1() of a builder -/
theorem c_J5_isLatin1 (l : Launch) (dC : Nat → ClassId) (dI : Nat → Nat → Nat) (b0 : Nat) (en : EnT) (sz : Nat) (sb va : Nat) (n : Int32) : Met l yJ5_isLatin1_aae02 wsJ5_isLatin1_aae02 ({ frames := 0, cells := 0, slots := 0, locals := 0 } : Room) (cP b0 en (dC, dI) [] [] [(sb, .inr (1, [.ref va, .int 0, .int 0, .int n]))] sz (fun _ => True) [.ref sb]) (va_Qi (fun (r : Int32) (_ : Unit) => r = 1) (fun _ _ => True) (va_A [] sz)) 0 0 (va_A [] sz) := by
  refine Met.ofW (cc := cJ5_isLatin1_aae02) (maxL := 1) (ret := (some .boolean)) (by decide) rfl ?_
  intro p e s m args below meth c s₁ B hml hv
  obtain ⟨rfl, hsz, hb0, hE, hPP, hK, hDD, hF0⟩ := hv
  have hx := B.exec
  have hb := B.bytes
  have hr := B.returns
  have hts := atoms_spec (ws := wsJ5_isLatin1_aae02) B.pre
  have hown : s.vm.findClass RJ5 = some m.cls := findClass_of_methodNamed B.named
  have hlocks := B.notSynchronized
  subst hsz
  have hN0 := en_N hPP hDD rfl
  have hP : va_P (dC, dI) vwCl [] s.heap := hPP.sub [] rfl
  have hR0 : va_P (dC, dI) vwCl [(sb, .inr (1, [.ref va, .int 0, .int 0, .int n]))] s.heap := hPP.sub [0] rfl
  have hD0 : va_D (fun q => b0 ≤ q) [] := hDD.sub [] (by decide) rfl
  have hDr : va_D (fun q => b0 ≤ q) [(sb, .inr (1, [.ref va, .int 0, .int 0, .int n]))] := hDD.sub [0] (by decide) rfl
  have hAb := en_A (sz := s.heap.size) hD0 hb0
  have hD := hD0.self (sz := s.heap.size)
  generalize hAe : va_A [] s.heap.size = A at hD hAb hN0 ⊢
  have hA : ∀ q : Nat, s.heap.size ≤ q → A q := fun q h => by rw [← hAe]; exact Or.inr h
  have hS : va_S A s.heap s.heap [] := va_S.rf
  have hR := hR0
  have hl := lv_entry [.ref sb] (n := 1) (Nat.le_of_ble_eq_true rfl)
  rw [lg_entry_eq]
  generalize (lg_sl [.ref sb] ++ List.replicate (1 - (lg_sl [.ref sb]).length) Slot.unset).toArray = ls at hl ⊢
  have hl : lv_has ls 1 [(0, .ref sb)] := hl
  refine va_gets hx hb (hE.cs hAb) hS hown (hts (.fieldLink RJ5 18 "java/lang/String" "COMPACT_STRINGS" "Z") (by decide +kernel)) (fun _ h9 => h9) dJ5_isLatin1_aae02_0 ?_
  refine lv_if_eq (tgt := 17) hx hb dJ5_isLatin1_aae02_3 (by first | decide | rfl) (fun c_1 => absurd c_1 (by decide)) (fun c_1 => ?_)
  refine lv_aload_n hx hb dJ5_isLatin1_aae02_6 rfl (lv_at hl 0 rfl) ?_
  refine va_get (D := (dC, dI)) (ci := 1) (v := .int 0) (C := RJ4) (T := TJ4) (N := 4) hx hb hts (by decide +kernel) hown hK hR 0 rfl rfl 1 (by decide) (hts (.fieldLink RJ5 22 "java/lang/AbstractStringBuilder" "coder" "B") (by decide +kernel)) (fun _ h9 => h9) rfl dJ5_isLatin1_aae02_7 ?_
  refine lv_if_ne (tgt := 17) hx hb dJ5_isLatin1_aae02_10 (by first | decide | rfl) (fun c_2 => absurd c_2 (by decide)) (fun c_2 => ?_)
  refine lv_iconst (v := 1) hx hb dJ5_isLatin1_aae02_13 (by decide) ?_
  refine lv_goto (tgt := 18) hx hb dJ5_isLatin1_aae02_14 (by first | decide | rfl) ?_
  refine W.widen (k := 0) (n := 0) (Nat.le_of_ble_eq_true rfl) (Nat.le_of_ble_eq_true rfl) ?_
  exact W.zret (v := 1) hx hb hr (by first | rfl | decide +kernel) (fun t ht hW => ⟨⟨1, (), rfl, (z_c_isEmpty0_22), trivial⟩, hS.F ht⟩) hS.2.2 dJ5_isLatin1_aae02_18
theorem z_c_canEncC_208 (c9 : Int32) (a_0 : c9 ≤ 255) (a_1 : 255 < c9) : False := by grind
theorem z_c_canEncC_209 (c9 : Int32) (a_0 : c9 ≤ 255) (a_1 : ¬ 255 < c9) : (1 : Int32) = 1 := by grind
set_option maxHeartbeats 4000000 in
set_option maxRecDepth 100000 in
/-- canEncode(char) -/
theorem c_canEncC (l : Launch) (dC : Nat → ClassId) (dI : Nat → Nat → Nat) (b0 : Nat) (en : EnT) (sz : Nat) (c9 : Int32) (h1 : c9 ≤ 255) : Met l yJ1_canEncode_fc78d wsJ1_canEncode_fc78d ({ frames := 0, cells := 0, slots := 0, locals := 0 } : Room) (cP b0 en (dC, dI) [] [] [] sz (fun _ => True) [.int c9]) (va_Qi (fun (r : Int32) (_ : Unit) => r = 1) (fun _ _ => True) (va_A [] sz)) 0 0 (va_A [] sz) := by
  refine Met.ofW (cc := cJ1_canEncode_fc78d) (maxL := 1) (ret := (some .boolean)) (by decide) rfl ?_
  intro p e s m args below meth c s₁ B hml hv
  obtain ⟨rfl, hsz, hb0, hE, hPP, hK, hDD, hF0⟩ := hv
  have hx := B.exec
  have hb := B.bytes
  have hr := B.returns
  have hts := atoms_spec (ws := wsJ1_canEncode_fc78d) B.pre
  have hown : s.vm.findClass RJ1 = some m.cls := findClass_of_methodNamed B.named
  have hlocks := B.notSynchronized
  subst hsz
  have hN0 := en_N hPP hDD rfl
  have hP : va_P (dC, dI) vwCl [] s.heap := hPP.sub [] rfl
  have hR0 : va_P (dC, dI) vwCl [] s.heap := hPP.sub [] rfl
  have hD0 : va_D (fun q => b0 ≤ q) [] := hDD.sub [] (by decide) rfl
  have hDr : va_D (fun q => b0 ≤ q) [] := hDD.sub [] (by decide) rfl
  have hAb := en_A (sz := s.heap.size) hD0 hb0
  have hD := hD0.self (sz := s.heap.size)
  generalize hAe : va_A [] s.heap.size = A at hD hAb hN0 ⊢
  have hA : ∀ q : Nat, s.heap.size ≤ q → A q := fun q h => by rw [← hAe]; exact Or.inr h
  have hS : va_S A s.heap s.heap [] := va_S.rf
  have hR := hR0
  have hl := lv_entry [.int c9] (n := 1) (Nat.le_of_ble_eq_true rfl)
  rw [lg_entry_eq]
  generalize (lg_sl [.int c9] ++ List.replicate (1 - (lg_sl [.int c9]).length) Slot.unset).toArray = ls at hl ⊢
  have hl : lv_has ls 1 [(0, .int c9)] := hl
  refine lv_iload_n hx hb dJ1_canEncode_fc78d_0 rfl (lv_at hl 0 rfl) ?_
  refine lv_sipush (v := 255) hx hb dJ1_canEncode_fc78d_1 (by decide) ?_
  refine lv_icmp_gt (tgt := 11) hx hb dJ1_canEncode_fc78d_4 (by decide) (fun c_1 => ?_) (fun c_1 => ?_)
  · skip
    exact absurd (z_c_canEncC_208 c9 h1 c_1) (fun z => z)
  · skip
    refine lv_iconst (v := 1) hx hb dJ1_canEncode_fc78d_7 (by decide) ?_
    refine lv_goto (tgt := 12) hx hb dJ1_canEncode_fc78d_8 (by decide) ?_
    refine W.widen (k := 0) (n := 0) (Nat.le_of_ble_eq_true rfl) (Nat.le_of_ble_eq_true rfl) ?_
    exact W.zret (v := 1) hx hb hr (by first | rfl | decide +kernel) (fun t ht hW => ⟨⟨1, (), rfl, (z_c_canEncC_209 c9 h1 c_1), trivial⟩, hS.F ht⟩) hS.2.2 dJ1_canEncode_fc78d_12
theorem z_c_appC5_0_210 (fV : Nat → Int32) (c9 : Int32) (a_0 : bfit fV) (a_1 : c9 ≤ 255) : (0 : Int32) ≤ 1 := by grind
theorem z_c_appC5_0_211 (fV : Nat → Int32) (c9 : Int32) (a_0 : bfit fV) (a_1 : c9 ≤ 255) : (1 : Int32) ≤ 4 := by grind
theorem z_c_appC5_0_212 (fV : Nat → Int32) (c9 : Int32) (a_0 : bfit fV) (a_1 : c9 ≤ 255) : c9 ≤ 255 := by grind
set_option maxHeartbeats 4000000 in
set_option maxRecDepth 100000 in
/-- append(char) to 0 letters -/
theorem c_appC5_0 (l : Launch) (dC : Nat → ClassId) (dI : Nat → Nat → Nat) (b0 : Nat) (en : EnT) (sz : Nat) (sb va : Nat) (kV : ClassId) (fV : Nat → Int32) (c9 : Int32) (hfit : bfit fV) (h1 : c9 ≤ 255) : Met l yJ5_append_3fe6f wsJ5_append_3fe6f ({ frames := 1, cells := 0, slots := 0, locals := 22 } : Room) (cP b0 en (dC, dI) [(kV, .byte)] [(sb, .inr (1, [.ref va, .int 0, .int 0, .int 0])), (va, .inl (kV, 16, .inl fV))] [] sz (fun _ => True) [.ref sb, .int c9]) (va_Qq (fun (r : Option Nat) (u : Nat → Int32) => r = some sb ∧ bfit u) (fun u t => cB (dC, dI) [] [(sb, .inr (1, [.ref va, .int 0, .int 0, .int 1])), (va, .inl (kV, 16, .inl u))] (va_A [(sb, .inr (1, [.ref va, .int 0, .int 0, .int 0])), (va, .inl (kV, 16, .inl fV))] sz) (fun _ => True) t) (va_A [(sb, .inr (1, [.ref va, .int 0, .int 0, .int 0])), (va, .inl (kV, 16, .inl fV))] sz)) 0 0 (va_A [(sb, .inr (1, [.ref va, .int 0, .int 0, .int 0])), (va, .inl (kV, 16, .inl fV))] sz) := by
  refine Met.ofW (cc := cJ5_append_3fe6f) (maxL := 2) (ret := (some (.object "java/lang/AbstractStringBuilder"))) (by decide) rfl ?_
  intro p e s m args below meth c s₁ B hml hv
  obtain ⟨rfl, hsz, hb0, hE, hPP, hK, hDD, hF0⟩ := hv
  have hx := B.exec
  have hb := B.bytes
  have hr := B.returns
  have hts := atoms_spec (ws := wsJ5_append_3fe6f) B.pre
  have hown : s.vm.findClass RJ5 = some m.cls := findClass_of_methodNamed B.named
  have hlocks := B.notSynchronized
  subst hsz
  have hN0 := en_N hPP hDD rfl
  have hP : va_P (dC, dI) vwCl [(sb, .inr (1, [.ref va, .int 0, .int 0, .int 0])), (va, .inl (kV, 16, .inl fV))] s.heap := hPP.sub [0, 1] rfl
  have hR0 : va_P (dC, dI) vwCl [] s.heap := hPP.sub [] rfl
  have hD0 : va_D (fun q => b0 ≤ q) [(sb, .inr (1, [.ref va, .int 0, .int 0, .int 0])), (va, .inl (kV, 16, .inl fV))] := hDD.sub [0, 1] (by decide) rfl
  have hDr : va_D (fun q => b0 ≤ q) [] := hDD.sub [] (by decide) rfl
  have hAb := en_A (sz := s.heap.size) hD0 hb0
  have hD := hD0.self (sz := s.heap.size)
  generalize hAe : va_A [(sb, .inr (1, [.ref va, .int 0, .int 0, .int 0])), (va, .inl (kV, 16, .inl fV))] s.heap.size = A at hD hAb hN0 ⊢
  have hA : ∀ q : Nat, s.heap.size ≤ q → A q := fun q h => by rw [← hAe]; exact Or.inr h
  have hS : va_S A s.heap s.heap [] := va_S.rf
  have hR := hR0
  have hl := lv_entry [.ref sb, .int c9] (n := 2) (Nat.le_of_ble_eq_true rfl)
  rw [lg_entry_eq]
  generalize (lg_sl [.ref sb, .int c9] ++ List.replicate (2 - (lg_sl [.ref sb, .int c9]).length) Slot.unset).toArray = ls at hl ⊢
  have hl : lv_has ls 2 [(0, .ref sb), (1, .int c9)] := hl
  refine lv_aload_n hx hb dJ5_append_3fe6f_0 rfl (lv_at hl 0 rfl) ?_
  refine lv_aload_n hx hb dJ5_append_3fe6f_1 rfl (lv_at hl 0 rfl) ?_
  refine va_get (D := (dC, dI)) (ci := 1) (v := .int 0) (C := RJ4) (T := TJ4) (N := 4) hx hb hts (by decide +kernel) hown hK hP 0 rfl rfl 3 (by decide) (hts (.fieldLink RJ5 79 "java/lang/AbstractStringBuilder" "count" "I") (by decide +kernel)) (fun _ h9 => h9) rfl dJ5_append_3fe6f_2 ?_
  refine lv_iconst (v := 1) hx hb dJ5_append_3fe6f_5 (by decide) ?_
  refine lv_iadd hx hb dJ5_append_3fe6f_6 ?_
  refine lv_topi (fun x_1 ex_1 => ?_)
  obtain rfl : x_1 = 1 := ex_1.trans (by decide)
  have hPc := (hP.app hR).sub (ws' := [] ++ [(sb, .inr (1, [.ref va, .int 0, .int 0, .int 0])), (va, .inl (kV, 16, .inl fV))]) [0, 1] rfl
  have hDc := (en_DD hD hDr hN0 hAb).sub (ws' := [] ++ [(sb, .inr (1, [.ref va, .int 0, .int 0, .int 0])), (va, .inl (kV, 16, .inl fV))]) [0, 1] (by decide) rfl
  have hKc := hK.sub (tys' := [(kV, .byte)]) [0] rfl
  have hFc := va_free (wc := []) hD hS hA [] rfl
  refine va_callv (va_runU (As := [.int 1]) (rest := []) ⟨hx, hb, hml, hown, hts⟩ (c_ens l dC dI b0 en s.heap.size sb va kV fV 0 1 (z_c_appC5_0_210 fV c9 hfit h1) (z_c_appC5_0_211 fV c9 hfit h1)) (va_cwU 1 hts gJ5_append_3fe6f_J5_ensureCapacityInternal_d00df_u100J4 rfl rfl rfl rfl (by decide +kernel) ⟨Nat.le_of_ble_eq_true rfl, Nat.le_of_ble_eq_true rfl⟩) ⟨cP.blind, va_recv hK hP (ci := 1) (q0 := 0) rfl rfl, cP.use (en_z hb0 hS) (hE.on hAb hS) hPc hKc hDc trivial⟩ rfl rfl hl.1 rfl (lv_room (Nat.le_of_ble_eq_true rfl)) dJ5_append_3fe6f_7 ⟨Nat.le_of_ble_eq_true rfl, Nat.le_of_ble_eq_true rfl⟩) hS (fun q _ h => hFc q h) hFc (fun u t H1 locs ht hvm hw hB hz1 hk1 hS => ?_)
  have hP1 : va_P (dC, dI) vwCl [] H1 := fun k q h => by simp at h
  have hD1 : va_D (va_A [] s.heap.size) [] := ⟨fun i j p q h => by simp at h, fun k q h => by simp at h⟩
  try dsimp only at hw
  obtain ⟨hP, hD⟩ := va_join (wr := [(sb, .inr (1, [.ref va, .int 0, .int 0, .int 0])), (va, .inl (kV, 16, .inl fV))]) (w1 := []) hP hD [] [0, 1] rfl rfl (by decide) (by decide) hk1 hFc hP1 hD1
  generalize H1 = H at hP hS ⊢
  have hP : va_P (dC, dI) vwCl [(sb, .inr (1, [.ref va, .int 0, .int 0, .int 0])), (va, .inl (kV, 16, .inl fV))] H := hP
  have hD : va_D A [(sb, .inr (1, [.ref va, .int 0, .int 0, .int 0])), (va, .inl (kV, 16, .inl fV))] := hD
  have hR : va_P (dC, dI) vwCl [] H := fun k q h => by simp at h
  refine W.widen (k := 0) (n := 0) (Nat.le_of_ble_eq_true rfl) (Nat.le_of_ble_eq_true rfl) ?_
  refine lv_aload_n hx hb dJ5_append_3fe6f_10 rfl (lv_at hl 0 rfl) ?_
  have hPc := (hP.app hR).sub (ws' := [] ++ [(sb, .inr (1, [.ref va, .int 0, .int 0, .int 0]))]) [0] rfl
  have hDc := (en_DD hD hDr hN0 hAb).sub (ws' := [] ++ [(sb, .inr (1, [.ref va, .int 0, .int 0, .int 0]))]) [0] (by decide) rfl
  have hKc := hK.sub (tys' := []) [] rfl
  have hFc := va_free (wc := []) hD hS hA [] rfl
  refine va_calli (va_runU (As := []) (rest := []) ⟨hx, hb, hml, hown, hts⟩ (c_J5_isLatin1 l dC dI b0 en H.size sb va 0) (va_cwU 0 hts gJ5_append_3fe6f_J5_isLatin1_aae02_u83J4 rfl rfl rfl rfl (by decide +kernel) ⟨Nat.le_of_ble_eq_true rfl, Nat.le_of_ble_eq_true rfl⟩) ⟨cP.blind, va_recv hK hP (ci := 1) (q0 := 0) rfl rfl, cP.use (en_z hb0 hS) (hE.on hAb hS) hPc hKc hDc trivial⟩ rfl rfl hl.1 rfl (lv_room (Nat.le_of_ble_eq_true rfl)) dJ5_append_3fe6f_11 ⟨Nat.le_of_ble_eq_true rfl, Nat.le_of_ble_eq_true rfl⟩) hS (fun q _ h => hFc q h) hFc (fun r_3 u t H1 locs ht hvm hw hB hz1 hk1 hS => ?_)
  have hP1 : va_P (dC, dI) vwCl [] H1 := fun k q h => by simp at h
  have hD1 : va_D (va_A [] H.size) [] := ⟨fun i j p q h => by simp at h, fun k q h => by simp at h⟩
  try dsimp only at hw
  obtain ⟨hP, hD⟩ := va_join (wr := [(sb, .inr (1, [.ref va, .int 0, .int 0, .int 0])), (va, .inl (kV, 16, .inl fV))]) (w1 := []) hP hD [] [0, 1] rfl rfl (by decide) (by decide) hk1 hFc hP1 hD1
  generalize H1 = H at hP hS ⊢
  have hP : va_P (dC, dI) vwCl [(sb, .inr (1, [.ref va, .int 0, .int 0, .int 0])), (va, .inl (kV, 16, .inl fV))] H := hP
  have hD : va_D A [(sb, .inr (1, [.ref va, .int 0, .int 0, .int 0])), (va, .inl (kV, 16, .inl fV))] := hD
  have hR : va_P (dC, dI) vwCl [] H := fun k q h => by simp at h
  refine W.widen (k := 0) (n := 0) (Nat.le_of_ble_eq_true rfl) (Nat.le_of_ble_eq_true rfl) ?_
  subst r_3
  refine lv_if_eq (tgt := 45) hx hb dJ5_append_3fe6f_14 (by first | decide | rfl) (fun c_4 => absurd c_4 (by decide)) (fun c_4 => ?_)
  refine lv_iload_n hx hb dJ5_append_3fe6f_17 rfl (lv_at hl 1 rfl) ?_
  have hPc := (hP.app hR).sub (ws' := [] ++ []) [] rfl
  have hDc := (en_DD hD hDr hN0 hAb).sub (ws' := [] ++ []) [] (by decide) rfl
  have hKc := hK.sub (tys' := []) [] rfl
  have hFc := va_free (wc := []) hD hS hA [] rfl
  refine va_calli (va_runS (As := [.int c9]) (rest := []) ⟨hx, hb, hml, hown, hts⟩ (c_canEncC l dC dI b0 en H.size c9 (z_c_appC5_0_212 fV c9 hfit h1)) (va_cwS 1 hts gJ5_append_3fe6f_J1_canEncode_fc78d rfl rfl rfl (by decide +kernel) ⟨Nat.le_of_ble_eq_true rfl, Nat.le_of_ble_eq_true rfl⟩) ⟨cP.blind, cP.use (en_z hb0 hS) (hE.on hAb hS) hPc hKc hDc trivial⟩ rfl rfl hl.1 rfl (lv_room (Nat.le_of_ble_eq_true rfl)) dJ5_append_3fe6f_18 ⟨Nat.le_of_ble_eq_true rfl, Nat.le_of_ble_eq_true rfl⟩) hS (fun q _ h => hFc q h) hFc (fun r_5 u t H1 locs ht hvm hw hB hz1 hk1 hS => ?_)
  have hP1 : va_P (dC, dI) vwCl [] H1 := fun k q h => by simp at h
  have hD1 : va_D (va_A [] H.size) [] := ⟨fun i j p q h => by simp at h, fun k q h => by simp at h⟩
  try dsimp only at hw
  obtain ⟨hP, hD⟩ := va_join (wr := [(sb, .inr (1, [.ref va, .int 0, .int 0, .int 0])), (va, .inl (kV, 16, .inl fV))]) (w1 := []) hP hD [] [0, 1] rfl rfl (by decide) (by decide) hk1 hFc hP1 hD1
  generalize H1 = H at hP hS ⊢
  have hP : va_P (dC, dI) vwCl [(sb, .inr (1, [.ref va, .int 0, .int 0, .int 0])), (va, .inl (kV, 16, .inl fV))] H := hP
  have hD : va_D A [(sb, .inr (1, [.ref va, .int 0, .int 0, .int 0])), (va, .inl (kV, 16, .inl fV))] := hD
  have hR : va_P (dC, dI) vwCl [] H := fun k q h => by simp at h
  refine W.widen (k := 0) (n := 0) (Nat.le_of_ble_eq_true rfl) (Nat.le_of_ble_eq_true rfl) ?_
  subst r_5
  refine lv_if_eq (tgt := 45) hx hb dJ5_append_3fe6f_21 (by first | decide | rfl) (fun c_6 => absurd c_6 (by decide)) (fun c_6 => ?_)
  refine lv_aload_n hx hb dJ5_append_3fe6f_24 rfl (lv_at hl 0 rfl) ?_
  refine va_get (D := (dC, dI)) (ci := 1) (v := .ref va) (C := RJ4) (T := TJ4) (N := 4) hx hb hts (by decide +kernel) hown hK hP 0 rfl rfl 0 (by decide) (hts (.fieldLink RJ5 15 "java/lang/AbstractStringBuilder" "value" "[B") (by decide +kernel)) (fun _ h9 => h9) rfl dJ5_append_3fe6f_25 ?_
  refine lv_aload_n hx hb dJ5_append_3fe6f_28 rfl (lv_at hl 0 rfl) ?_
  refine lv_dup hx hb dJ5_append_3fe6f_29 rfl ?_
  refine va_get (D := (dC, dI)) (ci := 1) (v := .int 0) (C := RJ4) (T := TJ4) (N := 4) hx hb hts (by decide +kernel) hown hK hP 0 rfl rfl 3 (by decide) (hts (.fieldLink RJ5 79 "java/lang/AbstractStringBuilder" "count" "I") (by decide +kernel)) (fun _ h9 => h9) rfl dJ5_append_3fe6f_30 ?_
  refine lv_dup_x1 hx hb dJ5_append_3fe6f_33 rfl rfl ?_
  refine lv_iconst (v := 1) hx hb dJ5_append_3fe6f_34 (by decide) ?_
  refine lv_iadd hx hb dJ5_append_3fe6f_35 ?_
  refine lv_topi (fun x_7 ex_7 => ?_)
  obtain rfl : x_7 = 1 := ex_7.trans (by decide)
  refine va_put (D := (dC, dI)) (ci := 1) (v := .int 1) (ty := .int) (C := RJ4) (T := TJ4) (N := 4) hx hb hts (by decide +kernel) tyJ4 tyJ4_ok nmJ4 hown hK hP hD hS 0 rfl rfl 3 (by decide) (hts (.fieldLink RJ5 79 "java/lang/AbstractStringBuilder" "count" "I") (by decide +kernel)) (fun _ h9 => h9) rfl (by decide +kernel) rfl rfl (Nat.le_of_ble_eq_true rfl) dJ5_append_3fe6f_36 (fun H locs hP hD hS => ?_)
  have hP : va_P (dC, dI) vwCl [(sb, .inr (1, [.ref va, .int 0, .int 0, .int 1])), (va, .inl (kV, 16, .inl fV))] H := hP
  have hD : va_D A [(sb, .inr (1, [.ref va, .int 0, .int 0, .int 1])), (va, .inl (kV, 16, .inl fV))] := hD
  have hR : va_P (dC, dI) vwCl [] H := fun k q h => by simp at h
  refine lv_iload_n hx hb dJ5_append_3fe6f_39 rfl (lv_at hl 1 rfl) ?_
  refine lv_i2b hx hb dJ5_append_3fe6f_40 rfl ?_
  refine lv_topi (fun x_8 ex_8 => ?_)
  refine va_bast hx hb hK hP hD hS 1 0 rfl rfl (vp_in_nI (by decide : 0 < 16) (by decide)) dJ5_append_3fe6f_41 (fun H locs hP hD hS => ?_)
  generalize ef_9 : upd fV (0 : Int32).toNatClampNeg (vp_nar .byte x_8) = f_9 at hP hD
  have hP : va_P (dC, dI) vwCl [(sb, .inr (1, [.ref va, .int 0, .int 0, .int 1])), (va, .inl (kV, 16, .inl f_9))] H := hP
  have hD : va_D A [(sb, .inr (1, [.ref va, .int 0, .int 0, .int 1])), (va, .inl (kV, 16, .inl f_9))] := hD
  have hR : va_P (dC, dI) vwCl [] H := fun k q h => by simp at h
  refine lv_goto (tgt := 75) hx hb dJ5_append_3fe6f_42 (by first | decide | rfl) ?_
  refine lv_aload_n hx hb dJ5_append_3fe6f_75 rfl (lv_at hl 0 rfl) ?_
  refine W.widen (k := 0) (n := 0) (Nat.le_of_ble_eq_true rfl) (Nat.le_of_ble_eq_true rfl) ?_
  exact W.aret (v := .ref sb) hx hb hr (by first | exact Or.inl ⟨_, rfl⟩ | exact Or.inr ⟨_, rfl⟩) (by first | exact Or.inl rfl | exact va_rf_or _ | exact Or.inr ⟨_, rfl⟩) (fun t ht hW => ⟨⟨(some sb), f_9, rfl, ⟨rfl, (by rw [← ef_9]; exact bfit_upd hfit)⟩, cB.mk ht hW (hP.sub [0, 1] rfl) (hK.sub [] rfl) (hD.sub [0, 1] (by decide) rfl) (trivial)⟩, hS.F ht⟩) hS.2.2 dJ5_append_3fe6f_76

set_option maxHeartbeats 4000000 in
set_option maxRecDepth 100000 in
/-- append(char) to 0 letters -/
theorem c_appC4_0 (l : Launch) (dC : Nat → ClassId) (dI : Nat → Nat → Nat) (b0 : Nat) (en : EnT) (sz : Nat) (sb va : Nat) (kV : ClassId) (fV : Nat → Int32) (c9 : Int32) (hfit : bfit fV) (h1 : c9 ≤ 255) : Met l yJ4_append_cf468 wsJ4_append_cf468 ({ frames := 2, cells := 0, slots := 0, locals := 43 } : Room) (cP b0 en (dC, dI) [(kV, .byte)] [(sb, .inr (1, [.ref va, .int 0, .int 0, .int 0])), (va, .inl (kV, 16, .inl fV))] [] sz (fun _ => True) [.ref sb, .int c9]) (va_Qq (fun (r : Option Nat) (u : Nat → Int32) => r = some sb ∧ bfit u) (fun u t => cB (dC, dI) [] [(sb, .inr (1, [.ref va, .int 0, .int 0, .int 1])), (va, .inl (kV, 16, .inl u))] (va_A [(sb, .inr (1, [.ref va, .int 0, .int 0, .int 0])), (va, .inl (kV, 16, .inl fV))] sz) (fun _ => True) t) (va_A [(sb, .inr (1, [.ref va, .int 0, .int 0, .int 0])), (va, .inl (kV, 16, .inl fV))] sz)) 0 0 (va_A [(sb, .inr (1, [.ref va, .int 0, .int 0, .int 0])), (va, .inl (kV, 16, .inl fV))] sz) := by
  refine Met.ofW (cc := cJ4_append_cf468) (maxL := 2) (ret := (some (.object "java/lang/StringBuilder"))) (by decide) rfl ?_
  intro p e s m args below meth c s₁ B hml hv
  obtain ⟨rfl, hsz, hb0, hE, hPP, hK, hDD, hF0⟩ := hv
  have hx := B.exec
  have hb := B.bytes
  have hr := B.returns
  have hts := atoms_spec (ws := wsJ4_append_cf468) B.pre
  have hown : s.vm.findClass RJ4 = some m.cls := findClass_of_methodNamed B.named
  have hlocks := B.notSynchronized
  subst hsz
  have hN0 := en_N hPP hDD rfl
  have hP : va_P (dC, dI) vwCl [(sb, .inr (1, [.ref va, .int 0, .int 0, .int 0])), (va, .inl (kV, 16, .inl fV))] s.heap := hPP.sub [0, 1] rfl
  have hR0 : va_P (dC, dI) vwCl [] s.heap := hPP.sub [] rfl
  have hD0 : va_D (fun q => b0 ≤ q) [(sb, .inr (1, [.ref va, .int 0, .int 0, .int 0])), (va, .inl (kV, 16, .inl fV))] := hDD.sub [0, 1] (by decide) rfl
  have hDr : va_D (fun q => b0 ≤ q) [] := hDD.sub [] (by decide) rfl
  have hAb := en_A (sz := s.heap.size) hD0 hb0
  have hD := hD0.self (sz := s.heap.size)
  generalize hAe : va_A [(sb, .inr (1, [.ref va, .int 0, .int 0, .int 0])), (va, .inl (kV, 16, .inl fV))] s.heap.size = A at hD hAb hN0 ⊢
  have hA : ∀ q : Nat, s.heap.size ≤ q → A q := fun q h => by rw [← hAe]; exact Or.inr h
  have hS : va_S A s.heap s.heap [] := va_S.rf
  have hR := hR0
  have hl := lv_entry [.ref sb, .int c9] (n := 2) (Nat.le_of_ble_eq_true rfl)
  rw [lg_entry_eq]
  generalize (lg_sl [.ref sb, .int c9] ++ List.replicate (2 - (lg_sl [.ref sb, .int c9]).length) Slot.unset).toArray = ls at hl ⊢
  have hl : lv_has ls 2 [(0, .ref sb), (1, .int c9)] := hl
  refine lv_aload_n hx hb dJ4_append_cf468_0 rfl (lv_at hl 0 rfl) ?_
  refine lv_iload_n hx hb dJ4_append_cf468_1 rfl (lv_at hl 1 rfl) ?_
  have hPc := (hP.app hR).sub (ws' := [(sb, .inr (1, [.ref va, .int 0, .int 0, .int 0])), (va, .inl (kV, 16, .inl fV))] ++ []) [0, 1] rfl
  have hDc := (en_DD hD hDr hN0 hAb).sub (ws' := [(sb, .inr (1, [.ref va, .int 0, .int 0, .int 0])), (va, .inl (kV, 16, .inl fV))] ++ []) [0, 1] (by decide) rfl
  have hKc := hK.sub (tys' := [(kV, .byte)]) [0] rfl
  have hFc := va_free (wc := [(sb, .inr (1, [.ref va, .int 0, .int 0, .int 0])), (va, .inl (kV, 16, .inl fV))]) hD hS hA [0, 1] rfl
  refine va_callq (va_runSU (As := [.int c9]) (rest := []) (hK.1 1 _ rfl).2 ⟨hx, hb, hml, hown, hts⟩ (c_appC5_0 l dC dI b0 en s.heap.size sb va kV fV c9 hfit (z_c_appC5_0_212 fV c9 hfit h1)) (va_cwSU 1 hts gJ4_append_cf468_J5_append_3fe6f_s50 rfl rfl rfl (by decide +kernel) ⟨Nat.le_of_ble_eq_true rfl, Nat.le_of_ble_eq_true rfl⟩) ⟨cP.blind, va_recv hK hP (ci := 1) (q0 := 0) rfl rfl, cP.use (en_z hb0 hS) (hE.on hAb hS) hPc hKc hDc trivial⟩ rfl rfl hl.1 rfl (lv_room (Nat.le_of_ble_eq_true rfl)) dJ4_append_cf468_2 ⟨Nat.le_of_ble_eq_true rfl, Nat.le_of_ble_eq_true rfl⟩) hS (fun q _ h => hFc q h) hFc (fun r_2 u_1 t H1 locs ht hvm hw hB hz1 hk1 hS => ?_)
  obtain ⟨hP1, hK1, hD1, hF1⟩ := hB
  rw [ht] at hP1
  try rw [ht] at hF1
  have hK1 := va_K.moved hvm.symm hK1
  try dsimp only at hw
  obtain ⟨hP, hD⟩ := va_join (wr := []) (w1 := [(sb, .inr (1, [.ref va, .int 0, .int 0, .int 1])), (va, .inl (kV, 16, .inl u_1))]) hP hD [0, 1] [] rfl rfl (by decide) (by decide) hk1 hFc hP1 hD1
  generalize H1 = H at hP hS ⊢
  have hP : va_P (dC, dI) vwCl [(sb, .inr (1, [.ref va, .int 0, .int 0, .int 1])), (va, .inl (kV, 16, .inl u_1))] H := hP
  have hD : va_D A [(sb, .inr (1, [.ref va, .int 0, .int 0, .int 1])), (va, .inl (kV, 16, .inl u_1))] := hD
  have hR : va_P (dC, dI) vwCl [] H := fun k q h => by simp at h
  refine W.widen (k := 0) (n := 0) (Nat.le_of_ble_eq_true rfl) (Nat.le_of_ble_eq_true rfl) ?_
  obtain ⟨hw, h_3⟩ := hw
  subst r_2
  refine lv_pop hx hb dJ4_append_cf468_5 rfl ?_
  refine lv_aload_n hx hb dJ4_append_cf468_6 rfl (lv_at hl 0 rfl) ?_
  refine W.widen (k := 0) (n := 0) (Nat.le_of_ble_eq_true rfl) (Nat.le_of_ble_eq_true rfl) ?_
  exact W.aret (v := .ref sb) hx hb hr (by first | exact Or.inl ⟨_, rfl⟩ | exact Or.inr ⟨_, rfl⟩) (by first | exact Or.inl rfl | exact va_rf_or _ | exact Or.inr ⟨_, rfl⟩) (fun t ht hW => ⟨⟨(some sb), u_1, rfl, ⟨rfl, h_3⟩, cB.mk ht hW (hP.sub [0, 1] rfl) (hK.sub [] rfl) (hD.sub [0, 1] (by decide) rfl) (trivial)⟩, hS.F ht⟩) hS.2.2 dJ4_append_cf468_7
theorem z_c_appC5_1_213 (fV : Nat → Int32) (c9 : Int32) (a_0 : bfit fV) (a_1 : c9 ≤ 255) : (0 : Int32) ≤ 2 := by grind
theorem z_c_appC5_1_214 (fV : Nat → Int32) (c9 : Int32) (a_0 : bfit fV) (a_1 : c9 ≤ 255) : (2 : Int32) ≤ 4 := by grind
set_option maxHeartbeats 4000000 in
set_option maxRecDepth 100000 in
/-- append(char) to 1 letters -/
theorem c_appC5_1 (l : Launch) (dC : Nat → ClassId) (dI : Nat → Nat → Nat) (b0 : Nat) (en : EnT) (sz : Nat) (sb va : Nat) (kV : ClassId) (fV : Nat → Int32) (c9 : Int32) (hfit : bfit fV) (h1 : c9 ≤ 255) : Met l yJ5_append_3fe6f wsJ5_append_3fe6f ({ frames := 1, cells := 0, slots := 0, locals := 22 } : Room) (cP b0 en (dC, dI) [(kV, .byte)] [(sb, .inr (1, [.ref va, .int 0, .int 0, .int 1])), (va, .inl (kV, 16, .inl fV))] [] sz (fun _ => True) [.ref sb, .int c9]) (va_Qq (fun (r : Option Nat) (u : Nat → Int32) => r = some sb ∧ bfit u) (fun u t => cB (dC, dI) [] [(sb, .inr (1, [.ref va, .int 0, .int 0, .int 2])), (va, .inl (kV, 16, .inl u))] (va_A [(sb, .inr (1, [.ref va, .int 0, .int 0, .int 1])), (va, .inl (kV, 16, .inl fV))] sz) (fun _ => True) t) (va_A [(sb, .inr (1, [.ref va, .int 0, .int 0, .int 1])), (va, .inl (kV, 16, .inl fV))] sz)) 0 0 (va_A [(sb, .inr (1, [.ref va, .int 0, .int 0, .int 1])), (va, .inl (kV, 16, .inl fV))] sz) := by
  refine Met.ofW (cc := cJ5_append_3fe6f) (maxL := 2) (ret := (some (.object "java/lang/AbstractStringBuilder"))) (by decide) rfl ?_
  intro p e s m args below meth c s₁ B hml hv
  obtain ⟨rfl, hsz, hb0, hE, hPP, hK, hDD, hF0⟩ := hv
  have hx := B.exec
  have hb := B.bytes
  have hr := B.returns
  have hts := atoms_spec (ws := wsJ5_append_3fe6f) B.pre
  have hown : s.vm.findClass RJ5 = some m.cls := findClass_of_methodNamed B.named
  have hlocks := B.notSynchronized
  subst hsz
  have hN0 := en_N hPP hDD rfl
  have hP : va_P (dC, dI) vwCl [(sb, .inr (1, [.ref va, .int 0, .int 0, .int 1])), (va, .inl (kV, 16, .inl fV))] s.heap := hPP.sub [0, 1] rfl
  have hR0 : va_P (dC, dI) vwCl [] s.heap := hPP.sub [] rfl
  have hD0 : va_D (fun q => b0 ≤ q) [(sb, .inr (1, [.ref va, .int 0, .int 0, .int 1])), (va, .inl (kV, 16, .inl fV))] := hDD.sub [0, 1] (by decide) rfl
  have hDr : va_D (fun q => b0 ≤ q) [] := hDD.sub [] (by decide) rfl
  have hAb := en_A (sz := s.heap.size) hD0 hb0
  have hD := hD0.self (sz := s.heap.size)
  generalize hAe : va_A [(sb, .inr (1, [.ref va, .int 0, .int 0, .int 1])), (va, .inl (kV, 16, .inl fV))] s.heap.size = A at hD hAb hN0 ⊢
  have hA : ∀ q : Nat, s.heap.size ≤ q → A q := fun q h => by rw [← hAe]; exact Or.inr h
  have hS : va_S A s.heap s.heap [] := va_S.rf
  have hR := hR0
  have hl := lv_entry [.ref sb, .int c9] (n := 2) (Nat.le_of_ble_eq_true rfl)
  rw [lg_entry_eq]
  generalize (lg_sl [.ref sb, .int c9] ++ List.replicate (2 - (lg_sl [.ref sb, .int c9]).length) Slot.unset).toArray = ls at hl ⊢
  have hl : lv_has ls 2 [(0, .ref sb), (1, .int c9)] := hl
  refine lv_aload_n hx hb dJ5_append_3fe6f_0 rfl (lv_at hl 0 rfl) ?_
  refine lv_aload_n hx hb dJ5_append_3fe6f_1 rfl (lv_at hl 0 rfl) ?_
  refine va_get (D := (dC, dI)) (ci := 1) (v := .int 1) (C := RJ4) (T := TJ4) (N := 4) hx hb hts (by decide +kernel) hown hK hP 0 rfl rfl 3 (by decide) (hts (.fieldLink RJ5 79 "java/lang/AbstractStringBuilder" "count" "I") (by decide +kernel)) (fun _ h9 => h9) rfl dJ5_append_3fe6f_2 ?_
  refine lv_iconst (v := 1) hx hb dJ5_append_3fe6f_5 (by decide) ?_
  refine lv_iadd hx hb dJ5_append_3fe6f_6 ?_
  refine lv_topi (fun x_1 ex_1 => ?_)
  obtain rfl : x_1 = 2 := ex_1.trans (by decide)
  have hPc := (hP.app hR).sub (ws' := [] ++ [(sb, .inr (1, [.ref va, .int 0, .int 0, .int 1])), (va, .inl (kV, 16, .inl fV))]) [0, 1] rfl
  have hDc := (en_DD hD hDr hN0 hAb).sub (ws' := [] ++ [(sb, .inr (1, [.ref va, .int 0, .int 0, .int 1])), (va, .inl (kV, 16, .inl fV))]) [0, 1] (by decide) rfl
  have hKc := hK.sub (tys' := [(kV, .byte)]) [0] rfl
  have hFc := va_free (wc := []) hD hS hA [] rfl
  refine va_callv (va_runU (As := [.int 2]) (rest := []) ⟨hx, hb, hml, hown, hts⟩ (c_ens l dC dI b0 en s.heap.size sb va kV fV 1 2 (z_c_appC5_1_213 fV c9 hfit h1) (z_c_appC5_1_214 fV c9 hfit h1)) (va_cwU 1 hts gJ5_append_3fe6f_J5_ensureCapacityInternal_d00df_u100J4 rfl rfl rfl rfl (by decide +kernel) ⟨Nat.le_of_ble_eq_true rfl, Nat.le_of_ble_eq_true rfl⟩) ⟨cP.blind, va_recv hK hP (ci := 1) (q0 := 0) rfl rfl, cP.use (en_z hb0 hS) (hE.on hAb hS) hPc hKc hDc trivial⟩ rfl rfl hl.1 rfl (lv_room (Nat.le_of_ble_eq_true rfl)) dJ5_append_3fe6f_7 ⟨Nat.le_of_ble_eq_true rfl, Nat.le_of_ble_eq_true rfl⟩) hS (fun q _ h => hFc q h) hFc (fun u t H1 locs ht hvm hw hB hz1 hk1 hS => ?_)
  have hP1 : va_P (dC, dI) vwCl [] H1 := fun k q h => by simp at h
  have hD1 : va_D (va_A [] s.heap.size) [] := ⟨fun i j p q h => by simp at h, fun k q h => by simp at h⟩
  try dsimp only at hw
  obtain ⟨hP, hD⟩ := va_join (wr := [(sb, .inr (1, [.ref va, .int 0, .int 0, .int 1])), (va, .inl (kV, 16, .inl fV))]) (w1 := []) hP hD [] [0, 1] rfl rfl (by decide) (by decide) hk1 hFc hP1 hD1
  generalize H1 = H at hP hS ⊢
  have hP : va_P (dC, dI) vwCl [(sb, .inr (1, [.ref va, .int 0, .int 0, .int 1])), (va, .inl (kV, 16, .inl fV))] H := hP
  have hD : va_D A [(sb, .inr (1, [.ref va, .int 0, .int 0, .int 1])), (va, .inl (kV, 16, .inl fV))] := hD
  have hR : va_P (dC, dI) vwCl [] H := fun k q h => by simp at h
  refine W.widen (k := 0) (n := 0) (Nat.le_of_ble_eq_true rfl) (Nat.le_of_ble_eq_true rfl) ?_
  refine lv_aload_n hx hb dJ5_append_3fe6f_10 rfl (lv_at hl 0 rfl) ?_
  have hPc := (hP.app hR).sub (ws' := [] ++ [(sb, .inr (1, [.ref va, .int 0, .int 0, .int 1]))]) [0] rfl
  have hDc := (en_DD hD hDr hN0 hAb).sub (ws' := [] ++ [(sb, .inr (1, [.ref va, .int 0, .int 0, .int 1]))]) [0] (by decide) rfl
  have hKc := hK.sub (tys' := []) [] rfl
  have hFc := va_free (wc := []) hD hS hA [] rfl
  refine va_calli (va_runU (As := []) (rest := []) ⟨hx, hb, hml, hown, hts⟩ (c_J5_isLatin1 l dC dI b0 en H.size sb va 1) (va_cwU 0 hts gJ5_append_3fe6f_J5_isLatin1_aae02_u83J4 rfl rfl rfl rfl (by decide +kernel) ⟨Nat.le_of_ble_eq_true rfl, Nat.le_of_ble_eq_true rfl⟩) ⟨cP.blind, va_recv hK hP (ci := 1) (q0 := 0) rfl rfl, cP.use (en_z hb0 hS) (hE.on hAb hS) hPc hKc hDc trivial⟩ rfl rfl hl.1 rfl (lv_room (Nat.le_of_ble_eq_true rfl)) dJ5_append_3fe6f_11 ⟨Nat.le_of_ble_eq_true rfl, Nat.le_of_ble_eq_true rfl⟩) hS (fun q _ h => hFc q h) hFc (fun r_3 u t H1 locs ht hvm hw hB hz1 hk1 hS => ?_)
  have hP1 : va_P (dC, dI) vwCl [] H1 := fun k q h => by simp at h
  have hD1 : va_D (va_A [] H.size) [] := ⟨fun i j p q h => by simp at h, fun k q h => by simp at h⟩
  try dsimp only at hw
  obtain ⟨hP, hD⟩ := va_join (wr := [(sb, .inr (1, [.ref va, .int 0, .int 0, .int 1])), (va, .inl (kV, 16, .inl fV))]) (w1 := []) hP hD [] [0, 1] rfl rfl (by decide) (by decide) hk1 hFc hP1 hD1
  generalize H1 = H at hP hS ⊢
  have hP : va_P (dC, dI) vwCl [(sb, .inr (1, [.ref va, .int 0, .int 0, .int 1])), (va, .inl (kV, 16, .inl fV))] H := hP
  have hD : va_D A [(sb, .inr (1, [.ref va, .int 0, .int 0, .int 1])), (va, .inl (kV, 16, .inl fV))] := hD
  have hR : va_P (dC, dI) vwCl [] H := fun k q h => by simp at h
  refine W.widen (k := 0) (n := 0) (Nat.le_of_ble_eq_true rfl) (Nat.le_of_ble_eq_true rfl) ?_
  subst r_3
  refine lv_if_eq (tgt := 45) hx hb dJ5_append_3fe6f_14 (by first | decide | rfl) (fun c_4 => absurd c_4 (by decide)) (fun c_4 => ?_)
  refine lv_iload_n hx hb dJ5_append_3fe6f_17 rfl (lv_at hl 1 rfl) ?_
  have hPc := (hP.app hR).sub (ws' := [] ++ []) [] rfl
  have hDc := (en_DD hD hDr hN0 hAb).sub (ws' := [] ++ []) [] (by decide) rfl
  have hKc := hK.sub (tys' := []) [] rfl
  have hFc := va_free (wc := []) hD hS hA [] rfl
  refine va_calli (va_runS (As := [.int c9]) (rest := []) ⟨hx, hb, hml, hown, hts⟩ (c_canEncC l dC dI b0 en H.size c9 (z_c_appC5_0_212 fV c9 hfit h1)) (va_cwS 1 hts gJ5_append_3fe6f_J1_canEncode_fc78d rfl rfl rfl (by decide +kernel) ⟨Nat.le_of_ble_eq_true rfl, Nat.le_of_ble_eq_true rfl⟩) ⟨cP.blind, cP.use (en_z hb0 hS) (hE.on hAb hS) hPc hKc hDc trivial⟩ rfl rfl hl.1 rfl (lv_room (Nat.le_of_ble_eq_true rfl)) dJ5_append_3fe6f_18 ⟨Nat.le_of_ble_eq_true rfl, Nat.le_of_ble_eq_true rfl⟩) hS (fun q _ h => hFc q h) hFc (fun r_5 u t H1 locs ht hvm hw hB hz1 hk1 hS => ?_)
  have hP1 : va_P (dC, dI) vwCl [] H1 := fun k q h => by simp at h
  have hD1 : va_D (va_A [] H.size) [] := ⟨fun i j p q h => by simp at h, fun k q h => by simp at h⟩
  try dsimp only at hw
  obtain ⟨hP, hD⟩ := va_join (wr := [(sb, .inr (1, [.ref va, .int 0, .int 0, .int 1])), (va, .inl (kV, 16, .inl fV))]) (w1 := []) hP hD [] [0, 1] rfl rfl (by decide) (by decide) hk1 hFc hP1 hD1
  generalize H1 = H at hP hS ⊢
  have hP : va_P (dC, dI) vwCl [(sb, .inr (1, [.ref va, .int 0, .int 0, .int 1])), (va, .inl (kV, 16, .inl fV))] H := hP
  have hD : va_D A [(sb, .inr (1, [.ref va, .int 0, .int 0, .int 1])), (va, .inl (kV, 16, .inl fV))] := hD
  have hR : va_P (dC, dI) vwCl [] H := fun k q h => by simp at h
  refine W.widen (k := 0) (n := 0) (Nat.le_of_ble_eq_true rfl) (Nat.le_of_ble_eq_true rfl) ?_
  subst r_5
  refine lv_if_eq (tgt := 45) hx hb dJ5_append_3fe6f_21 (by first | decide | rfl) (fun c_6 => absurd c_6 (by decide)) (fun c_6 => ?_)
  refine lv_aload_n hx hb dJ5_append_3fe6f_24 rfl (lv_at hl 0 rfl) ?_
  refine va_get (D := (dC, dI)) (ci := 1) (v := .ref va) (C := RJ4) (T := TJ4) (N := 4) hx hb hts (by decide +kernel) hown hK hP 0 rfl rfl 0 (by decide) (hts (.fieldLink RJ5 15 "java/lang/AbstractStringBuilder" "value" "[B") (by decide +kernel)) (fun _ h9 => h9) rfl dJ5_append_3fe6f_25 ?_
  refine lv_aload_n hx hb dJ5_append_3fe6f_28 rfl (lv_at hl 0 rfl) ?_
  refine lv_dup hx hb dJ5_append_3fe6f_29 rfl ?_
  refine va_get (D := (dC, dI)) (ci := 1) (v := .int 1) (C := RJ4) (T := TJ4) (N := 4) hx hb hts (by decide +kernel) hown hK hP 0 rfl rfl 3 (by decide) (hts (.fieldLink RJ5 79 "java/lang/AbstractStringBuilder" "count" "I") (by decide +kernel)) (fun _ h9 => h9) rfl dJ5_append_3fe6f_30 ?_
  refine lv_dup_x1 hx hb dJ5_append_3fe6f_33 rfl rfl ?_
  refine lv_iconst (v := 1) hx hb dJ5_append_3fe6f_34 (by decide) ?_
  refine lv_iadd hx hb dJ5_append_3fe6f_35 ?_
  refine lv_topi (fun x_7 ex_7 => ?_)
  obtain rfl : x_7 = 2 := ex_7.trans (by decide)
  refine va_put (D := (dC, dI)) (ci := 1) (v := .int 2) (ty := .int) (C := RJ4) (T := TJ4) (N := 4) hx hb hts (by decide +kernel) tyJ4 tyJ4_ok nmJ4 hown hK hP hD hS 0 rfl rfl 3 (by decide) (hts (.fieldLink RJ5 79 "java/lang/AbstractStringBuilder" "count" "I") (by decide +kernel)) (fun _ h9 => h9) rfl (by decide +kernel) rfl rfl (Nat.le_of_ble_eq_true rfl) dJ5_append_3fe6f_36 (fun H locs hP hD hS => ?_)
  have hP : va_P (dC, dI) vwCl [(sb, .inr (1, [.ref va, .int 0, .int 0, .int 2])), (va, .inl (kV, 16, .inl fV))] H := hP
  have hD : va_D A [(sb, .inr (1, [.ref va, .int 0, .int 0, .int 2])), (va, .inl (kV, 16, .inl fV))] := hD
  have hR : va_P (dC, dI) vwCl [] H := fun k q h => by simp at h
  refine lv_iload_n hx hb dJ5_append_3fe6f_39 rfl (lv_at hl 1 rfl) ?_
  refine lv_i2b hx hb dJ5_append_3fe6f_40 rfl ?_
  refine lv_topi (fun x_8 ex_8 => ?_)
  refine va_bast hx hb hK hP hD hS 1 0 rfl rfl (vp_in_nI (by decide : 1 < 16) (by decide)) dJ5_append_3fe6f_41 (fun H locs hP hD hS => ?_)
  generalize ef_9 : upd fV (1 : Int32).toNatClampNeg (vp_nar .byte x_8) = f_9 at hP hD
  have hP : va_P (dC, dI) vwCl [(sb, .inr (1, [.ref va, .int 0, .int 0, .int 2])), (va, .inl (kV, 16, .inl f_9))] H := hP
  have hD : va_D A [(sb, .inr (1, [.ref va, .int 0, .int 0, .int 2])), (va, .inl (kV, 16, .inl f_9))] := hD
  have hR : va_P (dC, dI) vwCl [] H := fun k q h => by simp at h
  refine lv_goto (tgt := 75) hx hb dJ5_append_3fe6f_42 (by first | decide | rfl) ?_
  refine lv_aload_n hx hb dJ5_append_3fe6f_75 rfl (lv_at hl 0 rfl) ?_
  refine W.widen (k := 0) (n := 0) (Nat.le_of_ble_eq_true rfl) (Nat.le_of_ble_eq_true rfl) ?_
  exact W.aret (v := .ref sb) hx hb hr (by first | exact Or.inl ⟨_, rfl⟩ | exact Or.inr ⟨_, rfl⟩) (by first | exact Or.inl rfl | exact va_rf_or _ | exact Or.inr ⟨_, rfl⟩) (fun t ht hW => ⟨⟨(some sb), f_9, rfl, ⟨rfl, (by rw [← ef_9]; exact bfit_upd hfit)⟩, cB.mk ht hW (hP.sub [0, 1] rfl) (hK.sub [] rfl) (hD.sub [0, 1] (by decide) rfl) (trivial)⟩, hS.F ht⟩) hS.2.2 dJ5_append_3fe6f_76

set_option maxHeartbeats 4000000 in
set_option maxRecDepth 100000 in
/-- append(char) to 1 letters -/
theorem c_appC4_1 (l : Launch) (dC : Nat → ClassId) (dI : Nat → Nat → Nat) (b0 : Nat) (en : EnT) (sz : Nat) (sb va : Nat) (kV : ClassId) (fV : Nat → Int32) (c9 : Int32) (hfit : bfit fV) (h1 : c9 ≤ 255) : Met l yJ4_append_cf468 wsJ4_append_cf468 ({ frames := 2, cells := 0, slots := 0, locals := 43 } : Room) (cP b0 en (dC, dI) [(kV, .byte)] [(sb, .inr (1, [.ref va, .int 0, .int 0, .int 1])), (va, .inl (kV, 16, .inl fV))] [] sz (fun _ => True) [.ref sb, .int c9]) (va_Qq (fun (r : Option Nat) (u : Nat → Int32) => r = some sb ∧ bfit u) (fun u t => cB (dC, dI) [] [(sb, .inr (1, [.ref va, .int 0, .int 0, .int 2])), (va, .inl (kV, 16, .inl u))] (va_A [(sb, .inr (1, [.ref va, .int 0, .int 0, .int 1])), (va, .inl (kV, 16, .inl fV))] sz) (fun _ => True) t) (va_A [(sb, .inr (1, [.ref va, .int 0, .int 0, .int 1])), (va, .inl (kV, 16, .inl fV))] sz)) 0 0 (va_A [(sb, .inr (1, [.ref va, .int 0, .int 0, .int 1])), (va, .inl (kV, 16, .inl fV))] sz) := by
  refine Met.ofW (cc := cJ4_append_cf468) (maxL := 2) (ret := (some (.object "java/lang/StringBuilder"))) (by decide) rfl ?_
  intro p e s m args below meth c s₁ B hml hv
  obtain ⟨rfl, hsz, hb0, hE, hPP, hK, hDD, hF0⟩ := hv
  have hx := B.exec
  have hb := B.bytes
  have hr := B.returns
  have hts := atoms_spec (ws := wsJ4_append_cf468) B.pre
  have hown : s.vm.findClass RJ4 = some m.cls := findClass_of_methodNamed B.named
  have hlocks := B.notSynchronized
  subst hsz
  have hN0 := en_N hPP hDD rfl
  have hP : va_P (dC, dI) vwCl [(sb, .inr (1, [.ref va, .int 0, .int 0, .int 1])), (va, .inl (kV, 16, .inl fV))] s.heap := hPP.sub [0, 1] rfl
  have hR0 : va_P (dC, dI) vwCl [] s.heap := hPP.sub [] rfl
  have hD0 : va_D (fun q => b0 ≤ q) [(sb, .inr (1, [.ref va, .int 0, .int 0, .int 1])), (va, .inl (kV, 16, .inl fV))] := hDD.sub [0, 1] (by decide) rfl
  have hDr : va_D (fun q => b0 ≤ q) [] := hDD.sub [] (by decide) rfl
  have hAb := en_A (sz := s.heap.size) hD0 hb0
  have hD := hD0.self (sz := s.heap.size)
  generalize hAe : va_A [(sb, .inr (1, [.ref va, .int 0, .int 0, .int 1])), (va, .inl (kV, 16, .inl fV))] s.heap.size = A at hD hAb hN0 ⊢
  have hA : ∀ q : Nat, s.heap.size ≤ q → A q := fun q h => by rw [← hAe]; exact Or.inr h
  have hS : va_S A s.heap s.heap [] := va_S.rf
  have hR := hR0
  have hl := lv_entry [.ref sb, .int c9] (n := 2) (Nat.le_of_ble_eq_true rfl)
  rw [lg_entry_eq]
  generalize (lg_sl [.ref sb, .int c9] ++ List.replicate (2 - (lg_sl [.ref sb, .int c9]).length) Slot.unset).toArray = ls at hl ⊢
  have hl : lv_has ls 2 [(0, .ref sb), (1, .int c9)] := hl
  refine lv_aload_n hx hb dJ4_append_cf468_0 rfl (lv_at hl 0 rfl) ?_
  refine lv_iload_n hx hb dJ4_append_cf468_1 rfl (lv_at hl 1 rfl) ?_
  have hPc := (hP.app hR).sub (ws' := [(sb, .inr (1, [.ref va, .int 0, .int 0, .int 1])), (va, .inl (kV, 16, .inl fV))] ++ []) [0, 1] rfl
  have hDc := (en_DD hD hDr hN0 hAb).sub (ws' := [(sb, .inr (1, [.ref va, .int 0, .int 0, .int 1])), (va, .inl (kV, 16, .inl fV))] ++ []) [0, 1] (by decide) rfl
  have hKc := hK.sub (tys' := [(kV, .byte)]) [0] rfl
  have hFc := va_free (wc := [(sb, .inr (1, [.ref va, .int 0, .int 0, .int 1])), (va, .inl (kV, 16, .inl fV))]) hD hS hA [0, 1] rfl
  refine va_callq (va_runSU (As := [.int c9]) (rest := []) (hK.1 1 _ rfl).2 ⟨hx, hb, hml, hown, hts⟩ (c_appC5_1 l dC dI b0 en s.heap.size sb va kV fV c9 hfit (z_c_appC5_0_212 fV c9 hfit h1)) (va_cwSU 1 hts gJ4_append_cf468_J5_append_3fe6f_s50 rfl rfl rfl (by decide +kernel) ⟨Nat.le_of_ble_eq_true rfl, Nat.le_of_ble_eq_true rfl⟩) ⟨cP.blind, va_recv hK hP (ci := 1) (q0 := 0) rfl rfl, cP.use (en_z hb0 hS) (hE.on hAb hS) hPc hKc hDc trivial⟩ rfl rfl hl.1 rfl (lv_room (Nat.le_of_ble_eq_true rfl)) dJ4_append_cf468_2 ⟨Nat.le_of_ble_eq_true rfl, Nat.le_of_ble_eq_true rfl⟩) hS (fun q _ h => hFc q h) hFc (fun r_2 u_1 t H1 locs ht hvm hw hB hz1 hk1 hS => ?_)
  obtain ⟨hP1, hK1, hD1, hF1⟩ := hB
  rw [ht] at hP1
  try rw [ht] at hF1
  have hK1 := va_K.moved hvm.symm hK1
  try dsimp only at hw
  obtain ⟨hP, hD⟩ := va_join (wr := []) (w1 := [(sb, .inr (1, [.ref va, .int 0, .int 0, .int 2])), (va, .inl (kV, 16, .inl u_1))]) hP hD [0, 1] [] rfl rfl (by decide) (by decide) hk1 hFc hP1 hD1
  generalize H1 = H at hP hS ⊢
  have hP : va_P (dC, dI) vwCl [(sb, .inr (1, [.ref va, .int 0, .int 0, .int 2])), (va, .inl (kV, 16, .inl u_1))] H := hP
  have hD : va_D A [(sb, .inr (1, [.ref va, .int 0, .int 0, .int 2])), (va, .inl (kV, 16, .inl u_1))] := hD
  have hR : va_P (dC, dI) vwCl [] H := fun k q h => by simp at h
  refine W.widen (k := 0) (n := 0) (Nat.le_of_ble_eq_true rfl) (Nat.le_of_ble_eq_true rfl) ?_
  obtain ⟨hw, h_3⟩ := hw
  subst r_2
  refine lv_pop hx hb dJ4_append_cf468_5 rfl ?_
  refine lv_aload_n hx hb dJ4_append_cf468_6 rfl (lv_at hl 0 rfl) ?_
  refine W.widen (k := 0) (n := 0) (Nat.le_of_ble_eq_true rfl) (Nat.le_of_ble_eq_true rfl) ?_
  exact W.aret (v := .ref sb) hx hb hr (by first | exact Or.inl ⟨_, rfl⟩ | exact Or.inr ⟨_, rfl⟩) (by first | exact Or.inl rfl | exact va_rf_or _ | exact Or.inr ⟨_, rfl⟩) (fun t ht hW => ⟨⟨(some sb), u_1, rfl, ⟨rfl, h_3⟩, cB.mk ht hW (hP.sub [0, 1] rfl) (hK.sub [] rfl) (hD.sub [0, 1] (by decide) rfl) (trivial)⟩, hS.F ht⟩) hS.2.2 dJ4_append_cf468_7
theorem z_c_appC5_2_215 (fV : Nat → Int32) (c9 : Int32) (a_0 : bfit fV) (a_1 : c9 ≤ 255) : (0 : Int32) ≤ 3 := by grind
theorem z_c_appC5_2_216 (fV : Nat → Int32) (c9 : Int32) (a_0 : bfit fV) (a_1 : c9 ≤ 255) : (3 : Int32) ≤ 4 := by grind
set_option maxHeartbeats 4000000 in
set_option maxRecDepth 100000 in
/-- append(char) to 2 letters -/
theorem c_appC5_2 (l : Launch) (dC : Nat → ClassId) (dI : Nat → Nat → Nat) (b0 : Nat) (en : EnT) (sz : Nat) (sb va : Nat) (kV : ClassId) (fV : Nat → Int32) (c9 : Int32) (hfit : bfit fV) (h1 : c9 ≤ 255) : Met l yJ5_append_3fe6f wsJ5_append_3fe6f ({ frames := 1, cells := 0, slots := 0, locals := 22 } : Room) (cP b0 en (dC, dI) [(kV, .byte)] [(sb, .inr (1, [.ref va, .int 0, .int 0, .int 2])), (va, .inl (kV, 16, .inl fV))] [] sz (fun _ => True) [.ref sb, .int c9]) (va_Qq (fun (r : Option Nat) (u : Nat → Int32) => r = some sb ∧ bfit u) (fun u t => cB (dC, dI) [] [(sb, .inr (1, [.ref va, .int 0, .int 0, .int 3])), (va, .inl (kV, 16, .inl u))] (va_A [(sb, .inr (1, [.ref va, .int 0, .int 0, .int 2])), (va, .inl (kV, 16, .inl fV))] sz) (fun _ => True) t) (va_A [(sb, .inr (1, [.ref va, .int 0, .int 0, .int 2])), (va, .inl (kV, 16, .inl fV))] sz)) 0 0 (va_A [(sb, .inr (1, [.ref va, .int 0, .int 0, .int 2])), (va, .inl (kV, 16, .inl fV))] sz) := by
  refine Met.ofW (cc := cJ5_append_3fe6f) (maxL := 2) (ret := (some (.object "java/lang/AbstractStringBuilder"))) (by decide) rfl ?_
  intro p e s m args below meth c s₁ B hml hv
  obtain ⟨rfl, hsz, hb0, hE, hPP, hK, hDD, hF0⟩ := hv
  have hx := B.exec
  have hb := B.bytes
  have hr := B.returns
  have hts := atoms_spec (ws := wsJ5_append_3fe6f) B.pre
  have hown : s.vm.findClass RJ5 = some m.cls := findClass_of_methodNamed B.named
  have hlocks := B.notSynchronized
  subst hsz
  have hN0 := en_N hPP hDD rfl
  have hP : va_P (dC, dI) vwCl [(sb, .inr (1, [.ref va, .int 0, .int 0, .int 2])), (va, .inl (kV, 16, .inl fV))] s.heap := hPP.sub [0, 1] rfl
  have hR0 : va_P (dC, dI) vwCl [] s.heap := hPP.sub [] rfl
  have hD0 : va_D (fun q => b0 ≤ q) [(sb, .inr (1, [.ref va, .int 0, .int 0, .int 2])), (va, .inl (kV, 16, .inl fV))] := hDD.sub [0, 1] (by decide) rfl
  have hDr : va_D (fun q => b0 ≤ q) [] := hDD.sub [] (by decide) rfl
  have hAb := en_A (sz := s.heap.size) hD0 hb0
  have hD := hD0.self (sz := s.heap.size)
  generalize hAe : va_A [(sb, .inr (1, [.ref va, .int 0, .int 0, .int 2])), (va, .inl (kV, 16, .inl fV))] s.heap.size = A at hD hAb hN0 ⊢
  have hA : ∀ q : Nat, s.heap.size ≤ q → A q := fun q h => by rw [← hAe]; exact Or.inr h
  have hS : va_S A s.heap s.heap [] := va_S.rf
  have hR := hR0
  have hl := lv_entry [.ref sb, .int c9] (n := 2) (Nat.le_of_ble_eq_true rfl)
  rw [lg_entry_eq]
  generalize (lg_sl [.ref sb, .int c9] ++ List.replicate (2 - (lg_sl [.ref sb, .int c9]).length) Slot.unset).toArray = ls at hl ⊢
  have hl : lv_has ls 2 [(0, .ref sb), (1, .int c9)] := hl
  refine lv_aload_n hx hb dJ5_append_3fe6f_0 rfl (lv_at hl 0 rfl) ?_
  refine lv_aload_n hx hb dJ5_append_3fe6f_1 rfl (lv_at hl 0 rfl) ?_
  refine va_get (D := (dC, dI)) (ci := 1) (v := .int 2) (C := RJ4) (T := TJ4) (N := 4) hx hb hts (by decide +kernel) hown hK hP 0 rfl rfl 3 (by decide) (hts (.fieldLink RJ5 79 "java/lang/AbstractStringBuilder" "count" "I") (by decide +kernel)) (fun _ h9 => h9) rfl dJ5_append_3fe6f_2 ?_
  refine lv_iconst (v := 1) hx hb dJ5_append_3fe6f_5 (by decide) ?_
  refine lv_iadd hx hb dJ5_append_3fe6f_6 ?_
  refine lv_topi (fun x_1 ex_1 => ?_)
  obtain rfl : x_1 = 3 := ex_1.trans (by decide)
  have hPc := (hP.app hR).sub (ws' := [] ++ [(sb, .inr (1, [.ref va, .int 0, .int 0, .int 2])), (va, .inl (kV, 16, .inl fV))]) [0, 1] rfl
  have hDc := (en_DD hD hDr hN0 hAb).sub (ws' := [] ++ [(sb, .inr (1, [.ref va, .int 0, .int 0, .int 2])), (va, .inl (kV, 16, .inl fV))]) [0, 1] (by decide) rfl
  have hKc := hK.sub (tys' := [(kV, .byte)]) [0] rfl
  have hFc := va_free (wc := []) hD hS hA [] rfl
  refine va_callv (va_runU (As := [.int 3]) (rest := []) ⟨hx, hb, hml, hown, hts⟩ (c_ens l dC dI b0 en s.heap.size sb va kV fV 2 3 (z_c_appC5_2_215 fV c9 hfit h1) (z_c_appC5_2_216 fV c9 hfit h1)) (va_cwU 1 hts gJ5_append_3fe6f_J5_ensureCapacityInternal_d00df_u100J4 rfl rfl rfl rfl (by decide +kernel) ⟨Nat.le_of_ble_eq_true rfl, Nat.le_of_ble_eq_true rfl⟩) ⟨cP.blind, va_recv hK hP (ci := 1) (q0 := 0) rfl rfl, cP.use (en_z hb0 hS) (hE.on hAb hS) hPc hKc hDc trivial⟩ rfl rfl hl.1 rfl (lv_room (Nat.le_of_ble_eq_true rfl)) dJ5_append_3fe6f_7 ⟨Nat.le_of_ble_eq_true rfl, Nat.le_of_ble_eq_true rfl⟩) hS (fun q _ h => hFc q h) hFc (fun u t H1 locs ht hvm hw hB hz1 hk1 hS => ?_)
  have hP1 : va_P (dC, dI) vwCl [] H1 := fun k q h => by simp at h
  have hD1 : va_D (va_A [] s.heap.size) [] := ⟨fun i j p q h => by simp at h, fun k q h => by simp at h⟩
  try dsimp only at hw
  obtain ⟨hP, hD⟩ := va_join (wr := [(sb, .inr (1, [.ref va, .int 0, .int 0, .int 2])), (va, .inl (kV, 16, .inl fV))]) (w1 := []) hP hD [] [0, 1] rfl rfl (by decide) (by decide) hk1 hFc hP1 hD1
  generalize H1 = H at hP hS ⊢
  have hP : va_P (dC, dI) vwCl [(sb, .inr (1, [.ref va, .int 0, .int 0, .int 2])), (va, .inl (kV, 16, .inl fV))] H := hP
  have hD : va_D A [(sb, .inr (1, [.ref va, .int 0, .int 0, .int 2])), (va, .inl (kV, 16, .inl fV))] := hD
  have hR : va_P (dC, dI) vwCl [] H := fun k q h => by simp at h
  refine W.widen (k := 0) (n := 0) (Nat.le_of_ble_eq_true rfl) (Nat.le_of_ble_eq_true rfl) ?_
  refine lv_aload_n hx hb dJ5_append_3fe6f_10 rfl (lv_at hl 0 rfl) ?_
  have hPc := (hP.app hR).sub (ws' := [] ++ [(sb, .inr (1, [.ref va, .int 0, .int 0, .int 2]))]) [0] rfl
  have hDc := (en_DD hD hDr hN0 hAb).sub (ws' := [] ++ [(sb, .inr (1, [.ref va, .int 0, .int 0, .int 2]))]) [0] (by decide) rfl
  have hKc := hK.sub (tys' := []) [] rfl
  have hFc := va_free (wc := []) hD hS hA [] rfl
  refine va_calli (va_runU (As := []) (rest := []) ⟨hx, hb, hml, hown, hts⟩ (c_J5_isLatin1 l dC dI b0 en H.size sb va 2) (va_cwU 0 hts gJ5_append_3fe6f_J5_isLatin1_aae02_u83J4 rfl rfl rfl rfl (by decide +kernel) ⟨Nat.le_of_ble_eq_true rfl, Nat.le_of_ble_eq_true rfl⟩) ⟨cP.blind, va_recv hK hP (ci := 1) (q0 := 0) rfl rfl, cP.use (en_z hb0 hS) (hE.on hAb hS) hPc hKc hDc trivial⟩ rfl rfl hl.1 rfl (lv_room (Nat.le_of_ble_eq_true rfl)) dJ5_append_3fe6f_11 ⟨Nat.le_of_ble_eq_true rfl, Nat.le_of_ble_eq_true rfl⟩) hS (fun q _ h => hFc q h) hFc (fun r_3 u t H1 locs ht hvm hw hB hz1 hk1 hS => ?_)
  have hP1 : va_P (dC, dI) vwCl [] H1 := fun k q h => by simp at h
  have hD1 : va_D (va_A [] H.size) [] := ⟨fun i j p q h => by simp at h, fun k q h => by simp at h⟩
  try dsimp only at hw
  obtain ⟨hP, hD⟩ := va_join (wr := [(sb, .inr (1, [.ref va, .int 0, .int 0, .int 2])), (va, .inl (kV, 16, .inl fV))]) (w1 := []) hP hD [] [0, 1] rfl rfl (by decide) (by decide) hk1 hFc hP1 hD1
  generalize H1 = H at hP hS ⊢
  have hP : va_P (dC, dI) vwCl [(sb, .inr (1, [.ref va, .int 0, .int 0, .int 2])), (va, .inl (kV, 16, .inl fV))] H := hP
  have hD : va_D A [(sb, .inr (1, [.ref va, .int 0, .int 0, .int 2])), (va, .inl (kV, 16, .inl fV))] := hD
  have hR : va_P (dC, dI) vwCl [] H := fun k q h => by simp at h
  refine W.widen (k := 0) (n := 0) (Nat.le_of_ble_eq_true rfl) (Nat.le_of_ble_eq_true rfl) ?_
  subst r_3
  refine lv_if_eq (tgt := 45) hx hb dJ5_append_3fe6f_14 (by first | decide | rfl) (fun c_4 => absurd c_4 (by decide)) (fun c_4 => ?_)
  refine lv_iload_n hx hb dJ5_append_3fe6f_17 rfl (lv_at hl 1 rfl) ?_
  have hPc := (hP.app hR).sub (ws' := [] ++ []) [] rfl
  have hDc := (en_DD hD hDr hN0 hAb).sub (ws' := [] ++ []) [] (by decide) rfl
  have hKc := hK.sub (tys' := []) [] rfl
  have hFc := va_free (wc := []) hD hS hA [] rfl
  refine va_calli (va_runS (As := [.int c9]) (rest := []) ⟨hx, hb, hml, hown, hts⟩ (c_canEncC l dC dI b0 en H.size c9 (z_c_appC5_0_212 fV c9 hfit h1)) (va_cwS 1 hts gJ5_append_3fe6f_J1_canEncode_fc78d rfl rfl rfl (by decide +kernel) ⟨Nat.le_of_ble_eq_true rfl, Nat.le_of_ble_eq_true rfl⟩) ⟨cP.blind, cP.use (en_z hb0 hS) (hE.on hAb hS) hPc hKc hDc trivial⟩ rfl rfl hl.1 rfl (lv_room (Nat.le_of_ble_eq_true rfl)) dJ5_append_3fe6f_18 ⟨Nat.le_of_ble_eq_true rfl, Nat.le_of_ble_eq_true rfl⟩) hS (fun q _ h => hFc q h) hFc (fun r_5 u t H1 locs ht hvm hw hB hz1 hk1 hS => ?_)
  have hP1 : va_P (dC, dI) vwCl [] H1 := fun k q h => by simp at h
  have hD1 : va_D (va_A [] H.size) [] := ⟨fun i j p q h => by simp at h, fun k q h => by simp at h⟩
  try dsimp only at hw
  obtain ⟨hP, hD⟩ := va_join (wr := [(sb, .inr (1, [.ref va, .int 0, .int 0, .int 2])), (va, .inl (kV, 16, .inl fV))]) (w1 := []) hP hD [] [0, 1] rfl rfl (by decide) (by decide) hk1 hFc hP1 hD1
  generalize H1 = H at hP hS ⊢
  have hP : va_P (dC, dI) vwCl [(sb, .inr (1, [.ref va, .int 0, .int 0, .int 2])), (va, .inl (kV, 16, .inl fV))] H := hP
  have hD : va_D A [(sb, .inr (1, [.ref va, .int 0, .int 0, .int 2])), (va, .inl (kV, 16, .inl fV))] := hD
  have hR : va_P (dC, dI) vwCl [] H := fun k q h => by simp at h
  refine W.widen (k := 0) (n := 0) (Nat.le_of_ble_eq_true rfl) (Nat.le_of_ble_eq_true rfl) ?_
  subst r_5
  refine lv_if_eq (tgt := 45) hx hb dJ5_append_3fe6f_21 (by first | decide | rfl) (fun c_6 => absurd c_6 (by decide)) (fun c_6 => ?_)
  refine lv_aload_n hx hb dJ5_append_3fe6f_24 rfl (lv_at hl 0 rfl) ?_
  refine va_get (D := (dC, dI)) (ci := 1) (v := .ref va) (C := RJ4) (T := TJ4) (N := 4) hx hb hts (by decide +kernel) hown hK hP 0 rfl rfl 0 (by decide) (hts (.fieldLink RJ5 15 "java/lang/AbstractStringBuilder" "value" "[B") (by decide +kernel)) (fun _ h9 => h9) rfl dJ5_append_3fe6f_25 ?_
  refine lv_aload_n hx hb dJ5_append_3fe6f_28 rfl (lv_at hl 0 rfl) ?_
  refine lv_dup hx hb dJ5_append_3fe6f_29 rfl ?_
  refine va_get (D := (dC, dI)) (ci := 1) (v := .int 2) (C := RJ4) (T := TJ4) (N := 4) hx hb hts (by decide +kernel) hown hK hP 0 rfl rfl 3 (by decide) (hts (.fieldLink RJ5 79 "java/lang/AbstractStringBuilder" "count" "I") (by decide +kernel)) (fun _ h9 => h9) rfl dJ5_append_3fe6f_30 ?_
  refine lv_dup_x1 hx hb dJ5_append_3fe6f_33 rfl rfl ?_
  refine lv_iconst (v := 1) hx hb dJ5_append_3fe6f_34 (by decide) ?_
  refine lv_iadd hx hb dJ5_append_3fe6f_35 ?_
  refine lv_topi (fun x_7 ex_7 => ?_)
  obtain rfl : x_7 = 3 := ex_7.trans (by decide)
  refine va_put (D := (dC, dI)) (ci := 1) (v := .int 3) (ty := .int) (C := RJ4) (T := TJ4) (N := 4) hx hb hts (by decide +kernel) tyJ4 tyJ4_ok nmJ4 hown hK hP hD hS 0 rfl rfl 3 (by decide) (hts (.fieldLink RJ5 79 "java/lang/AbstractStringBuilder" "count" "I") (by decide +kernel)) (fun _ h9 => h9) rfl (by decide +kernel) rfl rfl (Nat.le_of_ble_eq_true rfl) dJ5_append_3fe6f_36 (fun H locs hP hD hS => ?_)
  have hP : va_P (dC, dI) vwCl [(sb, .inr (1, [.ref va, .int 0, .int 0, .int 3])), (va, .inl (kV, 16, .inl fV))] H := hP
  have hD : va_D A [(sb, .inr (1, [.ref va, .int 0, .int 0, .int 3])), (va, .inl (kV, 16, .inl fV))] := hD
  have hR : va_P (dC, dI) vwCl [] H := fun k q h => by simp at h
  refine lv_iload_n hx hb dJ5_append_3fe6f_39 rfl (lv_at hl 1 rfl) ?_
  refine lv_i2b hx hb dJ5_append_3fe6f_40 rfl ?_
  refine lv_topi (fun x_8 ex_8 => ?_)
  refine va_bast hx hb hK hP hD hS 1 0 rfl rfl (vp_in_nI (by decide : 2 < 16) (by decide)) dJ5_append_3fe6f_41 (fun H locs hP hD hS => ?_)
  generalize ef_9 : upd fV (2 : Int32).toNatClampNeg (vp_nar .byte x_8) = f_9 at hP hD
  have hP : va_P (dC, dI) vwCl [(sb, .inr (1, [.ref va, .int 0, .int 0, .int 3])), (va, .inl (kV, 16, .inl f_9))] H := hP
  have hD : va_D A [(sb, .inr (1, [.ref va, .int 0, .int 0, .int 3])), (va, .inl (kV, 16, .inl f_9))] := hD
  have hR : va_P (dC, dI) vwCl [] H := fun k q h => by simp at h
  refine lv_goto (tgt := 75) hx hb dJ5_append_3fe6f_42 (by first | decide | rfl) ?_
  refine lv_aload_n hx hb dJ5_append_3fe6f_75 rfl (lv_at hl 0 rfl) ?_
  refine W.widen (k := 0) (n := 0) (Nat.le_of_ble_eq_true rfl) (Nat.le_of_ble_eq_true rfl) ?_
  exact W.aret (v := .ref sb) hx hb hr (by first | exact Or.inl ⟨_, rfl⟩ | exact Or.inr ⟨_, rfl⟩) (by first | exact Or.inl rfl | exact va_rf_or _ | exact Or.inr ⟨_, rfl⟩) (fun t ht hW => ⟨⟨(some sb), f_9, rfl, ⟨rfl, (by rw [← ef_9]; exact bfit_upd hfit)⟩, cB.mk ht hW (hP.sub [0, 1] rfl) (hK.sub [] rfl) (hD.sub [0, 1] (by decide) rfl) (trivial)⟩, hS.F ht⟩) hS.2.2 dJ5_append_3fe6f_76

set_option maxHeartbeats 4000000 in
set_option maxRecDepth 100000 in
/-- append(char) to 2 letters -/
theorem c_appC4_2 (l : Launch) (dC : Nat → ClassId) (dI : Nat → Nat → Nat) (b0 : Nat) (en : EnT) (sz : Nat) (sb va : Nat) (kV : ClassId) (fV : Nat → Int32) (c9 : Int32) (hfit : bfit fV) (h1 : c9 ≤ 255) : Met l yJ4_append_cf468 wsJ4_append_cf468 ({ frames := 2, cells := 0, slots := 0, locals := 43 } : Room) (cP b0 en (dC, dI) [(kV, .byte)] [(sb, .inr (1, [.ref va, .int 0, .int 0, .int 2])), (va, .inl (kV, 16, .inl fV))] [] sz (fun _ => True) [.ref sb, .int c9]) (va_Qq (fun (r : Option Nat) (u : Nat → Int32) => r = some sb ∧ bfit u) (fun u t => cB (dC, dI) [] [(sb, .inr (1, [.ref va, .int 0, .int 0, .int 3])), (va, .inl (kV, 16, .inl u))] (va_A [(sb, .inr (1, [.ref va, .int 0, .int 0, .int 2])), (va, .inl (kV, 16, .inl fV))] sz) (fun _ => True) t) (va_A [(sb, .inr (1, [.ref va, .int 0, .int 0, .int 2])), (va, .inl (kV, 16, .inl fV))] sz)) 0 0 (va_A [(sb, .inr (1, [.ref va, .int 0, .int 0, .int 2])), (va, .inl (kV, 16, .inl fV))] sz) := by
  refine Met.ofW (cc := cJ4_append_cf468) (maxL := 2) (ret := (some (.object "java/lang/StringBuilder"))) (by decide) rfl ?_
  intro p e s m args below meth c s₁ B hml hv
  obtain ⟨rfl, hsz, hb0, hE, hPP, hK, hDD, hF0⟩ := hv
  have hx := B.exec
  have hb := B.bytes
  have hr := B.returns
  have hts := atoms_spec (ws := wsJ4_append_cf468) B.pre
  have hown : s.vm.findClass RJ4 = some m.cls := findClass_of_methodNamed B.named
  have hlocks := B.notSynchronized
  subst hsz
  have hN0 := en_N hPP hDD rfl
  have hP : va_P (dC, dI) vwCl [(sb, .inr (1, [.ref va, .int 0, .int 0, .int 2])), (va, .inl (kV, 16, .inl fV))] s.heap := hPP.sub [0, 1] rfl
  have hR0 : va_P (dC, dI) vwCl [] s.heap := hPP.sub [] rfl
  have hD0 : va_D (fun q => b0 ≤ q) [(sb, .inr (1, [.ref va, .int 0, .int 0, .int 2])), (va, .inl (kV, 16, .inl fV))] := hDD.sub [0, 1] (by decide) rfl
  have hDr : va_D (fun q => b0 ≤ q) [] := hDD.sub [] (by decide) rfl
  have hAb := en_A (sz := s.heap.size) hD0 hb0
  have hD := hD0.self (sz := s.heap.size)
  generalize hAe : va_A [(sb, .inr (1, [.ref va, .int 0, .int 0, .int 2])), (va, .inl (kV, 16, .inl fV))] s.heap.size = A at hD hAb hN0 ⊢
  have hA : ∀ q : Nat, s.heap.size ≤ q → A q := fun q h => by rw [← hAe]; exact Or.inr h
  have hS : va_S A s.heap s.heap [] := va_S.rf
  have hR := hR0
  have hl := lv_entry [.ref sb, .int c9] (n := 2) (Nat.le_of_ble_eq_true rfl)
  rw [lg_entry_eq]
  generalize (lg_sl [.ref sb, .int c9] ++ List.replicate (2 - (lg_sl [.ref sb, .int c9]).length) Slot.unset).toArray = ls at hl ⊢
  have hl : lv_has ls 2 [(0, .ref sb), (1, .int c9)] := hl
  refine lv_aload_n hx hb dJ4_append_cf468_0 rfl (lv_at hl 0 rfl) ?_
  refine lv_iload_n hx hb dJ4_append_cf468_1 rfl (lv_at hl 1 rfl) ?_
  have hPc := (hP.app hR).sub (ws' := [(sb, .inr (1, [.ref va, .int 0, .int 0, .int 2])), (va, .inl (kV, 16, .inl fV))] ++ []) [0, 1] rfl
  have hDc := (en_DD hD hDr hN0 hAb).sub (ws' := [(sb, .inr (1, [.ref va, .int 0, .int 0, .int 2])), (va, .inl (kV, 16, .inl fV))] ++ []) [0, 1] (by decide) rfl
  have hKc := hK.sub (tys' := [(kV, .byte)]) [0] rfl
  have hFc := va_free (wc := [(sb, .inr (1, [.ref va, .int 0, .int 0, .int 2])), (va, .inl (kV, 16, .inl fV))]) hD hS hA [0, 1] rfl
  refine va_callq (va_runSU (As := [.int c9]) (rest := []) (hK.1 1 _ rfl).2 ⟨hx, hb, hml, hown, hts⟩ (c_appC5_2 l dC dI b0 en s.heap.size sb va kV fV c9 hfit (z_c_appC5_0_212 fV c9 hfit h1)) (va_cwSU 1 hts gJ4_append_cf468_J5_append_3fe6f_s50 rfl rfl rfl (by decide +kernel) ⟨Nat.le_of_ble_eq_true rfl, Nat.le_of_ble_eq_true rfl⟩) ⟨cP.blind, va_recv hK hP (ci := 1) (q0 := 0) rfl rfl, cP.use (en_z hb0 hS) (hE.on hAb hS) hPc hKc hDc trivial⟩ rfl rfl hl.1 rfl (lv_room (Nat.le_of_ble_eq_true rfl)) dJ4_append_cf468_2 ⟨Nat.le_of_ble_eq_true rfl, Nat.le_of_ble_eq_true rfl⟩) hS (fun q _ h => hFc q h) hFc (fun r_2 u_1 t H1 locs ht hvm hw hB hz1 hk1 hS => ?_)
  obtain ⟨hP1, hK1, hD1, hF1⟩ := hB
  rw [ht] at hP1
  try rw [ht] at hF1
  have hK1 := va_K.moved hvm.symm hK1
  try dsimp only at hw
  obtain ⟨hP, hD⟩ := va_join (wr := []) (w1 := [(sb, .inr (1, [.ref va, .int 0, .int 0, .int 3])), (va, .inl (kV, 16, .inl u_1))]) hP hD [0, 1] [] rfl rfl (by decide) (by decide) hk1 hFc hP1 hD1
  generalize H1 = H at hP hS ⊢
  have hP : va_P (dC, dI) vwCl [(sb, .inr (1, [.ref va, .int 0, .int 0, .int 3])), (va, .inl (kV, 16, .inl u_1))] H := hP
  have hD : va_D A [(sb, .inr (1, [.ref va, .int 0, .int 0, .int 3])), (va, .inl (kV, 16, .inl u_1))] := hD
  have hR : va_P (dC, dI) vwCl [] H := fun k q h => by simp at h
  refine W.widen (k := 0) (n := 0) (Nat.le_of_ble_eq_true rfl) (Nat.le_of_ble_eq_true rfl) ?_
  obtain ⟨hw, h_3⟩ := hw
  subst r_2
  refine lv_pop hx hb dJ4_append_cf468_5 rfl ?_
  refine lv_aload_n hx hb dJ4_append_cf468_6 rfl (lv_at hl 0 rfl) ?_
  refine W.widen (k := 0) (n := 0) (Nat.le_of_ble_eq_true rfl) (Nat.le_of_ble_eq_true rfl) ?_
  exact W.aret (v := .ref sb) hx hb hr (by first | exact Or.inl ⟨_, rfl⟩ | exact Or.inr ⟨_, rfl⟩) (by first | exact Or.inl rfl | exact va_rf_or _ | exact Or.inr ⟨_, rfl⟩) (fun t ht hW => ⟨⟨(some sb), u_1, rfl, ⟨rfl, h_3⟩, cB.mk ht hW (hP.sub [0, 1] rfl) (hK.sub [] rfl) (hD.sub [0, 1] (by decide) rfl) (trivial)⟩, hS.F ht⟩) hS.2.2 dJ4_append_cf468_7

set_option maxHeartbeats 4000000 in
set_option maxRecDepth 100000 in
/-- getValue() -/
theorem c_getValue (l : Launch) (dC : Nat → ClassId) (dI : Nat → Nat → Nat) (b0 : Nat) (en : EnT) (sz : Nat) (sb va : Nat) (n : Int32) : Met l yJ5_getValue_6d5f1 wsJ5_getValue_6d5f1 ({ frames := 0, cells := 0, slots := 0, locals := 0 } : Room) (cP b0 en (dC, dI) [] [] [(sb, .inr (1, [.ref va, .int 0, .int 0, .int n]))] sz (fun _ => True) [.ref sb]) (va_Qq (fun (r : Option Nat) (_ : Unit) => r = some va) (fun _ _ => True) (va_A [] sz)) 0 0 (va_A [] sz) := by
  refine Met.ofW (cc := cJ5_getValue_6d5f1) (maxL := 1) (ret := (some (.array .byte))) (by decide) rfl ?_
  intro p e s m args below meth c s₁ B hml hv
  obtain ⟨rfl, hsz, hb0, hE, hPP, hK, hDD, hF0⟩ := hv
  have hx := B.exec
  have hb := B.bytes
  have hr := B.returns
  have hts := atoms_spec (ws := wsJ5_getValue_6d5f1) B.pre
  have hown : s.vm.findClass RJ5 = some m.cls := findClass_of_methodNamed B.named
  have hlocks := B.notSynchronized
  subst hsz
  have hN0 := en_N hPP hDD rfl
  have hP : va_P (dC, dI) vwCl [] s.heap := hPP.sub [] rfl
  have hR0 : va_P (dC, dI) vwCl [(sb, .inr (1, [.ref va, .int 0, .int 0, .int n]))] s.heap := hPP.sub [0] rfl
  have hD0 : va_D (fun q => b0 ≤ q) [] := hDD.sub [] (by decide) rfl
  have hDr : va_D (fun q => b0 ≤ q) [(sb, .inr (1, [.ref va, .int 0, .int 0, .int n]))] := hDD.sub [0] (by decide) rfl
  have hAb := en_A (sz := s.heap.size) hD0 hb0
  have hD := hD0.self (sz := s.heap.size)
  generalize hAe : va_A [] s.heap.size = A at hD hAb hN0 ⊢
  have hA : ∀ q : Nat, s.heap.size ≤ q → A q := fun q h => by rw [← hAe]; exact Or.inr h
  have hS : va_S A s.heap s.heap [] := va_S.rf
  have hR := hR0
  have hl := lv_entry [.ref sb] (n := 1) (Nat.le_of_ble_eq_true rfl)
  rw [lg_entry_eq]
  generalize (lg_sl [.ref sb] ++ List.replicate (1 - (lg_sl [.ref sb]).length) Slot.unset).toArray = ls at hl ⊢
  have hl : lv_has ls 1 [(0, .ref sb)] := hl
  refine lv_aload_n hx hb dJ5_getValue_6d5f1_0 rfl (lv_at hl 0 rfl) ?_
  refine va_get (D := (dC, dI)) (ci := 1) (v := .ref va) (C := RJ4) (T := TJ4) (N := 4) hx hb hts (by decide +kernel) hown hK hR 0 rfl rfl 0 (by decide) (hts (.fieldLink RJ5 15 "java/lang/AbstractStringBuilder" "value" "[B") (by decide +kernel)) (fun _ h9 => h9) rfl dJ5_getValue_6d5f1_1 ?_
  refine W.widen (k := 0) (n := 0) (Nat.le_of_ble_eq_true rfl) (Nat.le_of_ble_eq_true rfl) ?_
  exact W.aret (v := .ref va) hx hb hr (by first | exact Or.inl ⟨_, rfl⟩ | exact Or.inr ⟨_, rfl⟩) (by first | exact Or.inl rfl | exact va_rf_or _ | exact Or.inr ⟨_, rfl⟩) (fun t ht hW => ⟨⟨(some va), (), rfl, rfl, trivial⟩, hS.F ht⟩) hS.2.2 dJ5_getValue_6d5f1_4

set_option maxHeartbeats 4000000 in
set_option maxRecDepth 100000 in
/-- length() -/
theorem c_J5_length (l : Launch) (dC : Nat → ClassId) (dI : Nat → Nat → Nat) (b0 : Nat) (en : EnT) (sz : Nat) (sb va : Nat) (n : Int32) : Met l yJ5_length_8abf5 wsJ5_length_8abf5 ({ frames := 0, cells := 0, slots := 0, locals := 0 } : Room) (cP b0 en (dC, dI) [] [] [(sb, .inr (1, [.ref va, .int 0, .int 0, .int n]))] sz (fun _ => True) [.ref sb]) (va_Qi (fun (r : Int32) (_ : Unit) => r = n) (fun _ _ => True) (va_A [] sz)) 0 0 (va_A [] sz) := by
  refine Met.ofW (cc := cJ5_length_8abf5) (maxL := 1) (ret := (some .int)) (by decide) rfl ?_
  intro p e s m args below meth c s₁ B hml hv
  obtain ⟨rfl, hsz, hb0, hE, hPP, hK, hDD, hF0⟩ := hv
  have hx := B.exec
  have hb := B.bytes
  have hr := B.returns
  have hts := atoms_spec (ws := wsJ5_length_8abf5) B.pre
  have hown : s.vm.findClass RJ5 = some m.cls := findClass_of_methodNamed B.named
  have hlocks := B.notSynchronized
  subst hsz
  have hN0 := en_N hPP hDD rfl
  have hP : va_P (dC, dI) vwCl [] s.heap := hPP.sub [] rfl
  have hR0 : va_P (dC, dI) vwCl [(sb, .inr (1, [.ref va, .int 0, .int 0, .int n]))] s.heap := hPP.sub [0] rfl
  have hD0 : va_D (fun q => b0 ≤ q) [] := hDD.sub [] (by decide) rfl
  have hDr : va_D (fun q => b0 ≤ q) [(sb, .inr (1, [.ref va, .int 0, .int 0, .int n]))] := hDD.sub [0] (by decide) rfl
  have hAb := en_A (sz := s.heap.size) hD0 hb0
  have hD := hD0.self (sz := s.heap.size)
  generalize hAe : va_A [] s.heap.size = A at hD hAb hN0 ⊢
  have hA : ∀ q : Nat, s.heap.size ≤ q → A q := fun q h => by rw [← hAe]; exact Or.inr h
  have hS : va_S A s.heap s.heap [] := va_S.rf
  have hR := hR0
  have hl := lv_entry [.ref sb] (n := 1) (Nat.le_of_ble_eq_true rfl)
  rw [lg_entry_eq]
  generalize (lg_sl [.ref sb] ++ List.replicate (1 - (lg_sl [.ref sb]).length) Slot.unset).toArray = ls at hl ⊢
  have hl : lv_has ls 1 [(0, .ref sb)] := hl
  refine lv_aload_n hx hb dJ5_length_8abf5_0 rfl (lv_at hl 0 rfl) ?_
  refine va_get (D := (dC, dI)) (ci := 1) (v := .int n) (C := RJ4) (T := TJ4) (N := 4) hx hb hts (by decide +kernel) hown hK hR 0 rfl rfl 3 (by decide) (hts (.fieldLink RJ5 79 "java/lang/AbstractStringBuilder" "count" "I") (by decide +kernel)) (fun _ h9 => h9) rfl dJ5_length_8abf5_1 ?_
  refine W.widen (k := 0) (n := 0) (Nat.le_of_ble_eq_true rfl) (Nat.le_of_ble_eq_true rfl) ?_
  exact W.iret (v := n) hx hb hr (fun t ht hW => ⟨⟨n, (), rfl, rfl, trivial⟩, hS.F ht⟩) hS.2.2 dJ5_length_8abf5_4

set_option maxHeartbeats 4000000 in
set_option maxRecDepth 100000 in
/-- length() -/
theorem c_J4_length (l : Launch) (dC : Nat → ClassId) (dI : Nat → Nat → Nat) (b0 : Nat) (en : EnT) (sz : Nat) (sb va : Nat) (n : Int32) : Met l yJ4_length_8abf5 wsJ4_length_8abf5 ({ frames := 1, cells := 0, slots := 0, locals := 20 } : Room) (cP b0 en (dC, dI) [] [] [(sb, .inr (1, [.ref va, .int 0, .int 0, .int n]))] sz (fun _ => True) [.ref sb]) (va_Qi (fun (r : Int32) (_ : Unit) => r = n) (fun _ _ => True) (va_A [] sz)) 0 0 (va_A [] sz) := by
  refine Met.ofW (cc := cJ4_length_8abf5) (maxL := 1) (ret := (some .int)) (by decide) rfl ?_
  intro p e s m args below meth c s₁ B hml hv
  obtain ⟨rfl, hsz, hb0, hE, hPP, hK, hDD, hF0⟩ := hv
  have hx := B.exec
  have hb := B.bytes
  have hr := B.returns
  have hts := atoms_spec (ws := wsJ4_length_8abf5) B.pre
  have hown : s.vm.findClass RJ4 = some m.cls := findClass_of_methodNamed B.named
  have hlocks := B.notSynchronized
  subst hsz
  have hN0 := en_N hPP hDD rfl
  have hP : va_P (dC, dI) vwCl [] s.heap := hPP.sub [] rfl
  have hR0 : va_P (dC, dI) vwCl [(sb, .inr (1, [.ref va, .int 0, .int 0, .int n]))] s.heap := hPP.sub [0] rfl
  have hD0 : va_D (fun q => b0 ≤ q) [] := hDD.sub [] (by decide) rfl
  have hDr : va_D (fun q => b0 ≤ q) [(sb, .inr (1, [.ref va, .int 0, .int 0, .int n]))] := hDD.sub [0] (by decide) rfl
  have hAb := en_A (sz := s.heap.size) hD0 hb0
  have hD := hD0.self (sz := s.heap.size)
  generalize hAe : va_A [] s.heap.size = A at hD hAb hN0 ⊢
  have hA : ∀ q : Nat, s.heap.size ≤ q → A q := fun q h => by rw [← hAe]; exact Or.inr h
  have hS : va_S A s.heap s.heap [] := va_S.rf
  have hR := hR0
  have hl := lv_entry [.ref sb] (n := 1) (Nat.le_of_ble_eq_true rfl)
  rw [lg_entry_eq]
  generalize (lg_sl [.ref sb] ++ List.replicate (1 - (lg_sl [.ref sb]).length) Slot.unset).toArray = ls at hl ⊢
  have hl : lv_has ls 1 [(0, .ref sb)] := hl
  refine lv_aload_n hx hb dJ4_length_8abf5_0 rfl (lv_at hl 0 rfl) ?_
  have hPc := (hP.app hR).sub (ws' := [] ++ [(sb, .inr (1, [.ref va, .int 0, .int 0, .int n]))]) [0] rfl
  have hDc := (en_DD hD hDr hN0 hAb).sub (ws' := [] ++ [(sb, .inr (1, [.ref va, .int 0, .int 0, .int n]))]) [0] (by decide) rfl
  have hKc := hK.sub (tys' := []) [] rfl
  have hFc := va_free (wc := []) hD hS hA [] rfl
  refine va_calli (va_runSU (As := []) (rest := []) (hK.1 1 _ rfl).2 ⟨hx, hb, hml, hown, hts⟩ (c_J5_length l dC dI b0 en s.heap.size sb va n) (va_cwSU 0 hts gJ4_length_8abf5_J5_length_8abf5_s343 rfl rfl rfl (by decide +kernel) ⟨Nat.le_of_ble_eq_true rfl, Nat.le_of_ble_eq_true rfl⟩) ⟨cP.blind, va_recv hK hR (ci := 1) (q0 := 0) rfl rfl, cP.use (en_z hb0 hS) (hE.on hAb hS) hPc hKc hDc trivial⟩ rfl rfl hl.1 rfl (lv_room (Nat.le_of_ble_eq_true rfl)) dJ4_length_8abf5_1 ⟨Nat.le_of_ble_eq_true rfl, Nat.le_of_ble_eq_true rfl⟩) hS (fun q _ h => hFc q h) hFc (fun r_1 u t H1 locs ht hvm hw hB hz1 hk1 hS => ?_)
  have hP1 : va_P (dC, dI) vwCl [] H1 := fun k q h => by simp at h
  have hD1 : va_D (va_A [] s.heap.size) [] := ⟨fun i j p q h => by simp at h, fun k q h => by simp at h⟩
  try dsimp only at hw
  obtain ⟨hP, hD⟩ := va_join (wr := []) (w1 := []) hP hD [] [] rfl rfl (by decide) (by decide) hk1 hFc hP1 hD1
  generalize H1 = H at hP hS ⊢
  have hP : va_P (dC, dI) vwCl [] H := hP
  have hD : va_D A [] := hD
  have hR := en_R hR0 hN0 hS
  refine W.widen (k := 0) (n := 0) (Nat.le_of_ble_eq_true rfl) (Nat.le_of_ble_eq_true rfl) ?_
  subst r_1
  refine W.widen (k := 0) (n := 0) (Nat.le_of_ble_eq_true rfl) (Nat.le_of_ble_eq_true rfl) ?_
  exact W.iret (v := n) hx hb hr (fun t ht hW => ⟨⟨n, (), rfl, rfl, trivial⟩, hS.F ht⟩) hS.2.2 dJ4_length_8abf5_4

set_option maxHeartbeats 4000000 in
set_option maxRecDepth 100000 in
/-- checkLength(0, 3) -/
theorem c_checkLength (l : Launch) (dC : Nat → ClassId) (dI : Nat → Nat → Nat) (b0 : Nat) (en : EnT) (sz : Nat) : Met l yJ7_checkLength_df160 wsJ7_checkLength_df160 ({ frames := 0, cells := 0, slots := 0, locals := 0 } : Room) (cP b0 en (dC, dI) [] [] [] sz (fun _ => True) [.int 0, .int 3]) (va_Qv (fun _ : Unit => True) (fun _ _ => True) (va_A [] sz)) 0 0 (va_A [] sz) := by
  refine Met.ofW (cc := cJ7_checkLength_df160) (maxL := 2) (ret := none) (by decide) rfl ?_
  intro p e s m args below meth c s₁ B hml hv
  obtain ⟨rfl, hsz, hb0, hE, hPP, hK, hDD, hF0⟩ := hv
  have hx := B.exec
  have hb := B.bytes
  have hr := B.returns
  have hts := atoms_spec (ws := wsJ7_checkLength_df160) B.pre
  have hown : s.vm.findClass RJ7 = some m.cls := findClass_of_methodNamed B.named
  have hlocks := B.notSynchronized
  subst hsz
  have hN0 := en_N hPP hDD rfl
  have hP : va_P (dC, dI) vwCl [] s.heap := hPP.sub [] rfl
  have hR0 : va_P (dC, dI) vwCl [] s.heap := hPP.sub [] rfl
  have hD0 : va_D (fun q => b0 ≤ q) [] := hDD.sub [] (by decide) rfl
  have hDr : va_D (fun q => b0 ≤ q) [] := hDD.sub [] (by decide) rfl
  have hAb := en_A (sz := s.heap.size) hD0 hb0
  have hD := hD0.self (sz := s.heap.size)
  generalize hAe : va_A [] s.heap.size = A at hD hAb hN0 ⊢
  have hA : ∀ q : Nat, s.heap.size ≤ q → A q := fun q h => by rw [← hAe]; exact Or.inr h
  have hS : va_S A s.heap s.heap [] := va_S.rf
  have hR := hR0
  have hl := lv_entry [.int 0, .int 3] (n := 2) (Nat.le_of_ble_eq_true rfl)
  rw [lg_entry_eq]
  generalize (lg_sl [.int 0, .int 3] ++ List.replicate (2 - (lg_sl [.int 0, .int 3]).length) Slot.unset).toArray = ls at hl ⊢
  have hl : lv_has ls 2 [(0, .int 0), (1, .int 3)] := hl
  refine lv_iload_n hx hb dJ7_checkLength_df160_0 rfl (lv_at hl 1 rfl) ?_
  refine lv_iload_n hx hb dJ7_checkLength_df160_1 rfl (lv_at hl 0 rfl) ?_
  refine lv_icmp_ge (tgt := 37) hx hb dJ7_checkLength_df160_2 (by decide) (fun c_1 => ?_) (fun c_1 => absurd c_1 (by decide))
  refine W.widen (k := 0) (n := 0) (Nat.le_of_ble_eq_true rfl) (Nat.le_of_ble_eq_true rfl) ?_
  exact W.vret hx hb hr (fun t ht hW => ⟨⟨(), rfl, trivial, trivial⟩, hS.F ht⟩) hS.2.2 dJ7_checkLength_df160_37

set_option maxHeartbeats 4000000 in
set_option maxRecDepth 100000 in
/-- copyOfRangeByte(row, 0, 3) -/
theorem c_copyRB (l : Launch) (dC : Nat → ClassId) (dI : Nat → Nat → Nat) (b0 : Nat) (en : EnT) (sz : Nat) (va : Nat) (kV : ClassId) (fV : Nat → Int32) (hfit : bfit fV) : Met l yJ7_copyOfRangeByte_39247 wsJ7_copyOfRangeByte_39247 ({ frames := 1, cells := 1, slots := 3, locals := 40 } : Room) (cP b0 en (dC, dI) [(kV, .byte)] [(va, .inl (kV, 16, .inl fV))] [] sz (fun _ => True) [.ref va, .int 0, .int 3]) (va_Qr (fun u : ClassId × (Nat → Int32) => True) (fun u r t => cB (dC, dI) [(u.1, .byte)] [(r, .inl (u.1, 3, .inl u.2))] (va_A [(va, .inl (kV, 16, .inl fV))] sz) (fun _ => True) t) (va_A [(va, .inl (kV, 16, .inl fV))] sz)) 1 3 (va_A [(va, .inl (kV, 16, .inl fV))] sz) := by
  refine Met.ofW (cc := cJ7_copyOfRangeByte_39247) (maxL := 5) (ret := (some (.array .byte))) (by decide) rfl ?_
  intro p e s m args below meth c s₁ B hml hv
  obtain ⟨rfl, hsz, hb0, hE, hPP, hK, hDD, hF0⟩ := hv
  have hx := B.exec
  have hb := B.bytes
  have hr := B.returns
  have hts := atoms_spec (ws := wsJ7_copyOfRangeByte_39247) B.pre
  have hown : s.vm.findClass RJ7 = some m.cls := findClass_of_methodNamed B.named
  have hlocks := B.notSynchronized
  subst hsz
  have hN0 := en_N hPP hDD rfl
  have hP : va_P (dC, dI) vwCl [(va, .inl (kV, 16, .inl fV))] s.heap := hPP.sub [0] rfl
  have hR0 : va_P (dC, dI) vwCl [] s.heap := hPP.sub [] rfl
  have hD0 : va_D (fun q => b0 ≤ q) [(va, .inl (kV, 16, .inl fV))] := hDD.sub [0] (by decide) rfl
  have hDr : va_D (fun q => b0 ≤ q) [] := hDD.sub [] (by decide) rfl
  have hAb := en_A (sz := s.heap.size) hD0 hb0
  have hD := hD0.self (sz := s.heap.size)
  generalize hAe : va_A [(va, .inl (kV, 16, .inl fV))] s.heap.size = A at hD hAb hN0 ⊢
  have hA : ∀ q : Nat, s.heap.size ≤ q → A q := fun q h => by rw [← hAe]; exact Or.inr h
  have hS : va_S A s.heap s.heap [] := va_S.rf
  have hR := hR0
  have hl := lv_entry [.ref va, .int 0, .int 3] (n := 5) (Nat.le_of_ble_eq_true rfl)
  rw [lg_entry_eq]
  generalize (lg_sl [.ref va, .int 0, .int 3] ++ List.replicate (5 - (lg_sl [.ref va, .int 0, .int 3]).length) Slot.unset).toArray = ls at hl ⊢
  have hl : lv_has ls 5 [(0, .ref va), (1, .int 0), (2, .int 3)] := hl
  refine lv_iload_n hx hb dJ7_copyOfRangeByte_39247_0 rfl (lv_at hl 1 rfl) ?_
  refine lv_iload_n hx hb dJ7_copyOfRangeByte_39247_1 rfl (lv_at hl 2 rfl) ?_
  have hPc := (hP.app hR).sub (ws' := [] ++ []) [] rfl
  have hDc := (en_DD hD hDr hN0 hAb).sub (ws' := [] ++ []) [] (by decide) rfl
  have hKc := hK.sub (tys' := []) [] rfl
  have hFc := va_free (wc := []) hD hS hA [] rfl
  refine va_callv (va_runS (As := [.int 0, .int 3]) (rest := []) ⟨hx, hb, hml, hown, hts⟩ (c_checkLength l dC dI b0 en s.heap.size ) (va_cwS 2 hts gJ7_copyOfRangeByte_39247_J7_checkLength_df160 rfl rfl rfl (by decide +kernel) ⟨Nat.le_of_ble_eq_true rfl, Nat.le_of_ble_eq_true rfl⟩) ⟨cP.blind, cP.use (en_z hb0 hS) (hE.on hAb hS) hPc hKc hDc trivial⟩ rfl rfl hl.1 rfl (lv_room (Nat.le_of_ble_eq_true rfl)) dJ7_copyOfRangeByte_39247_2 ⟨Nat.le_of_ble_eq_true rfl, Nat.le_of_ble_eq_true rfl⟩) hS (fun q _ h => hFc q h) hFc (fun u t H1 locs ht hvm hw hB hz1 hk1 hS => ?_)
  have hP1 : va_P (dC, dI) vwCl [] H1 := fun k q h => by simp at h
  have hD1 : va_D (va_A [] s.heap.size) [] := ⟨fun i j p q h => by simp at h, fun k q h => by simp at h⟩
  try dsimp only at hw
  obtain ⟨hP, hD⟩ := va_join (wr := [(va, .inl (kV, 16, .inl fV))]) (w1 := []) hP hD [] [0] rfl rfl (by decide) (by decide) hk1 hFc hP1 hD1
  generalize H1 = H at hP hS ⊢
  have hP : va_P (dC, dI) vwCl [(va, .inl (kV, 16, .inl fV))] H := hP
  have hD : va_D A [(va, .inl (kV, 16, .inl fV))] := hD
  have hR : va_P (dC, dI) vwCl [] H := fun k q h => by simp at h
  refine W.widen (k := 0) (n := 0) (Nat.le_of_ble_eq_true rfl) (Nat.le_of_ble_eq_true rfl) ?_
  refine lv_iload_n hx hb dJ7_copyOfRangeByte_39247_5 rfl (lv_at hl 2 rfl) ?_
  refine lv_iload_n hx hb dJ7_copyOfRangeByte_39247_6 rfl (lv_at hl 1 rfl) ?_
  refine lv_isub hx hb dJ7_copyOfRangeByte_39247_7 ?_
  refine lv_topi (fun x_2 ex_2 => ?_)
  obtain rfl : x_2 = 3 := ex_2.trans (by decide)
  refine lv_istore_n (lv' := [(3, .int 3), (0, .ref va), (1, .int 0), (2, .int 3)]) hx hb dJ7_copyOfRangeByte_39247_8 rfl hl (by decide) rfl (fun ls hl => ?_)
  refine lv_iload_n hx hb dJ7_copyOfRangeByte_39247_9 rfl (lv_at hl 0 rfl) ?_
  refine va_newa (atype := .byte) (a0 := (3, .inl (fun _ => 0))) hx hb (hts (.arrayClass .byte) (by decide +kernel)) rfl hK hP hD hS hA (fun _ => rfl) (by decide) (by decide) (by decide) (Nat.le_of_ble_eq_true rfl) (Nat.le_of_ble_eq_true rfl) dJ7_copyOfRangeByte_39247_10 (fun q_3 k_4 H hK hP hD hS => ?_)
  have hP : va_P (dC, dI) vwCl [(va, .inl (kV, 16, .inl fV)), (q_3, .inl (k_4, 3, .inl (fun _ => 0)))] H := hP
  have hD : va_D A [(va, .inl (kV, 16, .inl fV)), (q_3, .inl (k_4, 3, .inl (fun _ => 0)))] := hD
  have hR : va_P (dC, dI) vwCl [] H := fun k q h => by simp at h
  refine W.widen (k := 1) (n := 3) (Nat.le_of_ble_eq_true rfl) (Nat.le_of_ble_eq_true rfl) ?_
  refine lv_astore (lv' := [(4, .ref q_3), (3, .int 3), (0, .ref va), (1, .int 0), (2, .int 3)]) hx hb dJ7_copyOfRangeByte_39247_12 hl (by decide) rfl (fun ls hl => ?_)
  refine lv_aload_n hx hb dJ7_copyOfRangeByte_39247_14 rfl (lv_at hl 2 rfl) ?_
  refine lv_iload_n hx hb dJ7_copyOfRangeByte_39247_15 rfl (lv_at hl 3 rfl) ?_
  refine lv_aload hx hb dJ7_copyOfRangeByte_39247_16 (lv_at hl 0 rfl) ?_
  refine lv_iconst (v := 0) hx hb dJ7_copyOfRangeByte_39247_18 (by decide) ?_
  refine lv_aload_n hx hb dJ7_copyOfRangeByte_39247_19 rfl (lv_at hl 2 rfl) ?_
  refine va_alen hx hb hK hP 0 0 rfl rfl (v := 16) rfl dJ7_copyOfRangeByte_39247_20 ?_
  refine lv_iload_n hx hb dJ7_copyOfRangeByte_39247_21 rfl (lv_at hl 3 rfl) ?_
  refine lv_isub hx hb dJ7_copyOfRangeByte_39247_22 ?_
  refine lv_topi (fun x_5 ex_5 => ?_)
  obtain rfl : x_5 = 16 := ex_5.trans (by decide)
  refine lv_iload_n hx hb dJ7_copyOfRangeByte_39247_23 rfl (lv_at hl 1 rfl) ?_
  refine va_mmin hx hb (hml.trans hl.1.symm) hown (hts (.methodLink RJ7 304 Lib.Math.min.name) (by decide +kernel)) (hts (.static Lib.Math.min.name) (by decide +kernel)) (hts (.initialized "java/lang/Math") (by decide +kernel)) (hts (.code Lib.Math.min.name Lib.Math.min.code 2 (some .int)) (by decide +kernel)) (Nat.le_of_ble_eq_true rfl) (Nat.le_of_ble_eq_true rfl) (Nat.le_of_ble_eq_true rfl) (Nat.le_of_ble_eq_true rfl) dJ7_copyOfRangeByte_39247_24 ?_
  refine lv_topi (fun x_6 ex_6 => ?_)
  obtain rfl : x_6 = 3 := ex_6.trans (by decide)
  refine va_copyi hx hb (hml.trans hl.1.symm) hown (hts (.methodLink RJ7 150 arraycopyName) (by decide +kernel)) (hts (.native arraycopyName) (by decide +kernel)) (hts (.static arraycopyName) (by decide +kernel)) (hts (.initialized "java/lang/System") (by decide +kernel)) hK hP hD hS 0 1 0 1 rfl rfl rfl rfl rfl (by decide) (by decide) (by decide) (by decide) (by decide) (fun i9 _ => hfit _) (Nat.le_of_ble_eq_true rfl) (Nat.le_of_ble_eq_true rfl) dJ7_copyOfRangeByte_39247_27 (fun H locs hP hD hS => ?_)
  generalize hP_f_7 : va_cpy _ (fun _ => (0 : Int32)) _ _ _ = f_7 at hP hD
  have hP : va_P (dC, dI) vwCl [(va, .inl (kV, 16, .inl fV)), (q_3, .inl (k_4, 3, .inl f_7))] H := hP
  have hD : va_D A [(va, .inl (kV, 16, .inl fV)), (q_3, .inl (k_4, 3, .inl f_7))] := hD
  have hR : va_P (dC, dI) vwCl [] H := fun k q h => by simp at h
  refine lv_aload hx hb dJ7_copyOfRangeByte_39247_30 (lv_at hl 0 rfl) ?_
  refine W.widen (k := 1) (n := 3) (Nat.le_of_ble_eq_true rfl) (Nat.le_of_ble_eq_true rfl) ?_
  exact W.aret (v := .ref q_3) hx hb hr (by first | exact Or.inl ⟨_, rfl⟩ | exact Or.inr ⟨_, rfl⟩) (Or.inr ⟨_, rfl⟩) (fun t ht hW => ⟨⟨⟨k_4, f_7⟩, q_3, rfl, trivial, cB.mk ht hW (hP.sub [1] rfl) (hK.sub [1] rfl) (hD.sub [1] (by decide) rfl) (trivial)⟩, hS.F ht⟩) hS.2.2 dJ7_copyOfRangeByte_39247_32

set_option maxHeartbeats 4000000 in
set_option maxRecDepth 100000 in
/-- copyOfRange(row, 0, 3) -/
theorem c_copyR (l : Launch) (dC : Nat → ClassId) (dI : Nat → Nat → Nat) (b0 : Nat) (en : EnT) (sz : Nat) (va : Nat) (kV : ClassId) (fV : Nat → Int32) (hfit : bfit fV) : Met l yJ7_copyOfRange_39247 wsJ7_copyOfRange_39247 ({ frames := 2, cells := 1, slots := 3, locals := 64 } : Room) (cP b0 en (dC, dI) [(kV, .byte)] [(va, .inl (kV, 16, .inl fV))] [] sz (fun _ => True) [.ref va, .int 0, .int 3]) (va_Qr (fun u : ClassId × (Nat → Int32) => True) (fun u r t => cB (dC, dI) [(u.1, .byte)] [(r, .inl (u.1, 3, .inl u.2))] (va_A [(va, .inl (kV, 16, .inl fV))] sz) (fun _ => True) t) (va_A [(va, .inl (kV, 16, .inl fV))] sz)) 1 3 (va_A [(va, .inl (kV, 16, .inl fV))] sz) := by
  refine Met.ofW (cc := cJ7_copyOfRange_39247) (maxL := 3) (ret := (some (.array .byte))) (by decide) rfl ?_
  intro p e s m args below meth c s₁ B hml hv
  obtain ⟨rfl, hsz, hb0, hE, hPP, hK, hDD, hF0⟩ := hv
  have hx := B.exec
  have hb := B.bytes
  have hr := B.returns
  have hts := atoms_spec (ws := wsJ7_copyOfRange_39247) B.pre
  have hown : s.vm.findClass RJ7 = some m.cls := findClass_of_methodNamed B.named
  have hlocks := B.notSynchronized
  subst hsz
  have hN0 := en_N hPP hDD rfl
  have hP : va_P (dC, dI) vwCl [(va, .inl (kV, 16, .inl fV))] s.heap := hPP.sub [0] rfl
  have hR0 : va_P (dC, dI) vwCl [] s.heap := hPP.sub [] rfl
  have hD0 : va_D (fun q => b0 ≤ q) [(va, .inl (kV, 16, .inl fV))] := hDD.sub [0] (by decide) rfl
  have hDr : va_D (fun q => b0 ≤ q) [] := hDD.sub [] (by decide) rfl
  have hAb := en_A (sz := s.heap.size) hD0 hb0
  have hD := hD0.self (sz := s.heap.size)
  generalize hAe : va_A [(va, .inl (kV, 16, .inl fV))] s.heap.size = A at hD hAb hN0 ⊢
  have hA : ∀ q : Nat, s.heap.size ≤ q → A q := fun q h => by rw [← hAe]; exact Or.inr h
  have hS : va_S A s.heap s.heap [] := va_S.rf
  have hR := hR0
  have hl := lv_entry [.ref va, .int 0, .int 3] (n := 3) (Nat.le_of_ble_eq_true rfl)
  rw [lg_entry_eq]
  generalize (lg_sl [.ref va, .int 0, .int 3] ++ List.replicate (3 - (lg_sl [.ref va, .int 0, .int 3]).length) Slot.unset).toArray = ls at hl ⊢
  have hl : lv_has ls 3 [(0, .ref va), (1, .int 0), (2, .int 3)] := hl
  refine lv_iload_n hx hb dJ7_copyOfRange_39247_0 rfl (lv_at hl 1 rfl) ?_
  refine lv_if_ne (tgt := 10) hx hb dJ7_copyOfRange_39247_1 (by first | decide | rfl) (fun c_1 => absurd c_1 (by decide)) (fun c_1 => ?_)
  refine lv_iload_n hx hb dJ7_copyOfRange_39247_4 rfl (lv_at hl 2 rfl) ?_
  refine lv_aload_n hx hb dJ7_copyOfRange_39247_5 rfl (lv_at hl 0 rfl) ?_
  refine va_alen hx hb hK hP 0 0 rfl rfl (v := 16) rfl dJ7_copyOfRange_39247_6 ?_
  refine lv_icmp_eq (tgt := 17) hx hb dJ7_copyOfRange_39247_7 (by first | decide | rfl) (fun c_2 => absurd c_2 (by decide)) (fun c_2 => ?_)
  refine lv_aload_n hx hb dJ7_copyOfRange_39247_10 rfl (lv_at hl 0 rfl) ?_
  refine lv_iload_n hx hb dJ7_copyOfRange_39247_11 rfl (lv_at hl 1 rfl) ?_
  refine lv_iload_n hx hb dJ7_copyOfRange_39247_12 rfl (lv_at hl 2 rfl) ?_
  have hPc := (hP.app hR).sub (ws' := [(va, .inl (kV, 16, .inl fV))] ++ []) [0] rfl
  have hDc := (en_DD hD hDr hN0 hAb).sub (ws' := [(va, .inl (kV, 16, .inl fV))] ++ []) [0] (by decide) rfl
  have hKc := hK.sub (tys' := [(kV, .byte)]) [0] rfl
  have hFc := va_free (wc := [(va, .inl (kV, 16, .inl fV))]) hD hS hA [0] rfl
  refine va_callr (va_runS (As := [.ref va, .int 0, .int 3]) (rest := []) ⟨hx, hb, hml, hown, hts⟩ (c_copyRB l dC dI b0 en s.heap.size va kV fV hfit) (va_cwS 3 hts gJ7_copyOfRange_39247_J7_copyOfRangeByte_39247 rfl rfl rfl (by decide +kernel) ⟨Nat.le_of_ble_eq_true rfl, Nat.le_of_ble_eq_true rfl⟩) ⟨cP.blind, cP.use (en_z hb0 hS) (hE.on hAb hS) hPc hKc hDc trivial⟩ rfl rfl hl.1 rfl (lv_room (Nat.le_of_ble_eq_true rfl)) dJ7_copyOfRange_39247_13 ⟨Nat.le_of_ble_eq_true rfl, Nat.le_of_ble_eq_true rfl⟩) hS (fun q _ h => hFc q h) hFc (fun ⟨kW_4, fW_5⟩ r_6 t H1 locs ht hvm hw hB hz1 hk1 hS => ?_)
  obtain ⟨hP1, hK1, hD1, hF1⟩ := hB
  rw [ht] at hP1
  try rw [ht] at hF1
  have hK1 := va_K.moved hvm.symm hK1
  try dsimp only at hw
  obtain ⟨hP, hD⟩ := va_join (wr := []) (w1 := [(r_6, .inl (kW_4, 3, .inl fW_5))]) hP hD [0] [] rfl rfl (by decide) (by decide) hk1 hFc hP1 hD1
  have hK := hK.app hK1
  generalize H1 = H at hP hS ⊢
  have hP : va_P (dC, dI) vwCl [(r_6, .inl (kW_4, 3, .inl fW_5))] H := hP
  have hD : va_D A [(r_6, .inl (kW_4, 3, .inl fW_5))] := hD
  have hR : va_P (dC, dI) vwCl [] H := fun k q h => by simp at h
  refine W.widen (k := 1) (n := 3) (Nat.le_of_ble_eq_true rfl) (Nat.le_of_ble_eq_true rfl) ?_
  refine W.widen (k := 1) (n := 3) (Nat.le_of_ble_eq_true rfl) (Nat.le_of_ble_eq_true rfl) ?_
  exact W.aret (v := .ref r_6) hx hb hr (by first | exact Or.inl ⟨_, rfl⟩ | exact Or.inr ⟨_, rfl⟩) (Or.inr ⟨_, rfl⟩) (fun t ht hW => ⟨⟨⟨kW_4, fW_5⟩, r_6, rfl, trivial, cB.mk ht hW (hP.sub [0] rfl) (hK.sub [1] rfl) (hD.sub [0] (by decide) rfl) (trivial)⟩, hS.F ht⟩) hS.2.2 dJ7_copyOfRange_39247_16

set_option maxHeartbeats 4000000 in
set_option maxRecDepth 100000 in
/-- String(builder, null) -/
theorem c_J0_init2 (l : Launch) (dC : Nat → ClassId) (dI : Nat → Nat → Nat) (b0 : Nat) (en : EnT) (sz : Nat) (st : Nat) (sb va : Nat) (kV : ClassId) (fV : Nat → Int32) (hfit : bfit fV) : Met l yJ0_init_db425 wsJ0_init_db425 ({ frames := 3, cells := 1, slots := 3, locals := 86 } : Room) (cP b0 en (dC, dI) [(kV, .byte)] [(st, .inr (0, [.null, .int 0, .int 0, .int 0])), (sb, .inr (1, [.ref va, .int 0, .int 0, .int 3])), (va, .inl (kV, 16, .inl fV))] [] sz (fun _ => True) [.ref st, .ref sb, .null]) (va_Qv (fun u : Nat => True) (fun u t => cB (dC, dI) [] [(st, .inr (0, [.ref u, .int 0, .int 0, .int 0]))] (va_A [(st, .inr (0, [.null, .int 0, .int 0, .int 0])), (sb, .inr (1, [.ref va, .int 0, .int 0, .int 3])), (va, .inl (kV, 16, .inl fV))] sz) (fun _ => True) t) (va_A [(st, .inr (0, [.null, .int 0, .int 0, .int 0])), (sb, .inr (1, [.ref va, .int 0, .int 0, .int 3])), (va, .inl (kV, 16, .inl fV))] sz)) 1 3 (va_A [(st, .inr (0, [.null, .int 0, .int 0, .int 0])), (sb, .inr (1, [.ref va, .int 0, .int 0, .int 3])), (va, .inl (kV, 16, .inl fV))] sz) := by
  refine Met.ofW (cc := cJ0_init_db425) (maxL := 5) (ret := none) (by decide) rfl ?_
  intro p e s m args below meth c s₁ B hml hv
  obtain ⟨rfl, hsz, hb0, hE, hPP, hK, hDD, hF0⟩ := hv
  have hx := B.exec
  have hb := B.bytes
  have hr := B.returns
  have hts := atoms_spec (ws := wsJ0_init_db425) B.pre
  have hown : s.vm.findClass RJ0 = some m.cls := findClass_of_methodNamed B.named
  have hlocks := B.notSynchronized
  have hin : meth.name = "<init>" := (name_of_methodNamed B.named B.method).1
  subst hsz
  have hN0 := en_N hPP hDD rfl
  have hP : va_P (dC, dI) vwCl [(st, .inr (0, [.null, .int 0, .int 0, .int 0])), (sb, .inr (1, [.ref va, .int 0, .int 0, .int 3])), (va, .inl (kV, 16, .inl fV))] s.heap := hPP.sub [0, 1, 2] rfl
  have hR0 : va_P (dC, dI) vwCl [] s.heap := hPP.sub [] rfl
  have hD0 : va_D (fun q => b0 ≤ q) [(st, .inr (0, [.null, .int 0, .int 0, .int 0])), (sb, .inr (1, [.ref va, .int 0, .int 0, .int 3])), (va, .inl (kV, 16, .inl fV))] := hDD.sub [0, 1, 2] (by decide) rfl
  have hDr : va_D (fun q => b0 ≤ q) [] := hDD.sub [] (by decide) rfl
  have hAb := en_A (sz := s.heap.size) hD0 hb0
  have hD := hD0.self (sz := s.heap.size)
  generalize hAe : va_A [(st, .inr (0, [.null, .int 0, .int 0, .int 0])), (sb, .inr (1, [.ref va, .int 0, .int 0, .int 3])), (va, .inl (kV, 16, .inl fV))] s.heap.size = A at hD hAb hN0 ⊢
  have hA : ∀ q : Nat, s.heap.size ≤ q → A q := fun q h => by rw [← hAe]; exact Or.inr h
  have hS : va_S A s.heap s.heap [] := va_S.rf
  have hR := hR0
  have hl := lv_entry [.ref st, .ref sb, .null] (n := 5) (Nat.le_of_ble_eq_true rfl)
  rw [lg_entry_eq]
  generalize (lg_sl [.ref st, .ref sb, .null] ++ List.replicate (5 - (lg_sl [.ref st, .ref sb, .null]).length) Slot.unset).toArray = ls at hl ⊢
  have hl : lv_has ls 5 [(0, .ref st), (1, .ref sb), (2, .null)] := hl
  refine lv_aload_n hx hb dJ0_init_db425_0 rfl (lv_at hl 0 rfl) ?_
  refine W.objInit hx hb hown (hts (.methodLink RJ0 1 objectInit) (by decide +kernel)) (hts (.instanceMethod objectInit) (by decide +kernel)) (hts (.code objectInit ⟨#[0xb1]⟩ 1 none) (by decide +kernel)) rfl (by rw [hml]; exact hl.1) rfl dJ0_init_db425_1 (Nat.le_of_ble_eq_true rfl) (Nat.le_of_ble_eq_true rfl) ?_
  refine lv_aload_n hx hb dJ0_init_db425_4 rfl (lv_at hl 1 rfl) ?_
  have hPc := (hP.app hR).sub (ws' := [] ++ [(sb, .inr (1, [.ref va, .int 0, .int 0, .int 3]))]) [1] rfl
  have hDc := (en_DD hD hDr hN0 hAb).sub (ws' := [] ++ [(sb, .inr (1, [.ref va, .int 0, .int 0, .int 3]))]) [1] (by decide) rfl
  have hKc := hK.sub (tys' := []) [] rfl
  have hFc := va_free (wc := []) hD hS hA [] rfl
  refine va_callq (va_runU (As := []) (rest := []) ⟨hx, hb, hml, hown, hts⟩ (c_getValue l dC dI b0 en s.heap.size sb va 3) (va_cwU 0 hts gJ0_init_db425_J5_getValue_6d5f1_u552J4 rfl rfl rfl rfl (by decide +kernel) ⟨Nat.le_of_ble_eq_true rfl, Nat.le_of_ble_eq_true rfl⟩) ⟨cP.blind, va_recv hK hP (ci := 1) (q0 := 1) rfl rfl, cP.use (en_z hb0 hS) (hE.on hAb hS) hPc hKc hDc trivial⟩ rfl rfl hl.1 rfl (lv_room (Nat.le_of_ble_eq_true rfl)) dJ0_init_db425_5 ⟨Nat.le_of_ble_eq_true rfl, Nat.le_of_ble_eq_true rfl⟩) hS (fun q _ h => hFc q h) hFc (fun r_1 u t H1 locs ht hvm hw hB hz1 hk1 hS => ?_)
  have hP1 : va_P (dC, dI) vwCl [] H1 := fun k q h => by simp at h
  have hD1 : va_D (va_A [] s.heap.size) [] := ⟨fun i j p q h => by simp at h, fun k q h => by simp at h⟩
  try dsimp only at hw
  obtain ⟨hP, hD⟩ := va_join (wr := [(st, .inr (0, [.null, .int 0, .int 0, .int 0])), (sb, .inr (1, [.ref va, .int 0, .int 0, .int 3])), (va, .inl (kV, 16, .inl fV))]) (w1 := []) hP hD [] [0, 1, 2] rfl rfl (by decide) (by decide) hk1 hFc hP1 hD1
  generalize H1 = H at hP hS ⊢
  have hP : va_P (dC, dI) vwCl [(st, .inr (0, [.null, .int 0, .int 0, .int 0])), (sb, .inr (1, [.ref va, .int 0, .int 0, .int 3])), (va, .inl (kV, 16, .inl fV))] H := hP
  have hD : va_D A [(st, .inr (0, [.null, .int 0, .int 0, .int 0])), (sb, .inr (1, [.ref va, .int 0, .int 0, .int 3])), (va, .inl (kV, 16, .inl fV))] := hD
  have hR : va_P (dC, dI) vwCl [] H := fun k q h => by simp at h
  refine W.widen (k := 0) (n := 0) (Nat.le_of_ble_eq_true rfl) (Nat.le_of_ble_eq_true rfl) ?_
  subst r_1
  refine lv_astore_n (lv' := [(3, .ref va), (0, .ref st), (1, .ref sb), (2, .null)]) hx hb dJ0_init_db425_8 rfl hl (by decide) rfl (fun ls hl => ?_)
  refine lv_aload_n hx hb dJ0_init_db425_9 rfl (lv_at hl 2 rfl) ?_
  have hPc := (hP.app hR).sub (ws' := [] ++ [(sb, .inr (1, [.ref va, .int 0, .int 0, .int 3]))]) [1] rfl
  have hDc := (en_DD hD hDr hN0 hAb).sub (ws' := [] ++ [(sb, .inr (1, [.ref va, .int 0, .int 0, .int 3]))]) [1] (by decide) rfl
  have hKc := hK.sub (tys' := []) [] rfl
  have hFc := va_free (wc := []) hD hS hA [] rfl
  refine va_calli (va_runU (As := []) (rest := []) ⟨hx, hb, hml, hown, hts⟩ (c_J4_length l dC dI b0 en H.size sb va 3) (va_cwO 0 hts gJ0_init_db425_J4_length_8abf5_u549J4 rfl rfl rfl (b0 := cJ5_length_8abf5) (m0 := 1) (r0 := (some .int)) (by decide +kernel) (by decide +kernel) ⟨Nat.le_of_ble_eq_true rfl, Nat.le_of_ble_eq_true rfl⟩) ⟨cP.blind, va_recv hK hP (ci := 1) (q0 := 1) rfl rfl, cP.use (en_z hb0 hS) (hE.on hAb hS) hPc hKc hDc trivial⟩ rfl rfl hl.1 rfl (lv_room (Nat.le_of_ble_eq_true rfl)) dJ0_init_db425_10 ⟨Nat.le_of_ble_eq_true rfl, Nat.le_of_ble_eq_true rfl⟩) hS (fun q _ h => hFc q h) hFc (fun r_2 u t H1 locs ht hvm hw hB hz1 hk1 hS => ?_)
  have hP1 : va_P (dC, dI) vwCl [] H1 := fun k q h => by simp at h
  have hD1 : va_D (va_A [] H.size) [] := ⟨fun i j p q h => by simp at h, fun k q h => by simp at h⟩
  try dsimp only at hw
  obtain ⟨hP, hD⟩ := va_join (wr := [(st, .inr (0, [.null, .int 0, .int 0, .int 0])), (sb, .inr (1, [.ref va, .int 0, .int 0, .int 3])), (va, .inl (kV, 16, .inl fV))]) (w1 := []) hP hD [] [0, 1, 2] rfl rfl (by decide) (by decide) hk1 hFc hP1 hD1
  generalize H1 = H at hP hS ⊢
  have hP : va_P (dC, dI) vwCl [(st, .inr (0, [.null, .int 0, .int 0, .int 0])), (sb, .inr (1, [.ref va, .int 0, .int 0, .int 3])), (va, .inl (kV, 16, .inl fV))] H := hP
  have hD : va_D A [(st, .inr (0, [.null, .int 0, .int 0, .int 0])), (sb, .inr (1, [.ref va, .int 0, .int 0, .int 3])), (va, .inl (kV, 16, .inl fV))] := hD
  have hR : va_P (dC, dI) vwCl [] H := fun k q h => by simp at h
  refine W.widen (k := 0) (n := 0) (Nat.le_of_ble_eq_true rfl) (Nat.le_of_ble_eq_true rfl) ?_
  subst r_2
  refine lv_istore (lv' := [(4, .int 3), (3, .ref va), (0, .ref st), (1, .ref sb), (2, .null)]) hx hb dJ0_init_db425_13 hl (by decide) rfl (fun ls hl => ?_)
  refine lv_aload_n hx hb dJ0_init_db425_15 rfl (lv_at hl 3 rfl) ?_
  have hPc := (hP.app hR).sub (ws' := [] ++ [(sb, .inr (1, [.ref va, .int 0, .int 0, .int 3]))]) [1] rfl
  have hDc := (en_DD hD hDr hN0 hAb).sub (ws' := [] ++ [(sb, .inr (1, [.ref va, .int 0, .int 0, .int 3]))]) [1] (by decide) rfl
  have hKc := hK.sub (tys' := []) [] rfl
  have hFc := va_free (wc := []) hD hS hA [] rfl
  refine va_calli (va_runU (As := []) (rest := []) ⟨hx, hb, hml, hown, hts⟩ (c_J5_isLatin1 l dC dI b0 en H.size sb va 3) (va_cwU 0 hts gJ0_init_db425_J5_isLatin1_aae02_u1047J4 rfl rfl rfl rfl (by decide +kernel) ⟨Nat.le_of_ble_eq_true rfl, Nat.le_of_ble_eq_true rfl⟩) ⟨cP.blind, va_recv hK hP (ci := 1) (q0 := 1) rfl rfl, cP.use (en_z hb0 hS) (hE.on hAb hS) hPc hKc hDc trivial⟩ rfl rfl hl.1 rfl (lv_room (Nat.le_of_ble_eq_true rfl)) dJ0_init_db425_16 ⟨Nat.le_of_ble_eq_true rfl, Nat.le_of_ble_eq_true rfl⟩) hS (fun q _ h => hFc q h) hFc (fun r_3 u t H1 locs ht hvm hw hB hz1 hk1 hS => ?_)
  have hP1 : va_P (dC, dI) vwCl [] H1 := fun k q h => by simp at h
  have hD1 : va_D (va_A [] H.size) [] := ⟨fun i j p q h => by simp at h, fun k q h => by simp at h⟩
  try dsimp only at hw
  obtain ⟨hP, hD⟩ := va_join (wr := [(st, .inr (0, [.null, .int 0, .int 0, .int 0])), (sb, .inr (1, [.ref va, .int 0, .int 0, .int 3])), (va, .inl (kV, 16, .inl fV))]) (w1 := []) hP hD [] [0, 1, 2] rfl rfl (by decide) (by decide) hk1 hFc hP1 hD1
  generalize H1 = H at hP hS ⊢
  have hP : va_P (dC, dI) vwCl [(st, .inr (0, [.null, .int 0, .int 0, .int 0])), (sb, .inr (1, [.ref va, .int 0, .int 0, .int 3])), (va, .inl (kV, 16, .inl fV))] H := hP
  have hD : va_D A [(st, .inr (0, [.null, .int 0, .int 0, .int 0])), (sb, .inr (1, [.ref va, .int 0, .int 0, .int 3])), (va, .inl (kV, 16, .inl fV))] := hD
  have hR : va_P (dC, dI) vwCl [] H := fun k q h => by simp at h
  refine W.widen (k := 0) (n := 0) (Nat.le_of_ble_eq_true rfl) (Nat.le_of_ble_eq_true rfl) ?_
  subst r_3
  refine lv_if_eq (tgt := 41) hx hb dJ0_init_db425_19 (by first | decide | rfl) (fun c_4 => absurd c_4 (by decide)) (fun c_4 => ?_)
  refine lv_aload_n hx hb dJ0_init_db425_22 rfl (lv_at hl 2 rfl) ?_
  refine lv_iconst (v := 0) hx hb dJ0_init_db425_23 (by decide) ?_
  refine va_putF (D := (dC, dI)) (ci := 0) (v := .int 0) (ty := .byte) (C := RJ0) (T := TJ0) (N := 4) hx hb hts (by decide +kernel) tyJ0 tyJ0_ok nmJ0 hown hK hP hD hS 0 rfl rfl 1 (by decide) (hts (.fieldLink RJ0 15 "java/lang/String" "coder" "B") (by decide +kernel)) (fun _ h9 => h9) rfl hin rfl (by decide +kernel) (by first | rfl | decide +kernel) (by first | rfl | decide +kernel) (Nat.le_of_ble_eq_true rfl) dJ0_init_db425_24 (fun H locs hP hD hS => ?_)
  have hP : va_P (dC, dI) vwCl [(st, .inr (0, [.null, .int 0, .int 0, .int 0])), (sb, .inr (1, [.ref va, .int 0, .int 0, .int 3])), (va, .inl (kV, 16, .inl fV))] H := hP
  have hD : va_D A [(st, .inr (0, [.null, .int 0, .int 0, .int 0])), (sb, .inr (1, [.ref va, .int 0, .int 0, .int 3])), (va, .inl (kV, 16, .inl fV))] := hD
  have hR : va_P (dC, dI) vwCl [] H := fun k q h => by simp at h
  refine lv_aload_n hx hb dJ0_init_db425_27 rfl (lv_at hl 2 rfl) ?_
  refine lv_aload_n hx hb dJ0_init_db425_28 rfl (lv_at hl 1 rfl) ?_
  refine lv_iconst (v := 0) hx hb dJ0_init_db425_29 (by decide) ?_
  refine lv_iload hx hb dJ0_init_db425_30 (lv_at hl 0 rfl) ?_
  have hPc := (hP.app hR).sub (ws' := [(va, .inl (kV, 16, .inl fV))] ++ []) [2] rfl
  have hDc := (en_DD hD hDr hN0 hAb).sub (ws' := [(va, .inl (kV, 16, .inl fV))] ++ []) [2] (by decide) rfl
  have hKc := hK.sub (tys' := [(kV, .byte)]) [0] rfl
  have hFc := va_free (wc := [(va, .inl (kV, 16, .inl fV))]) hD hS hA [2] rfl
  refine va_callr (va_runS (As := [.ref va, .int 0, .int 3]) (rest := [.ref st]) ⟨hx, hb, hml, hown, hts⟩ (c_copyR l dC dI b0 en H.size va kV fV hfit) (va_cwS 3 hts gJ0_init_db425_J7_copyOfRange_39247 rfl rfl rfl (by decide +kernel) ⟨Nat.le_of_ble_eq_true rfl, Nat.le_of_ble_eq_true rfl⟩) ⟨cP.blind, cP.use (en_z hb0 hS) (hE.on hAb hS) hPc hKc hDc trivial⟩ rfl rfl hl.1 rfl (lv_room (Nat.le_of_ble_eq_true rfl)) dJ0_init_db425_32 ⟨Nat.le_of_ble_eq_true rfl, Nat.le_of_ble_eq_true rfl⟩) hS (fun q _ h => hFc q h) hFc (fun ⟨kW_6, fW_7⟩ r_8 t H1 locs ht hvm hw hB hz1 hk1 hS => ?_)
  obtain ⟨hP1, hK1, hD1, hF1⟩ := hB
  rw [ht] at hP1
  try rw [ht] at hF1
  have hK1 := va_K.moved hvm.symm hK1
  try dsimp only at hw
  obtain ⟨hP, hD⟩ := va_join (wr := [(st, .inr (0, [.null, .int 0, .int 0, .int 0])), (sb, .inr (1, [.ref va, .int 0, .int 0, .int 3]))]) (w1 := [(r_8, .inl (kW_6, 3, .inl fW_7))]) hP hD [2] [0, 1] rfl rfl (by decide) (by decide) hk1 hFc hP1 hD1
  have hK := hK.app hK1
  generalize H1 = H at hP hS ⊢
  have hP : va_P (dC, dI) vwCl [(st, .inr (0, [.null, .int 0, .int 0, .int 0])), (sb, .inr (1, [.ref va, .int 0, .int 0, .int 3])), (r_8, .inl (kW_6, 3, .inl fW_7))] H := hP
  have hD : va_D A [(st, .inr (0, [.null, .int 0, .int 0, .int 0])), (sb, .inr (1, [.ref va, .int 0, .int 0, .int 3])), (r_8, .inl (kW_6, 3, .inl fW_7))] := hD
  have hR : va_P (dC, dI) vwCl [] H := fun k q h => by simp at h
  refine W.widen (k := 1) (n := 3) (Nat.le_of_ble_eq_true rfl) (Nat.le_of_ble_eq_true rfl) ?_
  refine va_putF (D := (dC, dI)) (ci := 0) (v := .ref r_8) (ty := .array (.byte)) (C := RJ0) (T := TJ0) (N := 4) hx hb hts (by decide +kernel) tyJ0 tyJ0_ok nmJ0 hown hK hP hD hS 0 rfl rfl 0 (by decide) (hts (.fieldLink RJ0 9 "java/lang/String" "value" "[B") (by decide +kernel)) (fun _ h9 => h9) rfl hin rfl (by decide +kernel) rfl rfl (Nat.le_of_ble_eq_true rfl) dJ0_init_db425_35 (fun H locs hP hD hS => ?_)
  have hP : va_P (dC, dI) vwCl [(st, .inr (0, [.ref r_8, .int 0, .int 0, .int 0])), (sb, .inr (1, [.ref va, .int 0, .int 0, .int 3])), (r_8, .inl (kW_6, 3, .inl fW_7))] H := hP
  have hD : va_D A [(st, .inr (0, [.ref r_8, .int 0, .int 0, .int 0])), (sb, .inr (1, [.ref va, .int 0, .int 0, .int 3])), (r_8, .inl (kW_6, 3, .inl fW_7))] := hD
  have hR : va_P (dC, dI) vwCl [] H := fun k q h => by simp at h
  refine lv_goto (tgt := 97) hx hb dJ0_init_db425_38 (by first | decide | rfl) ?_
  refine W.widen (k := 1) (n := 3) (Nat.le_of_ble_eq_true rfl) (Nat.le_of_ble_eq_true rfl) ?_
  exact W.vret hx hb hr (fun t ht hW => ⟨⟨r_8, rfl, trivial, cB.mk ht hW (hP.sub [0] rfl) (hK.sub [] rfl) (hD.sub [0] (by decide) rfl) (trivial)⟩, hS.F ht⟩) hS.2.2 dJ0_init_db425_97

set_option maxHeartbeats 4000000 in
set_option maxRecDepth 100000 in
/-- String(builder) -/
theorem c_J0_init1 (l : Launch) (dC : Nat → ClassId) (dI : Nat → Nat → Nat) (b0 : Nat) (en : EnT) (sz : Nat) (st : Nat) (sb va : Nat) (kV : ClassId) (fV : Nat → Int32) (hfit : bfit fV) : Met l yJ0_init_81219 wsJ0_init_81219 ({ frames := 4, cells := 1, slots := 3, locals := 110 } : Room) (cP b0 en (dC, dI) [(kV, .byte)] [(st, .inr (0, [.null, .int 0, .int 0, .int 0])), (sb, .inr (1, [.ref va, .int 0, .int 0, .int 3])), (va, .inl (kV, 16, .inl fV))] [] sz (fun _ => True) [.ref st, .ref sb]) (va_Qv (fun u : Nat => True) (fun u t => cB (dC, dI) [] [(st, .inr (0, [.ref u, .int 0, .int 0, .int 0]))] (va_A [(st, .inr (0, [.null, .int 0, .int 0, .int 0])), (sb, .inr (1, [.ref va, .int 0, .int 0, .int 3])), (va, .inl (kV, 16, .inl fV))] sz) (fun _ => True) t) (va_A [(st, .inr (0, [.null, .int 0, .int 0, .int 0])), (sb, .inr (1, [.ref va, .int 0, .int 0, .int 3])), (va, .inl (kV, 16, .inl fV))] sz)) 1 3 (va_A [(st, .inr (0, [.null, .int 0, .int 0, .int 0])), (sb, .inr (1, [.ref va, .int 0, .int 0, .int 3])), (va, .inl (kV, 16, .inl fV))] sz) := by
  refine Met.ofW (cc := cJ0_init_81219) (maxL := 2) (ret := none) (by decide) rfl ?_
  intro p e s m args below meth c s₁ B hml hv
  obtain ⟨rfl, hsz, hb0, hE, hPP, hK, hDD, hF0⟩ := hv
  have hx := B.exec
  have hb := B.bytes
  have hr := B.returns
  have hts := atoms_spec (ws := wsJ0_init_81219) B.pre
  have hown : s.vm.findClass RJ0 = some m.cls := findClass_of_methodNamed B.named
  have hlocks := B.notSynchronized
  have hin : meth.name = "<init>" := (name_of_methodNamed B.named B.method).1
  subst hsz
  have hN0 := en_N hPP hDD rfl
  have hP : va_P (dC, dI) vwCl [(st, .inr (0, [.null, .int 0, .int 0, .int 0])), (sb, .inr (1, [.ref va, .int 0, .int 0, .int 3])), (va, .inl (kV, 16, .inl fV))] s.heap := hPP.sub [0, 1, 2] rfl
  have hR0 : va_P (dC, dI) vwCl [] s.heap := hPP.sub [] rfl
  have hD0 : va_D (fun q => b0 ≤ q) [(st, .inr (0, [.null, .int 0, .int 0, .int 0])), (sb, .inr (1, [.ref va, .int 0, .int 0, .int 3])), (va, .inl (kV, 16, .inl fV))] := hDD.sub [0, 1, 2] (by decide) rfl
  have hDr : va_D (fun q => b0 ≤ q) [] := hDD.sub [] (by decide) rfl
  have hAb := en_A (sz := s.heap.size) hD0 hb0
  have hD := hD0.self (sz := s.heap.size)
  generalize hAe : va_A [(st, .inr (0, [.null, .int 0, .int 0, .int 0])), (sb, .inr (1, [.ref va, .int 0, .int 0, .int 3])), (va, .inl (kV, 16, .inl fV))] s.heap.size = A at hD hAb hN0 ⊢
  have hA : ∀ q : Nat, s.heap.size ≤ q → A q := fun q h => by rw [← hAe]; exact Or.inr h
  have hS : va_S A s.heap s.heap [] := va_S.rf
  have hR := hR0
  have hl := lv_entry [.ref st, .ref sb] (n := 2) (Nat.le_of_ble_eq_true rfl)
  rw [lg_entry_eq]
  generalize (lg_sl [.ref st, .ref sb] ++ List.replicate (2 - (lg_sl [.ref st, .ref sb]).length) Slot.unset).toArray = ls at hl ⊢
  have hl : lv_has ls 2 [(0, .ref st), (1, .ref sb)] := hl
  refine lv_aload_n hx hb dJ0_init_81219_0 rfl (lv_at hl 0 rfl) ?_
  refine lv_aload_n hx hb dJ0_init_81219_1 rfl (lv_at hl 1 rfl) ?_
  refine lv_null hx hb dJ0_init_81219_2 ?_
  have hPc := (hP.app hR).sub (ws' := [(st, .inr (0, [.null, .int 0, .int 0, .int 0])), (sb, .inr (1, [.ref va, .int 0, .int 0, .int 3])), (va, .inl (kV, 16, .inl fV))] ++ []) [0, 1, 2] rfl
  have hDc := (en_DD hD hDr hN0 hAb).sub (ws' := [(st, .inr (0, [.null, .int 0, .int 0, .int 0])), (sb, .inr (1, [.ref va, .int 0, .int 0, .int 3])), (va, .inl (kV, 16, .inl fV))] ++ []) [0, 1, 2] (by decide) rfl
  have hKc := hK.sub (tys' := [(kV, .byte)]) [0] rfl
  have hFc := va_free (wc := [(st, .inr (0, [.null, .int 0, .int 0, .int 0])), (sb, .inr (1, [.ref va, .int 0, .int 0, .int 3])), (va, .inl (kV, 16, .inl fV))]) hD hS hA [0, 1, 2] rfl
  refine va_callv (va_runI (As := [.ref sb, .null]) (rest := []) ⟨hx, hb, hml, hown, hts⟩ (c_J0_init2 l dC dI b0 en s.heap.size st sb va kV fV hfit) (cwI 2 hts gJ0_init_81219_J0_init_db425 rfl rfl rfl (hts (.initialized RJ0) (by decide +kernel)) (hts (.methodLink RJ0 489 yJ0_init_db425) (by decide +kernel)) (hts (.instanceMethod yJ0_init_db425) (by decide +kernel)) rfl (by decide +kernel) ⟨Nat.le_of_ble_eq_true rfl, Nat.le_of_ble_eq_true rfl⟩) ⟨cP.blind, cP.use (en_z hb0 hS) (hE.on hAb hS) hPc hKc hDc trivial⟩ rfl rfl hl.1 rfl (lv_room (Nat.le_of_ble_eq_true rfl)) dJ0_init_81219_3 ⟨Nat.le_of_ble_eq_true rfl, Nat.le_of_ble_eq_true rfl⟩) hS (fun q _ h => hFc q h) hFc (fun u_1 t H1 locs ht hvm hw hB hz1 hk1 hS => ?_)
  obtain ⟨hP1, hK1, hD1, hF1⟩ := hB
  rw [ht] at hP1
  try rw [ht] at hF1
  have hK1 := va_K.moved hvm.symm hK1
  try dsimp only at hw
  obtain ⟨hP, hD⟩ := va_join (wr := []) (w1 := [(st, .inr (0, [.ref u_1, .int 0, .int 0, .int 0]))]) hP hD [0, 1, 2] [] rfl rfl (by decide) (by decide) hk1 hFc hP1 hD1
  generalize H1 = H at hP hS ⊢
  have hP : va_P (dC, dI) vwCl [(st, .inr (0, [.ref u_1, .int 0, .int 0, .int 0]))] H := hP
  have hD : va_D A [(st, .inr (0, [.ref u_1, .int 0, .int 0, .int 0]))] := hD
  have hR : va_P (dC, dI) vwCl [] H := fun k q h => by simp at h
  refine W.widen (k := 1) (n := 3) (Nat.le_of_ble_eq_true rfl) (Nat.le_of_ble_eq_true rfl) ?_
  refine W.widen (k := 1) (n := 3) (Nat.le_of_ble_eq_true rfl) (Nat.le_of_ble_eq_true rfl) ?_
  exact W.vret hx hb hr (fun t ht hW => ⟨⟨u_1, rfl, trivial, cB.mk ht hW (hP.sub [0] rfl) (hK.sub [] rfl) (hD.sub [0] (by decide) rfl) (trivial)⟩, hS.F ht⟩) hS.2.2 dJ0_init_81219_6

set_option maxHeartbeats 4000000 in
set_option maxRecDepth 100000 in
/-- toString() -/
theorem c_toString (l : Launch) (dC : Nat → ClassId) (dI : Nat → Nat → Nat) (b0 : Nat) (en : EnT) (sz : Nat) (sb va : Nat) (kV : ClassId) (fV : Nat → Int32) (hfit : bfit fV) : Met l yJ4_toString_0e30d wsJ4_toString_0e30d ({ frames := 5, cells := 2, slots := 7, locals := 131 } : Room) (cP b0 en (dC, dI) [(kV, .byte)] [(sb, .inr (1, [.ref va, .int 0, .int 0, .int 3])), (va, .inl (kV, 16, .inl fV))] [] sz (fun _ => True) [.ref sb]) (va_Qr (fun u : Nat => True) (fun u r t => cB (dC, dI) [] [(r, .inr (0, [.ref u, .int 0, .int 0, .int 0]))] (va_A [(sb, .inr (1, [.ref va, .int 0, .int 0, .int 3])), (va, .inl (kV, 16, .inl fV))] sz) (fun _ => True) t) (va_A [(sb, .inr (1, [.ref va, .int 0, .int 0, .int 3])), (va, .inl (kV, 16, .inl fV))] sz)) 2 7 (va_A [(sb, .inr (1, [.ref va, .int 0, .int 0, .int 3])), (va, .inl (kV, 16, .inl fV))] sz) := by
  refine Met.ofW (cc := cJ4_toString_0e30d) (maxL := 1) (ret := (some (.object "java/lang/String"))) (by decide) rfl ?_
  intro p e s m args below meth c s₁ B hml hv
  obtain ⟨rfl, hsz, hb0, hE, hPP, hK, hDD, hF0⟩ := hv
  have hx := B.exec
  have hb := B.bytes
  have hr := B.returns
  have hts := atoms_spec (ws := wsJ4_toString_0e30d) B.pre
  have hown : s.vm.findClass RJ4 = some m.cls := findClass_of_methodNamed B.named
  have hlocks := B.notSynchronized
  subst hsz
  have hN0 := en_N hPP hDD rfl
  have hP : va_P (dC, dI) vwCl [(sb, .inr (1, [.ref va, .int 0, .int 0, .int 3])), (va, .inl (kV, 16, .inl fV))] s.heap := hPP.sub [0, 1] rfl
  have hR0 : va_P (dC, dI) vwCl [] s.heap := hPP.sub [] rfl
  have hD0 : va_D (fun q => b0 ≤ q) [(sb, .inr (1, [.ref va, .int 0, .int 0, .int 3])), (va, .inl (kV, 16, .inl fV))] := hDD.sub [0, 1] (by decide) rfl
  have hDr : va_D (fun q => b0 ≤ q) [] := hDD.sub [] (by decide) rfl
  have hAb := en_A (sz := s.heap.size) hD0 hb0
  have hD := hD0.self (sz := s.heap.size)
  generalize hAe : va_A [(sb, .inr (1, [.ref va, .int 0, .int 0, .int 3])), (va, .inl (kV, 16, .inl fV))] s.heap.size = A at hD hAb hN0 ⊢
  have hA : ∀ q : Nat, s.heap.size ≤ q → A q := fun q h => by rw [← hAe]; exact Or.inr h
  have hS : va_S A s.heap s.heap [] := va_S.rf
  have hR := hR0
  have hl := lv_entry [.ref sb] (n := 1) (Nat.le_of_ble_eq_true rfl)
  rw [lg_entry_eq]
  generalize (lg_sl [.ref sb] ++ List.replicate (1 - (lg_sl [.ref sb]).length) Slot.unset).toArray = ls at hl ⊢
  have hl : lv_has ls 1 [(0, .ref sb)] := hl
  refine va_new (ci := 0) (fs := [.null, .int 0, .int 0, .int 0]) (C := RJ0) (T := TJ0) (N := 4) hx hb hts (by decide +kernel) tyJ0 tyJ0_ok hown (hts (.classLink RJ4 18 RJ0) (by decide +kernel)) (hts (.instantiable RJ0 4) (by decide +kernel)) (hts (.initialized RJ0) (by decide +kernel)) hK hP hD hS hA rfl (fun j hj => by rcases (show j = 0 ∨ j = 1 ∨ j = 2 ∨ j = 3 by omega) with rfl | rfl | rfl | rfl <;> rfl) (Nat.le_of_ble_eq_true rfl) (Nat.le_of_ble_eq_true rfl) dJ4_toString_0e30d_0 (fun q_1 H hP hD hS => ?_)
  have hP : va_P (dC, dI) vwCl [(sb, .inr (1, [.ref va, .int 0, .int 0, .int 3])), (va, .inl (kV, 16, .inl fV)), (q_1, .inr (0, [.null, .int 0, .int 0, .int 0]))] H := hP
  have hD : va_D A [(sb, .inr (1, [.ref va, .int 0, .int 0, .int 3])), (va, .inl (kV, 16, .inl fV)), (q_1, .inr (0, [.null, .int 0, .int 0, .int 0]))] := hD
  have hR : va_P (dC, dI) vwCl [] H := fun k q h => by simp at h
  refine W.widen (k := 1) (n := 4) (Nat.le_of_ble_eq_true rfl) (Nat.le_of_ble_eq_true rfl) ?_
  refine lv_dup hx hb dJ4_toString_0e30d_3 rfl ?_
  refine lv_aload_n hx hb dJ4_toString_0e30d_4 rfl (lv_at hl 0 rfl) ?_
  have hPc := (hP.app hR).sub (ws' := [(q_1, .inr (0, [.null, .int 0, .int 0, .int 0])), (sb, .inr (1, [.ref va, .int 0, .int 0, .int 3])), (va, .inl (kV, 16, .inl fV))] ++ []) [2, 0, 1] rfl
  have hDc := (en_DD hD hDr hN0 hAb).sub (ws' := [(q_1, .inr (0, [.null, .int 0, .int 0, .int 0])), (sb, .inr (1, [.ref va, .int 0, .int 0, .int 3])), (va, .inl (kV, 16, .inl fV))] ++ []) [2, 0, 1] (by decide) rfl
  have hKc := hK.sub (tys' := [(kV, .byte)]) [0] rfl
  have hFc := va_free (wc := [(q_1, .inr (0, [.null, .int 0, .int 0, .int 0])), (sb, .inr (1, [.ref va, .int 0, .int 0, .int 3])), (va, .inl (kV, 16, .inl fV))]) hD hS hA [2, 0, 1] rfl
  refine va_callv (va_runI (As := [.ref sb]) (rest := [.ref q_1]) ⟨hx, hb, hml, hown, hts⟩ (c_J0_init1 l dC dI b0 en H.size q_1 sb va kV fV hfit) (cwI 1 hts gJ4_toString_0e30d_J0_init_81219 rfl rfl rfl (hts (.initialized RJ0) (by decide +kernel)) (hts (.methodLink RJ4 137 yJ0_init_81219) (by decide +kernel)) (hts (.instanceMethod yJ0_init_81219) (by decide +kernel)) rfl (by decide +kernel) ⟨Nat.le_of_ble_eq_true rfl, Nat.le_of_ble_eq_true rfl⟩) ⟨cP.blind, cP.use (en_z hb0 hS) (hE.on hAb hS) hPc hKc hDc trivial⟩ rfl rfl hl.1 rfl (lv_room (Nat.le_of_ble_eq_true rfl)) dJ4_toString_0e30d_5 ⟨Nat.le_of_ble_eq_true rfl, Nat.le_of_ble_eq_true rfl⟩) hS (fun q _ h => hFc q h) hFc (fun u_2 t H1 locs ht hvm hw hB hz1 hk1 hS => ?_)
  obtain ⟨hP1, hK1, hD1, hF1⟩ := hB
  rw [ht] at hP1
  try rw [ht] at hF1
  have hK1 := va_K.moved hvm.symm hK1
  try dsimp only at hw
  obtain ⟨hP, hD⟩ := va_join (wr := []) (w1 := [(q_1, .inr (0, [.ref u_2, .int 0, .int 0, .int 0]))]) hP hD [2, 0, 1] [] rfl rfl (by decide) (by decide) hk1 hFc hP1 hD1
  generalize H1 = H at hP hS ⊢
  have hP : va_P (dC, dI) vwCl [(q_1, .inr (0, [.ref u_2, .int 0, .int 0, .int 0]))] H := hP
  have hD : va_D A [(q_1, .inr (0, [.ref u_2, .int 0, .int 0, .int 0]))] := hD
  have hR : va_P (dC, dI) vwCl [] H := fun k q h => by simp at h
  refine W.widen (k := 2) (n := 7) (Nat.le_of_ble_eq_true rfl) (Nat.le_of_ble_eq_true rfl) ?_
  refine W.widen (k := 2) (n := 7) (Nat.le_of_ble_eq_true rfl) (Nat.le_of_ble_eq_true rfl) ?_
  exact W.aret (v := .ref q_1) hx hb hr (by first | exact Or.inl ⟨_, rfl⟩ | exact Or.inr ⟨_, rfl⟩) (Or.inr ⟨_, rfl⟩) (fun t ht hW => ⟨⟨u_2, q_1, rfl, trivial, cB.mk ht hW (hP.sub [0] rfl) (hK.sub [] rfl) (hD.sub [0] (by decide) rfl) (trivial)⟩, hS.F ht⟩) hS.2.2 dJ4_toString_0e30d_8
theorem th3 {a b x y z : Int32} (ha : 0 ≤ ixL 2 a) (hb : 0 ≤ ixL 2 b) (hab : ¬ a = b) (hx : x = 313 - a) (hy : y = x - b) (hz : z = (y.toUInt32 % 65536).toInt32) : z ≤ 255 := by
  rw [ixL2] at ha hb
  have ca : a = 108 ∨ a = 101 ∨ a = 104 := by grind
  have cb : b = 108 ∨ b = 101 ∨ b = 104 := by grind
  subst hx hy hz
  rcases ca with rfl | rfl | rfl <;> rcases cb with rfl | rfl | rfl <;> first | exact absurd rfl hab | decide
theorem le255 {a : Int32} (ha : 0 ≤ ixL 2 a) : a ≤ 255 := by
  rw [ixL2] at ha
  grind
theorem z_c_X18_ballot_217 (a : Int32) (b : Int32) (a_0 : ¬ (0 ≤ ixL 2 a)) : ((1 : Int32) = 0 ∧ (0 : Int32) = 1 ∧ 0 ≤ ixL 2 a ∧ 0 ≤ ixL 2 b ∧ ¬ a = b) ∨ ((1 : Int32) = 1 ∧ ¬ (0 ≤ ixL 2 a ∧ 0 ≤ ixL 2 b ∧ ¬ a = b)) := by grind
theorem z_c_X18_ballot_218 (a : Int32) (b : Int32) (a_0 : 0 ≤ ixL 2 a) (a_1 : ¬ (0 ≤ ixL 2 b)) : ((1 : Int32) = 0 ∧ (0 : Int32) = 1 ∧ 0 ≤ ixL 2 a ∧ 0 ≤ ixL 2 b ∧ ¬ a = b) ∨ ((1 : Int32) = 1 ∧ ¬ (0 ≤ ixL 2 a ∧ 0 ≤ ixL 2 b ∧ ¬ a = b)) := by grind
theorem z_c_X18_ballot_219 (a : Int32) (b : Int32) (x_10 : Int32) (x_11 : Int32) (x_12 : Int32) (fV2_17 : Nat → Int32) (u_20 : Nat → Int32) (u_23 : Nat → Int32) (u_26 : Nat → Int32) (u_29 : Nat → Int32) (a_0 : 0 ≤ ixL 2 a) (a_1 : 0 ≤ ixL 2 b) (a_2 : ¬ a = b) (a_3 : x_10 = 313 - a) (a_4 : x_11 = x_10 - b) (a_5 : x_12 = (x_11.toUInt32 % 65536).toInt32) (a_6 : bfit fV2_17) (a_7 : bfit u_20) (a_8 : bfit u_23) (a_9 : bfit u_26) (a_10 : bfit u_29) : ((0 : Int32) = 0 ∧ (1 : Int32) = 1 ∧ 0 ≤ ixL 2 a ∧ 0 ≤ ixL 2 b ∧ ¬ a = b) ∨ ((0 : Int32) = 1 ∧ ¬ (0 ≤ ixL 2 a ∧ 0 ≤ ixL 2 b ∧ ¬ a = b)) := by grind
theorem z_c_X18_ballot_220 (a : Int32) (b : Int32) (a_0 : 0 ≤ ixL 2 a) (a_1 : 0 ≤ ixL 2 b) (a_2 : a = b) : ((1 : Int32) = 0 ∧ (0 : Int32) = 1 ∧ 0 ≤ ixL 2 a ∧ 0 ≤ ixL 2 b ∧ ¬ a = b) ∨ ((1 : Int32) = 1 ∧ ¬ (0 ≤ ixL 2 a ∧ 0 ≤ ixL 2 b ∧ ¬ a = b)) := by grind
set_option maxHeartbeats 4000000 in
set_option maxRecDepth 100000 in
theorem c_X18_ballot (l : Launch) (dC : Nat → ClassId) (dI : Nat → Nat → Nat) (b0 : Nat) (en : EnT) (sz : Nat) (mm stu cla pic act nts isn boa mas pai sol bal leg : Nat) (a b : Int32) : Met l yX18_ballot wsX18_ballot ({ frames := 6, cells := 5, slots := 37, locals := 151 } : Room) (cP b0 en (dC, dI) [] [(mm, .inr (24, [.int 0, .ref stu, .ref cla, .ref pic, .ref act, .int 5, .int 50, .ref nts, .ref isn, .int 1600, .ref boa, .ref mas, .ref pai, .ref sol, .int 0, .ref bal, .ref leg])), (bal, .inr (5, [.int 0, .ref en.2.2.1, .int 0]))] [] sz (fun _ => True) [.ref mm, .int a, .int b]) (va_Qi (fun (r : Int32) (u : Int32 × List Value) => (u.1 = 0 ∧ r = 1 ∧ 0 ≤ ixL 2 a ∧ 0 ≤ ixL 2 b ∧ ¬ a = b) ∨ (u.1 = 1 ∧ ¬ (0 ≤ ixL 2 a ∧ 0 ≤ ixL 2 b ∧ ¬ a = b))) (fun u t => cB (dC, dI) [] [(mm, .inr (24, .int u.1 :: u.2))] (va_A [(mm, .inr (24, [.int 0, .ref stu, .ref cla, .ref pic, .ref act, .int 5, .int 50, .ref nts, .ref isn, .int 1600, .ref boa, .ref mas, .ref pai, .ref sol, .int 0, .ref bal, .ref leg])), (bal, .inr (5, [.int 0, .ref en.2.2.1, .int 0]))] sz) (fun _ => True) t) (va_A [(mm, .inr (24, [.int 0, .ref stu, .ref cla, .ref pic, .ref act, .int 5, .int 50, .ref nts, .ref isn, .int 1600, .ref boa, .ref mas, .ref pai, .ref sol, .int 0, .ref bal, .ref leg])), (bal, .inr (5, [.int 0, .ref en.2.2.1, .int 0]))] sz)) 5 37 (va_A [(mm, .inr (24, [.int 0, .ref stu, .ref cla, .ref pic, .ref act, .int 5, .int 50, .ref nts, .ref isn, .int 1600, .ref boa, .ref mas, .ref pai, .ref sol, .int 0, .ref bal, .ref leg])), (bal, .inr (5, [.int 0, .ref en.2.2.1, .int 0]))] sz) := by
  refine Met.ofW (cc := cX18_ballot) (maxL := 4) (ret := (some .int)) (by decide) rfl ?_
  intro p e s m args below meth c s₁ B hml hv
  obtain ⟨rfl, hsz, hb0, hE, hPP, hK, hDD, hF0⟩ := hv
  have hx := B.exec
  have hb := B.bytes
  have hr := B.returns
  have hts := atoms_spec (ws := wsX18_ballot) B.pre
  have hown : s.vm.findClass RX18 = some m.cls := findClass_of_methodNamed B.named
  have hlocks := B.notSynchronized
  subst hsz
  have hN0 := en_N hPP hDD rfl
  have hP : va_P (dC, dI) vwCl [(mm, .inr (24, [.int 0, .ref stu, .ref cla, .ref pic, .ref act, .int 5, .int 50, .ref nts, .ref isn, .int 1600, .ref boa, .ref mas, .ref pai, .ref sol, .int 0, .ref bal, .ref leg])), (bal, .inr (5, [.int 0, .ref en.2.2.1, .int 0]))] s.heap := hPP.sub [0, 1] rfl
  have hR0 : va_P (dC, dI) vwCl [] s.heap := hPP.sub [] rfl
  have hD0 : va_D (fun q => b0 ≤ q) [(mm, .inr (24, [.int 0, .ref stu, .ref cla, .ref pic, .ref act, .int 5, .int 50, .ref nts, .ref isn, .int 1600, .ref boa, .ref mas, .ref pai, .ref sol, .int 0, .ref bal, .ref leg])), (bal, .inr (5, [.int 0, .ref en.2.2.1, .int 0]))] := hDD.sub [0, 1] (by decide) rfl
  have hDr : va_D (fun q => b0 ≤ q) [] := hDD.sub [] (by decide) rfl
  have hAb := en_A (sz := s.heap.size) hD0 hb0
  have hD := hD0.self (sz := s.heap.size)
  generalize hAe : va_A [(mm, .inr (24, [.int 0, .ref stu, .ref cla, .ref pic, .ref act, .int 5, .int 50, .ref nts, .ref isn, .int 1600, .ref boa, .ref mas, .ref pai, .ref sol, .int 0, .ref bal, .ref leg])), (bal, .inr (5, [.int 0, .ref en.2.2.1, .int 0]))] s.heap.size = A at hD hAb hN0 ⊢
  have hA : ∀ q : Nat, s.heap.size ≤ q → A q := fun q h => by rw [← hAe]; exact Or.inr h
  have hS : va_S A s.heap s.heap [] := va_S.rf
  have hR := hR0
  have hl := lv_entry [.ref mm, .int a, .int b] (n := 4) (Nat.le_of_ble_eq_true rfl)
  rw [lg_entry_eq]
  generalize (lg_sl [.ref mm, .int a, .int b] ++ List.replicate (4 - (lg_sl [.ref mm, .int a, .int b]).length) Slot.unset).toArray = ls at hl ⊢
  have hl : lv_has ls 4 [(0, .ref mm), (1, .int a), (2, .int b)] := hl
  refine lv_aload_n hx hb dX18_ballot_0 rfl (lv_at hl 0 rfl) ?_
  refine lv_iconst (v := 0) hx hb dX18_ballot_1 (by decide) ?_
  refine va_put (D := (dC, dI)) (ci := 24) (v := .int 0) (ty := .int) (C := RX18) (T := TX18) (N := 17) hx hb hts (by decide +kernel) tyX18 tyX18_ok nmX18 hown hK hP hD hS 0 rfl rfl 0 (by decide) (hts (.fieldLink RX18 67 "UnderpaintModel" "code" "I") (by decide +kernel)) (fun _ h9 => h9) rfl (by decide +kernel) rfl rfl (Nat.le_of_ble_eq_true rfl) dX18_ballot_2 (fun H locs hP hD hS => ?_)
  have hP : va_P (dC, dI) vwCl [(mm, .inr (24, [.int 0, .ref stu, .ref cla, .ref pic, .ref act, .int 5, .int 50, .ref nts, .ref isn, .int 1600, .ref boa, .ref mas, .ref pai, .ref sol, .int 0, .ref bal, .ref leg])), (bal, .inr (5, [.int 0, .ref en.2.2.1, .int 0]))] H := hP
  have hD : va_D A [(mm, .inr (24, [.int 0, .ref stu, .ref cla, .ref pic, .ref act, .int 5, .int 50, .ref nts, .ref isn, .int 1600, .ref boa, .ref mas, .ref pai, .ref sol, .int 0, .ref bal, .ref leg])), (bal, .inr (5, [.int 0, .ref en.2.2.1, .int 0]))] := hD
  have hR : va_P (dC, dI) vwCl [] H := fun k q h => by simp at h
  refine va_ldcSW hx hb hown (hE.ldc (2, "UnderpaintModel", 301, "leh") (by decide +kernel)) dX18_ballot_5 ?_
  refine lv_iload_n hx hb dX18_ballot_8 rfl (lv_at hl 1 rfl) ?_
  have hPc := (hP.app hR).sub (ws' := [] ++ []) [] rfl
  have hDc := (en_DD hD hDr hN0 hAb).sub (ws' := [] ++ []) [] (by decide) rfl
  have hKc := hK.sub (tys' := []) [] rfl
  have hFc := va_free (wc := []) hD hS hA [] rfl
  refine va_calli (va_runV (As := [.int a]) (rest := []) ⟨hx, hb, hml, hown, hts⟩ (c_J0_indexOf l dC dI b0 en H.size 2 a (by decide)) (cwV 1 hts gX18_ballot_J0_indexOf_0f7a4 rfl rfl rfl (by decide +kernel) ⟨Nat.le_of_ble_eq_true rfl, Nat.le_of_ble_eq_true rfl⟩) ⟨cP.blind, (en_recv (hE.lit hAb 2 (by decide)).1 hS), cP.use (en_z hb0 hS) (hE.on hAb hS) hPc hKc hDc trivial⟩ rfl rfl hl.1 rfl (lv_room (Nat.le_of_ble_eq_true rfl)) dX18_ballot_9 ⟨Nat.le_of_ble_eq_true rfl, Nat.le_of_ble_eq_true rfl⟩) hS (fun q _ h => hFc q h) hFc (fun r_1 u t H1 locs ht hvm hw hB hz1 hk1 hS => ?_)
  have hP1 : va_P (dC, dI) vwCl [] H1 := fun k q h => by simp at h
  have hD1 : va_D (va_A [] H.size) [] := ⟨fun i j p q h => by simp at h, fun k q h => by simp at h⟩
  try dsimp only at hw
  obtain ⟨hP, hD⟩ := va_join (wr := [(mm, .inr (24, [.int 0, .ref stu, .ref cla, .ref pic, .ref act, .int 5, .int 50, .ref nts, .ref isn, .int 1600, .ref boa, .ref mas, .ref pai, .ref sol, .int 0, .ref bal, .ref leg])), (bal, .inr (5, [.int 0, .ref en.2.2.1, .int 0]))]) (w1 := []) hP hD [] [0, 1] rfl rfl (by decide) (by decide) hk1 hFc hP1 hD1
  generalize H1 = H at hP hS ⊢
  have hP : va_P (dC, dI) vwCl [(mm, .inr (24, [.int 0, .ref stu, .ref cla, .ref pic, .ref act, .int 5, .int 50, .ref nts, .ref isn, .int 1600, .ref boa, .ref mas, .ref pai, .ref sol, .int 0, .ref bal, .ref leg])), (bal, .inr (5, [.int 0, .ref en.2.2.1, .int 0]))] H := hP
  have hD : va_D A [(mm, .inr (24, [.int 0, .ref stu, .ref cla, .ref pic, .ref act, .int 5, .int 50, .ref nts, .ref isn, .int 1600, .ref boa, .ref mas, .ref pai, .ref sol, .int 0, .ref bal, .ref leg])), (bal, .inr (5, [.int 0, .ref en.2.2.1, .int 0]))] := hD
  have hR : va_P (dC, dI) vwCl [] H := fun k q h => by simp at h
  refine W.widen (k := 0) (n := 0) (Nat.le_of_ble_eq_true rfl) (Nat.le_of_ble_eq_true rfl) ?_
  subst r_1
  refine lv_if_lt (tgt := 30) hx hb dX18_ballot_12 (by first | decide | rfl) (fun c_2 => ?_) (fun c_2 => ?_)
  · skip
    refine lv_aload_n hx hb dX18_ballot_30 rfl (lv_at hl 0 rfl) ?_
    refine lv_iconst (v := 1) hx hb dX18_ballot_31 (by decide) ?_
    have hPc := (hP.app hR).sub (ws' := [(mm, .inr (24, .int 0 :: ([.ref stu, .ref cla, .ref pic, .ref act, .int 5, .int 50, .ref nts, .ref isn, .int 1600, .ref boa, .ref mas, .ref pai, .ref sol, .int 0, .ref bal, .ref leg])))] ++ []) [0] rfl
    have hDc := (en_DD hD hDr hN0 hAb).sub (ws' := [(mm, .inr (24, .int 0 :: ([.ref stu, .ref cla, .ref pic, .ref act, .int 5, .int 50, .ref nts, .ref isn, .int 1600, .ref boa, .ref mas, .ref pai, .ref sol, .int 0, .ref bal, .ref leg])))] ++ []) [0] (by decide) rfl
    have hKc := hK.sub (tys' := []) [] rfl
    have hFc := va_free (wc := [(mm, .inr (24, .int 0 :: ([.ref stu, .ref cla, .ref pic, .ref act, .int 5, .int 50, .ref nts, .ref isn, .int 1600, .ref boa, .ref mas, .ref pai, .ref sol, .int 0, .ref bal, .ref leg])))]) hD hS hA [0] rfl
    refine va_calli (va_runV (As := [.int 1]) (rest := []) ⟨hx, hb, hml, hown, hts⟩ (c_X18_fails l dC dI b0 en H.size mm 0 1 ([.ref stu, .ref cla, .ref pic, .ref act, .int 5, .int 50, .ref nts, .ref isn, .int 1600, .ref boa, .ref mas, .ref pai, .ref sol, .int 0, .ref bal, .ref leg])) (cwV 1 hts gX18_ballot_X18_fails rfl rfl rfl (by decide +kernel) ⟨Nat.le_of_ble_eq_true rfl, Nat.le_of_ble_eq_true rfl⟩) ⟨cP.blind, va_recv hK hP (ci := 24) (q0 := 0) rfl rfl, cP.use (en_z hb0 hS) (hE.on hAb hS) hPc hKc hDc trivial⟩ rfl rfl hl.1 rfl (lv_room (Nat.le_of_ble_eq_true rfl)) dX18_ballot_32 ⟨Nat.le_of_ble_eq_true rfl, Nat.le_of_ble_eq_true rfl⟩) hS (fun q _ h => hFc q h) hFc (fun r_3 u t H1 locs ht hvm hw hB hz1 hk1 hS => ?_)
    obtain ⟨hP1, hK1, hD1, hF1⟩ := hB
    rw [ht] at hP1
    try rw [ht] at hF1
    have hK1 := va_K.moved hvm.symm hK1
    try dsimp only at hw
    obtain ⟨hP, hD⟩ := va_join (wr := [(bal, .inr (5, [.int 0, .ref en.2.2.1, .int 0]))]) (w1 := [(mm, .inr (24, [.int 1, .ref stu, .ref cla, .ref pic, .ref act, .int 5, .int 50, .ref nts, .ref isn, .int 1600, .ref boa, .ref mas, .ref pai, .ref sol, .int 0, .ref bal, .ref leg]))]) hP hD [0] [1] rfl rfl (by decide) (by decide) hk1 hFc hP1 hD1
    generalize H1 = H at hP hS ⊢
    have hP : va_P (dC, dI) vwCl [(bal, .inr (5, [.int 0, .ref en.2.2.1, .int 0])), (mm, .inr (24, [.int 1, .ref stu, .ref cla, .ref pic, .ref act, .int 5, .int 50, .ref nts, .ref isn, .int 1600, .ref boa, .ref mas, .ref pai, .ref sol, .int 0, .ref bal, .ref leg]))] H := hP
    have hD : va_D A [(bal, .inr (5, [.int 0, .ref en.2.2.1, .int 0])), (mm, .inr (24, [.int 1, .ref stu, .ref cla, .ref pic, .ref act, .int 5, .int 50, .ref nts, .ref isn, .int 1600, .ref boa, .ref mas, .ref pai, .ref sol, .int 0, .ref bal, .ref leg]))] := hD
    have hR : va_P (dC, dI) vwCl [] H := fun k q h => by simp at h
    refine W.widen (k := 0) (n := 0) (Nat.le_of_ble_eq_true rfl) (Nat.le_of_ble_eq_true rfl) ?_
    subst r_3
    refine W.widen (k := 5) (n := 37) (Nat.le_of_ble_eq_true rfl) (Nat.le_of_ble_eq_true rfl) ?_
    exact W.iret (v := 0) hx hb hr (fun t ht hW => ⟨⟨0, ⟨1, [.ref stu, .ref cla, .ref pic, .ref act, .int 5, .int 50, .ref nts, .ref isn, .int 1600, .ref boa, .ref mas, .ref pai, .ref sol, .int 0, .ref bal, .ref leg]⟩, rfl, (z_c_X18_ballot_217 a b (Int32.not_le.mpr c_2)), cB.mk ht hW (hP.sub [1] rfl) (hK.sub [] rfl) (hD.sub [1] (by decide) rfl) (trivial)⟩, hS.F ht⟩) hS.2.2 dX18_ballot_35
  · skip
    refine va_ldcSW hx hb hown (hE.ldc (2, "UnderpaintModel", 301, "leh") (by decide +kernel)) dX18_ballot_15 ?_
    refine lv_iload_n hx hb dX18_ballot_18 rfl (lv_at hl 2 rfl) ?_
    have hPc := (hP.app hR).sub (ws' := [] ++ []) [] rfl
    have hDc := (en_DD hD hDr hN0 hAb).sub (ws' := [] ++ []) [] (by decide) rfl
    have hKc := hK.sub (tys' := []) [] rfl
    have hFc := va_free (wc := []) hD hS hA [] rfl
    refine va_calli (va_runV (As := [.int b]) (rest := []) ⟨hx, hb, hml, hown, hts⟩ (c_J0_indexOf l dC dI b0 en H.size 2 b (by decide)) (cwV 1 hts gX18_ballot_J0_indexOf_0f7a4 rfl rfl rfl (by decide +kernel) ⟨Nat.le_of_ble_eq_true rfl, Nat.le_of_ble_eq_true rfl⟩) ⟨cP.blind, (en_recv (hE.lit hAb 2 (by decide)).1 hS), cP.use (en_z hb0 hS) (hE.on hAb hS) hPc hKc hDc trivial⟩ rfl rfl hl.1 rfl (lv_room (Nat.le_of_ble_eq_true rfl)) dX18_ballot_19 ⟨Nat.le_of_ble_eq_true rfl, Nat.le_of_ble_eq_true rfl⟩) hS (fun q _ h => hFc q h) hFc (fun r_4 u t H1 locs ht hvm hw hB hz1 hk1 hS => ?_)
    have hP1 : va_P (dC, dI) vwCl [] H1 := fun k q h => by simp at h
    have hD1 : va_D (va_A [] H.size) [] := ⟨fun i j p q h => by simp at h, fun k q h => by simp at h⟩
    try dsimp only at hw
    obtain ⟨hP, hD⟩ := va_join (wr := [(mm, .inr (24, [.int 0, .ref stu, .ref cla, .ref pic, .ref act, .int 5, .int 50, .ref nts, .ref isn, .int 1600, .ref boa, .ref mas, .ref pai, .ref sol, .int 0, .ref bal, .ref leg])), (bal, .inr (5, [.int 0, .ref en.2.2.1, .int 0]))]) (w1 := []) hP hD [] [0, 1] rfl rfl (by decide) (by decide) hk1 hFc hP1 hD1
    generalize H1 = H at hP hS ⊢
    have hP : va_P (dC, dI) vwCl [(mm, .inr (24, [.int 0, .ref stu, .ref cla, .ref pic, .ref act, .int 5, .int 50, .ref nts, .ref isn, .int 1600, .ref boa, .ref mas, .ref pai, .ref sol, .int 0, .ref bal, .ref leg])), (bal, .inr (5, [.int 0, .ref en.2.2.1, .int 0]))] H := hP
    have hD : va_D A [(mm, .inr (24, [.int 0, .ref stu, .ref cla, .ref pic, .ref act, .int 5, .int 50, .ref nts, .ref isn, .int 1600, .ref boa, .ref mas, .ref pai, .ref sol, .int 0, .ref bal, .ref leg])), (bal, .inr (5, [.int 0, .ref en.2.2.1, .int 0]))] := hD
    have hR : va_P (dC, dI) vwCl [] H := fun k q h => by simp at h
    refine W.widen (k := 0) (n := 0) (Nat.le_of_ble_eq_true rfl) (Nat.le_of_ble_eq_true rfl) ?_
    subst r_4
    refine lv_if_lt (tgt := 30) hx hb dX18_ballot_22 (by first | decide | rfl) (fun c_5 => ?_) (fun c_5 => ?_)
    · skip
      refine lv_aload_n hx hb dX18_ballot_30 rfl (lv_at hl 0 rfl) ?_
      refine lv_iconst (v := 1) hx hb dX18_ballot_31 (by decide) ?_
      have hPc := (hP.app hR).sub (ws' := [(mm, .inr (24, .int 0 :: ([.ref stu, .ref cla, .ref pic, .ref act, .int 5, .int 50, .ref nts, .ref isn, .int 1600, .ref boa, .ref mas, .ref pai, .ref sol, .int 0, .ref bal, .ref leg])))] ++ []) [0] rfl
      have hDc := (en_DD hD hDr hN0 hAb).sub (ws' := [(mm, .inr (24, .int 0 :: ([.ref stu, .ref cla, .ref pic, .ref act, .int 5, .int 50, .ref nts, .ref isn, .int 1600, .ref boa, .ref mas, .ref pai, .ref sol, .int 0, .ref bal, .ref leg])))] ++ []) [0] (by decide) rfl
      have hKc := hK.sub (tys' := []) [] rfl
      have hFc := va_free (wc := [(mm, .inr (24, .int 0 :: ([.ref stu, .ref cla, .ref pic, .ref act, .int 5, .int 50, .ref nts, .ref isn, .int 1600, .ref boa, .ref mas, .ref pai, .ref sol, .int 0, .ref bal, .ref leg])))]) hD hS hA [0] rfl
      refine va_calli (va_runV (As := [.int 1]) (rest := []) ⟨hx, hb, hml, hown, hts⟩ (c_X18_fails l dC dI b0 en H.size mm 0 1 ([.ref stu, .ref cla, .ref pic, .ref act, .int 5, .int 50, .ref nts, .ref isn, .int 1600, .ref boa, .ref mas, .ref pai, .ref sol, .int 0, .ref bal, .ref leg])) (cwV 1 hts gX18_ballot_X18_fails rfl rfl rfl (by decide +kernel) ⟨Nat.le_of_ble_eq_true rfl, Nat.le_of_ble_eq_true rfl⟩) ⟨cP.blind, va_recv hK hP (ci := 24) (q0 := 0) rfl rfl, cP.use (en_z hb0 hS) (hE.on hAb hS) hPc hKc hDc trivial⟩ rfl rfl hl.1 rfl (lv_room (Nat.le_of_ble_eq_true rfl)) dX18_ballot_32 ⟨Nat.le_of_ble_eq_true rfl, Nat.le_of_ble_eq_true rfl⟩) hS (fun q _ h => hFc q h) hFc (fun r_6 u t H1 locs ht hvm hw hB hz1 hk1 hS => ?_)
      obtain ⟨hP1, hK1, hD1, hF1⟩ := hB
      rw [ht] at hP1
      try rw [ht] at hF1
      have hK1 := va_K.moved hvm.symm hK1
      try dsimp only at hw
      obtain ⟨hP, hD⟩ := va_join (wr := [(bal, .inr (5, [.int 0, .ref en.2.2.1, .int 0]))]) (w1 := [(mm, .inr (24, [.int 1, .ref stu, .ref cla, .ref pic, .ref act, .int 5, .int 50, .ref nts, .ref isn, .int 1600, .ref boa, .ref mas, .ref pai, .ref sol, .int 0, .ref bal, .ref leg]))]) hP hD [0] [1] rfl rfl (by decide) (by decide) hk1 hFc hP1 hD1
      generalize H1 = H at hP hS ⊢
      have hP : va_P (dC, dI) vwCl [(bal, .inr (5, [.int 0, .ref en.2.2.1, .int 0])), (mm, .inr (24, [.int 1, .ref stu, .ref cla, .ref pic, .ref act, .int 5, .int 50, .ref nts, .ref isn, .int 1600, .ref boa, .ref mas, .ref pai, .ref sol, .int 0, .ref bal, .ref leg]))] H := hP
      have hD : va_D A [(bal, .inr (5, [.int 0, .ref en.2.2.1, .int 0])), (mm, .inr (24, [.int 1, .ref stu, .ref cla, .ref pic, .ref act, .int 5, .int 50, .ref nts, .ref isn, .int 1600, .ref boa, .ref mas, .ref pai, .ref sol, .int 0, .ref bal, .ref leg]))] := hD
      have hR : va_P (dC, dI) vwCl [] H := fun k q h => by simp at h
      refine W.widen (k := 0) (n := 0) (Nat.le_of_ble_eq_true rfl) (Nat.le_of_ble_eq_true rfl) ?_
      subst r_6
      refine W.widen (k := 5) (n := 37) (Nat.le_of_ble_eq_true rfl) (Nat.le_of_ble_eq_true rfl) ?_
      exact W.iret (v := 0) hx hb hr (fun t ht hW => ⟨⟨0, ⟨1, [.ref stu, .ref cla, .ref pic, .ref act, .int 5, .int 50, .ref nts, .ref isn, .int 1600, .ref boa, .ref mas, .ref pai, .ref sol, .int 0, .ref bal, .ref leg]⟩, rfl, (z_c_X18_ballot_218 a b (Int32.not_lt.mp c_2) (Int32.not_le.mpr c_5)), cB.mk ht hW (hP.sub [1] rfl) (hK.sub [] rfl) (hD.sub [1] (by decide) rfl) (trivial)⟩, hS.F ht⟩) hS.2.2 dX18_ballot_35
    · skip
      refine lv_iload_n hx hb dX18_ballot_25 rfl (lv_at hl 1 rfl) ?_
      refine lv_iload_n hx hb dX18_ballot_26 rfl (lv_at hl 2 rfl) ?_
      refine lv_icmp_ne (tgt := 36) hx hb dX18_ballot_27 (by first | decide | rfl) (fun c_7 => ?_) (fun c_7 => ?_)
      · skip
        refine lv_aload_n hx hb dX18_ballot_36 rfl (lv_at hl 0 rfl) ?_
        refine va_get (D := (dC, dI)) (ci := 24) (v := .ref bal) (C := RX18) (T := TX18) (N := 17) hx hb hts (by decide +kernel) hown hK hP 0 rfl rfl 15 (by decide) (hts (.fieldLink RX18 61 "UnderpaintModel" "ballots" "Ljava/util/List;") (by decide +kernel)) (fun _ h9 => h9) rfl dX18_ballot_37 ?_
        have hPc := (hP.app hR).sub (ws' := [] ++ [(bal, .inr (5, [.int 0, .ref en.2.2.1, .int 0]))]) [1] rfl
        have hDc := (en_DD hD hDr hN0 hAb).sub (ws' := [] ++ [(bal, .inr (5, [.int 0, .ref en.2.2.1, .int 0]))]) [1] (by decide) rfl
        have hKc := hK.sub (tys' := []) [] rfl
        have hFc := va_free (wc := []) hD hS hA [] rfl
        refine va_callFi (va_runF (As := []) (rest := []) (hK.1 5 _ rfl).2 ⟨hx, hb, hml, hown, hts⟩ (c_Jx4a65c_size l dC dI b0 en H.size bal en.2.2.1 0 0) (va_cwF 0 hts gX18_ballot_Jx4a65c_size_8abf5_f74Jx4a65c rfl rfl rfl (hE.face ("java/util/ArrayList", ⟨"java/util/List", "size", "()I"⟩, ⟨"java/util/ArrayList", "size", "()I"⟩) (by decide +kernel)) (by decide +kernel) ⟨Nat.le_of_ble_eq_true rfl, Nat.le_of_ble_eq_true rfl⟩) ⟨cP.blind, va_recv hK hP (ci := 5) (q0 := 1) rfl rfl, cP.use (en_z hb0 hS) (hE.on hAb hS) hPc hKc hDc trivial⟩ rfl rfl hl.1 rfl (lv_room (Nat.le_of_ble_eq_true rfl)) dX18_ballot_40 ⟨Nat.le_of_ble_eq_true rfl, Nat.le_of_ble_eq_true rfl⟩) hS (fun q _ h => hFc q h) hFc (fun r_8 u t H1 locs ht hvm hw hB hz1 hk1 hS => ?_)
        have hP1 : va_P (dC, dI) vwCl [] H1 := fun k q h => by simp at h
        have hD1 : va_D (va_A [] H.size) [] := ⟨fun i j p q h => by simp at h, fun k q h => by simp at h⟩
        try dsimp only at hw
        obtain ⟨hP, hD⟩ := va_join (wr := [(mm, .inr (24, [.int 0, .ref stu, .ref cla, .ref pic, .ref act, .int 5, .int 50, .ref nts, .ref isn, .int 1600, .ref boa, .ref mas, .ref pai, .ref sol, .int 0, .ref bal, .ref leg])), (bal, .inr (5, [.int 0, .ref en.2.2.1, .int 0]))]) (w1 := []) hP hD [] [0, 1] rfl rfl (by decide) (by decide) hk1 hFc hP1 hD1
        generalize H1 = H at hP hS ⊢
        have hP : va_P (dC, dI) vwCl [(mm, .inr (24, [.int 0, .ref stu, .ref cla, .ref pic, .ref act, .int 5, .int 50, .ref nts, .ref isn, .int 1600, .ref boa, .ref mas, .ref pai, .ref sol, .int 0, .ref bal, .ref leg])), (bal, .inr (5, [.int 0, .ref en.2.2.1, .int 0]))] H := hP
        have hD : va_D A [(mm, .inr (24, [.int 0, .ref stu, .ref cla, .ref pic, .ref act, .int 5, .int 50, .ref nts, .ref isn, .int 1600, .ref boa, .ref mas, .ref pai, .ref sol, .int 0, .ref bal, .ref leg])), (bal, .inr (5, [.int 0, .ref en.2.2.1, .int 0]))] := hD
        have hR : va_P (dC, dI) vwCl [] H := fun k q h => by simp at h
        refine W.widen (k := 0) (n := 0) (Nat.le_of_ble_eq_true rfl) (Nat.le_of_ble_eq_true rfl) ?_
        subst r_8
        refine lv_bipush (v := 9) hx hb dX18_ballot_45 (by decide) ?_
        refine lv_icmp_ne (tgt := 56) hx hb dX18_ballot_47 (by first | decide | rfl) (fun c_9 => ?_) (fun c_9 => absurd c_9 (by decide))
        refine lv_sipush (v := 313) hx hb dX18_ballot_56 (by decide) ?_
        refine lv_iload_n hx hb dX18_ballot_59 rfl (lv_at hl 1 rfl) ?_
        refine lv_isub hx hb dX18_ballot_60 ?_
        refine lv_topi (fun x_10 ex_10 => ?_)
        refine lv_iload_n hx hb dX18_ballot_61 rfl (lv_at hl 2 rfl) ?_
        refine lv_isub hx hb dX18_ballot_62 ?_
        refine lv_topi (fun x_11 ex_11 => ?_)
        refine lv_i2c hx hb dX18_ballot_63 rfl ?_
        refine lv_topi (fun x_12 ex_12 => ?_)
        refine lv_istore_n (lv' := [(3, .int x_12), (0, .ref mm), (1, .int a), (2, .int b)]) hx hb dX18_ballot_64 rfl hl (by decide) rfl (fun ls hl => ?_)
        refine lv_aload_n hx hb dX18_ballot_65 rfl (lv_at hl 1 rfl) ?_
        refine va_get (D := (dC, dI)) (ci := 24) (v := .ref bal) (C := RX18) (T := TX18) (N := 17) hx hb hts (by decide +kernel) hown hK hP 0 rfl rfl 15 (by decide) (hts (.fieldLink RX18 61 "UnderpaintModel" "ballots" "Ljava/util/List;") (by decide +kernel)) (fun _ h9 => h9) rfl dX18_ballot_66 ?_
        refine va_new (ci := 1) (fs := [.null, .int 0, .int 0, .int 0]) (C := RJ4) (T := TJ4) (N := 4) hx hb hts (by decide +kernel) tyJ4 tyJ4_ok hown (hts (.classLink RX18 303 RJ4) (by decide +kernel)) (hts (.instantiable RJ4 4) (by decide +kernel)) (hts (.initialized RJ4) (by decide +kernel)) hK hP hD hS hA rfl (fun j hj => by rcases (show j = 0 ∨ j = 1 ∨ j = 2 ∨ j = 3 by omega) with rfl | rfl | rfl | rfl <;> rfl) (Nat.le_of_ble_eq_true rfl) (Nat.le_of_ble_eq_true rfl) dX18_ballot_69 (fun q_13 H hP hD hS => ?_)
        have hP : va_P (dC, dI) vwCl [(mm, .inr (24, [.int 0, .ref stu, .ref cla, .ref pic, .ref act, .int 5, .int 50, .ref nts, .ref isn, .int 1600, .ref boa, .ref mas, .ref pai, .ref sol, .int 0, .ref bal, .ref leg])), (bal, .inr (5, [.int 0, .ref en.2.2.1, .int 0])), (q_13, .inr (1, [.null, .int 0, .int 0, .int 0]))] H := hP
        have hD : va_D A [(mm, .inr (24, [.int 0, .ref stu, .ref cla, .ref pic, .ref act, .int 5, .int 50, .ref nts, .ref isn, .int 1600, .ref boa, .ref mas, .ref pai, .ref sol, .int 0, .ref bal, .ref leg])), (bal, .inr (5, [.int 0, .ref en.2.2.1, .int 0])), (q_13, .inr (1, [.null, .int 0, .int 0, .int 0]))] := hD
        have hR : va_P (dC, dI) vwCl [] H := fun k q h => by simp at h
        refine W.widen (k := 1) (n := 4) (Nat.le_of_ble_eq_true rfl) (Nat.le_of_ble_eq_true rfl) ?_
        refine lv_dup hx hb dX18_ballot_72 rfl ?_
        have hPc := (hP.app hR).sub (ws' := [(q_13, .inr (1, [.null, .int 0, .int 0, .int 0]))] ++ []) [2] rfl
        have hDc := (en_DD hD hDr hN0 hAb).sub (ws' := [(q_13, .inr (1, [.null, .int 0, .int 0, .int 0]))] ++ []) [2] (by decide) rfl
        have hKc := hK.sub (tys' := []) [] rfl
        have hFc := va_free (wc := [(q_13, .inr (1, [.null, .int 0, .int 0, .int 0]))]) hD hS hA [2] rfl
        refine va_callv (va_runI (As := []) (rest := [.ref q_13, .ref bal]) ⟨hx, hb, hml, hown, hts⟩ (c_J4_init l dC dI b0 en H.size q_13) (cwI 0 hts gX18_ballot_J4_init_da8c8 rfl rfl rfl (hts (.initialized RJ4) (by decide +kernel)) (hts (.methodLink RX18 305 yJ4_init_da8c8) (by decide +kernel)) (hts (.instanceMethod yJ4_init_da8c8) (by decide +kernel)) rfl (by decide +kernel) ⟨Nat.le_of_ble_eq_true rfl, Nat.le_of_ble_eq_true rfl⟩) ⟨cP.blind, cP.use (en_z hb0 hS) (hE.on hAb hS) hPc hKc hDc trivial⟩ rfl rfl hl.1 rfl (lv_room (Nat.le_of_ble_eq_true rfl)) dX18_ballot_73 ⟨Nat.le_of_ble_eq_true rfl, Nat.le_of_ble_eq_true rfl⟩) hS (fun q _ h => hFc q h) hFc (fun ⟨va_15, kV_16, fV2_17⟩ t H1 locs ht hvm hw hB hz1 hk1 hS => ?_)
        obtain ⟨hP1, hK1, hD1, hF1⟩ := hB
        rw [ht] at hP1
        try rw [ht] at hF1
        have hK1 := va_K.moved hvm.symm hK1
        try dsimp only at hw
        obtain ⟨hP, hD⟩ := va_join (wr := [(mm, .inr (24, [.int 0, .ref stu, .ref cla, .ref pic, .ref act, .int 5, .int 50, .ref nts, .ref isn, .int 1600, .ref boa, .ref mas, .ref pai, .ref sol, .int 0, .ref bal, .ref leg])), (bal, .inr (5, [.int 0, .ref en.2.2.1, .int 0]))]) (w1 := [(q_13, .inr (1, [.ref va_15, .int 0, .int 0, .int 0])), (va_15, .inl (kV_16, 16, .inl fV2_17))]) hP hD [2] [0, 1] rfl rfl (by decide) (by decide) hk1 hFc hP1 hD1
        have hK := hK.app hK1
        generalize H1 = H at hP hS ⊢
        have hP : va_P (dC, dI) vwCl [(mm, .inr (24, [.int 0, .ref stu, .ref cla, .ref pic, .ref act, .int 5, .int 50, .ref nts, .ref isn, .int 1600, .ref boa, .ref mas, .ref pai, .ref sol, .int 0, .ref bal, .ref leg])), (bal, .inr (5, [.int 0, .ref en.2.2.1, .int 0])), (q_13, .inr (1, [.ref va_15, .int 0, .int 0, .int 0])), (va_15, .inl (kV_16, 16, .inl fV2_17))] H := hP
        have hD : va_D A [(mm, .inr (24, [.int 0, .ref stu, .ref cla, .ref pic, .ref act, .int 5, .int 50, .ref nts, .ref isn, .int 1600, .ref boa, .ref mas, .ref pai, .ref sol, .int 0, .ref bal, .ref leg])), (bal, .inr (5, [.int 0, .ref en.2.2.1, .int 0])), (q_13, .inr (1, [.ref va_15, .int 0, .int 0, .int 0])), (va_15, .inl (kV_16, 16, .inl fV2_17))] := hD
        have hR : va_P (dC, dI) vwCl [] H := fun k q h => by simp at h
        refine W.widen (k := 2) (n := 20) (Nat.le_of_ble_eq_true rfl) (Nat.le_of_ble_eq_true rfl) ?_
        have h_19 := hw
        refine va_ldcSW hx hb hown (hE.ldc (5, "UnderpaintModel", 306, "") (by decide +kernel)) dX18_ballot_76 ?_
        have hPc := (hP.app hR).sub (ws' := [(q_13, .inr (1, [.ref va_15, .int 0, .int 0, .int 0])), (va_15, .inl (kV_16, 16, .inl fV2_17))] ++ []) [2, 3] rfl
        have hDc := (en_DD hD hDr hN0 hAb).sub (ws' := [(q_13, .inr (1, [.ref va_15, .int 0, .int 0, .int 0])), (va_15, .inl (kV_16, 16, .inl fV2_17))] ++ []) [2, 3] (by decide) rfl
        have hKc := hK.sub (tys' := [(kV_16, .byte)]) [0] rfl
        have hFc := va_free (wc := [(q_13, .inr (1, [.ref va_15, .int 0, .int 0, .int 0])), (va_15, .inl (kV_16, 16, .inl fV2_17))]) hD hS hA [2, 3] rfl
        refine va_callq (va_runV (As := [.ref (en.1 5)]) (rest := [.ref bal]) ⟨hx, hb, hml, hown, hts⟩ (c_appS4 l dC dI b0 en H.size q_13 va_15 kV_16 fV2_17 h_19) (cwV 1 hts gX18_ballot_J4_append_15ec4 rfl rfl rfl (by decide +kernel) ⟨Nat.le_of_ble_eq_true rfl, Nat.le_of_ble_eq_true rfl⟩) ⟨cP.blind, va_recv hK hP (ci := 1) (q0 := 2) rfl rfl, cP.use (en_z hb0 hS) (hE.on hAb hS) hPc hKc hDc trivial⟩ rfl rfl hl.1 rfl (lv_room (Nat.le_of_ble_eq_true rfl)) dX18_ballot_79 ⟨Nat.le_of_ble_eq_true rfl, Nat.le_of_ble_eq_true rfl⟩) hS (fun q _ h => hFc q h) hFc (fun r_21 u_20 t H1 locs ht hvm hw hB hz1 hk1 hS => ?_)
        obtain ⟨hP1, hK1, hD1, hF1⟩ := hB
        rw [ht] at hP1
        try rw [ht] at hF1
        have hK1 := va_K.moved hvm.symm hK1
        try dsimp only at hw
        obtain ⟨hP, hD⟩ := va_join (wr := [(mm, .inr (24, [.int 0, .ref stu, .ref cla, .ref pic, .ref act, .int 5, .int 50, .ref nts, .ref isn, .int 1600, .ref boa, .ref mas, .ref pai, .ref sol, .int 0, .ref bal, .ref leg])), (bal, .inr (5, [.int 0, .ref en.2.2.1, .int 0]))]) (w1 := [(q_13, .inr (1, [.ref va_15, .int 0, .int 0, .int 0])), (va_15, .inl (kV_16, 16, .inl u_20))]) hP hD [2, 3] [0, 1] rfl rfl (by decide) (by decide) hk1 hFc hP1 hD1
        generalize H1 = H at hP hS ⊢
        have hP : va_P (dC, dI) vwCl [(mm, .inr (24, [.int 0, .ref stu, .ref cla, .ref pic, .ref act, .int 5, .int 50, .ref nts, .ref isn, .int 1600, .ref boa, .ref mas, .ref pai, .ref sol, .int 0, .ref bal, .ref leg])), (bal, .inr (5, [.int 0, .ref en.2.2.1, .int 0])), (q_13, .inr (1, [.ref va_15, .int 0, .int 0, .int 0])), (va_15, .inl (kV_16, 16, .inl u_20))] H := hP
        have hD : va_D A [(mm, .inr (24, [.int 0, .ref stu, .ref cla, .ref pic, .ref act, .int 5, .int 50, .ref nts, .ref isn, .int 1600, .ref boa, .ref mas, .ref pai, .ref sol, .int 0, .ref bal, .ref leg])), (bal, .inr (5, [.int 0, .ref en.2.2.1, .int 0])), (q_13, .inr (1, [.ref va_15, .int 0, .int 0, .int 0])), (va_15, .inl (kV_16, 16, .inl u_20))] := hD
        have hR : va_P (dC, dI) vwCl [] H := fun k q h => by simp at h
        refine W.widen (k := 2) (n := 20) (Nat.le_of_ble_eq_true rfl) (Nat.le_of_ble_eq_true rfl) ?_
        obtain ⟨hw, h_22⟩ := hw
        subst r_21
        refine lv_iload_n hx hb dX18_ballot_82 rfl (lv_at hl 2 rfl) ?_
        have hPc := (hP.app hR).sub (ws' := [(q_13, .inr (1, [.ref va_15, .int 0, .int 0, .int 0])), (va_15, .inl (kV_16, 16, .inl u_20))] ++ []) [2, 3] rfl
        have hDc := (en_DD hD hDr hN0 hAb).sub (ws' := [(q_13, .inr (1, [.ref va_15, .int 0, .int 0, .int 0])), (va_15, .inl (kV_16, 16, .inl u_20))] ++ []) [2, 3] (by decide) rfl
        have hKc := hK.sub (tys' := [(kV_16, .byte)]) [0] rfl
        have hFc := va_free (wc := [(q_13, .inr (1, [.ref va_15, .int 0, .int 0, .int 0])), (va_15, .inl (kV_16, 16, .inl u_20))]) hD hS hA [2, 3] rfl
        refine va_callq (va_runV (As := [.int a]) (rest := [.ref bal]) ⟨hx, hb, hml, hown, hts⟩ (c_appC4_0 l dC dI b0 en H.size q_13 va_15 kV_16 u_20 a h_22 (le255 (Int32.not_lt.mp c_2))) (cwV 1 hts gX18_ballot_J4_append_cf468 rfl rfl rfl (by decide +kernel) ⟨Nat.le_of_ble_eq_true rfl, Nat.le_of_ble_eq_true rfl⟩) ⟨cP.blind, va_recv hK hP (ci := 1) (q0 := 2) rfl rfl, cP.use (en_z hb0 hS) (hE.on hAb hS) hPc hKc hDc trivial⟩ rfl rfl hl.1 rfl (lv_room (Nat.le_of_ble_eq_true rfl)) dX18_ballot_83 ⟨Nat.le_of_ble_eq_true rfl, Nat.le_of_ble_eq_true rfl⟩) hS (fun q _ h => hFc q h) hFc (fun r_24 u_23 t H1 locs ht hvm hw hB hz1 hk1 hS => ?_)
        obtain ⟨hP1, hK1, hD1, hF1⟩ := hB
        rw [ht] at hP1
        try rw [ht] at hF1
        have hK1 := va_K.moved hvm.symm hK1
        try dsimp only at hw
        obtain ⟨hP, hD⟩ := va_join (wr := [(mm, .inr (24, [.int 0, .ref stu, .ref cla, .ref pic, .ref act, .int 5, .int 50, .ref nts, .ref isn, .int 1600, .ref boa, .ref mas, .ref pai, .ref sol, .int 0, .ref bal, .ref leg])), (bal, .inr (5, [.int 0, .ref en.2.2.1, .int 0]))]) (w1 := [(q_13, .inr (1, [.ref va_15, .int 0, .int 0, .int 1])), (va_15, .inl (kV_16, 16, .inl u_23))]) hP hD [2, 3] [0, 1] rfl rfl (by decide) (by decide) hk1 hFc hP1 hD1
        generalize H1 = H at hP hS ⊢
        have hP : va_P (dC, dI) vwCl [(mm, .inr (24, [.int 0, .ref stu, .ref cla, .ref pic, .ref act, .int 5, .int 50, .ref nts, .ref isn, .int 1600, .ref boa, .ref mas, .ref pai, .ref sol, .int 0, .ref bal, .ref leg])), (bal, .inr (5, [.int 0, .ref en.2.2.1, .int 0])), (q_13, .inr (1, [.ref va_15, .int 0, .int 0, .int 1])), (va_15, .inl (kV_16, 16, .inl u_23))] H := hP
        have hD : va_D A [(mm, .inr (24, [.int 0, .ref stu, .ref cla, .ref pic, .ref act, .int 5, .int 50, .ref nts, .ref isn, .int 1600, .ref boa, .ref mas, .ref pai, .ref sol, .int 0, .ref bal, .ref leg])), (bal, .inr (5, [.int 0, .ref en.2.2.1, .int 0])), (q_13, .inr (1, [.ref va_15, .int 0, .int 0, .int 1])), (va_15, .inl (kV_16, 16, .inl u_23))] := hD
        have hR : va_P (dC, dI) vwCl [] H := fun k q h => by simp at h
        refine W.widen (k := 2) (n := 20) (Nat.le_of_ble_eq_true rfl) (Nat.le_of_ble_eq_true rfl) ?_
        obtain ⟨hw, h_25⟩ := hw
        subst r_24
        refine lv_iload_n hx hb dX18_ballot_86 rfl (lv_at hl 3 rfl) ?_
        have hPc := (hP.app hR).sub (ws' := [(q_13, .inr (1, [.ref va_15, .int 0, .int 0, .int 1])), (va_15, .inl (kV_16, 16, .inl u_23))] ++ []) [2, 3] rfl
        have hDc := (en_DD hD hDr hN0 hAb).sub (ws' := [(q_13, .inr (1, [.ref va_15, .int 0, .int 0, .int 1])), (va_15, .inl (kV_16, 16, .inl u_23))] ++ []) [2, 3] (by decide) rfl
        have hKc := hK.sub (tys' := [(kV_16, .byte)]) [0] rfl
        have hFc := va_free (wc := [(q_13, .inr (1, [.ref va_15, .int 0, .int 0, .int 1])), (va_15, .inl (kV_16, 16, .inl u_23))]) hD hS hA [2, 3] rfl
        refine va_callq (va_runV (As := [.int b]) (rest := [.ref bal]) ⟨hx, hb, hml, hown, hts⟩ (c_appC4_1 l dC dI b0 en H.size q_13 va_15 kV_16 u_23 b h_25 (le255 (Int32.not_lt.mp c_5))) (cwV 1 hts gX18_ballot_J4_append_cf468 rfl rfl rfl (by decide +kernel) ⟨Nat.le_of_ble_eq_true rfl, Nat.le_of_ble_eq_true rfl⟩) ⟨cP.blind, va_recv hK hP (ci := 1) (q0 := 2) rfl rfl, cP.use (en_z hb0 hS) (hE.on hAb hS) hPc hKc hDc trivial⟩ rfl rfl hl.1 rfl (lv_room (Nat.le_of_ble_eq_true rfl)) dX18_ballot_87 ⟨Nat.le_of_ble_eq_true rfl, Nat.le_of_ble_eq_true rfl⟩) hS (fun q _ h => hFc q h) hFc (fun r_27 u_26 t H1 locs ht hvm hw hB hz1 hk1 hS => ?_)
        obtain ⟨hP1, hK1, hD1, hF1⟩ := hB
        rw [ht] at hP1
        try rw [ht] at hF1
        have hK1 := va_K.moved hvm.symm hK1
        try dsimp only at hw
        obtain ⟨hP, hD⟩ := va_join (wr := [(mm, .inr (24, [.int 0, .ref stu, .ref cla, .ref pic, .ref act, .int 5, .int 50, .ref nts, .ref isn, .int 1600, .ref boa, .ref mas, .ref pai, .ref sol, .int 0, .ref bal, .ref leg])), (bal, .inr (5, [.int 0, .ref en.2.2.1, .int 0]))]) (w1 := [(q_13, .inr (1, [.ref va_15, .int 0, .int 0, .int 2])), (va_15, .inl (kV_16, 16, .inl u_26))]) hP hD [2, 3] [0, 1] rfl rfl (by decide) (by decide) hk1 hFc hP1 hD1
        generalize H1 = H at hP hS ⊢
        have hP : va_P (dC, dI) vwCl [(mm, .inr (24, [.int 0, .ref stu, .ref cla, .ref pic, .ref act, .int 5, .int 50, .ref nts, .ref isn, .int 1600, .ref boa, .ref mas, .ref pai, .ref sol, .int 0, .ref bal, .ref leg])), (bal, .inr (5, [.int 0, .ref en.2.2.1, .int 0])), (q_13, .inr (1, [.ref va_15, .int 0, .int 0, .int 2])), (va_15, .inl (kV_16, 16, .inl u_26))] H := hP
        have hD : va_D A [(mm, .inr (24, [.int 0, .ref stu, .ref cla, .ref pic, .ref act, .int 5, .int 50, .ref nts, .ref isn, .int 1600, .ref boa, .ref mas, .ref pai, .ref sol, .int 0, .ref bal, .ref leg])), (bal, .inr (5, [.int 0, .ref en.2.2.1, .int 0])), (q_13, .inr (1, [.ref va_15, .int 0, .int 0, .int 2])), (va_15, .inl (kV_16, 16, .inl u_26))] := hD
        have hR : va_P (dC, dI) vwCl [] H := fun k q h => by simp at h
        refine W.widen (k := 2) (n := 20) (Nat.le_of_ble_eq_true rfl) (Nat.le_of_ble_eq_true rfl) ?_
        obtain ⟨hw, h_28⟩ := hw
        subst r_27
        refine lv_iload_n hx hb dX18_ballot_90 rfl (lv_at hl 0 rfl) ?_
        have hPc := (hP.app hR).sub (ws' := [(q_13, .inr (1, [.ref va_15, .int 0, .int 0, .int 2])), (va_15, .inl (kV_16, 16, .inl u_26))] ++ []) [2, 3] rfl
        have hDc := (en_DD hD hDr hN0 hAb).sub (ws' := [(q_13, .inr (1, [.ref va_15, .int 0, .int 0, .int 2])), (va_15, .inl (kV_16, 16, .inl u_26))] ++ []) [2, 3] (by decide) rfl
        have hKc := hK.sub (tys' := [(kV_16, .byte)]) [0] rfl
        have hFc := va_free (wc := [(q_13, .inr (1, [.ref va_15, .int 0, .int 0, .int 2])), (va_15, .inl (kV_16, 16, .inl u_26))]) hD hS hA [2, 3] rfl
        refine va_callq (va_runV (As := [.int x_12]) (rest := [.ref bal]) ⟨hx, hb, hml, hown, hts⟩ (c_appC4_2 l dC dI b0 en H.size q_13 va_15 kV_16 u_26 x_12 h_28 (th3 (Int32.not_lt.mp c_2) (Int32.not_lt.mp c_5) c_7 ex_10 ex_11 ex_12)) (cwV 1 hts gX18_ballot_J4_append_cf468 rfl rfl rfl (by decide +kernel) ⟨Nat.le_of_ble_eq_true rfl, Nat.le_of_ble_eq_true rfl⟩) ⟨cP.blind, va_recv hK hP (ci := 1) (q0 := 2) rfl rfl, cP.use (en_z hb0 hS) (hE.on hAb hS) hPc hKc hDc trivial⟩ rfl rfl hl.1 rfl (lv_room (Nat.le_of_ble_eq_true rfl)) dX18_ballot_91 ⟨Nat.le_of_ble_eq_true rfl, Nat.le_of_ble_eq_true rfl⟩) hS (fun q _ h => hFc q h) hFc (fun r_30 u_29 t H1 locs ht hvm hw hB hz1 hk1 hS => ?_)
        obtain ⟨hP1, hK1, hD1, hF1⟩ := hB
        rw [ht] at hP1
        try rw [ht] at hF1
        have hK1 := va_K.moved hvm.symm hK1
        try dsimp only at hw
        obtain ⟨hP, hD⟩ := va_join (wr := [(mm, .inr (24, [.int 0, .ref stu, .ref cla, .ref pic, .ref act, .int 5, .int 50, .ref nts, .ref isn, .int 1600, .ref boa, .ref mas, .ref pai, .ref sol, .int 0, .ref bal, .ref leg])), (bal, .inr (5, [.int 0, .ref en.2.2.1, .int 0]))]) (w1 := [(q_13, .inr (1, [.ref va_15, .int 0, .int 0, .int 3])), (va_15, .inl (kV_16, 16, .inl u_29))]) hP hD [2, 3] [0, 1] rfl rfl (by decide) (by decide) hk1 hFc hP1 hD1
        generalize H1 = H at hP hS ⊢
        have hP : va_P (dC, dI) vwCl [(mm, .inr (24, [.int 0, .ref stu, .ref cla, .ref pic, .ref act, .int 5, .int 50, .ref nts, .ref isn, .int 1600, .ref boa, .ref mas, .ref pai, .ref sol, .int 0, .ref bal, .ref leg])), (bal, .inr (5, [.int 0, .ref en.2.2.1, .int 0])), (q_13, .inr (1, [.ref va_15, .int 0, .int 0, .int 3])), (va_15, .inl (kV_16, 16, .inl u_29))] H := hP
        have hD : va_D A [(mm, .inr (24, [.int 0, .ref stu, .ref cla, .ref pic, .ref act, .int 5, .int 50, .ref nts, .ref isn, .int 1600, .ref boa, .ref mas, .ref pai, .ref sol, .int 0, .ref bal, .ref leg])), (bal, .inr (5, [.int 0, .ref en.2.2.1, .int 0])), (q_13, .inr (1, [.ref va_15, .int 0, .int 0, .int 3])), (va_15, .inl (kV_16, 16, .inl u_29))] := hD
        have hR : va_P (dC, dI) vwCl [] H := fun k q h => by simp at h
        refine W.widen (k := 2) (n := 20) (Nat.le_of_ble_eq_true rfl) (Nat.le_of_ble_eq_true rfl) ?_
        obtain ⟨hw, h_31⟩ := hw
        subst r_30
        have hPc := (hP.app hR).sub (ws' := [(q_13, .inr (1, [.ref va_15, .int 0, .int 0, .int 3])), (va_15, .inl (kV_16, 16, .inl u_29))] ++ []) [2, 3] rfl
        have hDc := (en_DD hD hDr hN0 hAb).sub (ws' := [(q_13, .inr (1, [.ref va_15, .int 0, .int 0, .int 3])), (va_15, .inl (kV_16, 16, .inl u_29))] ++ []) [2, 3] (by decide) rfl
        have hKc := hK.sub (tys' := [(kV_16, .byte)]) [0] rfl
        have hFc := va_free (wc := [(q_13, .inr (1, [.ref va_15, .int 0, .int 0, .int 3])), (va_15, .inl (kV_16, 16, .inl u_29))]) hD hS hA [2, 3] rfl
        refine va_callr (va_runV (As := []) (rest := [.ref bal]) ⟨hx, hb, hml, hown, hts⟩ (c_toString l dC dI b0 en H.size q_13 va_15 kV_16 u_29 h_31) (cwV 0 hts gX18_ballot_J4_toString_0e30d rfl rfl rfl (by decide +kernel) ⟨Nat.le_of_ble_eq_true rfl, Nat.le_of_ble_eq_true rfl⟩) ⟨cP.blind, va_recv hK hP (ci := 1) (q0 := 2) rfl rfl, cP.use (en_z hb0 hS) (hE.on hAb hS) hPc hKc hDc trivial⟩ rfl rfl hl.1 rfl (lv_room (Nat.le_of_ble_eq_true rfl)) dX18_ballot_94 ⟨Nat.le_of_ble_eq_true rfl, Nat.le_of_ble_eq_true rfl⟩) hS (fun q _ h => hFc q h) hFc (fun u_32 r_33 t H1 locs ht hvm hw hB hz1 hk1 hS => ?_)
        obtain ⟨hP1, hK1, hD1, hF1⟩ := hB
        rw [ht] at hP1
        try rw [ht] at hF1
        have hK1 := va_K.moved hvm.symm hK1
        try dsimp only at hw
        obtain ⟨hP, hD⟩ := va_join (wr := [(mm, .inr (24, [.int 0, .ref stu, .ref cla, .ref pic, .ref act, .int 5, .int 50, .ref nts, .ref isn, .int 1600, .ref boa, .ref mas, .ref pai, .ref sol, .int 0, .ref bal, .ref leg])), (bal, .inr (5, [.int 0, .ref en.2.2.1, .int 0]))]) (w1 := [(r_33, .inr (0, [.ref u_32, .int 0, .int 0, .int 0]))]) hP hD [2, 3] [0, 1] rfl rfl (by decide) (by decide) hk1 hFc hP1 hD1
        generalize H1 = H at hP hS ⊢
        have hP : va_P (dC, dI) vwCl [(mm, .inr (24, [.int 0, .ref stu, .ref cla, .ref pic, .ref act, .int 5, .int 50, .ref nts, .ref isn, .int 1600, .ref boa, .ref mas, .ref pai, .ref sol, .int 0, .ref bal, .ref leg])), (bal, .inr (5, [.int 0, .ref en.2.2.1, .int 0])), (r_33, .inr (0, [.ref u_32, .int 0, .int 0, .int 0]))] H := hP
        have hD : va_D A [(mm, .inr (24, [.int 0, .ref stu, .ref cla, .ref pic, .ref act, .int 5, .int 50, .ref nts, .ref isn, .int 1600, .ref boa, .ref mas, .ref pai, .ref sol, .int 0, .ref bal, .ref leg])), (bal, .inr (5, [.int 0, .ref en.2.2.1, .int 0])), (r_33, .inr (0, [.ref u_32, .int 0, .int 0, .int 0]))] := hD
        have hR : va_P (dC, dI) vwCl [] H := fun k q h => by simp at h
        refine W.widen (k := 4) (n := 27) (Nat.le_of_ble_eq_true rfl) (Nat.le_of_ble_eq_true rfl) ?_
        have hPc := (hP.app hR).sub (ws' := [(bal, .inr (5, [.int 0, .ref en.2.2.1, .int 0]))] ++ [(r_33, .inr (0, ([.ref u_32, .int 0, .int 0, .int 0])))]) [1, 2] rfl
        have hDc := (en_DD hD hDr hN0 hAb).sub (ws' := [(bal, .inr (5, [.int 0, .ref en.2.2.1, .int 0]))] ++ [(r_33, .inr (0, ([.ref u_32, .int 0, .int 0, .int 0])))]) [1, 2] (by decide) rfl
        have hKc := hK.sub (tys' := []) [] rfl
        have hFc := va_free (wc := [(bal, .inr (5, [.int 0, .ref en.2.2.1, .int 0]))]) hD hS hA [1] rfl
        refine va_callFi (va_runF (As := [.ref r_33]) (rest := []) (hK.1 5 _ rfl).2 ⟨hx, hb, hml, hown, hts⟩ (c_addo l dC dI b0 en H.size bal r_33 0 ([.ref u_32, .int 0, .int 0, .int 0]) (RJ0, TJ0, 4) rfl (by decide +kernel)) (va_cwF 1 hts gX18_ballot_Jx4a65c_add_9ea2d_f96Jx4a65c rfl rfl rfl (hE.face ("java/util/ArrayList", ⟨"java/util/List", "add", "(Ljava/lang/Object;)Z"⟩, ⟨"java/util/ArrayList", "add", "(Ljava/lang/Object;)Z"⟩) (by decide +kernel)) (by decide +kernel) ⟨Nat.le_of_ble_eq_true rfl, Nat.le_of_ble_eq_true rfl⟩) ⟨cP.blind, va_recv hK hP (ci := 5) (q0 := 1) rfl rfl, cP.use (en_z hb0 hS) (hE.on hAb hS) hPc hKc hDc trivial⟩ rfl rfl hl.1 rfl (lv_room (Nat.le_of_ble_eq_true rfl)) dX18_ballot_97 ⟨Nat.le_of_ble_eq_true rfl, Nat.le_of_ble_eq_true rfl⟩) hS (fun q _ h => hFc q h) hFc (fun r_38 ⟨ar_35, cO_36, fO_37⟩ t H1 locs ht hvm hw hB hz1 hk1 hS => ?_)
        obtain ⟨hP1, hK1, hD1, hF1⟩ := hB
        rw [ht] at hP1
        try rw [ht] at hF1
        have hK1 := va_K.moved hvm.symm hK1
        try dsimp only at hw
        obtain ⟨hP, hD⟩ := va_join (wr := [(mm, .inr (24, [.int 0, .ref stu, .ref cla, .ref pic, .ref act, .int 5, .int 50, .ref nts, .ref isn, .int 1600, .ref boa, .ref mas, .ref pai, .ref sol, .int 0, .ref bal, .ref leg])), (r_33, .inr (0, [.ref u_32, .int 0, .int 0, .int 0]))]) (w1 := [(bal, .inr (5, [.int 1, .ref ar_35, .int 1])), (ar_35, .inl (cO_36, 10, .inr (.inr (.inr (.inr fO_37)))))]) hP hD [1] [0, 2] rfl rfl (by decide) (by decide) hk1 hFc hP1 hD1
        have hK := hK.app hK1
        generalize H1 = H at hP hS ⊢
        have hP : va_P (dC, dI) vwCl [(mm, .inr (24, [.int 0, .ref stu, .ref cla, .ref pic, .ref act, .int 5, .int 50, .ref nts, .ref isn, .int 1600, .ref boa, .ref mas, .ref pai, .ref sol, .int 0, .ref bal, .ref leg])), (r_33, .inr (0, [.ref u_32, .int 0, .int 0, .int 0])), (bal, .inr (5, [.int 1, .ref ar_35, .int 1])), (ar_35, .inl (cO_36, 10, .inr (.inr (.inr (.inr fO_37)))))] H := hP
        have hD : va_D A [(mm, .inr (24, [.int 0, .ref stu, .ref cla, .ref pic, .ref act, .int 5, .int 50, .ref nts, .ref isn, .int 1600, .ref boa, .ref mas, .ref pai, .ref sol, .int 0, .ref bal, .ref leg])), (r_33, .inr (0, [.ref u_32, .int 0, .int 0, .int 0])), (bal, .inr (5, [.int 1, .ref ar_35, .int 1])), (ar_35, .inl (cO_36, 10, .inr (.inr (.inr (.inr fO_37)))))] := hD
        have hR : va_P (dC, dI) vwCl [] H := fun k q h => by simp at h
        refine W.widen (k := 5) (n := 37) (Nat.le_of_ble_eq_true rfl) (Nat.le_of_ble_eq_true rfl) ?_
        subst r_38
        refine lv_pop hx hb dX18_ballot_102 rfl ?_
        refine lv_aload_n hx hb dX18_ballot_103 rfl (lv_at hl 1 rfl) ?_
        refine va_get (D := (dC, dI)) (ci := 24) (v := .ref bal) (C := RX18) (T := TX18) (N := 17) hx hb hts (by decide +kernel) hown hK hP 0 rfl rfl 15 (by decide) (hts (.fieldLink RX18 61 "UnderpaintModel" "ballots" "Ljava/util/List;") (by decide +kernel)) (fun _ h9 => h9) rfl dX18_ballot_104 ?_
        have hPc := (hP.app hR).sub (ws' := [] ++ [(bal, .inr (5, [.int 1, .ref ar_35, .int 1]))]) [2] rfl
        have hDc := (en_DD hD hDr hN0 hAb).sub (ws' := [] ++ [(bal, .inr (5, [.int 1, .ref ar_35, .int 1]))]) [2] (by decide) rfl
        have hKc := hK.sub (tys' := []) [] rfl
        have hFc := va_free (wc := []) hD hS hA [] rfl
        refine va_callFi (va_runF (As := []) (rest := []) (hK.1 5 _ rfl).2 ⟨hx, hb, hml, hown, hts⟩ (c_Jx4a65c_size l dC dI b0 en H.size bal ar_35 1 1) (va_cwF 0 hts gX18_ballot_Jx4a65c_size_8abf5_f74Jx4a65c rfl rfl rfl (hE.face ("java/util/ArrayList", ⟨"java/util/List", "size", "()I"⟩, ⟨"java/util/ArrayList", "size", "()I"⟩) (by decide +kernel)) (by decide +kernel) ⟨Nat.le_of_ble_eq_true rfl, Nat.le_of_ble_eq_true rfl⟩) ⟨cP.blind, va_recv hK hP (ci := 5) (q0 := 2) rfl rfl, cP.use (en_z hb0 hS) (hE.on hAb hS) hPc hKc hDc trivial⟩ rfl rfl hl.1 rfl (lv_room (Nat.le_of_ble_eq_true rfl)) dX18_ballot_107 ⟨Nat.le_of_ble_eq_true rfl, Nat.le_of_ble_eq_true rfl⟩) hS (fun q _ h => hFc q h) hFc (fun r_39 u t H1 locs ht hvm hw hB hz1 hk1 hS => ?_)
        have hP1 : va_P (dC, dI) vwCl [] H1 := fun k q h => by simp at h
        have hD1 : va_D (va_A [] H.size) [] := ⟨fun i j p q h => by simp at h, fun k q h => by simp at h⟩
        try dsimp only at hw
        obtain ⟨hP, hD⟩ := va_join (wr := [(mm, .inr (24, [.int 0, .ref stu, .ref cla, .ref pic, .ref act, .int 5, .int 50, .ref nts, .ref isn, .int 1600, .ref boa, .ref mas, .ref pai, .ref sol, .int 0, .ref bal, .ref leg])), (r_33, .inr (0, [.ref u_32, .int 0, .int 0, .int 0])), (bal, .inr (5, [.int 1, .ref ar_35, .int 1])), (ar_35, .inl (cO_36, 10, .inr (.inr (.inr (.inr fO_37)))))]) (w1 := []) hP hD [] [0, 1, 2, 3] rfl rfl (by decide) (by decide) hk1 hFc hP1 hD1
        generalize H1 = H at hP hS ⊢
        have hP : va_P (dC, dI) vwCl [(mm, .inr (24, [.int 0, .ref stu, .ref cla, .ref pic, .ref act, .int 5, .int 50, .ref nts, .ref isn, .int 1600, .ref boa, .ref mas, .ref pai, .ref sol, .int 0, .ref bal, .ref leg])), (r_33, .inr (0, [.ref u_32, .int 0, .int 0, .int 0])), (bal, .inr (5, [.int 1, .ref ar_35, .int 1])), (ar_35, .inl (cO_36, 10, .inr (.inr (.inr (.inr fO_37)))))] H := hP
        have hD : va_D A [(mm, .inr (24, [.int 0, .ref stu, .ref cla, .ref pic, .ref act, .int 5, .int 50, .ref nts, .ref isn, .int 1600, .ref boa, .ref mas, .ref pai, .ref sol, .int 0, .ref bal, .ref leg])), (r_33, .inr (0, [.ref u_32, .int 0, .int 0, .int 0])), (bal, .inr (5, [.int 1, .ref ar_35, .int 1])), (ar_35, .inl (cO_36, 10, .inr (.inr (.inr (.inr fO_37)))))] := hD
        have hR : va_P (dC, dI) vwCl [] H := fun k q h => by simp at h
        refine W.widen (k := 5) (n := 37) (Nat.le_of_ble_eq_true rfl) (Nat.le_of_ble_eq_true rfl) ?_
        subst r_39
        refine W.widen (k := 5) (n := 37) (Nat.le_of_ble_eq_true rfl) (Nat.le_of_ble_eq_true rfl) ?_
        exact W.iret (v := 1) hx hb hr (fun t ht hW => ⟨⟨1, ⟨0, [.ref stu, .ref cla, .ref pic, .ref act, .int 5, .int 50, .ref nts, .ref isn, .int 1600, .ref boa, .ref mas, .ref pai, .ref sol, .int 0, .ref bal, .ref leg]⟩, rfl, (z_c_X18_ballot_219 a b x_10 x_11 x_12 fV2_17 u_20 u_23 u_26 u_29 (Int32.not_lt.mp c_2) (Int32.not_lt.mp c_5) c_7 ex_10 ex_11 ex_12 h_19 h_22 h_25 h_28 h_31), cB.mk ht hW (hP.sub [0] rfl) (hK.sub [] rfl) (hD.sub [0] (by decide) rfl) (trivial)⟩, hS.F ht⟩) hS.2.2 dX18_ballot_112
      · skip
        refine lv_aload_n hx hb dX18_ballot_30 rfl (lv_at hl 0 rfl) ?_
        refine lv_iconst (v := 1) hx hb dX18_ballot_31 (by decide) ?_
        have hPc := (hP.app hR).sub (ws' := [(mm, .inr (24, .int 0 :: ([.ref stu, .ref cla, .ref pic, .ref act, .int 5, .int 50, .ref nts, .ref isn, .int 1600, .ref boa, .ref mas, .ref pai, .ref sol, .int 0, .ref bal, .ref leg])))] ++ []) [0] rfl
        have hDc := (en_DD hD hDr hN0 hAb).sub (ws' := [(mm, .inr (24, .int 0 :: ([.ref stu, .ref cla, .ref pic, .ref act, .int 5, .int 50, .ref nts, .ref isn, .int 1600, .ref boa, .ref mas, .ref pai, .ref sol, .int 0, .ref bal, .ref leg])))] ++ []) [0] (by decide) rfl
        have hKc := hK.sub (tys' := []) [] rfl
        have hFc := va_free (wc := [(mm, .inr (24, .int 0 :: ([.ref stu, .ref cla, .ref pic, .ref act, .int 5, .int 50, .ref nts, .ref isn, .int 1600, .ref boa, .ref mas, .ref pai, .ref sol, .int 0, .ref bal, .ref leg])))]) hD hS hA [0] rfl
        refine va_calli (va_runV (As := [.int 1]) (rest := []) ⟨hx, hb, hml, hown, hts⟩ (c_X18_fails l dC dI b0 en H.size mm 0 1 ([.ref stu, .ref cla, .ref pic, .ref act, .int 5, .int 50, .ref nts, .ref isn, .int 1600, .ref boa, .ref mas, .ref pai, .ref sol, .int 0, .ref bal, .ref leg])) (cwV 1 hts gX18_ballot_X18_fails rfl rfl rfl (by decide +kernel) ⟨Nat.le_of_ble_eq_true rfl, Nat.le_of_ble_eq_true rfl⟩) ⟨cP.blind, va_recv hK hP (ci := 24) (q0 := 0) rfl rfl, cP.use (en_z hb0 hS) (hE.on hAb hS) hPc hKc hDc trivial⟩ rfl rfl hl.1 rfl (lv_room (Nat.le_of_ble_eq_true rfl)) dX18_ballot_32 ⟨Nat.le_of_ble_eq_true rfl, Nat.le_of_ble_eq_true rfl⟩) hS (fun q _ h => hFc q h) hFc (fun r_40 u t H1 locs ht hvm hw hB hz1 hk1 hS => ?_)
        obtain ⟨hP1, hK1, hD1, hF1⟩ := hB
        rw [ht] at hP1
        try rw [ht] at hF1
        have hK1 := va_K.moved hvm.symm hK1
        try dsimp only at hw
        obtain ⟨hP, hD⟩ := va_join (wr := [(bal, .inr (5, [.int 0, .ref en.2.2.1, .int 0]))]) (w1 := [(mm, .inr (24, [.int 1, .ref stu, .ref cla, .ref pic, .ref act, .int 5, .int 50, .ref nts, .ref isn, .int 1600, .ref boa, .ref mas, .ref pai, .ref sol, .int 0, .ref bal, .ref leg]))]) hP hD [0] [1] rfl rfl (by decide) (by decide) hk1 hFc hP1 hD1
        generalize H1 = H at hP hS ⊢
        have hP : va_P (dC, dI) vwCl [(bal, .inr (5, [.int 0, .ref en.2.2.1, .int 0])), (mm, .inr (24, [.int 1, .ref stu, .ref cla, .ref pic, .ref act, .int 5, .int 50, .ref nts, .ref isn, .int 1600, .ref boa, .ref mas, .ref pai, .ref sol, .int 0, .ref bal, .ref leg]))] H := hP
        have hD : va_D A [(bal, .inr (5, [.int 0, .ref en.2.2.1, .int 0])), (mm, .inr (24, [.int 1, .ref stu, .ref cla, .ref pic, .ref act, .int 5, .int 50, .ref nts, .ref isn, .int 1600, .ref boa, .ref mas, .ref pai, .ref sol, .int 0, .ref bal, .ref leg]))] := hD
        have hR : va_P (dC, dI) vwCl [] H := fun k q h => by simp at h
        refine W.widen (k := 0) (n := 0) (Nat.le_of_ble_eq_true rfl) (Nat.le_of_ble_eq_true rfl) ?_
        subst r_40
        refine W.widen (k := 5) (n := 37) (Nat.le_of_ble_eq_true rfl) (Nat.le_of_ble_eq_true rfl) ?_
        exact W.iret (v := 0) hx hb hr (fun t ht hW => ⟨⟨0, ⟨1, [.ref stu, .ref cla, .ref pic, .ref act, .int 5, .int 50, .ref nts, .ref isn, .int 1600, .ref boa, .ref mas, .ref pai, .ref sol, .int 0, .ref bal, .ref leg]⟩, rfl, (z_c_X18_ballot_220 a b (Int32.not_lt.mp c_2) (Int32.not_lt.mp c_5) c_7), cB.mk ht hW (hP.sub [1] rfl) (hK.sub [] rfl) (hD.sub [1] (by decide) rfl) (trivial)⟩, hS.F ht⟩) hS.2.2 dX18_ballot_35

set_option maxHeartbeats 4000000 in
set_option maxRecDepth 100000 in
theorem c_X18_winner (l : Launch) (dC : Nat → ClassId) (dI : Nat → Nat → Nat) (b0 : Nat) (en : EnT) (sz : Nat) (mm stu cla pic act nts isn boa mas pai sol bal leg : Nat) : Met l yX18_winner wsX18_winner ({ frames := 4, cells := 9, slots := 36, locals := 85 } : Room) (cP b0 en (dC, dI) [] [(mm, .inr (24, [.int 0, .ref stu, .ref cla, .ref pic, .ref act, .int 5, .int 50, .ref nts, .ref isn, .int 1600, .ref boa, .ref mas, .ref pai, .ref sol, .int 0, .ref bal, .ref leg]))] [(bal, .inr (5, [.int 0, .ref en.2.2.1, .int 0]))] sz (fun _ => True) [.ref mm]) (va_Qi (fun (r : Int32) (u : Int32 × List Value) => u.1 = 1) (fun u t => cB (dC, dI) [] [(mm, .inr (24, .int u.1 :: u.2))] (va_A [(mm, .inr (24, [.int 0, .ref stu, .ref cla, .ref pic, .ref act, .int 5, .int 50, .ref nts, .ref isn, .int 1600, .ref boa, .ref mas, .ref pai, .ref sol, .int 0, .ref bal, .ref leg]))] sz) (fun _ => True) t) (va_A [(mm, .inr (24, [.int 0, .ref stu, .ref cla, .ref pic, .ref act, .int 5, .int 50, .ref nts, .ref isn, .int 1600, .ref boa, .ref mas, .ref pai, .ref sol, .int 0, .ref bal, .ref leg]))] sz)) 9 36 (va_A [(mm, .inr (24, [.int 0, .ref stu, .ref cla, .ref pic, .ref act, .int 5, .int 50, .ref nts, .ref isn, .int 1600, .ref boa, .ref mas, .ref pai, .ref sol, .int 0, .ref bal, .ref leg]))] sz) := by
  refine Met.ofW (cc := cX18_winner) (maxL := 8) (ret := (some .char)) (by decide) rfl ?_
  intro p e s m args below meth c s₁ B hml hv
  obtain ⟨rfl, hsz, hb0, hE, hPP, hK, hDD, hF0⟩ := hv
  have hx := B.exec
  have hb := B.bytes
  have hr := B.returns
  have hts := atoms_spec (ws := wsX18_winner) B.pre
  have hown : s.vm.findClass RX18 = some m.cls := findClass_of_methodNamed B.named
  have hlocks := B.notSynchronized
  subst hsz
  have hN0 := en_N hPP hDD rfl
  have hP : va_P (dC, dI) vwCl [(mm, .inr (24, [.int 0, .ref stu, .ref cla, .ref pic, .ref act, .int 5, .int 50, .ref nts, .ref isn, .int 1600, .ref boa, .ref mas, .ref pai, .ref sol, .int 0, .ref bal, .ref leg]))] s.heap := hPP.sub [0] rfl
  have hR0 : va_P (dC, dI) vwCl [(bal, .inr (5, [.int 0, .ref en.2.2.1, .int 0]))] s.heap := hPP.sub [1] rfl
  have hD0 : va_D (fun q => b0 ≤ q) [(mm, .inr (24, [.int 0, .ref stu, .ref cla, .ref pic, .ref act, .int 5, .int 50, .ref nts, .ref isn, .int 1600, .ref boa, .ref mas, .ref pai, .ref sol, .int 0, .ref bal, .ref leg]))] := hDD.sub [0] (by decide) rfl
  have hDr : va_D (fun q => b0 ≤ q) [(bal, .inr (5, [.int 0, .ref en.2.2.1, .int 0]))] := hDD.sub [1] (by decide) rfl
  have hAb := en_A (sz := s.heap.size) hD0 hb0
  have hD := hD0.self (sz := s.heap.size)
  generalize hAe : va_A [(mm, .inr (24, [.int 0, .ref stu, .ref cla, .ref pic, .ref act, .int 5, .int 50, .ref nts, .ref isn, .int 1600, .ref boa, .ref mas, .ref pai, .ref sol, .int 0, .ref bal, .ref leg]))] s.heap.size = A at hD hAb hN0 ⊢
  have hA : ∀ q : Nat, s.heap.size ≤ q → A q := fun q h => by rw [← hAe]; exact Or.inr h
  have hS : va_S A s.heap s.heap [] := va_S.rf
  have hR := hR0
  have hl := lv_entry [.ref mm] (n := 8) (Nat.le_of_ble_eq_true rfl)
  rw [lg_entry_eq]
  generalize (lg_sl [.ref mm] ++ List.replicate (8 - (lg_sl [.ref mm]).length) Slot.unset).toArray = ls at hl ⊢
  have hl : lv_has ls 8 [(0, .ref mm)] := hl
  refine lv_aload_n hx hb dX18_winner_0 rfl (lv_at hl 0 rfl) ?_
  refine lv_iconst (v := 0) hx hb dX18_winner_1 (by decide) ?_
  refine va_put (D := (dC, dI)) (ci := 24) (v := .int 0) (ty := .int) (C := RX18) (T := TX18) (N := 17) hx hb hts (by decide +kernel) tyX18 tyX18_ok nmX18 hown hK hP hD hS 0 rfl rfl 0 (by decide) (hts (.fieldLink RX18 67 "UnderpaintModel" "code" "I") (by decide +kernel)) (fun _ h9 => h9) rfl (by decide +kernel) rfl rfl (Nat.le_of_ble_eq_true rfl) dX18_winner_2 (fun H locs hP hD hS => ?_)
  have hP : va_P (dC, dI) vwCl [(mm, .inr (24, [.int 0, .ref stu, .ref cla, .ref pic, .ref act, .int 5, .int 50, .ref nts, .ref isn, .int 1600, .ref boa, .ref mas, .ref pai, .ref sol, .int 0, .ref bal, .ref leg]))] H := hP
  have hD : va_D A [(mm, .inr (24, [.int 0, .ref stu, .ref cla, .ref pic, .ref act, .int 5, .int 50, .ref nts, .ref isn, .int 1600, .ref boa, .ref mas, .ref pai, .ref sol, .int 0, .ref bal, .ref leg]))] := hD
  have hR := en_R hR0 hN0 hS
  refine lv_iconst (v := 0) hx hb dX18_winner_5 (by decide) ?_
  refine lv_istore_n (lv' := [(1, .int 0), (0, .ref mm)]) hx hb dX18_winner_6 rfl hl (by decide) rfl (fun ls hl => ?_)
  refine lv_iload_n hx hb dX18_winner_7 rfl (lv_at hl 0 rfl) ?_
  refine lv_iconst (v := 3) hx hb dX18_winner_8 (by decide) ?_
  refine lv_icmp_ge (tgt := 152) hx hb dX18_winner_9 (by first | decide | rfl) (fun c_1 => absurd c_1 (by decide)) (fun c_1 => ?_)
  refine va_ldcSW hx hb hown (hE.ldc (2, "UnderpaintModel", 301, "leh") (by decide +kernel)) dX18_winner_12 ?_
  refine lv_iload_n hx hb dX18_winner_15 rfl (lv_at hl 0 rfl) ?_
  refine lv_topv (w := .int (nI 0)) rfl ?_
  have hPc := (hP.app hR).sub (ws' := [] ++ []) [] rfl
  have hDc := (en_DD hD hDr hN0 hAb).sub (ws' := [] ++ []) [] (by decide) rfl
  have hKc := hK.sub (tys' := []) [] rfl
  have hFc := va_free (wc := []) hD hS hA [] rfl
  refine va_calli (va_runV (As := [.int (nI 0)]) (rest := []) ⟨hx, hb, hml, hown, hts⟩ (c_J0_charAt l dC dI b0 en H.size 2 0 (by decide) (by decide)) (cwV 1 hts gX18_winner_J0_charAt_5068e rfl rfl rfl (by decide +kernel) ⟨Nat.le_of_ble_eq_true rfl, Nat.le_of_ble_eq_true rfl⟩) ⟨cP.blind, (en_recv (hE.lit hAb 2 (by decide)).1 hS), cP.use (en_z hb0 hS) (hE.on hAb hS) hPc hKc hDc trivial⟩ rfl rfl hl.1 rfl (lv_room (Nat.le_of_ble_eq_true rfl)) dX18_winner_16 ⟨Nat.le_of_ble_eq_true rfl, Nat.le_of_ble_eq_true rfl⟩) hS (fun q _ h => hFc q h) hFc (fun r_2 u t H1 locs ht hvm hw hB hz1 hk1 hS => ?_)
  have hP1 : va_P (dC, dI) vwCl [] H1 := fun k q h => by simp at h
  have hD1 : va_D (va_A [] H.size) [] := ⟨fun i j p q h => by simp at h, fun k q h => by simp at h⟩
  try dsimp only at hw
  obtain ⟨hP, hD⟩ := va_join (wr := [(mm, .inr (24, [.int 0, .ref stu, .ref cla, .ref pic, .ref act, .int 5, .int 50, .ref nts, .ref isn, .int 1600, .ref boa, .ref mas, .ref pai, .ref sol, .int 0, .ref bal, .ref leg]))]) (w1 := []) hP hD [] [0] rfl rfl (by decide) (by decide) hk1 hFc hP1 hD1
  generalize H1 = H at hP hS ⊢
  have hP : va_P (dC, dI) vwCl [(mm, .inr (24, [.int 0, .ref stu, .ref cla, .ref pic, .ref act, .int 5, .int 50, .ref nts, .ref isn, .int 1600, .ref boa, .ref mas, .ref pai, .ref sol, .int 0, .ref bal, .ref leg]))] H := hP
  have hD : va_D A [(mm, .inr (24, [.int 0, .ref stu, .ref cla, .ref pic, .ref act, .int 5, .int 50, .ref nts, .ref isn, .int 1600, .ref boa, .ref mas, .ref pai, .ref sol, .int 0, .ref bal, .ref leg]))] := hD
  have hR := en_R hR0 hN0 hS
  refine W.widen (k := 0) (n := 0) (Nat.le_of_ble_eq_true rfl) (Nat.le_of_ble_eq_true rfl) ?_
  subst r_2
  refine lv_topv (w := .int 108) rfl ?_
  refine lv_istore_n (lv' := [(2, .int 108), (1, .int 0), (0, .ref mm)]) hx hb dX18_winner_19 rfl hl (by decide) rfl (fun ls hl => ?_)
  refine lv_iconst (v := 1) hx hb dX18_winner_20 (by decide) ?_
  refine lv_istore_n (lv' := [(3, .int 1), (2, .int 108), (1, .int 0), (0, .ref mm)]) hx hb dX18_winner_21 rfl hl (by decide) rfl (fun ls hl => ?_)
  refine lv_iconst (v := 0) hx hb dX18_winner_22 (by decide) ?_
  refine lv_istore (lv' := [(4, .int 0), (3, .int 1), (2, .int 108), (1, .int 0), (0, .ref mm)]) hx hb dX18_winner_23 hl (by decide) rfl (fun ls hl => ?_)
  refine lv_iload hx hb dX18_winner_25 (lv_at hl 0 rfl) ?_
  refine lv_iconst (v := 3) hx hb dX18_winner_27 (by decide) ?_
  refine lv_icmp_ge (tgt := 140) hx hb dX18_winner_28 (by first | decide | rfl) (fun c_3 => absurd c_3 (by decide)) (fun c_3 => ?_)
  refine lv_iconst (v := 0) hx hb dX18_winner_31 (by decide) ?_
  refine lv_istore (lv' := [(5, .int 0), (4, .int 0), (3, .int 1), (2, .int 108), (1, .int 0), (0, .ref mm)]) hx hb dX18_winner_32 hl (by decide) rfl (fun ls hl => ?_)
  refine lv_aload_n hx hb dX18_winner_34 rfl (lv_at hl 5 rfl) ?_
  refine va_get (D := (dC, dI)) (ci := 24) (v := .ref bal) (C := RX18) (T := TX18) (N := 17) hx hb hts (by decide +kernel) hown hK hP 0 rfl rfl 15 (by decide) (hts (.fieldLink RX18 61 "UnderpaintModel" "ballots" "Ljava/util/List;") (by decide +kernel)) (fun _ h9 => h9) rfl dX18_winner_35 ?_
  have hPc := (hP.app hR).sub (ws' := [] ++ [(bal, .inr (5, [.int 0, .ref en.2.2.1, .int 0]))]) [1] rfl
  have hDc := (en_DD hD hDr hN0 hAb).sub (ws' := [] ++ [(bal, .inr (5, [.int 0, .ref en.2.2.1, .int 0]))]) [1] (by decide) rfl
  have hKc := hK.sub (tys' := []) [] rfl
  have hFc := va_free (wc := []) hD hS hA [] rfl
  refine va_callFr (va_runF (As := []) (rest := []) (hK.1 5 _ rfl).2 ⟨hx, hb, hml, hown, hts⟩ (c_iterator l dC dI b0 en H.size bal en.2.2.1 0 0) (va_cwF 0 hts gX18_winner_Jx4a65c_iterator_32c93_f224Jx4a65c rfl rfl rfl (hE.face ("java/util/ArrayList", ⟨"java/util/List", "iterator", "()Ljava/util/Iterator;"⟩, ⟨"java/util/ArrayList", "iterator", "()Ljava/util/Iterator;"⟩) (by decide +kernel)) (by decide +kernel) ⟨Nat.le_of_ble_eq_true rfl, Nat.le_of_ble_eq_true rfl⟩) ⟨cP.blind, va_recv hK hR (ci := 5) (q0 := 0) rfl rfl, cP.use (en_z hb0 hS) (hE.on hAb hS) hPc hKc hDc trivial⟩ rfl rfl hl.1 rfl (lv_room (Nat.le_of_ble_eq_true rfl)) dX18_winner_38 ⟨Nat.le_of_ble_eq_true rfl, Nat.le_of_ble_eq_true rfl⟩) hS (fun q _ h => hFc q h) hFc (fun u r_4 t H1 locs ht hvm hw hB hz1 hk1 hS => ?_)
  obtain ⟨hP1, hK1, hD1, hF1⟩ := hB
  rw [ht] at hP1
  try rw [ht] at hF1
  have hK1 := va_K.moved hvm.symm hK1
  try dsimp only at hw
  obtain ⟨hP, hD⟩ := va_join (wr := [(mm, .inr (24, [.int 0, .ref stu, .ref cla, .ref pic, .ref act, .int 5, .int 50, .ref nts, .ref isn, .int 1600, .ref boa, .ref mas, .ref pai, .ref sol, .int 0, .ref bal, .ref leg]))]) (w1 := [(r_4, .inr (4, [.int 0, .int (-1), .int 0, .ref bal]))]) hP hD [] [0] rfl rfl (by decide) (by decide) hk1 hFc hP1 hD1
  generalize H1 = H at hP hS ⊢
  have hP : va_P (dC, dI) vwCl [(mm, .inr (24, [.int 0, .ref stu, .ref cla, .ref pic, .ref act, .int 5, .int 50, .ref nts, .ref isn, .int 1600, .ref boa, .ref mas, .ref pai, .ref sol, .int 0, .ref bal, .ref leg])), (r_4, .inr (4, [.int 0, .int (-1), .int 0, .ref bal]))] H := hP
  have hD : va_D A [(mm, .inr (24, [.int 0, .ref stu, .ref cla, .ref pic, .ref act, .int 5, .int 50, .ref nts, .ref isn, .int 1600, .ref boa, .ref mas, .ref pai, .ref sol, .int 0, .ref bal, .ref leg])), (r_4, .inr (4, [.int 0, .int (-1), .int 0, .ref bal]))] := hD
  have hR := en_R hR0 hN0 hS
  refine W.widen (k := 1) (n := 4) (Nat.le_of_ble_eq_true rfl) (Nat.le_of_ble_eq_true rfl) ?_
  refine lv_astore (lv' := [(6, .ref r_4), (5, .int 0), (4, .int 0), (3, .int 1), (2, .int 108), (1, .int 0), (0, .ref mm)]) hx hb dX18_winner_43 hl (by decide) rfl (fun ls hl => ?_)
  refine lv_aload hx hb dX18_winner_45 (lv_at hl 0 rfl) ?_
  have hPc := (hP.app hR).sub (ws' := [] ++ [(r_4, .inr (4, [.int 0, .int (-1), .int 0, .ref bal])), (bal, .inr (5, [.int 0, .ref en.2.2.1, .int 0]))]) [1, 2] rfl
  have hDc := (en_DD hD hDr hN0 hAb).sub (ws' := [] ++ [(r_4, .inr (4, [.int 0, .int (-1), .int 0, .ref bal])), (bal, .inr (5, [.int 0, .ref en.2.2.1, .int 0]))]) [1, 2] (by decide) rfl
  have hKc := hK.sub (tys' := []) [] rfl
  have hFc := va_free (wc := []) hD hS hA [] rfl
  refine va_callFi (va_runF (As := []) (rest := []) (hK.1 4 _ rfl).2 ⟨hx, hb, hml, hown, hts⟩ (c_hasNext l dC dI b0 en H.size r_4 bal en.2.2.1 0 0) (va_cwF 0 hts gX18_winner_Jx35411_hasNext_aae02_f228Jx35411 rfl rfl rfl (hE.face ("java/util/ArrayList$Itr", ⟨"java/util/Iterator", "hasNext", "()Z"⟩, ⟨"java/util/ArrayList$Itr", "hasNext", "()Z"⟩) (by decide +kernel)) (by decide +kernel) ⟨Nat.le_of_ble_eq_true rfl, Nat.le_of_ble_eq_true rfl⟩) ⟨cP.blind, va_recv hK hP (ci := 4) (q0 := 1) rfl rfl, cP.use (en_z hb0 hS) (hE.on hAb hS) hPc hKc hDc trivial⟩ rfl rfl hl.1 rfl (lv_room (Nat.le_of_ble_eq_true rfl)) dX18_winner_47 ⟨Nat.le_of_ble_eq_true rfl, Nat.le_of_ble_eq_true rfl⟩) hS (fun q _ h => hFc q h) hFc (fun r_5 u t H1 locs ht hvm hw hB hz1 hk1 hS => ?_)
  have hP1 : va_P (dC, dI) vwCl [] H1 := fun k q h => by simp at h
  have hD1 : va_D (va_A [] H.size) [] := ⟨fun i j p q h => by simp at h, fun k q h => by simp at h⟩
  try dsimp only at hw
  obtain ⟨hP, hD⟩ := va_join (wr := [(mm, .inr (24, [.int 0, .ref stu, .ref cla, .ref pic, .ref act, .int 5, .int 50, .ref nts, .ref isn, .int 1600, .ref boa, .ref mas, .ref pai, .ref sol, .int 0, .ref bal, .ref leg])), (r_4, .inr (4, [.int 0, .int (-1), .int 0, .ref bal]))]) (w1 := []) hP hD [] [0, 1] rfl rfl (by decide) (by decide) hk1 hFc hP1 hD1
  generalize H1 = H at hP hS ⊢
  have hP : va_P (dC, dI) vwCl [(mm, .inr (24, [.int 0, .ref stu, .ref cla, .ref pic, .ref act, .int 5, .int 50, .ref nts, .ref isn, .int 1600, .ref boa, .ref mas, .ref pai, .ref sol, .int 0, .ref bal, .ref leg])), (r_4, .inr (4, [.int 0, .int (-1), .int 0, .ref bal]))] H := hP
  have hD : va_D A [(mm, .inr (24, [.int 0, .ref stu, .ref cla, .ref pic, .ref act, .int 5, .int 50, .ref nts, .ref isn, .int 1600, .ref boa, .ref mas, .ref pai, .ref sol, .int 0, .ref bal, .ref leg])), (r_4, .inr (4, [.int 0, .int (-1), .int 0, .ref bal]))] := hD
  have hR := en_R hR0 hN0 hS
  refine W.widen (k := 1) (n := 4) (Nat.le_of_ble_eq_true rfl) (Nat.le_of_ble_eq_true rfl) ?_
  subst r_5
  refine lv_if_eq (tgt := 102) hx hb dX18_winner_52 (by first | decide | rfl) (fun c_6 => ?_) (fun c_6 => absurd c_6 (by decide))
  refine lv_iload_n hx hb dX18_winner_102 rfl (lv_at hl 3 rfl) ?_
  refine lv_if_eq (tgt := 132) hx hb dX18_winner_103 (by first | decide | rfl) (fun c_7 => absurd c_7 (by decide)) (fun c_7 => ?_)
  refine lv_iload hx hb dX18_winner_106 (lv_at hl 2 rfl) ?_
  refine lv_iload_n hx hb dX18_winner_108 rfl (lv_at hl 5 rfl) ?_
  refine lv_icmp_eq (tgt := 128) hx hb dX18_winner_109 (by first | decide | rfl) (fun c_8 => ?_) (fun c_8 => absurd c_8 (by decide))
  refine lv_iconst (v := 1) hx hb dX18_winner_128 (by decide) ?_
  refine lv_goto (tgt := 133) hx hb dX18_winner_129 (by first | decide | rfl) ?_
  refine lv_istore_n (lv' := [(3, .int 1), (6, .ref r_4), (5, .int 0), (4, .int 0), (2, .int 108), (1, .int 0), (0, .ref mm)]) hx hb dX18_winner_133 rfl hl (by decide) rfl (fun ls hl => ?_)
  refine lv_iinc (v := 1) (lv' := [(4, .int 1), (3, .int 1), (6, .ref r_4), (5, .int 0), (2, .int 108), (1, .int 0), (0, .ref mm)]) hx hb dX18_winner_134 hl (k := 3) rfl (by decide) (by decide) rfl (fun ls hl => ?_)
  refine lv_goto (tgt := 25) hx hb dX18_winner_137 (by first | decide | rfl) ?_
  refine lv_iload hx hb dX18_winner_25 (lv_at hl 0 rfl) ?_
  refine lv_iconst (v := 3) hx hb dX18_winner_27 (by decide) ?_
  refine lv_icmp_ge (tgt := 140) hx hb dX18_winner_28 (by first | decide | rfl) (fun c_9 => absurd c_9 (by decide)) (fun c_9 => ?_)
  refine lv_iconst (v := 0) hx hb dX18_winner_31 (by decide) ?_
  refine lv_istore (lv' := [(5, .int 0), (4, .int 1), (3, .int 1), (6, .ref r_4), (2, .int 108), (1, .int 0), (0, .ref mm)]) hx hb dX18_winner_32 hl (by decide) rfl (fun ls hl => ?_)
  refine lv_aload_n hx hb dX18_winner_34 rfl (lv_at hl 6 rfl) ?_
  refine va_get (D := (dC, dI)) (ci := 24) (v := .ref bal) (C := RX18) (T := TX18) (N := 17) hx hb hts (by decide +kernel) hown hK hP 0 rfl rfl 15 (by decide) (hts (.fieldLink RX18 61 "UnderpaintModel" "ballots" "Ljava/util/List;") (by decide +kernel)) (fun _ h9 => h9) rfl dX18_winner_35 ?_
  have hPc := (hP.app hR).sub (ws' := [] ++ [(bal, .inr (5, [.int 0, .ref en.2.2.1, .int 0]))]) [2] rfl
  have hDc := (en_DD hD hDr hN0 hAb).sub (ws' := [] ++ [(bal, .inr (5, [.int 0, .ref en.2.2.1, .int 0]))]) [2] (by decide) rfl
  have hKc := hK.sub (tys' := []) [] rfl
  have hFc := va_free (wc := []) hD hS hA [] rfl
  refine va_callFr (va_runF (As := []) (rest := []) (hK.1 5 _ rfl).2 ⟨hx, hb, hml, hown, hts⟩ (c_iterator l dC dI b0 en H.size bal en.2.2.1 0 0) (va_cwF 0 hts gX18_winner_Jx4a65c_iterator_32c93_f224Jx4a65c rfl rfl rfl (hE.face ("java/util/ArrayList", ⟨"java/util/List", "iterator", "()Ljava/util/Iterator;"⟩, ⟨"java/util/ArrayList", "iterator", "()Ljava/util/Iterator;"⟩) (by decide +kernel)) (by decide +kernel) ⟨Nat.le_of_ble_eq_true rfl, Nat.le_of_ble_eq_true rfl⟩) ⟨cP.blind, va_recv hK hR (ci := 5) (q0 := 0) rfl rfl, cP.use (en_z hb0 hS) (hE.on hAb hS) hPc hKc hDc trivial⟩ rfl rfl hl.1 rfl (lv_room (Nat.le_of_ble_eq_true rfl)) dX18_winner_38 ⟨Nat.le_of_ble_eq_true rfl, Nat.le_of_ble_eq_true rfl⟩) hS (fun q _ h => hFc q h) hFc (fun u r_10 t H1 locs ht hvm hw hB hz1 hk1 hS => ?_)
  obtain ⟨hP1, hK1, hD1, hF1⟩ := hB
  rw [ht] at hP1
  try rw [ht] at hF1
  have hK1 := va_K.moved hvm.symm hK1
  try dsimp only at hw
  obtain ⟨hP, hD⟩ := va_join (wr := [(mm, .inr (24, [.int 0, .ref stu, .ref cla, .ref pic, .ref act, .int 5, .int 50, .ref nts, .ref isn, .int 1600, .ref boa, .ref mas, .ref pai, .ref sol, .int 0, .ref bal, .ref leg])), (r_4, .inr (4, [.int 0, .int (-1), .int 0, .ref bal]))]) (w1 := [(r_10, .inr (4, [.int 0, .int (-1), .int 0, .ref bal]))]) hP hD [] [0, 1] rfl rfl (by decide) (by decide) hk1 hFc hP1 hD1
  generalize H1 = H at hP hS ⊢
  have hP : va_P (dC, dI) vwCl [(mm, .inr (24, [.int 0, .ref stu, .ref cla, .ref pic, .ref act, .int 5, .int 50, .ref nts, .ref isn, .int 1600, .ref boa, .ref mas, .ref pai, .ref sol, .int 0, .ref bal, .ref leg])), (r_4, .inr (4, [.int 0, .int (-1), .int 0, .ref bal])), (r_10, .inr (4, [.int 0, .int (-1), .int 0, .ref bal]))] H := hP
  have hD : va_D A [(mm, .inr (24, [.int 0, .ref stu, .ref cla, .ref pic, .ref act, .int 5, .int 50, .ref nts, .ref isn, .int 1600, .ref boa, .ref mas, .ref pai, .ref sol, .int 0, .ref bal, .ref leg])), (r_4, .inr (4, [.int 0, .int (-1), .int 0, .ref bal])), (r_10, .inr (4, [.int 0, .int (-1), .int 0, .ref bal]))] := hD
  have hR := en_R hR0 hN0 hS
  refine W.widen (k := 2) (n := 8) (Nat.le_of_ble_eq_true rfl) (Nat.le_of_ble_eq_true rfl) ?_
  refine lv_astore (lv' := [(6, .ref r_10), (5, .int 0), (4, .int 1), (3, .int 1), (2, .int 108), (1, .int 0), (0, .ref mm)]) hx hb dX18_winner_43 hl (by decide) rfl (fun ls hl => ?_)
  refine lv_aload hx hb dX18_winner_45 (lv_at hl 0 rfl) ?_
  have hPc := (hP.app hR).sub (ws' := [] ++ [(r_10, .inr (4, [.int 0, .int (-1), .int 0, .ref bal])), (bal, .inr (5, [.int 0, .ref en.2.2.1, .int 0]))]) [2, 3] rfl
  have hDc := (en_DD hD hDr hN0 hAb).sub (ws' := [] ++ [(r_10, .inr (4, [.int 0, .int (-1), .int 0, .ref bal])), (bal, .inr (5, [.int 0, .ref en.2.2.1, .int 0]))]) [2, 3] (by decide) rfl
  have hKc := hK.sub (tys' := []) [] rfl
  have hFc := va_free (wc := []) hD hS hA [] rfl
  refine va_callFi (va_runF (As := []) (rest := []) (hK.1 4 _ rfl).2 ⟨hx, hb, hml, hown, hts⟩ (c_hasNext l dC dI b0 en H.size r_10 bal en.2.2.1 0 0) (va_cwF 0 hts gX18_winner_Jx35411_hasNext_aae02_f228Jx35411 rfl rfl rfl (hE.face ("java/util/ArrayList$Itr", ⟨"java/util/Iterator", "hasNext", "()Z"⟩, ⟨"java/util/ArrayList$Itr", "hasNext", "()Z"⟩) (by decide +kernel)) (by decide +kernel) ⟨Nat.le_of_ble_eq_true rfl, Nat.le_of_ble_eq_true rfl⟩) ⟨cP.blind, va_recv hK hP (ci := 4) (q0 := 2) rfl rfl, cP.use (en_z hb0 hS) (hE.on hAb hS) hPc hKc hDc trivial⟩ rfl rfl hl.1 rfl (lv_room (Nat.le_of_ble_eq_true rfl)) dX18_winner_47 ⟨Nat.le_of_ble_eq_true rfl, Nat.le_of_ble_eq_true rfl⟩) hS (fun q _ h => hFc q h) hFc (fun r_11 u t H1 locs ht hvm hw hB hz1 hk1 hS => ?_)
  have hP1 : va_P (dC, dI) vwCl [] H1 := fun k q h => by simp at h
  have hD1 : va_D (va_A [] H.size) [] := ⟨fun i j p q h => by simp at h, fun k q h => by simp at h⟩
  try dsimp only at hw
  obtain ⟨hP, hD⟩ := va_join (wr := [(mm, .inr (24, [.int 0, .ref stu, .ref cla, .ref pic, .ref act, .int 5, .int 50, .ref nts, .ref isn, .int 1600, .ref boa, .ref mas, .ref pai, .ref sol, .int 0, .ref bal, .ref leg])), (r_4, .inr (4, [.int 0, .int (-1), .int 0, .ref bal])), (r_10, .inr (4, [.int 0, .int (-1), .int 0, .ref bal]))]) (w1 := []) hP hD [] [0, 1, 2] rfl rfl (by decide) (by decide) hk1 hFc hP1 hD1
  generalize H1 = H at hP hS ⊢
  have hP : va_P (dC, dI) vwCl [(mm, .inr (24, [.int 0, .ref stu, .ref cla, .ref pic, .ref act, .int 5, .int 50, .ref nts, .ref isn, .int 1600, .ref boa, .ref mas, .ref pai, .ref sol, .int 0, .ref bal, .ref leg])), (r_4, .inr (4, [.int 0, .int (-1), .int 0, .ref bal])), (r_10, .inr (4, [.int 0, .int (-1), .int 0, .ref bal]))] H := hP
  have hD : va_D A [(mm, .inr (24, [.int 0, .ref stu, .ref cla, .ref pic, .ref act, .int 5, .int 50, .ref nts, .ref isn, .int 1600, .ref boa, .ref mas, .ref pai, .ref sol, .int 0, .ref bal, .ref leg])), (r_4, .inr (4, [.int 0, .int (-1), .int 0, .ref bal])), (r_10, .inr (4, [.int 0, .int (-1), .int 0, .ref bal]))] := hD
  have hR := en_R hR0 hN0 hS
  refine W.widen (k := 2) (n := 8) (Nat.le_of_ble_eq_true rfl) (Nat.le_of_ble_eq_true rfl) ?_
  subst r_11
  refine lv_if_eq (tgt := 102) hx hb dX18_winner_52 (by first | decide | rfl) (fun c_12 => ?_) (fun c_12 => absurd c_12 (by decide))
  refine lv_iload_n hx hb dX18_winner_102 rfl (lv_at hl 3 rfl) ?_
  refine lv_if_eq (tgt := 132) hx hb dX18_winner_103 (by first | decide | rfl) (fun c_13 => absurd c_13 (by decide)) (fun c_13 => ?_)
  refine lv_iload hx hb dX18_winner_106 (lv_at hl 2 rfl) ?_
  refine lv_iload_n hx hb dX18_winner_108 rfl (lv_at hl 5 rfl) ?_
  refine lv_icmp_eq (tgt := 128) hx hb dX18_winner_109 (by first | decide | rfl) (fun c_14 => absurd c_14 (by decide)) (fun c_14 => ?_)
  refine lv_iconst (v := 2) hx hb dX18_winner_112 (by decide) ?_
  refine lv_iload hx hb dX18_winner_113 (lv_at hl 1 rfl) ?_
  refine lv_imul hx hb dX18_winner_115 ?_
  refine lv_topi (fun x_15 ex_15 => ?_)
  obtain rfl : x_15 = 0 := ex_15.trans (by decide)
  refine lv_aload_n hx hb dX18_winner_116 rfl (lv_at hl 6 rfl) ?_
  refine va_get (D := (dC, dI)) (ci := 24) (v := .ref bal) (C := RX18) (T := TX18) (N := 17) hx hb hts (by decide +kernel) hown hK hP 0 rfl rfl 15 (by decide) (hts (.fieldLink RX18 61 "UnderpaintModel" "ballots" "Ljava/util/List;") (by decide +kernel)) (fun _ h9 => h9) rfl dX18_winner_117 ?_
  have hPc := (hP.app hR).sub (ws' := [] ++ [(bal, .inr (5, [.int 0, .ref en.2.2.1, .int 0]))]) [3] rfl
  have hDc := (en_DD hD hDr hN0 hAb).sub (ws' := [] ++ [(bal, .inr (5, [.int 0, .ref en.2.2.1, .int 0]))]) [3] (by decide) rfl
  have hKc := hK.sub (tys' := []) [] rfl
  have hFc := va_free (wc := []) hD hS hA [] rfl
  refine va_callFi (va_runF (As := []) (rest := [.int 0]) (hK.1 5 _ rfl).2 ⟨hx, hb, hml, hown, hts⟩ (c_Jx4a65c_size l dC dI b0 en H.size bal en.2.2.1 0 0) (va_cwF 0 hts gX18_winner_Jx4a65c_size_8abf5_f74Jx4a65c rfl rfl rfl (hE.face ("java/util/ArrayList", ⟨"java/util/List", "size", "()I"⟩, ⟨"java/util/ArrayList", "size", "()I"⟩) (by decide +kernel)) (by decide +kernel) ⟨Nat.le_of_ble_eq_true rfl, Nat.le_of_ble_eq_true rfl⟩) ⟨cP.blind, va_recv hK hR (ci := 5) (q0 := 0) rfl rfl, cP.use (en_z hb0 hS) (hE.on hAb hS) hPc hKc hDc trivial⟩ rfl rfl hl.1 rfl (lv_room (Nat.le_of_ble_eq_true rfl)) dX18_winner_120 ⟨Nat.le_of_ble_eq_true rfl, Nat.le_of_ble_eq_true rfl⟩) hS (fun q _ h => hFc q h) hFc (fun r_16 u t H1 locs ht hvm hw hB hz1 hk1 hS => ?_)
  have hP1 : va_P (dC, dI) vwCl [] H1 := fun k q h => by simp at h
  have hD1 : va_D (va_A [] H.size) [] := ⟨fun i j p q h => by simp at h, fun k q h => by simp at h⟩
  try dsimp only at hw
  obtain ⟨hP, hD⟩ := va_join (wr := [(mm, .inr (24, [.int 0, .ref stu, .ref cla, .ref pic, .ref act, .int 5, .int 50, .ref nts, .ref isn, .int 1600, .ref boa, .ref mas, .ref pai, .ref sol, .int 0, .ref bal, .ref leg])), (r_4, .inr (4, [.int 0, .int (-1), .int 0, .ref bal])), (r_10, .inr (4, [.int 0, .int (-1), .int 0, .ref bal]))]) (w1 := []) hP hD [] [0, 1, 2] rfl rfl (by decide) (by decide) hk1 hFc hP1 hD1
  generalize H1 = H at hP hS ⊢
  have hP : va_P (dC, dI) vwCl [(mm, .inr (24, [.int 0, .ref stu, .ref cla, .ref pic, .ref act, .int 5, .int 50, .ref nts, .ref isn, .int 1600, .ref boa, .ref mas, .ref pai, .ref sol, .int 0, .ref bal, .ref leg])), (r_4, .inr (4, [.int 0, .int (-1), .int 0, .ref bal])), (r_10, .inr (4, [.int 0, .int (-1), .int 0, .ref bal]))] H := hP
  have hD : va_D A [(mm, .inr (24, [.int 0, .ref stu, .ref cla, .ref pic, .ref act, .int 5, .int 50, .ref nts, .ref isn, .int 1600, .ref boa, .ref mas, .ref pai, .ref sol, .int 0, .ref bal, .ref leg])), (r_4, .inr (4, [.int 0, .int (-1), .int 0, .ref bal])), (r_10, .inr (4, [.int 0, .int (-1), .int 0, .ref bal]))] := hD
  have hR := en_R hR0 hN0 hS
  refine W.widen (k := 2) (n := 8) (Nat.le_of_ble_eq_true rfl) (Nat.le_of_ble_eq_true rfl) ?_
  subst r_16
  refine lv_icmp_le (tgt := 132) hx hb dX18_winner_125 (by first | decide | rfl) (fun c_17 => ?_) (fun c_17 => absurd c_17 (by decide))
  refine lv_iconst (v := 0) hx hb dX18_winner_132 (by decide) ?_
  refine lv_istore_n (lv' := [(3, .int 0), (6, .ref r_10), (5, .int 0), (4, .int 1), (2, .int 108), (1, .int 0), (0, .ref mm)]) hx hb dX18_winner_133 rfl hl (by decide) rfl (fun ls hl => ?_)
  refine lv_iinc (v := 2) (lv' := [(4, .int 2), (3, .int 0), (6, .ref r_10), (5, .int 0), (2, .int 108), (1, .int 0), (0, .ref mm)]) hx hb dX18_winner_134 hl (k := 3) rfl (by decide) (by decide) rfl (fun ls hl => ?_)
  refine lv_goto (tgt := 25) hx hb dX18_winner_137 (by first | decide | rfl) ?_
  refine lv_iload hx hb dX18_winner_25 (lv_at hl 0 rfl) ?_
  refine lv_iconst (v := 3) hx hb dX18_winner_27 (by decide) ?_
  refine lv_icmp_ge (tgt := 140) hx hb dX18_winner_28 (by first | decide | rfl) (fun c_18 => absurd c_18 (by decide)) (fun c_18 => ?_)
  refine lv_iconst (v := 0) hx hb dX18_winner_31 (by decide) ?_
  refine lv_istore (lv' := [(5, .int 0), (4, .int 2), (3, .int 0), (6, .ref r_10), (2, .int 108), (1, .int 0), (0, .ref mm)]) hx hb dX18_winner_32 hl (by decide) rfl (fun ls hl => ?_)
  refine lv_aload_n hx hb dX18_winner_34 rfl (lv_at hl 6 rfl) ?_
  refine va_get (D := (dC, dI)) (ci := 24) (v := .ref bal) (C := RX18) (T := TX18) (N := 17) hx hb hts (by decide +kernel) hown hK hP 0 rfl rfl 15 (by decide) (hts (.fieldLink RX18 61 "UnderpaintModel" "ballots" "Ljava/util/List;") (by decide +kernel)) (fun _ h9 => h9) rfl dX18_winner_35 ?_
  have hPc := (hP.app hR).sub (ws' := [] ++ [(bal, .inr (5, [.int 0, .ref en.2.2.1, .int 0]))]) [3] rfl
  have hDc := (en_DD hD hDr hN0 hAb).sub (ws' := [] ++ [(bal, .inr (5, [.int 0, .ref en.2.2.1, .int 0]))]) [3] (by decide) rfl
  have hKc := hK.sub (tys' := []) [] rfl
  have hFc := va_free (wc := []) hD hS hA [] rfl
  refine va_callFr (va_runF (As := []) (rest := []) (hK.1 5 _ rfl).2 ⟨hx, hb, hml, hown, hts⟩ (c_iterator l dC dI b0 en H.size bal en.2.2.1 0 0) (va_cwF 0 hts gX18_winner_Jx4a65c_iterator_32c93_f224Jx4a65c rfl rfl rfl (hE.face ("java/util/ArrayList", ⟨"java/util/List", "iterator", "()Ljava/util/Iterator;"⟩, ⟨"java/util/ArrayList", "iterator", "()Ljava/util/Iterator;"⟩) (by decide +kernel)) (by decide +kernel) ⟨Nat.le_of_ble_eq_true rfl, Nat.le_of_ble_eq_true rfl⟩) ⟨cP.blind, va_recv hK hR (ci := 5) (q0 := 0) rfl rfl, cP.use (en_z hb0 hS) (hE.on hAb hS) hPc hKc hDc trivial⟩ rfl rfl hl.1 rfl (lv_room (Nat.le_of_ble_eq_true rfl)) dX18_winner_38 ⟨Nat.le_of_ble_eq_true rfl, Nat.le_of_ble_eq_true rfl⟩) hS (fun q _ h => hFc q h) hFc (fun u r_19 t H1 locs ht hvm hw hB hz1 hk1 hS => ?_)
  obtain ⟨hP1, hK1, hD1, hF1⟩ := hB
  rw [ht] at hP1
  try rw [ht] at hF1
  have hK1 := va_K.moved hvm.symm hK1
  try dsimp only at hw
  obtain ⟨hP, hD⟩ := va_join (wr := [(mm, .inr (24, [.int 0, .ref stu, .ref cla, .ref pic, .ref act, .int 5, .int 50, .ref nts, .ref isn, .int 1600, .ref boa, .ref mas, .ref pai, .ref sol, .int 0, .ref bal, .ref leg])), (r_4, .inr (4, [.int 0, .int (-1), .int 0, .ref bal])), (r_10, .inr (4, [.int 0, .int (-1), .int 0, .ref bal]))]) (w1 := [(r_19, .inr (4, [.int 0, .int (-1), .int 0, .ref bal]))]) hP hD [] [0, 1, 2] rfl rfl (by decide) (by decide) hk1 hFc hP1 hD1
  generalize H1 = H at hP hS ⊢
  have hP : va_P (dC, dI) vwCl [(mm, .inr (24, [.int 0, .ref stu, .ref cla, .ref pic, .ref act, .int 5, .int 50, .ref nts, .ref isn, .int 1600, .ref boa, .ref mas, .ref pai, .ref sol, .int 0, .ref bal, .ref leg])), (r_4, .inr (4, [.int 0, .int (-1), .int 0, .ref bal])), (r_10, .inr (4, [.int 0, .int (-1), .int 0, .ref bal])), (r_19, .inr (4, [.int 0, .int (-1), .int 0, .ref bal]))] H := hP
  have hD : va_D A [(mm, .inr (24, [.int 0, .ref stu, .ref cla, .ref pic, .ref act, .int 5, .int 50, .ref nts, .ref isn, .int 1600, .ref boa, .ref mas, .ref pai, .ref sol, .int 0, .ref bal, .ref leg])), (r_4, .inr (4, [.int 0, .int (-1), .int 0, .ref bal])), (r_10, .inr (4, [.int 0, .int (-1), .int 0, .ref bal])), (r_19, .inr (4, [.int 0, .int (-1), .int 0, .ref bal]))] := hD
  have hR := en_R hR0 hN0 hS
  refine W.widen (k := 3) (n := 12) (Nat.le_of_ble_eq_true rfl) (Nat.le_of_ble_eq_true rfl) ?_
  refine lv_astore (lv' := [(6, .ref r_19), (5, .int 0), (4, .int 2), (3, .int 0), (2, .int 108), (1, .int 0), (0, .ref mm)]) hx hb dX18_winner_43 hl (by decide) rfl (fun ls hl => ?_)
  refine lv_aload hx hb dX18_winner_45 (lv_at hl 0 rfl) ?_
  have hPc := (hP.app hR).sub (ws' := [] ++ [(r_19, .inr (4, [.int 0, .int (-1), .int 0, .ref bal])), (bal, .inr (5, [.int 0, .ref en.2.2.1, .int 0]))]) [3, 4] rfl
  have hDc := (en_DD hD hDr hN0 hAb).sub (ws' := [] ++ [(r_19, .inr (4, [.int 0, .int (-1), .int 0, .ref bal])), (bal, .inr (5, [.int 0, .ref en.2.2.1, .int 0]))]) [3, 4] (by decide) rfl
  have hKc := hK.sub (tys' := []) [] rfl
  have hFc := va_free (wc := []) hD hS hA [] rfl
  refine va_callFi (va_runF (As := []) (rest := []) (hK.1 4 _ rfl).2 ⟨hx, hb, hml, hown, hts⟩ (c_hasNext l dC dI b0 en H.size r_19 bal en.2.2.1 0 0) (va_cwF 0 hts gX18_winner_Jx35411_hasNext_aae02_f228Jx35411 rfl rfl rfl (hE.face ("java/util/ArrayList$Itr", ⟨"java/util/Iterator", "hasNext", "()Z"⟩, ⟨"java/util/ArrayList$Itr", "hasNext", "()Z"⟩) (by decide +kernel)) (by decide +kernel) ⟨Nat.le_of_ble_eq_true rfl, Nat.le_of_ble_eq_true rfl⟩) ⟨cP.blind, va_recv hK hP (ci := 4) (q0 := 3) rfl rfl, cP.use (en_z hb0 hS) (hE.on hAb hS) hPc hKc hDc trivial⟩ rfl rfl hl.1 rfl (lv_room (Nat.le_of_ble_eq_true rfl)) dX18_winner_47 ⟨Nat.le_of_ble_eq_true rfl, Nat.le_of_ble_eq_true rfl⟩) hS (fun q _ h => hFc q h) hFc (fun r_20 u t H1 locs ht hvm hw hB hz1 hk1 hS => ?_)
  have hP1 : va_P (dC, dI) vwCl [] H1 := fun k q h => by simp at h
  have hD1 : va_D (va_A [] H.size) [] := ⟨fun i j p q h => by simp at h, fun k q h => by simp at h⟩
  try dsimp only at hw
  obtain ⟨hP, hD⟩ := va_join (wr := [(mm, .inr (24, [.int 0, .ref stu, .ref cla, .ref pic, .ref act, .int 5, .int 50, .ref nts, .ref isn, .int 1600, .ref boa, .ref mas, .ref pai, .ref sol, .int 0, .ref bal, .ref leg])), (r_4, .inr (4, [.int 0, .int (-1), .int 0, .ref bal])), (r_10, .inr (4, [.int 0, .int (-1), .int 0, .ref bal])), (r_19, .inr (4, [.int 0, .int (-1), .int 0, .ref bal]))]) (w1 := []) hP hD [] [0, 1, 2, 3] rfl rfl (by decide) (by decide) hk1 hFc hP1 hD1
  generalize H1 = H at hP hS ⊢
  have hP : va_P (dC, dI) vwCl [(mm, .inr (24, [.int 0, .ref stu, .ref cla, .ref pic, .ref act, .int 5, .int 50, .ref nts, .ref isn, .int 1600, .ref boa, .ref mas, .ref pai, .ref sol, .int 0, .ref bal, .ref leg])), (r_4, .inr (4, [.int 0, .int (-1), .int 0, .ref bal])), (r_10, .inr (4, [.int 0, .int (-1), .int 0, .ref bal])), (r_19, .inr (4, [.int 0, .int (-1), .int 0, .ref bal]))] H := hP
  have hD : va_D A [(mm, .inr (24, [.int 0, .ref stu, .ref cla, .ref pic, .ref act, .int 5, .int 50, .ref nts, .ref isn, .int 1600, .ref boa, .ref mas, .ref pai, .ref sol, .int 0, .ref bal, .ref leg])), (r_4, .inr (4, [.int 0, .int (-1), .int 0, .ref bal])), (r_10, .inr (4, [.int 0, .int (-1), .int 0, .ref bal])), (r_19, .inr (4, [.int 0, .int (-1), .int 0, .ref bal]))] := hD
  have hR := en_R hR0 hN0 hS
  refine W.widen (k := 3) (n := 12) (Nat.le_of_ble_eq_true rfl) (Nat.le_of_ble_eq_true rfl) ?_
  subst r_20
  refine lv_if_eq (tgt := 102) hx hb dX18_winner_52 (by first | decide | rfl) (fun c_21 => ?_) (fun c_21 => absurd c_21 (by decide))
  refine lv_iload_n hx hb dX18_winner_102 rfl (lv_at hl 3 rfl) ?_
  refine lv_if_eq (tgt := 132) hx hb dX18_winner_103 (by first | decide | rfl) (fun c_22 => ?_) (fun c_22 => absurd c_22 (by decide))
  refine lv_iconst (v := 0) hx hb dX18_winner_132 (by decide) ?_
  refine lv_istore_n (lv' := [(3, .int 0), (6, .ref r_19), (5, .int 0), (4, .int 2), (2, .int 108), (1, .int 0), (0, .ref mm)]) hx hb dX18_winner_133 rfl hl (by decide) rfl (fun ls hl => ?_)
  refine lv_iinc (v := 3) (lv' := [(4, .int 3), (3, .int 0), (6, .ref r_19), (5, .int 0), (2, .int 108), (1, .int 0), (0, .ref mm)]) hx hb dX18_winner_134 hl (k := 3) rfl (by decide) (by decide) rfl (fun ls hl => ?_)
  refine lv_goto (tgt := 25) hx hb dX18_winner_137 (by first | decide | rfl) ?_
  refine lv_iload hx hb dX18_winner_25 (lv_at hl 0 rfl) ?_
  refine lv_iconst (v := 3) hx hb dX18_winner_27 (by decide) ?_
  refine lv_icmp_ge (tgt := 140) hx hb dX18_winner_28 (by first | decide | rfl) (fun c_23 => ?_) (fun c_23 => absurd c_23 (by decide))
  refine lv_iload_n hx hb dX18_winner_140 rfl (lv_at hl 1 rfl) ?_
  refine lv_if_eq (tgt := 146) hx hb dX18_winner_141 (by first | decide | rfl) (fun c_24 => ?_) (fun c_24 => absurd c_24 (by decide))
  refine lv_iinc (v := 1) (lv' := [(1, .int 1), (4, .int 3), (3, .int 0), (6, .ref r_19), (5, .int 0), (2, .int 108), (0, .ref mm)]) hx hb dX18_winner_146 hl (k := 5) rfl (by decide) (by decide) rfl (fun ls hl => ?_)
  refine lv_goto (tgt := 7) hx hb dX18_winner_149 (by first | decide | rfl) ?_
  refine lv_iload_n hx hb dX18_winner_7 rfl (lv_at hl 0 rfl) ?_
  refine lv_iconst (v := 3) hx hb dX18_winner_8 (by decide) ?_
  refine lv_icmp_ge (tgt := 152) hx hb dX18_winner_9 (by first | decide | rfl) (fun c_25 => absurd c_25 (by decide)) (fun c_25 => ?_)
  refine va_ldcSW hx hb hown (hE.ldc (2, "UnderpaintModel", 301, "leh") (by decide +kernel)) dX18_winner_12 ?_
  refine lv_iload_n hx hb dX18_winner_15 rfl (lv_at hl 0 rfl) ?_
  refine lv_topv (w := .int (nI 1)) rfl ?_
  have hPc := (hP.app hR).sub (ws' := [] ++ []) [] rfl
  have hDc := (en_DD hD hDr hN0 hAb).sub (ws' := [] ++ []) [] (by decide) rfl
  have hKc := hK.sub (tys' := []) [] rfl
  have hFc := va_free (wc := []) hD hS hA [] rfl
  refine va_calli (va_runV (As := [.int (nI 1)]) (rest := []) ⟨hx, hb, hml, hown, hts⟩ (c_J0_charAt l dC dI b0 en H.size 2 1 (by decide) (by decide)) (cwV 1 hts gX18_winner_J0_charAt_5068e rfl rfl rfl (by decide +kernel) ⟨Nat.le_of_ble_eq_true rfl, Nat.le_of_ble_eq_true rfl⟩) ⟨cP.blind, (en_recv (hE.lit hAb 2 (by decide)).1 hS), cP.use (en_z hb0 hS) (hE.on hAb hS) hPc hKc hDc trivial⟩ rfl rfl hl.1 rfl (lv_room (Nat.le_of_ble_eq_true rfl)) dX18_winner_16 ⟨Nat.le_of_ble_eq_true rfl, Nat.le_of_ble_eq_true rfl⟩) hS (fun q _ h => hFc q h) hFc (fun r_26 u t H1 locs ht hvm hw hB hz1 hk1 hS => ?_)
  have hP1 : va_P (dC, dI) vwCl [] H1 := fun k q h => by simp at h
  have hD1 : va_D (va_A [] H.size) [] := ⟨fun i j p q h => by simp at h, fun k q h => by simp at h⟩
  try dsimp only at hw
  obtain ⟨hP, hD⟩ := va_join (wr := [(mm, .inr (24, [.int 0, .ref stu, .ref cla, .ref pic, .ref act, .int 5, .int 50, .ref nts, .ref isn, .int 1600, .ref boa, .ref mas, .ref pai, .ref sol, .int 0, .ref bal, .ref leg])), (r_4, .inr (4, [.int 0, .int (-1), .int 0, .ref bal])), (r_10, .inr (4, [.int 0, .int (-1), .int 0, .ref bal])), (r_19, .inr (4, [.int 0, .int (-1), .int 0, .ref bal]))]) (w1 := []) hP hD [] [0, 1, 2, 3] rfl rfl (by decide) (by decide) hk1 hFc hP1 hD1
  generalize H1 = H at hP hS ⊢
  have hP : va_P (dC, dI) vwCl [(mm, .inr (24, [.int 0, .ref stu, .ref cla, .ref pic, .ref act, .int 5, .int 50, .ref nts, .ref isn, .int 1600, .ref boa, .ref mas, .ref pai, .ref sol, .int 0, .ref bal, .ref leg])), (r_4, .inr (4, [.int 0, .int (-1), .int 0, .ref bal])), (r_10, .inr (4, [.int 0, .int (-1), .int 0, .ref bal])), (r_19, .inr (4, [.int 0, .int (-1), .int 0, .ref bal]))] H := hP
  have hD : va_D A [(mm, .inr (24, [.int 0, .ref stu, .ref cla, .ref pic, .ref act, .int 5, .int 50, .ref nts, .ref isn, .int 1600, .ref boa, .ref mas, .ref pai, .ref sol, .int 0, .ref bal, .ref leg])), (r_4, .inr (4, [.int 0, .int (-1), .int 0, .ref bal])), (r_10, .inr (4, [.int 0, .int (-1), .int 0, .ref bal])), (r_19, .inr (4, [.int 0, .int (-1), .int 0, .ref bal]))] := hD
  have hR := en_R hR0 hN0 hS
  refine W.widen (k := 3) (n := 12) (Nat.le_of_ble_eq_true rfl) (Nat.le_of_ble_eq_true rfl) ?_
  subst r_26
  refine lv_topv (w := .int 101) rfl ?_
  refine lv_istore_n (lv' := [(2, .int 101), (1, .int 1), (4, .int 3), (3, .int 0), (6, .ref r_19), (5, .int 0), (0, .ref mm)]) hx hb dX18_winner_19 rfl hl (by decide) rfl (fun ls hl => ?_)
  refine lv_iconst (v := 1) hx hb dX18_winner_20 (by decide) ?_
  refine lv_istore_n (lv' := [(3, .int 1), (2, .int 101), (1, .int 1), (4, .int 3), (6, .ref r_19), (5, .int 0), (0, .ref mm)]) hx hb dX18_winner_21 rfl hl (by decide) rfl (fun ls hl => ?_)
  refine lv_iconst (v := 0) hx hb dX18_winner_22 (by decide) ?_
  refine lv_istore (lv' := [(4, .int 0), (3, .int 1), (2, .int 101), (1, .int 1), (6, .ref r_19), (5, .int 0), (0, .ref mm)]) hx hb dX18_winner_23 hl (by decide) rfl (fun ls hl => ?_)
  refine lv_iload hx hb dX18_winner_25 (lv_at hl 0 rfl) ?_
  refine lv_iconst (v := 3) hx hb dX18_winner_27 (by decide) ?_
  refine lv_icmp_ge (tgt := 140) hx hb dX18_winner_28 (by first | decide | rfl) (fun c_27 => absurd c_27 (by decide)) (fun c_27 => ?_)
  refine lv_iconst (v := 0) hx hb dX18_winner_31 (by decide) ?_
  refine lv_istore (lv' := [(5, .int 0), (4, .int 0), (3, .int 1), (2, .int 101), (1, .int 1), (6, .ref r_19), (0, .ref mm)]) hx hb dX18_winner_32 hl (by decide) rfl (fun ls hl => ?_)
  refine lv_aload_n hx hb dX18_winner_34 rfl (lv_at hl 6 rfl) ?_
  refine va_get (D := (dC, dI)) (ci := 24) (v := .ref bal) (C := RX18) (T := TX18) (N := 17) hx hb hts (by decide +kernel) hown hK hP 0 rfl rfl 15 (by decide) (hts (.fieldLink RX18 61 "UnderpaintModel" "ballots" "Ljava/util/List;") (by decide +kernel)) (fun _ h9 => h9) rfl dX18_winner_35 ?_
  have hPc := (hP.app hR).sub (ws' := [] ++ [(bal, .inr (5, [.int 0, .ref en.2.2.1, .int 0]))]) [4] rfl
  have hDc := (en_DD hD hDr hN0 hAb).sub (ws' := [] ++ [(bal, .inr (5, [.int 0, .ref en.2.2.1, .int 0]))]) [4] (by decide) rfl
  have hKc := hK.sub (tys' := []) [] rfl
  have hFc := va_free (wc := []) hD hS hA [] rfl
  refine va_callFr (va_runF (As := []) (rest := []) (hK.1 5 _ rfl).2 ⟨hx, hb, hml, hown, hts⟩ (c_iterator l dC dI b0 en H.size bal en.2.2.1 0 0) (va_cwF 0 hts gX18_winner_Jx4a65c_iterator_32c93_f224Jx4a65c rfl rfl rfl (hE.face ("java/util/ArrayList", ⟨"java/util/List", "iterator", "()Ljava/util/Iterator;"⟩, ⟨"java/util/ArrayList", "iterator", "()Ljava/util/Iterator;"⟩) (by decide +kernel)) (by decide +kernel) ⟨Nat.le_of_ble_eq_true rfl, Nat.le_of_ble_eq_true rfl⟩) ⟨cP.blind, va_recv hK hR (ci := 5) (q0 := 0) rfl rfl, cP.use (en_z hb0 hS) (hE.on hAb hS) hPc hKc hDc trivial⟩ rfl rfl hl.1 rfl (lv_room (Nat.le_of_ble_eq_true rfl)) dX18_winner_38 ⟨Nat.le_of_ble_eq_true rfl, Nat.le_of_ble_eq_true rfl⟩) hS (fun q _ h => hFc q h) hFc (fun u r_28 t H1 locs ht hvm hw hB hz1 hk1 hS => ?_)
  obtain ⟨hP1, hK1, hD1, hF1⟩ := hB
  rw [ht] at hP1
  try rw [ht] at hF1
  have hK1 := va_K.moved hvm.symm hK1
  try dsimp only at hw
  obtain ⟨hP, hD⟩ := va_join (wr := [(mm, .inr (24, [.int 0, .ref stu, .ref cla, .ref pic, .ref act, .int 5, .int 50, .ref nts, .ref isn, .int 1600, .ref boa, .ref mas, .ref pai, .ref sol, .int 0, .ref bal, .ref leg])), (r_4, .inr (4, [.int 0, .int (-1), .int 0, .ref bal])), (r_10, .inr (4, [.int 0, .int (-1), .int 0, .ref bal])), (r_19, .inr (4, [.int 0, .int (-1), .int 0, .ref bal]))]) (w1 := [(r_28, .inr (4, [.int 0, .int (-1), .int 0, .ref bal]))]) hP hD [] [0, 1, 2, 3] rfl rfl (by decide) (by decide) hk1 hFc hP1 hD1
  generalize H1 = H at hP hS ⊢
  have hP : va_P (dC, dI) vwCl [(mm, .inr (24, [.int 0, .ref stu, .ref cla, .ref pic, .ref act, .int 5, .int 50, .ref nts, .ref isn, .int 1600, .ref boa, .ref mas, .ref pai, .ref sol, .int 0, .ref bal, .ref leg])), (r_4, .inr (4, [.int 0, .int (-1), .int 0, .ref bal])), (r_10, .inr (4, [.int 0, .int (-1), .int 0, .ref bal])), (r_19, .inr (4, [.int 0, .int (-1), .int 0, .ref bal])), (r_28, .inr (4, [.int 0, .int (-1), .int 0, .ref bal]))] H := hP
  have hD : va_D A [(mm, .inr (24, [.int 0, .ref stu, .ref cla, .ref pic, .ref act, .int 5, .int 50, .ref nts, .ref isn, .int 1600, .ref boa, .ref mas, .ref pai, .ref sol, .int 0, .ref bal, .ref leg])), (r_4, .inr (4, [.int 0, .int (-1), .int 0, .ref bal])), (r_10, .inr (4, [.int 0, .int (-1), .int 0, .ref bal])), (r_19, .inr (4, [.int 0, .int (-1), .int 0, .ref bal])), (r_28, .inr (4, [.int 0, .int (-1), .int 0, .ref bal]))] := hD
  have hR := en_R hR0 hN0 hS
  refine W.widen (k := 4) (n := 16) (Nat.le_of_ble_eq_true rfl) (Nat.le_of_ble_eq_true rfl) ?_
  refine lv_astore (lv' := [(6, .ref r_28), (5, .int 0), (4, .int 0), (3, .int 1), (2, .int 101), (1, .int 1), (0, .ref mm)]) hx hb dX18_winner_43 hl (by decide) rfl (fun ls hl => ?_)
  refine lv_aload hx hb dX18_winner_45 (lv_at hl 0 rfl) ?_
  have hPc := (hP.app hR).sub (ws' := [] ++ [(r_28, .inr (4, [.int 0, .int (-1), .int 0, .ref bal])), (bal, .inr (5, [.int 0, .ref en.2.2.1, .int 0]))]) [4, 5] rfl
  have hDc := (en_DD hD hDr hN0 hAb).sub (ws' := [] ++ [(r_28, .inr (4, [.int 0, .int (-1), .int 0, .ref bal])), (bal, .inr (5, [.int 0, .ref en.2.2.1, .int 0]))]) [4, 5] (by decide) rfl
  have hKc := hK.sub (tys' := []) [] rfl
  have hFc := va_free (wc := []) hD hS hA [] rfl
  refine va_callFi (va_runF (As := []) (rest := []) (hK.1 4 _ rfl).2 ⟨hx, hb, hml, hown, hts⟩ (c_hasNext l dC dI b0 en H.size r_28 bal en.2.2.1 0 0) (va_cwF 0 hts gX18_winner_Jx35411_hasNext_aae02_f228Jx35411 rfl rfl rfl (hE.face ("java/util/ArrayList$Itr", ⟨"java/util/Iterator", "hasNext", "()Z"⟩, ⟨"java/util/ArrayList$Itr", "hasNext", "()Z"⟩) (by decide +kernel)) (by decide +kernel) ⟨Nat.le_of_ble_eq_true rfl, Nat.le_of_ble_eq_true rfl⟩) ⟨cP.blind, va_recv hK hP (ci := 4) (q0 := 4) rfl rfl, cP.use (en_z hb0 hS) (hE.on hAb hS) hPc hKc hDc trivial⟩ rfl rfl hl.1 rfl (lv_room (Nat.le_of_ble_eq_true rfl)) dX18_winner_47 ⟨Nat.le_of_ble_eq_true rfl, Nat.le_of_ble_eq_true rfl⟩) hS (fun q _ h => hFc q h) hFc (fun r_29 u t H1 locs ht hvm hw hB hz1 hk1 hS => ?_)
  have hP1 : va_P (dC, dI) vwCl [] H1 := fun k q h => by simp at h
  have hD1 : va_D (va_A [] H.size) [] := ⟨fun i j p q h => by simp at h, fun k q h => by simp at h⟩
  try dsimp only at hw
  obtain ⟨hP, hD⟩ := va_join (wr := [(mm, .inr (24, [.int 0, .ref stu, .ref cla, .ref pic, .ref act, .int 5, .int 50, .ref nts, .ref isn, .int 1600, .ref boa, .ref mas, .ref pai, .ref sol, .int 0, .ref bal, .ref leg])), (r_4, .inr (4, [.int 0, .int (-1), .int 0, .ref bal])), (r_10, .inr (4, [.int 0, .int (-1), .int 0, .ref bal])), (r_19, .inr (4, [.int 0, .int (-1), .int 0, .ref bal])), (r_28, .inr (4, [.int 0, .int (-1), .int 0, .ref bal]))]) (w1 := []) hP hD [] [0, 1, 2, 3, 4] rfl rfl (by decide) (by decide) hk1 hFc hP1 hD1
  generalize H1 = H at hP hS ⊢
  have hP : va_P (dC, dI) vwCl [(mm, .inr (24, [.int 0, .ref stu, .ref cla, .ref pic, .ref act, .int 5, .int 50, .ref nts, .ref isn, .int 1600, .ref boa, .ref mas, .ref pai, .ref sol, .int 0, .ref bal, .ref leg])), (r_4, .inr (4, [.int 0, .int (-1), .int 0, .ref bal])), (r_10, .inr (4, [.int 0, .int (-1), .int 0, .ref bal])), (r_19, .inr (4, [.int 0, .int (-1), .int 0, .ref bal])), (r_28, .inr (4, [.int 0, .int (-1), .int 0, .ref bal]))] H := hP
  have hD : va_D A [(mm, .inr (24, [.int 0, .ref stu, .ref cla, .ref pic, .ref act, .int 5, .int 50, .ref nts, .ref isn, .int 1600, .ref boa, .ref mas, .ref pai, .ref sol, .int 0, .ref bal, .ref leg])), (r_4, .inr (4, [.int 0, .int (-1), .int 0, .ref bal])), (r_10, .inr (4, [.int 0, .int (-1), .int 0, .ref bal])), (r_19, .inr (4, [.int 0, .int (-1), .int 0, .ref bal])), (r_28, .inr (4, [.int 0, .int (-1), .int 0, .ref bal]))] := hD
  have hR := en_R hR0 hN0 hS
  refine W.widen (k := 4) (n := 16) (Nat.le_of_ble_eq_true rfl) (Nat.le_of_ble_eq_true rfl) ?_
  subst r_29
  refine lv_if_eq (tgt := 102) hx hb dX18_winner_52 (by first | decide | rfl) (fun c_30 => ?_) (fun c_30 => absurd c_30 (by decide))
  refine lv_iload_n hx hb dX18_winner_102 rfl (lv_at hl 3 rfl) ?_
  refine lv_if_eq (tgt := 132) hx hb dX18_winner_103 (by first | decide | rfl) (fun c_31 => absurd c_31 (by decide)) (fun c_31 => ?_)
  refine lv_iload hx hb dX18_winner_106 (lv_at hl 2 rfl) ?_
  refine lv_iload_n hx hb dX18_winner_108 rfl (lv_at hl 5 rfl) ?_
  refine lv_icmp_eq (tgt := 128) hx hb dX18_winner_109 (by first | decide | rfl) (fun c_32 => absurd c_32 (by decide)) (fun c_32 => ?_)
  refine lv_iconst (v := 2) hx hb dX18_winner_112 (by decide) ?_
  refine lv_iload hx hb dX18_winner_113 (lv_at hl 1 rfl) ?_
  refine lv_imul hx hb dX18_winner_115 ?_
  refine lv_topi (fun x_33 ex_33 => ?_)
  obtain rfl : x_33 = 0 := ex_33.trans (by decide)
  refine lv_aload_n hx hb dX18_winner_116 rfl (lv_at hl 6 rfl) ?_
  refine va_get (D := (dC, dI)) (ci := 24) (v := .ref bal) (C := RX18) (T := TX18) (N := 17) hx hb hts (by decide +kernel) hown hK hP 0 rfl rfl 15 (by decide) (hts (.fieldLink RX18 61 "UnderpaintModel" "ballots" "Ljava/util/List;") (by decide +kernel)) (fun _ h9 => h9) rfl dX18_winner_117 ?_
  have hPc := (hP.app hR).sub (ws' := [] ++ [(bal, .inr (5, [.int 0, .ref en.2.2.1, .int 0]))]) [5] rfl
  have hDc := (en_DD hD hDr hN0 hAb).sub (ws' := [] ++ [(bal, .inr (5, [.int 0, .ref en.2.2.1, .int 0]))]) [5] (by decide) rfl
  have hKc := hK.sub (tys' := []) [] rfl
  have hFc := va_free (wc := []) hD hS hA [] rfl
  refine va_callFi (va_runF (As := []) (rest := [.int 0]) (hK.1 5 _ rfl).2 ⟨hx, hb, hml, hown, hts⟩ (c_Jx4a65c_size l dC dI b0 en H.size bal en.2.2.1 0 0) (va_cwF 0 hts gX18_winner_Jx4a65c_size_8abf5_f74Jx4a65c rfl rfl rfl (hE.face ("java/util/ArrayList", ⟨"java/util/List", "size", "()I"⟩, ⟨"java/util/ArrayList", "size", "()I"⟩) (by decide +kernel)) (by decide +kernel) ⟨Nat.le_of_ble_eq_true rfl, Nat.le_of_ble_eq_true rfl⟩) ⟨cP.blind, va_recv hK hR (ci := 5) (q0 := 0) rfl rfl, cP.use (en_z hb0 hS) (hE.on hAb hS) hPc hKc hDc trivial⟩ rfl rfl hl.1 rfl (lv_room (Nat.le_of_ble_eq_true rfl)) dX18_winner_120 ⟨Nat.le_of_ble_eq_true rfl, Nat.le_of_ble_eq_true rfl⟩) hS (fun q _ h => hFc q h) hFc (fun r_34 u t H1 locs ht hvm hw hB hz1 hk1 hS => ?_)
  have hP1 : va_P (dC, dI) vwCl [] H1 := fun k q h => by simp at h
  have hD1 : va_D (va_A [] H.size) [] := ⟨fun i j p q h => by simp at h, fun k q h => by simp at h⟩
  try dsimp only at hw
  obtain ⟨hP, hD⟩ := va_join (wr := [(mm, .inr (24, [.int 0, .ref stu, .ref cla, .ref pic, .ref act, .int 5, .int 50, .ref nts, .ref isn, .int 1600, .ref boa, .ref mas, .ref pai, .ref sol, .int 0, .ref bal, .ref leg])), (r_4, .inr (4, [.int 0, .int (-1), .int 0, .ref bal])), (r_10, .inr (4, [.int 0, .int (-1), .int 0, .ref bal])), (r_19, .inr (4, [.int 0, .int (-1), .int 0, .ref bal])), (r_28, .inr (4, [.int 0, .int (-1), .int 0, .ref bal]))]) (w1 := []) hP hD [] [0, 1, 2, 3, 4] rfl rfl (by decide) (by decide) hk1 hFc hP1 hD1
  generalize H1 = H at hP hS ⊢
  have hP : va_P (dC, dI) vwCl [(mm, .inr (24, [.int 0, .ref stu, .ref cla, .ref pic, .ref act, .int 5, .int 50, .ref nts, .ref isn, .int 1600, .ref boa, .ref mas, .ref pai, .ref sol, .int 0, .ref bal, .ref leg])), (r_4, .inr (4, [.int 0, .int (-1), .int 0, .ref bal])), (r_10, .inr (4, [.int 0, .int (-1), .int 0, .ref bal])), (r_19, .inr (4, [.int 0, .int (-1), .int 0, .ref bal])), (r_28, .inr (4, [.int 0, .int (-1), .int 0, .ref bal]))] H := hP
  have hD : va_D A [(mm, .inr (24, [.int 0, .ref stu, .ref cla, .ref pic, .ref act, .int 5, .int 50, .ref nts, .ref isn, .int 1600, .ref boa, .ref mas, .ref pai, .ref sol, .int 0, .ref bal, .ref leg])), (r_4, .inr (4, [.int 0, .int (-1), .int 0, .ref bal])), (r_10, .inr (4, [.int 0, .int (-1), .int 0, .ref bal])), (r_19, .inr (4, [.int 0, .int (-1), .int 0, .ref bal])), (r_28, .inr (4, [.int 0, .int (-1), .int 0, .ref bal]))] := hD
  have hR := en_R hR0 hN0 hS
  refine W.widen (k := 4) (n := 16) (Nat.le_of_ble_eq_true rfl) (Nat.le_of_ble_eq_true rfl) ?_
  subst r_34
  refine lv_icmp_le (tgt := 132) hx hb dX18_winner_125 (by first | decide | rfl) (fun c_35 => ?_) (fun c_35 => absurd c_35 (by decide))
  refine lv_iconst (v := 0) hx hb dX18_winner_132 (by decide) ?_
  refine lv_istore_n (lv' := [(3, .int 0), (6, .ref r_28), (5, .int 0), (4, .int 0), (2, .int 101), (1, .int 1), (0, .ref mm)]) hx hb dX18_winner_133 rfl hl (by decide) rfl (fun ls hl => ?_)
  refine lv_iinc (v := 1) (lv' := [(4, .int 1), (3, .int 0), (6, .ref r_28), (5, .int 0), (2, .int 101), (1, .int 1), (0, .ref mm)]) hx hb dX18_winner_134 hl (k := 3) rfl (by decide) (by decide) rfl (fun ls hl => ?_)
  refine lv_goto (tgt := 25) hx hb dX18_winner_137 (by first | decide | rfl) ?_
  refine lv_iload hx hb dX18_winner_25 (lv_at hl 0 rfl) ?_
  refine lv_iconst (v := 3) hx hb dX18_winner_27 (by decide) ?_
  refine lv_icmp_ge (tgt := 140) hx hb dX18_winner_28 (by first | decide | rfl) (fun c_36 => absurd c_36 (by decide)) (fun c_36 => ?_)
  refine lv_iconst (v := 0) hx hb dX18_winner_31 (by decide) ?_
  refine lv_istore (lv' := [(5, .int 0), (4, .int 1), (3, .int 0), (6, .ref r_28), (2, .int 101), (1, .int 1), (0, .ref mm)]) hx hb dX18_winner_32 hl (by decide) rfl (fun ls hl => ?_)
  refine lv_aload_n hx hb dX18_winner_34 rfl (lv_at hl 6 rfl) ?_
  refine va_get (D := (dC, dI)) (ci := 24) (v := .ref bal) (C := RX18) (T := TX18) (N := 17) hx hb hts (by decide +kernel) hown hK hP 0 rfl rfl 15 (by decide) (hts (.fieldLink RX18 61 "UnderpaintModel" "ballots" "Ljava/util/List;") (by decide +kernel)) (fun _ h9 => h9) rfl dX18_winner_35 ?_
  have hPc := (hP.app hR).sub (ws' := [] ++ [(bal, .inr (5, [.int 0, .ref en.2.2.1, .int 0]))]) [5] rfl
  have hDc := (en_DD hD hDr hN0 hAb).sub (ws' := [] ++ [(bal, .inr (5, [.int 0, .ref en.2.2.1, .int 0]))]) [5] (by decide) rfl
  have hKc := hK.sub (tys' := []) [] rfl
  have hFc := va_free (wc := []) hD hS hA [] rfl
  refine va_callFr (va_runF (As := []) (rest := []) (hK.1 5 _ rfl).2 ⟨hx, hb, hml, hown, hts⟩ (c_iterator l dC dI b0 en H.size bal en.2.2.1 0 0) (va_cwF 0 hts gX18_winner_Jx4a65c_iterator_32c93_f224Jx4a65c rfl rfl rfl (hE.face ("java/util/ArrayList", ⟨"java/util/List", "iterator", "()Ljava/util/Iterator;"⟩, ⟨"java/util/ArrayList", "iterator", "()Ljava/util/Iterator;"⟩) (by decide +kernel)) (by decide +kernel) ⟨Nat.le_of_ble_eq_true rfl, Nat.le_of_ble_eq_true rfl⟩) ⟨cP.blind, va_recv hK hR (ci := 5) (q0 := 0) rfl rfl, cP.use (en_z hb0 hS) (hE.on hAb hS) hPc hKc hDc trivial⟩ rfl rfl hl.1 rfl (lv_room (Nat.le_of_ble_eq_true rfl)) dX18_winner_38 ⟨Nat.le_of_ble_eq_true rfl, Nat.le_of_ble_eq_true rfl⟩) hS (fun q _ h => hFc q h) hFc (fun u r_37 t H1 locs ht hvm hw hB hz1 hk1 hS => ?_)
  obtain ⟨hP1, hK1, hD1, hF1⟩ := hB
  rw [ht] at hP1
  try rw [ht] at hF1
  have hK1 := va_K.moved hvm.symm hK1
  try dsimp only at hw
  obtain ⟨hP, hD⟩ := va_join (wr := [(mm, .inr (24, [.int 0, .ref stu, .ref cla, .ref pic, .ref act, .int 5, .int 50, .ref nts, .ref isn, .int 1600, .ref boa, .ref mas, .ref pai, .ref sol, .int 0, .ref bal, .ref leg])), (r_4, .inr (4, [.int 0, .int (-1), .int 0, .ref bal])), (r_10, .inr (4, [.int 0, .int (-1), .int 0, .ref bal])), (r_19, .inr (4, [.int 0, .int (-1), .int 0, .ref bal])), (r_28, .inr (4, [.int 0, .int (-1), .int 0, .ref bal]))]) (w1 := [(r_37, .inr (4, [.int 0, .int (-1), .int 0, .ref bal]))]) hP hD [] [0, 1, 2, 3, 4] rfl rfl (by decide) (by decide) hk1 hFc hP1 hD1
  generalize H1 = H at hP hS ⊢
  have hP : va_P (dC, dI) vwCl [(mm, .inr (24, [.int 0, .ref stu, .ref cla, .ref pic, .ref act, .int 5, .int 50, .ref nts, .ref isn, .int 1600, .ref boa, .ref mas, .ref pai, .ref sol, .int 0, .ref bal, .ref leg])), (r_4, .inr (4, [.int 0, .int (-1), .int 0, .ref bal])), (r_10, .inr (4, [.int 0, .int (-1), .int 0, .ref bal])), (r_19, .inr (4, [.int 0, .int (-1), .int 0, .ref bal])), (r_28, .inr (4, [.int 0, .int (-1), .int 0, .ref bal])), (r_37, .inr (4, [.int 0, .int (-1), .int 0, .ref bal]))] H := hP
  have hD : va_D A [(mm, .inr (24, [.int 0, .ref stu, .ref cla, .ref pic, .ref act, .int 5, .int 50, .ref nts, .ref isn, .int 1600, .ref boa, .ref mas, .ref pai, .ref sol, .int 0, .ref bal, .ref leg])), (r_4, .inr (4, [.int 0, .int (-1), .int 0, .ref bal])), (r_10, .inr (4, [.int 0, .int (-1), .int 0, .ref bal])), (r_19, .inr (4, [.int 0, .int (-1), .int 0, .ref bal])), (r_28, .inr (4, [.int 0, .int (-1), .int 0, .ref bal])), (r_37, .inr (4, [.int 0, .int (-1), .int 0, .ref bal]))] := hD
  have hR := en_R hR0 hN0 hS
  refine W.widen (k := 5) (n := 20) (Nat.le_of_ble_eq_true rfl) (Nat.le_of_ble_eq_true rfl) ?_
  refine lv_astore (lv' := [(6, .ref r_37), (5, .int 0), (4, .int 1), (3, .int 0), (2, .int 101), (1, .int 1), (0, .ref mm)]) hx hb dX18_winner_43 hl (by decide) rfl (fun ls hl => ?_)
  refine lv_aload hx hb dX18_winner_45 (lv_at hl 0 rfl) ?_
  have hPc := (hP.app hR).sub (ws' := [] ++ [(r_37, .inr (4, [.int 0, .int (-1), .int 0, .ref bal])), (bal, .inr (5, [.int 0, .ref en.2.2.1, .int 0]))]) [5, 6] rfl
  have hDc := (en_DD hD hDr hN0 hAb).sub (ws' := [] ++ [(r_37, .inr (4, [.int 0, .int (-1), .int 0, .ref bal])), (bal, .inr (5, [.int 0, .ref en.2.2.1, .int 0]))]) [5, 6] (by decide) rfl
  have hKc := hK.sub (tys' := []) [] rfl
  have hFc := va_free (wc := []) hD hS hA [] rfl
  refine va_callFi (va_runF (As := []) (rest := []) (hK.1 4 _ rfl).2 ⟨hx, hb, hml, hown, hts⟩ (c_hasNext l dC dI b0 en H.size r_37 bal en.2.2.1 0 0) (va_cwF 0 hts gX18_winner_Jx35411_hasNext_aae02_f228Jx35411 rfl rfl rfl (hE.face ("java/util/ArrayList$Itr", ⟨"java/util/Iterator", "hasNext", "()Z"⟩, ⟨"java/util/ArrayList$Itr", "hasNext", "()Z"⟩) (by decide +kernel)) (by decide +kernel) ⟨Nat.le_of_ble_eq_true rfl, Nat.le_of_ble_eq_true rfl⟩) ⟨cP.blind, va_recv hK hP (ci := 4) (q0 := 5) rfl rfl, cP.use (en_z hb0 hS) (hE.on hAb hS) hPc hKc hDc trivial⟩ rfl rfl hl.1 rfl (lv_room (Nat.le_of_ble_eq_true rfl)) dX18_winner_47 ⟨Nat.le_of_ble_eq_true rfl, Nat.le_of_ble_eq_true rfl⟩) hS (fun q _ h => hFc q h) hFc (fun r_38 u t H1 locs ht hvm hw hB hz1 hk1 hS => ?_)
  have hP1 : va_P (dC, dI) vwCl [] H1 := fun k q h => by simp at h
  have hD1 : va_D (va_A [] H.size) [] := ⟨fun i j p q h => by simp at h, fun k q h => by simp at h⟩
  try dsimp only at hw
  obtain ⟨hP, hD⟩ := va_join (wr := [(mm, .inr (24, [.int 0, .ref stu, .ref cla, .ref pic, .ref act, .int 5, .int 50, .ref nts, .ref isn, .int 1600, .ref boa, .ref mas, .ref pai, .ref sol, .int 0, .ref bal, .ref leg])), (r_4, .inr (4, [.int 0, .int (-1), .int 0, .ref bal])), (r_10, .inr (4, [.int 0, .int (-1), .int 0, .ref bal])), (r_19, .inr (4, [.int 0, .int (-1), .int 0, .ref bal])), (r_28, .inr (4, [.int 0, .int (-1), .int 0, .ref bal])), (r_37, .inr (4, [.int 0, .int (-1), .int 0, .ref bal]))]) (w1 := []) hP hD [] [0, 1, 2, 3, 4, 5] rfl rfl (by decide) (by decide) hk1 hFc hP1 hD1
  generalize H1 = H at hP hS ⊢
  have hP : va_P (dC, dI) vwCl [(mm, .inr (24, [.int 0, .ref stu, .ref cla, .ref pic, .ref act, .int 5, .int 50, .ref nts, .ref isn, .int 1600, .ref boa, .ref mas, .ref pai, .ref sol, .int 0, .ref bal, .ref leg])), (r_4, .inr (4, [.int 0, .int (-1), .int 0, .ref bal])), (r_10, .inr (4, [.int 0, .int (-1), .int 0, .ref bal])), (r_19, .inr (4, [.int 0, .int (-1), .int 0, .ref bal])), (r_28, .inr (4, [.int 0, .int (-1), .int 0, .ref bal])), (r_37, .inr (4, [.int 0, .int (-1), .int 0, .ref bal]))] H := hP
  have hD : va_D A [(mm, .inr (24, [.int 0, .ref stu, .ref cla, .ref pic, .ref act, .int 5, .int 50, .ref nts, .ref isn, .int 1600, .ref boa, .ref mas, .ref pai, .ref sol, .int 0, .ref bal, .ref leg])), (r_4, .inr (4, [.int 0, .int (-1), .int 0, .ref bal])), (r_10, .inr (4, [.int 0, .int (-1), .int 0, .ref bal])), (r_19, .inr (4, [.int 0, .int (-1), .int 0, .ref bal])), (r_28, .inr (4, [.int 0, .int (-1), .int 0, .ref bal])), (r_37, .inr (4, [.int 0, .int (-1), .int 0, .ref bal]))] := hD
  have hR := en_R hR0 hN0 hS
  refine W.widen (k := 5) (n := 20) (Nat.le_of_ble_eq_true rfl) (Nat.le_of_ble_eq_true rfl) ?_
  subst r_38
  refine lv_if_eq (tgt := 102) hx hb dX18_winner_52 (by first | decide | rfl) (fun c_39 => ?_) (fun c_39 => absurd c_39 (by decide))
  refine lv_iload_n hx hb dX18_winner_102 rfl (lv_at hl 3 rfl) ?_
  refine lv_if_eq (tgt := 132) hx hb dX18_winner_103 (by first | decide | rfl) (fun c_40 => ?_) (fun c_40 => absurd c_40 (by decide))
  refine lv_iconst (v := 0) hx hb dX18_winner_132 (by decide) ?_
  refine lv_istore_n (lv' := [(3, .int 0), (6, .ref r_37), (5, .int 0), (4, .int 1), (2, .int 101), (1, .int 1), (0, .ref mm)]) hx hb dX18_winner_133 rfl hl (by decide) rfl (fun ls hl => ?_)
  refine lv_iinc (v := 2) (lv' := [(4, .int 2), (3, .int 0), (6, .ref r_37), (5, .int 0), (2, .int 101), (1, .int 1), (0, .ref mm)]) hx hb dX18_winner_134 hl (k := 3) rfl (by decide) (by decide) rfl (fun ls hl => ?_)
  refine lv_goto (tgt := 25) hx hb dX18_winner_137 (by first | decide | rfl) ?_
  refine lv_iload hx hb dX18_winner_25 (lv_at hl 0 rfl) ?_
  refine lv_iconst (v := 3) hx hb dX18_winner_27 (by decide) ?_
  refine lv_icmp_ge (tgt := 140) hx hb dX18_winner_28 (by first | decide | rfl) (fun c_41 => absurd c_41 (by decide)) (fun c_41 => ?_)
  refine lv_iconst (v := 0) hx hb dX18_winner_31 (by decide) ?_
  refine lv_istore (lv' := [(5, .int 0), (4, .int 2), (3, .int 0), (6, .ref r_37), (2, .int 101), (1, .int 1), (0, .ref mm)]) hx hb dX18_winner_32 hl (by decide) rfl (fun ls hl => ?_)
  refine lv_aload_n hx hb dX18_winner_34 rfl (lv_at hl 6 rfl) ?_
  refine va_get (D := (dC, dI)) (ci := 24) (v := .ref bal) (C := RX18) (T := TX18) (N := 17) hx hb hts (by decide +kernel) hown hK hP 0 rfl rfl 15 (by decide) (hts (.fieldLink RX18 61 "UnderpaintModel" "ballots" "Ljava/util/List;") (by decide +kernel)) (fun _ h9 => h9) rfl dX18_winner_35 ?_
  have hPc := (hP.app hR).sub (ws' := [] ++ [(bal, .inr (5, [.int 0, .ref en.2.2.1, .int 0]))]) [6] rfl
  have hDc := (en_DD hD hDr hN0 hAb).sub (ws' := [] ++ [(bal, .inr (5, [.int 0, .ref en.2.2.1, .int 0]))]) [6] (by decide) rfl
  have hKc := hK.sub (tys' := []) [] rfl
  have hFc := va_free (wc := []) hD hS hA [] rfl
  refine va_callFr (va_runF (As := []) (rest := []) (hK.1 5 _ rfl).2 ⟨hx, hb, hml, hown, hts⟩ (c_iterator l dC dI b0 en H.size bal en.2.2.1 0 0) (va_cwF 0 hts gX18_winner_Jx4a65c_iterator_32c93_f224Jx4a65c rfl rfl rfl (hE.face ("java/util/ArrayList", ⟨"java/util/List", "iterator", "()Ljava/util/Iterator;"⟩, ⟨"java/util/ArrayList", "iterator", "()Ljava/util/Iterator;"⟩) (by decide +kernel)) (by decide +kernel) ⟨Nat.le_of_ble_eq_true rfl, Nat.le_of_ble_eq_true rfl⟩) ⟨cP.blind, va_recv hK hR (ci := 5) (q0 := 0) rfl rfl, cP.use (en_z hb0 hS) (hE.on hAb hS) hPc hKc hDc trivial⟩ rfl rfl hl.1 rfl (lv_room (Nat.le_of_ble_eq_true rfl)) dX18_winner_38 ⟨Nat.le_of_ble_eq_true rfl, Nat.le_of_ble_eq_true rfl⟩) hS (fun q _ h => hFc q h) hFc (fun u r_42 t H1 locs ht hvm hw hB hz1 hk1 hS => ?_)
  obtain ⟨hP1, hK1, hD1, hF1⟩ := hB
  rw [ht] at hP1
  try rw [ht] at hF1
  have hK1 := va_K.moved hvm.symm hK1
  try dsimp only at hw
  obtain ⟨hP, hD⟩ := va_join (wr := [(mm, .inr (24, [.int 0, .ref stu, .ref cla, .ref pic, .ref act, .int 5, .int 50, .ref nts, .ref isn, .int 1600, .ref boa, .ref mas, .ref pai, .ref sol, .int 0, .ref bal, .ref leg])), (r_4, .inr (4, [.int 0, .int (-1), .int 0, .ref bal])), (r_10, .inr (4, [.int 0, .int (-1), .int 0, .ref bal])), (r_19, .inr (4, [.int 0, .int (-1), .int 0, .ref bal])), (r_28, .inr (4, [.int 0, .int (-1), .int 0, .ref bal])), (r_37, .inr (4, [.int 0, .int (-1), .int 0, .ref bal]))]) (w1 := [(r_42, .inr (4, [.int 0, .int (-1), .int 0, .ref bal]))]) hP hD [] [0, 1, 2, 3, 4, 5] rfl rfl (by decide) (by decide) hk1 hFc hP1 hD1
  generalize H1 = H at hP hS ⊢
  have hP : va_P (dC, dI) vwCl [(mm, .inr (24, [.int 0, .ref stu, .ref cla, .ref pic, .ref act, .int 5, .int 50, .ref nts, .ref isn, .int 1600, .ref boa, .ref mas, .ref pai, .ref sol, .int 0, .ref bal, .ref leg])), (r_4, .inr (4, [.int 0, .int (-1), .int 0, .ref bal])), (r_10, .inr (4, [.int 0, .int (-1), .int 0, .ref bal])), (r_19, .inr (4, [.int 0, .int (-1), .int 0, .ref bal])), (r_28, .inr (4, [.int 0, .int (-1), .int 0, .ref bal])), (r_37, .inr (4, [.int 0, .int (-1), .int 0, .ref bal])), (r_42, .inr (4, [.int 0, .int (-1), .int 0, .ref bal]))] H := hP
  have hD : va_D A [(mm, .inr (24, [.int 0, .ref stu, .ref cla, .ref pic, .ref act, .int 5, .int 50, .ref nts, .ref isn, .int 1600, .ref boa, .ref mas, .ref pai, .ref sol, .int 0, .ref bal, .ref leg])), (r_4, .inr (4, [.int 0, .int (-1), .int 0, .ref bal])), (r_10, .inr (4, [.int 0, .int (-1), .int 0, .ref bal])), (r_19, .inr (4, [.int 0, .int (-1), .int 0, .ref bal])), (r_28, .inr (4, [.int 0, .int (-1), .int 0, .ref bal])), (r_37, .inr (4, [.int 0, .int (-1), .int 0, .ref bal])), (r_42, .inr (4, [.int 0, .int (-1), .int 0, .ref bal]))] := hD
  have hR := en_R hR0 hN0 hS
  refine W.widen (k := 6) (n := 24) (Nat.le_of_ble_eq_true rfl) (Nat.le_of_ble_eq_true rfl) ?_
  refine lv_astore (lv' := [(6, .ref r_42), (5, .int 0), (4, .int 2), (3, .int 0), (2, .int 101), (1, .int 1), (0, .ref mm)]) hx hb dX18_winner_43 hl (by decide) rfl (fun ls hl => ?_)
  refine lv_aload hx hb dX18_winner_45 (lv_at hl 0 rfl) ?_
  have hPc := (hP.app hR).sub (ws' := [] ++ [(r_42, .inr (4, [.int 0, .int (-1), .int 0, .ref bal])), (bal, .inr (5, [.int 0, .ref en.2.2.1, .int 0]))]) [6, 7] rfl
  have hDc := (en_DD hD hDr hN0 hAb).sub (ws' := [] ++ [(r_42, .inr (4, [.int 0, .int (-1), .int 0, .ref bal])), (bal, .inr (5, [.int 0, .ref en.2.2.1, .int 0]))]) [6, 7] (by decide) rfl
  have hKc := hK.sub (tys' := []) [] rfl
  have hFc := va_free (wc := []) hD hS hA [] rfl
  refine va_callFi (va_runF (As := []) (rest := []) (hK.1 4 _ rfl).2 ⟨hx, hb, hml, hown, hts⟩ (c_hasNext l dC dI b0 en H.size r_42 bal en.2.2.1 0 0) (va_cwF 0 hts gX18_winner_Jx35411_hasNext_aae02_f228Jx35411 rfl rfl rfl (hE.face ("java/util/ArrayList$Itr", ⟨"java/util/Iterator", "hasNext", "()Z"⟩, ⟨"java/util/ArrayList$Itr", "hasNext", "()Z"⟩) (by decide +kernel)) (by decide +kernel) ⟨Nat.le_of_ble_eq_true rfl, Nat.le_of_ble_eq_true rfl⟩) ⟨cP.blind, va_recv hK hP (ci := 4) (q0 := 6) rfl rfl, cP.use (en_z hb0 hS) (hE.on hAb hS) hPc hKc hDc trivial⟩ rfl rfl hl.1 rfl (lv_room (Nat.le_of_ble_eq_true rfl)) dX18_winner_47 ⟨Nat.le_of_ble_eq_true rfl, Nat.le_of_ble_eq_true rfl⟩) hS (fun q _ h => hFc q h) hFc (fun r_43 u t H1 locs ht hvm hw hB hz1 hk1 hS => ?_)
  have hP1 : va_P (dC, dI) vwCl [] H1 := fun k q h => by simp at h
  have hD1 : va_D (va_A [] H.size) [] := ⟨fun i j p q h => by simp at h, fun k q h => by simp at h⟩
  try dsimp only at hw
  obtain ⟨hP, hD⟩ := va_join (wr := [(mm, .inr (24, [.int 0, .ref stu, .ref cla, .ref pic, .ref act, .int 5, .int 50, .ref nts, .ref isn, .int 1600, .ref boa, .ref mas, .ref pai, .ref sol, .int 0, .ref bal, .ref leg])), (r_4, .inr (4, [.int 0, .int (-1), .int 0, .ref bal])), (r_10, .inr (4, [.int 0, .int (-1), .int 0, .ref bal])), (r_19, .inr (4, [.int 0, .int (-1), .int 0, .ref bal])), (r_28, .inr (4, [.int 0, .int (-1), .int 0, .ref bal])), (r_37, .inr (4, [.int 0, .int (-1), .int 0, .ref bal])), (r_42, .inr (4, [.int 0, .int (-1), .int 0, .ref bal]))]) (w1 := []) hP hD [] [0, 1, 2, 3, 4, 5, 6] rfl rfl (by decide) (by decide) hk1 hFc hP1 hD1
  generalize H1 = H at hP hS ⊢
  have hP : va_P (dC, dI) vwCl [(mm, .inr (24, [.int 0, .ref stu, .ref cla, .ref pic, .ref act, .int 5, .int 50, .ref nts, .ref isn, .int 1600, .ref boa, .ref mas, .ref pai, .ref sol, .int 0, .ref bal, .ref leg])), (r_4, .inr (4, [.int 0, .int (-1), .int 0, .ref bal])), (r_10, .inr (4, [.int 0, .int (-1), .int 0, .ref bal])), (r_19, .inr (4, [.int 0, .int (-1), .int 0, .ref bal])), (r_28, .inr (4, [.int 0, .int (-1), .int 0, .ref bal])), (r_37, .inr (4, [.int 0, .int (-1), .int 0, .ref bal])), (r_42, .inr (4, [.int 0, .int (-1), .int 0, .ref bal]))] H := hP
  have hD : va_D A [(mm, .inr (24, [.int 0, .ref stu, .ref cla, .ref pic, .ref act, .int 5, .int 50, .ref nts, .ref isn, .int 1600, .ref boa, .ref mas, .ref pai, .ref sol, .int 0, .ref bal, .ref leg])), (r_4, .inr (4, [.int 0, .int (-1), .int 0, .ref bal])), (r_10, .inr (4, [.int 0, .int (-1), .int 0, .ref bal])), (r_19, .inr (4, [.int 0, .int (-1), .int 0, .ref bal])), (r_28, .inr (4, [.int 0, .int (-1), .int 0, .ref bal])), (r_37, .inr (4, [.int 0, .int (-1), .int 0, .ref bal])), (r_42, .inr (4, [.int 0, .int (-1), .int 0, .ref bal]))] := hD
  have hR := en_R hR0 hN0 hS
  refine W.widen (k := 6) (n := 24) (Nat.le_of_ble_eq_true rfl) (Nat.le_of_ble_eq_true rfl) ?_
  subst r_43
  refine lv_if_eq (tgt := 102) hx hb dX18_winner_52 (by first | decide | rfl) (fun c_44 => ?_) (fun c_44 => absurd c_44 (by decide))
  refine lv_iload_n hx hb dX18_winner_102 rfl (lv_at hl 3 rfl) ?_
  refine lv_if_eq (tgt := 132) hx hb dX18_winner_103 (by first | decide | rfl) (fun c_45 => ?_) (fun c_45 => absurd c_45 (by decide))
  refine lv_iconst (v := 0) hx hb dX18_winner_132 (by decide) ?_
  refine lv_istore_n (lv' := [(3, .int 0), (6, .ref r_42), (5, .int 0), (4, .int 2), (2, .int 101), (1, .int 1), (0, .ref mm)]) hx hb dX18_winner_133 rfl hl (by decide) rfl (fun ls hl => ?_)
  refine lv_iinc (v := 3) (lv' := [(4, .int 3), (3, .int 0), (6, .ref r_42), (5, .int 0), (2, .int 101), (1, .int 1), (0, .ref mm)]) hx hb dX18_winner_134 hl (k := 3) rfl (by decide) (by decide) rfl (fun ls hl => ?_)
  refine lv_goto (tgt := 25) hx hb dX18_winner_137 (by first | decide | rfl) ?_
  refine lv_iload hx hb dX18_winner_25 (lv_at hl 0 rfl) ?_
  refine lv_iconst (v := 3) hx hb dX18_winner_27 (by decide) ?_
  refine lv_icmp_ge (tgt := 140) hx hb dX18_winner_28 (by first | decide | rfl) (fun c_46 => ?_) (fun c_46 => absurd c_46 (by decide))
  refine lv_iload_n hx hb dX18_winner_140 rfl (lv_at hl 1 rfl) ?_
  refine lv_if_eq (tgt := 146) hx hb dX18_winner_141 (by first | decide | rfl) (fun c_47 => ?_) (fun c_47 => absurd c_47 (by decide))
  refine lv_iinc (v := 2) (lv' := [(1, .int 2), (4, .int 3), (3, .int 0), (6, .ref r_42), (5, .int 0), (2, .int 101), (0, .ref mm)]) hx hb dX18_winner_146 hl (k := 5) rfl (by decide) (by decide) rfl (fun ls hl => ?_)
  refine lv_goto (tgt := 7) hx hb dX18_winner_149 (by first | decide | rfl) ?_
  refine lv_iload_n hx hb dX18_winner_7 rfl (lv_at hl 0 rfl) ?_
  refine lv_iconst (v := 3) hx hb dX18_winner_8 (by decide) ?_
  refine lv_icmp_ge (tgt := 152) hx hb dX18_winner_9 (by first | decide | rfl) (fun c_48 => absurd c_48 (by decide)) (fun c_48 => ?_)
  refine va_ldcSW hx hb hown (hE.ldc (2, "UnderpaintModel", 301, "leh") (by decide +kernel)) dX18_winner_12 ?_
  refine lv_iload_n hx hb dX18_winner_15 rfl (lv_at hl 0 rfl) ?_
  refine lv_topv (w := .int (nI 2)) rfl ?_
  have hPc := (hP.app hR).sub (ws' := [] ++ []) [] rfl
  have hDc := (en_DD hD hDr hN0 hAb).sub (ws' := [] ++ []) [] (by decide) rfl
  have hKc := hK.sub (tys' := []) [] rfl
  have hFc := va_free (wc := []) hD hS hA [] rfl
  refine va_calli (va_runV (As := [.int (nI 2)]) (rest := []) ⟨hx, hb, hml, hown, hts⟩ (c_J0_charAt l dC dI b0 en H.size 2 2 (by decide) (by decide)) (cwV 1 hts gX18_winner_J0_charAt_5068e rfl rfl rfl (by decide +kernel) ⟨Nat.le_of_ble_eq_true rfl, Nat.le_of_ble_eq_true rfl⟩) ⟨cP.blind, (en_recv (hE.lit hAb 2 (by decide)).1 hS), cP.use (en_z hb0 hS) (hE.on hAb hS) hPc hKc hDc trivial⟩ rfl rfl hl.1 rfl (lv_room (Nat.le_of_ble_eq_true rfl)) dX18_winner_16 ⟨Nat.le_of_ble_eq_true rfl, Nat.le_of_ble_eq_true rfl⟩) hS (fun q _ h => hFc q h) hFc (fun r_49 u t H1 locs ht hvm hw hB hz1 hk1 hS => ?_)
  have hP1 : va_P (dC, dI) vwCl [] H1 := fun k q h => by simp at h
  have hD1 : va_D (va_A [] H.size) [] := ⟨fun i j p q h => by simp at h, fun k q h => by simp at h⟩
  try dsimp only at hw
  obtain ⟨hP, hD⟩ := va_join (wr := [(mm, .inr (24, [.int 0, .ref stu, .ref cla, .ref pic, .ref act, .int 5, .int 50, .ref nts, .ref isn, .int 1600, .ref boa, .ref mas, .ref pai, .ref sol, .int 0, .ref bal, .ref leg])), (r_4, .inr (4, [.int 0, .int (-1), .int 0, .ref bal])), (r_10, .inr (4, [.int 0, .int (-1), .int 0, .ref bal])), (r_19, .inr (4, [.int 0, .int (-1), .int 0, .ref bal])), (r_28, .inr (4, [.int 0, .int (-1), .int 0, .ref bal])), (r_37, .inr (4, [.int 0, .int (-1), .int 0, .ref bal])), (r_42, .inr (4, [.int 0, .int (-1), .int 0, .ref bal]))]) (w1 := []) hP hD [] [0, 1, 2, 3, 4, 5, 6] rfl rfl (by decide) (by decide) hk1 hFc hP1 hD1
  generalize H1 = H at hP hS ⊢
  have hP : va_P (dC, dI) vwCl [(mm, .inr (24, [.int 0, .ref stu, .ref cla, .ref pic, .ref act, .int 5, .int 50, .ref nts, .ref isn, .int 1600, .ref boa, .ref mas, .ref pai, .ref sol, .int 0, .ref bal, .ref leg])), (r_4, .inr (4, [.int 0, .int (-1), .int 0, .ref bal])), (r_10, .inr (4, [.int 0, .int (-1), .int 0, .ref bal])), (r_19, .inr (4, [.int 0, .int (-1), .int 0, .ref bal])), (r_28, .inr (4, [.int 0, .int (-1), .int 0, .ref bal])), (r_37, .inr (4, [.int 0, .int (-1), .int 0, .ref bal])), (r_42, .inr (4, [.int 0, .int (-1), .int 0, .ref bal]))] H := hP
  have hD : va_D A [(mm, .inr (24, [.int 0, .ref stu, .ref cla, .ref pic, .ref act, .int 5, .int 50, .ref nts, .ref isn, .int 1600, .ref boa, .ref mas, .ref pai, .ref sol, .int 0, .ref bal, .ref leg])), (r_4, .inr (4, [.int 0, .int (-1), .int 0, .ref bal])), (r_10, .inr (4, [.int 0, .int (-1), .int 0, .ref bal])), (r_19, .inr (4, [.int 0, .int (-1), .int 0, .ref bal])), (r_28, .inr (4, [.int 0, .int (-1), .int 0, .ref bal])), (r_37, .inr (4, [.int 0, .int (-1), .int 0, .ref bal])), (r_42, .inr (4, [.int 0, .int (-1), .int 0, .ref bal]))] := hD
  have hR := en_R hR0 hN0 hS
  refine W.widen (k := 6) (n := 24) (Nat.le_of_ble_eq_true rfl) (Nat.le_of_ble_eq_true rfl) ?_
  subst r_49
  refine lv_topv (w := .int 104) rfl ?_
  refine lv_istore_n (lv' := [(2, .int 104), (1, .int 2), (4, .int 3), (3, .int 0), (6, .ref r_42), (5, .int 0), (0, .ref mm)]) hx hb dX18_winner_19 rfl hl (by decide) rfl (fun ls hl => ?_)
  refine lv_iconst (v := 1) hx hb dX18_winner_20 (by decide) ?_
  refine lv_istore_n (lv' := [(3, .int 1), (2, .int 104), (1, .int 2), (4, .int 3), (6, .ref r_42), (5, .int 0), (0, .ref mm)]) hx hb dX18_winner_21 rfl hl (by decide) rfl (fun ls hl => ?_)
  refine lv_iconst (v := 0) hx hb dX18_winner_22 (by decide) ?_
  refine lv_istore (lv' := [(4, .int 0), (3, .int 1), (2, .int 104), (1, .int 2), (6, .ref r_42), (5, .int 0), (0, .ref mm)]) hx hb dX18_winner_23 hl (by decide) rfl (fun ls hl => ?_)
  refine lv_iload hx hb dX18_winner_25 (lv_at hl 0 rfl) ?_
  refine lv_iconst (v := 3) hx hb dX18_winner_27 (by decide) ?_
  refine lv_icmp_ge (tgt := 140) hx hb dX18_winner_28 (by first | decide | rfl) (fun c_50 => absurd c_50 (by decide)) (fun c_50 => ?_)
  refine lv_iconst (v := 0) hx hb dX18_winner_31 (by decide) ?_
  refine lv_istore (lv' := [(5, .int 0), (4, .int 0), (3, .int 1), (2, .int 104), (1, .int 2), (6, .ref r_42), (0, .ref mm)]) hx hb dX18_winner_32 hl (by decide) rfl (fun ls hl => ?_)
  refine lv_aload_n hx hb dX18_winner_34 rfl (lv_at hl 6 rfl) ?_
  refine va_get (D := (dC, dI)) (ci := 24) (v := .ref bal) (C := RX18) (T := TX18) (N := 17) hx hb hts (by decide +kernel) hown hK hP 0 rfl rfl 15 (by decide) (hts (.fieldLink RX18 61 "UnderpaintModel" "ballots" "Ljava/util/List;") (by decide +kernel)) (fun _ h9 => h9) rfl dX18_winner_35 ?_
  have hPc := (hP.app hR).sub (ws' := [] ++ [(bal, .inr (5, [.int 0, .ref en.2.2.1, .int 0]))]) [7] rfl
  have hDc := (en_DD hD hDr hN0 hAb).sub (ws' := [] ++ [(bal, .inr (5, [.int 0, .ref en.2.2.1, .int 0]))]) [7] (by decide) rfl
  have hKc := hK.sub (tys' := []) [] rfl
  have hFc := va_free (wc := []) hD hS hA [] rfl
  refine va_callFr (va_runF (As := []) (rest := []) (hK.1 5 _ rfl).2 ⟨hx, hb, hml, hown, hts⟩ (c_iterator l dC dI b0 en H.size bal en.2.2.1 0 0) (va_cwF 0 hts gX18_winner_Jx4a65c_iterator_32c93_f224Jx4a65c rfl rfl rfl (hE.face ("java/util/ArrayList", ⟨"java/util/List", "iterator", "()Ljava/util/Iterator;"⟩, ⟨"java/util/ArrayList", "iterator", "()Ljava/util/Iterator;"⟩) (by decide +kernel)) (by decide +kernel) ⟨Nat.le_of_ble_eq_true rfl, Nat.le_of_ble_eq_true rfl⟩) ⟨cP.blind, va_recv hK hR (ci := 5) (q0 := 0) rfl rfl, cP.use (en_z hb0 hS) (hE.on hAb hS) hPc hKc hDc trivial⟩ rfl rfl hl.1 rfl (lv_room (Nat.le_of_ble_eq_true rfl)) dX18_winner_38 ⟨Nat.le_of_ble_eq_true rfl, Nat.le_of_ble_eq_true rfl⟩) hS (fun q _ h => hFc q h) hFc (fun u r_51 t H1 locs ht hvm hw hB hz1 hk1 hS => ?_)
  obtain ⟨hP1, hK1, hD1, hF1⟩ := hB
  rw [ht] at hP1
  try rw [ht] at hF1
  have hK1 := va_K.moved hvm.symm hK1
  try dsimp only at hw
  obtain ⟨hP, hD⟩ := va_join (wr := [(mm, .inr (24, [.int 0, .ref stu, .ref cla, .ref pic, .ref act, .int 5, .int 50, .ref nts, .ref isn, .int 1600, .ref boa, .ref mas, .ref pai, .ref sol, .int 0, .ref bal, .ref leg])), (r_4, .inr (4, [.int 0, .int (-1), .int 0, .ref bal])), (r_10, .inr (4, [.int 0, .int (-1), .int 0, .ref bal])), (r_19, .inr (4, [.int 0, .int (-1), .int 0, .ref bal])), (r_28, .inr (4, [.int 0, .int (-1), .int 0, .ref bal])), (r_37, .inr (4, [.int 0, .int (-1), .int 0, .ref bal])), (r_42, .inr (4, [.int 0, .int (-1), .int 0, .ref bal]))]) (w1 := [(r_51, .inr (4, [.int 0, .int (-1), .int 0, .ref bal]))]) hP hD [] [0, 1, 2, 3, 4, 5, 6] rfl rfl (by decide) (by decide) hk1 hFc hP1 hD1
  generalize H1 = H at hP hS ⊢
  have hP : va_P (dC, dI) vwCl [(mm, .inr (24, [.int 0, .ref stu, .ref cla, .ref pic, .ref act, .int 5, .int 50, .ref nts, .ref isn, .int 1600, .ref boa, .ref mas, .ref pai, .ref sol, .int 0, .ref bal, .ref leg])), (r_4, .inr (4, [.int 0, .int (-1), .int 0, .ref bal])), (r_10, .inr (4, [.int 0, .int (-1), .int 0, .ref bal])), (r_19, .inr (4, [.int 0, .int (-1), .int 0, .ref bal])), (r_28, .inr (4, [.int 0, .int (-1), .int 0, .ref bal])), (r_37, .inr (4, [.int 0, .int (-1), .int 0, .ref bal])), (r_42, .inr (4, [.int 0, .int (-1), .int 0, .ref bal])), (r_51, .inr (4, [.int 0, .int (-1), .int 0, .ref bal]))] H := hP
  have hD : va_D A [(mm, .inr (24, [.int 0, .ref stu, .ref cla, .ref pic, .ref act, .int 5, .int 50, .ref nts, .ref isn, .int 1600, .ref boa, .ref mas, .ref pai, .ref sol, .int 0, .ref bal, .ref leg])), (r_4, .inr (4, [.int 0, .int (-1), .int 0, .ref bal])), (r_10, .inr (4, [.int 0, .int (-1), .int 0, .ref bal])), (r_19, .inr (4, [.int 0, .int (-1), .int 0, .ref bal])), (r_28, .inr (4, [.int 0, .int (-1), .int 0, .ref bal])), (r_37, .inr (4, [.int 0, .int (-1), .int 0, .ref bal])), (r_42, .inr (4, [.int 0, .int (-1), .int 0, .ref bal])), (r_51, .inr (4, [.int 0, .int (-1), .int 0, .ref bal]))] := hD
  have hR := en_R hR0 hN0 hS
  refine W.widen (k := 7) (n := 28) (Nat.le_of_ble_eq_true rfl) (Nat.le_of_ble_eq_true rfl) ?_
  refine lv_astore (lv' := [(6, .ref r_51), (5, .int 0), (4, .int 0), (3, .int 1), (2, .int 104), (1, .int 2), (0, .ref mm)]) hx hb dX18_winner_43 hl (by decide) rfl (fun ls hl => ?_)
  refine lv_aload hx hb dX18_winner_45 (lv_at hl 0 rfl) ?_
  have hPc := (hP.app hR).sub (ws' := [] ++ [(r_51, .inr (4, [.int 0, .int (-1), .int 0, .ref bal])), (bal, .inr (5, [.int 0, .ref en.2.2.1, .int 0]))]) [7, 8] rfl
  have hDc := (en_DD hD hDr hN0 hAb).sub (ws' := [] ++ [(r_51, .inr (4, [.int 0, .int (-1), .int 0, .ref bal])), (bal, .inr (5, [.int 0, .ref en.2.2.1, .int 0]))]) [7, 8] (by decide) rfl
  have hKc := hK.sub (tys' := []) [] rfl
  have hFc := va_free (wc := []) hD hS hA [] rfl
  refine va_callFi (va_runF (As := []) (rest := []) (hK.1 4 _ rfl).2 ⟨hx, hb, hml, hown, hts⟩ (c_hasNext l dC dI b0 en H.size r_51 bal en.2.2.1 0 0) (va_cwF 0 hts gX18_winner_Jx35411_hasNext_aae02_f228Jx35411 rfl rfl rfl (hE.face ("java/util/ArrayList$Itr", ⟨"java/util/Iterator", "hasNext", "()Z"⟩, ⟨"java/util/ArrayList$Itr", "hasNext", "()Z"⟩) (by decide +kernel)) (by decide +kernel) ⟨Nat.le_of_ble_eq_true rfl, Nat.le_of_ble_eq_true rfl⟩) ⟨cP.blind, va_recv hK hP (ci := 4) (q0 := 7) rfl rfl, cP.use (en_z hb0 hS) (hE.on hAb hS) hPc hKc hDc trivial⟩ rfl rfl hl.1 rfl (lv_room (Nat.le_of_ble_eq_true rfl)) dX18_winner_47 ⟨Nat.le_of_ble_eq_true rfl, Nat.le_of_ble_eq_true rfl⟩) hS (fun q _ h => hFc q h) hFc (fun r_52 u t H1 locs ht hvm hw hB hz1 hk1 hS => ?_)
  have hP1 : va_P (dC, dI) vwCl [] H1 := fun k q h => by simp at h
  have hD1 : va_D (va_A [] H.size) [] := ⟨fun i j p q h => by simp at h, fun k q h => by simp at h⟩
  try dsimp only at hw
  obtain ⟨hP, hD⟩ := va_join (wr := [(mm, .inr (24, [.int 0, .ref stu, .ref cla, .ref pic, .ref act, .int 5, .int 50, .ref nts, .ref isn, .int 1600, .ref boa, .ref mas, .ref pai, .ref sol, .int 0, .ref bal, .ref leg])), (r_4, .inr (4, [.int 0, .int (-1), .int 0, .ref bal])), (r_10, .inr (4, [.int 0, .int (-1), .int 0, .ref bal])), (r_19, .inr (4, [.int 0, .int (-1), .int 0, .ref bal])), (r_28, .inr (4, [.int 0, .int (-1), .int 0, .ref bal])), (r_37, .inr (4, [.int 0, .int (-1), .int 0, .ref bal])), (r_42, .inr (4, [.int 0, .int (-1), .int 0, .ref bal])), (r_51, .inr (4, [.int 0, .int (-1), .int 0, .ref bal]))]) (w1 := []) hP hD [] [0, 1, 2, 3, 4, 5, 6, 7] rfl rfl (by decide) (by decide) hk1 hFc hP1 hD1
  generalize H1 = H at hP hS ⊢
  have hP : va_P (dC, dI) vwCl [(mm, .inr (24, [.int 0, .ref stu, .ref cla, .ref pic, .ref act, .int 5, .int 50, .ref nts, .ref isn, .int 1600, .ref boa, .ref mas, .ref pai, .ref sol, .int 0, .ref bal, .ref leg])), (r_4, .inr (4, [.int 0, .int (-1), .int 0, .ref bal])), (r_10, .inr (4, [.int 0, .int (-1), .int 0, .ref bal])), (r_19, .inr (4, [.int 0, .int (-1), .int 0, .ref bal])), (r_28, .inr (4, [.int 0, .int (-1), .int 0, .ref bal])), (r_37, .inr (4, [.int 0, .int (-1), .int 0, .ref bal])), (r_42, .inr (4, [.int 0, .int (-1), .int 0, .ref bal])), (r_51, .inr (4, [.int 0, .int (-1), .int 0, .ref bal]))] H := hP
  have hD : va_D A [(mm, .inr (24, [.int 0, .ref stu, .ref cla, .ref pic, .ref act, .int 5, .int 50, .ref nts, .ref isn, .int 1600, .ref boa, .ref mas, .ref pai, .ref sol, .int 0, .ref bal, .ref leg])), (r_4, .inr (4, [.int 0, .int (-1), .int 0, .ref bal])), (r_10, .inr (4, [.int 0, .int (-1), .int 0, .ref bal])), (r_19, .inr (4, [.int 0, .int (-1), .int 0, .ref bal])), (r_28, .inr (4, [.int 0, .int (-1), .int 0, .ref bal])), (r_37, .inr (4, [.int 0, .int (-1), .int 0, .ref bal])), (r_42, .inr (4, [.int 0, .int (-1), .int 0, .ref bal])), (r_51, .inr (4, [.int 0, .int (-1), .int 0, .ref bal]))] := hD
  have hR := en_R hR0 hN0 hS
  refine W.widen (k := 7) (n := 28) (Nat.le_of_ble_eq_true rfl) (Nat.le_of_ble_eq_true rfl) ?_
  subst r_52
  refine lv_if_eq (tgt := 102) hx hb dX18_winner_52 (by first | decide | rfl) (fun c_53 => ?_) (fun c_53 => absurd c_53 (by decide))
  refine lv_iload_n hx hb dX18_winner_102 rfl (lv_at hl 3 rfl) ?_
  refine lv_if_eq (tgt := 132) hx hb dX18_winner_103 (by first | decide | rfl) (fun c_54 => absurd c_54 (by decide)) (fun c_54 => ?_)
  refine lv_iload hx hb dX18_winner_106 (lv_at hl 2 rfl) ?_
  refine lv_iload_n hx hb dX18_winner_108 rfl (lv_at hl 5 rfl) ?_
  refine lv_icmp_eq (tgt := 128) hx hb dX18_winner_109 (by first | decide | rfl) (fun c_55 => absurd c_55 (by decide)) (fun c_55 => ?_)
  refine lv_iconst (v := 2) hx hb dX18_winner_112 (by decide) ?_
  refine lv_iload hx hb dX18_winner_113 (lv_at hl 1 rfl) ?_
  refine lv_imul hx hb dX18_winner_115 ?_
  refine lv_topi (fun x_56 ex_56 => ?_)
  obtain rfl : x_56 = 0 := ex_56.trans (by decide)
  refine lv_aload_n hx hb dX18_winner_116 rfl (lv_at hl 6 rfl) ?_
  refine va_get (D := (dC, dI)) (ci := 24) (v := .ref bal) (C := RX18) (T := TX18) (N := 17) hx hb hts (by decide +kernel) hown hK hP 0 rfl rfl 15 (by decide) (hts (.fieldLink RX18 61 "UnderpaintModel" "ballots" "Ljava/util/List;") (by decide +kernel)) (fun _ h9 => h9) rfl dX18_winner_117 ?_
  have hPc := (hP.app hR).sub (ws' := [] ++ [(bal, .inr (5, [.int 0, .ref en.2.2.1, .int 0]))]) [8] rfl
  have hDc := (en_DD hD hDr hN0 hAb).sub (ws' := [] ++ [(bal, .inr (5, [.int 0, .ref en.2.2.1, .int 0]))]) [8] (by decide) rfl
  have hKc := hK.sub (tys' := []) [] rfl
  have hFc := va_free (wc := []) hD hS hA [] rfl
  refine va_callFi (va_runF (As := []) (rest := [.int 0]) (hK.1 5 _ rfl).2 ⟨hx, hb, hml, hown, hts⟩ (c_Jx4a65c_size l dC dI b0 en H.size bal en.2.2.1 0 0) (va_cwF 0 hts gX18_winner_Jx4a65c_size_8abf5_f74Jx4a65c rfl rfl rfl (hE.face ("java/util/ArrayList", ⟨"java/util/List", "size", "()I"⟩, ⟨"java/util/ArrayList", "size", "()I"⟩) (by decide +kernel)) (by decide +kernel) ⟨Nat.le_of_ble_eq_true rfl, Nat.le_of_ble_eq_true rfl⟩) ⟨cP.blind, va_recv hK hR (ci := 5) (q0 := 0) rfl rfl, cP.use (en_z hb0 hS) (hE.on hAb hS) hPc hKc hDc trivial⟩ rfl rfl hl.1 rfl (lv_room (Nat.le_of_ble_eq_true rfl)) dX18_winner_120 ⟨Nat.le_of_ble_eq_true rfl, Nat.le_of_ble_eq_true rfl⟩) hS (fun q _ h => hFc q h) hFc (fun r_57 u t H1 locs ht hvm hw hB hz1 hk1 hS => ?_)
  have hP1 : va_P (dC, dI) vwCl [] H1 := fun k q h => by simp at h
  have hD1 : va_D (va_A [] H.size) [] := ⟨fun i j p q h => by simp at h, fun k q h => by simp at h⟩
  try dsimp only at hw
  obtain ⟨hP, hD⟩ := va_join (wr := [(mm, .inr (24, [.int 0, .ref stu, .ref cla, .ref pic, .ref act, .int 5, .int 50, .ref nts, .ref isn, .int 1600, .ref boa, .ref mas, .ref pai, .ref sol, .int 0, .ref bal, .ref leg])), (r_4, .inr (4, [.int 0, .int (-1), .int 0, .ref bal])), (r_10, .inr (4, [.int 0, .int (-1), .int 0, .ref bal])), (r_19, .inr (4, [.int 0, .int (-1), .int 0, .ref bal])), (r_28, .inr (4, [.int 0, .int (-1), .int 0, .ref bal])), (r_37, .inr (4, [.int 0, .int (-1), .int 0, .ref bal])), (r_42, .inr (4, [.int 0, .int (-1), .int 0, .ref bal])), (r_51, .inr (4, [.int 0, .int (-1), .int 0, .ref bal]))]) (w1 := []) hP hD [] [0, 1, 2, 3, 4, 5, 6, 7] rfl rfl (by decide) (by decide) hk1 hFc hP1 hD1
  generalize H1 = H at hP hS ⊢
  have hP : va_P (dC, dI) vwCl [(mm, .inr (24, [.int 0, .ref stu, .ref cla, .ref pic, .ref act, .int 5, .int 50, .ref nts, .ref isn, .int 1600, .ref boa, .ref mas, .ref pai, .ref sol, .int 0, .ref bal, .ref leg])), (r_4, .inr (4, [.int 0, .int (-1), .int 0, .ref bal])), (r_10, .inr (4, [.int 0, .int (-1), .int 0, .ref bal])), (r_19, .inr (4, [.int 0, .int (-1), .int 0, .ref bal])), (r_28, .inr (4, [.int 0, .int (-1), .int 0, .ref bal])), (r_37, .inr (4, [.int 0, .int (-1), .int 0, .ref bal])), (r_42, .inr (4, [.int 0, .int (-1), .int 0, .ref bal])), (r_51, .inr (4, [.int 0, .int (-1), .int 0, .ref bal]))] H := hP
  have hD : va_D A [(mm, .inr (24, [.int 0, .ref stu, .ref cla, .ref pic, .ref act, .int 5, .int 50, .ref nts, .ref isn, .int 1600, .ref boa, .ref mas, .ref pai, .ref sol, .int 0, .ref bal, .ref leg])), (r_4, .inr (4, [.int 0, .int (-1), .int 0, .ref bal])), (r_10, .inr (4, [.int 0, .int (-1), .int 0, .ref bal])), (r_19, .inr (4, [.int 0, .int (-1), .int 0, .ref bal])), (r_28, .inr (4, [.int 0, .int (-1), .int 0, .ref bal])), (r_37, .inr (4, [.int 0, .int (-1), .int 0, .ref bal])), (r_42, .inr (4, [.int 0, .int (-1), .int 0, .ref bal])), (r_51, .inr (4, [.int 0, .int (-1), .int 0, .ref bal]))] := hD
  have hR := en_R hR0 hN0 hS
  refine W.widen (k := 7) (n := 28) (Nat.le_of_ble_eq_true rfl) (Nat.le_of_ble_eq_true rfl) ?_
  subst r_57
  refine lv_icmp_le (tgt := 132) hx hb dX18_winner_125 (by first | decide | rfl) (fun c_58 => ?_) (fun c_58 => absurd c_58 (by decide))
  refine lv_iconst (v := 0) hx hb dX18_winner_132 (by decide) ?_
  refine lv_istore_n (lv' := [(3, .int 0), (6, .ref r_51), (5, .int 0), (4, .int 0), (2, .int 104), (1, .int 2), (0, .ref mm)]) hx hb dX18_winner_133 rfl hl (by decide) rfl (fun ls hl => ?_)
  refine lv_iinc (v := 1) (lv' := [(4, .int 1), (3, .int 0), (6, .ref r_51), (5, .int 0), (2, .int 104), (1, .int 2), (0, .ref mm)]) hx hb dX18_winner_134 hl (k := 3) rfl (by decide) (by decide) rfl (fun ls hl => ?_)
  refine lv_goto (tgt := 25) hx hb dX18_winner_137 (by first | decide | rfl) ?_
  refine lv_iload hx hb dX18_winner_25 (lv_at hl 0 rfl) ?_
  refine lv_iconst (v := 3) hx hb dX18_winner_27 (by decide) ?_
  refine lv_icmp_ge (tgt := 140) hx hb dX18_winner_28 (by first | decide | rfl) (fun c_59 => absurd c_59 (by decide)) (fun c_59 => ?_)
  refine lv_iconst (v := 0) hx hb dX18_winner_31 (by decide) ?_
  refine lv_istore (lv' := [(5, .int 0), (4, .int 1), (3, .int 0), (6, .ref r_51), (2, .int 104), (1, .int 2), (0, .ref mm)]) hx hb dX18_winner_32 hl (by decide) rfl (fun ls hl => ?_)
  refine lv_aload_n hx hb dX18_winner_34 rfl (lv_at hl 6 rfl) ?_
  refine va_get (D := (dC, dI)) (ci := 24) (v := .ref bal) (C := RX18) (T := TX18) (N := 17) hx hb hts (by decide +kernel) hown hK hP 0 rfl rfl 15 (by decide) (hts (.fieldLink RX18 61 "UnderpaintModel" "ballots" "Ljava/util/List;") (by decide +kernel)) (fun _ h9 => h9) rfl dX18_winner_35 ?_
  have hPc := (hP.app hR).sub (ws' := [] ++ [(bal, .inr (5, [.int 0, .ref en.2.2.1, .int 0]))]) [8] rfl
  have hDc := (en_DD hD hDr hN0 hAb).sub (ws' := [] ++ [(bal, .inr (5, [.int 0, .ref en.2.2.1, .int 0]))]) [8] (by decide) rfl
  have hKc := hK.sub (tys' := []) [] rfl
  have hFc := va_free (wc := []) hD hS hA [] rfl
  refine va_callFr (va_runF (As := []) (rest := []) (hK.1 5 _ rfl).2 ⟨hx, hb, hml, hown, hts⟩ (c_iterator l dC dI b0 en H.size bal en.2.2.1 0 0) (va_cwF 0 hts gX18_winner_Jx4a65c_iterator_32c93_f224Jx4a65c rfl rfl rfl (hE.face ("java/util/ArrayList", ⟨"java/util/List", "iterator", "()Ljava/util/Iterator;"⟩, ⟨"java/util/ArrayList", "iterator", "()Ljava/util/Iterator;"⟩) (by decide +kernel)) (by decide +kernel) ⟨Nat.le_of_ble_eq_true rfl, Nat.le_of_ble_eq_true rfl⟩) ⟨cP.blind, va_recv hK hR (ci := 5) (q0 := 0) rfl rfl, cP.use (en_z hb0 hS) (hE.on hAb hS) hPc hKc hDc trivial⟩ rfl rfl hl.1 rfl (lv_room (Nat.le_of_ble_eq_true rfl)) dX18_winner_38 ⟨Nat.le_of_ble_eq_true rfl, Nat.le_of_ble_eq_true rfl⟩) hS (fun q _ h => hFc q h) hFc (fun u r_60 t H1 locs ht hvm hw hB hz1 hk1 hS => ?_)
  obtain ⟨hP1, hK1, hD1, hF1⟩ := hB
  rw [ht] at hP1
  try rw [ht] at hF1
  have hK1 := va_K.moved hvm.symm hK1
  try dsimp only at hw
  obtain ⟨hP, hD⟩ := va_join (wr := [(mm, .inr (24, [.int 0, .ref stu, .ref cla, .ref pic, .ref act, .int 5, .int 50, .ref nts, .ref isn, .int 1600, .ref boa, .ref mas, .ref pai, .ref sol, .int 0, .ref bal, .ref leg])), (r_4, .inr (4, [.int 0, .int (-1), .int 0, .ref bal])), (r_10, .inr (4, [.int 0, .int (-1), .int 0, .ref bal])), (r_19, .inr (4, [.int 0, .int (-1), .int 0, .ref bal])), (r_28, .inr (4, [.int 0, .int (-1), .int 0, .ref bal])), (r_37, .inr (4, [.int 0, .int (-1), .int 0, .ref bal])), (r_42, .inr (4, [.int 0, .int (-1), .int 0, .ref bal])), (r_51, .inr (4, [.int 0, .int (-1), .int 0, .ref bal]))]) (w1 := [(r_60, .inr (4, [.int 0, .int (-1), .int 0, .ref bal]))]) hP hD [] [0, 1, 2, 3, 4, 5, 6, 7] rfl rfl (by decide) (by decide) hk1 hFc hP1 hD1
  generalize H1 = H at hP hS ⊢
  have hP : va_P (dC, dI) vwCl [(mm, .inr (24, [.int 0, .ref stu, .ref cla, .ref pic, .ref act, .int 5, .int 50, .ref nts, .ref isn, .int 1600, .ref boa, .ref mas, .ref pai, .ref sol, .int 0, .ref bal, .ref leg])), (r_4, .inr (4, [.int 0, .int (-1), .int 0, .ref bal])), (r_10, .inr (4, [.int 0, .int (-1), .int 0, .ref bal])), (r_19, .inr (4, [.int 0, .int (-1), .int 0, .ref bal])), (r_28, .inr (4, [.int 0, .int (-1), .int 0, .ref bal])), (r_37, .inr (4, [.int 0, .int (-1), .int 0, .ref bal])), (r_42, .inr (4, [.int 0, .int (-1), .int 0, .ref bal])), (r_51, .inr (4, [.int 0, .int (-1), .int 0, .ref bal])), (r_60, .inr (4, [.int 0, .int (-1), .int 0, .ref bal]))] H := hP
  have hD : va_D A [(mm, .inr (24, [.int 0, .ref stu, .ref cla, .ref pic, .ref act, .int 5, .int 50, .ref nts, .ref isn, .int 1600, .ref boa, .ref mas, .ref pai, .ref sol, .int 0, .ref bal, .ref leg])), (r_4, .inr (4, [.int 0, .int (-1), .int 0, .ref bal])), (r_10, .inr (4, [.int 0, .int (-1), .int 0, .ref bal])), (r_19, .inr (4, [.int 0, .int (-1), .int 0, .ref bal])), (r_28, .inr (4, [.int 0, .int (-1), .int 0, .ref bal])), (r_37, .inr (4, [.int 0, .int (-1), .int 0, .ref bal])), (r_42, .inr (4, [.int 0, .int (-1), .int 0, .ref bal])), (r_51, .inr (4, [.int 0, .int (-1), .int 0, .ref bal])), (r_60, .inr (4, [.int 0, .int (-1), .int 0, .ref bal]))] := hD
  have hR := en_R hR0 hN0 hS
  refine W.widen (k := 8) (n := 32) (Nat.le_of_ble_eq_true rfl) (Nat.le_of_ble_eq_true rfl) ?_
  refine lv_astore (lv' := [(6, .ref r_60), (5, .int 0), (4, .int 1), (3, .int 0), (2, .int 104), (1, .int 2), (0, .ref mm)]) hx hb dX18_winner_43 hl (by decide) rfl (fun ls hl => ?_)
  refine lv_aload hx hb dX18_winner_45 (lv_at hl 0 rfl) ?_
  have hPc := (hP.app hR).sub (ws' := [] ++ [(r_60, .inr (4, [.int 0, .int (-1), .int 0, .ref bal])), (bal, .inr (5, [.int 0, .ref en.2.2.1, .int 0]))]) [8, 9] rfl
  have hDc := (en_DD hD hDr hN0 hAb).sub (ws' := [] ++ [(r_60, .inr (4, [.int 0, .int (-1), .int 0, .ref bal])), (bal, .inr (5, [.int 0, .ref en.2.2.1, .int 0]))]) [8, 9] (by decide) rfl
  have hKc := hK.sub (tys' := []) [] rfl
  have hFc := va_free (wc := []) hD hS hA [] rfl
  refine va_callFi (va_runF (As := []) (rest := []) (hK.1 4 _ rfl).2 ⟨hx, hb, hml, hown, hts⟩ (c_hasNext l dC dI b0 en H.size r_60 bal en.2.2.1 0 0) (va_cwF 0 hts gX18_winner_Jx35411_hasNext_aae02_f228Jx35411 rfl rfl rfl (hE.face ("java/util/ArrayList$Itr", ⟨"java/util/Iterator", "hasNext", "()Z"⟩, ⟨"java/util/ArrayList$Itr", "hasNext", "()Z"⟩) (by decide +kernel)) (by decide +kernel) ⟨Nat.le_of_ble_eq_true rfl, Nat.le_of_ble_eq_true rfl⟩) ⟨cP.blind, va_recv hK hP (ci := 4) (q0 := 8) rfl rfl, cP.use (en_z hb0 hS) (hE.on hAb hS) hPc hKc hDc trivial⟩ rfl rfl hl.1 rfl (lv_room (Nat.le_of_ble_eq_true rfl)) dX18_winner_47 ⟨Nat.le_of_ble_eq_true rfl, Nat.le_of_ble_eq_true rfl⟩) hS (fun q _ h => hFc q h) hFc (fun r_61 u t H1 locs ht hvm hw hB hz1 hk1 hS => ?_)
  have hP1 : va_P (dC, dI) vwCl [] H1 := fun k q h => by simp at h
  have hD1 : va_D (va_A [] H.size) [] := ⟨fun i j p q h => by simp at h, fun k q h => by simp at h⟩
  try dsimp only at hw
  obtain ⟨hP, hD⟩ := va_join (wr := [(mm, .inr (24, [.int 0, .ref stu, .ref cla, .ref pic, .ref act, .int 5, .int 50, .ref nts, .ref isn, .int 1600, .ref boa, .ref mas, .ref pai, .ref sol, .int 0, .ref bal, .ref leg])), (r_4, .inr (4, [.int 0, .int (-1), .int 0, .ref bal])), (r_10, .inr (4, [.int 0, .int (-1), .int 0, .ref bal])), (r_19, .inr (4, [.int 0, .int (-1), .int 0, .ref bal])), (r_28, .inr (4, [.int 0, .int (-1), .int 0, .ref bal])), (r_37, .inr (4, [.int 0, .int (-1), .int 0, .ref bal])), (r_42, .inr (4, [.int 0, .int (-1), .int 0, .ref bal])), (r_51, .inr (4, [.int 0, .int (-1), .int 0, .ref bal])), (r_60, .inr (4, [.int 0, .int (-1), .int 0, .ref bal]))]) (w1 := []) hP hD [] [0, 1, 2, 3, 4, 5, 6, 7, 8] rfl rfl (by decide) (by decide) hk1 hFc hP1 hD1
  generalize H1 = H at hP hS ⊢
  have hP : va_P (dC, dI) vwCl [(mm, .inr (24, [.int 0, .ref stu, .ref cla, .ref pic, .ref act, .int 5, .int 50, .ref nts, .ref isn, .int 1600, .ref boa, .ref mas, .ref pai, .ref sol, .int 0, .ref bal, .ref leg])), (r_4, .inr (4, [.int 0, .int (-1), .int 0, .ref bal])), (r_10, .inr (4, [.int 0, .int (-1), .int 0, .ref bal])), (r_19, .inr (4, [.int 0, .int (-1), .int 0, .ref bal])), (r_28, .inr (4, [.int 0, .int (-1), .int 0, .ref bal])), (r_37, .inr (4, [.int 0, .int (-1), .int 0, .ref bal])), (r_42, .inr (4, [.int 0, .int (-1), .int 0, .ref bal])), (r_51, .inr (4, [.int 0, .int (-1), .int 0, .ref bal])), (r_60, .inr (4, [.int 0, .int (-1), .int 0, .ref bal]))] H := hP
  have hD : va_D A [(mm, .inr (24, [.int 0, .ref stu, .ref cla, .ref pic, .ref act, .int 5, .int 50, .ref nts, .ref isn, .int 1600, .ref boa, .ref mas, .ref pai, .ref sol, .int 0, .ref bal, .ref leg])), (r_4, .inr (4, [.int 0, .int (-1), .int 0, .ref bal])), (r_10, .inr (4, [.int 0, .int (-1), .int 0, .ref bal])), (r_19, .inr (4, [.int 0, .int (-1), .int 0, .ref bal])), (r_28, .inr (4, [.int 0, .int (-1), .int 0, .ref bal])), (r_37, .inr (4, [.int 0, .int (-1), .int 0, .ref bal])), (r_42, .inr (4, [.int 0, .int (-1), .int 0, .ref bal])), (r_51, .inr (4, [.int 0, .int (-1), .int 0, .ref bal])), (r_60, .inr (4, [.int 0, .int (-1), .int 0, .ref bal]))] := hD
  have hR := en_R hR0 hN0 hS
  refine W.widen (k := 8) (n := 32) (Nat.le_of_ble_eq_true rfl) (Nat.le_of_ble_eq_true rfl) ?_
  subst r_61
  refine lv_if_eq (tgt := 102) hx hb dX18_winner_52 (by first | decide | rfl) (fun c_62 => ?_) (fun c_62 => absurd c_62 (by decide))
  refine lv_iload_n hx hb dX18_winner_102 rfl (lv_at hl 3 rfl) ?_
  refine lv_if_eq (tgt := 132) hx hb dX18_winner_103 (by first | decide | rfl) (fun c_63 => ?_) (fun c_63 => absurd c_63 (by decide))
  refine lv_iconst (v := 0) hx hb dX18_winner_132 (by decide) ?_
  refine lv_istore_n (lv' := [(3, .int 0), (6, .ref r_60), (5, .int 0), (4, .int 1), (2, .int 104), (1, .int 2), (0, .ref mm)]) hx hb dX18_winner_133 rfl hl (by decide) rfl (fun ls hl => ?_)
  refine lv_iinc (v := 2) (lv' := [(4, .int 2), (3, .int 0), (6, .ref r_60), (5, .int 0), (2, .int 104), (1, .int 2), (0, .ref mm)]) hx hb dX18_winner_134 hl (k := 3) rfl (by decide) (by decide) rfl (fun ls hl => ?_)
  refine lv_goto (tgt := 25) hx hb dX18_winner_137 (by first | decide | rfl) ?_
  refine lv_iload hx hb dX18_winner_25 (lv_at hl 0 rfl) ?_
  refine lv_iconst (v := 3) hx hb dX18_winner_27 (by decide) ?_
  refine lv_icmp_ge (tgt := 140) hx hb dX18_winner_28 (by first | decide | rfl) (fun c_64 => absurd c_64 (by decide)) (fun c_64 => ?_)
  refine lv_iconst (v := 0) hx hb dX18_winner_31 (by decide) ?_
  refine lv_istore (lv' := [(5, .int 0), (4, .int 2), (3, .int 0), (6, .ref r_60), (2, .int 104), (1, .int 2), (0, .ref mm)]) hx hb dX18_winner_32 hl (by decide) rfl (fun ls hl => ?_)
  refine lv_aload_n hx hb dX18_winner_34 rfl (lv_at hl 6 rfl) ?_
  refine va_get (D := (dC, dI)) (ci := 24) (v := .ref bal) (C := RX18) (T := TX18) (N := 17) hx hb hts (by decide +kernel) hown hK hP 0 rfl rfl 15 (by decide) (hts (.fieldLink RX18 61 "UnderpaintModel" "ballots" "Ljava/util/List;") (by decide +kernel)) (fun _ h9 => h9) rfl dX18_winner_35 ?_
  have hPc := (hP.app hR).sub (ws' := [] ++ [(bal, .inr (5, [.int 0, .ref en.2.2.1, .int 0]))]) [9] rfl
  have hDc := (en_DD hD hDr hN0 hAb).sub (ws' := [] ++ [(bal, .inr (5, [.int 0, .ref en.2.2.1, .int 0]))]) [9] (by decide) rfl
  have hKc := hK.sub (tys' := []) [] rfl
  have hFc := va_free (wc := []) hD hS hA [] rfl
  refine va_callFr (va_runF (As := []) (rest := []) (hK.1 5 _ rfl).2 ⟨hx, hb, hml, hown, hts⟩ (c_iterator l dC dI b0 en H.size bal en.2.2.1 0 0) (va_cwF 0 hts gX18_winner_Jx4a65c_iterator_32c93_f224Jx4a65c rfl rfl rfl (hE.face ("java/util/ArrayList", ⟨"java/util/List", "iterator", "()Ljava/util/Iterator;"⟩, ⟨"java/util/ArrayList", "iterator", "()Ljava/util/Iterator;"⟩) (by decide +kernel)) (by decide +kernel) ⟨Nat.le_of_ble_eq_true rfl, Nat.le_of_ble_eq_true rfl⟩) ⟨cP.blind, va_recv hK hR (ci := 5) (q0 := 0) rfl rfl, cP.use (en_z hb0 hS) (hE.on hAb hS) hPc hKc hDc trivial⟩ rfl rfl hl.1 rfl (lv_room (Nat.le_of_ble_eq_true rfl)) dX18_winner_38 ⟨Nat.le_of_ble_eq_true rfl, Nat.le_of_ble_eq_true rfl⟩) hS (fun q _ h => hFc q h) hFc (fun u r_65 t H1 locs ht hvm hw hB hz1 hk1 hS => ?_)
  obtain ⟨hP1, hK1, hD1, hF1⟩ := hB
  rw [ht] at hP1
  try rw [ht] at hF1
  have hK1 := va_K.moved hvm.symm hK1
  try dsimp only at hw
  obtain ⟨hP, hD⟩ := va_join (wr := [(mm, .inr (24, [.int 0, .ref stu, .ref cla, .ref pic, .ref act, .int 5, .int 50, .ref nts, .ref isn, .int 1600, .ref boa, .ref mas, .ref pai, .ref sol, .int 0, .ref bal, .ref leg])), (r_4, .inr (4, [.int 0, .int (-1), .int 0, .ref bal])), (r_10, .inr (4, [.int 0, .int (-1), .int 0, .ref bal])), (r_19, .inr (4, [.int 0, .int (-1), .int 0, .ref bal])), (r_28, .inr (4, [.int 0, .int (-1), .int 0, .ref bal])), (r_37, .inr (4, [.int 0, .int (-1), .int 0, .ref bal])), (r_42, .inr (4, [.int 0, .int (-1), .int 0, .ref bal])), (r_51, .inr (4, [.int 0, .int (-1), .int 0, .ref bal])), (r_60, .inr (4, [.int 0, .int (-1), .int 0, .ref bal]))]) (w1 := [(r_65, .inr (4, [.int 0, .int (-1), .int 0, .ref bal]))]) hP hD [] [0, 1, 2, 3, 4, 5, 6, 7, 8] rfl rfl (by decide) (by decide) hk1 hFc hP1 hD1
  generalize H1 = H at hP hS ⊢
  have hP : va_P (dC, dI) vwCl [(mm, .inr (24, [.int 0, .ref stu, .ref cla, .ref pic, .ref act, .int 5, .int 50, .ref nts, .ref isn, .int 1600, .ref boa, .ref mas, .ref pai, .ref sol, .int 0, .ref bal, .ref leg])), (r_4, .inr (4, [.int 0, .int (-1), .int 0, .ref bal])), (r_10, .inr (4, [.int 0, .int (-1), .int 0, .ref bal])), (r_19, .inr (4, [.int 0, .int (-1), .int 0, .ref bal])), (r_28, .inr (4, [.int 0, .int (-1), .int 0, .ref bal])), (r_37, .inr (4, [.int 0, .int (-1), .int 0, .ref bal])), (r_42, .inr (4, [.int 0, .int (-1), .int 0, .ref bal])), (r_51, .inr (4, [.int 0, .int (-1), .int 0, .ref bal])), (r_60, .inr (4, [.int 0, .int (-1), .int 0, .ref bal])), (r_65, .inr (4, [.int 0, .int (-1), .int 0, .ref bal]))] H := hP
  have hD : va_D A [(mm, .inr (24, [.int 0, .ref stu, .ref cla, .ref pic, .ref act, .int 5, .int 50, .ref nts, .ref isn, .int 1600, .ref boa, .ref mas, .ref pai, .ref sol, .int 0, .ref bal, .ref leg])), (r_4, .inr (4, [.int 0, .int (-1), .int 0, .ref bal])), (r_10, .inr (4, [.int 0, .int (-1), .int 0, .ref bal])), (r_19, .inr (4, [.int 0, .int (-1), .int 0, .ref bal])), (r_28, .inr (4, [.int 0, .int (-1), .int 0, .ref bal])), (r_37, .inr (4, [.int 0, .int (-1), .int 0, .ref bal])), (r_42, .inr (4, [.int 0, .int (-1), .int 0, .ref bal])), (r_51, .inr (4, [.int 0, .int (-1), .int 0, .ref bal])), (r_60, .inr (4, [.int 0, .int (-1), .int 0, .ref bal])), (r_65, .inr (4, [.int 0, .int (-1), .int 0, .ref bal]))] := hD
  have hR := en_R hR0 hN0 hS
  refine W.widen (k := 9) (n := 36) (Nat.le_of_ble_eq_true rfl) (Nat.le_of_ble_eq_true rfl) ?_
  refine lv_astore (lv' := [(6, .ref r_65), (5, .int 0), (4, .int 2), (3, .int 0), (2, .int 104), (1, .int 2), (0, .ref mm)]) hx hb dX18_winner_43 hl (by decide) rfl (fun ls hl => ?_)
  refine lv_aload hx hb dX18_winner_45 (lv_at hl 0 rfl) ?_
  have hPc := (hP.app hR).sub (ws' := [] ++ [(r_65, .inr (4, [.int 0, .int (-1), .int 0, .ref bal])), (bal, .inr (5, [.int 0, .ref en.2.2.1, .int 0]))]) [9, 10] rfl
  have hDc := (en_DD hD hDr hN0 hAb).sub (ws' := [] ++ [(r_65, .inr (4, [.int 0, .int (-1), .int 0, .ref bal])), (bal, .inr (5, [.int 0, .ref en.2.2.1, .int 0]))]) [9, 10] (by decide) rfl
  have hKc := hK.sub (tys' := []) [] rfl
  have hFc := va_free (wc := []) hD hS hA [] rfl
  refine va_callFi (va_runF (As := []) (rest := []) (hK.1 4 _ rfl).2 ⟨hx, hb, hml, hown, hts⟩ (c_hasNext l dC dI b0 en H.size r_65 bal en.2.2.1 0 0) (va_cwF 0 hts gX18_winner_Jx35411_hasNext_aae02_f228Jx35411 rfl rfl rfl (hE.face ("java/util/ArrayList$Itr", ⟨"java/util/Iterator", "hasNext", "()Z"⟩, ⟨"java/util/ArrayList$Itr", "hasNext", "()Z"⟩) (by decide +kernel)) (by decide +kernel) ⟨Nat.le_of_ble_eq_true rfl, Nat.le_of_ble_eq_true rfl⟩) ⟨cP.blind, va_recv hK hP (ci := 4) (q0 := 9) rfl rfl, cP.use (en_z hb0 hS) (hE.on hAb hS) hPc hKc hDc trivial⟩ rfl rfl hl.1 rfl (lv_room (Nat.le_of_ble_eq_true rfl)) dX18_winner_47 ⟨Nat.le_of_ble_eq_true rfl, Nat.le_of_ble_eq_true rfl⟩) hS (fun q _ h => hFc q h) hFc (fun r_66 u t H1 locs ht hvm hw hB hz1 hk1 hS => ?_)
  have hP1 : va_P (dC, dI) vwCl [] H1 := fun k q h => by simp at h
  have hD1 : va_D (va_A [] H.size) [] := ⟨fun i j p q h => by simp at h, fun k q h => by simp at h⟩
  try dsimp only at hw
  obtain ⟨hP, hD⟩ := va_join (wr := [(mm, .inr (24, [.int 0, .ref stu, .ref cla, .ref pic, .ref act, .int 5, .int 50, .ref nts, .ref isn, .int 1600, .ref boa, .ref mas, .ref pai, .ref sol, .int 0, .ref bal, .ref leg])), (r_4, .inr (4, [.int 0, .int (-1), .int 0, .ref bal])), (r_10, .inr (4, [.int 0, .int (-1), .int 0, .ref bal])), (r_19, .inr (4, [.int 0, .int (-1), .int 0, .ref bal])), (r_28, .inr (4, [.int 0, .int (-1), .int 0, .ref bal])), (r_37, .inr (4, [.int 0, .int (-1), .int 0, .ref bal])), (r_42, .inr (4, [.int 0, .int (-1), .int 0, .ref bal])), (r_51, .inr (4, [.int 0, .int (-1), .int 0, .ref bal])), (r_60, .inr (4, [.int 0, .int (-1), .int 0, .ref bal])), (r_65, .inr (4, [.int 0, .int (-1), .int 0, .ref bal]))]) (w1 := []) hP hD [] [0, 1, 2, 3, 4, 5, 6, 7, 8, 9] rfl rfl (by decide) (by decide) hk1 hFc hP1 hD1
  generalize H1 = H at hP hS ⊢
  have hP : va_P (dC, dI) vwCl [(mm, .inr (24, [.int 0, .ref stu, .ref cla, .ref pic, .ref act, .int 5, .int 50, .ref nts, .ref isn, .int 1600, .ref boa, .ref mas, .ref pai, .ref sol, .int 0, .ref bal, .ref leg])), (r_4, .inr (4, [.int 0, .int (-1), .int 0, .ref bal])), (r_10, .inr (4, [.int 0, .int (-1), .int 0, .ref bal])), (r_19, .inr (4, [.int 0, .int (-1), .int 0, .ref bal])), (r_28, .inr (4, [.int 0, .int (-1), .int 0, .ref bal])), (r_37, .inr (4, [.int 0, .int (-1), .int 0, .ref bal])), (r_42, .inr (4, [.int 0, .int (-1), .int 0, .ref bal])), (r_51, .inr (4, [.int 0, .int (-1), .int 0, .ref bal])), (r_60, .inr (4, [.int 0, .int (-1), .int 0, .ref bal])), (r_65, .inr (4, [.int 0, .int (-1), .int 0, .ref bal]))] H := hP
  have hD : va_D A [(mm, .inr (24, [.int 0, .ref stu, .ref cla, .ref pic, .ref act, .int 5, .int 50, .ref nts, .ref isn, .int 1600, .ref boa, .ref mas, .ref pai, .ref sol, .int 0, .ref bal, .ref leg])), (r_4, .inr (4, [.int 0, .int (-1), .int 0, .ref bal])), (r_10, .inr (4, [.int 0, .int (-1), .int 0, .ref bal])), (r_19, .inr (4, [.int 0, .int (-1), .int 0, .ref bal])), (r_28, .inr (4, [.int 0, .int (-1), .int 0, .ref bal])), (r_37, .inr (4, [.int 0, .int (-1), .int 0, .ref bal])), (r_42, .inr (4, [.int 0, .int (-1), .int 0, .ref bal])), (r_51, .inr (4, [.int 0, .int (-1), .int 0, .ref bal])), (r_60, .inr (4, [.int 0, .int (-1), .int 0, .ref bal])), (r_65, .inr (4, [.int 0, .int (-1), .int 0, .ref bal]))] := hD
  have hR := en_R hR0 hN0 hS
  refine W.widen (k := 9) (n := 36) (Nat.le_of_ble_eq_true rfl) (Nat.le_of_ble_eq_true rfl) ?_
  subst r_66
  refine lv_if_eq (tgt := 102) hx hb dX18_winner_52 (by first | decide | rfl) (fun c_67 => ?_) (fun c_67 => absurd c_67 (by decide))
  refine lv_iload_n hx hb dX18_winner_102 rfl (lv_at hl 3 rfl) ?_
  refine lv_if_eq (tgt := 132) hx hb dX18_winner_103 (by first | decide | rfl) (fun c_68 => ?_) (fun c_68 => absurd c_68 (by decide))
  refine lv_iconst (v := 0) hx hb dX18_winner_132 (by decide) ?_
  refine lv_istore_n (lv' := [(3, .int 0), (6, .ref r_65), (5, .int 0), (4, .int 2), (2, .int 104), (1, .int 2), (0, .ref mm)]) hx hb dX18_winner_133 rfl hl (by decide) rfl (fun ls hl => ?_)
  refine lv_iinc (v := 3) (lv' := [(4, .int 3), (3, .int 0), (6, .ref r_65), (5, .int 0), (2, .int 104), (1, .int 2), (0, .ref mm)]) hx hb dX18_winner_134 hl (k := 3) rfl (by decide) (by decide) rfl (fun ls hl => ?_)
  refine lv_goto (tgt := 25) hx hb dX18_winner_137 (by first | decide | rfl) ?_
  refine lv_iload hx hb dX18_winner_25 (lv_at hl 0 rfl) ?_
  refine lv_iconst (v := 3) hx hb dX18_winner_27 (by decide) ?_
  refine lv_icmp_ge (tgt := 140) hx hb dX18_winner_28 (by first | decide | rfl) (fun c_69 => ?_) (fun c_69 => absurd c_69 (by decide))
  refine lv_iload_n hx hb dX18_winner_140 rfl (lv_at hl 1 rfl) ?_
  refine lv_if_eq (tgt := 146) hx hb dX18_winner_141 (by first | decide | rfl) (fun c_70 => ?_) (fun c_70 => absurd c_70 (by decide))
  refine lv_iinc (v := 3) (lv' := [(1, .int 3), (4, .int 3), (3, .int 0), (6, .ref r_65), (5, .int 0), (2, .int 104), (0, .ref mm)]) hx hb dX18_winner_146 hl (k := 5) rfl (by decide) (by decide) rfl (fun ls hl => ?_)
  refine lv_goto (tgt := 7) hx hb dX18_winner_149 (by first | decide | rfl) ?_
  refine lv_iload_n hx hb dX18_winner_7 rfl (lv_at hl 0 rfl) ?_
  refine lv_iconst (v := 3) hx hb dX18_winner_8 (by decide) ?_
  refine lv_icmp_ge (tgt := 152) hx hb dX18_winner_9 (by first | decide | rfl) (fun c_71 => ?_) (fun c_71 => absurd c_71 (by decide))
  refine lv_aload_n hx hb dX18_winner_152 rfl (lv_at hl 6 rfl) ?_
  refine lv_iconst (v := 1) hx hb dX18_winner_153 (by decide) ?_
  refine va_put (D := (dC, dI)) (ci := 24) (v := .int 1) (ty := .int) (C := RX18) (T := TX18) (N := 17) hx hb hts (by decide +kernel) tyX18 tyX18_ok nmX18 hown hK hP hD hS 0 rfl rfl 0 (by decide) (hts (.fieldLink RX18 67 "UnderpaintModel" "code" "I") (by decide +kernel)) (fun _ h9 => h9) rfl (by decide +kernel) rfl rfl (Nat.le_of_ble_eq_true rfl) dX18_winner_154 (fun H locs hP hD hS => ?_)
  have hP : va_P (dC, dI) vwCl [(mm, .inr (24, [.int 1, .ref stu, .ref cla, .ref pic, .ref act, .int 5, .int 50, .ref nts, .ref isn, .int 1600, .ref boa, .ref mas, .ref pai, .ref sol, .int 0, .ref bal, .ref leg])), (r_4, .inr (4, [.int 0, .int (-1), .int 0, .ref bal])), (r_10, .inr (4, [.int 0, .int (-1), .int 0, .ref bal])), (r_19, .inr (4, [.int 0, .int (-1), .int 0, .ref bal])), (r_28, .inr (4, [.int 0, .int (-1), .int 0, .ref bal])), (r_37, .inr (4, [.int 0, .int (-1), .int 0, .ref bal])), (r_42, .inr (4, [.int 0, .int (-1), .int 0, .ref bal])), (r_51, .inr (4, [.int 0, .int (-1), .int 0, .ref bal])), (r_60, .inr (4, [.int 0, .int (-1), .int 0, .ref bal])), (r_65, .inr (4, [.int 0, .int (-1), .int 0, .ref bal]))] H := hP
  have hD : va_D A [(mm, .inr (24, [.int 1, .ref stu, .ref cla, .ref pic, .ref act, .int 5, .int 50, .ref nts, .ref isn, .int 1600, .ref boa, .ref mas, .ref pai, .ref sol, .int 0, .ref bal, .ref leg])), (r_4, .inr (4, [.int 0, .int (-1), .int 0, .ref bal])), (r_10, .inr (4, [.int 0, .int (-1), .int 0, .ref bal])), (r_19, .inr (4, [.int 0, .int (-1), .int 0, .ref bal])), (r_28, .inr (4, [.int 0, .int (-1), .int 0, .ref bal])), (r_37, .inr (4, [.int 0, .int (-1), .int 0, .ref bal])), (r_42, .inr (4, [.int 0, .int (-1), .int 0, .ref bal])), (r_51, .inr (4, [.int 0, .int (-1), .int 0, .ref bal])), (r_60, .inr (4, [.int 0, .int (-1), .int 0, .ref bal])), (r_65, .inr (4, [.int 0, .int (-1), .int 0, .ref bal]))] := hD
  have hR := en_R hR0 hN0 hS
  refine lv_iconst (v := 0) hx hb dX18_winner_157 (by decide) ?_
  refine W.widen (k := 9) (n := 36) (Nat.le_of_ble_eq_true rfl) (Nat.le_of_ble_eq_true rfl) ?_
  exact W.zret (v := 0) hx hb hr (by first | rfl | decide +kernel) (fun t ht hW => ⟨⟨0, ⟨1, [.ref stu, .ref cla, .ref pic, .ref act, .int 5, .int 50, .ref nts, .ref isn, .int 1600, .ref boa, .ref mas, .ref pai, .ref sol, .int 0, .ref bal, .ref leg]⟩, rfl, (z_c_isEmpty0_22), cB.mk ht hW (hP.sub [0] rfl) (hK.sub [] rfl) (hD.sub [0] (by decide) rfl) (trivial)⟩, hS.F ht⟩) hS.2.2 dX18_winner_158
