theorem dX9_init_0 : decode cX9_init 0 = .ok (.aload_n 0, 1) := by decide +kernel
theorem dX9_init_1 : decode cX9_init 1 = .ok (.invokespecial 3, 3) := by decide +kernel
theorem dX9_init_4 : decode cX9_init 4 = .ok (.aload_n 0, 1) := by decide +kernel
theorem dX9_init_5 : decode cX9_init 5 = .ok (.iload_n 1, 1) := by decide +kernel
theorem dX9_init_6 : decode cX9_init 6 = .ok (.putfield 9, 3) := by decide +kernel
theorem dX9_init_9 : decode cX9_init 9 = .ok (.aload_n 0, 1) := by decide +kernel
theorem dX9_init_10 : decode cX9_init 10 = .ok (.iload_n 2, 1) := by decide +kernel
theorem dX9_init_11 : decode cX9_init 11 = .ok (.putfield 15, 3) := by decide +kernel
theorem dX9_init_14 : decode cX9_init 14 = .ok (.return_, 1) := by decide +kernel
theorem dX10_add_0 : decode cX10_add 0 = .ok (.iconst 3, 1) := by decide +kernel
theorem dX10_add_1 : decode cX10_add 1 = .ok (.iload_n 1, 1) := by decide +kernel
theorem dX10_add_2 : decode cX10_add 2 = .ok (.isub, 1) := by decide +kernel
theorem dX10_add_3 : decode cX10_add 3 = .ok (.iload_n 2, 1) := by decide +kernel
theorem dX10_add_4 : decode cX10_add 4 = .ok (.isub, 1) := by decide +kernel
theorem dX10_add_5 : decode cX10_add 5 = .ok (.istore_n 3, 1) := by decide +kernel
theorem dX10_add_6 : decode cX10_add 6 = .ok (.aload_n 0, 1) := by decide +kernel
theorem dX10_add_7 : decode cX10_add 7 = .ok (.getfield 9, 3) := by decide +kernel
theorem dX10_add_10 : decode cX10_add 10 = .ok (.iload_n 1, 1) := by decide +kernel
theorem dX10_add_11 : decode cX10_add 11 = .ok (.iconst 3, 1) := by decide +kernel
theorem dX10_add_12 : decode cX10_add 12 = .ok (.imul, 1) := by decide +kernel
theorem dX10_add_13 : decode cX10_add 13 = .ok (.iload_n 2, 1) := by decide +kernel
theorem dX10_add_14 : decode cX10_add 14 = .ok (.iadd, 1) := by decide +kernel
theorem dX10_add_15 : decode cX10_add 15 = .ok (.dup2, 1) := by decide +kernel
theorem dX10_add_16 : decode cX10_add 16 = .ok (.iaload, 1) := by decide +kernel
theorem dX10_add_17 : decode cX10_add 17 = .ok (.iconst 1, 1) := by decide +kernel
theorem dX10_add_18 : decode cX10_add 18 = .ok (.iadd, 1) := by decide +kernel
theorem dX10_add_19 : decode cX10_add 19 = .ok (.iastore, 1) := by decide +kernel
theorem dX10_add_20 : decode cX10_add 20 = .ok (.aload_n 0, 1) := by decide +kernel
theorem dX10_add_21 : decode cX10_add 21 = .ok (.getfield 9, 3) := by decide +kernel
theorem dX10_add_24 : decode cX10_add 24 = .ok (.iload_n 1, 1) := by decide +kernel
theorem dX10_add_25 : decode cX10_add 25 = .ok (.iconst 3, 1) := by decide +kernel
theorem dX10_add_26 : decode cX10_add 26 = .ok (.imul, 1) := by decide +kernel
theorem dX10_add_27 : decode cX10_add 27 = .ok (.iload_n 3, 1) := by decide +kernel
theorem dX10_add_28 : decode cX10_add 28 = .ok (.iadd, 1) := by decide +kernel
theorem dX10_add_29 : decode cX10_add 29 = .ok (.dup2, 1) := by decide +kernel
theorem dX10_add_30 : decode cX10_add 30 = .ok (.iaload, 1) := by decide +kernel
theorem dX10_add_31 : decode cX10_add 31 = .ok (.iconst 1, 1) := by decide +kernel
theorem dX10_add_32 : decode cX10_add 32 = .ok (.iadd, 1) := by decide +kernel
theorem dX10_add_33 : decode cX10_add 33 = .ok (.iastore, 1) := by decide +kernel
theorem dX10_add_34 : decode cX10_add 34 = .ok (.aload_n 0, 1) := by decide +kernel
theorem dX10_add_35 : decode cX10_add 35 = .ok (.getfield 9, 3) := by decide +kernel
theorem dX10_add_38 : decode cX10_add 38 = .ok (.iload_n 2, 1) := by decide +kernel
theorem dX10_add_39 : decode cX10_add 39 = .ok (.iconst 3, 1) := by decide +kernel
theorem dX10_add_40 : decode cX10_add 40 = .ok (.imul, 1) := by decide +kernel
theorem dX10_add_41 : decode cX10_add 41 = .ok (.iload_n 3, 1) := by decide +kernel
theorem dX10_add_42 : decode cX10_add 42 = .ok (.iadd, 1) := by decide +kernel
theorem dX10_add_43 : decode cX10_add 43 = .ok (.dup2, 1) := by decide +kernel
theorem dX10_add_44 : decode cX10_add 44 = .ok (.iaload, 1) := by decide +kernel
theorem dX10_add_45 : decode cX10_add 45 = .ok (.iconst 1, 1) := by decide +kernel
theorem dX10_add_46 : decode cX10_add 46 = .ok (.iadd, 1) := by decide +kernel
theorem dX10_add_47 : decode cX10_add 47 = .ok (.iastore, 1) := by decide +kernel
theorem dX10_add_48 : decode cX10_add 48 = .ok (.aload_n 0, 1) := by decide +kernel
theorem dX10_add_49 : decode cX10_add 49 = .ok (.dup, 1) := by decide +kernel
theorem dX10_add_50 : decode cX10_add 50 = .ok (.getfield 15, 3) := by decide +kernel
theorem dX10_add_53 : decode cX10_add 53 = .ok (.iconst 1, 1) := by decide +kernel
theorem dX10_add_54 : decode cX10_add 54 = .ok (.iadd, 1) := by decide +kernel
theorem dX10_add_55 : decode cX10_add 55 = .ok (.putfield 15, 3) := by decide +kernel
theorem dX10_add_58 : decode cX10_add 58 = .ok (.aload_n 0, 1) := by decide +kernel
theorem dX10_add_59 : decode cX10_add 59 = .ok (.getfield 15, 3) := by decide +kernel
theorem dX10_add_62 : decode cX10_add 62 = .ok (.ireturn, 1) := by decide +kernel
theorem dX11_ballot_0 : decode cX11_ballot 0 = .ok (.ldc_w 369, 3) := by decide +kernel
theorem dX11_ballot_3 : decode cX11_ballot 3 = .ok (.iload_n 1, 1) := by decide +kernel
theorem dX11_ballot_4 : decode cX11_ballot 4 = .ok (.invokevirtual 81, 3) := by decide +kernel
theorem dX11_ballot_7 : decode cX11_ballot 7 = .ok (.istore_n 3, 1) := by decide +kernel
theorem dX11_ballot_8 : decode cX11_ballot 8 = .ok (.ldc_w 369, 3) := by decide +kernel
theorem dX11_ballot_11 : decode cX11_ballot 11 = .ok (.iload_n 2, 1) := by decide +kernel
theorem dX11_ballot_12 : decode cX11_ballot 12 = .ok (.invokevirtual 81, 3) := by decide +kernel
theorem dX11_ballot_15 : decode cX11_ballot 15 = .ok (.istore 4, 2) := by decide +kernel
theorem dX11_ballot_17 : decode cX11_ballot 17 = .ok (.iload_n 3, 1) := by decide +kernel
theorem dX11_ballot_18 : decode cX11_ballot 18 = .ok (.ifCond .lt 18, 3) := by decide +kernel
theorem dX11_ballot_36 : decode cX11_ballot 36 = .ok (.iconst 0, 1) := by decide +kernel
theorem dX11_ballot_37 : decode cX11_ballot 37 = .ok (.invokestatic 87, 3) := by decide +kernel
theorem dX11_ballot_21 : decode cX11_ballot 21 = .ok (.iload 4, 2) := by decide +kernel
theorem dX11_ballot_23 : decode cX11_ballot 23 = .ok (.ifCond .lt 13, 3) := by decide +kernel
theorem dX11_ballot_26 : decode cX11_ballot 26 = .ok (.iload_n 3, 1) := by decide +kernel
theorem dX11_ballot_27 : decode cX11_ballot 27 = .ok (.iload 4, 2) := by decide +kernel
theorem dX11_ballot_29 : decode cX11_ballot 29 = .ok (.if_icmp .eq 7, 3) := by decide +kernel
theorem dX11_ballot_32 : decode cX11_ballot 32 = .ok (.iconst 1, 1) := by decide +kernel
theorem dX11_ballot_33 : decode cX11_ballot 33 = .ok (.goto 4, 3) := by decide +kernel
theorem dX11_ballot_40 : decode cX11_ballot 40 = .ok (.aload_n 0, 1) := by decide +kernel
theorem dX11_ballot_41 : decode cX11_ballot 41 = .ok (.getfield 39, 3) := by decide +kernel
theorem dX11_ballot_44 : decode cX11_ballot 44 = .ok (.getfield 371, 3) := by decide +kernel
theorem dX11_ballot_47 : decode cX11_ballot 47 = .ok (.bipush 9, 2) := by decide +kernel
theorem dX11_ballot_49 : decode cX11_ballot 49 = .ok (.if_icmp .ge 7, 3) := by decide +kernel
theorem dX11_ballot_52 : decode cX11_ballot 52 = .ok (.iconst 1, 1) := by decide +kernel
theorem dX11_ballot_53 : decode cX11_ballot 53 = .ok (.goto 4, 3) := by decide +kernel
theorem dX11_ballot_57 : decode cX11_ballot 57 = .ok (.invokestatic 99, 3) := by decide +kernel
theorem dX11_ballot_60 : decode cX11_ballot 60 = .ok (.aload_n 0, 1) := by decide +kernel
theorem dX11_ballot_61 : decode cX11_ballot 61 = .ok (.getfield 39, 3) := by decide +kernel
theorem dX11_ballot_64 : decode cX11_ballot 64 = .ok (.iload_n 3, 1) := by decide +kernel
theorem dX11_ballot_65 : decode cX11_ballot 65 = .ok (.iload 4, 2) := by decide +kernel
theorem dX11_ballot_67 : decode cX11_ballot 67 = .ok (.invokevirtual 374, 3) := by decide +kernel
theorem dX11_ballot_70 : decode cX11_ballot 70 = .ok (.ireturn, 1) := by decide +kernel
theorem dJ6_bitCount_0f7a4_0 : decode cJ6_bitCount_0f7a4 0 = .ok (.iload_n 0, 1) := by decide +kernel
theorem dJ6_bitCount_0f7a4_1 : decode cJ6_bitCount_0f7a4 1 = .ok (.iload_n 0, 1) := by decide +kernel
theorem dJ6_bitCount_0f7a4_2 : decode cJ6_bitCount_0f7a4 2 = .ok (.iconst 1, 1) := by decide +kernel
theorem dJ6_bitCount_0f7a4_3 : decode cJ6_bitCount_0f7a4 3 = .ok (.iushr, 1) := by decide +kernel
theorem dJ6_bitCount_0f7a4_4 : decode cJ6_bitCount_0f7a4 4 = .ok (.ldc_w 265, 3) := by decide +kernel
theorem dJ6_bitCount_0f7a4_7 : decode cJ6_bitCount_0f7a4 7 = .ok (.iand, 1) := by decide +kernel
theorem dJ6_bitCount_0f7a4_8 : decode cJ6_bitCount_0f7a4 8 = .ok (.isub, 1) := by decide +kernel
theorem dJ6_bitCount_0f7a4_9 : decode cJ6_bitCount_0f7a4 9 = .ok (.istore_n 0, 1) := by decide +kernel
theorem dJ6_bitCount_0f7a4_10 : decode cJ6_bitCount_0f7a4 10 = .ok (.iload_n 0, 1) := by decide +kernel
theorem dJ6_bitCount_0f7a4_11 : decode cJ6_bitCount_0f7a4 11 = .ok (.ldc_w 266, 3) := by decide +kernel
theorem dJ6_bitCount_0f7a4_14 : decode cJ6_bitCount_0f7a4 14 = .ok (.iand, 1) := by decide +kernel
theorem dJ6_bitCount_0f7a4_15 : decode cJ6_bitCount_0f7a4 15 = .ok (.iload_n 0, 1) := by decide +kernel
theorem dJ6_bitCount_0f7a4_16 : decode cJ6_bitCount_0f7a4 16 = .ok (.iconst 2, 1) := by decide +kernel
theorem dJ6_bitCount_0f7a4_17 : decode cJ6_bitCount_0f7a4 17 = .ok (.iushr, 1) := by decide +kernel
theorem dJ6_bitCount_0f7a4_18 : decode cJ6_bitCount_0f7a4 18 = .ok (.ldc_w 266, 3) := by decide +kernel
theorem dJ6_bitCount_0f7a4_21 : decode cJ6_bitCount_0f7a4 21 = .ok (.iand, 1) := by decide +kernel
theorem dJ6_bitCount_0f7a4_22 : decode cJ6_bitCount_0f7a4 22 = .ok (.iadd, 1) := by decide +kernel
theorem dJ6_bitCount_0f7a4_23 : decode cJ6_bitCount_0f7a4 23 = .ok (.istore_n 0, 1) := by decide +kernel
theorem dJ6_bitCount_0f7a4_24 : decode cJ6_bitCount_0f7a4 24 = .ok (.iload_n 0, 1) := by decide +kernel
theorem dJ6_bitCount_0f7a4_25 : decode cJ6_bitCount_0f7a4 25 = .ok (.iload_n 0, 1) := by decide +kernel
theorem dJ6_bitCount_0f7a4_26 : decode cJ6_bitCount_0f7a4 26 = .ok (.iconst 4, 1) := by decide +kernel
theorem dJ6_bitCount_0f7a4_27 : decode cJ6_bitCount_0f7a4 27 = .ok (.iushr, 1) := by decide +kernel
theorem dJ6_bitCount_0f7a4_28 : decode cJ6_bitCount_0f7a4 28 = .ok (.iadd, 1) := by decide +kernel
theorem dJ6_bitCount_0f7a4_29 : decode cJ6_bitCount_0f7a4 29 = .ok (.ldc_w 267, 3) := by decide +kernel
theorem dJ6_bitCount_0f7a4_32 : decode cJ6_bitCount_0f7a4 32 = .ok (.iand, 1) := by decide +kernel
theorem dJ6_bitCount_0f7a4_33 : decode cJ6_bitCount_0f7a4 33 = .ok (.istore_n 0, 1) := by decide +kernel
theorem dJ6_bitCount_0f7a4_34 : decode cJ6_bitCount_0f7a4 34 = .ok (.iload_n 0, 1) := by decide +kernel
theorem dJ6_bitCount_0f7a4_35 : decode cJ6_bitCount_0f7a4 35 = .ok (.iload_n 0, 1) := by decide +kernel
theorem dJ6_bitCount_0f7a4_36 : decode cJ6_bitCount_0f7a4 36 = .ok (.bipush 8, 2) := by decide +kernel
theorem dJ6_bitCount_0f7a4_38 : decode cJ6_bitCount_0f7a4 38 = .ok (.iushr, 1) := by decide +kernel
theorem dJ6_bitCount_0f7a4_39 : decode cJ6_bitCount_0f7a4 39 = .ok (.iadd, 1) := by decide +kernel
theorem dJ6_bitCount_0f7a4_40 : decode cJ6_bitCount_0f7a4 40 = .ok (.istore_n 0, 1) := by decide +kernel
theorem dJ6_bitCount_0f7a4_41 : decode cJ6_bitCount_0f7a4 41 = .ok (.iload_n 0, 1) := by decide +kernel
theorem dJ6_bitCount_0f7a4_42 : decode cJ6_bitCount_0f7a4 42 = .ok (.iload_n 0, 1) := by decide +kernel
theorem dJ6_bitCount_0f7a4_43 : decode cJ6_bitCount_0f7a4 43 = .ok (.bipush 16, 2) := by decide +kernel
theorem dJ6_bitCount_0f7a4_45 : decode cJ6_bitCount_0f7a4 45 = .ok (.iushr, 1) := by decide +kernel
theorem dJ6_bitCount_0f7a4_46 : decode cJ6_bitCount_0f7a4 46 = .ok (.iadd, 1) := by decide +kernel
theorem dJ6_bitCount_0f7a4_47 : decode cJ6_bitCount_0f7a4 47 = .ok (.istore_n 0, 1) := by decide +kernel
theorem dJ6_bitCount_0f7a4_48 : decode cJ6_bitCount_0f7a4 48 = .ok (.iload_n 0, 1) := by decide +kernel
theorem dJ6_bitCount_0f7a4_49 : decode cJ6_bitCount_0f7a4 49 = .ok (.bipush 63, 2) := by decide +kernel
theorem dJ6_bitCount_0f7a4_51 : decode cJ6_bitCount_0f7a4 51 = .ok (.iand, 1) := by decide +kernel
theorem dJ6_bitCount_0f7a4_52 : decode cJ6_bitCount_0f7a4 52 = .ok (.ireturn, 1) := by decide +kernel
theorem dX11_threads_0 : decode cX11_threads 0 = .ok (.iload_n 1, 1) := by decide +kernel
theorem dX11_threads_1 : decode cX11_threads 1 = .ok (.iconst 0, 1) := by decide +kernel
theorem dX11_threads_2 : decode cX11_threads 2 = .ok (.ldc_w 363, 3) := by decide +kernel
theorem dX11_threads_5 : decode cX11_threads 5 = .ok (.invokestatic 91, 3) := by decide +kernel
theorem dX11_threads_8 : decode cX11_threads 8 = .ok (.invokestatic 87, 3) := by decide +kernel
theorem dX11_threads_11 : decode cX11_threads 11 = .ok (.iload_n 1, 1) := by decide +kernel
theorem dX11_threads_12 : decode cX11_threads 12 = .ok (.invokestatic 364, 3) := by decide +kernel
theorem dX11_threads_15 : decode cX11_threads 15 = .ok (.iload_n 1, 1) := by decide +kernel
theorem dX11_threads_16 : decode cX11_threads 16 = .ok (.iload_n 1, 1) := by decide +kernel
theorem dX11_threads_17 : decode cX11_threads 17 = .ok (.iconst 1, 1) := by decide +kernel
theorem dX11_threads_18 : decode cX11_threads 18 = .ok (.ishr, 1) := by decide +kernel
theorem dX11_threads_19 : decode cX11_threads 19 = .ok (.iand, 1) := by decide +kernel
theorem dX11_threads_20 : decode cX11_threads 20 = .ok (.invokestatic 364, 3) := by decide +kernel
theorem dX11_threads_23 : decode cX11_threads 23 = .ok (.iadd, 1) := by decide +kernel
theorem dX11_threads_24 : decode cX11_threads 24 = .ok (.ireturn, 1) := by decide +kernel
theorem dX5_sumUp_0 : decode cX5_sumUp 0 = .ok (.ldc2_w 218, 3) := by decide +kernel
theorem dX5_sumUp_3 : decode cX5_sumUp 3 = .ok (.lstore_n 1, 1) := by decide +kernel
theorem dX5_sumUp_4 : decode cX5_sumUp 4 = .ok (.iconst 0, 1) := by decide +kernel
theorem dX5_sumUp_5 : decode cX5_sumUp 5 = .ok (.istore_n 3, 1) := by decide +kernel
theorem dX5_sumUp_6 : decode cX5_sumUp 6 = .ok (.iload_n 3, 1) := by decide +kernel
theorem dX5_sumUp_7 : decode cX5_sumUp 7 = .ok (.bipush 48, 2) := by decide +kernel
theorem dX5_sumUp_9 : decode cX5_sumUp 9 = .ok (.if_icmp .ge 92, 3) := by decide +kernel
theorem dX5_sumUp_101 : decode cX5_sumUp 101 = .ok (.iconst 0, 1) := by decide +kernel
theorem dX5_sumUp_102 : decode cX5_sumUp 102 = .ok (.istore_n 3, 1) := by decide +kernel
theorem dX5_sumUp_103 : decode cX5_sumUp 103 = .ok (.iload_n 3, 1) := by decide +kernel
theorem dX5_sumUp_104 : decode cX5_sumUp 104 = .ok (.bipush 48, 2) := by decide +kernel
theorem dX5_sumUp_106 : decode cX5_sumUp 106 = .ok (.if_icmp .ge 26, 3) := by decide +kernel
theorem dX5_sumUp_132 : decode cX5_sumUp 132 = .ok (.lload_n 1, 1) := by decide +kernel
theorem dX5_sumUp_133 : decode cX5_sumUp 133 = .ok (.lreturn, 1) := by decide +kernel
theorem dX5_sumUp_109 : decode cX5_sumUp 109 = .ok (.ldc2_w 224, 3) := by decide +kernel
theorem dX5_sumUp_112 : decode cX5_sumUp 112 = .ok (.lload_n 1, 1) := by decide +kernel
theorem dX5_sumUp_113 : decode cX5_sumUp 113 = .ok (.lmul, 1) := by decide +kernel
theorem dX5_sumUp_114 : decode cX5_sumUp 114 = .ok (.aload_n 0, 1) := by decide +kernel
theorem dX5_sumUp_115 : decode cX5_sumUp 115 = .ok (.getfield 11, 3) := by decide +kernel
theorem dX5_sumUp_118 : decode cX5_sumUp 118 = .ok (.iload_n 3, 1) := by decide +kernel
theorem dX5_sumUp_119 : decode cX5_sumUp 119 = .ok (.aaload, 1) := by decide +kernel
theorem dX5_sumUp_120 : decode cX5_sumUp 120 = .ok (.getfield 202, 3) := by decide +kernel
theorem dX5_sumUp_123 : decode cX5_sumUp 123 = .ok (.i2l, 1) := by decide +kernel
theorem dX5_sumUp_124 : decode cX5_sumUp 124 = .ok (.ladd, 1) := by decide +kernel
theorem dX5_sumUp_125 : decode cX5_sumUp 125 = .ok (.lstore_n 1, 1) := by decide +kernel
theorem dX5_sumUp_126 : decode cX5_sumUp 126 = .ok (.iinc 3 1, 3) := by decide +kernel
theorem dX5_sumUp_129 : decode cX5_sumUp 129 = .ok (.goto (-26), 3) := by decide +kernel
theorem dX5_sumUp_12 : decode cX5_sumUp 12 = .ok (.iconst 0, 1) := by decide +kernel
theorem dX5_sumUp_13 : decode cX5_sumUp 13 = .ok (.istore 4, 2) := by decide +kernel
theorem dX5_sumUp_15 : decode cX5_sumUp 15 = .ok (.iload 4, 2) := by decide +kernel
theorem dX5_sumUp_17 : decode cX5_sumUp 17 = .ok (.aload_n 0, 1) := by decide +kernel
theorem dX5_sumUp_18 : decode cX5_sumUp 18 = .ok (.getfield 11, 3) := by decide +kernel
theorem dX5_sumUp_21 : decode cX5_sumUp 21 = .ok (.iload_n 3, 1) := by decide +kernel
theorem dX5_sumUp_22 : decode cX5_sumUp 22 = .ok (.aaload, 1) := by decide +kernel
theorem dX5_sumUp_23 : decode cX5_sumUp 23 = .ok (.getfield 91, 3) := by decide +kernel
theorem dX5_sumUp_26 : decode cX5_sumUp 26 = .ok (.if_icmp .ge 69, 3) := by decide +kernel
theorem dX5_sumUp_95 : decode cX5_sumUp 95 = .ok (.iinc 3 1, 3) := by decide +kernel
theorem dX5_sumUp_98 : decode cX5_sumUp 98 = .ok (.goto (-92), 3) := by decide +kernel
theorem dX11_checksum_0 : decode cX11_checksum 0 = .ok (.aload_n 0, 1) := by decide +kernel
theorem dX11_checksum_1 : decode cX11_checksum 1 = .ok (.getfield 62, 3) := by decide +kernel
theorem dX11_checksum_4 : decode cX11_checksum 4 = .ok (.invokevirtual 406, 3) := by decide +kernel
theorem dX11_checksum_7 : decode cX11_checksum 7 = .ok (.lreturn, 1) := by decide +kernel

def wo_c_X9_init_w : List Cond := [Cond.methodLink RX9 3 objectInit, Cond.instanceMethod objectInit, Cond.code objectInit ⟨#[0xb1]⟩ 1 none, Cond.fieldLink RX9 9 "Underpaint$Stuff" "number" "I", Cond.fieldLink RX9 15 "Underpaint$Stuff" "kind" "C"]
def wo_c_X9_init : List Cond := .code yX9_init cX9_init 3 none :: (wo_c_X9_init_w ++ (u_ws RX9 TX9 11 ++ List.nil))
theorem gw_wo_c_X9_init : wo_c_X9_init.all goodWord = true := gw_c (by decide +kernel) (gw_a (by decide +kernel) (gw_a (by decide +kernel) rfl))
set_option maxHeartbeats 4000000 in
set_option maxRecDepth 100000 in
/-- Stuff(number, kind) -/
theorem c_X9_init (l : Launch) (dC : Nat → ClassId) (dI : Nat → Nat → Nat) (b0 : Nat) (en : EnT) (sz : Nat) (q : Nat) (n c9 : Int32) (hnar_c9 : narrow .char (.int c9) = .int c9) (hfit_c9 : fits .char (.int c9) = true) : Met l yX9_init wo_c_X9_init ({ frames := 1, cells := 0, slots := 0, locals := 30 } : Room) (cP b0 en (dC, dI) [] [(q, .inr (15, [.int 0, .int 0, .int 0, .int 0, .int 0, .int 0, .int 0, .int 0, .int 0, .int 0, .int 0]))] [] sz (fun _ => True) [.ref q, .int n, .int c9]) (va_Qv (fun u : Unit => True) (fun u t => cB (dC, dI) [] [(q, .inr (15, [.int n, .int c9, .int 0, .int 0, .int 0, .int 0, .int 0, .int 0, .int 0, .int 0, .int 0]))] (va_A [(q, .inr (15, [.int 0, .int 0, .int 0, .int 0, .int 0, .int 0, .int 0, .int 0, .int 0, .int 0, .int 0]))] sz) (fun _ => True) t) (va_A [(q, .inr (15, [.int 0, .int 0, .int 0, .int 0, .int 0, .int 0, .int 0, .int 0, .int 0, .int 0, .int 0]))] sz)) 0 0 (va_A [(q, .inr (15, [.int 0, .int 0, .int 0, .int 0, .int 0, .int 0, .int 0, .int 0, .int 0, .int 0, .int 0]))] sz) := by
  refine Met.ofW (cc := cX9_init) (maxL := 3) (ret := none) (by decide) rfl ?_
  intro p e s m args below meth c s₁ B hml hv
  obtain ⟨rfl, hsz, hb0, hE, hPP, hK, hDD, hF0⟩ := hv
  have hx := B.exec
  have hb := B.bytes
  have hr := B.returns
  have hts := atoms_spec (ws := wo_c_X9_init) B.pre
  have hown : s.vm.findClass RX9 = some m.cls := findClass_of_methodNamed B.named
  have hlocks := B.notSynchronized
  have hin : meth.name = "<init>" := (name_of_methodNamed B.named B.method).1
  subst hsz
  have hN0 := en_N hPP hDD rfl
  have hP : va_P (dC, dI) vwCl [(q, .inr (15, [.int 0, .int 0, .int 0, .int 0, .int 0, .int 0, .int 0, .int 0, .int 0, .int 0, .int 0]))] s.heap := hPP.sub [0] rfl
  have hR0 : va_P (dC, dI) vwCl [] s.heap := hPP.sub [] rfl
  have hD0 : va_D (fun q => b0 ≤ q) [(q, .inr (15, [.int 0, .int 0, .int 0, .int 0, .int 0, .int 0, .int 0, .int 0, .int 0, .int 0, .int 0]))] := hDD.sub [0] (by decide) rfl
  have hDr : va_D (fun q => b0 ≤ q) [] := hDD.sub [] (by decide) rfl
  have hAb := en_A (sz := s.heap.size) hD0 hb0
  have hD := hD0.self (sz := s.heap.size)
  generalize hAe : va_A [(q, .inr (15, [.int 0, .int 0, .int 0, .int 0, .int 0, .int 0, .int 0, .int 0, .int 0, .int 0, .int 0]))] s.heap.size = A at hD hAb hN0 ⊢
  have hA : ∀ q : Nat, s.heap.size ≤ q → A q := fun q h => by rw [← hAe]; exact Or.inr h
  have hS : va_S A s.heap s.heap [] := va_S.rf
  have hR := hR0
  have hl := lv_entry [.ref q, .int n, .int c9] (n := 3) (Nat.le_of_ble_eq_true rfl)
  rw [lg_entry_eq]
  generalize (lg_sl [.ref q, .int n, .int c9] ++ List.replicate (3 - (lg_sl [.ref q, .int n, .int c9]).length) Slot.unset).toArray = ls at hl ⊢
  have hl : lv_has ls 3 [(0, .ref q), (1, .int n), (2, .int c9)] := hl
  refine lv_aload_n hx hb dX9_init_0 rfl (lv_at hl 0 rfl) ?_
  refine W.objInit hx hb hown (hts (.methodLink RX9 3 objectInit) (by decide +kernel)) (hts (.instanceMethod objectInit) (by decide +kernel)) (hts (.code objectInit ⟨#[0xb1]⟩ 1 none) (by decide +kernel)) rfl (by rw [hml]; exact hl.1) rfl dX9_init_1 (Nat.le_of_ble_eq_true rfl) (Nat.le_of_ble_eq_true rfl) ?_
  refine lv_aload_n hx hb dX9_init_4 rfl (lv_at hl 0 rfl) ?_
  refine lv_iload_n hx hb dX9_init_5 rfl (lv_at hl 1 rfl) ?_
  refine va_putF (D := (dC, dI)) (ci := 15) (v := .int n) (ty := .int) (C := RX9) (T := TX9) (N := 11) hx hb hts (by decide +kernel) tyX9 tyX9_ok nmX9 hown hK hP hD hS 0 rfl rfl 0 (by decide) (hts (.fieldLink RX9 9 "Underpaint$Stuff" "number" "I") (by decide +kernel)) (fun _ h9 => h9) rfl hin rfl (by decide +kernel) rfl rfl (Nat.le_of_ble_eq_true rfl) dX9_init_6 (fun H locs hP hD hS => ?_)
  have hP : va_P (dC, dI) vwCl [(q, .inr (15, [.int n, .int 0, .int 0, .int 0, .int 0, .int 0, .int 0, .int 0, .int 0, .int 0, .int 0]))] H := hP
  have hD : va_D A [(q, .inr (15, [.int n, .int 0, .int 0, .int 0, .int 0, .int 0, .int 0, .int 0, .int 0, .int 0, .int 0]))] := hD
  have hR : va_P (dC, dI) vwCl [] H := fun k q h => by simp at h
  refine lv_aload_n hx hb dX9_init_9 rfl (lv_at hl 0 rfl) ?_
  refine lv_iload_n hx hb dX9_init_10 rfl (lv_at hl 2 rfl) ?_
  refine va_putF (D := (dC, dI)) (ci := 15) (v := .int c9) (ty := .char) (C := RX9) (T := TX9) (N := 11) hx hb hts (by decide +kernel) tyX9 tyX9_ok nmX9 hown hK hP hD hS 0 rfl rfl 1 (by decide) (hts (.fieldLink RX9 15 "Underpaint$Stuff" "kind" "C") (by decide +kernel)) (fun _ h9 => h9) rfl hin rfl (by decide +kernel) hnar_c9 hfit_c9 (Nat.le_of_ble_eq_true rfl) dX9_init_11 (fun H locs hP hD hS => ?_)
  have hP : va_P (dC, dI) vwCl [(q, .inr (15, [.int n, .int c9, .int 0, .int 0, .int 0, .int 0, .int 0, .int 0, .int 0, .int 0, .int 0]))] H := hP
  have hD : va_D A [(q, .inr (15, [.int n, .int c9, .int 0, .int 0, .int 0, .int 0, .int 0, .int 0, .int 0, .int 0, .int 0]))] := hD
  have hR : va_P (dC, dI) vwCl [] H := fun k q h => by simp at h
  refine W.widen (k := 0) (n := 0) (Nat.le_of_ble_eq_true rfl) (Nat.le_of_ble_eq_true rfl) ?_
  exact W.vret hx hb hr (fun t ht hW => ⟨⟨(), rfl, trivial, cB.mk ht hW (hP.sub [0] rfl) (hK.sub [] rfl) (hD.sub [0] (by decide) rfl) (trivial)⟩, hS.F ht⟩) hS.2.2 dX9_init_14
theorem bal_ix {a b : Int32} (ha : 0 ≤ ixL 2 a) (hb : 0 ≤ ixL 2 b) (h : ¬ ixL 2 a = ixL 2 b) : (ixL 2 a = 0 ∧ ixL 2 b = 1) ∨ (ixL 2 a = 0 ∧ ixL 2 b = 2) ∨ (ixL 2 a = 1 ∧ ixL 2 b = 0) ∨ (ixL 2 a = 1 ∧ ixL 2 b = 2) ∨ (ixL 2 a = 2 ∧ ixL 2 b = 0) ∨ (ixL 2 a = 2 ∧ ixL 2 b = 1) := by
  have k : ∀ v : Int32, 0 ≤ ixL 2 v → ixL 2 v = 0 ∨ ixL 2 v = 1 ∨ ixL 2 v = 2 := by
    intro v hv
    rw [ixL2] at hv ⊢
    split
    · exact Or.inl rfl
    · split
      · exact Or.inr (Or.inl rfl)
      · split
        · exact Or.inr (Or.inr rfl)
        · next h1 h2 h3 => rw [if_neg h1, if_neg h2, if_neg h3] at hv; exact absurd hv (by decide)
  rcases k a ha with h1 | h1 | h1 <;> rcases k b hb with h2 | h2 | h2 <;> rw [h1, h2] at h ⊢ <;> first | exact absurd rfl h | decide
theorem z_c_X10_add_367 (a : Int32) (b : Int32) (x_1 : Int32) (x_2 : Int32) (x_3 : Int32) (x_4 : Int32) (a_0 : (a = 0 ∧ b = 1) ∨ (a = 0 ∧ b = 2) ∨ (a = 1 ∧ b = 0) ∨ (a = 1 ∧ b = 2) ∨ (a = 2 ∧ b = 0) ∨ (a = 2 ∧ b = 1)) (a_1 : x_1 = 3 - a) (a_2 : x_2 = x_1 - b) (a_3 : x_3 = a * 3) (a_4 : x_4 = x_3 + b) : 0 ≤ x_4 := by rcases a_0 with ⟨rfl, rfl⟩ | ⟨rfl, rfl⟩ | ⟨rfl, rfl⟩ | ⟨rfl, rfl⟩ | ⟨rfl, rfl⟩ | ⟨rfl, rfl⟩ <;> subst_vars <;> decide
theorem z_c_X10_add_368 (a : Int32) (b : Int32) (x_1 : Int32) (x_2 : Int32) (x_3 : Int32) (x_4 : Int32) (a_0 : (a = 0 ∧ b = 1) ∨ (a = 0 ∧ b = 2) ∨ (a = 1 ∧ b = 0) ∨ (a = 1 ∧ b = 2) ∨ (a = 2 ∧ b = 0) ∨ (a = 2 ∧ b = 1)) (a_1 : x_1 = 3 - a) (a_2 : x_2 = x_1 - b) (a_3 : x_3 = a * 3) (a_4 : x_4 = x_3 + b) : x_4 < 9 := by rcases a_0 with ⟨rfl, rfl⟩ | ⟨rfl, rfl⟩ | ⟨rfl, rfl⟩ | ⟨rfl, rfl⟩ | ⟨rfl, rfl⟩ | ⟨rfl, rfl⟩ <;> subst_vars <;> decide
theorem z_c_X10_add_369 (a : Int32) (b : Int32) (x_1 : Int32) (x_2 : Int32) (x_3 : Int32) (x_4 : Int32) (x_8 : Int32) (x_9 : Int32) (a_0 : (a = 0 ∧ b = 1) ∨ (a = 0 ∧ b = 2) ∨ (a = 1 ∧ b = 0) ∨ (a = 1 ∧ b = 2) ∨ (a = 2 ∧ b = 0) ∨ (a = 2 ∧ b = 1)) (a_1 : x_1 = 3 - a) (a_2 : x_2 = x_1 - b) (a_3 : x_3 = a * 3) (a_4 : x_4 = x_3 + b) (a_5 : x_8 = a * 3) (a_6 : x_9 = x_8 + x_2) : 0 ≤ x_9 := by rcases a_0 with ⟨rfl, rfl⟩ | ⟨rfl, rfl⟩ | ⟨rfl, rfl⟩ | ⟨rfl, rfl⟩ | ⟨rfl, rfl⟩ | ⟨rfl, rfl⟩ <;> subst_vars <;> decide
theorem z_c_X10_add_370 (a : Int32) (b : Int32) (x_1 : Int32) (x_2 : Int32) (x_3 : Int32) (x_4 : Int32) (x_8 : Int32) (x_9 : Int32) (a_0 : (a = 0 ∧ b = 1) ∨ (a = 0 ∧ b = 2) ∨ (a = 1 ∧ b = 0) ∨ (a = 1 ∧ b = 2) ∨ (a = 2 ∧ b = 0) ∨ (a = 2 ∧ b = 1)) (a_1 : x_1 = 3 - a) (a_2 : x_2 = x_1 - b) (a_3 : x_3 = a * 3) (a_4 : x_4 = x_3 + b) (a_5 : x_8 = a * 3) (a_6 : x_9 = x_8 + x_2) : x_9 < 9 := by rcases a_0 with ⟨rfl, rfl⟩ | ⟨rfl, rfl⟩ | ⟨rfl, rfl⟩ | ⟨rfl, rfl⟩ | ⟨rfl, rfl⟩ | ⟨rfl, rfl⟩ <;> subst_vars <;> decide
theorem z_c_X10_add_371 (a : Int32) (b : Int32) (x_1 : Int32) (x_2 : Int32) (x_3 : Int32) (x_4 : Int32) (f_7 : Nat → Int32) (x_8 : Int32) (x_9 : Int32) (x_10 : Int32) (x_11 : Int32) (a_0 : (a = 0 ∧ b = 1) ∨ (a = 0 ∧ b = 2) ∨ (a = 1 ∧ b = 0) ∨ (a = 1 ∧ b = 2) ∨ (a = 2 ∧ b = 0) ∨ (a = 2 ∧ b = 1)) (a_1 : x_1 = 3 - a) (a_2 : x_2 = x_1 - b) (a_3 : x_3 = a * 3) (a_4 : x_4 = x_3 + b) (a_5 : x_8 = a * 3) (a_6 : x_9 = x_8 + x_2) (a_7 : x_10 = f_7 x_9.toNatClampNeg) (a_8 : x_11 = x_10 + 1) : 0 ≤ x_9 := by rcases a_0 with ⟨rfl, rfl⟩ | ⟨rfl, rfl⟩ | ⟨rfl, rfl⟩ | ⟨rfl, rfl⟩ | ⟨rfl, rfl⟩ | ⟨rfl, rfl⟩ <;> subst_vars <;> decide
theorem z_c_X10_add_372 (a : Int32) (b : Int32) (x_1 : Int32) (x_2 : Int32) (x_3 : Int32) (x_4 : Int32) (f_7 : Nat → Int32) (x_8 : Int32) (x_9 : Int32) (x_10 : Int32) (x_11 : Int32) (a_0 : (a = 0 ∧ b = 1) ∨ (a = 0 ∧ b = 2) ∨ (a = 1 ∧ b = 0) ∨ (a = 1 ∧ b = 2) ∨ (a = 2 ∧ b = 0) ∨ (a = 2 ∧ b = 1)) (a_1 : x_1 = 3 - a) (a_2 : x_2 = x_1 - b) (a_3 : x_3 = a * 3) (a_4 : x_4 = x_3 + b) (a_5 : x_8 = a * 3) (a_6 : x_9 = x_8 + x_2) (a_7 : x_10 = f_7 x_9.toNatClampNeg) (a_8 : x_11 = x_10 + 1) : x_9 < 9 := by rcases a_0 with ⟨rfl, rfl⟩ | ⟨rfl, rfl⟩ | ⟨rfl, rfl⟩ | ⟨rfl, rfl⟩ | ⟨rfl, rfl⟩ | ⟨rfl, rfl⟩ <;> subst_vars <;> decide
theorem z_c_X10_add_373 (a : Int32) (b : Int32) (x_1 : Int32) (x_2 : Int32) (x_3 : Int32) (x_4 : Int32) (f_7 : Nat → Int32) (x_8 : Int32) (x_9 : Int32) (x_10 : Int32) (x_11 : Int32) (x_13 : Int32) (x_14 : Int32) (a_0 : (a = 0 ∧ b = 1) ∨ (a = 0 ∧ b = 2) ∨ (a = 1 ∧ b = 0) ∨ (a = 1 ∧ b = 2) ∨ (a = 2 ∧ b = 0) ∨ (a = 2 ∧ b = 1)) (a_1 : x_1 = 3 - a) (a_2 : x_2 = x_1 - b) (a_3 : x_3 = a * 3) (a_4 : x_4 = x_3 + b) (a_5 : x_8 = a * 3) (a_6 : x_9 = x_8 + x_2) (a_7 : x_10 = f_7 x_9.toNatClampNeg) (a_8 : x_11 = x_10 + 1) (a_9 : x_13 = b * 3) (a_10 : x_14 = x_13 + x_2) : 0 ≤ x_14 := by rcases a_0 with ⟨rfl, rfl⟩ | ⟨rfl, rfl⟩ | ⟨rfl, rfl⟩ | ⟨rfl, rfl⟩ | ⟨rfl, rfl⟩ | ⟨rfl, rfl⟩ <;> subst_vars <;> decide
theorem z_c_X10_add_374 (a : Int32) (b : Int32) (x_1 : Int32) (x_2 : Int32) (x_3 : Int32) (x_4 : Int32) (f_7 : Nat → Int32) (x_8 : Int32) (x_9 : Int32) (x_10 : Int32) (x_11 : Int32) (x_13 : Int32) (x_14 : Int32) (a_0 : (a = 0 ∧ b = 1) ∨ (a = 0 ∧ b = 2) ∨ (a = 1 ∧ b = 0) ∨ (a = 1 ∧ b = 2) ∨ (a = 2 ∧ b = 0) ∨ (a = 2 ∧ b = 1)) (a_1 : x_1 = 3 - a) (a_2 : x_2 = x_1 - b) (a_3 : x_3 = a * 3) (a_4 : x_4 = x_3 + b) (a_5 : x_8 = a * 3) (a_6 : x_9 = x_8 + x_2) (a_7 : x_10 = f_7 x_9.toNatClampNeg) (a_8 : x_11 = x_10 + 1) (a_9 : x_13 = b * 3) (a_10 : x_14 = x_13 + x_2) : x_14 < 9 := by rcases a_0 with ⟨rfl, rfl⟩ | ⟨rfl, rfl⟩ | ⟨rfl, rfl⟩ | ⟨rfl, rfl⟩ | ⟨rfl, rfl⟩ | ⟨rfl, rfl⟩ <;> subst_vars <;> decide
theorem z_c_X10_add_375 (a : Int32) (b : Int32) (x_1 : Int32) (x_2 : Int32) (x_3 : Int32) (x_4 : Int32) (f_7 : Nat → Int32) (x_8 : Int32) (x_9 : Int32) (x_10 : Int32) (x_11 : Int32) (f_12 : Nat → Int32) (x_13 : Int32) (x_14 : Int32) (x_15 : Int32) (x_16 : Int32) (a_0 : (a = 0 ∧ b = 1) ∨ (a = 0 ∧ b = 2) ∨ (a = 1 ∧ b = 0) ∨ (a = 1 ∧ b = 2) ∨ (a = 2 ∧ b = 0) ∨ (a = 2 ∧ b = 1)) (a_1 : x_1 = 3 - a) (a_2 : x_2 = x_1 - b) (a_3 : x_3 = a * 3) (a_4 : x_4 = x_3 + b) (a_5 : x_8 = a * 3) (a_6 : x_9 = x_8 + x_2) (a_7 : x_10 = f_7 x_9.toNatClampNeg) (a_8 : x_11 = x_10 + 1) (a_9 : x_13 = b * 3) (a_10 : x_14 = x_13 + x_2) (a_11 : x_15 = f_12 x_14.toNatClampNeg) (a_12 : x_16 = x_15 + 1) : 0 ≤ x_14 := by rcases a_0 with ⟨rfl, rfl⟩ | ⟨rfl, rfl⟩ | ⟨rfl, rfl⟩ | ⟨rfl, rfl⟩ | ⟨rfl, rfl⟩ | ⟨rfl, rfl⟩ <;> subst_vars <;> decide
theorem z_c_X10_add_376 (a : Int32) (b : Int32) (x_1 : Int32) (x_2 : Int32) (x_3 : Int32) (x_4 : Int32) (f_7 : Nat → Int32) (x_8 : Int32) (x_9 : Int32) (x_10 : Int32) (x_11 : Int32) (f_12 : Nat → Int32) (x_13 : Int32) (x_14 : Int32) (x_15 : Int32) (x_16 : Int32) (a_0 : (a = 0 ∧ b = 1) ∨ (a = 0 ∧ b = 2) ∨ (a = 1 ∧ b = 0) ∨ (a = 1 ∧ b = 2) ∨ (a = 2 ∧ b = 0) ∨ (a = 2 ∧ b = 1)) (a_1 : x_1 = 3 - a) (a_2 : x_2 = x_1 - b) (a_3 : x_3 = a * 3) (a_4 : x_4 = x_3 + b) (a_5 : x_8 = a * 3) (a_6 : x_9 = x_8 + x_2) (a_7 : x_10 = f_7 x_9.toNatClampNeg) (a_8 : x_11 = x_10 + 1) (a_9 : x_13 = b * 3) (a_10 : x_14 = x_13 + x_2) (a_11 : x_15 = f_12 x_14.toNatClampNeg) (a_12 : x_16 = x_15 + 1) : x_14 < 9 := by rcases a_0 with ⟨rfl, rfl⟩ | ⟨rfl, rfl⟩ | ⟨rfl, rfl⟩ | ⟨rfl, rfl⟩ | ⟨rfl, rfl⟩ | ⟨rfl, rfl⟩ <;> subst_vars <;> decide
theorem z_c_X10_add_377 (a : Int32) (b : Int32) (x_1 : Int32) (x_2 : Int32) (x_3 : Int32) (x_4 : Int32) (f_7 : Nat → Int32) (x_8 : Int32) (x_9 : Int32) (x_10 : Int32) (x_11 : Int32) (f_12 : Nat → Int32) (x_13 : Int32) (x_14 : Int32) (x_15 : Int32) (x_16 : Int32) (a_0 : (a = 0 ∧ b = 1) ∨ (a = 0 ∧ b = 2) ∨ (a = 1 ∧ b = 0) ∨ (a = 1 ∧ b = 2) ∨ (a = 2 ∧ b = 0) ∨ (a = 2 ∧ b = 1)) (a_1 : x_1 = 3 - a) (a_2 : x_2 = x_1 - b) (a_3 : x_3 = a * 3) (a_4 : x_4 = x_3 + b) (a_5 : x_8 = a * 3) (a_6 : x_9 = x_8 + x_2) (a_7 : x_10 = f_7 x_9.toNatClampNeg) (a_8 : x_11 = x_10 + 1) (a_9 : x_13 = b * 3) (a_10 : x_14 = x_13 + x_2) (a_11 : x_15 = f_12 x_14.toNatClampNeg) (a_12 : x_16 = x_15 + 1) : (1 : Int32) = 1 := by rcases a_0 with ⟨rfl, rfl⟩ | ⟨rfl, rfl⟩ | ⟨rfl, rfl⟩ | ⟨rfl, rfl⟩ | ⟨rfl, rfl⟩ | ⟨rfl, rfl⟩ <;> subst_vars <;> decide
def wo_c_X10_add_w : List Cond := [Cond.fieldLink RX10 9 "Underpaint$Votes" "ahead" "[I", Cond.fieldLink RX10 15 "Underpaint$Votes" "members" "I"]
def wo_c_X10_add : List Cond := .code yX10_add cX10_add 4 (some .int) :: (wo_c_X10_add_w ++ (u_ws RX10 TX10 2 ++ List.nil))
theorem gw_wo_c_X10_add : wo_c_X10_add.all goodWord = true := gw_c (by decide +kernel) (gw_a (by decide +kernel) (gw_a (by decide +kernel) rfl))
set_option maxHeartbeats 4000000 in
set_option maxRecDepth 100000 in
/-- Votes.add: the first one -/
theorem c_X10_add (l : Launch) (dC : Nat → ClassId) (dI : Nat → Nat → Nat) (b0 : Nat) (en : EnT) (sz : Nat) (vot va : Nat) (kI : ClassId) (a b : Int32) (hab : (a = 0 ∧ b = 1) ∨ (a = 0 ∧ b = 2) ∨ (a = 1 ∧ b = 0) ∨ (a = 1 ∧ b = 2) ∨ (a = 2 ∧ b = 0) ∨ (a = 2 ∧ b = 1)) : Met l yX10_add wo_c_X10_add ({ frames := 0, cells := 0, slots := 0, locals := 0 } : Room) (cP b0 en (dC, dI) [(kI, .int)] [(vot, .inr (16, [.int 0, .ref va])), (va, .inl (kI, 9, .inl (fun _ => 0)))] [] sz (fun _ => True) [.ref vot, .int a, .int b]) (va_Qi (fun (r : Int32) (_ : Unit) => r = 1) (fun _ _ => True) (va_A [(vot, .inr (16, [.int 0, .ref va])), (va, .inl (kI, 9, .inl (fun _ => 0)))] sz)) 0 0 (va_A [(vot, .inr (16, [.int 0, .ref va])), (va, .inl (kI, 9, .inl (fun _ => 0)))] sz) := by
  refine Met.ofW (cc := cX10_add) (maxL := 4) (ret := (some .int)) (by decide) rfl ?_
  intro p e s m args below meth c s₁ B hml hv
  obtain ⟨rfl, hsz, hb0, hE, hPP, hK, hDD, hF0⟩ := hv
  have hx := B.exec
  have hb := B.bytes
  have hr := B.returns
  have hts := atoms_spec (ws := wo_c_X10_add) B.pre
  have hown : s.vm.findClass RX10 = some m.cls := findClass_of_methodNamed B.named
  have hlocks := B.notSynchronized
  subst hsz
  have hN0 := en_N hPP hDD rfl
  have hP : va_P (dC, dI) vwCl [(vot, .inr (16, [.int 0, .ref va])), (va, .inl (kI, 9, .inl (fun _ => 0)))] s.heap := hPP.sub [0, 1] rfl
  have hR0 : va_P (dC, dI) vwCl [] s.heap := hPP.sub [] rfl
  have hD0 : va_D (fun q => b0 ≤ q) [(vot, .inr (16, [.int 0, .ref va])), (va, .inl (kI, 9, .inl (fun _ => 0)))] := hDD.sub [0, 1] (by decide) rfl
  have hDr : va_D (fun q => b0 ≤ q) [] := hDD.sub [] (by decide) rfl
  have hAb := en_A (sz := s.heap.size) hD0 hb0
  have hD := hD0.self (sz := s.heap.size)
  generalize hAe : va_A [(vot, .inr (16, [.int 0, .ref va])), (va, .inl (kI, 9, .inl (fun _ => 0)))] s.heap.size = A at hD hAb hN0 ⊢
  have hA : ∀ q : Nat, s.heap.size ≤ q → A q := fun q h => by rw [← hAe]; exact Or.inr h
  have hS : va_S A s.heap s.heap [] := va_S.rf
  have hR := hR0
  have hl := lv_entry [.ref vot, .int a, .int b] (n := 4) (Nat.le_of_ble_eq_true rfl)
  rw [lg_entry_eq]
  generalize (lg_sl [.ref vot, .int a, .int b] ++ List.replicate (4 - (lg_sl [.ref vot, .int a, .int b]).length) Slot.unset).toArray = ls at hl ⊢
  have hl : lv_has ls 4 [(0, .ref vot), (1, .int a), (2, .int b)] := hl
  refine lv_iconst (v := 3) hx hb dX10_add_0 (by decide) ?_
  refine lv_iload_n hx hb dX10_add_1 rfl (lv_at hl 1 rfl) ?_
  refine lv_isub hx hb dX10_add_2 ?_
  refine lv_topi (fun x_1 ex_1 => ?_)
  refine lv_iload_n hx hb dX10_add_3 rfl (lv_at hl 2 rfl) ?_
  refine lv_isub hx hb dX10_add_4 ?_
  refine lv_topi (fun x_2 ex_2 => ?_)
  refine lv_istore_n (lv' := [(3, .int x_2), (0, .ref vot), (1, .int a), (2, .int b)]) hx hb dX10_add_5 rfl hl (by decide) rfl (fun ls hl => ?_)
  refine lv_aload_n hx hb dX10_add_6 rfl (lv_at hl 1 rfl) ?_
  refine va_get (D := (dC, dI)) (ci := 16) (v := .ref va) (C := RX10) (T := TX10) (N := 2) hx hb hts (by decide +kernel) hown hK hP 0 rfl rfl 1 (by decide) (hts (.fieldLink RX10 9 "Underpaint$Votes" "ahead" "[I") (by decide +kernel)) (fun _ h9 => h9) rfl dX10_add_7 ?_
  refine lv_iload_n hx hb dX10_add_10 rfl (lv_at hl 2 rfl) ?_
  refine lv_iconst (v := 3) hx hb dX10_add_11 (by decide) ?_
  refine lv_imul hx hb dX10_add_12 ?_
  refine lv_topi (fun x_3 ex_3 => ?_)
  refine lv_iload_n hx hb dX10_add_13 rfl (lv_at hl 3 rfl) ?_
  refine lv_iadd hx hb dX10_add_14 ?_
  refine lv_topi (fun x_4 ex_4 => ?_)
  refine lv_dup2_11 hx hb dX10_add_15 rfl rfl ?_
  refine va_iald hx hb hK hP 1 0 rfl rfl (vp_ok (n := 9) (by decide) (z_c_X10_add_367 a b x_1 x_2 x_3 x_4 hab ex_1 ex_2 ex_3 ex_4) (z_c_X10_add_368 a b x_1 x_2 x_3 x_4 hab ex_1 ex_2 ex_3 ex_4)) dX10_add_16 ?_
  refine lv_topi (fun x_5 ex_5 => ?_)
  obtain rfl : x_5 = 0 := ex_5.trans rfl
  refine lv_iconst (v := 1) hx hb dX10_add_17 (by decide) ?_
  refine lv_iadd hx hb dX10_add_18 ?_
  refine lv_topi (fun x_6 ex_6 => ?_)
  obtain rfl : x_6 = 1 := ex_6.trans (by decide)
  refine va_iast hx hb hK hP hD hS 1 0 rfl rfl (vp_ok (n := 9) (by decide) (z_c_X10_add_367 a b x_1 x_2 x_3 x_4 hab ex_1 ex_2 ex_3 ex_4) (z_c_X10_add_368 a b x_1 x_2 x_3 x_4 hab ex_1 ex_2 ex_3 ex_4)) dX10_add_19 (fun H locs hP hD hS => ?_)
  generalize ef_7 : upd (fun _ => 0) x_4.toNatClampNeg 1 = f_7 at hP hD
  have hP : va_P (dC, dI) vwCl [(vot, .inr (16, [.int 0, .ref va])), (va, .inl (kI, 9, .inl f_7))] H := hP
  have hD : va_D A [(vot, .inr (16, [.int 0, .ref va])), (va, .inl (kI, 9, .inl f_7))] := hD
  have hR : va_P (dC, dI) vwCl [] H := fun k q h => by simp at h
  refine lv_aload_n hx hb dX10_add_20 rfl (lv_at hl 1 rfl) ?_
  refine va_get (D := (dC, dI)) (ci := 16) (v := .ref va) (C := RX10) (T := TX10) (N := 2) hx hb hts (by decide +kernel) hown hK hP 0 rfl rfl 1 (by decide) (hts (.fieldLink RX10 9 "Underpaint$Votes" "ahead" "[I") (by decide +kernel)) (fun _ h9 => h9) rfl dX10_add_21 ?_
  refine lv_iload_n hx hb dX10_add_24 rfl (lv_at hl 2 rfl) ?_
  refine lv_iconst (v := 3) hx hb dX10_add_25 (by decide) ?_
  refine lv_imul hx hb dX10_add_26 ?_
  refine lv_topi (fun x_8 ex_8 => ?_)
  refine lv_iload_n hx hb dX10_add_27 rfl (lv_at hl 0 rfl) ?_
  refine lv_iadd hx hb dX10_add_28 ?_
  refine lv_topi (fun x_9 ex_9 => ?_)
  refine lv_dup2_11 hx hb dX10_add_29 rfl rfl ?_
  refine va_iald hx hb hK hP 1 0 rfl rfl (vp_ok (n := 9) (by decide) (z_c_X10_add_369 a b x_1 x_2 x_3 x_4 x_8 x_9 hab ex_1 ex_2 ex_3 ex_4 ex_8 ex_9) (z_c_X10_add_370 a b x_1 x_2 x_3 x_4 x_8 x_9 hab ex_1 ex_2 ex_3 ex_4 ex_8 ex_9)) dX10_add_30 ?_
  refine lv_topi (fun x_10 ex_10 => ?_)
  refine lv_iconst (v := 1) hx hb dX10_add_31 (by decide) ?_
  refine lv_iadd hx hb dX10_add_32 ?_
  refine lv_topi (fun x_11 ex_11 => ?_)
  refine va_iast hx hb hK hP hD hS 1 0 rfl rfl (vp_ok (n := 9) (by decide) (z_c_X10_add_371 a b x_1 x_2 x_3 x_4 f_7 x_8 x_9 x_10 x_11 hab ex_1 ex_2 ex_3 ex_4 ex_8 ex_9 ex_10 ex_11) (z_c_X10_add_372 a b x_1 x_2 x_3 x_4 f_7 x_8 x_9 x_10 x_11 hab ex_1 ex_2 ex_3 ex_4 ex_8 ex_9 ex_10 ex_11)) dX10_add_33 (fun H locs hP hD hS => ?_)
  generalize ef_12 : upd f_7 x_9.toNatClampNeg x_11 = f_12 at hP hD
  have hP : va_P (dC, dI) vwCl [(vot, .inr (16, [.int 0, .ref va])), (va, .inl (kI, 9, .inl f_12))] H := hP
  have hD : va_D A [(vot, .inr (16, [.int 0, .ref va])), (va, .inl (kI, 9, .inl f_12))] := hD
  have hR : va_P (dC, dI) vwCl [] H := fun k q h => by simp at h
  refine lv_aload_n hx hb dX10_add_34 rfl (lv_at hl 1 rfl) ?_
  refine va_get (D := (dC, dI)) (ci := 16) (v := .ref va) (C := RX10) (T := TX10) (N := 2) hx hb hts (by decide +kernel) hown hK hP 0 rfl rfl 1 (by decide) (hts (.fieldLink RX10 9 "Underpaint$Votes" "ahead" "[I") (by decide +kernel)) (fun _ h9 => h9) rfl dX10_add_35 ?_
  refine lv_iload_n hx hb dX10_add_38 rfl (lv_at hl 3 rfl) ?_
  refine lv_iconst (v := 3) hx hb dX10_add_39 (by decide) ?_
  refine lv_imul hx hb dX10_add_40 ?_
  refine lv_topi (fun x_13 ex_13 => ?_)
  refine lv_iload_n hx hb dX10_add_41 rfl (lv_at hl 0 rfl) ?_
  refine lv_iadd hx hb dX10_add_42 ?_
  refine lv_topi (fun x_14 ex_14 => ?_)
  refine lv_dup2_11 hx hb dX10_add_43 rfl rfl ?_
  refine va_iald hx hb hK hP 1 0 rfl rfl (vp_ok (n := 9) (by decide) (z_c_X10_add_373 a b x_1 x_2 x_3 x_4 f_7 x_8 x_9 x_10 x_11 x_13 x_14 hab ex_1 ex_2 ex_3 ex_4 ex_8 ex_9 ex_10 ex_11 ex_13 ex_14) (z_c_X10_add_374 a b x_1 x_2 x_3 x_4 f_7 x_8 x_9 x_10 x_11 x_13 x_14 hab ex_1 ex_2 ex_3 ex_4 ex_8 ex_9 ex_10 ex_11 ex_13 ex_14)) dX10_add_44 ?_
  refine lv_topi (fun x_15 ex_15 => ?_)
  refine lv_iconst (v := 1) hx hb dX10_add_45 (by decide) ?_
  refine lv_iadd hx hb dX10_add_46 ?_
  refine lv_topi (fun x_16 ex_16 => ?_)
  refine va_iast hx hb hK hP hD hS 1 0 rfl rfl (vp_ok (n := 9) (by decide) (z_c_X10_add_375 a b x_1 x_2 x_3 x_4 f_7 x_8 x_9 x_10 x_11 f_12 x_13 x_14 x_15 x_16 hab ex_1 ex_2 ex_3 ex_4 ex_8 ex_9 ex_10 ex_11 ex_13 ex_14 ex_15 ex_16) (z_c_X10_add_376 a b x_1 x_2 x_3 x_4 f_7 x_8 x_9 x_10 x_11 f_12 x_13 x_14 x_15 x_16 hab ex_1 ex_2 ex_3 ex_4 ex_8 ex_9 ex_10 ex_11 ex_13 ex_14 ex_15 ex_16)) dX10_add_47 (fun H locs hP hD hS => ?_)
  generalize ef_17 : upd f_12 x_14.toNatClampNeg x_16 = f_17 at hP hD
  have hP : va_P (dC, dI) vwCl [(vot, .inr (16, [.int 0, .ref va])), (va, .inl (kI, 9, .inl f_17))] H := hP
  have hD : va_D A [(vot, .inr (16, [.int 0, .ref va])), (va, .inl (kI, 9, .inl f_17))] := hD
  have hR : va_P (dC, dI) vwCl [] H := fun k q h => by simp at h
  refine lv_aload_n hx hb dX10_add_48 rfl (lv_at hl 1 rfl) ?_
  refine lv_dup hx hb dX10_add_49 rfl ?_
  refine va_get (D := (dC, dI)) (ci := 16) (v := .int 0) (C := RX10) (T := TX10) (N := 2) hx hb hts (by decide +kernel) hown hK hP 0 rfl rfl 0 (by decide) (hts (.fieldLink RX10 15 "Underpaint$Votes" "members" "I") (by decide +kernel)) (fun _ h9 => h9) rfl dX10_add_50 ?_
  refine lv_iconst (v := 1) hx hb dX10_add_53 (by decide) ?_
  refine lv_iadd hx hb dX10_add_54 ?_
  refine lv_topi (fun x_18 ex_18 => ?_)
  obtain rfl : x_18 = 1 := ex_18.trans (by decide)
  refine va_put (D := (dC, dI)) (ci := 16) (v := .int 1) (ty := .int) (C := RX10) (T := TX10) (N := 2) hx hb hts (by decide +kernel) tyX10 tyX10_ok nmX10 hown hK hP hD hS 0 rfl rfl 0 (by decide) (hts (.fieldLink RX10 15 "Underpaint$Votes" "members" "I") (by decide +kernel)) (fun _ h9 => h9) rfl (by decide +kernel) rfl rfl (Nat.le_of_ble_eq_true rfl) dX10_add_55 (fun H locs hP hD hS => ?_)
  have hP : va_P (dC, dI) vwCl [(vot, .inr (16, [.int 1, .ref va])), (va, .inl (kI, 9, .inl f_17))] H := hP
  have hD : va_D A [(vot, .inr (16, [.int 1, .ref va])), (va, .inl (kI, 9, .inl f_17))] := hD
  have hR : va_P (dC, dI) vwCl [] H := fun k q h => by simp at h
  refine lv_aload_n hx hb dX10_add_58 rfl (lv_at hl 1 rfl) ?_
  refine va_get (D := (dC, dI)) (ci := 16) (v := .int 1) (C := RX10) (T := TX10) (N := 2) hx hb hts (by decide +kernel) hown hK hP 0 rfl rfl 0 (by decide) (hts (.fieldLink RX10 15 "Underpaint$Votes" "members" "I") (by decide +kernel)) (fun _ h9 => h9) rfl dX10_add_59 ?_
  refine W.widen (k := 0) (n := 0) (Nat.le_of_ble_eq_true rfl) (Nat.le_of_ble_eq_true rfl) ?_
  exact W.iret (v := 1) hx hb hr (fun t ht hW => ⟨⟨1, (), rfl, (z_c_X10_add_377 a b x_1 x_2 x_3 x_4 f_7 x_8 x_9 x_10 x_11 f_12 x_13 x_14 x_15 x_16 hab ex_1 ex_2 ex_3 ex_4 ex_8 ex_9 ex_10 ex_11 ex_13 ex_14 ex_15 ex_16), trivial⟩, hS.F ht⟩) hS.2.2 dX10_add_62
theorem z_c_X11_ballot_378   : 2 < 6 := by first | decide +kernel | grind
theorem z_c_X11_ballot_379 (a : Int32) (b : Int32) (a_0 : ¬ (0 ≤ ixL 2 a)) (a_1 : (0 : Int32) = 0) : ¬ (0 ≤ ixL 2 a ∧ 0 ≤ ixL 2 b ∧ ¬ ixL 2 a = ixL 2 b) := by grind
theorem z_c_X11_ballot_380 (a : Int32) (b : Int32) (a_0 : 0 ≤ ixL 2 a) (a_1 : ¬ (0 ≤ ixL 2 b)) (a_2 : (0 : Int32) = 0) : ¬ (0 ≤ ixL 2 a ∧ 0 ≤ ixL 2 b ∧ ¬ ixL 2 a = ixL 2 b) := by grind
theorem z_c_X11_ballot_381 (a : Int32) (b : Int32) (a_0 : 0 ≤ ixL 2 a) (a_1 : 0 ≤ ixL 2 b) (a_2 : (ixL 2 a) = (ixL 2 b)) (a_3 : (0 : Int32) = 0) : ¬ (0 ≤ ixL 2 a ∧ 0 ≤ ixL 2 b ∧ ¬ ixL 2 a = ixL 2 b) := by grind
theorem z_c_X11_ballot_382 (a : Int32) (b : Int32) (a_0 : 0 ≤ ixL 2 a) (a_1 : 0 ≤ ixL 2 b) (a_2 : ¬ (ixL 2 a) = (ixL 2 b)) (a_3 : ¬ (1 : Int32) = 0) (a_4 : ¬ (1 : Int32) = 0) : (1 : Int32) = 1 ∧ 0 ≤ ixL 2 a ∧ 0 ≤ ixL 2 b ∧ ¬ ixL 2 a = ixL 2 b := by grind
def wo_c_X11_ballot_w : List Cond := [Cond.fieldLink RX11 39 "Underpaint" "votes" "LUnderpaint$Votes;", Cond.fieldLink RX11 371 "Underpaint$Votes" "members" "I"]
def wo_c_X11_ballot : List Cond := .code yX11_ballot cX11_ballot 5 (some .int) :: (wo_c_X11_ballot_w ++ (u_ws RX11 TX11 14 ++ (u_ws RX10 TX10 2 ++ (wsV RX11 81 RJ0 yJ0_indexOf_0f7a4 wsJ0_indexOf_0f7a4 ++ (va_wsS RX11 87 yX11_demandArgument wsX11_demandArgument ++ (va_wsS RX11 99 yX11_demandRoom wsX11_demandRoom ++ (wsV RX11 374 RX10 yX10_add wo_c_X10_add ++ List.nil)))))))
theorem gw_wo_c_X11_ballot : wo_c_X11_ballot.all goodWord = true := gw_c (by decide +kernel) (gw_a (by decide +kernel) (gw_a (by decide +kernel) (gw_a (by decide +kernel) (gw_a (gw_a (by decide +kernel) gw_wsJ0_indexOf_0f7a4) (gw_a (gw_a (by decide +kernel) gw_wsX11_demandArgument) (gw_a (gw_a (by decide +kernel) gw_wsX11_demandRoom) (gw_a (gw_a (by decide +kernel) gw_wo_c_X10_add) rfl)))))))
theorem go_c_X11_ballot_0 : GoodIn wo_c_X11_ballot (wsV RX11 81 RJ0 yJ0_indexOf_0f7a4 wsJ0_indexOf_0f7a4) := goodIn_sub (fun _ h => List.mem_cons_of_mem _ (List.mem_append_right _ (List.mem_append_right _ (List.mem_append_right _ (List.mem_append_left _ h))))) (gw_a (by decide +kernel) gw_wsJ0_indexOf_0f7a4)
theorem go_c_X11_ballot_1 : GoodIn wo_c_X11_ballot (va_wsS RX11 87 yX11_demandArgument wsX11_demandArgument) := goodIn_sub (fun _ h => List.mem_cons_of_mem _ (List.mem_append_right _ (List.mem_append_right _ (List.mem_append_right _ (List.mem_append_right _ (List.mem_append_left _ h)))))) (gw_a (by decide +kernel) gw_wsX11_demandArgument)
theorem go_c_X11_ballot_2 : GoodIn wo_c_X11_ballot (va_wsS RX11 99 yX11_demandRoom wsX11_demandRoom) := goodIn_sub (fun _ h => List.mem_cons_of_mem _ (List.mem_append_right _ (List.mem_append_right _ (List.mem_append_right _ (List.mem_append_right _ (List.mem_append_right _ (List.mem_append_left _ h))))))) (gw_a (by decide +kernel) gw_wsX11_demandRoom)
theorem go_c_X11_ballot_3 : GoodIn wo_c_X11_ballot (wsV RX11 374 RX10 yX10_add wo_c_X10_add) := goodIn_sub (fun _ h => List.mem_cons_of_mem _ (List.mem_append_right _ (List.mem_append_right _ (List.mem_append_right _ (List.mem_append_right _ (List.mem_append_right _ (List.mem_append_right _ (List.mem_append_left _ h)))))))) (gw_a (by decide +kernel) gw_wo_c_X10_add)
set_option maxHeartbeats 4000000 in
set_option maxRecDepth 100000 in
theorem c_X11_ballot (l : Launch) (hst : l.stackTraces = false) (dC : Nat → ClassId) (dI : Nat → Nat → Nat) (b0 : Nat) (en : EnT) (sz : Nat) (h pal she fil nte dat vot loa nos pic spa : Nat) (va : Nat) (kI : ClassId) (a b : Int32) : vx_Met l yX11_ballot wo_c_X11_ballot ({ frames := 7, cells := 2, slots := 12, locals := 131 } : Room) (cP b0 en (dC, dI) [(kI, .int)] [(vot, .inr (16, [.int 0, .ref va])), (va, .inl (kI, 9, .inl (fun _ => 0)))] [(h, .inr (17, [.ref pal, .ref she, .ref fil, .ref nte, .ref dat, .ref vot, .ref loa, .ref nos, .ref pic, .ref spa, .int 5, .int 50, .int 1600, .int 0]))] sz (fun _ => True) [.ref h, .int a, .int b]) (va_Qi (fun (r : Int32) (_ : Unit) => r = 1 ∧ 0 ≤ ixL 2 a ∧ 0 ≤ ixL 2 b ∧ ¬ ixL 2 a = ixL 2 b) (fun _ _ => True) (va_A [(vot, .inr (16, [.int 0, .ref va])), (va, .inl (kI, 9, .inl (fun _ => 0)))] sz)) (vx_X (fun _ : Unit => True) (fun E _ _ => (E = "java/lang/IllegalArgumentException" ∧ ¬ (0 ≤ ixL 2 a ∧ 0 ≤ ixL 2 b ∧ ¬ ixL 2 a = ixL 2 b))) (va_A [(vot, .inr (16, [.int 0, .ref va])), (va, .inl (kI, 9, .inl (fun _ => 0)))] sz)) 2 12 (va_A [(vot, .inr (16, [.int 0, .ref va])), (va, .inl (kI, 9, .inl (fun _ => 0)))] sz) := by
  refine vx_ofW (cc := cX11_ballot) (maxL := 5) (ret := (some .int)) (by decide) rfl ?_
  intro p e s m args below meth c s₁ B hml hext hv
  obtain ⟨rfl, hsz, hb0, hE, hPP, hK, hDD, hF0⟩ := hv
  have hx := B.exec
  have hb := B.bytes
  have hr := B.returns
  have hts := atoms_spec (ws := wo_c_X11_ballot) B.pre
  have hown : s.vm.findClass RX11 = some m.cls := findClass_of_methodNamed B.named
  have hlocks := B.notSynchronized
  subst hsz
  have hN0 := en_N hPP hDD rfl
  have hP : va_P (dC, dI) vwCl [(vot, .inr (16, [.int 0, .ref va])), (va, .inl (kI, 9, .inl (fun _ => 0)))] s.heap := hPP.sub [0, 1] rfl
  have hR0 : va_P (dC, dI) vwCl [(h, .inr (17, [.ref pal, .ref she, .ref fil, .ref nte, .ref dat, .ref vot, .ref loa, .ref nos, .ref pic, .ref spa, .int 5, .int 50, .int 1600, .int 0]))] s.heap := hPP.sub [2] rfl
  have hD0 : va_D (fun q => b0 ≤ q) [(vot, .inr (16, [.int 0, .ref va])), (va, .inl (kI, 9, .inl (fun _ => 0)))] := hDD.sub [0, 1] (by decide) rfl
  have hDr : va_D (fun q => b0 ≤ q) [(h, .inr (17, [.ref pal, .ref she, .ref fil, .ref nte, .ref dat, .ref vot, .ref loa, .ref nos, .ref pic, .ref spa, .int 5, .int 50, .int 1600, .int 0]))] := hDD.sub [2] (by decide) rfl
  have hAb := en_A (sz := s.heap.size) hD0 hb0
  have hD := hD0.self (sz := s.heap.size)
  generalize hAe : va_A [(vot, .inr (16, [.int 0, .ref va])), (va, .inl (kI, 9, .inl (fun _ => 0)))] s.heap.size = A at hD hAb hN0 ⊢
  have hA : ∀ q : Nat, s.heap.size ≤ q → A q := fun q h => by rw [← hAe]; exact Or.inr h
  have hS : va_S A s.heap s.heap [] := va_S.rf
  have hR := hR0
  have hl := lv_entry [.ref h, .int a, .int b] (n := 5) (Nat.le_of_ble_eq_true rfl)
  rw [lg_entry_eq]
  generalize (lg_sl [.ref h, .int a, .int b] ++ List.replicate (5 - (lg_sl [.ref h, .int a, .int b]).length) Slot.unset).toArray = ls at hl ⊢
  have hl : lv_has ls 5 [(0, .ref h), (1, .int a), (2, .int b)] := hl
  refine va_ldcSW hx hb hown (hE.ldc (2, "Underpaint", 369, "leh") (by decide +kernel)) dX11_ballot_0 ?_
  refine lv_iload_n hx hb dX11_ballot_3 rfl (lv_at hl 1 rfl) ?_
  have hPc := (hP.app hR).sub (ws' := [] ++ []) [] rfl
  have hDc := (en_DD hD hDr hN0 hAb).sub (ws' := [] ++ []) [] (by decide) rfl
  have hKc := hK.sub (tys' := []) [] rfl
  have hFc := va_free (wc := []) hD hS hA [] rfl
  refine va_calli (va_runV (As := [.int a]) (rest := []) ⟨hx, hb, hml, hown, hts⟩ (c_J0_indexOf l dC dI b0 en s.heap.size 2 a (z_c_X11_ballot_378)) (cwV 1 hts go_c_X11_ballot_0 rfl rfl rfl (by decide +kernel) ⟨Nat.le_of_ble_eq_true rfl, Nat.le_of_ble_eq_true rfl⟩) ⟨cP.blind, (en_recv (hE.lit hAb 2 (by decide)).1 hS), cP.use (en_z hb0 hS) (hE.on hAb hS) hPc hKc hDc trivial⟩ rfl rfl hl.1 rfl (lv_room (Nat.le_of_ble_eq_true rfl)) dX11_ballot_4 ⟨Nat.le_of_ble_eq_true rfl, Nat.le_of_ble_eq_true rfl⟩) hS (fun q _ h => hFc q h) hFc (fun r_1 u t H1 locs ht hvm hw hB hz1 hk1 hS => ?_)
  have hP1 : va_P (dC, dI) vwCl [] H1 := fun k q h => by simp at h
  have hD1 : va_D (va_A [] s.heap.size) [] := ⟨fun i j p q h => by simp at h, fun k q h => by simp at h⟩
  try dsimp only at hw
  obtain ⟨hP, hD⟩ := va_join (wr := [(vot, .inr (16, [.int 0, .ref va])), (va, .inl (kI, 9, .inl (fun _ => 0)))]) (w1 := []) hP hD [] [0, 1] rfl rfl (by decide) (by decide) hk1 hFc hP1 hD1
  generalize H1 = H at hP hS ⊢
  have hP : va_P (dC, dI) vwCl [(vot, .inr (16, [.int 0, .ref va])), (va, .inl (kI, 9, .inl (fun _ => 0)))] H := hP
  have hD : va_D A [(vot, .inr (16, [.int 0, .ref va])), (va, .inl (kI, 9, .inl (fun _ => 0)))] := hD
  have hR := en_R hR0 hN0 hS
  refine W.widen (k := 0) (n := 0) (Nat.le_of_ble_eq_true rfl) (Nat.le_of_ble_eq_true rfl) ?_
  subst r_1
  refine lv_istore_n (lv' := [(3, .int (ixL 2 a)), (0, .ref h), (1, .int a), (2, .int b)]) hx hb dX11_ballot_7 rfl hl (by decide) rfl (fun ls hl => ?_)
  refine va_ldcSW hx hb hown (hE.ldc (2, "Underpaint", 369, "leh") (by decide +kernel)) dX11_ballot_8 ?_
  refine lv_iload_n hx hb dX11_ballot_11 rfl (lv_at hl 3 rfl) ?_
  have hPc := (hP.app hR).sub (ws' := [] ++ []) [] rfl
  have hDc := (en_DD hD hDr hN0 hAb).sub (ws' := [] ++ []) [] (by decide) rfl
  have hKc := hK.sub (tys' := []) [] rfl
  have hFc := va_free (wc := []) hD hS hA [] rfl
  refine va_calli (va_runV (As := [.int b]) (rest := []) ⟨hx, hb, hml, hown, hts⟩ (c_J0_indexOf l dC dI b0 en H.size 2 b (z_c_X11_ballot_378)) (cwV 1 hts go_c_X11_ballot_0 rfl rfl rfl (by decide +kernel) ⟨Nat.le_of_ble_eq_true rfl, Nat.le_of_ble_eq_true rfl⟩) ⟨cP.blind, (en_recv (hE.lit hAb 2 (by decide)).1 hS), cP.use (en_z hb0 hS) (hE.on hAb hS) hPc hKc hDc trivial⟩ rfl rfl hl.1 rfl (lv_room (Nat.le_of_ble_eq_true rfl)) dX11_ballot_12 ⟨Nat.le_of_ble_eq_true rfl, Nat.le_of_ble_eq_true rfl⟩) hS (fun q _ h => hFc q h) hFc (fun r_2 u t H1 locs ht hvm hw hB hz1 hk1 hS => ?_)
  have hP1 : va_P (dC, dI) vwCl [] H1 := fun k q h => by simp at h
  have hD1 : va_D (va_A [] H.size) [] := ⟨fun i j p q h => by simp at h, fun k q h => by simp at h⟩
  try dsimp only at hw
  obtain ⟨hP, hD⟩ := va_join (wr := [(vot, .inr (16, [.int 0, .ref va])), (va, .inl (kI, 9, .inl (fun _ => 0)))]) (w1 := []) hP hD [] [0, 1] rfl rfl (by decide) (by decide) hk1 hFc hP1 hD1
  generalize H1 = H at hP hS ⊢
  have hP : va_P (dC, dI) vwCl [(vot, .inr (16, [.int 0, .ref va])), (va, .inl (kI, 9, .inl (fun _ => 0)))] H := hP
  have hD : va_D A [(vot, .inr (16, [.int 0, .ref va])), (va, .inl (kI, 9, .inl (fun _ => 0)))] := hD
  have hR := en_R hR0 hN0 hS
  refine W.widen (k := 0) (n := 0) (Nat.le_of_ble_eq_true rfl) (Nat.le_of_ble_eq_true rfl) ?_
  subst r_2
  refine lv_istore (lv' := [(4, .int (ixL 2 b)), (3, .int (ixL 2 a)), (0, .ref h), (1, .int a), (2, .int b)]) hx hb dX11_ballot_15 hl (by decide) rfl (fun ls hl => ?_)
  refine lv_iload_n hx hb dX11_ballot_17 rfl (lv_at hl 1 rfl) ?_
  refine lv_if_lt (tgt := 36) hx hb dX11_ballot_18 (by decide) (fun c_3 => ?_) (fun c_3 => ?_)
  · skip
    refine lv_iconst (v := 0) hx hb dX11_ballot_36 (by decide) ?_
    have hPc := (hP.app hR).sub (ws' := [] ++ []) [] rfl
    have hDc := (en_DD hD hDr hN0 hAb).sub (ws' := [] ++ []) [] (by decide) rfl
    have hKc := hK.sub (tys' := []) [] rfl
    have hFc := va_free (wc := []) hD hS hA [] rfl
    refine vx_callv (vx_runS (As := [.int 0]) (rest := []) ⟨hx, hb, hml, hown, hts⟩ (c_X11_demandArgument l hst dC dI b0 en H.size 0) (va_cwS 1 hts go_c_X11_ballot_1 rfl rfl rfl (by decide +kernel) ⟨Nat.le_of_ble_eq_true rfl, Nat.le_of_ble_eq_true rfl⟩) ⟨cP.blind, cP.use (en_z hb0 hS) (hE.on hAb hS) hPc hKc hDc trivial⟩ rfl rfl hl.1 rfl (lv_room (Nat.le_of_ble_eq_true rfl)) dX11_ballot_37 ⟨Nat.le_of_ble_eq_true rfl, Nat.le_of_ble_eq_true rfl⟩) hS (fun q _ h => hFc q h) hFc (fun q _ h => hFc q h) (fun E ce q9 u t H1 locs ht hvm hpx hBX hz1 hk1 hS hce hcv hcl => ?_) (fun u t H1 locs ht hvm hw hB hz1 hk1 hS => ?_)
    · skip
      try dsimp only at hBX
      obtain ⟨rfl, hc⟩ := hBX
      refine vx_widen (k := 2) (n := 12) (Nat.le_of_ble_eq_true rfl) (Nat.le_of_ble_eq_true rfl) ?_
      exact vx_out (fun x hx => (hext x hx).elim) hlocks hce hcv hcl (fun t ht hW => ⟨(), trivial, ⟨rfl, (z_c_X11_ballot_379 a b (Int32.not_le.mpr c_3) hc)⟩, hS.F ht⟩) hS.2.2 (Nat.le_refl _) (Nat.le_refl _)
    have hP1 : va_P (dC, dI) vwCl [] H1 := fun k q h => by simp at h
    have hD1 : va_D (va_A [] H.size) [] := ⟨fun i j p q h => by simp at h, fun k q h => by simp at h⟩
    try dsimp only at hw
    obtain ⟨hP, hD⟩ := va_join (wr := [(vot, .inr (16, [.int 0, .ref va])), (va, .inl (kI, 9, .inl (fun _ => 0)))]) (w1 := []) hP hD [] [0, 1] rfl rfl (by decide) (by decide) hk1 hFc hP1 hD1
    generalize H1 = H at hP hS ⊢
    have hP : va_P (dC, dI) vwCl [(vot, .inr (16, [.int 0, .ref va])), (va, .inl (kI, 9, .inl (fun _ => 0)))] H := hP
    have hD : va_D A [(vot, .inr (16, [.int 0, .ref va])), (va, .inl (kI, 9, .inl (fun _ => 0)))] := hD
    have hR := en_R hR0 hN0 hS
    refine W.widen (k := 1) (n := 6) (Nat.le_of_ble_eq_true rfl) (Nat.le_of_ble_eq_true rfl) ?_
    have h_5 := hw
    exact absurd h_5 (by decide)
  · skip
    refine lv_iload hx hb dX11_ballot_21 (lv_at hl 0 rfl) ?_
    refine lv_if_lt (tgt := 36) hx hb dX11_ballot_23 (by decide) (fun c_6 => ?_) (fun c_6 => ?_)
    · skip
      refine lv_iconst (v := 0) hx hb dX11_ballot_36 (by decide) ?_
      have hPc := (hP.app hR).sub (ws' := [] ++ []) [] rfl
      have hDc := (en_DD hD hDr hN0 hAb).sub (ws' := [] ++ []) [] (by decide) rfl
      have hKc := hK.sub (tys' := []) [] rfl
      have hFc := va_free (wc := []) hD hS hA [] rfl
      refine vx_callv (vx_runS (As := [.int 0]) (rest := []) ⟨hx, hb, hml, hown, hts⟩ (c_X11_demandArgument l hst dC dI b0 en H.size 0) (va_cwS 1 hts go_c_X11_ballot_1 rfl rfl rfl (by decide +kernel) ⟨Nat.le_of_ble_eq_true rfl, Nat.le_of_ble_eq_true rfl⟩) ⟨cP.blind, cP.use (en_z hb0 hS) (hE.on hAb hS) hPc hKc hDc trivial⟩ rfl rfl hl.1 rfl (lv_room (Nat.le_of_ble_eq_true rfl)) dX11_ballot_37 ⟨Nat.le_of_ble_eq_true rfl, Nat.le_of_ble_eq_true rfl⟩) hS (fun q _ h => hFc q h) hFc (fun q _ h => hFc q h) (fun E ce q9 u t H1 locs ht hvm hpx hBX hz1 hk1 hS hce hcv hcl => ?_) (fun u t H1 locs ht hvm hw hB hz1 hk1 hS => ?_)
      · skip
        try dsimp only at hBX
        obtain ⟨rfl, hc⟩ := hBX
        refine vx_widen (k := 2) (n := 12) (Nat.le_of_ble_eq_true rfl) (Nat.le_of_ble_eq_true rfl) ?_
        exact vx_out (fun x hx => (hext x hx).elim) hlocks hce hcv hcl (fun t ht hW => ⟨(), trivial, ⟨rfl, (z_c_X11_ballot_380 a b (Int32.not_lt.mp c_3) (Int32.not_le.mpr c_6) hc)⟩, hS.F ht⟩) hS.2.2 (Nat.le_refl _) (Nat.le_refl _)
      have hP1 : va_P (dC, dI) vwCl [] H1 := fun k q h => by simp at h
      have hD1 : va_D (va_A [] H.size) [] := ⟨fun i j p q h => by simp at h, fun k q h => by simp at h⟩
      try dsimp only at hw
      obtain ⟨hP, hD⟩ := va_join (wr := [(vot, .inr (16, [.int 0, .ref va])), (va, .inl (kI, 9, .inl (fun _ => 0)))]) (w1 := []) hP hD [] [0, 1] rfl rfl (by decide) (by decide) hk1 hFc hP1 hD1
      generalize H1 = H at hP hS ⊢
      have hP : va_P (dC, dI) vwCl [(vot, .inr (16, [.int 0, .ref va])), (va, .inl (kI, 9, .inl (fun _ => 0)))] H := hP
      have hD : va_D A [(vot, .inr (16, [.int 0, .ref va])), (va, .inl (kI, 9, .inl (fun _ => 0)))] := hD
      have hR := en_R hR0 hN0 hS
      refine W.widen (k := 1) (n := 6) (Nat.le_of_ble_eq_true rfl) (Nat.le_of_ble_eq_true rfl) ?_
      have h_8 := hw
      exact absurd h_8 (by decide)
    · skip
      refine lv_iload_n hx hb dX11_ballot_26 rfl (lv_at hl 1 rfl) ?_
      refine lv_iload hx hb dX11_ballot_27 (lv_at hl 0 rfl) ?_
      refine lv_icmp_eq (tgt := 36) hx hb dX11_ballot_29 (by decide) (fun c_9 => ?_) (fun c_9 => ?_)
      · skip
        refine lv_iconst (v := 0) hx hb dX11_ballot_36 (by decide) ?_
        have hPc := (hP.app hR).sub (ws' := [] ++ []) [] rfl
        have hDc := (en_DD hD hDr hN0 hAb).sub (ws' := [] ++ []) [] (by decide) rfl
        have hKc := hK.sub (tys' := []) [] rfl
        have hFc := va_free (wc := []) hD hS hA [] rfl
        refine vx_callv (vx_runS (As := [.int 0]) (rest := []) ⟨hx, hb, hml, hown, hts⟩ (c_X11_demandArgument l hst dC dI b0 en H.size 0) (va_cwS 1 hts go_c_X11_ballot_1 rfl rfl rfl (by decide +kernel) ⟨Nat.le_of_ble_eq_true rfl, Nat.le_of_ble_eq_true rfl⟩) ⟨cP.blind, cP.use (en_z hb0 hS) (hE.on hAb hS) hPc hKc hDc trivial⟩ rfl rfl hl.1 rfl (lv_room (Nat.le_of_ble_eq_true rfl)) dX11_ballot_37 ⟨Nat.le_of_ble_eq_true rfl, Nat.le_of_ble_eq_true rfl⟩) hS (fun q _ h => hFc q h) hFc (fun q _ h => hFc q h) (fun E ce q9 u t H1 locs ht hvm hpx hBX hz1 hk1 hS hce hcv hcl => ?_) (fun u t H1 locs ht hvm hw hB hz1 hk1 hS => ?_)
        · skip
          try dsimp only at hBX
          obtain ⟨rfl, hc⟩ := hBX
          refine vx_widen (k := 2) (n := 12) (Nat.le_of_ble_eq_true rfl) (Nat.le_of_ble_eq_true rfl) ?_
          exact vx_out (fun x hx => (hext x hx).elim) hlocks hce hcv hcl (fun t ht hW => ⟨(), trivial, ⟨rfl, (z_c_X11_ballot_381 a b (Int32.not_lt.mp c_3) (Int32.not_lt.mp c_6) c_9 hc)⟩, hS.F ht⟩) hS.2.2 (Nat.le_refl _) (Nat.le_refl _)
        have hP1 : va_P (dC, dI) vwCl [] H1 := fun k q h => by simp at h
        have hD1 : va_D (va_A [] H.size) [] := ⟨fun i j p q h => by simp at h, fun k q h => by simp at h⟩
        try dsimp only at hw
        obtain ⟨hP, hD⟩ := va_join (wr := [(vot, .inr (16, [.int 0, .ref va])), (va, .inl (kI, 9, .inl (fun _ => 0)))]) (w1 := []) hP hD [] [0, 1] rfl rfl (by decide) (by decide) hk1 hFc hP1 hD1
        generalize H1 = H at hP hS ⊢
        have hP : va_P (dC, dI) vwCl [(vot, .inr (16, [.int 0, .ref va])), (va, .inl (kI, 9, .inl (fun _ => 0)))] H := hP
        have hD : va_D A [(vot, .inr (16, [.int 0, .ref va])), (va, .inl (kI, 9, .inl (fun _ => 0)))] := hD
        have hR := en_R hR0 hN0 hS
        refine W.widen (k := 1) (n := 6) (Nat.le_of_ble_eq_true rfl) (Nat.le_of_ble_eq_true rfl) ?_
        have h_11 := hw
        exact absurd h_11 (by decide)
      · skip
        refine lv_iconst (v := 1) hx hb dX11_ballot_32 (by decide) ?_
        refine lv_goto (tgt := 37) hx hb dX11_ballot_33 (by decide) ?_
        have hPc := (hP.app hR).sub (ws' := [] ++ []) [] rfl
        have hDc := (en_DD hD hDr hN0 hAb).sub (ws' := [] ++ []) [] (by decide) rfl
        have hKc := hK.sub (tys' := []) [] rfl
        have hFc := va_free (wc := []) hD hS hA [] rfl
        refine vx_callv (vx_runS (As := [.int 1]) (rest := []) ⟨hx, hb, hml, hown, hts⟩ (c_X11_demandArgument l hst dC dI b0 en H.size 1) (va_cwS 1 hts go_c_X11_ballot_1 rfl rfl rfl (by decide +kernel) ⟨Nat.le_of_ble_eq_true rfl, Nat.le_of_ble_eq_true rfl⟩) ⟨cP.blind, cP.use (en_z hb0 hS) (hE.on hAb hS) hPc hKc hDc trivial⟩ rfl rfl hl.1 rfl (lv_room (Nat.le_of_ble_eq_true rfl)) dX11_ballot_37 ⟨Nat.le_of_ble_eq_true rfl, Nat.le_of_ble_eq_true rfl⟩) hS (fun q _ h => hFc q h) hFc (fun q _ h => hFc q h) (fun E ce q9 u t H1 locs ht hvm hpx hBX hz1 hk1 hS hce hcv hcl => ?_) (fun u t H1 locs ht hvm hw hB hz1 hk1 hS => ?_)
        · skip
          try dsimp only at hBX
          obtain ⟨rfl, hc⟩ := hBX
          exact absurd hc (by decide)
        have hP1 : va_P (dC, dI) vwCl [] H1 := fun k q h => by simp at h
        have hD1 : va_D (va_A [] H.size) [] := ⟨fun i j p q h => by simp at h, fun k q h => by simp at h⟩
        try dsimp only at hw
        obtain ⟨hP, hD⟩ := va_join (wr := [(vot, .inr (16, [.int 0, .ref va])), (va, .inl (kI, 9, .inl (fun _ => 0)))]) (w1 := []) hP hD [] [0, 1] rfl rfl (by decide) (by decide) hk1 hFc hP1 hD1
        generalize H1 = H at hP hS ⊢
        have hP : va_P (dC, dI) vwCl [(vot, .inr (16, [.int 0, .ref va])), (va, .inl (kI, 9, .inl (fun _ => 0)))] H := hP
        have hD : va_D A [(vot, .inr (16, [.int 0, .ref va])), (va, .inl (kI, 9, .inl (fun _ => 0)))] := hD
        have hR := en_R hR0 hN0 hS
        refine W.widen (k := 1) (n := 6) (Nat.le_of_ble_eq_true rfl) (Nat.le_of_ble_eq_true rfl) ?_
        have h_13 := hw
        refine lv_aload_n hx hb dX11_ballot_40 rfl (lv_at hl 2 rfl) ?_
        refine va_get (D := (dC, dI)) (ci := 17) (v := .ref vot) (C := RX11) (T := TX11) (N := 14) hx hb hts (by decide +kernel) hown hK hR 0 rfl rfl 5 (by decide) (hts (.fieldLink RX11 39 "Underpaint" "votes" "LUnderpaint$Votes;") (by decide +kernel)) (fun _ h9 => h9) rfl dX11_ballot_41 ?_
        refine va_get (D := (dC, dI)) (ci := 16) (v := .int 0) (C := RX10) (T := TX10) (N := 2) hx hb hts (by decide +kernel) hown hK hP 0 rfl rfl 0 (by decide) (hts (.fieldLink RX11 371 "Underpaint$Votes" "members" "I") (by decide +kernel)) (fun _ h9 => h9) rfl dX11_ballot_44 ?_
        refine lv_bipush (v := 9) hx hb dX11_ballot_47 (by decide) ?_
        refine lv_icmp_ge (tgt := 56) hx hb dX11_ballot_49 (by decide) (fun c_14 => absurd c_14 (by decide)) (fun c_14 => ?_)
        refine lv_iconst (v := 1) hx hb dX11_ballot_52 (by decide) ?_
        refine lv_goto (tgt := 57) hx hb dX11_ballot_53 (by decide) ?_
        have hPc := (hP.app hR).sub (ws' := [] ++ []) [] rfl
        have hDc := (en_DD hD hDr hN0 hAb).sub (ws' := [] ++ []) [] (by decide) rfl
        have hKc := hK.sub (tys' := []) [] rfl
        have hFc := va_free (wc := []) hD hS hA [] rfl
        refine vx_callv (vx_runS (As := [.int 1]) (rest := []) ⟨hx, hb, hml, hown, hts⟩ (c_X11_demandRoom l hst dC dI b0 en H.size 1) (va_cwS 1 hts go_c_X11_ballot_2 rfl rfl rfl (by decide +kernel) ⟨Nat.le_of_ble_eq_true rfl, Nat.le_of_ble_eq_true rfl⟩) ⟨cP.blind, cP.use (en_z hb0 hS) (hE.on hAb hS) hPc hKc hDc trivial⟩ rfl rfl hl.1 rfl (lv_room (Nat.le_of_ble_eq_true rfl)) dX11_ballot_57 ⟨Nat.le_of_ble_eq_true rfl, Nat.le_of_ble_eq_true rfl⟩) hS (fun q _ h => hFc q h) hFc (fun q _ h => hFc q h) (fun E ce q9 u t H1 locs ht hvm hpx hBX hz1 hk1 hS hce hcv hcl => ?_) (fun u t H1 locs ht hvm hw hB hz1 hk1 hS => ?_)
        · skip
          try dsimp only at hBX
          obtain ⟨rfl, hc⟩ := hBX
          exact absurd hc (by decide)
        have hP1 : va_P (dC, dI) vwCl [] H1 := fun k q h => by simp at h
        have hD1 : va_D (va_A [] H.size) [] := ⟨fun i j p q h => by simp at h, fun k q h => by simp at h⟩
        try dsimp only at hw
        obtain ⟨hP, hD⟩ := va_join (wr := [(vot, .inr (16, [.int 0, .ref va])), (va, .inl (kI, 9, .inl (fun _ => 0)))]) (w1 := []) hP hD [] [0, 1] rfl rfl (by decide) (by decide) hk1 hFc hP1 hD1
        generalize H1 = H at hP hS ⊢
        have hP : va_P (dC, dI) vwCl [(vot, .inr (16, [.int 0, .ref va])), (va, .inl (kI, 9, .inl (fun _ => 0)))] H := hP
        have hD : va_D A [(vot, .inr (16, [.int 0, .ref va])), (va, .inl (kI, 9, .inl (fun _ => 0)))] := hD
        have hR := en_R hR0 hN0 hS
        refine W.widen (k := 2) (n := 12) (Nat.le_of_ble_eq_true rfl) (Nat.le_of_ble_eq_true rfl) ?_
        have h_16 := hw
        refine lv_aload_n hx hb dX11_ballot_60 rfl (lv_at hl 2 rfl) ?_
        refine va_get (D := (dC, dI)) (ci := 17) (v := .ref vot) (C := RX11) (T := TX11) (N := 14) hx hb hts (by decide +kernel) hown hK hR 0 rfl rfl 5 (by decide) (hts (.fieldLink RX11 39 "Underpaint" "votes" "LUnderpaint$Votes;") (by decide +kernel)) (fun _ h9 => h9) rfl dX11_ballot_61 ?_
        refine lv_iload_n hx hb dX11_ballot_64 rfl (lv_at hl 1 rfl) ?_
        refine lv_iload hx hb dX11_ballot_65 (lv_at hl 0 rfl) ?_
        have hPc := (hP.app hR).sub (ws' := [(vot, .inr (16, [.int 0, .ref va])), (va, .inl (kI, 9, .inl (fun _ => 0)))] ++ []) [0, 1] rfl
        have hDc := (en_DD hD hDr hN0 hAb).sub (ws' := [(vot, .inr (16, [.int 0, .ref va])), (va, .inl (kI, 9, .inl (fun _ => 0)))] ++ []) [0, 1] (by decide) rfl
        have hKc := hK.sub (tys' := [(kI, .int)]) [0] rfl
        have hFc := va_free (wc := [(vot, .inr (16, [.int 0, .ref va])), (va, .inl (kI, 9, .inl (fun _ => 0)))]) hD hS hA [0, 1] rfl
        refine va_calli (va_runV (As := [.int (ixL 2 a), .int (ixL 2 b)]) (rest := []) ⟨hx, hb, hml, hown, hts⟩ (c_X10_add l dC dI b0 en H.size vot va kI (ixL 2 a) (ixL 2 b) (bal_ix (Int32.not_lt.mp c_3) (Int32.not_lt.mp c_6) c_9)) (cwV 2 hts go_c_X11_ballot_3 rfl rfl rfl (by decide +kernel) ⟨Nat.le_of_ble_eq_true rfl, Nat.le_of_ble_eq_true rfl⟩) ⟨cP.blind, va_recv hK hP (ci := 16) (q0 := 0) rfl rfl, cP.use (en_z hb0 hS) (hE.on hAb hS) hPc hKc hDc trivial⟩ rfl rfl hl.1 rfl (lv_room (Nat.le_of_ble_eq_true rfl)) dX11_ballot_67 ⟨Nat.le_of_ble_eq_true rfl, Nat.le_of_ble_eq_true rfl⟩) hS (fun q _ h => hFc q h) hFc (fun r_17 u t H1 locs ht hvm hw hB hz1 hk1 hS => ?_)
        have hP1 : va_P (dC, dI) vwCl [] H1 := fun k q h => by simp at h
        have hD1 : va_D (va_A [(vot, .inr (16, [.int 0, .ref va])), (va, .inl (kI, 9, .inl (fun _ => 0)))] H.size) [] := ⟨fun i j p q h => by simp at h, fun k q h => by simp at h⟩
        try dsimp only at hw
        obtain ⟨hP, hD⟩ := va_join (wr := []) (w1 := []) hP hD [0, 1] [] rfl rfl (by decide) (by decide) hk1 hFc hP1 hD1
        generalize H1 = H at hP hS ⊢
        have hP : va_P (dC, dI) vwCl [] H := hP
        have hD : va_D A [] := hD
        have hR := en_R hR0 hN0 hS
        refine W.widen (k := 2) (n := 12) (Nat.le_of_ble_eq_true rfl) (Nat.le_of_ble_eq_true rfl) ?_
        subst r_17
        refine W.widen (k := 2) (n := 12) (Nat.le_of_ble_eq_true rfl) (Nat.le_of_ble_eq_true rfl) ?_
        refine vx_ret ?_
        exact W.iret (v := 1) hx hb hr (fun t ht hW => ⟨⟨1, (), rfl, (z_c_X11_ballot_382 a b (Int32.not_lt.mp c_3) (Int32.not_lt.mp c_6) c_9 h_13 h_16), trivial⟩, hS.F ht⟩) hS.2.2 dX11_ballot_70
def ush (x y : Int32) : Int32 := (x.toUInt32 >>> (y.toUInt32 &&& Int32.toUInt32 31)).toInt32
def bcn (v : Int32) : Int32 :=
  let a := v - (ush v 1 &&& 1431655765)
  let b := (a &&& 858993459) + (ush a 2 &&& 858993459)
  let c := (b + ush b 4) &&& 252645135
  let d := c + ush c 8
  let e := d + ush d 16
  e &&& 63
def thC (n : Int32) : Int32 := bcn n + bcn (n &&& (n >>> (1 &&& 31)))
theorem z_c_bitCount_383 (v : Int32) (x_1 : Int32) (x_2 : Int32) (x_3 : Int32) (x_4 : Int32) (x_5 : Int32) (x_6 : Int32) (x_7 : Int32) (x_8 : Int32) (x_9 : Int32) (x_10 : Int32) (x_11 : Int32) (x_12 : Int32) (x_13 : Int32) (x_14 : Int32) (x_15 : Int32) (a_0 : x_1 = (v.toUInt32 >>> ((1 : Int32).toUInt32 &&& Int32.toUInt32 31)).toInt32) (a_1 : x_2 = x_1 &&& 1431655765) (a_2 : x_3 = v - x_2) (a_3 : x_4 = x_3 &&& 858993459) (a_4 : x_5 = (x_3.toUInt32 >>> ((2 : Int32).toUInt32 &&& Int32.toUInt32 31)).toInt32) (a_5 : x_6 = x_5 &&& 858993459) (a_6 : x_7 = x_4 + x_6) (a_7 : x_8 = (x_7.toUInt32 >>> ((4 : Int32).toUInt32 &&& Int32.toUInt32 31)).toInt32) (a_8 : x_9 = x_7 + x_8) (a_9 : x_10 = x_9 &&& 252645135) (a_10 : x_11 = (x_10.toUInt32 >>> ((8 : Int32).toUInt32 &&& Int32.toUInt32 31)).toInt32) (a_11 : x_12 = x_10 + x_11) (a_12 : x_13 = (x_12.toUInt32 >>> ((16 : Int32).toUInt32 &&& Int32.toUInt32 31)).toInt32) (a_13 : x_14 = x_12 + x_13) (a_14 : x_15 = x_14 &&& 63) : x_15 = bcn v := by subst_vars; rfl
def wo_c_bitCount_w : List Cond := [Cond.constant RJ6 265 (1431655765), Cond.constant RJ6 266 (858993459), Cond.constant RJ6 267 (252645135)]
def wo_c_bitCount : List Cond := .code yJ6_bitCount_0f7a4 cJ6_bitCount_0f7a4 1 (some .int) :: (wo_c_bitCount_w ++ List.nil)
theorem gw_wo_c_bitCount : wo_c_bitCount.all goodWord = true := gw_c (by decide +kernel) (gw_a (by decide +kernel) rfl)
set_option maxHeartbeats 4000000 in
set_option maxRecDepth 100000 in
/-- Integer.bitCount -/
theorem c_bitCount (l : Launch) (dC : Nat → ClassId) (dI : Nat → Nat → Nat) (b0 : Nat) (en : EnT) (sz : Nat) (v : Int32) : Met l yJ6_bitCount_0f7a4 wo_c_bitCount ({ frames := 0, cells := 0, slots := 0, locals := 0 } : Room) (cP b0 en (dC, dI) [] [] [] sz (fun _ => True) [.int v]) (va_Qi (fun (r : Int32) (_ : Unit) => r = bcn v) (fun _ _ => True) (va_A [] sz)) 0 0 (va_A [] sz) := by
  refine Met.ofW (cc := cJ6_bitCount_0f7a4) (maxL := 1) (ret := (some .int)) (by decide) rfl ?_
  intro p e s m args below meth c s₁ B hml hv
  obtain ⟨rfl, hsz, hb0, hE, hPP, hK, hDD, hF0⟩ := hv
  have hx := B.exec
  have hb := B.bytes
  have hr := B.returns
  have hts := atoms_spec (ws := wo_c_bitCount) B.pre
  have hown : s.vm.findClass RJ6 = some m.cls := findClass_of_methodNamed B.named
  have hlocks := B.notSynchronized
  subst hsz
  have hN0 := en_N hPP hDD rfl
  have hP : va_P (dC, dI) vwCl [] s.heap := hPP.sub [] rfl
  have hR0 : va_P (dC, dI) vwCl [] s.heap := hPP.sub [] rfl
  have hD0 : va_D (fun q => b0 ≤ q) [] := hDD.sub [] (by decide) rfl
  have hDr : va_D (fun q => b0 ≤ q) [] := hDD.sub [] (by decide) rfl
  have hAb := en_A (sz := s.heap.size) hD0 hb0
  have hD := hD0.self (sz := s.heap.size)
  generalize hAe : va_A [] s.heap.size = A at hD hAb hN0 ⊢
  have hA : ∀ q : Nat, s.heap.size ≤ q → A q := fun q h => by rw [← hAe]; exact Or.inr h
  have hS : va_S A s.heap s.heap [] := va_S.rf
  have hR := hR0
  have hl := lv_entry [.int v] (n := 1) (Nat.le_of_ble_eq_true rfl)
  rw [lg_entry_eq]
  generalize (lg_sl [.int v] ++ List.replicate (1 - (lg_sl [.int v]).length) Slot.unset).toArray = ls at hl ⊢
  have hl : lv_has ls 1 [(0, .int v)] := hl
  refine lv_iload_n hx hb dJ6_bitCount_0f7a4_0 rfl (lv_at hl 0 rfl) ?_
  refine lv_iload_n hx hb dJ6_bitCount_0f7a4_1 rfl (lv_at hl 0 rfl) ?_
  refine lv_iconst (v := 1) hx hb dJ6_bitCount_0f7a4_2 (by decide) ?_
  refine lv_iushr hx hb dJ6_bitCount_0f7a4_3 rfl ?_
  refine lv_topi (fun x_1 ex_1 => ?_)
  refine lv_ldcw (v := 1431655765) hx hb hown (hts (.constant RJ6 265 (1431655765)) (by decide +kernel)) dJ6_bitCount_0f7a4_4 ?_
  refine lv_iand hx hb dJ6_bitCount_0f7a4_7 ?_
  refine lv_topi (fun x_2 ex_2 => ?_)
  refine lv_isub hx hb dJ6_bitCount_0f7a4_8 ?_
  refine lv_topi (fun x_3 ex_3 => ?_)
  refine lv_istore_n (lv' := [(0, .int x_3)]) hx hb dJ6_bitCount_0f7a4_9 rfl hl (by decide) rfl (fun ls hl => ?_)
  refine lv_iload_n hx hb dJ6_bitCount_0f7a4_10 rfl (lv_at hl 0 rfl) ?_
  refine lv_ldcw (v := 858993459) hx hb hown (hts (.constant RJ6 266 (858993459)) (by decide +kernel)) dJ6_bitCount_0f7a4_11 ?_
  refine lv_iand hx hb dJ6_bitCount_0f7a4_14 ?_
  refine lv_topi (fun x_4 ex_4 => ?_)
  refine lv_iload_n hx hb dJ6_bitCount_0f7a4_15 rfl (lv_at hl 0 rfl) ?_
  refine lv_iconst (v := 2) hx hb dJ6_bitCount_0f7a4_16 (by decide) ?_
  refine lv_iushr hx hb dJ6_bitCount_0f7a4_17 rfl ?_
  refine lv_topi (fun x_5 ex_5 => ?_)
  refine lv_ldcw (v := 858993459) hx hb hown (hts (.constant RJ6 266 (858993459)) (by decide +kernel)) dJ6_bitCount_0f7a4_18 ?_
  refine lv_iand hx hb dJ6_bitCount_0f7a4_21 ?_
  refine lv_topi (fun x_6 ex_6 => ?_)
  refine lv_iadd hx hb dJ6_bitCount_0f7a4_22 ?_
  refine lv_topi (fun x_7 ex_7 => ?_)
  refine lv_istore_n (lv' := [(0, .int x_7)]) hx hb dJ6_bitCount_0f7a4_23 rfl hl (by decide) rfl (fun ls hl => ?_)
  refine lv_iload_n hx hb dJ6_bitCount_0f7a4_24 rfl (lv_at hl 0 rfl) ?_
  refine lv_iload_n hx hb dJ6_bitCount_0f7a4_25 rfl (lv_at hl 0 rfl) ?_
  refine lv_iconst (v := 4) hx hb dJ6_bitCount_0f7a4_26 (by decide) ?_
  refine lv_iushr hx hb dJ6_bitCount_0f7a4_27 rfl ?_
  refine lv_topi (fun x_8 ex_8 => ?_)
  refine lv_iadd hx hb dJ6_bitCount_0f7a4_28 ?_
  refine lv_topi (fun x_9 ex_9 => ?_)
  refine lv_ldcw (v := 252645135) hx hb hown (hts (.constant RJ6 267 (252645135)) (by decide +kernel)) dJ6_bitCount_0f7a4_29 ?_
  refine lv_iand hx hb dJ6_bitCount_0f7a4_32 ?_
  refine lv_topi (fun x_10 ex_10 => ?_)
  refine lv_istore_n (lv' := [(0, .int x_10)]) hx hb dJ6_bitCount_0f7a4_33 rfl hl (by decide) rfl (fun ls hl => ?_)
  refine lv_iload_n hx hb dJ6_bitCount_0f7a4_34 rfl (lv_at hl 0 rfl) ?_
  refine lv_iload_n hx hb dJ6_bitCount_0f7a4_35 rfl (lv_at hl 0 rfl) ?_
  refine lv_bipush (v := 8) hx hb dJ6_bitCount_0f7a4_36 (by decide) ?_
  refine lv_iushr hx hb dJ6_bitCount_0f7a4_38 rfl ?_
  refine lv_topi (fun x_11 ex_11 => ?_)
  refine lv_iadd hx hb dJ6_bitCount_0f7a4_39 ?_
  refine lv_topi (fun x_12 ex_12 => ?_)
  refine lv_istore_n (lv' := [(0, .int x_12)]) hx hb dJ6_bitCount_0f7a4_40 rfl hl (by decide) rfl (fun ls hl => ?_)
  refine lv_iload_n hx hb dJ6_bitCount_0f7a4_41 rfl (lv_at hl 0 rfl) ?_
  refine lv_iload_n hx hb dJ6_bitCount_0f7a4_42 rfl (lv_at hl 0 rfl) ?_
  refine lv_bipush (v := 16) hx hb dJ6_bitCount_0f7a4_43 (by decide) ?_
  refine lv_iushr hx hb dJ6_bitCount_0f7a4_45 rfl ?_
  refine lv_topi (fun x_13 ex_13 => ?_)
  refine lv_iadd hx hb dJ6_bitCount_0f7a4_46 ?_
  refine lv_topi (fun x_14 ex_14 => ?_)
  refine lv_istore_n (lv' := [(0, .int x_14)]) hx hb dJ6_bitCount_0f7a4_47 rfl hl (by decide) rfl (fun ls hl => ?_)
  refine lv_iload_n hx hb dJ6_bitCount_0f7a4_48 rfl (lv_at hl 0 rfl) ?_
  refine lv_bipush (v := 63) hx hb dJ6_bitCount_0f7a4_49 (by decide) ?_
  refine lv_iand hx hb dJ6_bitCount_0f7a4_51 ?_
  refine lv_topi (fun x_15 ex_15 => ?_)
  refine W.widen (k := 0) (n := 0) (Nat.le_of_ble_eq_true rfl) (Nat.le_of_ble_eq_true rfl) ?_
  exact W.iret (v := x_15) hx hb hr (fun t ht hW => ⟨⟨x_15, (), rfl, (z_c_bitCount_383 v x_1 x_2 x_3 x_4 x_5 x_6 x_7 x_8 x_9 x_10 x_11 x_12 x_13 x_14 x_15 ex_1 ex_2 ex_3 ex_4 ex_5 ex_6 ex_7 ex_8 ex_9 ex_10 ex_11 ex_12 ex_13 ex_14 ex_15), trivial⟩, hS.F ht⟩) hS.2.2 dJ6_bitCount_0f7a4_52
theorem z_c_X11_threads_384 (n : Int32) (a_0 : ¬ (0 ≤ n ∧ n ≤ 65535)) : ¬ (0 ≤ n ∧ n ≤ 65535) := by first | grind | exact ⟨by subst_vars; rfl, by assumption⟩
theorem z_c_X11_threads_385 (n : Int32) (x_6 : Int32) (x_7 : Int32) (x_9 : Int32) (a_0 : 0 ≤ n ∧ n ≤ 65535) (a_1 : x_6 = n >>> (1 &&& 31)) (a_2 : x_7 = n &&& x_6) (a_3 : x_9 = (bcn n) + (bcn x_7)) : x_9 = thC n ∧ (0 ≤ n ∧ n ≤ 65535) := by first | grind | exact ⟨by subst_vars; rfl, by assumption⟩
def wo_c_X11_threads_w : List Cond := [Cond.constant RX11 363 (65535)]
def wo_c_X11_threads : List Cond := .code yX11_threads cX11_threads 2 (some .int) :: (wo_c_X11_threads_w ++ (va_wsS RX11 91 yX11_isWithin wsX11_isWithin ++ (va_wsS RX11 87 yX11_demandArgument wsX11_demandArgument ++ (va_wsS RX11 364 yJ6_bitCount_0f7a4 wo_c_bitCount ++ List.nil))))
theorem gw_wo_c_X11_threads : wo_c_X11_threads.all goodWord = true := gw_c (by decide +kernel) (gw_a (by decide +kernel) (gw_a (gw_a (by decide +kernel) gw_wsX11_isWithin) (gw_a (gw_a (by decide +kernel) gw_wsX11_demandArgument) (gw_a (gw_a (by decide +kernel) gw_wo_c_bitCount) rfl))))
theorem go_c_X11_threads_0 : GoodIn wo_c_X11_threads (va_wsS RX11 91 yX11_isWithin wsX11_isWithin) := goodIn_sub (fun _ h => List.mem_cons_of_mem _ (List.mem_append_right _ (List.mem_append_left _ h))) (gw_a (by decide +kernel) gw_wsX11_isWithin)
theorem go_c_X11_threads_1 : GoodIn wo_c_X11_threads (va_wsS RX11 87 yX11_demandArgument wsX11_demandArgument) := goodIn_sub (fun _ h => List.mem_cons_of_mem _ (List.mem_append_right _ (List.mem_append_right _ (List.mem_append_left _ h)))) (gw_a (by decide +kernel) gw_wsX11_demandArgument)
theorem go_c_X11_threads_2 : GoodIn wo_c_X11_threads (va_wsS RX11 364 yJ6_bitCount_0f7a4 wo_c_bitCount) := goodIn_sub (fun _ h => List.mem_cons_of_mem _ (List.mem_append_right _ (List.mem_append_right _ (List.mem_append_right _ (List.mem_append_left _ h))))) (gw_a (by decide +kernel) gw_wo_c_bitCount)
set_option maxHeartbeats 4000000 in
set_option maxRecDepth 100000 in
theorem c_X11_threads (l : Launch) (hst : l.stackTraces = false) (dC : Nat → ClassId) (dI : Nat → Nat → Nat) (b0 : Nat) (en : EnT) (sz : Nat) (h pal she fil nte dat vot loa nos pic spa : Nat) (n : Int32) : vx_Met l yX11_threads wo_c_X11_threads ({ frames := 7, cells := 1, slots := 6, locals := 110 } : Room) (cP b0 en (dC, dI) [] [] [(h, .inr (17, [.ref pal, .ref she, .ref fil, .ref nte, .ref dat, .ref vot, .ref loa, .ref nos, .ref pic, .ref spa, .int 5, .int 50, .int 1600, .int 0]))] sz (fun _ => True) [.ref h, .int n]) (va_Qi (fun (r : Int32) (_ : Unit) => r = thC n ∧ (0 ≤ n ∧ n ≤ 65535)) (fun _ _ => True) (va_A [] sz)) (vx_X (fun _ : Unit => True) (fun E _ _ => (E = "java/lang/IllegalArgumentException" ∧ ¬ (0 ≤ n ∧ n ≤ 65535))) (va_A [] sz)) 1 6 (va_A [] sz) := by
  refine vx_ofW (cc := cX11_threads) (maxL := 2) (ret := (some .int)) (by decide) rfl ?_
  intro p e s m args below meth c s₁ B hml hext hv
  obtain ⟨rfl, hsz, hb0, hE, hPP, hK, hDD, hF0⟩ := hv
  have hx := B.exec
  have hb := B.bytes
  have hr := B.returns
  have hts := atoms_spec (ws := wo_c_X11_threads) B.pre
  have hown : s.vm.findClass RX11 = some m.cls := findClass_of_methodNamed B.named
  have hlocks := B.notSynchronized
  subst hsz
  have hN0 := en_N hPP hDD rfl
  have hP : va_P (dC, dI) vwCl [] s.heap := hPP.sub [] rfl
  have hR0 : va_P (dC, dI) vwCl [(h, .inr (17, [.ref pal, .ref she, .ref fil, .ref nte, .ref dat, .ref vot, .ref loa, .ref nos, .ref pic, .ref spa, .int 5, .int 50, .int 1600, .int 0]))] s.heap := hPP.sub [0] rfl
  have hD0 : va_D (fun q => b0 ≤ q) [] := hDD.sub [] (by decide) rfl
  have hDr : va_D (fun q => b0 ≤ q) [(h, .inr (17, [.ref pal, .ref she, .ref fil, .ref nte, .ref dat, .ref vot, .ref loa, .ref nos, .ref pic, .ref spa, .int 5, .int 50, .int 1600, .int 0]))] := hDD.sub [0] (by decide) rfl
  have hAb := en_A (sz := s.heap.size) hD0 hb0
  have hD := hD0.self (sz := s.heap.size)
  generalize hAe : va_A [] s.heap.size = A at hD hAb hN0 ⊢
  have hA : ∀ q : Nat, s.heap.size ≤ q → A q := fun q h => by rw [← hAe]; exact Or.inr h
  have hS : va_S A s.heap s.heap [] := va_S.rf
  have hR := hR0
  have hl := lv_entry [.ref h, .int n] (n := 2) (Nat.le_of_ble_eq_true rfl)
  rw [lg_entry_eq]
  generalize (lg_sl [.ref h, .int n] ++ List.replicate (2 - (lg_sl [.ref h, .int n]).length) Slot.unset).toArray = ls at hl ⊢
  have hl : lv_has ls 2 [(0, .ref h), (1, .int n)] := hl
  refine lv_iload_n hx hb dX11_threads_0 rfl (lv_at hl 1 rfl) ?_
  refine lv_iconst (v := 0) hx hb dX11_threads_1 (by decide) ?_
  refine lv_ldcw (v := 65535) hx hb hown (hts (.constant RX11 363 (65535)) (by decide +kernel)) dX11_threads_2 ?_
  have hPc := (hP.app hR).sub (ws' := [] ++ []) [] rfl
  have hDc := (en_DD hD hDr hN0 hAb).sub (ws' := [] ++ []) [] (by decide) rfl
  have hKc := hK.sub (tys' := []) [] rfl
  have hFc := va_free (wc := []) hD hS hA [] rfl
  refine va_calli (va_runS (As := [.int n, .int 0, .int 65535]) (rest := []) ⟨hx, hb, hml, hown, hts⟩ (c_X11_isWithin l dC dI b0 en s.heap.size n 0 65535) (va_cwS 3 hts go_c_X11_threads_0 rfl rfl rfl (by decide +kernel) ⟨Nat.le_of_ble_eq_true rfl, Nat.le_of_ble_eq_true rfl⟩) ⟨cP.blind, cP.use (en_z hb0 hS) (hE.on hAb hS) hPc hKc hDc trivial⟩ rfl rfl hl.1 rfl (lv_room (Nat.le_of_ble_eq_true rfl)) dX11_threads_5 ⟨Nat.le_of_ble_eq_true rfl, Nat.le_of_ble_eq_true rfl⟩) hS (fun q _ h => hFc q h) hFc (fun r_1 u t H1 locs ht hvm hw hB hz1 hk1 hS => ?_)
  have hP1 : va_P (dC, dI) vwCl [] H1 := fun k q h => by simp at h
  have hD1 : va_D (va_A [] s.heap.size) [] := ⟨fun i j p q h => by simp at h, fun k q h => by simp at h⟩
  try dsimp only at hw
  obtain ⟨hP, hD⟩ := va_join (wr := []) (w1 := []) hP hD [] [] rfl rfl (by decide) (by decide) hk1 hFc hP1 hD1
  generalize H1 = H at hP hS ⊢
  have hP : va_P (dC, dI) vwCl [] H := hP
  have hD : va_D A [] := hD
  have hR := en_R hR0 hN0 hS
  refine W.widen (k := 0) (n := 0) (Nat.le_of_ble_eq_true rfl) (Nat.le_of_ble_eq_true rfl) ?_
  have h_2 := hw
  have hPc := (hP.app hR).sub (ws' := [] ++ []) [] rfl
  have hDc := (en_DD hD hDr hN0 hAb).sub (ws' := [] ++ []) [] (by decide) rfl
  have hKc := hK.sub (tys' := []) [] rfl
  have hFc := va_free (wc := []) hD hS hA [] rfl
  refine vx_callv (vx_runS (As := [.int r_1]) (rest := []) ⟨hx, hb, hml, hown, hts⟩ (c_X11_demandArgument l hst dC dI b0 en H.size r_1) (va_cwS 1 hts go_c_X11_threads_1 rfl rfl rfl (by decide +kernel) ⟨Nat.le_of_ble_eq_true rfl, Nat.le_of_ble_eq_true rfl⟩) ⟨cP.blind, cP.use (en_z hb0 hS) (hE.on hAb hS) hPc hKc hDc trivial⟩ rfl rfl hl.1 rfl (lv_room (Nat.le_of_ble_eq_true rfl)) dX11_threads_8 ⟨Nat.le_of_ble_eq_true rfl, Nat.le_of_ble_eq_true rfl⟩) hS (fun q _ h => hFc q h) hFc (fun q _ h => hFc q h) (fun E ce q9 u t H1 locs ht hvm hpx hBX hz1 hk1 hS hce hcv hcl => ?_) (fun u t H1 locs ht hvm hw hB hz1 hk1 hS => ?_)
  · skip
    try dsimp only at hBX
    obtain ⟨rfl, hc⟩ := hBX
    refine vx_widen (k := 1) (n := 6) (Nat.le_of_ble_eq_true rfl) (Nat.le_of_ble_eq_true rfl) ?_
    exact vx_out (fun x hx => (hext x hx).elim) hlocks hce hcv hcl (fun t ht hW => ⟨(), trivial, ⟨rfl, (z_c_X11_threads_384 n (b_no h_2 hc))⟩, hS.F ht⟩) hS.2.2 (Nat.le_refl _) (Nat.le_refl _)
  have hP1 : va_P (dC, dI) vwCl [] H1 := fun k q h => by simp at h
  have hD1 : va_D (va_A [] H.size) [] := ⟨fun i j p q h => by simp at h, fun k q h => by simp at h⟩
  try dsimp only at hw
  obtain ⟨hP, hD⟩ := va_join (wr := []) (w1 := []) hP hD [] [] rfl rfl (by decide) (by decide) hk1 hFc hP1 hD1
  generalize H1 = H at hP hS ⊢
  have hP : va_P (dC, dI) vwCl [] H := hP
  have hD : va_D A [] := hD
  have hR := en_R hR0 hN0 hS
  refine W.widen (k := 1) (n := 6) (Nat.le_of_ble_eq_true rfl) (Nat.le_of_ble_eq_true rfl) ?_
  have h_4 := hw
  refine lv_iload_n hx hb dX11_threads_11 rfl (lv_at hl 1 rfl) ?_
  have hPc := (hP.app hR).sub (ws' := [] ++ []) [] rfl
  have hDc := (en_DD hD hDr hN0 hAb).sub (ws' := [] ++ []) [] (by decide) rfl
  have hKc := hK.sub (tys' := []) [] rfl
  have hFc := va_free (wc := []) hD hS hA [] rfl
  refine va_calli (va_runS (As := [.int n]) (rest := []) ⟨hx, hb, hml, hown, hts⟩ (c_bitCount l dC dI b0 en H.size n) (va_cwS 1 hts go_c_X11_threads_2 rfl rfl rfl (by decide +kernel) ⟨Nat.le_of_ble_eq_true rfl, Nat.le_of_ble_eq_true rfl⟩) ⟨cP.blind, cP.use (en_z hb0 hS) (hE.on hAb hS) hPc hKc hDc trivial⟩ rfl rfl hl.1 rfl (lv_room (Nat.le_of_ble_eq_true rfl)) dX11_threads_12 ⟨Nat.le_of_ble_eq_true rfl, Nat.le_of_ble_eq_true rfl⟩) hS (fun q _ h => hFc q h) hFc (fun r_5 u t H1 locs ht hvm hw hB hz1 hk1 hS => ?_)
  have hP1 : va_P (dC, dI) vwCl [] H1 := fun k q h => by simp at h
  have hD1 : va_D (va_A [] H.size) [] := ⟨fun i j p q h => by simp at h, fun k q h => by simp at h⟩
  try dsimp only at hw
  obtain ⟨hP, hD⟩ := va_join (wr := []) (w1 := []) hP hD [] [] rfl rfl (by decide) (by decide) hk1 hFc hP1 hD1
  generalize H1 = H at hP hS ⊢
  have hP : va_P (dC, dI) vwCl [] H := hP
  have hD : va_D A [] := hD
  have hR := en_R hR0 hN0 hS
  refine W.widen (k := 1) (n := 6) (Nat.le_of_ble_eq_true rfl) (Nat.le_of_ble_eq_true rfl) ?_
  subst r_5
  refine lv_iload_n hx hb dX11_threads_15 rfl (lv_at hl 1 rfl) ?_
  refine lv_iload_n hx hb dX11_threads_16 rfl (lv_at hl 1 rfl) ?_
  refine lv_iconst (v := 1) hx hb dX11_threads_17 (by decide) ?_
  refine lv_ishr hx hb dX11_threads_18 ?_
  refine lv_topi (fun x_6 ex_6 => ?_)
  refine lv_iand hx hb dX11_threads_19 ?_
  refine lv_topi (fun x_7 ex_7 => ?_)
  have hPc := (hP.app hR).sub (ws' := [] ++ []) [] rfl
  have hDc := (en_DD hD hDr hN0 hAb).sub (ws' := [] ++ []) [] (by decide) rfl
  have hKc := hK.sub (tys' := []) [] rfl
  have hFc := va_free (wc := []) hD hS hA [] rfl
  refine va_calli (va_runS (As := [.int x_7]) (rest := [.int (bcn n)]) ⟨hx, hb, hml, hown, hts⟩ (c_bitCount l dC dI b0 en H.size x_7) (va_cwS 1 hts go_c_X11_threads_2 rfl rfl rfl (by decide +kernel) ⟨Nat.le_of_ble_eq_true rfl, Nat.le_of_ble_eq_true rfl⟩) ⟨cP.blind, cP.use (en_z hb0 hS) (hE.on hAb hS) hPc hKc hDc trivial⟩ rfl rfl hl.1 rfl (lv_room (Nat.le_of_ble_eq_true rfl)) dX11_threads_20 ⟨Nat.le_of_ble_eq_true rfl, Nat.le_of_ble_eq_true rfl⟩) hS (fun q _ h => hFc q h) hFc (fun r_8 u t H1 locs ht hvm hw hB hz1 hk1 hS => ?_)
  have hP1 : va_P (dC, dI) vwCl [] H1 := fun k q h => by simp at h
  have hD1 : va_D (va_A [] H.size) [] := ⟨fun i j p q h => by simp at h, fun k q h => by simp at h⟩
  try dsimp only at hw
  obtain ⟨hP, hD⟩ := va_join (wr := []) (w1 := []) hP hD [] [] rfl rfl (by decide) (by decide) hk1 hFc hP1 hD1
  generalize H1 = H at hP hS ⊢
  have hP : va_P (dC, dI) vwCl [] H := hP
  have hD : va_D A [] := hD
  have hR := en_R hR0 hN0 hS
  refine W.widen (k := 1) (n := 6) (Nat.le_of_ble_eq_true rfl) (Nat.le_of_ble_eq_true rfl) ?_
  subst r_8
  refine lv_iadd hx hb dX11_threads_23 ?_
  refine lv_topi (fun x_9 ex_9 => ?_)
  refine W.widen (k := 1) (n := 6) (Nat.le_of_ble_eq_true rfl) (Nat.le_of_ble_eq_true rfl) ?_
  refine vx_ret ?_
  exact W.iret (v := x_9) hx hb hr (fun t ht hW => ⟨⟨x_9, (), rfl, (z_c_X11_threads_385 n x_6 x_7 x_9 (b_yes h_2 h_4) ex_6 ex_7 ex_9), trivial⟩, hS.F ht⟩) hS.2.2 dX11_threads_24
theorem z_c_X5_sumUp_386 (hh : Int64) (a_0 : hh = chk 48) : hh = chk 48 := by first | assumption | rfl | exact ⟨rfl, by assumption⟩ | (subst_vars; rfl)
theorem z_c_X5_sumUp_387 (hh : Int64) (k_6 : Nat) (y_15 : Int64) (y_17 : Int64) (y_18 : Int64) (a_0 : 0 ≤ nI k_6 ∧ nI k_6 < 48) (a_1 : nI k_6 + 1 = nI (k_6 + 1)) (a_2 : hh = chk k_6) (a_3 : y_15 = 31 * hh) (a_4 : y_17 = (0 : Int32).toInt64) (a_5 : y_18 = y_15 + y_17) : y_18 = chk (k_6 + 1) := by first | assumption | rfl | exact ⟨rfl, by assumption⟩ | (subst_vars; rfl)
theorem z_c_X5_sumUp_388   : (7 : Int64) = chk 0 := by first | decide +kernel | grind
def wo_c_X5_sumUp_w : List Cond := [Cond.constantLong RX5 218 (7), Cond.constantLong RX5 224 (31), Cond.fieldLink RX5 11 "Underpaint$Picture" "stacks" "[LUnderpaint$Stack;", Cond.fieldLink RX5 202 "Underpaint$Stack" "tiredness" "I", Cond.fieldLink RX5 91 "Underpaint$Stack" "size" "I"]
def wo_c_X5_sumUp : List Cond := .code yX5_sumUp cX5_sumUp 6 (some .long) :: (wo_c_X5_sumUp_w ++ (u_ws RX5 TX5 5 ++ (u_ws RX8 TX8 3 ++ List.nil)))
theorem gw_wo_c_X5_sumUp : wo_c_X5_sumUp.all goodWord = true := gw_c (by decide +kernel) (gw_a (by decide +kernel) (gw_a (by decide +kernel) (gw_a (by decide +kernel) rfl)))
set_option maxHeartbeats 4000000 in
set_option maxRecDepth 100000 in
/-- Picture.sumUp -/
theorem c_X5_sumUp (l : Launch) (dC : Nat → ClassId) (dI : Nat → Nat → Nat) (b0 : Nat) (en : EnT) (sz : Nat) (q st sp ll : Nat) (g : Nat → Option Nat) (cS : ClassId) (N : Nat → Prop) (hNb : ∀ a, N a → b0 ≤ a ∧ a < sz) (hNw : ∀ a, N a → a ∉ List.map Prod.fst ([] : va_W)) (hNr : ∀ a, N a → a ∉ List.map Prod.fst ([(q, .inr (11, [.ref st, .ref sp, .ref ll, .int 0, .int 1600])), (st, .inl (cS, 48, .inr (.inr (.inr (.inr g)))))] : va_W)) : Met l yX5_sumUp wo_c_X5_sumUp ({ frames := 0, cells := 0, slots := 0, locals := 0 } : Room) (cP b0 en (dC, dI) [(cS, .object "Underpaint$Stack")] [] [(q, .inr (11, [.ref st, .ref sp, .ref ll, .int 0, .int 1600])), (st, .inl (cS, 48, .inr (.inr (.inr (.inr g)))))] sz (FamS (dC, dI) N g) [.ref q]) (va_Ql (fun (r : Int64) (_ : Unit) => r = chk 48) (fun _ _ => True) (va_A [] sz)) 0 0 (va_A [] sz) := by
  refine Met.ofW (cc := cX5_sumUp) (maxL := 6) (ret := (some .long)) (by decide) rfl ?_
  intro p e s m args below meth c s₁ B hml hv
  obtain ⟨rfl, hsz, hb0, hE, hPP, hK, hDD, hF0⟩ := hv
  have hx := B.exec
  have hb := B.bytes
  have hr := B.returns
  have hts := atoms_spec (ws := wo_c_X5_sumUp) B.pre
  have hown : s.vm.findClass RX5 = some m.cls := findClass_of_methodNamed B.named
  have hlocks := B.notSynchronized
  subst hsz
  have hN0 := en_N hPP hDD rfl
  have hP : va_P (dC, dI) vwCl [] s.heap := hPP.sub [] rfl
  have hR0 : va_P (dC, dI) vwCl [(q, .inr (11, [.ref st, .ref sp, .ref ll, .int 0, .int 1600])), (st, .inl (cS, 48, .inr (.inr (.inr (.inr g)))))] s.heap := hPP.sub [0, 1] rfl
  have hD0 : va_D (fun q => b0 ≤ q) [] := hDD.sub [] (by decide) rfl
  have hDr : va_D (fun q => b0 ≤ q) [(q, .inr (11, [.ref st, .ref sp, .ref ll, .int 0, .int 1600])), (st, .inl (cS, 48, .inr (.inr (.inr (.inr g)))))] := hDD.sub [0, 1] (by decide) rfl
  have hAb := en_A (sz := s.heap.size) hD0 hb0
  have hD := hD0.self (sz := s.heap.size)
  generalize hAe : va_A [] s.heap.size = A at hD hAb hN0 ⊢
  have hA : ∀ q : Nat, s.heap.size ≤ q → A q := fun q h => by rw [← hAe]; exact Or.inr h
  have hS : va_S A s.heap s.heap [] := va_S.rf
  have hR := hR0
  have hl := lv_entry [.ref q] (n := 6) (Nat.le_of_ble_eq_true rfl)
  rw [lg_entry_eq]
  generalize (lg_sl [.ref q] ++ List.replicate (6 - (lg_sl [.ref q]).length) Slot.unset).toArray = ls at hl ⊢
  have hl : lv_has ls 6 [(0, .ref q)] := hl
  refine W.gen (fun Q hQ => ?_)
  have hR0b := hR0
  have hDrb := hDr
  have hN0b := hN0
  refine lv_ldc2 (v := 7) hx hb hown (hts (.constantLong RX5 218 (7)) (by decide +kernel)) dX5_sumUp_0 ?_
  refine lv_lstore_n (lv' := [(1, .long 7), (0, .ref q)]) hx hb dX5_sumUp_3 rfl hl (by decide) rfl (fun ls hl => ?_)
  refine lv_iconst (v := 0) hx hb dX5_sumUp_4 (by decide) ?_
  refine lv_istore_n (lv' := [(3, .int 0), (1, .long 7), (0, .ref q)]) hx hb dX5_sumUp_5 rfl hl (by decide) rfl (fun ls hl => ?_)
  have loop_6 : ∀ (n_2 k_1 : Nat), n_2 + k_1 = 48 → ∀ (H : Heap) (locs : List Loc), va_P (dC, dI) vwCl [] H → va_D A [] → va_S A s.heap H locs → ∀ ls : Array Slot, lv_has ls 6 [(3, .int (nI k_1)), (1, .long 7), (0, .ref q)] → W p l e (headSpec wo_c_X5_sumUp ({ frames := 0, cells := 0, slots := 0, locals := 0 } : Room)).room s m #[.ref q] below meth c H locs 0 0 Q (F0 m 6 ls []) := by
    intro n_2
    induction n_2 with
    | zero =>
      intro k_1 hk_3 H locs hP hD hS ls hl
      have ek_1 : k_1 = 48 := by omega
      subst ek_1
      have hl : lv_has ls 6 [(3, .int 48), (1, .long 7), (0, .ref q)] := hl
      have hR := en_R hR0 hN0 hS
      refine lv_iload_n hx hb dX5_sumUp_6 rfl (lv_at hl 0 rfl) ?_
      refine lv_bipush (v := 48) hx hb dX5_sumUp_7 (by decide) ?_
      refine lv_icmp_ge (tgt := 101) hx hb dX5_sumUp_9 (by decide) (fun c_5 => ?_) (fun c_5 => absurd c_5 (by decide))
      refine lv_iconst (v := 0) hx hb dX5_sumUp_101 (by decide) ?_
      refine lv_istore_n (lv' := [(3, .int 0), (1, .long 7), (0, .ref q)]) hx hb dX5_sumUp_102 rfl hl (by decide) rfl (fun ls hl => ?_)
      have loop_103 : ∀ (n_7 k_6 : Nat), n_7 + k_6 = 48 → ∀ hh : Int64, hh = chk k_6 → ∀ (H : Heap) (locs : List Loc), va_P (dC, dI) vwCl [] H → va_D A [] → va_S A s.heap H locs → ∀ ls : Array Slot, lv_has ls 6 [(3, .int (nI k_6)), (1, .long hh), (0, .ref q)] → W p l e (headSpec wo_c_X5_sumUp ({ frames := 0, cells := 0, slots := 0, locals := 0 } : Room)).room s m #[.ref q] below meth c H locs 0 0 Q (F0 m 103 ls []) := by
        intro n_7
        induction n_7 with
        | zero =>
          intro k_6 hk_8 hh h_9 H locs hP hD hS ls hl
          have ek_6 : k_6 = 48 := by omega
          subst ek_6
          have hl : lv_has ls 6 [(3, .int 48), (1, .long hh), (0, .ref q)] := hl
          have hR := en_R hR0 hN0 hS
          have hI_103 := h_9
          refine lv_iload_n hx hb dX5_sumUp_103 rfl (lv_at hl 0 rfl) ?_
          refine lv_bipush (v := 48) hx hb dX5_sumUp_104 (by decide) ?_
          refine lv_icmp_ge (tgt := 132) hx hb dX5_sumUp_106 (by decide) (fun c_10 => ?_) (fun c_10 => absurd c_10 (by decide))
          refine lv_lload_n hx hb dX5_sumUp_132 rfl (lv_at hl 1 rfl) ?_
          subst hQ
          refine W.widen (k := 0) (n := 0) (Nat.le_of_ble_eq_true rfl) (Nat.le_of_ble_eq_true rfl) ?_
          exact W.lret (v := hh) hx hb hr (fun t ht hW => ⟨⟨hh, (), rfl, (z_c_X5_sumUp_386 hh h_9), trivial⟩, hS.F ht⟩) hS.2.2 dX5_sumUp_133
        | succ n_7 ih =>
          intro k_6 hk_8 hh h_9 H locs hP hD hS ls hl
          have hk_11 : k_6 < 48 := by omega
          have hb_12 : 0 ≤ nI k_6 ∧ nI k_6 < 48 := ⟨nI_le (Nat.zero_le _) (by omega), nI_lk hk_11 (by decide)⟩
          have hn_13 := nI_1 k_6
          have hI_103 := h_9
          have hR := en_R hR0 hN0 hS
          refine lv_iload_n hx hb dX5_sumUp_103 rfl (lv_at hl 0 rfl) ?_
          refine lv_bipush (v := 48) hx hb dX5_sumUp_104 (by decide) ?_
          refine lv_icmp_ge (tgt := 132) hx hb dX5_sumUp_106 (by decide) (fun c_14 => ?_) (fun c_14 => ?_)
          · skip
            first | exact absurd c_14 (nI_ge hk_11 (by decide)) | exact absurd (nI_lk hk_11 (by decide)) c_14
          · skip
            refine lv_ldc2 (v := 31) hx hb hown (hts (.constantLong RX5 224 (31)) (by decide +kernel)) dX5_sumUp_109 ?_
            refine lv_lload_n hx hb dX5_sumUp_112 rfl (lv_at hl 1 rfl) ?_
            refine lv_lmul hx hb dX5_sumUp_113 ?_
            refine lv_topl (fun y_15 ey_15 => ?_)
            refine lv_aload_n hx hb dX5_sumUp_114 rfl (lv_at hl 2 rfl) ?_
            refine va_get (D := (dC, dI)) (ci := 11) (v := .ref st) (C := RX5) (T := TX5) (N := 5) hx hb hts (by decide +kernel) hown hK hR 0 rfl rfl 0 (by decide) (hts (.fieldLink RX5 11 "Underpaint$Picture" "stacks" "[LUnderpaint$Stack;") (by decide +kernel)) (fun _ h9 => h9) rfl dX5_sumUp_115 ?_
            refine lv_iload_n hx hb dX5_sumUp_118 rfl (lv_at hl 0 rfl) ?_
            refine va_aldq hx hb hK hR 1 0 rfl rfl (vp_in_nI hk_11 (by decide)) dX5_sumUp_119 ?_
            obtain ⟨ap_16, rp_16, hgp_16, hup_16, hnp_16⟩ := hF0 k_6 hk_11
            refine lv_topv (w := .ref ap_16) (by rw [nI_clamp (by omega), hgp_16]; rfl) ?_
            have hxp_16 : ¬ A ap_16 := by rw [← hAe]; exact vA0 hup_16.lt
            have hfa := va1 (hup_16.kept (hS.2.1 _ hup_16.lt hxp_16))
            refine va_get (D := (dC, dI)) (ci := 14) (v := .int 0) (C := RX8) (T := TX8) (N := 3) hx hb hts (by decide +kernel) hown hK hfa 0 rfl rfl 2 (by decide) (hts (.fieldLink RX5 202 "Underpaint$Stack" "tiredness" "I") (by decide +kernel)) (fun _ h9 => h9) rfl dX5_sumUp_120 ?_
            refine lv_i2l hx hb dX5_sumUp_123 rfl ?_
            refine lv_topl (fun y_17 ey_17 => ?_)
            refine lv_ladd hx hb dX5_sumUp_124 ?_
            refine lv_topl (fun y_18 ey_18 => ?_)
            refine lv_lstore_n (lv' := [(1, .long y_18), (3, .int (nI k_6)), (0, .ref q)]) hx hb dX5_sumUp_125 rfl hl (by decide) rfl (fun ls hl => ?_)
            obtain ⟨x_19, ex_19⟩ : ∃ y : Int32, y = (nI k_6) + 1 := ⟨_, rfl⟩
            refine lv_iinc (v := x_19) (lv' := [(3, .int x_19), (1, .long y_18), (0, .ref q)]) hx hb dX5_sumUp_126 hl (k := 1) rfl (by rw [ex_19]; rfl) (by decide) rfl (fun ls hl => ?_)
            have hy : x_19 = nI (k_6 + 1) := by rw [ex_19]; exact nI_1 k_6
            subst hy
            refine lv_goto (tgt := 103) hx hb dX5_sumUp_129 (by decide) ?_
            exact ih (k_6 + 1) (by omega) y_18 (z_c_X5_sumUp_387 hh k_6 y_15 y_17 y_18 hb_12 hn_13 h_9 ey_15 ey_17 ey_18) _ _ hP hD hS _ (lv_sub hl [0, 1, 2] rfl)
      exact loop_103 48 0 rfl 7 (z_c_X5_sumUp_388) _ _ hP hD hS ls (lv_sub hl [0, 1, 2] rfl)
    | succ n_2 ih =>
      intro k_1 hk_3 H locs hP hD hS ls hl
      have hk_20 : k_1 < 48 := by omega
      have hb_21 : 0 ≤ nI k_1 ∧ nI k_1 < 48 := ⟨nI_le (Nat.zero_le _) (by omega), nI_lk hk_20 (by decide)⟩
      have hR := en_R hR0 hN0 hS
      refine lv_iload_n hx hb dX5_sumUp_6 rfl (lv_at hl 0 rfl) ?_
      refine lv_bipush (v := 48) hx hb dX5_sumUp_7 (by decide) ?_
      refine lv_icmp_ge (tgt := 101) hx hb dX5_sumUp_9 (by decide) (fun c_22 => ?_) (fun c_22 => ?_)
      · skip
        first | exact absurd c_22 (nI_ge hk_20 (by decide)) | exact absurd (nI_lk hk_20 (by decide)) c_22
      · skip
        refine lv_iconst (v := 0) hx hb dX5_sumUp_12 (by decide) ?_
        refine lv_istore (lv' := [(4, .int 0), (3, .int (nI k_1)), (1, .long 7), (0, .ref q)]) hx hb dX5_sumUp_13 hl (by decide) rfl (fun ls hl => ?_)
        refine lv_iload hx hb dX5_sumUp_15 (lv_at hl 0 rfl) ?_
        refine lv_aload_n hx hb dX5_sumUp_17 rfl (lv_at hl 3 rfl) ?_
        refine va_get (D := (dC, dI)) (ci := 11) (v := .ref st) (C := RX5) (T := TX5) (N := 5) hx hb hts (by decide +kernel) hown hK hR 0 rfl rfl 0 (by decide) (hts (.fieldLink RX5 11 "Underpaint$Picture" "stacks" "[LUnderpaint$Stack;") (by decide +kernel)) (fun _ h9 => h9) rfl dX5_sumUp_18 ?_
        refine lv_iload_n hx hb dX5_sumUp_21 rfl (lv_at hl 1 rfl) ?_
        refine va_aldq hx hb hK hR 1 0 rfl rfl (vp_in_nI hk_20 (by decide)) dX5_sumUp_22 ?_
        obtain ⟨ap_23, rp_23, hgp_23, hup_23, hnp_23⟩ := hF0 k_1 hk_20
        refine lv_topv (w := .ref ap_23) (by rw [nI_clamp (by omega), hgp_23]; rfl) ?_
        have hxp_23 : ¬ A ap_23 := by rw [← hAe]; exact vA0 hup_23.lt
        have hfa := va1 (hup_23.kept (hS.2.1 _ hup_23.lt hxp_23))
        refine va_get (D := (dC, dI)) (ci := 14) (v := .int 0) (C := RX8) (T := TX8) (N := 3) hx hb hts (by decide +kernel) hown hK hfa 0 rfl rfl 1 (by decide) (hts (.fieldLink RX5 91 "Underpaint$Stack" "size" "I") (by decide +kernel)) (fun _ h9 => h9) rfl dX5_sumUp_23 ?_
        refine lv_icmp_ge (tgt := 95) hx hb dX5_sumUp_26 (by decide) (fun c_24 => ?_) (fun c_24 => absurd c_24 (by decide))
        obtain ⟨x_25, ex_25⟩ : ∃ y : Int32, y = (nI k_1) + 1 := ⟨_, rfl⟩
        refine lv_iinc (v := x_25) (lv' := [(3, .int x_25), (4, .int 0), (1, .long 7), (0, .ref q)]) hx hb dX5_sumUp_95 hl (k := 1) rfl (by rw [ex_25]; rfl) (by decide) rfl (fun ls hl => ?_)
        have hy : x_25 = nI (k_1 + 1) := by rw [ex_25]; exact nI_1 k_1
        subst hy
        refine lv_goto (tgt := 6) hx hb dX5_sumUp_98 (by decide) ?_
        exact ih (k_1 + 1) (by omega)  _ _ hP hD hS _ (lv_sub hl [0, 2, 3] rfl)
  exact loop_6 48 0 rfl  _ _ hP hD hS ls (lv_sub hl [0, 1, 2] rfl)

def wo_c_X11_checksum_w : List Cond := [Cond.fieldLink RX11 62 "Underpaint" "picture" "LUnderpaint$Picture;"]
def wo_c_X11_checksum : List Cond := .code yX11_checksum cX11_checksum 1 (some .long) :: (wo_c_X11_checksum_w ++ (u_ws RX11 TX11 14 ++ (wsV RX11 406 RX5 yX5_sumUp wo_c_X5_sumUp ++ List.nil)))
theorem gw_wo_c_X11_checksum : wo_c_X11_checksum.all goodWord = true := gw_c (by decide +kernel) (gw_a (by decide +kernel) (gw_a (by decide +kernel) (gw_a (gw_a (by decide +kernel) gw_wo_c_X5_sumUp) rfl)))
theorem go_c_X11_checksum_0 : GoodIn wo_c_X11_checksum (wsV RX11 406 RX5 yX5_sumUp wo_c_X5_sumUp) := goodIn_sub (fun _ h => List.mem_cons_of_mem _ (List.mem_append_right _ (List.mem_append_right _ (List.mem_append_left _ h)))) (gw_a (by decide +kernel) gw_wo_c_X5_sumUp)
set_option maxHeartbeats 4000000 in
set_option maxRecDepth 100000 in
theorem c_X11_checksum (l : Launch) (dC : Nat → ClassId) (dI : Nat → Nat → Nat) (b0 : Nat) (en : EnT) (sz : Nat) (h pal she fil nte dat vot loa nos pic spa : Nat) (st sp ll : Nat) (g : Nat → Option Nat) (cS : ClassId) (N : Nat → Prop) (hNb : ∀ a, N a → b0 ≤ a ∧ a < sz) (hNw : ∀ a, N a → a ∉ List.map Prod.fst ([] : va_W)) (hNr : ∀ a, N a → a ∉ List.map Prod.fst ([(h, .inr (17, [.ref pal, .ref she, .ref fil, .ref nte, .ref dat, .ref vot, .ref loa, .ref nos, .ref pic, .ref spa, .int 5, .int 50, .int 1600, .int 0])), (pic, .inr (11, [.ref st, .ref sp, .ref ll, .int 0, .int 1600])), (st, .inl (cS, 48, .inr (.inr (.inr (.inr g)))))] : va_W)) : Met l yX11_checksum wo_c_X11_checksum ({ frames := 1, cells := 0, slots := 0, locals := 25 } : Room) (cP b0 en (dC, dI) [(cS, .object "Underpaint$Stack")] [] [(h, .inr (17, [.ref pal, .ref she, .ref fil, .ref nte, .ref dat, .ref vot, .ref loa, .ref nos, .ref pic, .ref spa, .int 5, .int 50, .int 1600, .int 0])), (pic, .inr (11, [.ref st, .ref sp, .ref ll, .int 0, .int 1600])), (st, .inl (cS, 48, .inr (.inr (.inr (.inr g)))))] sz (FamS (dC, dI) N g) [.ref h]) (va_Ql (fun (r : Int64) (_ : Unit) => r = chk 48) (fun _ _ => True) (va_A [] sz)) 0 0 (va_A [] sz) := by
  refine Met.ofW (cc := cX11_checksum) (maxL := 1) (ret := (some .long)) (by decide) rfl ?_
  intro p e s m args below meth c s₁ B hml hv
  obtain ⟨rfl, hsz, hb0, hE, hPP, hK, hDD, hF0⟩ := hv
  have hx := B.exec
  have hb := B.bytes
  have hr := B.returns
  have hts := atoms_spec (ws := wo_c_X11_checksum) B.pre
  have hown : s.vm.findClass RX11 = some m.cls := findClass_of_methodNamed B.named
  have hlocks := B.notSynchronized
  subst hsz
  have hN0 := en_N hPP hDD rfl
  have hP : va_P (dC, dI) vwCl [] s.heap := hPP.sub [] rfl
  have hR0 : va_P (dC, dI) vwCl [(h, .inr (17, [.ref pal, .ref she, .ref fil, .ref nte, .ref dat, .ref vot, .ref loa, .ref nos, .ref pic, .ref spa, .int 5, .int 50, .int 1600, .int 0])), (pic, .inr (11, [.ref st, .ref sp, .ref ll, .int 0, .int 1600])), (st, .inl (cS, 48, .inr (.inr (.inr (.inr g)))))] s.heap := hPP.sub [0, 1, 2] rfl
  have hD0 : va_D (fun q => b0 ≤ q) [] := hDD.sub [] (by decide) rfl
  have hDr : va_D (fun q => b0 ≤ q) [(h, .inr (17, [.ref pal, .ref she, .ref fil, .ref nte, .ref dat, .ref vot, .ref loa, .ref nos, .ref pic, .ref spa, .int 5, .int 50, .int 1600, .int 0])), (pic, .inr (11, [.ref st, .ref sp, .ref ll, .int 0, .int 1600])), (st, .inl (cS, 48, .inr (.inr (.inr (.inr g)))))] := hDD.sub [0, 1, 2] (by decide) rfl
  have hAb := en_A (sz := s.heap.size) hD0 hb0
  have hD := hD0.self (sz := s.heap.size)
  generalize hAe : va_A [] s.heap.size = A at hD hAb hN0 ⊢
  have hA : ∀ q : Nat, s.heap.size ≤ q → A q := fun q h => by rw [← hAe]; exact Or.inr h
  have hS : va_S A s.heap s.heap [] := va_S.rf
  have hR := hR0
  have hl := lv_entry [.ref h] (n := 1) (Nat.le_of_ble_eq_true rfl)
  rw [lg_entry_eq]
  generalize (lg_sl [.ref h] ++ List.replicate (1 - (lg_sl [.ref h]).length) Slot.unset).toArray = ls at hl ⊢
  have hl : lv_has ls 1 [(0, .ref h)] := hl
  have hR0b := hR0
  have hDrb := hDr
  have hN0b := hN0
  refine lv_aload_n hx hb dX11_checksum_0 rfl (lv_at hl 0 rfl) ?_
  refine va_get (D := (dC, dI)) (ci := 17) (v := .ref pic) (C := RX11) (T := TX11) (N := 14) hx hb hts (by decide +kernel) hown hK hR 0 rfl rfl 8 (by decide) (hts (.fieldLink RX11 62 "Underpaint" "picture" "LUnderpaint$Picture;") (by decide +kernel)) (fun _ h9 => h9) rfl dX11_checksum_1 ?_
  have hPc := (hP.app hR).sub (ws' := [] ++ [(pic, .inr (11, [.ref st, .ref sp, .ref ll, .int 0, .int 1600])), (st, .inl (cS, 48, .inr (.inr (.inr (.inr g)))))]) [1, 2] rfl
  have hDc := (en_DD hD hDr hN0 hAb).sub (ws' := [] ++ [(pic, .inr (11, [.ref st, .ref sp, .ref ll, .int 0, .int 1600])), (st, .inl (cS, 48, .inr (.inr (.inr (.inr g)))))]) [1, 2] (by decide) rfl
  have hKc := hK.sub (tys' := [(cS, .object "Underpaint$Stack")]) [0] rfl
  have hFc := va_free (wc := []) hD hS hA [] rfl
  refine va_calll (va_runV (As := []) (rest := []) ⟨hx, hb, hml, hown, hts⟩ (c_X5_sumUp l dC dI b0 en s.heap.size pic st sp ll g cS N (fun a9 h9 => ⟨(hNb a9 h9).1, Nat.lt_of_lt_of_le (hNb a9 h9).2 hS.1⟩) (fun a9 h9 z9 => by have g1 := hNw a9 h9; have g2 := hNr a9 h9; have g3 := (hNb a9 h9).2; simp only [List.map_cons, List.map_nil, List.mem_cons, List.not_mem_nil, or_false, not_or] at g1 g2 z9 <;> omega) (fun a9 h9 z9 => by have g1 := hNw a9 h9; have g2 := hNr a9 h9; have g3 := (hNb a9 h9).2; simp only [List.map_cons, List.map_nil, List.mem_cons, List.not_mem_nil, or_false, not_or] at g1 g2 z9 <;> omega)) (cwV 0 hts go_c_X11_checksum_0 rfl rfl rfl (by decide +kernel) ⟨Nat.le_of_ble_eq_true rfl, Nat.le_of_ble_eq_true rfl⟩) ⟨cP.blind, va_recv hK hR (ci := 11) (q0 := 1) rfl rfl, cP.use (en_z hb0 hS) (hE.on hAb hS) hPc hKc hDc (hF0.on (fun a9 h8 h9 => by rw [← hAe]; exact vA1 h8 (hNw a9 h9)) hS)⟩ rfl rfl hl.1 rfl (lv_room (Nat.le_of_ble_eq_true rfl)) dX11_checksum_4 ⟨Nat.le_of_ble_eq_true rfl, Nat.le_of_ble_eq_true rfl⟩) hS (fun q _ h => hFc q h) hFc (fun r_1 u t H1 locs ht hvm hw hB hz1 hk1 hS => ?_)
  have hP1 : va_P (dC, dI) vwCl [] H1 := fun k q h => by simp at h
  have hD1 : va_D (va_A [] s.heap.size) [] := ⟨fun i j p q h => by simp at h, fun k q h => by simp at h⟩
  try dsimp only at hw
  obtain ⟨hP, hD⟩ := va_join (wr := []) (w1 := []) hP hD [] [] rfl rfl (by decide) (by decide) hk1 hFc hP1 hD1
  generalize H1 = H at hP hS ⊢
  have hP : va_P (dC, dI) vwCl [] H := hP
  have hD : va_D A [] := hD
  have hR := en_R hR0 hN0 hS
  refine W.widen (k := 0) (n := 0) (Nat.le_of_ble_eq_true rfl) (Nat.le_of_ble_eq_true rfl) ?_
  subst r_1
  refine W.widen (k := 0) (n := 0) (Nat.le_of_ble_eq_true rfl) (Nat.le_of_ble_eq_true rfl) ?_
  exact W.lret (v := (chk 48)) hx hb hr (fun t ht hW => ⟨⟨(chk 48), (), rfl, rfl, trivial⟩, hS.F ht⟩) hS.2.2 dX11_checksum_7
