theorem dX6_add_0 : decode cX6_add 0 = .ok (.aload_n 0, 1) := by decide +kernel
theorem dX6_add_1 : decode cX6_add 1 = .ok (.getfield 13, 3) := by decide +kernel
theorem dX6_add_4 : decode cX6_add 4 = .ok (.aload_n 0, 1) := by decide +kernel
theorem dX6_add_5 : decode cX6_add 5 = .ok (.getfield 7, 3) := by decide +kernel
theorem dX6_add_8 : decode cX6_add 8 = .ok (.arraylength, 1) := by decide +kernel
theorem dX6_add_9 : decode cX6_add 9 = .ok (.if_icmp .ge 23, 3) := by decide +kernel
theorem dX6_add_12 : decode cX6_add 12 = .ok (.aload_n 0, 1) := by decide +kernel
theorem dX6_add_13 : decode cX6_add 13 = .ok (.getfield 7, 3) := by decide +kernel
theorem dX6_add_16 : decode cX6_add 16 = .ok (.aload_n 0, 1) := by decide +kernel
theorem dX6_add_17 : decode cX6_add 17 = .ok (.getfield 13, 3) := by decide +kernel
theorem dX6_add_20 : decode cX6_add 20 = .ok (.iload_n 1, 1) := by decide +kernel
theorem dX6_add_21 : decode cX6_add 21 = .ok (.iastore, 1) := by decide +kernel
theorem dX6_add_22 : decode cX6_add 22 = .ok (.aload_n 0, 1) := by decide +kernel
theorem dX6_add_23 : decode cX6_add 23 = .ok (.dup, 1) := by decide +kernel
theorem dX6_add_24 : decode cX6_add 24 = .ok (.getfield 13, 3) := by decide +kernel
theorem dX6_add_27 : decode cX6_add 27 = .ok (.iconst 1, 1) := by decide +kernel
theorem dX6_add_28 : decode cX6_add 28 = .ok (.iadd, 1) := by decide +kernel
theorem dX6_add_29 : decode cX6_add 29 = .ok (.putfield 13, 3) := by decide +kernel
theorem dX6_add_32 : decode cX6_add 32 = .ok (.aload_n 0, 1) := by decide +kernel
theorem dX6_add_33 : decode cX6_add 33 = .ok (.getfield 13, 3) := by decide +kernel
theorem dX6_add_36 : decode cX6_add 36 = .ok (.ireturn, 1) := by decide +kernel
theorem dX11_ring_0 : decode cX11_ring 0 = .ok (.iload_n 1, 1) := by decide +kernel
theorem dX11_ring_1 : decode cX11_ring 1 = .ok (.iconst 1, 1) := by decide +kernel
theorem dX11_ring_2 : decode cX11_ring 2 = .ok (.bipush 99, 2) := by decide +kernel
theorem dX11_ring_4 : decode cX11_ring 4 = .ok (.invokestatic 91, 3) := by decide +kernel
theorem dX11_ring_7 : decode cX11_ring 7 = .ok (.invokestatic 87, 3) := by decide +kernel
theorem dX11_ring_10 : decode cX11_ring 10 = .ok (.iload_n 2, 1) := by decide +kernel
theorem dX11_ring_11 : decode cX11_ring 11 = .ok (.ifCond .eq 13, 3) := by decide +kernel
theorem dX11_ring_24 : decode cX11_ring 24 = .ok (.aload_n 0, 1) := by decide +kernel
theorem dX11_ring_25 : decode cX11_ring 25 = .ok (.getfield 32, 3) := by decide +kernel
theorem dX11_ring_28 : decode cX11_ring 28 = .ok (.getfield 260, 3) := by decide +kernel
theorem dX11_ring_31 : decode cX11_ring 31 = .ok (.astore_n 3, 1) := by decide +kernel
theorem dX11_ring_32 : decode cX11_ring 32 = .ok (.aload_n 3, 1) := by decide +kernel
theorem dX11_ring_33 : decode cX11_ring 33 = .ok (.getfield 263, 3) := by decide +kernel
theorem dX11_ring_36 : decode cX11_ring 36 = .ok (.aload_n 3, 1) := by decide +kernel
theorem dX11_ring_37 : decode cX11_ring 37 = .ok (.getfield 266, 3) := by decide +kernel
theorem dX11_ring_40 : decode cX11_ring 40 = .ok (.arraylength, 1) := by decide +kernel
theorem dX11_ring_41 : decode cX11_ring 41 = .ok (.if_icmp .ge 7, 3) := by decide +kernel
theorem dX11_ring_44 : decode cX11_ring 44 = .ok (.iconst 1, 1) := by decide +kernel
theorem dX11_ring_45 : decode cX11_ring 45 = .ok (.goto 4, 3) := by decide +kernel
theorem dX11_ring_49 : decode cX11_ring 49 = .ok (.invokestatic 99, 3) := by decide +kernel
theorem dX11_ring_52 : decode cX11_ring 52 = .ok (.aload_n 3, 1) := by decide +kernel
theorem dX11_ring_53 : decode cX11_ring 53 = .ok (.iload_n 1, 1) := by decide +kernel
theorem dX11_ring_54 : decode cX11_ring 54 = .ok (.invokevirtual 270, 3) := by decide +kernel
theorem dX11_ring_57 : decode cX11_ring 57 = .ok (.ireturn, 1) := by decide +kernel
theorem dX11_ring_14 : decode cX11_ring 14 = .ok (.aload_n 0, 1) := by decide +kernel
theorem dX11_ring_15 : decode cX11_ring 15 = .ok (.getfield 32, 3) := by decide +kernel
theorem dX11_ring_18 : decode cX11_ring 18 = .ok (.getfield 256, 3) := by decide +kernel
theorem dX11_ring_21 : decode cX11_ring 21 = .ok (.goto 10, 3) := by decide +kernel
theorem dX11_boardAt_0 : decode cX11_boardAt 0 = .ok (.aload_n 0, 1) := by decide +kernel
theorem dX11_boardAt_1 : decode cX11_boardAt 1 = .ok (.getfield 32, 3) := by decide +kernel
theorem dX11_boardAt_4 : decode cX11_boardAt 4 = .ok (.getfield 260, 3) := by decide +kernel
theorem dX11_boardAt_7 : decode cX11_boardAt 7 = .ok (.getfield 263, 3) := by decide +kernel
theorem dX11_boardAt_10 : decode cX11_boardAt 10 = .ok (.ifCond .le 30, 3) := by decide +kernel
theorem dX11_boardAt_40 : decode cX11_boardAt 40 = .ok (.iconst 0, 1) := by decide +kernel
theorem dX11_boardAt_41 : decode cX11_boardAt 41 = .ok (.invokestatic 187, 3) := by decide +kernel
theorem dX1_addPainter_0 : decode cX1_addPainter 0 = .ok (.aload_n 0, 1) := by decide +kernel
theorem dX1_addPainter_1 : decode cX1_addPainter 1 = .ok (.getfield 44, 3) := by decide +kernel
theorem dX1_addPainter_4 : decode cX1_addPainter 4 = .ok (.istore 5, 2) := by decide +kernel
theorem dX1_addPainter_6 : decode cX1_addPainter 6 = .ok (.iload 5, 2) := by decide +kernel
theorem dX1_addPainter_8 : decode cX1_addPainter 8 = .ok (.bipush 6, 2) := by decide +kernel
theorem dX1_addPainter_10 : decode cX1_addPainter 10 = .ok (.if_icmp .ge 60, 3) := by decide +kernel
theorem dX1_addPainter_13 : decode cX1_addPainter 13 = .ok (.aload_n 0, 1) := by decide +kernel
theorem dX1_addPainter_14 : decode cX1_addPainter 14 = .ok (.getfield 23, 3) := by decide +kernel
theorem dX1_addPainter_17 : decode cX1_addPainter 17 = .ok (.iload 5, 2) := by decide +kernel
theorem dX1_addPainter_19 : decode cX1_addPainter 19 = .ok (.iconst 4, 1) := by decide +kernel
theorem dX1_addPainter_20 : decode cX1_addPainter 20 = .ok (.imul, 1) := by decide +kernel
theorem dX1_addPainter_21 : decode cX1_addPainter 21 = .ok (.iload_n 1, 1) := by decide +kernel
theorem dX1_addPainter_22 : decode cX1_addPainter 22 = .ok (.iastore, 1) := by decide +kernel
theorem dX1_addPainter_23 : decode cX1_addPainter 23 = .ok (.aload_n 0, 1) := by decide +kernel
theorem dX1_addPainter_24 : decode cX1_addPainter 24 = .ok (.getfield 23, 3) := by decide +kernel
theorem dX1_addPainter_27 : decode cX1_addPainter 27 = .ok (.iload 5, 2) := by decide +kernel
theorem dX1_addPainter_29 : decode cX1_addPainter 29 = .ok (.iconst 4, 1) := by decide +kernel
theorem dX1_addPainter_30 : decode cX1_addPainter 30 = .ok (.imul, 1) := by decide +kernel
theorem dX1_addPainter_31 : decode cX1_addPainter 31 = .ok (.iconst 1, 1) := by decide +kernel
theorem dX1_addPainter_32 : decode cX1_addPainter 32 = .ok (.iadd, 1) := by decide +kernel
theorem dX1_addPainter_33 : decode cX1_addPainter 33 = .ok (.iload_n 2, 1) := by decide +kernel
theorem dX1_addPainter_34 : decode cX1_addPainter 34 = .ok (.iastore, 1) := by decide +kernel
theorem dX1_addPainter_35 : decode cX1_addPainter 35 = .ok (.aload_n 0, 1) := by decide +kernel
theorem dX1_addPainter_36 : decode cX1_addPainter 36 = .ok (.getfield 23, 3) := by decide +kernel
theorem dX1_addPainter_39 : decode cX1_addPainter 39 = .ok (.iload 5, 2) := by decide +kernel
theorem dX1_addPainter_41 : decode cX1_addPainter 41 = .ok (.iconst 4, 1) := by decide +kernel
theorem dX1_addPainter_42 : decode cX1_addPainter 42 = .ok (.imul, 1) := by decide +kernel
theorem dX1_addPainter_43 : decode cX1_addPainter 43 = .ok (.iconst 2, 1) := by decide +kernel
theorem dX1_addPainter_44 : decode cX1_addPainter 44 = .ok (.iadd, 1) := by decide +kernel
theorem dX1_addPainter_45 : decode cX1_addPainter 45 = .ok (.iload_n 3, 1) := by decide +kernel
theorem dX1_addPainter_46 : decode cX1_addPainter 46 = .ok (.iastore, 1) := by decide +kernel
theorem dX1_addPainter_47 : decode cX1_addPainter 47 = .ok (.aload_n 0, 1) := by decide +kernel
theorem dX1_addPainter_48 : decode cX1_addPainter 48 = .ok (.getfield 23, 3) := by decide +kernel
theorem dX1_addPainter_51 : decode cX1_addPainter 51 = .ok (.iload 5, 2) := by decide +kernel
theorem dX1_addPainter_53 : decode cX1_addPainter 53 = .ok (.iconst 4, 1) := by decide +kernel
theorem dX1_addPainter_54 : decode cX1_addPainter 54 = .ok (.imul, 1) := by decide +kernel
theorem dX1_addPainter_55 : decode cX1_addPainter 55 = .ok (.iconst 3, 1) := by decide +kernel
theorem dX1_addPainter_56 : decode cX1_addPainter 56 = .ok (.iadd, 1) := by decide +kernel
theorem dX1_addPainter_57 : decode cX1_addPainter 57 = .ok (.iload 4, 2) := by decide +kernel
theorem dX1_addPainter_59 : decode cX1_addPainter 59 = .ok (.iastore, 1) := by decide +kernel
theorem dX1_addPainter_60 : decode cX1_addPainter 60 = .ok (.aload_n 0, 1) := by decide +kernel
theorem dX1_addPainter_61 : decode cX1_addPainter 61 = .ok (.dup, 1) := by decide +kernel
theorem dX1_addPainter_62 : decode cX1_addPainter 62 = .ok (.getfield 44, 3) := by decide +kernel
theorem dX1_addPainter_65 : decode cX1_addPainter 65 = .ok (.iconst 1, 1) := by decide +kernel
theorem dX1_addPainter_66 : decode cX1_addPainter 66 = .ok (.iadd, 1) := by decide +kernel
theorem dX1_addPainter_67 : decode cX1_addPainter 67 = .ok (.putfield 44, 3) := by decide +kernel
theorem dX1_addPainter_70 : decode cX1_addPainter 70 = .ok (.iload 5, 2) := by decide +kernel
theorem dX1_addPainter_72 : decode cX1_addPainter 72 = .ok (.ireturn, 1) := by decide +kernel
theorem dX11_painter_0 : decode cX11_painter 0 = .ok (.iload_n 1, 1) := by decide +kernel
theorem dX11_painter_1 : decode cX11_painter 1 = .ok (.iload_n 2, 1) := by decide +kernel
theorem dX11_painter_2 : decode cX11_painter 2 = .ok (.iload_n 3, 1) := by decide +kernel
theorem dX11_painter_3 : decode cX11_painter 3 = .ok (.iload 4, 2) := by decide +kernel
theorem dX11_painter_5 : decode cX11_painter 5 = .ok (.invokestatic 275, 3) := by decide +kernel
theorem dX11_painter_8 : decode cX11_painter 8 = .ok (.aload_n 0, 1) := by decide +kernel
theorem dX11_painter_9 : decode cX11_painter 9 = .ok (.getfield 32, 3) := by decide +kernel
theorem dX11_painter_12 : decode cX11_painter 12 = .ok (.getfield 279, 3) := by decide +kernel
theorem dX11_painter_15 : decode cX11_painter 15 = .ok (.bipush 6, 2) := by decide +kernel
theorem dX11_painter_17 : decode cX11_painter 17 = .ok (.if_icmp .ge 7, 3) := by decide +kernel
theorem dX11_painter_20 : decode cX11_painter 20 = .ok (.iconst 1, 1) := by decide +kernel
theorem dX11_painter_21 : decode cX11_painter 21 = .ok (.goto 4, 3) := by decide +kernel
theorem dX11_painter_25 : decode cX11_painter 25 = .ok (.invokestatic 99, 3) := by decide +kernel
theorem dX11_painter_28 : decode cX11_painter 28 = .ok (.aload_n 0, 1) := by decide +kernel
theorem dX11_painter_29 : decode cX11_painter 29 = .ok (.getfield 32, 3) := by decide +kernel
theorem dX11_painter_32 : decode cX11_painter 32 = .ok (.iload_n 1, 1) := by decide +kernel
theorem dX11_painter_33 : decode cX11_painter 33 = .ok (.iload_n 2, 1) := by decide +kernel
theorem dX11_painter_34 : decode cX11_painter 34 = .ok (.iload_n 3, 1) := by decide +kernel
theorem dX11_painter_35 : decode cX11_painter 35 = .ok (.iload 4, 2) := by decide +kernel
theorem dX11_painter_37 : decode cX11_painter 37 = .ok (.invokevirtual 282, 3) := by decide +kernel
theorem dX11_painter_40 : decode cX11_painter 40 = .ok (.ireturn, 1) := by decide +kernel
theorem dX11_likely_0 : decode cX11_likely 0 = .ok (.iload_n 1, 1) := by decide +kernel
theorem dX11_likely_1 : decode cX11_likely 1 = .ok (.iload_n 2, 1) := by decide +kernel
theorem dX11_likely_2 : decode cX11_likely 2 = .ok (.iload_n 3, 1) := by decide +kernel
theorem dX11_likely_3 : decode cX11_likely 3 = .ok (.iload 4, 2) := by decide +kernel
theorem dX11_likely_5 : decode cX11_likely 5 = .ok (.invokestatic 275, 3) := by decide +kernel
theorem dX11_likely_8 : decode cX11_likely 8 = .ok (.aload_n 0, 1) := by decide +kernel
theorem dX11_likely_9 : decode cX11_likely 9 = .ok (.getfield 32, 3) := by decide +kernel
theorem dX11_likely_12 : decode cX11_likely 12 = .ok (.getfield 279, 3) := by decide +kernel
theorem dX11_likely_15 : decode cX11_likely 15 = .ok (.ifCond .le 7, 3) := by decide +kernel
theorem dX11_likely_22 : decode cX11_likely 22 = .ok (.iconst 0, 1) := by decide +kernel
theorem dX11_likely_23 : decode cX11_likely 23 = .ok (.invokestatic 187, 3) := by decide +kernel
theorem dX11_isSure_0 : decode cX11_isSure 0 = .ok (.iload_n 1, 1) := by decide +kernel
theorem dX11_isSure_1 : decode cX11_isSure 1 = .ok (.iload_n 2, 1) := by decide +kernel
theorem dX11_isSure_2 : decode cX11_isSure 2 = .ok (.iload_n 3, 1) := by decide +kernel
theorem dX11_isSure_3 : decode cX11_isSure 3 = .ok (.iload 4, 2) := by decide +kernel
theorem dX11_isSure_5 : decode cX11_isSure 5 = .ok (.invokestatic 275, 3) := by decide +kernel
theorem dX11_isSure_8 : decode cX11_isSure 8 = .ok (.aload_n 0, 1) := by decide +kernel
theorem dX11_isSure_9 : decode cX11_isSure 9 = .ok (.getfield 32, 3) := by decide +kernel
theorem dX11_isSure_12 : decode cX11_isSure 12 = .ok (.getfield 279, 3) := by decide +kernel
theorem dX11_isSure_15 : decode cX11_isSure 15 = .ok (.ifCond .le 7, 3) := by decide +kernel
theorem dX11_isSure_22 : decode cX11_isSure 22 = .ok (.iconst 0, 1) := by decide +kernel
theorem dX11_isSure_23 : decode cX11_isSure 23 = .ok (.invokestatic 187, 3) := by decide +kernel
theorem dX7_init_0 : decode cX7_init 0 = .ok (.aload_n 0, 1) := by decide +kernel
theorem dX7_init_1 : decode cX7_init 1 = .ok (.invokespecial 1, 3) := by decide +kernel
theorem dX7_init_4 : decode cX7_init 4 = .ok (.aload_n 0, 1) := by decide +kernel
theorem dX7_init_5 : decode cX7_init 5 = .ok (.iload_n 1, 1) := by decide +kernel
theorem dX7_init_6 : decode cX7_init 6 = .ok (.putfield 7, 3) := by decide +kernel
theorem dX7_init_9 : decode cX7_init 9 = .ok (.aload_n 0, 1) := by decide +kernel
theorem dX7_init_10 : decode cX7_init 10 = .ok (.iload_n 2, 1) := by decide +kernel
theorem dX7_init_11 : decode cX7_init 11 = .ok (.putfield 13, 3) := by decide +kernel
theorem dX7_init_14 : decode cX7_init 14 = .ok (.return_, 1) := by decide +kernel
theorem dX11_solvent_0 : decode cX11_solvent 0 = .ok (.iload_n 1, 1) := by decide +kernel
theorem dX11_solvent_1 : decode cX11_solvent 1 = .ok (.iconst 1, 1) := by decide +kernel
theorem dX11_solvent_2 : decode cX11_solvent 2 = .ok (.bipush 9, 2) := by decide +kernel
theorem dX11_solvent_4 : decode cX11_solvent 4 = .ok (.invokestatic 91, 3) := by decide +kernel
theorem dX11_solvent_7 : decode cX11_solvent 7 = .ok (.ifCond .eq 17, 3) := by decide +kernel
theorem dX11_solvent_24 : decode cX11_solvent 24 = .ok (.iconst 0, 1) := by decide +kernel
theorem dX11_solvent_25 : decode cX11_solvent 25 = .ok (.invokestatic 87, 3) := by decide +kernel
theorem dX11_solvent_10 : decode cX11_solvent 10 = .ok (.iload_n 2, 1) := by decide +kernel
theorem dX11_solvent_11 : decode cX11_solvent 11 = .ok (.iconst 1, 1) := by decide +kernel
theorem dX11_solvent_12 : decode cX11_solvent 12 = .ok (.bipush 20, 2) := by decide +kernel
theorem dX11_solvent_14 : decode cX11_solvent 14 = .ok (.invokestatic 91, 3) := by decide +kernel
theorem dX11_solvent_17 : decode cX11_solvent 17 = .ok (.ifCond .eq 7, 3) := by decide +kernel
theorem dX11_solvent_20 : decode cX11_solvent 20 = .ok (.iconst 1, 1) := by decide +kernel
theorem dX11_solvent_21 : decode cX11_solvent 21 = .ok (.goto 4, 3) := by decide +kernel
theorem dX11_solvent_28 : decode cX11_solvent 28 = .ok (.aload_n 0, 1) := by decide +kernel
theorem dX11_solvent_29 : decode cX11_solvent 29 = .ok (.getfield 16, 3) := by decide +kernel
theorem dX11_solvent_32 : decode cX11_solvent 32 = .ok (.invokevirtual 95, 3) := by decide +kernel
theorem dX11_solvent_35 : decode cX11_solvent 35 = .ok (.bipush 6, 2) := by decide +kernel
theorem dX11_solvent_37 : decode cX11_solvent 37 = .ok (.if_icmp .ge 7, 3) := by decide +kernel
theorem dX11_solvent_40 : decode cX11_solvent 40 = .ok (.iconst 1, 1) := by decide +kernel
theorem dX11_solvent_41 : decode cX11_solvent 41 = .ok (.goto 4, 3) := by decide +kernel
theorem dX11_solvent_45 : decode cX11_solvent 45 = .ok (.invokestatic 99, 3) := by decide +kernel
theorem dX11_solvent_48 : decode cX11_solvent 48 = .ok (.aload_n 0, 1) := by decide +kernel
theorem dX11_solvent_49 : decode cX11_solvent 49 = .ok (.getfield 16, 3) := by decide +kernel
theorem dX11_solvent_52 : decode cX11_solvent 52 = .ok (.new 313, 3) := by decide +kernel
theorem dX11_solvent_55 : decode cX11_solvent 55 = .ok (.dup, 1) := by decide +kernel
theorem dX11_solvent_56 : decode cX11_solvent 56 = .ok (.iload_n 1, 1) := by decide +kernel
theorem dX11_solvent_57 : decode cX11_solvent 57 = .ok (.iload_n 2, 1) := by decide +kernel
theorem dX11_solvent_58 : decode cX11_solvent 58 = .ok (.invokespecial 315, 3) := by decide +kernel
theorem dX11_solvent_61 : decode cX11_solvent 61 = .ok (.invokevirtual 127, 3) := by decide +kernel
theorem dX11_solvent_64 : decode cX11_solvent 64 = .ok (.pop, 1) := by decide +kernel
theorem dX11_solvent_65 : decode cX11_solvent 65 = .ok (.aload_n 0, 1) := by decide +kernel
theorem dX11_solvent_66 : decode cX11_solvent 66 = .ok (.getfield 16, 3) := by decide +kernel
theorem dX11_solvent_69 : decode cX11_solvent 69 = .ok (.invokevirtual 95, 3) := by decide +kernel
theorem dX11_solvent_72 : decode cX11_solvent 72 = .ok (.iconst 1, 1) := by decide +kernel
theorem dX11_solvent_73 : decode cX11_solvent 73 = .ok (.isub, 1) := by decide +kernel
theorem dX11_solvent_74 : decode cX11_solvent 74 = .ok (.ireturn, 1) := by decide +kernel
theorem dX3_add_0 : decode cX3_add 0 = .ok (.aload_n 0, 1) := by decide +kernel
theorem dX3_add_1 : decode cX3_add 1 = .ok (.getfield 18, 3) := by decide +kernel
theorem dX3_add_4 : decode cX3_add 4 = .ok (.bipush 8, 2) := by decide +kernel
theorem dX3_add_6 : decode cX3_add 6 = .ok (.if_icmp .ge 33, 3) := by decide +kernel
theorem dX3_add_9 : decode cX3_add 9 = .ok (.aload_n 0, 1) := by decide +kernel
theorem dX3_add_10 : decode cX3_add 10 = .ok (.getfield 9, 3) := by decide +kernel
theorem dX3_add_13 : decode cX3_add 13 = .ok (.aload_n 0, 1) := by decide +kernel
theorem dX3_add_14 : decode cX3_add 14 = .ok (.getfield 18, 3) := by decide +kernel
theorem dX3_add_17 : decode cX3_add 17 = .ok (.iload_n 1, 1) := by decide +kernel
theorem dX3_add_18 : decode cX3_add 18 = .ok (.iastore, 1) := by decide +kernel
theorem dX3_add_19 : decode cX3_add 19 = .ok (.aload_n 0, 1) := by decide +kernel
theorem dX3_add_20 : decode cX3_add 20 = .ok (.getfield 15, 3) := by decide +kernel
theorem dX3_add_23 : decode cX3_add 23 = .ok (.aload_n 0, 1) := by decide +kernel
theorem dX3_add_24 : decode cX3_add 24 = .ok (.getfield 18, 3) := by decide +kernel
theorem dX3_add_27 : decode cX3_add 27 = .ok (.iload_n 2, 1) := by decide +kernel
theorem dX3_add_28 : decode cX3_add 28 = .ok (.iastore, 1) := by decide +kernel
theorem dX3_add_29 : decode cX3_add 29 = .ok (.aload_n 0, 1) := by decide +kernel
theorem dX3_add_30 : decode cX3_add 30 = .ok (.dup, 1) := by decide +kernel
theorem dX3_add_31 : decode cX3_add 31 = .ok (.getfield 18, 3) := by decide +kernel
theorem dX3_add_34 : decode cX3_add 34 = .ok (.iconst 1, 1) := by decide +kernel
theorem dX3_add_35 : decode cX3_add 35 = .ok (.iadd, 1) := by decide +kernel
theorem dX3_add_36 : decode cX3_add 36 = .ok (.putfield 18, 3) := by decide +kernel
theorem dX3_add_39 : decode cX3_add 39 = .ok (.aload_n 0, 1) := by decide +kernel
theorem dX3_add_40 : decode cX3_add 40 = .ok (.getfield 18, 3) := by decide +kernel
theorem dX3_add_43 : decode cX3_add 43 = .ok (.ireturn, 1) := by decide +kernel
theorem dX11_leg_0 : decode cX11_leg 0 = .ok (.iload_n 1, 1) := by decide +kernel
theorem dX11_leg_1 : decode cX11_leg 1 = .ok (.iconst 0, 1) := by decide +kernel
theorem dX11_leg_2 : decode cX11_leg 2 = .ok (.bipush 9, 2) := by decide +kernel
theorem dX11_leg_4 : decode cX11_leg 4 = .ok (.invokestatic 91, 3) := by decide +kernel
theorem dX11_leg_7 : decode cX11_leg 7 = .ok (.ifCond .eq 17, 3) := by decide +kernel
theorem dX11_leg_24 : decode cX11_leg 24 = .ok (.iconst 0, 1) := by decide +kernel
theorem dX11_leg_25 : decode cX11_leg 25 = .ok (.invokestatic 87, 3) := by decide +kernel
theorem dX11_leg_10 : decode cX11_leg 10 = .ok (.iload_n 2, 1) := by decide +kernel
theorem dX11_leg_11 : decode cX11_leg 11 = .ok (.iconst 0, 1) := by decide +kernel
theorem dX11_leg_12 : decode cX11_leg 12 = .ok (.bipush 99, 2) := by decide +kernel
theorem dX11_leg_14 : decode cX11_leg 14 = .ok (.invokestatic 91, 3) := by decide +kernel
theorem dX11_leg_17 : decode cX11_leg 17 = .ok (.ifCond .eq 7, 3) := by decide +kernel
theorem dX11_leg_20 : decode cX11_leg 20 = .ok (.iconst 1, 1) := by decide +kernel
theorem dX11_leg_21 : decode cX11_leg 21 = .ok (.goto 4, 3) := by decide +kernel
theorem dX11_leg_28 : decode cX11_leg 28 = .ok (.aload_n 0, 1) := by decide +kernel
theorem dX11_leg_29 : decode cX11_leg 29 = .ok (.getfield 46, 3) := by decide +kernel
theorem dX11_leg_32 : decode cX11_leg 32 = .ok (.getfield 383, 3) := by decide +kernel
theorem dX11_leg_35 : decode cX11_leg 35 = .ok (.bipush 8, 2) := by decide +kernel
theorem dX11_leg_37 : decode cX11_leg 37 = .ok (.if_icmp .ge 7, 3) := by decide +kernel
theorem dX11_leg_40 : decode cX11_leg 40 = .ok (.iconst 1, 1) := by decide +kernel
theorem dX11_leg_41 : decode cX11_leg 41 = .ok (.goto 4, 3) := by decide +kernel
theorem dX11_leg_45 : decode cX11_leg 45 = .ok (.invokestatic 99, 3) := by decide +kernel
theorem dX11_leg_48 : decode cX11_leg 48 = .ok (.aload_n 0, 1) := by decide +kernel
theorem dX11_leg_49 : decode cX11_leg 49 = .ok (.getfield 46, 3) := by decide +kernel
theorem dX11_leg_52 : decode cX11_leg 52 = .ok (.iload_n 1, 1) := by decide +kernel
theorem dX11_leg_53 : decode cX11_leg 53 = .ok (.iload_n 2, 1) := by decide +kernel
theorem dX11_leg_54 : decode cX11_leg 54 = .ok (.invokevirtual 384, 3) := by decide +kernel
theorem dX11_leg_57 : decode cX11_leg 57 = .ok (.ireturn, 1) := by decide +kernel
theorem dX10_best_0 : decode cX10_best 0 = .ok (.iconst 0, 1) := by decide +kernel
theorem dX10_best_1 : decode cX10_best 1 = .ok (.istore_n 1, 1) := by decide +kernel
theorem dX10_best_2 : decode cX10_best 2 = .ok (.iload_n 1, 1) := by decide +kernel
theorem dX10_best_3 : decode cX10_best 3 = .ok (.iconst 3, 1) := by decide +kernel
theorem dX10_best_4 : decode cX10_best 4 = .ok (.if_icmp .ge 53, 3) := by decide +kernel
theorem dX10_best_7 : decode cX10_best 7 = .ok (.iconst 0, 1) := by decide +kernel
theorem dX10_best_8 : decode cX10_best 8 = .ok (.istore_n 2, 1) := by decide +kernel
theorem dX10_best_9 : decode cX10_best 9 = .ok (.iconst 0, 1) := by decide +kernel
theorem dX10_best_10 : decode cX10_best 10 = .ok (.istore_n 3, 1) := by decide +kernel
theorem dX10_best_11 : decode cX10_best 11 = .ok (.iload_n 3, 1) := by decide +kernel
theorem dX10_best_12 : decode cX10_best 12 = .ok (.iconst 3, 1) := by decide +kernel
theorem dX10_best_13 : decode cX10_best 13 = .ok (.if_icmp .ge 31, 3) := by decide +kernel
theorem dX10_best_16 : decode cX10_best 16 = .ok (.iconst 2, 1) := by decide +kernel
theorem dX10_best_17 : decode cX10_best 17 = .ok (.aload_n 0, 1) := by decide +kernel
theorem dX10_best_18 : decode cX10_best 18 = .ok (.getfield 9, 3) := by decide +kernel
theorem dX10_best_21 : decode cX10_best 21 = .ok (.iload_n 1, 1) := by decide +kernel
theorem dX10_best_22 : decode cX10_best 22 = .ok (.iconst 3, 1) := by decide +kernel
theorem dX10_best_23 : decode cX10_best 23 = .ok (.imul, 1) := by decide +kernel
theorem dX10_best_24 : decode cX10_best 24 = .ok (.iload_n 3, 1) := by decide +kernel
theorem dX10_best_25 : decode cX10_best 25 = .ok (.iadd, 1) := by decide +kernel
theorem dX10_best_26 : decode cX10_best 26 = .ok (.iaload, 1) := by decide +kernel
theorem dX10_best_27 : decode cX10_best 27 = .ok (.imul, 1) := by decide +kernel
theorem dX10_best_28 : decode cX10_best 28 = .ok (.aload_n 0, 1) := by decide +kernel
theorem dX10_best_29 : decode cX10_best 29 = .ok (.getfield 15, 3) := by decide +kernel
theorem dX10_best_32 : decode cX10_best 32 = .ok (.if_icmp .le 6, 3) := by decide +kernel
theorem dX10_best_38 : decode cX10_best 38 = .ok (.iinc 3 1, 3) := by decide +kernel
theorem dX10_best_41 : decode cX10_best 41 = .ok (.goto (-30), 3) := by decide +kernel
theorem dX10_best_44 : decode cX10_best 44 = .ok (.iload_n 2, 1) := by decide +kernel
theorem dX10_best_45 : decode cX10_best 45 = .ok (.iconst 2, 1) := by decide +kernel
theorem dX10_best_46 : decode cX10_best 46 = .ok (.if_icmp .ne 5, 3) := by decide +kernel
theorem dX10_best_51 : decode cX10_best 51 = .ok (.iinc 1 1, 3) := by decide +kernel
theorem dX10_best_54 : decode cX10_best 54 = .ok (.goto (-52), 3) := by decide +kernel
theorem dX10_best_57 : decode cX10_best 57 = .ok (.iconst (-1), 1) := by decide +kernel
theorem dX10_best_58 : decode cX10_best 58 = .ok (.ireturn, 1) := by decide +kernel
theorem dX11_winner_0 : decode cX11_winner 0 = .ok (.aload_n 0, 1) := by decide +kernel
theorem dX11_winner_1 : decode cX11_winner 1 = .ok (.getfield 39, 3) := by decide +kernel
theorem dX11_winner_4 : decode cX11_winner 4 = .ok (.invokevirtual 376, 3) := by decide +kernel
theorem dX11_winner_7 : decode cX11_winner 7 = .ok (.istore_n 1, 1) := by decide +kernel
theorem dX11_winner_8 : decode cX11_winner 8 = .ok (.iload_n 1, 1) := by decide +kernel
theorem dX11_winner_9 : decode cX11_winner 9 = .ok (.iconst (-1), 1) := by decide +kernel
theorem dX11_winner_10 : decode cX11_winner 10 = .ok (.if_icmp .eq 7, 3) := by decide +kernel
theorem dX11_winner_17 : decode cX11_winner 17 = .ok (.iconst 0, 1) := by decide +kernel
theorem dX11_winner_18 : decode cX11_winner 18 = .ok (.invokestatic 187, 3) := by decide +kernel
theorem z_c_X6_add_b_353   : (1 : Int32) = 1 := by first | decide +kernel | grind
def wo_c_X6_add_b_w : List Cond := [Cond.fieldLink RX6 13 "Underpaint$Rings" "size" "I", Cond.fieldLink RX6 7 "Underpaint$Rings" "widths" "[I"]
def wo_c_X6_add_b : List Cond := .code yX6_add cX6_add 2 (some .int) :: (wo_c_X6_add_b_w ++ (u_ws RX6 TX6 2 ++ List.nil))
theorem gw_wo_c_X6_add_b : wo_c_X6_add_b.all goodWord = true := gw_c (by decide +kernel) (gw_a (by decide +kernel) (gw_a (by decide +kernel) rfl))
set_option maxHeartbeats 4000000 in
set_option maxRecDepth 100000 in
/-- Rings.add: the first one -/
theorem c_X6_add_b (l : Launch) (dC : Nat → ClassId) (dI : Nat → Nat → Nat) (b0 : Nat) (en : EnT) (sz : Nat) (ri wi : Nat) (kI : ClassId) (w : Int32) : Met l yX6_add wo_c_X6_add_b ({ frames := 0, cells := 0, slots := 0, locals := 0 } : Room) (cP b0 en (dC, dI) [(kI, .int)] [(ri, .inr (12, [.ref wi, .int 0])), (wi, .inl (kI, 20, .inl (fun _ => 0)))] [] sz (fun _ => True) [.ref ri, .int w]) (va_Qi (fun (r : Int32) (_ : Unit) => r = 1) (fun _ _ => True) (va_A [(ri, .inr (12, [.ref wi, .int 0])), (wi, .inl (kI, 20, .inl (fun _ => 0)))] sz)) 0 0 (va_A [(ri, .inr (12, [.ref wi, .int 0])), (wi, .inl (kI, 20, .inl (fun _ => 0)))] sz) := by
  refine Met.ofW (cc := cX6_add) (maxL := 2) (ret := (some .int)) (by decide) rfl ?_
  intro p e s m args below meth c s₁ B hml hv
  obtain ⟨rfl, hsz, hb0, hE, hPP, hK, hDD, hF0⟩ := hv
  have hx := B.exec
  have hb := B.bytes
  have hr := B.returns
  have hts := atoms_spec (ws := wo_c_X6_add_b) B.pre
  have hown : s.vm.findClass RX6 = some m.cls := findClass_of_methodNamed B.named
  have hlocks := B.notSynchronized
  subst hsz
  have hN0 := en_N hPP hDD rfl
  have hP : va_P (dC, dI) vwCl [(ri, .inr (12, [.ref wi, .int 0])), (wi, .inl (kI, 20, .inl (fun _ => 0)))] s.heap := hPP.sub [0, 1] rfl
  have hR0 : va_P (dC, dI) vwCl [] s.heap := hPP.sub [] rfl
  have hD0 : va_D (fun q => b0 ≤ q) [(ri, .inr (12, [.ref wi, .int 0])), (wi, .inl (kI, 20, .inl (fun _ => 0)))] := hDD.sub [0, 1] (by decide) rfl
  have hDr : va_D (fun q => b0 ≤ q) [] := hDD.sub [] (by decide) rfl
  have hAb := en_A (sz := s.heap.size) hD0 hb0
  have hD := hD0.self (sz := s.heap.size)
  generalize hAe : va_A [(ri, .inr (12, [.ref wi, .int 0])), (wi, .inl (kI, 20, .inl (fun _ => 0)))] s.heap.size = A at hD hAb hN0 ⊢
  have hA : ∀ q : Nat, s.heap.size ≤ q → A q := fun q h => by rw [← hAe]; exact Or.inr h
  have hS : va_S A s.heap s.heap [] := va_S.rf
  have hR := hR0
  have hl := lv_entry [.ref ri, .int w] (n := 2) (Nat.le_of_ble_eq_true rfl)
  rw [lg_entry_eq]
  generalize (lg_sl [.ref ri, .int w] ++ List.replicate (2 - (lg_sl [.ref ri, .int w]).length) Slot.unset).toArray = ls at hl ⊢
  have hl : lv_has ls 2 [(0, .ref ri), (1, .int w)] := hl
  refine lv_aload_n hx hb dX6_add_0 rfl (lv_at hl 0 rfl) ?_
  refine va_get (D := (dC, dI)) (ci := 12) (v := .int 0) (C := RX6) (T := TX6) (N := 2) hx hb hts (by decide +kernel) hown hK hP 0 rfl rfl 1 (by decide) (hts (.fieldLink RX6 13 "Underpaint$Rings" "size" "I") (by decide +kernel)) (fun _ h9 => h9) rfl dX6_add_1 ?_
  refine lv_aload_n hx hb dX6_add_4 rfl (lv_at hl 0 rfl) ?_
  refine va_get (D := (dC, dI)) (ci := 12) (v := .ref wi) (C := RX6) (T := TX6) (N := 2) hx hb hts (by decide +kernel) hown hK hP 0 rfl rfl 0 (by decide) (hts (.fieldLink RX6 7 "Underpaint$Rings" "widths" "[I") (by decide +kernel)) (fun _ h9 => h9) rfl dX6_add_5 ?_
  refine va_alen hx hb hK hP 1 0 rfl rfl (v := 20) rfl dX6_add_8 ?_
  refine lv_icmp_ge (tgt := 32) hx hb dX6_add_9 (by decide) (fun c_1 => absurd c_1 (by decide)) (fun c_1 => ?_)
  refine lv_aload_n hx hb dX6_add_12 rfl (lv_at hl 0 rfl) ?_
  refine va_get (D := (dC, dI)) (ci := 12) (v := .ref wi) (C := RX6) (T := TX6) (N := 2) hx hb hts (by decide +kernel) hown hK hP 0 rfl rfl 0 (by decide) (hts (.fieldLink RX6 7 "Underpaint$Rings" "widths" "[I") (by decide +kernel)) (fun _ h9 => h9) rfl dX6_add_13 ?_
  refine lv_aload_n hx hb dX6_add_16 rfl (lv_at hl 0 rfl) ?_
  refine va_get (D := (dC, dI)) (ci := 12) (v := .int 0) (C := RX6) (T := TX6) (N := 2) hx hb hts (by decide +kernel) hown hK hP 0 rfl rfl 1 (by decide) (hts (.fieldLink RX6 13 "Underpaint$Rings" "size" "I") (by decide +kernel)) (fun _ h9 => h9) rfl dX6_add_17 ?_
  refine lv_iload_n hx hb dX6_add_20 rfl (lv_at hl 1 rfl) ?_
  refine va_iast hx hb hK hP hD hS 1 0 rfl rfl (vp_in_nI (by decide : 0 < 20) (by decide)) dX6_add_21 (fun H locs hP hD hS => ?_)
  generalize ef_2 : upd (fun _ => 0) (0 : Int32).toNatClampNeg w = f_2 at hP hD
  have hP : va_P (dC, dI) vwCl [(ri, .inr (12, [.ref wi, .int 0])), (wi, .inl (kI, 20, .inl f_2))] H := hP
  have hD : va_D A [(ri, .inr (12, [.ref wi, .int 0])), (wi, .inl (kI, 20, .inl f_2))] := hD
  have hR : va_P (dC, dI) vwCl [] H := fun k q h => by simp at h
  refine lv_aload_n hx hb dX6_add_22 rfl (lv_at hl 0 rfl) ?_
  refine lv_dup hx hb dX6_add_23 rfl ?_
  refine va_get (D := (dC, dI)) (ci := 12) (v := .int 0) (C := RX6) (T := TX6) (N := 2) hx hb hts (by decide +kernel) hown hK hP 0 rfl rfl 1 (by decide) (hts (.fieldLink RX6 13 "Underpaint$Rings" "size" "I") (by decide +kernel)) (fun _ h9 => h9) rfl dX6_add_24 ?_
  refine lv_iconst (v := 1) hx hb dX6_add_27 (by decide) ?_
  refine lv_iadd hx hb dX6_add_28 ?_
  refine lv_topi (fun x_3 ex_3 => ?_)
  obtain rfl : x_3 = 1 := ex_3.trans (by decide)
  refine va_put (D := (dC, dI)) (ci := 12) (v := .int 1) (ty := .int) (C := RX6) (T := TX6) (N := 2) hx hb hts (by decide +kernel) tyX6 tyX6_ok nmX6 hown hK hP hD hS 0 rfl rfl 1 (by decide) (hts (.fieldLink RX6 13 "Underpaint$Rings" "size" "I") (by decide +kernel)) (fun _ h9 => h9) rfl (by decide +kernel) rfl rfl (Nat.le_of_ble_eq_true rfl) dX6_add_29 (fun H locs hP hD hS => ?_)
  have hP : va_P (dC, dI) vwCl [(ri, .inr (12, [.ref wi, .int 1])), (wi, .inl (kI, 20, .inl f_2))] H := hP
  have hD : va_D A [(ri, .inr (12, [.ref wi, .int 1])), (wi, .inl (kI, 20, .inl f_2))] := hD
  have hR : va_P (dC, dI) vwCl [] H := fun k q h => by simp at h
  refine lv_aload_n hx hb dX6_add_32 rfl (lv_at hl 0 rfl) ?_
  refine va_get (D := (dC, dI)) (ci := 12) (v := .int 1) (C := RX6) (T := TX6) (N := 2) hx hb hts (by decide +kernel) hown hK hP 0 rfl rfl 1 (by decide) (hts (.fieldLink RX6 13 "Underpaint$Rings" "size" "I") (by decide +kernel)) (fun _ h9 => h9) rfl dX6_add_33 ?_
  refine W.widen (k := 0) (n := 0) (Nat.le_of_ble_eq_true rfl) (Nat.le_of_ble_eq_true rfl) ?_
  exact W.iret (v := 1) hx hb hr (fun t ht hW => ⟨⟨1, (), rfl, (z_c_X6_add_b_353), trivial⟩, hS.F ht⟩) hS.2.2 dX6_add_36

def wo_c_X6_add_m_w : List Cond := [Cond.fieldLink RX6 13 "Underpaint$Rings" "size" "I", Cond.fieldLink RX6 7 "Underpaint$Rings" "widths" "[I"]
def wo_c_X6_add_m : List Cond := .code yX6_add cX6_add 2 (some .int) :: (wo_c_X6_add_m_w ++ (u_ws RX6 TX6 2 ++ List.nil))
theorem gw_wo_c_X6_add_m : wo_c_X6_add_m.all goodWord = true := gw_c (by decide +kernel) (gw_a (by decide +kernel) (gw_a (by decide +kernel) rfl))
set_option maxHeartbeats 4000000 in
set_option maxRecDepth 100000 in
/-- Rings.add: the first one -/
theorem c_X6_add_m (l : Launch) (dC : Nat → ClassId) (dI : Nat → Nat → Nat) (b0 : Nat) (en : EnT) (sz : Nat) (ri wi : Nat) (kI : ClassId) (w : Int32) : Met l yX6_add wo_c_X6_add_m ({ frames := 0, cells := 0, slots := 0, locals := 0 } : Room) (cP b0 en (dC, dI) [(kI, .int)] [(ri, .inr (12, [.ref wi, .int 0])), (wi, .inl (kI, 60, .inl (fun _ => 0)))] [] sz (fun _ => True) [.ref ri, .int w]) (va_Qi (fun (r : Int32) (_ : Unit) => r = 1) (fun _ _ => True) (va_A [(ri, .inr (12, [.ref wi, .int 0])), (wi, .inl (kI, 60, .inl (fun _ => 0)))] sz)) 0 0 (va_A [(ri, .inr (12, [.ref wi, .int 0])), (wi, .inl (kI, 60, .inl (fun _ => 0)))] sz) := by
  refine Met.ofW (cc := cX6_add) (maxL := 2) (ret := (some .int)) (by decide) rfl ?_
  intro p e s m args below meth c s₁ B hml hv
  obtain ⟨rfl, hsz, hb0, hE, hPP, hK, hDD, hF0⟩ := hv
  have hx := B.exec
  have hb := B.bytes
  have hr := B.returns
  have hts := atoms_spec (ws := wo_c_X6_add_m) B.pre
  have hown : s.vm.findClass RX6 = some m.cls := findClass_of_methodNamed B.named
  have hlocks := B.notSynchronized
  subst hsz
  have hN0 := en_N hPP hDD rfl
  have hP : va_P (dC, dI) vwCl [(ri, .inr (12, [.ref wi, .int 0])), (wi, .inl (kI, 60, .inl (fun _ => 0)))] s.heap := hPP.sub [0, 1] rfl
  have hR0 : va_P (dC, dI) vwCl [] s.heap := hPP.sub [] rfl
  have hD0 : va_D (fun q => b0 ≤ q) [(ri, .inr (12, [.ref wi, .int 0])), (wi, .inl (kI, 60, .inl (fun _ => 0)))] := hDD.sub [0, 1] (by decide) rfl
  have hDr : va_D (fun q => b0 ≤ q) [] := hDD.sub [] (by decide) rfl
  have hAb := en_A (sz := s.heap.size) hD0 hb0
  have hD := hD0.self (sz := s.heap.size)
  generalize hAe : va_A [(ri, .inr (12, [.ref wi, .int 0])), (wi, .inl (kI, 60, .inl (fun _ => 0)))] s.heap.size = A at hD hAb hN0 ⊢
  have hA : ∀ q : Nat, s.heap.size ≤ q → A q := fun q h => by rw [← hAe]; exact Or.inr h
  have hS : va_S A s.heap s.heap [] := va_S.rf
  have hR := hR0
  have hl := lv_entry [.ref ri, .int w] (n := 2) (Nat.le_of_ble_eq_true rfl)
  rw [lg_entry_eq]
  generalize (lg_sl [.ref ri, .int w] ++ List.replicate (2 - (lg_sl [.ref ri, .int w]).length) Slot.unset).toArray = ls at hl ⊢
  have hl : lv_has ls 2 [(0, .ref ri), (1, .int w)] := hl
  refine lv_aload_n hx hb dX6_add_0 rfl (lv_at hl 0 rfl) ?_
  refine va_get (D := (dC, dI)) (ci := 12) (v := .int 0) (C := RX6) (T := TX6) (N := 2) hx hb hts (by decide +kernel) hown hK hP 0 rfl rfl 1 (by decide) (hts (.fieldLink RX6 13 "Underpaint$Rings" "size" "I") (by decide +kernel)) (fun _ h9 => h9) rfl dX6_add_1 ?_
  refine lv_aload_n hx hb dX6_add_4 rfl (lv_at hl 0 rfl) ?_
  refine va_get (D := (dC, dI)) (ci := 12) (v := .ref wi) (C := RX6) (T := TX6) (N := 2) hx hb hts (by decide +kernel) hown hK hP 0 rfl rfl 0 (by decide) (hts (.fieldLink RX6 7 "Underpaint$Rings" "widths" "[I") (by decide +kernel)) (fun _ h9 => h9) rfl dX6_add_5 ?_
  refine va_alen hx hb hK hP 1 0 rfl rfl (v := 60) rfl dX6_add_8 ?_
  refine lv_icmp_ge (tgt := 32) hx hb dX6_add_9 (by decide) (fun c_1 => absurd c_1 (by decide)) (fun c_1 => ?_)
  refine lv_aload_n hx hb dX6_add_12 rfl (lv_at hl 0 rfl) ?_
  refine va_get (D := (dC, dI)) (ci := 12) (v := .ref wi) (C := RX6) (T := TX6) (N := 2) hx hb hts (by decide +kernel) hown hK hP 0 rfl rfl 0 (by decide) (hts (.fieldLink RX6 7 "Underpaint$Rings" "widths" "[I") (by decide +kernel)) (fun _ h9 => h9) rfl dX6_add_13 ?_
  refine lv_aload_n hx hb dX6_add_16 rfl (lv_at hl 0 rfl) ?_
  refine va_get (D := (dC, dI)) (ci := 12) (v := .int 0) (C := RX6) (T := TX6) (N := 2) hx hb hts (by decide +kernel) hown hK hP 0 rfl rfl 1 (by decide) (hts (.fieldLink RX6 13 "Underpaint$Rings" "size" "I") (by decide +kernel)) (fun _ h9 => h9) rfl dX6_add_17 ?_
  refine lv_iload_n hx hb dX6_add_20 rfl (lv_at hl 1 rfl) ?_
  refine va_iast hx hb hK hP hD hS 1 0 rfl rfl (vp_in_nI (by decide : 0 < 60) (by decide)) dX6_add_21 (fun H locs hP hD hS => ?_)
  generalize ef_2 : upd (fun _ => 0) (0 : Int32).toNatClampNeg w = f_2 at hP hD
  have hP : va_P (dC, dI) vwCl [(ri, .inr (12, [.ref wi, .int 0])), (wi, .inl (kI, 60, .inl f_2))] H := hP
  have hD : va_D A [(ri, .inr (12, [.ref wi, .int 0])), (wi, .inl (kI, 60, .inl f_2))] := hD
  have hR : va_P (dC, dI) vwCl [] H := fun k q h => by simp at h
  refine lv_aload_n hx hb dX6_add_22 rfl (lv_at hl 0 rfl) ?_
  refine lv_dup hx hb dX6_add_23 rfl ?_
  refine va_get (D := (dC, dI)) (ci := 12) (v := .int 0) (C := RX6) (T := TX6) (N := 2) hx hb hts (by decide +kernel) hown hK hP 0 rfl rfl 1 (by decide) (hts (.fieldLink RX6 13 "Underpaint$Rings" "size" "I") (by decide +kernel)) (fun _ h9 => h9) rfl dX6_add_24 ?_
  refine lv_iconst (v := 1) hx hb dX6_add_27 (by decide) ?_
  refine lv_iadd hx hb dX6_add_28 ?_
  refine lv_topi (fun x_3 ex_3 => ?_)
  obtain rfl : x_3 = 1 := ex_3.trans (by decide)
  refine va_put (D := (dC, dI)) (ci := 12) (v := .int 1) (ty := .int) (C := RX6) (T := TX6) (N := 2) hx hb hts (by decide +kernel) tyX6 tyX6_ok nmX6 hown hK hP hD hS 0 rfl rfl 1 (by decide) (hts (.fieldLink RX6 13 "Underpaint$Rings" "size" "I") (by decide +kernel)) (fun _ h9 => h9) rfl (by decide +kernel) rfl rfl (Nat.le_of_ble_eq_true rfl) dX6_add_29 (fun H locs hP hD hS => ?_)
  have hP : va_P (dC, dI) vwCl [(ri, .inr (12, [.ref wi, .int 1])), (wi, .inl (kI, 60, .inl f_2))] H := hP
  have hD : va_D A [(ri, .inr (12, [.ref wi, .int 1])), (wi, .inl (kI, 60, .inl f_2))] := hD
  have hR : va_P (dC, dI) vwCl [] H := fun k q h => by simp at h
  refine lv_aload_n hx hb dX6_add_32 rfl (lv_at hl 0 rfl) ?_
  refine va_get (D := (dC, dI)) (ci := 12) (v := .int 1) (C := RX6) (T := TX6) (N := 2) hx hb hts (by decide +kernel) hown hK hP 0 rfl rfl 1 (by decide) (hts (.fieldLink RX6 13 "Underpaint$Rings" "size" "I") (by decide +kernel)) (fun _ h9 => h9) rfl dX6_add_33 ?_
  refine W.widen (k := 0) (n := 0) (Nat.le_of_ble_eq_true rfl) (Nat.le_of_ble_eq_true rfl) ?_
  exact W.iret (v := 1) hx hb hr (fun t ht hW => ⟨⟨1, (), rfl, (z_c_X6_add_b_353), trivial⟩, hS.F ht⟩) hS.2.2 dX6_add_36
theorem z_c_X11_ring_354 (w : Int32) (a_0 : ¬ (1 ≤ w ∧ w ≤ 99)) : ¬ (1 ≤ w ∧ w ≤ 99) := by grind
theorem z_c_X11_ring_355 (w : Int32) (z : Int32) (a_0 : 1 ≤ w ∧ w ≤ 99) (a_1 : z = 0) (a_2 : ¬ (1 : Int32) = 0) : (1 : Int32) = 1 ∧ (1 ≤ w ∧ w ≤ 99) := by grind
theorem z_c_X11_ring_356 (w : Int32) (z : Int32) (a_0 : 1 ≤ w ∧ w ≤ 99) (a_1 : ¬ z = 0) (a_2 : ¬ (1 : Int32) = 0) : (1 : Int32) = 1 ∧ (1 ≤ w ∧ w ≤ 99) := by grind
set_option maxRecDepth 100000 in
theorem gw_wsX11_demandRoom : wsX11_demandRoom.all goodWord = true := by decide +kernel
def wo_c_X11_ring_w : List Cond := [Cond.fieldLink RX11 32 "Underpaint" "dates" "LUnderpaint$Dates;", Cond.fieldLink RX11 260 "Underpaint$Dates" "board" "LUnderpaint$Rings;", Cond.fieldLink RX11 263 "Underpaint$Rings" "size" "I", Cond.fieldLink RX11 266 "Underpaint$Rings" "widths" "[I", Cond.fieldLink RX11 256 "Underpaint$Dates" "master" "LUnderpaint$Rings;"]
def wo_c_X11_ring : List Cond := .code yX11_ring cX11_ring 4 (some .int) :: (wo_c_X11_ring_w ++ (u_ws RX11 TX11 14 ++ (u_ws RX1 TX1 5 ++ (u_ws RX6 TX6 2 ++ (va_wsS RX11 91 yX11_isWithin wsX11_isWithin ++ (va_wsS RX11 87 yX11_demandArgument wsX11_demandArgument ++ (va_wsS RX11 99 yX11_demandRoom wsX11_demandRoom ++ (wsV RX11 270 RX6 yX6_add wo_c_X6_add_b ++ (wsV RX11 270 RX6 yX6_add wo_c_X6_add_m ++ List.nil)))))))))
theorem gw_wo_c_X11_ring : wo_c_X11_ring.all goodWord = true := gw_c (by decide +kernel) (gw_a (by decide +kernel) (gw_a (by decide +kernel) (gw_a (by decide +kernel) (gw_a (by decide +kernel) (gw_a (gw_a (by decide +kernel) gw_wsX11_isWithin) (gw_a (gw_a (by decide +kernel) gw_wsX11_demandArgument) (gw_a (gw_a (by decide +kernel) gw_wsX11_demandRoom) (gw_a (gw_a (by decide +kernel) gw_wo_c_X6_add_b) (gw_a (gw_a (by decide +kernel) gw_wo_c_X6_add_m) rfl)))))))))
theorem go_c_X11_ring_0 : GoodIn wo_c_X11_ring (va_wsS RX11 91 yX11_isWithin wsX11_isWithin) := goodIn_sub (fun _ h => List.mem_cons_of_mem _ (List.mem_append_right _ (List.mem_append_right _ (List.mem_append_right _ (List.mem_append_right _ (List.mem_append_left _ h)))))) (gw_a (by decide +kernel) gw_wsX11_isWithin)
theorem go_c_X11_ring_1 : GoodIn wo_c_X11_ring (va_wsS RX11 87 yX11_demandArgument wsX11_demandArgument) := goodIn_sub (fun _ h => List.mem_cons_of_mem _ (List.mem_append_right _ (List.mem_append_right _ (List.mem_append_right _ (List.mem_append_right _ (List.mem_append_right _ (List.mem_append_left _ h))))))) (gw_a (by decide +kernel) gw_wsX11_demandArgument)
theorem go_c_X11_ring_2 : GoodIn wo_c_X11_ring (va_wsS RX11 99 yX11_demandRoom wsX11_demandRoom) := goodIn_sub (fun _ h => List.mem_cons_of_mem _ (List.mem_append_right _ (List.mem_append_right _ (List.mem_append_right _ (List.mem_append_right _ (List.mem_append_right _ (List.mem_append_right _ (List.mem_append_left _ h)))))))) (gw_a (by decide +kernel) gw_wsX11_demandRoom)
theorem go_c_X11_ring_3 : GoodIn wo_c_X11_ring (wsV RX11 270 RX6 yX6_add wo_c_X6_add_b) := goodIn_sub (fun _ h => List.mem_cons_of_mem _ (List.mem_append_right _ (List.mem_append_right _ (List.mem_append_right _ (List.mem_append_right _ (List.mem_append_right _ (List.mem_append_right _ (List.mem_append_right _ (List.mem_append_left _ h))))))))) (gw_a (by decide +kernel) gw_wo_c_X6_add_b)
theorem go_c_X11_ring_4 : GoodIn wo_c_X11_ring (wsV RX11 270 RX6 yX6_add wo_c_X6_add_m) := goodIn_sub (fun _ h => List.mem_cons_of_mem _ (List.mem_append_right _ (List.mem_append_right _ (List.mem_append_right _ (List.mem_append_right _ (List.mem_append_right _ (List.mem_append_right _ (List.mem_append_right _ (List.mem_append_right _ (List.mem_append_left _ h)))))))))) (gw_a (by decide +kernel) gw_wo_c_X6_add_m)
set_option maxHeartbeats 4000000 in
set_option maxRecDepth 100000 in
theorem c_X11_ring (l : Launch) (hst : l.stackTraces = false) (dC : Nat → ClassId) (dI : Nat → Nat → Nat) (b0 : Nat) (en : EnT) (sz : Nat) (h pal she fil nte dat vot loa nos pic spa : Nat) (db dm dh ds : Nat) (wb wm : Nat) (kI : ClassId) (w z : Int32) : vx_Met l yX11_ring wo_c_X11_ring ({ frames := 7, cells := 2, slots := 12, locals := 110 } : Room) (cP b0 en (dC, dI) [(kI, .int)] [(db, .inr (12, [.ref wb, .int 0])), (dm, .inr (12, [.ref wm, .int 0])), (wb, .inl (kI, 20, .inl (fun _ => 0))), (wm, .inl (kI, 60, .inl (fun _ => 0)))] [(h, .inr (17, [.ref pal, .ref she, .ref fil, .ref nte, .ref dat, .ref vot, .ref loa, .ref nos, .ref pic, .ref spa, .int 5, .int 50, .int 1600, .int 0])), (dat, .inr (7, [.ref db, .ref dm, .int 0, .ref dh, .ref ds]))] sz (fun _ => True) [.ref h, .int w, .int z]) (va_Qi (fun (r : Int32) (_ : Unit) => r = 1 ∧ (1 ≤ w ∧ w ≤ 99)) (fun _ _ => True) (va_A [(db, .inr (12, [.ref wb, .int 0])), (dm, .inr (12, [.ref wm, .int 0])), (wb, .inl (kI, 20, .inl (fun _ => 0))), (wm, .inl (kI, 60, .inl (fun _ => 0)))] sz)) (vx_X (fun _ : Unit => True) (fun E _ _ => (E = "java/lang/IllegalArgumentException" ∧ ¬ (1 ≤ w ∧ w ≤ 99))) (va_A [(db, .inr (12, [.ref wb, .int 0])), (dm, .inr (12, [.ref wm, .int 0])), (wb, .inl (kI, 20, .inl (fun _ => 0))), (wm, .inl (kI, 60, .inl (fun _ => 0)))] sz)) 2 12 (va_A [(db, .inr (12, [.ref wb, .int 0])), (dm, .inr (12, [.ref wm, .int 0])), (wb, .inl (kI, 20, .inl (fun _ => 0))), (wm, .inl (kI, 60, .inl (fun _ => 0)))] sz) := by
  refine vx_ofW (cc := cX11_ring) (maxL := 4) (ret := (some .int)) (by decide) rfl ?_
  intro p e s m args below meth c s₁ B hml hext hv
  obtain ⟨rfl, hsz, hb0, hE, hPP, hK, hDD, hF0⟩ := hv
  have hx := B.exec
  have hb := B.bytes
  have hr := B.returns
  have hts := atoms_spec (ws := wo_c_X11_ring) B.pre
  have hown : s.vm.findClass RX11 = some m.cls := findClass_of_methodNamed B.named
  have hlocks := B.notSynchronized
  subst hsz
  have hN0 := en_N hPP hDD rfl
  have hP : va_P (dC, dI) vwCl [(db, .inr (12, [.ref wb, .int 0])), (dm, .inr (12, [.ref wm, .int 0])), (wb, .inl (kI, 20, .inl (fun _ => 0))), (wm, .inl (kI, 60, .inl (fun _ => 0)))] s.heap := hPP.sub [0, 1, 2, 3] rfl
  have hR0 : va_P (dC, dI) vwCl [(h, .inr (17, [.ref pal, .ref she, .ref fil, .ref nte, .ref dat, .ref vot, .ref loa, .ref nos, .ref pic, .ref spa, .int 5, .int 50, .int 1600, .int 0])), (dat, .inr (7, [.ref db, .ref dm, .int 0, .ref dh, .ref ds]))] s.heap := hPP.sub [4, 5] rfl
  have hD0 : va_D (fun q => b0 ≤ q) [(db, .inr (12, [.ref wb, .int 0])), (dm, .inr (12, [.ref wm, .int 0])), (wb, .inl (kI, 20, .inl (fun _ => 0))), (wm, .inl (kI, 60, .inl (fun _ => 0)))] := hDD.sub [0, 1, 2, 3] (by decide) rfl
  have hDr : va_D (fun q => b0 ≤ q) [(h, .inr (17, [.ref pal, .ref she, .ref fil, .ref nte, .ref dat, .ref vot, .ref loa, .ref nos, .ref pic, .ref spa, .int 5, .int 50, .int 1600, .int 0])), (dat, .inr (7, [.ref db, .ref dm, .int 0, .ref dh, .ref ds]))] := hDD.sub [4, 5] (by decide) rfl
  have hAb := en_A (sz := s.heap.size) hD0 hb0
  have hD := hD0.self (sz := s.heap.size)
  generalize hAe : va_A [(db, .inr (12, [.ref wb, .int 0])), (dm, .inr (12, [.ref wm, .int 0])), (wb, .inl (kI, 20, .inl (fun _ => 0))), (wm, .inl (kI, 60, .inl (fun _ => 0)))] s.heap.size = A at hD hAb hN0 ⊢
  have hA : ∀ q : Nat, s.heap.size ≤ q → A q := fun q h => by rw [← hAe]; exact Or.inr h
  have hS : va_S A s.heap s.heap [] := va_S.rf
  have hR := hR0
  have hl := lv_entry [.ref h, .int w, .int z] (n := 4) (Nat.le_of_ble_eq_true rfl)
  rw [lg_entry_eq]
  generalize (lg_sl [.ref h, .int w, .int z] ++ List.replicate (4 - (lg_sl [.ref h, .int w, .int z]).length) Slot.unset).toArray = ls at hl ⊢
  have hl : lv_has ls 4 [(0, .ref h), (1, .int w), (2, .int z)] := hl
  refine lv_iload_n hx hb dX11_ring_0 rfl (lv_at hl 1 rfl) ?_
  refine lv_iconst (v := 1) hx hb dX11_ring_1 (by decide) ?_
  refine lv_bipush (v := 99) hx hb dX11_ring_2 (by decide) ?_
  have hPc := (hP.app hR).sub (ws' := [] ++ []) [] rfl
  have hDc := (en_DD hD hDr hN0 hAb).sub (ws' := [] ++ []) [] (by decide) rfl
  have hKc := hK.sub (tys' := []) [] rfl
  have hFc := va_free (wc := []) hD hS hA [] rfl
  refine va_calli (va_runS (As := [.int w, .int 1, .int 99]) (rest := []) ⟨hx, hb, hml, hown, hts⟩ (c_X11_isWithin l dC dI b0 en s.heap.size w 1 99) (va_cwS 3 hts go_c_X11_ring_0 rfl rfl rfl (by decide +kernel) ⟨Nat.le_of_ble_eq_true rfl, Nat.le_of_ble_eq_true rfl⟩) ⟨cP.blind, cP.use (en_z hb0 hS) (hE.on hAb hS) hPc hKc hDc trivial⟩ rfl rfl hl.1 rfl (lv_room (Nat.le_of_ble_eq_true rfl)) dX11_ring_4 ⟨Nat.le_of_ble_eq_true rfl, Nat.le_of_ble_eq_true rfl⟩) hS (fun q _ h => hFc q h) hFc (fun r_1 u t H1 locs ht hvm hw hB hz1 hk1 hS => ?_)
  have hP1 : va_P (dC, dI) vwCl [] H1 := fun k q h => by simp at h
  have hD1 : va_D (va_A [] s.heap.size) [] := ⟨fun i j p q h => by simp at h, fun k q h => by simp at h⟩
  try dsimp only at hw
  obtain ⟨hP, hD⟩ := va_join (wr := [(db, .inr (12, [.ref wb, .int 0])), (dm, .inr (12, [.ref wm, .int 0])), (wb, .inl (kI, 20, .inl (fun _ => 0))), (wm, .inl (kI, 60, .inl (fun _ => 0)))]) (w1 := []) hP hD [] [0, 1, 2, 3] rfl rfl (by decide) (by decide) hk1 hFc hP1 hD1
  generalize H1 = H at hP hS ⊢
  have hP : va_P (dC, dI) vwCl [(db, .inr (12, [.ref wb, .int 0])), (dm, .inr (12, [.ref wm, .int 0])), (wb, .inl (kI, 20, .inl (fun _ => 0))), (wm, .inl (kI, 60, .inl (fun _ => 0)))] H := hP
  have hD : va_D A [(db, .inr (12, [.ref wb, .int 0])), (dm, .inr (12, [.ref wm, .int 0])), (wb, .inl (kI, 20, .inl (fun _ => 0))), (wm, .inl (kI, 60, .inl (fun _ => 0)))] := hD
  have hR := en_R hR0 hN0 hS
  refine W.widen (k := 0) (n := 0) (Nat.le_of_ble_eq_true rfl) (Nat.le_of_ble_eq_true rfl) ?_
  have h_2 := hw
  have hPc := (hP.app hR).sub (ws' := [] ++ []) [] rfl
  have hDc := (en_DD hD hDr hN0 hAb).sub (ws' := [] ++ []) [] (by decide) rfl
  have hKc := hK.sub (tys' := []) [] rfl
  have hFc := va_free (wc := []) hD hS hA [] rfl
  refine vx_callv (vx_runS (As := [.int r_1]) (rest := []) ⟨hx, hb, hml, hown, hts⟩ (c_X11_demandArgument l hst dC dI b0 en H.size r_1) (va_cwS 1 hts go_c_X11_ring_1 rfl rfl rfl (by decide +kernel) ⟨Nat.le_of_ble_eq_true rfl, Nat.le_of_ble_eq_true rfl⟩) ⟨cP.blind, cP.use (en_z hb0 hS) (hE.on hAb hS) hPc hKc hDc trivial⟩ rfl rfl hl.1 rfl (lv_room (Nat.le_of_ble_eq_true rfl)) dX11_ring_7 ⟨Nat.le_of_ble_eq_true rfl, Nat.le_of_ble_eq_true rfl⟩) hS (fun q _ h => hFc q h) hFc (fun q _ h => hFc q h) (fun E ce q9 u t H1 locs ht hvm hpx hBX hz1 hk1 hS hce hcv hcl => ?_) (fun u t H1 locs ht hvm hw hB hz1 hk1 hS => ?_)
  · skip
    try dsimp only at hBX
    obtain ⟨rfl, hc⟩ := hBX
    refine vx_widen (k := 2) (n := 12) (Nat.le_of_ble_eq_true rfl) (Nat.le_of_ble_eq_true rfl) ?_
    exact vx_out (fun x hx => (hext x hx).elim) hlocks hce hcv hcl (fun t ht hW => ⟨(), trivial, ⟨rfl, (z_c_X11_ring_354 w (b_no h_2 hc))⟩, hS.F ht⟩) hS.2.2 (Nat.le_refl _) (Nat.le_refl _)
  have hP1 : va_P (dC, dI) vwCl [] H1 := fun k q h => by simp at h
  have hD1 : va_D (va_A [] H.size) [] := ⟨fun i j p q h => by simp at h, fun k q h => by simp at h⟩
  try dsimp only at hw
  obtain ⟨hP, hD⟩ := va_join (wr := [(db, .inr (12, [.ref wb, .int 0])), (dm, .inr (12, [.ref wm, .int 0])), (wb, .inl (kI, 20, .inl (fun _ => 0))), (wm, .inl (kI, 60, .inl (fun _ => 0)))]) (w1 := []) hP hD [] [0, 1, 2, 3] rfl rfl (by decide) (by decide) hk1 hFc hP1 hD1
  generalize H1 = H at hP hS ⊢
  have hP : va_P (dC, dI) vwCl [(db, .inr (12, [.ref wb, .int 0])), (dm, .inr (12, [.ref wm, .int 0])), (wb, .inl (kI, 20, .inl (fun _ => 0))), (wm, .inl (kI, 60, .inl (fun _ => 0)))] H := hP
  have hD : va_D A [(db, .inr (12, [.ref wb, .int 0])), (dm, .inr (12, [.ref wm, .int 0])), (wb, .inl (kI, 20, .inl (fun _ => 0))), (wm, .inl (kI, 60, .inl (fun _ => 0)))] := hD
  have hR := en_R hR0 hN0 hS
  refine W.widen (k := 1) (n := 6) (Nat.le_of_ble_eq_true rfl) (Nat.le_of_ble_eq_true rfl) ?_
  have h_4 := hw
  refine lv_iload_n hx hb dX11_ring_10 rfl (lv_at hl 2 rfl) ?_
  refine lv_if_eq (tgt := 24) hx hb dX11_ring_11 (by decide) (fun c_5 => ?_) (fun c_5 => ?_)
  · skip
    refine lv_aload_n hx hb dX11_ring_24 rfl (lv_at hl 0 rfl) ?_
    refine va_get (D := (dC, dI)) (ci := 17) (v := .ref dat) (C := RX11) (T := TX11) (N := 14) hx hb hts (by decide +kernel) hown hK hR 0 rfl rfl 4 (by decide) (hts (.fieldLink RX11 32 "Underpaint" "dates" "LUnderpaint$Dates;") (by decide +kernel)) (fun _ h9 => h9) rfl dX11_ring_25 ?_
    refine va_get (D := (dC, dI)) (ci := 7) (v := .ref db) (C := RX1) (T := TX1) (N := 5) hx hb hts (by decide +kernel) hown hK hR 1 rfl rfl 0 (by decide) (hts (.fieldLink RX11 260 "Underpaint$Dates" "board" "LUnderpaint$Rings;") (by decide +kernel)) (fun _ h9 => h9) rfl dX11_ring_28 ?_
    refine lv_astore_n (lv' := [(3, .ref db), (0, .ref h), (1, .int w), (2, .int z)]) hx hb dX11_ring_31 rfl hl (by decide) rfl (fun ls hl => ?_)
    refine lv_aload_n hx hb dX11_ring_32 rfl (lv_at hl 0 rfl) ?_
    refine va_get (D := (dC, dI)) (ci := 12) (v := .int 0) (C := RX6) (T := TX6) (N := 2) hx hb hts (by decide +kernel) hown hK hP 0 rfl rfl 1 (by decide) (hts (.fieldLink RX11 263 "Underpaint$Rings" "size" "I") (by decide +kernel)) (fun _ h9 => h9) rfl dX11_ring_33 ?_
    refine lv_aload_n hx hb dX11_ring_36 rfl (lv_at hl 0 rfl) ?_
    refine va_get (D := (dC, dI)) (ci := 12) (v := .ref wb) (C := RX6) (T := TX6) (N := 2) hx hb hts (by decide +kernel) hown hK hP 0 rfl rfl 0 (by decide) (hts (.fieldLink RX11 266 "Underpaint$Rings" "widths" "[I") (by decide +kernel)) (fun _ h9 => h9) rfl dX11_ring_37 ?_
    refine va_alen hx hb hK hP 2 0 rfl rfl (v := 20) rfl dX11_ring_40 ?_
    refine lv_icmp_ge (tgt := 48) hx hb dX11_ring_41 (by decide) (fun c_6 => absurd c_6 (by decide)) (fun c_6 => ?_)
    refine lv_iconst (v := 1) hx hb dX11_ring_44 (by decide) ?_
    refine lv_goto (tgt := 49) hx hb dX11_ring_45 (by decide) ?_
    have hPc := (hP.app hR).sub (ws' := [] ++ []) [] rfl
    have hDc := (en_DD hD hDr hN0 hAb).sub (ws' := [] ++ []) [] (by decide) rfl
    have hKc := hK.sub (tys' := []) [] rfl
    have hFc := va_free (wc := []) hD hS hA [] rfl
    refine vx_callv (vx_runS (As := [.int 1]) (rest := []) ⟨hx, hb, hml, hown, hts⟩ (c_X11_demandRoom l hst dC dI b0 en H.size 1) (va_cwS 1 hts go_c_X11_ring_2 rfl rfl rfl (by decide +kernel) ⟨Nat.le_of_ble_eq_true rfl, Nat.le_of_ble_eq_true rfl⟩) ⟨cP.blind, cP.use (en_z hb0 hS) (hE.on hAb hS) hPc hKc hDc trivial⟩ rfl rfl hl.1 rfl (lv_room (Nat.le_of_ble_eq_true rfl)) dX11_ring_49 ⟨Nat.le_of_ble_eq_true rfl, Nat.le_of_ble_eq_true rfl⟩) hS (fun q _ h => hFc q h) hFc (fun q _ h => hFc q h) (fun E ce q9 u t H1 locs ht hvm hpx hBX hz1 hk1 hS hce hcv hcl => ?_) (fun u t H1 locs ht hvm hw hB hz1 hk1 hS => ?_)
    · skip
      try dsimp only at hBX
      obtain ⟨rfl, hc⟩ := hBX
      exact absurd hc (by decide)
    have hP1 : va_P (dC, dI) vwCl [] H1 := fun k q h => by simp at h
    have hD1 : va_D (va_A [] H.size) [] := ⟨fun i j p q h => by simp at h, fun k q h => by simp at h⟩
    try dsimp only at hw
    obtain ⟨hP, hD⟩ := va_join (wr := [(db, .inr (12, [.ref wb, .int 0])), (dm, .inr (12, [.ref wm, .int 0])), (wb, .inl (kI, 20, .inl (fun _ => 0))), (wm, .inl (kI, 60, .inl (fun _ => 0)))]) (w1 := []) hP hD [] [0, 1, 2, 3] rfl rfl (by decide) (by decide) hk1 hFc hP1 hD1
    generalize H1 = H at hP hS ⊢
    have hP : va_P (dC, dI) vwCl [(db, .inr (12, [.ref wb, .int 0])), (dm, .inr (12, [.ref wm, .int 0])), (wb, .inl (kI, 20, .inl (fun _ => 0))), (wm, .inl (kI, 60, .inl (fun _ => 0)))] H := hP
    have hD : va_D A [(db, .inr (12, [.ref wb, .int 0])), (dm, .inr (12, [.ref wm, .int 0])), (wb, .inl (kI, 20, .inl (fun _ => 0))), (wm, .inl (kI, 60, .inl (fun _ => 0)))] := hD
    have hR := en_R hR0 hN0 hS
    refine W.widen (k := 2) (n := 12) (Nat.le_of_ble_eq_true rfl) (Nat.le_of_ble_eq_true rfl) ?_
    have h_8 := hw
    refine lv_aload_n hx hb dX11_ring_52 rfl (lv_at hl 0 rfl) ?_
    refine lv_iload_n hx hb dX11_ring_53 rfl (lv_at hl 2 rfl) ?_
    have hPc := (hP.app hR).sub (ws' := [(db, .inr (12, [.ref wb, .int 0])), (wb, .inl (kI, 20, .inl (fun _ => 0)))] ++ []) [0, 2] rfl
    have hDc := (en_DD hD hDr hN0 hAb).sub (ws' := [(db, .inr (12, [.ref wb, .int 0])), (wb, .inl (kI, 20, .inl (fun _ => 0)))] ++ []) [0, 2] (by decide) rfl
    have hKc := hK.sub (tys' := [(kI, .int)]) [0] rfl
    have hFc := va_free (wc := [(db, .inr (12, [.ref wb, .int 0])), (wb, .inl (kI, 20, .inl (fun _ => 0)))]) hD hS hA [0, 2] rfl
    refine va_calli (va_runV (As := [.int w]) (rest := []) ⟨hx, hb, hml, hown, hts⟩ (c_X6_add_b l dC dI b0 en H.size db wb kI w) (cwV 1 hts go_c_X11_ring_3 rfl rfl rfl (by decide +kernel) ⟨Nat.le_of_ble_eq_true rfl, Nat.le_of_ble_eq_true rfl⟩) ⟨cP.blind, va_recv hK hP (ci := 12) (q0 := 0) rfl rfl, cP.use (en_z hb0 hS) (hE.on hAb hS) hPc hKc hDc trivial⟩ rfl rfl hl.1 rfl (lv_room (Nat.le_of_ble_eq_true rfl)) dX11_ring_54 ⟨Nat.le_of_ble_eq_true rfl, Nat.le_of_ble_eq_true rfl⟩) hS (fun q _ h => hFc q h) hFc (fun r_9 u t H1 locs ht hvm hw hB hz1 hk1 hS => ?_)
    have hP1 : va_P (dC, dI) vwCl [] H1 := fun k q h => by simp at h
    have hD1 : va_D (va_A [(db, .inr (12, [.ref wb, .int 0])), (wb, .inl (kI, 20, .inl (fun _ => 0)))] H.size) [] := ⟨fun i j p q h => by simp at h, fun k q h => by simp at h⟩
    try dsimp only at hw
    obtain ⟨hP, hD⟩ := va_join (wr := [(dm, .inr (12, [.ref wm, .int 0])), (wm, .inl (kI, 60, .inl (fun _ => 0)))]) (w1 := []) hP hD [0, 2] [1, 3] rfl rfl (by decide) (by decide) hk1 hFc hP1 hD1
    generalize H1 = H at hP hS ⊢
    have hP : va_P (dC, dI) vwCl [(dm, .inr (12, [.ref wm, .int 0])), (wm, .inl (kI, 60, .inl (fun _ => 0)))] H := hP
    have hD : va_D A [(dm, .inr (12, [.ref wm, .int 0])), (wm, .inl (kI, 60, .inl (fun _ => 0)))] := hD
    have hR := en_R hR0 hN0 hS
    refine W.widen (k := 2) (n := 12) (Nat.le_of_ble_eq_true rfl) (Nat.le_of_ble_eq_true rfl) ?_
    subst r_9
    refine W.widen (k := 2) (n := 12) (Nat.le_of_ble_eq_true rfl) (Nat.le_of_ble_eq_true rfl) ?_
    refine vx_ret ?_
    exact W.iret (v := 1) hx hb hr (fun t ht hW => ⟨⟨1, (), rfl, (z_c_X11_ring_355 w z (b_yes h_2 h_4) c_5 h_8), trivial⟩, hS.F ht⟩) hS.2.2 dX11_ring_57
  · skip
    refine lv_aload_n hx hb dX11_ring_14 rfl (lv_at hl 0 rfl) ?_
    refine va_get (D := (dC, dI)) (ci := 17) (v := .ref dat) (C := RX11) (T := TX11) (N := 14) hx hb hts (by decide +kernel) hown hK hR 0 rfl rfl 4 (by decide) (hts (.fieldLink RX11 32 "Underpaint" "dates" "LUnderpaint$Dates;") (by decide +kernel)) (fun _ h9 => h9) rfl dX11_ring_15 ?_
    refine va_get (D := (dC, dI)) (ci := 7) (v := .ref dm) (C := RX1) (T := TX1) (N := 5) hx hb hts (by decide +kernel) hown hK hR 1 rfl rfl 1 (by decide) (hts (.fieldLink RX11 256 "Underpaint$Dates" "master" "LUnderpaint$Rings;") (by decide +kernel)) (fun _ h9 => h9) rfl dX11_ring_18 ?_
    refine lv_goto (tgt := 31) hx hb dX11_ring_21 (by decide) ?_
    refine lv_astore_n (lv' := [(3, .ref dm), (0, .ref h), (1, .int w), (2, .int z)]) hx hb dX11_ring_31 rfl hl (by decide) rfl (fun ls hl => ?_)
    refine lv_aload_n hx hb dX11_ring_32 rfl (lv_at hl 0 rfl) ?_
    refine va_get (D := (dC, dI)) (ci := 12) (v := .int 0) (C := RX6) (T := TX6) (N := 2) hx hb hts (by decide +kernel) hown hK hP 1 rfl rfl 1 (by decide) (hts (.fieldLink RX11 263 "Underpaint$Rings" "size" "I") (by decide +kernel)) (fun _ h9 => h9) rfl dX11_ring_33 ?_
    refine lv_aload_n hx hb dX11_ring_36 rfl (lv_at hl 0 rfl) ?_
    refine va_get (D := (dC, dI)) (ci := 12) (v := .ref wm) (C := RX6) (T := TX6) (N := 2) hx hb hts (by decide +kernel) hown hK hP 1 rfl rfl 0 (by decide) (hts (.fieldLink RX11 266 "Underpaint$Rings" "widths" "[I") (by decide +kernel)) (fun _ h9 => h9) rfl dX11_ring_37 ?_
    refine va_alen hx hb hK hP 3 0 rfl rfl (v := 60) rfl dX11_ring_40 ?_
    refine lv_icmp_ge (tgt := 48) hx hb dX11_ring_41 (by decide) (fun c_10 => absurd c_10 (by decide)) (fun c_10 => ?_)
    refine lv_iconst (v := 1) hx hb dX11_ring_44 (by decide) ?_
    refine lv_goto (tgt := 49) hx hb dX11_ring_45 (by decide) ?_
    have hPc := (hP.app hR).sub (ws' := [] ++ []) [] rfl
    have hDc := (en_DD hD hDr hN0 hAb).sub (ws' := [] ++ []) [] (by decide) rfl
    have hKc := hK.sub (tys' := []) [] rfl
    have hFc := va_free (wc := []) hD hS hA [] rfl
    refine vx_callv (vx_runS (As := [.int 1]) (rest := []) ⟨hx, hb, hml, hown, hts⟩ (c_X11_demandRoom l hst dC dI b0 en H.size 1) (va_cwS 1 hts go_c_X11_ring_2 rfl rfl rfl (by decide +kernel) ⟨Nat.le_of_ble_eq_true rfl, Nat.le_of_ble_eq_true rfl⟩) ⟨cP.blind, cP.use (en_z hb0 hS) (hE.on hAb hS) hPc hKc hDc trivial⟩ rfl rfl hl.1 rfl (lv_room (Nat.le_of_ble_eq_true rfl)) dX11_ring_49 ⟨Nat.le_of_ble_eq_true rfl, Nat.le_of_ble_eq_true rfl⟩) hS (fun q _ h => hFc q h) hFc (fun q _ h => hFc q h) (fun E ce q9 u t H1 locs ht hvm hpx hBX hz1 hk1 hS hce hcv hcl => ?_) (fun u t H1 locs ht hvm hw hB hz1 hk1 hS => ?_)
    · skip
      try dsimp only at hBX
      obtain ⟨rfl, hc⟩ := hBX
      exact absurd hc (by decide)
    have hP1 : va_P (dC, dI) vwCl [] H1 := fun k q h => by simp at h
    have hD1 : va_D (va_A [] H.size) [] := ⟨fun i j p q h => by simp at h, fun k q h => by simp at h⟩
    try dsimp only at hw
    obtain ⟨hP, hD⟩ := va_join (wr := [(db, .inr (12, [.ref wb, .int 0])), (dm, .inr (12, [.ref wm, .int 0])), (wb, .inl (kI, 20, .inl (fun _ => 0))), (wm, .inl (kI, 60, .inl (fun _ => 0)))]) (w1 := []) hP hD [] [0, 1, 2, 3] rfl rfl (by decide) (by decide) hk1 hFc hP1 hD1
    generalize H1 = H at hP hS ⊢
    have hP : va_P (dC, dI) vwCl [(db, .inr (12, [.ref wb, .int 0])), (dm, .inr (12, [.ref wm, .int 0])), (wb, .inl (kI, 20, .inl (fun _ => 0))), (wm, .inl (kI, 60, .inl (fun _ => 0)))] H := hP
    have hD : va_D A [(db, .inr (12, [.ref wb, .int 0])), (dm, .inr (12, [.ref wm, .int 0])), (wb, .inl (kI, 20, .inl (fun _ => 0))), (wm, .inl (kI, 60, .inl (fun _ => 0)))] := hD
    have hR := en_R hR0 hN0 hS
    refine W.widen (k := 2) (n := 12) (Nat.le_of_ble_eq_true rfl) (Nat.le_of_ble_eq_true rfl) ?_
    have h_12 := hw
    refine lv_aload_n hx hb dX11_ring_52 rfl (lv_at hl 0 rfl) ?_
    refine lv_iload_n hx hb dX11_ring_53 rfl (lv_at hl 2 rfl) ?_
    have hPc := (hP.app hR).sub (ws' := [(dm, .inr (12, [.ref wm, .int 0])), (wm, .inl (kI, 60, .inl (fun _ => 0)))] ++ []) [1, 3] rfl
    have hDc := (en_DD hD hDr hN0 hAb).sub (ws' := [(dm, .inr (12, [.ref wm, .int 0])), (wm, .inl (kI, 60, .inl (fun _ => 0)))] ++ []) [1, 3] (by decide) rfl
    have hKc := hK.sub (tys' := [(kI, .int)]) [0] rfl
    have hFc := va_free (wc := [(dm, .inr (12, [.ref wm, .int 0])), (wm, .inl (kI, 60, .inl (fun _ => 0)))]) hD hS hA [1, 3] rfl
    refine va_calli (va_runV (As := [.int w]) (rest := []) ⟨hx, hb, hml, hown, hts⟩ (c_X6_add_m l dC dI b0 en H.size dm wm kI w) (cwV 1 hts go_c_X11_ring_4 rfl rfl rfl (by decide +kernel) ⟨Nat.le_of_ble_eq_true rfl, Nat.le_of_ble_eq_true rfl⟩) ⟨cP.blind, va_recv hK hP (ci := 12) (q0 := 1) rfl rfl, cP.use (en_z hb0 hS) (hE.on hAb hS) hPc hKc hDc trivial⟩ rfl rfl hl.1 rfl (lv_room (Nat.le_of_ble_eq_true rfl)) dX11_ring_54 ⟨Nat.le_of_ble_eq_true rfl, Nat.le_of_ble_eq_true rfl⟩) hS (fun q _ h => hFc q h) hFc (fun r_13 u t H1 locs ht hvm hw hB hz1 hk1 hS => ?_)
    have hP1 : va_P (dC, dI) vwCl [] H1 := fun k q h => by simp at h
    have hD1 : va_D (va_A [(dm, .inr (12, [.ref wm, .int 0])), (wm, .inl (kI, 60, .inl (fun _ => 0)))] H.size) [] := ⟨fun i j p q h => by simp at h, fun k q h => by simp at h⟩
    try dsimp only at hw
    obtain ⟨hP, hD⟩ := va_join (wr := [(db, .inr (12, [.ref wb, .int 0])), (wb, .inl (kI, 20, .inl (fun _ => 0)))]) (w1 := []) hP hD [1, 3] [0, 2] rfl rfl (by decide) (by decide) hk1 hFc hP1 hD1
    generalize H1 = H at hP hS ⊢
    have hP : va_P (dC, dI) vwCl [(db, .inr (12, [.ref wb, .int 0])), (wb, .inl (kI, 20, .inl (fun _ => 0)))] H := hP
    have hD : va_D A [(db, .inr (12, [.ref wb, .int 0])), (wb, .inl (kI, 20, .inl (fun _ => 0)))] := hD
    have hR := en_R hR0 hN0 hS
    refine W.widen (k := 2) (n := 12) (Nat.le_of_ble_eq_true rfl) (Nat.le_of_ble_eq_true rfl) ?_
    subst r_13
    refine W.widen (k := 2) (n := 12) (Nat.le_of_ble_eq_true rfl) (Nat.le_of_ble_eq_true rfl) ?_
    refine vx_ret ?_
    exact W.iret (v := 1) hx hb hr (fun t ht hW => ⟨⟨1, (), rfl, (z_c_X11_ring_356 w z (b_yes h_2 h_4) c_5 h_12), trivial⟩, hS.F ht⟩) hS.2.2 dX11_ring_57

def wo_c_X11_boardAt_w : List Cond := [Cond.fieldLink RX11 32 "Underpaint" "dates" "LUnderpaint$Dates;", Cond.fieldLink RX11 260 "Underpaint$Dates" "board" "LUnderpaint$Rings;", Cond.fieldLink RX11 263 "Underpaint$Rings" "size" "I"]
def wo_c_X11_boardAt : List Cond := .code yX11_boardAt cX11_boardAt 1 (some .int) :: (wo_c_X11_boardAt_w ++ (u_ws RX11 TX11 14 ++ (u_ws RX1 TX1 5 ++ (u_ws RX6 TX6 2 ++ (va_wsS RX11 187 yX11_demandElement wsX11_demandElement ++ List.nil)))))
theorem gw_wo_c_X11_boardAt : wo_c_X11_boardAt.all goodWord = true := gw_c (by decide +kernel) (gw_a (by decide +kernel) (gw_a (by decide +kernel) (gw_a (by decide +kernel) (gw_a (by decide +kernel) (gw_a (gw_a (by decide +kernel) gw_wsX11_demandElement) rfl)))))
theorem go_c_X11_boardAt_0 : GoodIn wo_c_X11_boardAt (va_wsS RX11 187 yX11_demandElement wsX11_demandElement) := goodIn_sub (fun _ h => List.mem_cons_of_mem _ (List.mem_append_right _ (List.mem_append_right _ (List.mem_append_right _ (List.mem_append_right _ (List.mem_append_left _ h)))))) (gw_a (by decide +kernel) gw_wsX11_demandElement)
set_option maxHeartbeats 4000000 in
set_option maxRecDepth 100000 in
theorem c_X11_boardAt (l : Launch) (hst : l.stackTraces = false) (dC : Nat → ClassId) (dI : Nat → Nat → Nat) (b0 : Nat) (en : EnT) (sz : Nat) (h pal she fil nte dat vot loa nos pic spa : Nat) (db dm dh ds : Nat) (wb wm : Nat) : vx_Met l yX11_boardAt wo_c_X11_boardAt ({ frames := 7, cells := 1, slots := 6, locals := 110 } : Room) (cP b0 en (dC, dI) [] [] [(h, .inr (17, [.ref pal, .ref she, .ref fil, .ref nte, .ref dat, .ref vot, .ref loa, .ref nos, .ref pic, .ref spa, .int 5, .int 50, .int 1600, .int 0])), (dat, .inr (7, [.ref db, .ref dm, .int 0, .ref dh, .ref ds])), (db, .inr (12, [.ref wb, .int 0])), (dm, .inr (12, [.ref wm, .int 0]))] sz (fun _ => True) [.ref h]) (va_Qi (fun (r : Int32) (_ : Unit) => False) (fun _ _ => True) (va_A [] sz)) (vx_X (fun _ : Unit => True) (fun E _ _ => (E = "java/util/NoSuchElementException" ∧ True)) (va_A [] sz)) 1 6 (va_A [] sz) := by
  refine vx_ofW (cc := cX11_boardAt) (maxL := 1) (ret := (some .int)) (by decide) rfl ?_
  intro p e s m args below meth c s₁ B hml hext hv
  obtain ⟨rfl, hsz, hb0, hE, hPP, hK, hDD, hF0⟩ := hv
  have hx := B.exec
  have hb := B.bytes
  have hr := B.returns
  have hts := atoms_spec (ws := wo_c_X11_boardAt) B.pre
  have hown : s.vm.findClass RX11 = some m.cls := findClass_of_methodNamed B.named
  have hlocks := B.notSynchronized
  subst hsz
  have hN0 := en_N hPP hDD rfl
  have hP : va_P (dC, dI) vwCl [] s.heap := hPP.sub [] rfl
  have hR0 : va_P (dC, dI) vwCl [(h, .inr (17, [.ref pal, .ref she, .ref fil, .ref nte, .ref dat, .ref vot, .ref loa, .ref nos, .ref pic, .ref spa, .int 5, .int 50, .int 1600, .int 0])), (dat, .inr (7, [.ref db, .ref dm, .int 0, .ref dh, .ref ds])), (db, .inr (12, [.ref wb, .int 0])), (dm, .inr (12, [.ref wm, .int 0]))] s.heap := hPP.sub [0, 1, 2, 3] rfl
  have hD0 : va_D (fun q => b0 ≤ q) [] := hDD.sub [] (by decide) rfl
  have hDr : va_D (fun q => b0 ≤ q) [(h, .inr (17, [.ref pal, .ref she, .ref fil, .ref nte, .ref dat, .ref vot, .ref loa, .ref nos, .ref pic, .ref spa, .int 5, .int 50, .int 1600, .int 0])), (dat, .inr (7, [.ref db, .ref dm, .int 0, .ref dh, .ref ds])), (db, .inr (12, [.ref wb, .int 0])), (dm, .inr (12, [.ref wm, .int 0]))] := hDD.sub [0, 1, 2, 3] (by decide) rfl
  have hAb := en_A (sz := s.heap.size) hD0 hb0
  have hD := hD0.self (sz := s.heap.size)
  generalize hAe : va_A [] s.heap.size = A at hD hAb hN0 ⊢
  have hA : ∀ q : Nat, s.heap.size ≤ q → A q := fun q h => by rw [← hAe]; exact Or.inr h
  have hS : va_S A s.heap s.heap [] := va_S.rf
  have hR := hR0
  have hl := lv_entry [.ref h] (n := 1) (Nat.le_of_ble_eq_true rfl)
  rw [lg_entry_eq]
  generalize (lg_sl [.ref h] ++ List.replicate (1 - (lg_sl [.ref h]).length) Slot.unset).toArray = ls at hl ⊢
  have hl : lv_has ls 1 [(0, .ref h)] := hl
  refine lv_aload_n hx hb dX11_boardAt_0 rfl (lv_at hl 0 rfl) ?_
  refine va_get (D := (dC, dI)) (ci := 17) (v := .ref dat) (C := RX11) (T := TX11) (N := 14) hx hb hts (by decide +kernel) hown hK hR 0 rfl rfl 4 (by decide) (hts (.fieldLink RX11 32 "Underpaint" "dates" "LUnderpaint$Dates;") (by decide +kernel)) (fun _ h9 => h9) rfl dX11_boardAt_1 ?_
  refine va_get (D := (dC, dI)) (ci := 7) (v := .ref db) (C := RX1) (T := TX1) (N := 5) hx hb hts (by decide +kernel) hown hK hR 1 rfl rfl 0 (by decide) (hts (.fieldLink RX11 260 "Underpaint$Dates" "board" "LUnderpaint$Rings;") (by decide +kernel)) (fun _ h9 => h9) rfl dX11_boardAt_4 ?_
  refine va_get (D := (dC, dI)) (ci := 12) (v := .int 0) (C := RX6) (T := TX6) (N := 2) hx hb hts (by decide +kernel) hown hK hR 2 rfl rfl 1 (by decide) (hts (.fieldLink RX11 263 "Underpaint$Rings" "size" "I") (by decide +kernel)) (fun _ h9 => h9) rfl dX11_boardAt_7 ?_
  refine lv_if_le (tgt := 40) hx hb dX11_boardAt_10 (by decide) (fun c_1 => ?_) (fun c_1 => absurd c_1 (by decide))
  refine lv_iconst (v := 0) hx hb dX11_boardAt_40 (by decide) ?_
  have hPc := (hP.app hR).sub (ws' := [] ++ []) [] rfl
  have hDc := (en_DD hD hDr hN0 hAb).sub (ws' := [] ++ []) [] (by decide) rfl
  have hKc := hK.sub (tys' := []) [] rfl
  have hFc := va_free (wc := []) hD hS hA [] rfl
  refine vx_callv (vx_runS (As := [.int 0]) (rest := []) ⟨hx, hb, hml, hown, hts⟩ (c_X11_demandElement l hst dC dI b0 en s.heap.size 0) (va_cwS 1 hts go_c_X11_boardAt_0 rfl rfl rfl (by decide +kernel) ⟨Nat.le_of_ble_eq_true rfl, Nat.le_of_ble_eq_true rfl⟩) ⟨cP.blind, cP.use (en_z hb0 hS) (hE.on hAb hS) hPc hKc hDc trivial⟩ rfl rfl hl.1 rfl (lv_room (Nat.le_of_ble_eq_true rfl)) dX11_boardAt_41 ⟨Nat.le_of_ble_eq_true rfl, Nat.le_of_ble_eq_true rfl⟩) hS (fun q _ h => hFc q h) hFc (fun q _ h => hFc q h) (fun E ce q9 u t H1 locs ht hvm hpx hBX hz1 hk1 hS hce hcv hcl => ?_) (fun u t H1 locs ht hvm hw hB hz1 hk1 hS => ?_)
  · skip
    try dsimp only at hBX
    obtain ⟨rfl, hc⟩ := hBX
    refine vx_widen (k := 1) (n := 6) (Nat.le_of_ble_eq_true rfl) (Nat.le_of_ble_eq_true rfl) ?_
    exact vx_out (fun x hx => (hext x hx).elim) hlocks hce hcv hcl (fun t ht hW => ⟨(), trivial, ⟨rfl, trivial⟩, hS.F ht⟩) hS.2.2 (Nat.le_refl _) (Nat.le_refl _)
  have hP1 : va_P (dC, dI) vwCl [] H1 := fun k q h => by simp at h
  have hD1 : va_D (va_A [] s.heap.size) [] := ⟨fun i j p q h => by simp at h, fun k q h => by simp at h⟩
  try dsimp only at hw
  obtain ⟨hP, hD⟩ := va_join (wr := []) (w1 := []) hP hD [] [] rfl rfl (by decide) (by decide) hk1 hFc hP1 hD1
  generalize H1 = H at hP hS ⊢
  have hP : va_P (dC, dI) vwCl [] H := hP
  have hD : va_D A [] := hD
  have hR := en_R hR0 hN0 hS
  refine W.widen (k := 1) (n := 6) (Nat.le_of_ble_eq_true rfl) (Nat.le_of_ble_eq_true rfl) ?_
  have h_3 := hw
  exact absurd h_3 (by decide)

def wo_c_X1_addPainter_w : List Cond := [Cond.fieldLink RX1 44 "Underpaint$Dates" "painters" "I", Cond.fieldLink RX1 23 "Underpaint$Dates" "habits" "[I"]
def wo_c_X1_addPainter : List Cond := .code yX1_addPainter cX1_addPainter 6 (some .int) :: (wo_c_X1_addPainter_w ++ (u_ws RX1 TX1 5 ++ List.nil))
theorem gw_wo_c_X1_addPainter : wo_c_X1_addPainter.all goodWord = true := gw_c (by decide +kernel) (gw_a (by decide +kernel) (gw_a (by decide +kernel) rfl))
set_option maxHeartbeats 4000000 in
set_option maxRecDepth 100000 in
/-- Dates.addPainter: the first one -/
theorem c_X1_addPainter (l : Launch) (dC : Nat → ClassId) (dI : Nat → Nat → Nat) (b0 : Nat) (en : EnT) (sz : Nat) (dat db dm dh ds : Nat) (kI : ClassId) (a b c9 d : Int32) : Met l yX1_addPainter wo_c_X1_addPainter ({ frames := 0, cells := 0, slots := 0, locals := 0 } : Room) (cP b0 en (dC, dI) [(kI, .int)] [(dat, .inr (7, [.ref db, .ref dm, .int 0, .ref dh, .ref ds])), (dh, .inl (kI, 24, .inl (fun _ => 0)))] [] sz (fun _ => True) [.ref dat, .int a, .int b, .int c9, .int d]) (va_Qi (fun (r : Int32) (_ : Unit) => r = 0) (fun _ _ => True) (va_A [(dat, .inr (7, [.ref db, .ref dm, .int 0, .ref dh, .ref ds])), (dh, .inl (kI, 24, .inl (fun _ => 0)))] sz)) 0 0 (va_A [(dat, .inr (7, [.ref db, .ref dm, .int 0, .ref dh, .ref ds])), (dh, .inl (kI, 24, .inl (fun _ => 0)))] sz) := by
  refine Met.ofW (cc := cX1_addPainter) (maxL := 6) (ret := (some .int)) (by decide) rfl ?_
  intro p e s m args below meth c s₁ B hml hv
  obtain ⟨rfl, hsz, hb0, hE, hPP, hK, hDD, hF0⟩ := hv
  have hx := B.exec
  have hb := B.bytes
  have hr := B.returns
  have hts := atoms_spec (ws := wo_c_X1_addPainter) B.pre
  have hown : s.vm.findClass RX1 = some m.cls := findClass_of_methodNamed B.named
  have hlocks := B.notSynchronized
  subst hsz
  have hN0 := en_N hPP hDD rfl
  have hP : va_P (dC, dI) vwCl [(dat, .inr (7, [.ref db, .ref dm, .int 0, .ref dh, .ref ds])), (dh, .inl (kI, 24, .inl (fun _ => 0)))] s.heap := hPP.sub [0, 1] rfl
  have hR0 : va_P (dC, dI) vwCl [] s.heap := hPP.sub [] rfl
  have hD0 : va_D (fun q => b0 ≤ q) [(dat, .inr (7, [.ref db, .ref dm, .int 0, .ref dh, .ref ds])), (dh, .inl (kI, 24, .inl (fun _ => 0)))] := hDD.sub [0, 1] (by decide) rfl
  have hDr : va_D (fun q => b0 ≤ q) [] := hDD.sub [] (by decide) rfl
  have hAb := en_A (sz := s.heap.size) hD0 hb0
  have hD := hD0.self (sz := s.heap.size)
  generalize hAe : va_A [(dat, .inr (7, [.ref db, .ref dm, .int 0, .ref dh, .ref ds])), (dh, .inl (kI, 24, .inl (fun _ => 0)))] s.heap.size = A at hD hAb hN0 ⊢
  have hA : ∀ q : Nat, s.heap.size ≤ q → A q := fun q h => by rw [← hAe]; exact Or.inr h
  have hS : va_S A s.heap s.heap [] := va_S.rf
  have hR := hR0
  have hl := lv_entry [.ref dat, .int a, .int b, .int c9, .int d] (n := 6) (Nat.le_of_ble_eq_true rfl)
  rw [lg_entry_eq]
  generalize (lg_sl [.ref dat, .int a, .int b, .int c9, .int d] ++ List.replicate (6 - (lg_sl [.ref dat, .int a, .int b, .int c9, .int d]).length) Slot.unset).toArray = ls at hl ⊢
  have hl : lv_has ls 6 [(0, .ref dat), (1, .int a), (2, .int b), (3, .int c9), (4, .int d)] := hl
  refine lv_aload_n hx hb dX1_addPainter_0 rfl (lv_at hl 0 rfl) ?_
  refine va_get (D := (dC, dI)) (ci := 7) (v := .int 0) (C := RX1) (T := TX1) (N := 5) hx hb hts (by decide +kernel) hown hK hP 0 rfl rfl 2 (by decide) (hts (.fieldLink RX1 44 "Underpaint$Dates" "painters" "I") (by decide +kernel)) (fun _ h9 => h9) rfl dX1_addPainter_1 ?_
  refine lv_istore (lv' := [(5, .int 0), (0, .ref dat), (1, .int a), (2, .int b), (3, .int c9), (4, .int d)]) hx hb dX1_addPainter_4 hl (by decide) rfl (fun ls hl => ?_)
  refine lv_iload hx hb dX1_addPainter_6 (lv_at hl 0 rfl) ?_
  refine lv_bipush (v := 6) hx hb dX1_addPainter_8 (by decide) ?_
  refine lv_icmp_ge (tgt := 70) hx hb dX1_addPainter_10 (by decide) (fun c_1 => absurd c_1 (by decide)) (fun c_1 => ?_)
  refine lv_aload_n hx hb dX1_addPainter_13 rfl (lv_at hl 1 rfl) ?_
  refine va_get (D := (dC, dI)) (ci := 7) (v := .ref dh) (C := RX1) (T := TX1) (N := 5) hx hb hts (by decide +kernel) hown hK hP 0 rfl rfl 3 (by decide) (hts (.fieldLink RX1 23 "Underpaint$Dates" "habits" "[I") (by decide +kernel)) (fun _ h9 => h9) rfl dX1_addPainter_14 ?_
  refine lv_iload hx hb dX1_addPainter_17 (lv_at hl 0 rfl) ?_
  refine lv_iconst (v := 4) hx hb dX1_addPainter_19 (by decide) ?_
  refine lv_imul hx hb dX1_addPainter_20 ?_
  refine lv_topi (fun x_2 ex_2 => ?_)
  obtain rfl : x_2 = 0 := ex_2.trans (by decide)
  refine lv_iload_n hx hb dX1_addPainter_21 rfl (lv_at hl 2 rfl) ?_
  refine va_iast hx hb hK hP hD hS 1 0 rfl rfl (vp_in_nI (by decide : 0 < 24) (by decide)) dX1_addPainter_22 (fun H locs hP hD hS => ?_)
  generalize ef_3 : upd (fun _ => 0) (0 : Int32).toNatClampNeg a = f_3 at hP hD
  have hP : va_P (dC, dI) vwCl [(dat, .inr (7, [.ref db, .ref dm, .int 0, .ref dh, .ref ds])), (dh, .inl (kI, 24, .inl f_3))] H := hP
  have hD : va_D A [(dat, .inr (7, [.ref db, .ref dm, .int 0, .ref dh, .ref ds])), (dh, .inl (kI, 24, .inl f_3))] := hD
  have hR : va_P (dC, dI) vwCl [] H := fun k q h => by simp at h
  refine lv_aload_n hx hb dX1_addPainter_23 rfl (lv_at hl 1 rfl) ?_
  refine va_get (D := (dC, dI)) (ci := 7) (v := .ref dh) (C := RX1) (T := TX1) (N := 5) hx hb hts (by decide +kernel) hown hK hP 0 rfl rfl 3 (by decide) (hts (.fieldLink RX1 23 "Underpaint$Dates" "habits" "[I") (by decide +kernel)) (fun _ h9 => h9) rfl dX1_addPainter_24 ?_
  refine lv_iload hx hb dX1_addPainter_27 (lv_at hl 0 rfl) ?_
  refine lv_iconst (v := 4) hx hb dX1_addPainter_29 (by decide) ?_
  refine lv_imul hx hb dX1_addPainter_30 ?_
  refine lv_topi (fun x_4 ex_4 => ?_)
  obtain rfl : x_4 = 0 := ex_4.trans (by decide)
  refine lv_iconst (v := 1) hx hb dX1_addPainter_31 (by decide) ?_
  refine lv_iadd hx hb dX1_addPainter_32 ?_
  refine lv_topi (fun x_5 ex_5 => ?_)
  obtain rfl : x_5 = 1 := ex_5.trans (by decide)
  refine lv_iload_n hx hb dX1_addPainter_33 rfl (lv_at hl 3 rfl) ?_
  refine va_iast hx hb hK hP hD hS 1 0 rfl rfl (vp_in_nI (by decide : 1 < 24) (by decide)) dX1_addPainter_34 (fun H locs hP hD hS => ?_)
  generalize ef_6 : upd f_3 (1 : Int32).toNatClampNeg b = f_6 at hP hD
  have hP : va_P (dC, dI) vwCl [(dat, .inr (7, [.ref db, .ref dm, .int 0, .ref dh, .ref ds])), (dh, .inl (kI, 24, .inl f_6))] H := hP
  have hD : va_D A [(dat, .inr (7, [.ref db, .ref dm, .int 0, .ref dh, .ref ds])), (dh, .inl (kI, 24, .inl f_6))] := hD
  have hR : va_P (dC, dI) vwCl [] H := fun k q h => by simp at h
  refine lv_aload_n hx hb dX1_addPainter_35 rfl (lv_at hl 1 rfl) ?_
  refine va_get (D := (dC, dI)) (ci := 7) (v := .ref dh) (C := RX1) (T := TX1) (N := 5) hx hb hts (by decide +kernel) hown hK hP 0 rfl rfl 3 (by decide) (hts (.fieldLink RX1 23 "Underpaint$Dates" "habits" "[I") (by decide +kernel)) (fun _ h9 => h9) rfl dX1_addPainter_36 ?_
  refine lv_iload hx hb dX1_addPainter_39 (lv_at hl 0 rfl) ?_
  refine lv_iconst (v := 4) hx hb dX1_addPainter_41 (by decide) ?_
  refine lv_imul hx hb dX1_addPainter_42 ?_
  refine lv_topi (fun x_7 ex_7 => ?_)
  obtain rfl : x_7 = 0 := ex_7.trans (by decide)
  refine lv_iconst (v := 2) hx hb dX1_addPainter_43 (by decide) ?_
  refine lv_iadd hx hb dX1_addPainter_44 ?_
  refine lv_topi (fun x_8 ex_8 => ?_)
  obtain rfl : x_8 = 2 := ex_8.trans (by decide)
  refine lv_iload_n hx hb dX1_addPainter_45 rfl (lv_at hl 4 rfl) ?_
  refine va_iast hx hb hK hP hD hS 1 0 rfl rfl (vp_in_nI (by decide : 2 < 24) (by decide)) dX1_addPainter_46 (fun H locs hP hD hS => ?_)
  generalize ef_9 : upd f_6 (2 : Int32).toNatClampNeg c9 = f_9 at hP hD
  have hP : va_P (dC, dI) vwCl [(dat, .inr (7, [.ref db, .ref dm, .int 0, .ref dh, .ref ds])), (dh, .inl (kI, 24, .inl f_9))] H := hP
  have hD : va_D A [(dat, .inr (7, [.ref db, .ref dm, .int 0, .ref dh, .ref ds])), (dh, .inl (kI, 24, .inl f_9))] := hD
  have hR : va_P (dC, dI) vwCl [] H := fun k q h => by simp at h
  refine lv_aload_n hx hb dX1_addPainter_47 rfl (lv_at hl 1 rfl) ?_
  refine va_get (D := (dC, dI)) (ci := 7) (v := .ref dh) (C := RX1) (T := TX1) (N := 5) hx hb hts (by decide +kernel) hown hK hP 0 rfl rfl 3 (by decide) (hts (.fieldLink RX1 23 "Underpaint$Dates" "habits" "[I") (by decide +kernel)) (fun _ h9 => h9) rfl dX1_addPainter_48 ?_
  refine lv_iload hx hb dX1_addPainter_51 (lv_at hl 0 rfl) ?_
  refine lv_iconst (v := 4) hx hb dX1_addPainter_53 (by decide) ?_
  refine lv_imul hx hb dX1_addPainter_54 ?_
  refine lv_topi (fun x_10 ex_10 => ?_)
  obtain rfl : x_10 = 0 := ex_10.trans (by decide)
  refine lv_iconst (v := 3) hx hb dX1_addPainter_55 (by decide) ?_
  refine lv_iadd hx hb dX1_addPainter_56 ?_
  refine lv_topi (fun x_11 ex_11 => ?_)
  obtain rfl : x_11 = 3 := ex_11.trans (by decide)
  refine lv_iload hx hb dX1_addPainter_57 (lv_at hl 5 rfl) ?_
  refine va_iast hx hb hK hP hD hS 1 0 rfl rfl (vp_in_nI (by decide : 3 < 24) (by decide)) dX1_addPainter_59 (fun H locs hP hD hS => ?_)
  generalize ef_12 : upd f_9 (3 : Int32).toNatClampNeg d = f_12 at hP hD
  have hP : va_P (dC, dI) vwCl [(dat, .inr (7, [.ref db, .ref dm, .int 0, .ref dh, .ref ds])), (dh, .inl (kI, 24, .inl f_12))] H := hP
  have hD : va_D A [(dat, .inr (7, [.ref db, .ref dm, .int 0, .ref dh, .ref ds])), (dh, .inl (kI, 24, .inl f_12))] := hD
  have hR : va_P (dC, dI) vwCl [] H := fun k q h => by simp at h
  refine lv_aload_n hx hb dX1_addPainter_60 rfl (lv_at hl 1 rfl) ?_
  refine lv_dup hx hb dX1_addPainter_61 rfl ?_
  refine va_get (D := (dC, dI)) (ci := 7) (v := .int 0) (C := RX1) (T := TX1) (N := 5) hx hb hts (by decide +kernel) hown hK hP 0 rfl rfl 2 (by decide) (hts (.fieldLink RX1 44 "Underpaint$Dates" "painters" "I") (by decide +kernel)) (fun _ h9 => h9) rfl dX1_addPainter_62 ?_
  refine lv_iconst (v := 1) hx hb dX1_addPainter_65 (by decide) ?_
  refine lv_iadd hx hb dX1_addPainter_66 ?_
  refine lv_topi (fun x_13 ex_13 => ?_)
  obtain rfl : x_13 = 1 := ex_13.trans (by decide)
  refine va_put (D := (dC, dI)) (ci := 7) (v := .int 1) (ty := .int) (C := RX1) (T := TX1) (N := 5) hx hb hts (by decide +kernel) tyX1 tyX1_ok nmX1 hown hK hP hD hS 0 rfl rfl 2 (by decide) (hts (.fieldLink RX1 44 "Underpaint$Dates" "painters" "I") (by decide +kernel)) (fun _ h9 => h9) rfl (by decide +kernel) rfl rfl (Nat.le_of_ble_eq_true rfl) dX1_addPainter_67 (fun H locs hP hD hS => ?_)
  have hP : va_P (dC, dI) vwCl [(dat, .inr (7, [.ref db, .ref dm, .int 1, .ref dh, .ref ds])), (dh, .inl (kI, 24, .inl f_12))] H := hP
  have hD : va_D A [(dat, .inr (7, [.ref db, .ref dm, .int 1, .ref dh, .ref ds])), (dh, .inl (kI, 24, .inl f_12))] := hD
  have hR : va_P (dC, dI) vwCl [] H := fun k q h => by simp at h
  refine lv_iload hx hb dX1_addPainter_70 (lv_at hl 0 rfl) ?_
  refine W.widen (k := 0) (n := 0) (Nat.le_of_ble_eq_true rfl) (Nat.le_of_ble_eq_true rfl) ?_
  exact W.iret (v := 0) hx hb hr (fun t ht hW => ⟨⟨0, (), rfl, (z_c_X14_lends_164), trivial⟩, hS.F ht⟩) hS.2.2 dX1_addPainter_72
theorem z_c_X11_painter_357 (a : Int32) (b : Int32) (c9 : Int32) (d : Int32) (a_0 : ¬ ((0 ≤ a ∧ a ≤ 99) ∧ (0 ≤ b ∧ b ≤ 99) ∧ (0 ≤ c9 ∧ c9 ≤ 99) ∧ (0 ≤ d ∧ d ≤ 99))) : ¬ ((0 ≤ a ∧ a ≤ 99) ∧ (0 ≤ b ∧ b ≤ 99) ∧ (0 ≤ c9 ∧ c9 ≤ 99) ∧ (0 ≤ d ∧ d ≤ 99)) := by grind
theorem z_c_X11_painter_358 (a : Int32) (b : Int32) (c9 : Int32) (d : Int32) (a_0 : (0 ≤ a ∧ a ≤ 99) ∧ (0 ≤ b ∧ b ≤ 99) ∧ (0 ≤ c9 ∧ c9 ≤ 99) ∧ (0 ≤ d ∧ d ≤ 99)) (a_1 : ¬ (1 : Int32) = 0) : (0 : Int32) = 0 ∧ (0 ≤ a ∧ a ≤ 99) ∧ (0 ≤ b ∧ b ≤ 99) ∧ (0 ≤ c9 ∧ c9 ≤ 99) ∧ (0 ≤ d ∧ d ≤ 99) := by grind
def wo_c_X11_painter_w : List Cond := [Cond.fieldLink RX11 32 "Underpaint" "dates" "LUnderpaint$Dates;", Cond.fieldLink RX11 279 "Underpaint$Dates" "painters" "I"]
def wo_c_X11_painter : List Cond := .code yX11_painter cX11_painter 5 (some .int) :: (wo_c_X11_painter_w ++ (u_ws RX11 TX11 14 ++ (u_ws RX1 TX1 5 ++ (va_wsS RX11 275 yX11_demandHabits wo_c_X11_demandHabits ++ (va_wsS RX11 99 yX11_demandRoom wsX11_demandRoom ++ (wsV RX11 282 RX1 yX1_addPainter wo_c_X1_addPainter ++ List.nil))))))
theorem gw_wo_c_X11_painter : wo_c_X11_painter.all goodWord = true := gw_c (by decide +kernel) (gw_a (by decide +kernel) (gw_a (by decide +kernel) (gw_a (by decide +kernel) (gw_a (gw_a (by decide +kernel) gw_wo_c_X11_demandHabits) (gw_a (gw_a (by decide +kernel) gw_wsX11_demandRoom) (gw_a (gw_a (by decide +kernel) gw_wo_c_X1_addPainter) rfl))))))
theorem go_c_X11_painter_0 : GoodIn wo_c_X11_painter (va_wsS RX11 275 yX11_demandHabits wo_c_X11_demandHabits) := goodIn_sub (fun _ h => List.mem_cons_of_mem _ (List.mem_append_right _ (List.mem_append_right _ (List.mem_append_right _ (List.mem_append_left _ h))))) (gw_a (by decide +kernel) gw_wo_c_X11_demandHabits)
theorem go_c_X11_painter_1 : GoodIn wo_c_X11_painter (va_wsS RX11 99 yX11_demandRoom wsX11_demandRoom) := goodIn_sub (fun _ h => List.mem_cons_of_mem _ (List.mem_append_right _ (List.mem_append_right _ (List.mem_append_right _ (List.mem_append_right _ (List.mem_append_left _ h)))))) (gw_a (by decide +kernel) gw_wsX11_demandRoom)
theorem go_c_X11_painter_2 : GoodIn wo_c_X11_painter (wsV RX11 282 RX1 yX1_addPainter wo_c_X1_addPainter) := goodIn_sub (fun _ h => List.mem_cons_of_mem _ (List.mem_append_right _ (List.mem_append_right _ (List.mem_append_right _ (List.mem_append_right _ (List.mem_append_right _ (List.mem_append_left _ h))))))) (gw_a (by decide +kernel) gw_wo_c_X1_addPainter)
set_option maxHeartbeats 4000000 in
set_option maxRecDepth 100000 in
theorem c_X11_painter (l : Launch) (hst : l.stackTraces = false) (dC : Nat → ClassId) (dI : Nat → Nat → Nat) (b0 : Nat) (en : EnT) (sz : Nat) (h pal she fil nte dat vot loa nos pic spa : Nat) (db dm dh ds : Nat) (kI : ClassId) (a b c9 d : Int32) : vx_Met l yX11_painter wo_c_X11_painter ({ frames := 8, cells := 3, slots := 18, locals := 133 } : Room) (cP b0 en (dC, dI) [(kI, .int)] [(dat, .inr (7, [.ref db, .ref dm, .int 0, .ref dh, .ref ds])), (dh, .inl (kI, 24, .inl (fun _ => 0)))] [(h, .inr (17, [.ref pal, .ref she, .ref fil, .ref nte, .ref dat, .ref vot, .ref loa, .ref nos, .ref pic, .ref spa, .int 5, .int 50, .int 1600, .int 0]))] sz (fun _ => True) [.ref h, .int a, .int b, .int c9, .int d]) (va_Qi (fun (r : Int32) (_ : Unit) => r = 0 ∧ (0 ≤ a ∧ a ≤ 99) ∧ (0 ≤ b ∧ b ≤ 99) ∧ (0 ≤ c9 ∧ c9 ≤ 99) ∧ (0 ≤ d ∧ d ≤ 99)) (fun _ _ => True) (va_A [(dat, .inr (7, [.ref db, .ref dm, .int 0, .ref dh, .ref ds])), (dh, .inl (kI, 24, .inl (fun _ => 0)))] sz)) (vx_X (fun _ : Unit => True) (fun E _ _ => (E = "java/lang/IllegalArgumentException" ∧ ¬ ((0 ≤ a ∧ a ≤ 99) ∧ (0 ≤ b ∧ b ≤ 99) ∧ (0 ≤ c9 ∧ c9 ≤ 99) ∧ (0 ≤ d ∧ d ≤ 99)))) (va_A [(dat, .inr (7, [.ref db, .ref dm, .int 0, .ref dh, .ref ds])), (dh, .inl (kI, 24, .inl (fun _ => 0)))] sz)) 3 18 (va_A [(dat, .inr (7, [.ref db, .ref dm, .int 0, .ref dh, .ref ds])), (dh, .inl (kI, 24, .inl (fun _ => 0)))] sz) := by
  refine vx_ofW (cc := cX11_painter) (maxL := 5) (ret := (some .int)) (by decide) rfl ?_
  intro p e s m args below meth c s₁ B hml hext hv
  obtain ⟨rfl, hsz, hb0, hE, hPP, hK, hDD, hF0⟩ := hv
  have hx := B.exec
  have hb := B.bytes
  have hr := B.returns
  have hts := atoms_spec (ws := wo_c_X11_painter) B.pre
  have hown : s.vm.findClass RX11 = some m.cls := findClass_of_methodNamed B.named
  have hlocks := B.notSynchronized
  subst hsz
  have hN0 := en_N hPP hDD rfl
  have hP : va_P (dC, dI) vwCl [(dat, .inr (7, [.ref db, .ref dm, .int 0, .ref dh, .ref ds])), (dh, .inl (kI, 24, .inl (fun _ => 0)))] s.heap := hPP.sub [0, 1] rfl
  have hR0 : va_P (dC, dI) vwCl [(h, .inr (17, [.ref pal, .ref she, .ref fil, .ref nte, .ref dat, .ref vot, .ref loa, .ref nos, .ref pic, .ref spa, .int 5, .int 50, .int 1600, .int 0]))] s.heap := hPP.sub [2] rfl
  have hD0 : va_D (fun q => b0 ≤ q) [(dat, .inr (7, [.ref db, .ref dm, .int 0, .ref dh, .ref ds])), (dh, .inl (kI, 24, .inl (fun _ => 0)))] := hDD.sub [0, 1] (by decide) rfl
  have hDr : va_D (fun q => b0 ≤ q) [(h, .inr (17, [.ref pal, .ref she, .ref fil, .ref nte, .ref dat, .ref vot, .ref loa, .ref nos, .ref pic, .ref spa, .int 5, .int 50, .int 1600, .int 0]))] := hDD.sub [2] (by decide) rfl
  have hAb := en_A (sz := s.heap.size) hD0 hb0
  have hD := hD0.self (sz := s.heap.size)
  generalize hAe : va_A [(dat, .inr (7, [.ref db, .ref dm, .int 0, .ref dh, .ref ds])), (dh, .inl (kI, 24, .inl (fun _ => 0)))] s.heap.size = A at hD hAb hN0 ⊢
  have hA : ∀ q : Nat, s.heap.size ≤ q → A q := fun q h => by rw [← hAe]; exact Or.inr h
  have hS : va_S A s.heap s.heap [] := va_S.rf
  have hR := hR0
  have hl := lv_entry [.ref h, .int a, .int b, .int c9, .int d] (n := 5) (Nat.le_of_ble_eq_true rfl)
  rw [lg_entry_eq]
  generalize (lg_sl [.ref h, .int a, .int b, .int c9, .int d] ++ List.replicate (5 - (lg_sl [.ref h, .int a, .int b, .int c9, .int d]).length) Slot.unset).toArray = ls at hl ⊢
  have hl : lv_has ls 5 [(0, .ref h), (1, .int a), (2, .int b), (3, .int c9), (4, .int d)] := hl
  refine lv_iload_n hx hb dX11_painter_0 rfl (lv_at hl 1 rfl) ?_
  refine lv_iload_n hx hb dX11_painter_1 rfl (lv_at hl 2 rfl) ?_
  refine lv_iload_n hx hb dX11_painter_2 rfl (lv_at hl 3 rfl) ?_
  refine lv_iload hx hb dX11_painter_3 (lv_at hl 4 rfl) ?_
  have hPc := (hP.app hR).sub (ws' := [] ++ []) [] rfl
  have hDc := (en_DD hD hDr hN0 hAb).sub (ws' := [] ++ []) [] (by decide) rfl
  have hKc := hK.sub (tys' := []) [] rfl
  have hFc := va_free (wc := []) hD hS hA [] rfl
  refine vx_callv (vx_runS (As := [.int a, .int b, .int c9, .int d]) (rest := []) ⟨hx, hb, hml, hown, hts⟩ (c_X11_demandHabits l hst dC dI b0 en s.heap.size a b c9 d) (va_cwS 4 hts go_c_X11_painter_0 rfl rfl rfl (by decide +kernel) ⟨Nat.le_of_ble_eq_true rfl, Nat.le_of_ble_eq_true rfl⟩) ⟨cP.blind, cP.use (en_z hb0 hS) (hE.on hAb hS) hPc hKc hDc trivial⟩ rfl rfl hl.1 rfl (lv_room (Nat.le_of_ble_eq_true rfl)) dX11_painter_5 ⟨Nat.le_of_ble_eq_true rfl, Nat.le_of_ble_eq_true rfl⟩) hS (fun q _ h => hFc q h) hFc (fun q _ h => hFc q h) (fun E ce q9 u t H1 locs ht hvm hpx hBX hz1 hk1 hS hce hcv hcl => ?_) (fun u t H1 locs ht hvm hw hB hz1 hk1 hS => ?_)
  · skip
    try dsimp only at hBX
    obtain ⟨rfl, hc⟩ := hBX
    refine vx_widen (k := 3) (n := 18) (Nat.le_of_ble_eq_true rfl) (Nat.le_of_ble_eq_true rfl) ?_
    exact vx_out (fun x hx => (hext x hx).elim) hlocks hce hcv hcl (fun t ht hW => ⟨(), trivial, ⟨rfl, (z_c_X11_painter_357 a b c9 d hc)⟩, hS.F ht⟩) hS.2.2 (Nat.le_refl _) (Nat.le_refl _)
  have hP1 : va_P (dC, dI) vwCl [] H1 := fun k q h => by simp at h
  have hD1 : va_D (va_A [] s.heap.size) [] := ⟨fun i j p q h => by simp at h, fun k q h => by simp at h⟩
  try dsimp only at hw
  obtain ⟨hP, hD⟩ := va_join (wr := [(dat, .inr (7, [.ref db, .ref dm, .int 0, .ref dh, .ref ds])), (dh, .inl (kI, 24, .inl (fun _ => 0)))]) (w1 := []) hP hD [] [0, 1] rfl rfl (by decide) (by decide) hk1 hFc hP1 hD1
  generalize H1 = H at hP hS ⊢
  have hP : va_P (dC, dI) vwCl [(dat, .inr (7, [.ref db, .ref dm, .int 0, .ref dh, .ref ds])), (dh, .inl (kI, 24, .inl (fun _ => 0)))] H := hP
  have hD : va_D A [(dat, .inr (7, [.ref db, .ref dm, .int 0, .ref dh, .ref ds])), (dh, .inl (kI, 24, .inl (fun _ => 0)))] := hD
  have hR := en_R hR0 hN0 hS
  refine W.widen (k := 2) (n := 12) (Nat.le_of_ble_eq_true rfl) (Nat.le_of_ble_eq_true rfl) ?_
  have h_2 := hw
  refine lv_aload_n hx hb dX11_painter_8 rfl (lv_at hl 0 rfl) ?_
  refine va_get (D := (dC, dI)) (ci := 17) (v := .ref dat) (C := RX11) (T := TX11) (N := 14) hx hb hts (by decide +kernel) hown hK hR 0 rfl rfl 4 (by decide) (hts (.fieldLink RX11 32 "Underpaint" "dates" "LUnderpaint$Dates;") (by decide +kernel)) (fun _ h9 => h9) rfl dX11_painter_9 ?_
  refine va_get (D := (dC, dI)) (ci := 7) (v := .int 0) (C := RX1) (T := TX1) (N := 5) hx hb hts (by decide +kernel) hown hK hP 0 rfl rfl 2 (by decide) (hts (.fieldLink RX11 279 "Underpaint$Dates" "painters" "I") (by decide +kernel)) (fun _ h9 => h9) rfl dX11_painter_12 ?_
  refine lv_bipush (v := 6) hx hb dX11_painter_15 (by decide) ?_
  refine lv_icmp_ge (tgt := 24) hx hb dX11_painter_17 (by decide) (fun c_3 => absurd c_3 (by decide)) (fun c_3 => ?_)
  refine lv_iconst (v := 1) hx hb dX11_painter_20 (by decide) ?_
  refine lv_goto (tgt := 25) hx hb dX11_painter_21 (by decide) ?_
  have hPc := (hP.app hR).sub (ws' := [] ++ []) [] rfl
  have hDc := (en_DD hD hDr hN0 hAb).sub (ws' := [] ++ []) [] (by decide) rfl
  have hKc := hK.sub (tys' := []) [] rfl
  have hFc := va_free (wc := []) hD hS hA [] rfl
  refine vx_callv (vx_runS (As := [.int 1]) (rest := []) ⟨hx, hb, hml, hown, hts⟩ (c_X11_demandRoom l hst dC dI b0 en H.size 1) (va_cwS 1 hts go_c_X11_painter_1 rfl rfl rfl (by decide +kernel) ⟨Nat.le_of_ble_eq_true rfl, Nat.le_of_ble_eq_true rfl⟩) ⟨cP.blind, cP.use (en_z hb0 hS) (hE.on hAb hS) hPc hKc hDc trivial⟩ rfl rfl hl.1 rfl (lv_room (Nat.le_of_ble_eq_true rfl)) dX11_painter_25 ⟨Nat.le_of_ble_eq_true rfl, Nat.le_of_ble_eq_true rfl⟩) hS (fun q _ h => hFc q h) hFc (fun q _ h => hFc q h) (fun E ce q9 u t H1 locs ht hvm hpx hBX hz1 hk1 hS hce hcv hcl => ?_) (fun u t H1 locs ht hvm hw hB hz1 hk1 hS => ?_)
  · skip
    try dsimp only at hBX
    obtain ⟨rfl, hc⟩ := hBX
    exact absurd hc (by decide)
  have hP1 : va_P (dC, dI) vwCl [] H1 := fun k q h => by simp at h
  have hD1 : va_D (va_A [] H.size) [] := ⟨fun i j p q h => by simp at h, fun k q h => by simp at h⟩
  try dsimp only at hw
  obtain ⟨hP, hD⟩ := va_join (wr := [(dat, .inr (7, [.ref db, .ref dm, .int 0, .ref dh, .ref ds])), (dh, .inl (kI, 24, .inl (fun _ => 0)))]) (w1 := []) hP hD [] [0, 1] rfl rfl (by decide) (by decide) hk1 hFc hP1 hD1
  generalize H1 = H at hP hS ⊢
  have hP : va_P (dC, dI) vwCl [(dat, .inr (7, [.ref db, .ref dm, .int 0, .ref dh, .ref ds])), (dh, .inl (kI, 24, .inl (fun _ => 0)))] H := hP
  have hD : va_D A [(dat, .inr (7, [.ref db, .ref dm, .int 0, .ref dh, .ref ds])), (dh, .inl (kI, 24, .inl (fun _ => 0)))] := hD
  have hR := en_R hR0 hN0 hS
  refine W.widen (k := 3) (n := 18) (Nat.le_of_ble_eq_true rfl) (Nat.le_of_ble_eq_true rfl) ?_
  have h_5 := hw
  refine lv_aload_n hx hb dX11_painter_28 rfl (lv_at hl 0 rfl) ?_
  refine va_get (D := (dC, dI)) (ci := 17) (v := .ref dat) (C := RX11) (T := TX11) (N := 14) hx hb hts (by decide +kernel) hown hK hR 0 rfl rfl 4 (by decide) (hts (.fieldLink RX11 32 "Underpaint" "dates" "LUnderpaint$Dates;") (by decide +kernel)) (fun _ h9 => h9) rfl dX11_painter_29 ?_
  refine lv_iload_n hx hb dX11_painter_32 rfl (lv_at hl 1 rfl) ?_
  refine lv_iload_n hx hb dX11_painter_33 rfl (lv_at hl 2 rfl) ?_
  refine lv_iload_n hx hb dX11_painter_34 rfl (lv_at hl 3 rfl) ?_
  refine lv_iload hx hb dX11_painter_35 (lv_at hl 4 rfl) ?_
  have hPc := (hP.app hR).sub (ws' := [(dat, .inr (7, [.ref db, .ref dm, .int 0, .ref dh, .ref ds])), (dh, .inl (kI, 24, .inl (fun _ => 0)))] ++ []) [0, 1] rfl
  have hDc := (en_DD hD hDr hN0 hAb).sub (ws' := [(dat, .inr (7, [.ref db, .ref dm, .int 0, .ref dh, .ref ds])), (dh, .inl (kI, 24, .inl (fun _ => 0)))] ++ []) [0, 1] (by decide) rfl
  have hKc := hK.sub (tys' := [(kI, .int)]) [0] rfl
  have hFc := va_free (wc := [(dat, .inr (7, [.ref db, .ref dm, .int 0, .ref dh, .ref ds])), (dh, .inl (kI, 24, .inl (fun _ => 0)))]) hD hS hA [0, 1] rfl
  refine va_calli (va_runV (As := [.int a, .int b, .int c9, .int d]) (rest := []) ⟨hx, hb, hml, hown, hts⟩ (c_X1_addPainter l dC dI b0 en H.size dat db dm dh ds kI a b c9 d) (cwV 4 hts go_c_X11_painter_2 rfl rfl rfl (by decide +kernel) ⟨Nat.le_of_ble_eq_true rfl, Nat.le_of_ble_eq_true rfl⟩) ⟨cP.blind, va_recv hK hP (ci := 7) (q0 := 0) rfl rfl, cP.use (en_z hb0 hS) (hE.on hAb hS) hPc hKc hDc trivial⟩ rfl rfl hl.1 rfl (lv_room (Nat.le_of_ble_eq_true rfl)) dX11_painter_37 ⟨Nat.le_of_ble_eq_true rfl, Nat.le_of_ble_eq_true rfl⟩) hS (fun q _ h => hFc q h) hFc (fun r_6 u t H1 locs ht hvm hw hB hz1 hk1 hS => ?_)
  have hP1 : va_P (dC, dI) vwCl [] H1 := fun k q h => by simp at h
  have hD1 : va_D (va_A [(dat, .inr (7, [.ref db, .ref dm, .int 0, .ref dh, .ref ds])), (dh, .inl (kI, 24, .inl (fun _ => 0)))] H.size) [] := ⟨fun i j p q h => by simp at h, fun k q h => by simp at h⟩
  try dsimp only at hw
  obtain ⟨hP, hD⟩ := va_join (wr := []) (w1 := []) hP hD [0, 1] [] rfl rfl (by decide) (by decide) hk1 hFc hP1 hD1
  generalize H1 = H at hP hS ⊢
  have hP : va_P (dC, dI) vwCl [] H := hP
  have hD : va_D A [] := hD
  have hR := en_R hR0 hN0 hS
  refine W.widen (k := 3) (n := 18) (Nat.le_of_ble_eq_true rfl) (Nat.le_of_ble_eq_true rfl) ?_
  subst r_6
  refine W.widen (k := 3) (n := 18) (Nat.le_of_ble_eq_true rfl) (Nat.le_of_ble_eq_true rfl) ?_
  refine vx_ret ?_
  exact W.iret (v := 0) hx hb hr (fun t ht hW => ⟨⟨0, (), rfl, (z_c_X11_painter_358 a b c9 d h_2 h_5), trivial⟩, hS.F ht⟩) hS.2.2 dX11_painter_40
theorem z_c_X11_likely_359 (a : Int32) (b : Int32) (c9 : Int32) (d : Int32) (a_0 : (0 ≤ a ∧ a ≤ 99) ∧ (0 ≤ b ∧ b ≤ 99) ∧ (0 ≤ c9 ∧ c9 ≤ 99) ∧ (0 ≤ d ∧ d ≤ 99)) (a_1 : (0 : Int32) = 0) : (0 ≤ a ∧ a ≤ 99) ∧ (0 ≤ b ∧ b ≤ 99) ∧ (0 ≤ c9 ∧ c9 ≤ 99) ∧ (0 ≤ d ∧ d ≤ 99) := by grind
def wo_c_X11_likely_w : List Cond := [Cond.fieldLink RX11 32 "Underpaint" "dates" "LUnderpaint$Dates;", Cond.fieldLink RX11 279 "Underpaint$Dates" "painters" "I"]
def wo_c_X11_likely : List Cond := .code yX11_likely cX11_likely 5 (some .int) :: (wo_c_X11_likely_w ++ (u_ws RX11 TX11 14 ++ (u_ws RX1 TX1 5 ++ (va_wsS RX11 275 yX11_demandHabits wo_c_X11_demandHabits ++ (va_wsS RX11 187 yX11_demandElement wsX11_demandElement ++ List.nil)))))
theorem gw_wo_c_X11_likely : wo_c_X11_likely.all goodWord = true := gw_c (by decide +kernel) (gw_a (by decide +kernel) (gw_a (by decide +kernel) (gw_a (by decide +kernel) (gw_a (gw_a (by decide +kernel) gw_wo_c_X11_demandHabits) (gw_a (gw_a (by decide +kernel) gw_wsX11_demandElement) rfl)))))
theorem go_c_X11_likely_0 : GoodIn wo_c_X11_likely (va_wsS RX11 275 yX11_demandHabits wo_c_X11_demandHabits) := goodIn_sub (fun _ h => List.mem_cons_of_mem _ (List.mem_append_right _ (List.mem_append_right _ (List.mem_append_right _ (List.mem_append_left _ h))))) (gw_a (by decide +kernel) gw_wo_c_X11_demandHabits)
theorem go_c_X11_likely_1 : GoodIn wo_c_X11_likely (va_wsS RX11 187 yX11_demandElement wsX11_demandElement) := goodIn_sub (fun _ h => List.mem_cons_of_mem _ (List.mem_append_right _ (List.mem_append_right _ (List.mem_append_right _ (List.mem_append_right _ (List.mem_append_left _ h)))))) (gw_a (by decide +kernel) gw_wsX11_demandElement)
set_option maxHeartbeats 4000000 in
set_option maxRecDepth 100000 in
theorem c_X11_likely (l : Launch) (hst : l.stackTraces = false) (dC : Nat → ClassId) (dI : Nat → Nat → Nat) (b0 : Nat) (en : EnT) (sz : Nat) (h pal she fil nte dat vot loa nos pic spa : Nat) (db dm dh ds : Nat) (a b c9 d : Int32) : vx_Met l yX11_likely wo_c_X11_likely ({ frames := 8, cells := 3, slots := 18, locals := 133 } : Room) (cP b0 en (dC, dI) [] [] [(h, .inr (17, [.ref pal, .ref she, .ref fil, .ref nte, .ref dat, .ref vot, .ref loa, .ref nos, .ref pic, .ref spa, .int 5, .int 50, .int 1600, .int 0])), (dat, .inr (7, [.ref db, .ref dm, .int 0, .ref dh, .ref ds]))] sz (fun _ => True) [.ref h, .int a, .int b, .int c9, .int d]) (va_Qi (fun (r : Int32) (_ : Unit) => False) (fun _ _ => True) (va_A [] sz)) (vx_X (fun _ : Unit => True) (fun E _ _ => (E = "java/lang/IllegalArgumentException" ∧ ¬ ((0 ≤ a ∧ a ≤ 99) ∧ (0 ≤ b ∧ b ≤ 99) ∧ (0 ≤ c9 ∧ c9 ≤ 99) ∧ (0 ≤ d ∧ d ≤ 99))) ∨ (E = "java/util/NoSuchElementException" ∧ (0 ≤ a ∧ a ≤ 99) ∧ (0 ≤ b ∧ b ≤ 99) ∧ (0 ≤ c9 ∧ c9 ≤ 99) ∧ (0 ≤ d ∧ d ≤ 99))) (va_A [] sz)) 3 18 (va_A [] sz) := by
  refine vx_ofW (cc := cX11_likely) (maxL := 5) (ret := (some .int)) (by decide) rfl ?_
  intro p e s m args below meth c s₁ B hml hext hv
  obtain ⟨rfl, hsz, hb0, hE, hPP, hK, hDD, hF0⟩ := hv
  have hx := B.exec
  have hb := B.bytes
  have hr := B.returns
  have hts := atoms_spec (ws := wo_c_X11_likely) B.pre
  have hown : s.vm.findClass RX11 = some m.cls := findClass_of_methodNamed B.named
  have hlocks := B.notSynchronized
  subst hsz
  have hN0 := en_N hPP hDD rfl
  have hP : va_P (dC, dI) vwCl [] s.heap := hPP.sub [] rfl
  have hR0 : va_P (dC, dI) vwCl [(h, .inr (17, [.ref pal, .ref she, .ref fil, .ref nte, .ref dat, .ref vot, .ref loa, .ref nos, .ref pic, .ref spa, .int 5, .int 50, .int 1600, .int 0])), (dat, .inr (7, [.ref db, .ref dm, .int 0, .ref dh, .ref ds]))] s.heap := hPP.sub [0, 1] rfl
  have hD0 : va_D (fun q => b0 ≤ q) [] := hDD.sub [] (by decide) rfl
  have hDr : va_D (fun q => b0 ≤ q) [(h, .inr (17, [.ref pal, .ref she, .ref fil, .ref nte, .ref dat, .ref vot, .ref loa, .ref nos, .ref pic, .ref spa, .int 5, .int 50, .int 1600, .int 0])), (dat, .inr (7, [.ref db, .ref dm, .int 0, .ref dh, .ref ds]))] := hDD.sub [0, 1] (by decide) rfl
  have hAb := en_A (sz := s.heap.size) hD0 hb0
  have hD := hD0.self (sz := s.heap.size)
  generalize hAe : va_A [] s.heap.size = A at hD hAb hN0 ⊢
  have hA : ∀ q : Nat, s.heap.size ≤ q → A q := fun q h => by rw [← hAe]; exact Or.inr h
  have hS : va_S A s.heap s.heap [] := va_S.rf
  have hR := hR0
  have hl := lv_entry [.ref h, .int a, .int b, .int c9, .int d] (n := 5) (Nat.le_of_ble_eq_true rfl)
  rw [lg_entry_eq]
  generalize (lg_sl [.ref h, .int a, .int b, .int c9, .int d] ++ List.replicate (5 - (lg_sl [.ref h, .int a, .int b, .int c9, .int d]).length) Slot.unset).toArray = ls at hl ⊢
  have hl : lv_has ls 5 [(0, .ref h), (1, .int a), (2, .int b), (3, .int c9), (4, .int d)] := hl
  refine lv_iload_n hx hb dX11_likely_0 rfl (lv_at hl 1 rfl) ?_
  refine lv_iload_n hx hb dX11_likely_1 rfl (lv_at hl 2 rfl) ?_
  refine lv_iload_n hx hb dX11_likely_2 rfl (lv_at hl 3 rfl) ?_
  refine lv_iload hx hb dX11_likely_3 (lv_at hl 4 rfl) ?_
  have hPc := (hP.app hR).sub (ws' := [] ++ []) [] rfl
  have hDc := (en_DD hD hDr hN0 hAb).sub (ws' := [] ++ []) [] (by decide) rfl
  have hKc := hK.sub (tys' := []) [] rfl
  have hFc := va_free (wc := []) hD hS hA [] rfl
  refine vx_callv (vx_runS (As := [.int a, .int b, .int c9, .int d]) (rest := []) ⟨hx, hb, hml, hown, hts⟩ (c_X11_demandHabits l hst dC dI b0 en s.heap.size a b c9 d) (va_cwS 4 hts go_c_X11_likely_0 rfl rfl rfl (by decide +kernel) ⟨Nat.le_of_ble_eq_true rfl, Nat.le_of_ble_eq_true rfl⟩) ⟨cP.blind, cP.use (en_z hb0 hS) (hE.on hAb hS) hPc hKc hDc trivial⟩ rfl rfl hl.1 rfl (lv_room (Nat.le_of_ble_eq_true rfl)) dX11_likely_5 ⟨Nat.le_of_ble_eq_true rfl, Nat.le_of_ble_eq_true rfl⟩) hS (fun q _ h => hFc q h) hFc (fun q _ h => hFc q h) (fun E ce q9 u t H1 locs ht hvm hpx hBX hz1 hk1 hS hce hcv hcl => ?_) (fun u t H1 locs ht hvm hw hB hz1 hk1 hS => ?_)
  · skip
    try dsimp only at hBX
    obtain ⟨rfl, hc⟩ := hBX
    refine vx_widen (k := 3) (n := 18) (Nat.le_of_ble_eq_true rfl) (Nat.le_of_ble_eq_true rfl) ?_
    exact vx_out (fun x hx => (hext x hx).elim) hlocks hce hcv hcl (fun t ht hW => ⟨(), trivial, Or.inl ⟨rfl, (z_c_X11_painter_357 a b c9 d hc)⟩, hS.F ht⟩) hS.2.2 (Nat.le_refl _) (Nat.le_refl _)
  have hP1 : va_P (dC, dI) vwCl [] H1 := fun k q h => by simp at h
  have hD1 : va_D (va_A [] s.heap.size) [] := ⟨fun i j p q h => by simp at h, fun k q h => by simp at h⟩
  try dsimp only at hw
  obtain ⟨hP, hD⟩ := va_join (wr := []) (w1 := []) hP hD [] [] rfl rfl (by decide) (by decide) hk1 hFc hP1 hD1
  generalize H1 = H at hP hS ⊢
  have hP : va_P (dC, dI) vwCl [] H := hP
  have hD : va_D A [] := hD
  have hR := en_R hR0 hN0 hS
  refine W.widen (k := 2) (n := 12) (Nat.le_of_ble_eq_true rfl) (Nat.le_of_ble_eq_true rfl) ?_
  have h_2 := hw
  refine lv_aload_n hx hb dX11_likely_8 rfl (lv_at hl 0 rfl) ?_
  refine va_get (D := (dC, dI)) (ci := 17) (v := .ref dat) (C := RX11) (T := TX11) (N := 14) hx hb hts (by decide +kernel) hown hK hR 0 rfl rfl 4 (by decide) (hts (.fieldLink RX11 32 "Underpaint" "dates" "LUnderpaint$Dates;") (by decide +kernel)) (fun _ h9 => h9) rfl dX11_likely_9 ?_
  refine va_get (D := (dC, dI)) (ci := 7) (v := .int 0) (C := RX1) (T := TX1) (N := 5) hx hb hts (by decide +kernel) hown hK hR 1 rfl rfl 2 (by decide) (hts (.fieldLink RX11 279 "Underpaint$Dates" "painters" "I") (by decide +kernel)) (fun _ h9 => h9) rfl dX11_likely_12 ?_
  refine lv_if_le (tgt := 22) hx hb dX11_likely_15 (by decide) (fun c_3 => ?_) (fun c_3 => absurd c_3 (by decide))
  refine lv_iconst (v := 0) hx hb dX11_likely_22 (by decide) ?_
  have hPc := (hP.app hR).sub (ws' := [] ++ []) [] rfl
  have hDc := (en_DD hD hDr hN0 hAb).sub (ws' := [] ++ []) [] (by decide) rfl
  have hKc := hK.sub (tys' := []) [] rfl
  have hFc := va_free (wc := []) hD hS hA [] rfl
  refine vx_callv (vx_runS (As := [.int 0]) (rest := []) ⟨hx, hb, hml, hown, hts⟩ (c_X11_demandElement l hst dC dI b0 en H.size 0) (va_cwS 1 hts go_c_X11_likely_1 rfl rfl rfl (by decide +kernel) ⟨Nat.le_of_ble_eq_true rfl, Nat.le_of_ble_eq_true rfl⟩) ⟨cP.blind, cP.use (en_z hb0 hS) (hE.on hAb hS) hPc hKc hDc trivial⟩ rfl rfl hl.1 rfl (lv_room (Nat.le_of_ble_eq_true rfl)) dX11_likely_23 ⟨Nat.le_of_ble_eq_true rfl, Nat.le_of_ble_eq_true rfl⟩) hS (fun q _ h => hFc q h) hFc (fun q _ h => hFc q h) (fun E ce q9 u t H1 locs ht hvm hpx hBX hz1 hk1 hS hce hcv hcl => ?_) (fun u t H1 locs ht hvm hw hB hz1 hk1 hS => ?_)
  · skip
    try dsimp only at hBX
    obtain ⟨rfl, hc⟩ := hBX
    refine vx_widen (k := 3) (n := 18) (Nat.le_of_ble_eq_true rfl) (Nat.le_of_ble_eq_true rfl) ?_
    exact vx_out (fun x hx => (hext x hx).elim) hlocks hce hcv hcl (fun t ht hW => ⟨(), trivial, Or.inr (⟨rfl, (z_c_X11_likely_359 a b c9 d h_2 hc)⟩), hS.F ht⟩) hS.2.2 (Nat.le_refl _) (Nat.le_refl _)
  have hP1 : va_P (dC, dI) vwCl [] H1 := fun k q h => by simp at h
  have hD1 : va_D (va_A [] H.size) [] := ⟨fun i j p q h => by simp at h, fun k q h => by simp at h⟩
  try dsimp only at hw
  obtain ⟨hP, hD⟩ := va_join (wr := []) (w1 := []) hP hD [] [] rfl rfl (by decide) (by decide) hk1 hFc hP1 hD1
  generalize H1 = H at hP hS ⊢
  have hP : va_P (dC, dI) vwCl [] H := hP
  have hD : va_D A [] := hD
  have hR := en_R hR0 hN0 hS
  refine W.widen (k := 3) (n := 18) (Nat.le_of_ble_eq_true rfl) (Nat.le_of_ble_eq_true rfl) ?_
  have h_5 := hw
  exact absurd h_5 (by decide)

def wo_c_X11_isSure_w : List Cond := [Cond.fieldLink RX11 32 "Underpaint" "dates" "LUnderpaint$Dates;", Cond.fieldLink RX11 279 "Underpaint$Dates" "painters" "I"]
def wo_c_X11_isSure : List Cond := .code yX11_isSure cX11_isSure 5 (some .boolean) :: (wo_c_X11_isSure_w ++ (u_ws RX11 TX11 14 ++ (u_ws RX1 TX1 5 ++ (va_wsS RX11 275 yX11_demandHabits wo_c_X11_demandHabits ++ (va_wsS RX11 187 yX11_demandElement wsX11_demandElement ++ List.nil)))))
theorem gw_wo_c_X11_isSure : wo_c_X11_isSure.all goodWord = true := gw_c (by decide +kernel) (gw_a (by decide +kernel) (gw_a (by decide +kernel) (gw_a (by decide +kernel) (gw_a (gw_a (by decide +kernel) gw_wo_c_X11_demandHabits) (gw_a (gw_a (by decide +kernel) gw_wsX11_demandElement) rfl)))))
theorem go_c_X11_isSure_0 : GoodIn wo_c_X11_isSure (va_wsS RX11 275 yX11_demandHabits wo_c_X11_demandHabits) := goodIn_sub (fun _ h => List.mem_cons_of_mem _ (List.mem_append_right _ (List.mem_append_right _ (List.mem_append_right _ (List.mem_append_left _ h))))) (gw_a (by decide +kernel) gw_wo_c_X11_demandHabits)
theorem go_c_X11_isSure_1 : GoodIn wo_c_X11_isSure (va_wsS RX11 187 yX11_demandElement wsX11_demandElement) := goodIn_sub (fun _ h => List.mem_cons_of_mem _ (List.mem_append_right _ (List.mem_append_right _ (List.mem_append_right _ (List.mem_append_right _ (List.mem_append_left _ h)))))) (gw_a (by decide +kernel) gw_wsX11_demandElement)
set_option maxHeartbeats 4000000 in
set_option maxRecDepth 100000 in
theorem c_X11_isSure (l : Launch) (hst : l.stackTraces = false) (dC : Nat → ClassId) (dI : Nat → Nat → Nat) (b0 : Nat) (en : EnT) (sz : Nat) (h pal she fil nte dat vot loa nos pic spa : Nat) (db dm dh ds : Nat) (a b c9 d : Int32) : vx_Met l yX11_isSure wo_c_X11_isSure ({ frames := 8, cells := 3, slots := 18, locals := 133 } : Room) (cP b0 en (dC, dI) [] [] [(h, .inr (17, [.ref pal, .ref she, .ref fil, .ref nte, .ref dat, .ref vot, .ref loa, .ref nos, .ref pic, .ref spa, .int 5, .int 50, .int 1600, .int 0])), (dat, .inr (7, [.ref db, .ref dm, .int 0, .ref dh, .ref ds]))] sz (fun _ => True) [.ref h, .int a, .int b, .int c9, .int d]) (va_Qi (fun (r : Int32) (_ : Unit) => False) (fun _ _ => True) (va_A [] sz)) (vx_X (fun _ : Unit => True) (fun E _ _ => (E = "java/lang/IllegalArgumentException" ∧ ¬ ((0 ≤ a ∧ a ≤ 99) ∧ (0 ≤ b ∧ b ≤ 99) ∧ (0 ≤ c9 ∧ c9 ≤ 99) ∧ (0 ≤ d ∧ d ≤ 99))) ∨ (E = "java/util/NoSuchElementException" ∧ (0 ≤ a ∧ a ≤ 99) ∧ (0 ≤ b ∧ b ≤ 99) ∧ (0 ≤ c9 ∧ c9 ≤ 99) ∧ (0 ≤ d ∧ d ≤ 99))) (va_A [] sz)) 3 18 (va_A [] sz) := by
  refine vx_ofW (cc := cX11_isSure) (maxL := 5) (ret := (some .boolean)) (by decide) rfl ?_
  intro p e s m args below meth c s₁ B hml hext hv
  obtain ⟨rfl, hsz, hb0, hE, hPP, hK, hDD, hF0⟩ := hv
  have hx := B.exec
  have hb := B.bytes
  have hr := B.returns
  have hts := atoms_spec (ws := wo_c_X11_isSure) B.pre
  have hown : s.vm.findClass RX11 = some m.cls := findClass_of_methodNamed B.named
  have hlocks := B.notSynchronized
  subst hsz
  have hN0 := en_N hPP hDD rfl
  have hP : va_P (dC, dI) vwCl [] s.heap := hPP.sub [] rfl
  have hR0 : va_P (dC, dI) vwCl [(h, .inr (17, [.ref pal, .ref she, .ref fil, .ref nte, .ref dat, .ref vot, .ref loa, .ref nos, .ref pic, .ref spa, .int 5, .int 50, .int 1600, .int 0])), (dat, .inr (7, [.ref db, .ref dm, .int 0, .ref dh, .ref ds]))] s.heap := hPP.sub [0, 1] rfl
  have hD0 : va_D (fun q => b0 ≤ q) [] := hDD.sub [] (by decide) rfl
  have hDr : va_D (fun q => b0 ≤ q) [(h, .inr (17, [.ref pal, .ref she, .ref fil, .ref nte, .ref dat, .ref vot, .ref loa, .ref nos, .ref pic, .ref spa, .int 5, .int 50, .int 1600, .int 0])), (dat, .inr (7, [.ref db, .ref dm, .int 0, .ref dh, .ref ds]))] := hDD.sub [0, 1] (by decide) rfl
  have hAb := en_A (sz := s.heap.size) hD0 hb0
  have hD := hD0.self (sz := s.heap.size)
  generalize hAe : va_A [] s.heap.size = A at hD hAb hN0 ⊢
  have hA : ∀ q : Nat, s.heap.size ≤ q → A q := fun q h => by rw [← hAe]; exact Or.inr h
  have hS : va_S A s.heap s.heap [] := va_S.rf
  have hR := hR0
  have hl := lv_entry [.ref h, .int a, .int b, .int c9, .int d] (n := 5) (Nat.le_of_ble_eq_true rfl)
  rw [lg_entry_eq]
  generalize (lg_sl [.ref h, .int a, .int b, .int c9, .int d] ++ List.replicate (5 - (lg_sl [.ref h, .int a, .int b, .int c9, .int d]).length) Slot.unset).toArray = ls at hl ⊢
  have hl : lv_has ls 5 [(0, .ref h), (1, .int a), (2, .int b), (3, .int c9), (4, .int d)] := hl
  refine lv_iload_n hx hb dX11_isSure_0 rfl (lv_at hl 1 rfl) ?_
  refine lv_iload_n hx hb dX11_isSure_1 rfl (lv_at hl 2 rfl) ?_
  refine lv_iload_n hx hb dX11_isSure_2 rfl (lv_at hl 3 rfl) ?_
  refine lv_iload hx hb dX11_isSure_3 (lv_at hl 4 rfl) ?_
  have hPc := (hP.app hR).sub (ws' := [] ++ []) [] rfl
  have hDc := (en_DD hD hDr hN0 hAb).sub (ws' := [] ++ []) [] (by decide) rfl
  have hKc := hK.sub (tys' := []) [] rfl
  have hFc := va_free (wc := []) hD hS hA [] rfl
  refine vx_callv (vx_runS (As := [.int a, .int b, .int c9, .int d]) (rest := []) ⟨hx, hb, hml, hown, hts⟩ (c_X11_demandHabits l hst dC dI b0 en s.heap.size a b c9 d) (va_cwS 4 hts go_c_X11_isSure_0 rfl rfl rfl (by decide +kernel) ⟨Nat.le_of_ble_eq_true rfl, Nat.le_of_ble_eq_true rfl⟩) ⟨cP.blind, cP.use (en_z hb0 hS) (hE.on hAb hS) hPc hKc hDc trivial⟩ rfl rfl hl.1 rfl (lv_room (Nat.le_of_ble_eq_true rfl)) dX11_isSure_5 ⟨Nat.le_of_ble_eq_true rfl, Nat.le_of_ble_eq_true rfl⟩) hS (fun q _ h => hFc q h) hFc (fun q _ h => hFc q h) (fun E ce q9 u t H1 locs ht hvm hpx hBX hz1 hk1 hS hce hcv hcl => ?_) (fun u t H1 locs ht hvm hw hB hz1 hk1 hS => ?_)
  · skip
    try dsimp only at hBX
    obtain ⟨rfl, hc⟩ := hBX
    refine vx_widen (k := 3) (n := 18) (Nat.le_of_ble_eq_true rfl) (Nat.le_of_ble_eq_true rfl) ?_
    exact vx_out (fun x hx => (hext x hx).elim) hlocks hce hcv hcl (fun t ht hW => ⟨(), trivial, Or.inl ⟨rfl, (z_c_X11_painter_357 a b c9 d hc)⟩, hS.F ht⟩) hS.2.2 (Nat.le_refl _) (Nat.le_refl _)
  have hP1 : va_P (dC, dI) vwCl [] H1 := fun k q h => by simp at h
  have hD1 : va_D (va_A [] s.heap.size) [] := ⟨fun i j p q h => by simp at h, fun k q h => by simp at h⟩
  try dsimp only at hw
  obtain ⟨hP, hD⟩ := va_join (wr := []) (w1 := []) hP hD [] [] rfl rfl (by decide) (by decide) hk1 hFc hP1 hD1
  generalize H1 = H at hP hS ⊢
  have hP : va_P (dC, dI) vwCl [] H := hP
  have hD : va_D A [] := hD
  have hR := en_R hR0 hN0 hS
  refine W.widen (k := 2) (n := 12) (Nat.le_of_ble_eq_true rfl) (Nat.le_of_ble_eq_true rfl) ?_
  have h_2 := hw
  refine lv_aload_n hx hb dX11_isSure_8 rfl (lv_at hl 0 rfl) ?_
  refine va_get (D := (dC, dI)) (ci := 17) (v := .ref dat) (C := RX11) (T := TX11) (N := 14) hx hb hts (by decide +kernel) hown hK hR 0 rfl rfl 4 (by decide) (hts (.fieldLink RX11 32 "Underpaint" "dates" "LUnderpaint$Dates;") (by decide +kernel)) (fun _ h9 => h9) rfl dX11_isSure_9 ?_
  refine va_get (D := (dC, dI)) (ci := 7) (v := .int 0) (C := RX1) (T := TX1) (N := 5) hx hb hts (by decide +kernel) hown hK hR 1 rfl rfl 2 (by decide) (hts (.fieldLink RX11 279 "Underpaint$Dates" "painters" "I") (by decide +kernel)) (fun _ h9 => h9) rfl dX11_isSure_12 ?_
  refine lv_if_le (tgt := 22) hx hb dX11_isSure_15 (by decide) (fun c_3 => ?_) (fun c_3 => absurd c_3 (by decide))
  refine lv_iconst (v := 0) hx hb dX11_isSure_22 (by decide) ?_
  have hPc := (hP.app hR).sub (ws' := [] ++ []) [] rfl
  have hDc := (en_DD hD hDr hN0 hAb).sub (ws' := [] ++ []) [] (by decide) rfl
  have hKc := hK.sub (tys' := []) [] rfl
  have hFc := va_free (wc := []) hD hS hA [] rfl
  refine vx_callv (vx_runS (As := [.int 0]) (rest := []) ⟨hx, hb, hml, hown, hts⟩ (c_X11_demandElement l hst dC dI b0 en H.size 0) (va_cwS 1 hts go_c_X11_isSure_1 rfl rfl rfl (by decide +kernel) ⟨Nat.le_of_ble_eq_true rfl, Nat.le_of_ble_eq_true rfl⟩) ⟨cP.blind, cP.use (en_z hb0 hS) (hE.on hAb hS) hPc hKc hDc trivial⟩ rfl rfl hl.1 rfl (lv_room (Nat.le_of_ble_eq_true rfl)) dX11_isSure_23 ⟨Nat.le_of_ble_eq_true rfl, Nat.le_of_ble_eq_true rfl⟩) hS (fun q _ h => hFc q h) hFc (fun q _ h => hFc q h) (fun E ce q9 u t H1 locs ht hvm hpx hBX hz1 hk1 hS hce hcv hcl => ?_) (fun u t H1 locs ht hvm hw hB hz1 hk1 hS => ?_)
  · skip
    try dsimp only at hBX
    obtain ⟨rfl, hc⟩ := hBX
    refine vx_widen (k := 3) (n := 18) (Nat.le_of_ble_eq_true rfl) (Nat.le_of_ble_eq_true rfl) ?_
    exact vx_out (fun x hx => (hext x hx).elim) hlocks hce hcv hcl (fun t ht hW => ⟨(), trivial, Or.inr (⟨rfl, (z_c_X11_likely_359 a b c9 d h_2 hc)⟩), hS.F ht⟩) hS.2.2 (Nat.le_refl _) (Nat.le_refl _)
  have hP1 : va_P (dC, dI) vwCl [] H1 := fun k q h => by simp at h
  have hD1 : va_D (va_A [] H.size) [] := ⟨fun i j p q h => by simp at h, fun k q h => by simp at h⟩
  try dsimp only at hw
  obtain ⟨hP, hD⟩ := va_join (wr := []) (w1 := []) hP hD [] [] rfl rfl (by decide) (by decide) hk1 hFc hP1 hD1
  generalize H1 = H at hP hS ⊢
  have hP : va_P (dC, dI) vwCl [] H := hP
  have hD : va_D A [] := hD
  have hR := en_R hR0 hN0 hS
  refine W.widen (k := 3) (n := 18) (Nat.le_of_ble_eq_true rfl) (Nat.le_of_ble_eq_true rfl) ?_
  have h_5 := hw
  exact absurd h_5 (by decide)

def wo_c_X7_init_w : List Cond := [Cond.methodLink RX7 1 objectInit, Cond.instanceMethod objectInit, Cond.code objectInit ⟨#[0xb1]⟩ 1 none, Cond.fieldLink RX7 7 "Underpaint$Solvent" "strength" "I", Cond.fieldLink RX7 13 "Underpaint$Solvent" "reach" "I"]
def wo_c_X7_init : List Cond := .code yX7_init cX7_init 3 none :: (wo_c_X7_init_w ++ (u_ws RX7 TX7 3 ++ List.nil))
theorem gw_wo_c_X7_init : wo_c_X7_init.all goodWord = true := gw_c (by decide +kernel) (gw_a (by decide +kernel) (gw_a (by decide +kernel) rfl))
set_option maxHeartbeats 4000000 in
set_option maxRecDepth 100000 in
/-- Solvent(strength, reach) -/
theorem c_X7_init (l : Launch) (dC : Nat → ClassId) (dI : Nat → Nat → Nat) (b0 : Nat) (en : EnT) (sz : Nat) (q : Nat) (a b : Int32) : Met l yX7_init wo_c_X7_init ({ frames := 1, cells := 0, slots := 0, locals := 30 } : Room) (cP b0 en (dC, dI) [] [(q, .inr (13, [.int 0, .int 0, .int 0]))] [] sz (fun _ => True) [.ref q, .int a, .int b]) (va_Qv (fun u : Unit => True) (fun u t => cB (dC, dI) [] [(q, .inr (13, [.int a, .int b, .int 0]))] (va_A [(q, .inr (13, [.int 0, .int 0, .int 0]))] sz) (fun _ => True) t) (va_A [(q, .inr (13, [.int 0, .int 0, .int 0]))] sz)) 0 0 (va_A [(q, .inr (13, [.int 0, .int 0, .int 0]))] sz) := by
  refine Met.ofW (cc := cX7_init) (maxL := 3) (ret := none) (by decide) rfl ?_
  intro p e s m args below meth c s₁ B hml hv
  obtain ⟨rfl, hsz, hb0, hE, hPP, hK, hDD, hF0⟩ := hv
  have hx := B.exec
  have hb := B.bytes
  have hr := B.returns
  have hts := atoms_spec (ws := wo_c_X7_init) B.pre
  have hown : s.vm.findClass RX7 = some m.cls := findClass_of_methodNamed B.named
  have hlocks := B.notSynchronized
  have hin : meth.name = "<init>" := (name_of_methodNamed B.named B.method).1
  subst hsz
  have hN0 := en_N hPP hDD rfl
  have hP : va_P (dC, dI) vwCl [(q, .inr (13, [.int 0, .int 0, .int 0]))] s.heap := hPP.sub [0] rfl
  have hR0 : va_P (dC, dI) vwCl [] s.heap := hPP.sub [] rfl
  have hD0 : va_D (fun q => b0 ≤ q) [(q, .inr (13, [.int 0, .int 0, .int 0]))] := hDD.sub [0] (by decide) rfl
  have hDr : va_D (fun q => b0 ≤ q) [] := hDD.sub [] (by decide) rfl
  have hAb := en_A (sz := s.heap.size) hD0 hb0
  have hD := hD0.self (sz := s.heap.size)
  generalize hAe : va_A [(q, .inr (13, [.int 0, .int 0, .int 0]))] s.heap.size = A at hD hAb hN0 ⊢
  have hA : ∀ q : Nat, s.heap.size ≤ q → A q := fun q h => by rw [← hAe]; exact Or.inr h
  have hS : va_S A s.heap s.heap [] := va_S.rf
  have hR := hR0
  have hl := lv_entry [.ref q, .int a, .int b] (n := 3) (Nat.le_of_ble_eq_true rfl)
  rw [lg_entry_eq]
  generalize (lg_sl [.ref q, .int a, .int b] ++ List.replicate (3 - (lg_sl [.ref q, .int a, .int b]).length) Slot.unset).toArray = ls at hl ⊢
  have hl : lv_has ls 3 [(0, .ref q), (1, .int a), (2, .int b)] := hl
  refine lv_aload_n hx hb dX7_init_0 rfl (lv_at hl 0 rfl) ?_
  refine W.objInit hx hb hown (hts (.methodLink RX7 1 objectInit) (by decide +kernel)) (hts (.instanceMethod objectInit) (by decide +kernel)) (hts (.code objectInit ⟨#[0xb1]⟩ 1 none) (by decide +kernel)) rfl (by rw [hml]; exact hl.1) rfl dX7_init_1 (Nat.le_of_ble_eq_true rfl) (Nat.le_of_ble_eq_true rfl) ?_
  refine lv_aload_n hx hb dX7_init_4 rfl (lv_at hl 0 rfl) ?_
  refine lv_iload_n hx hb dX7_init_5 rfl (lv_at hl 1 rfl) ?_
  refine va_putF (D := (dC, dI)) (ci := 13) (v := .int a) (ty := .int) (C := RX7) (T := TX7) (N := 3) hx hb hts (by decide +kernel) tyX7 tyX7_ok nmX7 hown hK hP hD hS 0 rfl rfl 0 (by decide) (hts (.fieldLink RX7 7 "Underpaint$Solvent" "strength" "I") (by decide +kernel)) (fun _ h9 => h9) rfl hin rfl (by decide +kernel) rfl rfl (Nat.le_of_ble_eq_true rfl) dX7_init_6 (fun H locs hP hD hS => ?_)
  have hP : va_P (dC, dI) vwCl [(q, .inr (13, [.int a, .int 0, .int 0]))] H := hP
  have hD : va_D A [(q, .inr (13, [.int a, .int 0, .int 0]))] := hD
  have hR : va_P (dC, dI) vwCl [] H := fun k q h => by simp at h
  refine lv_aload_n hx hb dX7_init_9 rfl (lv_at hl 0 rfl) ?_
  refine lv_iload_n hx hb dX7_init_10 rfl (lv_at hl 2 rfl) ?_
  refine va_putF (D := (dC, dI)) (ci := 13) (v := .int b) (ty := .int) (C := RX7) (T := TX7) (N := 3) hx hb hts (by decide +kernel) tyX7 tyX7_ok nmX7 hown hK hP hD hS 0 rfl rfl 1 (by decide) (hts (.fieldLink RX7 13 "Underpaint$Solvent" "reach" "I") (by decide +kernel)) (fun _ h9 => h9) rfl hin rfl (by decide +kernel) rfl rfl (Nat.le_of_ble_eq_true rfl) dX7_init_11 (fun H locs hP hD hS => ?_)
  have hP : va_P (dC, dI) vwCl [(q, .inr (13, [.int a, .int b, .int 0]))] H := hP
  have hD : va_D A [(q, .inr (13, [.int a, .int b, .int 0]))] := hD
  have hR : va_P (dC, dI) vwCl [] H := fun k q h => by simp at h
  refine W.widen (k := 0) (n := 0) (Nat.le_of_ble_eq_true rfl) (Nat.le_of_ble_eq_true rfl) ?_
  exact W.vret hx hb hr (fun t ht hW => ⟨⟨(), rfl, trivial, cB.mk ht hW (hP.sub [0] rfl) (hK.sub [] rfl) (hD.sub [0] (by decide) rfl) (trivial)⟩, hS.F ht⟩) hS.2.2 dX7_init_14
theorem z_c_X11_solvent_360 (a : Int32) (b : Int32) (a_0 : ¬ (1 ≤ a ∧ a ≤ 9)) (a_1 : (0 : Int32) = 0) : ¬ ((1 ≤ a ∧ a ≤ 9) ∧ (1 ≤ b ∧ b ≤ 20)) := by grind
theorem z_c_X11_solvent_361 (a : Int32) (b : Int32) (a_0 : 1 ≤ a ∧ a ≤ 9) (a_1 : ¬ (1 ≤ b ∧ b ≤ 20)) (a_2 : (0 : Int32) = 0) : ¬ ((1 ≤ a ∧ a ≤ 9) ∧ (1 ≤ b ∧ b ≤ 20)) := by grind
theorem z_c_X11_solvent_362 (a : Int32) (b : Int32) (a_0 : 1 ≤ a ∧ a ≤ 9) (a_1 : 1 ≤ b ∧ b ≤ 20) (a_2 : ¬ (1 : Int32) = 0) (a_3 : ¬ (1 : Int32) = 0) : (0 : Int32) = 0 ∧ (1 ≤ a ∧ a ≤ 9) ∧ (1 ≤ b ∧ b ≤ 20) := by grind
def wo_c_X11_solvent_w : List Cond := [Cond.fieldLink RX11 16 "Underpaint" "shelf" "Ljava/util/ArrayList;", Cond.classLink RX11 313 RX7, Cond.instantiable RX7 3, Cond.initialized RX7, Cond.methodLink RX11 315 yX7_init, Cond.instanceMethod yX7_init]
def wo_c_X11_solvent : List Cond := .code yX11_solvent cX11_solvent 3 (some .int) :: (wo_c_X11_solvent_w ++ (u_ws RX11 TX11 14 ++ (u_ws RX7 TX7 3 ++ (va_wsS RX11 91 yX11_isWithin wsX11_isWithin ++ (va_wsS RX11 87 yX11_demandArgument wsX11_demandArgument ++ (wsV RX11 95 RJx4a65c yJx4a65c_size_8abf5 wsJx4a65c_size_8abf5 ++ (va_wsS RX11 99 yX11_demandRoom wsX11_demandRoom ++ (wo_c_X7_init ++ (wsV RX11 127 RJx4a65c yJx4a65c_add_9ea2d wsJx4a65c_add_9ea2d ++ List.nil)))))))))
theorem gw_wo_c_X11_solvent : wo_c_X11_solvent.all goodWord = true := gw_c (by decide +kernel) (gw_a (by decide +kernel) (gw_a (by decide +kernel) (gw_a (by decide +kernel) (gw_a (gw_a (by decide +kernel) gw_wsX11_isWithin) (gw_a (gw_a (by decide +kernel) gw_wsX11_demandArgument) (gw_a (gw_a (by decide +kernel) gw_wsJx4a65c_size_8abf5) (gw_a (gw_a (by decide +kernel) gw_wsX11_demandRoom) (gw_a gw_wo_c_X7_init (gw_a (gw_a (by decide +kernel) gw_wsJx4a65c_add_9ea2d) rfl)))))))))
theorem go_c_X11_solvent_0 : GoodIn wo_c_X11_solvent (va_wsS RX11 91 yX11_isWithin wsX11_isWithin) := goodIn_sub (fun _ h => List.mem_cons_of_mem _ (List.mem_append_right _ (List.mem_append_right _ (List.mem_append_right _ (List.mem_append_left _ h))))) (gw_a (by decide +kernel) gw_wsX11_isWithin)
theorem go_c_X11_solvent_1 : GoodIn wo_c_X11_solvent (va_wsS RX11 87 yX11_demandArgument wsX11_demandArgument) := goodIn_sub (fun _ h => List.mem_cons_of_mem _ (List.mem_append_right _ (List.mem_append_right _ (List.mem_append_right _ (List.mem_append_right _ (List.mem_append_left _ h)))))) (gw_a (by decide +kernel) gw_wsX11_demandArgument)
theorem go_c_X11_solvent_2 : GoodIn wo_c_X11_solvent (wsV RX11 95 RJx4a65c yJx4a65c_size_8abf5 wsJx4a65c_size_8abf5) := goodIn_sub (fun _ h => List.mem_cons_of_mem _ (List.mem_append_right _ (List.mem_append_right _ (List.mem_append_right _ (List.mem_append_right _ (List.mem_append_right _ (List.mem_append_left _ h))))))) (gw_a (by decide +kernel) gw_wsJx4a65c_size_8abf5)
theorem go_c_X11_solvent_3 : GoodIn wo_c_X11_solvent (va_wsS RX11 99 yX11_demandRoom wsX11_demandRoom) := goodIn_sub (fun _ h => List.mem_cons_of_mem _ (List.mem_append_right _ (List.mem_append_right _ (List.mem_append_right _ (List.mem_append_right _ (List.mem_append_right _ (List.mem_append_right _ (List.mem_append_left _ h)))))))) (gw_a (by decide +kernel) gw_wsX11_demandRoom)
theorem go_c_X11_solvent_4 : GoodIn wo_c_X11_solvent (wo_c_X7_init) := goodIn_sub (fun _ h => List.mem_cons_of_mem _ (List.mem_append_right _ (List.mem_append_right _ (List.mem_append_right _ (List.mem_append_right _ (List.mem_append_right _ (List.mem_append_right _ (List.mem_append_right _ (List.mem_append_left _ h))))))))) gw_wo_c_X7_init
theorem go_c_X11_solvent_5 : GoodIn wo_c_X11_solvent (wsV RX11 127 RJx4a65c yJx4a65c_add_9ea2d wsJx4a65c_add_9ea2d) := goodIn_sub (fun _ h => List.mem_cons_of_mem _ (List.mem_append_right _ (List.mem_append_right _ (List.mem_append_right _ (List.mem_append_right _ (List.mem_append_right _ (List.mem_append_right _ (List.mem_append_right _ (List.mem_append_right _ (List.mem_append_left _ h)))))))))) (gw_a (by decide +kernel) gw_wsJx4a65c_add_9ea2d)
set_option maxHeartbeats 4000000 in
set_option maxRecDepth 100000 in
theorem c_X11_solvent (l : Launch) (hst : l.stackTraces = false) (dC : Nat → ClassId) (dI : Nat → Nat → Nat) (b0 : Nat) (en : EnT) (sz : Nat) (h pal she fil nte dat vot loa nos pic spa : Nat) (a b : Int32) : vx_Met l yX11_solvent wo_c_X11_solvent ({ frames := 7, cells := 4, slots := 25, locals := 127 } : Room) (cP b0 en (dC, dI) [] [(she, .inr (5, [.int 0, .ref en.2.2.1, .int 0]))] [(h, .inr (17, [.ref pal, .ref she, .ref fil, .ref nte, .ref dat, .ref vot, .ref loa, .ref nos, .ref pic, .ref spa, .int 5, .int 50, .int 1600, .int 0]))] sz (fun _ => True) [.ref h, .int a, .int b]) (va_Qi (fun (r : Int32) (_ : Unit) => r = 0 ∧ (1 ≤ a ∧ a ≤ 9) ∧ (1 ≤ b ∧ b ≤ 20)) (fun _ _ => True) (va_A [(she, .inr (5, [.int 0, .ref en.2.2.1, .int 0]))] sz)) (vx_X (fun _ : Unit => True) (fun E _ _ => (E = "java/lang/IllegalArgumentException" ∧ ¬ ((1 ≤ a ∧ a ≤ 9) ∧ (1 ≤ b ∧ b ≤ 20)))) (va_A [(she, .inr (5, [.int 0, .ref en.2.2.1, .int 0]))] sz)) 4 25 (va_A [(she, .inr (5, [.int 0, .ref en.2.2.1, .int 0]))] sz) := by
  refine vx_ofW (cc := cX11_solvent) (maxL := 3) (ret := (some .int)) (by decide) rfl ?_
  intro p e s m args below meth c s₁ B hml hext hv
  obtain ⟨rfl, hsz, hb0, hE, hPP, hK, hDD, hF0⟩ := hv
  have hx := B.exec
  have hb := B.bytes
  have hr := B.returns
  have hts := atoms_spec (ws := wo_c_X11_solvent) B.pre
  have hown : s.vm.findClass RX11 = some m.cls := findClass_of_methodNamed B.named
  have hlocks := B.notSynchronized
  subst hsz
  have hN0 := en_N hPP hDD rfl
  have hP : va_P (dC, dI) vwCl [(she, .inr (5, [.int 0, .ref en.2.2.1, .int 0]))] s.heap := hPP.sub [0] rfl
  have hR0 : va_P (dC, dI) vwCl [(h, .inr (17, [.ref pal, .ref she, .ref fil, .ref nte, .ref dat, .ref vot, .ref loa, .ref nos, .ref pic, .ref spa, .int 5, .int 50, .int 1600, .int 0]))] s.heap := hPP.sub [1] rfl
  have hD0 : va_D (fun q => b0 ≤ q) [(she, .inr (5, [.int 0, .ref en.2.2.1, .int 0]))] := hDD.sub [0] (by decide) rfl
  have hDr : va_D (fun q => b0 ≤ q) [(h, .inr (17, [.ref pal, .ref she, .ref fil, .ref nte, .ref dat, .ref vot, .ref loa, .ref nos, .ref pic, .ref spa, .int 5, .int 50, .int 1600, .int 0]))] := hDD.sub [1] (by decide) rfl
  have hAb := en_A (sz := s.heap.size) hD0 hb0
  have hD := hD0.self (sz := s.heap.size)
  generalize hAe : va_A [(she, .inr (5, [.int 0, .ref en.2.2.1, .int 0]))] s.heap.size = A at hD hAb hN0 ⊢
  have hA : ∀ q : Nat, s.heap.size ≤ q → A q := fun q h => by rw [← hAe]; exact Or.inr h
  have hS : va_S A s.heap s.heap [] := va_S.rf
  have hR := hR0
  have hl := lv_entry [.ref h, .int a, .int b] (n := 3) (Nat.le_of_ble_eq_true rfl)
  rw [lg_entry_eq]
  generalize (lg_sl [.ref h, .int a, .int b] ++ List.replicate (3 - (lg_sl [.ref h, .int a, .int b]).length) Slot.unset).toArray = ls at hl ⊢
  have hl : lv_has ls 3 [(0, .ref h), (1, .int a), (2, .int b)] := hl
  refine lv_iload_n hx hb dX11_solvent_0 rfl (lv_at hl 1 rfl) ?_
  refine lv_iconst (v := 1) hx hb dX11_solvent_1 (by decide) ?_
  refine lv_bipush (v := 9) hx hb dX11_solvent_2 (by decide) ?_
  have hPc := (hP.app hR).sub (ws' := [] ++ []) [] rfl
  have hDc := (en_DD hD hDr hN0 hAb).sub (ws' := [] ++ []) [] (by decide) rfl
  have hKc := hK.sub (tys' := []) [] rfl
  have hFc := va_free (wc := []) hD hS hA [] rfl
  refine va_calli (va_runS (As := [.int a, .int 1, .int 9]) (rest := []) ⟨hx, hb, hml, hown, hts⟩ (c_X11_isWithin l dC dI b0 en s.heap.size a 1 9) (va_cwS 3 hts go_c_X11_solvent_0 rfl rfl rfl (by decide +kernel) ⟨Nat.le_of_ble_eq_true rfl, Nat.le_of_ble_eq_true rfl⟩) ⟨cP.blind, cP.use (en_z hb0 hS) (hE.on hAb hS) hPc hKc hDc trivial⟩ rfl rfl hl.1 rfl (lv_room (Nat.le_of_ble_eq_true rfl)) dX11_solvent_4 ⟨Nat.le_of_ble_eq_true rfl, Nat.le_of_ble_eq_true rfl⟩) hS (fun q _ h => hFc q h) hFc (fun r_1 u t H1 locs ht hvm hw hB hz1 hk1 hS => ?_)
  have hP1 : va_P (dC, dI) vwCl [] H1 := fun k q h => by simp at h
  have hD1 : va_D (va_A [] s.heap.size) [] := ⟨fun i j p q h => by simp at h, fun k q h => by simp at h⟩
  try dsimp only at hw
  obtain ⟨hP, hD⟩ := va_join (wr := [(she, .inr (5, [.int 0, .ref en.2.2.1, .int 0]))]) (w1 := []) hP hD [] [0] rfl rfl (by decide) (by decide) hk1 hFc hP1 hD1
  generalize H1 = H at hP hS ⊢
  have hP : va_P (dC, dI) vwCl [(she, .inr (5, [.int 0, .ref en.2.2.1, .int 0]))] H := hP
  have hD : va_D A [(she, .inr (5, [.int 0, .ref en.2.2.1, .int 0]))] := hD
  have hR := en_R hR0 hN0 hS
  refine W.widen (k := 0) (n := 0) (Nat.le_of_ble_eq_true rfl) (Nat.le_of_ble_eq_true rfl) ?_
  have h_2 := hw
  refine lv_if_eq (tgt := 24) hx hb dX11_solvent_7 (by decide) (fun c_3 => ?_) (fun c_3 => ?_)
  · skip
    refine lv_iconst (v := 0) hx hb dX11_solvent_24 (by decide) ?_
    have hPc := (hP.app hR).sub (ws' := [] ++ []) [] rfl
    have hDc := (en_DD hD hDr hN0 hAb).sub (ws' := [] ++ []) [] (by decide) rfl
    have hKc := hK.sub (tys' := []) [] rfl
    have hFc := va_free (wc := []) hD hS hA [] rfl
    refine vx_callv (vx_runS (As := [.int 0]) (rest := []) ⟨hx, hb, hml, hown, hts⟩ (c_X11_demandArgument l hst dC dI b0 en H.size 0) (va_cwS 1 hts go_c_X11_solvent_1 rfl rfl rfl (by decide +kernel) ⟨Nat.le_of_ble_eq_true rfl, Nat.le_of_ble_eq_true rfl⟩) ⟨cP.blind, cP.use (en_z hb0 hS) (hE.on hAb hS) hPc hKc hDc trivial⟩ rfl rfl hl.1 rfl (lv_room (Nat.le_of_ble_eq_true rfl)) dX11_solvent_25 ⟨Nat.le_of_ble_eq_true rfl, Nat.le_of_ble_eq_true rfl⟩) hS (fun q _ h => hFc q h) hFc (fun q _ h => hFc q h) (fun E ce q9 u t H1 locs ht hvm hpx hBX hz1 hk1 hS hce hcv hcl => ?_) (fun u t H1 locs ht hvm hw hB hz1 hk1 hS => ?_)
    · skip
      try dsimp only at hBX
      obtain ⟨rfl, hc⟩ := hBX
      refine vx_widen (k := 4) (n := 25) (Nat.le_of_ble_eq_true rfl) (Nat.le_of_ble_eq_true rfl) ?_
      exact vx_out (fun x hx => (hext x hx).elim) hlocks hce hcv hcl (fun t ht hW => ⟨(), trivial, ⟨rfl, (z_c_X11_solvent_360 a b (b_no h_2 c_3) hc)⟩, hS.F ht⟩) hS.2.2 (Nat.le_refl _) (Nat.le_refl _)
    have hP1 : va_P (dC, dI) vwCl [] H1 := fun k q h => by simp at h
    have hD1 : va_D (va_A [] H.size) [] := ⟨fun i j p q h => by simp at h, fun k q h => by simp at h⟩
    try dsimp only at hw
    obtain ⟨hP, hD⟩ := va_join (wr := [(she, .inr (5, [.int 0, .ref en.2.2.1, .int 0]))]) (w1 := []) hP hD [] [0] rfl rfl (by decide) (by decide) hk1 hFc hP1 hD1
    generalize H1 = H at hP hS ⊢
    have hP : va_P (dC, dI) vwCl [(she, .inr (5, [.int 0, .ref en.2.2.1, .int 0]))] H := hP
    have hD : va_D A [(she, .inr (5, [.int 0, .ref en.2.2.1, .int 0]))] := hD
    have hR := en_R hR0 hN0 hS
    refine W.widen (k := 1) (n := 6) (Nat.le_of_ble_eq_true rfl) (Nat.le_of_ble_eq_true rfl) ?_
    have h_5 := hw
    exact absurd h_5 (by decide)
  · skip
    refine lv_iload_n hx hb dX11_solvent_10 rfl (lv_at hl 2 rfl) ?_
    refine lv_iconst (v := 1) hx hb dX11_solvent_11 (by decide) ?_
    refine lv_bipush (v := 20) hx hb dX11_solvent_12 (by decide) ?_
    have hPc := (hP.app hR).sub (ws' := [] ++ []) [] rfl
    have hDc := (en_DD hD hDr hN0 hAb).sub (ws' := [] ++ []) [] (by decide) rfl
    have hKc := hK.sub (tys' := []) [] rfl
    have hFc := va_free (wc := []) hD hS hA [] rfl
    refine va_calli (va_runS (As := [.int b, .int 1, .int 20]) (rest := []) ⟨hx, hb, hml, hown, hts⟩ (c_X11_isWithin l dC dI b0 en H.size b 1 20) (va_cwS 3 hts go_c_X11_solvent_0 rfl rfl rfl (by decide +kernel) ⟨Nat.le_of_ble_eq_true rfl, Nat.le_of_ble_eq_true rfl⟩) ⟨cP.blind, cP.use (en_z hb0 hS) (hE.on hAb hS) hPc hKc hDc trivial⟩ rfl rfl hl.1 rfl (lv_room (Nat.le_of_ble_eq_true rfl)) dX11_solvent_14 ⟨Nat.le_of_ble_eq_true rfl, Nat.le_of_ble_eq_true rfl⟩) hS (fun q _ h => hFc q h) hFc (fun r_6 u t H1 locs ht hvm hw hB hz1 hk1 hS => ?_)
    have hP1 : va_P (dC, dI) vwCl [] H1 := fun k q h => by simp at h
    have hD1 : va_D (va_A [] H.size) [] := ⟨fun i j p q h => by simp at h, fun k q h => by simp at h⟩
    try dsimp only at hw
    obtain ⟨hP, hD⟩ := va_join (wr := [(she, .inr (5, [.int 0, .ref en.2.2.1, .int 0]))]) (w1 := []) hP hD [] [0] rfl rfl (by decide) (by decide) hk1 hFc hP1 hD1
    generalize H1 = H at hP hS ⊢
    have hP : va_P (dC, dI) vwCl [(she, .inr (5, [.int 0, .ref en.2.2.1, .int 0]))] H := hP
    have hD : va_D A [(she, .inr (5, [.int 0, .ref en.2.2.1, .int 0]))] := hD
    have hR := en_R hR0 hN0 hS
    refine W.widen (k := 0) (n := 0) (Nat.le_of_ble_eq_true rfl) (Nat.le_of_ble_eq_true rfl) ?_
    have h_7 := hw
    refine lv_if_eq (tgt := 24) hx hb dX11_solvent_17 (by decide) (fun c_8 => ?_) (fun c_8 => ?_)
    · skip
      refine lv_iconst (v := 0) hx hb dX11_solvent_24 (by decide) ?_
      have hPc := (hP.app hR).sub (ws' := [] ++ []) [] rfl
      have hDc := (en_DD hD hDr hN0 hAb).sub (ws' := [] ++ []) [] (by decide) rfl
      have hKc := hK.sub (tys' := []) [] rfl
      have hFc := va_free (wc := []) hD hS hA [] rfl
      refine vx_callv (vx_runS (As := [.int 0]) (rest := []) ⟨hx, hb, hml, hown, hts⟩ (c_X11_demandArgument l hst dC dI b0 en H.size 0) (va_cwS 1 hts go_c_X11_solvent_1 rfl rfl rfl (by decide +kernel) ⟨Nat.le_of_ble_eq_true rfl, Nat.le_of_ble_eq_true rfl⟩) ⟨cP.blind, cP.use (en_z hb0 hS) (hE.on hAb hS) hPc hKc hDc trivial⟩ rfl rfl hl.1 rfl (lv_room (Nat.le_of_ble_eq_true rfl)) dX11_solvent_25 ⟨Nat.le_of_ble_eq_true rfl, Nat.le_of_ble_eq_true rfl⟩) hS (fun q _ h => hFc q h) hFc (fun q _ h => hFc q h) (fun E ce q9 u t H1 locs ht hvm hpx hBX hz1 hk1 hS hce hcv hcl => ?_) (fun u t H1 locs ht hvm hw hB hz1 hk1 hS => ?_)
      · skip
        try dsimp only at hBX
        obtain ⟨rfl, hc⟩ := hBX
        refine vx_widen (k := 4) (n := 25) (Nat.le_of_ble_eq_true rfl) (Nat.le_of_ble_eq_true rfl) ?_
        exact vx_out (fun x hx => (hext x hx).elim) hlocks hce hcv hcl (fun t ht hW => ⟨(), trivial, ⟨rfl, (z_c_X11_solvent_361 a b (b_yes h_2 c_3) (b_no h_7 c_8) hc)⟩, hS.F ht⟩) hS.2.2 (Nat.le_refl _) (Nat.le_refl _)
      have hP1 : va_P (dC, dI) vwCl [] H1 := fun k q h => by simp at h
      have hD1 : va_D (va_A [] H.size) [] := ⟨fun i j p q h => by simp at h, fun k q h => by simp at h⟩
      try dsimp only at hw
      obtain ⟨hP, hD⟩ := va_join (wr := [(she, .inr (5, [.int 0, .ref en.2.2.1, .int 0]))]) (w1 := []) hP hD [] [0] rfl rfl (by decide) (by decide) hk1 hFc hP1 hD1
      generalize H1 = H at hP hS ⊢
      have hP : va_P (dC, dI) vwCl [(she, .inr (5, [.int 0, .ref en.2.2.1, .int 0]))] H := hP
      have hD : va_D A [(she, .inr (5, [.int 0, .ref en.2.2.1, .int 0]))] := hD
      have hR := en_R hR0 hN0 hS
      refine W.widen (k := 1) (n := 6) (Nat.le_of_ble_eq_true rfl) (Nat.le_of_ble_eq_true rfl) ?_
      have h_10 := hw
      exact absurd h_10 (by decide)
    · skip
      refine lv_iconst (v := 1) hx hb dX11_solvent_20 (by decide) ?_
      refine lv_goto (tgt := 25) hx hb dX11_solvent_21 (by decide) ?_
      have hPc := (hP.app hR).sub (ws' := [] ++ []) [] rfl
      have hDc := (en_DD hD hDr hN0 hAb).sub (ws' := [] ++ []) [] (by decide) rfl
      have hKc := hK.sub (tys' := []) [] rfl
      have hFc := va_free (wc := []) hD hS hA [] rfl
      refine vx_callv (vx_runS (As := [.int 1]) (rest := []) ⟨hx, hb, hml, hown, hts⟩ (c_X11_demandArgument l hst dC dI b0 en H.size 1) (va_cwS 1 hts go_c_X11_solvent_1 rfl rfl rfl (by decide +kernel) ⟨Nat.le_of_ble_eq_true rfl, Nat.le_of_ble_eq_true rfl⟩) ⟨cP.blind, cP.use (en_z hb0 hS) (hE.on hAb hS) hPc hKc hDc trivial⟩ rfl rfl hl.1 rfl (lv_room (Nat.le_of_ble_eq_true rfl)) dX11_solvent_25 ⟨Nat.le_of_ble_eq_true rfl, Nat.le_of_ble_eq_true rfl⟩) hS (fun q _ h => hFc q h) hFc (fun q _ h => hFc q h) (fun E ce q9 u t H1 locs ht hvm hpx hBX hz1 hk1 hS hce hcv hcl => ?_) (fun u t H1 locs ht hvm hw hB hz1 hk1 hS => ?_)
      · skip
        try dsimp only at hBX
        obtain ⟨rfl, hc⟩ := hBX
        exact absurd hc (by decide)
      have hP1 : va_P (dC, dI) vwCl [] H1 := fun k q h => by simp at h
      have hD1 : va_D (va_A [] H.size) [] := ⟨fun i j p q h => by simp at h, fun k q h => by simp at h⟩
      try dsimp only at hw
      obtain ⟨hP, hD⟩ := va_join (wr := [(she, .inr (5, [.int 0, .ref en.2.2.1, .int 0]))]) (w1 := []) hP hD [] [0] rfl rfl (by decide) (by decide) hk1 hFc hP1 hD1
      generalize H1 = H at hP hS ⊢
      have hP : va_P (dC, dI) vwCl [(she, .inr (5, [.int 0, .ref en.2.2.1, .int 0]))] H := hP
      have hD : va_D A [(she, .inr (5, [.int 0, .ref en.2.2.1, .int 0]))] := hD
      have hR := en_R hR0 hN0 hS
      refine W.widen (k := 1) (n := 6) (Nat.le_of_ble_eq_true rfl) (Nat.le_of_ble_eq_true rfl) ?_
      have h_12 := hw
      refine lv_aload_n hx hb dX11_solvent_28 rfl (lv_at hl 0 rfl) ?_
      refine va_get (D := (dC, dI)) (ci := 17) (v := .ref she) (C := RX11) (T := TX11) (N := 14) hx hb hts (by decide +kernel) hown hK hR 0 rfl rfl 1 (by decide) (hts (.fieldLink RX11 16 "Underpaint" "shelf" "Ljava/util/ArrayList;") (by decide +kernel)) (fun _ h9 => h9) rfl dX11_solvent_29 ?_
      have hPc := (hP.app hR).sub (ws' := [] ++ [(she, .inr (5, [.int 0, .ref en.2.2.1, .int 0]))]) [0] rfl
      have hDc := (en_DD hD hDr hN0 hAb).sub (ws' := [] ++ [(she, .inr (5, [.int 0, .ref en.2.2.1, .int 0]))]) [0] (by decide) rfl
      have hKc := hK.sub (tys' := []) [] rfl
      have hFc := va_free (wc := []) hD hS hA [] rfl
      refine va_calli (va_runV (As := []) (rest := []) ⟨hx, hb, hml, hown, hts⟩ (c_Jx4a65c_size l dC dI b0 en H.size she en.2.2.1 0 0) (cwV 0 hts go_c_X11_solvent_2 rfl rfl rfl (by decide +kernel) ⟨Nat.le_of_ble_eq_true rfl, Nat.le_of_ble_eq_true rfl⟩) ⟨cP.blind, va_recv hK hP (ci := 5) (q0 := 0) rfl rfl, cP.use (en_z hb0 hS) (hE.on hAb hS) hPc hKc hDc trivial⟩ rfl rfl hl.1 rfl (lv_room (Nat.le_of_ble_eq_true rfl)) dX11_solvent_32 ⟨Nat.le_of_ble_eq_true rfl, Nat.le_of_ble_eq_true rfl⟩) hS (fun q _ h => hFc q h) hFc (fun r_13 u t H1 locs ht hvm hw hB hz1 hk1 hS => ?_)
      have hP1 : va_P (dC, dI) vwCl [] H1 := fun k q h => by simp at h
      have hD1 : va_D (va_A [] H.size) [] := ⟨fun i j p q h => by simp at h, fun k q h => by simp at h⟩
      try dsimp only at hw
      obtain ⟨hP, hD⟩ := va_join (wr := [(she, .inr (5, [.int 0, .ref en.2.2.1, .int 0]))]) (w1 := []) hP hD [] [0] rfl rfl (by decide) (by decide) hk1 hFc hP1 hD1
      generalize H1 = H at hP hS ⊢
      have hP : va_P (dC, dI) vwCl [(she, .inr (5, [.int 0, .ref en.2.2.1, .int 0]))] H := hP
      have hD : va_D A [(she, .inr (5, [.int 0, .ref en.2.2.1, .int 0]))] := hD
      have hR := en_R hR0 hN0 hS
      refine W.widen (k := 1) (n := 6) (Nat.le_of_ble_eq_true rfl) (Nat.le_of_ble_eq_true rfl) ?_
      subst r_13
      refine lv_bipush (v := 6) hx hb dX11_solvent_35 (by decide) ?_
      refine lv_icmp_ge (tgt := 44) hx hb dX11_solvent_37 (by decide) (fun c_14 => absurd c_14 (by decide)) (fun c_14 => ?_)
      refine lv_iconst (v := 1) hx hb dX11_solvent_40 (by decide) ?_
      refine lv_goto (tgt := 45) hx hb dX11_solvent_41 (by decide) ?_
      have hPc := (hP.app hR).sub (ws' := [] ++ []) [] rfl
      have hDc := (en_DD hD hDr hN0 hAb).sub (ws' := [] ++ []) [] (by decide) rfl
      have hKc := hK.sub (tys' := []) [] rfl
      have hFc := va_free (wc := []) hD hS hA [] rfl
      refine vx_callv (vx_runS (As := [.int 1]) (rest := []) ⟨hx, hb, hml, hown, hts⟩ (c_X11_demandRoom l hst dC dI b0 en H.size 1) (va_cwS 1 hts go_c_X11_solvent_3 rfl rfl rfl (by decide +kernel) ⟨Nat.le_of_ble_eq_true rfl, Nat.le_of_ble_eq_true rfl⟩) ⟨cP.blind, cP.use (en_z hb0 hS) (hE.on hAb hS) hPc hKc hDc trivial⟩ rfl rfl hl.1 rfl (lv_room (Nat.le_of_ble_eq_true rfl)) dX11_solvent_45 ⟨Nat.le_of_ble_eq_true rfl, Nat.le_of_ble_eq_true rfl⟩) hS (fun q _ h => hFc q h) hFc (fun q _ h => hFc q h) (fun E ce q9 u t H1 locs ht hvm hpx hBX hz1 hk1 hS hce hcv hcl => ?_) (fun u t H1 locs ht hvm hw hB hz1 hk1 hS => ?_)
      · skip
        try dsimp only at hBX
        obtain ⟨rfl, hc⟩ := hBX
        exact absurd hc (by decide)
      have hP1 : va_P (dC, dI) vwCl [] H1 := fun k q h => by simp at h
      have hD1 : va_D (va_A [] H.size) [] := ⟨fun i j p q h => by simp at h, fun k q h => by simp at h⟩
      try dsimp only at hw
      obtain ⟨hP, hD⟩ := va_join (wr := [(she, .inr (5, [.int 0, .ref en.2.2.1, .int 0]))]) (w1 := []) hP hD [] [0] rfl rfl (by decide) (by decide) hk1 hFc hP1 hD1
      generalize H1 = H at hP hS ⊢
      have hP : va_P (dC, dI) vwCl [(she, .inr (5, [.int 0, .ref en.2.2.1, .int 0]))] H := hP
      have hD : va_D A [(she, .inr (5, [.int 0, .ref en.2.2.1, .int 0]))] := hD
      have hR := en_R hR0 hN0 hS
      refine W.widen (k := 2) (n := 12) (Nat.le_of_ble_eq_true rfl) (Nat.le_of_ble_eq_true rfl) ?_
      have h_16 := hw
      refine lv_aload_n hx hb dX11_solvent_48 rfl (lv_at hl 0 rfl) ?_
      refine va_get (D := (dC, dI)) (ci := 17) (v := .ref she) (C := RX11) (T := TX11) (N := 14) hx hb hts (by decide +kernel) hown hK hR 0 rfl rfl 1 (by decide) (hts (.fieldLink RX11 16 "Underpaint" "shelf" "Ljava/util/ArrayList;") (by decide +kernel)) (fun _ h9 => h9) rfl dX11_solvent_49 ?_
      have hz9 := hS.1
      refine va_newX (ci := 13) (fs := [.int 0, .int 0, .int 0]) (C := RX7) (T := TX7) (N := 3) hx hb hts (by decide +kernel) tyX7 tyX7_ok hown (hts (.classLink RX11 313 RX7) (by decide +kernel)) (hts (.instantiable RX7 3) (by decide +kernel)) (hts (.initialized RX7) (by decide +kernel)) hK hP hD hS hA rfl (fun j hj => by rcases (show j = 0 ∨ j = 1 ∨ j = 2 by omega) with rfl | rfl | rfl <;> rfl) (Nat.le_of_ble_eq_true rfl) (Nat.le_of_ble_eq_true rfl) dX11_solvent_52 (fun q_17 H hP hD hS hoq hoz => ?_)
      have hP : va_P (dC, dI) vwCl [(she, .inr (5, [.int 0, .ref en.2.2.1, .int 0])), (q_17, .inr (13, [.int 0, .int 0, .int 0]))] H := hP
      have hD : va_D A [(she, .inr (5, [.int 0, .ref en.2.2.1, .int 0])), (q_17, .inr (13, [.int 0, .int 0, .int 0]))] := hD
      have hR := en_R hR0 hN0 hS
      refine W.widen (k := 3) (n := 15) (Nat.le_of_ble_eq_true rfl) (Nat.le_of_ble_eq_true rfl) ?_
      have hgz_q_17 : s.heap.size ≤ q_17 := by rw [hoz]; exact hz9
      have hoz_q_17 := hoz
      refine lv_dup hx hb dX11_solvent_55 rfl ?_
      refine lv_iload_n hx hb dX11_solvent_56 rfl (lv_at hl 1 rfl) ?_
      refine lv_iload_n hx hb dX11_solvent_57 rfl (lv_at hl 2 rfl) ?_
      have hPc := (hP.app hR).sub (ws' := [(q_17, .inr (13, [.int 0, .int 0, .int 0]))] ++ []) [1] rfl
      have hDc := (en_DD hD hDr hN0 hAb).sub (ws' := [(q_17, .inr (13, [.int 0, .int 0, .int 0]))] ++ []) [1] (by decide) rfl
      have hKc := hK.sub (tys' := []) [] rfl
      have hFc := va_free (wc := [(q_17, .inr (13, [.int 0, .int 0, .int 0]))]) hD hS hA [1] rfl
      refine va_callv (va_runI (As := [.int a, .int b]) (rest := [.ref q_17, .ref she]) ⟨hx, hb, hml, hown, hts⟩ (c_X7_init l dC dI b0 en H.size q_17 a b) (cwI 2 hts go_c_X11_solvent_4 rfl rfl rfl (hts (.initialized RX7) (by decide +kernel)) (hts (.methodLink RX11 315 yX7_init) (by decide +kernel)) (hts (.instanceMethod yX7_init) (by decide +kernel)) rfl (by decide +kernel) ⟨Nat.le_of_ble_eq_true rfl, Nat.le_of_ble_eq_true rfl⟩) ⟨cP.blind, cP.use (en_z hb0 hS) (hE.on hAb hS) hPc hKc hDc trivial⟩ rfl rfl hl.1 rfl (lv_room (Nat.le_of_ble_eq_true rfl)) dX11_solvent_58 ⟨Nat.le_of_ble_eq_true rfl, Nat.le_of_ble_eq_true rfl⟩) hS (fun q _ h => hFc q h) hFc (fun u t H1 locs ht hvm hw hB hz1 hk1 hS => ?_)
      obtain ⟨hP1, hK1, hD1, hF1⟩ := hB
      rw [ht] at hP1
      try rw [ht] at hF1
      have hK1 := va_K.moved hvm.symm hK1
      try dsimp only at hw
      obtain ⟨hP, hD⟩ := va_join (wr := [(she, .inr (5, [.int 0, .ref en.2.2.1, .int 0]))]) (w1 := [(q_17, .inr (13, [.int a, .int b, .int 0]))]) hP hD [1] [0] rfl rfl (by decide) (by decide) hk1 hFc hP1 hD1
      generalize H1 = H at hP hS ⊢
      have hP : va_P (dC, dI) vwCl [(she, .inr (5, [.int 0, .ref en.2.2.1, .int 0])), (q_17, .inr (13, [.int a, .int b, .int 0]))] H := hP
      have hD : va_D A [(she, .inr (5, [.int 0, .ref en.2.2.1, .int 0])), (q_17, .inr (13, [.int a, .int b, .int 0]))] := hD
      have hR := en_R hR0 hN0 hS
      refine W.widen (k := 3) (n := 15) (Nat.le_of_ble_eq_true rfl) (Nat.le_of_ble_eq_true rfl) ?_
      have hS9 := hS
      have hPc := (hP.app hR).sub (ws' := [(she, .inr (5, [.int 0, .ref en.2.2.1, .int 0]))] ++ [(q_17, .inr (13, ([.int a, .int b, .int 0])))]) [0, 1] rfl
      have hDc := (en_DD hD hDr hN0 hAb).sub (ws' := [(she, .inr (5, [.int 0, .ref en.2.2.1, .int 0]))] ++ [(q_17, .inr (13, ([.int a, .int b, .int 0])))]) [0, 1] (by decide) rfl
      have hKc := hK.sub (tys' := []) [] rfl
      have hFc := va_free (wc := [(she, .inr (5, [.int 0, .ref en.2.2.1, .int 0]))]) hD hS hA [0] rfl
      refine va_calli (va_runV (As := [.ref q_17]) (rest := []) ⟨hx, hb, hml, hown, hts⟩ (c_addo l dC dI b0 en H.size she q_17 13 ([.int a, .int b, .int 0]) (RX7, TX7, 3) rfl (by decide +kernel)) (cwV 1 hts go_c_X11_solvent_5 rfl rfl rfl (by decide +kernel) ⟨Nat.le_of_ble_eq_true rfl, Nat.le_of_ble_eq_true rfl⟩) ⟨cP.blind, va_recv hK hP (ci := 5) (q0 := 0) rfl rfl, cP.use (en_z hb0 hS) (hE.on hAb hS) hPc hKc hDc trivial⟩ rfl rfl hl.1 rfl (lv_room (Nat.le_of_ble_eq_true rfl)) dX11_solvent_61 ⟨Nat.le_of_ble_eq_true rfl, Nat.le_of_ble_eq_true rfl⟩) hS (fun q _ h => hFc q h) hFc (fun r_23 ⟨ar_20, cO_21, fO_22⟩ t H1 locs ht hvm hw hB hz1 hk1 hS => ?_)
      obtain ⟨hP1, hK1, hD1, hF1⟩ := hB
      rw [ht] at hP1
      try rw [ht] at hF1
      have hK1 := va_K.moved hvm.symm hK1
      try dsimp only at hw
      obtain ⟨hP, hD⟩ := va_join (wr := [(q_17, .inr (13, [.int a, .int b, .int 0]))]) (w1 := [(she, .inr (5, [.int 1, .ref ar_20, .int 1])), (ar_20, .inl (cO_21, 10, .inr (.inr (.inr (.inr fO_22)))))]) hP hD [0] [1] rfl rfl (by decide) (by decide) hk1 hFc hP1 hD1
      have hK := hK.app hK1
      have hgz_ar_20 : s.heap.size ≤ ar_20 := Nat.le_trans hS9.1 (vGeN hD1 1 rfl (by simp only [List.map_cons, List.map_nil, List.mem_cons, List.not_mem_nil, or_false, not_or, not_false_eq_true]; exact vAp hD1 1 0 rfl rfl (by decide)))
      generalize H1 = H at hP hS ⊢
      have hP : va_P (dC, dI) vwCl [(q_17, .inr (13, [.int a, .int b, .int 0])), (she, .inr (5, [.int 1, .ref ar_20, .int 1])), (ar_20, .inl (cO_21, 10, .inr (.inr (.inr (.inr fO_22)))))] H := hP
      have hD : va_D A [(q_17, .inr (13, [.int a, .int b, .int 0])), (she, .inr (5, [.int 1, .ref ar_20, .int 1])), (ar_20, .inl (cO_21, 10, .inr (.inr (.inr (.inr fO_22)))))] := hD
      have hR := en_R hR0 hN0 hS
      refine W.widen (k := 4) (n := 25) (Nat.le_of_ble_eq_true rfl) (Nat.le_of_ble_eq_true rfl) ?_
      subst r_23
      refine lv_pop hx hb dX11_solvent_64 rfl ?_
      refine lv_aload_n hx hb dX11_solvent_65 rfl (lv_at hl 0 rfl) ?_
      refine va_get (D := (dC, dI)) (ci := 17) (v := .ref she) (C := RX11) (T := TX11) (N := 14) hx hb hts (by decide +kernel) hown hK hR 0 rfl rfl 1 (by decide) (hts (.fieldLink RX11 16 "Underpaint" "shelf" "Ljava/util/ArrayList;") (by decide +kernel)) (fun _ h9 => h9) rfl dX11_solvent_66 ?_
      have hPc := (hP.app hR).sub (ws' := [] ++ [(she, .inr (5, [.int 1, .ref ar_20, .int 1]))]) [1] rfl
      have hDc := (en_DD hD hDr hN0 hAb).sub (ws' := [] ++ [(she, .inr (5, [.int 1, .ref ar_20, .int 1]))]) [1] (by decide) rfl
      have hKc := hK.sub (tys' := []) [] rfl
      have hFc := va_free (wc := []) hD hS hA [] rfl
      refine va_calli (va_runV (As := []) (rest := []) ⟨hx, hb, hml, hown, hts⟩ (c_Jx4a65c_size l dC dI b0 en H.size she ar_20 1 1) (cwV 0 hts go_c_X11_solvent_2 rfl rfl rfl (by decide +kernel) ⟨Nat.le_of_ble_eq_true rfl, Nat.le_of_ble_eq_true rfl⟩) ⟨cP.blind, va_recv hK hP (ci := 5) (q0 := 1) rfl rfl, cP.use (en_z hb0 hS) (hE.on hAb hS) hPc hKc hDc trivial⟩ rfl rfl hl.1 rfl (lv_room (Nat.le_of_ble_eq_true rfl)) dX11_solvent_69 ⟨Nat.le_of_ble_eq_true rfl, Nat.le_of_ble_eq_true rfl⟩) hS (fun q _ h => hFc q h) hFc (fun r_24 u t H1 locs ht hvm hw hB hz1 hk1 hS => ?_)
      have hP1 : va_P (dC, dI) vwCl [] H1 := fun k q h => by simp at h
      have hD1 : va_D (va_A [] H.size) [] := ⟨fun i j p q h => by simp at h, fun k q h => by simp at h⟩
      try dsimp only at hw
      obtain ⟨hP, hD⟩ := va_join (wr := [(q_17, .inr (13, [.int a, .int b, .int 0])), (she, .inr (5, [.int 1, .ref ar_20, .int 1])), (ar_20, .inl (cO_21, 10, .inr (.inr (.inr (.inr fO_22)))))]) (w1 := []) hP hD [] [0, 1, 2] rfl rfl (by decide) (by decide) hk1 hFc hP1 hD1
      generalize H1 = H at hP hS ⊢
      have hP : va_P (dC, dI) vwCl [(q_17, .inr (13, [.int a, .int b, .int 0])), (she, .inr (5, [.int 1, .ref ar_20, .int 1])), (ar_20, .inl (cO_21, 10, .inr (.inr (.inr (.inr fO_22)))))] H := hP
      have hD : va_D A [(q_17, .inr (13, [.int a, .int b, .int 0])), (she, .inr (5, [.int 1, .ref ar_20, .int 1])), (ar_20, .inl (cO_21, 10, .inr (.inr (.inr (.inr fO_22)))))] := hD
      have hR := en_R hR0 hN0 hS
      refine W.widen (k := 4) (n := 25) (Nat.le_of_ble_eq_true rfl) (Nat.le_of_ble_eq_true rfl) ?_
      subst r_24
      refine lv_iconst (v := 1) hx hb dX11_solvent_72 (by decide) ?_
      refine lv_isub hx hb dX11_solvent_73 ?_
      refine lv_topi (fun x_25 ex_25 => ?_)
      obtain rfl : x_25 = 0 := ex_25.trans (by decide)
      refine W.widen (k := 4) (n := 25) (Nat.le_of_ble_eq_true rfl) (Nat.le_of_ble_eq_true rfl) ?_
      refine vx_ret ?_
      exact W.iret (v := 0) hx hb hr (fun t ht hW => ⟨⟨0, (), rfl, (z_c_X11_solvent_362 a b (b_yes h_2 c_3) (b_yes h_7 c_8) h_12 h_16), trivial⟩, hS.F ht⟩) hS.2.2 dX11_solvent_74

def wo_c_X3_add_w : List Cond := [Cond.fieldLink RX3 18 "Underpaint$Loan" "size" "I", Cond.fieldLink RX3 9 "Underpaint$Loan" "shocks" "[I", Cond.fieldLink RX3 15 "Underpaint$Loan" "damps" "[I"]
def wo_c_X3_add : List Cond := .code yX3_add cX3_add 3 (some .int) :: (wo_c_X3_add_w ++ (u_ws RX3 TX3 3 ++ List.nil))
theorem gw_wo_c_X3_add : wo_c_X3_add.all goodWord = true := gw_c (by decide +kernel) (gw_a (by decide +kernel) (gw_a (by decide +kernel) rfl))
set_option maxHeartbeats 4000000 in
set_option maxRecDepth 100000 in
/-- Loan.add: the first one -/
theorem c_X3_add (l : Launch) (dC : Nat → ClassId) (dI : Nat → Nat → Nat) (b0 : Nat) (en : EnT) (sz : Nat) (loa lh ld : Nat) (kI : ClassId) (a b : Int32) : Met l yX3_add wo_c_X3_add ({ frames := 0, cells := 0, slots := 0, locals := 0 } : Room) (cP b0 en (dC, dI) [(kI, .int)] [(loa, .inr (9, [.ref lh, .ref ld, .int 0])), (lh, .inl (kI, 8, .inl (fun _ => 0))), (ld, .inl (kI, 8, .inl (fun _ => 0)))] [] sz (fun _ => True) [.ref loa, .int a, .int b]) (va_Qi (fun (r : Int32) (_ : Unit) => r = 1) (fun _ _ => True) (va_A [(loa, .inr (9, [.ref lh, .ref ld, .int 0])), (lh, .inl (kI, 8, .inl (fun _ => 0))), (ld, .inl (kI, 8, .inl (fun _ => 0)))] sz)) 0 0 (va_A [(loa, .inr (9, [.ref lh, .ref ld, .int 0])), (lh, .inl (kI, 8, .inl (fun _ => 0))), (ld, .inl (kI, 8, .inl (fun _ => 0)))] sz) := by
  refine Met.ofW (cc := cX3_add) (maxL := 3) (ret := (some .int)) (by decide) rfl ?_
  intro p e s m args below meth c s₁ B hml hv
  obtain ⟨rfl, hsz, hb0, hE, hPP, hK, hDD, hF0⟩ := hv
  have hx := B.exec
  have hb := B.bytes
  have hr := B.returns
  have hts := atoms_spec (ws := wo_c_X3_add) B.pre
  have hown : s.vm.findClass RX3 = some m.cls := findClass_of_methodNamed B.named
  have hlocks := B.notSynchronized
  subst hsz
  have hN0 := en_N hPP hDD rfl
  have hP : va_P (dC, dI) vwCl [(loa, .inr (9, [.ref lh, .ref ld, .int 0])), (lh, .inl (kI, 8, .inl (fun _ => 0))), (ld, .inl (kI, 8, .inl (fun _ => 0)))] s.heap := hPP.sub [0, 1, 2] rfl
  have hR0 : va_P (dC, dI) vwCl [] s.heap := hPP.sub [] rfl
  have hD0 : va_D (fun q => b0 ≤ q) [(loa, .inr (9, [.ref lh, .ref ld, .int 0])), (lh, .inl (kI, 8, .inl (fun _ => 0))), (ld, .inl (kI, 8, .inl (fun _ => 0)))] := hDD.sub [0, 1, 2] (by decide) rfl
  have hDr : va_D (fun q => b0 ≤ q) [] := hDD.sub [] (by decide) rfl
  have hAb := en_A (sz := s.heap.size) hD0 hb0
  have hD := hD0.self (sz := s.heap.size)
  generalize hAe : va_A [(loa, .inr (9, [.ref lh, .ref ld, .int 0])), (lh, .inl (kI, 8, .inl (fun _ => 0))), (ld, .inl (kI, 8, .inl (fun _ => 0)))] s.heap.size = A at hD hAb hN0 ⊢
  have hA : ∀ q : Nat, s.heap.size ≤ q → A q := fun q h => by rw [← hAe]; exact Or.inr h
  have hS : va_S A s.heap s.heap [] := va_S.rf
  have hR := hR0
  have hl := lv_entry [.ref loa, .int a, .int b] (n := 3) (Nat.le_of_ble_eq_true rfl)
  rw [lg_entry_eq]
  generalize (lg_sl [.ref loa, .int a, .int b] ++ List.replicate (3 - (lg_sl [.ref loa, .int a, .int b]).length) Slot.unset).toArray = ls at hl ⊢
  have hl : lv_has ls 3 [(0, .ref loa), (1, .int a), (2, .int b)] := hl
  refine lv_aload_n hx hb dX3_add_0 rfl (lv_at hl 0 rfl) ?_
  refine va_get (D := (dC, dI)) (ci := 9) (v := .int 0) (C := RX3) (T := TX3) (N := 3) hx hb hts (by decide +kernel) hown hK hP 0 rfl rfl 2 (by decide) (hts (.fieldLink RX3 18 "Underpaint$Loan" "size" "I") (by decide +kernel)) (fun _ h9 => h9) rfl dX3_add_1 ?_
  refine lv_bipush (v := 8) hx hb dX3_add_4 (by decide) ?_
  refine lv_icmp_ge (tgt := 39) hx hb dX3_add_6 (by decide) (fun c_1 => absurd c_1 (by decide)) (fun c_1 => ?_)
  refine lv_aload_n hx hb dX3_add_9 rfl (lv_at hl 0 rfl) ?_
  refine va_get (D := (dC, dI)) (ci := 9) (v := .ref lh) (C := RX3) (T := TX3) (N := 3) hx hb hts (by decide +kernel) hown hK hP 0 rfl rfl 0 (by decide) (hts (.fieldLink RX3 9 "Underpaint$Loan" "shocks" "[I") (by decide +kernel)) (fun _ h9 => h9) rfl dX3_add_10 ?_
  refine lv_aload_n hx hb dX3_add_13 rfl (lv_at hl 0 rfl) ?_
  refine va_get (D := (dC, dI)) (ci := 9) (v := .int 0) (C := RX3) (T := TX3) (N := 3) hx hb hts (by decide +kernel) hown hK hP 0 rfl rfl 2 (by decide) (hts (.fieldLink RX3 18 "Underpaint$Loan" "size" "I") (by decide +kernel)) (fun _ h9 => h9) rfl dX3_add_14 ?_
  refine lv_iload_n hx hb dX3_add_17 rfl (lv_at hl 1 rfl) ?_
  refine va_iast hx hb hK hP hD hS 1 0 rfl rfl (vp_in_nI (by decide : 0 < 8) (by decide)) dX3_add_18 (fun H locs hP hD hS => ?_)
  generalize ef_2 : upd (fun _ => 0) (0 : Int32).toNatClampNeg a = f_2 at hP hD
  have hP : va_P (dC, dI) vwCl [(loa, .inr (9, [.ref lh, .ref ld, .int 0])), (lh, .inl (kI, 8, .inl f_2)), (ld, .inl (kI, 8, .inl (fun _ => 0)))] H := hP
  have hD : va_D A [(loa, .inr (9, [.ref lh, .ref ld, .int 0])), (lh, .inl (kI, 8, .inl f_2)), (ld, .inl (kI, 8, .inl (fun _ => 0)))] := hD
  have hR : va_P (dC, dI) vwCl [] H := fun k q h => by simp at h
  refine lv_aload_n hx hb dX3_add_19 rfl (lv_at hl 0 rfl) ?_
  refine va_get (D := (dC, dI)) (ci := 9) (v := .ref ld) (C := RX3) (T := TX3) (N := 3) hx hb hts (by decide +kernel) hown hK hP 0 rfl rfl 1 (by decide) (hts (.fieldLink RX3 15 "Underpaint$Loan" "damps" "[I") (by decide +kernel)) (fun _ h9 => h9) rfl dX3_add_20 ?_
  refine lv_aload_n hx hb dX3_add_23 rfl (lv_at hl 0 rfl) ?_
  refine va_get (D := (dC, dI)) (ci := 9) (v := .int 0) (C := RX3) (T := TX3) (N := 3) hx hb hts (by decide +kernel) hown hK hP 0 rfl rfl 2 (by decide) (hts (.fieldLink RX3 18 "Underpaint$Loan" "size" "I") (by decide +kernel)) (fun _ h9 => h9) rfl dX3_add_24 ?_
  refine lv_iload_n hx hb dX3_add_27 rfl (lv_at hl 2 rfl) ?_
  refine va_iast hx hb hK hP hD hS 2 0 rfl rfl (vp_in_nI (by decide : 0 < 8) (by decide)) dX3_add_28 (fun H locs hP hD hS => ?_)
  generalize ef_3 : upd (fun _ => 0) (0 : Int32).toNatClampNeg b = f_3 at hP hD
  have hP : va_P (dC, dI) vwCl [(loa, .inr (9, [.ref lh, .ref ld, .int 0])), (lh, .inl (kI, 8, .inl f_2)), (ld, .inl (kI, 8, .inl f_3))] H := hP
  have hD : va_D A [(loa, .inr (9, [.ref lh, .ref ld, .int 0])), (lh, .inl (kI, 8, .inl f_2)), (ld, .inl (kI, 8, .inl f_3))] := hD
  have hR : va_P (dC, dI) vwCl [] H := fun k q h => by simp at h
  refine lv_aload_n hx hb dX3_add_29 rfl (lv_at hl 0 rfl) ?_
  refine lv_dup hx hb dX3_add_30 rfl ?_
  refine va_get (D := (dC, dI)) (ci := 9) (v := .int 0) (C := RX3) (T := TX3) (N := 3) hx hb hts (by decide +kernel) hown hK hP 0 rfl rfl 2 (by decide) (hts (.fieldLink RX3 18 "Underpaint$Loan" "size" "I") (by decide +kernel)) (fun _ h9 => h9) rfl dX3_add_31 ?_
  refine lv_iconst (v := 1) hx hb dX3_add_34 (by decide) ?_
  refine lv_iadd hx hb dX3_add_35 ?_
  refine lv_topi (fun x_4 ex_4 => ?_)
  obtain rfl : x_4 = 1 := ex_4.trans (by decide)
  refine va_put (D := (dC, dI)) (ci := 9) (v := .int 1) (ty := .int) (C := RX3) (T := TX3) (N := 3) hx hb hts (by decide +kernel) tyX3 tyX3_ok nmX3 hown hK hP hD hS 0 rfl rfl 2 (by decide) (hts (.fieldLink RX3 18 "Underpaint$Loan" "size" "I") (by decide +kernel)) (fun _ h9 => h9) rfl (by decide +kernel) rfl rfl (Nat.le_of_ble_eq_true rfl) dX3_add_36 (fun H locs hP hD hS => ?_)
  have hP : va_P (dC, dI) vwCl [(loa, .inr (9, [.ref lh, .ref ld, .int 1])), (lh, .inl (kI, 8, .inl f_2)), (ld, .inl (kI, 8, .inl f_3))] H := hP
  have hD : va_D A [(loa, .inr (9, [.ref lh, .ref ld, .int 1])), (lh, .inl (kI, 8, .inl f_2)), (ld, .inl (kI, 8, .inl f_3))] := hD
  have hR : va_P (dC, dI) vwCl [] H := fun k q h => by simp at h
  refine lv_aload_n hx hb dX3_add_39 rfl (lv_at hl 0 rfl) ?_
  refine va_get (D := (dC, dI)) (ci := 9) (v := .int 1) (C := RX3) (T := TX3) (N := 3) hx hb hts (by decide +kernel) hown hK hP 0 rfl rfl 2 (by decide) (hts (.fieldLink RX3 18 "Underpaint$Loan" "size" "I") (by decide +kernel)) (fun _ h9 => h9) rfl dX3_add_40 ?_
  refine W.widen (k := 0) (n := 0) (Nat.le_of_ble_eq_true rfl) (Nat.le_of_ble_eq_true rfl) ?_
  exact W.iret (v := 1) hx hb hr (fun t ht hW => ⟨⟨1, (), rfl, (z_c_X6_add_b_353), trivial⟩, hS.F ht⟩) hS.2.2 dX3_add_43
theorem z_c_X11_leg_363 (a : Int32) (b : Int32) (a_0 : ¬ (0 ≤ a ∧ a ≤ 9)) (a_1 : (0 : Int32) = 0) : ¬ ((0 ≤ a ∧ a ≤ 9) ∧ (0 ≤ b ∧ b ≤ 99)) := by grind
theorem z_c_X11_leg_364 (a : Int32) (b : Int32) (a_0 : 0 ≤ a ∧ a ≤ 9) (a_1 : ¬ (0 ≤ b ∧ b ≤ 99)) (a_2 : (0 : Int32) = 0) : ¬ ((0 ≤ a ∧ a ≤ 9) ∧ (0 ≤ b ∧ b ≤ 99)) := by grind
theorem z_c_X11_leg_365 (a : Int32) (b : Int32) (a_0 : 0 ≤ a ∧ a ≤ 9) (a_1 : 0 ≤ b ∧ b ≤ 99) (a_2 : ¬ (1 : Int32) = 0) (a_3 : ¬ (1 : Int32) = 0) : (1 : Int32) = 1 ∧ (0 ≤ a ∧ a ≤ 9) ∧ (0 ≤ b ∧ b ≤ 99) := by grind
def wo_c_X11_leg_w : List Cond := [Cond.fieldLink RX11 46 "Underpaint" "loan" "LUnderpaint$Loan;", Cond.fieldLink RX11 383 "Underpaint$Loan" "size" "I"]
def wo_c_X11_leg : List Cond := .code yX11_leg cX11_leg 3 (some .int) :: (wo_c_X11_leg_w ++ (u_ws RX11 TX11 14 ++ (u_ws RX3 TX3 3 ++ (va_wsS RX11 91 yX11_isWithin wsX11_isWithin ++ (va_wsS RX11 87 yX11_demandArgument wsX11_demandArgument ++ (va_wsS RX11 99 yX11_demandRoom wsX11_demandRoom ++ (wsV RX11 384 RX3 yX3_add wo_c_X3_add ++ List.nil)))))))
theorem gw_wo_c_X11_leg : wo_c_X11_leg.all goodWord = true := gw_c (by decide +kernel) (gw_a (by decide +kernel) (gw_a (by decide +kernel) (gw_a (by decide +kernel) (gw_a (gw_a (by decide +kernel) gw_wsX11_isWithin) (gw_a (gw_a (by decide +kernel) gw_wsX11_demandArgument) (gw_a (gw_a (by decide +kernel) gw_wsX11_demandRoom) (gw_a (gw_a (by decide +kernel) gw_wo_c_X3_add) rfl)))))))
theorem go_c_X11_leg_0 : GoodIn wo_c_X11_leg (va_wsS RX11 91 yX11_isWithin wsX11_isWithin) := goodIn_sub (fun _ h => List.mem_cons_of_mem _ (List.mem_append_right _ (List.mem_append_right _ (List.mem_append_right _ (List.mem_append_left _ h))))) (gw_a (by decide +kernel) gw_wsX11_isWithin)
theorem go_c_X11_leg_1 : GoodIn wo_c_X11_leg (va_wsS RX11 87 yX11_demandArgument wsX11_demandArgument) := goodIn_sub (fun _ h => List.mem_cons_of_mem _ (List.mem_append_right _ (List.mem_append_right _ (List.mem_append_right _ (List.mem_append_right _ (List.mem_append_left _ h)))))) (gw_a (by decide +kernel) gw_wsX11_demandArgument)
theorem go_c_X11_leg_2 : GoodIn wo_c_X11_leg (va_wsS RX11 99 yX11_demandRoom wsX11_demandRoom) := goodIn_sub (fun _ h => List.mem_cons_of_mem _ (List.mem_append_right _ (List.mem_append_right _ (List.mem_append_right _ (List.mem_append_right _ (List.mem_append_right _ (List.mem_append_left _ h))))))) (gw_a (by decide +kernel) gw_wsX11_demandRoom)
theorem go_c_X11_leg_3 : GoodIn wo_c_X11_leg (wsV RX11 384 RX3 yX3_add wo_c_X3_add) := goodIn_sub (fun _ h => List.mem_cons_of_mem _ (List.mem_append_right _ (List.mem_append_right _ (List.mem_append_right _ (List.mem_append_right _ (List.mem_append_right _ (List.mem_append_right _ (List.mem_append_left _ h)))))))) (gw_a (by decide +kernel) gw_wo_c_X3_add)
set_option maxHeartbeats 4000000 in
set_option maxRecDepth 100000 in
theorem c_X11_leg (l : Launch) (hst : l.stackTraces = false) (dC : Nat → ClassId) (dI : Nat → Nat → Nat) (b0 : Nat) (en : EnT) (sz : Nat) (h pal she fil nte dat vot loa nos pic spa : Nat) (lh ld : Nat) (kI : ClassId) (a b : Int32) : vx_Met l yX11_leg wo_c_X11_leg ({ frames := 7, cells := 2, slots := 12, locals := 110 } : Room) (cP b0 en (dC, dI) [(kI, .int)] [(loa, .inr (9, [.ref lh, .ref ld, .int 0])), (lh, .inl (kI, 8, .inl (fun _ => 0))), (ld, .inl (kI, 8, .inl (fun _ => 0)))] [(h, .inr (17, [.ref pal, .ref she, .ref fil, .ref nte, .ref dat, .ref vot, .ref loa, .ref nos, .ref pic, .ref spa, .int 5, .int 50, .int 1600, .int 0]))] sz (fun _ => True) [.ref h, .int a, .int b]) (va_Qi (fun (r : Int32) (_ : Unit) => r = 1 ∧ (0 ≤ a ∧ a ≤ 9) ∧ (0 ≤ b ∧ b ≤ 99)) (fun _ _ => True) (va_A [(loa, .inr (9, [.ref lh, .ref ld, .int 0])), (lh, .inl (kI, 8, .inl (fun _ => 0))), (ld, .inl (kI, 8, .inl (fun _ => 0)))] sz)) (vx_X (fun _ : Unit => True) (fun E _ _ => (E = "java/lang/IllegalArgumentException" ∧ ¬ ((0 ≤ a ∧ a ≤ 9) ∧ (0 ≤ b ∧ b ≤ 99)))) (va_A [(loa, .inr (9, [.ref lh, .ref ld, .int 0])), (lh, .inl (kI, 8, .inl (fun _ => 0))), (ld, .inl (kI, 8, .inl (fun _ => 0)))] sz)) 2 12 (va_A [(loa, .inr (9, [.ref lh, .ref ld, .int 0])), (lh, .inl (kI, 8, .inl (fun _ => 0))), (ld, .inl (kI, 8, .inl (fun _ => 0)))] sz) := by
  refine vx_ofW (cc := cX11_leg) (maxL := 3) (ret := (some .int)) (by decide) rfl ?_
  intro p e s m args below meth c s₁ B hml hext hv
  obtain ⟨rfl, hsz, hb0, hE, hPP, hK, hDD, hF0⟩ := hv
  have hx := B.exec
  have hb := B.bytes
  have hr := B.returns
  have hts := atoms_spec (ws := wo_c_X11_leg) B.pre
  have hown : s.vm.findClass RX11 = some m.cls := findClass_of_methodNamed B.named
  have hlocks := B.notSynchronized
  subst hsz
  have hN0 := en_N hPP hDD rfl
  have hP : va_P (dC, dI) vwCl [(loa, .inr (9, [.ref lh, .ref ld, .int 0])), (lh, .inl (kI, 8, .inl (fun _ => 0))), (ld, .inl (kI, 8, .inl (fun _ => 0)))] s.heap := hPP.sub [0, 1, 2] rfl
  have hR0 : va_P (dC, dI) vwCl [(h, .inr (17, [.ref pal, .ref she, .ref fil, .ref nte, .ref dat, .ref vot, .ref loa, .ref nos, .ref pic, .ref spa, .int 5, .int 50, .int 1600, .int 0]))] s.heap := hPP.sub [3] rfl
  have hD0 : va_D (fun q => b0 ≤ q) [(loa, .inr (9, [.ref lh, .ref ld, .int 0])), (lh, .inl (kI, 8, .inl (fun _ => 0))), (ld, .inl (kI, 8, .inl (fun _ => 0)))] := hDD.sub [0, 1, 2] (by decide) rfl
  have hDr : va_D (fun q => b0 ≤ q) [(h, .inr (17, [.ref pal, .ref she, .ref fil, .ref nte, .ref dat, .ref vot, .ref loa, .ref nos, .ref pic, .ref spa, .int 5, .int 50, .int 1600, .int 0]))] := hDD.sub [3] (by decide) rfl
  have hAb := en_A (sz := s.heap.size) hD0 hb0
  have hD := hD0.self (sz := s.heap.size)
  generalize hAe : va_A [(loa, .inr (9, [.ref lh, .ref ld, .int 0])), (lh, .inl (kI, 8, .inl (fun _ => 0))), (ld, .inl (kI, 8, .inl (fun _ => 0)))] s.heap.size = A at hD hAb hN0 ⊢
  have hA : ∀ q : Nat, s.heap.size ≤ q → A q := fun q h => by rw [← hAe]; exact Or.inr h
  have hS : va_S A s.heap s.heap [] := va_S.rf
  have hR := hR0
  have hl := lv_entry [.ref h, .int a, .int b] (n := 3) (Nat.le_of_ble_eq_true rfl)
  rw [lg_entry_eq]
  generalize (lg_sl [.ref h, .int a, .int b] ++ List.replicate (3 - (lg_sl [.ref h, .int a, .int b]).length) Slot.unset).toArray = ls at hl ⊢
  have hl : lv_has ls 3 [(0, .ref h), (1, .int a), (2, .int b)] := hl
  refine lv_iload_n hx hb dX11_leg_0 rfl (lv_at hl 1 rfl) ?_
  refine lv_iconst (v := 0) hx hb dX11_leg_1 (by decide) ?_
  refine lv_bipush (v := 9) hx hb dX11_leg_2 (by decide) ?_
  have hPc := (hP.app hR).sub (ws' := [] ++ []) [] rfl
  have hDc := (en_DD hD hDr hN0 hAb).sub (ws' := [] ++ []) [] (by decide) rfl
  have hKc := hK.sub (tys' := []) [] rfl
  have hFc := va_free (wc := []) hD hS hA [] rfl
  refine va_calli (va_runS (As := [.int a, .int 0, .int 9]) (rest := []) ⟨hx, hb, hml, hown, hts⟩ (c_X11_isWithin l dC dI b0 en s.heap.size a 0 9) (va_cwS 3 hts go_c_X11_leg_0 rfl rfl rfl (by decide +kernel) ⟨Nat.le_of_ble_eq_true rfl, Nat.le_of_ble_eq_true rfl⟩) ⟨cP.blind, cP.use (en_z hb0 hS) (hE.on hAb hS) hPc hKc hDc trivial⟩ rfl rfl hl.1 rfl (lv_room (Nat.le_of_ble_eq_true rfl)) dX11_leg_4 ⟨Nat.le_of_ble_eq_true rfl, Nat.le_of_ble_eq_true rfl⟩) hS (fun q _ h => hFc q h) hFc (fun r_1 u t H1 locs ht hvm hw hB hz1 hk1 hS => ?_)
  have hP1 : va_P (dC, dI) vwCl [] H1 := fun k q h => by simp at h
  have hD1 : va_D (va_A [] s.heap.size) [] := ⟨fun i j p q h => by simp at h, fun k q h => by simp at h⟩
  try dsimp only at hw
  obtain ⟨hP, hD⟩ := va_join (wr := [(loa, .inr (9, [.ref lh, .ref ld, .int 0])), (lh, .inl (kI, 8, .inl (fun _ => 0))), (ld, .inl (kI, 8, .inl (fun _ => 0)))]) (w1 := []) hP hD [] [0, 1, 2] rfl rfl (by decide) (by decide) hk1 hFc hP1 hD1
  generalize H1 = H at hP hS ⊢
  have hP : va_P (dC, dI) vwCl [(loa, .inr (9, [.ref lh, .ref ld, .int 0])), (lh, .inl (kI, 8, .inl (fun _ => 0))), (ld, .inl (kI, 8, .inl (fun _ => 0)))] H := hP
  have hD : va_D A [(loa, .inr (9, [.ref lh, .ref ld, .int 0])), (lh, .inl (kI, 8, .inl (fun _ => 0))), (ld, .inl (kI, 8, .inl (fun _ => 0)))] := hD
  have hR := en_R hR0 hN0 hS
  refine W.widen (k := 0) (n := 0) (Nat.le_of_ble_eq_true rfl) (Nat.le_of_ble_eq_true rfl) ?_
  have h_2 := hw
  refine lv_if_eq (tgt := 24) hx hb dX11_leg_7 (by decide) (fun c_3 => ?_) (fun c_3 => ?_)
  · skip
    refine lv_iconst (v := 0) hx hb dX11_leg_24 (by decide) ?_
    have hPc := (hP.app hR).sub (ws' := [] ++ []) [] rfl
    have hDc := (en_DD hD hDr hN0 hAb).sub (ws' := [] ++ []) [] (by decide) rfl
    have hKc := hK.sub (tys' := []) [] rfl
    have hFc := va_free (wc := []) hD hS hA [] rfl
    refine vx_callv (vx_runS (As := [.int 0]) (rest := []) ⟨hx, hb, hml, hown, hts⟩ (c_X11_demandArgument l hst dC dI b0 en H.size 0) (va_cwS 1 hts go_c_X11_leg_1 rfl rfl rfl (by decide +kernel) ⟨Nat.le_of_ble_eq_true rfl, Nat.le_of_ble_eq_true rfl⟩) ⟨cP.blind, cP.use (en_z hb0 hS) (hE.on hAb hS) hPc hKc hDc trivial⟩ rfl rfl hl.1 rfl (lv_room (Nat.le_of_ble_eq_true rfl)) dX11_leg_25 ⟨Nat.le_of_ble_eq_true rfl, Nat.le_of_ble_eq_true rfl⟩) hS (fun q _ h => hFc q h) hFc (fun q _ h => hFc q h) (fun E ce q9 u t H1 locs ht hvm hpx hBX hz1 hk1 hS hce hcv hcl => ?_) (fun u t H1 locs ht hvm hw hB hz1 hk1 hS => ?_)
    · skip
      try dsimp only at hBX
      obtain ⟨rfl, hc⟩ := hBX
      refine vx_widen (k := 2) (n := 12) (Nat.le_of_ble_eq_true rfl) (Nat.le_of_ble_eq_true rfl) ?_
      exact vx_out (fun x hx => (hext x hx).elim) hlocks hce hcv hcl (fun t ht hW => ⟨(), trivial, ⟨rfl, (z_c_X11_leg_363 a b (b_no h_2 c_3) hc)⟩, hS.F ht⟩) hS.2.2 (Nat.le_refl _) (Nat.le_refl _)
    have hP1 : va_P (dC, dI) vwCl [] H1 := fun k q h => by simp at h
    have hD1 : va_D (va_A [] H.size) [] := ⟨fun i j p q h => by simp at h, fun k q h => by simp at h⟩
    try dsimp only at hw
    obtain ⟨hP, hD⟩ := va_join (wr := [(loa, .inr (9, [.ref lh, .ref ld, .int 0])), (lh, .inl (kI, 8, .inl (fun _ => 0))), (ld, .inl (kI, 8, .inl (fun _ => 0)))]) (w1 := []) hP hD [] [0, 1, 2] rfl rfl (by decide) (by decide) hk1 hFc hP1 hD1
    generalize H1 = H at hP hS ⊢
    have hP : va_P (dC, dI) vwCl [(loa, .inr (9, [.ref lh, .ref ld, .int 0])), (lh, .inl (kI, 8, .inl (fun _ => 0))), (ld, .inl (kI, 8, .inl (fun _ => 0)))] H := hP
    have hD : va_D A [(loa, .inr (9, [.ref lh, .ref ld, .int 0])), (lh, .inl (kI, 8, .inl (fun _ => 0))), (ld, .inl (kI, 8, .inl (fun _ => 0)))] := hD
    have hR := en_R hR0 hN0 hS
    refine W.widen (k := 1) (n := 6) (Nat.le_of_ble_eq_true rfl) (Nat.le_of_ble_eq_true rfl) ?_
    have h_5 := hw
    exact absurd h_5 (by decide)
  · skip
    refine lv_iload_n hx hb dX11_leg_10 rfl (lv_at hl 2 rfl) ?_
    refine lv_iconst (v := 0) hx hb dX11_leg_11 (by decide) ?_
    refine lv_bipush (v := 99) hx hb dX11_leg_12 (by decide) ?_
    have hPc := (hP.app hR).sub (ws' := [] ++ []) [] rfl
    have hDc := (en_DD hD hDr hN0 hAb).sub (ws' := [] ++ []) [] (by decide) rfl
    have hKc := hK.sub (tys' := []) [] rfl
    have hFc := va_free (wc := []) hD hS hA [] rfl
    refine va_calli (va_runS (As := [.int b, .int 0, .int 99]) (rest := []) ⟨hx, hb, hml, hown, hts⟩ (c_X11_isWithin l dC dI b0 en H.size b 0 99) (va_cwS 3 hts go_c_X11_leg_0 rfl rfl rfl (by decide +kernel) ⟨Nat.le_of_ble_eq_true rfl, Nat.le_of_ble_eq_true rfl⟩) ⟨cP.blind, cP.use (en_z hb0 hS) (hE.on hAb hS) hPc hKc hDc trivial⟩ rfl rfl hl.1 rfl (lv_room (Nat.le_of_ble_eq_true rfl)) dX11_leg_14 ⟨Nat.le_of_ble_eq_true rfl, Nat.le_of_ble_eq_true rfl⟩) hS (fun q _ h => hFc q h) hFc (fun r_6 u t H1 locs ht hvm hw hB hz1 hk1 hS => ?_)
    have hP1 : va_P (dC, dI) vwCl [] H1 := fun k q h => by simp at h
    have hD1 : va_D (va_A [] H.size) [] := ⟨fun i j p q h => by simp at h, fun k q h => by simp at h⟩
    try dsimp only at hw
    obtain ⟨hP, hD⟩ := va_join (wr := [(loa, .inr (9, [.ref lh, .ref ld, .int 0])), (lh, .inl (kI, 8, .inl (fun _ => 0))), (ld, .inl (kI, 8, .inl (fun _ => 0)))]) (w1 := []) hP hD [] [0, 1, 2] rfl rfl (by decide) (by decide) hk1 hFc hP1 hD1
    generalize H1 = H at hP hS ⊢
    have hP : va_P (dC, dI) vwCl [(loa, .inr (9, [.ref lh, .ref ld, .int 0])), (lh, .inl (kI, 8, .inl (fun _ => 0))), (ld, .inl (kI, 8, .inl (fun _ => 0)))] H := hP
    have hD : va_D A [(loa, .inr (9, [.ref lh, .ref ld, .int 0])), (lh, .inl (kI, 8, .inl (fun _ => 0))), (ld, .inl (kI, 8, .inl (fun _ => 0)))] := hD
    have hR := en_R hR0 hN0 hS
    refine W.widen (k := 0) (n := 0) (Nat.le_of_ble_eq_true rfl) (Nat.le_of_ble_eq_true rfl) ?_
    have h_7 := hw
    refine lv_if_eq (tgt := 24) hx hb dX11_leg_17 (by decide) (fun c_8 => ?_) (fun c_8 => ?_)
    · skip
      refine lv_iconst (v := 0) hx hb dX11_leg_24 (by decide) ?_
      have hPc := (hP.app hR).sub (ws' := [] ++ []) [] rfl
      have hDc := (en_DD hD hDr hN0 hAb).sub (ws' := [] ++ []) [] (by decide) rfl
      have hKc := hK.sub (tys' := []) [] rfl
      have hFc := va_free (wc := []) hD hS hA [] rfl
      refine vx_callv (vx_runS (As := [.int 0]) (rest := []) ⟨hx, hb, hml, hown, hts⟩ (c_X11_demandArgument l hst dC dI b0 en H.size 0) (va_cwS 1 hts go_c_X11_leg_1 rfl rfl rfl (by decide +kernel) ⟨Nat.le_of_ble_eq_true rfl, Nat.le_of_ble_eq_true rfl⟩) ⟨cP.blind, cP.use (en_z hb0 hS) (hE.on hAb hS) hPc hKc hDc trivial⟩ rfl rfl hl.1 rfl (lv_room (Nat.le_of_ble_eq_true rfl)) dX11_leg_25 ⟨Nat.le_of_ble_eq_true rfl, Nat.le_of_ble_eq_true rfl⟩) hS (fun q _ h => hFc q h) hFc (fun q _ h => hFc q h) (fun E ce q9 u t H1 locs ht hvm hpx hBX hz1 hk1 hS hce hcv hcl => ?_) (fun u t H1 locs ht hvm hw hB hz1 hk1 hS => ?_)
      · skip
        try dsimp only at hBX
        obtain ⟨rfl, hc⟩ := hBX
        refine vx_widen (k := 2) (n := 12) (Nat.le_of_ble_eq_true rfl) (Nat.le_of_ble_eq_true rfl) ?_
        exact vx_out (fun x hx => (hext x hx).elim) hlocks hce hcv hcl (fun t ht hW => ⟨(), trivial, ⟨rfl, (z_c_X11_leg_364 a b (b_yes h_2 c_3) (b_no h_7 c_8) hc)⟩, hS.F ht⟩) hS.2.2 (Nat.le_refl _) (Nat.le_refl _)
      have hP1 : va_P (dC, dI) vwCl [] H1 := fun k q h => by simp at h
      have hD1 : va_D (va_A [] H.size) [] := ⟨fun i j p q h => by simp at h, fun k q h => by simp at h⟩
      try dsimp only at hw
      obtain ⟨hP, hD⟩ := va_join (wr := [(loa, .inr (9, [.ref lh, .ref ld, .int 0])), (lh, .inl (kI, 8, .inl (fun _ => 0))), (ld, .inl (kI, 8, .inl (fun _ => 0)))]) (w1 := []) hP hD [] [0, 1, 2] rfl rfl (by decide) (by decide) hk1 hFc hP1 hD1
      generalize H1 = H at hP hS ⊢
      have hP : va_P (dC, dI) vwCl [(loa, .inr (9, [.ref lh, .ref ld, .int 0])), (lh, .inl (kI, 8, .inl (fun _ => 0))), (ld, .inl (kI, 8, .inl (fun _ => 0)))] H := hP
      have hD : va_D A [(loa, .inr (9, [.ref lh, .ref ld, .int 0])), (lh, .inl (kI, 8, .inl (fun _ => 0))), (ld, .inl (kI, 8, .inl (fun _ => 0)))] := hD
      have hR := en_R hR0 hN0 hS
      refine W.widen (k := 1) (n := 6) (Nat.le_of_ble_eq_true rfl) (Nat.le_of_ble_eq_true rfl) ?_
      have h_10 := hw
      exact absurd h_10 (by decide)
    · skip
      refine lv_iconst (v := 1) hx hb dX11_leg_20 (by decide) ?_
      refine lv_goto (tgt := 25) hx hb dX11_leg_21 (by decide) ?_
      have hPc := (hP.app hR).sub (ws' := [] ++ []) [] rfl
      have hDc := (en_DD hD hDr hN0 hAb).sub (ws' := [] ++ []) [] (by decide) rfl
      have hKc := hK.sub (tys' := []) [] rfl
      have hFc := va_free (wc := []) hD hS hA [] rfl
      refine vx_callv (vx_runS (As := [.int 1]) (rest := []) ⟨hx, hb, hml, hown, hts⟩ (c_X11_demandArgument l hst dC dI b0 en H.size 1) (va_cwS 1 hts go_c_X11_leg_1 rfl rfl rfl (by decide +kernel) ⟨Nat.le_of_ble_eq_true rfl, Nat.le_of_ble_eq_true rfl⟩) ⟨cP.blind, cP.use (en_z hb0 hS) (hE.on hAb hS) hPc hKc hDc trivial⟩ rfl rfl hl.1 rfl (lv_room (Nat.le_of_ble_eq_true rfl)) dX11_leg_25 ⟨Nat.le_of_ble_eq_true rfl, Nat.le_of_ble_eq_true rfl⟩) hS (fun q _ h => hFc q h) hFc (fun q _ h => hFc q h) (fun E ce q9 u t H1 locs ht hvm hpx hBX hz1 hk1 hS hce hcv hcl => ?_) (fun u t H1 locs ht hvm hw hB hz1 hk1 hS => ?_)
      · skip
        try dsimp only at hBX
        obtain ⟨rfl, hc⟩ := hBX
        exact absurd hc (by decide)
      have hP1 : va_P (dC, dI) vwCl [] H1 := fun k q h => by simp at h
      have hD1 : va_D (va_A [] H.size) [] := ⟨fun i j p q h => by simp at h, fun k q h => by simp at h⟩
      try dsimp only at hw
      obtain ⟨hP, hD⟩ := va_join (wr := [(loa, .inr (9, [.ref lh, .ref ld, .int 0])), (lh, .inl (kI, 8, .inl (fun _ => 0))), (ld, .inl (kI, 8, .inl (fun _ => 0)))]) (w1 := []) hP hD [] [0, 1, 2] rfl rfl (by decide) (by decide) hk1 hFc hP1 hD1
      generalize H1 = H at hP hS ⊢
      have hP : va_P (dC, dI) vwCl [(loa, .inr (9, [.ref lh, .ref ld, .int 0])), (lh, .inl (kI, 8, .inl (fun _ => 0))), (ld, .inl (kI, 8, .inl (fun _ => 0)))] H := hP
      have hD : va_D A [(loa, .inr (9, [.ref lh, .ref ld, .int 0])), (lh, .inl (kI, 8, .inl (fun _ => 0))), (ld, .inl (kI, 8, .inl (fun _ => 0)))] := hD
      have hR := en_R hR0 hN0 hS
      refine W.widen (k := 1) (n := 6) (Nat.le_of_ble_eq_true rfl) (Nat.le_of_ble_eq_true rfl) ?_
      have h_12 := hw
      refine lv_aload_n hx hb dX11_leg_28 rfl (lv_at hl 0 rfl) ?_
      refine va_get (D := (dC, dI)) (ci := 17) (v := .ref loa) (C := RX11) (T := TX11) (N := 14) hx hb hts (by decide +kernel) hown hK hR 0 rfl rfl 6 (by decide) (hts (.fieldLink RX11 46 "Underpaint" "loan" "LUnderpaint$Loan;") (by decide +kernel)) (fun _ h9 => h9) rfl dX11_leg_29 ?_
      refine va_get (D := (dC, dI)) (ci := 9) (v := .int 0) (C := RX3) (T := TX3) (N := 3) hx hb hts (by decide +kernel) hown hK hP 0 rfl rfl 2 (by decide) (hts (.fieldLink RX11 383 "Underpaint$Loan" "size" "I") (by decide +kernel)) (fun _ h9 => h9) rfl dX11_leg_32 ?_
      refine lv_bipush (v := 8) hx hb dX11_leg_35 (by decide) ?_
      refine lv_icmp_ge (tgt := 44) hx hb dX11_leg_37 (by decide) (fun c_13 => absurd c_13 (by decide)) (fun c_13 => ?_)
      refine lv_iconst (v := 1) hx hb dX11_leg_40 (by decide) ?_
      refine lv_goto (tgt := 45) hx hb dX11_leg_41 (by decide) ?_
      have hPc := (hP.app hR).sub (ws' := [] ++ []) [] rfl
      have hDc := (en_DD hD hDr hN0 hAb).sub (ws' := [] ++ []) [] (by decide) rfl
      have hKc := hK.sub (tys' := []) [] rfl
      have hFc := va_free (wc := []) hD hS hA [] rfl
      refine vx_callv (vx_runS (As := [.int 1]) (rest := []) ⟨hx, hb, hml, hown, hts⟩ (c_X11_demandRoom l hst dC dI b0 en H.size 1) (va_cwS 1 hts go_c_X11_leg_2 rfl rfl rfl (by decide +kernel) ⟨Nat.le_of_ble_eq_true rfl, Nat.le_of_ble_eq_true rfl⟩) ⟨cP.blind, cP.use (en_z hb0 hS) (hE.on hAb hS) hPc hKc hDc trivial⟩ rfl rfl hl.1 rfl (lv_room (Nat.le_of_ble_eq_true rfl)) dX11_leg_45 ⟨Nat.le_of_ble_eq_true rfl, Nat.le_of_ble_eq_true rfl⟩) hS (fun q _ h => hFc q h) hFc (fun q _ h => hFc q h) (fun E ce q9 u t H1 locs ht hvm hpx hBX hz1 hk1 hS hce hcv hcl => ?_) (fun u t H1 locs ht hvm hw hB hz1 hk1 hS => ?_)
      · skip
        try dsimp only at hBX
        obtain ⟨rfl, hc⟩ := hBX
        exact absurd hc (by decide)
      have hP1 : va_P (dC, dI) vwCl [] H1 := fun k q h => by simp at h
      have hD1 : va_D (va_A [] H.size) [] := ⟨fun i j p q h => by simp at h, fun k q h => by simp at h⟩
      try dsimp only at hw
      obtain ⟨hP, hD⟩ := va_join (wr := [(loa, .inr (9, [.ref lh, .ref ld, .int 0])), (lh, .inl (kI, 8, .inl (fun _ => 0))), (ld, .inl (kI, 8, .inl (fun _ => 0)))]) (w1 := []) hP hD [] [0, 1, 2] rfl rfl (by decide) (by decide) hk1 hFc hP1 hD1
      generalize H1 = H at hP hS ⊢
      have hP : va_P (dC, dI) vwCl [(loa, .inr (9, [.ref lh, .ref ld, .int 0])), (lh, .inl (kI, 8, .inl (fun _ => 0))), (ld, .inl (kI, 8, .inl (fun _ => 0)))] H := hP
      have hD : va_D A [(loa, .inr (9, [.ref lh, .ref ld, .int 0])), (lh, .inl (kI, 8, .inl (fun _ => 0))), (ld, .inl (kI, 8, .inl (fun _ => 0)))] := hD
      have hR := en_R hR0 hN0 hS
      refine W.widen (k := 2) (n := 12) (Nat.le_of_ble_eq_true rfl) (Nat.le_of_ble_eq_true rfl) ?_
      have h_15 := hw
      refine lv_aload_n hx hb dX11_leg_48 rfl (lv_at hl 0 rfl) ?_
      refine va_get (D := (dC, dI)) (ci := 17) (v := .ref loa) (C := RX11) (T := TX11) (N := 14) hx hb hts (by decide +kernel) hown hK hR 0 rfl rfl 6 (by decide) (hts (.fieldLink RX11 46 "Underpaint" "loan" "LUnderpaint$Loan;") (by decide +kernel)) (fun _ h9 => h9) rfl dX11_leg_49 ?_
      refine lv_iload_n hx hb dX11_leg_52 rfl (lv_at hl 1 rfl) ?_
      refine lv_iload_n hx hb dX11_leg_53 rfl (lv_at hl 2 rfl) ?_
      have hPc := (hP.app hR).sub (ws' := [(loa, .inr (9, [.ref lh, .ref ld, .int 0])), (lh, .inl (kI, 8, .inl (fun _ => 0))), (ld, .inl (kI, 8, .inl (fun _ => 0)))] ++ []) [0, 1, 2] rfl
      have hDc := (en_DD hD hDr hN0 hAb).sub (ws' := [(loa, .inr (9, [.ref lh, .ref ld, .int 0])), (lh, .inl (kI, 8, .inl (fun _ => 0))), (ld, .inl (kI, 8, .inl (fun _ => 0)))] ++ []) [0, 1, 2] (by decide) rfl
      have hKc := hK.sub (tys' := [(kI, .int)]) [0] rfl
      have hFc := va_free (wc := [(loa, .inr (9, [.ref lh, .ref ld, .int 0])), (lh, .inl (kI, 8, .inl (fun _ => 0))), (ld, .inl (kI, 8, .inl (fun _ => 0)))]) hD hS hA [0, 1, 2] rfl
      refine va_calli (va_runV (As := [.int a, .int b]) (rest := []) ⟨hx, hb, hml, hown, hts⟩ (c_X3_add l dC dI b0 en H.size loa lh ld kI a b) (cwV 2 hts go_c_X11_leg_3 rfl rfl rfl (by decide +kernel) ⟨Nat.le_of_ble_eq_true rfl, Nat.le_of_ble_eq_true rfl⟩) ⟨cP.blind, va_recv hK hP (ci := 9) (q0 := 0) rfl rfl, cP.use (en_z hb0 hS) (hE.on hAb hS) hPc hKc hDc trivial⟩ rfl rfl hl.1 rfl (lv_room (Nat.le_of_ble_eq_true rfl)) dX11_leg_54 ⟨Nat.le_of_ble_eq_true rfl, Nat.le_of_ble_eq_true rfl⟩) hS (fun q _ h => hFc q h) hFc (fun r_16 u t H1 locs ht hvm hw hB hz1 hk1 hS => ?_)
      have hP1 : va_P (dC, dI) vwCl [] H1 := fun k q h => by simp at h
      have hD1 : va_D (va_A [(loa, .inr (9, [.ref lh, .ref ld, .int 0])), (lh, .inl (kI, 8, .inl (fun _ => 0))), (ld, .inl (kI, 8, .inl (fun _ => 0)))] H.size) [] := ⟨fun i j p q h => by simp at h, fun k q h => by simp at h⟩
      try dsimp only at hw
      obtain ⟨hP, hD⟩ := va_join (wr := []) (w1 := []) hP hD [0, 1, 2] [] rfl rfl (by decide) (by decide) hk1 hFc hP1 hD1
      generalize H1 = H at hP hS ⊢
      have hP : va_P (dC, dI) vwCl [] H := hP
      have hD : va_D A [] := hD
      have hR := en_R hR0 hN0 hS
      refine W.widen (k := 2) (n := 12) (Nat.le_of_ble_eq_true rfl) (Nat.le_of_ble_eq_true rfl) ?_
      subst r_16
      refine W.widen (k := 2) (n := 12) (Nat.le_of_ble_eq_true rfl) (Nat.le_of_ble_eq_true rfl) ?_
      refine vx_ret ?_
      exact W.iret (v := 1) hx hb hr (fun t ht hW => ⟨⟨1, (), rfl, (z_c_X11_leg_365 a b (b_yes h_2 c_3) (b_yes h_7 c_8) h_12 h_15), trivial⟩, hS.F ht⟩) hS.2.2 dX11_leg_57

def wo_c_X10_best_w : List Cond := [Cond.fieldLink RX10 9 "Underpaint$Votes" "ahead" "[I", Cond.fieldLink RX10 15 "Underpaint$Votes" "members" "I"]
def wo_c_X10_best : List Cond := .code yX10_best cX10_best 4 (some .int) :: (wo_c_X10_best_w ++ (u_ws RX10 TX10 2 ++ List.nil))
theorem gw_wo_c_X10_best : wo_c_X10_best.all goodWord = true := gw_c (by decide +kernel) (gw_a (by decide +kernel) (gw_a (by decide +kernel) rfl))
set_option maxHeartbeats 4000000 in
set_option maxRecDepth 100000 in
/-- Votes.best: nobody has ranked -/
theorem c_X10_best (l : Launch) (dC : Nat → ClassId) (dI : Nat → Nat → Nat) (b0 : Nat) (en : EnT) (sz : Nat) (vot va : Nat) (kI : ClassId) : Met l yX10_best wo_c_X10_best ({ frames := 0, cells := 0, slots := 0, locals := 0 } : Room) (cP b0 en (dC, dI) [(kI, .int)] [] [(vot, .inr (16, [.int 0, .ref va])), (va, .inl (kI, 9, .inl (fun _ => 0)))] sz (fun _ => True) [.ref vot]) (va_Qi (fun (r : Int32) (_ : Unit) => r = -1) (fun _ _ => True) (va_A [] sz)) 0 0 (va_A [] sz) := by
  refine Met.ofW (cc := cX10_best) (maxL := 4) (ret := (some .int)) (by decide) rfl ?_
  intro p e s m args below meth c s₁ B hml hv
  obtain ⟨rfl, hsz, hb0, hE, hPP, hK, hDD, hF0⟩ := hv
  have hx := B.exec
  have hb := B.bytes
  have hr := B.returns
  have hts := atoms_spec (ws := wo_c_X10_best) B.pre
  have hown : s.vm.findClass RX10 = some m.cls := findClass_of_methodNamed B.named
  have hlocks := B.notSynchronized
  subst hsz
  have hN0 := en_N hPP hDD rfl
  have hP : va_P (dC, dI) vwCl [] s.heap := hPP.sub [] rfl
  have hR0 : va_P (dC, dI) vwCl [(vot, .inr (16, [.int 0, .ref va])), (va, .inl (kI, 9, .inl (fun _ => 0)))] s.heap := hPP.sub [0, 1] rfl
  have hD0 : va_D (fun q => b0 ≤ q) [] := hDD.sub [] (by decide) rfl
  have hDr : va_D (fun q => b0 ≤ q) [(vot, .inr (16, [.int 0, .ref va])), (va, .inl (kI, 9, .inl (fun _ => 0)))] := hDD.sub [0, 1] (by decide) rfl
  have hAb := en_A (sz := s.heap.size) hD0 hb0
  have hD := hD0.self (sz := s.heap.size)
  generalize hAe : va_A [] s.heap.size = A at hD hAb hN0 ⊢
  have hA : ∀ q : Nat, s.heap.size ≤ q → A q := fun q h => by rw [← hAe]; exact Or.inr h
  have hS : va_S A s.heap s.heap [] := va_S.rf
  have hR := hR0
  have hl := lv_entry [.ref vot] (n := 4) (Nat.le_of_ble_eq_true rfl)
  rw [lg_entry_eq]
  generalize (lg_sl [.ref vot] ++ List.replicate (4 - (lg_sl [.ref vot]).length) Slot.unset).toArray = ls at hl ⊢
  have hl : lv_has ls 4 [(0, .ref vot)] := hl
  refine lv_iconst (v := 0) hx hb dX10_best_0 (by decide) ?_
  refine lv_istore_n (lv' := [(1, .int 0), (0, .ref vot)]) hx hb dX10_best_1 rfl hl (by decide) rfl (fun ls hl => ?_)
  refine lv_iload_n hx hb dX10_best_2 rfl (lv_at hl 0 rfl) ?_
  refine lv_iconst (v := 3) hx hb dX10_best_3 (by decide) ?_
  refine lv_icmp_ge (tgt := 57) hx hb dX10_best_4 (by decide) (fun c_1 => absurd c_1 (by decide)) (fun c_1 => ?_)
  refine lv_iconst (v := 0) hx hb dX10_best_7 (by decide) ?_
  refine lv_istore_n (lv' := [(2, .int 0), (1, .int 0), (0, .ref vot)]) hx hb dX10_best_8 rfl hl (by decide) rfl (fun ls hl => ?_)
  refine lv_iconst (v := 0) hx hb dX10_best_9 (by decide) ?_
  refine lv_istore_n (lv' := [(3, .int 0), (2, .int 0), (1, .int 0), (0, .ref vot)]) hx hb dX10_best_10 rfl hl (by decide) rfl (fun ls hl => ?_)
  refine lv_iload_n hx hb dX10_best_11 rfl (lv_at hl 0 rfl) ?_
  refine lv_iconst (v := 3) hx hb dX10_best_12 (by decide) ?_
  refine lv_icmp_ge (tgt := 44) hx hb dX10_best_13 (by decide) (fun c_2 => absurd c_2 (by decide)) (fun c_2 => ?_)
  refine lv_iconst (v := 2) hx hb dX10_best_16 (by decide) ?_
  refine lv_aload_n hx hb dX10_best_17 rfl (lv_at hl 3 rfl) ?_
  refine va_get (D := (dC, dI)) (ci := 16) (v := .ref va) (C := RX10) (T := TX10) (N := 2) hx hb hts (by decide +kernel) hown hK hR 0 rfl rfl 1 (by decide) (hts (.fieldLink RX10 9 "Underpaint$Votes" "ahead" "[I") (by decide +kernel)) (fun _ h9 => h9) rfl dX10_best_18 ?_
  refine lv_iload_n hx hb dX10_best_21 rfl (lv_at hl 2 rfl) ?_
  refine lv_iconst (v := 3) hx hb dX10_best_22 (by decide) ?_
  refine lv_imul hx hb dX10_best_23 ?_
  refine lv_topi (fun x_3 ex_3 => ?_)
  obtain rfl : x_3 = 0 := ex_3.trans (by decide)
  refine lv_iload_n hx hb dX10_best_24 rfl (lv_at hl 0 rfl) ?_
  refine lv_iadd hx hb dX10_best_25 ?_
  refine lv_topi (fun x_4 ex_4 => ?_)
  obtain rfl : x_4 = 0 := ex_4.trans (by decide)
  refine va_iald hx hb hK hR 1 0 rfl rfl (vp_in_nI (by decide : 0 < 9) (by decide)) dX10_best_26 ?_
  refine lv_topi (fun x_5 ex_5 => ?_)
  obtain rfl : x_5 = 0 := ex_5.trans rfl
  refine lv_imul hx hb dX10_best_27 ?_
  refine lv_topi (fun x_6 ex_6 => ?_)
  obtain rfl : x_6 = 0 := ex_6.trans (by decide)
  refine lv_aload_n hx hb dX10_best_28 rfl (lv_at hl 3 rfl) ?_
  refine va_get (D := (dC, dI)) (ci := 16) (v := .int 0) (C := RX10) (T := TX10) (N := 2) hx hb hts (by decide +kernel) hown hK hR 0 rfl rfl 0 (by decide) (hts (.fieldLink RX10 15 "Underpaint$Votes" "members" "I") (by decide +kernel)) (fun _ h9 => h9) rfl dX10_best_29 ?_
  refine lv_icmp_le (tgt := 38) hx hb dX10_best_32 (by decide) (fun c_7 => ?_) (fun c_7 => absurd c_7 (by decide))
  refine lv_iinc (v := 1) (lv' := [(3, .int 1), (2, .int 0), (1, .int 0), (0, .ref vot)]) hx hb dX10_best_38 hl (k := 0) rfl (by decide) (by decide) rfl (fun ls hl => ?_)
  refine lv_goto (tgt := 11) hx hb dX10_best_41 (by decide) ?_
  refine lv_iload_n hx hb dX10_best_11 rfl (lv_at hl 0 rfl) ?_
  refine lv_iconst (v := 3) hx hb dX10_best_12 (by decide) ?_
  refine lv_icmp_ge (tgt := 44) hx hb dX10_best_13 (by decide) (fun c_8 => absurd c_8 (by decide)) (fun c_8 => ?_)
  refine lv_iconst (v := 2) hx hb dX10_best_16 (by decide) ?_
  refine lv_aload_n hx hb dX10_best_17 rfl (lv_at hl 3 rfl) ?_
  refine va_get (D := (dC, dI)) (ci := 16) (v := .ref va) (C := RX10) (T := TX10) (N := 2) hx hb hts (by decide +kernel) hown hK hR 0 rfl rfl 1 (by decide) (hts (.fieldLink RX10 9 "Underpaint$Votes" "ahead" "[I") (by decide +kernel)) (fun _ h9 => h9) rfl dX10_best_18 ?_
  refine lv_iload_n hx hb dX10_best_21 rfl (lv_at hl 2 rfl) ?_
  refine lv_iconst (v := 3) hx hb dX10_best_22 (by decide) ?_
  refine lv_imul hx hb dX10_best_23 ?_
  refine lv_topi (fun x_9 ex_9 => ?_)
  obtain rfl : x_9 = 0 := ex_9.trans (by decide)
  refine lv_iload_n hx hb dX10_best_24 rfl (lv_at hl 0 rfl) ?_
  refine lv_iadd hx hb dX10_best_25 ?_
  refine lv_topi (fun x_10 ex_10 => ?_)
  obtain rfl : x_10 = 1 := ex_10.trans (by decide)
  refine va_iald hx hb hK hR 1 0 rfl rfl (vp_in_nI (by decide : 1 < 9) (by decide)) dX10_best_26 ?_
  refine lv_topi (fun x_11 ex_11 => ?_)
  obtain rfl : x_11 = 0 := ex_11.trans rfl
  refine lv_imul hx hb dX10_best_27 ?_
  refine lv_topi (fun x_12 ex_12 => ?_)
  obtain rfl : x_12 = 0 := ex_12.trans (by decide)
  refine lv_aload_n hx hb dX10_best_28 rfl (lv_at hl 3 rfl) ?_
  refine va_get (D := (dC, dI)) (ci := 16) (v := .int 0) (C := RX10) (T := TX10) (N := 2) hx hb hts (by decide +kernel) hown hK hR 0 rfl rfl 0 (by decide) (hts (.fieldLink RX10 15 "Underpaint$Votes" "members" "I") (by decide +kernel)) (fun _ h9 => h9) rfl dX10_best_29 ?_
  refine lv_icmp_le (tgt := 38) hx hb dX10_best_32 (by decide) (fun c_13 => ?_) (fun c_13 => absurd c_13 (by decide))
  refine lv_iinc (v := 2) (lv' := [(3, .int 2), (2, .int 0), (1, .int 0), (0, .ref vot)]) hx hb dX10_best_38 hl (k := 0) rfl (by decide) (by decide) rfl (fun ls hl => ?_)
  refine lv_goto (tgt := 11) hx hb dX10_best_41 (by decide) ?_
  refine lv_iload_n hx hb dX10_best_11 rfl (lv_at hl 0 rfl) ?_
  refine lv_iconst (v := 3) hx hb dX10_best_12 (by decide) ?_
  refine lv_icmp_ge (tgt := 44) hx hb dX10_best_13 (by decide) (fun c_14 => absurd c_14 (by decide)) (fun c_14 => ?_)
  refine lv_iconst (v := 2) hx hb dX10_best_16 (by decide) ?_
  refine lv_aload_n hx hb dX10_best_17 rfl (lv_at hl 3 rfl) ?_
  refine va_get (D := (dC, dI)) (ci := 16) (v := .ref va) (C := RX10) (T := TX10) (N := 2) hx hb hts (by decide +kernel) hown hK hR 0 rfl rfl 1 (by decide) (hts (.fieldLink RX10 9 "Underpaint$Votes" "ahead" "[I") (by decide +kernel)) (fun _ h9 => h9) rfl dX10_best_18 ?_
  refine lv_iload_n hx hb dX10_best_21 rfl (lv_at hl 2 rfl) ?_
  refine lv_iconst (v := 3) hx hb dX10_best_22 (by decide) ?_
  refine lv_imul hx hb dX10_best_23 ?_
  refine lv_topi (fun x_15 ex_15 => ?_)
  obtain rfl : x_15 = 0 := ex_15.trans (by decide)
  refine lv_iload_n hx hb dX10_best_24 rfl (lv_at hl 0 rfl) ?_
  refine lv_iadd hx hb dX10_best_25 ?_
  refine lv_topi (fun x_16 ex_16 => ?_)
  obtain rfl : x_16 = 2 := ex_16.trans (by decide)
  refine va_iald hx hb hK hR 1 0 rfl rfl (vp_in_nI (by decide : 2 < 9) (by decide)) dX10_best_26 ?_
  refine lv_topi (fun x_17 ex_17 => ?_)
  obtain rfl : x_17 = 0 := ex_17.trans rfl
  refine lv_imul hx hb dX10_best_27 ?_
  refine lv_topi (fun x_18 ex_18 => ?_)
  obtain rfl : x_18 = 0 := ex_18.trans (by decide)
  refine lv_aload_n hx hb dX10_best_28 rfl (lv_at hl 3 rfl) ?_
  refine va_get (D := (dC, dI)) (ci := 16) (v := .int 0) (C := RX10) (T := TX10) (N := 2) hx hb hts (by decide +kernel) hown hK hR 0 rfl rfl 0 (by decide) (hts (.fieldLink RX10 15 "Underpaint$Votes" "members" "I") (by decide +kernel)) (fun _ h9 => h9) rfl dX10_best_29 ?_
  refine lv_icmp_le (tgt := 38) hx hb dX10_best_32 (by decide) (fun c_19 => ?_) (fun c_19 => absurd c_19 (by decide))
  refine lv_iinc (v := 3) (lv' := [(3, .int 3), (2, .int 0), (1, .int 0), (0, .ref vot)]) hx hb dX10_best_38 hl (k := 0) rfl (by decide) (by decide) rfl (fun ls hl => ?_)
  refine lv_goto (tgt := 11) hx hb dX10_best_41 (by decide) ?_
  refine lv_iload_n hx hb dX10_best_11 rfl (lv_at hl 0 rfl) ?_
  refine lv_iconst (v := 3) hx hb dX10_best_12 (by decide) ?_
  refine lv_icmp_ge (tgt := 44) hx hb dX10_best_13 (by decide) (fun c_20 => ?_) (fun c_20 => absurd c_20 (by decide))
  refine lv_iload_n hx hb dX10_best_44 rfl (lv_at hl 1 rfl) ?_
  refine lv_iconst (v := 2) hx hb dX10_best_45 (by decide) ?_
  refine lv_icmp_ne (tgt := 51) hx hb dX10_best_46 (by decide) (fun c_21 => ?_) (fun c_21 => absurd c_21 (by decide))
  refine lv_iinc (v := 1) (lv' := [(1, .int 1), (3, .int 3), (2, .int 0), (0, .ref vot)]) hx hb dX10_best_51 hl (k := 2) rfl (by decide) (by decide) rfl (fun ls hl => ?_)
  refine lv_goto (tgt := 2) hx hb dX10_best_54 (by decide) ?_
  refine lv_iload_n hx hb dX10_best_2 rfl (lv_at hl 0 rfl) ?_
  refine lv_iconst (v := 3) hx hb dX10_best_3 (by decide) ?_
  refine lv_icmp_ge (tgt := 57) hx hb dX10_best_4 (by decide) (fun c_22 => absurd c_22 (by decide)) (fun c_22 => ?_)
  refine lv_iconst (v := 0) hx hb dX10_best_7 (by decide) ?_
  refine lv_istore_n (lv' := [(2, .int 0), (1, .int 1), (3, .int 3), (0, .ref vot)]) hx hb dX10_best_8 rfl hl (by decide) rfl (fun ls hl => ?_)
  refine lv_iconst (v := 0) hx hb dX10_best_9 (by decide) ?_
  refine lv_istore_n (lv' := [(3, .int 0), (2, .int 0), (1, .int 1), (0, .ref vot)]) hx hb dX10_best_10 rfl hl (by decide) rfl (fun ls hl => ?_)
  refine lv_iload_n hx hb dX10_best_11 rfl (lv_at hl 0 rfl) ?_
  refine lv_iconst (v := 3) hx hb dX10_best_12 (by decide) ?_
  refine lv_icmp_ge (tgt := 44) hx hb dX10_best_13 (by decide) (fun c_23 => absurd c_23 (by decide)) (fun c_23 => ?_)
  refine lv_iconst (v := 2) hx hb dX10_best_16 (by decide) ?_
  refine lv_aload_n hx hb dX10_best_17 rfl (lv_at hl 3 rfl) ?_
  refine va_get (D := (dC, dI)) (ci := 16) (v := .ref va) (C := RX10) (T := TX10) (N := 2) hx hb hts (by decide +kernel) hown hK hR 0 rfl rfl 1 (by decide) (hts (.fieldLink RX10 9 "Underpaint$Votes" "ahead" "[I") (by decide +kernel)) (fun _ h9 => h9) rfl dX10_best_18 ?_
  refine lv_iload_n hx hb dX10_best_21 rfl (lv_at hl 2 rfl) ?_
  refine lv_iconst (v := 3) hx hb dX10_best_22 (by decide) ?_
  refine lv_imul hx hb dX10_best_23 ?_
  refine lv_topi (fun x_24 ex_24 => ?_)
  obtain rfl : x_24 = 3 := ex_24.trans (by decide)
  refine lv_iload_n hx hb dX10_best_24 rfl (lv_at hl 0 rfl) ?_
  refine lv_iadd hx hb dX10_best_25 ?_
  refine lv_topi (fun x_25 ex_25 => ?_)
  obtain rfl : x_25 = 3 := ex_25.trans (by decide)
  refine va_iald hx hb hK hR 1 0 rfl rfl (vp_in_nI (by decide : 3 < 9) (by decide)) dX10_best_26 ?_
  refine lv_topi (fun x_26 ex_26 => ?_)
  obtain rfl : x_26 = 0 := ex_26.trans rfl
  refine lv_imul hx hb dX10_best_27 ?_
  refine lv_topi (fun x_27 ex_27 => ?_)
  obtain rfl : x_27 = 0 := ex_27.trans (by decide)
  refine lv_aload_n hx hb dX10_best_28 rfl (lv_at hl 3 rfl) ?_
  refine va_get (D := (dC, dI)) (ci := 16) (v := .int 0) (C := RX10) (T := TX10) (N := 2) hx hb hts (by decide +kernel) hown hK hR 0 rfl rfl 0 (by decide) (hts (.fieldLink RX10 15 "Underpaint$Votes" "members" "I") (by decide +kernel)) (fun _ h9 => h9) rfl dX10_best_29 ?_
  refine lv_icmp_le (tgt := 38) hx hb dX10_best_32 (by decide) (fun c_28 => ?_) (fun c_28 => absurd c_28 (by decide))
  refine lv_iinc (v := 1) (lv' := [(3, .int 1), (2, .int 0), (1, .int 1), (0, .ref vot)]) hx hb dX10_best_38 hl (k := 0) rfl (by decide) (by decide) rfl (fun ls hl => ?_)
  refine lv_goto (tgt := 11) hx hb dX10_best_41 (by decide) ?_
  refine lv_iload_n hx hb dX10_best_11 rfl (lv_at hl 0 rfl) ?_
  refine lv_iconst (v := 3) hx hb dX10_best_12 (by decide) ?_
  refine lv_icmp_ge (tgt := 44) hx hb dX10_best_13 (by decide) (fun c_29 => absurd c_29 (by decide)) (fun c_29 => ?_)
  refine lv_iconst (v := 2) hx hb dX10_best_16 (by decide) ?_
  refine lv_aload_n hx hb dX10_best_17 rfl (lv_at hl 3 rfl) ?_
  refine va_get (D := (dC, dI)) (ci := 16) (v := .ref va) (C := RX10) (T := TX10) (N := 2) hx hb hts (by decide +kernel) hown hK hR 0 rfl rfl 1 (by decide) (hts (.fieldLink RX10 9 "Underpaint$Votes" "ahead" "[I") (by decide +kernel)) (fun _ h9 => h9) rfl dX10_best_18 ?_
  refine lv_iload_n hx hb dX10_best_21 rfl (lv_at hl 2 rfl) ?_
  refine lv_iconst (v := 3) hx hb dX10_best_22 (by decide) ?_
  refine lv_imul hx hb dX10_best_23 ?_
  refine lv_topi (fun x_30 ex_30 => ?_)
  obtain rfl : x_30 = 3 := ex_30.trans (by decide)
  refine lv_iload_n hx hb dX10_best_24 rfl (lv_at hl 0 rfl) ?_
  refine lv_iadd hx hb dX10_best_25 ?_
  refine lv_topi (fun x_31 ex_31 => ?_)
  obtain rfl : x_31 = 4 := ex_31.trans (by decide)
  refine va_iald hx hb hK hR 1 0 rfl rfl (vp_in_nI (by decide : 4 < 9) (by decide)) dX10_best_26 ?_
  refine lv_topi (fun x_32 ex_32 => ?_)
  obtain rfl : x_32 = 0 := ex_32.trans rfl
  refine lv_imul hx hb dX10_best_27 ?_
  refine lv_topi (fun x_33 ex_33 => ?_)
  obtain rfl : x_33 = 0 := ex_33.trans (by decide)
  refine lv_aload_n hx hb dX10_best_28 rfl (lv_at hl 3 rfl) ?_
  refine va_get (D := (dC, dI)) (ci := 16) (v := .int 0) (C := RX10) (T := TX10) (N := 2) hx hb hts (by decide +kernel) hown hK hR 0 rfl rfl 0 (by decide) (hts (.fieldLink RX10 15 "Underpaint$Votes" "members" "I") (by decide +kernel)) (fun _ h9 => h9) rfl dX10_best_29 ?_
  refine lv_icmp_le (tgt := 38) hx hb dX10_best_32 (by decide) (fun c_34 => ?_) (fun c_34 => absurd c_34 (by decide))
  refine lv_iinc (v := 2) (lv' := [(3, .int 2), (2, .int 0), (1, .int 1), (0, .ref vot)]) hx hb dX10_best_38 hl (k := 0) rfl (by decide) (by decide) rfl (fun ls hl => ?_)
  refine lv_goto (tgt := 11) hx hb dX10_best_41 (by decide) ?_
  refine lv_iload_n hx hb dX10_best_11 rfl (lv_at hl 0 rfl) ?_
  refine lv_iconst (v := 3) hx hb dX10_best_12 (by decide) ?_
  refine lv_icmp_ge (tgt := 44) hx hb dX10_best_13 (by decide) (fun c_35 => absurd c_35 (by decide)) (fun c_35 => ?_)
  refine lv_iconst (v := 2) hx hb dX10_best_16 (by decide) ?_
  refine lv_aload_n hx hb dX10_best_17 rfl (lv_at hl 3 rfl) ?_
  refine va_get (D := (dC, dI)) (ci := 16) (v := .ref va) (C := RX10) (T := TX10) (N := 2) hx hb hts (by decide +kernel) hown hK hR 0 rfl rfl 1 (by decide) (hts (.fieldLink RX10 9 "Underpaint$Votes" "ahead" "[I") (by decide +kernel)) (fun _ h9 => h9) rfl dX10_best_18 ?_
  refine lv_iload_n hx hb dX10_best_21 rfl (lv_at hl 2 rfl) ?_
  refine lv_iconst (v := 3) hx hb dX10_best_22 (by decide) ?_
  refine lv_imul hx hb dX10_best_23 ?_
  refine lv_topi (fun x_36 ex_36 => ?_)
  obtain rfl : x_36 = 3 := ex_36.trans (by decide)
  refine lv_iload_n hx hb dX10_best_24 rfl (lv_at hl 0 rfl) ?_
  refine lv_iadd hx hb dX10_best_25 ?_
  refine lv_topi (fun x_37 ex_37 => ?_)
  obtain rfl : x_37 = 5 := ex_37.trans (by decide)
  refine va_iald hx hb hK hR 1 0 rfl rfl (vp_in_nI (by decide : 5 < 9) (by decide)) dX10_best_26 ?_
  refine lv_topi (fun x_38 ex_38 => ?_)
  obtain rfl : x_38 = 0 := ex_38.trans rfl
  refine lv_imul hx hb dX10_best_27 ?_
  refine lv_topi (fun x_39 ex_39 => ?_)
  obtain rfl : x_39 = 0 := ex_39.trans (by decide)
  refine lv_aload_n hx hb dX10_best_28 rfl (lv_at hl 3 rfl) ?_
  refine va_get (D := (dC, dI)) (ci := 16) (v := .int 0) (C := RX10) (T := TX10) (N := 2) hx hb hts (by decide +kernel) hown hK hR 0 rfl rfl 0 (by decide) (hts (.fieldLink RX10 15 "Underpaint$Votes" "members" "I") (by decide +kernel)) (fun _ h9 => h9) rfl dX10_best_29 ?_
  refine lv_icmp_le (tgt := 38) hx hb dX10_best_32 (by decide) (fun c_40 => ?_) (fun c_40 => absurd c_40 (by decide))
  refine lv_iinc (v := 3) (lv' := [(3, .int 3), (2, .int 0), (1, .int 1), (0, .ref vot)]) hx hb dX10_best_38 hl (k := 0) rfl (by decide) (by decide) rfl (fun ls hl => ?_)
  refine lv_goto (tgt := 11) hx hb dX10_best_41 (by decide) ?_
  refine lv_iload_n hx hb dX10_best_11 rfl (lv_at hl 0 rfl) ?_
  refine lv_iconst (v := 3) hx hb dX10_best_12 (by decide) ?_
  refine lv_icmp_ge (tgt := 44) hx hb dX10_best_13 (by decide) (fun c_41 => ?_) (fun c_41 => absurd c_41 (by decide))
  refine lv_iload_n hx hb dX10_best_44 rfl (lv_at hl 1 rfl) ?_
  refine lv_iconst (v := 2) hx hb dX10_best_45 (by decide) ?_
  refine lv_icmp_ne (tgt := 51) hx hb dX10_best_46 (by decide) (fun c_42 => ?_) (fun c_42 => absurd c_42 (by decide))
  refine lv_iinc (v := 2) (lv' := [(1, .int 2), (3, .int 3), (2, .int 0), (0, .ref vot)]) hx hb dX10_best_51 hl (k := 2) rfl (by decide) (by decide) rfl (fun ls hl => ?_)
  refine lv_goto (tgt := 2) hx hb dX10_best_54 (by decide) ?_
  refine lv_iload_n hx hb dX10_best_2 rfl (lv_at hl 0 rfl) ?_
  refine lv_iconst (v := 3) hx hb dX10_best_3 (by decide) ?_
  refine lv_icmp_ge (tgt := 57) hx hb dX10_best_4 (by decide) (fun c_43 => absurd c_43 (by decide)) (fun c_43 => ?_)
  refine lv_iconst (v := 0) hx hb dX10_best_7 (by decide) ?_
  refine lv_istore_n (lv' := [(2, .int 0), (1, .int 2), (3, .int 3), (0, .ref vot)]) hx hb dX10_best_8 rfl hl (by decide) rfl (fun ls hl => ?_)
  refine lv_iconst (v := 0) hx hb dX10_best_9 (by decide) ?_
  refine lv_istore_n (lv' := [(3, .int 0), (2, .int 0), (1, .int 2), (0, .ref vot)]) hx hb dX10_best_10 rfl hl (by decide) rfl (fun ls hl => ?_)
  refine lv_iload_n hx hb dX10_best_11 rfl (lv_at hl 0 rfl) ?_
  refine lv_iconst (v := 3) hx hb dX10_best_12 (by decide) ?_
  refine lv_icmp_ge (tgt := 44) hx hb dX10_best_13 (by decide) (fun c_44 => absurd c_44 (by decide)) (fun c_44 => ?_)
  refine lv_iconst (v := 2) hx hb dX10_best_16 (by decide) ?_
  refine lv_aload_n hx hb dX10_best_17 rfl (lv_at hl 3 rfl) ?_
  refine va_get (D := (dC, dI)) (ci := 16) (v := .ref va) (C := RX10) (T := TX10) (N := 2) hx hb hts (by decide +kernel) hown hK hR 0 rfl rfl 1 (by decide) (hts (.fieldLink RX10 9 "Underpaint$Votes" "ahead" "[I") (by decide +kernel)) (fun _ h9 => h9) rfl dX10_best_18 ?_
  refine lv_iload_n hx hb dX10_best_21 rfl (lv_at hl 2 rfl) ?_
  refine lv_iconst (v := 3) hx hb dX10_best_22 (by decide) ?_
  refine lv_imul hx hb dX10_best_23 ?_
  refine lv_topi (fun x_45 ex_45 => ?_)
  obtain rfl : x_45 = 6 := ex_45.trans (by decide)
  refine lv_iload_n hx hb dX10_best_24 rfl (lv_at hl 0 rfl) ?_
  refine lv_iadd hx hb dX10_best_25 ?_
  refine lv_topi (fun x_46 ex_46 => ?_)
  obtain rfl : x_46 = 6 := ex_46.trans (by decide)
  refine va_iald hx hb hK hR 1 0 rfl rfl (vp_in_nI (by decide : 6 < 9) (by decide)) dX10_best_26 ?_
  refine lv_topi (fun x_47 ex_47 => ?_)
  obtain rfl : x_47 = 0 := ex_47.trans rfl
  refine lv_imul hx hb dX10_best_27 ?_
  refine lv_topi (fun x_48 ex_48 => ?_)
  obtain rfl : x_48 = 0 := ex_48.trans (by decide)
  refine lv_aload_n hx hb dX10_best_28 rfl (lv_at hl 3 rfl) ?_
  refine va_get (D := (dC, dI)) (ci := 16) (v := .int 0) (C := RX10) (T := TX10) (N := 2) hx hb hts (by decide +kernel) hown hK hR 0 rfl rfl 0 (by decide) (hts (.fieldLink RX10 15 "Underpaint$Votes" "members" "I") (by decide +kernel)) (fun _ h9 => h9) rfl dX10_best_29 ?_
  refine lv_icmp_le (tgt := 38) hx hb dX10_best_32 (by decide) (fun c_49 => ?_) (fun c_49 => absurd c_49 (by decide))
  refine lv_iinc (v := 1) (lv' := [(3, .int 1), (2, .int 0), (1, .int 2), (0, .ref vot)]) hx hb dX10_best_38 hl (k := 0) rfl (by decide) (by decide) rfl (fun ls hl => ?_)
  refine lv_goto (tgt := 11) hx hb dX10_best_41 (by decide) ?_
  refine lv_iload_n hx hb dX10_best_11 rfl (lv_at hl 0 rfl) ?_
  refine lv_iconst (v := 3) hx hb dX10_best_12 (by decide) ?_
  refine lv_icmp_ge (tgt := 44) hx hb dX10_best_13 (by decide) (fun c_50 => absurd c_50 (by decide)) (fun c_50 => ?_)
  refine lv_iconst (v := 2) hx hb dX10_best_16 (by decide) ?_
  refine lv_aload_n hx hb dX10_best_17 rfl (lv_at hl 3 rfl) ?_
  refine va_get (D := (dC, dI)) (ci := 16) (v := .ref va) (C := RX10) (T := TX10) (N := 2) hx hb hts (by decide +kernel) hown hK hR 0 rfl rfl 1 (by decide) (hts (.fieldLink RX10 9 "Underpaint$Votes" "ahead" "[I") (by decide +kernel)) (fun _ h9 => h9) rfl dX10_best_18 ?_
  refine lv_iload_n hx hb dX10_best_21 rfl (lv_at hl 2 rfl) ?_
  refine lv_iconst (v := 3) hx hb dX10_best_22 (by decide) ?_
  refine lv_imul hx hb dX10_best_23 ?_
  refine lv_topi (fun x_51 ex_51 => ?_)
  obtain rfl : x_51 = 6 := ex_51.trans (by decide)
  refine lv_iload_n hx hb dX10_best_24 rfl (lv_at hl 0 rfl) ?_
  refine lv_iadd hx hb dX10_best_25 ?_
  refine lv_topi (fun x_52 ex_52 => ?_)
  obtain rfl : x_52 = 7 := ex_52.trans (by decide)
  refine va_iald hx hb hK hR 1 0 rfl rfl (vp_in_nI (by decide : 7 < 9) (by decide)) dX10_best_26 ?_
  refine lv_topi (fun x_53 ex_53 => ?_)
  obtain rfl : x_53 = 0 := ex_53.trans rfl
  refine lv_imul hx hb dX10_best_27 ?_
  refine lv_topi (fun x_54 ex_54 => ?_)
  obtain rfl : x_54 = 0 := ex_54.trans (by decide)
  refine lv_aload_n hx hb dX10_best_28 rfl (lv_at hl 3 rfl) ?_
  refine va_get (D := (dC, dI)) (ci := 16) (v := .int 0) (C := RX10) (T := TX10) (N := 2) hx hb hts (by decide +kernel) hown hK hR 0 rfl rfl 0 (by decide) (hts (.fieldLink RX10 15 "Underpaint$Votes" "members" "I") (by decide +kernel)) (fun _ h9 => h9) rfl dX10_best_29 ?_
  refine lv_icmp_le (tgt := 38) hx hb dX10_best_32 (by decide) (fun c_55 => ?_) (fun c_55 => absurd c_55 (by decide))
  refine lv_iinc (v := 2) (lv' := [(3, .int 2), (2, .int 0), (1, .int 2), (0, .ref vot)]) hx hb dX10_best_38 hl (k := 0) rfl (by decide) (by decide) rfl (fun ls hl => ?_)
  refine lv_goto (tgt := 11) hx hb dX10_best_41 (by decide) ?_
  refine lv_iload_n hx hb dX10_best_11 rfl (lv_at hl 0 rfl) ?_
  refine lv_iconst (v := 3) hx hb dX10_best_12 (by decide) ?_
  refine lv_icmp_ge (tgt := 44) hx hb dX10_best_13 (by decide) (fun c_56 => absurd c_56 (by decide)) (fun c_56 => ?_)
  refine lv_iconst (v := 2) hx hb dX10_best_16 (by decide) ?_
  refine lv_aload_n hx hb dX10_best_17 rfl (lv_at hl 3 rfl) ?_
  refine va_get (D := (dC, dI)) (ci := 16) (v := .ref va) (C := RX10) (T := TX10) (N := 2) hx hb hts (by decide +kernel) hown hK hR 0 rfl rfl 1 (by decide) (hts (.fieldLink RX10 9 "Underpaint$Votes" "ahead" "[I") (by decide +kernel)) (fun _ h9 => h9) rfl dX10_best_18 ?_
  refine lv_iload_n hx hb dX10_best_21 rfl (lv_at hl 2 rfl) ?_
  refine lv_iconst (v := 3) hx hb dX10_best_22 (by decide) ?_
  refine lv_imul hx hb dX10_best_23 ?_
  refine lv_topi (fun x_57 ex_57 => ?_)
  obtain rfl : x_57 = 6 := ex_57.trans (by decide)
  refine lv_iload_n hx hb dX10_best_24 rfl (lv_at hl 0 rfl) ?_
  refine lv_iadd hx hb dX10_best_25 ?_
  refine lv_topi (fun x_58 ex_58 => ?_)
  obtain rfl : x_58 = 8 := ex_58.trans (by decide)
  refine va_iald hx hb hK hR 1 0 rfl rfl (vp_in_nI (by decide : 8 < 9) (by decide)) dX10_best_26 ?_
  refine lv_topi (fun x_59 ex_59 => ?_)
  obtain rfl : x_59 = 0 := ex_59.trans rfl
  refine lv_imul hx hb dX10_best_27 ?_
  refine lv_topi (fun x_60 ex_60 => ?_)
  obtain rfl : x_60 = 0 := ex_60.trans (by decide)
  refine lv_aload_n hx hb dX10_best_28 rfl (lv_at hl 3 rfl) ?_
  refine va_get (D := (dC, dI)) (ci := 16) (v := .int 0) (C := RX10) (T := TX10) (N := 2) hx hb hts (by decide +kernel) hown hK hR 0 rfl rfl 0 (by decide) (hts (.fieldLink RX10 15 "Underpaint$Votes" "members" "I") (by decide +kernel)) (fun _ h9 => h9) rfl dX10_best_29 ?_
  refine lv_icmp_le (tgt := 38) hx hb dX10_best_32 (by decide) (fun c_61 => ?_) (fun c_61 => absurd c_61 (by decide))
  refine lv_iinc (v := 3) (lv' := [(3, .int 3), (2, .int 0), (1, .int 2), (0, .ref vot)]) hx hb dX10_best_38 hl (k := 0) rfl (by decide) (by decide) rfl (fun ls hl => ?_)
  refine lv_goto (tgt := 11) hx hb dX10_best_41 (by decide) ?_
  refine lv_iload_n hx hb dX10_best_11 rfl (lv_at hl 0 rfl) ?_
  refine lv_iconst (v := 3) hx hb dX10_best_12 (by decide) ?_
  refine lv_icmp_ge (tgt := 44) hx hb dX10_best_13 (by decide) (fun c_62 => ?_) (fun c_62 => absurd c_62 (by decide))
  refine lv_iload_n hx hb dX10_best_44 rfl (lv_at hl 1 rfl) ?_
  refine lv_iconst (v := 2) hx hb dX10_best_45 (by decide) ?_
  refine lv_icmp_ne (tgt := 51) hx hb dX10_best_46 (by decide) (fun c_63 => ?_) (fun c_63 => absurd c_63 (by decide))
  refine lv_iinc (v := 3) (lv' := [(1, .int 3), (3, .int 3), (2, .int 0), (0, .ref vot)]) hx hb dX10_best_51 hl (k := 2) rfl (by decide) (by decide) rfl (fun ls hl => ?_)
  refine lv_goto (tgt := 2) hx hb dX10_best_54 (by decide) ?_
  refine lv_iload_n hx hb dX10_best_2 rfl (lv_at hl 0 rfl) ?_
  refine lv_iconst (v := 3) hx hb dX10_best_3 (by decide) ?_
  refine lv_icmp_ge (tgt := 57) hx hb dX10_best_4 (by decide) (fun c_64 => ?_) (fun c_64 => absurd c_64 (by decide))
  refine lv_iconst (v := (-1)) hx hb dX10_best_57 (by decide) ?_
  refine W.widen (k := 0) (n := 0) (Nat.le_of_ble_eq_true rfl) (Nat.le_of_ble_eq_true rfl) ?_
  exact W.iret (v := (-1)) hx hb hr (fun t ht hW => ⟨⟨(-1), (), rfl, (z_c_X14_scratches_159), trivial⟩, hS.F ht⟩) hS.2.2 dX10_best_58

def wo_c_X11_winner_w : List Cond := [Cond.fieldLink RX11 39 "Underpaint" "votes" "LUnderpaint$Votes;"]
def wo_c_X11_winner : List Cond := .code yX11_winner cX11_winner 2 (some .char) :: (wo_c_X11_winner_w ++ (u_ws RX11 TX11 14 ++ (wsV RX11 376 RX10 yX10_best wo_c_X10_best ++ (va_wsS RX11 187 yX11_demandElement wsX11_demandElement ++ List.nil))))
theorem gw_wo_c_X11_winner : wo_c_X11_winner.all goodWord = true := gw_c (by decide +kernel) (gw_a (by decide +kernel) (gw_a (by decide +kernel) (gw_a (gw_a (by decide +kernel) gw_wo_c_X10_best) (gw_a (gw_a (by decide +kernel) gw_wsX11_demandElement) rfl))))
theorem go_c_X11_winner_0 : GoodIn wo_c_X11_winner (wsV RX11 376 RX10 yX10_best wo_c_X10_best) := goodIn_sub (fun _ h => List.mem_cons_of_mem _ (List.mem_append_right _ (List.mem_append_right _ (List.mem_append_left _ h)))) (gw_a (by decide +kernel) gw_wo_c_X10_best)
theorem go_c_X11_winner_1 : GoodIn wo_c_X11_winner (va_wsS RX11 187 yX11_demandElement wsX11_demandElement) := goodIn_sub (fun _ h => List.mem_cons_of_mem _ (List.mem_append_right _ (List.mem_append_right _ (List.mem_append_right _ (List.mem_append_left _ h))))) (gw_a (by decide +kernel) gw_wsX11_demandElement)
set_option maxHeartbeats 4000000 in
set_option maxRecDepth 100000 in
theorem c_X11_winner (l : Launch) (hst : l.stackTraces = false) (dC : Nat → ClassId) (dI : Nat → Nat → Nat) (b0 : Nat) (en : EnT) (sz : Nat) (h pal she fil nte dat vot loa nos pic spa : Nat) (va : Nat) (kI : ClassId) : vx_Met l yX11_winner wo_c_X11_winner ({ frames := 7, cells := 1, slots := 6, locals := 110 } : Room) (cP b0 en (dC, dI) [(kI, .int)] [] [(h, .inr (17, [.ref pal, .ref she, .ref fil, .ref nte, .ref dat, .ref vot, .ref loa, .ref nos, .ref pic, .ref spa, .int 5, .int 50, .int 1600, .int 0])), (vot, .inr (16, [.int 0, .ref va])), (va, .inl (kI, 9, .inl (fun _ => 0)))] sz (fun _ => True) [.ref h]) (va_Qi (fun (r : Int32) (_ : Unit) => False) (fun _ _ => True) (va_A [] sz)) (vx_X (fun _ : Unit => True) (fun E _ _ => (E = "java/util/NoSuchElementException" ∧ True)) (va_A [] sz)) 1 6 (va_A [] sz) := by
  refine vx_ofW (cc := cX11_winner) (maxL := 2) (ret := (some .char)) (by decide) rfl ?_
  intro p e s m args below meth c s₁ B hml hext hv
  obtain ⟨rfl, hsz, hb0, hE, hPP, hK, hDD, hF0⟩ := hv
  have hx := B.exec
  have hb := B.bytes
  have hr := B.returns
  have hts := atoms_spec (ws := wo_c_X11_winner) B.pre
  have hown : s.vm.findClass RX11 = some m.cls := findClass_of_methodNamed B.named
  have hlocks := B.notSynchronized
  subst hsz
  have hN0 := en_N hPP hDD rfl
  have hP : va_P (dC, dI) vwCl [] s.heap := hPP.sub [] rfl
  have hR0 : va_P (dC, dI) vwCl [(h, .inr (17, [.ref pal, .ref she, .ref fil, .ref nte, .ref dat, .ref vot, .ref loa, .ref nos, .ref pic, .ref spa, .int 5, .int 50, .int 1600, .int 0])), (vot, .inr (16, [.int 0, .ref va])), (va, .inl (kI, 9, .inl (fun _ => 0)))] s.heap := hPP.sub [0, 1, 2] rfl
  have hD0 : va_D (fun q => b0 ≤ q) [] := hDD.sub [] (by decide) rfl
  have hDr : va_D (fun q => b0 ≤ q) [(h, .inr (17, [.ref pal, .ref she, .ref fil, .ref nte, .ref dat, .ref vot, .ref loa, .ref nos, .ref pic, .ref spa, .int 5, .int 50, .int 1600, .int 0])), (vot, .inr (16, [.int 0, .ref va])), (va, .inl (kI, 9, .inl (fun _ => 0)))] := hDD.sub [0, 1, 2] (by decide) rfl
  have hAb := en_A (sz := s.heap.size) hD0 hb0
  have hD := hD0.self (sz := s.heap.size)
  generalize hAe : va_A [] s.heap.size = A at hD hAb hN0 ⊢
  have hA : ∀ q : Nat, s.heap.size ≤ q → A q := fun q h => by rw [← hAe]; exact Or.inr h
  have hS : va_S A s.heap s.heap [] := va_S.rf
  have hR := hR0
  have hl := lv_entry [.ref h] (n := 2) (Nat.le_of_ble_eq_true rfl)
  rw [lg_entry_eq]
  generalize (lg_sl [.ref h] ++ List.replicate (2 - (lg_sl [.ref h]).length) Slot.unset).toArray = ls at hl ⊢
  have hl : lv_has ls 2 [(0, .ref h)] := hl
  refine lv_aload_n hx hb dX11_winner_0 rfl (lv_at hl 0 rfl) ?_
  refine va_get (D := (dC, dI)) (ci := 17) (v := .ref vot) (C := RX11) (T := TX11) (N := 14) hx hb hts (by decide +kernel) hown hK hR 0 rfl rfl 5 (by decide) (hts (.fieldLink RX11 39 "Underpaint" "votes" "LUnderpaint$Votes;") (by decide +kernel)) (fun _ h9 => h9) rfl dX11_winner_1 ?_
  have hPc := (hP.app hR).sub (ws' := [] ++ [(vot, .inr (16, [.int 0, .ref va])), (va, .inl (kI, 9, .inl (fun _ => 0)))]) [1, 2] rfl
  have hDc := (en_DD hD hDr hN0 hAb).sub (ws' := [] ++ [(vot, .inr (16, [.int 0, .ref va])), (va, .inl (kI, 9, .inl (fun _ => 0)))]) [1, 2] (by decide) rfl
  have hKc := hK.sub (tys' := [(kI, .int)]) [0] rfl
  have hFc := va_free (wc := []) hD hS hA [] rfl
  refine va_calli (va_runV (As := []) (rest := []) ⟨hx, hb, hml, hown, hts⟩ (c_X10_best l dC dI b0 en s.heap.size vot va kI) (cwV 0 hts go_c_X11_winner_0 rfl rfl rfl (by decide +kernel) ⟨Nat.le_of_ble_eq_true rfl, Nat.le_of_ble_eq_true rfl⟩) ⟨cP.blind, va_recv hK hR (ci := 16) (q0 := 1) rfl rfl, cP.use (en_z hb0 hS) (hE.on hAb hS) hPc hKc hDc trivial⟩ rfl rfl hl.1 rfl (lv_room (Nat.le_of_ble_eq_true rfl)) dX11_winner_4 ⟨Nat.le_of_ble_eq_true rfl, Nat.le_of_ble_eq_true rfl⟩) hS (fun q _ h => hFc q h) hFc (fun r_1 u t H1 locs ht hvm hw hB hz1 hk1 hS => ?_)
  have hP1 : va_P (dC, dI) vwCl [] H1 := fun k q h => by simp at h
  have hD1 : va_D (va_A [] s.heap.size) [] := ⟨fun i j p q h => by simp at h, fun k q h => by simp at h⟩
  try dsimp only at hw
  obtain ⟨hP, hD⟩ := va_join (wr := []) (w1 := []) hP hD [] [] rfl rfl (by decide) (by decide) hk1 hFc hP1 hD1
  generalize H1 = H at hP hS ⊢
  have hP : va_P (dC, dI) vwCl [] H := hP
  have hD : va_D A [] := hD
  have hR := en_R hR0 hN0 hS
  refine W.widen (k := 0) (n := 0) (Nat.le_of_ble_eq_true rfl) (Nat.le_of_ble_eq_true rfl) ?_
  subst r_1
  refine lv_istore_n (lv' := [(1, .int (-1)), (0, .ref h)]) hx hb dX11_winner_7 rfl hl (by decide) rfl (fun ls hl => ?_)
  refine lv_iload_n hx hb dX11_winner_8 rfl (lv_at hl 0 rfl) ?_
  refine lv_iconst (v := (-1)) hx hb dX11_winner_9 (by decide) ?_
  refine lv_icmp_eq (tgt := 17) hx hb dX11_winner_10 (by decide) (fun c_2 => ?_) (fun c_2 => absurd c_2 (by decide))
  refine lv_iconst (v := 0) hx hb dX11_winner_17 (by decide) ?_
  have hPc := (hP.app hR).sub (ws' := [] ++ []) [] rfl
  have hDc := (en_DD hD hDr hN0 hAb).sub (ws' := [] ++ []) [] (by decide) rfl
  have hKc := hK.sub (tys' := []) [] rfl
  have hFc := va_free (wc := []) hD hS hA [] rfl
  refine vx_callv (vx_runS (As := [.int 0]) (rest := []) ⟨hx, hb, hml, hown, hts⟩ (c_X11_demandElement l hst dC dI b0 en H.size 0) (va_cwS 1 hts go_c_X11_winner_1 rfl rfl rfl (by decide +kernel) ⟨Nat.le_of_ble_eq_true rfl, Nat.le_of_ble_eq_true rfl⟩) ⟨cP.blind, cP.use (en_z hb0 hS) (hE.on hAb hS) hPc hKc hDc trivial⟩ rfl rfl hl.1 rfl (lv_room (Nat.le_of_ble_eq_true rfl)) dX11_winner_18 ⟨Nat.le_of_ble_eq_true rfl, Nat.le_of_ble_eq_true rfl⟩) hS (fun q _ h => hFc q h) hFc (fun q _ h => hFc q h) (fun E ce q9 u t H1 locs ht hvm hpx hBX hz1 hk1 hS hce hcv hcl => ?_) (fun u t H1 locs ht hvm hw hB hz1 hk1 hS => ?_)
  · skip
    try dsimp only at hBX
    obtain ⟨rfl, hc⟩ := hBX
    refine vx_widen (k := 1) (n := 6) (Nat.le_of_ble_eq_true rfl) (Nat.le_of_ble_eq_true rfl) ?_
    exact vx_out (fun x hx => (hext x hx).elim) hlocks hce hcv hcl (fun t ht hW => ⟨(), trivial, ⟨rfl, trivial⟩, hS.F ht⟩) hS.2.2 (Nat.le_refl _) (Nat.le_refl _)
  have hP1 : va_P (dC, dI) vwCl [] H1 := fun k q h => by simp at h
  have hD1 : va_D (va_A [] H.size) [] := ⟨fun i j p q h => by simp at h, fun k q h => by simp at h⟩
  try dsimp only at hw
  obtain ⟨hP, hD⟩ := va_join (wr := []) (w1 := []) hP hD [] [] rfl rfl (by decide) (by decide) hk1 hFc hP1 hD1
  generalize H1 = H at hP hS ⊢
  have hP : va_P (dC, dI) vwCl [] H := hP
  have hD : va_D A [] := hD
  have hR := en_R hR0 hN0 hS
  refine W.widen (k := 1) (n := 6) (Nat.le_of_ble_eq_true rfl) (Nat.le_of_ble_eq_true rfl) ?_
  have h_4 := hw
  exact absurd h_4 (by decide)
