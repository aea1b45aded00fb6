theorem dX8_copyFrom_0 : decode cX8_copyFrom 0 = .ok (.aload_n 0, 1) := by decide +kernel
theorem dX8_copyFrom_1 : decode cX8_copyFrom 1 = .ok (.aload_n 1, 1) := by decide +kernel
theorem dX8_copyFrom_2 : decode cX8_copyFrom 2 = .ok (.getfield 20, 3) := by decide +kernel
theorem dX8_copyFrom_5 : decode cX8_copyFrom 5 = .ok (.putfield 20, 3) := by decide +kernel
theorem dX8_copyFrom_8 : decode cX8_copyFrom 8 = .ok (.aload_n 0, 1) := by decide +kernel
theorem dX8_copyFrom_9 : decode cX8_copyFrom 9 = .ok (.aload_n 1, 1) := by decide +kernel
theorem dX8_copyFrom_10 : decode cX8_copyFrom 10 = .ok (.getfield 89, 3) := by decide +kernel
theorem dX8_copyFrom_13 : decode cX8_copyFrom 13 = .ok (.putfield 89, 3) := by decide +kernel
theorem dX8_copyFrom_16 : decode cX8_copyFrom 16 = .ok (.iconst 0, 1) := by decide +kernel
theorem dX8_copyFrom_17 : decode cX8_copyFrom 17 = .ok (.istore_n 2, 1) := by decide +kernel
theorem dX8_copyFrom_18 : decode cX8_copyFrom 18 = .ok (.iload_n 2, 1) := by decide +kernel
theorem dX8_copyFrom_19 : decode cX8_copyFrom 19 = .ok (.aload_n 0, 1) := by decide +kernel
theorem dX8_copyFrom_20 : decode cX8_copyFrom 20 = .ok (.getfield 20, 3) := by decide +kernel
theorem dX8_copyFrom_23 : decode cX8_copyFrom 23 = .ok (.if_icmp .ge 24, 3) := by decide +kernel
theorem dX8_copyFrom_47 : decode cX8_copyFrom 47 = .ok (.return_, 1) := by decide +kernel
theorem dX8_isSameAs_0 : decode cX8_isSameAs 0 = .ok (.aload_n 0, 1) := by decide +kernel
theorem dX8_isSameAs_1 : decode cX8_isSameAs 1 = .ok (.getfield 20, 3) := by decide +kernel
theorem dX8_isSameAs_4 : decode cX8_isSameAs 4 = .ok (.aload_n 1, 1) := by decide +kernel
theorem dX8_isSameAs_5 : decode cX8_isSameAs 5 = .ok (.getfield 20, 3) := by decide +kernel
theorem dX8_isSameAs_8 : decode cX8_isSameAs 8 = .ok (.if_icmp .ne 14, 3) := by decide +kernel
theorem dX8_isSameAs_11 : decode cX8_isSameAs 11 = .ok (.aload_n 0, 1) := by decide +kernel
theorem dX8_isSameAs_12 : decode cX8_isSameAs 12 = .ok (.getfield 89, 3) := by decide +kernel
theorem dX8_isSameAs_15 : decode cX8_isSameAs 15 = .ok (.aload_n 1, 1) := by decide +kernel
theorem dX8_isSameAs_16 : decode cX8_isSameAs 16 = .ok (.getfield 89, 3) := by decide +kernel
theorem dX8_isSameAs_19 : decode cX8_isSameAs 19 = .ok (.if_icmp .eq 5, 3) := by decide +kernel
theorem dX8_isSameAs_24 : decode cX8_isSameAs 24 = .ok (.iconst 0, 1) := by decide +kernel
theorem dX8_isSameAs_25 : decode cX8_isSameAs 25 = .ok (.istore_n 2, 1) := by decide +kernel
theorem dX8_isSameAs_26 : decode cX8_isSameAs 26 = .ok (.iload_n 2, 1) := by decide +kernel
theorem dX8_isSameAs_27 : decode cX8_isSameAs 27 = .ok (.aload_n 0, 1) := by decide +kernel
theorem dX8_isSameAs_28 : decode cX8_isSameAs 28 = .ok (.getfield 20, 3) := by decide +kernel
theorem dX8_isSameAs_31 : decode cX8_isSameAs 31 = .ok (.if_icmp .ge 29, 3) := by decide +kernel
theorem dX8_isSameAs_60 : decode cX8_isSameAs 60 = .ok (.iconst 1, 1) := by decide +kernel
theorem dX8_isSameAs_61 : decode cX8_isSameAs 61 = .ok (.ireturn, 1) := by decide +kernel
theorem dX5_copyFrom_0 : decode cX5_copyFrom 0 = .ok (.aload_n 0, 1) := by decide +kernel
theorem dX5_copyFrom_1 : decode cX5_copyFrom 1 = .ok (.aload_n 1, 1) := by decide +kernel
theorem dX5_copyFrom_2 : decode cX5_copyFrom 2 = .ok (.getfield 24, 3) := by decide +kernel
theorem dX5_copyFrom_5 : decode cX5_copyFrom 5 = .ok (.putfield 24, 3) := by decide +kernel
theorem dX5_copyFrom_8 : decode cX5_copyFrom 8 = .ok (.aload_n 0, 1) := by decide +kernel
theorem dX5_copyFrom_9 : decode cX5_copyFrom 9 = .ok (.aload_n 1, 1) := by decide +kernel
theorem dX5_copyFrom_10 : decode cX5_copyFrom 10 = .ok (.getfield 170, 3) := by decide +kernel
theorem dX5_copyFrom_13 : decode cX5_copyFrom 13 = .ok (.putfield 170, 3) := by decide +kernel
theorem dX5_copyFrom_16 : decode cX5_copyFrom 16 = .ok (.iconst 0, 1) := by decide +kernel
theorem dX5_copyFrom_17 : decode cX5_copyFrom 17 = .ok (.istore_n 2, 1) := by decide +kernel
theorem dX5_copyFrom_18 : decode cX5_copyFrom 18 = .ok (.iload_n 2, 1) := by decide +kernel
theorem dX5_copyFrom_19 : decode cX5_copyFrom 19 = .ok (.aload_n 0, 1) := by decide +kernel
theorem dX5_copyFrom_20 : decode cX5_copyFrom 20 = .ok (.getfield 170, 3) := by decide +kernel
theorem dX5_copyFrom_23 : decode cX5_copyFrom 23 = .ok (.if_icmp .ge 33, 3) := by decide +kernel
theorem dX5_copyFrom_56 : decode cX5_copyFrom 56 = .ok (.iconst 0, 1) := by decide +kernel
theorem dX5_copyFrom_57 : decode cX5_copyFrom 57 = .ok (.istore_n 2, 1) := by decide +kernel
theorem dX5_copyFrom_58 : decode cX5_copyFrom 58 = .ok (.iload_n 2, 1) := by decide +kernel
theorem dX5_copyFrom_59 : decode cX5_copyFrom 59 = .ok (.bipush 48, 2) := by decide +kernel
theorem dX5_copyFrom_61 : decode cX5_copyFrom 61 = .ok (.if_icmp .ge 24, 3) := by decide +kernel
theorem dX5_copyFrom_85 : decode cX5_copyFrom 85 = .ok (.return_, 1) := by decide +kernel
theorem dX5_copyFrom_64 : decode cX5_copyFrom 64 = .ok (.aload_n 0, 1) := by decide +kernel
theorem dX5_copyFrom_65 : decode cX5_copyFrom 65 = .ok (.getfield 11, 3) := by decide +kernel
theorem dX5_copyFrom_68 : decode cX5_copyFrom 68 = .ok (.iload_n 2, 1) := by decide +kernel
theorem dX5_copyFrom_69 : decode cX5_copyFrom 69 = .ok (.aaload, 1) := by decide +kernel
theorem dX5_copyFrom_70 : decode cX5_copyFrom 70 = .ok (.aload_n 1, 1) := by decide +kernel
theorem dX5_copyFrom_71 : decode cX5_copyFrom 71 = .ok (.getfield 11, 3) := by decide +kernel
theorem dX5_copyFrom_74 : decode cX5_copyFrom 74 = .ok (.iload_n 2, 1) := by decide +kernel
theorem dX5_copyFrom_75 : decode cX5_copyFrom 75 = .ok (.aaload, 1) := by decide +kernel
theorem dX5_copyFrom_76 : decode cX5_copyFrom 76 = .ok (.invokevirtual 235, 3) := by decide +kernel
theorem dX5_copyFrom_79 : decode cX5_copyFrom 79 = .ok (.iinc 2 1, 3) := by decide +kernel
theorem dX5_copyFrom_82 : decode cX5_copyFrom 82 = .ok (.goto (-24), 3) := by decide +kernel
theorem dX5_isSameAs_0 : decode cX5_isSameAs 0 = .ok (.aload_n 0, 1) := by decide +kernel
theorem dX5_isSameAs_1 : decode cX5_isSameAs 1 = .ok (.getfield 24, 3) := by decide +kernel
theorem dX5_isSameAs_4 : decode cX5_isSameAs 4 = .ok (.aload_n 1, 1) := by decide +kernel
theorem dX5_isSameAs_5 : decode cX5_isSameAs 5 = .ok (.getfield 24, 3) := by decide +kernel
theorem dX5_isSameAs_8 : decode cX5_isSameAs 8 = .ok (.if_icmp .ne 14, 3) := by decide +kernel
theorem dX5_isSameAs_11 : decode cX5_isSameAs 11 = .ok (.aload_n 0, 1) := by decide +kernel
theorem dX5_isSameAs_12 : decode cX5_isSameAs 12 = .ok (.getfield 170, 3) := by decide +kernel
theorem dX5_isSameAs_15 : decode cX5_isSameAs 15 = .ok (.aload_n 1, 1) := by decide +kernel
theorem dX5_isSameAs_16 : decode cX5_isSameAs 16 = .ok (.getfield 170, 3) := by decide +kernel
theorem dX5_isSameAs_19 : decode cX5_isSameAs 19 = .ok (.if_icmp .eq 5, 3) := by decide +kernel
theorem dX5_isSameAs_24 : decode cX5_isSameAs 24 = .ok (.iconst 0, 1) := by decide +kernel
theorem dX5_isSameAs_25 : decode cX5_isSameAs 25 = .ok (.istore_n 2, 1) := by decide +kernel
theorem dX5_isSameAs_26 : decode cX5_isSameAs 26 = .ok (.iload_n 2, 1) := by decide +kernel
theorem dX5_isSameAs_27 : decode cX5_isSameAs 27 = .ok (.aload_n 0, 1) := by decide +kernel
theorem dX5_isSameAs_28 : decode cX5_isSameAs 28 = .ok (.getfield 170, 3) := by decide +kernel
theorem dX5_isSameAs_31 : decode cX5_isSameAs 31 = .ok (.if_icmp .ge 41, 3) := by decide +kernel
theorem dX5_isSameAs_72 : decode cX5_isSameAs 72 = .ok (.iconst 0, 1) := by decide +kernel
theorem dX5_isSameAs_73 : decode cX5_isSameAs 73 = .ok (.istore_n 2, 1) := by decide +kernel
theorem dX5_isSameAs_74 : decode cX5_isSameAs 74 = .ok (.iload_n 2, 1) := by decide +kernel
theorem dX5_isSameAs_75 : decode cX5_isSameAs 75 = .ok (.bipush 48, 2) := by decide +kernel
theorem dX5_isSameAs_77 : decode cX5_isSameAs 77 = .ok (.if_icmp .ge 29, 3) := by decide +kernel
theorem dX5_isSameAs_106 : decode cX5_isSameAs 106 = .ok (.iconst 1, 1) := by decide +kernel
theorem dX5_isSameAs_107 : decode cX5_isSameAs 107 = .ok (.ireturn, 1) := by decide +kernel
theorem dX5_isSameAs_80 : decode cX5_isSameAs 80 = .ok (.aload_n 0, 1) := by decide +kernel
theorem dX5_isSameAs_81 : decode cX5_isSameAs 81 = .ok (.getfield 11, 3) := by decide +kernel
theorem dX5_isSameAs_84 : decode cX5_isSameAs 84 = .ok (.iload_n 2, 1) := by decide +kernel
theorem dX5_isSameAs_85 : decode cX5_isSameAs 85 = .ok (.aaload, 1) := by decide +kernel
theorem dX5_isSameAs_86 : decode cX5_isSameAs 86 = .ok (.aload_n 1, 1) := by decide +kernel
theorem dX5_isSameAs_87 : decode cX5_isSameAs 87 = .ok (.getfield 11, 3) := by decide +kernel
theorem dX5_isSameAs_90 : decode cX5_isSameAs 90 = .ok (.iload_n 2, 1) := by decide +kernel
theorem dX5_isSameAs_91 : decode cX5_isSameAs 91 = .ok (.aaload, 1) := by decide +kernel
theorem dX5_isSameAs_92 : decode cX5_isSameAs 92 = .ok (.invokevirtual 239, 3) := by decide +kernel
theorem dX5_isSameAs_95 : decode cX5_isSameAs 95 = .ok (.ifCond .ne 5, 3) := by decide +kernel
theorem dX5_isSameAs_100 : decode cX5_isSameAs 100 = .ok (.iinc 2 1, 3) := by decide +kernel
theorem dX5_isSameAs_103 : decode cX5_isSameAs 103 = .ok (.goto (-29), 3) := by decide +kernel
theorem dX5_empty_0 : decode cX5_empty 0 = .ok (.aload_n 0, 1) := by decide +kernel
theorem dX5_empty_1 : decode cX5_empty 1 = .ok (.sipush 1600, 3) := by decide +kernel
theorem dX5_empty_4 : decode cX5_empty 4 = .ok (.putfield 24, 3) := by decide +kernel
theorem dX5_empty_7 : decode cX5_empty 7 = .ok (.aload_n 0, 1) := by decide +kernel
theorem dX5_empty_8 : decode cX5_empty 8 = .ok (.iconst 0, 1) := by decide +kernel
theorem dX5_empty_9 : decode cX5_empty 9 = .ok (.putfield 170, 3) := by decide +kernel
theorem dX5_empty_12 : decode cX5_empty 12 = .ok (.iconst 0, 1) := by decide +kernel
theorem dX5_empty_13 : decode cX5_empty 13 = .ok (.istore_n 1, 1) := by decide +kernel
theorem dX5_empty_14 : decode cX5_empty 14 = .ok (.iload_n 1, 1) := by decide +kernel
theorem dX5_empty_15 : decode cX5_empty 15 = .ok (.bipush 48, 2) := by decide +kernel
theorem dX5_empty_17 : decode cX5_empty 17 = .ok (.if_icmp .ge 29, 3) := by decide +kernel
theorem dX5_empty_46 : decode cX5_empty 46 = .ok (.return_, 1) := by decide +kernel
theorem dX5_empty_20 : decode cX5_empty 20 = .ok (.aload_n 0, 1) := by decide +kernel
theorem dX5_empty_21 : decode cX5_empty 21 = .ok (.getfield 11, 3) := by decide +kernel
theorem dX5_empty_24 : decode cX5_empty 24 = .ok (.iload_n 1, 1) := by decide +kernel
theorem dX5_empty_25 : decode cX5_empty 25 = .ok (.aaload, 1) := by decide +kernel
theorem dX5_empty_26 : decode cX5_empty 26 = .ok (.iconst 0, 1) := by decide +kernel
theorem dX5_empty_27 : decode cX5_empty 27 = .ok (.putfield 91, 3) := by decide +kernel
theorem dX5_empty_30 : decode cX5_empty 30 = .ok (.aload_n 0, 1) := by decide +kernel
theorem dX5_empty_31 : decode cX5_empty 31 = .ok (.getfield 11, 3) := by decide +kernel
theorem dX5_empty_34 : decode cX5_empty 34 = .ok (.iload_n 1, 1) := by decide +kernel
theorem dX5_empty_35 : decode cX5_empty 35 = .ok (.aaload, 1) := by decide +kernel
theorem dX5_empty_36 : decode cX5_empty 36 = .ok (.iconst 0, 1) := by decide +kernel
theorem dX5_empty_37 : decode cX5_empty 37 = .ok (.putfield 202, 3) := by decide +kernel
theorem dX5_empty_40 : decode cX5_empty 40 = .ok (.iinc 1 1, 3) := by decide +kernel
theorem dX5_empty_43 : decode cX5_empty 43 = .ok (.goto (-29), 3) := by decide +kernel
theorem dX5_isBounded_0 : decode cX5_isBounded 0 = .ok (.iconst 0, 1) := by decide +kernel
theorem dX5_isBounded_1 : decode cX5_isBounded 1 = .ok (.istore_n 1, 1) := by decide +kernel
theorem dX5_isBounded_2 : decode cX5_isBounded 2 = .ok (.iload_n 1, 1) := by decide +kernel
theorem dX5_isBounded_3 : decode cX5_isBounded 3 = .ok (.bipush 48, 2) := by decide +kernel
theorem dX5_isBounded_5 : decode cX5_isBounded 5 = .ok (.if_icmp .ge 39, 3) := by decide +kernel
theorem dX5_isBounded_44 : decode cX5_isBounded 44 = .ok (.iconst 1, 1) := by decide +kernel
theorem dX5_isBounded_45 : decode cX5_isBounded 45 = .ok (.ireturn, 1) := by decide +kernel
theorem dX5_isBounded_8 : decode cX5_isBounded 8 = .ok (.aload_n 0, 1) := by decide +kernel
theorem dX5_isBounded_9 : decode cX5_isBounded 9 = .ok (.getfield 11, 3) := by decide +kernel
theorem dX5_isBounded_12 : decode cX5_isBounded 12 = .ok (.iload_n 1, 1) := by decide +kernel
theorem dX5_isBounded_13 : decode cX5_isBounded 13 = .ok (.aaload, 1) := by decide +kernel
theorem dX5_isBounded_14 : decode cX5_isBounded 14 = .ok (.getfield 202, 3) := by decide +kernel
theorem dX5_isBounded_17 : decode cX5_isBounded 17 = .ok (.bipush 99, 2) := by decide +kernel
theorem dX5_isBounded_19 : decode cX5_isBounded 19 = .ok (.if_icmp .gt 17, 3) := by decide +kernel
theorem dX5_isBounded_22 : decode cX5_isBounded 22 = .ok (.aload_n 0, 1) := by decide +kernel
theorem dX5_isBounded_23 : decode cX5_isBounded 23 = .ok (.getfield 11, 3) := by decide +kernel
theorem dX5_isBounded_26 : decode cX5_isBounded 26 = .ok (.iload_n 1, 1) := by decide +kernel
theorem dX5_isBounded_27 : decode cX5_isBounded 27 = .ok (.aaload, 1) := by decide +kernel
theorem dX5_isBounded_28 : decode cX5_isBounded 28 = .ok (.getfield 91, 3) := by decide +kernel
theorem dX5_isBounded_31 : decode cX5_isBounded 31 = .ok (.bipush 9, 2) := by decide +kernel
theorem dX5_isBounded_33 : decode cX5_isBounded 33 = .ok (.if_icmp .le 5, 3) := by decide +kernel
theorem dX5_isBounded_38 : decode cX5_isBounded 38 = .ok (.iinc 1 1, 3) := by decide +kernel
theorem dX5_isBounded_41 : decode cX5_isBounded 41 = .ok (.goto (-39), 3) := by decide +kernel
theorem dX5_travel_0 : decode cX5_travel 0 = .ok (.iconst 0, 1) := by decide +kernel
theorem dX5_travel_1 : decode cX5_travel 1 = .ok (.istore_n 2, 1) := by decide +kernel
theorem dX5_travel_2 : decode cX5_travel 2 = .ok (.iconst 0, 1) := by decide +kernel
theorem dX5_travel_3 : decode cX5_travel 3 = .ok (.istore_n 3, 1) := by decide +kernel
theorem dX5_travel_4 : decode cX5_travel 4 = .ok (.iload_n 3, 1) := by decide +kernel
theorem dX5_travel_5 : decode cX5_travel 5 = .ok (.aload_n 1, 1) := by decide +kernel
theorem dX5_travel_6 : decode cX5_travel 6 = .ok (.getfield 105, 3) := by decide +kernel
theorem dX5_travel_9 : decode cX5_travel 9 = .ok (.if_icmp .ge 50, 3) := by decide +kernel
theorem dX5_travel_59 : decode cX5_travel 59 = .ok (.iload_n 2, 1) := by decide +kernel
theorem dX5_travel_60 : decode cX5_travel 60 = .ok (.ireturn, 1) := by decide +kernel
theorem dX11_redoAllBut_0 : decode cX11_redoAllBut 0 = .ok (.aload_n 0, 1) := by decide +kernel
theorem dX11_redoAllBut_1 : decode cX11_redoAllBut 1 = .ok (.getfield 66, 3) := by decide +kernel
theorem dX11_redoAllBut_4 : decode cX11_redoAllBut 4 = .ok (.invokevirtual 434, 3) := by decide +kernel
theorem dX11_redoAllBut_7 : decode cX11_redoAllBut 7 = .ok (.iconst 0, 1) := by decide +kernel
theorem dX11_redoAllBut_8 : decode cX11_redoAllBut 8 = .ok (.istore_n 2, 1) := by decide +kernel
theorem dX11_redoAllBut_9 : decode cX11_redoAllBut 9 = .ok (.iload_n 2, 1) := by decide +kernel
theorem dX11_redoAllBut_10 : decode cX11_redoAllBut 10 = .ok (.aload_n 0, 1) := by decide +kernel
theorem dX11_redoAllBut_11 : decode cX11_redoAllBut 11 = .ok (.getfield 19, 3) := by decide +kernel
theorem dX11_redoAllBut_14 : decode cX11_redoAllBut 14 = .ok (.invokevirtual 95, 3) := by decide +kernel
theorem dX11_redoAllBut_17 : decode cX11_redoAllBut 17 = .ok (.if_icmp .ge 56, 3) := by decide +kernel
theorem dX11_redoAllBut_73 : decode cX11_redoAllBut 73 = .ok (.iconst 1, 1) := by decide +kernel
theorem dX11_redoAllBut_74 : decode cX11_redoAllBut 74 = .ok (.ireturn, 1) := by decide +kernel
theorem dX11_isSound_0 : decode cX11_isSound 0 = .ok (.aload_n 0, 1) := by decide +kernel
theorem dX11_isSound_1 : decode cX11_isSound 1 = .ok (.iconst (-1), 1) := by decide +kernel
theorem dX11_isSound_2 : decode cX11_isSound 2 = .ok (.invokevirtual 400, 3) := by decide +kernel
theorem dX11_isSound_5 : decode cX11_isSound 5 = .ok (.ifCond .eq 31, 3) := by decide +kernel
theorem dX11_isSound_8 : decode cX11_isSound 8 = .ok (.aload_n 0, 1) := by decide +kernel
theorem dX11_isSound_9 : decode cX11_isSound 9 = .ok (.getfield 66, 3) := by decide +kernel
theorem dX11_isSound_12 : decode cX11_isSound 12 = .ok (.aload_n 0, 1) := by decide +kernel
theorem dX11_isSound_13 : decode cX11_isSound 13 = .ok (.getfield 62, 3) := by decide +kernel
theorem dX11_isSound_16 : decode cX11_isSound 16 = .ok (.invokevirtual 420, 3) := by decide +kernel
theorem dX11_isSound_19 : decode cX11_isSound 19 = .ok (.ifCond .eq 17, 3) := by decide +kernel
theorem dX11_isSound_22 : decode cX11_isSound 22 = .ok (.aload_n 0, 1) := by decide +kernel
theorem dX11_isSound_23 : decode cX11_isSound 23 = .ok (.getfield 62, 3) := by decide +kernel
theorem dX11_isSound_26 : decode cX11_isSound 26 = .ok (.invokevirtual 424, 3) := by decide +kernel
theorem dX11_isSound_29 : decode cX11_isSound 29 = .ok (.ifCond .eq 7, 3) := by decide +kernel
theorem dX11_isSound_32 : decode cX11_isSound 32 = .ok (.iconst 1, 1) := by decide +kernel
theorem dX11_isSound_33 : decode cX11_isSound 33 = .ok (.goto 4, 3) := by decide +kernel
theorem dX11_isSound_37 : decode cX11_isSound 37 = .ok (.ireturn, 1) := by decide +kernel
theorem dX11_risk_0 : decode cX11_risk 0 = .ok (.aload_n 0, 1) := by decide +kernel
theorem dX11_risk_1 : decode cX11_risk 1 = .ok (.getfield 66, 3) := by decide +kernel
theorem dX11_risk_4 : decode cX11_risk 4 = .ok (.aload_n 0, 1) := by decide +kernel
theorem dX11_risk_5 : decode cX11_risk 5 = .ok (.getfield 62, 3) := by decide +kernel
theorem dX11_risk_8 : decode cX11_risk 8 = .ok (.invokevirtual 385, 3) := by decide +kernel
theorem dX11_risk_11 : decode cX11_risk 11 = .ok (.aload_n 0, 1) := by decide +kernel
theorem dX11_risk_12 : decode cX11_risk 12 = .ok (.getfield 66, 3) := by decide +kernel
theorem dX11_risk_15 : decode cX11_risk 15 = .ok (.aload_n 0, 1) := by decide +kernel
theorem dX11_risk_16 : decode cX11_risk 16 = .ok (.getfield 46, 3) := by decide +kernel
theorem dX11_risk_19 : decode cX11_risk 19 = .ok (.invokevirtual 389, 3) := by decide +kernel
theorem dX11_risk_22 : decode cX11_risk 22 = .ok (.ireturn, 1) := by decide +kernel
/-- two pictures share no stack -/
def DJ (g g2 : Nat → Option Nat) : Prop := ∀ i j a : Nat, i < 48 → j < 48 → g i = some a → g2 j = some a → False
theorem DJ.symm {g g2 : Nat → Option Nat} (h : DJ g g2) : DJ g2 g := fun i j a hi hj e1 e2 => h j i a hj hi e2 e1
theorem FamS.dj {D : va_G} {N : Nat → Prop} {g g2 : Nat → Option Nat} {H H2 : Heap} {L : List Nat} (h : FamS D N g H) (h2 : FamS D (vN H.size L) g2 H2) : DJ g g2 := fun i j a hi hj e1 e2 => by
  obtain ⟨a1, r1, f1, f2, -⟩ := h i hi
  obtain ⟨a2, r2, k1, -, k3⟩ := h2 j hj
  have l1 := f2.lt
  have l2 := k3.1
  have z1 : a1 = a := Option.some.inj (f1.symm.trans e1)
  have z2 : a2 = a := Option.some.inj (k1.symm.trans e2)
  dsimp only at l1
  omega
theorem hq_.hq {H0 H H1 : Heap} (h : hq_ H0 H) (k : hq_ H H1) : hq_ H0 H1 := h.tr k

def wo_c_X8_copyFrom_w : List Cond := [Cond.fieldLink RX8 20 "Underpaint$Stack" "size" "I", Cond.fieldLink RX8 89 "Underpaint$Stack" "tiredness" "I"]
def wo_c_X8_copyFrom : List Cond := .code yX8_copyFrom cX8_copyFrom 3 none :: (wo_c_X8_copyFrom_w ++ (u_ws RX8 TX8 3 ++ List.nil))
theorem gw_wo_c_X8_copyFrom : wo_c_X8_copyFrom.all goodWord = true := gw_c (by decide +kernel) (gw_a (by decide +kernel) (gw_a (by decide +kernel) rfl))
set_option maxHeartbeats 4000000 in
set_option maxRecDepth 100000 in
/-- Stack.copyFrom: as it was -/
theorem c_X8_copyFrom (l : Launch) (dC : Nat → ClassId) (dI : Nat → Nat → Nat) (b0 : Nat) (en : EnT) (sz : Nat) (a rw b rv : Nat) (H0 : Heap) : Met l yX8_copyFrom wo_c_X8_copyFrom ({ frames := 0, cells := 0, slots := 0, locals := 0 } : Room) (cP b0 en (dC, dI) [] [(a, .inr (14, [.ref rw, .int 0, .int 0]))] [(b, .inr (14, [.ref rv, .int 0, .int 0]))] sz (fun U => U = H0) [.ref a, .ref b]) (va_Qv (fun u : Unit => True) (fun u t => cB (dC, dI) [] [(a, .inr (14, [.ref rw, .int 0, .int 0]))] (va_A [(a, .inr (14, [.ref rw, .int 0, .int 0]))] sz) (fun U => hq_ H0 U) t) (va_A [(a, .inr (14, [.ref rw, .int 0, .int 0]))] sz)) 0 0 (va_A [(a, .inr (14, [.ref rw, .int 0, .int 0]))] sz) := by
  refine Met.ofW (cc := cX8_copyFrom) (maxL := 3) (ret := none) (by decide) rfl ?_
  intro p e s m args below meth c s₁ B hml hv
  obtain ⟨rfl, hsz, hb0, hE, hPP, hK, hDD, hF0⟩ := hv
  have hx := B.exec
  have hb := B.bytes
  have hr := B.returns
  have hts := atoms_spec (ws := wo_c_X8_copyFrom) B.pre
  have hown : s.vm.findClass RX8 = some m.cls := findClass_of_methodNamed B.named
  have hlocks := B.notSynchronized
  subst hsz
  have hN0 := en_N hPP hDD rfl
  have hP : va_P (dC, dI) vwCl [(a, .inr (14, [.ref rw, .int 0, .int 0]))] s.heap := hPP.sub [0] rfl
  have hR0 : va_P (dC, dI) vwCl [(b, .inr (14, [.ref rv, .int 0, .int 0]))] s.heap := hPP.sub [1] rfl
  have hD0 : va_D (fun q => b0 ≤ q) [(a, .inr (14, [.ref rw, .int 0, .int 0]))] := hDD.sub [0] (by decide) rfl
  have hDr : va_D (fun q => b0 ≤ q) [(b, .inr (14, [.ref rv, .int 0, .int 0]))] := hDD.sub [1] (by decide) rfl
  have hAb := en_A (sz := s.heap.size) hD0 hb0
  have hD := hD0.self (sz := s.heap.size)
  generalize hAe : va_A [(a, .inr (14, [.ref rw, .int 0, .int 0]))] s.heap.size = A at hD hAb hN0 ⊢
  have hA : ∀ q : Nat, s.heap.size ≤ q → A q := fun q h => by rw [← hAe]; exact Or.inr h
  have hS : va_S A s.heap s.heap [] := va_S.rf
  have hR := hR0
  have hl := lv_entry [.ref a, .ref b] (n := 3) (Nat.le_of_ble_eq_true rfl)
  rw [lg_entry_eq]
  generalize (lg_sl [.ref a, .ref b] ++ List.replicate (3 - (lg_sl [.ref a, .ref b]).length) Slot.unset).toArray = ls at hl ⊢
  have hl : lv_has ls 3 [(0, .ref a), (1, .ref b)] := hl
  have hQ0 : s.heap = H0 := hF0
  have hR0b := hR0
  have hDrb := hDr
  have hN0b := hN0
  refine lv_aload_n hx hb dX8_copyFrom_0 rfl (lv_at hl 0 rfl) ?_
  refine lv_aload_n hx hb dX8_copyFrom_1 rfl (lv_at hl 1 rfl) ?_
  refine va_get (D := (dC, dI)) (ci := 14) (v := .int 0) (C := RX8) (T := TX8) (N := 3) hx hb hts (by decide +kernel) hown hK hR 0 rfl rfl 1 (by decide) (hts (.fieldLink RX8 20 "Underpaint$Stack" "size" "I") (by decide +kernel)) (fun _ h9 => h9) rfl dX8_copyFrom_2 ?_
  refine va_putS (D := (dC, dI)) (ci := 14) (v := .int 0) (ty := .int) (C := RX8) (T := TX8) (N := 3) hx hb hts (by decide +kernel) hown hK (hP 0 _ rfl) (hD.2 0 _ rfl) hS rfl 1 (by decide) (hts (.fieldLink RX8 20 "Underpaint$Stack" "size" "I") (by decide +kernel)) (fun _ h9 => h9) rfl rfl (by decide +kernel) (by first | rfl | decide +kernel) (by first | rfl | decide +kernel) dX8_copyFrom_5 (fun locs hS => ?_)
  refine lv_aload_n hx hb dX8_copyFrom_8 rfl (lv_at hl 0 rfl) ?_
  refine lv_aload_n hx hb dX8_copyFrom_9 rfl (lv_at hl 1 rfl) ?_
  refine va_get (D := (dC, dI)) (ci := 14) (v := .int 0) (C := RX8) (T := TX8) (N := 3) hx hb hts (by decide +kernel) hown hK hR 0 rfl rfl 2 (by decide) (hts (.fieldLink RX8 89 "Underpaint$Stack" "tiredness" "I") (by decide +kernel)) (fun _ h9 => h9) rfl dX8_copyFrom_10 ?_
  refine va_putS (D := (dC, dI)) (ci := 14) (v := .int 0) (ty := .int) (C := RX8) (T := TX8) (N := 3) hx hb hts (by decide +kernel) hown hK (hP 0 _ rfl) (hD.2 0 _ rfl) hS rfl 2 (by decide) (hts (.fieldLink RX8 89 "Underpaint$Stack" "tiredness" "I") (by decide +kernel)) (fun _ h9 => h9) rfl rfl (by decide +kernel) (by first | rfl | decide +kernel) (by first | rfl | decide +kernel) dX8_copyFrom_13 (fun locs hS => ?_)
  refine lv_iconst (v := 0) hx hb dX8_copyFrom_16 (by decide) ?_
  refine lv_istore_n (lv' := [(2, .int 0), (0, .ref a), (1, .ref b)]) hx hb dX8_copyFrom_17 rfl hl (by decide) rfl (fun ls hl => ?_)
  refine lv_iload_n hx hb dX8_copyFrom_18 rfl (lv_at hl 0 rfl) ?_
  refine lv_aload_n hx hb dX8_copyFrom_19 rfl (lv_at hl 1 rfl) ?_
  refine va_get (D := (dC, dI)) (ci := 14) (v := .int 0) (C := RX8) (T := TX8) (N := 3) hx hb hts (by decide +kernel) hown hK hP 0 rfl rfl 1 (by decide) (hts (.fieldLink RX8 20 "Underpaint$Stack" "size" "I") (by decide +kernel)) (fun _ h9 => h9) rfl dX8_copyFrom_20 ?_
  refine lv_icmp_ge (tgt := 47) hx hb dX8_copyFrom_23 (by decide) (fun c_1 => ?_) (fun c_1 => absurd c_1 (by decide))
  refine W.widen (k := 0) (n := 0) (Nat.le_of_ble_eq_true rfl) (Nat.le_of_ble_eq_true rfl) ?_
  exact W.vret hx hb hr (fun t ht hW => ⟨⟨(), rfl, trivial, cB.mk ht hW (hP.sub [0] rfl) (hK.sub [] rfl) (hD.sub [0] (by decide) rfl) (by rw [← hQ0]; exact hq_.rf)⟩, hS.F ht⟩) hS.2.2 dX8_copyFrom_47

def wo_c_X8_isSameAs_w : List Cond := [Cond.fieldLink RX8 20 "Underpaint$Stack" "size" "I", Cond.fieldLink RX8 89 "Underpaint$Stack" "tiredness" "I"]
def wo_c_X8_isSameAs : List Cond := .code yX8_isSameAs cX8_isSameAs 3 (some .boolean) :: (wo_c_X8_isSameAs_w ++ (u_ws RX8 TX8 3 ++ List.nil))
theorem gw_wo_c_X8_isSameAs : wo_c_X8_isSameAs.all goodWord = true := gw_c (by decide +kernel) (gw_a (by decide +kernel) (gw_a (by decide +kernel) rfl))
set_option maxHeartbeats 4000000 in
set_option maxRecDepth 100000 in
/-- Stack.isSameAs -/
theorem c_X8_isSameAs (l : Launch) (dC : Nat → ClassId) (dI : Nat → Nat → Nat) (b0 : Nat) (en : EnT) (sz : Nat) (a rw b rv : Nat) : Met l yX8_isSameAs wo_c_X8_isSameAs ({ frames := 0, cells := 0, slots := 0, locals := 0 } : Room) (cP b0 en (dC, dI) [] [] [(a, .inr (14, [.ref rw, .int 0, .int 0])), (b, .inr (14, [.ref rv, .int 0, .int 0]))] sz (fun _ => True) [.ref a, .ref b]) (va_Qi (fun (r : Int32) (_ : Unit) => r = 1) (fun _ _ => True) (va_A [] sz)) 0 0 (va_A [] sz) := by
  refine Met.ofW (cc := cX8_isSameAs) (maxL := 3) (ret := (some .boolean)) (by decide) rfl ?_
  intro p e s m args below meth c s₁ B hml hv
  obtain ⟨rfl, hsz, hb0, hE, hPP, hK, hDD, hF0⟩ := hv
  have hx := B.exec
  have hb := B.bytes
  have hr := B.returns
  have hts := atoms_spec (ws := wo_c_X8_isSameAs) B.pre
  have hown : s.vm.findClass RX8 = some m.cls := findClass_of_methodNamed B.named
  have hlocks := B.notSynchronized
  subst hsz
  have hN0 := en_N hPP hDD rfl
  have hP : va_P (dC, dI) vwCl [] s.heap := hPP.sub [] rfl
  have hR0 : va_P (dC, dI) vwCl [(a, .inr (14, [.ref rw, .int 0, .int 0])), (b, .inr (14, [.ref rv, .int 0, .int 0]))] s.heap := hPP.sub [0, 1] rfl
  have hD0 : va_D (fun q => b0 ≤ q) [] := hDD.sub [] (by decide) rfl
  have hDr : va_D (fun q => b0 ≤ q) [(a, .inr (14, [.ref rw, .int 0, .int 0])), (b, .inr (14, [.ref rv, .int 0, .int 0]))] := hDD.sub [0, 1] (by decide) rfl
  have hAb := en_A (sz := s.heap.size) hD0 hb0
  have hD := hD0.self (sz := s.heap.size)
  generalize hAe : va_A [] s.heap.size = A at hD hAb hN0 ⊢
  have hA : ∀ q : Nat, s.heap.size ≤ q → A q := fun q h => by rw [← hAe]; exact Or.inr h
  have hS : va_S A s.heap s.heap [] := va_S.rf
  have hR := hR0
  have hl := lv_entry [.ref a, .ref b] (n := 3) (Nat.le_of_ble_eq_true rfl)
  rw [lg_entry_eq]
  generalize (lg_sl [.ref a, .ref b] ++ List.replicate (3 - (lg_sl [.ref a, .ref b]).length) Slot.unset).toArray = ls at hl ⊢
  have hl : lv_has ls 3 [(0, .ref a), (1, .ref b)] := hl
  refine lv_aload_n hx hb dX8_isSameAs_0 rfl (lv_at hl 0 rfl) ?_
  refine va_get (D := (dC, dI)) (ci := 14) (v := .int 0) (C := RX8) (T := TX8) (N := 3) hx hb hts (by decide +kernel) hown hK hR 0 rfl rfl 1 (by decide) (hts (.fieldLink RX8 20 "Underpaint$Stack" "size" "I") (by decide +kernel)) (fun _ h9 => h9) rfl dX8_isSameAs_1 ?_
  refine lv_aload_n hx hb dX8_isSameAs_4 rfl (lv_at hl 1 rfl) ?_
  refine va_get (D := (dC, dI)) (ci := 14) (v := .int 0) (C := RX8) (T := TX8) (N := 3) hx hb hts (by decide +kernel) hown hK hR 1 rfl rfl 1 (by decide) (hts (.fieldLink RX8 20 "Underpaint$Stack" "size" "I") (by decide +kernel)) (fun _ h9 => h9) rfl dX8_isSameAs_5 ?_
  refine lv_icmp_ne (tgt := 22) hx hb dX8_isSameAs_8 (by decide) (fun c_1 => absurd c_1 (by decide)) (fun c_1 => ?_)
  refine lv_aload_n hx hb dX8_isSameAs_11 rfl (lv_at hl 0 rfl) ?_
  refine va_get (D := (dC, dI)) (ci := 14) (v := .int 0) (C := RX8) (T := TX8) (N := 3) hx hb hts (by decide +kernel) hown hK hR 0 rfl rfl 2 (by decide) (hts (.fieldLink RX8 89 "Underpaint$Stack" "tiredness" "I") (by decide +kernel)) (fun _ h9 => h9) rfl dX8_isSameAs_12 ?_
  refine lv_aload_n hx hb dX8_isSameAs_15 rfl (lv_at hl 1 rfl) ?_
  refine va_get (D := (dC, dI)) (ci := 14) (v := .int 0) (C := RX8) (T := TX8) (N := 3) hx hb hts (by decide +kernel) hown hK hR 1 rfl rfl 2 (by decide) (hts (.fieldLink RX8 89 "Underpaint$Stack" "tiredness" "I") (by decide +kernel)) (fun _ h9 => h9) rfl dX8_isSameAs_16 ?_
  refine lv_icmp_eq (tgt := 24) hx hb dX8_isSameAs_19 (by decide) (fun c_2 => ?_) (fun c_2 => absurd c_2 (by decide))
  refine lv_iconst (v := 0) hx hb dX8_isSameAs_24 (by decide) ?_
  refine lv_istore_n (lv' := [(2, .int 0), (0, .ref a), (1, .ref b)]) hx hb dX8_isSameAs_25 rfl hl (by decide) rfl (fun ls hl => ?_)
  refine lv_iload_n hx hb dX8_isSameAs_26 rfl (lv_at hl 0 rfl) ?_
  refine lv_aload_n hx hb dX8_isSameAs_27 rfl (lv_at hl 1 rfl) ?_
  refine va_get (D := (dC, dI)) (ci := 14) (v := .int 0) (C := RX8) (T := TX8) (N := 3) hx hb hts (by decide +kernel) hown hK hR 0 rfl rfl 1 (by decide) (hts (.fieldLink RX8 20 "Underpaint$Stack" "size" "I") (by decide +kernel)) (fun _ h9 => h9) rfl dX8_isSameAs_28 ?_
  refine lv_icmp_ge (tgt := 60) hx hb dX8_isSameAs_31 (by decide) (fun c_3 => ?_) (fun c_3 => absurd c_3 (by decide))
  refine lv_iconst (v := 1) hx hb dX8_isSameAs_60 (by decide) ?_
  refine W.widen (k := 0) (n := 0) (Nat.le_of_ble_eq_true rfl) (Nat.le_of_ble_eq_true rfl) ?_
  exact W.zret (v := 1) hx hb hr (by first | rfl | decide +kernel) (fun t ht hW => ⟨⟨1, (), rfl, (z_c_X6_add_b_353), trivial⟩, hS.F ht⟩) hS.2.2 dX8_isSameAs_61

def wo_c_X5_copyFrom_w : List Cond := [Cond.fieldLink RX5 24 "Underpaint$Picture" "yearNow" "I", Cond.fieldLink RX5 170 "Underpaint$Picture" "scratchCount" "I", Cond.fieldLink RX5 11 "Underpaint$Picture" "stacks" "[LUnderpaint$Stack;"]
def wo_c_X5_copyFrom : List Cond := .code yX5_copyFrom cX5_copyFrom 3 none :: (wo_c_X5_copyFrom_w ++ (u_ws RX5 TX5 5 ++ (wsV RX5 235 RX8 yX8_copyFrom wo_c_X8_copyFrom ++ List.nil)))
theorem gw_wo_c_X5_copyFrom : wo_c_X5_copyFrom.all goodWord = true := gw_c (by decide +kernel) (gw_a (by decide +kernel) (gw_a (by decide +kernel) (gw_a (gw_a (by decide +kernel) gw_wo_c_X8_copyFrom) rfl)))
theorem go_c_X5_copyFrom_0 : GoodIn wo_c_X5_copyFrom (wsV RX5 235 RX8 yX8_copyFrom wo_c_X8_copyFrom) := goodIn_sub (fun _ h => List.mem_cons_of_mem _ (List.mem_append_right _ (List.mem_append_right _ (List.mem_append_left _ h)))) (gw_a (by decide +kernel) gw_wo_c_X8_copyFrom)
set_option maxHeartbeats 4000000 in
set_option maxRecDepth 100000 in
/-- Picture.copyFrom: as it was -/
theorem c_X5_copyFrom (l : Launch) (dC : Nat → ClassId) (dI : Nat → Nat → Nat) (b0 : Nat) (en : EnT) (sz : Nat) (q st sp ll q2 st2 sp2 ll2 c0 : Nat) (g g2 : Nat → Option Nat) (cS cT : ClassId) (H0 : Heap) (hdj : DJ g g2) (hbc : b0 ≤ c0) (hcs : c0 ≤ sz) (hWc : ∀ (k9 : Nat) (q9 : Nat × va_E), ([(q, .inr (11, [.ref st, .ref sp, .ref ll, .int 0, .int 1600])), (st, .inl (cS, 48, .inr (.inr (.inr (.inr g))))), (q2, .inr (11, [.ref st2, .ref sp2, .ref ll2, .int 0, .int 1600])), (st2, .inl (cT, 48, .inr (.inr (.inr (.inr g2)))))] : va_W)[k9]? = some q9 → c0 ≤ q9.1) (hRc : ∀ (k9 : Nat) (q9 : Nat × va_E), ([] : va_W)[k9]? = some q9 → q9.1 < c0) : Met l yX5_copyFrom wo_c_X5_copyFrom ({ frames := 1, cells := 0, slots := 0, locals := 22 } : Room) (cP b0 en (dC, dI) [(cS, .object "Underpaint$Stack"), (cT, .object "Underpaint$Stack")] [(q, .inr (11, [.ref st, .ref sp, .ref ll, .int 0, .int 1600])), (st, .inl (cS, 48, .inr (.inr (.inr (.inr g))))), (q2, .inr (11, [.ref st2, .ref sp2, .ref ll2, .int 0, .int 1600])), (st2, .inl (cT, 48, .inr (.inr (.inr (.inr g2)))))] [] sz (fun U => FamS (dC, dI) (vN c0 [q, st, q2, st2]) g U ∧ FamS (dC, dI) (vN c0 [q, st, q2, st2]) g2 U ∧ U = H0) [.ref q, .ref q2]) (va_Qv (fun u : Unit => True) (fun u t => cB (dC, dI) [] [] (vC c0) (fun U => hq_ H0 U) t) (vC c0)) 0 0 (vC c0) := by
  refine Met.ofW (cc := cX5_copyFrom) (maxL := 3) (ret := none) (by decide) rfl ?_
  intro p e s m args below meth c s₁ B hml hv
  obtain ⟨rfl, hsz, hb0, hE, hPP, hK, hDD, hF0⟩ := hv
  have hx := B.exec
  have hb := B.bytes
  have hr := B.returns
  have hts := atoms_spec (ws := wo_c_X5_copyFrom) B.pre
  have hown : s.vm.findClass RX5 = some m.cls := findClass_of_methodNamed B.named
  have hlocks := B.notSynchronized
  subst hsz
  have hN0 : ∀ (k9 : Nat) (q9 : Nat × va_E), ([] : va_W)[k9]? = some q9 → ¬ vC c0 q9.1 := fun k q h => Nat.not_le.mpr (hRc k q h)
  have hP : va_P (dC, dI) vwCl [(q, .inr (11, [.ref st, .ref sp, .ref ll, .int 0, .int 1600])), (st, .inl (cS, 48, .inr (.inr (.inr (.inr g))))), (q2, .inr (11, [.ref st2, .ref sp2, .ref ll2, .int 0, .int 1600])), (st2, .inl (cT, 48, .inr (.inr (.inr (.inr g2)))))] s.heap := hPP.sub [0, 1, 2, 3] rfl
  have hR0 : va_P (dC, dI) vwCl [] s.heap := hPP.sub [] rfl
  have hD0 : va_D (fun q => b0 ≤ q) [(q, .inr (11, [.ref st, .ref sp, .ref ll, .int 0, .int 1600])), (st, .inl (cS, 48, .inr (.inr (.inr (.inr g))))), (q2, .inr (11, [.ref st2, .ref sp2, .ref ll2, .int 0, .int 1600])), (st2, .inl (cT, 48, .inr (.inr (.inr (.inr g2)))))] := hDD.sub [0, 1, 2, 3] (by decide) rfl
  have hDr : va_D (fun q => b0 ≤ q) [] := hDD.sub [] (by decide) rfl
  have hAb : ∀ q, vC c0 q → b0 ≤ q := fun q h => Nat.le_trans hbc h
  have hD : va_D (vC c0) [(q, .inr (11, [.ref st, .ref sp, .ref ll, .int 0, .int 1600])), (st, .inl (cS, 48, .inr (.inr (.inr (.inr g))))), (q2, .inr (11, [.ref st2, .ref sp2, .ref ll2, .int 0, .int 1600])), (st2, .inl (cT, 48, .inr (.inr (.inr (.inr g2)))))] := ⟨hD0.1, hWc⟩
  have hAc : ∀ q : Nat, c0 ≤ q → vC c0 q := fun q h => h
  have hA0 : ∀ q : Nat, s.heap.size ≤ q → vC c0 q := fun q h => Nat.le_trans hcs h
  generalize hAe : vC c0 = A at hD hAb hN0 hAc hA0 ⊢
  have hA : ∀ q : Nat, s.heap.size ≤ q → A q := hA0
  have hS : va_S A s.heap s.heap [] := va_S.rf
  have hR := hR0
  have hl := lv_entry [.ref q, .ref q2] (n := 3) (Nat.le_of_ble_eq_true rfl)
  rw [lg_entry_eq]
  generalize (lg_sl [.ref q, .ref q2] ++ List.replicate (3 - (lg_sl [.ref q, .ref q2]).length) Slot.unset).toArray = ls at hl ⊢
  have hl : lv_has ls 3 [(0, .ref q), (1, .ref q2)] := hl
  have hge_q : c0 ≤ q := (hWc 0 _ rfl)
  have hge_st : c0 ≤ st := (hWc 1 _ rfl)
  have hge_q2 : c0 ≤ q2 := (hWc 2 _ rfl)
  have hge_st2 : c0 ≤ st2 := (hWc 3 _ rfl)
  have hG := hF0.1
  have hGo0 := hF0.2.1
  have hQ0 : s.heap = H0 := hF0.2.2
  have hqq : hq_ H0 s.heap := by rw [← hQ0]; exact hq_.rf
  refine W.gen (fun Q hQ => ?_)
  have hR0b := hR0
  have hDrb := hDr
  have hN0b := hN0
  refine lv_aload_n hx hb dX5_copyFrom_0 rfl (lv_at hl 0 rfl) ?_
  refine lv_aload_n hx hb dX5_copyFrom_1 rfl (lv_at hl 1 rfl) ?_
  refine va_get (D := (dC, dI)) (ci := 11) (v := .int 1600) (C := RX5) (T := TX5) (N := 5) hx hb hts (by decide +kernel) hown hK hP 2 rfl rfl 4 (by decide) (hts (.fieldLink RX5 24 "Underpaint$Picture" "yearNow" "I") (by decide +kernel)) (fun _ h9 => h9) rfl dX5_copyFrom_2 ?_
  refine va_putS (D := (dC, dI)) (ci := 11) (v := .int 1600) (ty := .int) (C := RX5) (T := TX5) (N := 5) hx hb hts (by decide +kernel) hown hK (hP 0 _ rfl) (hD.2 0 _ rfl) hS rfl 4 (by decide) (hts (.fieldLink RX5 24 "Underpaint$Picture" "yearNow" "I") (by decide +kernel)) (fun _ h9 => h9) rfl rfl (by decide +kernel) (by first | rfl | decide +kernel) (by first | rfl | decide +kernel) dX5_copyFrom_5 (fun locs hS => ?_)
  refine lv_aload_n hx hb dX5_copyFrom_8 rfl (lv_at hl 0 rfl) ?_
  refine lv_aload_n hx hb dX5_copyFrom_9 rfl (lv_at hl 1 rfl) ?_
  refine va_get (D := (dC, dI)) (ci := 11) (v := .int 0) (C := RX5) (T := TX5) (N := 5) hx hb hts (by decide +kernel) hown hK hP 2 rfl rfl 3 (by decide) (hts (.fieldLink RX5 170 "Underpaint$Picture" "scratchCount" "I") (by decide +kernel)) (fun _ h9 => h9) rfl dX5_copyFrom_10 ?_
  refine va_putS (D := (dC, dI)) (ci := 11) (v := .int 0) (ty := .int) (C := RX5) (T := TX5) (N := 5) hx hb hts (by decide +kernel) hown hK (hP 0 _ rfl) (hD.2 0 _ rfl) hS rfl 3 (by decide) (hts (.fieldLink RX5 170 "Underpaint$Picture" "scratchCount" "I") (by decide +kernel)) (fun _ h9 => h9) rfl rfl (by decide +kernel) (by first | rfl | decide +kernel) (by first | rfl | decide +kernel) dX5_copyFrom_13 (fun locs hS => ?_)
  refine lv_iconst (v := 0) hx hb dX5_copyFrom_16 (by decide) ?_
  refine lv_istore_n (lv' := [(2, .int 0), (0, .ref q), (1, .ref q2)]) hx hb dX5_copyFrom_17 rfl hl (by decide) rfl (fun ls hl => ?_)
  refine lv_iload_n hx hb dX5_copyFrom_18 rfl (lv_at hl 0 rfl) ?_
  refine lv_aload_n hx hb dX5_copyFrom_19 rfl (lv_at hl 1 rfl) ?_
  refine va_get (D := (dC, dI)) (ci := 11) (v := .int 0) (C := RX5) (T := TX5) (N := 5) hx hb hts (by decide +kernel) hown hK hP 0 rfl rfl 3 (by decide) (hts (.fieldLink RX5 170 "Underpaint$Picture" "scratchCount" "I") (by decide +kernel)) (fun _ h9 => h9) rfl dX5_copyFrom_20 ?_
  refine lv_icmp_ge (tgt := 56) hx hb dX5_copyFrom_23 (by decide) (fun c_1 => ?_) (fun c_1 => absurd c_1 (by decide))
  refine lv_iconst (v := 0) hx hb dX5_copyFrom_56 (by decide) ?_
  refine lv_istore_n (lv' := [(2, .int 0), (0, .ref q), (1, .ref q2)]) hx hb dX5_copyFrom_57 rfl hl (by decide) rfl (fun ls hl => ?_)
  have loop_58 : ∀ (n_3 k_2 : Nat), n_3 + k_2 = 48 → ∀ (H : Heap) (locs : List Loc), va_P (dC, dI) vwCl [(q, .inr (11, [.ref st, .ref sp, .ref ll, .int 0, .int 1600])), (st, .inl (cS, 48, .inr (.inr (.inr (.inr g))))), (q2, .inr (11, [.ref st2, .ref sp2, .ref ll2, .int 0, .int 1600])), (st2, .inl (cT, 48, .inr (.inr (.inr (.inr g2)))))] H → va_D A [(q, .inr (11, [.ref st, .ref sp, .ref ll, .int 0, .int 1600])), (st, .inl (cS, 48, .inr (.inr (.inr (.inr g))))), (q2, .inr (11, [.ref st2, .ref sp2, .ref ll2, .int 0, .int 1600])), (st2, .inl (cT, 48, .inr (.inr (.inr (.inr g2)))))] → va_S A s.heap H locs → FamS (dC, dI) (vN c0 [q, st, q2, st2]) g H → FamS (dC, dI) (vN c0 [q, st, q2, st2]) g2 H → hq_ H0 H → ∀ ls : Array Slot, lv_has ls 3 [(2, .int (nI k_2)), (0, .ref q), (1, .ref q2)] → W p l e (headSpec wo_c_X5_copyFrom ({ frames := 1, cells := 0, slots := 0, locals := 22 } : Room)).room s m #[.ref q, .ref q2] below meth c H locs 0 0 Q (F0 m 58 ls []) := by
    intro n_3
    induction n_3 with
    | zero =>
      intro k_2 hk_4 H locs hP hD hS hG hGo0 hqq ls hl
      have ek_2 : k_2 = 48 := by omega
      subst ek_2
      have hl : lv_has ls 3 [(2, .int 48), (0, .ref q), (1, .ref q2)] := hl
      have hR : va_P (dC, dI) vwCl [] H := fun k q h => by simp at h
      refine lv_iload_n hx hb dX5_copyFrom_58 rfl (lv_at hl 0 rfl) ?_
      refine lv_bipush (v := 48) hx hb dX5_copyFrom_59 (by decide) ?_
      refine lv_icmp_ge (tgt := 85) hx hb dX5_copyFrom_61 (by decide) (fun c_6 => ?_) (fun c_6 => absurd c_6 (by decide))
      subst hQ
      refine W.widen (k := 0) (n := 0) (Nat.le_of_ble_eq_true rfl) (Nat.le_of_ble_eq_true rfl) ?_
      exact W.vret hx hb hr (fun t ht hW => ⟨⟨(), rfl, trivial, cB.mk ht hW (hP.sub [] rfl) (hK.sub [] rfl) (hD.sub [] (by decide) rfl) (hqq)⟩, hS.F ht⟩) hS.2.2 dX5_copyFrom_85
    | succ n_3 ih =>
      intro k_2 hk_4 H locs hP hD hS hG hGo0 hqq ls hl
      have hk_7 : k_2 < 48 := by omega
      have hb_8 : 0 ≤ nI k_2 ∧ nI k_2 < 48 := ⟨nI_le (Nat.zero_le _) (by omega), nI_lk hk_7 (by decide)⟩
      have hR : va_P (dC, dI) vwCl [] H := fun k q h => by simp at h
      refine lv_iload_n hx hb dX5_copyFrom_58 rfl (lv_at hl 0 rfl) ?_
      refine lv_bipush (v := 48) hx hb dX5_copyFrom_59 (by decide) ?_
      refine lv_icmp_ge (tgt := 85) hx hb dX5_copyFrom_61 (by decide) (fun c_9 => ?_) (fun c_9 => ?_)
      · skip
        first | exact absurd c_9 (nI_ge hk_7 (by decide)) | exact absurd (nI_lk hk_7 (by decide)) c_9
      · skip
        refine lv_aload_n hx hb dX5_copyFrom_64 rfl (lv_at hl 1 rfl) ?_
        refine va_get (D := (dC, dI)) (ci := 11) (v := .ref st) (C := RX5) (T := TX5) (N := 5) hx hb hts (by decide +kernel) hown hK hP 0 rfl rfl 0 (by decide) (hts (.fieldLink RX5 11 "Underpaint$Picture" "stacks" "[LUnderpaint$Stack;") (by decide +kernel)) (fun _ h9 => h9) rfl dX5_copyFrom_65 ?_
        refine lv_iload_n hx hb dX5_copyFrom_68 rfl (lv_at hl 0 rfl) ?_
        refine va_aldq hx hb hK hP 1 0 rfl rfl (vp_in_nI hk_7 (by decide)) dX5_copyFrom_69 ?_
        obtain ⟨ap_10, rp_10, hg_ap_10, hup_10, hnp_10⟩ := hG k_2 hk_7
        refine lv_topv (w := .ref ap_10) (by rw [nI_clamp (by omega), hg_ap_10]; rfl) ?_
        have hc0_ap_10 : c0 ≤ ap_10 := hnp_10.1
        have hP := hP.app (va1 hup_10)
        have hD := vD_push (e := .inr (14, [.ref rp_10, .int 0, .int 0])) hD (hAc ap_10 hnp_10.1) (nR (fun z9 => by have g1 := hnp_10.2; simp only [List.map_cons, List.map_nil, List.cons_append, List.nil_append, List.mem_cons, List.not_mem_nil, or_false, not_or] at g1 z9; omega))
        have hP : va_P (dC, dI) vwCl [(q, .inr (11, [.ref st, .ref sp, .ref ll, .int 0, .int 1600])), (st, .inl (cS, 48, .inr (.inr (.inr (.inr g))))), (q2, .inr (11, [.ref st2, .ref sp2, .ref ll2, .int 0, .int 1600])), (st2, .inl (cT, 48, .inr (.inr (.inr (.inr g2))))), (ap_10, .inr (14, [.ref rp_10, .int 0, .int 0]))] H := hP
        have hD : va_D A [(q, .inr (11, [.ref st, .ref sp, .ref ll, .int 0, .int 1600])), (st, .inl (cS, 48, .inr (.inr (.inr (.inr g))))), (q2, .inr (11, [.ref st2, .ref sp2, .ref ll2, .int 0, .int 1600])), (st2, .inl (cT, 48, .inr (.inr (.inr (.inr g2))))), (ap_10, .inr (14, [.ref rp_10, .int 0, .int 0]))] := hD
        refine lv_aload_n hx hb dX5_copyFrom_70 rfl (lv_at hl 2 rfl) ?_
        refine va_get (D := (dC, dI)) (ci := 11) (v := .ref st2) (C := RX5) (T := TX5) (N := 5) hx hb hts (by decide +kernel) hown hK hP 2 rfl rfl 0 (by decide) (hts (.fieldLink RX5 11 "Underpaint$Picture" "stacks" "[LUnderpaint$Stack;") (by decide +kernel)) (fun _ h9 => h9) rfl dX5_copyFrom_71 ?_
        refine lv_iload_n hx hb dX5_copyFrom_74 rfl (lv_at hl 0 rfl) ?_
        refine va_aldq hx hb hK hP 3 1 rfl rfl (vp_in_nI hk_7 (by decide)) dX5_copyFrom_75 ?_
        obtain ⟨ap_11, rp_11, hg_ap_11, hup_11, hnp_11⟩ := hGo0 k_2 hk_7
        refine lv_topv (w := .ref ap_11) (by rw [nI_clamp (by omega), hg_ap_11]; rfl) ?_
        have nef_ap_11_ap_10 : ap_11 ≠ ap_10 := fun e9 => (DJ.symm hdj) k_2 k_2 ap_11 hk_7 hk_7 hg_ap_11 (e9 ▸ hg_ap_10)
        have hc0_ap_11 : c0 ≤ ap_11 := hnp_11.1
        have hP := hP.app (va1 hup_11)
        have hD := vD_push (e := .inr (14, [.ref rp_11, .int 0, .int 0])) hD (hAc ap_11 hnp_11.1) (nR (fun z9 => by have g1 := hnp_11.2; simp only [List.map_cons, List.map_nil, List.cons_append, List.nil_append, List.mem_cons, List.not_mem_nil, or_false, not_or] at g1 z9; omega))
        have hP : va_P (dC, dI) vwCl [(q, .inr (11, [.ref st, .ref sp, .ref ll, .int 0, .int 1600])), (st, .inl (cS, 48, .inr (.inr (.inr (.inr g))))), (q2, .inr (11, [.ref st2, .ref sp2, .ref ll2, .int 0, .int 1600])), (st2, .inl (cT, 48, .inr (.inr (.inr (.inr g2))))), (ap_10, .inr (14, [.ref rp_10, .int 0, .int 0])), (ap_11, .inr (14, [.ref rp_11, .int 0, .int 0]))] H := hP
        have hD : va_D A [(q, .inr (11, [.ref st, .ref sp, .ref ll, .int 0, .int 1600])), (st, .inl (cS, 48, .inr (.inr (.inr (.inr g))))), (q2, .inr (11, [.ref st2, .ref sp2, .ref ll2, .int 0, .int 1600])), (st2, .inl (cT, 48, .inr (.inr (.inr (.inr g2))))), (ap_10, .inr (14, [.ref rp_10, .int 0, .int 0])), (ap_11, .inr (14, [.ref rp_11, .int 0, .int 0]))] := hD
        have hPc := (hP.app hR).sub (ws' := [(ap_10, .inr (14, [.ref rp_10, .int 0, .int 0]))] ++ [(ap_11, .inr (14, [.ref rp_11, .int 0, .int 0]))]) [4, 5] rfl
        have hDc := (en_DD hD hDr hN0 hAb).sub (ws' := [(ap_10, .inr (14, [.ref rp_10, .int 0, .int 0]))] ++ [(ap_11, .inr (14, [.ref rp_11, .int 0, .int 0]))]) [4, 5] (by decide) rfl
        have hKc := hK.sub (tys' := []) [] rfl
        have hFc := va_free (wc := [(ap_10, .inr (14, [.ref rp_10, .int 0, .int 0]))]) hD hS hA [4] rfl
        refine va_callv (va_runV (As := [.ref ap_11]) (rest := []) ⟨hx, hb, hml, hown, hts⟩ (c_X8_copyFrom l dC dI b0 en H.size ap_10 rp_10 ap_11 rp_11 H) (cwV 1 hts go_c_X5_copyFrom_0 rfl rfl rfl (by decide +kernel) ⟨Nat.le_of_ble_eq_true rfl, Nat.le_of_ble_eq_true rfl⟩) ⟨cP.blind, va_recv hK hP (ci := 14) (q0 := 4) rfl rfl, cP.use (en_z hb0 hS) (hE.on hAb hS) hPc hKc hDc rfl⟩ rfl rfl hl.1 rfl (lv_room (Nat.le_of_ble_eq_true rfl)) dX5_copyFrom_76 ⟨Nat.le_of_ble_eq_true rfl, Nat.le_of_ble_eq_true rfl⟩) hS (fun q _ h => hFc q h) hFc (fun u t H1 locs ht hvm hw hB hz1 hk1 hS => ?_)
        obtain ⟨hP1, hK1, hD1, hF1⟩ := hB
        rw [ht] at hF1
        try dsimp only at hw
        have hq9 : hq_ H H1 := hF1
        have hP := hP.hq hq9
        have hG := hG.hq hq9
        have hGo0 := hGo0.hq hq9
        have hqq := hqq.hq hq9
        clear hP1 hF1 hK1 hD1
        generalize H1 = H at hP hS hG hGo0 hqq ⊢
        have hP : va_P (dC, dI) vwCl [(q, .inr (11, [.ref st, .ref sp, .ref ll, .int 0, .int 1600])), (st, .inl (cS, 48, .inr (.inr (.inr (.inr g))))), (q2, .inr (11, [.ref st2, .ref sp2, .ref ll2, .int 0, .int 1600])), (st2, .inl (cT, 48, .inr (.inr (.inr (.inr g2))))), (ap_10, .inr (14, [.ref rp_10, .int 0, .int 0])), (ap_11, .inr (14, [.ref rp_11, .int 0, .int 0]))] H := hP
        have hD : va_D A [(q, .inr (11, [.ref st, .ref sp, .ref ll, .int 0, .int 1600])), (st, .inl (cS, 48, .inr (.inr (.inr (.inr g))))), (q2, .inr (11, [.ref st2, .ref sp2, .ref ll2, .int 0, .int 1600])), (st2, .inl (cT, 48, .inr (.inr (.inr (.inr g2))))), (ap_10, .inr (14, [.ref rp_10, .int 0, .int 0])), (ap_11, .inr (14, [.ref rp_11, .int 0, .int 0]))] := hD
        have hR : va_P (dC, dI) vwCl [] H := fun k q h => by simp at h
        refine W.widen (k := 0) (n := 0) (Nat.le_of_ble_eq_true rfl) (Nat.le_of_ble_eq_true rfl) ?_
        obtain ⟨x_13, ex_13⟩ : ∃ y : Int32, y = (nI k_2) + 1 := ⟨_, rfl⟩
        refine lv_iinc (v := x_13) (lv' := [(2, .int x_13), (0, .ref q), (1, .ref q2)]) hx hb dX5_copyFrom_79 hl (k := 0) rfl (by rw [ex_13]; rfl) (by decide) rfl (fun ls hl => ?_)
        have hy : x_13 = nI (k_2 + 1) := by rw [ex_13]; exact nI_1 k_2
        subst hy
        refine lv_goto (tgt := 58) hx hb dX5_copyFrom_82 (by decide) ?_
        exact ih (k_2 + 1) (by omega)  _ _ (hP.sub [0, 1, 2, 3] rfl) (hD.sub [0, 1, 2, 3] (by decide) rfl) hS hG hGo0 hqq _ (lv_sub hl [0, 1, 2] rfl)
  exact loop_58 48 0 rfl  _ _ hP hD hS hG hGo0 hqq ls (lv_sub hl [0, 1, 2] rfl)

def wo_c_X5_isSameAs_w : List Cond := [Cond.fieldLink RX5 24 "Underpaint$Picture" "yearNow" "I", Cond.fieldLink RX5 170 "Underpaint$Picture" "scratchCount" "I", Cond.fieldLink RX5 11 "Underpaint$Picture" "stacks" "[LUnderpaint$Stack;"]
def wo_c_X5_isSameAs : List Cond := .code yX5_isSameAs cX5_isSameAs 3 (some .boolean) :: (wo_c_X5_isSameAs_w ++ (u_ws RX5 TX5 5 ++ (wsV RX5 239 RX8 yX8_isSameAs wo_c_X8_isSameAs ++ List.nil)))
theorem gw_wo_c_X5_isSameAs : wo_c_X5_isSameAs.all goodWord = true := gw_c (by decide +kernel) (gw_a (by decide +kernel) (gw_a (by decide +kernel) (gw_a (gw_a (by decide +kernel) gw_wo_c_X8_isSameAs) rfl)))
theorem go_c_X5_isSameAs_0 : GoodIn wo_c_X5_isSameAs (wsV RX5 239 RX8 yX8_isSameAs wo_c_X8_isSameAs) := goodIn_sub (fun _ h => List.mem_cons_of_mem _ (List.mem_append_right _ (List.mem_append_right _ (List.mem_append_left _ h)))) (gw_a (by decide +kernel) gw_wo_c_X8_isSameAs)
set_option maxHeartbeats 4000000 in
set_option maxRecDepth 100000 in
/-- Picture.isSameAs -/
theorem c_X5_isSameAs (l : Launch) (dC : Nat → ClassId) (dI : Nat → Nat → Nat) (b0 : Nat) (en : EnT) (sz : Nat) (q st sp ll q2 st2 sp2 ll2 c0 : Nat) (g g2 : Nat → Option Nat) (cS cT : ClassId) (H0 : Heap) (hdj : DJ g g2) (hbc : b0 ≤ c0) (hcs : c0 ≤ sz) (hWc : ∀ (k9 : Nat) (q9 : Nat × va_E), ([(q, .inr (11, [.ref st, .ref sp, .ref ll, .int 0, .int 1600])), (st, .inl (cS, 48, .inr (.inr (.inr (.inr g))))), (q2, .inr (11, [.ref st2, .ref sp2, .ref ll2, .int 0, .int 1600])), (st2, .inl (cT, 48, .inr (.inr (.inr (.inr g2)))))] : va_W)[k9]? = some q9 → c0 ≤ q9.1) (hRc : ∀ (k9 : Nat) (q9 : Nat × va_E), ([] : va_W)[k9]? = some q9 → q9.1 < c0) : Met l yX5_isSameAs wo_c_X5_isSameAs ({ frames := 1, cells := 0, slots := 0, locals := 22 } : Room) (cP b0 en (dC, dI) [(cS, .object "Underpaint$Stack"), (cT, .object "Underpaint$Stack")] [(q, .inr (11, [.ref st, .ref sp, .ref ll, .int 0, .int 1600])), (st, .inl (cS, 48, .inr (.inr (.inr (.inr g))))), (q2, .inr (11, [.ref st2, .ref sp2, .ref ll2, .int 0, .int 1600])), (st2, .inl (cT, 48, .inr (.inr (.inr (.inr g2)))))] [] sz (fun U => FamS (dC, dI) (vN c0 [q, st, q2, st2]) g U ∧ FamS (dC, dI) (vN c0 [q, st, q2, st2]) g2 U ∧ U = H0) [.ref q, .ref q2]) (va_Qi (fun (r : Int32) (u : Unit) => r = 1) (fun u t => cB (dC, dI) [] [] (vC c0) (fun U => hq_ H0 U) t) (vC c0)) 0 0 (vC c0) := by
  refine Met.ofW (cc := cX5_isSameAs) (maxL := 3) (ret := (some .boolean)) (by decide) rfl ?_
  intro p e s m args below meth c s₁ B hml hv
  obtain ⟨rfl, hsz, hb0, hE, hPP, hK, hDD, hF0⟩ := hv
  have hx := B.exec
  have hb := B.bytes
  have hr := B.returns
  have hts := atoms_spec (ws := wo_c_X5_isSameAs) B.pre
  have hown : s.vm.findClass RX5 = some m.cls := findClass_of_methodNamed B.named
  have hlocks := B.notSynchronized
  subst hsz
  have hN0 : ∀ (k9 : Nat) (q9 : Nat × va_E), ([] : va_W)[k9]? = some q9 → ¬ vC c0 q9.1 := fun k q h => Nat.not_le.mpr (hRc k q h)
  have hP : va_P (dC, dI) vwCl [(q, .inr (11, [.ref st, .ref sp, .ref ll, .int 0, .int 1600])), (st, .inl (cS, 48, .inr (.inr (.inr (.inr g))))), (q2, .inr (11, [.ref st2, .ref sp2, .ref ll2, .int 0, .int 1600])), (st2, .inl (cT, 48, .inr (.inr (.inr (.inr g2)))))] s.heap := hPP.sub [0, 1, 2, 3] rfl
  have hR0 : va_P (dC, dI) vwCl [] s.heap := hPP.sub [] rfl
  have hD0 : va_D (fun q => b0 ≤ q) [(q, .inr (11, [.ref st, .ref sp, .ref ll, .int 0, .int 1600])), (st, .inl (cS, 48, .inr (.inr (.inr (.inr g))))), (q2, .inr (11, [.ref st2, .ref sp2, .ref ll2, .int 0, .int 1600])), (st2, .inl (cT, 48, .inr (.inr (.inr (.inr g2)))))] := hDD.sub [0, 1, 2, 3] (by decide) rfl
  have hDr : va_D (fun q => b0 ≤ q) [] := hDD.sub [] (by decide) rfl
  have hAb : ∀ q, vC c0 q → b0 ≤ q := fun q h => Nat.le_trans hbc h
  have hD : va_D (vC c0) [(q, .inr (11, [.ref st, .ref sp, .ref ll, .int 0, .int 1600])), (st, .inl (cS, 48, .inr (.inr (.inr (.inr g))))), (q2, .inr (11, [.ref st2, .ref sp2, .ref ll2, .int 0, .int 1600])), (st2, .inl (cT, 48, .inr (.inr (.inr (.inr g2)))))] := ⟨hD0.1, hWc⟩
  have hAc : ∀ q : Nat, c0 ≤ q → vC c0 q := fun q h => h
  have hA0 : ∀ q : Nat, s.heap.size ≤ q → vC c0 q := fun q h => Nat.le_trans hcs h
  generalize hAe : vC c0 = A at hD hAb hN0 hAc hA0 ⊢
  have hA : ∀ q : Nat, s.heap.size ≤ q → A q := hA0
  have hS : va_S A s.heap s.heap [] := va_S.rf
  have hR := hR0
  have hl := lv_entry [.ref q, .ref q2] (n := 3) (Nat.le_of_ble_eq_true rfl)
  rw [lg_entry_eq]
  generalize (lg_sl [.ref q, .ref q2] ++ List.replicate (3 - (lg_sl [.ref q, .ref q2]).length) Slot.unset).toArray = ls at hl ⊢
  have hl : lv_has ls 3 [(0, .ref q), (1, .ref q2)] := hl
  have hge_q : c0 ≤ q := (hWc 0 _ rfl)
  have hge_st : c0 ≤ st := (hWc 1 _ rfl)
  have hge_q2 : c0 ≤ q2 := (hWc 2 _ rfl)
  have hge_st2 : c0 ≤ st2 := (hWc 3 _ rfl)
  have hG := hF0.1
  have hGo0 := hF0.2.1
  have hQ0 : s.heap = H0 := hF0.2.2
  have hqq : hq_ H0 s.heap := by rw [← hQ0]; exact hq_.rf
  refine W.gen (fun Q hQ => ?_)
  have hR0b := hR0
  have hDrb := hDr
  have hN0b := hN0
  refine lv_aload_n hx hb dX5_isSameAs_0 rfl (lv_at hl 0 rfl) ?_
  refine va_get (D := (dC, dI)) (ci := 11) (v := .int 1600) (C := RX5) (T := TX5) (N := 5) hx hb hts (by decide +kernel) hown hK hP 0 rfl rfl 4 (by decide) (hts (.fieldLink RX5 24 "Underpaint$Picture" "yearNow" "I") (by decide +kernel)) (fun _ h9 => h9) rfl dX5_isSameAs_1 ?_
  refine lv_aload_n hx hb dX5_isSameAs_4 rfl (lv_at hl 1 rfl) ?_
  refine va_get (D := (dC, dI)) (ci := 11) (v := .int 1600) (C := RX5) (T := TX5) (N := 5) hx hb hts (by decide +kernel) hown hK hP 2 rfl rfl 4 (by decide) (hts (.fieldLink RX5 24 "Underpaint$Picture" "yearNow" "I") (by decide +kernel)) (fun _ h9 => h9) rfl dX5_isSameAs_5 ?_
  refine lv_icmp_ne (tgt := 22) hx hb dX5_isSameAs_8 (by decide) (fun c_1 => absurd c_1 (by decide)) (fun c_1 => ?_)
  refine lv_aload_n hx hb dX5_isSameAs_11 rfl (lv_at hl 0 rfl) ?_
  refine va_get (D := (dC, dI)) (ci := 11) (v := .int 0) (C := RX5) (T := TX5) (N := 5) hx hb hts (by decide +kernel) hown hK hP 0 rfl rfl 3 (by decide) (hts (.fieldLink RX5 170 "Underpaint$Picture" "scratchCount" "I") (by decide +kernel)) (fun _ h9 => h9) rfl dX5_isSameAs_12 ?_
  refine lv_aload_n hx hb dX5_isSameAs_15 rfl (lv_at hl 1 rfl) ?_
  refine va_get (D := (dC, dI)) (ci := 11) (v := .int 0) (C := RX5) (T := TX5) (N := 5) hx hb hts (by decide +kernel) hown hK hP 2 rfl rfl 3 (by decide) (hts (.fieldLink RX5 170 "Underpaint$Picture" "scratchCount" "I") (by decide +kernel)) (fun _ h9 => h9) rfl dX5_isSameAs_16 ?_
  refine lv_icmp_eq (tgt := 24) hx hb dX5_isSameAs_19 (by decide) (fun c_2 => ?_) (fun c_2 => absurd c_2 (by decide))
  refine lv_iconst (v := 0) hx hb dX5_isSameAs_24 (by decide) ?_
  refine lv_istore_n (lv' := [(2, .int 0), (0, .ref q), (1, .ref q2)]) hx hb dX5_isSameAs_25 rfl hl (by decide) rfl (fun ls hl => ?_)
  refine lv_iload_n hx hb dX5_isSameAs_26 rfl (lv_at hl 0 rfl) ?_
  refine lv_aload_n hx hb dX5_isSameAs_27 rfl (lv_at hl 1 rfl) ?_
  refine va_get (D := (dC, dI)) (ci := 11) (v := .int 0) (C := RX5) (T := TX5) (N := 5) hx hb hts (by decide +kernel) hown hK hP 0 rfl rfl 3 (by decide) (hts (.fieldLink RX5 170 "Underpaint$Picture" "scratchCount" "I") (by decide +kernel)) (fun _ h9 => h9) rfl dX5_isSameAs_28 ?_
  refine lv_icmp_ge (tgt := 72) hx hb dX5_isSameAs_31 (by decide) (fun c_3 => ?_) (fun c_3 => absurd c_3 (by decide))
  refine lv_iconst (v := 0) hx hb dX5_isSameAs_72 (by decide) ?_
  refine lv_istore_n (lv' := [(2, .int 0), (0, .ref q), (1, .ref q2)]) hx hb dX5_isSameAs_73 rfl hl (by decide) rfl (fun ls hl => ?_)
  have loop_74 : ∀ (n_5 k_4 : Nat), n_5 + k_4 = 48 → ∀ (H : Heap) (locs : List Loc), va_P (dC, dI) vwCl [(q, .inr (11, [.ref st, .ref sp, .ref ll, .int 0, .int 1600])), (st, .inl (cS, 48, .inr (.inr (.inr (.inr g))))), (q2, .inr (11, [.ref st2, .ref sp2, .ref ll2, .int 0, .int 1600])), (st2, .inl (cT, 48, .inr (.inr (.inr (.inr g2)))))] H → va_D A [(q, .inr (11, [.ref st, .ref sp, .ref ll, .int 0, .int 1600])), (st, .inl (cS, 48, .inr (.inr (.inr (.inr g))))), (q2, .inr (11, [.ref st2, .ref sp2, .ref ll2, .int 0, .int 1600])), (st2, .inl (cT, 48, .inr (.inr (.inr (.inr g2)))))] → va_S A s.heap H locs → FamS (dC, dI) (vN c0 [q, st, q2, st2]) g H → FamS (dC, dI) (vN c0 [q, st, q2, st2]) g2 H → hq_ H0 H → ∀ ls : Array Slot, lv_has ls 3 [(2, .int (nI k_4)), (0, .ref q), (1, .ref q2)] → W p l e (headSpec wo_c_X5_isSameAs ({ frames := 1, cells := 0, slots := 0, locals := 22 } : Room)).room s m #[.ref q, .ref q2] below meth c H locs 0 0 Q (F0 m 74 ls []) := by
    intro n_5
    induction n_5 with
    | zero =>
      intro k_4 hk_6 H locs hP hD hS hG hGo0 hqq ls hl
      have ek_4 : k_4 = 48 := by omega
      subst ek_4
      have hl : lv_has ls 3 [(2, .int 48), (0, .ref q), (1, .ref q2)] := hl
      have hR : va_P (dC, dI) vwCl [] H := fun k q h => by simp at h
      refine lv_iload_n hx hb dX5_isSameAs_74 rfl (lv_at hl 0 rfl) ?_
      refine lv_bipush (v := 48) hx hb dX5_isSameAs_75 (by decide) ?_
      refine lv_icmp_ge (tgt := 106) hx hb dX5_isSameAs_77 (by decide) (fun c_8 => ?_) (fun c_8 => absurd c_8 (by decide))
      refine lv_iconst (v := 1) hx hb dX5_isSameAs_106 (by decide) ?_
      subst hQ
      refine W.widen (k := 0) (n := 0) (Nat.le_of_ble_eq_true rfl) (Nat.le_of_ble_eq_true rfl) ?_
      exact W.zret (v := 1) hx hb hr (by first | rfl | decide +kernel) (fun t ht hW => ⟨⟨1, (), rfl, (z_c_X6_add_b_353), cB.mk ht hW (hP.sub [] rfl) (hK.sub [] rfl) (hD.sub [] (by decide) rfl) (hqq)⟩, hS.F ht⟩) hS.2.2 dX5_isSameAs_107
    | succ n_5 ih =>
      intro k_4 hk_6 H locs hP hD hS hG hGo0 hqq ls hl
      have hk_9 : k_4 < 48 := by omega
      have hb_10 : 0 ≤ nI k_4 ∧ nI k_4 < 48 := ⟨nI_le (Nat.zero_le _) (by omega), nI_lk hk_9 (by decide)⟩
      have hR : va_P (dC, dI) vwCl [] H := fun k q h => by simp at h
      refine lv_iload_n hx hb dX5_isSameAs_74 rfl (lv_at hl 0 rfl) ?_
      refine lv_bipush (v := 48) hx hb dX5_isSameAs_75 (by decide) ?_
      refine lv_icmp_ge (tgt := 106) hx hb dX5_isSameAs_77 (by decide) (fun c_11 => ?_) (fun c_11 => ?_)
      · skip
        first | exact absurd c_11 (nI_ge hk_9 (by decide)) | exact absurd (nI_lk hk_9 (by decide)) c_11
      · skip
        refine lv_aload_n hx hb dX5_isSameAs_80 rfl (lv_at hl 1 rfl) ?_
        refine va_get (D := (dC, dI)) (ci := 11) (v := .ref st) (C := RX5) (T := TX5) (N := 5) hx hb hts (by decide +kernel) hown hK hP 0 rfl rfl 0 (by decide) (hts (.fieldLink RX5 11 "Underpaint$Picture" "stacks" "[LUnderpaint$Stack;") (by decide +kernel)) (fun _ h9 => h9) rfl dX5_isSameAs_81 ?_
        refine lv_iload_n hx hb dX5_isSameAs_84 rfl (lv_at hl 0 rfl) ?_
        refine va_aldq hx hb hK hP 1 0 rfl rfl (vp_in_nI hk_9 (by decide)) dX5_isSameAs_85 ?_
        obtain ⟨ap_12, rp_12, hg_ap_12, hup_12, hnp_12⟩ := hG k_4 hk_9
        refine lv_topv (w := .ref ap_12) (by rw [nI_clamp (by omega), hg_ap_12]; rfl) ?_
        have hc0_ap_12 : c0 ≤ ap_12 := hnp_12.1
        have hP := hP.app (va1 hup_12)
        have hD := vD_push (e := .inr (14, [.ref rp_12, .int 0, .int 0])) hD (hAc ap_12 hnp_12.1) (nR (fun z9 => by have g1 := hnp_12.2; simp only [List.map_cons, List.map_nil, List.cons_append, List.nil_append, List.mem_cons, List.not_mem_nil, or_false, not_or] at g1 z9; omega))
        have hP : va_P (dC, dI) vwCl [(q, .inr (11, [.ref st, .ref sp, .ref ll, .int 0, .int 1600])), (st, .inl (cS, 48, .inr (.inr (.inr (.inr g))))), (q2, .inr (11, [.ref st2, .ref sp2, .ref ll2, .int 0, .int 1600])), (st2, .inl (cT, 48, .inr (.inr (.inr (.inr g2))))), (ap_12, .inr (14, [.ref rp_12, .int 0, .int 0]))] H := hP
        have hD : va_D A [(q, .inr (11, [.ref st, .ref sp, .ref ll, .int 0, .int 1600])), (st, .inl (cS, 48, .inr (.inr (.inr (.inr g))))), (q2, .inr (11, [.ref st2, .ref sp2, .ref ll2, .int 0, .int 1600])), (st2, .inl (cT, 48, .inr (.inr (.inr (.inr g2))))), (ap_12, .inr (14, [.ref rp_12, .int 0, .int 0]))] := hD
        refine lv_aload_n hx hb dX5_isSameAs_86 rfl (lv_at hl 2 rfl) ?_
        refine va_get (D := (dC, dI)) (ci := 11) (v := .ref st2) (C := RX5) (T := TX5) (N := 5) hx hb hts (by decide +kernel) hown hK hP 2 rfl rfl 0 (by decide) (hts (.fieldLink RX5 11 "Underpaint$Picture" "stacks" "[LUnderpaint$Stack;") (by decide +kernel)) (fun _ h9 => h9) rfl dX5_isSameAs_87 ?_
        refine lv_iload_n hx hb dX5_isSameAs_90 rfl (lv_at hl 0 rfl) ?_
        refine va_aldq hx hb hK hP 3 1 rfl rfl (vp_in_nI hk_9 (by decide)) dX5_isSameAs_91 ?_
        obtain ⟨ap_13, rp_13, hg_ap_13, hup_13, hnp_13⟩ := hGo0 k_4 hk_9
        refine lv_topv (w := .ref ap_13) (by rw [nI_clamp (by omega), hg_ap_13]; rfl) ?_
        have nef_ap_13_ap_12 : ap_13 ≠ ap_12 := fun e9 => (DJ.symm hdj) k_4 k_4 ap_13 hk_9 hk_9 hg_ap_13 (e9 ▸ hg_ap_12)
        have hc0_ap_13 : c0 ≤ ap_13 := hnp_13.1
        have hP := hP.app (va1 hup_13)
        have hD := vD_push (e := .inr (14, [.ref rp_13, .int 0, .int 0])) hD (hAc ap_13 hnp_13.1) (nR (fun z9 => by have g1 := hnp_13.2; simp only [List.map_cons, List.map_nil, List.cons_append, List.nil_append, List.mem_cons, List.not_mem_nil, or_false, not_or] at g1 z9; omega))
        have hP : va_P (dC, dI) vwCl [(q, .inr (11, [.ref st, .ref sp, .ref ll, .int 0, .int 1600])), (st, .inl (cS, 48, .inr (.inr (.inr (.inr g))))), (q2, .inr (11, [.ref st2, .ref sp2, .ref ll2, .int 0, .int 1600])), (st2, .inl (cT, 48, .inr (.inr (.inr (.inr g2))))), (ap_12, .inr (14, [.ref rp_12, .int 0, .int 0])), (ap_13, .inr (14, [.ref rp_13, .int 0, .int 0]))] H := hP
        have hD : va_D A [(q, .inr (11, [.ref st, .ref sp, .ref ll, .int 0, .int 1600])), (st, .inl (cS, 48, .inr (.inr (.inr (.inr g))))), (q2, .inr (11, [.ref st2, .ref sp2, .ref ll2, .int 0, .int 1600])), (st2, .inl (cT, 48, .inr (.inr (.inr (.inr g2))))), (ap_12, .inr (14, [.ref rp_12, .int 0, .int 0])), (ap_13, .inr (14, [.ref rp_13, .int 0, .int 0]))] := hD
        have hPc := (hP.app hR).sub (ws' := [] ++ [(ap_12, .inr (14, [.ref rp_12, .int 0, .int 0])), (ap_13, .inr (14, [.ref rp_13, .int 0, .int 0]))]) [4, 5] rfl
        have hDc := (en_DD hD hDr hN0 hAb).sub (ws' := [] ++ [(ap_12, .inr (14, [.ref rp_12, .int 0, .int 0])), (ap_13, .inr (14, [.ref rp_13, .int 0, .int 0]))]) [4, 5] (by decide) rfl
        have hKc := hK.sub (tys' := []) [] rfl
        have hFc := va_free (wc := []) hD hS hA [] rfl
        refine va_calli (va_runV (As := [.ref ap_13]) (rest := []) ⟨hx, hb, hml, hown, hts⟩ (c_X8_isSameAs l dC dI b0 en H.size ap_12 rp_12 ap_13 rp_13) (cwV 1 hts go_c_X5_isSameAs_0 rfl rfl rfl (by decide +kernel) ⟨Nat.le_of_ble_eq_true rfl, Nat.le_of_ble_eq_true rfl⟩) ⟨cP.blind, va_recv hK hP (ci := 14) (q0 := 4) rfl rfl, cP.use (en_z hb0 hS) (hE.on hAb hS) hPc hKc hDc trivial⟩ rfl rfl hl.1 rfl (lv_room (Nat.le_of_ble_eq_true rfl)) dX5_isSameAs_92 ⟨Nat.le_of_ble_eq_true rfl, Nat.le_of_ble_eq_true rfl⟩) hS (fun q _ h => hFc q h) hFc (fun r_14 u t H1 locs ht hvm hw hB hz1 hk1 hS => ?_)
        have hP1 : va_P (dC, dI) vwCl [] H1 := fun k q h => by simp at h
        have hD1 : va_D (va_A [] H.size) [] := ⟨fun i j p q h => by simp at h, fun k q h => by simp at h⟩
        try dsimp only at hw
        obtain ⟨hP, hD⟩ := va_join (wr := [(q, .inr (11, [.ref st, .ref sp, .ref ll, .int 0, .int 1600])), (st, .inl (cS, 48, .inr (.inr (.inr (.inr g))))), (q2, .inr (11, [.ref st2, .ref sp2, .ref ll2, .int 0, .int 1600])), (st2, .inl (cT, 48, .inr (.inr (.inr (.inr g2))))), (ap_12, .inr (14, [.ref rp_12, .int 0, .int 0])), (ap_13, .inr (14, [.ref rp_13, .int 0, .int 0]))]) (w1 := []) hP hD [] [0, 1, 2, 3, 4, 5] rfl rfl (by decide) (by decide) hk1 hFc hP1 hD1
        have hG := hG.hq (hq_.of (ws := []) hk1)
        have hGo0 := hGo0.hq (hq_.of (ws := []) hk1)
        have hqq := hqq.hq (hq_.of (ws := []) hk1)
        generalize H1 = H at hP hS hG hGo0 hqq ⊢
        have hP : va_P (dC, dI) vwCl [(q, .inr (11, [.ref st, .ref sp, .ref ll, .int 0, .int 1600])), (st, .inl (cS, 48, .inr (.inr (.inr (.inr g))))), (q2, .inr (11, [.ref st2, .ref sp2, .ref ll2, .int 0, .int 1600])), (st2, .inl (cT, 48, .inr (.inr (.inr (.inr g2))))), (ap_12, .inr (14, [.ref rp_12, .int 0, .int 0])), (ap_13, .inr (14, [.ref rp_13, .int 0, .int 0]))] H := hP
        have hD : va_D A [(q, .inr (11, [.ref st, .ref sp, .ref ll, .int 0, .int 1600])), (st, .inl (cS, 48, .inr (.inr (.inr (.inr g))))), (q2, .inr (11, [.ref st2, .ref sp2, .ref ll2, .int 0, .int 1600])), (st2, .inl (cT, 48, .inr (.inr (.inr (.inr g2))))), (ap_12, .inr (14, [.ref rp_12, .int 0, .int 0])), (ap_13, .inr (14, [.ref rp_13, .int 0, .int 0]))] := hD
        have hR : va_P (dC, dI) vwCl [] H := fun k q h => by simp at h
        refine W.widen (k := 0) (n := 0) (Nat.le_of_ble_eq_true rfl) (Nat.le_of_ble_eq_true rfl) ?_
        subst r_14
        refine lv_if_ne (tgt := 100) hx hb dX5_isSameAs_95 (by decide) (fun c_15 => ?_) (fun c_15 => absurd c_15 (by decide))
        obtain ⟨x_16, ex_16⟩ : ∃ y : Int32, y = (nI k_4) + 1 := ⟨_, rfl⟩
        refine lv_iinc (v := x_16) (lv' := [(2, .int x_16), (0, .ref q), (1, .ref q2)]) hx hb dX5_isSameAs_100 hl (k := 0) rfl (by rw [ex_16]; rfl) (by decide) rfl (fun ls hl => ?_)
        have hy : x_16 = nI (k_4 + 1) := by rw [ex_16]; exact nI_1 k_4
        subst hy
        refine lv_goto (tgt := 74) hx hb dX5_isSameAs_103 (by decide) ?_
        exact ih (k_4 + 1) (by omega)  _ _ (hP.sub [0, 1, 2, 3] rfl) (hD.sub [0, 1, 2, 3] (by decide) rfl) hS hG hGo0 hqq _ (lv_sub hl [0, 1, 2] rfl)
  exact loop_74 48 0 rfl  _ _ hP hD hS hG hGo0 hqq ls (lv_sub hl [0, 1, 2] rfl)

def wo_c_X5_empty_w : List Cond := [Cond.fieldLink RX5 24 "Underpaint$Picture" "yearNow" "I", Cond.fieldLink RX5 170 "Underpaint$Picture" "scratchCount" "I", Cond.fieldLink RX5 11 "Underpaint$Picture" "stacks" "[LUnderpaint$Stack;", Cond.fieldLink RX5 91 "Underpaint$Stack" "size" "I", Cond.fieldLink RX5 202 "Underpaint$Stack" "tiredness" "I"]
def wo_c_X5_empty : List Cond := .code yX5_empty cX5_empty 2 none :: (wo_c_X5_empty_w ++ (u_ws RX5 TX5 5 ++ (u_ws RX8 TX8 3 ++ List.nil)))
theorem gw_wo_c_X5_empty : wo_c_X5_empty.all goodWord = true := gw_c (by decide +kernel) (gw_a (by decide +kernel) (gw_a (by decide +kernel) (gw_a (by decide +kernel) rfl)))
set_option maxHeartbeats 4000000 in
set_option maxRecDepth 100000 in
/-- Picture.empty: as it was -/
theorem c_X5_empty (l : Launch) (dC : Nat → ClassId) (dI : Nat → Nat → Nat) (b0 : Nat) (en : EnT) (sz : Nat) (q st sp ll c0 : Nat) (g : Nat → Option Nat) (cS : ClassId) (H0 : Heap) (hbc : b0 ≤ c0) (hcs : c0 ≤ sz) (hWc : ∀ (k9 : Nat) (q9 : Nat × va_E), ([(q, .inr (11, [.ref st, .ref sp, .ref ll, .int 0, .int 1600])), (st, .inl (cS, 48, .inr (.inr (.inr (.inr g)))))] : va_W)[k9]? = some q9 → c0 ≤ q9.1) (hRc : ∀ (k9 : Nat) (q9 : Nat × va_E), ([] : va_W)[k9]? = some q9 → q9.1 < c0) : Met l yX5_empty wo_c_X5_empty ({ frames := 0, cells := 0, slots := 0, locals := 0 } : Room) (cP b0 en (dC, dI) [(cS, .object "Underpaint$Stack")] [(q, .inr (11, [.ref st, .ref sp, .ref ll, .int 0, .int 1600])), (st, .inl (cS, 48, .inr (.inr (.inr (.inr g)))))] [] sz (fun U => FamS (dC, dI) (vN c0 [q, st]) g U ∧ U = H0) [.ref q]) (va_Qv (fun u : Unit => True) (fun u t => cB (dC, dI) [] [] (vC c0) (fun U => hq_ H0 U) t) (vC c0)) 0 0 (vC c0) := by
  refine Met.ofW (cc := cX5_empty) (maxL := 2) (ret := none) (by decide) rfl ?_
  intro p e s m args below meth c s₁ B hml hv
  obtain ⟨rfl, hsz, hb0, hE, hPP, hK, hDD, hF0⟩ := hv
  have hx := B.exec
  have hb := B.bytes
  have hr := B.returns
  have hts := atoms_spec (ws := wo_c_X5_empty) B.pre
  have hown : s.vm.findClass RX5 = some m.cls := findClass_of_methodNamed B.named
  have hlocks := B.notSynchronized
  subst hsz
  have hN0 : ∀ (k9 : Nat) (q9 : Nat × va_E), ([] : va_W)[k9]? = some q9 → ¬ vC c0 q9.1 := fun k q h => Nat.not_le.mpr (hRc k q h)
  have hP : va_P (dC, dI) vwCl [(q, .inr (11, [.ref st, .ref sp, .ref ll, .int 0, .int 1600])), (st, .inl (cS, 48, .inr (.inr (.inr (.inr g)))))] s.heap := hPP.sub [0, 1] rfl
  have hR0 : va_P (dC, dI) vwCl [] s.heap := hPP.sub [] rfl
  have hD0 : va_D (fun q => b0 ≤ q) [(q, .inr (11, [.ref st, .ref sp, .ref ll, .int 0, .int 1600])), (st, .inl (cS, 48, .inr (.inr (.inr (.inr g)))))] := hDD.sub [0, 1] (by decide) rfl
  have hDr : va_D (fun q => b0 ≤ q) [] := hDD.sub [] (by decide) rfl
  have hAb : ∀ q, vC c0 q → b0 ≤ q := fun q h => Nat.le_trans hbc h
  have hD : va_D (vC c0) [(q, .inr (11, [.ref st, .ref sp, .ref ll, .int 0, .int 1600])), (st, .inl (cS, 48, .inr (.inr (.inr (.inr g)))))] := ⟨hD0.1, hWc⟩
  have hAc : ∀ q : Nat, c0 ≤ q → vC c0 q := fun q h => h
  have hA0 : ∀ q : Nat, s.heap.size ≤ q → vC c0 q := fun q h => Nat.le_trans hcs h
  generalize hAe : vC c0 = A at hD hAb hN0 hAc hA0 ⊢
  have hA : ∀ q : Nat, s.heap.size ≤ q → A q := hA0
  have hS : va_S A s.heap s.heap [] := va_S.rf
  have hR := hR0
  have hl := lv_entry [.ref q] (n := 2) (Nat.le_of_ble_eq_true rfl)
  rw [lg_entry_eq]
  generalize (lg_sl [.ref q] ++ List.replicate (2 - (lg_sl [.ref q]).length) Slot.unset).toArray = ls at hl ⊢
  have hl : lv_has ls 2 [(0, .ref q)] := hl
  have hge_q : c0 ≤ q := (hWc 0 _ rfl)
  have hge_st : c0 ≤ st := (hWc 1 _ rfl)
  have hG := hF0.1
  have hQ0 : s.heap = H0 := hF0.2
  have hqq : hq_ H0 s.heap := by rw [← hQ0]; exact hq_.rf
  refine W.gen (fun Q hQ => ?_)
  have hR0b := hR0
  have hDrb := hDr
  have hN0b := hN0
  refine lv_aload_n hx hb dX5_empty_0 rfl (lv_at hl 0 rfl) ?_
  refine lv_sipush (v := 1600) hx hb dX5_empty_1 (by decide) ?_
  refine va_putS (D := (dC, dI)) (ci := 11) (v := .int 1600) (ty := .int) (C := RX5) (T := TX5) (N := 5) hx hb hts (by decide +kernel) hown hK (hP 0 _ rfl) (hD.2 0 _ rfl) hS rfl 4 (by decide) (hts (.fieldLink RX5 24 "Underpaint$Picture" "yearNow" "I") (by decide +kernel)) (fun _ h9 => h9) rfl rfl (by decide +kernel) (by first | rfl | decide +kernel) (by first | rfl | decide +kernel) dX5_empty_4 (fun locs hS => ?_)
  refine lv_aload_n hx hb dX5_empty_7 rfl (lv_at hl 0 rfl) ?_
  refine lv_iconst (v := 0) hx hb dX5_empty_8 (by decide) ?_
  refine va_putS (D := (dC, dI)) (ci := 11) (v := .int 0) (ty := .int) (C := RX5) (T := TX5) (N := 5) hx hb hts (by decide +kernel) hown hK (hP 0 _ rfl) (hD.2 0 _ rfl) hS rfl 3 (by decide) (hts (.fieldLink RX5 170 "Underpaint$Picture" "scratchCount" "I") (by decide +kernel)) (fun _ h9 => h9) rfl rfl (by decide +kernel) (by first | rfl | decide +kernel) (by first | rfl | decide +kernel) dX5_empty_9 (fun locs hS => ?_)
  refine lv_iconst (v := 0) hx hb dX5_empty_12 (by decide) ?_
  refine lv_istore_n (lv' := [(1, .int 0), (0, .ref q)]) hx hb dX5_empty_13 rfl hl (by decide) rfl (fun ls hl => ?_)
  have loop_14 : ∀ (n_2 k_1 : Nat), n_2 + k_1 = 48 → ∀ (H : Heap) (locs : List Loc), va_P (dC, dI) vwCl [(q, .inr (11, [.ref st, .ref sp, .ref ll, .int 0, .int 1600])), (st, .inl (cS, 48, .inr (.inr (.inr (.inr g)))))] H → va_D A [(q, .inr (11, [.ref st, .ref sp, .ref ll, .int 0, .int 1600])), (st, .inl (cS, 48, .inr (.inr (.inr (.inr g)))))] → va_S A s.heap H locs → FamS (dC, dI) (vN c0 [q, st]) g H → hq_ H0 H → ∀ ls : Array Slot, lv_has ls 2 [(1, .int (nI k_1)), (0, .ref q)] → W p l e (headSpec wo_c_X5_empty ({ frames := 0, cells := 0, slots := 0, locals := 0 } : Room)).room s m #[.ref q] below meth c H locs 0 0 Q (F0 m 14 ls []) := by
    intro n_2
    induction n_2 with
    | zero =>
      intro k_1 hk_3 H locs hP hD hS hG hqq ls hl
      have ek_1 : k_1 = 48 := by omega
      subst ek_1
      have hl : lv_has ls 2 [(1, .int 48), (0, .ref q)] := hl
      have hR : va_P (dC, dI) vwCl [] H := fun k q h => by simp at h
      refine lv_iload_n hx hb dX5_empty_14 rfl (lv_at hl 0 rfl) ?_
      refine lv_bipush (v := 48) hx hb dX5_empty_15 (by decide) ?_
      refine lv_icmp_ge (tgt := 46) hx hb dX5_empty_17 (by decide) (fun c_5 => ?_) (fun c_5 => absurd c_5 (by decide))
      subst hQ
      refine W.widen (k := 0) (n := 0) (Nat.le_of_ble_eq_true rfl) (Nat.le_of_ble_eq_true rfl) ?_
      exact W.vret hx hb hr (fun t ht hW => ⟨⟨(), rfl, trivial, cB.mk ht hW (hP.sub [] rfl) (hK.sub [] rfl) (hD.sub [] (by decide) rfl) (hqq)⟩, hS.F ht⟩) hS.2.2 dX5_empty_46
    | succ n_2 ih =>
      intro k_1 hk_3 H locs hP hD hS hG hqq ls hl
      have hk_6 : k_1 < 48 := by omega
      have hb_7 : 0 ≤ nI k_1 ∧ nI k_1 < 48 := ⟨nI_le (Nat.zero_le _) (by omega), nI_lk hk_6 (by decide)⟩
      have hR : va_P (dC, dI) vwCl [] H := fun k q h => by simp at h
      refine lv_iload_n hx hb dX5_empty_14 rfl (lv_at hl 0 rfl) ?_
      refine lv_bipush (v := 48) hx hb dX5_empty_15 (by decide) ?_
      refine lv_icmp_ge (tgt := 46) hx hb dX5_empty_17 (by decide) (fun c_8 => ?_) (fun c_8 => ?_)
      · skip
        first | exact absurd c_8 (nI_ge hk_6 (by decide)) | exact absurd (nI_lk hk_6 (by decide)) c_8
      · skip
        refine lv_aload_n hx hb dX5_empty_20 rfl (lv_at hl 1 rfl) ?_
        refine va_get (D := (dC, dI)) (ci := 11) (v := .ref st) (C := RX5) (T := TX5) (N := 5) hx hb hts (by decide +kernel) hown hK hP 0 rfl rfl 0 (by decide) (hts (.fieldLink RX5 11 "Underpaint$Picture" "stacks" "[LUnderpaint$Stack;") (by decide +kernel)) (fun _ h9 => h9) rfl dX5_empty_21 ?_
        refine lv_iload_n hx hb dX5_empty_24 rfl (lv_at hl 0 rfl) ?_
        refine va_aldq hx hb hK hP 1 0 rfl rfl (vp_in_nI hk_6 (by decide)) dX5_empty_25 ?_
        obtain ⟨ap_9, rp_9, hg_ap_9, hup_9, hnp_9⟩ := hG k_1 hk_6
        refine lv_topv (w := .ref ap_9) (by rw [nI_clamp (by omega), hg_ap_9]; rfl) ?_
        have hc0_ap_9 : c0 ≤ ap_9 := hnp_9.1
        have hP := hP.app (va1 hup_9)
        have hD := vD_push (e := .inr (14, [.ref rp_9, .int 0, .int 0])) hD (hAc ap_9 hnp_9.1) (nR (fun z9 => by have g1 := hnp_9.2; simp only [List.map_cons, List.map_nil, List.cons_append, List.nil_append, List.mem_cons, List.not_mem_nil, or_false, not_or] at g1 z9; omega))
        have hP : va_P (dC, dI) vwCl [(q, .inr (11, [.ref st, .ref sp, .ref ll, .int 0, .int 1600])), (st, .inl (cS, 48, .inr (.inr (.inr (.inr g))))), (ap_9, .inr (14, [.ref rp_9, .int 0, .int 0]))] H := hP
        have hD : va_D A [(q, .inr (11, [.ref st, .ref sp, .ref ll, .int 0, .int 1600])), (st, .inl (cS, 48, .inr (.inr (.inr (.inr g))))), (ap_9, .inr (14, [.ref rp_9, .int 0, .int 0]))] := hD
        refine lv_iconst (v := 0) hx hb dX5_empty_26 (by decide) ?_
        refine va_putS (D := (dC, dI)) (ci := 14) (v := .int 0) (ty := .int) (C := RX8) (T := TX8) (N := 3) hx hb hts (by decide +kernel) hown hK (hP 2 _ rfl) (hD.2 2 _ rfl) hS rfl 1 (by decide) (hts (.fieldLink RX5 91 "Underpaint$Stack" "size" "I") (by decide +kernel)) (fun _ h9 => h9) rfl rfl (by decide +kernel) (by first | rfl | decide +kernel) (by first | rfl | decide +kernel) dX5_empty_27 (fun locs hS => ?_)
        refine lv_aload_n hx hb dX5_empty_30 rfl (lv_at hl 1 rfl) ?_
        refine va_get (D := (dC, dI)) (ci := 11) (v := .ref st) (C := RX5) (T := TX5) (N := 5) hx hb hts (by decide +kernel) hown hK hP 0 rfl rfl 0 (by decide) (hts (.fieldLink RX5 11 "Underpaint$Picture" "stacks" "[LUnderpaint$Stack;") (by decide +kernel)) (fun _ h9 => h9) rfl dX5_empty_31 ?_
        refine lv_iload_n hx hb dX5_empty_34 rfl (lv_at hl 0 rfl) ?_
        refine va_aldq hx hb hK hP 1 0 rfl rfl (vp_in_nI hk_6 (by decide)) dX5_empty_35 ?_
        refine lv_topv (w := .ref ap_9) (by rw [nI_clamp (by omega), hg_ap_9]; rfl) ?_
        refine lv_iconst (v := 0) hx hb dX5_empty_36 (by decide) ?_
        refine va_putS (D := (dC, dI)) (ci := 14) (v := .int 0) (ty := .int) (C := RX8) (T := TX8) (N := 3) hx hb hts (by decide +kernel) hown hK (hP 2 _ rfl) (hD.2 2 _ rfl) hS rfl 2 (by decide) (hts (.fieldLink RX5 202 "Underpaint$Stack" "tiredness" "I") (by decide +kernel)) (fun _ h9 => h9) rfl rfl (by decide +kernel) (by first | rfl | decide +kernel) (by first | rfl | decide +kernel) dX5_empty_37 (fun locs hS => ?_)
        obtain ⟨x_10, ex_10⟩ : ∃ y : Int32, y = (nI k_1) + 1 := ⟨_, rfl⟩
        refine lv_iinc (v := x_10) (lv' := [(1, .int x_10), (0, .ref q)]) hx hb dX5_empty_40 hl (k := 0) rfl (by rw [ex_10]; rfl) (by decide) rfl (fun ls hl => ?_)
        have hy : x_10 = nI (k_1 + 1) := by rw [ex_10]; exact nI_1 k_1
        subst hy
        refine lv_goto (tgt := 14) hx hb dX5_empty_43 (by decide) ?_
        exact ih (k_1 + 1) (by omega)  _ _ (hP.sub [0, 1] rfl) (hD.sub [0, 1] (by decide) rfl) hS hG hqq _ (lv_sub hl [0, 1] rfl)
  exact loop_14 48 0 rfl  _ _ hP hD hS hG hqq ls (lv_sub hl [0, 1] rfl)

def wo_c_X5_isBounded_w : List Cond := [Cond.fieldLink RX5 11 "Underpaint$Picture" "stacks" "[LUnderpaint$Stack;", Cond.fieldLink RX5 202 "Underpaint$Stack" "tiredness" "I", Cond.fieldLink RX5 91 "Underpaint$Stack" "size" "I"]
def wo_c_X5_isBounded : List Cond := .code yX5_isBounded cX5_isBounded 2 (some .boolean) :: (wo_c_X5_isBounded_w ++ (u_ws RX5 TX5 5 ++ (u_ws RX8 TX8 3 ++ List.nil)))
theorem gw_wo_c_X5_isBounded : wo_c_X5_isBounded.all goodWord = true := gw_c (by decide +kernel) (gw_a (by decide +kernel) (gw_a (by decide +kernel) (gw_a (by decide +kernel) rfl)))
set_option maxHeartbeats 4000000 in
set_option maxRecDepth 100000 in
/-- Picture.isBounded -/
theorem c_X5_isBounded (l : Launch) (dC : Nat → ClassId) (dI : Nat → Nat → Nat) (b0 : Nat) (en : EnT) (sz : Nat) (q st sp ll c0 : Nat) (g : Nat → Option Nat) (cS : ClassId) (H0 : Heap) (hbc : b0 ≤ c0) (hcs : c0 ≤ sz) (hWc : ∀ (k9 : Nat) (q9 : Nat × va_E), ([(q, .inr (11, [.ref st, .ref sp, .ref ll, .int 0, .int 1600])), (st, .inl (cS, 48, .inr (.inr (.inr (.inr g)))))] : va_W)[k9]? = some q9 → c0 ≤ q9.1) (hRc : ∀ (k9 : Nat) (q9 : Nat × va_E), ([] : va_W)[k9]? = some q9 → q9.1 < c0) : Met l yX5_isBounded wo_c_X5_isBounded ({ frames := 0, cells := 0, slots := 0, locals := 0 } : Room) (cP b0 en (dC, dI) [(cS, .object "Underpaint$Stack")] [(q, .inr (11, [.ref st, .ref sp, .ref ll, .int 0, .int 1600])), (st, .inl (cS, 48, .inr (.inr (.inr (.inr g)))))] [] sz (fun U => FamS (dC, dI) (vN c0 [q, st]) g U ∧ U = H0) [.ref q]) (va_Qi (fun (r : Int32) (u : Unit) => r = 1) (fun u t => cB (dC, dI) [] [] (vC c0) (fun U => hq_ H0 U) t) (vC c0)) 0 0 (vC c0) := by
  refine Met.ofW (cc := cX5_isBounded) (maxL := 2) (ret := (some .boolean)) (by decide) rfl ?_
  intro p e s m args below meth c s₁ B hml hv
  obtain ⟨rfl, hsz, hb0, hE, hPP, hK, hDD, hF0⟩ := hv
  have hx := B.exec
  have hb := B.bytes
  have hr := B.returns
  have hts := atoms_spec (ws := wo_c_X5_isBounded) B.pre
  have hown : s.vm.findClass RX5 = some m.cls := findClass_of_methodNamed B.named
  have hlocks := B.notSynchronized
  subst hsz
  have hN0 : ∀ (k9 : Nat) (q9 : Nat × va_E), ([] : va_W)[k9]? = some q9 → ¬ vC c0 q9.1 := fun k q h => Nat.not_le.mpr (hRc k q h)
  have hP : va_P (dC, dI) vwCl [(q, .inr (11, [.ref st, .ref sp, .ref ll, .int 0, .int 1600])), (st, .inl (cS, 48, .inr (.inr (.inr (.inr g)))))] s.heap := hPP.sub [0, 1] rfl
  have hR0 : va_P (dC, dI) vwCl [] s.heap := hPP.sub [] rfl
  have hD0 : va_D (fun q => b0 ≤ q) [(q, .inr (11, [.ref st, .ref sp, .ref ll, .int 0, .int 1600])), (st, .inl (cS, 48, .inr (.inr (.inr (.inr g)))))] := hDD.sub [0, 1] (by decide) rfl
  have hDr : va_D (fun q => b0 ≤ q) [] := hDD.sub [] (by decide) rfl
  have hAb : ∀ q, vC c0 q → b0 ≤ q := fun q h => Nat.le_trans hbc h
  have hD : va_D (vC c0) [(q, .inr (11, [.ref st, .ref sp, .ref ll, .int 0, .int 1600])), (st, .inl (cS, 48, .inr (.inr (.inr (.inr g)))))] := ⟨hD0.1, hWc⟩
  have hAc : ∀ q : Nat, c0 ≤ q → vC c0 q := fun q h => h
  have hA0 : ∀ q : Nat, s.heap.size ≤ q → vC c0 q := fun q h => Nat.le_trans hcs h
  generalize hAe : vC c0 = A at hD hAb hN0 hAc hA0 ⊢
  have hA : ∀ q : Nat, s.heap.size ≤ q → A q := hA0
  have hS : va_S A s.heap s.heap [] := va_S.rf
  have hR := hR0
  have hl := lv_entry [.ref q] (n := 2) (Nat.le_of_ble_eq_true rfl)
  rw [lg_entry_eq]
  generalize (lg_sl [.ref q] ++ List.replicate (2 - (lg_sl [.ref q]).length) Slot.unset).toArray = ls at hl ⊢
  have hl : lv_has ls 2 [(0, .ref q)] := hl
  have hge_q : c0 ≤ q := (hWc 0 _ rfl)
  have hge_st : c0 ≤ st := (hWc 1 _ rfl)
  have hG := hF0.1
  have hQ0 : s.heap = H0 := hF0.2
  have hqq : hq_ H0 s.heap := by rw [← hQ0]; exact hq_.rf
  refine W.gen (fun Q hQ => ?_)
  have hR0b := hR0
  have hDrb := hDr
  have hN0b := hN0
  refine lv_iconst (v := 0) hx hb dX5_isBounded_0 (by decide) ?_
  refine lv_istore_n (lv' := [(1, .int 0), (0, .ref q)]) hx hb dX5_isBounded_1 rfl hl (by decide) rfl (fun ls hl => ?_)
  have loop_2 : ∀ (n_2 k_1 : Nat), n_2 + k_1 = 48 → ∀ (H : Heap) (locs : List Loc), va_P (dC, dI) vwCl [(q, .inr (11, [.ref st, .ref sp, .ref ll, .int 0, .int 1600])), (st, .inl (cS, 48, .inr (.inr (.inr (.inr g)))))] H → va_D A [(q, .inr (11, [.ref st, .ref sp, .ref ll, .int 0, .int 1600])), (st, .inl (cS, 48, .inr (.inr (.inr (.inr g)))))] → va_S A s.heap H locs → FamS (dC, dI) (vN c0 [q, st]) g H → hq_ H0 H → ∀ ls : Array Slot, lv_has ls 2 [(1, .int (nI k_1)), (0, .ref q)] → W p l e (headSpec wo_c_X5_isBounded ({ frames := 0, cells := 0, slots := 0, locals := 0 } : Room)).room s m #[.ref q] below meth c H locs 0 0 Q (F0 m 2 ls []) := by
    intro n_2
    induction n_2 with
    | zero =>
      intro k_1 hk_3 H locs hP hD hS hG hqq ls hl
      have ek_1 : k_1 = 48 := by omega
      subst ek_1
      have hl : lv_has ls 2 [(1, .int 48), (0, .ref q)] := hl
      have hR : va_P (dC, dI) vwCl [] H := fun k q h => by simp at h
      refine lv_iload_n hx hb dX5_isBounded_2 rfl (lv_at hl 0 rfl) ?_
      refine lv_bipush (v := 48) hx hb dX5_isBounded_3 (by decide) ?_
      refine lv_icmp_ge (tgt := 44) hx hb dX5_isBounded_5 (by decide) (fun c_5 => ?_) (fun c_5 => absurd c_5 (by decide))
      refine lv_iconst (v := 1) hx hb dX5_isBounded_44 (by decide) ?_
      subst hQ
      refine W.widen (k := 0) (n := 0) (Nat.le_of_ble_eq_true rfl) (Nat.le_of_ble_eq_true rfl) ?_
      exact W.zret (v := 1) hx hb hr (by first | rfl | decide +kernel) (fun t ht hW => ⟨⟨1, (), rfl, (z_c_X6_add_b_353), cB.mk ht hW (hP.sub [] rfl) (hK.sub [] rfl) (hD.sub [] (by decide) rfl) (hqq)⟩, hS.F ht⟩) hS.2.2 dX5_isBounded_45
    | succ n_2 ih =>
      intro k_1 hk_3 H locs hP hD hS hG hqq ls hl
      have hk_6 : k_1 < 48 := by omega
      have hb_7 : 0 ≤ nI k_1 ∧ nI k_1 < 48 := ⟨nI_le (Nat.zero_le _) (by omega), nI_lk hk_6 (by decide)⟩
      have hR : va_P (dC, dI) vwCl [] H := fun k q h => by simp at h
      refine lv_iload_n hx hb dX5_isBounded_2 rfl (lv_at hl 0 rfl) ?_
      refine lv_bipush (v := 48) hx hb dX5_isBounded_3 (by decide) ?_
      refine lv_icmp_ge (tgt := 44) hx hb dX5_isBounded_5 (by decide) (fun c_8 => ?_) (fun c_8 => ?_)
      · skip
        first | exact absurd c_8 (nI_ge hk_6 (by decide)) | exact absurd (nI_lk hk_6 (by decide)) c_8
      · skip
        refine lv_aload_n hx hb dX5_isBounded_8 rfl (lv_at hl 1 rfl) ?_
        refine va_get (D := (dC, dI)) (ci := 11) (v := .ref st) (C := RX5) (T := TX5) (N := 5) hx hb hts (by decide +kernel) hown hK hP 0 rfl rfl 0 (by decide) (hts (.fieldLink RX5 11 "Underpaint$Picture" "stacks" "[LUnderpaint$Stack;") (by decide +kernel)) (fun _ h9 => h9) rfl dX5_isBounded_9 ?_
        refine lv_iload_n hx hb dX5_isBounded_12 rfl (lv_at hl 0 rfl) ?_
        refine va_aldq hx hb hK hP 1 0 rfl rfl (vp_in_nI hk_6 (by decide)) dX5_isBounded_13 ?_
        obtain ⟨ap_9, rp_9, hg_ap_9, hup_9, hnp_9⟩ := hG k_1 hk_6
        refine lv_topv (w := .ref ap_9) (by rw [nI_clamp (by omega), hg_ap_9]; rfl) ?_
        have hc0_ap_9 : c0 ≤ ap_9 := hnp_9.1
        have hP := hP.app (va1 hup_9)
        have hD := vD_push (e := .inr (14, [.ref rp_9, .int 0, .int 0])) hD (hAc ap_9 hnp_9.1) (nR (fun z9 => by have g1 := hnp_9.2; simp only [List.map_cons, List.map_nil, List.cons_append, List.nil_append, List.mem_cons, List.not_mem_nil, or_false, not_or] at g1 z9; omega))
        have hP : va_P (dC, dI) vwCl [(q, .inr (11, [.ref st, .ref sp, .ref ll, .int 0, .int 1600])), (st, .inl (cS, 48, .inr (.inr (.inr (.inr g))))), (ap_9, .inr (14, [.ref rp_9, .int 0, .int 0]))] H := hP
        have hD : va_D A [(q, .inr (11, [.ref st, .ref sp, .ref ll, .int 0, .int 1600])), (st, .inl (cS, 48, .inr (.inr (.inr (.inr g))))), (ap_9, .inr (14, [.ref rp_9, .int 0, .int 0]))] := hD
        refine va_get (D := (dC, dI)) (ci := 14) (v := .int 0) (C := RX8) (T := TX8) (N := 3) hx hb hts (by decide +kernel) hown hK hP 2 rfl rfl 2 (by decide) (hts (.fieldLink RX5 202 "Underpaint$Stack" "tiredness" "I") (by decide +kernel)) (fun _ h9 => h9) rfl dX5_isBounded_14 ?_
        refine lv_bipush (v := 99) hx hb dX5_isBounded_17 (by decide) ?_
        refine lv_icmp_gt (tgt := 36) hx hb dX5_isBounded_19 (by decide) (fun c_10 => absurd c_10 (by decide)) (fun c_10 => ?_)
        refine lv_aload_n hx hb dX5_isBounded_22 rfl (lv_at hl 1 rfl) ?_
        refine va_get (D := (dC, dI)) (ci := 11) (v := .ref st) (C := RX5) (T := TX5) (N := 5) hx hb hts (by decide +kernel) hown hK hP 0 rfl rfl 0 (by decide) (hts (.fieldLink RX5 11 "Underpaint$Picture" "stacks" "[LUnderpaint$Stack;") (by decide +kernel)) (fun _ h9 => h9) rfl dX5_isBounded_23 ?_
        refine lv_iload_n hx hb dX5_isBounded_26 rfl (lv_at hl 0 rfl) ?_
        refine va_aldq hx hb hK hP 1 0 rfl rfl (vp_in_nI hk_6 (by decide)) dX5_isBounded_27 ?_
        refine lv_topv (w := .ref ap_9) (by rw [nI_clamp (by omega), hg_ap_9]; rfl) ?_
        refine va_get (D := (dC, dI)) (ci := 14) (v := .int 0) (C := RX8) (T := TX8) (N := 3) hx hb hts (by decide +kernel) hown hK hP 2 rfl rfl 1 (by decide) (hts (.fieldLink RX5 91 "Underpaint$Stack" "size" "I") (by decide +kernel)) (fun _ h9 => h9) rfl dX5_isBounded_28 ?_
        refine lv_bipush (v := 9) hx hb dX5_isBounded_31 (by decide) ?_
        refine lv_icmp_le (tgt := 38) hx hb dX5_isBounded_33 (by decide) (fun c_11 => ?_) (fun c_11 => absurd c_11 (by decide))
        obtain ⟨x_12, ex_12⟩ : ∃ y : Int32, y = (nI k_1) + 1 := ⟨_, rfl⟩
        refine lv_iinc (v := x_12) (lv' := [(1, .int x_12), (0, .ref q)]) hx hb dX5_isBounded_38 hl (k := 0) rfl (by rw [ex_12]; rfl) (by decide) rfl (fun ls hl => ?_)
        have hy : x_12 = nI (k_1 + 1) := by rw [ex_12]; exact nI_1 k_1
        subst hy
        refine lv_goto (tgt := 2) hx hb dX5_isBounded_41 (by decide) ?_
        exact ih (k_1 + 1) (by omega)  _ _ (hP.sub [0, 1] rfl) (hD.sub [0, 1] (by decide) rfl) hS hG hqq _ (lv_sub hl [0, 1] rfl)
  exact loop_2 48 0 rfl  _ _ hP hD hS hG hqq ls (lv_sub hl [0, 1] rfl)

def wo_c_X5_travel_w : List Cond := [Cond.fieldLink RX5 105 "Underpaint$Loan" "size" "I"]
def wo_c_X5_travel : List Cond := .code yX5_travel cX5_travel 5 (some .int) :: (wo_c_X5_travel_w ++ (u_ws RX3 TX3 3 ++ List.nil))
theorem gw_wo_c_X5_travel : wo_c_X5_travel.all goodWord = true := gw_c (by decide +kernel) (gw_a (by decide +kernel) (gw_a (by decide +kernel) rfl))
set_option maxHeartbeats 4000000 in
set_option maxRecDepth 100000 in
/-- Picture.travel without legs -/
theorem c_X5_travel (l : Launch) (dC : Nat → ClassId) (dI : Nat → Nat → Nat) (b0 : Nat) (en : EnT) (sz : Nat) (q loa lh ld : Nat) : Met l yX5_travel wo_c_X5_travel ({ frames := 0, cells := 0, slots := 0, locals := 0 } : Room) (cP b0 en (dC, dI) [] [] [(loa, .inr (9, [.ref lh, .ref ld, .int 0]))] sz (fun _ => True) [.ref q, .ref loa]) (va_Qi (fun (r : Int32) (_ : Unit) => r = 0) (fun _ _ => True) (va_A [] sz)) 0 0 (va_A [] sz) := by
  refine Met.ofW (cc := cX5_travel) (maxL := 5) (ret := (some .int)) (by decide) rfl ?_
  intro p e s m args below meth c s₁ B hml hv
  obtain ⟨rfl, hsz, hb0, hE, hPP, hK, hDD, hF0⟩ := hv
  have hx := B.exec
  have hb := B.bytes
  have hr := B.returns
  have hts := atoms_spec (ws := wo_c_X5_travel) B.pre
  have hown : s.vm.findClass RX5 = some m.cls := findClass_of_methodNamed B.named
  have hlocks := B.notSynchronized
  subst hsz
  have hN0 := en_N hPP hDD rfl
  have hP : va_P (dC, dI) vwCl [] s.heap := hPP.sub [] rfl
  have hR0 : va_P (dC, dI) vwCl [(loa, .inr (9, [.ref lh, .ref ld, .int 0]))] s.heap := hPP.sub [0] rfl
  have hD0 : va_D (fun q => b0 ≤ q) [] := hDD.sub [] (by decide) rfl
  have hDr : va_D (fun q => b0 ≤ q) [(loa, .inr (9, [.ref lh, .ref ld, .int 0]))] := hDD.sub [0] (by decide) rfl
  have hAb := en_A (sz := s.heap.size) hD0 hb0
  have hD := hD0.self (sz := s.heap.size)
  generalize hAe : va_A [] s.heap.size = A at hD hAb hN0 ⊢
  have hA : ∀ q : Nat, s.heap.size ≤ q → A q := fun q h => by rw [← hAe]; exact Or.inr h
  have hS : va_S A s.heap s.heap [] := va_S.rf
  have hR := hR0
  have hl := lv_entry [.ref q, .ref loa] (n := 5) (Nat.le_of_ble_eq_true rfl)
  rw [lg_entry_eq]
  generalize (lg_sl [.ref q, .ref loa] ++ List.replicate (5 - (lg_sl [.ref q, .ref loa]).length) Slot.unset).toArray = ls at hl ⊢
  have hl : lv_has ls 5 [(0, .ref q), (1, .ref loa)] := hl
  refine lv_iconst (v := 0) hx hb dX5_travel_0 (by decide) ?_
  refine lv_istore_n (lv' := [(2, .int 0), (0, .ref q), (1, .ref loa)]) hx hb dX5_travel_1 rfl hl (by decide) rfl (fun ls hl => ?_)
  refine lv_iconst (v := 0) hx hb dX5_travel_2 (by decide) ?_
  refine lv_istore_n (lv' := [(3, .int 0), (2, .int 0), (0, .ref q), (1, .ref loa)]) hx hb dX5_travel_3 rfl hl (by decide) rfl (fun ls hl => ?_)
  refine lv_iload_n hx hb dX5_travel_4 rfl (lv_at hl 0 rfl) ?_
  refine lv_aload_n hx hb dX5_travel_5 rfl (lv_at hl 3 rfl) ?_
  refine va_get (D := (dC, dI)) (ci := 9) (v := .int 0) (C := RX3) (T := TX3) (N := 3) hx hb hts (by decide +kernel) hown hK hR 0 rfl rfl 2 (by decide) (hts (.fieldLink RX5 105 "Underpaint$Loan" "size" "I") (by decide +kernel)) (fun _ h9 => h9) rfl dX5_travel_6 ?_
  refine lv_icmp_ge (tgt := 59) hx hb dX5_travel_9 (by decide) (fun c_1 => ?_) (fun c_1 => absurd c_1 (by decide))
  refine lv_iload_n hx hb dX5_travel_59 rfl (lv_at hl 1 rfl) ?_
  refine W.widen (k := 0) (n := 0) (Nat.le_of_ble_eq_true rfl) (Nat.le_of_ble_eq_true rfl) ?_
  exact W.iret (v := 0) hx hb hr (fun t ht hW => ⟨⟨0, (), rfl, (z_c_X14_lends_164), trivial⟩, hS.F ht⟩) hS.2.2 dX5_travel_60

def wo_c_X11_redoAllBut_w : List Cond := [Cond.fieldLink RX11 66 "Underpaint" "spare" "LUnderpaint$Picture;", Cond.fieldLink RX11 19 "Underpaint" "file" "Ljava/util/ArrayList;"]
def wo_c_X11_redoAllBut : List Cond := .code yX11_redoAllBut cX11_redoAllBut 3 (some .boolean) :: (wo_c_X11_redoAllBut_w ++ (u_ws RX11 TX11 14 ++ (wsV RX11 434 RX5 yX5_empty wo_c_X5_empty ++ (wsV RX11 95 RJx4a65c yJx4a65c_size_8abf5 wsJx4a65c_size_8abf5 ++ List.nil))))
theorem gw_wo_c_X11_redoAllBut : wo_c_X11_redoAllBut.all goodWord = true := gw_c (by decide +kernel) (gw_a (by decide +kernel) (gw_a (by decide +kernel) (gw_a (gw_a (by decide +kernel) gw_wo_c_X5_empty) (gw_a (gw_a (by decide +kernel) gw_wsJx4a65c_size_8abf5) rfl))))
theorem go_c_X11_redoAllBut_0 : GoodIn wo_c_X11_redoAllBut (wsV RX11 434 RX5 yX5_empty wo_c_X5_empty) := goodIn_sub (fun _ h => List.mem_cons_of_mem _ (List.mem_append_right _ (List.mem_append_right _ (List.mem_append_left _ h)))) (gw_a (by decide +kernel) gw_wo_c_X5_empty)
theorem go_c_X11_redoAllBut_1 : GoodIn wo_c_X11_redoAllBut (wsV RX11 95 RJx4a65c yJx4a65c_size_8abf5 wsJx4a65c_size_8abf5) := goodIn_sub (fun _ h => List.mem_cons_of_mem _ (List.mem_append_right _ (List.mem_append_right _ (List.mem_append_right _ (List.mem_append_left _ h))))) (gw_a (by decide +kernel) gw_wsJx4a65c_size_8abf5)
set_option maxHeartbeats 4000000 in
set_option maxRecDepth 100000 in
/-- redoAllBut: no act -/
theorem c_X11_redoAllBut (l : Launch) (dC : Nat → ClassId) (dI : Nat → Nat → Nat) (b0 : Nat) (en : EnT) (sz : Nat) (h pal she fil nte dat vot loa nos pic spa : Nat) (st sp ll st2 sp2 ll2 c0 : Nat) (g g2 : Nat → Option Nat) (cS cT : ClassId) (H0 : Heap) (hdj : DJ g g2) (hbc : b0 ≤ c0) (hcs : c0 ≤ sz) (hWc : ∀ (k9 : Nat) (q9 : Nat × va_E), ([(h, .inr (17, [.ref pal, .ref she, .ref fil, .ref nte, .ref dat, .ref vot, .ref loa, .ref nos, .ref pic, .ref spa, .int 5, .int 50, .int 1600, .int 0])), (pic, .inr (11, [.ref st, .ref sp, .ref ll, .int 0, .int 1600])), (st, .inl (cS, 48, .inr (.inr (.inr (.inr g))))), (spa, .inr (11, [.ref st2, .ref sp2, .ref ll2, .int 0, .int 1600])), (st2, .inl (cT, 48, .inr (.inr (.inr (.inr g2))))), (fil, .inr (5, [.int 0, .ref en.2.2.1, .int 0]))] : va_W)[k9]? = some q9 → c0 ≤ q9.1) (hRc : ∀ (k9 : Nat) (q9 : Nat × va_E), ([] : va_W)[k9]? = some q9 → q9.1 < c0) : Met l yX11_redoAllBut wo_c_X11_redoAllBut ({ frames := 1, cells := 0, slots := 0, locals := 21 } : Room) (cP b0 en (dC, dI) [(cS, .object "Underpaint$Stack"), (cT, .object "Underpaint$Stack")] [(h, .inr (17, [.ref pal, .ref she, .ref fil, .ref nte, .ref dat, .ref vot, .ref loa, .ref nos, .ref pic, .ref spa, .int 5, .int 50, .int 1600, .int 0])), (pic, .inr (11, [.ref st, .ref sp, .ref ll, .int 0, .int 1600])), (st, .inl (cS, 48, .inr (.inr (.inr (.inr g))))), (spa, .inr (11, [.ref st2, .ref sp2, .ref ll2, .int 0, .int 1600])), (st2, .inl (cT, 48, .inr (.inr (.inr (.inr g2))))), (fil, .inr (5, [.int 0, .ref en.2.2.1, .int 0]))] [] sz (fun U => FamS (dC, dI) (vN c0 [pic, st, spa, st2]) g U ∧ FamS (dC, dI) (vN c0 [pic, st, spa, st2]) g2 U ∧ U = H0) [.ref h, .int (-1)]) (va_Qi (fun (r : Int32) (u : Unit) => r = 1) (fun u t => cB (dC, dI) [] [] (vC c0) (fun U => hq_ H0 U) t) (vC c0)) 0 0 (vC c0) := by
  refine Met.ofW (cc := cX11_redoAllBut) (maxL := 3) (ret := (some .boolean)) (by decide) rfl ?_
  intro p e s m args below meth c s₁ B hml hv
  obtain ⟨rfl, hsz, hb0, hE, hPP, hK, hDD, hF0⟩ := hv
  have hx := B.exec
  have hb := B.bytes
  have hr := B.returns
  have hts := atoms_spec (ws := wo_c_X11_redoAllBut) B.pre
  have hown : s.vm.findClass RX11 = some m.cls := findClass_of_methodNamed B.named
  have hlocks := B.notSynchronized
  subst hsz
  have hN0 : ∀ (k9 : Nat) (q9 : Nat × va_E), ([] : va_W)[k9]? = some q9 → ¬ vC c0 q9.1 := fun k q h => Nat.not_le.mpr (hRc k q h)
  have hP : va_P (dC, dI) vwCl [(h, .inr (17, [.ref pal, .ref she, .ref fil, .ref nte, .ref dat, .ref vot, .ref loa, .ref nos, .ref pic, .ref spa, .int 5, .int 50, .int 1600, .int 0])), (pic, .inr (11, [.ref st, .ref sp, .ref ll, .int 0, .int 1600])), (st, .inl (cS, 48, .inr (.inr (.inr (.inr g))))), (spa, .inr (11, [.ref st2, .ref sp2, .ref ll2, .int 0, .int 1600])), (st2, .inl (cT, 48, .inr (.inr (.inr (.inr g2))))), (fil, .inr (5, [.int 0, .ref en.2.2.1, .int 0]))] s.heap := hPP.sub [0, 1, 2, 3, 4, 5] rfl
  have hR0 : va_P (dC, dI) vwCl [] s.heap := hPP.sub [] rfl
  have hD0 : va_D (fun q => b0 ≤ q) [(h, .inr (17, [.ref pal, .ref she, .ref fil, .ref nte, .ref dat, .ref vot, .ref loa, .ref nos, .ref pic, .ref spa, .int 5, .int 50, .int 1600, .int 0])), (pic, .inr (11, [.ref st, .ref sp, .ref ll, .int 0, .int 1600])), (st, .inl (cS, 48, .inr (.inr (.inr (.inr g))))), (spa, .inr (11, [.ref st2, .ref sp2, .ref ll2, .int 0, .int 1600])), (st2, .inl (cT, 48, .inr (.inr (.inr (.inr g2))))), (fil, .inr (5, [.int 0, .ref en.2.2.1, .int 0]))] := hDD.sub [0, 1, 2, 3, 4, 5] (by decide) rfl
  have hDr : va_D (fun q => b0 ≤ q) [] := hDD.sub [] (by decide) rfl
  have hAb : ∀ q, vC c0 q → b0 ≤ q := fun q h => Nat.le_trans hbc h
  have hD : va_D (vC c0) [(h, .inr (17, [.ref pal, .ref she, .ref fil, .ref nte, .ref dat, .ref vot, .ref loa, .ref nos, .ref pic, .ref spa, .int 5, .int 50, .int 1600, .int 0])), (pic, .inr (11, [.ref st, .ref sp, .ref ll, .int 0, .int 1600])), (st, .inl (cS, 48, .inr (.inr (.inr (.inr g))))), (spa, .inr (11, [.ref st2, .ref sp2, .ref ll2, .int 0, .int 1600])), (st2, .inl (cT, 48, .inr (.inr (.inr (.inr g2))))), (fil, .inr (5, [.int 0, .ref en.2.2.1, .int 0]))] := ⟨hD0.1, hWc⟩
  have hAc : ∀ q : Nat, c0 ≤ q → vC c0 q := fun q h => h
  have hA0 : ∀ q : Nat, s.heap.size ≤ q → vC c0 q := fun q h => Nat.le_trans hcs h
  generalize hAe : vC c0 = A at hD hAb hN0 hAc hA0 ⊢
  have hA : ∀ q : Nat, s.heap.size ≤ q → A q := hA0
  have hS : va_S A s.heap s.heap [] := va_S.rf
  have hR := hR0
  have hl := lv_entry [.ref h, .int (-1)] (n := 3) (Nat.le_of_ble_eq_true rfl)
  rw [lg_entry_eq]
  generalize (lg_sl [.ref h, .int (-1)] ++ List.replicate (3 - (lg_sl [.ref h, .int (-1)]).length) Slot.unset).toArray = ls at hl ⊢
  have hl : lv_has ls 3 [(0, .ref h), (1, .int (-1))] := hl
  have hge_h : c0 ≤ h := (hWc 0 _ rfl)
  have hge_pic : c0 ≤ pic := (hWc 1 _ rfl)
  have hge_st : c0 ≤ st := (hWc 2 _ rfl)
  have hge_spa : c0 ≤ spa := (hWc 3 _ rfl)
  have hge_st2 : c0 ≤ st2 := (hWc 4 _ rfl)
  have hge_fil : c0 ≤ fil := (hWc 5 _ rfl)
  have hG := hF0.1
  have hGo0 := hF0.2.1
  have hQ0 : s.heap = H0 := hF0.2.2
  have hqq : hq_ H0 s.heap := by rw [← hQ0]; exact hq_.rf
  have hR0b := hR0
  have hDrb := hDr
  have hN0b := hN0
  refine lv_aload_n hx hb dX11_redoAllBut_0 rfl (lv_at hl 0 rfl) ?_
  refine va_get (D := (dC, dI)) (ci := 17) (v := .ref spa) (C := RX11) (T := TX11) (N := 14) hx hb hts (by decide +kernel) hown hK hP 0 rfl rfl 9 (by decide) (hts (.fieldLink RX11 66 "Underpaint" "spare" "LUnderpaint$Picture;") (by decide +kernel)) (fun _ h9 => h9) rfl dX11_redoAllBut_1 ?_
  have hPc := (hP.app hR).sub (ws' := [(spa, .inr (11, [.ref st2, .ref sp2, .ref ll2, .int 0, .int 1600])), (st2, .inl (cT, 48, .inr (.inr (.inr (.inr g2)))))] ++ []) [3, 4] rfl
  have hDc := (en_DD hD hDr hN0 hAb).sub (ws' := [(spa, .inr (11, [.ref st2, .ref sp2, .ref ll2, .int 0, .int 1600])), (st2, .inl (cT, 48, .inr (.inr (.inr (.inr g2)))))] ++ []) [3, 4] (by decide) rfl
  have hKc := hK.sub (tys' := [(cT, .object "Underpaint$Stack")]) [1] rfl
  have hFc : ∀ q, vC c0 q → A q := fun q h => hAc q h
  refine va_callv (va_runV (As := []) (rest := []) ⟨hx, hb, hml, hown, hts⟩ (c_X5_empty l dC dI b0 en s.heap.size spa st2 sp2 ll2 c0 g2 cT s.heap hbc (Nat.le_trans hcs hS.1) (vW1 (by first | exact hge_spa | exact hc0_spa | omega) (vW1 (by first | exact hge_st2 | exact hc0_st2 | omega) vW0)) vL0) (cwV 0 hts go_c_X11_redoAllBut_0 rfl rfl rfl (by decide +kernel) ⟨Nat.le_of_ble_eq_true rfl, Nat.le_of_ble_eq_true rfl⟩) ⟨cP.blind, va_recv hK hP (ci := 11) (q0 := 3) rfl rfl, cP.use (en_z hb0 hS) (hE.on hAb hS) hPc hKc hDc (⟨(show FamS (dC, dI) (vN c0 [spa, st2]) g2 s.heap from hGo0.mono (fun a9 h9 => ⟨h9.1, fun z9 => h9.2 (by simp only [List.mem_cons, List.not_mem_nil, or_false] at z9 ⊢; omega)⟩)), rfl⟩)⟩ rfl rfl hl.1 rfl (lv_room (Nat.le_of_ble_eq_true rfl)) dX11_redoAllBut_4 ⟨Nat.le_of_ble_eq_true rfl, Nat.le_of_ble_eq_true rfl⟩) hS (fun q _ h => hFc q h) hFc (fun u t H1 locs ht hvm hw hB hz1 hk1 hS => ?_)
  obtain ⟨hP1, hK1, hD1, hF1⟩ := hB
  rw [ht] at hF1
  try dsimp only at hw
  have hq9 : hq_ s.heap H1 := hF1
  have hP := hP.hq hq9
  have hG := hG.hq hq9
  have hGo0 := hGo0.hq hq9
  have hqq := hqq.hq hq9
  clear hP1 hF1 hK1 hD1
  generalize H1 = H at hP hS hG hGo0 hqq ⊢
  have hP : va_P (dC, dI) vwCl [(h, .inr (17, [.ref pal, .ref she, .ref fil, .ref nte, .ref dat, .ref vot, .ref loa, .ref nos, .ref pic, .ref spa, .int 5, .int 50, .int 1600, .int 0])), (pic, .inr (11, [.ref st, .ref sp, .ref ll, .int 0, .int 1600])), (st, .inl (cS, 48, .inr (.inr (.inr (.inr g))))), (spa, .inr (11, [.ref st2, .ref sp2, .ref ll2, .int 0, .int 1600])), (st2, .inl (cT, 48, .inr (.inr (.inr (.inr g2))))), (fil, .inr (5, [.int 0, .ref en.2.2.1, .int 0]))] H := hP
  have hD : va_D A [(h, .inr (17, [.ref pal, .ref she, .ref fil, .ref nte, .ref dat, .ref vot, .ref loa, .ref nos, .ref pic, .ref spa, .int 5, .int 50, .int 1600, .int 0])), (pic, .inr (11, [.ref st, .ref sp, .ref ll, .int 0, .int 1600])), (st, .inl (cS, 48, .inr (.inr (.inr (.inr g))))), (spa, .inr (11, [.ref st2, .ref sp2, .ref ll2, .int 0, .int 1600])), (st2, .inl (cT, 48, .inr (.inr (.inr (.inr g2))))), (fil, .inr (5, [.int 0, .ref en.2.2.1, .int 0]))] := hD
  have hR : va_P (dC, dI) vwCl [] H := fun k q h => by simp at h
  refine W.widen (k := 0) (n := 0) (Nat.le_of_ble_eq_true rfl) (Nat.le_of_ble_eq_true rfl) ?_
  refine lv_iconst (v := 0) hx hb dX11_redoAllBut_7 (by decide) ?_
  refine lv_istore_n (lv' := [(2, .int 0), (0, .ref h), (1, .int (-1))]) hx hb dX11_redoAllBut_8 rfl hl (by decide) rfl (fun ls hl => ?_)
  refine lv_iload_n hx hb dX11_redoAllBut_9 rfl (lv_at hl 0 rfl) ?_
  refine lv_aload_n hx hb dX11_redoAllBut_10 rfl (lv_at hl 1 rfl) ?_
  refine va_get (D := (dC, dI)) (ci := 17) (v := .ref fil) (C := RX11) (T := TX11) (N := 14) hx hb hts (by decide +kernel) hown hK hP 0 rfl rfl 2 (by decide) (hts (.fieldLink RX11 19 "Underpaint" "file" "Ljava/util/ArrayList;") (by decide +kernel)) (fun _ h9 => h9) rfl dX11_redoAllBut_11 ?_
  have hPc := (hP.app hR).sub (ws' := [] ++ [(fil, .inr (5, [.int 0, .ref en.2.2.1, .int 0]))]) [5] rfl
  have hDc := (en_DD hD hDr hN0 hAb).sub (ws' := [] ++ [(fil, .inr (5, [.int 0, .ref en.2.2.1, .int 0]))]) [5] (by decide) rfl
  have hKc := hK.sub (tys' := []) [] rfl
  have hFc := va_free (wc := []) hD hS hA [] rfl
  refine va_calli (va_runV (As := []) (rest := [.int 0]) ⟨hx, hb, hml, hown, hts⟩ (c_Jx4a65c_size l dC dI b0 en H.size fil en.2.2.1 0 0) (cwV 0 hts go_c_X11_redoAllBut_1 rfl rfl rfl (by decide +kernel) ⟨Nat.le_of_ble_eq_true rfl, Nat.le_of_ble_eq_true rfl⟩) ⟨cP.blind, va_recv hK hP (ci := 5) (q0 := 5) rfl rfl, cP.use (en_z hb0 hS) (hE.on hAb hS) hPc hKc hDc trivial⟩ rfl rfl hl.1 rfl (lv_room (Nat.le_of_ble_eq_true rfl)) dX11_redoAllBut_14 ⟨Nat.le_of_ble_eq_true rfl, Nat.le_of_ble_eq_true rfl⟩) hS (fun q _ h => hFc q h) hFc (fun r_2 u t H1 locs ht hvm hw hB hz1 hk1 hS => ?_)
  have hP1 : va_P (dC, dI) vwCl [] H1 := fun k q h => by simp at h
  have hD1 : va_D (va_A [] H.size) [] := ⟨fun i j p q h => by simp at h, fun k q h => by simp at h⟩
  try dsimp only at hw
  obtain ⟨hP, hD⟩ := va_join (wr := [(h, .inr (17, [.ref pal, .ref she, .ref fil, .ref nte, .ref dat, .ref vot, .ref loa, .ref nos, .ref pic, .ref spa, .int 5, .int 50, .int 1600, .int 0])), (pic, .inr (11, [.ref st, .ref sp, .ref ll, .int 0, .int 1600])), (st, .inl (cS, 48, .inr (.inr (.inr (.inr g))))), (spa, .inr (11, [.ref st2, .ref sp2, .ref ll2, .int 0, .int 1600])), (st2, .inl (cT, 48, .inr (.inr (.inr (.inr g2))))), (fil, .inr (5, [.int 0, .ref en.2.2.1, .int 0]))]) (w1 := []) hP hD [] [0, 1, 2, 3, 4, 5] rfl rfl (by decide) (by decide) hk1 hFc hP1 hD1
  have hG := hG.hq (hq_.of (ws := []) hk1)
  have hGo0 := hGo0.hq (hq_.of (ws := []) hk1)
  have hqq := hqq.hq (hq_.of (ws := []) hk1)
  generalize H1 = H at hP hS hG hGo0 hqq ⊢
  have hP : va_P (dC, dI) vwCl [(h, .inr (17, [.ref pal, .ref she, .ref fil, .ref nte, .ref dat, .ref vot, .ref loa, .ref nos, .ref pic, .ref spa, .int 5, .int 50, .int 1600, .int 0])), (pic, .inr (11, [.ref st, .ref sp, .ref ll, .int 0, .int 1600])), (st, .inl (cS, 48, .inr (.inr (.inr (.inr g))))), (spa, .inr (11, [.ref st2, .ref sp2, .ref ll2, .int 0, .int 1600])), (st2, .inl (cT, 48, .inr (.inr (.inr (.inr g2))))), (fil, .inr (5, [.int 0, .ref en.2.2.1, .int 0]))] H := hP
  have hD : va_D A [(h, .inr (17, [.ref pal, .ref she, .ref fil, .ref nte, .ref dat, .ref vot, .ref loa, .ref nos, .ref pic, .ref spa, .int 5, .int 50, .int 1600, .int 0])), (pic, .inr (11, [.ref st, .ref sp, .ref ll, .int 0, .int 1600])), (st, .inl (cS, 48, .inr (.inr (.inr (.inr g))))), (spa, .inr (11, [.ref st2, .ref sp2, .ref ll2, .int 0, .int 1600])), (st2, .inl (cT, 48, .inr (.inr (.inr (.inr g2))))), (fil, .inr (5, [.int 0, .ref en.2.2.1, .int 0]))] := hD
  have hR : va_P (dC, dI) vwCl [] H := fun k q h => by simp at h
  refine W.widen (k := 0) (n := 0) (Nat.le_of_ble_eq_true rfl) (Nat.le_of_ble_eq_true rfl) ?_
  subst r_2
  refine lv_icmp_ge (tgt := 73) hx hb dX11_redoAllBut_17 (by decide) (fun c_3 => ?_) (fun c_3 => absurd c_3 (by decide))
  refine lv_iconst (v := 1) hx hb dX11_redoAllBut_73 (by decide) ?_
  refine W.widen (k := 0) (n := 0) (Nat.le_of_ble_eq_true rfl) (Nat.le_of_ble_eq_true rfl) ?_
  exact W.zret (v := 1) hx hb hr (by first | rfl | decide +kernel) (fun t ht hW => ⟨⟨1, (), rfl, (z_c_X6_add_b_353), cB.mk ht hW (hP.sub [] rfl) (hK.sub [] rfl) (hD.sub [] (by decide) rfl) (hqq)⟩, hS.F ht⟩) hS.2.2 dX11_redoAllBut_74

def wo_c_X11_isSound_w : List Cond := [Cond.fieldLink RX11 66 "Underpaint" "spare" "LUnderpaint$Picture;", Cond.fieldLink RX11 62 "Underpaint" "picture" "LUnderpaint$Picture;"]
def wo_c_X11_isSound : List Cond := .code yX11_isSound cX11_isSound 1 (some .boolean) :: (wo_c_X11_isSound_w ++ (u_ws RX11 TX11 14 ++ (wsV RX11 400 RX11 yX11_redoAllBut wo_c_X11_redoAllBut ++ (wsV RX11 420 RX5 yX5_isSameAs wo_c_X5_isSameAs ++ (wsV RX11 424 RX5 yX5_isBounded wo_c_X5_isBounded ++ List.nil)))))
theorem gw_wo_c_X11_isSound : wo_c_X11_isSound.all goodWord = true := gw_c (by decide +kernel) (gw_a (by decide +kernel) (gw_a (by decide +kernel) (gw_a (gw_a (by decide +kernel) gw_wo_c_X11_redoAllBut) (gw_a (gw_a (by decide +kernel) gw_wo_c_X5_isSameAs) (gw_a (gw_a (by decide +kernel) gw_wo_c_X5_isBounded) rfl)))))
theorem go_c_X11_isSound_0 : GoodIn wo_c_X11_isSound (wsV RX11 400 RX11 yX11_redoAllBut wo_c_X11_redoAllBut) := goodIn_sub (fun _ h => List.mem_cons_of_mem _ (List.mem_append_right _ (List.mem_append_right _ (List.mem_append_left _ h)))) (gw_a (by decide +kernel) gw_wo_c_X11_redoAllBut)
theorem go_c_X11_isSound_1 : GoodIn wo_c_X11_isSound (wsV RX11 420 RX5 yX5_isSameAs wo_c_X5_isSameAs) := goodIn_sub (fun _ h => List.mem_cons_of_mem _ (List.mem_append_right _ (List.mem_append_right _ (List.mem_append_right _ (List.mem_append_left _ h))))) (gw_a (by decide +kernel) gw_wo_c_X5_isSameAs)
theorem go_c_X11_isSound_2 : GoodIn wo_c_X11_isSound (wsV RX11 424 RX5 yX5_isBounded wo_c_X5_isBounded) := goodIn_sub (fun _ h => List.mem_cons_of_mem _ (List.mem_append_right _ (List.mem_append_right _ (List.mem_append_right _ (List.mem_append_right _ (List.mem_append_left _ h)))))) (gw_a (by decide +kernel) gw_wo_c_X5_isBounded)
set_option maxHeartbeats 4000000 in
set_option maxRecDepth 100000 in
/-- isSound -/
theorem c_X11_isSound (l : Launch) (dC : Nat → ClassId) (dI : Nat → Nat → Nat) (b0 : Nat) (en : EnT) (sz : Nat) (h pal she fil nte dat vot loa nos pic spa : Nat) (st sp ll st2 sp2 ll2 c0 : Nat) (g g2 : Nat → Option Nat) (cS cT : ClassId) (H0 : Heap) (hdj : DJ g g2) (hbc : b0 ≤ c0) (hcs : c0 ≤ sz) (hWc : ∀ (k9 : Nat) (q9 : Nat × va_E), ([(h, .inr (17, [.ref pal, .ref she, .ref fil, .ref nte, .ref dat, .ref vot, .ref loa, .ref nos, .ref pic, .ref spa, .int 5, .int 50, .int 1600, .int 0])), (pic, .inr (11, [.ref st, .ref sp, .ref ll, .int 0, .int 1600])), (st, .inl (cS, 48, .inr (.inr (.inr (.inr g))))), (spa, .inr (11, [.ref st2, .ref sp2, .ref ll2, .int 0, .int 1600])), (st2, .inl (cT, 48, .inr (.inr (.inr (.inr g2))))), (fil, .inr (5, [.int 0, .ref en.2.2.1, .int 0]))] : va_W)[k9]? = some q9 → c0 ≤ q9.1) (hRc : ∀ (k9 : Nat) (q9 : Nat × va_E), ([] : va_W)[k9]? = some q9 → q9.1 < c0) : Met l yX11_isSound wo_c_X11_isSound ({ frames := 2, cells := 0, slots := 0, locals := 44 } : Room) (cP b0 en (dC, dI) [(cS, .object "Underpaint$Stack"), (cT, .object "Underpaint$Stack")] [(h, .inr (17, [.ref pal, .ref she, .ref fil, .ref nte, .ref dat, .ref vot, .ref loa, .ref nos, .ref pic, .ref spa, .int 5, .int 50, .int 1600, .int 0])), (pic, .inr (11, [.ref st, .ref sp, .ref ll, .int 0, .int 1600])), (st, .inl (cS, 48, .inr (.inr (.inr (.inr g))))), (spa, .inr (11, [.ref st2, .ref sp2, .ref ll2, .int 0, .int 1600])), (st2, .inl (cT, 48, .inr (.inr (.inr (.inr g2))))), (fil, .inr (5, [.int 0, .ref en.2.2.1, .int 0]))] [] sz (fun U => FamS (dC, dI) (vN c0 [pic, st, spa, st2]) g U ∧ FamS (dC, dI) (vN c0 [pic, st, spa, st2]) g2 U ∧ U = H0) [.ref h]) (va_Qi (fun (r : Int32) (u : Unit) => r = 1) (fun u t => cB (dC, dI) [] [] (vC c0) (fun U => hq_ H0 U) t) (vC c0)) 0 0 (vC c0) := by
  refine Met.ofW (cc := cX11_isSound) (maxL := 1) (ret := (some .boolean)) (by decide) rfl ?_
  intro p e s m args below meth c s₁ B hml hv
  obtain ⟨rfl, hsz, hb0, hE, hPP, hK, hDD, hF0⟩ := hv
  have hx := B.exec
  have hb := B.bytes
  have hr := B.returns
  have hts := atoms_spec (ws := wo_c_X11_isSound) B.pre
  have hown : s.vm.findClass RX11 = some m.cls := findClass_of_methodNamed B.named
  have hlocks := B.notSynchronized
  subst hsz
  have hN0 : ∀ (k9 : Nat) (q9 : Nat × va_E), ([] : va_W)[k9]? = some q9 → ¬ vC c0 q9.1 := fun k q h => Nat.not_le.mpr (hRc k q h)
  have hP : va_P (dC, dI) vwCl [(h, .inr (17, [.ref pal, .ref she, .ref fil, .ref nte, .ref dat, .ref vot, .ref loa, .ref nos, .ref pic, .ref spa, .int 5, .int 50, .int 1600, .int 0])), (pic, .inr (11, [.ref st, .ref sp, .ref ll, .int 0, .int 1600])), (st, .inl (cS, 48, .inr (.inr (.inr (.inr g))))), (spa, .inr (11, [.ref st2, .ref sp2, .ref ll2, .int 0, .int 1600])), (st2, .inl (cT, 48, .inr (.inr (.inr (.inr g2))))), (fil, .inr (5, [.int 0, .ref en.2.2.1, .int 0]))] s.heap := hPP.sub [0, 1, 2, 3, 4, 5] rfl
  have hR0 : va_P (dC, dI) vwCl [] s.heap := hPP.sub [] rfl
  have hD0 : va_D (fun q => b0 ≤ q) [(h, .inr (17, [.ref pal, .ref she, .ref fil, .ref nte, .ref dat, .ref vot, .ref loa, .ref nos, .ref pic, .ref spa, .int 5, .int 50, .int 1600, .int 0])), (pic, .inr (11, [.ref st, .ref sp, .ref ll, .int 0, .int 1600])), (st, .inl (cS, 48, .inr (.inr (.inr (.inr g))))), (spa, .inr (11, [.ref st2, .ref sp2, .ref ll2, .int 0, .int 1600])), (st2, .inl (cT, 48, .inr (.inr (.inr (.inr g2))))), (fil, .inr (5, [.int 0, .ref en.2.2.1, .int 0]))] := hDD.sub [0, 1, 2, 3, 4, 5] (by decide) rfl
  have hDr : va_D (fun q => b0 ≤ q) [] := hDD.sub [] (by decide) rfl
  have hAb : ∀ q, vC c0 q → b0 ≤ q := fun q h => Nat.le_trans hbc h
  have hD : va_D (vC c0) [(h, .inr (17, [.ref pal, .ref she, .ref fil, .ref nte, .ref dat, .ref vot, .ref loa, .ref nos, .ref pic, .ref spa, .int 5, .int 50, .int 1600, .int 0])), (pic, .inr (11, [.ref st, .ref sp, .ref ll, .int 0, .int 1600])), (st, .inl (cS, 48, .inr (.inr (.inr (.inr g))))), (spa, .inr (11, [.ref st2, .ref sp2, .ref ll2, .int 0, .int 1600])), (st2, .inl (cT, 48, .inr (.inr (.inr (.inr g2))))), (fil, .inr (5, [.int 0, .ref en.2.2.1, .int 0]))] := ⟨hD0.1, hWc⟩
  have hAc : ∀ q : Nat, c0 ≤ q → vC c0 q := fun q h => h
  have hA0 : ∀ q : Nat, s.heap.size ≤ q → vC c0 q := fun q h => Nat.le_trans hcs h
  generalize hAe : vC c0 = A at hD hAb hN0 hAc hA0 ⊢
  have hA : ∀ q : Nat, s.heap.size ≤ q → A q := hA0
  have hS : va_S A s.heap s.heap [] := va_S.rf
  have hR := hR0
  have hl := lv_entry [.ref h] (n := 1) (Nat.le_of_ble_eq_true rfl)
  rw [lg_entry_eq]
  generalize (lg_sl [.ref h] ++ List.replicate (1 - (lg_sl [.ref h]).length) Slot.unset).toArray = ls at hl ⊢
  have hl : lv_has ls 1 [(0, .ref h)] := hl
  have hge_h : c0 ≤ h := (hWc 0 _ rfl)
  have hge_pic : c0 ≤ pic := (hWc 1 _ rfl)
  have hge_st : c0 ≤ st := (hWc 2 _ rfl)
  have hge_spa : c0 ≤ spa := (hWc 3 _ rfl)
  have hge_st2 : c0 ≤ st2 := (hWc 4 _ rfl)
  have hge_fil : c0 ≤ fil := (hWc 5 _ rfl)
  have hG := hF0.1
  have hGo0 := hF0.2.1
  have hQ0 : s.heap = H0 := hF0.2.2
  have hqq : hq_ H0 s.heap := by rw [← hQ0]; exact hq_.rf
  have hR0b := hR0
  have hDrb := hDr
  have hN0b := hN0
  refine lv_aload_n hx hb dX11_isSound_0 rfl (lv_at hl 0 rfl) ?_
  refine lv_iconst (v := (-1)) hx hb dX11_isSound_1 (by decide) ?_
  have hPc := (hP.app hR).sub (ws' := [(h, .inr (17, [.ref pal, .ref she, .ref fil, .ref nte, .ref dat, .ref vot, .ref loa, .ref nos, .ref pic, .ref spa, .int 5, .int 50, .int 1600, .int 0])), (pic, .inr (11, [.ref st, .ref sp, .ref ll, .int 0, .int 1600])), (st, .inl (cS, 48, .inr (.inr (.inr (.inr g))))), (spa, .inr (11, [.ref st2, .ref sp2, .ref ll2, .int 0, .int 1600])), (st2, .inl (cT, 48, .inr (.inr (.inr (.inr g2))))), (fil, .inr (5, [.int 0, .ref en.2.2.1, .int 0]))] ++ []) [0, 1, 2, 3, 4, 5] rfl
  have hDc := (en_DD hD hDr hN0 hAb).sub (ws' := [(h, .inr (17, [.ref pal, .ref she, .ref fil, .ref nte, .ref dat, .ref vot, .ref loa, .ref nos, .ref pic, .ref spa, .int 5, .int 50, .int 1600, .int 0])), (pic, .inr (11, [.ref st, .ref sp, .ref ll, .int 0, .int 1600])), (st, .inl (cS, 48, .inr (.inr (.inr (.inr g))))), (spa, .inr (11, [.ref st2, .ref sp2, .ref ll2, .int 0, .int 1600])), (st2, .inl (cT, 48, .inr (.inr (.inr (.inr g2))))), (fil, .inr (5, [.int 0, .ref en.2.2.1, .int 0]))] ++ []) [0, 1, 2, 3, 4, 5] (by decide) rfl
  have hKc := hK.sub (tys' := [(cS, .object "Underpaint$Stack"), (cT, .object "Underpaint$Stack")]) [0, 1] rfl
  have hFc : ∀ q, vC c0 q → A q := fun q h => hAc q h
  refine va_calli (va_runV (As := [.int (-1)]) (rest := []) ⟨hx, hb, hml, hown, hts⟩ (c_X11_redoAllBut l dC dI b0 en s.heap.size h pal she fil nte dat vot loa nos pic spa st sp ll st2 sp2 ll2 c0 g g2 cS cT s.heap hdj hbc (Nat.le_trans hcs hS.1) (vW1 (by first | exact hge_h | exact hc0_h | omega) (vW1 (by first | exact hge_pic | exact hc0_pic | omega) (vW1 (by first | exact hge_st | exact hc0_st | omega) (vW1 (by first | exact hge_spa | exact hc0_spa | omega) (vW1 (by first | exact hge_st2 | exact hc0_st2 | omega) (vW1 (by first | exact hge_fil | exact hc0_fil | omega) vW0)))))) vL0) (cwV 1 hts go_c_X11_isSound_0 rfl rfl rfl (by decide +kernel) ⟨Nat.le_of_ble_eq_true rfl, Nat.le_of_ble_eq_true rfl⟩) ⟨cP.blind, va_recv hK hP (ci := 17) (q0 := 0) rfl rfl, cP.use (en_z hb0 hS) (hE.on hAb hS) hPc hKc hDc (⟨(show FamS (dC, dI) (vN c0 [pic, st, spa, st2]) g s.heap from hG.mono (fun a9 h9 => ⟨h9.1, fun z9 => h9.2 (by simp only [List.mem_cons, List.not_mem_nil, or_false] at z9 ⊢; omega)⟩)), (show FamS (dC, dI) (vN c0 [pic, st, spa, st2]) g2 s.heap from hGo0.mono (fun a9 h9 => ⟨h9.1, fun z9 => h9.2 (by simp only [List.mem_cons, List.not_mem_nil, or_false] at z9 ⊢; omega)⟩)), rfl⟩)⟩ rfl rfl hl.1 rfl (lv_room (Nat.le_of_ble_eq_true rfl)) dX11_isSound_2 ⟨Nat.le_of_ble_eq_true rfl, Nat.le_of_ble_eq_true rfl⟩) hS (fun q _ h => hFc q h) hFc (fun r_1 u t H1 locs ht hvm hw hB hz1 hk1 hS => ?_)
  obtain ⟨hP1, hK1, hD1, hF1⟩ := hB
  rw [ht] at hF1
  try dsimp only at hw
  have hq9 : hq_ s.heap H1 := hF1
  have hP := hP.hq hq9
  have hG := hG.hq hq9
  have hGo0 := hGo0.hq hq9
  have hqq := hqq.hq hq9
  clear hP1 hF1 hK1 hD1
  generalize H1 = H at hP hS hG hGo0 hqq ⊢
  have hP : va_P (dC, dI) vwCl [(h, .inr (17, [.ref pal, .ref she, .ref fil, .ref nte, .ref dat, .ref vot, .ref loa, .ref nos, .ref pic, .ref spa, .int 5, .int 50, .int 1600, .int 0])), (pic, .inr (11, [.ref st, .ref sp, .ref ll, .int 0, .int 1600])), (st, .inl (cS, 48, .inr (.inr (.inr (.inr g))))), (spa, .inr (11, [.ref st2, .ref sp2, .ref ll2, .int 0, .int 1600])), (st2, .inl (cT, 48, .inr (.inr (.inr (.inr g2))))), (fil, .inr (5, [.int 0, .ref en.2.2.1, .int 0]))] H := hP
  have hD : va_D A [(h, .inr (17, [.ref pal, .ref she, .ref fil, .ref nte, .ref dat, .ref vot, .ref loa, .ref nos, .ref pic, .ref spa, .int 5, .int 50, .int 1600, .int 0])), (pic, .inr (11, [.ref st, .ref sp, .ref ll, .int 0, .int 1600])), (st, .inl (cS, 48, .inr (.inr (.inr (.inr g))))), (spa, .inr (11, [.ref st2, .ref sp2, .ref ll2, .int 0, .int 1600])), (st2, .inl (cT, 48, .inr (.inr (.inr (.inr g2))))), (fil, .inr (5, [.int 0, .ref en.2.2.1, .int 0]))] := hD
  have hR : va_P (dC, dI) vwCl [] H := fun k q h => by simp at h
  refine W.widen (k := 0) (n := 0) (Nat.le_of_ble_eq_true rfl) (Nat.le_of_ble_eq_true rfl) ?_
  subst r_1
  refine lv_if_eq (tgt := 36) hx hb dX11_isSound_5 (by decide) (fun c_2 => absurd c_2 (by decide)) (fun c_2 => ?_)
  refine lv_aload_n hx hb dX11_isSound_8 rfl (lv_at hl 0 rfl) ?_
  refine va_get (D := (dC, dI)) (ci := 17) (v := .ref spa) (C := RX11) (T := TX11) (N := 14) hx hb hts (by decide +kernel) hown hK hP 0 rfl rfl 9 (by decide) (hts (.fieldLink RX11 66 "Underpaint" "spare" "LUnderpaint$Picture;") (by decide +kernel)) (fun _ h9 => h9) rfl dX11_isSound_9 ?_
  refine lv_aload_n hx hb dX11_isSound_12 rfl (lv_at hl 0 rfl) ?_
  refine va_get (D := (dC, dI)) (ci := 17) (v := .ref pic) (C := RX11) (T := TX11) (N := 14) hx hb hts (by decide +kernel) hown hK hP 0 rfl rfl 8 (by decide) (hts (.fieldLink RX11 62 "Underpaint" "picture" "LUnderpaint$Picture;") (by decide +kernel)) (fun _ h9 => h9) rfl dX11_isSound_13 ?_
  have hPc := (hP.app hR).sub (ws' := [(spa, .inr (11, [.ref st2, .ref sp2, .ref ll2, .int 0, .int 1600])), (st2, .inl (cT, 48, .inr (.inr (.inr (.inr g2))))), (pic, .inr (11, [.ref st, .ref sp, .ref ll, .int 0, .int 1600])), (st, .inl (cS, 48, .inr (.inr (.inr (.inr g)))))] ++ []) [3, 4, 1, 2] rfl
  have hDc := (en_DD hD hDr hN0 hAb).sub (ws' := [(spa, .inr (11, [.ref st2, .ref sp2, .ref ll2, .int 0, .int 1600])), (st2, .inl (cT, 48, .inr (.inr (.inr (.inr g2))))), (pic, .inr (11, [.ref st, .ref sp, .ref ll, .int 0, .int 1600])), (st, .inl (cS, 48, .inr (.inr (.inr (.inr g)))))] ++ []) [3, 4, 1, 2] (by decide) rfl
  have hKc := hK.sub (tys' := [(cT, .object "Underpaint$Stack"), (cS, .object "Underpaint$Stack")]) [1, 0] rfl
  have hFc : ∀ q, vC c0 q → A q := fun q h => hAc q h
  refine va_calli (va_runV (As := [.ref pic]) (rest := []) ⟨hx, hb, hml, hown, hts⟩ (c_X5_isSameAs l dC dI b0 en H.size spa st2 sp2 ll2 pic st sp ll c0 g2 g cT cS H (DJ.symm hdj) hbc (Nat.le_trans hcs hS.1) (vW1 (by first | exact hge_spa | exact hc0_spa | omega) (vW1 (by first | exact hge_st2 | exact hc0_st2 | omega) (vW1 (by first | exact hge_pic | exact hc0_pic | omega) (vW1 (by first | exact hge_st | exact hc0_st | omega) vW0)))) vL0) (cwV 1 hts go_c_X11_isSound_1 rfl rfl rfl (by decide +kernel) ⟨Nat.le_of_ble_eq_true rfl, Nat.le_of_ble_eq_true rfl⟩) ⟨cP.blind, va_recv hK hP (ci := 11) (q0 := 3) rfl rfl, cP.use (en_z hb0 hS) (hE.on hAb hS) hPc hKc hDc (⟨(show FamS (dC, dI) (vN c0 [spa, st2, pic, st]) g2 H from hGo0.mono (fun a9 h9 => ⟨h9.1, fun z9 => h9.2 (by simp only [List.mem_cons, List.not_mem_nil, or_false] at z9 ⊢; omega)⟩)), (show FamS (dC, dI) (vN c0 [spa, st2, pic, st]) g H from hG.mono (fun a9 h9 => ⟨h9.1, fun z9 => h9.2 (by simp only [List.mem_cons, List.not_mem_nil, or_false] at z9 ⊢; omega)⟩)), rfl⟩)⟩ rfl rfl hl.1 rfl (lv_room (Nat.le_of_ble_eq_true rfl)) dX11_isSound_16 ⟨Nat.le_of_ble_eq_true rfl, Nat.le_of_ble_eq_true rfl⟩) hS (fun q _ h => hFc q h) hFc (fun r_3 u t H1 locs ht hvm hw hB hz1 hk1 hS => ?_)
  obtain ⟨hP1, hK1, hD1, hF1⟩ := hB
  rw [ht] at hF1
  try dsimp only at hw
  have hq9 : hq_ H H1 := hF1
  have hP := hP.hq hq9
  have hG := hG.hq hq9
  have hGo0 := hGo0.hq hq9
  have hqq := hqq.hq hq9
  clear hP1 hF1 hK1 hD1
  generalize H1 = H at hP hS hG hGo0 hqq ⊢
  have hP : va_P (dC, dI) vwCl [(h, .inr (17, [.ref pal, .ref she, .ref fil, .ref nte, .ref dat, .ref vot, .ref loa, .ref nos, .ref pic, .ref spa, .int 5, .int 50, .int 1600, .int 0])), (pic, .inr (11, [.ref st, .ref sp, .ref ll, .int 0, .int 1600])), (st, .inl (cS, 48, .inr (.inr (.inr (.inr g))))), (spa, .inr (11, [.ref st2, .ref sp2, .ref ll2, .int 0, .int 1600])), (st2, .inl (cT, 48, .inr (.inr (.inr (.inr g2))))), (fil, .inr (5, [.int 0, .ref en.2.2.1, .int 0]))] H := hP
  have hD : va_D A [(h, .inr (17, [.ref pal, .ref she, .ref fil, .ref nte, .ref dat, .ref vot, .ref loa, .ref nos, .ref pic, .ref spa, .int 5, .int 50, .int 1600, .int 0])), (pic, .inr (11, [.ref st, .ref sp, .ref ll, .int 0, .int 1600])), (st, .inl (cS, 48, .inr (.inr (.inr (.inr g))))), (spa, .inr (11, [.ref st2, .ref sp2, .ref ll2, .int 0, .int 1600])), (st2, .inl (cT, 48, .inr (.inr (.inr (.inr g2))))), (fil, .inr (5, [.int 0, .ref en.2.2.1, .int 0]))] := hD
  have hR : va_P (dC, dI) vwCl [] H := fun k q h => by simp at h
  refine W.widen (k := 0) (n := 0) (Nat.le_of_ble_eq_true rfl) (Nat.le_of_ble_eq_true rfl) ?_
  subst r_3
  refine lv_if_eq (tgt := 36) hx hb dX11_isSound_19 (by decide) (fun c_4 => absurd c_4 (by decide)) (fun c_4 => ?_)
  refine lv_aload_n hx hb dX11_isSound_22 rfl (lv_at hl 0 rfl) ?_
  refine va_get (D := (dC, dI)) (ci := 17) (v := .ref pic) (C := RX11) (T := TX11) (N := 14) hx hb hts (by decide +kernel) hown hK hP 0 rfl rfl 8 (by decide) (hts (.fieldLink RX11 62 "Underpaint" "picture" "LUnderpaint$Picture;") (by decide +kernel)) (fun _ h9 => h9) rfl dX11_isSound_23 ?_
  have hPc := (hP.app hR).sub (ws' := [(pic, .inr (11, [.ref st, .ref sp, .ref ll, .int 0, .int 1600])), (st, .inl (cS, 48, .inr (.inr (.inr (.inr g)))))] ++ []) [1, 2] rfl
  have hDc := (en_DD hD hDr hN0 hAb).sub (ws' := [(pic, .inr (11, [.ref st, .ref sp, .ref ll, .int 0, .int 1600])), (st, .inl (cS, 48, .inr (.inr (.inr (.inr g)))))] ++ []) [1, 2] (by decide) rfl
  have hKc := hK.sub (tys' := [(cS, .object "Underpaint$Stack")]) [0] rfl
  have hFc : ∀ q, vC c0 q → A q := fun q h => hAc q h
  refine va_calli (va_runV (As := []) (rest := []) ⟨hx, hb, hml, hown, hts⟩ (c_X5_isBounded l dC dI b0 en H.size pic st sp ll c0 g cS H hbc (Nat.le_trans hcs hS.1) (vW1 (by first | exact hge_pic | exact hc0_pic | omega) (vW1 (by first | exact hge_st | exact hc0_st | omega) vW0)) vL0) (cwV 0 hts go_c_X11_isSound_2 rfl rfl rfl (by decide +kernel) ⟨Nat.le_of_ble_eq_true rfl, Nat.le_of_ble_eq_true rfl⟩) ⟨cP.blind, va_recv hK hP (ci := 11) (q0 := 1) rfl rfl, cP.use (en_z hb0 hS) (hE.on hAb hS) hPc hKc hDc (⟨(show FamS (dC, dI) (vN c0 [pic, st]) g H from hG.mono (fun a9 h9 => ⟨h9.1, fun z9 => h9.2 (by simp only [List.mem_cons, List.not_mem_nil, or_false] at z9 ⊢; omega)⟩)), rfl⟩)⟩ rfl rfl hl.1 rfl (lv_room (Nat.le_of_ble_eq_true rfl)) dX11_isSound_26 ⟨Nat.le_of_ble_eq_true rfl, Nat.le_of_ble_eq_true rfl⟩) hS (fun q _ h => hFc q h) hFc (fun r_5 u t H1 locs ht hvm hw hB hz1 hk1 hS => ?_)
  obtain ⟨hP1, hK1, hD1, hF1⟩ := hB
  rw [ht] at hF1
  try dsimp only at hw
  have hq9 : hq_ H H1 := hF1
  have hP := hP.hq hq9
  have hG := hG.hq hq9
  have hGo0 := hGo0.hq hq9
  have hqq := hqq.hq hq9
  clear hP1 hF1 hK1 hD1
  generalize H1 = H at hP hS hG hGo0 hqq ⊢
  have hP : va_P (dC, dI) vwCl [(h, .inr (17, [.ref pal, .ref she, .ref fil, .ref nte, .ref dat, .ref vot, .ref loa, .ref nos, .ref pic, .ref spa, .int 5, .int 50, .int 1600, .int 0])), (pic, .inr (11, [.ref st, .ref sp, .ref ll, .int 0, .int 1600])), (st, .inl (cS, 48, .inr (.inr (.inr (.inr g))))), (spa, .inr (11, [.ref st2, .ref sp2, .ref ll2, .int 0, .int 1600])), (st2, .inl (cT, 48, .inr (.inr (.inr (.inr g2))))), (fil, .inr (5, [.int 0, .ref en.2.2.1, .int 0]))] H := hP
  have hD : va_D A [(h, .inr (17, [.ref pal, .ref she, .ref fil, .ref nte, .ref dat, .ref vot, .ref loa, .ref nos, .ref pic, .ref spa, .int 5, .int 50, .int 1600, .int 0])), (pic, .inr (11, [.ref st, .ref sp, .ref ll, .int 0, .int 1600])), (st, .inl (cS, 48, .inr (.inr (.inr (.inr g))))), (spa, .inr (11, [.ref st2, .ref sp2, .ref ll2, .int 0, .int 1600])), (st2, .inl (cT, 48, .inr (.inr (.inr (.inr g2))))), (fil, .inr (5, [.int 0, .ref en.2.2.1, .int 0]))] := hD
  have hR : va_P (dC, dI) vwCl [] H := fun k q h => by simp at h
  refine W.widen (k := 0) (n := 0) (Nat.le_of_ble_eq_true rfl) (Nat.le_of_ble_eq_true rfl) ?_
  subst r_5
  refine lv_if_eq (tgt := 36) hx hb dX11_isSound_29 (by decide) (fun c_6 => absurd c_6 (by decide)) (fun c_6 => ?_)
  refine lv_iconst (v := 1) hx hb dX11_isSound_32 (by decide) ?_
  refine lv_goto (tgt := 37) hx hb dX11_isSound_33 (by decide) ?_
  refine W.widen (k := 0) (n := 0) (Nat.le_of_ble_eq_true rfl) (Nat.le_of_ble_eq_true rfl) ?_
  exact W.zret (v := 1) hx hb hr (by first | rfl | decide +kernel) (fun t ht hW => ⟨⟨1, (), rfl, (z_c_X6_add_b_353), cB.mk ht hW (hP.sub [] rfl) (hK.sub [] rfl) (hD.sub [] (by decide) rfl) (hqq)⟩, hS.F ht⟩) hS.2.2 dX11_isSound_37

def wo_c_X11_risk_w : List Cond := [Cond.fieldLink RX11 66 "Underpaint" "spare" "LUnderpaint$Picture;", Cond.fieldLink RX11 62 "Underpaint" "picture" "LUnderpaint$Picture;", Cond.fieldLink RX11 46 "Underpaint" "loan" "LUnderpaint$Loan;"]
def wo_c_X11_risk : List Cond := .code yX11_risk cX11_risk 1 (some .int) :: (wo_c_X11_risk_w ++ (u_ws RX11 TX11 14 ++ (wsV RX11 385 RX5 yX5_copyFrom wo_c_X5_copyFrom ++ (wsV RX11 389 RX5 yX5_travel wo_c_X5_travel ++ List.nil))))
theorem gw_wo_c_X11_risk : wo_c_X11_risk.all goodWord = true := gw_c (by decide +kernel) (gw_a (by decide +kernel) (gw_a (by decide +kernel) (gw_a (gw_a (by decide +kernel) gw_wo_c_X5_copyFrom) (gw_a (gw_a (by decide +kernel) gw_wo_c_X5_travel) rfl))))
theorem go_c_X11_risk_0 : GoodIn wo_c_X11_risk (wsV RX11 385 RX5 yX5_copyFrom wo_c_X5_copyFrom) := goodIn_sub (fun _ h => List.mem_cons_of_mem _ (List.mem_append_right _ (List.mem_append_right _ (List.mem_append_left _ h)))) (gw_a (by decide +kernel) gw_wo_c_X5_copyFrom)
theorem go_c_X11_risk_1 : GoodIn wo_c_X11_risk (wsV RX11 389 RX5 yX5_travel wo_c_X5_travel) := goodIn_sub (fun _ h => List.mem_cons_of_mem _ (List.mem_append_right _ (List.mem_append_right _ (List.mem_append_right _ (List.mem_append_left _ h))))) (gw_a (by decide +kernel) gw_wo_c_X5_travel)
set_option maxHeartbeats 4000000 in
set_option maxRecDepth 100000 in
/-- risk -/
theorem c_X11_risk (l : Launch) (dC : Nat → ClassId) (dI : Nat → Nat → Nat) (b0 : Nat) (en : EnT) (sz : Nat) (h pal she fil nte dat vot loa nos pic spa : Nat) (st sp ll st2 sp2 ll2 c0 : Nat) (g g2 : Nat → Option Nat) (cS cT : ClassId) (H0 : Heap) (lh ld : Nat) (hdj : DJ g g2) (hbc : b0 ≤ c0) (hcs : c0 ≤ sz) (hWc : ∀ (k9 : Nat) (q9 : Nat × va_E), ([(h, .inr (17, [.ref pal, .ref she, .ref fil, .ref nte, .ref dat, .ref vot, .ref loa, .ref nos, .ref pic, .ref spa, .int 5, .int 50, .int 1600, .int 0])), (pic, .inr (11, [.ref st, .ref sp, .ref ll, .int 0, .int 1600])), (st, .inl (cS, 48, .inr (.inr (.inr (.inr g))))), (spa, .inr (11, [.ref st2, .ref sp2, .ref ll2, .int 0, .int 1600])), (st2, .inl (cT, 48, .inr (.inr (.inr (.inr g2))))), (loa, .inr (9, [.ref lh, .ref ld, .int 0]))] : va_W)[k9]? = some q9 → c0 ≤ q9.1) (hRc : ∀ (k9 : Nat) (q9 : Nat × va_E), ([] : va_W)[k9]? = some q9 → q9.1 < c0) : Met l yX11_risk wo_c_X11_risk ({ frames := 2, cells := 0, slots := 0, locals := 44 } : Room) (cP b0 en (dC, dI) [(cS, .object "Underpaint$Stack"), (cT, .object "Underpaint$Stack")] [(h, .inr (17, [.ref pal, .ref she, .ref fil, .ref nte, .ref dat, .ref vot, .ref loa, .ref nos, .ref pic, .ref spa, .int 5, .int 50, .int 1600, .int 0])), (pic, .inr (11, [.ref st, .ref sp, .ref ll, .int 0, .int 1600])), (st, .inl (cS, 48, .inr (.inr (.inr (.inr g))))), (spa, .inr (11, [.ref st2, .ref sp2, .ref ll2, .int 0, .int 1600])), (st2, .inl (cT, 48, .inr (.inr (.inr (.inr g2))))), (loa, .inr (9, [.ref lh, .ref ld, .int 0]))] [] sz (fun U => FamS (dC, dI) (vN c0 [pic, st, spa, st2]) g U ∧ FamS (dC, dI) (vN c0 [pic, st, spa, st2]) g2 U ∧ U = H0) [.ref h]) (va_Qi (fun (r : Int32) (u : Unit) => r = 0) (fun u t => cB (dC, dI) [] [] (vC c0) (fun U => hq_ H0 U) t) (vC c0)) 0 0 (vC c0) := by
  refine Met.ofW (cc := cX11_risk) (maxL := 1) (ret := (some .int)) (by decide) rfl ?_
  intro p e s m args below meth c s₁ B hml hv
  obtain ⟨rfl, hsz, hb0, hE, hPP, hK, hDD, hF0⟩ := hv
  have hx := B.exec
  have hb := B.bytes
  have hr := B.returns
  have hts := atoms_spec (ws := wo_c_X11_risk) B.pre
  have hown : s.vm.findClass RX11 = some m.cls := findClass_of_methodNamed B.named
  have hlocks := B.notSynchronized
  subst hsz
  have hN0 : ∀ (k9 : Nat) (q9 : Nat × va_E), ([] : va_W)[k9]? = some q9 → ¬ vC c0 q9.1 := fun k q h => Nat.not_le.mpr (hRc k q h)
  have hP : va_P (dC, dI) vwCl [(h, .inr (17, [.ref pal, .ref she, .ref fil, .ref nte, .ref dat, .ref vot, .ref loa, .ref nos, .ref pic, .ref spa, .int 5, .int 50, .int 1600, .int 0])), (pic, .inr (11, [.ref st, .ref sp, .ref ll, .int 0, .int 1600])), (st, .inl (cS, 48, .inr (.inr (.inr (.inr g))))), (spa, .inr (11, [.ref st2, .ref sp2, .ref ll2, .int 0, .int 1600])), (st2, .inl (cT, 48, .inr (.inr (.inr (.inr g2))))), (loa, .inr (9, [.ref lh, .ref ld, .int 0]))] s.heap := hPP.sub [0, 1, 2, 3, 4, 5] rfl
  have hR0 : va_P (dC, dI) vwCl [] s.heap := hPP.sub [] rfl
  have hD0 : va_D (fun q => b0 ≤ q) [(h, .inr (17, [.ref pal, .ref she, .ref fil, .ref nte, .ref dat, .ref vot, .ref loa, .ref nos, .ref pic, .ref spa, .int 5, .int 50, .int 1600, .int 0])), (pic, .inr (11, [.ref st, .ref sp, .ref ll, .int 0, .int 1600])), (st, .inl (cS, 48, .inr (.inr (.inr (.inr g))))), (spa, .inr (11, [.ref st2, .ref sp2, .ref ll2, .int 0, .int 1600])), (st2, .inl (cT, 48, .inr (.inr (.inr (.inr g2))))), (loa, .inr (9, [.ref lh, .ref ld, .int 0]))] := hDD.sub [0, 1, 2, 3, 4, 5] (by decide) rfl
  have hDr : va_D (fun q => b0 ≤ q) [] := hDD.sub [] (by decide) rfl
  have hAb : ∀ q, vC c0 q → b0 ≤ q := fun q h => Nat.le_trans hbc h
  have hD : va_D (vC c0) [(h, .inr (17, [.ref pal, .ref she, .ref fil, .ref nte, .ref dat, .ref vot, .ref loa, .ref nos, .ref pic, .ref spa, .int 5, .int 50, .int 1600, .int 0])), (pic, .inr (11, [.ref st, .ref sp, .ref ll, .int 0, .int 1600])), (st, .inl (cS, 48, .inr (.inr (.inr (.inr g))))), (spa, .inr (11, [.ref st2, .ref sp2, .ref ll2, .int 0, .int 1600])), (st2, .inl (cT, 48, .inr (.inr (.inr (.inr g2))))), (loa, .inr (9, [.ref lh, .ref ld, .int 0]))] := ⟨hD0.1, hWc⟩
  have hAc : ∀ q : Nat, c0 ≤ q → vC c0 q := fun q h => h
  have hA0 : ∀ q : Nat, s.heap.size ≤ q → vC c0 q := fun q h => Nat.le_trans hcs h
  generalize hAe : vC c0 = A at hD hAb hN0 hAc hA0 ⊢
  have hA : ∀ q : Nat, s.heap.size ≤ q → A q := hA0
  have hS : va_S A s.heap s.heap [] := va_S.rf
  have hR := hR0
  have hl := lv_entry [.ref h] (n := 1) (Nat.le_of_ble_eq_true rfl)
  rw [lg_entry_eq]
  generalize (lg_sl [.ref h] ++ List.replicate (1 - (lg_sl [.ref h]).length) Slot.unset).toArray = ls at hl ⊢
  have hl : lv_has ls 1 [(0, .ref h)] := hl
  have hge_h : c0 ≤ h := (hWc 0 _ rfl)
  have hge_pic : c0 ≤ pic := (hWc 1 _ rfl)
  have hge_st : c0 ≤ st := (hWc 2 _ rfl)
  have hge_spa : c0 ≤ spa := (hWc 3 _ rfl)
  have hge_st2 : c0 ≤ st2 := (hWc 4 _ rfl)
  have hge_loa : c0 ≤ loa := (hWc 5 _ rfl)
  have hG := hF0.1
  have hGo0 := hF0.2.1
  have hQ0 : s.heap = H0 := hF0.2.2
  have hqq : hq_ H0 s.heap := by rw [← hQ0]; exact hq_.rf
  have hR0b := hR0
  have hDrb := hDr
  have hN0b := hN0
  refine lv_aload_n hx hb dX11_risk_0 rfl (lv_at hl 0 rfl) ?_
  refine va_get (D := (dC, dI)) (ci := 17) (v := .ref spa) (C := RX11) (T := TX11) (N := 14) hx hb hts (by decide +kernel) hown hK hP 0 rfl rfl 9 (by decide) (hts (.fieldLink RX11 66 "Underpaint" "spare" "LUnderpaint$Picture;") (by decide +kernel)) (fun _ h9 => h9) rfl dX11_risk_1 ?_
  refine lv_aload_n hx hb dX11_risk_4 rfl (lv_at hl 0 rfl) ?_
  refine va_get (D := (dC, dI)) (ci := 17) (v := .ref pic) (C := RX11) (T := TX11) (N := 14) hx hb hts (by decide +kernel) hown hK hP 0 rfl rfl 8 (by decide) (hts (.fieldLink RX11 62 "Underpaint" "picture" "LUnderpaint$Picture;") (by decide +kernel)) (fun _ h9 => h9) rfl dX11_risk_5 ?_
  have hPc := (hP.app hR).sub (ws' := [(spa, .inr (11, [.ref st2, .ref sp2, .ref ll2, .int 0, .int 1600])), (st2, .inl (cT, 48, .inr (.inr (.inr (.inr g2))))), (pic, .inr (11, [.ref st, .ref sp, .ref ll, .int 0, .int 1600])), (st, .inl (cS, 48, .inr (.inr (.inr (.inr g)))))] ++ []) [3, 4, 1, 2] rfl
  have hDc := (en_DD hD hDr hN0 hAb).sub (ws' := [(spa, .inr (11, [.ref st2, .ref sp2, .ref ll2, .int 0, .int 1600])), (st2, .inl (cT, 48, .inr (.inr (.inr (.inr g2))))), (pic, .inr (11, [.ref st, .ref sp, .ref ll, .int 0, .int 1600])), (st, .inl (cS, 48, .inr (.inr (.inr (.inr g)))))] ++ []) [3, 4, 1, 2] (by decide) rfl
  have hKc := hK.sub (tys' := [(cT, .object "Underpaint$Stack"), (cS, .object "Underpaint$Stack")]) [1, 0] rfl
  have hFc : ∀ q, vC c0 q → A q := fun q h => hAc q h
  refine va_callv (va_runV (As := [.ref pic]) (rest := []) ⟨hx, hb, hml, hown, hts⟩ (c_X5_copyFrom l dC dI b0 en s.heap.size spa st2 sp2 ll2 pic st sp ll c0 g2 g cT cS s.heap (DJ.symm hdj) hbc (Nat.le_trans hcs hS.1) (vW1 (by first | exact hge_spa | exact hc0_spa | omega) (vW1 (by first | exact hge_st2 | exact hc0_st2 | omega) (vW1 (by first | exact hge_pic | exact hc0_pic | omega) (vW1 (by first | exact hge_st | exact hc0_st | omega) vW0)))) vL0) (cwV 1 hts go_c_X11_risk_0 rfl rfl rfl (by decide +kernel) ⟨Nat.le_of_ble_eq_true rfl, Nat.le_of_ble_eq_true rfl⟩) ⟨cP.blind, va_recv hK hP (ci := 11) (q0 := 3) rfl rfl, cP.use (en_z hb0 hS) (hE.on hAb hS) hPc hKc hDc (⟨(show FamS (dC, dI) (vN c0 [spa, st2, pic, st]) g2 s.heap from hGo0.mono (fun a9 h9 => ⟨h9.1, fun z9 => h9.2 (by simp only [List.mem_cons, List.not_mem_nil, or_false] at z9 ⊢; omega)⟩)), (show FamS (dC, dI) (vN c0 [spa, st2, pic, st]) g s.heap from hG.mono (fun a9 h9 => ⟨h9.1, fun z9 => h9.2 (by simp only [List.mem_cons, List.not_mem_nil, or_false] at z9 ⊢; omega)⟩)), rfl⟩)⟩ rfl rfl hl.1 rfl (lv_room (Nat.le_of_ble_eq_true rfl)) dX11_risk_8 ⟨Nat.le_of_ble_eq_true rfl, Nat.le_of_ble_eq_true rfl⟩) hS (fun q _ h => hFc q h) hFc (fun u t H1 locs ht hvm hw hB hz1 hk1 hS => ?_)
  obtain ⟨hP1, hK1, hD1, hF1⟩ := hB
  rw [ht] at hF1
  try dsimp only at hw
  have hq9 : hq_ s.heap H1 := hF1
  have hP := hP.hq hq9
  have hG := hG.hq hq9
  have hGo0 := hGo0.hq hq9
  have hqq := hqq.hq hq9
  clear hP1 hF1 hK1 hD1
  generalize H1 = H at hP hS hG hGo0 hqq ⊢
  have hP : va_P (dC, dI) vwCl [(h, .inr (17, [.ref pal, .ref she, .ref fil, .ref nte, .ref dat, .ref vot, .ref loa, .ref nos, .ref pic, .ref spa, .int 5, .int 50, .int 1600, .int 0])), (pic, .inr (11, [.ref st, .ref sp, .ref ll, .int 0, .int 1600])), (st, .inl (cS, 48, .inr (.inr (.inr (.inr g))))), (spa, .inr (11, [.ref st2, .ref sp2, .ref ll2, .int 0, .int 1600])), (st2, .inl (cT, 48, .inr (.inr (.inr (.inr g2))))), (loa, .inr (9, [.ref lh, .ref ld, .int 0]))] H := hP
  have hD : va_D A [(h, .inr (17, [.ref pal, .ref she, .ref fil, .ref nte, .ref dat, .ref vot, .ref loa, .ref nos, .ref pic, .ref spa, .int 5, .int 50, .int 1600, .int 0])), (pic, .inr (11, [.ref st, .ref sp, .ref ll, .int 0, .int 1600])), (st, .inl (cS, 48, .inr (.inr (.inr (.inr g))))), (spa, .inr (11, [.ref st2, .ref sp2, .ref ll2, .int 0, .int 1600])), (st2, .inl (cT, 48, .inr (.inr (.inr (.inr g2))))), (loa, .inr (9, [.ref lh, .ref ld, .int 0]))] := hD
  have hR : va_P (dC, dI) vwCl [] H := fun k q h => by simp at h
  refine W.widen (k := 0) (n := 0) (Nat.le_of_ble_eq_true rfl) (Nat.le_of_ble_eq_true rfl) ?_
  refine lv_aload_n hx hb dX11_risk_11 rfl (lv_at hl 0 rfl) ?_
  refine va_get (D := (dC, dI)) (ci := 17) (v := .ref spa) (C := RX11) (T := TX11) (N := 14) hx hb hts (by decide +kernel) hown hK hP 0 rfl rfl 9 (by decide) (hts (.fieldLink RX11 66 "Underpaint" "spare" "LUnderpaint$Picture;") (by decide +kernel)) (fun _ h9 => h9) rfl dX11_risk_12 ?_
  refine lv_aload_n hx hb dX11_risk_15 rfl (lv_at hl 0 rfl) ?_
  refine va_get (D := (dC, dI)) (ci := 17) (v := .ref loa) (C := RX11) (T := TX11) (N := 14) hx hb hts (by decide +kernel) hown hK hP 0 rfl rfl 6 (by decide) (hts (.fieldLink RX11 46 "Underpaint" "loan" "LUnderpaint$Loan;") (by decide +kernel)) (fun _ h9 => h9) rfl dX11_risk_16 ?_
  have hPc := (hP.app hR).sub (ws' := [] ++ [(loa, .inr (9, [.ref lh, .ref ld, .int 0]))]) [5] rfl
  have hDc := (en_DD hD hDr hN0 hAb).sub (ws' := [] ++ [(loa, .inr (9, [.ref lh, .ref ld, .int 0]))]) [5] (by decide) rfl
  have hKc := hK.sub (tys' := []) [] rfl
  have hFc := va_free (wc := []) hD hS hA [] rfl
  refine va_calli (va_runV (As := [.ref loa]) (rest := []) ⟨hx, hb, hml, hown, hts⟩ (c_X5_travel l dC dI b0 en H.size spa loa lh ld) (cwV 1 hts go_c_X11_risk_1 rfl rfl rfl (by decide +kernel) ⟨Nat.le_of_ble_eq_true rfl, Nat.le_of_ble_eq_true rfl⟩) ⟨cP.blind, va_recv hK hP (ci := 11) (q0 := 3) rfl rfl, cP.use (en_z hb0 hS) (hE.on hAb hS) hPc hKc hDc trivial⟩ rfl rfl hl.1 rfl (lv_room (Nat.le_of_ble_eq_true rfl)) dX11_risk_19 ⟨Nat.le_of_ble_eq_true rfl, Nat.le_of_ble_eq_true rfl⟩) hS (fun q _ h => hFc q h) hFc (fun r_2 u t H1 locs ht hvm hw hB hz1 hk1 hS => ?_)
  have hP1 : va_P (dC, dI) vwCl [] H1 := fun k q h => by simp at h
  have hD1 : va_D (va_A [] H.size) [] := ⟨fun i j p q h => by simp at h, fun k q h => by simp at h⟩
  try dsimp only at hw
  obtain ⟨hP, hD⟩ := va_join (wr := [(h, .inr (17, [.ref pal, .ref she, .ref fil, .ref nte, .ref dat, .ref vot, .ref loa, .ref nos, .ref pic, .ref spa, .int 5, .int 50, .int 1600, .int 0])), (pic, .inr (11, [.ref st, .ref sp, .ref ll, .int 0, .int 1600])), (st, .inl (cS, 48, .inr (.inr (.inr (.inr g))))), (spa, .inr (11, [.ref st2, .ref sp2, .ref ll2, .int 0, .int 1600])), (st2, .inl (cT, 48, .inr (.inr (.inr (.inr g2))))), (loa, .inr (9, [.ref lh, .ref ld, .int 0]))]) (w1 := []) hP hD [] [0, 1, 2, 3, 4, 5] rfl rfl (by decide) (by decide) hk1 hFc hP1 hD1
  have hG := hG.hq (hq_.of (ws := []) hk1)
  have hGo0 := hGo0.hq (hq_.of (ws := []) hk1)
  have hqq := hqq.hq (hq_.of (ws := []) hk1)
  generalize H1 = H at hP hS hG hGo0 hqq ⊢
  have hP : va_P (dC, dI) vwCl [(h, .inr (17, [.ref pal, .ref she, .ref fil, .ref nte, .ref dat, .ref vot, .ref loa, .ref nos, .ref pic, .ref spa, .int 5, .int 50, .int 1600, .int 0])), (pic, .inr (11, [.ref st, .ref sp, .ref ll, .int 0, .int 1600])), (st, .inl (cS, 48, .inr (.inr (.inr (.inr g))))), (spa, .inr (11, [.ref st2, .ref sp2, .ref ll2, .int 0, .int 1600])), (st2, .inl (cT, 48, .inr (.inr (.inr (.inr g2))))), (loa, .inr (9, [.ref lh, .ref ld, .int 0]))] H := hP
  have hD : va_D A [(h, .inr (17, [.ref pal, .ref she, .ref fil, .ref nte, .ref dat, .ref vot, .ref loa, .ref nos, .ref pic, .ref spa, .int 5, .int 50, .int 1600, .int 0])), (pic, .inr (11, [.ref st, .ref sp, .ref ll, .int 0, .int 1600])), (st, .inl (cS, 48, .inr (.inr (.inr (.inr g))))), (spa, .inr (11, [.ref st2, .ref sp2, .ref ll2, .int 0, .int 1600])), (st2, .inl (cT, 48, .inr (.inr (.inr (.inr g2))))), (loa, .inr (9, [.ref lh, .ref ld, .int 0]))] := hD
  have hR : va_P (dC, dI) vwCl [] H := fun k q h => by simp at h
  refine W.widen (k := 0) (n := 0) (Nat.le_of_ble_eq_true rfl) (Nat.le_of_ble_eq_true rfl) ?_
  subst r_2
  refine W.widen (k := 0) (n := 0) (Nat.le_of_ble_eq_true rfl) (Nat.le_of_ble_eq_true rfl) ?_
  exact W.iret (v := 0) hx hb hr (fun t ht hW => ⟨⟨0, (), rfl, (z_c_X14_lends_164), cB.mk ht hW (hP.sub [] rfl) (hK.sub [] rfl) (hD.sub [] (by decide) rfl) (hqq)⟩, hS.F ht⟩) hS.2.2 dX11_risk_22
