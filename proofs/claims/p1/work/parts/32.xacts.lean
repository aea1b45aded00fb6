theorem dX3_init_0 : decode cX3_init 0 = .ok (.aload_n 0, 1) := by decide +kernel
theorem dX3_init_1 : decode cX3_init 1 = .ok (.invokespecial 3, 3) := by decide +kernel
theorem dX3_init_4 : decode cX3_init 4 = .ok (.aload_n 0, 1) := by decide +kernel
theorem dX3_init_5 : decode cX3_init 5 = .ok (.bipush 8, 2) := by decide +kernel
theorem dX3_init_7 : decode cX3_init 7 = .ok (.newarray .int, 2) := by decide +kernel
theorem dX3_init_9 : decode cX3_init 9 = .ok (.putfield 9, 3) := by decide +kernel
theorem dX3_init_12 : decode cX3_init 12 = .ok (.aload_n 0, 1) := by decide +kernel
theorem dX3_init_13 : decode cX3_init 13 = .ok (.bipush 8, 2) := by decide +kernel
theorem dX3_init_15 : decode cX3_init 15 = .ok (.newarray .int, 2) := by decide +kernel
theorem dX3_init_17 : decode cX3_init 17 = .ok (.putfield 15, 3) := by decide +kernel
theorem dX3_init_20 : decode cX3_init 20 = .ok (.return_, 1) := by decide +kernel
theorem dX0_init_0 : decode cX0_init 0 = .ok (.aload_n 0, 1) := by decide +kernel
theorem dX0_init_1 : decode cX0_init 1 = .ok (.invokespecial 1, 3) := by decide +kernel
theorem dX0_init_4 : decode cX0_init 4 = .ok (.aload_n 0, 1) := by decide +kernel
theorem dX0_init_5 : decode cX0_init 5 = .ok (.new 7, 3) := by decide +kernel
theorem dX0_init_8 : decode cX0_init 8 = .ok (.dup, 1) := by decide +kernel
theorem dX0_init_9 : decode cX0_init 9 = .ok (.invokespecial 9, 3) := by decide +kernel
theorem dX0_init_12 : decode cX0_init 12 = .ok (.putfield 10, 3) := by decide +kernel
theorem dX0_init_15 : decode cX0_init 15 = .ok (.aload_n 0, 1) := by decide +kernel
theorem dX0_init_16 : decode cX0_init 16 = .ok (.iload_n 1, 1) := by decide +kernel
theorem dX0_init_17 : decode cX0_init 17 = .ok (.putfield 16, 3) := by decide +kernel
theorem dX0_init_20 : decode cX0_init 20 = .ok (.aload_n 0, 1) := by decide +kernel
theorem dX0_init_21 : decode cX0_init 21 = .ok (.aload_n 2, 1) := by decide +kernel
theorem dX0_init_22 : decode cX0_init 22 = .ok (.putfield 20, 3) := by decide +kernel
theorem dX0_init_25 : decode cX0_init 25 = .ok (.aload_n 0, 1) := by decide +kernel
theorem dX0_init_26 : decode cX0_init 26 = .ok (.iload_n 3, 1) := by decide +kernel
theorem dX0_init_27 : decode cX0_init 27 = .ok (.putfield 24, 3) := by decide +kernel
theorem dX0_init_30 : decode cX0_init 30 = .ok (.aload_n 0, 1) := by decide +kernel
theorem dX0_init_31 : decode cX0_init 31 = .ok (.iload 4, 2) := by decide +kernel
theorem dX0_init_33 : decode cX0_init 33 = .ok (.putfield 27, 3) := by decide +kernel
theorem dX0_init_36 : decode cX0_init 36 = .ok (.aload_n 0, 1) := by decide +kernel
theorem dX0_init_37 : decode cX0_init 37 = .ok (.iload 5, 2) := by decide +kernel
theorem dX0_init_39 : decode cX0_init 39 = .ok (.putfield 30, 3) := by decide +kernel
theorem dX0_init_42 : decode cX0_init 42 = .ok (.return_, 1) := by decide +kernel
theorem dX5_canBear_0 : decode cX5_canBear 0 = .ok (.aload_n 0, 1) := by decide +kernel
theorem dX5_canBear_1 : decode cX5_canBear 1 = .ok (.aload_n 1, 1) := by decide +kernel
theorem dX5_canBear_2 : decode cX5_canBear 2 = .ok (.getfield 76, 3) := by decide +kernel
theorem dX5_canBear_5 : decode cX5_canBear 5 = .ok (.aload_n 1, 1) := by decide +kernel
theorem dX5_canBear_6 : decode cX5_canBear 6 = .ok (.getfield 81, 3) := by decide +kernel
theorem dX5_canBear_9 : decode cX5_canBear 9 = .ok (.invokevirtual 43, 3) := by decide +kernel
theorem dX5_canBear_12 : decode cX5_canBear 12 = .ok (.astore_n 2, 1) := by decide +kernel
theorem dX5_canBear_13 : decode cX5_canBear 13 = .ok (.aload_n 1, 1) := by decide +kernel
theorem dX5_canBear_14 : decode cX5_canBear 14 = .ok (.getfield 84, 3) := by decide +kernel
theorem dX5_canBear_17 : decode cX5_canBear 17 = .ok (.tableswitch 147 102 115 #[90, 147, 147, 147, 147, 147, 71, 147, 147, 131, 147, 147, 118, 77], 71) := by decide +kernel
theorem dX5_canBear_164 : decode cX5_canBear 164 = .ok (.iconst 1, 1) := by decide +kernel
theorem dX5_canBear_165 : decode cX5_canBear 165 = .ok (.ireturn, 1) := by decide +kernel
theorem dX5_canBear_94 : decode cX5_canBear 94 = .ok (.aload_n 2, 1) := by decide +kernel
theorem dX5_canBear_95 : decode cX5_canBear 95 = .ok (.getfield 91, 3) := by decide +kernel
theorem dX5_canBear_98 : decode cX5_canBear 98 = .ok (.ifCond .le 7, 3) := by decide +kernel
theorem dX5_canBear_105 : decode cX5_canBear 105 = .ok (.iconst 0, 1) := by decide +kernel
theorem dX5_canBear_106 : decode cX5_canBear 106 = .ok (.ireturn, 1) := by decide +kernel
theorem dX5_canBear_148 : decode cX5_canBear 148 = .ok (.aload_n 1, 1) := by decide +kernel
theorem dX5_canBear_149 : decode cX5_canBear 149 = .ok (.getfield 101, 3) := by decide +kernel
theorem dX5_canBear_152 : decode cX5_canBear 152 = .ok (.getfield 105, 3) := by decide +kernel
theorem dX5_canBear_155 : decode cX5_canBear 155 = .ok (.ifCond .le 7, 3) := by decide +kernel
theorem dX5_canBear_162 : decode cX5_canBear 162 = .ok (.iconst 0, 1) := by decide +kernel
theorem dX5_canBear_163 : decode cX5_canBear 163 = .ok (.ireturn, 1) := by decide +kernel
theorem dX5_glueDown_0 : decode cX5_glueDown 0 = .ok (.aload_n 0, 1) := by decide +kernel
theorem dX5_glueDown_1 : decode cX5_glueDown 1 = .ok (.aload_n 1, 1) := by decide +kernel
theorem dX5_glueDown_2 : decode cX5_glueDown 2 = .ok (.getfield 76, 3) := by decide +kernel
theorem dX5_glueDown_5 : decode cX5_glueDown 5 = .ok (.aload_n 1, 1) := by decide +kernel
theorem dX5_glueDown_6 : decode cX5_glueDown 6 = .ok (.getfield 81, 3) := by decide +kernel
theorem dX5_glueDown_9 : decode cX5_glueDown 9 = .ok (.invokevirtual 43, 3) := by decide +kernel
theorem dX5_glueDown_12 : decode cX5_glueDown 12 = .ok (.astore_n 2, 1) := by decide +kernel
theorem dX5_glueDown_13 : decode cX5_glueDown 13 = .ok (.aload_n 2, 1) := by decide +kernel
theorem dX5_glueDown_14 : decode cX5_glueDown 14 = .ok (.iconst 0, 1) := by decide +kernel
theorem dX5_glueDown_15 : decode cX5_glueDown 15 = .ok (.aload_n 2, 1) := by decide +kernel
theorem dX5_glueDown_16 : decode cX5_glueDown 16 = .ok (.getfield 202, 3) := by decide +kernel
theorem dX5_glueDown_19 : decode cX5_glueDown 19 = .ok (.bipush 30, 2) := by decide +kernel
theorem dX5_glueDown_21 : decode cX5_glueDown 21 = .ok (.isub, 1) := by decide +kernel
theorem dX5_glueDown_22 : decode cX5_glueDown 22 = .ok (.invokestatic 70, 3) := by decide +kernel
theorem dX5_glueDown_25 : decode cX5_glueDown 25 = .ok (.putfield 202, 3) := by decide +kernel
theorem dX5_glueDown_28 : decode cX5_glueDown 28 = .ok (.aload_n 2, 1) := by decide +kernel
theorem dX5_glueDown_29 : decode cX5_glueDown 29 = .ok (.getfield 202, 3) := by decide +kernel
theorem dX5_glueDown_32 : decode cX5_glueDown 32 = .ok (.ireturn, 1) := by decide +kernel
theorem dX5_perform_0 : decode cX5_perform 0 = .ok (.aload_n 1, 1) := by decide +kernel
theorem dX5_perform_1 : decode cX5_perform 1 = .ok (.getfield 84, 3) := by decide +kernel
theorem dX5_perform_4 : decode cX5_perform 4 = .ok (.tableswitch 138 102 121 #[120, 132, 138, 138, 138, 138, 96, 138, 138, 138, 138, 138, 126, 108, 138, 138, 138, 114, 138, 102], 96) := by decide +kernel
theorem dX5_perform_136 : decode cX5_perform 136 = .ok (.aload_n 0, 1) := by decide +kernel
theorem dX5_perform_137 : decode cX5_perform 137 = .ok (.aload_n 1, 1) := by decide +kernel
theorem dX5_perform_138 : decode cX5_perform 138 = .ok (.invokevirtual 127, 3) := by decide +kernel
theorem dX5_perform_141 : decode cX5_perform 141 = .ok (.ireturn, 1) := by decide +kernel
theorem dX8_age_0 : decode cX8_age 0 = .ok (.aload_n 0, 1) := by decide +kernel
theorem dX8_age_1 : decode cX8_age 1 = .ok (.invokevirtual 92, 3) := by decide +kernel
theorem dX8_age_4 : decode cX8_age 4 = .ok (.istore_n 3, 1) := by decide +kernel
theorem dX8_age_5 : decode cX8_age 5 = .ok (.iconst 0, 1) := by decide +kernel
theorem dX8_age_6 : decode cX8_age 6 = .ok (.istore 4, 2) := by decide +kernel
theorem dX8_age_8 : decode cX8_age 8 = .ok (.iload 4, 2) := by decide +kernel
theorem dX8_age_10 : decode cX8_age 10 = .ok (.aload_n 0, 1) := by decide +kernel
theorem dX8_age_11 : decode cX8_age 11 = .ok (.getfield 20, 3) := by decide +kernel
theorem dX8_age_14 : decode cX8_age 14 = .ok (.if_icmp .ge 104, 3) := by decide +kernel
theorem dX8_age_118 : decode cX8_age 118 = .ok (.return_, 1) := by decide +kernel
theorem dX8_wear_0 : decode cX8_wear 0 = .ok (.iload_n 2, 1) := by decide +kernel
theorem dX8_wear_1 : decode cX8_wear 1 = .ok (.bipush 50, 2) := by decide +kernel
theorem dX8_wear_3 : decode cX8_wear 3 = .ok (.isub, 1) := by decide +kernel
theorem dX8_wear_4 : decode cX8_wear 4 = .ok (.invokestatic 106, 3) := by decide +kernel
theorem dX8_wear_7 : decode cX8_wear 7 = .ok (.bipush 15, 2) := by decide +kernel
theorem dX8_wear_9 : decode cX8_wear 9 = .ok (.if_icmp .le 7, 3) := by decide +kernel
theorem dX8_wear_16 : decode cX8_wear 16 = .ok (.iconst 0, 1) := by decide +kernel
theorem dX8_wear_17 : decode cX8_wear 17 = .ok (.istore_n 3, 1) := by decide +kernel
theorem dX8_wear_18 : decode cX8_wear 18 = .ok (.iconst 1, 1) := by decide +kernel
theorem dX8_wear_19 : decode cX8_wear 19 = .ok (.istore 4, 2) := by decide +kernel
theorem dX8_wear_21 : decode cX8_wear 21 = .ok (.iload 4, 2) := by decide +kernel
theorem dX8_wear_23 : decode cX8_wear 23 = .ok (.aload_n 0, 1) := by decide +kernel
theorem dX8_wear_24 : decode cX8_wear 24 = .ok (.getfield 20, 3) := by decide +kernel
theorem dX8_wear_27 : decode cX8_wear 27 = .ok (.if_icmp .ge 43, 3) := by decide +kernel
theorem dX8_wear_70 : decode cX8_wear 70 = .ok (.aload_n 0, 1) := by decide +kernel
theorem dX8_wear_71 : decode cX8_wear 71 = .ok (.getfield 20, 3) := by decide +kernel
theorem dX8_wear_74 : decode cX8_wear 74 = .ok (.ifCond .le 10, 3) := by decide +kernel
theorem dX8_wear_84 : decode cX8_wear 84 = .ok (.return_, 1) := by decide +kernel
theorem dX8_wear_12 : decode cX8_wear 12 = .ok (.iconst 1, 1) := by decide +kernel
theorem dX8_wear_13 : decode cX8_wear 13 = .ok (.goto 4, 3) := by decide +kernel
theorem dX8_turnYellow_0 : decode cX8_turnYellow 0 = .ok (.aload_n 0, 1) := by decide +kernel
theorem dX8_turnYellow_1 : decode cX8_turnYellow 1 = .ok (.bipush 118, 2) := by decide +kernel
theorem dX8_turnYellow_3 : decode cX8_turnYellow 3 = .ok (.invokevirtual 117, 3) := by decide +kernel
theorem dX8_turnYellow_6 : decode cX8_turnYellow 6 = .ok (.ifCond .eq 24, 3) := by decide +kernel
theorem dX8_turnYellow_30 : decode cX8_turnYellow 30 = .ok (.return_, 1) := by decide +kernel
theorem dX5_age_0 : decode cX5_age 0 = .ok (.aload_n 0, 1) := by decide +kernel
theorem dX5_age_1 : decode cX5_age 1 = .ok (.getfield 24, 3) := by decide +kernel
theorem dX5_age_4 : decode cX5_age 4 = .ok (.istore_n 2, 1) := by decide +kernel
theorem dX5_age_5 : decode cX5_age 5 = .ok (.aload_n 0, 1) := by decide +kernel
theorem dX5_age_6 : decode cX5_age 6 = .ok (.dup, 1) := by decide +kernel
theorem dX5_age_7 : decode cX5_age 7 = .ok (.getfield 24, 3) := by decide +kernel
theorem dX5_age_10 : decode cX5_age 10 = .ok (.aload_n 1, 1) := by decide +kernel
theorem dX5_age_11 : decode cX5_age 11 = .ok (.getfield 144, 3) := by decide +kernel
theorem dX5_age_14 : decode cX5_age 14 = .ok (.iadd, 1) := by decide +kernel
theorem dX5_age_15 : decode cX5_age 15 = .ok (.putfield 24, 3) := by decide +kernel
theorem dX5_age_18 : decode cX5_age 18 = .ok (.iconst 0, 1) := by decide +kernel
theorem dX5_age_19 : decode cX5_age 19 = .ok (.istore_n 3, 1) := by decide +kernel
theorem dX5_age_20 : decode cX5_age 20 = .ok (.iload_n 3, 1) := by decide +kernel
theorem dX5_age_21 : decode cX5_age 21 = .ok (.bipush 48, 2) := by decide +kernel
theorem dX5_age_23 : decode cX5_age 23 = .ok (.if_icmp .ge 64, 3) := by decide +kernel
theorem dX5_age_87 : decode cX5_age 87 = .ok (.aload_n 0, 1) := by decide +kernel
theorem dX5_age_88 : decode cX5_age 88 = .ok (.getfield 24, 3) := by decide +kernel
theorem dX5_age_91 : decode cX5_age 91 = .ok (.ireturn, 1) := by decide +kernel
theorem dX5_age_26 : decode cX5_age 26 = .ok (.aload_n 0, 1) := by decide +kernel
theorem dX5_age_27 : decode cX5_age 27 = .ok (.getfield 11, 3) := by decide +kernel
theorem dX5_age_30 : decode cX5_age 30 = .ok (.iload_n 3, 1) := by decide +kernel
theorem dX5_age_31 : decode cX5_age 31 = .ok (.aaload, 1) := by decide +kernel
theorem dX5_age_32 : decode cX5_age 32 = .ok (.aload_n 1, 1) := by decide +kernel
theorem dX5_age_33 : decode cX5_age 33 = .ok (.getfield 144, 3) := by decide +kernel
theorem dX5_age_36 : decode cX5_age 36 = .ok (.aload_n 1, 1) := by decide +kernel
theorem dX5_age_37 : decode cX5_age 37 = .ok (.getfield 151, 3) := by decide +kernel
theorem dX5_age_40 : decode cX5_age 40 = .ok (.invokevirtual 154, 3) := by decide +kernel
theorem dX5_age_43 : decode cX5_age 43 = .ok (.aload_n 0, 1) := by decide +kernel
theorem dX5_age_44 : decode cX5_age 44 = .ok (.getfield 11, 3) := by decide +kernel
theorem dX5_age_47 : decode cX5_age 47 = .ok (.iload_n 3, 1) := by decide +kernel
theorem dX5_age_48 : decode cX5_age 48 = .ok (.aaload, 1) := by decide +kernel
theorem dX5_age_49 : decode cX5_age 49 = .ok (.aload_n 1, 1) := by decide +kernel
theorem dX5_age_50 : decode cX5_age 50 = .ok (.getfield 144, 3) := by decide +kernel
theorem dX5_age_53 : decode cX5_age 53 = .ok (.aload_n 1, 1) := by decide +kernel
theorem dX5_age_54 : decode cX5_age 54 = .ok (.getfield 157, 3) := by decide +kernel
theorem dX5_age_57 : decode cX5_age 57 = .ok (.invokevirtual 160, 3) := by decide +kernel
theorem dX5_age_60 : decode cX5_age 60 = .ok (.aload_n 0, 1) := by decide +kernel
theorem dX5_age_61 : decode cX5_age 61 = .ok (.getfield 11, 3) := by decide +kernel
theorem dX5_age_64 : decode cX5_age 64 = .ok (.iload_n 3, 1) := by decide +kernel
theorem dX5_age_65 : decode cX5_age 65 = .ok (.aaload, 1) := by decide +kernel
theorem dX5_age_66 : decode cX5_age 66 = .ok (.aload_n 0, 1) := by decide +kernel
theorem dX5_age_67 : decode cX5_age 67 = .ok (.getfield 24, 3) := by decide +kernel
theorem dX5_age_70 : decode cX5_age 70 = .ok (.bipush 10, 2) := by decide +kernel
theorem dX5_age_72 : decode cX5_age 72 = .ok (.idiv, 1) := by decide +kernel
theorem dX5_age_73 : decode cX5_age 73 = .ok (.iload_n 2, 1) := by decide +kernel
theorem dX5_age_74 : decode cX5_age 74 = .ok (.bipush 10, 2) := by decide +kernel
theorem dX5_age_76 : decode cX5_age 76 = .ok (.idiv, 1) := by decide +kernel
theorem dX5_age_77 : decode cX5_age 77 = .ok (.isub, 1) := by decide +kernel
theorem dX5_age_78 : decode cX5_age 78 = .ok (.invokevirtual 163, 3) := by decide +kernel
theorem dX5_age_81 : decode cX5_age 81 = .ok (.iinc 3 1, 3) := by decide +kernel
theorem dX5_age_84 : decode cX5_age 84 = .ok (.goto (-64), 3) := by decide +kernel
theorem dX5_perform_106 : decode cX5_perform 106 = .ok (.aload_n 0, 1) := by decide +kernel
theorem dX5_perform_107 : decode cX5_perform 107 = .ok (.aload_n 1, 1) := by decide +kernel
theorem dX5_perform_108 : decode cX5_perform 108 = .ok (.invokevirtual 112, 3) := by decide +kernel
theorem dX5_perform_111 : decode cX5_perform 111 = .ok (.ireturn, 1) := by decide +kernel
theorem dX11_enter_0 : decode cX11_enter 0 = .ok (.aload_n 0, 1) := by decide +kernel
theorem dX11_enter_1 : decode cX11_enter 1 = .ok (.getfield 62, 3) := by decide +kernel
theorem dX11_enter_4 : decode cX11_enter 4 = .ok (.aload_n 1, 1) := by decide +kernel
theorem dX11_enter_5 : decode cX11_enter 5 = .ok (.invokevirtual 427, 3) := by decide +kernel
theorem dX11_enter_8 : decode cX11_enter 8 = .ok (.invokestatic 142, 3) := by decide +kernel
theorem dX11_enter_11 : decode cX11_enter 11 = .ok (.aload_n 0, 1) := by decide +kernel
theorem dX11_enter_12 : decode cX11_enter 12 = .ok (.getfield 19, 3) := by decide +kernel
theorem dX11_enter_15 : decode cX11_enter 15 = .ok (.invokevirtual 95, 3) := by decide +kernel
theorem dX11_enter_18 : decode cX11_enter 18 = .ok (.bipush 40, 2) := by decide +kernel
theorem dX11_enter_20 : decode cX11_enter 20 = .ok (.if_icmp .ge 7, 3) := by decide +kernel
theorem dX11_enter_23 : decode cX11_enter 23 = .ok (.iconst 1, 1) := by decide +kernel
theorem dX11_enter_24 : decode cX11_enter 24 = .ok (.goto 4, 3) := by decide +kernel
theorem dX11_enter_28 : decode cX11_enter 28 = .ok (.invokestatic 99, 3) := by decide +kernel
theorem dX11_enter_31 : decode cX11_enter 31 = .ok (.aload_n 0, 1) := by decide +kernel
theorem dX11_enter_32 : decode cX11_enter 32 = .ok (.getfield 19, 3) := by decide +kernel
theorem dX11_enter_35 : decode cX11_enter 35 = .ok (.aload_n 1, 1) := by decide +kernel
theorem dX11_enter_36 : decode cX11_enter 36 = .ok (.invokevirtual 127, 3) := by decide +kernel
theorem dX11_enter_39 : decode cX11_enter 39 = .ok (.pop, 1) := by decide +kernel
theorem dX11_enter_40 : decode cX11_enter 40 = .ok (.aload_n 0, 1) := by decide +kernel
theorem dX11_enter_41 : decode cX11_enter 41 = .ok (.getfield 62, 3) := by decide +kernel
theorem dX11_enter_44 : decode cX11_enter 44 = .ok (.aload_n 1, 1) := by decide +kernel
theorem dX11_enter_45 : decode cX11_enter 45 = .ok (.invokevirtual 431, 3) := by decide +kernel
theorem dX11_enter_48 : decode cX11_enter 48 = .ok (.ireturn, 1) := by decide +kernel
theorem kEqI {D : va_G} {cl : List vw_C} {tys : List (ClassId × FieldType)} {s : State} (hK : va_K D cl tys s) (i j : Nat) {a b : ClassId} (ha : tys[i]? = some (a, .int)) (hb : tys[j]? = some (b, .int)) : a = b := by
  have h1 : s.vm.findClass ("[" ++ FieldType.int.toString) = some a := (hK.2 i _ ha).2
  have h2 : s.vm.findClass ("[" ++ FieldType.int.toString) = some b := (hK.2 j _ hb).2
  exact Option.some.inj (h1.symm.trans h2)
theorem kEqZ {D : va_G} {cl : List vw_C} {tys : List (ClassId × FieldType)} {s : State} (hK : va_K D cl tys s) (i j : Nat) {a b : ClassId} (ha : tys[i]? = some (a, .boolean)) (hb : tys[j]? = some (b, .boolean)) : a = b := by
  have h1 : s.vm.findClass ("[" ++ FieldType.boolean.toString) = some a := (hK.2 i _ ha).2
  have h2 : s.vm.findClass ("[" ++ FieldType.boolean.toString) = some b := (hK.2 j _ hb).2
  exact Option.some.inj (h1.symm.trans h2)

def wo_c_X3_init_w : List Cond := [Cond.methodLink RX3 3 objectInit, Cond.instanceMethod objectInit, Cond.code objectInit ⟨#[0xb1]⟩ 1 none, Cond.arrayClass .int, Cond.fieldLink RX3 9 "Underpaint$Loan" "shocks" "[I", Cond.fieldLink RX3 15 "Underpaint$Loan" "damps" "[I"]
def wo_c_X3_init : List Cond := .code yX3_init cX3_init 1 none :: (wo_c_X3_init_w ++ (u_ws RX3 TX3 3 ++ List.nil))
theorem gw_wo_c_X3_init : wo_c_X3_init.all goodWord = true := gw_c (by decide +kernel) (gw_a (by decide +kernel) (gw_a (by decide +kernel) rfl))
set_option maxHeartbeats 4000000 in
set_option maxRecDepth 100000 in
/-- Loan() -/
theorem c_X3_init (l : Launch) (dC : Nat → ClassId) (dI : Nat → Nat → Nat) (b0 : Nat) (en : EnT) (sz : Nat) (loa : Nat) : Met l yX3_init wo_c_X3_init ({ frames := 1, cells := 2, slots := 16, locals := 30 } : Room) (cP b0 en (dC, dI) [] [(loa, .inr (9, [.null, .null, .int 0]))] [] sz (fun _ => True) [.ref loa]) (va_Qv (fun u : Nat × Nat × ClassId => True) (fun u t => cB (dC, dI) [(u.2.2, .int)] [(loa, .inr (9, [.ref u.1, .ref u.2.1, .int 0])), (u.1, .inl (u.2.2, 8, .inl (fun _ => 0))), (u.2.1, .inl (u.2.2, 8, .inl (fun _ => 0)))] (va_A [(loa, .inr (9, [.null, .null, .int 0]))] sz) (fun _ => True) t) (va_A [(loa, .inr (9, [.null, .null, .int 0]))] sz)) 2 16 (va_A [(loa, .inr (9, [.null, .null, .int 0]))] sz) := by
  refine Met.ofW (cc := cX3_init) (maxL := 1) (ret := none) (by decide) rfl ?_
  intro p e s m args below meth c s₁ B hml hv
  obtain ⟨rfl, hsz, hb0, hE, hPP, hK, hDD, hF0⟩ := hv
  have hx := B.exec
  have hb := B.bytes
  have hr := B.returns
  have hts := atoms_spec (ws := wo_c_X3_init) B.pre
  have hown : s.vm.findClass RX3 = some m.cls := findClass_of_methodNamed B.named
  have hlocks := B.notSynchronized
  have hin : meth.name = "<init>" := (name_of_methodNamed B.named B.method).1
  subst hsz
  have hN0 := en_N hPP hDD rfl
  have hP : va_P (dC, dI) vwCl [(loa, .inr (9, [.null, .null, .int 0]))] s.heap := hPP.sub [0] rfl
  have hR0 : va_P (dC, dI) vwCl [] s.heap := hPP.sub [] rfl
  have hD0 : va_D (fun q => b0 ≤ q) [(loa, .inr (9, [.null, .null, .int 0]))] := hDD.sub [0] (by decide) rfl
  have hDr : va_D (fun q => b0 ≤ q) [] := hDD.sub [] (by decide) rfl
  have hAb := en_A (sz := s.heap.size) hD0 hb0
  have hD := hD0.self (sz := s.heap.size)
  generalize hAe : va_A [(loa, .inr (9, [.null, .null, .int 0]))] s.heap.size = A at hD hAb hN0 ⊢
  have hA : ∀ q : Nat, s.heap.size ≤ q → A q := fun q h => by rw [← hAe]; exact Or.inr h
  have hS : va_S A s.heap s.heap [] := va_S.rf
  have hR := hR0
  have hl := lv_entry [.ref loa] (n := 1) (Nat.le_of_ble_eq_true rfl)
  rw [lg_entry_eq]
  generalize (lg_sl [.ref loa] ++ List.replicate (1 - (lg_sl [.ref loa]).length) Slot.unset).toArray = ls at hl ⊢
  have hl : lv_has ls 1 [(0, .ref loa)] := hl
  refine lv_aload_n hx hb dX3_init_0 rfl (lv_at hl 0 rfl) ?_
  refine W.objInit hx hb hown (hts (.methodLink RX3 3 objectInit) (by decide +kernel)) (hts (.instanceMethod objectInit) (by decide +kernel)) (hts (.code objectInit ⟨#[0xb1]⟩ 1 none) (by decide +kernel)) rfl (by rw [hml]; exact hl.1) rfl dX3_init_1 (Nat.le_of_ble_eq_true rfl) (Nat.le_of_ble_eq_true rfl) ?_
  refine lv_aload_n hx hb dX3_init_4 rfl (lv_at hl 0 rfl) ?_
  refine lv_bipush (v := 8) hx hb dX3_init_5 (by decide) ?_
  have hz9 := hS.1
  refine va_newaX (atype := .int) (a0 := (8, .inl (fun _ => 0))) hx hb (hts (.arrayClass .int) (by decide +kernel)) rfl hK hP hD hS hA (fun _ => rfl) (by decide) (by decide) (by decide) (Nat.le_of_ble_eq_true rfl) (Nat.le_of_ble_eq_true rfl) dX3_init_7 (fun q_1 k_2 H hK hP hD hS hoq hoz => ?_)
  have hP : va_P (dC, dI) vwCl [(loa, .inr (9, [.null, .null, .int 0])), (q_1, .inl (k_2, 8, .inl (fun _ => 0)))] H := hP
  have hD : va_D A [(loa, .inr (9, [.null, .null, .int 0])), (q_1, .inl (k_2, 8, .inl (fun _ => 0)))] := hD
  have hR : va_P (dC, dI) vwCl [] H := fun k q h => by simp at h
  refine W.widen (k := 1) (n := 8) (Nat.le_of_ble_eq_true rfl) (Nat.le_of_ble_eq_true rfl) ?_
  have hgz_q_1 : s.heap.size ≤ q_1 := by rw [hoz]; exact hz9
  have hoz_q_1 := hoz
  refine va_putF (D := (dC, dI)) (ci := 9) (v := .ref q_1) (ty := .array (.int)) (C := RX3) (T := TX3) (N := 3) hx hb hts (by decide +kernel) tyX3 tyX3_ok nmX3 hown hK hP hD hS 0 rfl rfl 0 (by decide) (hts (.fieldLink RX3 9 "Underpaint$Loan" "shocks" "[I") (by decide +kernel)) (fun _ h9 => h9) rfl hin rfl (by decide +kernel) rfl rfl (Nat.le_of_ble_eq_true rfl) dX3_init_9 (fun H locs hP hD hS => ?_)
  have hP : va_P (dC, dI) vwCl [(loa, .inr (9, [.ref q_1, .null, .int 0])), (q_1, .inl (k_2, 8, .inl (fun _ => 0)))] H := hP
  have hD : va_D A [(loa, .inr (9, [.ref q_1, .null, .int 0])), (q_1, .inl (k_2, 8, .inl (fun _ => 0)))] := hD
  have hR : va_P (dC, dI) vwCl [] H := fun k q h => by simp at h
  refine lv_aload_n hx hb dX3_init_12 rfl (lv_at hl 0 rfl) ?_
  refine lv_bipush (v := 8) hx hb dX3_init_13 (by decide) ?_
  have hz9 := hS.1
  refine va_newaX (atype := .int) (a0 := (8, .inl (fun _ => 0))) hx hb (hts (.arrayClass .int) (by decide +kernel)) rfl hK hP hD hS hA (fun _ => rfl) (by decide) (by decide) (by decide) (Nat.le_of_ble_eq_true rfl) (Nat.le_of_ble_eq_true rfl) dX3_init_15 (fun q_3 k_4 H hK hP hD hS hoq hoz => ?_)
  have hP : va_P (dC, dI) vwCl [(loa, .inr (9, [.ref q_1, .null, .int 0])), (q_1, .inl (k_2, 8, .inl (fun _ => 0))), (q_3, .inl (k_4, 8, .inl (fun _ => 0)))] H := hP
  have hD : va_D A [(loa, .inr (9, [.ref q_1, .null, .int 0])), (q_1, .inl (k_2, 8, .inl (fun _ => 0))), (q_3, .inl (k_4, 8, .inl (fun _ => 0)))] := hD
  have hR : va_P (dC, dI) vwCl [] H := fun k q h => by simp at h
  refine W.widen (k := 2) (n := 16) (Nat.le_of_ble_eq_true rfl) (Nat.le_of_ble_eq_true rfl) ?_
  have hgz_q_3 : s.heap.size ≤ q_3 := by rw [hoz]; exact hz9
  have hoz_q_3 := hoz
  obtain rfl : k_2 = k_4 := kEqI hK 0 1 rfl rfl
  refine va_putF (D := (dC, dI)) (ci := 9) (v := .ref q_3) (ty := .array (.int)) (C := RX3) (T := TX3) (N := 3) hx hb hts (by decide +kernel) tyX3 tyX3_ok nmX3 hown hK hP hD hS 0 rfl rfl 1 (by decide) (hts (.fieldLink RX3 15 "Underpaint$Loan" "damps" "[I") (by decide +kernel)) (fun _ h9 => h9) rfl hin rfl (by decide +kernel) rfl rfl (Nat.le_of_ble_eq_true rfl) dX3_init_17 (fun H locs hP hD hS => ?_)
  have hP : va_P (dC, dI) vwCl [(loa, .inr (9, [.ref q_1, .ref q_3, .int 0])), (q_1, .inl (k_2, 8, .inl (fun _ => 0))), (q_3, .inl (k_2, 8, .inl (fun _ => 0)))] H := hP
  have hD : va_D A [(loa, .inr (9, [.ref q_1, .ref q_3, .int 0])), (q_1, .inl (k_2, 8, .inl (fun _ => 0))), (q_3, .inl (k_2, 8, .inl (fun _ => 0)))] := hD
  have hR : va_P (dC, dI) vwCl [] H := fun k q h => by simp at h
  refine W.widen (k := 2) (n := 16) (Nat.le_of_ble_eq_true rfl) (Nat.le_of_ble_eq_true rfl) ?_
  exact W.vret hx hb hr (fun t ht hW => ⟨⟨⟨q_1, q_3, k_2⟩, rfl, trivial, cB.mk ht hW (hP.sub [0, 1, 2] rfl) (hK.sub [0] rfl) (hD.sub [0, 1, 2] (by decide) rfl) (trivial)⟩, hS.F ht⟩) hS.2.2 dX3_init_20

def wo_c_X0_init_w : List Cond := [Cond.methodLink RX0 1 objectInit, Cond.instanceMethod objectInit, Cond.code objectInit ⟨#[0xb1]⟩ 1 none, Cond.classLink RX0 7 RX3, Cond.instantiable RX3 3, Cond.initialized RX3, Cond.instanceMethod yX3_init, Cond.fieldLink RX0 10 "Underpaint$Act" "loan" "LUnderpaint$Loan;", Cond.fieldLink RX0 16 "Underpaint$Act" "letter" "I", Cond.fieldLink RX0 20 "Underpaint$Act" "stuff" "LUnderpaint$Stuff;", Cond.fieldLink RX0 24 "Underpaint$Act" "amount" "I", Cond.fieldLink RX0 27 "Underpaint$Act" "left" "I", Cond.fieldLink RX0 30 "Underpaint$Act" "top" "I"]
def wo_c_X0_init : List Cond := .code yX0_init cX0_init 6 none :: (wo_c_X0_init_w ++ (u_ws RX3 TX3 3 ++ (u_ws RX0 TX0 12 ++ (wo_c_X3_init ++ List.nil))))
theorem gw_wo_c_X0_init : wo_c_X0_init.all goodWord = true := gw_c (by decide +kernel) (gw_a (by decide +kernel) (gw_a (by decide +kernel) (gw_a (by decide +kernel) (gw_a gw_wo_c_X3_init rfl))))
theorem go_c_X0_init_0 : GoodIn wo_c_X0_init (wo_c_X3_init) := goodIn_sub (fun _ h => List.mem_cons_of_mem _ (List.mem_append_right _ (List.mem_append_right _ (List.mem_append_right _ (List.mem_append_left _ h))))) gw_wo_c_X3_init
set_option maxHeartbeats 4000000 in
set_option maxRecDepth 100000 in
/-- Act(letter, stuff, amount, left, top) -/
theorem c_X0_init (l : Launch) (dC : Nat → ClassId) (dI : Nat → Nat → Nat) (b0 : Nat) (en : EnT) (sz : Nat) (ac sf : Nat) (w am le to : Int32) : Met l yX0_init wo_c_X0_init ({ frames := 2, cells := 3, slots := 19, locals := 50 } : Room) (cP b0 en (dC, dI) [] [(ac, .inr (6, [.int 0, .null, .int 0, .int 0, .int 0, .int 0, .int 0, .int 0, .int 0, .int 0, .int 0, .null]))] [] sz (fun _ => True) [.ref ac, .int w, .ref sf, .int am, .int le, .int to]) (va_Qv (fun u : Nat × Nat × Nat × ClassId => True) (fun u t => cB (dC, dI) [(u.2.2.2, .int)] [(ac, .inr (6, [.int w, .ref sf, .int am, .int le, .int to, .int 0, .int 0, .int 0, .int 0, .int 0, .int 0, .ref u.1])), (u.1, .inr (9, [.ref u.2.1, .ref u.2.2.1, .int 0])), (u.2.1, .inl (u.2.2.2, 8, .inl (fun _ => 0))), (u.2.2.1, .inl (u.2.2.2, 8, .inl (fun _ => 0)))] (va_A [(ac, .inr (6, [.int 0, .null, .int 0, .int 0, .int 0, .int 0, .int 0, .int 0, .int 0, .int 0, .int 0, .null]))] sz) (fun _ => True) t) (va_A [(ac, .inr (6, [.int 0, .null, .int 0, .int 0, .int 0, .int 0, .int 0, .int 0, .int 0, .int 0, .int 0, .null]))] sz)) 3 19 (va_A [(ac, .inr (6, [.int 0, .null, .int 0, .int 0, .int 0, .int 0, .int 0, .int 0, .int 0, .int 0, .int 0, .null]))] sz) := by
  refine Met.ofW (cc := cX0_init) (maxL := 6) (ret := none) (by decide) rfl ?_
  intro p e s m args below meth c s₁ B hml hv
  obtain ⟨rfl, hsz, hb0, hE, hPP, hK, hDD, hF0⟩ := hv
  have hx := B.exec
  have hb := B.bytes
  have hr := B.returns
  have hts := atoms_spec (ws := wo_c_X0_init) B.pre
  have hown : s.vm.findClass RX0 = some m.cls := findClass_of_methodNamed B.named
  have hlocks := B.notSynchronized
  have hin : meth.name = "<init>" := (name_of_methodNamed B.named B.method).1
  subst hsz
  have hN0 := en_N hPP hDD rfl
  have hP : va_P (dC, dI) vwCl [(ac, .inr (6, [.int 0, .null, .int 0, .int 0, .int 0, .int 0, .int 0, .int 0, .int 0, .int 0, .int 0, .null]))] s.heap := hPP.sub [0] rfl
  have hR0 : va_P (dC, dI) vwCl [] s.heap := hPP.sub [] rfl
  have hD0 : va_D (fun q => b0 ≤ q) [(ac, .inr (6, [.int 0, .null, .int 0, .int 0, .int 0, .int 0, .int 0, .int 0, .int 0, .int 0, .int 0, .null]))] := hDD.sub [0] (by decide) rfl
  have hDr : va_D (fun q => b0 ≤ q) [] := hDD.sub [] (by decide) rfl
  have hAb := en_A (sz := s.heap.size) hD0 hb0
  have hD := hD0.self (sz := s.heap.size)
  generalize hAe : va_A [(ac, .inr (6, [.int 0, .null, .int 0, .int 0, .int 0, .int 0, .int 0, .int 0, .int 0, .int 0, .int 0, .null]))] s.heap.size = A at hD hAb hN0 ⊢
  have hA : ∀ q : Nat, s.heap.size ≤ q → A q := fun q h => by rw [← hAe]; exact Or.inr h
  have hS : va_S A s.heap s.heap [] := va_S.rf
  have hR := hR0
  have hl := lv_entry [.ref ac, .int w, .ref sf, .int am, .int le, .int to] (n := 6) (Nat.le_of_ble_eq_true rfl)
  rw [lg_entry_eq]
  generalize (lg_sl [.ref ac, .int w, .ref sf, .int am, .int le, .int to] ++ List.replicate (6 - (lg_sl [.ref ac, .int w, .ref sf, .int am, .int le, .int to]).length) Slot.unset).toArray = ls at hl ⊢
  have hl : lv_has ls 6 [(0, .ref ac), (1, .int w), (2, .ref sf), (3, .int am), (4, .int le), (5, .int to)] := hl
  refine lv_aload_n hx hb dX0_init_0 rfl (lv_at hl 0 rfl) ?_
  refine W.objInit hx hb hown (hts (.methodLink RX0 1 objectInit) (by decide +kernel)) (hts (.instanceMethod objectInit) (by decide +kernel)) (hts (.code objectInit ⟨#[0xb1]⟩ 1 none) (by decide +kernel)) rfl (by rw [hml]; exact hl.1) rfl dX0_init_1 (Nat.le_of_ble_eq_true rfl) (Nat.le_of_ble_eq_true rfl) ?_
  refine lv_aload_n hx hb dX0_init_4 rfl (lv_at hl 0 rfl) ?_
  have hz9 := hS.1
  refine va_newX (ci := 9) (fs := [.null, .null, .int 0]) (C := RX3) (T := TX3) (N := 3) hx hb hts (by decide +kernel) tyX3 tyX3_ok hown (hts (.classLink RX0 7 RX3) (by decide +kernel)) (hts (.instantiable RX3 3) (by decide +kernel)) (hts (.initialized RX3) (by decide +kernel)) hK hP hD hS hA rfl (fun j hj => by rcases (show j = 0 ∨ j = 1 ∨ j = 2 by omega) with rfl | rfl | rfl <;> rfl) (Nat.le_of_ble_eq_true rfl) (Nat.le_of_ble_eq_true rfl) dX0_init_5 (fun q_1 H hP hD hS hoq hoz => ?_)
  have hP : va_P (dC, dI) vwCl [(ac, .inr (6, [.int 0, .null, .int 0, .int 0, .int 0, .int 0, .int 0, .int 0, .int 0, .int 0, .int 0, .null])), (q_1, .inr (9, [.null, .null, .int 0]))] H := hP
  have hD : va_D A [(ac, .inr (6, [.int 0, .null, .int 0, .int 0, .int 0, .int 0, .int 0, .int 0, .int 0, .int 0, .int 0, .null])), (q_1, .inr (9, [.null, .null, .int 0]))] := hD
  have hR : va_P (dC, dI) vwCl [] H := fun k q h => by simp at h
  refine W.widen (k := 1) (n := 3) (Nat.le_of_ble_eq_true rfl) (Nat.le_of_ble_eq_true rfl) ?_
  have hgz_q_1 : s.heap.size ≤ q_1 := by rw [hoz]; exact hz9
  have hoz_q_1 := hoz
  refine lv_dup hx hb dX0_init_8 rfl ?_
  have hS9 := hS
  have hPc := (hP.app hR).sub (ws' := [(q_1, .inr (9, [.null, .null, .int 0]))] ++ []) [1] rfl
  have hDc := (en_DD hD hDr hN0 hAb).sub (ws' := [(q_1, .inr (9, [.null, .null, .int 0]))] ++ []) [1] (by decide) rfl
  have hKc := hK.sub (tys' := []) [] rfl
  have hFc := va_free (wc := [(q_1, .inr (9, [.null, .null, .int 0]))]) hD hS hA [1] rfl
  refine va_callv (va_runIN (As := []) (rest := [.ref q_1, .ref ac]) ⟨hx, hb, hml, hown, hts⟩ (c_X3_init l dC dI b0 en H.size q_1) ⟨va_cnB 0 hts go_c_X0_init_0 rfl rfl rfl (hE.nm ("Underpaint$Act", 9, ⟨"Underpaint$Loan", "<init>", "()V"⟩, "Underpaint") (by decide +kernel)) (hts (.initialized RX3) (by decide +kernel)) (by decide +kernel) ⟨Nat.le_of_ble_eq_true rfl, Nat.le_of_ble_eq_true rfl⟩, rfl, hts (.instanceMethod yX3_init) (by decide +kernel)⟩ ⟨cP.blind, cP.use (en_z hb0 hS) (hE.on hAb hS) hPc hKc hDc trivial⟩ rfl rfl hl.1 rfl (lv_room (Nat.le_of_ble_eq_true rfl)) dX0_init_9 ⟨Nat.le_of_ble_eq_true rfl, Nat.le_of_ble_eq_true rfl⟩) hS (fun q _ h => hFc q h) hFc (fun ⟨lh_3, ld_4, kI_5⟩ t H1 locs ht hvm hw hB hz1 hk1 hS => ?_)
  obtain ⟨hP1, hK1, hD1, hF1⟩ := hB
  rw [ht] at hP1
  try rw [ht] at hF1
  have hK1 := va_K.moved hvm.symm hK1
  try dsimp only at hw
  obtain ⟨hP, hD⟩ := va_join (wr := [(ac, .inr (6, [.int 0, .null, .int 0, .int 0, .int 0, .int 0, .int 0, .int 0, .int 0, .int 0, .int 0, .null]))]) (w1 := [(q_1, .inr (9, [.ref lh_3, .ref ld_4, .int 0])), (lh_3, .inl (kI_5, 8, .inl (fun _ => 0))), (ld_4, .inl (kI_5, 8, .inl (fun _ => 0)))]) hP hD [1] [0] rfl rfl (by decide) (by decide) hk1 hFc hP1 hD1
  have hK := hK.app hK1
  have hgz_lh_3 : s.heap.size ≤ lh_3 := Nat.le_trans hS9.1 (vGeN hD1 1 rfl (by simp only [List.map_cons, List.map_nil, List.mem_cons, List.not_mem_nil, or_false, not_or, not_false_eq_true]; exact vAp hD1 1 0 rfl rfl (by decide)))
  have hgz_ld_4 : s.heap.size ≤ ld_4 := Nat.le_trans hS9.1 (vGeN hD1 2 rfl (by simp only [List.map_cons, List.map_nil, List.mem_cons, List.not_mem_nil, or_false, not_or, not_false_eq_true]; exact vAp hD1 2 0 rfl rfl (by decide)))
  generalize H1 = H at hP hS ⊢
  have hP : va_P (dC, dI) vwCl [(ac, .inr (6, [.int 0, .null, .int 0, .int 0, .int 0, .int 0, .int 0, .int 0, .int 0, .int 0, .int 0, .null])), (q_1, .inr (9, [.ref lh_3, .ref ld_4, .int 0])), (lh_3, .inl (kI_5, 8, .inl (fun _ => 0))), (ld_4, .inl (kI_5, 8, .inl (fun _ => 0)))] H := hP
  have hD : va_D A [(ac, .inr (6, [.int 0, .null, .int 0, .int 0, .int 0, .int 0, .int 0, .int 0, .int 0, .int 0, .int 0, .null])), (q_1, .inr (9, [.ref lh_3, .ref ld_4, .int 0])), (lh_3, .inl (kI_5, 8, .inl (fun _ => 0))), (ld_4, .inl (kI_5, 8, .inl (fun _ => 0)))] := hD
  have hR : va_P (dC, dI) vwCl [] H := fun k q h => by simp at h
  refine W.widen (k := 3) (n := 19) (Nat.le_of_ble_eq_true rfl) (Nat.le_of_ble_eq_true rfl) ?_
  refine va_putF (D := (dC, dI)) (ci := 6) (v := .ref q_1) (ty := .object "Underpaint$Loan") (C := RX0) (T := TX0) (N := 12) hx hb hts (by decide +kernel) tyX0 tyX0_ok nmX0 hown hK hP hD hS 0 rfl rfl 11 (by decide) (hts (.fieldLink RX0 10 "Underpaint$Act" "loan" "LUnderpaint$Loan;") (by decide +kernel)) (fun _ h9 => h9) rfl hin rfl (by decide +kernel) rfl rfl (Nat.le_of_ble_eq_true rfl) dX0_init_12 (fun H locs hP hD hS => ?_)
  have hP : va_P (dC, dI) vwCl [(ac, .inr (6, [.int 0, .null, .int 0, .int 0, .int 0, .int 0, .int 0, .int 0, .int 0, .int 0, .int 0, .ref q_1])), (q_1, .inr (9, [.ref lh_3, .ref ld_4, .int 0])), (lh_3, .inl (kI_5, 8, .inl (fun _ => 0))), (ld_4, .inl (kI_5, 8, .inl (fun _ => 0)))] H := hP
  have hD : va_D A [(ac, .inr (6, [.int 0, .null, .int 0, .int 0, .int 0, .int 0, .int 0, .int 0, .int 0, .int 0, .int 0, .ref q_1])), (q_1, .inr (9, [.ref lh_3, .ref ld_4, .int 0])), (lh_3, .inl (kI_5, 8, .inl (fun _ => 0))), (ld_4, .inl (kI_5, 8, .inl (fun _ => 0)))] := hD
  have hR : va_P (dC, dI) vwCl [] H := fun k q h => by simp at h
  refine lv_aload_n hx hb dX0_init_15 rfl (lv_at hl 0 rfl) ?_
  refine lv_iload_n hx hb dX0_init_16 rfl (lv_at hl 1 rfl) ?_
  refine va_putF (D := (dC, dI)) (ci := 6) (v := .int w) (ty := .int) (C := RX0) (T := TX0) (N := 12) hx hb hts (by decide +kernel) tyX0 tyX0_ok nmX0 hown hK hP hD hS 0 rfl rfl 0 (by decide) (hts (.fieldLink RX0 16 "Underpaint$Act" "letter" "I") (by decide +kernel)) (fun _ h9 => h9) rfl hin rfl (by decide +kernel) rfl rfl (Nat.le_of_ble_eq_true rfl) dX0_init_17 (fun H locs hP hD hS => ?_)
  have hP : va_P (dC, dI) vwCl [(ac, .inr (6, [.int w, .null, .int 0, .int 0, .int 0, .int 0, .int 0, .int 0, .int 0, .int 0, .int 0, .ref q_1])), (q_1, .inr (9, [.ref lh_3, .ref ld_4, .int 0])), (lh_3, .inl (kI_5, 8, .inl (fun _ => 0))), (ld_4, .inl (kI_5, 8, .inl (fun _ => 0)))] H := hP
  have hD : va_D A [(ac, .inr (6, [.int w, .null, .int 0, .int 0, .int 0, .int 0, .int 0, .int 0, .int 0, .int 0, .int 0, .ref q_1])), (q_1, .inr (9, [.ref lh_3, .ref ld_4, .int 0])), (lh_3, .inl (kI_5, 8, .inl (fun _ => 0))), (ld_4, .inl (kI_5, 8, .inl (fun _ => 0)))] := hD
  have hR : va_P (dC, dI) vwCl [] H := fun k q h => by simp at h
  refine lv_aload_n hx hb dX0_init_20 rfl (lv_at hl 0 rfl) ?_
  refine lv_aload_n hx hb dX0_init_21 rfl (lv_at hl 2 rfl) ?_
  refine va_putF (D := (dC, dI)) (ci := 6) (v := .ref sf) (ty := .object "Underpaint$Stuff") (C := RX0) (T := TX0) (N := 12) hx hb hts (by decide +kernel) tyX0 tyX0_ok nmX0 hown hK hP hD hS 0 rfl rfl 1 (by decide) (hts (.fieldLink RX0 20 "Underpaint$Act" "stuff" "LUnderpaint$Stuff;") (by decide +kernel)) (fun _ h9 => h9) rfl hin rfl (by decide +kernel) rfl rfl (Nat.le_of_ble_eq_true rfl) dX0_init_22 (fun H locs hP hD hS => ?_)
  have hP : va_P (dC, dI) vwCl [(ac, .inr (6, [.int w, .ref sf, .int 0, .int 0, .int 0, .int 0, .int 0, .int 0, .int 0, .int 0, .int 0, .ref q_1])), (q_1, .inr (9, [.ref lh_3, .ref ld_4, .int 0])), (lh_3, .inl (kI_5, 8, .inl (fun _ => 0))), (ld_4, .inl (kI_5, 8, .inl (fun _ => 0)))] H := hP
  have hD : va_D A [(ac, .inr (6, [.int w, .ref sf, .int 0, .int 0, .int 0, .int 0, .int 0, .int 0, .int 0, .int 0, .int 0, .ref q_1])), (q_1, .inr (9, [.ref lh_3, .ref ld_4, .int 0])), (lh_3, .inl (kI_5, 8, .inl (fun _ => 0))), (ld_4, .inl (kI_5, 8, .inl (fun _ => 0)))] := hD
  have hR : va_P (dC, dI) vwCl [] H := fun k q h => by simp at h
  refine lv_aload_n hx hb dX0_init_25 rfl (lv_at hl 0 rfl) ?_
  refine lv_iload_n hx hb dX0_init_26 rfl (lv_at hl 3 rfl) ?_
  refine va_putF (D := (dC, dI)) (ci := 6) (v := .int am) (ty := .int) (C := RX0) (T := TX0) (N := 12) hx hb hts (by decide +kernel) tyX0 tyX0_ok nmX0 hown hK hP hD hS 0 rfl rfl 2 (by decide) (hts (.fieldLink RX0 24 "Underpaint$Act" "amount" "I") (by decide +kernel)) (fun _ h9 => h9) rfl hin rfl (by decide +kernel) rfl rfl (Nat.le_of_ble_eq_true rfl) dX0_init_27 (fun H locs hP hD hS => ?_)
  have hP : va_P (dC, dI) vwCl [(ac, .inr (6, [.int w, .ref sf, .int am, .int 0, .int 0, .int 0, .int 0, .int 0, .int 0, .int 0, .int 0, .ref q_1])), (q_1, .inr (9, [.ref lh_3, .ref ld_4, .int 0])), (lh_3, .inl (kI_5, 8, .inl (fun _ => 0))), (ld_4, .inl (kI_5, 8, .inl (fun _ => 0)))] H := hP
  have hD : va_D A [(ac, .inr (6, [.int w, .ref sf, .int am, .int 0, .int 0, .int 0, .int 0, .int 0, .int 0, .int 0, .int 0, .ref q_1])), (q_1, .inr (9, [.ref lh_3, .ref ld_4, .int 0])), (lh_3, .inl (kI_5, 8, .inl (fun _ => 0))), (ld_4, .inl (kI_5, 8, .inl (fun _ => 0)))] := hD
  have hR : va_P (dC, dI) vwCl [] H := fun k q h => by simp at h
  refine lv_aload_n hx hb dX0_init_30 rfl (lv_at hl 0 rfl) ?_
  refine lv_iload hx hb dX0_init_31 (lv_at hl 4 rfl) ?_
  refine va_putF (D := (dC, dI)) (ci := 6) (v := .int le) (ty := .int) (C := RX0) (T := TX0) (N := 12) hx hb hts (by decide +kernel) tyX0 tyX0_ok nmX0 hown hK hP hD hS 0 rfl rfl 3 (by decide) (hts (.fieldLink RX0 27 "Underpaint$Act" "left" "I") (by decide +kernel)) (fun _ h9 => h9) rfl hin rfl (by decide +kernel) rfl rfl (Nat.le_of_ble_eq_true rfl) dX0_init_33 (fun H locs hP hD hS => ?_)
  have hP : va_P (dC, dI) vwCl [(ac, .inr (6, [.int w, .ref sf, .int am, .int le, .int 0, .int 0, .int 0, .int 0, .int 0, .int 0, .int 0, .ref q_1])), (q_1, .inr (9, [.ref lh_3, .ref ld_4, .int 0])), (lh_3, .inl (kI_5, 8, .inl (fun _ => 0))), (ld_4, .inl (kI_5, 8, .inl (fun _ => 0)))] H := hP
  have hD : va_D A [(ac, .inr (6, [.int w, .ref sf, .int am, .int le, .int 0, .int 0, .int 0, .int 0, .int 0, .int 0, .int 0, .ref q_1])), (q_1, .inr (9, [.ref lh_3, .ref ld_4, .int 0])), (lh_3, .inl (kI_5, 8, .inl (fun _ => 0))), (ld_4, .inl (kI_5, 8, .inl (fun _ => 0)))] := hD
  have hR : va_P (dC, dI) vwCl [] H := fun k q h => by simp at h
  refine lv_aload_n hx hb dX0_init_36 rfl (lv_at hl 0 rfl) ?_
  refine lv_iload hx hb dX0_init_37 (lv_at hl 5 rfl) ?_
  refine va_putF (D := (dC, dI)) (ci := 6) (v := .int to) (ty := .int) (C := RX0) (T := TX0) (N := 12) hx hb hts (by decide +kernel) tyX0 tyX0_ok nmX0 hown hK hP hD hS 0 rfl rfl 4 (by decide) (hts (.fieldLink RX0 30 "Underpaint$Act" "top" "I") (by decide +kernel)) (fun _ h9 => h9) rfl hin rfl (by decide +kernel) rfl rfl (Nat.le_of_ble_eq_true rfl) dX0_init_39 (fun H locs hP hD hS => ?_)
  have hP : va_P (dC, dI) vwCl [(ac, .inr (6, [.int w, .ref sf, .int am, .int le, .int to, .int 0, .int 0, .int 0, .int 0, .int 0, .int 0, .ref q_1])), (q_1, .inr (9, [.ref lh_3, .ref ld_4, .int 0])), (lh_3, .inl (kI_5, 8, .inl (fun _ => 0))), (ld_4, .inl (kI_5, 8, .inl (fun _ => 0)))] H := hP
  have hD : va_D A [(ac, .inr (6, [.int w, .ref sf, .int am, .int le, .int to, .int 0, .int 0, .int 0, .int 0, .int 0, .int 0, .ref q_1])), (q_1, .inr (9, [.ref lh_3, .ref ld_4, .int 0])), (lh_3, .inl (kI_5, 8, .inl (fun _ => 0))), (ld_4, .inl (kI_5, 8, .inl (fun _ => 0)))] := hD
  have hR : va_P (dC, dI) vwCl [] H := fun k q h => by simp at h
  refine W.widen (k := 3) (n := 19) (Nat.le_of_ble_eq_true rfl) (Nat.le_of_ble_eq_true rfl) ?_
  exact W.vret hx hb hr (fun t ht hW => ⟨⟨⟨q_1, lh_3, ld_4, kI_5⟩, rfl, trivial, cB.mk ht hW (hP.sub [0, 1, 2, 3] rfl) (hK.sub [0] rfl) (hD.sub [0, 1, 2, 3] (by decide) rfl) (trivial)⟩, hS.F ht⟩) hS.2.2 dX0_init_42
theorem z_c_canBear_y_399   : ((0 : Int32) ≤ 0 ∧ (0 : Int32) < 8) ∧ ((0 : Int32) ≤ 0 ∧ (0 : Int32) < 6) := by first | decide +kernel | grind
theorem z_c_canBear_y_400   : (0 ≤ (0 : Int32) ∧ (0 : Int32) < 8) ∧ (0 ≤ (0 : Int32) ∧ (0 : Int32) < 6) := by first | decide +kernel | grind
def wo_c_canBear_y_w : List Cond := [Cond.fieldLink RX5 76 "Underpaint$Act" "left" "I", Cond.fieldLink RX5 81 "Underpaint$Act" "top" "I", Cond.fieldLink RX5 84 "Underpaint$Act" "letter" "I"]
def wo_c_canBear_y : List Cond := .code yX5_canBear cX5_canBear 3 (some .boolean) :: (wo_c_canBear_y_w ++ (u_ws RX0 TX0 12 ++ (wsV RX5 43 RX5 yX5_at wo_c_at ++ List.nil)))
theorem gw_wo_c_canBear_y : wo_c_canBear_y.all goodWord = true := gw_c (by decide +kernel) (gw_a (by decide +kernel) (gw_a (by decide +kernel) (gw_a (gw_a (by decide +kernel) gw_wo_c_at) rfl)))
theorem go_c_canBear_y_0 : GoodIn wo_c_canBear_y (wsV RX5 43 RX5 yX5_at wo_c_at) := goodIn_sub (fun _ h => List.mem_cons_of_mem _ (List.mem_append_right _ (List.mem_append_right _ (List.mem_append_left _ h)))) (gw_a (by decide +kernel) gw_wo_c_at)
set_option maxHeartbeats 4000000 in
set_option maxRecDepth 100000 in
/-- canBear(years) -/
theorem c_canBear_y (l : Launch) (dC : Nat → ClassId) (dI : Nat → Nat → Nat) (b0 : Nat) (en : EnT) (sz : Nat) (q st sp ll : Nat) (g : Nat → Option Nat) (cS : ClassId) (N : Nat → Prop) (ac sf lo : Nat) (am li da : Int32) (hNb : ∀ a, N a → b0 ≤ a ∧ a < sz) (hNw : ∀ a, N a → a ∉ List.map Prod.fst ([] : va_W)) (hNr : ∀ a, N a → a ∉ List.map Prod.fst ([(q, .inr (11, [.ref st, .ref sp, .ref ll, .int 0, .int 1600])), (st, .inl (cS, 48, .inr (.inr (.inr (.inr g))))), (ac, .inr (6, [.int 121, .ref sf, .int am, .int 0, .int 0, .int 0, .int 0, .int 0, .int 0, .int li, .int da, .ref lo]))] : va_W)) : Met l yX5_canBear wo_c_canBear_y ({ frames := 2, cells := 0, slots := 0, locals := 43 } : Room) (cP b0 en (dC, dI) [(cS, .object "Underpaint$Stack")] [] [(q, .inr (11, [.ref st, .ref sp, .ref ll, .int 0, .int 1600])), (st, .inl (cS, 48, .inr (.inr (.inr (.inr g))))), (ac, .inr (6, [.int 121, .ref sf, .int am, .int 0, .int 0, .int 0, .int 0, .int 0, .int 0, .int li, .int da, .ref lo]))] sz (FamS (dC, dI) N g) [.ref q, .ref ac]) (va_Qi (fun (r : Int32) (_ : Unit) => r = 1) (fun _ _ => True) (va_A [] sz)) 0 0 (va_A [] sz) := by
  refine Met.ofW (cc := cX5_canBear) (maxL := 3) (ret := (some .boolean)) (by decide) rfl ?_
  intro p e s m args below meth c s₁ B hml hv
  obtain ⟨rfl, hsz, hb0, hE, hPP, hK, hDD, hF0⟩ := hv
  have hx := B.exec
  have hb := B.bytes
  have hr := B.returns
  have hts := atoms_spec (ws := wo_c_canBear_y) B.pre
  have hown : s.vm.findClass RX5 = some m.cls := findClass_of_methodNamed B.named
  have hlocks := B.notSynchronized
  subst hsz
  have hN0 := en_N hPP hDD rfl
  have hP : va_P (dC, dI) vwCl [] s.heap := hPP.sub [] rfl
  have hR0 : va_P (dC, dI) vwCl [(q, .inr (11, [.ref st, .ref sp, .ref ll, .int 0, .int 1600])), (st, .inl (cS, 48, .inr (.inr (.inr (.inr g))))), (ac, .inr (6, [.int 121, .ref sf, .int am, .int 0, .int 0, .int 0, .int 0, .int 0, .int 0, .int li, .int da, .ref lo]))] s.heap := hPP.sub [0, 1, 2] rfl
  have hD0 : va_D (fun q => b0 ≤ q) [] := hDD.sub [] (by decide) rfl
  have hDr : va_D (fun q => b0 ≤ q) [(q, .inr (11, [.ref st, .ref sp, .ref ll, .int 0, .int 1600])), (st, .inl (cS, 48, .inr (.inr (.inr (.inr g))))), (ac, .inr (6, [.int 121, .ref sf, .int am, .int 0, .int 0, .int 0, .int 0, .int 0, .int 0, .int li, .int da, .ref lo]))] := hDD.sub [0, 1, 2] (by decide) rfl
  have hAb := en_A (sz := s.heap.size) hD0 hb0
  have hD := hD0.self (sz := s.heap.size)
  generalize hAe : va_A [] s.heap.size = A at hD hAb hN0 ⊢
  have hA : ∀ q : Nat, s.heap.size ≤ q → A q := fun q h => by rw [← hAe]; exact Or.inr h
  have hS : va_S A s.heap s.heap [] := va_S.rf
  have hR := hR0
  have hl := lv_entry [.ref q, .ref ac] (n := 3) (Nat.le_of_ble_eq_true rfl)
  rw [lg_entry_eq]
  generalize (lg_sl [.ref q, .ref ac] ++ List.replicate (3 - (lg_sl [.ref q, .ref ac]).length) Slot.unset).toArray = ls at hl ⊢
  have hl : lv_has ls 3 [(0, .ref q), (1, .ref ac)] := hl
  have hR0b := hR0
  have hDrb := hDr
  have hN0b := hN0
  refine lv_aload_n hx hb dX5_canBear_0 rfl (lv_at hl 0 rfl) ?_
  refine lv_aload_n hx hb dX5_canBear_1 rfl (lv_at hl 1 rfl) ?_
  refine va_get (D := (dC, dI)) (ci := 6) (v := .int 0) (C := RX0) (T := TX0) (N := 12) hx hb hts (by decide +kernel) hown hK hR 2 rfl rfl 3 (by decide) (hts (.fieldLink RX5 76 "Underpaint$Act" "left" "I") (by decide +kernel)) (fun _ h9 => h9) rfl dX5_canBear_2 ?_
  refine lv_aload_n hx hb dX5_canBear_5 rfl (lv_at hl 1 rfl) ?_
  refine va_get (D := (dC, dI)) (ci := 6) (v := .int 0) (C := RX0) (T := TX0) (N := 12) hx hb hts (by decide +kernel) hown hK hR 2 rfl rfl 4 (by decide) (hts (.fieldLink RX5 81 "Underpaint$Act" "top" "I") (by decide +kernel)) (fun _ h9 => h9) rfl dX5_canBear_6 ?_
  have hPc := (hP.app hR).sub (ws' := [] ++ [(q, .inr (11, [.ref st, .ref sp, .ref ll, .int 0, .int 1600])), (st, .inl (cS, 48, .inr (.inr (.inr (.inr g)))))]) [0, 1] rfl
  have hDc := (en_DD hD hDr hN0 hAb).sub (ws' := [] ++ [(q, .inr (11, [.ref st, .ref sp, .ref ll, .int 0, .int 1600])), (st, .inl (cS, 48, .inr (.inr (.inr (.inr g)))))]) [0, 1] (by decide) rfl
  have hKc := hK.sub (tys' := [(cS, .object "Underpaint$Stack")]) [0] rfl
  have hFc := va_free (wc := []) hD hS hA [] rfl
  refine va_callq (va_runV (As := [.int 0, .int 0]) (rest := []) ⟨hx, hb, hml, hown, hts⟩ (c_at l dC dI b0 en s.heap.size q st sp ll 0 0 g cS (z_c_canBear_y_399)) (cwV 2 hts go_c_canBear_y_0 rfl rfl rfl (by decide +kernel) ⟨Nat.le_of_ble_eq_true rfl, Nat.le_of_ble_eq_true rfl⟩) ⟨cP.blind, va_recv hK hR (ci := 11) (q0 := 0) rfl rfl, cP.use (en_z hb0 hS) (hE.on hAb hS) hPc hKc hDc trivial⟩ rfl rfl hl.1 rfl (lv_room (Nat.le_of_ble_eq_true rfl)) dX5_canBear_9 ⟨Nat.le_of_ble_eq_true rfl, Nat.le_of_ble_eq_true rfl⟩) hS (fun q _ h => hFc q h) hFc (fun r_1 u t H1 locs ht hvm hw hB hz1 hk1 hS => ?_)
  have hP1 : va_P (dC, dI) vwCl [] H1 := fun k q h => by simp at h
  have hD1 : va_D (va_A [] s.heap.size) [] := ⟨fun i j p q h => by simp at h, fun k q h => by simp at h⟩
  try dsimp only at hw
  obtain ⟨hP, hD⟩ := va_join (wr := []) (w1 := []) hP hD [] [] rfl rfl (by decide) (by decide) hk1 hFc hP1 hD1
  generalize H1 = H at hP hS ⊢
  have hP : va_P (dC, dI) vwCl [] H := hP
  have hD : va_D A [] := hD
  have hR := en_R hR0 hN0 hS
  refine W.widen (k := 0) (n := 0) (Nat.le_of_ble_eq_true rfl) (Nat.le_of_ble_eq_true rfl) ?_
  subst r_1
  obtain ⟨ap_2, rp_2, hgp_2, hup_2, hnp_2⟩ := hF0 (pidx (0 : Int32) (0 : Int32)) (pidx_lt (z_c_canBear_y_400))
  refine lv_topv (w := .ref ap_2) (by rw [hgp_2]; rfl) ?_
  have hxp_2 : ¬ A ap_2 := by rw [← hAe]; exact vA0 hup_2.lt
  refine lv_astore_n (lv' := [(2, .ref ap_2), (0, .ref q), (1, .ref ac)]) hx hb dX5_canBear_12 rfl hl (by decide) rfl (fun ls hl => ?_)
  refine lv_aload_n hx hb dX5_canBear_13 rfl (lv_at hl 2 rfl) ?_
  refine va_get (D := (dC, dI)) (ci := 6) (v := .int 121) (C := RX0) (T := TX0) (N := 12) hx hb hts (by decide +kernel) hown hK hR 2 rfl rfl 0 (by decide) (hts (.fieldLink RX5 84 "Underpaint$Act" "letter" "I") (by decide +kernel)) (fun _ h9 => h9) rfl dX5_canBear_14 ?_
  refine lv_tableOut (tgt := 164) hx hb dX5_canBear_17 (by decide) (by decide) ?_
  refine lv_iconst (v := 1) hx hb dX5_canBear_164 (by decide) ?_
  refine W.widen (k := 0) (n := 0) (Nat.le_of_ble_eq_true rfl) (Nat.le_of_ble_eq_true rfl) ?_
  exact W.zret (v := 1) hx hb hr (by first | rfl | decide +kernel) (fun t ht hW => ⟨⟨1, (), rfl, (z_c_X6_add_b_353), trivial⟩, hS.F ht⟩) hS.2.2 dX5_canBear_165
theorem z_c_canBear_s_401 (le : Int32) (to : Int32) (a_0 : (0 ≤ le ∧ le < 8) ∧ (0 ≤ to ∧ to < 6)) : ((0 : Int32) ≤ le ∧ (le : Int32) < 8) ∧ ((0 : Int32) ≤ to ∧ (to : Int32) < 6) := by grind
theorem z_c_canBear_s_402 (le : Int32) (to : Int32) (a_0 : (0 ≤ le ∧ le < 8) ∧ (0 ≤ to ∧ to < 6)) : (0 ≤ le ∧ le < 8) ∧ (0 ≤ to ∧ to < 6) := by grind
theorem z_c_canBear_s_403 (le : Int32) (to : Int32) (a_0 : (0 ≤ le ∧ le < 8) ∧ (0 ≤ to ∧ to < 6)) : (0 : Int32) = 0 := by grind
def wo_c_canBear_s_w : List Cond := [Cond.fieldLink RX5 76 "Underpaint$Act" "left" "I", Cond.fieldLink RX5 81 "Underpaint$Act" "top" "I", Cond.fieldLink RX5 84 "Underpaint$Act" "letter" "I", Cond.fieldLink RX5 91 "Underpaint$Stack" "size" "I"]
def wo_c_canBear_s : List Cond := .code yX5_canBear cX5_canBear 3 (some .boolean) :: (wo_c_canBear_s_w ++ (u_ws RX0 TX0 12 ++ (u_ws RX8 TX8 3 ++ (wsV RX5 43 RX5 yX5_at wo_c_at ++ List.nil))))
theorem gw_wo_c_canBear_s : wo_c_canBear_s.all goodWord = true := gw_c (by decide +kernel) (gw_a (by decide +kernel) (gw_a (by decide +kernel) (gw_a (by decide +kernel) (gw_a (gw_a (by decide +kernel) gw_wo_c_at) rfl))))
theorem go_c_canBear_s_0 : GoodIn wo_c_canBear_s (wsV RX5 43 RX5 yX5_at wo_c_at) := goodIn_sub (fun _ h => List.mem_cons_of_mem _ (List.mem_append_right _ (List.mem_append_right _ (List.mem_append_right _ (List.mem_append_left _ h))))) (gw_a (by decide +kernel) gw_wo_c_at)
set_option maxHeartbeats 4000000 in
set_option maxRecDepth 100000 in
/-- canBear(a scratch) -/
theorem c_canBear_s (l : Launch) (dC : Nat → ClassId) (dI : Nat → Nat → Nat) (b0 : Nat) (en : EnT) (sz : Nat) (q st sp ll : Nat) (g : Nat → Option Nat) (cS : ClassId) (N : Nat → Prop) (ac sf lo : Nat) (am li da : Int32) (le to : Int32) (hlt : (0 ≤ le ∧ le < 8) ∧ (0 ≤ to ∧ to < 6)) (hNb : ∀ a, N a → b0 ≤ a ∧ a < sz) (hNw : ∀ a, N a → a ∉ List.map Prod.fst ([] : va_W)) (hNr : ∀ a, N a → a ∉ List.map Prod.fst ([(q, .inr (11, [.ref st, .ref sp, .ref ll, .int 0, .int 1600])), (st, .inl (cS, 48, .inr (.inr (.inr (.inr g))))), (ac, .inr (6, [.int 115, .ref sf, .int am, .int le, .int to, .int 0, .int 0, .int 0, .int 0, .int li, .int da, .ref lo]))] : va_W)) : Met l yX5_canBear wo_c_canBear_s ({ frames := 2, cells := 0, slots := 0, locals := 43 } : Room) (cP b0 en (dC, dI) [(cS, .object "Underpaint$Stack")] [] [(q, .inr (11, [.ref st, .ref sp, .ref ll, .int 0, .int 1600])), (st, .inl (cS, 48, .inr (.inr (.inr (.inr g))))), (ac, .inr (6, [.int 115, .ref sf, .int am, .int le, .int to, .int 0, .int 0, .int 0, .int 0, .int li, .int da, .ref lo]))] sz (FamS (dC, dI) N g) [.ref q, .ref ac]) (va_Qi (fun (r : Int32) (_ : Unit) => r = 0) (fun _ _ => True) (va_A [] sz)) 0 0 (va_A [] sz) := by
  refine Met.ofW (cc := cX5_canBear) (maxL := 3) (ret := (some .boolean)) (by decide) rfl ?_
  intro p e s m args below meth c s₁ B hml hv
  obtain ⟨rfl, hsz, hb0, hE, hPP, hK, hDD, hF0⟩ := hv
  have hx := B.exec
  have hb := B.bytes
  have hr := B.returns
  have hts := atoms_spec (ws := wo_c_canBear_s) B.pre
  have hown : s.vm.findClass RX5 = some m.cls := findClass_of_methodNamed B.named
  have hlocks := B.notSynchronized
  subst hsz
  have hN0 := en_N hPP hDD rfl
  have hP : va_P (dC, dI) vwCl [] s.heap := hPP.sub [] rfl
  have hR0 : va_P (dC, dI) vwCl [(q, .inr (11, [.ref st, .ref sp, .ref ll, .int 0, .int 1600])), (st, .inl (cS, 48, .inr (.inr (.inr (.inr g))))), (ac, .inr (6, [.int 115, .ref sf, .int am, .int le, .int to, .int 0, .int 0, .int 0, .int 0, .int li, .int da, .ref lo]))] s.heap := hPP.sub [0, 1, 2] rfl
  have hD0 : va_D (fun q => b0 ≤ q) [] := hDD.sub [] (by decide) rfl
  have hDr : va_D (fun q => b0 ≤ q) [(q, .inr (11, [.ref st, .ref sp, .ref ll, .int 0, .int 1600])), (st, .inl (cS, 48, .inr (.inr (.inr (.inr g))))), (ac, .inr (6, [.int 115, .ref sf, .int am, .int le, .int to, .int 0, .int 0, .int 0, .int 0, .int li, .int da, .ref lo]))] := hDD.sub [0, 1, 2] (by decide) rfl
  have hAb := en_A (sz := s.heap.size) hD0 hb0
  have hD := hD0.self (sz := s.heap.size)
  generalize hAe : va_A [] s.heap.size = A at hD hAb hN0 ⊢
  have hA : ∀ q : Nat, s.heap.size ≤ q → A q := fun q h => by rw [← hAe]; exact Or.inr h
  have hS : va_S A s.heap s.heap [] := va_S.rf
  have hR := hR0
  have hl := lv_entry [.ref q, .ref ac] (n := 3) (Nat.le_of_ble_eq_true rfl)
  rw [lg_entry_eq]
  generalize (lg_sl [.ref q, .ref ac] ++ List.replicate (3 - (lg_sl [.ref q, .ref ac]).length) Slot.unset).toArray = ls at hl ⊢
  have hl : lv_has ls 3 [(0, .ref q), (1, .ref ac)] := hl
  have hR0b := hR0
  have hDrb := hDr
  have hN0b := hN0
  refine lv_aload_n hx hb dX5_canBear_0 rfl (lv_at hl 0 rfl) ?_
  refine lv_aload_n hx hb dX5_canBear_1 rfl (lv_at hl 1 rfl) ?_
  refine va_get (D := (dC, dI)) (ci := 6) (v := .int le) (C := RX0) (T := TX0) (N := 12) hx hb hts (by decide +kernel) hown hK hR 2 rfl rfl 3 (by decide) (hts (.fieldLink RX5 76 "Underpaint$Act" "left" "I") (by decide +kernel)) (fun _ h9 => h9) rfl dX5_canBear_2 ?_
  refine lv_aload_n hx hb dX5_canBear_5 rfl (lv_at hl 1 rfl) ?_
  refine va_get (D := (dC, dI)) (ci := 6) (v := .int to) (C := RX0) (T := TX0) (N := 12) hx hb hts (by decide +kernel) hown hK hR 2 rfl rfl 4 (by decide) (hts (.fieldLink RX5 81 "Underpaint$Act" "top" "I") (by decide +kernel)) (fun _ h9 => h9) rfl dX5_canBear_6 ?_
  have hPc := (hP.app hR).sub (ws' := [] ++ [(q, .inr (11, [.ref st, .ref sp, .ref ll, .int 0, .int 1600])), (st, .inl (cS, 48, .inr (.inr (.inr (.inr g)))))]) [0, 1] rfl
  have hDc := (en_DD hD hDr hN0 hAb).sub (ws' := [] ++ [(q, .inr (11, [.ref st, .ref sp, .ref ll, .int 0, .int 1600])), (st, .inl (cS, 48, .inr (.inr (.inr (.inr g)))))]) [0, 1] (by decide) rfl
  have hKc := hK.sub (tys' := [(cS, .object "Underpaint$Stack")]) [0] rfl
  have hFc := va_free (wc := []) hD hS hA [] rfl
  refine va_callq (va_runV (As := [.int le, .int to]) (rest := []) ⟨hx, hb, hml, hown, hts⟩ (c_at l dC dI b0 en s.heap.size q st sp ll le to g cS (z_c_canBear_s_401 le to hlt)) (cwV 2 hts go_c_canBear_s_0 rfl rfl rfl (by decide +kernel) ⟨Nat.le_of_ble_eq_true rfl, Nat.le_of_ble_eq_true rfl⟩) ⟨cP.blind, va_recv hK hR (ci := 11) (q0 := 0) rfl rfl, cP.use (en_z hb0 hS) (hE.on hAb hS) hPc hKc hDc trivial⟩ rfl rfl hl.1 rfl (lv_room (Nat.le_of_ble_eq_true rfl)) dX5_canBear_9 ⟨Nat.le_of_ble_eq_true rfl, Nat.le_of_ble_eq_true rfl⟩) hS (fun q _ h => hFc q h) hFc (fun r_1 u t H1 locs ht hvm hw hB hz1 hk1 hS => ?_)
  have hP1 : va_P (dC, dI) vwCl [] H1 := fun k q h => by simp at h
  have hD1 : va_D (va_A [] s.heap.size) [] := ⟨fun i j p q h => by simp at h, fun k q h => by simp at h⟩
  try dsimp only at hw
  obtain ⟨hP, hD⟩ := va_join (wr := []) (w1 := []) hP hD [] [] rfl rfl (by decide) (by decide) hk1 hFc hP1 hD1
  generalize H1 = H at hP hS ⊢
  have hP : va_P (dC, dI) vwCl [] H := hP
  have hD : va_D A [] := hD
  have hR := en_R hR0 hN0 hS
  refine W.widen (k := 0) (n := 0) (Nat.le_of_ble_eq_true rfl) (Nat.le_of_ble_eq_true rfl) ?_
  subst r_1
  obtain ⟨ap_2, rp_2, hgp_2, hup_2, hnp_2⟩ := hF0 (pidx le to) (pidx_lt (z_c_canBear_s_402 le to hlt))
  refine lv_topv (w := .ref ap_2) (by rw [hgp_2]; rfl) ?_
  have hxp_2 : ¬ A ap_2 := by rw [← hAe]; exact vA0 hup_2.lt
  refine lv_astore_n (lv' := [(2, .ref ap_2), (0, .ref q), (1, .ref ac)]) hx hb dX5_canBear_12 rfl hl (by decide) rfl (fun ls hl => ?_)
  refine lv_aload_n hx hb dX5_canBear_13 rfl (lv_at hl 2 rfl) ?_
  refine va_get (D := (dC, dI)) (ci := 6) (v := .int 115) (C := RX0) (T := TX0) (N := 12) hx hb hts (by decide +kernel) hown hK hR 2 rfl rfl 0 (by decide) (hts (.fieldLink RX5 84 "Underpaint$Act" "letter" "I") (by decide +kernel)) (fun _ h9 => h9) rfl dX5_canBear_14 ?_
  refine lv_tableIn (off := 77) (tgt := 94) hx hb dX5_canBear_17 (by decide) (by decide) (by decide) (by decide) ?_
  refine lv_aload_n hx hb dX5_canBear_94 rfl (lv_at hl 0 rfl) ?_
  have hfa := va1 (hup_2.kept (hS.2.1 _ hup_2.lt hxp_2))
  refine va_get (D := (dC, dI)) (ci := 14) (v := .int 0) (C := RX8) (T := TX8) (N := 3) hx hb hts (by decide +kernel) hown hK hfa 0 rfl rfl 1 (by decide) (hts (.fieldLink RX5 91 "Underpaint$Stack" "size" "I") (by decide +kernel)) (fun _ h9 => h9) rfl dX5_canBear_95 ?_
  refine lv_if_le (tgt := 105) hx hb dX5_canBear_98 (by decide) (fun c_3 => ?_) (fun c_3 => absurd c_3 (by decide))
  refine lv_iconst (v := 0) hx hb dX5_canBear_105 (by decide) ?_
  refine W.widen (k := 0) (n := 0) (Nat.le_of_ble_eq_true rfl) (Nat.le_of_ble_eq_true rfl) ?_
  exact W.zret (v := 0) hx hb hr (by first | rfl | decide +kernel) (fun t ht hW => ⟨⟨0, (), rfl, (z_c_canBear_s_403 le to hlt), trivial⟩, hS.F ht⟩) hS.2.2 dX5_canBear_106

def wo_c_canBear_o_w : List Cond := [Cond.fieldLink RX5 76 "Underpaint$Act" "left" "I", Cond.fieldLink RX5 81 "Underpaint$Act" "top" "I", Cond.fieldLink RX5 84 "Underpaint$Act" "letter" "I", Cond.fieldLink RX5 101 "Underpaint$Act" "loan" "LUnderpaint$Loan;", Cond.fieldLink RX5 105 "Underpaint$Loan" "size" "I"]
def wo_c_canBear_o : List Cond := .code yX5_canBear cX5_canBear 3 (some .boolean) :: (wo_c_canBear_o_w ++ (u_ws RX0 TX0 12 ++ (u_ws RX3 TX3 3 ++ (wsV RX5 43 RX5 yX5_at wo_c_at ++ List.nil))))
theorem gw_wo_c_canBear_o : wo_c_canBear_o.all goodWord = true := gw_c (by decide +kernel) (gw_a (by decide +kernel) (gw_a (by decide +kernel) (gw_a (by decide +kernel) (gw_a (gw_a (by decide +kernel) gw_wo_c_at) rfl))))
theorem go_c_canBear_o_0 : GoodIn wo_c_canBear_o (wsV RX5 43 RX5 yX5_at wo_c_at) := goodIn_sub (fun _ h => List.mem_cons_of_mem _ (List.mem_append_right _ (List.mem_append_right _ (List.mem_append_right _ (List.mem_append_left _ h))))) (gw_a (by decide +kernel) gw_wo_c_at)
set_option maxHeartbeats 4000000 in
set_option maxRecDepth 100000 in
/-- canBear(a loan without legs) -/
theorem c_canBear_o (l : Launch) (dC : Nat → ClassId) (dI : Nat → Nat → Nat) (b0 : Nat) (en : EnT) (sz : Nat) (q st sp ll : Nat) (g : Nat → Option Nat) (cS : ClassId) (N : Nat → Prop) (ac sf lo : Nat) (am li da : Int32) (lh ld : Nat) (hNb : ∀ a, N a → b0 ≤ a ∧ a < sz) (hNw : ∀ a, N a → a ∉ List.map Prod.fst ([] : va_W)) (hNr : ∀ a, N a → a ∉ List.map Prod.fst ([(q, .inr (11, [.ref st, .ref sp, .ref ll, .int 0, .int 1600])), (st, .inl (cS, 48, .inr (.inr (.inr (.inr g))))), (ac, .inr (6, [.int 111, .ref sf, .int am, .int 0, .int 0, .int 0, .int 0, .int 0, .int 0, .int li, .int da, .ref lo])), (lo, .inr (9, [.ref lh, .ref ld, .int 0]))] : va_W)) : Met l yX5_canBear wo_c_canBear_o ({ frames := 2, cells := 0, slots := 0, locals := 43 } : Room) (cP b0 en (dC, dI) [(cS, .object "Underpaint$Stack")] [] [(q, .inr (11, [.ref st, .ref sp, .ref ll, .int 0, .int 1600])), (st, .inl (cS, 48, .inr (.inr (.inr (.inr g))))), (ac, .inr (6, [.int 111, .ref sf, .int am, .int 0, .int 0, .int 0, .int 0, .int 0, .int 0, .int li, .int da, .ref lo])), (lo, .inr (9, [.ref lh, .ref ld, .int 0]))] sz (FamS (dC, dI) N g) [.ref q, .ref ac]) (va_Qi (fun (r : Int32) (_ : Unit) => r = 0) (fun _ _ => True) (va_A [] sz)) 0 0 (va_A [] sz) := by
  refine Met.ofW (cc := cX5_canBear) (maxL := 3) (ret := (some .boolean)) (by decide) rfl ?_
  intro p e s m args below meth c s₁ B hml hv
  obtain ⟨rfl, hsz, hb0, hE, hPP, hK, hDD, hF0⟩ := hv
  have hx := B.exec
  have hb := B.bytes
  have hr := B.returns
  have hts := atoms_spec (ws := wo_c_canBear_o) B.pre
  have hown : s.vm.findClass RX5 = some m.cls := findClass_of_methodNamed B.named
  have hlocks := B.notSynchronized
  subst hsz
  have hN0 := en_N hPP hDD rfl
  have hP : va_P (dC, dI) vwCl [] s.heap := hPP.sub [] rfl
  have hR0 : va_P (dC, dI) vwCl [(q, .inr (11, [.ref st, .ref sp, .ref ll, .int 0, .int 1600])), (st, .inl (cS, 48, .inr (.inr (.inr (.inr g))))), (ac, .inr (6, [.int 111, .ref sf, .int am, .int 0, .int 0, .int 0, .int 0, .int 0, .int 0, .int li, .int da, .ref lo])), (lo, .inr (9, [.ref lh, .ref ld, .int 0]))] s.heap := hPP.sub [0, 1, 2, 3] rfl
  have hD0 : va_D (fun q => b0 ≤ q) [] := hDD.sub [] (by decide) rfl
  have hDr : va_D (fun q => b0 ≤ q) [(q, .inr (11, [.ref st, .ref sp, .ref ll, .int 0, .int 1600])), (st, .inl (cS, 48, .inr (.inr (.inr (.inr g))))), (ac, .inr (6, [.int 111, .ref sf, .int am, .int 0, .int 0, .int 0, .int 0, .int 0, .int 0, .int li, .int da, .ref lo])), (lo, .inr (9, [.ref lh, .ref ld, .int 0]))] := hDD.sub [0, 1, 2, 3] (by decide) rfl
  have hAb := en_A (sz := s.heap.size) hD0 hb0
  have hD := hD0.self (sz := s.heap.size)
  generalize hAe : va_A [] s.heap.size = A at hD hAb hN0 ⊢
  have hA : ∀ q : Nat, s.heap.size ≤ q → A q := fun q h => by rw [← hAe]; exact Or.inr h
  have hS : va_S A s.heap s.heap [] := va_S.rf
  have hR := hR0
  have hl := lv_entry [.ref q, .ref ac] (n := 3) (Nat.le_of_ble_eq_true rfl)
  rw [lg_entry_eq]
  generalize (lg_sl [.ref q, .ref ac] ++ List.replicate (3 - (lg_sl [.ref q, .ref ac]).length) Slot.unset).toArray = ls at hl ⊢
  have hl : lv_has ls 3 [(0, .ref q), (1, .ref ac)] := hl
  have hR0b := hR0
  have hDrb := hDr
  have hN0b := hN0
  refine lv_aload_n hx hb dX5_canBear_0 rfl (lv_at hl 0 rfl) ?_
  refine lv_aload_n hx hb dX5_canBear_1 rfl (lv_at hl 1 rfl) ?_
  refine va_get (D := (dC, dI)) (ci := 6) (v := .int 0) (C := RX0) (T := TX0) (N := 12) hx hb hts (by decide +kernel) hown hK hR 2 rfl rfl 3 (by decide) (hts (.fieldLink RX5 76 "Underpaint$Act" "left" "I") (by decide +kernel)) (fun _ h9 => h9) rfl dX5_canBear_2 ?_
  refine lv_aload_n hx hb dX5_canBear_5 rfl (lv_at hl 1 rfl) ?_
  refine va_get (D := (dC, dI)) (ci := 6) (v := .int 0) (C := RX0) (T := TX0) (N := 12) hx hb hts (by decide +kernel) hown hK hR 2 rfl rfl 4 (by decide) (hts (.fieldLink RX5 81 "Underpaint$Act" "top" "I") (by decide +kernel)) (fun _ h9 => h9) rfl dX5_canBear_6 ?_
  have hPc := (hP.app hR).sub (ws' := [] ++ [(q, .inr (11, [.ref st, .ref sp, .ref ll, .int 0, .int 1600])), (st, .inl (cS, 48, .inr (.inr (.inr (.inr g)))))]) [0, 1] rfl
  have hDc := (en_DD hD hDr hN0 hAb).sub (ws' := [] ++ [(q, .inr (11, [.ref st, .ref sp, .ref ll, .int 0, .int 1600])), (st, .inl (cS, 48, .inr (.inr (.inr (.inr g)))))]) [0, 1] (by decide) rfl
  have hKc := hK.sub (tys' := [(cS, .object "Underpaint$Stack")]) [0] rfl
  have hFc := va_free (wc := []) hD hS hA [] rfl
  refine va_callq (va_runV (As := [.int 0, .int 0]) (rest := []) ⟨hx, hb, hml, hown, hts⟩ (c_at l dC dI b0 en s.heap.size q st sp ll 0 0 g cS (z_c_canBear_y_399)) (cwV 2 hts go_c_canBear_o_0 rfl rfl rfl (by decide +kernel) ⟨Nat.le_of_ble_eq_true rfl, Nat.le_of_ble_eq_true rfl⟩) ⟨cP.blind, va_recv hK hR (ci := 11) (q0 := 0) rfl rfl, cP.use (en_z hb0 hS) (hE.on hAb hS) hPc hKc hDc trivial⟩ rfl rfl hl.1 rfl (lv_room (Nat.le_of_ble_eq_true rfl)) dX5_canBear_9 ⟨Nat.le_of_ble_eq_true rfl, Nat.le_of_ble_eq_true rfl⟩) hS (fun q _ h => hFc q h) hFc (fun r_1 u t H1 locs ht hvm hw hB hz1 hk1 hS => ?_)
  have hP1 : va_P (dC, dI) vwCl [] H1 := fun k q h => by simp at h
  have hD1 : va_D (va_A [] s.heap.size) [] := ⟨fun i j p q h => by simp at h, fun k q h => by simp at h⟩
  try dsimp only at hw
  obtain ⟨hP, hD⟩ := va_join (wr := []) (w1 := []) hP hD [] [] rfl rfl (by decide) (by decide) hk1 hFc hP1 hD1
  generalize H1 = H at hP hS ⊢
  have hP : va_P (dC, dI) vwCl [] H := hP
  have hD : va_D A [] := hD
  have hR := en_R hR0 hN0 hS
  refine W.widen (k := 0) (n := 0) (Nat.le_of_ble_eq_true rfl) (Nat.le_of_ble_eq_true rfl) ?_
  subst r_1
  obtain ⟨ap_2, rp_2, hgp_2, hup_2, hnp_2⟩ := hF0 (pidx (0 : Int32) (0 : Int32)) (pidx_lt (z_c_canBear_y_400))
  refine lv_topv (w := .ref ap_2) (by rw [hgp_2]; rfl) ?_
  have hxp_2 : ¬ A ap_2 := by rw [← hAe]; exact vA0 hup_2.lt
  refine lv_astore_n (lv' := [(2, .ref ap_2), (0, .ref q), (1, .ref ac)]) hx hb dX5_canBear_12 rfl hl (by decide) rfl (fun ls hl => ?_)
  refine lv_aload_n hx hb dX5_canBear_13 rfl (lv_at hl 2 rfl) ?_
  refine va_get (D := (dC, dI)) (ci := 6) (v := .int 111) (C := RX0) (T := TX0) (N := 12) hx hb hts (by decide +kernel) hown hK hR 2 rfl rfl 0 (by decide) (hts (.fieldLink RX5 84 "Underpaint$Act" "letter" "I") (by decide +kernel)) (fun _ h9 => h9) rfl dX5_canBear_14 ?_
  refine lv_tableIn (off := 131) (tgt := 148) hx hb dX5_canBear_17 (by decide) (by decide) (by decide) (by decide) ?_
  refine lv_aload_n hx hb dX5_canBear_148 rfl (lv_at hl 2 rfl) ?_
  refine va_get (D := (dC, dI)) (ci := 6) (v := .ref lo) (C := RX0) (T := TX0) (N := 12) hx hb hts (by decide +kernel) hown hK hR 2 rfl rfl 11 (by decide) (hts (.fieldLink RX5 101 "Underpaint$Act" "loan" "LUnderpaint$Loan;") (by decide +kernel)) (fun _ h9 => h9) rfl dX5_canBear_149 ?_
  refine va_get (D := (dC, dI)) (ci := 9) (v := .int 0) (C := RX3) (T := TX3) (N := 3) hx hb hts (by decide +kernel) hown hK hR 3 rfl rfl 2 (by decide) (hts (.fieldLink RX5 105 "Underpaint$Loan" "size" "I") (by decide +kernel)) (fun _ h9 => h9) rfl dX5_canBear_152 ?_
  refine lv_if_le (tgt := 162) hx hb dX5_canBear_155 (by decide) (fun c_3 => ?_) (fun c_3 => absurd c_3 (by decide))
  refine lv_iconst (v := 0) hx hb dX5_canBear_162 (by decide) ?_
  refine W.widen (k := 0) (n := 0) (Nat.le_of_ble_eq_true rfl) (Nat.le_of_ble_eq_true rfl) ?_
  exact W.zret (v := 0) hx hb hr (by first | rfl | decide +kernel) (fun t ht hW => ⟨⟨0, (), rfl, (z_c_X14_lends_164), trivial⟩, hS.F ht⟩) hS.2.2 dX5_canBear_163
theorem z_c_canBear_g_404 (le : Int32) (to : Int32) (a_0 : (0 ≤ le ∧ le < 8) ∧ (0 ≤ to ∧ to < 6)) : (1 : Int32) = 1 := by grind
def wo_c_canBear_g_w : List Cond := [Cond.fieldLink RX5 76 "Underpaint$Act" "left" "I", Cond.fieldLink RX5 81 "Underpaint$Act" "top" "I", Cond.fieldLink RX5 84 "Underpaint$Act" "letter" "I"]
def wo_c_canBear_g : List Cond := .code yX5_canBear cX5_canBear 3 (some .boolean) :: (wo_c_canBear_g_w ++ (u_ws RX0 TX0 12 ++ (wsV RX5 43 RX5 yX5_at wo_c_at ++ List.nil)))
theorem gw_wo_c_canBear_g : wo_c_canBear_g.all goodWord = true := gw_c (by decide +kernel) (gw_a (by decide +kernel) (gw_a (by decide +kernel) (gw_a (gw_a (by decide +kernel) gw_wo_c_at) rfl)))
theorem go_c_canBear_g_0 : GoodIn wo_c_canBear_g (wsV RX5 43 RX5 yX5_at wo_c_at) := goodIn_sub (fun _ h => List.mem_cons_of_mem _ (List.mem_append_right _ (List.mem_append_right _ (List.mem_append_left _ h)))) (gw_a (by decide +kernel) gw_wo_c_at)
set_option maxHeartbeats 4000000 in
set_option maxRecDepth 100000 in
/-- canBear(glue) -/
theorem c_canBear_g (l : Launch) (dC : Nat → ClassId) (dI : Nat → Nat → Nat) (b0 : Nat) (en : EnT) (sz : Nat) (q st sp ll a rw : Nat) (g : Nat → Option Nat) (cS : ClassId) (ac sf lo : Nat) (am li da : Int32) (le to : Int32) (hlt : (0 ≤ le ∧ le < 8) ∧ (0 ≤ to ∧ to < 6)) (hga : g (pidx le to) = some a) : Met l yX5_canBear wo_c_canBear_g ({ frames := 2, cells := 0, slots := 0, locals := 43 } : Room) (cP b0 en (dC, dI) [(cS, .object "Underpaint$Stack")] [] [(q, .inr (11, [.ref st, .ref sp, .ref ll, .int 0, .int 1600])), (st, .inl (cS, 48, .inr (.inr (.inr (.inr g))))), (ac, .inr (6, [.int 103, .ref sf, .int am, .int le, .int to, .int 0, .int 0, .int 0, .int 0, .int li, .int da, .ref lo])), (a, .inr (14, [.ref rw, .int 0, .int 0]))] sz (fun _ => True) [.ref q, .ref ac]) (va_Qi (fun (r : Int32) (_ : Unit) => r = 1) (fun _ _ => True) (va_A [] sz)) 0 0 (va_A [] sz) := by
  refine Met.ofW (cc := cX5_canBear) (maxL := 3) (ret := (some .boolean)) (by decide) rfl ?_
  intro p e s m args below meth c s₁ B hml hv
  obtain ⟨rfl, hsz, hb0, hE, hPP, hK, hDD, hF0⟩ := hv
  have hx := B.exec
  have hb := B.bytes
  have hr := B.returns
  have hts := atoms_spec (ws := wo_c_canBear_g) B.pre
  have hown : s.vm.findClass RX5 = some m.cls := findClass_of_methodNamed B.named
  have hlocks := B.notSynchronized
  subst hsz
  have hN0 := en_N hPP hDD rfl
  have hP : va_P (dC, dI) vwCl [] s.heap := hPP.sub [] rfl
  have hR0 : va_P (dC, dI) vwCl [(q, .inr (11, [.ref st, .ref sp, .ref ll, .int 0, .int 1600])), (st, .inl (cS, 48, .inr (.inr (.inr (.inr g))))), (ac, .inr (6, [.int 103, .ref sf, .int am, .int le, .int to, .int 0, .int 0, .int 0, .int 0, .int li, .int da, .ref lo])), (a, .inr (14, [.ref rw, .int 0, .int 0]))] s.heap := hPP.sub [0, 1, 2, 3] rfl
  have hD0 : va_D (fun q => b0 ≤ q) [] := hDD.sub [] (by decide) rfl
  have hDr : va_D (fun q => b0 ≤ q) [(q, .inr (11, [.ref st, .ref sp, .ref ll, .int 0, .int 1600])), (st, .inl (cS, 48, .inr (.inr (.inr (.inr g))))), (ac, .inr (6, [.int 103, .ref sf, .int am, .int le, .int to, .int 0, .int 0, .int 0, .int 0, .int li, .int da, .ref lo])), (a, .inr (14, [.ref rw, .int 0, .int 0]))] := hDD.sub [0, 1, 2, 3] (by decide) rfl
  have hAb := en_A (sz := s.heap.size) hD0 hb0
  have hD := hD0.self (sz := s.heap.size)
  generalize hAe : va_A [] s.heap.size = A at hD hAb hN0 ⊢
  have hA : ∀ q : Nat, s.heap.size ≤ q → A q := fun q h => by rw [← hAe]; exact Or.inr h
  have hS : va_S A s.heap s.heap [] := va_S.rf
  have hR := hR0
  have hl := lv_entry [.ref q, .ref ac] (n := 3) (Nat.le_of_ble_eq_true rfl)
  rw [lg_entry_eq]
  generalize (lg_sl [.ref q, .ref ac] ++ List.replicate (3 - (lg_sl [.ref q, .ref ac]).length) Slot.unset).toArray = ls at hl ⊢
  have hl : lv_has ls 3 [(0, .ref q), (1, .ref ac)] := hl
  refine lv_aload_n hx hb dX5_canBear_0 rfl (lv_at hl 0 rfl) ?_
  refine lv_aload_n hx hb dX5_canBear_1 rfl (lv_at hl 1 rfl) ?_
  refine va_get (D := (dC, dI)) (ci := 6) (v := .int le) (C := RX0) (T := TX0) (N := 12) hx hb hts (by decide +kernel) hown hK hR 2 rfl rfl 3 (by decide) (hts (.fieldLink RX5 76 "Underpaint$Act" "left" "I") (by decide +kernel)) (fun _ h9 => h9) rfl dX5_canBear_2 ?_
  refine lv_aload_n hx hb dX5_canBear_5 rfl (lv_at hl 1 rfl) ?_
  refine va_get (D := (dC, dI)) (ci := 6) (v := .int to) (C := RX0) (T := TX0) (N := 12) hx hb hts (by decide +kernel) hown hK hR 2 rfl rfl 4 (by decide) (hts (.fieldLink RX5 81 "Underpaint$Act" "top" "I") (by decide +kernel)) (fun _ h9 => h9) rfl dX5_canBear_6 ?_
  have hPc := (hP.app hR).sub (ws' := [] ++ [(q, .inr (11, [.ref st, .ref sp, .ref ll, .int 0, .int 1600])), (st, .inl (cS, 48, .inr (.inr (.inr (.inr g)))))]) [0, 1] rfl
  have hDc := (en_DD hD hDr hN0 hAb).sub (ws' := [] ++ [(q, .inr (11, [.ref st, .ref sp, .ref ll, .int 0, .int 1600])), (st, .inl (cS, 48, .inr (.inr (.inr (.inr g)))))]) [0, 1] (by decide) rfl
  have hKc := hK.sub (tys' := [(cS, .object "Underpaint$Stack")]) [0] rfl
  have hFc := va_free (wc := []) hD hS hA [] rfl
  refine va_callq (va_runV (As := [.int le, .int to]) (rest := []) ⟨hx, hb, hml, hown, hts⟩ (c_at l dC dI b0 en s.heap.size q st sp ll le to g cS (z_c_canBear_s_401 le to hlt)) (cwV 2 hts go_c_canBear_g_0 rfl rfl rfl (by decide +kernel) ⟨Nat.le_of_ble_eq_true rfl, Nat.le_of_ble_eq_true rfl⟩) ⟨cP.blind, va_recv hK hR (ci := 11) (q0 := 0) rfl rfl, cP.use (en_z hb0 hS) (hE.on hAb hS) hPc hKc hDc trivial⟩ rfl rfl hl.1 rfl (lv_room (Nat.le_of_ble_eq_true rfl)) dX5_canBear_9 ⟨Nat.le_of_ble_eq_true rfl, Nat.le_of_ble_eq_true rfl⟩) hS (fun q _ h => hFc q h) hFc (fun r_1 u t H1 locs ht hvm hw hB hz1 hk1 hS => ?_)
  have hP1 : va_P (dC, dI) vwCl [] H1 := fun k q h => by simp at h
  have hD1 : va_D (va_A [] s.heap.size) [] := ⟨fun i j p q h => by simp at h, fun k q h => by simp at h⟩
  try dsimp only at hw
  obtain ⟨hP, hD⟩ := va_join (wr := []) (w1 := []) hP hD [] [] rfl rfl (by decide) (by decide) hk1 hFc hP1 hD1
  generalize H1 = H at hP hS ⊢
  have hP : va_P (dC, dI) vwCl [] H := hP
  have hD : va_D A [] := hD
  have hR := en_R hR0 hN0 hS
  refine W.widen (k := 0) (n := 0) (Nat.le_of_ble_eq_true rfl) (Nat.le_of_ble_eq_true rfl) ?_
  subst r_1
  refine lv_topv (w := .ref a) (by rw [hga]; rfl) ?_
  refine lv_astore_n (lv' := [(2, .ref a), (0, .ref q), (1, .ref ac)]) hx hb dX5_canBear_12 rfl hl (by decide) rfl (fun ls hl => ?_)
  refine lv_aload_n hx hb dX5_canBear_13 rfl (lv_at hl 2 rfl) ?_
  refine va_get (D := (dC, dI)) (ci := 6) (v := .int 103) (C := RX0) (T := TX0) (N := 12) hx hb hts (by decide +kernel) hown hK hR 2 rfl rfl 0 (by decide) (hts (.fieldLink RX5 84 "Underpaint$Act" "letter" "I") (by decide +kernel)) (fun _ h9 => h9) rfl dX5_canBear_14 ?_
  refine lv_tableIn (off := 147) (tgt := 164) hx hb dX5_canBear_17 (by decide) (by decide) (by decide) (by decide) ?_
  refine lv_iconst (v := 1) hx hb dX5_canBear_164 (by decide) ?_
  refine W.widen (k := 0) (n := 0) (Nat.le_of_ble_eq_true rfl) (Nat.le_of_ble_eq_true rfl) ?_
  exact W.zret (v := 1) hx hb hr (by first | rfl | decide +kernel) (fun t ht hW => ⟨⟨1, (), rfl, (z_c_canBear_g_404 le to hlt), trivial⟩, hS.F ht⟩) hS.2.2 dX5_canBear_165

def wo_c_glueDown_w : List Cond := [Cond.fieldLink RX5 76 "Underpaint$Act" "left" "I", Cond.fieldLink RX5 81 "Underpaint$Act" "top" "I", Cond.fieldLink RX5 202 "Underpaint$Stack" "tiredness" "I", Cond.methodLink RX5 70 Lib.Math.max.name, Cond.static Lib.Math.max.name, Cond.initialized "java/lang/Math", Cond.code Lib.Math.max.name Lib.Math.max.code 2 (some .int)]
def wo_c_glueDown : List Cond := .code yX5_glueDown cX5_glueDown 3 (some .int) :: (wo_c_glueDown_w ++ (u_ws RX0 TX0 12 ++ (u_ws RX8 TX8 3 ++ (wsV RX5 43 RX5 yX5_at wo_c_at ++ List.nil))))
theorem gw_wo_c_glueDown : wo_c_glueDown.all goodWord = true := gw_c (by decide +kernel) (gw_a (by decide +kernel) (gw_a (by decide +kernel) (gw_a (by decide +kernel) (gw_a (gw_a (by decide +kernel) gw_wo_c_at) rfl))))
theorem go_c_glueDown_0 : GoodIn wo_c_glueDown (wsV RX5 43 RX5 yX5_at wo_c_at) := goodIn_sub (fun _ h => List.mem_cons_of_mem _ (List.mem_append_right _ (List.mem_append_right _ (List.mem_append_right _ (List.mem_append_left _ h))))) (gw_a (by decide +kernel) gw_wo_c_at)
set_option maxHeartbeats 4000000 in
set_option maxRecDepth 100000 in
/-- glueDown -/
theorem c_glueDown (l : Launch) (dC : Nat → ClassId) (dI : Nat → Nat → Nat) (b0 : Nat) (en : EnT) (sz : Nat) (q st sp ll a rw : Nat) (g : Nat → Option Nat) (cS : ClassId) (ac sf lo : Nat) (am li da : Int32) (le to : Int32) (hlt : (0 ≤ le ∧ le < 8) ∧ (0 ≤ to ∧ to < 6)) (hga : g (pidx le to) = some a) : Met l yX5_glueDown wo_c_glueDown ({ frames := 2, cells := 0, slots := 0, locals := 43 } : Room) (cP b0 en (dC, dI) [(cS, .object "Underpaint$Stack")] [(a, .inr (14, [.ref rw, .int 0, .int 0]))] [(q, .inr (11, [.ref st, .ref sp, .ref ll, .int 0, .int 1600])), (st, .inl (cS, 48, .inr (.inr (.inr (.inr g))))), (ac, .inr (6, [.int 103, .ref sf, .int am, .int le, .int to, .int 0, .int 0, .int 0, .int 0, .int li, .int da, .ref lo]))] sz (fun _ => True) [.ref q, .ref ac]) (va_Qi (fun (r : Int32) (_ : Unit) => r = 0) (fun _ _ => True) (va_A [(a, .inr (14, [.ref rw, .int 0, .int 0]))] sz)) 0 0 (va_A [(a, .inr (14, [.ref rw, .int 0, .int 0]))] sz) := by
  refine Met.ofW (cc := cX5_glueDown) (maxL := 3) (ret := (some .int)) (by decide) rfl ?_
  intro p e s m args below meth c s₁ B hml hv
  obtain ⟨rfl, hsz, hb0, hE, hPP, hK, hDD, hF0⟩ := hv
  have hx := B.exec
  have hb := B.bytes
  have hr := B.returns
  have hts := atoms_spec (ws := wo_c_glueDown) B.pre
  have hown : s.vm.findClass RX5 = some m.cls := findClass_of_methodNamed B.named
  have hlocks := B.notSynchronized
  subst hsz
  have hN0 := en_N hPP hDD rfl
  have hP : va_P (dC, dI) vwCl [(a, .inr (14, [.ref rw, .int 0, .int 0]))] s.heap := hPP.sub [0] rfl
  have hR0 : va_P (dC, dI) vwCl [(q, .inr (11, [.ref st, .ref sp, .ref ll, .int 0, .int 1600])), (st, .inl (cS, 48, .inr (.inr (.inr (.inr g))))), (ac, .inr (6, [.int 103, .ref sf, .int am, .int le, .int to, .int 0, .int 0, .int 0, .int 0, .int li, .int da, .ref lo]))] s.heap := hPP.sub [1, 2, 3] rfl
  have hD0 : va_D (fun q => b0 ≤ q) [(a, .inr (14, [.ref rw, .int 0, .int 0]))] := hDD.sub [0] (by decide) rfl
  have hDr : va_D (fun q => b0 ≤ q) [(q, .inr (11, [.ref st, .ref sp, .ref ll, .int 0, .int 1600])), (st, .inl (cS, 48, .inr (.inr (.inr (.inr g))))), (ac, .inr (6, [.int 103, .ref sf, .int am, .int le, .int to, .int 0, .int 0, .int 0, .int 0, .int li, .int da, .ref lo]))] := hDD.sub [1, 2, 3] (by decide) rfl
  have hAb := en_A (sz := s.heap.size) hD0 hb0
  have hD := hD0.self (sz := s.heap.size)
  generalize hAe : va_A [(a, .inr (14, [.ref rw, .int 0, .int 0]))] s.heap.size = A at hD hAb hN0 ⊢
  have hA : ∀ q : Nat, s.heap.size ≤ q → A q := fun q h => by rw [← hAe]; exact Or.inr h
  have hS : va_S A s.heap s.heap [] := va_S.rf
  have hR := hR0
  have hl := lv_entry [.ref q, .ref ac] (n := 3) (Nat.le_of_ble_eq_true rfl)
  rw [lg_entry_eq]
  generalize (lg_sl [.ref q, .ref ac] ++ List.replicate (3 - (lg_sl [.ref q, .ref ac]).length) Slot.unset).toArray = ls at hl ⊢
  have hl : lv_has ls 3 [(0, .ref q), (1, .ref ac)] := hl
  refine lv_aload_n hx hb dX5_glueDown_0 rfl (lv_at hl 0 rfl) ?_
  refine lv_aload_n hx hb dX5_glueDown_1 rfl (lv_at hl 1 rfl) ?_
  refine va_get (D := (dC, dI)) (ci := 6) (v := .int le) (C := RX0) (T := TX0) (N := 12) hx hb hts (by decide +kernel) hown hK hR 2 rfl rfl 3 (by decide) (hts (.fieldLink RX5 76 "Underpaint$Act" "left" "I") (by decide +kernel)) (fun _ h9 => h9) rfl dX5_glueDown_2 ?_
  refine lv_aload_n hx hb dX5_glueDown_5 rfl (lv_at hl 1 rfl) ?_
  refine va_get (D := (dC, dI)) (ci := 6) (v := .int to) (C := RX0) (T := TX0) (N := 12) hx hb hts (by decide +kernel) hown hK hR 2 rfl rfl 4 (by decide) (hts (.fieldLink RX5 81 "Underpaint$Act" "top" "I") (by decide +kernel)) (fun _ h9 => h9) rfl dX5_glueDown_6 ?_
  have hPc := (hP.app hR).sub (ws' := [] ++ [(q, .inr (11, [.ref st, .ref sp, .ref ll, .int 0, .int 1600])), (st, .inl (cS, 48, .inr (.inr (.inr (.inr g)))))]) [1, 2] rfl
  have hDc := (en_DD hD hDr hN0 hAb).sub (ws' := [] ++ [(q, .inr (11, [.ref st, .ref sp, .ref ll, .int 0, .int 1600])), (st, .inl (cS, 48, .inr (.inr (.inr (.inr g)))))]) [1, 2] (by decide) rfl
  have hKc := hK.sub (tys' := [(cS, .object "Underpaint$Stack")]) [0] rfl
  have hFc := va_free (wc := []) hD hS hA [] rfl
  refine va_callq (va_runV (As := [.int le, .int to]) (rest := []) ⟨hx, hb, hml, hown, hts⟩ (c_at l dC dI b0 en s.heap.size q st sp ll le to g cS (z_c_canBear_s_401 le to hlt)) (cwV 2 hts go_c_glueDown_0 rfl rfl rfl (by decide +kernel) ⟨Nat.le_of_ble_eq_true rfl, Nat.le_of_ble_eq_true rfl⟩) ⟨cP.blind, va_recv hK hR (ci := 11) (q0 := 0) rfl rfl, cP.use (en_z hb0 hS) (hE.on hAb hS) hPc hKc hDc trivial⟩ rfl rfl hl.1 rfl (lv_room (Nat.le_of_ble_eq_true rfl)) dX5_glueDown_9 ⟨Nat.le_of_ble_eq_true rfl, Nat.le_of_ble_eq_true rfl⟩) hS (fun q _ h => hFc q h) hFc (fun r_1 u t H1 locs ht hvm hw hB hz1 hk1 hS => ?_)
  have hP1 : va_P (dC, dI) vwCl [] H1 := fun k q h => by simp at h
  have hD1 : va_D (va_A [] s.heap.size) [] := ⟨fun i j p q h => by simp at h, fun k q h => by simp at h⟩
  try dsimp only at hw
  obtain ⟨hP, hD⟩ := va_join (wr := [(a, .inr (14, [.ref rw, .int 0, .int 0]))]) (w1 := []) hP hD [] [0] rfl rfl (by decide) (by decide) hk1 hFc hP1 hD1
  generalize H1 = H at hP hS ⊢
  have hP : va_P (dC, dI) vwCl [(a, .inr (14, [.ref rw, .int 0, .int 0]))] H := hP
  have hD : va_D A [(a, .inr (14, [.ref rw, .int 0, .int 0]))] := hD
  have hR := en_R hR0 hN0 hS
  refine W.widen (k := 0) (n := 0) (Nat.le_of_ble_eq_true rfl) (Nat.le_of_ble_eq_true rfl) ?_
  subst r_1
  refine lv_topv (w := .ref a) (by rw [hga]; rfl) ?_
  refine lv_astore_n (lv' := [(2, .ref a), (0, .ref q), (1, .ref ac)]) hx hb dX5_glueDown_12 rfl hl (by decide) rfl (fun ls hl => ?_)
  refine lv_aload_n hx hb dX5_glueDown_13 rfl (lv_at hl 0 rfl) ?_
  refine lv_iconst (v := 0) hx hb dX5_glueDown_14 (by decide) ?_
  refine lv_aload_n hx hb dX5_glueDown_15 rfl (lv_at hl 0 rfl) ?_
  refine va_get (D := (dC, dI)) (ci := 14) (v := .int 0) (C := RX8) (T := TX8) (N := 3) hx hb hts (by decide +kernel) hown hK hP 0 rfl rfl 2 (by decide) (hts (.fieldLink RX5 202 "Underpaint$Stack" "tiredness" "I") (by decide +kernel)) (fun _ h9 => h9) rfl dX5_glueDown_16 ?_
  refine lv_bipush (v := 30) hx hb dX5_glueDown_19 (by decide) ?_
  refine lv_isub hx hb dX5_glueDown_21 ?_
  refine lv_topi (fun x_2 ex_2 => ?_)
  obtain rfl : x_2 = (-30) := ex_2.trans (by decide)
  refine va_mmax hx hb (hml.trans hl.1.symm) hown (hts (.methodLink RX5 70 Lib.Math.max.name) (by decide +kernel)) (hts (.static Lib.Math.max.name) (by decide +kernel)) (hts (.initialized "java/lang/Math") (by decide +kernel)) (hts (.code Lib.Math.max.name Lib.Math.max.code 2 (some .int)) (by decide +kernel)) (Nat.le_of_ble_eq_true rfl) (Nat.le_of_ble_eq_true rfl) (Nat.le_of_ble_eq_true rfl) (Nat.le_of_ble_eq_true rfl) dX5_glueDown_22 ?_
  refine lv_topi (fun x_3 ex_3 => ?_)
  obtain rfl : x_3 = 0 := ex_3.trans (by decide)
  refine va_put (D := (dC, dI)) (ci := 14) (v := .int 0) (ty := .int) (C := RX8) (T := TX8) (N := 3) hx hb hts (by decide +kernel) tyX8 tyX8_ok nmX8 hown hK hP hD hS 0 rfl rfl 2 (by decide) (hts (.fieldLink RX5 202 "Underpaint$Stack" "tiredness" "I") (by decide +kernel)) (fun _ h9 => h9) rfl (by decide +kernel) rfl rfl (Nat.le_of_ble_eq_true rfl) dX5_glueDown_25 (fun H locs hP hD hS => ?_)
  have hP : va_P (dC, dI) vwCl [(a, .inr (14, [.ref rw, .int 0, .int 0]))] H := hP
  have hD : va_D A [(a, .inr (14, [.ref rw, .int 0, .int 0]))] := hD
  have hR := en_R hR0 hN0 hS
  refine lv_aload_n hx hb dX5_glueDown_28 rfl (lv_at hl 0 rfl) ?_
  refine va_get (D := (dC, dI)) (ci := 14) (v := .int 0) (C := RX8) (T := TX8) (N := 3) hx hb hts (by decide +kernel) hown hK hP 0 rfl rfl 2 (by decide) (hts (.fieldLink RX5 202 "Underpaint$Stack" "tiredness" "I") (by decide +kernel)) (fun _ h9 => h9) rfl dX5_glueDown_29 ?_
  refine W.widen (k := 0) (n := 0) (Nat.le_of_ble_eq_true rfl) (Nat.le_of_ble_eq_true rfl) ?_
  exact W.iret (v := 0) hx hb hr (fun t ht hW => ⟨⟨0, (), rfl, (z_c_canBear_s_403 le to hlt), trivial⟩, hS.F ht⟩) hS.2.2 dX5_glueDown_32

def wo_c_perform_g_w : List Cond := [Cond.fieldLink RX5 84 "Underpaint$Act" "letter" "I"]
def wo_c_perform_g : List Cond := .code yX5_perform cX5_perform 2 (some .int) :: (wo_c_perform_g_w ++ (u_ws RX0 TX0 12 ++ (wsV RX5 127 RX5 yX5_glueDown wo_c_glueDown ++ List.nil)))
theorem gw_wo_c_perform_g : wo_c_perform_g.all goodWord = true := gw_c (by decide +kernel) (gw_a (by decide +kernel) (gw_a (by decide +kernel) (gw_a (gw_a (by decide +kernel) gw_wo_c_glueDown) rfl)))
theorem go_c_perform_g_0 : GoodIn wo_c_perform_g (wsV RX5 127 RX5 yX5_glueDown wo_c_glueDown) := goodIn_sub (fun _ h => List.mem_cons_of_mem _ (List.mem_append_right _ (List.mem_append_right _ (List.mem_append_left _ h)))) (gw_a (by decide +kernel) gw_wo_c_glueDown)
set_option maxHeartbeats 4000000 in
set_option maxRecDepth 100000 in
/-- perform(glue) -/
theorem c_perform_g (l : Launch) (dC : Nat → ClassId) (dI : Nat → Nat → Nat) (b0 : Nat) (en : EnT) (sz : Nat) (q st sp ll a rw : Nat) (g : Nat → Option Nat) (cS : ClassId) (ac sf lo : Nat) (am li da : Int32) (le to : Int32) (hlt : (0 ≤ le ∧ le < 8) ∧ (0 ≤ to ∧ to < 6)) (hga : g (pidx le to) = some a) : Met l yX5_perform wo_c_perform_g ({ frames := 3, cells := 0, slots := 0, locals := 65 } : Room) (cP b0 en (dC, dI) [(cS, .object "Underpaint$Stack")] [(a, .inr (14, [.ref rw, .int 0, .int 0]))] [(q, .inr (11, [.ref st, .ref sp, .ref ll, .int 0, .int 1600])), (st, .inl (cS, 48, .inr (.inr (.inr (.inr g))))), (ac, .inr (6, [.int 103, .ref sf, .int am, .int le, .int to, .int 0, .int 0, .int 0, .int 0, .int li, .int da, .ref lo]))] sz (fun _ => True) [.ref q, .ref ac]) (va_Qi (fun (r : Int32) (_ : Unit) => r = 0) (fun _ _ => True) (va_A [(a, .inr (14, [.ref rw, .int 0, .int 0]))] sz)) 0 0 (va_A [(a, .inr (14, [.ref rw, .int 0, .int 0]))] sz) := by
  refine Met.ofW (cc := cX5_perform) (maxL := 2) (ret := (some .int)) (by decide) rfl ?_
  intro p e s m args below meth c s₁ B hml hv
  obtain ⟨rfl, hsz, hb0, hE, hPP, hK, hDD, hF0⟩ := hv
  have hx := B.exec
  have hb := B.bytes
  have hr := B.returns
  have hts := atoms_spec (ws := wo_c_perform_g) B.pre
  have hown : s.vm.findClass RX5 = some m.cls := findClass_of_methodNamed B.named
  have hlocks := B.notSynchronized
  subst hsz
  have hN0 := en_N hPP hDD rfl
  have hP : va_P (dC, dI) vwCl [(a, .inr (14, [.ref rw, .int 0, .int 0]))] s.heap := hPP.sub [0] rfl
  have hR0 : va_P (dC, dI) vwCl [(q, .inr (11, [.ref st, .ref sp, .ref ll, .int 0, .int 1600])), (st, .inl (cS, 48, .inr (.inr (.inr (.inr g))))), (ac, .inr (6, [.int 103, .ref sf, .int am, .int le, .int to, .int 0, .int 0, .int 0, .int 0, .int li, .int da, .ref lo]))] s.heap := hPP.sub [1, 2, 3] rfl
  have hD0 : va_D (fun q => b0 ≤ q) [(a, .inr (14, [.ref rw, .int 0, .int 0]))] := hDD.sub [0] (by decide) rfl
  have hDr : va_D (fun q => b0 ≤ q) [(q, .inr (11, [.ref st, .ref sp, .ref ll, .int 0, .int 1600])), (st, .inl (cS, 48, .inr (.inr (.inr (.inr g))))), (ac, .inr (6, [.int 103, .ref sf, .int am, .int le, .int to, .int 0, .int 0, .int 0, .int 0, .int li, .int da, .ref lo]))] := hDD.sub [1, 2, 3] (by decide) rfl
  have hAb := en_A (sz := s.heap.size) hD0 hb0
  have hD := hD0.self (sz := s.heap.size)
  generalize hAe : va_A [(a, .inr (14, [.ref rw, .int 0, .int 0]))] s.heap.size = A at hD hAb hN0 ⊢
  have hA : ∀ q : Nat, s.heap.size ≤ q → A q := fun q h => by rw [← hAe]; exact Or.inr h
  have hS : va_S A s.heap s.heap [] := va_S.rf
  have hR := hR0
  have hl := lv_entry [.ref q, .ref ac] (n := 2) (Nat.le_of_ble_eq_true rfl)
  rw [lg_entry_eq]
  generalize (lg_sl [.ref q, .ref ac] ++ List.replicate (2 - (lg_sl [.ref q, .ref ac]).length) Slot.unset).toArray = ls at hl ⊢
  have hl : lv_has ls 2 [(0, .ref q), (1, .ref ac)] := hl
  refine lv_aload_n hx hb dX5_perform_0 rfl (lv_at hl 1 rfl) ?_
  refine va_get (D := (dC, dI)) (ci := 6) (v := .int 103) (C := RX0) (T := TX0) (N := 12) hx hb hts (by decide +kernel) hown hK hR 2 rfl rfl 0 (by decide) (hts (.fieldLink RX5 84 "Underpaint$Act" "letter" "I") (by decide +kernel)) (fun _ h9 => h9) rfl dX5_perform_1 ?_
  refine lv_tableIn (off := 132) (tgt := 136) hx hb dX5_perform_4 (by decide) (by decide) (by decide) (by decide) ?_
  refine lv_aload_n hx hb dX5_perform_136 rfl (lv_at hl 0 rfl) ?_
  refine lv_aload_n hx hb dX5_perform_137 rfl (lv_at hl 1 rfl) ?_
  have hPc := (hP.app hR).sub (ws' := [(a, .inr (14, [.ref rw, .int 0, .int 0]))] ++ [(q, .inr (11, [.ref st, .ref sp, .ref ll, .int 0, .int 1600])), (st, .inl (cS, 48, .inr (.inr (.inr (.inr g))))), (ac, .inr (6, [.int 103, .ref sf, .int am, .int le, .int to, .int 0, .int 0, .int 0, .int 0, .int li, .int da, .ref lo]))]) [0, 1, 2, 3] rfl
  have hDc := (en_DD hD hDr hN0 hAb).sub (ws' := [(a, .inr (14, [.ref rw, .int 0, .int 0]))] ++ [(q, .inr (11, [.ref st, .ref sp, .ref ll, .int 0, .int 1600])), (st, .inl (cS, 48, .inr (.inr (.inr (.inr g))))), (ac, .inr (6, [.int 103, .ref sf, .int am, .int le, .int to, .int 0, .int 0, .int 0, .int 0, .int li, .int da, .ref lo]))]) [0, 1, 2, 3] (by decide) rfl
  have hKc := hK.sub (tys' := [(cS, .object "Underpaint$Stack")]) [0] rfl
  have hFc := va_free (wc := [(a, .inr (14, [.ref rw, .int 0, .int 0]))]) hD hS hA [0] rfl
  refine va_calli (va_runV (As := [.ref ac]) (rest := []) ⟨hx, hb, hml, hown, hts⟩ (c_glueDown l dC dI b0 en s.heap.size q st sp ll a rw g cS ac sf lo am li da le to (z_c_canBear_s_402 le to hlt) hga) (cwV 1 hts go_c_perform_g_0 rfl rfl rfl (by decide +kernel) ⟨Nat.le_of_ble_eq_true rfl, Nat.le_of_ble_eq_true rfl⟩) ⟨cP.blind, va_recv hK hR (ci := 11) (q0 := 0) rfl rfl, cP.use (en_z hb0 hS) (hE.on hAb hS) hPc hKc hDc trivial⟩ rfl rfl hl.1 rfl (lv_room (Nat.le_of_ble_eq_true rfl)) dX5_perform_138 ⟨Nat.le_of_ble_eq_true rfl, Nat.le_of_ble_eq_true rfl⟩) hS (fun q _ h => hFc q h) hFc (fun r_1 u t H1 locs ht hvm hw hB hz1 hk1 hS => ?_)
  have hP1 : va_P (dC, dI) vwCl [] H1 := fun k q h => by simp at h
  have hD1 : va_D (va_A [(a, .inr (14, [.ref rw, .int 0, .int 0]))] s.heap.size) [] := ⟨fun i j p q h => by simp at h, fun k q h => by simp at h⟩
  try dsimp only at hw
  obtain ⟨hP, hD⟩ := va_join (wr := []) (w1 := []) hP hD [0] [] rfl rfl (by decide) (by decide) hk1 hFc hP1 hD1
  generalize H1 = H at hP hS ⊢
  have hP : va_P (dC, dI) vwCl [] H := hP
  have hD : va_D A [] := hD
  have hR := en_R hR0 hN0 hS
  refine W.widen (k := 0) (n := 0) (Nat.le_of_ble_eq_true rfl) (Nat.le_of_ble_eq_true rfl) ?_
  subst r_1
  refine W.widen (k := 0) (n := 0) (Nat.le_of_ble_eq_true rfl) (Nat.le_of_ble_eq_true rfl) ?_
  exact W.iret (v := 0) hx hb hr (fun t ht hW => ⟨⟨0, (), rfl, (z_c_canBear_s_403 le to hlt), trivial⟩, hS.F ht⟩) hS.2.2 dX5_perform_141

set_option maxRecDepth 100000 in
theorem gw_wsX8_fadingRow : wsX8_fadingRow.all goodWord = true := by decide +kernel
def wo_c_X8_age_w : List Cond := [Cond.fieldLink RX8 20 "Underpaint$Stack" "size" "I"]
def wo_c_X8_age : List Cond := .code yX8_age cX8_age 8 none :: (wo_c_X8_age_w ++ (u_ws RX8 TX8 3 ++ (wsV RX8 92 RX8 yX8_fadingRow wsX8_fadingRow ++ List.nil)))
theorem gw_wo_c_X8_age : wo_c_X8_age.all goodWord = true := gw_c (by decide +kernel) (gw_a (by decide +kernel) (gw_a (by decide +kernel) (gw_a (gw_a (by decide +kernel) gw_wsX8_fadingRow) rfl)))
theorem go_c_X8_age_0 : GoodIn wo_c_X8_age (wsV RX8 92 RX8 yX8_fadingRow wsX8_fadingRow) := goodIn_sub (fun _ h => List.mem_cons_of_mem _ (List.mem_append_right _ (List.mem_append_right _ (List.mem_append_left _ h)))) (gw_a (by decide +kernel) gw_wsX8_fadingRow)
set_option maxHeartbeats 4000000 in
set_option maxRecDepth 100000 in
/-- Stack.age without layers -/
theorem c_X8_age (l : Launch) (dC : Nat → ClassId) (dI : Nat → Nat → Nat) (b0 : Nat) (en : EnT) (sz : Nat) (a rw : Nat) (am li : Int32) : Met l yX8_age wo_c_X8_age ({ frames := 1, cells := 0, slots := 0, locals := 21 } : Room) (cP b0 en (dC, dI) [] [] [(a, .inr (14, [.ref rw, .int 0, .int 0]))] sz (fun _ => True) [.ref a, .int am, .int li]) (va_Qv (fun _ : Unit => True) (fun _ _ => True) (va_A [] sz)) 0 0 (va_A [] sz) := by
  refine Met.ofW (cc := cX8_age) (maxL := 8) (ret := none) (by decide) rfl ?_
  intro p e s m args below meth c s₁ B hml hv
  obtain ⟨rfl, hsz, hb0, hE, hPP, hK, hDD, hF0⟩ := hv
  have hx := B.exec
  have hb := B.bytes
  have hr := B.returns
  have hts := atoms_spec (ws := wo_c_X8_age) B.pre
  have hown : s.vm.findClass RX8 = some m.cls := findClass_of_methodNamed B.named
  have hlocks := B.notSynchronized
  subst hsz
  have hN0 := en_N hPP hDD rfl
  have hP : va_P (dC, dI) vwCl [] s.heap := hPP.sub [] rfl
  have hR0 : va_P (dC, dI) vwCl [(a, .inr (14, [.ref rw, .int 0, .int 0]))] s.heap := hPP.sub [0] rfl
  have hD0 : va_D (fun q => b0 ≤ q) [] := hDD.sub [] (by decide) rfl
  have hDr : va_D (fun q => b0 ≤ q) [(a, .inr (14, [.ref rw, .int 0, .int 0]))] := hDD.sub [0] (by decide) rfl
  have hAb := en_A (sz := s.heap.size) hD0 hb0
  have hD := hD0.self (sz := s.heap.size)
  generalize hAe : va_A [] s.heap.size = A at hD hAb hN0 ⊢
  have hA : ∀ q : Nat, s.heap.size ≤ q → A q := fun q h => by rw [← hAe]; exact Or.inr h
  have hS : va_S A s.heap s.heap [] := va_S.rf
  have hR := hR0
  have hl := lv_entry [.ref a, .int am, .int li] (n := 8) (Nat.le_of_ble_eq_true rfl)
  rw [lg_entry_eq]
  generalize (lg_sl [.ref a, .int am, .int li] ++ List.replicate (8 - (lg_sl [.ref a, .int am, .int li]).length) Slot.unset).toArray = ls at hl ⊢
  have hl : lv_has ls 8 [(0, .ref a), (1, .int am), (2, .int li)] := hl
  refine lv_aload_n hx hb dX8_age_0 rfl (lv_at hl 0 rfl) ?_
  have hPc := (hP.app hR).sub (ws' := [] ++ [(a, .inr (14, [.ref rw, .int 0, .int 0]))]) [0] rfl
  have hDc := (en_DD hD hDr hN0 hAb).sub (ws' := [] ++ [(a, .inr (14, [.ref rw, .int 0, .int 0]))]) [0] (by decide) rfl
  have hKc := hK.sub (tys' := []) [] rfl
  have hFc := va_free (wc := []) hD hS hA [] rfl
  refine va_calli (va_runV (As := []) (rest := []) ⟨hx, hb, hml, hown, hts⟩ (c_X8_fadingRow l dC dI b0 en s.heap.size a rw) (cwV 0 hts go_c_X8_age_0 rfl rfl rfl (by decide +kernel) ⟨Nat.le_of_ble_eq_true rfl, Nat.le_of_ble_eq_true rfl⟩) ⟨cP.blind, va_recv hK hR (ci := 14) (q0 := 0) rfl rfl, cP.use (en_z hb0 hS) (hE.on hAb hS) hPc hKc hDc trivial⟩ rfl rfl hl.1 rfl (lv_room (Nat.le_of_ble_eq_true rfl)) dX8_age_1 ⟨Nat.le_of_ble_eq_true rfl, Nat.le_of_ble_eq_true rfl⟩) hS (fun q _ h => hFc q h) hFc (fun r_1 u t H1 locs ht hvm hw hB hz1 hk1 hS => ?_)
  have hP1 : va_P (dC, dI) vwCl [] H1 := fun k q h => by simp at h
  have hD1 : va_D (va_A [] s.heap.size) [] := ⟨fun i j p q h => by simp at h, fun k q h => by simp at h⟩
  try dsimp only at hw
  obtain ⟨hP, hD⟩ := va_join (wr := []) (w1 := []) hP hD [] [] rfl rfl (by decide) (by decide) hk1 hFc hP1 hD1
  generalize H1 = H at hP hS ⊢
  have hP : va_P (dC, dI) vwCl [] H := hP
  have hD : va_D A [] := hD
  have hR := en_R hR0 hN0 hS
  refine W.widen (k := 0) (n := 0) (Nat.le_of_ble_eq_true rfl) (Nat.le_of_ble_eq_true rfl) ?_
  subst r_1
  refine lv_istore_n (lv' := [(3, .int (-1)), (0, .ref a), (1, .int am), (2, .int li)]) hx hb dX8_age_4 rfl hl (by decide) rfl (fun ls hl => ?_)
  refine lv_iconst (v := 0) hx hb dX8_age_5 (by decide) ?_
  refine lv_istore (lv' := [(4, .int 0), (3, .int (-1)), (0, .ref a), (1, .int am), (2, .int li)]) hx hb dX8_age_6 hl (by decide) rfl (fun ls hl => ?_)
  refine lv_iload hx hb dX8_age_8 (lv_at hl 0 rfl) ?_
  refine lv_aload_n hx hb dX8_age_10 rfl (lv_at hl 2 rfl) ?_
  refine va_get (D := (dC, dI)) (ci := 14) (v := .int 0) (C := RX8) (T := TX8) (N := 3) hx hb hts (by decide +kernel) hown hK hR 0 rfl rfl 1 (by decide) (hts (.fieldLink RX8 20 "Underpaint$Stack" "size" "I") (by decide +kernel)) (fun _ h9 => h9) rfl dX8_age_11 ?_
  refine lv_icmp_ge (tgt := 118) hx hb dX8_age_14 (by decide) (fun c_2 => ?_) (fun c_2 => absurd c_2 (by decide))
  refine W.widen (k := 0) (n := 0) (Nat.le_of_ble_eq_true rfl) (Nat.le_of_ble_eq_true rfl) ?_
  exact W.vret hx hb hr (fun t ht hW => ⟨⟨(), rfl, trivial, trivial⟩, hS.F ht⟩) hS.2.2 dX8_age_118

def wo_c_X8_wear_w : List Cond := [Cond.methodLink RX8 106 Lib.Math.abs.name, Cond.static Lib.Math.abs.name, Cond.initialized "java/lang/Math", Cond.code Lib.Math.abs.name Lib.Math.abs.code 1 (some .int), Cond.fieldLink RX8 20 "Underpaint$Stack" "size" "I"]
def wo_c_X8_wear : List Cond := .code yX8_wear cX8_wear 5 none :: (wo_c_X8_wear_w ++ (u_ws RX8 TX8 3 ++ List.nil))
theorem gw_wo_c_X8_wear : wo_c_X8_wear.all goodWord = true := gw_c (by decide +kernel) (gw_a (by decide +kernel) (gw_a (by decide +kernel) rfl))
set_option maxHeartbeats 4000000 in
set_option maxRecDepth 100000 in
/-- Stack.wear without layers -/
theorem c_X8_wear (l : Launch) (dC : Nat → ClassId) (dI : Nat → Nat → Nat) (b0 : Nat) (en : EnT) (sz : Nat) (a rw : Nat) (am da : Int32) : Met l yX8_wear wo_c_X8_wear ({ frames := 1, cells := 0, slots := 0, locals := 40 } : Room) (cP b0 en (dC, dI) [] [] [(a, .inr (14, [.ref rw, .int 0, .int 0]))] sz (fun _ => True) [.ref a, .int am, .int da]) (va_Qv (fun _ : Unit => True) (fun _ _ => True) (va_A [] sz)) 0 0 (va_A [] sz) := by
  refine Met.ofW (cc := cX8_wear) (maxL := 5) (ret := none) (by decide) rfl ?_
  intro p e s m args below meth c s₁ B hml hv
  obtain ⟨rfl, hsz, hb0, hE, hPP, hK, hDD, hF0⟩ := hv
  have hx := B.exec
  have hb := B.bytes
  have hr := B.returns
  have hts := atoms_spec (ws := wo_c_X8_wear) B.pre
  have hown : s.vm.findClass RX8 = some m.cls := findClass_of_methodNamed B.named
  have hlocks := B.notSynchronized
  subst hsz
  have hN0 := en_N hPP hDD rfl
  have hP : va_P (dC, dI) vwCl [] s.heap := hPP.sub [] rfl
  have hR0 : va_P (dC, dI) vwCl [(a, .inr (14, [.ref rw, .int 0, .int 0]))] s.heap := hPP.sub [0] rfl
  have hD0 : va_D (fun q => b0 ≤ q) [] := hDD.sub [] (by decide) rfl
  have hDr : va_D (fun q => b0 ≤ q) [(a, .inr (14, [.ref rw, .int 0, .int 0]))] := hDD.sub [0] (by decide) rfl
  have hAb := en_A (sz := s.heap.size) hD0 hb0
  have hD := hD0.self (sz := s.heap.size)
  generalize hAe : va_A [] s.heap.size = A at hD hAb hN0 ⊢
  have hA : ∀ q : Nat, s.heap.size ≤ q → A q := fun q h => by rw [← hAe]; exact Or.inr h
  have hS : va_S A s.heap s.heap [] := va_S.rf
  have hR := hR0
  have hl := lv_entry [.ref a, .int am, .int da] (n := 5) (Nat.le_of_ble_eq_true rfl)
  rw [lg_entry_eq]
  generalize (lg_sl [.ref a, .int am, .int da] ++ List.replicate (5 - (lg_sl [.ref a, .int am, .int da]).length) Slot.unset).toArray = ls at hl ⊢
  have hl : lv_has ls 5 [(0, .ref a), (1, .int am), (2, .int da)] := hl
  refine lv_iload_n hx hb dX8_wear_0 rfl (lv_at hl 2 rfl) ?_
  refine lv_bipush (v := 50) hx hb dX8_wear_1 (by decide) ?_
  refine lv_isub hx hb dX8_wear_3 ?_
  refine lv_topi (fun x_1 ex_1 => ?_)
  refine va_mabs hx hb (hml.trans hl.1.symm) hown (hts (.methodLink RX8 106 Lib.Math.abs.name) (by decide +kernel)) (hts (.static Lib.Math.abs.name) (by decide +kernel)) (hts (.initialized "java/lang/Math") (by decide +kernel)) (hts (.code Lib.Math.abs.name Lib.Math.abs.code 1 (some .int)) (by decide +kernel)) (Nat.le_of_ble_eq_true rfl) (Nat.le_of_ble_eq_true rfl) (Nat.le_of_ble_eq_true rfl) (Nat.le_of_ble_eq_true rfl) dX8_wear_4 ?_
  refine lv_topi (fun x_2 ex_2 => ?_)
  refine lv_bipush (v := 15) hx hb dX8_wear_7 (by decide) ?_
  refine lv_icmp_le (tgt := 16) hx hb dX8_wear_9 (by decide) (fun c_3 => ?_) (fun c_3 => ?_)
  · skip
    refine lv_iconst (v := 0) hx hb dX8_wear_16 (by decide) ?_
    refine lv_istore_n (lv' := [(3, .int 0), (0, .ref a), (1, .int am), (2, .int da)]) hx hb dX8_wear_17 rfl hl (by decide) rfl (fun ls hl => ?_)
    refine lv_iconst (v := 1) hx hb dX8_wear_18 (by decide) ?_
    refine lv_istore (lv' := [(4, .int 1), (3, .int 0), (0, .ref a), (1, .int am), (2, .int da)]) hx hb dX8_wear_19 hl (by decide) rfl (fun ls hl => ?_)
    refine lv_iload hx hb dX8_wear_21 (lv_at hl 0 rfl) ?_
    refine lv_aload_n hx hb dX8_wear_23 rfl (lv_at hl 2 rfl) ?_
    refine va_get (D := (dC, dI)) (ci := 14) (v := .int 0) (C := RX8) (T := TX8) (N := 3) hx hb hts (by decide +kernel) hown hK hR 0 rfl rfl 1 (by decide) (hts (.fieldLink RX8 20 "Underpaint$Stack" "size" "I") (by decide +kernel)) (fun _ h9 => h9) rfl dX8_wear_24 ?_
    refine lv_icmp_ge (tgt := 70) hx hb dX8_wear_27 (by decide) (fun c_4 => ?_) (fun c_4 => absurd c_4 (by decide))
    refine lv_aload_n hx hb dX8_wear_70 rfl (lv_at hl 2 rfl) ?_
    refine va_get (D := (dC, dI)) (ci := 14) (v := .int 0) (C := RX8) (T := TX8) (N := 3) hx hb hts (by decide +kernel) hown hK hR 0 rfl rfl 1 (by decide) (hts (.fieldLink RX8 20 "Underpaint$Stack" "size" "I") (by decide +kernel)) (fun _ h9 => h9) rfl dX8_wear_71 ?_
    refine lv_if_le (tgt := 84) hx hb dX8_wear_74 (by decide) (fun c_5 => ?_) (fun c_5 => absurd c_5 (by decide))
    refine W.widen (k := 0) (n := 0) (Nat.le_of_ble_eq_true rfl) (Nat.le_of_ble_eq_true rfl) ?_
    exact W.vret hx hb hr (fun t ht hW => ⟨⟨(), rfl, trivial, trivial⟩, hS.F ht⟩) hS.2.2 dX8_wear_84
  · skip
    refine lv_iconst (v := 1) hx hb dX8_wear_12 (by decide) ?_
    refine lv_goto (tgt := 17) hx hb dX8_wear_13 (by decide) ?_
    refine lv_istore_n (lv' := [(3, .int 1), (0, .ref a), (1, .int am), (2, .int da)]) hx hb dX8_wear_17 rfl hl (by decide) rfl (fun ls hl => ?_)
    refine lv_iconst (v := 1) hx hb dX8_wear_18 (by decide) ?_
    refine lv_istore (lv' := [(4, .int 1), (3, .int 1), (0, .ref a), (1, .int am), (2, .int da)]) hx hb dX8_wear_19 hl (by decide) rfl (fun ls hl => ?_)
    refine lv_iload hx hb dX8_wear_21 (lv_at hl 0 rfl) ?_
    refine lv_aload_n hx hb dX8_wear_23 rfl (lv_at hl 2 rfl) ?_
    refine va_get (D := (dC, dI)) (ci := 14) (v := .int 0) (C := RX8) (T := TX8) (N := 3) hx hb hts (by decide +kernel) hown hK hR 0 rfl rfl 1 (by decide) (hts (.fieldLink RX8 20 "Underpaint$Stack" "size" "I") (by decide +kernel)) (fun _ h9 => h9) rfl dX8_wear_24 ?_
    refine lv_icmp_ge (tgt := 70) hx hb dX8_wear_27 (by decide) (fun c_6 => ?_) (fun c_6 => absurd c_6 (by decide))
    refine lv_aload_n hx hb dX8_wear_70 rfl (lv_at hl 2 rfl) ?_
    refine va_get (D := (dC, dI)) (ci := 14) (v := .int 0) (C := RX8) (T := TX8) (N := 3) hx hb hts (by decide +kernel) hown hK hR 0 rfl rfl 1 (by decide) (hts (.fieldLink RX8 20 "Underpaint$Stack" "size" "I") (by decide +kernel)) (fun _ h9 => h9) rfl dX8_wear_71 ?_
    refine lv_if_le (tgt := 84) hx hb dX8_wear_74 (by decide) (fun c_7 => ?_) (fun c_7 => absurd c_7 (by decide))
    refine W.widen (k := 0) (n := 0) (Nat.le_of_ble_eq_true rfl) (Nat.le_of_ble_eq_true rfl) ?_
    exact W.vret hx hb hr (fun t ht hW => ⟨⟨(), rfl, trivial, trivial⟩, hS.F ht⟩) hS.2.2 dX8_wear_84

def wo_c_X8_turnYellow_w : List Cond := []
def wo_c_X8_turnYellow : List Cond := .code yX8_turnYellow cX8_turnYellow 2 none :: (wo_c_X8_turnYellow_w ++ (wsV RX8 117 RX8 yX8_isTopmost wsX8_isTopmost ++ List.nil))
theorem gw_wo_c_X8_turnYellow : wo_c_X8_turnYellow.all goodWord = true := gw_c (by decide +kernel) (gw_a (by decide +kernel) (gw_a (gw_a (by decide +kernel) gw_wsX8_isTopmost) rfl))
theorem go_c_X8_turnYellow_0 : GoodIn wo_c_X8_turnYellow (wsV RX8 117 RX8 yX8_isTopmost wsX8_isTopmost) := goodIn_sub (fun _ h => List.mem_cons_of_mem _ (List.mem_append_right _ (List.mem_append_left _ h))) (gw_a (by decide +kernel) gw_wsX8_isTopmost)
set_option maxHeartbeats 4000000 in
set_option maxRecDepth 100000 in
/-- Stack.turnYellow without layers -/
theorem c_X8_turnYellow (l : Launch) (dC : Nat → ClassId) (dI : Nat → Nat → Nat) (b0 : Nat) (en : EnT) (sz : Nat) (a rw : Nat) (n : Int32) : Met l yX8_turnYellow wo_c_X8_turnYellow ({ frames := 1, cells := 0, slots := 0, locals := 21 } : Room) (cP b0 en (dC, dI) [] [] [(a, .inr (14, [.ref rw, .int 0, .int 0]))] sz (fun _ => True) [.ref a, .int n]) (va_Qv (fun _ : Unit => True) (fun _ _ => True) (va_A [] sz)) 0 0 (va_A [] sz) := by
  refine Met.ofW (cc := cX8_turnYellow) (maxL := 2) (ret := none) (by decide) rfl ?_
  intro p e s m args below meth c s₁ B hml hv
  obtain ⟨rfl, hsz, hb0, hE, hPP, hK, hDD, hF0⟩ := hv
  have hx := B.exec
  have hb := B.bytes
  have hr := B.returns
  have hts := atoms_spec (ws := wo_c_X8_turnYellow) B.pre
  have hown : s.vm.findClass RX8 = some m.cls := findClass_of_methodNamed B.named
  have hlocks := B.notSynchronized
  subst hsz
  have hN0 := en_N hPP hDD rfl
  have hP : va_P (dC, dI) vwCl [] s.heap := hPP.sub [] rfl
  have hR0 : va_P (dC, dI) vwCl [(a, .inr (14, [.ref rw, .int 0, .int 0]))] s.heap := hPP.sub [0] rfl
  have hD0 : va_D (fun q => b0 ≤ q) [] := hDD.sub [] (by decide) rfl
  have hDr : va_D (fun q => b0 ≤ q) [(a, .inr (14, [.ref rw, .int 0, .int 0]))] := hDD.sub [0] (by decide) rfl
  have hAb := en_A (sz := s.heap.size) hD0 hb0
  have hD := hD0.self (sz := s.heap.size)
  generalize hAe : va_A [] s.heap.size = A at hD hAb hN0 ⊢
  have hA : ∀ q : Nat, s.heap.size ≤ q → A q := fun q h => by rw [← hAe]; exact Or.inr h
  have hS : va_S A s.heap s.heap [] := va_S.rf
  have hR := hR0
  have hl := lv_entry [.ref a, .int n] (n := 2) (Nat.le_of_ble_eq_true rfl)
  rw [lg_entry_eq]
  generalize (lg_sl [.ref a, .int n] ++ List.replicate (2 - (lg_sl [.ref a, .int n]).length) Slot.unset).toArray = ls at hl ⊢
  have hl : lv_has ls 2 [(0, .ref a), (1, .int n)] := hl
  refine lv_aload_n hx hb dX8_turnYellow_0 rfl (lv_at hl 0 rfl) ?_
  refine lv_bipush (v := 118) hx hb dX8_turnYellow_1 (by decide) ?_
  have hPc := (hP.app hR).sub (ws' := [] ++ [(a, .inr (14, [.ref rw, .int 0, .int 0]))]) [0] rfl
  have hDc := (en_DD hD hDr hN0 hAb).sub (ws' := [] ++ [(a, .inr (14, [.ref rw, .int 0, .int 0]))]) [0] (by decide) rfl
  have hKc := hK.sub (tys' := []) [] rfl
  have hFc := va_free (wc := []) hD hS hA [] rfl
  refine va_calli (va_runV (As := [.int 118]) (rest := []) ⟨hx, hb, hml, hown, hts⟩ (c_X8_isTopmost l dC dI b0 en s.heap.size a rw 118) (cwV 1 hts go_c_X8_turnYellow_0 rfl rfl rfl (by decide +kernel) ⟨Nat.le_of_ble_eq_true rfl, Nat.le_of_ble_eq_true rfl⟩) ⟨cP.blind, va_recv hK hR (ci := 14) (q0 := 0) rfl rfl, cP.use (en_z hb0 hS) (hE.on hAb hS) hPc hKc hDc trivial⟩ rfl rfl hl.1 rfl (lv_room (Nat.le_of_ble_eq_true rfl)) dX8_turnYellow_3 ⟨Nat.le_of_ble_eq_true rfl, Nat.le_of_ble_eq_true rfl⟩) hS (fun q _ h => hFc q h) hFc (fun r_1 u t H1 locs ht hvm hw hB hz1 hk1 hS => ?_)
  have hP1 : va_P (dC, dI) vwCl [] H1 := fun k q h => by simp at h
  have hD1 : va_D (va_A [] s.heap.size) [] := ⟨fun i j p q h => by simp at h, fun k q h => by simp at h⟩
  try dsimp only at hw
  obtain ⟨hP, hD⟩ := va_join (wr := []) (w1 := []) hP hD [] [] rfl rfl (by decide) (by decide) hk1 hFc hP1 hD1
  generalize H1 = H at hP hS ⊢
  have hP : va_P (dC, dI) vwCl [] H := hP
  have hD : va_D A [] := hD
  have hR := en_R hR0 hN0 hS
  refine W.widen (k := 0) (n := 0) (Nat.le_of_ble_eq_true rfl) (Nat.le_of_ble_eq_true rfl) ?_
  subst r_1
  refine lv_if_eq (tgt := 30) hx hb dX8_turnYellow_6 (by decide) (fun c_2 => ?_) (fun c_2 => absurd c_2 (by decide))
  refine W.widen (k := 0) (n := 0) (Nat.le_of_ble_eq_true rfl) (Nat.le_of_ble_eq_true rfl) ?_
  exact W.vret hx hb hr (fun t ht hW => ⟨⟨(), rfl, trivial, trivial⟩, hS.F ht⟩) hS.2.2 dX8_turnYellow_30
theorem z_c_age_405 (am : Int32) (x_1 : Int32) (a_0 : x_1 = 1600 + am) : x_1 = 1600 + am := by grind
def wo_c_age_w : List Cond := [Cond.fieldLink RX5 24 "Underpaint$Picture" "yearNow" "I", Cond.fieldLink RX5 144 "Underpaint$Act" "amount" "I", Cond.fieldLink RX5 11 "Underpaint$Picture" "stacks" "[LUnderpaint$Stack;", Cond.fieldLink RX5 151 "Underpaint$Act" "light" "I", Cond.fieldLink RX5 157 "Underpaint$Act" "damp" "I"]
def wo_c_age : List Cond := .code yX5_age cX5_age 4 (some .int) :: (wo_c_age_w ++ (u_ws RX5 TX5 5 ++ (u_ws RX0 TX0 12 ++ (wsV RX5 154 RX8 yX8_age wo_c_X8_age ++ (wsV RX5 160 RX8 yX8_wear wo_c_X8_wear ++ (wsV RX5 163 RX8 yX8_turnYellow wo_c_X8_turnYellow ++ List.nil))))))
theorem gw_wo_c_age : wo_c_age.all goodWord = true := gw_c (by decide +kernel) (gw_a (by decide +kernel) (gw_a (by decide +kernel) (gw_a (by decide +kernel) (gw_a (gw_a (by decide +kernel) gw_wo_c_X8_age) (gw_a (gw_a (by decide +kernel) gw_wo_c_X8_wear) (gw_a (gw_a (by decide +kernel) gw_wo_c_X8_turnYellow) rfl))))))
theorem go_c_age_0 : GoodIn wo_c_age (wsV RX5 154 RX8 yX8_age wo_c_X8_age) := goodIn_sub (fun _ h => List.mem_cons_of_mem _ (List.mem_append_right _ (List.mem_append_right _ (List.mem_append_right _ (List.mem_append_left _ h))))) (gw_a (by decide +kernel) gw_wo_c_X8_age)
theorem go_c_age_1 : GoodIn wo_c_age (wsV RX5 160 RX8 yX8_wear wo_c_X8_wear) := goodIn_sub (fun _ h => List.mem_cons_of_mem _ (List.mem_append_right _ (List.mem_append_right _ (List.mem_append_right _ (List.mem_append_right _ (List.mem_append_left _ h)))))) (gw_a (by decide +kernel) gw_wo_c_X8_wear)
theorem go_c_age_2 : GoodIn wo_c_age (wsV RX5 163 RX8 yX8_turnYellow wo_c_X8_turnYellow) := goodIn_sub (fun _ h => List.mem_cons_of_mem _ (List.mem_append_right _ (List.mem_append_right _ (List.mem_append_right _ (List.mem_append_right _ (List.mem_append_right _ (List.mem_append_left _ h))))))) (gw_a (by decide +kernel) gw_wo_c_X8_turnYellow)
set_option maxHeartbeats 4000000 in
set_option maxRecDepth 100000 in
/-- Picture.age -/
theorem c_age (l : Launch) (dC : Nat → ClassId) (dI : Nat → Nat → Nat) (b0 : Nat) (en : EnT) (sz : Nat) (q st sp ll : Nat) (g : Nat → Option Nat) (cS : ClassId) (N : Nat → Prop) (ac sf lo : Nat) (am li da : Int32) (hNb : ∀ a, N a → b0 ≤ a ∧ a < sz) (hNw : ∀ a, N a → a ∉ List.map Prod.fst ([(q, .inr (11, [.ref st, .ref sp, .ref ll, .int 0, .int 1600]))] : va_W)) (hNr : ∀ a, N a → a ∉ List.map Prod.fst ([(st, .inl (cS, 48, .inr (.inr (.inr (.inr g))))), (ac, .inr (6, [.int 121, .ref sf, .int am, .int 0, .int 0, .int 0, .int 0, .int 0, .int 0, .int li, .int da, .ref lo]))] : va_W)) : Met l yX5_age wo_c_age ({ frames := 2, cells := 0, slots := 0, locals := 64 } : Room) (cP b0 en (dC, dI) [(cS, .object "Underpaint$Stack")] [(q, .inr (11, [.ref st, .ref sp, .ref ll, .int 0, .int 1600]))] [(st, .inl (cS, 48, .inr (.inr (.inr (.inr g))))), (ac, .inr (6, [.int 121, .ref sf, .int am, .int 0, .int 0, .int 0, .int 0, .int 0, .int 0, .int li, .int da, .ref lo]))] sz (FamS (dC, dI) N g) [.ref q, .ref ac]) (va_Qi (fun (r : Int32) (_ : Unit) => r = 1600 + am) (fun _ _ => True) (va_A [(q, .inr (11, [.ref st, .ref sp, .ref ll, .int 0, .int 1600]))] sz)) 0 0 (va_A [(q, .inr (11, [.ref st, .ref sp, .ref ll, .int 0, .int 1600]))] sz) := by
  refine Met.ofW (cc := cX5_age) (maxL := 4) (ret := (some .int)) (by decide) rfl ?_
  intro p e s m args below meth c s₁ B hml hv
  obtain ⟨rfl, hsz, hb0, hE, hPP, hK, hDD, hF0⟩ := hv
  have hx := B.exec
  have hb := B.bytes
  have hr := B.returns
  have hts := atoms_spec (ws := wo_c_age) B.pre
  have hown : s.vm.findClass RX5 = some m.cls := findClass_of_methodNamed B.named
  have hlocks := B.notSynchronized
  subst hsz
  have hN0 := en_N hPP hDD rfl
  have hP : va_P (dC, dI) vwCl [(q, .inr (11, [.ref st, .ref sp, .ref ll, .int 0, .int 1600]))] s.heap := hPP.sub [0] rfl
  have hR0 : va_P (dC, dI) vwCl [(st, .inl (cS, 48, .inr (.inr (.inr (.inr g))))), (ac, .inr (6, [.int 121, .ref sf, .int am, .int 0, .int 0, .int 0, .int 0, .int 0, .int 0, .int li, .int da, .ref lo]))] s.heap := hPP.sub [1, 2] rfl
  have hD0 : va_D (fun q => b0 ≤ q) [(q, .inr (11, [.ref st, .ref sp, .ref ll, .int 0, .int 1600]))] := hDD.sub [0] (by decide) rfl
  have hDr : va_D (fun q => b0 ≤ q) [(st, .inl (cS, 48, .inr (.inr (.inr (.inr g))))), (ac, .inr (6, [.int 121, .ref sf, .int am, .int 0, .int 0, .int 0, .int 0, .int 0, .int 0, .int li, .int da, .ref lo]))] := hDD.sub [1, 2] (by decide) rfl
  have hAb := en_A (sz := s.heap.size) hD0 hb0
  have hD := hD0.self (sz := s.heap.size)
  generalize hAe : va_A [(q, .inr (11, [.ref st, .ref sp, .ref ll, .int 0, .int 1600]))] s.heap.size = A at hD hAb hN0 ⊢
  have hA : ∀ q : Nat, s.heap.size ≤ q → A q := fun q h => by rw [← hAe]; exact Or.inr h
  have hS : va_S A s.heap s.heap [] := va_S.rf
  have hR := hR0
  have hl := lv_entry [.ref q, .ref ac] (n := 4) (Nat.le_of_ble_eq_true rfl)
  rw [lg_entry_eq]
  generalize (lg_sl [.ref q, .ref ac] ++ List.replicate (4 - (lg_sl [.ref q, .ref ac]).length) Slot.unset).toArray = ls at hl ⊢
  have hl : lv_has ls 4 [(0, .ref q), (1, .ref ac)] := hl
  refine W.gen (fun Q hQ => ?_)
  have hR0b := hR0
  have hDrb := hDr
  have hN0b := hN0
  refine lv_aload_n hx hb dX5_age_0 rfl (lv_at hl 0 rfl) ?_
  refine va_get (D := (dC, dI)) (ci := 11) (v := .int 1600) (C := RX5) (T := TX5) (N := 5) hx hb hts (by decide +kernel) hown hK hP 0 rfl rfl 4 (by decide) (hts (.fieldLink RX5 24 "Underpaint$Picture" "yearNow" "I") (by decide +kernel)) (fun _ h9 => h9) rfl dX5_age_1 ?_
  refine lv_istore_n (lv' := [(2, .int 1600), (0, .ref q), (1, .ref ac)]) hx hb dX5_age_4 rfl hl (by decide) rfl (fun ls hl => ?_)
  refine lv_aload_n hx hb dX5_age_5 rfl (lv_at hl 1 rfl) ?_
  refine lv_dup hx hb dX5_age_6 rfl ?_
  refine va_get (D := (dC, dI)) (ci := 11) (v := .int 1600) (C := RX5) (T := TX5) (N := 5) hx hb hts (by decide +kernel) hown hK hP 0 rfl rfl 4 (by decide) (hts (.fieldLink RX5 24 "Underpaint$Picture" "yearNow" "I") (by decide +kernel)) (fun _ h9 => h9) rfl dX5_age_7 ?_
  refine lv_aload_n hx hb dX5_age_10 rfl (lv_at hl 2 rfl) ?_
  refine va_get (D := (dC, dI)) (ci := 6) (v := .int am) (C := RX0) (T := TX0) (N := 12) hx hb hts (by decide +kernel) hown hK hR 1 rfl rfl 2 (by decide) (hts (.fieldLink RX5 144 "Underpaint$Act" "amount" "I") (by decide +kernel)) (fun _ h9 => h9) rfl dX5_age_11 ?_
  refine lv_iadd hx hb dX5_age_14 ?_
  refine lv_topi (fun x_1 ex_1 => ?_)
  refine va_put (D := (dC, dI)) (ci := 11) (v := .int x_1) (ty := .int) (C := RX5) (T := TX5) (N := 5) hx hb hts (by decide +kernel) tyX5 tyX5_ok nmX5 hown hK hP hD hS 0 rfl rfl 4 (by decide) (hts (.fieldLink RX5 24 "Underpaint$Picture" "yearNow" "I") (by decide +kernel)) (fun _ h9 => h9) rfl (by decide +kernel) rfl rfl (Nat.le_of_ble_eq_true rfl) dX5_age_15 (fun H locs hP hD hS => ?_)
  have hP : va_P (dC, dI) vwCl [(q, .inr (11, [.ref st, .ref sp, .ref ll, .int 0, .int x_1]))] H := hP
  have hD : va_D A [(q, .inr (11, [.ref st, .ref sp, .ref ll, .int 0, .int x_1]))] := hD
  have hR := en_R hR0 hN0 hS
  refine lv_iconst (v := 0) hx hb dX5_age_18 (by decide) ?_
  refine lv_istore_n (lv' := [(3, .int 0), (2, .int 1600), (0, .ref q), (1, .ref ac)]) hx hb dX5_age_19 rfl hl (by decide) rfl (fun ls hl => ?_)
  have loop_20 : ∀ (n_3 k_2 : Nat), n_3 + k_2 = 48 → ∀ (H : Heap) (locs : List Loc), va_P (dC, dI) vwCl [(q, .inr (11, [.ref st, .ref sp, .ref ll, .int 0, .int x_1]))] H → va_D A [(q, .inr (11, [.ref st, .ref sp, .ref ll, .int 0, .int x_1]))] → va_S A s.heap H locs → ∀ ls : Array Slot, lv_has ls 4 [(3, .int (nI k_2)), (2, .int 1600), (0, .ref q), (1, .ref ac)] → W p l e (headSpec wo_c_age ({ frames := 2, cells := 0, slots := 0, locals := 64 } : Room)).room s m #[.ref q, .ref ac] below meth c H locs 0 0 Q (F0 m 20 ls []) := by
    intro n_3
    induction n_3 with
    | zero =>
      intro k_2 hk_4 H locs hP hD hS ls hl
      have ek_2 : k_2 = 48 := by omega
      subst ek_2
      have hl : lv_has ls 4 [(3, .int 48), (2, .int 1600), (0, .ref q), (1, .ref ac)] := hl
      have hR := en_R hR0 hN0 hS
      refine lv_iload_n hx hb dX5_age_20 rfl (lv_at hl 0 rfl) ?_
      refine lv_bipush (v := 48) hx hb dX5_age_21 (by decide) ?_
      refine lv_icmp_ge (tgt := 87) hx hb dX5_age_23 (by decide) (fun c_6 => ?_) (fun c_6 => absurd c_6 (by decide))
      refine lv_aload_n hx hb dX5_age_87 rfl (lv_at hl 2 rfl) ?_
      refine va_get (D := (dC, dI)) (ci := 11) (v := .int x_1) (C := RX5) (T := TX5) (N := 5) hx hb hts (by decide +kernel) hown hK hP 0 rfl rfl 4 (by decide) (hts (.fieldLink RX5 24 "Underpaint$Picture" "yearNow" "I") (by decide +kernel)) (fun _ h9 => h9) rfl dX5_age_88 ?_
      subst hQ
      refine W.widen (k := 0) (n := 0) (Nat.le_of_ble_eq_true rfl) (Nat.le_of_ble_eq_true rfl) ?_
      exact W.iret (v := x_1) hx hb hr (fun t ht hW => ⟨⟨x_1, (), rfl, (z_c_age_405 am x_1 ex_1), trivial⟩, hS.F ht⟩) hS.2.2 dX5_age_91
    | succ n_3 ih =>
      intro k_2 hk_4 H locs hP hD hS ls hl
      have hk_7 : k_2 < 48 := by omega
      have hb_8 : 0 ≤ nI k_2 ∧ nI k_2 < 48 := ⟨nI_le (Nat.zero_le _) (by omega), nI_lk hk_7 (by decide)⟩
      have hR := en_R hR0 hN0 hS
      refine lv_iload_n hx hb dX5_age_20 rfl (lv_at hl 0 rfl) ?_
      refine lv_bipush (v := 48) hx hb dX5_age_21 (by decide) ?_
      refine lv_icmp_ge (tgt := 87) hx hb dX5_age_23 (by decide) (fun c_9 => ?_) (fun c_9 => ?_)
      · skip
        first | exact absurd c_9 (nI_ge hk_7 (by decide)) | exact absurd (nI_lk hk_7 (by decide)) c_9
      · skip
        refine lv_aload_n hx hb dX5_age_26 rfl (lv_at hl 2 rfl) ?_
        refine va_get (D := (dC, dI)) (ci := 11) (v := .ref st) (C := RX5) (T := TX5) (N := 5) hx hb hts (by decide +kernel) hown hK hP 0 rfl rfl 0 (by decide) (hts (.fieldLink RX5 11 "Underpaint$Picture" "stacks" "[LUnderpaint$Stack;") (by decide +kernel)) (fun _ h9 => h9) rfl dX5_age_27 ?_
        refine lv_iload_n hx hb dX5_age_30 rfl (lv_at hl 0 rfl) ?_
        refine va_aldq hx hb hK hR 0 0 rfl rfl (vp_in_nI hk_7 (by decide)) dX5_age_31 ?_
        obtain ⟨ap_10, rp_10, hgp_10, hup_10, hnp_10⟩ := hF0 k_2 hk_7
        refine lv_topv (w := .ref ap_10) (by rw [nI_clamp (by omega), hgp_10]; rfl) ?_
        have hxp_10 : ¬ A ap_10 := by rw [← hAe]; exact vA1 (ws := [(q, .inr (11, [.ref st, .ref sp, .ref ll, .int 0, .int 1600]))]) hup_10.lt (hNw ap_10 hnp_10)
        refine lv_aload_n hx hb dX5_age_32 rfl (lv_at hl 3 rfl) ?_
        refine va_get (D := (dC, dI)) (ci := 6) (v := .int am) (C := RX0) (T := TX0) (N := 12) hx hb hts (by decide +kernel) hown hK hR 1 rfl rfl 2 (by decide) (hts (.fieldLink RX5 144 "Underpaint$Act" "amount" "I") (by decide +kernel)) (fun _ h9 => h9) rfl dX5_age_33 ?_
        refine lv_aload_n hx hb dX5_age_36 rfl (lv_at hl 3 rfl) ?_
        refine va_get (D := (dC, dI)) (ci := 6) (v := .int li) (C := RX0) (T := TX0) (N := 12) hx hb hts (by decide +kernel) hown hK hR 1 rfl rfl 9 (by decide) (hts (.fieldLink RX5 151 "Underpaint$Act" "light" "I") (by decide +kernel)) (fun _ h9 => h9) rfl dX5_age_37 ?_
        have hR0 : va_P (dC, dI) vwCl [(st, .inl (cS, 48, .inr (.inr (.inr (.inr g))))), (ac, .inr (6, [.int 121, .ref sf, .int am, .int 0, .int 0, .int 0, .int 0, .int 0, .int 0, .int li, .int da, .ref lo])), (ap_10, .inr (14, [.ref rp_10, .int 0, .int 0]))] s.heap := (hR0b.app (va1 hup_10))
        have hDr : va_D (fun q => b0 ≤ q) [(st, .inl (cS, 48, .inr (.inr (.inr (.inr g))))), (ac, .inr (6, [.int 121, .ref sf, .int am, .int 0, .int 0, .int 0, .int 0, .int 0, .int 0, .int li, .int da, .ref lo])), (ap_10, .inr (14, [.ref rp_10, .int 0, .int 0]))] := (vD_push hDrb (hNb ap_10 hnp_10).1 (nR (hNr ap_10 hnp_10)))
        have hN0 : ∀ (k9 : Nat) (q9 : Nat × va_E), [(st, .inl (cS, 48, .inr (.inr (.inr (.inr g))))), (ac, .inr (6, [.int 121, .ref sf, .int am, .int 0, .int 0, .int 0, .int 0, .int 0, .int 0, .int li, .int da, .ref lo])), (ap_10, .inr (14, [.ref rp_10, .int 0, .int 0]))][k9]? = some q9 → ¬ A q9.1 := (vN_push hN0b hxp_10)
        have hR : va_P (dC, dI) vwCl [(st, .inl (cS, 48, .inr (.inr (.inr (.inr g))))), (ac, .inr (6, [.int 121, .ref sf, .int am, .int 0, .int 0, .int 0, .int 0, .int 0, .int 0, .int li, .int da, .ref lo])), (ap_10, .inr (14, [.ref rp_10, .int 0, .int 0]))] H := en_R hR0 hN0 hS
        have hPc := (hP.app hR).sub (ws' := [] ++ [(ap_10, .inr (14, [.ref rp_10, .int 0, .int 0]))]) [3] rfl
        have hDc := (en_DD hD hDr hN0 hAb).sub (ws' := [] ++ [(ap_10, .inr (14, [.ref rp_10, .int 0, .int 0]))]) [3] (by decide) rfl
        have hKc := hK.sub (tys' := []) [] rfl
        have hFc := va_free (wc := []) hD hS hA [] rfl
        refine va_callv (va_runV (As := [.int am, .int li]) (rest := []) ⟨hx, hb, hml, hown, hts⟩ (c_X8_age l dC dI b0 en H.size ap_10 rp_10 am li) (cwV 2 hts go_c_age_0 rfl rfl rfl (by decide +kernel) ⟨Nat.le_of_ble_eq_true rfl, Nat.le_of_ble_eq_true rfl⟩) ⟨cP.blind, va_recv hK hR (ci := 14) (q0 := 2) rfl rfl, cP.use (en_z hb0 hS) (hE.on hAb hS) hPc hKc hDc trivial⟩ rfl rfl hl.1 rfl (lv_room (Nat.le_of_ble_eq_true rfl)) dX5_age_40 ⟨Nat.le_of_ble_eq_true rfl, Nat.le_of_ble_eq_true rfl⟩) hS (fun q _ h => hFc q h) hFc (fun u t H1 locs ht hvm hw hB hz1 hk1 hS => ?_)
        have hP1 : va_P (dC, dI) vwCl [] H1 := fun k q h => by simp at h
        have hD1 : va_D (va_A [] H.size) [] := ⟨fun i j p q h => by simp at h, fun k q h => by simp at h⟩
        try dsimp only at hw
        obtain ⟨hP, hD⟩ := va_join (wr := [(q, .inr (11, [.ref st, .ref sp, .ref ll, .int 0, .int x_1]))]) (w1 := []) hP hD [] [0] rfl rfl (by decide) (by decide) hk1 hFc hP1 hD1
        generalize H1 = H at hP hS ⊢
        have hP : va_P (dC, dI) vwCl [(q, .inr (11, [.ref st, .ref sp, .ref ll, .int 0, .int x_1]))] H := hP
        have hD : va_D A [(q, .inr (11, [.ref st, .ref sp, .ref ll, .int 0, .int x_1]))] := hD
        have hR := en_R hR0 hN0 hS
        refine W.widen (k := 0) (n := 0) (Nat.le_of_ble_eq_true rfl) (Nat.le_of_ble_eq_true rfl) ?_
        refine lv_aload_n hx hb dX5_age_43 rfl (lv_at hl 2 rfl) ?_
        refine va_get (D := (dC, dI)) (ci := 11) (v := .ref st) (C := RX5) (T := TX5) (N := 5) hx hb hts (by decide +kernel) hown hK hP 0 rfl rfl 0 (by decide) (hts (.fieldLink RX5 11 "Underpaint$Picture" "stacks" "[LUnderpaint$Stack;") (by decide +kernel)) (fun _ h9 => h9) rfl dX5_age_44 ?_
        refine lv_iload_n hx hb dX5_age_47 rfl (lv_at hl 0 rfl) ?_
        refine va_aldq hx hb hK hR 0 0 rfl rfl (vp_in_nI hk_7 (by decide)) dX5_age_48 ?_
        obtain ⟨ap_12, rp_12, hgp_12, hup_12, hnp_12⟩ := hF0 k_2 hk_7
        refine lv_topv (w := .ref ap_12) (by rw [nI_clamp (by omega), hgp_12]; rfl) ?_
        have hxp_12 : ¬ A ap_12 := by rw [← hAe]; exact vA1 (ws := [(q, .inr (11, [.ref st, .ref sp, .ref ll, .int 0, .int 1600]))]) hup_12.lt (hNw ap_12 hnp_12)
        refine lv_aload_n hx hb dX5_age_49 rfl (lv_at hl 3 rfl) ?_
        refine va_get (D := (dC, dI)) (ci := 6) (v := .int am) (C := RX0) (T := TX0) (N := 12) hx hb hts (by decide +kernel) hown hK hR 1 rfl rfl 2 (by decide) (hts (.fieldLink RX5 144 "Underpaint$Act" "amount" "I") (by decide +kernel)) (fun _ h9 => h9) rfl dX5_age_50 ?_
        refine lv_aload_n hx hb dX5_age_53 rfl (lv_at hl 3 rfl) ?_
        refine va_get (D := (dC, dI)) (ci := 6) (v := .int da) (C := RX0) (T := TX0) (N := 12) hx hb hts (by decide +kernel) hown hK hR 1 rfl rfl 10 (by decide) (hts (.fieldLink RX5 157 "Underpaint$Act" "damp" "I") (by decide +kernel)) (fun _ h9 => h9) rfl dX5_age_54 ?_
        have hR0 : va_P (dC, dI) vwCl [(st, .inl (cS, 48, .inr (.inr (.inr (.inr g))))), (ac, .inr (6, [.int 121, .ref sf, .int am, .int 0, .int 0, .int 0, .int 0, .int 0, .int 0, .int li, .int da, .ref lo])), (ap_12, .inr (14, [.ref rp_12, .int 0, .int 0]))] s.heap := (hR0b.app (va1 hup_12))
        have hDr : va_D (fun q => b0 ≤ q) [(st, .inl (cS, 48, .inr (.inr (.inr (.inr g))))), (ac, .inr (6, [.int 121, .ref sf, .int am, .int 0, .int 0, .int 0, .int 0, .int 0, .int 0, .int li, .int da, .ref lo])), (ap_12, .inr (14, [.ref rp_12, .int 0, .int 0]))] := (vD_push hDrb (hNb ap_12 hnp_12).1 (nR (hNr ap_12 hnp_12)))
        have hN0 : ∀ (k9 : Nat) (q9 : Nat × va_E), [(st, .inl (cS, 48, .inr (.inr (.inr (.inr g))))), (ac, .inr (6, [.int 121, .ref sf, .int am, .int 0, .int 0, .int 0, .int 0, .int 0, .int 0, .int li, .int da, .ref lo])), (ap_12, .inr (14, [.ref rp_12, .int 0, .int 0]))][k9]? = some q9 → ¬ A q9.1 := (vN_push hN0b hxp_12)
        have hR : va_P (dC, dI) vwCl [(st, .inl (cS, 48, .inr (.inr (.inr (.inr g))))), (ac, .inr (6, [.int 121, .ref sf, .int am, .int 0, .int 0, .int 0, .int 0, .int 0, .int 0, .int li, .int da, .ref lo])), (ap_12, .inr (14, [.ref rp_12, .int 0, .int 0]))] H := en_R hR0 hN0 hS
        have hPc := (hP.app hR).sub (ws' := [] ++ [(ap_12, .inr (14, [.ref rp_12, .int 0, .int 0]))]) [3] rfl
        have hDc := (en_DD hD hDr hN0 hAb).sub (ws' := [] ++ [(ap_12, .inr (14, [.ref rp_12, .int 0, .int 0]))]) [3] (by decide) rfl
        have hKc := hK.sub (tys' := []) [] rfl
        have hFc := va_free (wc := []) hD hS hA [] rfl
        refine va_callv (va_runV (As := [.int am, .int da]) (rest := []) ⟨hx, hb, hml, hown, hts⟩ (c_X8_wear l dC dI b0 en H.size ap_12 rp_12 am da) (cwV 2 hts go_c_age_1 rfl rfl rfl (by decide +kernel) ⟨Nat.le_of_ble_eq_true rfl, Nat.le_of_ble_eq_true rfl⟩) ⟨cP.blind, va_recv hK hR (ci := 14) (q0 := 2) rfl rfl, cP.use (en_z hb0 hS) (hE.on hAb hS) hPc hKc hDc trivial⟩ rfl rfl hl.1 rfl (lv_room (Nat.le_of_ble_eq_true rfl)) dX5_age_57 ⟨Nat.le_of_ble_eq_true rfl, Nat.le_of_ble_eq_true rfl⟩) hS (fun q _ h => hFc q h) hFc (fun u t H1 locs ht hvm hw hB hz1 hk1 hS => ?_)
        have hP1 : va_P (dC, dI) vwCl [] H1 := fun k q h => by simp at h
        have hD1 : va_D (va_A [] H.size) [] := ⟨fun i j p q h => by simp at h, fun k q h => by simp at h⟩
        try dsimp only at hw
        obtain ⟨hP, hD⟩ := va_join (wr := [(q, .inr (11, [.ref st, .ref sp, .ref ll, .int 0, .int x_1]))]) (w1 := []) hP hD [] [0] rfl rfl (by decide) (by decide) hk1 hFc hP1 hD1
        generalize H1 = H at hP hS ⊢
        have hP : va_P (dC, dI) vwCl [(q, .inr (11, [.ref st, .ref sp, .ref ll, .int 0, .int x_1]))] H := hP
        have hD : va_D A [(q, .inr (11, [.ref st, .ref sp, .ref ll, .int 0, .int x_1]))] := hD
        have hR := en_R hR0 hN0 hS
        refine W.widen (k := 0) (n := 0) (Nat.le_of_ble_eq_true rfl) (Nat.le_of_ble_eq_true rfl) ?_
        refine lv_aload_n hx hb dX5_age_60 rfl (lv_at hl 2 rfl) ?_
        refine va_get (D := (dC, dI)) (ci := 11) (v := .ref st) (C := RX5) (T := TX5) (N := 5) hx hb hts (by decide +kernel) hown hK hP 0 rfl rfl 0 (by decide) (hts (.fieldLink RX5 11 "Underpaint$Picture" "stacks" "[LUnderpaint$Stack;") (by decide +kernel)) (fun _ h9 => h9) rfl dX5_age_61 ?_
        refine lv_iload_n hx hb dX5_age_64 rfl (lv_at hl 0 rfl) ?_
        refine va_aldq hx hb hK hR 0 0 rfl rfl (vp_in_nI hk_7 (by decide)) dX5_age_65 ?_
        obtain ⟨ap_14, rp_14, hgp_14, hup_14, hnp_14⟩ := hF0 k_2 hk_7
        refine lv_topv (w := .ref ap_14) (by rw [nI_clamp (by omega), hgp_14]; rfl) ?_
        have hxp_14 : ¬ A ap_14 := by rw [← hAe]; exact vA1 (ws := [(q, .inr (11, [.ref st, .ref sp, .ref ll, .int 0, .int 1600]))]) hup_14.lt (hNw ap_14 hnp_14)
        refine lv_aload_n hx hb dX5_age_66 rfl (lv_at hl 2 rfl) ?_
        refine va_get (D := (dC, dI)) (ci := 11) (v := .int x_1) (C := RX5) (T := TX5) (N := 5) hx hb hts (by decide +kernel) hown hK hP 0 rfl rfl 4 (by decide) (hts (.fieldLink RX5 24 "Underpaint$Picture" "yearNow" "I") (by decide +kernel)) (fun _ h9 => h9) rfl dX5_age_67 ?_
        refine lv_bipush (v := 10) hx hb dX5_age_70 (by decide) ?_
        refine lv_idiv hx hb dX5_age_72 (by decide) ?_
        refine lv_topi (fun x_15 ex_15 => ?_)
        refine lv_iload_n hx hb dX5_age_73 rfl (lv_at hl 1 rfl) ?_
        refine lv_bipush (v := 10) hx hb dX5_age_74 (by decide) ?_
        refine lv_idiv hx hb dX5_age_76 (by decide) ?_
        refine lv_topi (fun x_16 ex_16 => ?_)
        obtain rfl : x_16 = 160 := ex_16.trans (by decide)
        refine lv_isub hx hb dX5_age_77 ?_
        refine lv_topi (fun x_17 ex_17 => ?_)
        have hR0 : va_P (dC, dI) vwCl [(st, .inl (cS, 48, .inr (.inr (.inr (.inr g))))), (ac, .inr (6, [.int 121, .ref sf, .int am, .int 0, .int 0, .int 0, .int 0, .int 0, .int 0, .int li, .int da, .ref lo])), (ap_14, .inr (14, [.ref rp_14, .int 0, .int 0]))] s.heap := (hR0b.app (va1 hup_14))
        have hDr : va_D (fun q => b0 ≤ q) [(st, .inl (cS, 48, .inr (.inr (.inr (.inr g))))), (ac, .inr (6, [.int 121, .ref sf, .int am, .int 0, .int 0, .int 0, .int 0, .int 0, .int 0, .int li, .int da, .ref lo])), (ap_14, .inr (14, [.ref rp_14, .int 0, .int 0]))] := (vD_push hDrb (hNb ap_14 hnp_14).1 (nR (hNr ap_14 hnp_14)))
        have hN0 : ∀ (k9 : Nat) (q9 : Nat × va_E), [(st, .inl (cS, 48, .inr (.inr (.inr (.inr g))))), (ac, .inr (6, [.int 121, .ref sf, .int am, .int 0, .int 0, .int 0, .int 0, .int 0, .int 0, .int li, .int da, .ref lo])), (ap_14, .inr (14, [.ref rp_14, .int 0, .int 0]))][k9]? = some q9 → ¬ A q9.1 := (vN_push hN0b hxp_14)
        have hR : va_P (dC, dI) vwCl [(st, .inl (cS, 48, .inr (.inr (.inr (.inr g))))), (ac, .inr (6, [.int 121, .ref sf, .int am, .int 0, .int 0, .int 0, .int 0, .int 0, .int 0, .int li, .int da, .ref lo])), (ap_14, .inr (14, [.ref rp_14, .int 0, .int 0]))] H := en_R hR0 hN0 hS
        have hPc := (hP.app hR).sub (ws' := [] ++ [(ap_14, .inr (14, [.ref rp_14, .int 0, .int 0]))]) [3] rfl
        have hDc := (en_DD hD hDr hN0 hAb).sub (ws' := [] ++ [(ap_14, .inr (14, [.ref rp_14, .int 0, .int 0]))]) [3] (by decide) rfl
        have hKc := hK.sub (tys' := []) [] rfl
        have hFc := va_free (wc := []) hD hS hA [] rfl
        refine va_callv (va_runV (As := [.int x_17]) (rest := []) ⟨hx, hb, hml, hown, hts⟩ (c_X8_turnYellow l dC dI b0 en H.size ap_14 rp_14 x_17) (cwV 1 hts go_c_age_2 rfl rfl rfl (by decide +kernel) ⟨Nat.le_of_ble_eq_true rfl, Nat.le_of_ble_eq_true rfl⟩) ⟨cP.blind, va_recv hK hR (ci := 14) (q0 := 2) rfl rfl, cP.use (en_z hb0 hS) (hE.on hAb hS) hPc hKc hDc trivial⟩ rfl rfl hl.1 rfl (lv_room (Nat.le_of_ble_eq_true rfl)) dX5_age_78 ⟨Nat.le_of_ble_eq_true rfl, Nat.le_of_ble_eq_true rfl⟩) hS (fun q _ h => hFc q h) hFc (fun u t H1 locs ht hvm hw hB hz1 hk1 hS => ?_)
        have hP1 : va_P (dC, dI) vwCl [] H1 := fun k q h => by simp at h
        have hD1 : va_D (va_A [] H.size) [] := ⟨fun i j p q h => by simp at h, fun k q h => by simp at h⟩
        try dsimp only at hw
        obtain ⟨hP, hD⟩ := va_join (wr := [(q, .inr (11, [.ref st, .ref sp, .ref ll, .int 0, .int x_1]))]) (w1 := []) hP hD [] [0] rfl rfl (by decide) (by decide) hk1 hFc hP1 hD1
        generalize H1 = H at hP hS ⊢
        have hP : va_P (dC, dI) vwCl [(q, .inr (11, [.ref st, .ref sp, .ref ll, .int 0, .int x_1]))] H := hP
        have hD : va_D A [(q, .inr (11, [.ref st, .ref sp, .ref ll, .int 0, .int x_1]))] := hD
        have hR := en_R hR0 hN0 hS
        refine W.widen (k := 0) (n := 0) (Nat.le_of_ble_eq_true rfl) (Nat.le_of_ble_eq_true rfl) ?_
        obtain ⟨x_19, ex_19⟩ : ∃ y : Int32, y = (nI k_2) + 1 := ⟨_, rfl⟩
        refine lv_iinc (v := x_19) (lv' := [(3, .int x_19), (2, .int 1600), (0, .ref q), (1, .ref ac)]) hx hb dX5_age_81 hl (k := 0) rfl (by rw [ex_19]; rfl) (by decide) rfl (fun ls hl => ?_)
        have hy : x_19 = nI (k_2 + 1) := by rw [ex_19]; exact nI_1 k_2
        subst hy
        refine lv_goto (tgt := 20) hx hb dX5_age_84 (by decide) ?_
        exact ih (k_2 + 1) (by omega)  _ _ hP hD hS _ (lv_sub hl [0, 1, 2, 3] rfl)
  exact loop_20 48 0 rfl  _ _ hP hD hS ls (lv_sub hl [0, 1, 2, 3] rfl)

def wo_c_perform_y_w : List Cond := [Cond.fieldLink RX5 84 "Underpaint$Act" "letter" "I"]
def wo_c_perform_y : List Cond := .code yX5_perform cX5_perform 2 (some .int) :: (wo_c_perform_y_w ++ (u_ws RX0 TX0 12 ++ (wsV RX5 112 RX5 yX5_age wo_c_age ++ List.nil)))
theorem gw_wo_c_perform_y : wo_c_perform_y.all goodWord = true := gw_c (by decide +kernel) (gw_a (by decide +kernel) (gw_a (by decide +kernel) (gw_a (gw_a (by decide +kernel) gw_wo_c_age) rfl)))
theorem go_c_perform_y_0 : GoodIn wo_c_perform_y (wsV RX5 112 RX5 yX5_age wo_c_age) := goodIn_sub (fun _ h => List.mem_cons_of_mem _ (List.mem_append_right _ (List.mem_append_right _ (List.mem_append_left _ h)))) (gw_a (by decide +kernel) gw_wo_c_age)
set_option maxHeartbeats 4000000 in
set_option maxRecDepth 100000 in
/-- perform(years) -/
theorem c_perform_y (l : Launch) (dC : Nat → ClassId) (dI : Nat → Nat → Nat) (b0 : Nat) (en : EnT) (sz : Nat) (q st sp ll : Nat) (g : Nat → Option Nat) (cS : ClassId) (N : Nat → Prop) (ac sf lo : Nat) (am li da : Int32) (hNb : ∀ a, N a → b0 ≤ a ∧ a < sz) (hNw : ∀ a, N a → a ∉ List.map Prod.fst ([(q, .inr (11, [.ref st, .ref sp, .ref ll, .int 0, .int 1600]))] : va_W)) (hNr : ∀ a, N a → a ∉ List.map Prod.fst ([(st, .inl (cS, 48, .inr (.inr (.inr (.inr g))))), (ac, .inr (6, [.int 121, .ref sf, .int am, .int 0, .int 0, .int 0, .int 0, .int 0, .int 0, .int li, .int da, .ref lo]))] : va_W)) : Met l yX5_perform wo_c_perform_y ({ frames := 3, cells := 0, slots := 0, locals := 87 } : Room) (cP b0 en (dC, dI) [(cS, .object "Underpaint$Stack")] [(q, .inr (11, [.ref st, .ref sp, .ref ll, .int 0, .int 1600]))] [(st, .inl (cS, 48, .inr (.inr (.inr (.inr g))))), (ac, .inr (6, [.int 121, .ref sf, .int am, .int 0, .int 0, .int 0, .int 0, .int 0, .int 0, .int li, .int da, .ref lo]))] sz (FamS (dC, dI) N g) [.ref q, .ref ac]) (va_Qi (fun (r : Int32) (_ : Unit) => r = 1600 + am) (fun _ _ => True) (va_A [(q, .inr (11, [.ref st, .ref sp, .ref ll, .int 0, .int 1600]))] sz)) 0 0 (va_A [(q, .inr (11, [.ref st, .ref sp, .ref ll, .int 0, .int 1600]))] sz) := by
  refine Met.ofW (cc := cX5_perform) (maxL := 2) (ret := (some .int)) (by decide) rfl ?_
  intro p e s m args below meth c s₁ B hml hv
  obtain ⟨rfl, hsz, hb0, hE, hPP, hK, hDD, hF0⟩ := hv
  have hx := B.exec
  have hb := B.bytes
  have hr := B.returns
  have hts := atoms_spec (ws := wo_c_perform_y) B.pre
  have hown : s.vm.findClass RX5 = some m.cls := findClass_of_methodNamed B.named
  have hlocks := B.notSynchronized
  subst hsz
  have hN0 := en_N hPP hDD rfl
  have hP : va_P (dC, dI) vwCl [(q, .inr (11, [.ref st, .ref sp, .ref ll, .int 0, .int 1600]))] s.heap := hPP.sub [0] rfl
  have hR0 : va_P (dC, dI) vwCl [(st, .inl (cS, 48, .inr (.inr (.inr (.inr g))))), (ac, .inr (6, [.int 121, .ref sf, .int am, .int 0, .int 0, .int 0, .int 0, .int 0, .int 0, .int li, .int da, .ref lo]))] s.heap := hPP.sub [1, 2] rfl
  have hD0 : va_D (fun q => b0 ≤ q) [(q, .inr (11, [.ref st, .ref sp, .ref ll, .int 0, .int 1600]))] := hDD.sub [0] (by decide) rfl
  have hDr : va_D (fun q => b0 ≤ q) [(st, .inl (cS, 48, .inr (.inr (.inr (.inr g))))), (ac, .inr (6, [.int 121, .ref sf, .int am, .int 0, .int 0, .int 0, .int 0, .int 0, .int 0, .int li, .int da, .ref lo]))] := hDD.sub [1, 2] (by decide) rfl
  have hAb := en_A (sz := s.heap.size) hD0 hb0
  have hD := hD0.self (sz := s.heap.size)
  generalize hAe : va_A [(q, .inr (11, [.ref st, .ref sp, .ref ll, .int 0, .int 1600]))] s.heap.size = A at hD hAb hN0 ⊢
  have hA : ∀ q : Nat, s.heap.size ≤ q → A q := fun q h => by rw [← hAe]; exact Or.inr h
  have hS : va_S A s.heap s.heap [] := va_S.rf
  have hR := hR0
  have hl := lv_entry [.ref q, .ref ac] (n := 2) (Nat.le_of_ble_eq_true rfl)
  rw [lg_entry_eq]
  generalize (lg_sl [.ref q, .ref ac] ++ List.replicate (2 - (lg_sl [.ref q, .ref ac]).length) Slot.unset).toArray = ls at hl ⊢
  have hl : lv_has ls 2 [(0, .ref q), (1, .ref ac)] := hl
  have hR0b := hR0
  have hDrb := hDr
  have hN0b := hN0
  refine lv_aload_n hx hb dX5_perform_0 rfl (lv_at hl 1 rfl) ?_
  refine va_get (D := (dC, dI)) (ci := 6) (v := .int 121) (C := RX0) (T := TX0) (N := 12) hx hb hts (by decide +kernel) hown hK hR 1 rfl rfl 0 (by decide) (hts (.fieldLink RX5 84 "Underpaint$Act" "letter" "I") (by decide +kernel)) (fun _ h9 => h9) rfl dX5_perform_1 ?_
  refine lv_tableIn (off := 102) (tgt := 106) hx hb dX5_perform_4 (by decide) (by decide) (by decide) (by decide) ?_
  refine lv_aload_n hx hb dX5_perform_106 rfl (lv_at hl 0 rfl) ?_
  refine lv_aload_n hx hb dX5_perform_107 rfl (lv_at hl 1 rfl) ?_
  have hPc := (hP.app hR).sub (ws' := [(q, .inr (11, [.ref st, .ref sp, .ref ll, .int 0, .int 1600]))] ++ [(st, .inl (cS, 48, .inr (.inr (.inr (.inr g))))), (ac, .inr (6, [.int 121, .ref sf, .int am, .int 0, .int 0, .int 0, .int 0, .int 0, .int 0, .int li, .int da, .ref lo]))]) [0, 1, 2] rfl
  have hDc := (en_DD hD hDr hN0 hAb).sub (ws' := [(q, .inr (11, [.ref st, .ref sp, .ref ll, .int 0, .int 1600]))] ++ [(st, .inl (cS, 48, .inr (.inr (.inr (.inr g))))), (ac, .inr (6, [.int 121, .ref sf, .int am, .int 0, .int 0, .int 0, .int 0, .int 0, .int 0, .int li, .int da, .ref lo]))]) [0, 1, 2] (by decide) rfl
  have hKc := hK.sub (tys' := [(cS, .object "Underpaint$Stack")]) [0] rfl
  have hFc := va_free (wc := [(q, .inr (11, [.ref st, .ref sp, .ref ll, .int 0, .int 1600]))]) hD hS hA [0] rfl
  refine va_calli (va_runV (As := [.ref ac]) (rest := []) ⟨hx, hb, hml, hown, hts⟩ (c_age l dC dI b0 en s.heap.size q st sp ll g cS N ac sf lo am li da (fun a9 h9 => ⟨(hNb a9 h9).1, Nat.lt_of_lt_of_le (hNb a9 h9).2 hS.1⟩) (fun a9 h9 z9 => by have g1 := hNw a9 h9; have g2 := hNr a9 h9; have g3 := (hNb a9 h9).2; simp only [List.map_cons, List.map_nil, List.mem_cons, List.not_mem_nil, or_false, not_or] at g1 g2 z9 <;> omega) (fun a9 h9 z9 => by have g1 := hNw a9 h9; have g2 := hNr a9 h9; have g3 := (hNb a9 h9).2; simp only [List.map_cons, List.map_nil, List.mem_cons, List.not_mem_nil, or_false, not_or] at g1 g2 z9 <;> omega)) (cwV 1 hts go_c_perform_y_0 rfl rfl rfl (by decide +kernel) ⟨Nat.le_of_ble_eq_true rfl, Nat.le_of_ble_eq_true rfl⟩) ⟨cP.blind, va_recv hK hP (ci := 11) (q0 := 0) rfl rfl, cP.use (en_z hb0 hS) (hE.on hAb hS) hPc hKc hDc (hF0.on (fun a9 h8 h9 => by rw [← hAe]; exact vA1 h8 (hNw a9 h9)) hS)⟩ rfl rfl hl.1 rfl (lv_room (Nat.le_of_ble_eq_true rfl)) dX5_perform_108 ⟨Nat.le_of_ble_eq_true rfl, Nat.le_of_ble_eq_true rfl⟩) hS (fun q _ h => hFc q h) hFc (fun r_1 u t H1 locs ht hvm hw hB hz1 hk1 hS => ?_)
  have hP1 : va_P (dC, dI) vwCl [] H1 := fun k q h => by simp at h
  have hD1 : va_D (va_A [(q, .inr (11, [.ref st, .ref sp, .ref ll, .int 0, .int 1600]))] s.heap.size) [] := ⟨fun i j p q h => by simp at h, fun k q h => by simp at h⟩
  try dsimp only at hw
  obtain ⟨hP, hD⟩ := va_join (wr := []) (w1 := []) hP hD [0] [] rfl rfl (by decide) (by decide) hk1 hFc hP1 hD1
  generalize H1 = H at hP hS ⊢
  have hP : va_P (dC, dI) vwCl [] H := hP
  have hD : va_D A [] := hD
  have hR := en_R hR0 hN0 hS
  refine W.widen (k := 0) (n := 0) (Nat.le_of_ble_eq_true rfl) (Nat.le_of_ble_eq_true rfl) ?_
  subst r_1
  refine W.widen (k := 0) (n := 0) (Nat.le_of_ble_eq_true rfl) (Nat.le_of_ble_eq_true rfl) ?_
  exact W.iret (v := (1600 + am)) hx hb hr (fun t ht hW => ⟨⟨(1600 + am), (), rfl, rfl, trivial⟩, hS.F ht⟩) hS.2.2 dX5_perform_111

set_option maxRecDepth 100000 in
theorem gw_wsX11_demandPossible : wsX11_demandPossible.all goodWord = true := by decide +kernel
def wo_c_enter_y_w : List Cond := [Cond.fieldLink RX11 62 "Underpaint" "picture" "LUnderpaint$Picture;", Cond.fieldLink RX11 19 "Underpaint" "file" "Ljava/util/ArrayList;"]
def wo_c_enter_y : List Cond := .code yX11_enter cX11_enter 2 (some .int) :: (wo_c_enter_y_w ++ (u_ws RX11 TX11 14 ++ (wsV RX11 427 RX5 yX5_canBear wo_c_canBear_y ++ (va_wsS RX11 142 yX11_demandPossible wsX11_demandPossible ++ (wsV RX11 95 RJx4a65c yJx4a65c_size_8abf5 wsJx4a65c_size_8abf5 ++ (va_wsS RX11 99 yX11_demandRoom wsX11_demandRoom ++ (wsV RX11 127 RJx4a65c yJx4a65c_add_9ea2d wsJx4a65c_add_9ea2d ++ (wsV RX11 431 RX5 yX5_perform wo_c_perform_y ++ List.nil))))))))
theorem gw_wo_c_enter_y : wo_c_enter_y.all goodWord = true := gw_c (by decide +kernel) (gw_a (by decide +kernel) (gw_a (by decide +kernel) (gw_a (gw_a (by decide +kernel) gw_wo_c_canBear_y) (gw_a (gw_a (by decide +kernel) gw_wsX11_demandPossible) (gw_a (gw_a (by decide +kernel) gw_wsJx4a65c_size_8abf5) (gw_a (gw_a (by decide +kernel) gw_wsX11_demandRoom) (gw_a (gw_a (by decide +kernel) gw_wsJx4a65c_add_9ea2d) (gw_a (gw_a (by decide +kernel) gw_wo_c_perform_y) rfl))))))))
theorem go_c_enter_y_0 : GoodIn wo_c_enter_y (wsV RX11 427 RX5 yX5_canBear wo_c_canBear_y) := goodIn_sub (fun _ h => List.mem_cons_of_mem _ (List.mem_append_right _ (List.mem_append_right _ (List.mem_append_left _ h)))) (gw_a (by decide +kernel) gw_wo_c_canBear_y)
theorem go_c_enter_y_1 : GoodIn wo_c_enter_y (va_wsS RX11 142 yX11_demandPossible wsX11_demandPossible) := goodIn_sub (fun _ h => List.mem_cons_of_mem _ (List.mem_append_right _ (List.mem_append_right _ (List.mem_append_right _ (List.mem_append_left _ h))))) (gw_a (by decide +kernel) gw_wsX11_demandPossible)
theorem go_c_enter_y_2 : GoodIn wo_c_enter_y (wsV RX11 95 RJx4a65c yJx4a65c_size_8abf5 wsJx4a65c_size_8abf5) := goodIn_sub (fun _ h => List.mem_cons_of_mem _ (List.mem_append_right _ (List.mem_append_right _ (List.mem_append_right _ (List.mem_append_right _ (List.mem_append_left _ h)))))) (gw_a (by decide +kernel) gw_wsJx4a65c_size_8abf5)
theorem go_c_enter_y_3 : GoodIn wo_c_enter_y (va_wsS RX11 99 yX11_demandRoom wsX11_demandRoom) := goodIn_sub (fun _ h => List.mem_cons_of_mem _ (List.mem_append_right _ (List.mem_append_right _ (List.mem_append_right _ (List.mem_append_right _ (List.mem_append_right _ (List.mem_append_left _ h))))))) (gw_a (by decide +kernel) gw_wsX11_demandRoom)
theorem go_c_enter_y_4 : GoodIn wo_c_enter_y (wsV RX11 127 RJx4a65c yJx4a65c_add_9ea2d wsJx4a65c_add_9ea2d) := goodIn_sub (fun _ h => List.mem_cons_of_mem _ (List.mem_append_right _ (List.mem_append_right _ (List.mem_append_right _ (List.mem_append_right _ (List.mem_append_right _ (List.mem_append_right _ (List.mem_append_left _ h)))))))) (gw_a (by decide +kernel) gw_wsJx4a65c_add_9ea2d)
theorem go_c_enter_y_5 : GoodIn wo_c_enter_y (wsV RX11 431 RX5 yX5_perform wo_c_perform_y) := goodIn_sub (fun _ h => List.mem_cons_of_mem _ (List.mem_append_right _ (List.mem_append_right _ (List.mem_append_right _ (List.mem_append_right _ (List.mem_append_right _ (List.mem_append_right _ (List.mem_append_right _ (List.mem_append_left _ h))))))))) (gw_a (by decide +kernel) gw_wo_c_perform_y)
set_option maxHeartbeats 4000000 in
set_option maxRecDepth 100000 in
/-- enter -/
theorem c_enter_y (l : Launch) (hst : l.stackTraces = false) (dC : Nat → ClassId) (dI : Nat → Nat → Nat) (b0 : Nat) (en : EnT) (sz : Nat) (h pal she fil nte dat vot loa nos pic spa : Nat) (st sp ll : Nat) (g : Nat → Option Nat) (cS : ClassId) (N : Nat → Prop) (ac sf lo : Nat) (am li da : Int32) (hNb : ∀ a, N a → b0 ≤ a ∧ a < sz) (hNw : ∀ a, N a → a ∉ List.map Prod.fst ([(fil, .inr (5, [.int 0, .ref en.2.2.1, .int 0])), (pic, .inr (11, [.ref st, .ref sp, .ref ll, .int 0, .int 1600]))] : va_W)) (hNr : ∀ a, N a → a ∉ List.map Prod.fst ([(h, .inr (17, [.ref pal, .ref she, .ref fil, .ref nte, .ref dat, .ref vot, .ref loa, .ref nos, .ref pic, .ref spa, .int 5, .int 50, .int 1600, .int 0])), (st, .inl (cS, 48, .inr (.inr (.inr (.inr g))))), (ac, .inr (6, [.int 121, .ref sf, .int am, .int 0, .int 0, .int 0, .int 0, .int 0, .int 0, .int li, .int da, .ref lo]))] : va_W)) : vx_Met l yX11_enter wo_c_enter_y ({ frames := 7, cells := 3, slots := 22, locals := 127 } : Room) (cP b0 en (dC, dI) [(cS, .object "Underpaint$Stack")] [(fil, .inr (5, [.int 0, .ref en.2.2.1, .int 0])), (pic, .inr (11, [.ref st, .ref sp, .ref ll, .int 0, .int 1600]))] [(h, .inr (17, [.ref pal, .ref she, .ref fil, .ref nte, .ref dat, .ref vot, .ref loa, .ref nos, .ref pic, .ref spa, .int 5, .int 50, .int 1600, .int 0])), (st, .inl (cS, 48, .inr (.inr (.inr (.inr g))))), (ac, .inr (6, [.int 121, .ref sf, .int am, .int 0, .int 0, .int 0, .int 0, .int 0, .int 0, .int li, .int da, .ref lo]))] sz (FamS (dC, dI) N g) [.ref h, .ref ac]) (va_Qi (fun (r : Int32) (_ : Unit) => r = 1600 + am) (fun _ _ => True) (va_A [(fil, .inr (5, [.int 0, .ref en.2.2.1, .int 0])), (pic, .inr (11, [.ref st, .ref sp, .ref ll, .int 0, .int 1600]))] sz)) (vx_X (fun _ : Unit => True) (fun E _ _ => (E = "java/lang/UnsupportedOperationException" ∧ False)) (va_A [(fil, .inr (5, [.int 0, .ref en.2.2.1, .int 0])), (pic, .inr (11, [.ref st, .ref sp, .ref ll, .int 0, .int 1600]))] sz)) 3 22 (va_A [(fil, .inr (5, [.int 0, .ref en.2.2.1, .int 0])), (pic, .inr (11, [.ref st, .ref sp, .ref ll, .int 0, .int 1600]))] sz) := by
  refine vx_ofW (cc := cX11_enter) (maxL := 2) (ret := (some .int)) (by decide) rfl ?_
  intro p e s m args below meth c s₁ B hml hext hv
  obtain ⟨rfl, hsz, hb0, hE, hPP, hK, hDD, hF0⟩ := hv
  have hx := B.exec
  have hb := B.bytes
  have hr := B.returns
  have hts := atoms_spec (ws := wo_c_enter_y) B.pre
  have hown : s.vm.findClass RX11 = some m.cls := findClass_of_methodNamed B.named
  have hlocks := B.notSynchronized
  subst hsz
  have hN0 := en_N hPP hDD rfl
  have hP : va_P (dC, dI) vwCl [(fil, .inr (5, [.int 0, .ref en.2.2.1, .int 0])), (pic, .inr (11, [.ref st, .ref sp, .ref ll, .int 0, .int 1600]))] s.heap := hPP.sub [0, 1] rfl
  have hR0 : va_P (dC, dI) vwCl [(h, .inr (17, [.ref pal, .ref she, .ref fil, .ref nte, .ref dat, .ref vot, .ref loa, .ref nos, .ref pic, .ref spa, .int 5, .int 50, .int 1600, .int 0])), (st, .inl (cS, 48, .inr (.inr (.inr (.inr g))))), (ac, .inr (6, [.int 121, .ref sf, .int am, .int 0, .int 0, .int 0, .int 0, .int 0, .int 0, .int li, .int da, .ref lo]))] s.heap := hPP.sub [2, 3, 4] rfl
  have hD0 : va_D (fun q => b0 ≤ q) [(fil, .inr (5, [.int 0, .ref en.2.2.1, .int 0])), (pic, .inr (11, [.ref st, .ref sp, .ref ll, .int 0, .int 1600]))] := hDD.sub [0, 1] (by decide) rfl
  have hDr : va_D (fun q => b0 ≤ q) [(h, .inr (17, [.ref pal, .ref she, .ref fil, .ref nte, .ref dat, .ref vot, .ref loa, .ref nos, .ref pic, .ref spa, .int 5, .int 50, .int 1600, .int 0])), (st, .inl (cS, 48, .inr (.inr (.inr (.inr g))))), (ac, .inr (6, [.int 121, .ref sf, .int am, .int 0, .int 0, .int 0, .int 0, .int 0, .int 0, .int li, .int da, .ref lo]))] := hDD.sub [2, 3, 4] (by decide) rfl
  have hAb := en_A (sz := s.heap.size) hD0 hb0
  have hD := hD0.self (sz := s.heap.size)
  generalize hAe : va_A [(fil, .inr (5, [.int 0, .ref en.2.2.1, .int 0])), (pic, .inr (11, [.ref st, .ref sp, .ref ll, .int 0, .int 1600]))] s.heap.size = A at hD hAb hN0 ⊢
  have hA : ∀ q : Nat, s.heap.size ≤ q → A q := fun q h => by rw [← hAe]; exact Or.inr h
  have hS : va_S A s.heap s.heap [] := va_S.rf
  have hR := hR0
  have hl := lv_entry [.ref h, .ref ac] (n := 2) (Nat.le_of_ble_eq_true rfl)
  rw [lg_entry_eq]
  generalize (lg_sl [.ref h, .ref ac] ++ List.replicate (2 - (lg_sl [.ref h, .ref ac]).length) Slot.unset).toArray = ls at hl ⊢
  have hl : lv_has ls 2 [(0, .ref h), (1, .ref ac)] := hl
  have hR0b := hR0
  have hDrb := hDr
  have hN0b := hN0
  refine lv_aload_n hx hb dX11_enter_0 rfl (lv_at hl 0 rfl) ?_
  refine va_get (D := (dC, dI)) (ci := 17) (v := .ref pic) (C := RX11) (T := TX11) (N := 14) hx hb hts (by decide +kernel) hown hK hR 0 rfl rfl 8 (by decide) (hts (.fieldLink RX11 62 "Underpaint" "picture" "LUnderpaint$Picture;") (by decide +kernel)) (fun _ h9 => h9) rfl dX11_enter_1 ?_
  refine lv_aload_n hx hb dX11_enter_4 rfl (lv_at hl 1 rfl) ?_
  have hPc := (hP.app hR).sub (ws' := [] ++ [(pic, .inr (11, [.ref st, .ref sp, .ref ll, .int 0, .int 1600])), (st, .inl (cS, 48, .inr (.inr (.inr (.inr g))))), (ac, .inr (6, [.int 121, .ref sf, .int am, .int 0, .int 0, .int 0, .int 0, .int 0, .int 0, .int li, .int da, .ref lo]))]) [1, 3, 4] rfl
  have hDc := (en_DD hD hDr hN0 hAb).sub (ws' := [] ++ [(pic, .inr (11, [.ref st, .ref sp, .ref ll, .int 0, .int 1600])), (st, .inl (cS, 48, .inr (.inr (.inr (.inr g))))), (ac, .inr (6, [.int 121, .ref sf, .int am, .int 0, .int 0, .int 0, .int 0, .int 0, .int 0, .int li, .int da, .ref lo]))]) [1, 3, 4] (by decide) rfl
  have hKc := hK.sub (tys' := [(cS, .object "Underpaint$Stack")]) [0] rfl
  have hFc := va_free (wc := []) hD hS hA [] rfl
  refine va_calli (va_runV (As := [.ref ac]) (rest := []) ⟨hx, hb, hml, hown, hts⟩ (c_canBear_y l dC dI b0 en s.heap.size pic st sp ll g cS N ac sf lo am li da (fun a9 h9 => ⟨(hNb a9 h9).1, Nat.lt_of_lt_of_le (hNb a9 h9).2 hS.1⟩) (fun a9 h9 z9 => by have g1 := hNw a9 h9; have g2 := hNr a9 h9; have g3 := (hNb a9 h9).2; simp only [List.map_cons, List.map_nil, List.mem_cons, List.not_mem_nil, or_false, not_or] at g1 g2 z9 <;> omega) (fun a9 h9 z9 => by have g1 := hNw a9 h9; have g2 := hNr a9 h9; have g3 := (hNb a9 h9).2; simp only [List.map_cons, List.map_nil, List.mem_cons, List.not_mem_nil, or_false, not_or] at g1 g2 z9 <;> omega)) (cwV 1 hts go_c_enter_y_0 rfl rfl rfl (by decide +kernel) ⟨Nat.le_of_ble_eq_true rfl, Nat.le_of_ble_eq_true rfl⟩) ⟨cP.blind, va_recv hK hP (ci := 11) (q0 := 1) rfl rfl, cP.use (en_z hb0 hS) (hE.on hAb hS) hPc hKc hDc (hF0.on (fun a9 h8 h9 => by rw [← hAe]; exact vA1 h8 (hNw a9 h9)) hS)⟩ rfl rfl hl.1 rfl (lv_room (Nat.le_of_ble_eq_true rfl)) dX11_enter_5 ⟨Nat.le_of_ble_eq_true rfl, Nat.le_of_ble_eq_true rfl⟩) hS (fun q _ h => hFc q h) hFc (fun r_1 u t H1 locs ht hvm hw hB hz1 hk1 hS => ?_)
  have hP1 : va_P (dC, dI) vwCl [] H1 := fun k q h => by simp at h
  have hD1 : va_D (va_A [] s.heap.size) [] := ⟨fun i j p q h => by simp at h, fun k q h => by simp at h⟩
  try dsimp only at hw
  obtain ⟨hP, hD⟩ := va_join (wr := [(fil, .inr (5, [.int 0, .ref en.2.2.1, .int 0])), (pic, .inr (11, [.ref st, .ref sp, .ref ll, .int 0, .int 1600]))]) (w1 := []) hP hD [] [0, 1] rfl rfl (by decide) (by decide) hk1 hFc hP1 hD1
  generalize H1 = H at hP hS ⊢
  have hP : va_P (dC, dI) vwCl [(fil, .inr (5, [.int 0, .ref en.2.2.1, .int 0])), (pic, .inr (11, [.ref st, .ref sp, .ref ll, .int 0, .int 1600]))] H := hP
  have hD : va_D A [(fil, .inr (5, [.int 0, .ref en.2.2.1, .int 0])), (pic, .inr (11, [.ref st, .ref sp, .ref ll, .int 0, .int 1600]))] := hD
  have hR := en_R hR0 hN0 hS
  refine W.widen (k := 0) (n := 0) (Nat.le_of_ble_eq_true rfl) (Nat.le_of_ble_eq_true rfl) ?_
  subst r_1
  have hPc := (hP.app hR).sub (ws' := [] ++ []) [] rfl
  have hDc := (en_DD hD hDr hN0 hAb).sub (ws' := [] ++ []) [] (by decide) rfl
  have hKc := hK.sub (tys' := []) [] rfl
  have hFc := va_free (wc := []) hD hS hA [] rfl
  refine vx_callv (vx_runS (As := [.int 1]) (rest := []) ⟨hx, hb, hml, hown, hts⟩ (c_X11_demandPossible l hst dC dI b0 en H.size 1) (va_cwS 1 hts go_c_enter_y_1 rfl rfl rfl (by decide +kernel) ⟨Nat.le_of_ble_eq_true rfl, Nat.le_of_ble_eq_true rfl⟩) ⟨cP.blind, cP.use (en_z hb0 hS) (hE.on hAb hS) hPc hKc hDc trivial⟩ rfl rfl hl.1 rfl (lv_room (Nat.le_of_ble_eq_true rfl)) dX11_enter_8 ⟨Nat.le_of_ble_eq_true rfl, Nat.le_of_ble_eq_true rfl⟩) hS (fun q _ h => hFc q h) hFc (fun q _ h => hFc q h) (fun E ce q9 u t H1 locs ht hvm hpx hBX hz1 hk1 hS hce hcv hcl => ?_) (fun u t H1 locs ht hvm hw hB hz1 hk1 hS => ?_)
  · skip
    try dsimp only at hBX
    obtain ⟨rfl, hc⟩ := hBX
    exact absurd hc (by decide)
  have hP1 : va_P (dC, dI) vwCl [] H1 := fun k q h => by simp at h
  have hD1 : va_D (va_A [] H.size) [] := ⟨fun i j p q h => by simp at h, fun k q h => by simp at h⟩
  try dsimp only at hw
  obtain ⟨hP, hD⟩ := va_join (wr := [(fil, .inr (5, [.int 0, .ref en.2.2.1, .int 0])), (pic, .inr (11, [.ref st, .ref sp, .ref ll, .int 0, .int 1600]))]) (w1 := []) hP hD [] [0, 1] rfl rfl (by decide) (by decide) hk1 hFc hP1 hD1
  generalize H1 = H at hP hS ⊢
  have hP : va_P (dC, dI) vwCl [(fil, .inr (5, [.int 0, .ref en.2.2.1, .int 0])), (pic, .inr (11, [.ref st, .ref sp, .ref ll, .int 0, .int 1600]))] H := hP
  have hD : va_D A [(fil, .inr (5, [.int 0, .ref en.2.2.1, .int 0])), (pic, .inr (11, [.ref st, .ref sp, .ref ll, .int 0, .int 1600]))] := hD
  have hR := en_R hR0 hN0 hS
  refine W.widen (k := 1) (n := 6) (Nat.le_of_ble_eq_true rfl) (Nat.le_of_ble_eq_true rfl) ?_
  have h_3 := hw
  refine lv_aload_n hx hb dX11_enter_11 rfl (lv_at hl 0 rfl) ?_
  refine va_get (D := (dC, dI)) (ci := 17) (v := .ref fil) (C := RX11) (T := TX11) (N := 14) hx hb hts (by decide +kernel) hown hK hR 0 rfl rfl 2 (by decide) (hts (.fieldLink RX11 19 "Underpaint" "file" "Ljava/util/ArrayList;") (by decide +kernel)) (fun _ h9 => h9) rfl dX11_enter_12 ?_
  have hPc := (hP.app hR).sub (ws' := [] ++ [(fil, .inr (5, [.int 0, .ref en.2.2.1, .int 0]))]) [0] rfl
  have hDc := (en_DD hD hDr hN0 hAb).sub (ws' := [] ++ [(fil, .inr (5, [.int 0, .ref en.2.2.1, .int 0]))]) [0] (by decide) rfl
  have hKc := hK.sub (tys' := []) [] rfl
  have hFc := va_free (wc := []) hD hS hA [] rfl
  refine va_calli (va_runV (As := []) (rest := []) ⟨hx, hb, hml, hown, hts⟩ (c_Jx4a65c_size l dC dI b0 en H.size fil en.2.2.1 0 0) (cwV 0 hts go_c_enter_y_2 rfl rfl rfl (by decide +kernel) ⟨Nat.le_of_ble_eq_true rfl, Nat.le_of_ble_eq_true rfl⟩) ⟨cP.blind, va_recv hK hP (ci := 5) (q0 := 0) rfl rfl, cP.use (en_z hb0 hS) (hE.on hAb hS) hPc hKc hDc trivial⟩ rfl rfl hl.1 rfl (lv_room (Nat.le_of_ble_eq_true rfl)) dX11_enter_15 ⟨Nat.le_of_ble_eq_true rfl, Nat.le_of_ble_eq_true rfl⟩) hS (fun q _ h => hFc q h) hFc (fun r_4 u t H1 locs ht hvm hw hB hz1 hk1 hS => ?_)
  have hP1 : va_P (dC, dI) vwCl [] H1 := fun k q h => by simp at h
  have hD1 : va_D (va_A [] H.size) [] := ⟨fun i j p q h => by simp at h, fun k q h => by simp at h⟩
  try dsimp only at hw
  obtain ⟨hP, hD⟩ := va_join (wr := [(fil, .inr (5, [.int 0, .ref en.2.2.1, .int 0])), (pic, .inr (11, [.ref st, .ref sp, .ref ll, .int 0, .int 1600]))]) (w1 := []) hP hD [] [0, 1] rfl rfl (by decide) (by decide) hk1 hFc hP1 hD1
  generalize H1 = H at hP hS ⊢
  have hP : va_P (dC, dI) vwCl [(fil, .inr (5, [.int 0, .ref en.2.2.1, .int 0])), (pic, .inr (11, [.ref st, .ref sp, .ref ll, .int 0, .int 1600]))] H := hP
  have hD : va_D A [(fil, .inr (5, [.int 0, .ref en.2.2.1, .int 0])), (pic, .inr (11, [.ref st, .ref sp, .ref ll, .int 0, .int 1600]))] := hD
  have hR := en_R hR0 hN0 hS
  refine W.widen (k := 1) (n := 6) (Nat.le_of_ble_eq_true rfl) (Nat.le_of_ble_eq_true rfl) ?_
  subst r_4
  refine lv_bipush (v := 40) hx hb dX11_enter_18 (by decide) ?_
  refine lv_icmp_ge (tgt := 27) hx hb dX11_enter_20 (by decide) (fun c_5 => absurd c_5 (by decide)) (fun c_5 => ?_)
  refine lv_iconst (v := 1) hx hb dX11_enter_23 (by decide) ?_
  refine lv_goto (tgt := 28) hx hb dX11_enter_24 (by decide) ?_
  have hPc := (hP.app hR).sub (ws' := [] ++ []) [] rfl
  have hDc := (en_DD hD hDr hN0 hAb).sub (ws' := [] ++ []) [] (by decide) rfl
  have hKc := hK.sub (tys' := []) [] rfl
  have hFc := va_free (wc := []) hD hS hA [] rfl
  refine vx_callv (vx_runS (As := [.int 1]) (rest := []) ⟨hx, hb, hml, hown, hts⟩ (c_X11_demandRoom l hst dC dI b0 en H.size 1) (va_cwS 1 hts go_c_enter_y_3 rfl rfl rfl (by decide +kernel) ⟨Nat.le_of_ble_eq_true rfl, Nat.le_of_ble_eq_true rfl⟩) ⟨cP.blind, cP.use (en_z hb0 hS) (hE.on hAb hS) hPc hKc hDc trivial⟩ rfl rfl hl.1 rfl (lv_room (Nat.le_of_ble_eq_true rfl)) dX11_enter_28 ⟨Nat.le_of_ble_eq_true rfl, Nat.le_of_ble_eq_true rfl⟩) hS (fun q _ h => hFc q h) hFc (fun q _ h => hFc q h) (fun E ce q9 u t H1 locs ht hvm hpx hBX hz1 hk1 hS hce hcv hcl => ?_) (fun u t H1 locs ht hvm hw hB hz1 hk1 hS => ?_)
  · skip
    try dsimp only at hBX
    obtain ⟨rfl, hc⟩ := hBX
    exact absurd hc (by decide)
  have hP1 : va_P (dC, dI) vwCl [] H1 := fun k q h => by simp at h
  have hD1 : va_D (va_A [] H.size) [] := ⟨fun i j p q h => by simp at h, fun k q h => by simp at h⟩
  try dsimp only at hw
  obtain ⟨hP, hD⟩ := va_join (wr := [(fil, .inr (5, [.int 0, .ref en.2.2.1, .int 0])), (pic, .inr (11, [.ref st, .ref sp, .ref ll, .int 0, .int 1600]))]) (w1 := []) hP hD [] [0, 1] rfl rfl (by decide) (by decide) hk1 hFc hP1 hD1
  generalize H1 = H at hP hS ⊢
  have hP : va_P (dC, dI) vwCl [(fil, .inr (5, [.int 0, .ref en.2.2.1, .int 0])), (pic, .inr (11, [.ref st, .ref sp, .ref ll, .int 0, .int 1600]))] H := hP
  have hD : va_D A [(fil, .inr (5, [.int 0, .ref en.2.2.1, .int 0])), (pic, .inr (11, [.ref st, .ref sp, .ref ll, .int 0, .int 1600]))] := hD
  have hR := en_R hR0 hN0 hS
  refine W.widen (k := 2) (n := 12) (Nat.le_of_ble_eq_true rfl) (Nat.le_of_ble_eq_true rfl) ?_
  have h_7 := hw
  refine lv_aload_n hx hb dX11_enter_31 rfl (lv_at hl 0 rfl) ?_
  refine va_get (D := (dC, dI)) (ci := 17) (v := .ref fil) (C := RX11) (T := TX11) (N := 14) hx hb hts (by decide +kernel) hown hK hR 0 rfl rfl 2 (by decide) (hts (.fieldLink RX11 19 "Underpaint" "file" "Ljava/util/ArrayList;") (by decide +kernel)) (fun _ h9 => h9) rfl dX11_enter_32 ?_
  refine lv_aload_n hx hb dX11_enter_35 rfl (lv_at hl 1 rfl) ?_
  have hS9 := hS
  have hPc := (hP.app hR).sub (ws' := [(fil, .inr (5, [.int 0, .ref en.2.2.1, .int 0]))] ++ [(ac, .inr (6, ([.int 121, .ref sf, .int am, .int 0, .int 0, .int 0, .int 0, .int 0, .int 0, .int li, .int da, .ref lo])))]) [0, 4] rfl
  have hDc := (en_DD hD hDr hN0 hAb).sub (ws' := [(fil, .inr (5, [.int 0, .ref en.2.2.1, .int 0]))] ++ [(ac, .inr (6, ([.int 121, .ref sf, .int am, .int 0, .int 0, .int 0, .int 0, .int 0, .int 0, .int li, .int da, .ref lo])))]) [0, 4] (by decide) rfl
  have hKc := hK.sub (tys' := []) [] rfl
  have hFc := va_free (wc := [(fil, .inr (5, [.int 0, .ref en.2.2.1, .int 0]))]) hD hS hA [0] rfl
  refine va_calli (va_runV (As := [.ref ac]) (rest := []) ⟨hx, hb, hml, hown, hts⟩ (c_addo l dC dI b0 en H.size fil ac 6 ([.int 121, .ref sf, .int am, .int 0, .int 0, .int 0, .int 0, .int 0, .int 0, .int li, .int da, .ref lo]) (RX0, TX0, 12) rfl (by decide +kernel)) (cwV 1 hts go_c_enter_y_4 rfl rfl rfl (by decide +kernel) ⟨Nat.le_of_ble_eq_true rfl, Nat.le_of_ble_eq_true rfl⟩) ⟨cP.blind, va_recv hK hP (ci := 5) (q0 := 0) rfl rfl, cP.use (en_z hb0 hS) (hE.on hAb hS) hPc hKc hDc trivial⟩ rfl rfl hl.1 rfl (lv_room (Nat.le_of_ble_eq_true rfl)) dX11_enter_36 ⟨Nat.le_of_ble_eq_true rfl, Nat.le_of_ble_eq_true rfl⟩) hS (fun q _ h => hFc q h) hFc (fun r_12 ⟨ar_9, cO_10, fO_11⟩ t H1 locs ht hvm hw hB hz1 hk1 hS => ?_)
  obtain ⟨hP1, hK1, hD1, hF1⟩ := hB
  rw [ht] at hP1
  try rw [ht] at hF1
  have hK1 := va_K.moved hvm.symm hK1
  try dsimp only at hw
  obtain ⟨hP, hD⟩ := va_join (wr := [(pic, .inr (11, [.ref st, .ref sp, .ref ll, .int 0, .int 1600]))]) (w1 := [(fil, .inr (5, [.int 1, .ref ar_9, .int 1])), (ar_9, .inl (cO_10, 10, .inr (.inr (.inr (.inr fO_11)))))]) hP hD [0] [1] rfl rfl (by decide) (by decide) hk1 hFc hP1 hD1
  have hK := hK.app hK1
  have hgz_ar_9 : s.heap.size ≤ ar_9 := Nat.le_trans hS9.1 (vGeN hD1 1 rfl (by simp only [List.map_cons, List.map_nil, List.mem_cons, List.not_mem_nil, or_false, not_or, not_false_eq_true]; exact vAp hD1 1 0 rfl rfl (by decide)))
  generalize H1 = H at hP hS ⊢
  have hP : va_P (dC, dI) vwCl [(pic, .inr (11, [.ref st, .ref sp, .ref ll, .int 0, .int 1600])), (fil, .inr (5, [.int 1, .ref ar_9, .int 1])), (ar_9, .inl (cO_10, 10, .inr (.inr (.inr (.inr fO_11)))))] H := hP
  have hD : va_D A [(pic, .inr (11, [.ref st, .ref sp, .ref ll, .int 0, .int 1600])), (fil, .inr (5, [.int 1, .ref ar_9, .int 1])), (ar_9, .inl (cO_10, 10, .inr (.inr (.inr (.inr fO_11)))))] := hD
  have hR := en_R hR0 hN0 hS
  refine W.widen (k := 3) (n := 22) (Nat.le_of_ble_eq_true rfl) (Nat.le_of_ble_eq_true rfl) ?_
  subst r_12
  refine lv_pop hx hb dX11_enter_39 rfl ?_
  refine lv_aload_n hx hb dX11_enter_40 rfl (lv_at hl 0 rfl) ?_
  refine va_get (D := (dC, dI)) (ci := 17) (v := .ref pic) (C := RX11) (T := TX11) (N := 14) hx hb hts (by decide +kernel) hown hK hR 0 rfl rfl 8 (by decide) (hts (.fieldLink RX11 62 "Underpaint" "picture" "LUnderpaint$Picture;") (by decide +kernel)) (fun _ h9 => h9) rfl dX11_enter_41 ?_
  refine lv_aload_n hx hb dX11_enter_44 rfl (lv_at hl 1 rfl) ?_
  have hPc := (hP.app hR).sub (ws' := [(pic, .inr (11, [.ref st, .ref sp, .ref ll, .int 0, .int 1600]))] ++ [(st, .inl (cS, 48, .inr (.inr (.inr (.inr g))))), (ac, .inr (6, [.int 121, .ref sf, .int am, .int 0, .int 0, .int 0, .int 0, .int 0, .int 0, .int li, .int da, .ref lo]))]) [0, 4, 5] rfl
  have hDc := (en_DD hD hDr hN0 hAb).sub (ws' := [(pic, .inr (11, [.ref st, .ref sp, .ref ll, .int 0, .int 1600]))] ++ [(st, .inl (cS, 48, .inr (.inr (.inr (.inr g))))), (ac, .inr (6, [.int 121, .ref sf, .int am, .int 0, .int 0, .int 0, .int 0, .int 0, .int 0, .int li, .int da, .ref lo]))]) [0, 4, 5] (by decide) rfl
  have hKc := hK.sub (tys' := [(cS, .object "Underpaint$Stack")]) [0] rfl
  have hFc := va_free (wc := [(pic, .inr (11, [.ref st, .ref sp, .ref ll, .int 0, .int 1600]))]) hD hS hA [0] rfl
  refine va_calli (va_runV (As := [.ref ac]) (rest := []) ⟨hx, hb, hml, hown, hts⟩ (c_perform_y l dC dI b0 en H.size pic st sp ll g cS N ac sf lo am li da (fun a9 h9 => ⟨(hNb a9 h9).1, Nat.lt_of_lt_of_le (hNb a9 h9).2 hS.1⟩) (fun a9 h9 z9 => by have g1 := hNw a9 h9; have g2 := hNr a9 h9; have g3 := (hNb a9 h9).2; simp only [List.map_cons, List.map_nil, List.mem_cons, List.not_mem_nil, or_false, not_or] at g1 g2 z9 <;> omega) (fun a9 h9 z9 => by have g1 := hNw a9 h9; have g2 := hNr a9 h9; have g3 := (hNb a9 h9).2; simp only [List.map_cons, List.map_nil, List.mem_cons, List.not_mem_nil, or_false, not_or] at g1 g2 z9 <;> omega)) (cwV 1 hts go_c_enter_y_5 rfl rfl rfl (by decide +kernel) ⟨Nat.le_of_ble_eq_true rfl, Nat.le_of_ble_eq_true rfl⟩) ⟨cP.blind, va_recv hK hP (ci := 11) (q0 := 0) rfl rfl, cP.use (en_z hb0 hS) (hE.on hAb hS) hPc hKc hDc (hF0.on (fun a9 h8 h9 => by rw [← hAe]; exact vA1 h8 (hNw a9 h9)) hS)⟩ rfl rfl hl.1 rfl (lv_room (Nat.le_of_ble_eq_true rfl)) dX11_enter_45 ⟨Nat.le_of_ble_eq_true rfl, Nat.le_of_ble_eq_true rfl⟩) hS (fun q _ h => hFc q h) hFc (fun r_13 u t H1 locs ht hvm hw hB hz1 hk1 hS => ?_)
  have hP1 : va_P (dC, dI) vwCl [] H1 := fun k q h => by simp at h
  have hD1 : va_D (va_A [(pic, .inr (11, [.ref st, .ref sp, .ref ll, .int 0, .int 1600]))] H.size) [] := ⟨fun i j p q h => by simp at h, fun k q h => by simp at h⟩
  try dsimp only at hw
  obtain ⟨hP, hD⟩ := va_join (wr := [(fil, .inr (5, [.int 1, .ref ar_9, .int 1])), (ar_9, .inl (cO_10, 10, .inr (.inr (.inr (.inr fO_11)))))]) (w1 := []) hP hD [0] [1, 2] rfl rfl (by decide) (by decide) hk1 hFc hP1 hD1
  generalize H1 = H at hP hS ⊢
  have hP : va_P (dC, dI) vwCl [(fil, .inr (5, [.int 1, .ref ar_9, .int 1])), (ar_9, .inl (cO_10, 10, .inr (.inr (.inr (.inr fO_11)))))] H := hP
  have hD : va_D A [(fil, .inr (5, [.int 1, .ref ar_9, .int 1])), (ar_9, .inl (cO_10, 10, .inr (.inr (.inr (.inr fO_11)))))] := hD
  have hR := en_R hR0 hN0 hS
  refine W.widen (k := 3) (n := 22) (Nat.le_of_ble_eq_true rfl) (Nat.le_of_ble_eq_true rfl) ?_
  subst r_13
  refine W.widen (k := 3) (n := 22) (Nat.le_of_ble_eq_true rfl) (Nat.le_of_ble_eq_true rfl) ?_
  refine vx_ret ?_
  exact W.iret (v := (1600 + am)) hx hb hr (fun t ht hW => ⟨⟨(1600 + am), (), rfl, rfl, trivial⟩, hS.F ht⟩) hS.2.2 dX11_enter_48

def wo_c_enter_s_w : List Cond := [Cond.fieldLink RX11 62 "Underpaint" "picture" "LUnderpaint$Picture;"]
def wo_c_enter_s : List Cond := .code yX11_enter cX11_enter 2 (some .int) :: (wo_c_enter_s_w ++ (u_ws RX11 TX11 14 ++ (wsV RX11 427 RX5 yX5_canBear wo_c_canBear_s ++ (va_wsS RX11 142 yX11_demandPossible wsX11_demandPossible ++ List.nil))))
theorem gw_wo_c_enter_s : wo_c_enter_s.all goodWord = true := gw_c (by decide +kernel) (gw_a (by decide +kernel) (gw_a (by decide +kernel) (gw_a (gw_a (by decide +kernel) gw_wo_c_canBear_s) (gw_a (gw_a (by decide +kernel) gw_wsX11_demandPossible) rfl))))
theorem go_c_enter_s_0 : GoodIn wo_c_enter_s (wsV RX11 427 RX5 yX5_canBear wo_c_canBear_s) := goodIn_sub (fun _ h => List.mem_cons_of_mem _ (List.mem_append_right _ (List.mem_append_right _ (List.mem_append_left _ h)))) (gw_a (by decide +kernel) gw_wo_c_canBear_s)
theorem go_c_enter_s_1 : GoodIn wo_c_enter_s (va_wsS RX11 142 yX11_demandPossible wsX11_demandPossible) := goodIn_sub (fun _ h => List.mem_cons_of_mem _ (List.mem_append_right _ (List.mem_append_right _ (List.mem_append_right _ (List.mem_append_left _ h))))) (gw_a (by decide +kernel) gw_wsX11_demandPossible)
set_option maxHeartbeats 4000000 in
set_option maxRecDepth 100000 in
/-- enter -/
theorem c_enter_s (l : Launch) (hst : l.stackTraces = false) (dC : Nat → ClassId) (dI : Nat → Nat → Nat) (b0 : Nat) (en : EnT) (sz : Nat) (h pal she fil nte dat vot loa nos pic spa : Nat) (st sp ll : Nat) (g : Nat → Option Nat) (cS : ClassId) (N : Nat → Prop) (ac sf lo : Nat) (am li da : Int32) (le to : Int32) (hlt : (0 ≤ le ∧ le < 8) ∧ (0 ≤ to ∧ to < 6)) (hNb : ∀ a, N a → b0 ≤ a ∧ a < sz) (hNw : ∀ a, N a → a ∉ List.map Prod.fst ([(fil, .inr (5, [.int 0, .ref en.2.2.1, .int 0]))] : va_W)) (hNr : ∀ a, N a → a ∉ List.map Prod.fst ([(h, .inr (17, [.ref pal, .ref she, .ref fil, .ref nte, .ref dat, .ref vot, .ref loa, .ref nos, .ref pic, .ref spa, .int 5, .int 50, .int 1600, .int 0])), (pic, .inr (11, [.ref st, .ref sp, .ref ll, .int 0, .int 1600])), (st, .inl (cS, 48, .inr (.inr (.inr (.inr g))))), (ac, .inr (6, [.int 115, .ref sf, .int am, .int le, .int to, .int 0, .int 0, .int 0, .int 0, .int li, .int da, .ref lo]))] : va_W)) : vx_Met l yX11_enter wo_c_enter_s ({ frames := 7, cells := 1, slots := 6, locals := 110 } : Room) (cP b0 en (dC, dI) [(cS, .object "Underpaint$Stack")] [(fil, .inr (5, [.int 0, .ref en.2.2.1, .int 0]))] [(h, .inr (17, [.ref pal, .ref she, .ref fil, .ref nte, .ref dat, .ref vot, .ref loa, .ref nos, .ref pic, .ref spa, .int 5, .int 50, .int 1600, .int 0])), (pic, .inr (11, [.ref st, .ref sp, .ref ll, .int 0, .int 1600])), (st, .inl (cS, 48, .inr (.inr (.inr (.inr g))))), (ac, .inr (6, [.int 115, .ref sf, .int am, .int le, .int to, .int 0, .int 0, .int 0, .int 0, .int li, .int da, .ref lo]))] sz (FamS (dC, dI) N g) [.ref h, .ref ac]) (va_Qi (fun (r : Int32) (_ : Unit) => False) (fun _ _ => True) (va_A [(fil, .inr (5, [.int 0, .ref en.2.2.1, .int 0]))] sz)) (vx_X (fun _ : Unit => True) (fun E _ _ => (E = "java/lang/UnsupportedOperationException" ∧ True)) (va_A [(fil, .inr (5, [.int 0, .ref en.2.2.1, .int 0]))] sz)) 1 6 (va_A [(fil, .inr (5, [.int 0, .ref en.2.2.1, .int 0]))] sz) := by
  refine vx_ofW (cc := cX11_enter) (maxL := 2) (ret := (some .int)) (by decide) rfl ?_
  intro p e s m args below meth c s₁ B hml hext hv
  obtain ⟨rfl, hsz, hb0, hE, hPP, hK, hDD, hF0⟩ := hv
  have hx := B.exec
  have hb := B.bytes
  have hr := B.returns
  have hts := atoms_spec (ws := wo_c_enter_s) B.pre
  have hown : s.vm.findClass RX11 = some m.cls := findClass_of_methodNamed B.named
  have hlocks := B.notSynchronized
  subst hsz
  have hN0 := en_N hPP hDD rfl
  have hP : va_P (dC, dI) vwCl [(fil, .inr (5, [.int 0, .ref en.2.2.1, .int 0]))] s.heap := hPP.sub [0] rfl
  have hR0 : va_P (dC, dI) vwCl [(h, .inr (17, [.ref pal, .ref she, .ref fil, .ref nte, .ref dat, .ref vot, .ref loa, .ref nos, .ref pic, .ref spa, .int 5, .int 50, .int 1600, .int 0])), (pic, .inr (11, [.ref st, .ref sp, .ref ll, .int 0, .int 1600])), (st, .inl (cS, 48, .inr (.inr (.inr (.inr g))))), (ac, .inr (6, [.int 115, .ref sf, .int am, .int le, .int to, .int 0, .int 0, .int 0, .int 0, .int li, .int da, .ref lo]))] s.heap := hPP.sub [1, 2, 3, 4] rfl
  have hD0 : va_D (fun q => b0 ≤ q) [(fil, .inr (5, [.int 0, .ref en.2.2.1, .int 0]))] := hDD.sub [0] (by decide) rfl
  have hDr : va_D (fun q => b0 ≤ q) [(h, .inr (17, [.ref pal, .ref she, .ref fil, .ref nte, .ref dat, .ref vot, .ref loa, .ref nos, .ref pic, .ref spa, .int 5, .int 50, .int 1600, .int 0])), (pic, .inr (11, [.ref st, .ref sp, .ref ll, .int 0, .int 1600])), (st, .inl (cS, 48, .inr (.inr (.inr (.inr g))))), (ac, .inr (6, [.int 115, .ref sf, .int am, .int le, .int to, .int 0, .int 0, .int 0, .int 0, .int li, .int da, .ref lo]))] := hDD.sub [1, 2, 3, 4] (by decide) rfl
  have hAb := en_A (sz := s.heap.size) hD0 hb0
  have hD := hD0.self (sz := s.heap.size)
  generalize hAe : va_A [(fil, .inr (5, [.int 0, .ref en.2.2.1, .int 0]))] s.heap.size = A at hD hAb hN0 ⊢
  have hA : ∀ q : Nat, s.heap.size ≤ q → A q := fun q h => by rw [← hAe]; exact Or.inr h
  have hS : va_S A s.heap s.heap [] := va_S.rf
  have hR := hR0
  have hl := lv_entry [.ref h, .ref ac] (n := 2) (Nat.le_of_ble_eq_true rfl)
  rw [lg_entry_eq]
  generalize (lg_sl [.ref h, .ref ac] ++ List.replicate (2 - (lg_sl [.ref h, .ref ac]).length) Slot.unset).toArray = ls at hl ⊢
  have hl : lv_has ls 2 [(0, .ref h), (1, .ref ac)] := hl
  have hR0b := hR0
  have hDrb := hDr
  have hN0b := hN0
  refine lv_aload_n hx hb dX11_enter_0 rfl (lv_at hl 0 rfl) ?_
  refine va_get (D := (dC, dI)) (ci := 17) (v := .ref pic) (C := RX11) (T := TX11) (N := 14) hx hb hts (by decide +kernel) hown hK hR 0 rfl rfl 8 (by decide) (hts (.fieldLink RX11 62 "Underpaint" "picture" "LUnderpaint$Picture;") (by decide +kernel)) (fun _ h9 => h9) rfl dX11_enter_1 ?_
  refine lv_aload_n hx hb dX11_enter_4 rfl (lv_at hl 1 rfl) ?_
  have hPc := (hP.app hR).sub (ws' := [] ++ [(pic, .inr (11, [.ref st, .ref sp, .ref ll, .int 0, .int 1600])), (st, .inl (cS, 48, .inr (.inr (.inr (.inr g))))), (ac, .inr (6, [.int 115, .ref sf, .int am, .int le, .int to, .int 0, .int 0, .int 0, .int 0, .int li, .int da, .ref lo]))]) [2, 3, 4] rfl
  have hDc := (en_DD hD hDr hN0 hAb).sub (ws' := [] ++ [(pic, .inr (11, [.ref st, .ref sp, .ref ll, .int 0, .int 1600])), (st, .inl (cS, 48, .inr (.inr (.inr (.inr g))))), (ac, .inr (6, [.int 115, .ref sf, .int am, .int le, .int to, .int 0, .int 0, .int 0, .int 0, .int li, .int da, .ref lo]))]) [2, 3, 4] (by decide) rfl
  have hKc := hK.sub (tys' := [(cS, .object "Underpaint$Stack")]) [0] rfl
  have hFc := va_free (wc := []) hD hS hA [] rfl
  refine va_calli (va_runV (As := [.ref ac]) (rest := []) ⟨hx, hb, hml, hown, hts⟩ (c_canBear_s l dC dI b0 en s.heap.size pic st sp ll g cS N ac sf lo am li da le to (z_c_canBear_s_402 le to hlt) (fun a9 h9 => ⟨(hNb a9 h9).1, Nat.lt_of_lt_of_le (hNb a9 h9).2 hS.1⟩) (fun a9 h9 z9 => by have g1 := hNw a9 h9; have g2 := hNr a9 h9; have g3 := (hNb a9 h9).2; simp only [List.map_cons, List.map_nil, List.mem_cons, List.not_mem_nil, or_false, not_or] at g1 g2 z9 <;> omega) (fun a9 h9 z9 => by have g1 := hNw a9 h9; have g2 := hNr a9 h9; have g3 := (hNb a9 h9).2; simp only [List.map_cons, List.map_nil, List.mem_cons, List.not_mem_nil, or_false, not_or] at g1 g2 z9 <;> omega)) (cwV 1 hts go_c_enter_s_0 rfl rfl rfl (by decide +kernel) ⟨Nat.le_of_ble_eq_true rfl, Nat.le_of_ble_eq_true rfl⟩) ⟨cP.blind, va_recv hK hR (ci := 11) (q0 := 1) rfl rfl, cP.use (en_z hb0 hS) (hE.on hAb hS) hPc hKc hDc (hF0.on (fun a9 h8 h9 => by rw [← hAe]; exact vA1 h8 (hNw a9 h9)) hS)⟩ rfl rfl hl.1 rfl (lv_room (Nat.le_of_ble_eq_true rfl)) dX11_enter_5 ⟨Nat.le_of_ble_eq_true rfl, Nat.le_of_ble_eq_true rfl⟩) hS (fun q _ h => hFc q h) hFc (fun r_1 u t H1 locs ht hvm hw hB hz1 hk1 hS => ?_)
  have hP1 : va_P (dC, dI) vwCl [] H1 := fun k q h => by simp at h
  have hD1 : va_D (va_A [] s.heap.size) [] := ⟨fun i j p q h => by simp at h, fun k q h => by simp at h⟩
  try dsimp only at hw
  obtain ⟨hP, hD⟩ := va_join (wr := [(fil, .inr (5, [.int 0, .ref en.2.2.1, .int 0]))]) (w1 := []) hP hD [] [0] rfl rfl (by decide) (by decide) hk1 hFc hP1 hD1
  generalize H1 = H at hP hS ⊢
  have hP : va_P (dC, dI) vwCl [(fil, .inr (5, [.int 0, .ref en.2.2.1, .int 0]))] H := hP
  have hD : va_D A [(fil, .inr (5, [.int 0, .ref en.2.2.1, .int 0]))] := hD
  have hR := en_R hR0 hN0 hS
  refine W.widen (k := 0) (n := 0) (Nat.le_of_ble_eq_true rfl) (Nat.le_of_ble_eq_true rfl) ?_
  subst r_1
  have hPc := (hP.app hR).sub (ws' := [] ++ []) [] rfl
  have hDc := (en_DD hD hDr hN0 hAb).sub (ws' := [] ++ []) [] (by decide) rfl
  have hKc := hK.sub (tys' := []) [] rfl
  have hFc := va_free (wc := []) hD hS hA [] rfl
  refine vx_callv (vx_runS (As := [.int 0]) (rest := []) ⟨hx, hb, hml, hown, hts⟩ (c_X11_demandPossible l hst dC dI b0 en H.size 0) (va_cwS 1 hts go_c_enter_s_1 rfl rfl rfl (by decide +kernel) ⟨Nat.le_of_ble_eq_true rfl, Nat.le_of_ble_eq_true rfl⟩) ⟨cP.blind, cP.use (en_z hb0 hS) (hE.on hAb hS) hPc hKc hDc trivial⟩ rfl rfl hl.1 rfl (lv_room (Nat.le_of_ble_eq_true rfl)) dX11_enter_8 ⟨Nat.le_of_ble_eq_true rfl, Nat.le_of_ble_eq_true rfl⟩) hS (fun q _ h => hFc q h) hFc (fun q _ h => hFc q h) (fun E ce q9 u t H1 locs ht hvm hpx hBX hz1 hk1 hS hce hcv hcl => ?_) (fun u t H1 locs ht hvm hw hB hz1 hk1 hS => ?_)
  · skip
    try dsimp only at hBX
    obtain ⟨rfl, hc⟩ := hBX
    refine vx_widen (k := 1) (n := 6) (Nat.le_of_ble_eq_true rfl) (Nat.le_of_ble_eq_true rfl) ?_
    exact vx_out (fun x hx => (hext x hx).elim) hlocks hce hcv hcl (fun t ht hW => ⟨(), trivial, ⟨rfl, trivial⟩, hS.F ht⟩) hS.2.2 (Nat.le_refl _) (Nat.le_refl _)
  have hP1 : va_P (dC, dI) vwCl [] H1 := fun k q h => by simp at h
  have hD1 : va_D (va_A [] H.size) [] := ⟨fun i j p q h => by simp at h, fun k q h => by simp at h⟩
  try dsimp only at hw
  obtain ⟨hP, hD⟩ := va_join (wr := [(fil, .inr (5, [.int 0, .ref en.2.2.1, .int 0]))]) (w1 := []) hP hD [] [0] rfl rfl (by decide) (by decide) hk1 hFc hP1 hD1
  generalize H1 = H at hP hS ⊢
  have hP : va_P (dC, dI) vwCl [(fil, .inr (5, [.int 0, .ref en.2.2.1, .int 0]))] H := hP
  have hD : va_D A [(fil, .inr (5, [.int 0, .ref en.2.2.1, .int 0]))] := hD
  have hR := en_R hR0 hN0 hS
  refine W.widen (k := 1) (n := 6) (Nat.le_of_ble_eq_true rfl) (Nat.le_of_ble_eq_true rfl) ?_
  have h_3 := hw
  exact absurd h_3 (by decide)

def wo_c_enter_o_w : List Cond := [Cond.fieldLink RX11 62 "Underpaint" "picture" "LUnderpaint$Picture;"]
def wo_c_enter_o : List Cond := .code yX11_enter cX11_enter 2 (some .int) :: (wo_c_enter_o_w ++ (u_ws RX11 TX11 14 ++ (wsV RX11 427 RX5 yX5_canBear wo_c_canBear_o ++ (va_wsS RX11 142 yX11_demandPossible wsX11_demandPossible ++ List.nil))))
theorem gw_wo_c_enter_o : wo_c_enter_o.all goodWord = true := gw_c (by decide +kernel) (gw_a (by decide +kernel) (gw_a (by decide +kernel) (gw_a (gw_a (by decide +kernel) gw_wo_c_canBear_o) (gw_a (gw_a (by decide +kernel) gw_wsX11_demandPossible) rfl))))
theorem go_c_enter_o_0 : GoodIn wo_c_enter_o (wsV RX11 427 RX5 yX5_canBear wo_c_canBear_o) := goodIn_sub (fun _ h => List.mem_cons_of_mem _ (List.mem_append_right _ (List.mem_append_right _ (List.mem_append_left _ h)))) (gw_a (by decide +kernel) gw_wo_c_canBear_o)
theorem go_c_enter_o_1 : GoodIn wo_c_enter_o (va_wsS RX11 142 yX11_demandPossible wsX11_demandPossible) := goodIn_sub (fun _ h => List.mem_cons_of_mem _ (List.mem_append_right _ (List.mem_append_right _ (List.mem_append_right _ (List.mem_append_left _ h))))) (gw_a (by decide +kernel) gw_wsX11_demandPossible)
set_option maxHeartbeats 4000000 in
set_option maxRecDepth 100000 in
/-- enter -/
theorem c_enter_o (l : Launch) (hst : l.stackTraces = false) (dC : Nat → ClassId) (dI : Nat → Nat → Nat) (b0 : Nat) (en : EnT) (sz : Nat) (h pal she fil nte dat vot loa nos pic spa : Nat) (st sp ll : Nat) (g : Nat → Option Nat) (cS : ClassId) (N : Nat → Prop) (ac sf lo : Nat) (am li da : Int32) (lh ld : Nat) (hNb : ∀ a, N a → b0 ≤ a ∧ a < sz) (hNw : ∀ a, N a → a ∉ List.map Prod.fst ([(fil, .inr (5, [.int 0, .ref en.2.2.1, .int 0]))] : va_W)) (hNr : ∀ a, N a → a ∉ List.map Prod.fst ([(h, .inr (17, [.ref pal, .ref she, .ref fil, .ref nte, .ref dat, .ref vot, .ref loa, .ref nos, .ref pic, .ref spa, .int 5, .int 50, .int 1600, .int 0])), (pic, .inr (11, [.ref st, .ref sp, .ref ll, .int 0, .int 1600])), (st, .inl (cS, 48, .inr (.inr (.inr (.inr g))))), (lo, .inr (9, [.ref lh, .ref ld, .int 0])), (ac, .inr (6, [.int 111, .ref sf, .int am, .int 0, .int 0, .int 0, .int 0, .int 0, .int 0, .int li, .int da, .ref lo]))] : va_W)) : vx_Met l yX11_enter wo_c_enter_o ({ frames := 7, cells := 1, slots := 6, locals := 110 } : Room) (cP b0 en (dC, dI) [(cS, .object "Underpaint$Stack")] [(fil, .inr (5, [.int 0, .ref en.2.2.1, .int 0]))] [(h, .inr (17, [.ref pal, .ref she, .ref fil, .ref nte, .ref dat, .ref vot, .ref loa, .ref nos, .ref pic, .ref spa, .int 5, .int 50, .int 1600, .int 0])), (pic, .inr (11, [.ref st, .ref sp, .ref ll, .int 0, .int 1600])), (st, .inl (cS, 48, .inr (.inr (.inr (.inr g))))), (lo, .inr (9, [.ref lh, .ref ld, .int 0])), (ac, .inr (6, [.int 111, .ref sf, .int am, .int 0, .int 0, .int 0, .int 0, .int 0, .int 0, .int li, .int da, .ref lo]))] sz (FamS (dC, dI) N g) [.ref h, .ref ac]) (va_Qi (fun (r : Int32) (_ : Unit) => False) (fun _ _ => True) (va_A [(fil, .inr (5, [.int 0, .ref en.2.2.1, .int 0]))] sz)) (vx_X (fun _ : Unit => True) (fun E _ _ => (E = "java/lang/UnsupportedOperationException" ∧ True)) (va_A [(fil, .inr (5, [.int 0, .ref en.2.2.1, .int 0]))] sz)) 1 6 (va_A [(fil, .inr (5, [.int 0, .ref en.2.2.1, .int 0]))] sz) := by
  refine vx_ofW (cc := cX11_enter) (maxL := 2) (ret := (some .int)) (by decide) rfl ?_
  intro p e s m args below meth c s₁ B hml hext hv
  obtain ⟨rfl, hsz, hb0, hE, hPP, hK, hDD, hF0⟩ := hv
  have hx := B.exec
  have hb := B.bytes
  have hr := B.returns
  have hts := atoms_spec (ws := wo_c_enter_o) B.pre
  have hown : s.vm.findClass RX11 = some m.cls := findClass_of_methodNamed B.named
  have hlocks := B.notSynchronized
  subst hsz
  have hN0 := en_N hPP hDD rfl
  have hP : va_P (dC, dI) vwCl [(fil, .inr (5, [.int 0, .ref en.2.2.1, .int 0]))] s.heap := hPP.sub [0] rfl
  have hR0 : va_P (dC, dI) vwCl [(h, .inr (17, [.ref pal, .ref she, .ref fil, .ref nte, .ref dat, .ref vot, .ref loa, .ref nos, .ref pic, .ref spa, .int 5, .int 50, .int 1600, .int 0])), (pic, .inr (11, [.ref st, .ref sp, .ref ll, .int 0, .int 1600])), (st, .inl (cS, 48, .inr (.inr (.inr (.inr g))))), (lo, .inr (9, [.ref lh, .ref ld, .int 0])), (ac, .inr (6, [.int 111, .ref sf, .int am, .int 0, .int 0, .int 0, .int 0, .int 0, .int 0, .int li, .int da, .ref lo]))] s.heap := hPP.sub [1, 2, 3, 4, 5] rfl
  have hD0 : va_D (fun q => b0 ≤ q) [(fil, .inr (5, [.int 0, .ref en.2.2.1, .int 0]))] := hDD.sub [0] (by decide) rfl
  have hDr : va_D (fun q => b0 ≤ q) [(h, .inr (17, [.ref pal, .ref she, .ref fil, .ref nte, .ref dat, .ref vot, .ref loa, .ref nos, .ref pic, .ref spa, .int 5, .int 50, .int 1600, .int 0])), (pic, .inr (11, [.ref st, .ref sp, .ref ll, .int 0, .int 1600])), (st, .inl (cS, 48, .inr (.inr (.inr (.inr g))))), (lo, .inr (9, [.ref lh, .ref ld, .int 0])), (ac, .inr (6, [.int 111, .ref sf, .int am, .int 0, .int 0, .int 0, .int 0, .int 0, .int 0, .int li, .int da, .ref lo]))] := hDD.sub [1, 2, 3, 4, 5] (by decide) rfl
  have hAb := en_A (sz := s.heap.size) hD0 hb0
  have hD := hD0.self (sz := s.heap.size)
  generalize hAe : va_A [(fil, .inr (5, [.int 0, .ref en.2.2.1, .int 0]))] s.heap.size = A at hD hAb hN0 ⊢
  have hA : ∀ q : Nat, s.heap.size ≤ q → A q := fun q h => by rw [← hAe]; exact Or.inr h
  have hS : va_S A s.heap s.heap [] := va_S.rf
  have hR := hR0
  have hl := lv_entry [.ref h, .ref ac] (n := 2) (Nat.le_of_ble_eq_true rfl)
  rw [lg_entry_eq]
  generalize (lg_sl [.ref h, .ref ac] ++ List.replicate (2 - (lg_sl [.ref h, .ref ac]).length) Slot.unset).toArray = ls at hl ⊢
  have hl : lv_has ls 2 [(0, .ref h), (1, .ref ac)] := hl
  have hR0b := hR0
  have hDrb := hDr
  have hN0b := hN0
  refine lv_aload_n hx hb dX11_enter_0 rfl (lv_at hl 0 rfl) ?_
  refine va_get (D := (dC, dI)) (ci := 17) (v := .ref pic) (C := RX11) (T := TX11) (N := 14) hx hb hts (by decide +kernel) hown hK hR 0 rfl rfl 8 (by decide) (hts (.fieldLink RX11 62 "Underpaint" "picture" "LUnderpaint$Picture;") (by decide +kernel)) (fun _ h9 => h9) rfl dX11_enter_1 ?_
  refine lv_aload_n hx hb dX11_enter_4 rfl (lv_at hl 1 rfl) ?_
  have hPc := (hP.app hR).sub (ws' := [] ++ [(pic, .inr (11, [.ref st, .ref sp, .ref ll, .int 0, .int 1600])), (st, .inl (cS, 48, .inr (.inr (.inr (.inr g))))), (ac, .inr (6, [.int 111, .ref sf, .int am, .int 0, .int 0, .int 0, .int 0, .int 0, .int 0, .int li, .int da, .ref lo])), (lo, .inr (9, [.ref lh, .ref ld, .int 0]))]) [2, 3, 5, 4] rfl
  have hDc := (en_DD hD hDr hN0 hAb).sub (ws' := [] ++ [(pic, .inr (11, [.ref st, .ref sp, .ref ll, .int 0, .int 1600])), (st, .inl (cS, 48, .inr (.inr (.inr (.inr g))))), (ac, .inr (6, [.int 111, .ref sf, .int am, .int 0, .int 0, .int 0, .int 0, .int 0, .int 0, .int li, .int da, .ref lo])), (lo, .inr (9, [.ref lh, .ref ld, .int 0]))]) [2, 3, 5, 4] (by decide) rfl
  have hKc := hK.sub (tys' := [(cS, .object "Underpaint$Stack")]) [0] rfl
  have hFc := va_free (wc := []) hD hS hA [] rfl
  refine va_calli (va_runV (As := [.ref ac]) (rest := []) ⟨hx, hb, hml, hown, hts⟩ (c_canBear_o l dC dI b0 en s.heap.size pic st sp ll g cS N ac sf lo am li da lh ld (fun a9 h9 => ⟨(hNb a9 h9).1, Nat.lt_of_lt_of_le (hNb a9 h9).2 hS.1⟩) (fun a9 h9 z9 => by have g1 := hNw a9 h9; have g2 := hNr a9 h9; have g3 := (hNb a9 h9).2; simp only [List.map_cons, List.map_nil, List.mem_cons, List.not_mem_nil, or_false, not_or] at g1 g2 z9 <;> omega) (fun a9 h9 z9 => by have g1 := hNw a9 h9; have g2 := hNr a9 h9; have g3 := (hNb a9 h9).2; simp only [List.map_cons, List.map_nil, List.mem_cons, List.not_mem_nil, or_false, not_or] at g1 g2 z9 <;> omega)) (cwV 1 hts go_c_enter_o_0 rfl rfl rfl (by decide +kernel) ⟨Nat.le_of_ble_eq_true rfl, Nat.le_of_ble_eq_true rfl⟩) ⟨cP.blind, va_recv hK hR (ci := 11) (q0 := 1) rfl rfl, cP.use (en_z hb0 hS) (hE.on hAb hS) hPc hKc hDc (hF0.on (fun a9 h8 h9 => by rw [← hAe]; exact vA1 h8 (hNw a9 h9)) hS)⟩ rfl rfl hl.1 rfl (lv_room (Nat.le_of_ble_eq_true rfl)) dX11_enter_5 ⟨Nat.le_of_ble_eq_true rfl, Nat.le_of_ble_eq_true rfl⟩) hS (fun q _ h => hFc q h) hFc (fun r_1 u t H1 locs ht hvm hw hB hz1 hk1 hS => ?_)
  have hP1 : va_P (dC, dI) vwCl [] H1 := fun k q h => by simp at h
  have hD1 : va_D (va_A [] s.heap.size) [] := ⟨fun i j p q h => by simp at h, fun k q h => by simp at h⟩
  try dsimp only at hw
  obtain ⟨hP, hD⟩ := va_join (wr := [(fil, .inr (5, [.int 0, .ref en.2.2.1, .int 0]))]) (w1 := []) hP hD [] [0] rfl rfl (by decide) (by decide) hk1 hFc hP1 hD1
  generalize H1 = H at hP hS ⊢
  have hP : va_P (dC, dI) vwCl [(fil, .inr (5, [.int 0, .ref en.2.2.1, .int 0]))] H := hP
  have hD : va_D A [(fil, .inr (5, [.int 0, .ref en.2.2.1, .int 0]))] := hD
  have hR := en_R hR0 hN0 hS
  refine W.widen (k := 0) (n := 0) (Nat.le_of_ble_eq_true rfl) (Nat.le_of_ble_eq_true rfl) ?_
  subst r_1
  have hPc := (hP.app hR).sub (ws' := [] ++ []) [] rfl
  have hDc := (en_DD hD hDr hN0 hAb).sub (ws' := [] ++ []) [] (by decide) rfl
  have hKc := hK.sub (tys' := []) [] rfl
  have hFc := va_free (wc := []) hD hS hA [] rfl
  refine vx_callv (vx_runS (As := [.int 0]) (rest := []) ⟨hx, hb, hml, hown, hts⟩ (c_X11_demandPossible l hst dC dI b0 en H.size 0) (va_cwS 1 hts go_c_enter_o_1 rfl rfl rfl (by decide +kernel) ⟨Nat.le_of_ble_eq_true rfl, Nat.le_of_ble_eq_true rfl⟩) ⟨cP.blind, cP.use (en_z hb0 hS) (hE.on hAb hS) hPc hKc hDc trivial⟩ rfl rfl hl.1 rfl (lv_room (Nat.le_of_ble_eq_true rfl)) dX11_enter_8 ⟨Nat.le_of_ble_eq_true rfl, Nat.le_of_ble_eq_true rfl⟩) hS (fun q _ h => hFc q h) hFc (fun q _ h => hFc q h) (fun E ce q9 u t H1 locs ht hvm hpx hBX hz1 hk1 hS hce hcv hcl => ?_) (fun u t H1 locs ht hvm hw hB hz1 hk1 hS => ?_)
  · skip
    try dsimp only at hBX
    obtain ⟨rfl, hc⟩ := hBX
    refine vx_widen (k := 1) (n := 6) (Nat.le_of_ble_eq_true rfl) (Nat.le_of_ble_eq_true rfl) ?_
    exact vx_out (fun x hx => (hext x hx).elim) hlocks hce hcv hcl (fun t ht hW => ⟨(), trivial, ⟨rfl, trivial⟩, hS.F ht⟩) hS.2.2 (Nat.le_refl _) (Nat.le_refl _)
  have hP1 : va_P (dC, dI) vwCl [] H1 := fun k q h => by simp at h
  have hD1 : va_D (va_A [] H.size) [] := ⟨fun i j p q h => by simp at h, fun k q h => by simp at h⟩
  try dsimp only at hw
  obtain ⟨hP, hD⟩ := va_join (wr := [(fil, .inr (5, [.int 0, .ref en.2.2.1, .int 0]))]) (w1 := []) hP hD [] [0] rfl rfl (by decide) (by decide) hk1 hFc hP1 hD1
  generalize H1 = H at hP hS ⊢
  have hP : va_P (dC, dI) vwCl [(fil, .inr (5, [.int 0, .ref en.2.2.1, .int 0]))] H := hP
  have hD : va_D A [(fil, .inr (5, [.int 0, .ref en.2.2.1, .int 0]))] := hD
  have hR := en_R hR0 hN0 hS
  refine W.widen (k := 1) (n := 6) (Nat.le_of_ble_eq_true rfl) (Nat.le_of_ble_eq_true rfl) ?_
  have h_3 := hw
  exact absurd h_3 (by decide)
theorem z_c_enter_g_406 (le : Int32) (to : Int32) (a_0 : (0 ≤ le ∧ le < 8) ∧ (0 ≤ to ∧ to < 6)) (a_1 : ¬ (1 : Int32) = 0) (a_2 : ¬ (1 : Int32) = 0) : (0 ≤ le ∧ le < 8) ∧ (0 ≤ to ∧ to < 6) := by grind
theorem z_c_enter_g_407 (le : Int32) (to : Int32) (a_0 : (0 ≤ le ∧ le < 8) ∧ (0 ≤ to ∧ to < 6)) (a_1 : ¬ (1 : Int32) = 0) (a_2 : ¬ (1 : Int32) = 0) : (0 : Int32) = 0 := by grind
def wo_c_enter_g_w : List Cond := [Cond.fieldLink RX11 62 "Underpaint" "picture" "LUnderpaint$Picture;", Cond.fieldLink RX11 19 "Underpaint" "file" "Ljava/util/ArrayList;"]
def wo_c_enter_g : List Cond := .code yX11_enter cX11_enter 2 (some .int) :: (wo_c_enter_g_w ++ (u_ws RX11 TX11 14 ++ (wsV RX11 427 RX5 yX5_canBear wo_c_canBear_g ++ (va_wsS RX11 142 yX11_demandPossible wsX11_demandPossible ++ (wsV RX11 95 RJx4a65c yJx4a65c_size_8abf5 wsJx4a65c_size_8abf5 ++ (va_wsS RX11 99 yX11_demandRoom wsX11_demandRoom ++ (wsV RX11 127 RJx4a65c yJx4a65c_add_9ea2d wsJx4a65c_add_9ea2d ++ (wsV RX11 431 RX5 yX5_perform wo_c_perform_g ++ List.nil))))))))
theorem gw_wo_c_enter_g : wo_c_enter_g.all goodWord = true := gw_c (by decide +kernel) (gw_a (by decide +kernel) (gw_a (by decide +kernel) (gw_a (gw_a (by decide +kernel) gw_wo_c_canBear_g) (gw_a (gw_a (by decide +kernel) gw_wsX11_demandPossible) (gw_a (gw_a (by decide +kernel) gw_wsJx4a65c_size_8abf5) (gw_a (gw_a (by decide +kernel) gw_wsX11_demandRoom) (gw_a (gw_a (by decide +kernel) gw_wsJx4a65c_add_9ea2d) (gw_a (gw_a (by decide +kernel) gw_wo_c_perform_g) rfl))))))))
theorem go_c_enter_g_0 : GoodIn wo_c_enter_g (wsV RX11 427 RX5 yX5_canBear wo_c_canBear_g) := goodIn_sub (fun _ h => List.mem_cons_of_mem _ (List.mem_append_right _ (List.mem_append_right _ (List.mem_append_left _ h)))) (gw_a (by decide +kernel) gw_wo_c_canBear_g)
theorem go_c_enter_g_1 : GoodIn wo_c_enter_g (va_wsS RX11 142 yX11_demandPossible wsX11_demandPossible) := goodIn_sub (fun _ h => List.mem_cons_of_mem _ (List.mem_append_right _ (List.mem_append_right _ (List.mem_append_right _ (List.mem_append_left _ h))))) (gw_a (by decide +kernel) gw_wsX11_demandPossible)
theorem go_c_enter_g_2 : GoodIn wo_c_enter_g (wsV RX11 95 RJx4a65c yJx4a65c_size_8abf5 wsJx4a65c_size_8abf5) := goodIn_sub (fun _ h => List.mem_cons_of_mem _ (List.mem_append_right _ (List.mem_append_right _ (List.mem_append_right _ (List.mem_append_right _ (List.mem_append_left _ h)))))) (gw_a (by decide +kernel) gw_wsJx4a65c_size_8abf5)
theorem go_c_enter_g_3 : GoodIn wo_c_enter_g (va_wsS RX11 99 yX11_demandRoom wsX11_demandRoom) := goodIn_sub (fun _ h => List.mem_cons_of_mem _ (List.mem_append_right _ (List.mem_append_right _ (List.mem_append_right _ (List.mem_append_right _ (List.mem_append_right _ (List.mem_append_left _ h))))))) (gw_a (by decide +kernel) gw_wsX11_demandRoom)
theorem go_c_enter_g_4 : GoodIn wo_c_enter_g (wsV RX11 127 RJx4a65c yJx4a65c_add_9ea2d wsJx4a65c_add_9ea2d) := goodIn_sub (fun _ h => List.mem_cons_of_mem _ (List.mem_append_right _ (List.mem_append_right _ (List.mem_append_right _ (List.mem_append_right _ (List.mem_append_right _ (List.mem_append_right _ (List.mem_append_left _ h)))))))) (gw_a (by decide +kernel) gw_wsJx4a65c_add_9ea2d)
theorem go_c_enter_g_5 : GoodIn wo_c_enter_g (wsV RX11 431 RX5 yX5_perform wo_c_perform_g) := goodIn_sub (fun _ h => List.mem_cons_of_mem _ (List.mem_append_right _ (List.mem_append_right _ (List.mem_append_right _ (List.mem_append_right _ (List.mem_append_right _ (List.mem_append_right _ (List.mem_append_right _ (List.mem_append_left _ h))))))))) (gw_a (by decide +kernel) gw_wo_c_perform_g)
set_option maxHeartbeats 4000000 in
set_option maxRecDepth 100000 in
/-- enter -/
theorem c_enter_g (l : Launch) (hst : l.stackTraces = false) (dC : Nat → ClassId) (dI : Nat → Nat → Nat) (b0 : Nat) (en : EnT) (sz : Nat) (h pal she fil nte dat vot loa nos pic spa : Nat) (st sp ll : Nat) (a rw : Nat) (g : Nat → Option Nat) (cS : ClassId) (ac sf lo : Nat) (am li da : Int32) (le to : Int32) (hlt : (0 ≤ le ∧ le < 8) ∧ (0 ≤ to ∧ to < 6)) (hga : g (pidx le to) = some a) : vx_Met l yX11_enter wo_c_enter_g ({ frames := 7, cells := 3, slots := 22, locals := 127 } : Room) (cP b0 en (dC, dI) [(cS, .object "Underpaint$Stack")] [(fil, .inr (5, [.int 0, .ref en.2.2.1, .int 0])), (a, .inr (14, [.ref rw, .int 0, .int 0]))] [(h, .inr (17, [.ref pal, .ref she, .ref fil, .ref nte, .ref dat, .ref vot, .ref loa, .ref nos, .ref pic, .ref spa, .int 5, .int 50, .int 1600, .int 0])), (pic, .inr (11, [.ref st, .ref sp, .ref ll, .int 0, .int 1600])), (st, .inl (cS, 48, .inr (.inr (.inr (.inr g))))), (ac, .inr (6, [.int 103, .ref sf, .int am, .int le, .int to, .int 0, .int 0, .int 0, .int 0, .int li, .int da, .ref lo]))] sz (fun _ => True) [.ref h, .ref ac]) (va_Qi (fun (r : Int32) (_ : Unit) => r = 0) (fun _ _ => True) (va_A [(fil, .inr (5, [.int 0, .ref en.2.2.1, .int 0])), (a, .inr (14, [.ref rw, .int 0, .int 0]))] sz)) (vx_X (fun _ : Unit => True) (fun E _ _ => (E = "java/lang/UnsupportedOperationException" ∧ False)) (va_A [(fil, .inr (5, [.int 0, .ref en.2.2.1, .int 0])), (a, .inr (14, [.ref rw, .int 0, .int 0]))] sz)) 3 22 (va_A [(fil, .inr (5, [.int 0, .ref en.2.2.1, .int 0])), (a, .inr (14, [.ref rw, .int 0, .int 0]))] sz) := by
  refine vx_ofW (cc := cX11_enter) (maxL := 2) (ret := (some .int)) (by decide) rfl ?_
  intro p e s m args below meth c s₁ B hml hext hv
  obtain ⟨rfl, hsz, hb0, hE, hPP, hK, hDD, hF0⟩ := hv
  have hx := B.exec
  have hb := B.bytes
  have hr := B.returns
  have hts := atoms_spec (ws := wo_c_enter_g) B.pre
  have hown : s.vm.findClass RX11 = some m.cls := findClass_of_methodNamed B.named
  have hlocks := B.notSynchronized
  subst hsz
  have hN0 := en_N hPP hDD rfl
  have hP : va_P (dC, dI) vwCl [(fil, .inr (5, [.int 0, .ref en.2.2.1, .int 0])), (a, .inr (14, [.ref rw, .int 0, .int 0]))] s.heap := hPP.sub [0, 1] rfl
  have hR0 : va_P (dC, dI) vwCl [(h, .inr (17, [.ref pal, .ref she, .ref fil, .ref nte, .ref dat, .ref vot, .ref loa, .ref nos, .ref pic, .ref spa, .int 5, .int 50, .int 1600, .int 0])), (pic, .inr (11, [.ref st, .ref sp, .ref ll, .int 0, .int 1600])), (st, .inl (cS, 48, .inr (.inr (.inr (.inr g))))), (ac, .inr (6, [.int 103, .ref sf, .int am, .int le, .int to, .int 0, .int 0, .int 0, .int 0, .int li, .int da, .ref lo]))] s.heap := hPP.sub [2, 3, 4, 5] rfl
  have hD0 : va_D (fun q => b0 ≤ q) [(fil, .inr (5, [.int 0, .ref en.2.2.1, .int 0])), (a, .inr (14, [.ref rw, .int 0, .int 0]))] := hDD.sub [0, 1] (by decide) rfl
  have hDr : va_D (fun q => b0 ≤ q) [(h, .inr (17, [.ref pal, .ref she, .ref fil, .ref nte, .ref dat, .ref vot, .ref loa, .ref nos, .ref pic, .ref spa, .int 5, .int 50, .int 1600, .int 0])), (pic, .inr (11, [.ref st, .ref sp, .ref ll, .int 0, .int 1600])), (st, .inl (cS, 48, .inr (.inr (.inr (.inr g))))), (ac, .inr (6, [.int 103, .ref sf, .int am, .int le, .int to, .int 0, .int 0, .int 0, .int 0, .int li, .int da, .ref lo]))] := hDD.sub [2, 3, 4, 5] (by decide) rfl
  have hAb := en_A (sz := s.heap.size) hD0 hb0
  have hD := hD0.self (sz := s.heap.size)
  generalize hAe : va_A [(fil, .inr (5, [.int 0, .ref en.2.2.1, .int 0])), (a, .inr (14, [.ref rw, .int 0, .int 0]))] s.heap.size = A at hD hAb hN0 ⊢
  have hA : ∀ q : Nat, s.heap.size ≤ q → A q := fun q h => by rw [← hAe]; exact Or.inr h
  have hS : va_S A s.heap s.heap [] := va_S.rf
  have hR := hR0
  have hl := lv_entry [.ref h, .ref ac] (n := 2) (Nat.le_of_ble_eq_true rfl)
  rw [lg_entry_eq]
  generalize (lg_sl [.ref h, .ref ac] ++ List.replicate (2 - (lg_sl [.ref h, .ref ac]).length) Slot.unset).toArray = ls at hl ⊢
  have hl : lv_has ls 2 [(0, .ref h), (1, .ref ac)] := hl
  refine lv_aload_n hx hb dX11_enter_0 rfl (lv_at hl 0 rfl) ?_
  refine va_get (D := (dC, dI)) (ci := 17) (v := .ref pic) (C := RX11) (T := TX11) (N := 14) hx hb hts (by decide +kernel) hown hK hR 0 rfl rfl 8 (by decide) (hts (.fieldLink RX11 62 "Underpaint" "picture" "LUnderpaint$Picture;") (by decide +kernel)) (fun _ h9 => h9) rfl dX11_enter_1 ?_
  refine lv_aload_n hx hb dX11_enter_4 rfl (lv_at hl 1 rfl) ?_
  have hPc := (hP.app hR).sub (ws' := [] ++ [(pic, .inr (11, [.ref st, .ref sp, .ref ll, .int 0, .int 1600])), (st, .inl (cS, 48, .inr (.inr (.inr (.inr g))))), (ac, .inr (6, [.int 103, .ref sf, .int am, .int le, .int to, .int 0, .int 0, .int 0, .int 0, .int li, .int da, .ref lo])), (a, .inr (14, [.ref rw, .int 0, .int 0]))]) [3, 4, 5, 1] rfl
  have hDc := (en_DD hD hDr hN0 hAb).sub (ws' := [] ++ [(pic, .inr (11, [.ref st, .ref sp, .ref ll, .int 0, .int 1600])), (st, .inl (cS, 48, .inr (.inr (.inr (.inr g))))), (ac, .inr (6, [.int 103, .ref sf, .int am, .int le, .int to, .int 0, .int 0, .int 0, .int 0, .int li, .int da, .ref lo])), (a, .inr (14, [.ref rw, .int 0, .int 0]))]) [3, 4, 5, 1] (by decide) rfl
  have hKc := hK.sub (tys' := [(cS, .object "Underpaint$Stack")]) [0] rfl
  have hFc := va_free (wc := []) hD hS hA [] rfl
  refine va_calli (va_runV (As := [.ref ac]) (rest := []) ⟨hx, hb, hml, hown, hts⟩ (c_canBear_g l dC dI b0 en s.heap.size pic st sp ll a rw g cS ac sf lo am li da le to (z_c_canBear_s_402 le to hlt) hga) (cwV 1 hts go_c_enter_g_0 rfl rfl rfl (by decide +kernel) ⟨Nat.le_of_ble_eq_true rfl, Nat.le_of_ble_eq_true rfl⟩) ⟨cP.blind, va_recv hK hR (ci := 11) (q0 := 1) rfl rfl, cP.use (en_z hb0 hS) (hE.on hAb hS) hPc hKc hDc trivial⟩ rfl rfl hl.1 rfl (lv_room (Nat.le_of_ble_eq_true rfl)) dX11_enter_5 ⟨Nat.le_of_ble_eq_true rfl, Nat.le_of_ble_eq_true rfl⟩) hS (fun q _ h => hFc q h) hFc (fun r_1 u t H1 locs ht hvm hw hB hz1 hk1 hS => ?_)
  have hP1 : va_P (dC, dI) vwCl [] H1 := fun k q h => by simp at h
  have hD1 : va_D (va_A [] s.heap.size) [] := ⟨fun i j p q h => by simp at h, fun k q h => by simp at h⟩
  try dsimp only at hw
  obtain ⟨hP, hD⟩ := va_join (wr := [(fil, .inr (5, [.int 0, .ref en.2.2.1, .int 0])), (a, .inr (14, [.ref rw, .int 0, .int 0]))]) (w1 := []) hP hD [] [0, 1] rfl rfl (by decide) (by decide) hk1 hFc hP1 hD1
  generalize H1 = H at hP hS ⊢
  have hP : va_P (dC, dI) vwCl [(fil, .inr (5, [.int 0, .ref en.2.2.1, .int 0])), (a, .inr (14, [.ref rw, .int 0, .int 0]))] H := hP
  have hD : va_D A [(fil, .inr (5, [.int 0, .ref en.2.2.1, .int 0])), (a, .inr (14, [.ref rw, .int 0, .int 0]))] := hD
  have hR := en_R hR0 hN0 hS
  refine W.widen (k := 0) (n := 0) (Nat.le_of_ble_eq_true rfl) (Nat.le_of_ble_eq_true rfl) ?_
  subst r_1
  have hPc := (hP.app hR).sub (ws' := [] ++ []) [] rfl
  have hDc := (en_DD hD hDr hN0 hAb).sub (ws' := [] ++ []) [] (by decide) rfl
  have hKc := hK.sub (tys' := []) [] rfl
  have hFc := va_free (wc := []) hD hS hA [] rfl
  refine vx_callv (vx_runS (As := [.int 1]) (rest := []) ⟨hx, hb, hml, hown, hts⟩ (c_X11_demandPossible l hst dC dI b0 en H.size 1) (va_cwS 1 hts go_c_enter_g_1 rfl rfl rfl (by decide +kernel) ⟨Nat.le_of_ble_eq_true rfl, Nat.le_of_ble_eq_true rfl⟩) ⟨cP.blind, cP.use (en_z hb0 hS) (hE.on hAb hS) hPc hKc hDc trivial⟩ rfl rfl hl.1 rfl (lv_room (Nat.le_of_ble_eq_true rfl)) dX11_enter_8 ⟨Nat.le_of_ble_eq_true rfl, Nat.le_of_ble_eq_true rfl⟩) hS (fun q _ h => hFc q h) hFc (fun q _ h => hFc q h) (fun E ce q9 u t H1 locs ht hvm hpx hBX hz1 hk1 hS hce hcv hcl => ?_) (fun u t H1 locs ht hvm hw hB hz1 hk1 hS => ?_)
  · skip
    try dsimp only at hBX
    obtain ⟨rfl, hc⟩ := hBX
    exact absurd hc (by decide)
  have hP1 : va_P (dC, dI) vwCl [] H1 := fun k q h => by simp at h
  have hD1 : va_D (va_A [] H.size) [] := ⟨fun i j p q h => by simp at h, fun k q h => by simp at h⟩
  try dsimp only at hw
  obtain ⟨hP, hD⟩ := va_join (wr := [(fil, .inr (5, [.int 0, .ref en.2.2.1, .int 0])), (a, .inr (14, [.ref rw, .int 0, .int 0]))]) (w1 := []) hP hD [] [0, 1] rfl rfl (by decide) (by decide) hk1 hFc hP1 hD1
  generalize H1 = H at hP hS ⊢
  have hP : va_P (dC, dI) vwCl [(fil, .inr (5, [.int 0, .ref en.2.2.1, .int 0])), (a, .inr (14, [.ref rw, .int 0, .int 0]))] H := hP
  have hD : va_D A [(fil, .inr (5, [.int 0, .ref en.2.2.1, .int 0])), (a, .inr (14, [.ref rw, .int 0, .int 0]))] := hD
  have hR := en_R hR0 hN0 hS
  refine W.widen (k := 1) (n := 6) (Nat.le_of_ble_eq_true rfl) (Nat.le_of_ble_eq_true rfl) ?_
  have h_3 := hw
  refine lv_aload_n hx hb dX11_enter_11 rfl (lv_at hl 0 rfl) ?_
  refine va_get (D := (dC, dI)) (ci := 17) (v := .ref fil) (C := RX11) (T := TX11) (N := 14) hx hb hts (by decide +kernel) hown hK hR 0 rfl rfl 2 (by decide) (hts (.fieldLink RX11 19 "Underpaint" "file" "Ljava/util/ArrayList;") (by decide +kernel)) (fun _ h9 => h9) rfl dX11_enter_12 ?_
  have hPc := (hP.app hR).sub (ws' := [] ++ [(fil, .inr (5, [.int 0, .ref en.2.2.1, .int 0]))]) [0] rfl
  have hDc := (en_DD hD hDr hN0 hAb).sub (ws' := [] ++ [(fil, .inr (5, [.int 0, .ref en.2.2.1, .int 0]))]) [0] (by decide) rfl
  have hKc := hK.sub (tys' := []) [] rfl
  have hFc := va_free (wc := []) hD hS hA [] rfl
  refine va_calli (va_runV (As := []) (rest := []) ⟨hx, hb, hml, hown, hts⟩ (c_Jx4a65c_size l dC dI b0 en H.size fil en.2.2.1 0 0) (cwV 0 hts go_c_enter_g_2 rfl rfl rfl (by decide +kernel) ⟨Nat.le_of_ble_eq_true rfl, Nat.le_of_ble_eq_true rfl⟩) ⟨cP.blind, va_recv hK hP (ci := 5) (q0 := 0) rfl rfl, cP.use (en_z hb0 hS) (hE.on hAb hS) hPc hKc hDc trivial⟩ rfl rfl hl.1 rfl (lv_room (Nat.le_of_ble_eq_true rfl)) dX11_enter_15 ⟨Nat.le_of_ble_eq_true rfl, Nat.le_of_ble_eq_true rfl⟩) hS (fun q _ h => hFc q h) hFc (fun r_4 u t H1 locs ht hvm hw hB hz1 hk1 hS => ?_)
  have hP1 : va_P (dC, dI) vwCl [] H1 := fun k q h => by simp at h
  have hD1 : va_D (va_A [] H.size) [] := ⟨fun i j p q h => by simp at h, fun k q h => by simp at h⟩
  try dsimp only at hw
  obtain ⟨hP, hD⟩ := va_join (wr := [(fil, .inr (5, [.int 0, .ref en.2.2.1, .int 0])), (a, .inr (14, [.ref rw, .int 0, .int 0]))]) (w1 := []) hP hD [] [0, 1] rfl rfl (by decide) (by decide) hk1 hFc hP1 hD1
  generalize H1 = H at hP hS ⊢
  have hP : va_P (dC, dI) vwCl [(fil, .inr (5, [.int 0, .ref en.2.2.1, .int 0])), (a, .inr (14, [.ref rw, .int 0, .int 0]))] H := hP
  have hD : va_D A [(fil, .inr (5, [.int 0, .ref en.2.2.1, .int 0])), (a, .inr (14, [.ref rw, .int 0, .int 0]))] := hD
  have hR := en_R hR0 hN0 hS
  refine W.widen (k := 1) (n := 6) (Nat.le_of_ble_eq_true rfl) (Nat.le_of_ble_eq_true rfl) ?_
  subst r_4
  refine lv_bipush (v := 40) hx hb dX11_enter_18 (by decide) ?_
  refine lv_icmp_ge (tgt := 27) hx hb dX11_enter_20 (by decide) (fun c_5 => absurd c_5 (by decide)) (fun c_5 => ?_)
  refine lv_iconst (v := 1) hx hb dX11_enter_23 (by decide) ?_
  refine lv_goto (tgt := 28) hx hb dX11_enter_24 (by decide) ?_
  have hPc := (hP.app hR).sub (ws' := [] ++ []) [] rfl
  have hDc := (en_DD hD hDr hN0 hAb).sub (ws' := [] ++ []) [] (by decide) rfl
  have hKc := hK.sub (tys' := []) [] rfl
  have hFc := va_free (wc := []) hD hS hA [] rfl
  refine vx_callv (vx_runS (As := [.int 1]) (rest := []) ⟨hx, hb, hml, hown, hts⟩ (c_X11_demandRoom l hst dC dI b0 en H.size 1) (va_cwS 1 hts go_c_enter_g_3 rfl rfl rfl (by decide +kernel) ⟨Nat.le_of_ble_eq_true rfl, Nat.le_of_ble_eq_true rfl⟩) ⟨cP.blind, cP.use (en_z hb0 hS) (hE.on hAb hS) hPc hKc hDc trivial⟩ rfl rfl hl.1 rfl (lv_room (Nat.le_of_ble_eq_true rfl)) dX11_enter_28 ⟨Nat.le_of_ble_eq_true rfl, Nat.le_of_ble_eq_true rfl⟩) hS (fun q _ h => hFc q h) hFc (fun q _ h => hFc q h) (fun E ce q9 u t H1 locs ht hvm hpx hBX hz1 hk1 hS hce hcv hcl => ?_) (fun u t H1 locs ht hvm hw hB hz1 hk1 hS => ?_)
  · skip
    try dsimp only at hBX
    obtain ⟨rfl, hc⟩ := hBX
    exact absurd hc (by decide)
  have hP1 : va_P (dC, dI) vwCl [] H1 := fun k q h => by simp at h
  have hD1 : va_D (va_A [] H.size) [] := ⟨fun i j p q h => by simp at h, fun k q h => by simp at h⟩
  try dsimp only at hw
  obtain ⟨hP, hD⟩ := va_join (wr := [(fil, .inr (5, [.int 0, .ref en.2.2.1, .int 0])), (a, .inr (14, [.ref rw, .int 0, .int 0]))]) (w1 := []) hP hD [] [0, 1] rfl rfl (by decide) (by decide) hk1 hFc hP1 hD1
  generalize H1 = H at hP hS ⊢
  have hP : va_P (dC, dI) vwCl [(fil, .inr (5, [.int 0, .ref en.2.2.1, .int 0])), (a, .inr (14, [.ref rw, .int 0, .int 0]))] H := hP
  have hD : va_D A [(fil, .inr (5, [.int 0, .ref en.2.2.1, .int 0])), (a, .inr (14, [.ref rw, .int 0, .int 0]))] := hD
  have hR := en_R hR0 hN0 hS
  refine W.widen (k := 2) (n := 12) (Nat.le_of_ble_eq_true rfl) (Nat.le_of_ble_eq_true rfl) ?_
  have h_7 := hw
  refine lv_aload_n hx hb dX11_enter_31 rfl (lv_at hl 0 rfl) ?_
  refine va_get (D := (dC, dI)) (ci := 17) (v := .ref fil) (C := RX11) (T := TX11) (N := 14) hx hb hts (by decide +kernel) hown hK hR 0 rfl rfl 2 (by decide) (hts (.fieldLink RX11 19 "Underpaint" "file" "Ljava/util/ArrayList;") (by decide +kernel)) (fun _ h9 => h9) rfl dX11_enter_32 ?_
  refine lv_aload_n hx hb dX11_enter_35 rfl (lv_at hl 1 rfl) ?_
  have hS9 := hS
  have hPc := (hP.app hR).sub (ws' := [(fil, .inr (5, [.int 0, .ref en.2.2.1, .int 0]))] ++ [(ac, .inr (6, ([.int 103, .ref sf, .int am, .int le, .int to, .int 0, .int 0, .int 0, .int 0, .int li, .int da, .ref lo])))]) [0, 5] rfl
  have hDc := (en_DD hD hDr hN0 hAb).sub (ws' := [(fil, .inr (5, [.int 0, .ref en.2.2.1, .int 0]))] ++ [(ac, .inr (6, ([.int 103, .ref sf, .int am, .int le, .int to, .int 0, .int 0, .int 0, .int 0, .int li, .int da, .ref lo])))]) [0, 5] (by decide) rfl
  have hKc := hK.sub (tys' := []) [] rfl
  have hFc := va_free (wc := [(fil, .inr (5, [.int 0, .ref en.2.2.1, .int 0]))]) hD hS hA [0] rfl
  refine va_calli (va_runV (As := [.ref ac]) (rest := []) ⟨hx, hb, hml, hown, hts⟩ (c_addo l dC dI b0 en H.size fil ac 6 ([.int 103, .ref sf, .int am, .int le, .int to, .int 0, .int 0, .int 0, .int 0, .int li, .int da, .ref lo]) (RX0, TX0, 12) rfl (by decide +kernel)) (cwV 1 hts go_c_enter_g_4 rfl rfl rfl (by decide +kernel) ⟨Nat.le_of_ble_eq_true rfl, Nat.le_of_ble_eq_true rfl⟩) ⟨cP.blind, va_recv hK hP (ci := 5) (q0 := 0) rfl rfl, cP.use (en_z hb0 hS) (hE.on hAb hS) hPc hKc hDc trivial⟩ rfl rfl hl.1 rfl (lv_room (Nat.le_of_ble_eq_true rfl)) dX11_enter_36 ⟨Nat.le_of_ble_eq_true rfl, Nat.le_of_ble_eq_true rfl⟩) hS (fun q _ h => hFc q h) hFc (fun r_12 ⟨ar_9, cO_10, fO_11⟩ t H1 locs ht hvm hw hB hz1 hk1 hS => ?_)
  obtain ⟨hP1, hK1, hD1, hF1⟩ := hB
  rw [ht] at hP1
  try rw [ht] at hF1
  have hK1 := va_K.moved hvm.symm hK1
  try dsimp only at hw
  obtain ⟨hP, hD⟩ := va_join (wr := [(a, .inr (14, [.ref rw, .int 0, .int 0]))]) (w1 := [(fil, .inr (5, [.int 1, .ref ar_9, .int 1])), (ar_9, .inl (cO_10, 10, .inr (.inr (.inr (.inr fO_11)))))]) hP hD [0] [1] rfl rfl (by decide) (by decide) hk1 hFc hP1 hD1
  have hK := hK.app hK1
  have hgz_ar_9 : s.heap.size ≤ ar_9 := Nat.le_trans hS9.1 (vGeN hD1 1 rfl (by simp only [List.map_cons, List.map_nil, List.mem_cons, List.not_mem_nil, or_false, not_or, not_false_eq_true]; exact vAp hD1 1 0 rfl rfl (by decide)))
  generalize H1 = H at hP hS ⊢
  have hP : va_P (dC, dI) vwCl [(a, .inr (14, [.ref rw, .int 0, .int 0])), (fil, .inr (5, [.int 1, .ref ar_9, .int 1])), (ar_9, .inl (cO_10, 10, .inr (.inr (.inr (.inr fO_11)))))] H := hP
  have hD : va_D A [(a, .inr (14, [.ref rw, .int 0, .int 0])), (fil, .inr (5, [.int 1, .ref ar_9, .int 1])), (ar_9, .inl (cO_10, 10, .inr (.inr (.inr (.inr fO_11)))))] := hD
  have hR := en_R hR0 hN0 hS
  refine W.widen (k := 3) (n := 22) (Nat.le_of_ble_eq_true rfl) (Nat.le_of_ble_eq_true rfl) ?_
  subst r_12
  refine lv_pop hx hb dX11_enter_39 rfl ?_
  refine lv_aload_n hx hb dX11_enter_40 rfl (lv_at hl 0 rfl) ?_
  refine va_get (D := (dC, dI)) (ci := 17) (v := .ref pic) (C := RX11) (T := TX11) (N := 14) hx hb hts (by decide +kernel) hown hK hR 0 rfl rfl 8 (by decide) (hts (.fieldLink RX11 62 "Underpaint" "picture" "LUnderpaint$Picture;") (by decide +kernel)) (fun _ h9 => h9) rfl dX11_enter_41 ?_
  refine lv_aload_n hx hb dX11_enter_44 rfl (lv_at hl 1 rfl) ?_
  have hPc := (hP.app hR).sub (ws' := [(a, .inr (14, [.ref rw, .int 0, .int 0]))] ++ [(pic, .inr (11, [.ref st, .ref sp, .ref ll, .int 0, .int 1600])), (st, .inl (cS, 48, .inr (.inr (.inr (.inr g))))), (ac, .inr (6, [.int 103, .ref sf, .int am, .int le, .int to, .int 0, .int 0, .int 0, .int 0, .int li, .int da, .ref lo]))]) [0, 4, 5, 6] rfl
  have hDc := (en_DD hD hDr hN0 hAb).sub (ws' := [(a, .inr (14, [.ref rw, .int 0, .int 0]))] ++ [(pic, .inr (11, [.ref st, .ref sp, .ref ll, .int 0, .int 1600])), (st, .inl (cS, 48, .inr (.inr (.inr (.inr g))))), (ac, .inr (6, [.int 103, .ref sf, .int am, .int le, .int to, .int 0, .int 0, .int 0, .int 0, .int li, .int da, .ref lo]))]) [0, 4, 5, 6] (by decide) rfl
  have hKc := hK.sub (tys' := [(cS, .object "Underpaint$Stack")]) [0] rfl
  have hFc := va_free (wc := [(a, .inr (14, [.ref rw, .int 0, .int 0]))]) hD hS hA [0] rfl
  refine va_calli (va_runV (As := [.ref ac]) (rest := []) ⟨hx, hb, hml, hown, hts⟩ (c_perform_g l dC dI b0 en H.size pic st sp ll a rw g cS ac sf lo am li da le to (z_c_enter_g_406 le to hlt h_3 h_7) hga) (cwV 1 hts go_c_enter_g_5 rfl rfl rfl (by decide +kernel) ⟨Nat.le_of_ble_eq_true rfl, Nat.le_of_ble_eq_true rfl⟩) ⟨cP.blind, va_recv hK hR (ci := 11) (q0 := 1) rfl rfl, cP.use (en_z hb0 hS) (hE.on hAb hS) hPc hKc hDc trivial⟩ rfl rfl hl.1 rfl (lv_room (Nat.le_of_ble_eq_true rfl)) dX11_enter_45 ⟨Nat.le_of_ble_eq_true rfl, Nat.le_of_ble_eq_true rfl⟩) hS (fun q _ h => hFc q h) hFc (fun r_13 u t H1 locs ht hvm hw hB hz1 hk1 hS => ?_)
  have hP1 : va_P (dC, dI) vwCl [] H1 := fun k q h => by simp at h
  have hD1 : va_D (va_A [(a, .inr (14, [.ref rw, .int 0, .int 0]))] H.size) [] := ⟨fun i j p q h => by simp at h, fun k q h => by simp at h⟩
  try dsimp only at hw
  obtain ⟨hP, hD⟩ := va_join (wr := [(fil, .inr (5, [.int 1, .ref ar_9, .int 1])), (ar_9, .inl (cO_10, 10, .inr (.inr (.inr (.inr fO_11)))))]) (w1 := []) hP hD [0] [1, 2] rfl rfl (by decide) (by decide) hk1 hFc hP1 hD1
  generalize H1 = H at hP hS ⊢
  have hP : va_P (dC, dI) vwCl [(fil, .inr (5, [.int 1, .ref ar_9, .int 1])), (ar_9, .inl (cO_10, 10, .inr (.inr (.inr (.inr fO_11)))))] H := hP
  have hD : va_D A [(fil, .inr (5, [.int 1, .ref ar_9, .int 1])), (ar_9, .inl (cO_10, 10, .inr (.inr (.inr (.inr fO_11)))))] := hD
  have hR := en_R hR0 hN0 hS
  refine W.widen (k := 3) (n := 22) (Nat.le_of_ble_eq_true rfl) (Nat.le_of_ble_eq_true rfl) ?_
  subst r_13
  refine W.widen (k := 3) (n := 22) (Nat.le_of_ble_eq_true rfl) (Nat.le_of_ble_eq_true rfl) ?_
  refine vx_ret ?_
  exact W.iret (v := 0) hx hb hr (fun t ht hW => ⟨⟨0, (), rfl, (z_c_enter_g_407 le to hlt h_3 h_7), trivial⟩, hS.F ht⟩) hS.2.2 dX11_enter_48
