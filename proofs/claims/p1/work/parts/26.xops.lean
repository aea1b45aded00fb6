theorem dX11_demandRayAndPlace_0 : decode cX11_demandRayAndPlace 0 = .ok (.ldc 216, 2) := by decide +kernel
theorem dX11_demandRayAndPlace_2 : decode cX11_demandRayAndPlace 2 = .ok (.iload_n 0, 1) := by decide +kernel
set_option maxRecDepth 20000 in
theorem ggX11_demandRayAndPlace_J0_indexOf_0f7a4 : GoodIn wsX11_demandRayAndPlace wsJ0_indexOf_0f7a4 := goodIn_r _ [7, 8, 9, 10, 6, 11, 12, 13, 14, 15, 16, 17, 18, 19, 20, 21, 22, 23, 24, 25, 26, 27, 28, 29, 30, 31, 32, 33, 34, 35, 36, 37, 38, 39, 40, 41, 42, 43, 44, 45, 46, 47, 48, 49, 50, 51, 52, 53, 54, 55, 56, 57, 58, 59, 60, 61, 62, 63, 64, 65, 66, 67, 68, 69, 70, 71, 72, 73, 74, 75, 76, 77, 78, 79, 80, 81, 82, 83, 84, 85, 86, 87, 88, 89, 90, 91, 96, 97, 98, 99] (by decide +kernel) (by decide +kernel)
set_option maxRecDepth 20000 in
theorem gX11_demandRayAndPlace_J0_indexOf_0f7a4 : GoodIn wsX11_demandRayAndPlace (wsV RX11 81 RJ0 yJ0_indexOf_0f7a4 wsJ0_indexOf_0f7a4) := goodIn_app (goodIn_of _ (by decide +kernel)) ggX11_demandRayAndPlace_J0_indexOf_0f7a4
theorem dX11_demandRayAndPlace_3 : decode cX11_demandRayAndPlace 3 = .ok (.invokevirtual 81, 3) := by decide +kernel
theorem dX11_demandRayAndPlace_6 : decode cX11_demandRayAndPlace 6 = .ok (.ifCond .lt 11, 3) := by decide +kernel
theorem dX11_demandRayAndPlace_17 : decode cX11_demandRayAndPlace 17 = .ok (.new 451, 3) := by decide +kernel
theorem dX11_demandRayAndPlace_20 : decode cX11_demandRayAndPlace 20 = .ok (.dup, 1) := by decide +kernel
theorem dX11_demandRayAndPlace_21 : decode cX11_demandRayAndPlace 21 = .ok (.ldc_w 460, 3) := by decide +kernel
theorem dX11_demandRayAndPlace_24 : decode cX11_demandRayAndPlace 24 = .ok (.invokespecial 455, 3) := by decide +kernel
theorem dX11_demandRayAndPlace_27 : decode cX11_demandRayAndPlace 27 = .ok (.athrow, 1) := by decide +kernel
theorem dX11_demandRayAndPlace_9 : decode cX11_demandRayAndPlace 9 = .ok (.iload_n 1, 1) := by decide +kernel
theorem dX11_demandRayAndPlace_10 : decode cX11_demandRayAndPlace 10 = .ok (.iload_n 2, 1) := by decide +kernel
set_option maxRecDepth 20000 in
theorem ggX11_demandRayAndPlace_X11_isPlace : GoodIn wsX11_demandRayAndPlace wsX11_isPlace := goodIn_r _ [95] (by decide +kernel) (by decide +kernel)
set_option maxRecDepth 20000 in
theorem gX11_demandRayAndPlace_X11_isPlace : GoodIn wsX11_demandRayAndPlace (va_wsS RX11 157 yX11_isPlace wsX11_isPlace) := goodIn_app (goodIn_of _ (by decide +kernel)) ggX11_demandRayAndPlace_X11_isPlace
theorem dX11_demandRayAndPlace_11 : decode cX11_demandRayAndPlace 11 = .ok (.invokestatic 157, 3) := by decide +kernel
theorem dX11_demandRayAndPlace_14 : decode cX11_demandRayAndPlace 14 = .ok (.ifCond .ne 14, 3) := by decide +kernel
theorem dX11_demandRayAndPlace_28 : decode cX11_demandRayAndPlace 28 = .ok (.return_, 1) := by decide +kernel
theorem dX11_demandHabits_0 : decode cX11_demandHabits 0 = .ok (.iload_n 0, 1) := by decide +kernel
theorem dX11_demandHabits_1 : decode cX11_demandHabits 1 = .ok (.iconst 0, 1) := by decide +kernel
theorem dX11_demandHabits_2 : decode cX11_demandHabits 2 = .ok (.bipush 99, 2) := by decide +kernel
theorem dX11_demandHabits_4 : decode cX11_demandHabits 4 = .ok (.invokestatic 91, 3) := by decide +kernel
theorem dX11_demandHabits_7 : decode cX11_demandHabits 7 = .ok (.ifCond .eq 17, 3) := by decide +kernel
theorem dX11_demandHabits_24 : decode cX11_demandHabits 24 = .ok (.iconst 0, 1) := by decide +kernel
theorem dX11_demandHabits_25 : decode cX11_demandHabits 25 = .ok (.invokestatic 87, 3) := by decide +kernel
theorem dX11_demandHabits_10 : decode cX11_demandHabits 10 = .ok (.iload_n 1, 1) := by decide +kernel
theorem dX11_demandHabits_11 : decode cX11_demandHabits 11 = .ok (.iconst 0, 1) := by decide +kernel
theorem dX11_demandHabits_12 : decode cX11_demandHabits 12 = .ok (.bipush 99, 2) := by decide +kernel
theorem dX11_demandHabits_14 : decode cX11_demandHabits 14 = .ok (.invokestatic 91, 3) := by decide +kernel
theorem dX11_demandHabits_17 : decode cX11_demandHabits 17 = .ok (.ifCond .eq 7, 3) := by decide +kernel
theorem dX11_demandHabits_20 : decode cX11_demandHabits 20 = .ok (.iconst 1, 1) := by decide +kernel
theorem dX11_demandHabits_21 : decode cX11_demandHabits 21 = .ok (.goto 4, 3) := by decide +kernel
theorem dX11_demandHabits_28 : decode cX11_demandHabits 28 = .ok (.iload_n 2, 1) := by decide +kernel
theorem dX11_demandHabits_29 : decode cX11_demandHabits 29 = .ok (.iconst 0, 1) := by decide +kernel
theorem dX11_demandHabits_30 : decode cX11_demandHabits 30 = .ok (.bipush 99, 2) := by decide +kernel
theorem dX11_demandHabits_32 : decode cX11_demandHabits 32 = .ok (.invokestatic 91, 3) := by decide +kernel
theorem dX11_demandHabits_35 : decode cX11_demandHabits 35 = .ok (.ifCond .eq 17, 3) := by decide +kernel
theorem dX11_demandHabits_52 : decode cX11_demandHabits 52 = .ok (.iconst 0, 1) := by decide +kernel
theorem dX11_demandHabits_53 : decode cX11_demandHabits 53 = .ok (.invokestatic 87, 3) := by decide +kernel
theorem dX11_demandHabits_38 : decode cX11_demandHabits 38 = .ok (.iload_n 3, 1) := by decide +kernel
theorem dX11_demandHabits_39 : decode cX11_demandHabits 39 = .ok (.iconst 0, 1) := by decide +kernel
theorem dX11_demandHabits_40 : decode cX11_demandHabits 40 = .ok (.bipush 99, 2) := by decide +kernel
theorem dX11_demandHabits_42 : decode cX11_demandHabits 42 = .ok (.invokestatic 91, 3) := by decide +kernel
theorem dX11_demandHabits_45 : decode cX11_demandHabits 45 = .ok (.ifCond .eq 7, 3) := by decide +kernel
theorem dX11_demandHabits_48 : decode cX11_demandHabits 48 = .ok (.iconst 1, 1) := by decide +kernel
theorem dX11_demandHabits_49 : decode cX11_demandHabits 49 = .ok (.goto 4, 3) := by decide +kernel
theorem dX11_demandHabits_56 : decode cX11_demandHabits 56 = .ok (.return_, 1) := by decide +kernel
theorem dX11_layerAt_0 : decode cX11_layerAt 0 = .ok (.iload_n 1, 1) := by decide +kernel
theorem dX11_layerAt_1 : decode cX11_layerAt 1 = .ok (.iload_n 2, 1) := by decide +kernel
theorem dX11_layerAt_2 : decode cX11_layerAt 2 = .ok (.invokestatic 176, 3) := by decide +kernel
theorem dX11_layerAt_5 : decode cX11_layerAt 5 = .ok (.iload 4, 2) := by decide +kernel
theorem dX11_layerAt_7 : decode cX11_layerAt 7 = .ok (.bipush 115, 2) := by decide +kernel
theorem dX11_layerAt_9 : decode cX11_layerAt 9 = .ok (.if_icmp .eq 31, 3) := by decide +kernel
theorem dX11_layerAt_40 : decode cX11_layerAt 40 = .ok (.iconst 1, 1) := by decide +kernel
theorem dX11_layerAt_41 : decode cX11_layerAt 41 = .ok (.goto 4, 3) := by decide +kernel
theorem dX11_layerAt_45 : decode cX11_layerAt 45 = .ok (.invokestatic 87, 3) := by decide +kernel
theorem dX11_layerAt_48 : decode cX11_layerAt 48 = .ok (.aload_n 0, 1) := by decide +kernel
theorem dX11_layerAt_49 : decode cX11_layerAt 49 = .ok (.getfield 62, 3) := by decide +kernel
theorem dX11_layerAt_52 : decode cX11_layerAt 52 = .ok (.iload_n 1, 1) := by decide +kernel
theorem dX11_layerAt_53 : decode cX11_layerAt 53 = .ok (.iload_n 2, 1) := by decide +kernel
theorem dX11_layerAt_54 : decode cX11_layerAt 54 = .ok (.invokevirtual 179, 3) := by decide +kernel
theorem dX11_layerAt_57 : decode cX11_layerAt 57 = .ok (.astore 5, 2) := by decide +kernel
theorem dX11_layerAt_59 : decode cX11_layerAt 59 = .ok (.iload_n 3, 1) := by decide +kernel
theorem dX11_layerAt_60 : decode cX11_layerAt 60 = .ok (.iconst 0, 1) := by decide +kernel
theorem dX11_layerAt_61 : decode cX11_layerAt 61 = .ok (.aload 5, 2) := by decide +kernel
theorem dX11_layerAt_63 : decode cX11_layerAt 63 = .ok (.getfield 183, 3) := by decide +kernel
theorem dX11_layerAt_66 : decode cX11_layerAt 66 = .ok (.iconst 1, 1) := by decide +kernel
theorem dX11_layerAt_67 : decode cX11_layerAt 67 = .ok (.isub, 1) := by decide +kernel
theorem dX11_layerAt_68 : decode cX11_layerAt 68 = .ok (.invokestatic 91, 3) := by decide +kernel
theorem dX11_layerAt_71 : decode cX11_layerAt 71 = .ok (.invokestatic 187, 3) := by decide +kernel
theorem dX11_layerAt_12 : decode cX11_layerAt 12 = .ok (.iload 4, 2) := by decide +kernel
theorem dX11_layerAt_14 : decode cX11_layerAt 14 = .ok (.bipush 116, 2) := by decide +kernel
theorem dX11_layerAt_16 : decode cX11_layerAt 16 = .ok (.if_icmp .eq 24, 3) := by decide +kernel
theorem dX11_layerAt_19 : decode cX11_layerAt 19 = .ok (.iload 4, 2) := by decide +kernel
theorem dX11_layerAt_21 : decode cX11_layerAt 21 = .ok (.bipush 121, 2) := by decide +kernel
theorem dX11_layerAt_23 : decode cX11_layerAt 23 = .ok (.if_icmp .eq 17, 3) := by decide +kernel
theorem dX11_layerAt_26 : decode cX11_layerAt 26 = .ok (.iload 4, 2) := by decide +kernel
theorem dX11_layerAt_28 : decode cX11_layerAt 28 = .ok (.bipush 99, 2) := by decide +kernel
theorem dX11_layerAt_30 : decode cX11_layerAt 30 = .ok (.if_icmp .eq 10, 3) := by decide +kernel
theorem dX11_layerAt_33 : decode cX11_layerAt 33 = .ok (.iload 4, 2) := by decide +kernel
theorem dX11_layerAt_35 : decode cX11_layerAt 35 = .ok (.bipush 103, 2) := by decide +kernel
theorem dX11_layerAt_37 : decode cX11_layerAt 37 = .ok (.if_icmp .ne 7, 3) := by decide +kernel
theorem dX11_layerAt_44 : decode cX11_layerAt 44 = .ok (.iconst 0, 1) := by decide +kernel
theorem dX5_raking_0 : decode cX5_raking 0 = .ok (.aload_n 0, 1) := by decide +kernel
theorem dX5_raking_1 : decode cX5_raking 1 = .ok (.iload_n 1, 1) := by decide +kernel
theorem dX5_raking_2 : decode cX5_raking 2 = .ok (.iload_n 2, 1) := by decide +kernel
theorem dX5_raking_3 : decode cX5_raking 3 = .ok (.invokevirtual 43, 3) := by decide +kernel
theorem dX5_raking_6 : decode cX5_raking 6 = .ok (.invokevirtual 51, 3) := by decide +kernel
theorem dX5_raking_9 : decode cX5_raking 9 = .ok (.istore_n 3, 1) := by decide +kernel
theorem dX5_raking_10 : decode cX5_raking 10 = .ok (.iconst 0, 1) := by decide +kernel
theorem dX5_raking_11 : decode cX5_raking 11 = .ok (.istore 4, 2) := by decide +kernel
theorem dX5_raking_13 : decode cX5_raking 13 = .ok (.iconst 0, 1) := by decide +kernel
theorem dX5_raking_14 : decode cX5_raking 14 = .ok (.istore 5, 2) := by decide +kernel
theorem dX5_raking_16 : decode cX5_raking 16 = .ok (.iload 5, 2) := by decide +kernel
theorem dX5_raking_18 : decode cX5_raking 18 = .ok (.iconst 4, 1) := by decide +kernel
theorem dX5_raking_19 : decode cX5_raking 19 = .ok (.if_icmp .ge 70, 3) := by decide +kernel
theorem dX5_raking_22 : decode cX5_raking 22 = .ok (.iload_n 1, 1) := by decide +kernel
theorem dX5_raking_23 : decode cX5_raking 23 = .ok (.getstatic 55, 3) := by decide +kernel
theorem dX5_raking_26 : decode cX5_raking 26 = .ok (.iload 5, 2) := by decide +kernel
theorem dX5_raking_28 : decode cX5_raking 28 = .ok (.iaload, 1) := by decide +kernel
theorem dX5_raking_29 : decode cX5_raking 29 = .ok (.iadd, 1) := by decide +kernel
theorem dX5_raking_30 : decode cX5_raking 30 = .ok (.iload_n 2, 1) := by decide +kernel
theorem dX5_raking_31 : decode cX5_raking 31 = .ok (.getstatic 58, 3) := by decide +kernel
theorem dX5_raking_34 : decode cX5_raking 34 = .ok (.iload 5, 2) := by decide +kernel
theorem dX5_raking_36 : decode cX5_raking 36 = .ok (.iaload, 1) := by decide +kernel
theorem dX5_raking_37 : decode cX5_raking 37 = .ok (.iadd, 1) := by decide +kernel
theorem dX5_raking_38 : decode cX5_raking 38 = .ok (.invokestatic 61, 3) := by decide +kernel
theorem dX5_raking_41 : decode cX5_raking 41 = .ok (.ifCond .eq 42, 3) := by decide +kernel
theorem dX5_raking_83 : decode cX5_raking 83 = .ok (.iinc 5 1, 3) := by decide +kernel
theorem dX5_raking_86 : decode cX5_raking 86 = .ok (.goto (-70), 3) := by decide +kernel
theorem dX5_raking_89 : decode cX5_raking 89 = .ok (.iload 4, 2) := by decide +kernel
theorem dX5_raking_91 : decode cX5_raking 91 = .ok (.ireturn, 1) := by decide +kernel
theorem dX5_raking_44 : decode cX5_raking 44 = .ok (.aload_n 0, 1) := by decide +kernel
theorem dX5_raking_45 : decode cX5_raking 45 = .ok (.iload_n 1, 1) := by decide +kernel
theorem dX5_raking_46 : decode cX5_raking 46 = .ok (.getstatic 55, 3) := by decide +kernel
theorem dX5_raking_49 : decode cX5_raking 49 = .ok (.iload 5, 2) := by decide +kernel
theorem dX5_raking_51 : decode cX5_raking 51 = .ok (.iaload, 1) := by decide +kernel
theorem dX5_raking_52 : decode cX5_raking 52 = .ok (.iadd, 1) := by decide +kernel
theorem dX5_raking_53 : decode cX5_raking 53 = .ok (.iload_n 2, 1) := by decide +kernel
theorem dX5_raking_54 : decode cX5_raking 54 = .ok (.getstatic 58, 3) := by decide +kernel
theorem dX5_raking_57 : decode cX5_raking 57 = .ok (.iload 5, 2) := by decide +kernel
theorem dX5_raking_59 : decode cX5_raking 59 = .ok (.iaload, 1) := by decide +kernel
theorem dX5_raking_60 : decode cX5_raking 60 = .ok (.iadd, 1) := by decide +kernel
theorem dX5_raking_61 : decode cX5_raking 61 = .ok (.invokevirtual 43, 3) := by decide +kernel
theorem dX5_raking_64 : decode cX5_raking 64 = .ok (.invokevirtual 51, 3) := by decide +kernel
theorem dX5_raking_67 : decode cX5_raking 67 = .ok (.iload_n 3, 1) := by decide +kernel
theorem dX5_raking_68 : decode cX5_raking 68 = .ok (.isub, 1) := by decide +kernel
theorem dX5_raking_69 : decode cX5_raking 69 = .ok (.istore 6, 2) := by decide +kernel
theorem dX5_raking_71 : decode cX5_raking 71 = .ok (.iload 4, 2) := by decide +kernel
theorem dX5_raking_73 : decode cX5_raking 73 = .ok (.iload 6, 2) := by decide +kernel
theorem dX5_raking_75 : decode cX5_raking 75 = .ok (.invokestatic 65, 3) := by decide +kernel
theorem dX5_raking_78 : decode cX5_raking 78 = .ok (.invokestatic 70, 3) := by decide +kernel
theorem dX5_raking_81 : decode cX5_raking 81 = .ok (.istore 4, 2) := by decide +kernel
theorem dX5_see_0 : decode cX5_see 0 = .ok (.iload_n 1, 1) := by decide +kernel
theorem dX5_see_1 : decode cX5_see 1 = .ok (.iconst 4, 1) := by decide +kernel
theorem dX5_see_2 : decode cX5_see 2 = .ok (.if_icmp .ne 12, 3) := by decide +kernel
theorem dX5_see_14 : decode cX5_see 14 = .ok (.aload_n 0, 1) := by decide +kernel
theorem dX5_see_15 : decode cX5_see 15 = .ok (.iload_n 2, 1) := by decide +kernel
theorem dX5_see_16 : decode cX5_see 16 = .ok (.iload_n 3, 1) := by decide +kernel
theorem dX5_see_17 : decode cX5_see 17 = .ok (.invokevirtual 43, 3) := by decide +kernel
theorem dX5_see_20 : decode cX5_see 20 = .ok (.iload_n 1, 1) := by decide +kernel
theorem dX5_see_21 : decode cX5_see 21 = .ok (.invokevirtual 47, 3) := by decide +kernel
theorem dX5_see_24 : decode cX5_see 24 = .ok (.ireturn, 1) := by decide +kernel
theorem dX5_see_5 : decode cX5_see 5 = .ok (.aload_n 0, 1) := by decide +kernel
theorem dX5_see_6 : decode cX5_see 6 = .ok (.iload_n 2, 1) := by decide +kernel
theorem dX5_see_7 : decode cX5_see 7 = .ok (.iload_n 3, 1) := by decide +kernel
theorem dX5_see_8 : decode cX5_see 8 = .ok (.invokevirtual 40, 3) := by decide +kernel
theorem dX5_see_11 : decode cX5_see 11 = .ok (.goto 13, 3) := by decide +kernel
theorem dX11_view_0 : decode cX11_view 0 = .ok (.iload_n 1, 1) := by decide +kernel
theorem dX11_view_1 : decode cX11_view 1 = .ok (.iload_n 2, 1) := by decide +kernel
theorem dX11_view_2 : decode cX11_view 2 = .ok (.iload_n 3, 1) := by decide +kernel
theorem dX11_view_3 : decode cX11_view 3 = .ok (.invokestatic 212, 3) := by decide +kernel
theorem dX11_view_6 : decode cX11_view 6 = .ok (.aload_n 0, 1) := by decide +kernel
theorem dX11_view_7 : decode cX11_view 7 = .ok (.getfield 62, 3) := by decide +kernel
theorem dX11_view_10 : decode cX11_view 10 = .ok (.ldc 216, 2) := by decide +kernel
theorem dX11_view_12 : decode cX11_view 12 = .ok (.iload_n 1, 1) := by decide +kernel
theorem dX11_view_13 : decode cX11_view 13 = .ok (.invokevirtual 81, 3) := by decide +kernel
theorem dX11_view_16 : decode cX11_view 16 = .ok (.iload_n 2, 1) := by decide +kernel
theorem dX11_view_17 : decode cX11_view 17 = .ok (.iload_n 3, 1) := by decide +kernel
theorem dX11_view_18 : decode cX11_view 18 = .ok (.invokevirtual 218, 3) := by decide +kernel
theorem dX11_view_21 : decode cX11_view 21 = .ok (.ireturn, 1) := by decide +kernel
def pidx (x y : Int32) : Nat := (y * 8 + x).toNatClampNeg
theorem pidx_lt {x y : Int32} (h : (0 ≤ x ∧ x < 8) ∧ (0 ≤ y ∧ y < 6)) : pidx x y < 48 := by
  obtain ⟨i, hi, e⟩ := pl_ix h
  unfold pidx
  rw [e, nI_clamp (by omega)]
  exact hi
theorem pidx_in {x y z : Int32} (h : (0 ≤ x ∧ x < 8) ∧ (0 ≤ y ∧ y < 6)) (e : z = y * 8 + x) : vp_in z 48 := by
  obtain ⟨i, hi, e2⟩ := pl_ix h
  exact pl_in hi (e.trans e2)

set_option maxRecDepth 100000 in
theorem gw_wsX11_placeOf : wsX11_placeOf.all goodWord = true := by decide +kernel
def wo_c_at_w : List Cond := [Cond.fieldLink RX5 11 "Underpaint$Picture" "stacks" "[LUnderpaint$Stack;", Cond.initialized RX11, Cond.static yX11_placeOf]
def wo_c_at : List Cond := .code yX5_at cX5_at 3 (some (.object "Underpaint$Stack")) :: (wo_c_at_w ++ (u_ws RX5 TX5 5 ++ (wsX11_placeOf ++ List.nil)))
theorem gw_wo_c_at : wo_c_at.all goodWord = true := gw_c (by decide +kernel) (gw_a (by decide +kernel) (gw_a (by decide +kernel) (gw_a gw_wsX11_placeOf rfl)))
theorem go_c_at_0 : GoodIn wo_c_at (wsX11_placeOf) := goodIn_sub (fun _ h => List.mem_cons_of_mem _ (List.mem_append_right _ (List.mem_append_right _ (List.mem_append_left _ h)))) gw_wsX11_placeOf
set_option maxHeartbeats 4000000 in
set_option maxRecDepth 100000 in
/-- Picture.at(x, y) -/
theorem c_at (l : Launch) (dC : Nat → ClassId) (dI : Nat → Nat → Nat) (b0 : Nat) (en : EnT) (sz : Nat) (q st sp ll : Nat) (x y : Int32) (g : Nat → Option Nat) (cS : ClassId) (hxy : ((0 : Int32) ≤ x ∧ (x : Int32) < 8) ∧ ((0 : Int32) ≤ y ∧ (y : Int32) < 6)) : Met l yX5_at wo_c_at ({ frames := 1, cells := 0, slots := 0, locals := 21 } : Room) (cP b0 en (dC, dI) [(cS, .object "Underpaint$Stack")] [] [(q, .inr (11, [.ref st, .ref sp, .ref ll, .int 0, .int 1600])), (st, .inl (cS, 48, .inr (.inr (.inr (.inr g)))))] sz (fun _ => True) [.ref q, .int x, .int y]) (va_Qq (fun (r : Option Nat) (_ : Unit) => r = g (pidx x y)) (fun _ _ => True) (va_A [] sz)) 0 0 (va_A [] sz) := by
  refine Met.ofW (cc := cX5_at) (maxL := 3) (ret := (some (.object "Underpaint$Stack"))) (by decide) rfl ?_
  intro p e s m args below meth c s₁ B hml hv
  obtain ⟨rfl, hsz, hb0, hE, hPP, hK, hDD, hF0⟩ := hv
  have hx := B.exec
  have hb := B.bytes
  have hr := B.returns
  have hts := atoms_spec (ws := wo_c_at) B.pre
  have hown : s.vm.findClass RX5 = some m.cls := findClass_of_methodNamed B.named
  have hlocks := B.notSynchronized
  subst hsz
  have hN0 := en_N hPP hDD rfl
  have hP : va_P (dC, dI) vwCl [] s.heap := hPP.sub [] rfl
  have hR0 : va_P (dC, dI) vwCl [(q, .inr (11, [.ref st, .ref sp, .ref ll, .int 0, .int 1600])), (st, .inl (cS, 48, .inr (.inr (.inr (.inr g)))))] s.heap := hPP.sub [0, 1] rfl
  have hD0 : va_D (fun q => b0 ≤ q) [] := hDD.sub [] (by decide) rfl
  have hDr : va_D (fun q => b0 ≤ q) [(q, .inr (11, [.ref st, .ref sp, .ref ll, .int 0, .int 1600])), (st, .inl (cS, 48, .inr (.inr (.inr (.inr g)))))] := hDD.sub [0, 1] (by decide) rfl
  have hAb := en_A (sz := s.heap.size) hD0 hb0
  have hD := hD0.self (sz := s.heap.size)
  generalize hAe : va_A [] s.heap.size = A at hD hAb hN0 ⊢
  have hA : ∀ q : Nat, s.heap.size ≤ q → A q := fun q h => by rw [← hAe]; exact Or.inr h
  have hS : va_S A s.heap s.heap [] := va_S.rf
  have hR := hR0
  have hl := lv_entry [.ref q, .int x, .int y] (n := 3) (Nat.le_of_ble_eq_true rfl)
  rw [lg_entry_eq]
  generalize (lg_sl [.ref q, .int x, .int y] ++ List.replicate (3 - (lg_sl [.ref q, .int x, .int y]).length) Slot.unset).toArray = ls at hl ⊢
  have hl : lv_has ls 3 [(0, .ref q), (1, .int x), (2, .int y)] := hl
  refine lv_aload_n hx hb dX5_at_0 rfl (lv_at hl 0 rfl) ?_
  refine va_get (D := (dC, dI)) (ci := 11) (v := .ref st) (C := RX5) (T := TX5) (N := 5) hx hb hts (by decide +kernel) hown hK hR 0 rfl rfl 0 (by decide) (hts (.fieldLink RX5 11 "Underpaint$Picture" "stacks" "[LUnderpaint$Stack;") (by decide +kernel)) (fun _ h9 => h9) rfl dX5_at_1 ?_
  refine lv_iload_n hx hb dX5_at_4 rfl (lv_at hl 1 rfl) ?_
  refine lv_iload_n hx hb dX5_at_5 rfl (lv_at hl 2 rfl) ?_
  have hPc := (hP.app hR).sub (ws' := [] ++ []) [] rfl
  have hDc := (en_DD hD hDr hN0 hAb).sub (ws' := [] ++ []) [] (by decide) rfl
  have hKc := hK.sub (tys' := []) [] rfl
  have hFc := va_free (wc := []) hD hS hA [] rfl
  refine va_calli (va_runSN (As := [.int x, .int y]) (rest := [.ref st]) ⟨hx, hb, hml, hown, hts⟩ (c_X11_placeOf l dC dI b0 en s.heap.size x y) ⟨va_cnB 2 hts go_c_at_0 rfl rfl rfl (hE.nm ("Underpaint$Picture", 36, ⟨"Underpaint", "placeOf", "(II)I"⟩, "Underpaint") (by decide +kernel)) (hts (.initialized RX11) (by decide +kernel)) (by decide +kernel) ⟨Nat.le_of_ble_eq_true rfl, Nat.le_of_ble_eq_true rfl⟩, hts (.static yX11_placeOf) (by decide +kernel), trivial⟩ ⟨cP.blind, cP.use (en_z hb0 hS) (hE.on hAb hS) hPc hKc hDc trivial⟩ rfl rfl hl.1 rfl (lv_room (Nat.le_of_ble_eq_true rfl)) dX5_at_6 ⟨Nat.le_of_ble_eq_true rfl, Nat.le_of_ble_eq_true rfl⟩) hS (fun q _ h => hFc q h) hFc (fun r_1 u t H1 locs ht hvm hw hB hz1 hk1 hS => ?_)
  have hP1 : va_P (dC, dI) vwCl [] H1 := fun k q h => by simp at h
  have hD1 : va_D (va_A [] s.heap.size) [] := ⟨fun i j p q h => by simp at h, fun k q h => by simp at h⟩
  try dsimp only at hw
  obtain ⟨hP, hD⟩ := va_join (wr := []) (w1 := []) hP hD [] [] rfl rfl (by decide) (by decide) hk1 hFc hP1 hD1
  generalize H1 = H at hP hS ⊢
  have hP : va_P (dC, dI) vwCl [] H := hP
  have hD : va_D A [] := hD
  have hR := en_R hR0 hN0 hS
  refine W.widen (k := 0) (n := 0) (Nat.le_of_ble_eq_true rfl) (Nat.le_of_ble_eq_true rfl) ?_
  subst r_1
  refine va_aldq hx hb hK hR 1 0 rfl rfl (pidx_in hxy rfl) dX5_at_9 ?_
  refine W.eq (g2 := F0 m 10 ls [va_rf (g (pidx x y))]) rfl ?_
  refine W.widen (k := 0) (n := 0) (Nat.le_of_ble_eq_true rfl) (Nat.le_of_ble_eq_true rfl) ?_
  exact W.aret (v := va_rf (g (pidx x y))) hx hb hr (by first | exact Or.inl ⟨_, rfl⟩ | exact Or.inr ⟨_, rfl⟩) (by first | exact Or.inl rfl | exact va_rf_or _ | exact Or.inr ⟨_, rfl⟩) (fun t ht hW => ⟨⟨(g (pidx x y)), (), rfl, rfl, trivial⟩, hS.F ht⟩) hS.2.2 dX5_at_10
theorem z_c_X11_demandRayAndPlace_223 (ray : Int32) (x : Int32) (y : Int32) (a_0 : ¬ (0 ≤ ixL 1 ray)) : ¬ (0 ≤ ixL 1 ray ∧ ((0 ≤ x ∧ x < 8) ∧ (0 ≤ y ∧ y < 6))) := by grind
theorem z_c_X11_demandRayAndPlace_224 (ray : Int32) (x : Int32) (y : Int32) (a_0 : 0 ≤ ixL 1 ray) (a_1 : (0 ≤ x ∧ x < 8) ∧ (0 ≤ y ∧ y < 6)) : 0 ≤ ixL 1 ray ∧ ((0 ≤ x ∧ x < 8) ∧ (0 ≤ y ∧ y < 6)) := by grind
theorem z_c_X11_demandRayAndPlace_225 (ray : Int32) (x : Int32) (y : Int32) (a_0 : 0 ≤ ixL 1 ray) (a_1 : ¬ ((0 ≤ x ∧ x < 8) ∧ (0 ≤ y ∧ y < 6))) : ¬ (0 ≤ ixL 1 ray ∧ ((0 ≤ x ∧ x < 8) ∧ (0 ≤ y ∧ y < 6))) := by grind
set_option maxHeartbeats 4000000 in
set_option maxRecDepth 100000 in
/-- such a ray, such a place -/
theorem c_X11_demandRayAndPlace (l : Launch) (hst : l.stackTraces = false) (dC : Nat → ClassId) (dI : Nat → Nat → Nat) (b0 : Nat) (en : EnT) (sz : Nat) (ray x y : Int32) : vx_Met l yX11_demandRayAndPlace wsX11_demandRayAndPlace ({ frames := 6, cells := 1, slots := 6, locals := 131 } : Room) (cP b0 en (dC, dI) [] [] [] sz (fun _ => True) [.int ray, .int x, .int y]) (va_Qv (fun _ : Unit => 0 ≤ ixL 1 ray ∧ ((0 ≤ x ∧ x < 8) ∧ (0 ≤ y ∧ y < 6))) (fun _ _ => True) (va_A [] sz)) (vx_X (fun _ : Unit => True) (fun E _ _ => (E = "java/lang/IllegalArgumentException" ∧ ¬ (0 ≤ ixL 1 ray ∧ ((0 ≤ x ∧ x < 8) ∧ (0 ≤ y ∧ y < 6))))) (va_A [] sz)) 1 6 (va_A [] sz) := by
  refine vx_ofW (cc := cX11_demandRayAndPlace) (maxL := 3) (ret := none) (by decide) rfl ?_
  intro p e s m args below meth c s₁ B hml hext hv
  obtain ⟨rfl, hsz, hb0, hE, hPP, hK, hDD, hF0⟩ := hv
  have hx := B.exec
  have hb := B.bytes
  have hr := B.returns
  have hts := atoms_spec (ws := wsX11_demandRayAndPlace) B.pre
  have hown : s.vm.findClass RX11 = some m.cls := findClass_of_methodNamed B.named
  have hlocks := B.notSynchronized
  subst hsz
  have hN0 := en_N hPP hDD rfl
  have hP : va_P (dC, dI) vwCl [] s.heap := hPP.sub [] rfl
  have hR0 : va_P (dC, dI) vwCl [] s.heap := hPP.sub [] rfl
  have hD0 : va_D (fun q => b0 ≤ q) [] := hDD.sub [] (by decide) rfl
  have hDr : va_D (fun q => b0 ≤ q) [] := hDD.sub [] (by decide) rfl
  have hAb := en_A (sz := s.heap.size) hD0 hb0
  have hD := hD0.self (sz := s.heap.size)
  generalize hAe : va_A [] s.heap.size = A at hD hAb hN0 ⊢
  have hA : ∀ q : Nat, s.heap.size ≤ q → A q := fun q h => by rw [← hAe]; exact Or.inr h
  have hS : va_S A s.heap s.heap [] := va_S.rf
  have hR := hR0
  have hl := lv_entry [.int ray, .int x, .int y] (n := 3) (Nat.le_of_ble_eq_true rfl)
  rw [lg_entry_eq]
  generalize (lg_sl [.int ray, .int x, .int y] ++ List.replicate (3 - (lg_sl [.int ray, .int x, .int y]).length) Slot.unset).toArray = ls at hl ⊢
  have hl : lv_has ls 3 [(0, .int ray), (1, .int x), (2, .int y)] := hl
  refine va_ldcS hx hb hown (hE.ldc (1, "Underpaint", 216, "pwhlr") (by decide +kernel)) dX11_demandRayAndPlace_0 ?_
  refine lv_iload_n hx hb dX11_demandRayAndPlace_2 rfl (lv_at hl 0 rfl) ?_
  have hPc := (hP.app hR).sub (ws' := [] ++ []) [] rfl
  have hDc := (en_DD hD hDr hN0 hAb).sub (ws' := [] ++ []) [] (by decide) rfl
  have hKc := hK.sub (tys' := []) [] rfl
  have hFc := va_free (wc := []) hD hS hA [] rfl
  refine va_calli (va_runV (As := [.int ray]) (rest := []) ⟨hx, hb, hml, hown, hts⟩ (c_J0_indexOf l dC dI b0 en s.heap.size 1 ray (z_c_X18_isRay_25)) (cwV 1 hts gX11_demandRayAndPlace_J0_indexOf_0f7a4 rfl rfl rfl (by decide +kernel) ⟨Nat.le_of_ble_eq_true rfl, Nat.le_of_ble_eq_true rfl⟩) ⟨cP.blind, (en_recv (hE.lit hAb 1 (by decide)).1 hS), cP.use (en_z hb0 hS) (hE.on hAb hS) hPc hKc hDc trivial⟩ rfl rfl hl.1 rfl (lv_room (Nat.le_of_ble_eq_true rfl)) dX11_demandRayAndPlace_3 ⟨Nat.le_of_ble_eq_true rfl, Nat.le_of_ble_eq_true rfl⟩) hS (fun q _ h => hFc q h) hFc (fun r_1 u t H1 locs ht hvm hw hB hz1 hk1 hS => ?_)
  have hP1 : va_P (dC, dI) vwCl [] H1 := fun k q h => by simp at h
  have hD1 : va_D (va_A [] s.heap.size) [] := ⟨fun i j p q h => by simp at h, fun k q h => by simp at h⟩
  try dsimp only at hw
  obtain ⟨hP, hD⟩ := va_join (wr := []) (w1 := []) hP hD [] [] rfl rfl (by decide) (by decide) hk1 hFc hP1 hD1
  generalize H1 = H at hP hS ⊢
  have hP : va_P (dC, dI) vwCl [] H := hP
  have hD : va_D A [] := hD
  have hR : va_P (dC, dI) vwCl [] H := fun k q h => by simp at h
  refine W.widen (k := 0) (n := 0) (Nat.le_of_ble_eq_true rfl) (Nat.le_of_ble_eq_true rfl) ?_
  subst r_1
  refine lv_if_lt (tgt := 17) hx hb dX11_demandRayAndPlace_6 (by decide) (fun c_2 => ?_) (fun c_2 => ?_)
  · skip
    obtain ⟨sa, hsa⟩ := hE.text (460, "no such ray or place") (by decide +kernel)
    have hat := vx_hat (L := vx_atS RX11 455 "java/lang/IllegalArgumentException" ["java/lang/RuntimeException", "java/lang/Exception"]) (s := s) (fun w hw => hts w (List.mem_cons_of_mem _ (List.mem_append_right _ hw))) (B := [.castable "java/lang/IllegalArgumentException" "java/lang/IllegalArgumentException", .declares (Bundle.initS "java/lang/RuntimeException"), .declares (Bundle.initS "java/lang/Exception"), .declares (Bundle.initS "java/lang/Throwable")]) (by decide +kernel) (vx_c (va_Nw.use rfl (hE.cast (E := "java/lang/IllegalArgumentException") (by decide +kernel))) (vx_c (va_Nw.use rfl (hE.dec (by decide +kernel))) (vx_c (va_Nw.use rfl (hE.dec (by decide +kernel))) (vx_c (va_Nw.use rfl (hE.dec (by decide +kernel))) vx_n))))
    exact vx_throwSW hx hb hst (sa := sa) (names := ["java/lang/RuntimeException", "java/lang/Exception"]) (A := A) hown (by decide +kernel) (by decide +kernel) (hts (.classLink RX11 451 "java/lang/IllegalArgumentException") (by decide +kernel)) (hts (.initialized "java/lang/IllegalArgumentException") (by decide +kernel)) hsa hat (by decide +kernel) (hE.zq1 hAb) (hE.zq2 hAb) hS (by rw [hml]; exact hl.1) dX11_demandRayAndPlace_17 dX11_demandRayAndPlace_20 dX11_demandRayAndPlace_21 dX11_demandRayAndPlace_24 dX11_demandRayAndPlace_27 (fun x hx => (hext x hx).elim) (Nat.le_of_ble_eq_true rfl) (Nat.le_of_ble_eq_true rfl) (Nat.le_of_ble_eq_true rfl) (Nat.le_of_ble_eq_true rfl) hlocks (fun t hv hz hq => ⟨(), trivial, ⟨rfl, (z_c_X11_demandRayAndPlace_223 ray x y (Int32.not_le.mpr c_2))⟩, ⟨Nat.le_trans hS.1 hz, fun q h1 h2 => (hq q (Nat.lt_of_lt_of_le h1 hS.1)).trans (hS.2.1 q h1 h2)⟩⟩) hS.2.2 (Nat.le_of_ble_eq_true rfl) (Nat.le_of_ble_eq_true rfl)
  · skip
    refine lv_iload_n hx hb dX11_demandRayAndPlace_9 rfl (lv_at hl 1 rfl) ?_
    refine lv_iload_n hx hb dX11_demandRayAndPlace_10 rfl (lv_at hl 2 rfl) ?_
    have hPc := (hP.app hR).sub (ws' := [] ++ []) [] rfl
    have hDc := (en_DD hD hDr hN0 hAb).sub (ws' := [] ++ []) [] (by decide) rfl
    have hKc := hK.sub (tys' := []) [] rfl
    have hFc := va_free (wc := []) hD hS hA [] rfl
    refine va_calli (va_runS (As := [.int x, .int y]) (rest := []) ⟨hx, hb, hml, hown, hts⟩ (c_X11_isPlace l dC dI b0 en H.size x y) (va_cwS 2 hts gX11_demandRayAndPlace_X11_isPlace rfl rfl rfl (by decide +kernel) ⟨Nat.le_of_ble_eq_true rfl, Nat.le_of_ble_eq_true rfl⟩) ⟨cP.blind, cP.use (en_z hb0 hS) (hE.on hAb hS) hPc hKc hDc trivial⟩ rfl rfl hl.1 rfl (lv_room (Nat.le_of_ble_eq_true rfl)) dX11_demandRayAndPlace_11 ⟨Nat.le_of_ble_eq_true rfl, Nat.le_of_ble_eq_true rfl⟩) hS (fun q _ h => hFc q h) hFc (fun r_3 u t H1 locs ht hvm hw hB hz1 hk1 hS => ?_)
    have hP1 : va_P (dC, dI) vwCl [] H1 := fun k q h => by simp at h
    have hD1 : va_D (va_A [] H.size) [] := ⟨fun i j p q h => by simp at h, fun k q h => by simp at h⟩
    try dsimp only at hw
    obtain ⟨hP, hD⟩ := va_join (wr := []) (w1 := []) hP hD [] [] rfl rfl (by decide) (by decide) hk1 hFc hP1 hD1
    generalize H1 = H at hP hS ⊢
    have hP : va_P (dC, dI) vwCl [] H := hP
    have hD : va_D A [] := hD
    have hR : va_P (dC, dI) vwCl [] H := fun k q h => by simp at h
    refine W.widen (k := 0) (n := 0) (Nat.le_of_ble_eq_true rfl) (Nat.le_of_ble_eq_true rfl) ?_
    have h_4 := hw
    refine lv_if_ne (tgt := 28) hx hb dX11_demandRayAndPlace_14 (by decide) (fun c_5 => ?_) (fun c_5 => ?_)
    · skip
      refine W.widen (k := 1) (n := 6) (Nat.le_of_ble_eq_true rfl) (Nat.le_of_ble_eq_true rfl) ?_
      refine vx_ret ?_
      exact W.vret hx hb hr (fun t ht hW => ⟨⟨(), rfl, (z_c_X11_demandRayAndPlace_224 ray x y (Int32.not_lt.mp c_2) (b_yes h_4 c_5)), trivial⟩, hS.F ht⟩) hS.2.2 dX11_demandRayAndPlace_28
    · skip
      obtain ⟨sa, hsa⟩ := hE.text (460, "no such ray or place") (by decide +kernel)
      have hat := vx_hat (L := vx_atS RX11 455 "java/lang/IllegalArgumentException" ["java/lang/RuntimeException", "java/lang/Exception"]) (s := s) (fun w hw => hts w (List.mem_cons_of_mem _ (List.mem_append_right _ hw))) (B := [.castable "java/lang/IllegalArgumentException" "java/lang/IllegalArgumentException", .declares (Bundle.initS "java/lang/RuntimeException"), .declares (Bundle.initS "java/lang/Exception"), .declares (Bundle.initS "java/lang/Throwable")]) (by decide +kernel) (vx_c (va_Nw.use rfl (hE.cast (E := "java/lang/IllegalArgumentException") (by decide +kernel))) (vx_c (va_Nw.use rfl (hE.dec (by decide +kernel))) (vx_c (va_Nw.use rfl (hE.dec (by decide +kernel))) (vx_c (va_Nw.use rfl (hE.dec (by decide +kernel))) vx_n))))
      exact vx_throwSW hx hb hst (sa := sa) (names := ["java/lang/RuntimeException", "java/lang/Exception"]) (A := A) hown (by decide +kernel) (by decide +kernel) (hts (.classLink RX11 451 "java/lang/IllegalArgumentException") (by decide +kernel)) (hts (.initialized "java/lang/IllegalArgumentException") (by decide +kernel)) hsa hat (by decide +kernel) (hE.zq1 hAb) (hE.zq2 hAb) hS (by rw [hml]; exact hl.1) dX11_demandRayAndPlace_17 dX11_demandRayAndPlace_20 dX11_demandRayAndPlace_21 dX11_demandRayAndPlace_24 dX11_demandRayAndPlace_27 (fun x hx => (hext x hx).elim) (Nat.le_of_ble_eq_true rfl) (Nat.le_of_ble_eq_true rfl) (Nat.le_of_ble_eq_true rfl) (Nat.le_of_ble_eq_true rfl) hlocks (fun t hv hz hq => ⟨(), trivial, ⟨rfl, (z_c_X11_demandRayAndPlace_225 ray x y (Int32.not_lt.mp c_2) (b_no h_4 c_5))⟩, ⟨Nat.le_trans hS.1 hz, fun q h1 h2 => (hq q (Nat.lt_of_lt_of_le h1 hS.1)).trans (hS.2.1 q h1 h2)⟩⟩) hS.2.2 (Nat.le_of_ble_eq_true rfl) (Nat.le_of_ble_eq_true rfl)
theorem z_c_X11_demandHabits_226 (a : Int32) (b : Int32) (c9 : Int32) (d : Int32) (a_0 : ¬ (0 ≤ a ∧ a ≤ 99)) (a_1 : (0 : Int32) = 0) : ¬ ((0 ≤ a ∧ a ≤ 99) ∧ (0 ≤ b ∧ b ≤ 99) ∧ (0 ≤ c9 ∧ c9 ≤ 99) ∧ (0 ≤ d ∧ d ≤ 99)) := by grind
theorem z_c_X11_demandHabits_227 (a : Int32) (b : Int32) (c9 : Int32) (d : Int32) (a_0 : 0 ≤ a ∧ a ≤ 99) (a_1 : ¬ (0 ≤ b ∧ b ≤ 99)) (a_2 : (0 : Int32) = 0) : ¬ ((0 ≤ a ∧ a ≤ 99) ∧ (0 ≤ b ∧ b ≤ 99) ∧ (0 ≤ c9 ∧ c9 ≤ 99) ∧ (0 ≤ d ∧ d ≤ 99)) := by grind
theorem z_c_X11_demandHabits_228 (a : Int32) (b : Int32) (c9 : Int32) (d : Int32) (a_0 : 0 ≤ a ∧ a ≤ 99) (a_1 : 0 ≤ b ∧ b ≤ 99) (a_2 : ¬ (1 : Int32) = 0) (a_3 : ¬ (0 ≤ c9 ∧ c9 ≤ 99)) (a_4 : (0 : Int32) = 0) : ¬ ((0 ≤ a ∧ a ≤ 99) ∧ (0 ≤ b ∧ b ≤ 99) ∧ (0 ≤ c9 ∧ c9 ≤ 99) ∧ (0 ≤ d ∧ d ≤ 99)) := by grind
theorem z_c_X11_demandHabits_229 (a : Int32) (b : Int32) (c9 : Int32) (d : Int32) (a_0 : 0 ≤ a ∧ a ≤ 99) (a_1 : 0 ≤ b ∧ b ≤ 99) (a_2 : ¬ (1 : Int32) = 0) (a_3 : 0 ≤ c9 ∧ c9 ≤ 99) (a_4 : ¬ (0 ≤ d ∧ d ≤ 99)) (a_5 : (0 : Int32) = 0) : ¬ ((0 ≤ a ∧ a ≤ 99) ∧ (0 ≤ b ∧ b ≤ 99) ∧ (0 ≤ c9 ∧ c9 ≤ 99) ∧ (0 ≤ d ∧ d ≤ 99)) := by grind
theorem z_c_X11_demandHabits_230 (a : Int32) (b : Int32) (c9 : Int32) (d : Int32) (a_0 : 0 ≤ a ∧ a ≤ 99) (a_1 : 0 ≤ b ∧ b ≤ 99) (a_2 : ¬ (1 : Int32) = 0) (a_3 : 0 ≤ c9 ∧ c9 ≤ 99) (a_4 : 0 ≤ d ∧ d ≤ 99) (a_5 : ¬ (1 : Int32) = 0) : (0 ≤ a ∧ a ≤ 99) ∧ (0 ≤ b ∧ b ≤ 99) ∧ (0 ≤ c9 ∧ c9 ≤ 99) ∧ (0 ≤ d ∧ d ≤ 99) := by grind
set_option maxRecDepth 100000 in
theorem gw_wsX11_demandArgument : wsX11_demandArgument.all goodWord = true := by decide +kernel
set_option maxRecDepth 100000 in
theorem gw_wsX11_isWithin : wsX11_isWithin.all goodWord = true := by decide +kernel
def wo_c_X11_demandHabits_w : List Cond := []
def wo_c_X11_demandHabits : List Cond := .code yX11_demandHabits cX11_demandHabits 4 none :: (wo_c_X11_demandHabits_w ++ (va_wsS RX11 91 yX11_isWithin wsX11_isWithin ++ (va_wsS RX11 87 yX11_demandArgument wsX11_demandArgument ++ List.nil)))
theorem gw_wo_c_X11_demandHabits : wo_c_X11_demandHabits.all goodWord = true := gw_c (by decide +kernel) (gw_a (by decide +kernel) (gw_a (gw_a (by decide +kernel) gw_wsX11_isWithin) (gw_a (gw_a (by decide +kernel) gw_wsX11_demandArgument) rfl)))
theorem go_c_X11_demandHabits_0 : GoodIn wo_c_X11_demandHabits (va_wsS RX11 91 yX11_isWithin wsX11_isWithin) := goodIn_sub (fun _ h => List.mem_cons_of_mem _ (List.mem_append_right _ (List.mem_append_left _ h))) (gw_a (by decide +kernel) gw_wsX11_isWithin)
theorem go_c_X11_demandHabits_1 : GoodIn wo_c_X11_demandHabits (va_wsS RX11 87 yX11_demandArgument wsX11_demandArgument) := goodIn_sub (fun _ h => List.mem_cons_of_mem _ (List.mem_append_right _ (List.mem_append_right _ (List.mem_append_left _ h)))) (gw_a (by decide +kernel) gw_wsX11_demandArgument)
set_option maxHeartbeats 4000000 in
set_option maxRecDepth 100000 in
/-- four numbers in range -/
theorem c_X11_demandHabits (l : Launch) (hst : l.stackTraces = false) (dC : Nat → ClassId) (dI : Nat → Nat → Nat) (b0 : Nat) (en : EnT) (sz : Nat) (a b c9 d : Int32) : vx_Met l yX11_demandHabits wo_c_X11_demandHabits ({ frames := 7, cells := 2, slots := 12, locals := 110 } : Room) (cP b0 en (dC, dI) [] [] [] sz (fun _ => True) [.int a, .int b, .int c9, .int d]) (va_Qv (fun _ : Unit => (0 ≤ a ∧ a ≤ 99) ∧ (0 ≤ b ∧ b ≤ 99) ∧ (0 ≤ c9 ∧ c9 ≤ 99) ∧ (0 ≤ d ∧ d ≤ 99)) (fun _ _ => True) (va_A [] sz)) (vx_X (fun _ : Unit => True) (fun E _ _ => (E = "java/lang/IllegalArgumentException" ∧ ¬ ((0 ≤ a ∧ a ≤ 99) ∧ (0 ≤ b ∧ b ≤ 99) ∧ (0 ≤ c9 ∧ c9 ≤ 99) ∧ (0 ≤ d ∧ d ≤ 99)))) (va_A [] sz)) 2 12 (va_A [] sz) := by
  refine vx_ofW (cc := cX11_demandHabits) (maxL := 4) (ret := none) (by decide) rfl ?_
  intro p e s m args below meth c s₁ B hml hext hv
  obtain ⟨rfl, hsz, hb0, hE, hPP, hK, hDD, hF0⟩ := hv
  have hx := B.exec
  have hb := B.bytes
  have hr := B.returns
  have hts := atoms_spec (ws := wo_c_X11_demandHabits) B.pre
  have hown : s.vm.findClass RX11 = some m.cls := findClass_of_methodNamed B.named
  have hlocks := B.notSynchronized
  subst hsz
  have hN0 := en_N hPP hDD rfl
  have hP : va_P (dC, dI) vwCl [] s.heap := hPP.sub [] rfl
  have hR0 : va_P (dC, dI) vwCl [] s.heap := hPP.sub [] rfl
  have hD0 : va_D (fun q => b0 ≤ q) [] := hDD.sub [] (by decide) rfl
  have hDr : va_D (fun q => b0 ≤ q) [] := hDD.sub [] (by decide) rfl
  have hAb := en_A (sz := s.heap.size) hD0 hb0
  have hD := hD0.self (sz := s.heap.size)
  generalize hAe : va_A [] s.heap.size = A at hD hAb hN0 ⊢
  have hA : ∀ q : Nat, s.heap.size ≤ q → A q := fun q h => by rw [← hAe]; exact Or.inr h
  have hS : va_S A s.heap s.heap [] := va_S.rf
  have hR := hR0
  have hl := lv_entry [.int a, .int b, .int c9, .int d] (n := 4) (Nat.le_of_ble_eq_true rfl)
  rw [lg_entry_eq]
  generalize (lg_sl [.int a, .int b, .int c9, .int d] ++ List.replicate (4 - (lg_sl [.int a, .int b, .int c9, .int d]).length) Slot.unset).toArray = ls at hl ⊢
  have hl : lv_has ls 4 [(0, .int a), (1, .int b), (2, .int c9), (3, .int d)] := hl
  refine lv_iload_n hx hb dX11_demandHabits_0 rfl (lv_at hl 0 rfl) ?_
  refine lv_iconst (v := 0) hx hb dX11_demandHabits_1 (by decide) ?_
  refine lv_bipush (v := 99) hx hb dX11_demandHabits_2 (by decide) ?_
  have hPc := (hP.app hR).sub (ws' := [] ++ []) [] rfl
  have hDc := (en_DD hD hDr hN0 hAb).sub (ws' := [] ++ []) [] (by decide) rfl
  have hKc := hK.sub (tys' := []) [] rfl
  have hFc := va_free (wc := []) hD hS hA [] rfl
  refine va_calli (va_runS (As := [.int a, .int 0, .int 99]) (rest := []) ⟨hx, hb, hml, hown, hts⟩ (c_X11_isWithin l dC dI b0 en s.heap.size a 0 99) (va_cwS 3 hts go_c_X11_demandHabits_0 rfl rfl rfl (by decide +kernel) ⟨Nat.le_of_ble_eq_true rfl, Nat.le_of_ble_eq_true rfl⟩) ⟨cP.blind, cP.use (en_z hb0 hS) (hE.on hAb hS) hPc hKc hDc trivial⟩ rfl rfl hl.1 rfl (lv_room (Nat.le_of_ble_eq_true rfl)) dX11_demandHabits_4 ⟨Nat.le_of_ble_eq_true rfl, Nat.le_of_ble_eq_true rfl⟩) hS (fun q _ h => hFc q h) hFc (fun r_1 u t H1 locs ht hvm hw hB hz1 hk1 hS => ?_)
  have hP1 : va_P (dC, dI) vwCl [] H1 := fun k q h => by simp at h
  have hD1 : va_D (va_A [] s.heap.size) [] := ⟨fun i j p q h => by simp at h, fun k q h => by simp at h⟩
  try dsimp only at hw
  obtain ⟨hP, hD⟩ := va_join (wr := []) (w1 := []) hP hD [] [] rfl rfl (by decide) (by decide) hk1 hFc hP1 hD1
  generalize H1 = H at hP hS ⊢
  have hP : va_P (dC, dI) vwCl [] H := hP
  have hD : va_D A [] := hD
  have hR : va_P (dC, dI) vwCl [] H := fun k q h => by simp at h
  refine W.widen (k := 0) (n := 0) (Nat.le_of_ble_eq_true rfl) (Nat.le_of_ble_eq_true rfl) ?_
  have h_2 := hw
  refine lv_if_eq (tgt := 24) hx hb dX11_demandHabits_7 (by decide) (fun c_3 => ?_) (fun c_3 => ?_)
  · skip
    refine lv_iconst (v := 0) hx hb dX11_demandHabits_24 (by decide) ?_
    have hPc := (hP.app hR).sub (ws' := [] ++ []) [] rfl
    have hDc := (en_DD hD hDr hN0 hAb).sub (ws' := [] ++ []) [] (by decide) rfl
    have hKc := hK.sub (tys' := []) [] rfl
    have hFc := va_free (wc := []) hD hS hA [] rfl
    refine vx_callv (vx_runS (As := [.int 0]) (rest := []) ⟨hx, hb, hml, hown, hts⟩ (c_X11_demandArgument l hst dC dI b0 en H.size 0) (va_cwS 1 hts go_c_X11_demandHabits_1 rfl rfl rfl (by decide +kernel) ⟨Nat.le_of_ble_eq_true rfl, Nat.le_of_ble_eq_true rfl⟩) ⟨cP.blind, cP.use (en_z hb0 hS) (hE.on hAb hS) hPc hKc hDc trivial⟩ rfl rfl hl.1 rfl (lv_room (Nat.le_of_ble_eq_true rfl)) dX11_demandHabits_25 ⟨Nat.le_of_ble_eq_true rfl, Nat.le_of_ble_eq_true rfl⟩) hS (fun q _ h => hFc q h) hFc (fun q _ h => hFc q h) (fun E ce q9 u t H1 locs ht hvm hpx hBX hz1 hk1 hS hce hcv hcl => ?_) (fun u t H1 locs ht hvm hw hB hz1 hk1 hS => ?_)
    · skip
      try dsimp only at hBX
      obtain ⟨rfl, hc⟩ := hBX
      refine vx_widen (k := 2) (n := 12) (Nat.le_of_ble_eq_true rfl) (Nat.le_of_ble_eq_true rfl) ?_
      exact vx_out (fun x hx => (hext x hx).elim) hlocks hce hcv hcl (fun t ht hW => ⟨(), trivial, ⟨rfl, (z_c_X11_demandHabits_226 a b c9 d (b_no h_2 c_3) hc)⟩, hS.F ht⟩) hS.2.2 (Nat.le_refl _) (Nat.le_refl _)
    have hP1 : va_P (dC, dI) vwCl [] H1 := fun k q h => by simp at h
    have hD1 : va_D (va_A [] H.size) [] := ⟨fun i j p q h => by simp at h, fun k q h => by simp at h⟩
    try dsimp only at hw
    obtain ⟨hP, hD⟩ := va_join (wr := []) (w1 := []) hP hD [] [] rfl rfl (by decide) (by decide) hk1 hFc hP1 hD1
    generalize H1 = H at hP hS ⊢
    have hP : va_P (dC, dI) vwCl [] H := hP
    have hD : va_D A [] := hD
    have hR : va_P (dC, dI) vwCl [] H := fun k q h => by simp at h
    refine W.widen (k := 1) (n := 6) (Nat.le_of_ble_eq_true rfl) (Nat.le_of_ble_eq_true rfl) ?_
    have h_5 := hw
    exact absurd h_5 (by decide)
  · skip
    refine lv_iload_n hx hb dX11_demandHabits_10 rfl (lv_at hl 1 rfl) ?_
    refine lv_iconst (v := 0) hx hb dX11_demandHabits_11 (by decide) ?_
    refine lv_bipush (v := 99) hx hb dX11_demandHabits_12 (by decide) ?_
    have hPc := (hP.app hR).sub (ws' := [] ++ []) [] rfl
    have hDc := (en_DD hD hDr hN0 hAb).sub (ws' := [] ++ []) [] (by decide) rfl
    have hKc := hK.sub (tys' := []) [] rfl
    have hFc := va_free (wc := []) hD hS hA [] rfl
    refine va_calli (va_runS (As := [.int b, .int 0, .int 99]) (rest := []) ⟨hx, hb, hml, hown, hts⟩ (c_X11_isWithin l dC dI b0 en H.size b 0 99) (va_cwS 3 hts go_c_X11_demandHabits_0 rfl rfl rfl (by decide +kernel) ⟨Nat.le_of_ble_eq_true rfl, Nat.le_of_ble_eq_true rfl⟩) ⟨cP.blind, cP.use (en_z hb0 hS) (hE.on hAb hS) hPc hKc hDc trivial⟩ rfl rfl hl.1 rfl (lv_room (Nat.le_of_ble_eq_true rfl)) dX11_demandHabits_14 ⟨Nat.le_of_ble_eq_true rfl, Nat.le_of_ble_eq_true rfl⟩) hS (fun q _ h => hFc q h) hFc (fun r_6 u t H1 locs ht hvm hw hB hz1 hk1 hS => ?_)
    have hP1 : va_P (dC, dI) vwCl [] H1 := fun k q h => by simp at h
    have hD1 : va_D (va_A [] H.size) [] := ⟨fun i j p q h => by simp at h, fun k q h => by simp at h⟩
    try dsimp only at hw
    obtain ⟨hP, hD⟩ := va_join (wr := []) (w1 := []) hP hD [] [] rfl rfl (by decide) (by decide) hk1 hFc hP1 hD1
    generalize H1 = H at hP hS ⊢
    have hP : va_P (dC, dI) vwCl [] H := hP
    have hD : va_D A [] := hD
    have hR : va_P (dC, dI) vwCl [] H := fun k q h => by simp at h
    refine W.widen (k := 0) (n := 0) (Nat.le_of_ble_eq_true rfl) (Nat.le_of_ble_eq_true rfl) ?_
    have h_7 := hw
    refine lv_if_eq (tgt := 24) hx hb dX11_demandHabits_17 (by decide) (fun c_8 => ?_) (fun c_8 => ?_)
    · skip
      refine lv_iconst (v := 0) hx hb dX11_demandHabits_24 (by decide) ?_
      have hPc := (hP.app hR).sub (ws' := [] ++ []) [] rfl
      have hDc := (en_DD hD hDr hN0 hAb).sub (ws' := [] ++ []) [] (by decide) rfl
      have hKc := hK.sub (tys' := []) [] rfl
      have hFc := va_free (wc := []) hD hS hA [] rfl
      refine vx_callv (vx_runS (As := [.int 0]) (rest := []) ⟨hx, hb, hml, hown, hts⟩ (c_X11_demandArgument l hst dC dI b0 en H.size 0) (va_cwS 1 hts go_c_X11_demandHabits_1 rfl rfl rfl (by decide +kernel) ⟨Nat.le_of_ble_eq_true rfl, Nat.le_of_ble_eq_true rfl⟩) ⟨cP.blind, cP.use (en_z hb0 hS) (hE.on hAb hS) hPc hKc hDc trivial⟩ rfl rfl hl.1 rfl (lv_room (Nat.le_of_ble_eq_true rfl)) dX11_demandHabits_25 ⟨Nat.le_of_ble_eq_true rfl, Nat.le_of_ble_eq_true rfl⟩) hS (fun q _ h => hFc q h) hFc (fun q _ h => hFc q h) (fun E ce q9 u t H1 locs ht hvm hpx hBX hz1 hk1 hS hce hcv hcl => ?_) (fun u t H1 locs ht hvm hw hB hz1 hk1 hS => ?_)
      · skip
        try dsimp only at hBX
        obtain ⟨rfl, hc⟩ := hBX
        refine vx_widen (k := 2) (n := 12) (Nat.le_of_ble_eq_true rfl) (Nat.le_of_ble_eq_true rfl) ?_
        exact vx_out (fun x hx => (hext x hx).elim) hlocks hce hcv hcl (fun t ht hW => ⟨(), trivial, ⟨rfl, (z_c_X11_demandHabits_227 a b c9 d (b_yes h_2 c_3) (b_no h_7 c_8) hc)⟩, hS.F ht⟩) hS.2.2 (Nat.le_refl _) (Nat.le_refl _)
      have hP1 : va_P (dC, dI) vwCl [] H1 := fun k q h => by simp at h
      have hD1 : va_D (va_A [] H.size) [] := ⟨fun i j p q h => by simp at h, fun k q h => by simp at h⟩
      try dsimp only at hw
      obtain ⟨hP, hD⟩ := va_join (wr := []) (w1 := []) hP hD [] [] rfl rfl (by decide) (by decide) hk1 hFc hP1 hD1
      generalize H1 = H at hP hS ⊢
      have hP : va_P (dC, dI) vwCl [] H := hP
      have hD : va_D A [] := hD
      have hR : va_P (dC, dI) vwCl [] H := fun k q h => by simp at h
      refine W.widen (k := 1) (n := 6) (Nat.le_of_ble_eq_true rfl) (Nat.le_of_ble_eq_true rfl) ?_
      have h_10 := hw
      exact absurd h_10 (by decide)
    · skip
      refine lv_iconst (v := 1) hx hb dX11_demandHabits_20 (by decide) ?_
      refine lv_goto (tgt := 25) hx hb dX11_demandHabits_21 (by decide) ?_
      have hPc := (hP.app hR).sub (ws' := [] ++ []) [] rfl
      have hDc := (en_DD hD hDr hN0 hAb).sub (ws' := [] ++ []) [] (by decide) rfl
      have hKc := hK.sub (tys' := []) [] rfl
      have hFc := va_free (wc := []) hD hS hA [] rfl
      refine vx_callv (vx_runS (As := [.int 1]) (rest := []) ⟨hx, hb, hml, hown, hts⟩ (c_X11_demandArgument l hst dC dI b0 en H.size 1) (va_cwS 1 hts go_c_X11_demandHabits_1 rfl rfl rfl (by decide +kernel) ⟨Nat.le_of_ble_eq_true rfl, Nat.le_of_ble_eq_true rfl⟩) ⟨cP.blind, cP.use (en_z hb0 hS) (hE.on hAb hS) hPc hKc hDc trivial⟩ rfl rfl hl.1 rfl (lv_room (Nat.le_of_ble_eq_true rfl)) dX11_demandHabits_25 ⟨Nat.le_of_ble_eq_true rfl, Nat.le_of_ble_eq_true rfl⟩) hS (fun q _ h => hFc q h) hFc (fun q _ h => hFc q h) (fun E ce q9 u t H1 locs ht hvm hpx hBX hz1 hk1 hS hce hcv hcl => ?_) (fun u t H1 locs ht hvm hw hB hz1 hk1 hS => ?_)
      · skip
        try dsimp only at hBX
        obtain ⟨rfl, hc⟩ := hBX
        exact absurd hc (by decide)
      have hP1 : va_P (dC, dI) vwCl [] H1 := fun k q h => by simp at h
      have hD1 : va_D (va_A [] H.size) [] := ⟨fun i j p q h => by simp at h, fun k q h => by simp at h⟩
      try dsimp only at hw
      obtain ⟨hP, hD⟩ := va_join (wr := []) (w1 := []) hP hD [] [] rfl rfl (by decide) (by decide) hk1 hFc hP1 hD1
      generalize H1 = H at hP hS ⊢
      have hP : va_P (dC, dI) vwCl [] H := hP
      have hD : va_D A [] := hD
      have hR : va_P (dC, dI) vwCl [] H := fun k q h => by simp at h
      refine W.widen (k := 1) (n := 6) (Nat.le_of_ble_eq_true rfl) (Nat.le_of_ble_eq_true rfl) ?_
      have h_12 := hw
      refine lv_iload_n hx hb dX11_demandHabits_28 rfl (lv_at hl 2 rfl) ?_
      refine lv_iconst (v := 0) hx hb dX11_demandHabits_29 (by decide) ?_
      refine lv_bipush (v := 99) hx hb dX11_demandHabits_30 (by decide) ?_
      have hPc := (hP.app hR).sub (ws' := [] ++ []) [] rfl
      have hDc := (en_DD hD hDr hN0 hAb).sub (ws' := [] ++ []) [] (by decide) rfl
      have hKc := hK.sub (tys' := []) [] rfl
      have hFc := va_free (wc := []) hD hS hA [] rfl
      refine va_calli (va_runS (As := [.int c9, .int 0, .int 99]) (rest := []) ⟨hx, hb, hml, hown, hts⟩ (c_X11_isWithin l dC dI b0 en H.size c9 0 99) (va_cwS 3 hts go_c_X11_demandHabits_0 rfl rfl rfl (by decide +kernel) ⟨Nat.le_of_ble_eq_true rfl, Nat.le_of_ble_eq_true rfl⟩) ⟨cP.blind, cP.use (en_z hb0 hS) (hE.on hAb hS) hPc hKc hDc trivial⟩ rfl rfl hl.1 rfl (lv_room (Nat.le_of_ble_eq_true rfl)) dX11_demandHabits_32 ⟨Nat.le_of_ble_eq_true rfl, Nat.le_of_ble_eq_true rfl⟩) hS (fun q _ h => hFc q h) hFc (fun r_13 u t H1 locs ht hvm hw hB hz1 hk1 hS => ?_)
      have hP1 : va_P (dC, dI) vwCl [] H1 := fun k q h => by simp at h
      have hD1 : va_D (va_A [] H.size) [] := ⟨fun i j p q h => by simp at h, fun k q h => by simp at h⟩
      try dsimp only at hw
      obtain ⟨hP, hD⟩ := va_join (wr := []) (w1 := []) hP hD [] [] rfl rfl (by decide) (by decide) hk1 hFc hP1 hD1
      generalize H1 = H at hP hS ⊢
      have hP : va_P (dC, dI) vwCl [] H := hP
      have hD : va_D A [] := hD
      have hR : va_P (dC, dI) vwCl [] H := fun k q h => by simp at h
      refine W.widen (k := 1) (n := 6) (Nat.le_of_ble_eq_true rfl) (Nat.le_of_ble_eq_true rfl) ?_
      have h_14 := hw
      refine lv_if_eq (tgt := 52) hx hb dX11_demandHabits_35 (by decide) (fun c_15 => ?_) (fun c_15 => ?_)
      · skip
        refine lv_iconst (v := 0) hx hb dX11_demandHabits_52 (by decide) ?_
        have hPc := (hP.app hR).sub (ws' := [] ++ []) [] rfl
        have hDc := (en_DD hD hDr hN0 hAb).sub (ws' := [] ++ []) [] (by decide) rfl
        have hKc := hK.sub (tys' := []) [] rfl
        have hFc := va_free (wc := []) hD hS hA [] rfl
        refine vx_callv (vx_runS (As := [.int 0]) (rest := []) ⟨hx, hb, hml, hown, hts⟩ (c_X11_demandArgument l hst dC dI b0 en H.size 0) (va_cwS 1 hts go_c_X11_demandHabits_1 rfl rfl rfl (by decide +kernel) ⟨Nat.le_of_ble_eq_true rfl, Nat.le_of_ble_eq_true rfl⟩) ⟨cP.blind, cP.use (en_z hb0 hS) (hE.on hAb hS) hPc hKc hDc trivial⟩ rfl rfl hl.1 rfl (lv_room (Nat.le_of_ble_eq_true rfl)) dX11_demandHabits_53 ⟨Nat.le_of_ble_eq_true rfl, Nat.le_of_ble_eq_true rfl⟩) hS (fun q _ h => hFc q h) hFc (fun q _ h => hFc q h) (fun E ce q9 u t H1 locs ht hvm hpx hBX hz1 hk1 hS hce hcv hcl => ?_) (fun u t H1 locs ht hvm hw hB hz1 hk1 hS => ?_)
        · skip
          try dsimp only at hBX
          obtain ⟨rfl, hc⟩ := hBX
          refine vx_widen (k := 2) (n := 12) (Nat.le_of_ble_eq_true rfl) (Nat.le_of_ble_eq_true rfl) ?_
          exact vx_out (fun x hx => (hext x hx).elim) hlocks hce hcv hcl (fun t ht hW => ⟨(), trivial, ⟨rfl, (z_c_X11_demandHabits_228 a b c9 d (b_yes h_2 c_3) (b_yes h_7 c_8) h_12 (b_no h_14 c_15) hc)⟩, hS.F ht⟩) hS.2.2 (Nat.le_refl _) (Nat.le_refl _)
        have hP1 : va_P (dC, dI) vwCl [] H1 := fun k q h => by simp at h
        have hD1 : va_D (va_A [] H.size) [] := ⟨fun i j p q h => by simp at h, fun k q h => by simp at h⟩
        try dsimp only at hw
        obtain ⟨hP, hD⟩ := va_join (wr := []) (w1 := []) hP hD [] [] rfl rfl (by decide) (by decide) hk1 hFc hP1 hD1
        generalize H1 = H at hP hS ⊢
        have hP : va_P (dC, dI) vwCl [] H := hP
        have hD : va_D A [] := hD
        have hR : va_P (dC, dI) vwCl [] H := fun k q h => by simp at h
        refine W.widen (k := 2) (n := 12) (Nat.le_of_ble_eq_true rfl) (Nat.le_of_ble_eq_true rfl) ?_
        have h_17 := hw
        exact absurd h_17 (by decide)
      · skip
        refine lv_iload_n hx hb dX11_demandHabits_38 rfl (lv_at hl 3 rfl) ?_
        refine lv_iconst (v := 0) hx hb dX11_demandHabits_39 (by decide) ?_
        refine lv_bipush (v := 99) hx hb dX11_demandHabits_40 (by decide) ?_
        have hPc := (hP.app hR).sub (ws' := [] ++ []) [] rfl
        have hDc := (en_DD hD hDr hN0 hAb).sub (ws' := [] ++ []) [] (by decide) rfl
        have hKc := hK.sub (tys' := []) [] rfl
        have hFc := va_free (wc := []) hD hS hA [] rfl
        refine va_calli (va_runS (As := [.int d, .int 0, .int 99]) (rest := []) ⟨hx, hb, hml, hown, hts⟩ (c_X11_isWithin l dC dI b0 en H.size d 0 99) (va_cwS 3 hts go_c_X11_demandHabits_0 rfl rfl rfl (by decide +kernel) ⟨Nat.le_of_ble_eq_true rfl, Nat.le_of_ble_eq_true rfl⟩) ⟨cP.blind, cP.use (en_z hb0 hS) (hE.on hAb hS) hPc hKc hDc trivial⟩ rfl rfl hl.1 rfl (lv_room (Nat.le_of_ble_eq_true rfl)) dX11_demandHabits_42 ⟨Nat.le_of_ble_eq_true rfl, Nat.le_of_ble_eq_true rfl⟩) hS (fun q _ h => hFc q h) hFc (fun r_18 u t H1 locs ht hvm hw hB hz1 hk1 hS => ?_)
        have hP1 : va_P (dC, dI) vwCl [] H1 := fun k q h => by simp at h
        have hD1 : va_D (va_A [] H.size) [] := ⟨fun i j p q h => by simp at h, fun k q h => by simp at h⟩
        try dsimp only at hw
        obtain ⟨hP, hD⟩ := va_join (wr := []) (w1 := []) hP hD [] [] rfl rfl (by decide) (by decide) hk1 hFc hP1 hD1
        generalize H1 = H at hP hS ⊢
        have hP : va_P (dC, dI) vwCl [] H := hP
        have hD : va_D A [] := hD
        have hR : va_P (dC, dI) vwCl [] H := fun k q h => by simp at h
        refine W.widen (k := 1) (n := 6) (Nat.le_of_ble_eq_true rfl) (Nat.le_of_ble_eq_true rfl) ?_
        have h_19 := hw
        refine lv_if_eq (tgt := 52) hx hb dX11_demandHabits_45 (by decide) (fun c_20 => ?_) (fun c_20 => ?_)
        · skip
          refine lv_iconst (v := 0) hx hb dX11_demandHabits_52 (by decide) ?_
          have hPc := (hP.app hR).sub (ws' := [] ++ []) [] rfl
          have hDc := (en_DD hD hDr hN0 hAb).sub (ws' := [] ++ []) [] (by decide) rfl
          have hKc := hK.sub (tys' := []) [] rfl
          have hFc := va_free (wc := []) hD hS hA [] rfl
          refine vx_callv (vx_runS (As := [.int 0]) (rest := []) ⟨hx, hb, hml, hown, hts⟩ (c_X11_demandArgument l hst dC dI b0 en H.size 0) (va_cwS 1 hts go_c_X11_demandHabits_1 rfl rfl rfl (by decide +kernel) ⟨Nat.le_of_ble_eq_true rfl, Nat.le_of_ble_eq_true rfl⟩) ⟨cP.blind, cP.use (en_z hb0 hS) (hE.on hAb hS) hPc hKc hDc trivial⟩ rfl rfl hl.1 rfl (lv_room (Nat.le_of_ble_eq_true rfl)) dX11_demandHabits_53 ⟨Nat.le_of_ble_eq_true rfl, Nat.le_of_ble_eq_true rfl⟩) hS (fun q _ h => hFc q h) hFc (fun q _ h => hFc q h) (fun E ce q9 u t H1 locs ht hvm hpx hBX hz1 hk1 hS hce hcv hcl => ?_) (fun u t H1 locs ht hvm hw hB hz1 hk1 hS => ?_)
          · skip
            try dsimp only at hBX
            obtain ⟨rfl, hc⟩ := hBX
            refine vx_widen (k := 2) (n := 12) (Nat.le_of_ble_eq_true rfl) (Nat.le_of_ble_eq_true rfl) ?_
            exact vx_out (fun x hx => (hext x hx).elim) hlocks hce hcv hcl (fun t ht hW => ⟨(), trivial, ⟨rfl, (z_c_X11_demandHabits_229 a b c9 d (b_yes h_2 c_3) (b_yes h_7 c_8) h_12 (b_yes h_14 c_15) (b_no h_19 c_20) hc)⟩, hS.F ht⟩) hS.2.2 (Nat.le_refl _) (Nat.le_refl _)
          have hP1 : va_P (dC, dI) vwCl [] H1 := fun k q h => by simp at h
          have hD1 : va_D (va_A [] H.size) [] := ⟨fun i j p q h => by simp at h, fun k q h => by simp at h⟩
          try dsimp only at hw
          obtain ⟨hP, hD⟩ := va_join (wr := []) (w1 := []) hP hD [] [] rfl rfl (by decide) (by decide) hk1 hFc hP1 hD1
          generalize H1 = H at hP hS ⊢
          have hP : va_P (dC, dI) vwCl [] H := hP
          have hD : va_D A [] := hD
          have hR : va_P (dC, dI) vwCl [] H := fun k q h => by simp at h
          refine W.widen (k := 2) (n := 12) (Nat.le_of_ble_eq_true rfl) (Nat.le_of_ble_eq_true rfl) ?_
          have h_22 := hw
          exact absurd h_22 (by decide)
        · skip
          refine lv_iconst (v := 1) hx hb dX11_demandHabits_48 (by decide) ?_
          refine lv_goto (tgt := 53) hx hb dX11_demandHabits_49 (by decide) ?_
          have hPc := (hP.app hR).sub (ws' := [] ++ []) [] rfl
          have hDc := (en_DD hD hDr hN0 hAb).sub (ws' := [] ++ []) [] (by decide) rfl
          have hKc := hK.sub (tys' := []) [] rfl
          have hFc := va_free (wc := []) hD hS hA [] rfl
          refine vx_callv (vx_runS (As := [.int 1]) (rest := []) ⟨hx, hb, hml, hown, hts⟩ (c_X11_demandArgument l hst dC dI b0 en H.size 1) (va_cwS 1 hts go_c_X11_demandHabits_1 rfl rfl rfl (by decide +kernel) ⟨Nat.le_of_ble_eq_true rfl, Nat.le_of_ble_eq_true rfl⟩) ⟨cP.blind, cP.use (en_z hb0 hS) (hE.on hAb hS) hPc hKc hDc trivial⟩ rfl rfl hl.1 rfl (lv_room (Nat.le_of_ble_eq_true rfl)) dX11_demandHabits_53 ⟨Nat.le_of_ble_eq_true rfl, Nat.le_of_ble_eq_true rfl⟩) hS (fun q _ h => hFc q h) hFc (fun q _ h => hFc q h) (fun E ce q9 u t H1 locs ht hvm hpx hBX hz1 hk1 hS hce hcv hcl => ?_) (fun u t H1 locs ht hvm hw hB hz1 hk1 hS => ?_)
          · skip
            try dsimp only at hBX
            obtain ⟨rfl, hc⟩ := hBX
            exact absurd hc (by decide)
          have hP1 : va_P (dC, dI) vwCl [] H1 := fun k q h => by simp at h
          have hD1 : va_D (va_A [] H.size) [] := ⟨fun i j p q h => by simp at h, fun k q h => by simp at h⟩
          try dsimp only at hw
          obtain ⟨hP, hD⟩ := va_join (wr := []) (w1 := []) hP hD [] [] rfl rfl (by decide) (by decide) hk1 hFc hP1 hD1
          generalize H1 = H at hP hS ⊢
          have hP : va_P (dC, dI) vwCl [] H := hP
          have hD : va_D A [] := hD
          have hR : va_P (dC, dI) vwCl [] H := fun k q h => by simp at h
          refine W.widen (k := 2) (n := 12) (Nat.le_of_ble_eq_true rfl) (Nat.le_of_ble_eq_true rfl) ?_
          have h_24 := hw
          refine W.widen (k := 2) (n := 12) (Nat.le_of_ble_eq_true rfl) (Nat.le_of_ble_eq_true rfl) ?_
          refine vx_ret ?_
          exact W.vret hx hb hr (fun t ht hW => ⟨⟨(), rfl, (z_c_X11_demandHabits_230 a b c9 d (b_yes h_2 c_3) (b_yes h_7 c_8) h_12 (b_yes h_14 c_15) (b_yes h_19 c_20) h_24), trivial⟩, hS.F ht⟩) hS.2.2 dX11_demandHabits_56
theorem z_c_X11_layerAt_231 (x : Int32) (y : Int32) (w : Int32) (a_0 : ¬ ((0 ≤ x ∧ x < 8) ∧ (0 ≤ y ∧ y < 6))) : ¬ (((0 ≤ x ∧ x < 8) ∧ (0 ≤ y ∧ y < 6)) ∧ (w = 115 ∨ w = 116 ∨ w = 121 ∨ w = 99 ∨ w = 103)) := by grind
theorem z_c_X11_layerAt_232 (x : Int32) (y : Int32) (w : Int32) (a_0 : (0 ≤ x ∧ x < 8) ∧ (0 ≤ y ∧ y < 6)) (a_1 : w = 115) (a_2 : ¬ (1 : Int32) = 0) : ((0 : Int32) ≤ x ∧ (x : Int32) < 8) ∧ ((0 : Int32) ≤ y ∧ (y : Int32) < 6) := by grind
theorem z_c_X11_layerAt_233 (x : Int32) (y : Int32) (w : Int32) (a_0 : (0 ≤ x ∧ x < 8) ∧ (0 ≤ y ∧ y < 6)) (a_1 : w = 115) (a_2 : ¬ (1 : Int32) = 0) : (0 ≤ x ∧ x < 8) ∧ (0 ≤ y ∧ y < 6) := by grind
theorem z_c_X11_layerAt_234 (x : Int32) (y : Int32) (k : Int32) (w : Int32) (a_0 : (0 ≤ x ∧ x < 8) ∧ (0 ≤ y ∧ y < 6)) (a_1 : w = 115) (a_2 : ¬ (1 : Int32) = 0) (a_3 : ¬ (0 ≤ k ∧ k ≤ (-1))) : ((0 ≤ x ∧ x < 8) ∧ (0 ≤ y ∧ y < 6)) ∧ (w = 115 ∨ w = 116 ∨ w = 121 ∨ w = 99 ∨ w = 103) := by grind
theorem z_c_X11_layerAt_235 (x : Int32) (y : Int32) (k : Int32) (w : Int32) (a_0 : (0 ≤ x ∧ x < 8) ∧ (0 ≤ y ∧ y < 6)) (a_1 : w = 115) (a_2 : ¬ (1 : Int32) = 0) (a_3 : 0 ≤ k ∧ k ≤ (-1)) : False := by grind
theorem z_c_X11_layerAt_236 (x : Int32) (y : Int32) (w : Int32) (a_0 : (0 ≤ x ∧ x < 8) ∧ (0 ≤ y ∧ y < 6)) (a_1 : ¬ w = 115) (a_2 : w = 116) (a_3 : ¬ (1 : Int32) = 0) : ((0 : Int32) ≤ x ∧ (x : Int32) < 8) ∧ ((0 : Int32) ≤ y ∧ (y : Int32) < 6) := by grind
theorem z_c_X11_layerAt_237 (x : Int32) (y : Int32) (w : Int32) (a_0 : (0 ≤ x ∧ x < 8) ∧ (0 ≤ y ∧ y < 6)) (a_1 : ¬ w = 115) (a_2 : w = 116) (a_3 : ¬ (1 : Int32) = 0) : (0 ≤ x ∧ x < 8) ∧ (0 ≤ y ∧ y < 6) := by grind
theorem z_c_X11_layerAt_238 (x : Int32) (y : Int32) (k : Int32) (w : Int32) (a_0 : (0 ≤ x ∧ x < 8) ∧ (0 ≤ y ∧ y < 6)) (a_1 : ¬ w = 115) (a_2 : w = 116) (a_3 : ¬ (1 : Int32) = 0) (a_4 : ¬ (0 ≤ k ∧ k ≤ (-1))) : ((0 ≤ x ∧ x < 8) ∧ (0 ≤ y ∧ y < 6)) ∧ (w = 115 ∨ w = 116 ∨ w = 121 ∨ w = 99 ∨ w = 103) := by grind
theorem z_c_X11_layerAt_239 (x : Int32) (y : Int32) (k : Int32) (w : Int32) (a_0 : (0 ≤ x ∧ x < 8) ∧ (0 ≤ y ∧ y < 6)) (a_1 : ¬ w = 115) (a_2 : w = 116) (a_3 : ¬ (1 : Int32) = 0) (a_4 : 0 ≤ k ∧ k ≤ (-1)) : False := by grind
theorem z_c_X11_layerAt_240 (x : Int32) (y : Int32) (w : Int32) (a_0 : (0 ≤ x ∧ x < 8) ∧ (0 ≤ y ∧ y < 6)) (a_1 : ¬ w = 115) (a_2 : ¬ w = 116) (a_3 : w = 121) (a_4 : ¬ (1 : Int32) = 0) : ((0 : Int32) ≤ x ∧ (x : Int32) < 8) ∧ ((0 : Int32) ≤ y ∧ (y : Int32) < 6) := by grind
theorem z_c_X11_layerAt_241 (x : Int32) (y : Int32) (w : Int32) (a_0 : (0 ≤ x ∧ x < 8) ∧ (0 ≤ y ∧ y < 6)) (a_1 : ¬ w = 115) (a_2 : ¬ w = 116) (a_3 : w = 121) (a_4 : ¬ (1 : Int32) = 0) : (0 ≤ x ∧ x < 8) ∧ (0 ≤ y ∧ y < 6) := by grind
theorem z_c_X11_layerAt_242 (x : Int32) (y : Int32) (k : Int32) (w : Int32) (a_0 : (0 ≤ x ∧ x < 8) ∧ (0 ≤ y ∧ y < 6)) (a_1 : ¬ w = 115) (a_2 : ¬ w = 116) (a_3 : w = 121) (a_4 : ¬ (1 : Int32) = 0) (a_5 : ¬ (0 ≤ k ∧ k ≤ (-1))) : ((0 ≤ x ∧ x < 8) ∧ (0 ≤ y ∧ y < 6)) ∧ (w = 115 ∨ w = 116 ∨ w = 121 ∨ w = 99 ∨ w = 103) := by grind
theorem z_c_X11_layerAt_243 (x : Int32) (y : Int32) (k : Int32) (w : Int32) (a_0 : (0 ≤ x ∧ x < 8) ∧ (0 ≤ y ∧ y < 6)) (a_1 : ¬ w = 115) (a_2 : ¬ w = 116) (a_3 : w = 121) (a_4 : ¬ (1 : Int32) = 0) (a_5 : 0 ≤ k ∧ k ≤ (-1)) : False := by grind
theorem z_c_X11_layerAt_244 (x : Int32) (y : Int32) (w : Int32) (a_0 : (0 ≤ x ∧ x < 8) ∧ (0 ≤ y ∧ y < 6)) (a_1 : ¬ w = 115) (a_2 : ¬ w = 116) (a_3 : ¬ w = 121) (a_4 : w = 99) (a_5 : ¬ (1 : Int32) = 0) : ((0 : Int32) ≤ x ∧ (x : Int32) < 8) ∧ ((0 : Int32) ≤ y ∧ (y : Int32) < 6) := by grind
theorem z_c_X11_layerAt_245 (x : Int32) (y : Int32) (w : Int32) (a_0 : (0 ≤ x ∧ x < 8) ∧ (0 ≤ y ∧ y < 6)) (a_1 : ¬ w = 115) (a_2 : ¬ w = 116) (a_3 : ¬ w = 121) (a_4 : w = 99) (a_5 : ¬ (1 : Int32) = 0) : (0 ≤ x ∧ x < 8) ∧ (0 ≤ y ∧ y < 6) := by grind
theorem z_c_X11_layerAt_246 (x : Int32) (y : Int32) (k : Int32) (w : Int32) (a_0 : (0 ≤ x ∧ x < 8) ∧ (0 ≤ y ∧ y < 6)) (a_1 : ¬ w = 115) (a_2 : ¬ w = 116) (a_3 : ¬ w = 121) (a_4 : w = 99) (a_5 : ¬ (1 : Int32) = 0) (a_6 : ¬ (0 ≤ k ∧ k ≤ (-1))) : ((0 ≤ x ∧ x < 8) ∧ (0 ≤ y ∧ y < 6)) ∧ (w = 115 ∨ w = 116 ∨ w = 121 ∨ w = 99 ∨ w = 103) := by grind
theorem z_c_X11_layerAt_247 (x : Int32) (y : Int32) (k : Int32) (w : Int32) (a_0 : (0 ≤ x ∧ x < 8) ∧ (0 ≤ y ∧ y < 6)) (a_1 : ¬ w = 115) (a_2 : ¬ w = 116) (a_3 : ¬ w = 121) (a_4 : w = 99) (a_5 : ¬ (1 : Int32) = 0) (a_6 : 0 ≤ k ∧ k ≤ (-1)) : False := by grind
theorem z_c_X11_layerAt_248 (x : Int32) (y : Int32) (w : Int32) (a_0 : (0 ≤ x ∧ x < 8) ∧ (0 ≤ y ∧ y < 6)) (a_1 : ¬ w = 115) (a_2 : ¬ w = 116) (a_3 : ¬ w = 121) (a_4 : ¬ w = 99) (a_5 : ¬ w = 103) (a_6 : (0 : Int32) = 0) : ¬ (((0 ≤ x ∧ x < 8) ∧ (0 ≤ y ∧ y < 6)) ∧ (w = 115 ∨ w = 116 ∨ w = 121 ∨ w = 99 ∨ w = 103)) := by grind
theorem z_c_X11_layerAt_249 (x : Int32) (y : Int32) (w : Int32) (a_0 : (0 ≤ x ∧ x < 8) ∧ (0 ≤ y ∧ y < 6)) (a_1 : ¬ w = 115) (a_2 : ¬ w = 116) (a_3 : ¬ w = 121) (a_4 : ¬ w = 99) (a_5 : w = 103) (a_6 : ¬ (1 : Int32) = 0) : ((0 : Int32) ≤ x ∧ (x : Int32) < 8) ∧ ((0 : Int32) ≤ y ∧ (y : Int32) < 6) := by grind
theorem z_c_X11_layerAt_250 (x : Int32) (y : Int32) (w : Int32) (a_0 : (0 ≤ x ∧ x < 8) ∧ (0 ≤ y ∧ y < 6)) (a_1 : ¬ w = 115) (a_2 : ¬ w = 116) (a_3 : ¬ w = 121) (a_4 : ¬ w = 99) (a_5 : w = 103) (a_6 : ¬ (1 : Int32) = 0) : (0 ≤ x ∧ x < 8) ∧ (0 ≤ y ∧ y < 6) := by grind
theorem z_c_X11_layerAt_251 (x : Int32) (y : Int32) (k : Int32) (w : Int32) (a_0 : (0 ≤ x ∧ x < 8) ∧ (0 ≤ y ∧ y < 6)) (a_1 : ¬ w = 115) (a_2 : ¬ w = 116) (a_3 : ¬ w = 121) (a_4 : ¬ w = 99) (a_5 : w = 103) (a_6 : ¬ (1 : Int32) = 0) (a_7 : ¬ (0 ≤ k ∧ k ≤ (-1))) : ((0 ≤ x ∧ x < 8) ∧ (0 ≤ y ∧ y < 6)) ∧ (w = 115 ∨ w = 116 ∨ w = 121 ∨ w = 99 ∨ w = 103) := by grind
theorem z_c_X11_layerAt_252 (x : Int32) (y : Int32) (k : Int32) (w : Int32) (a_0 : (0 ≤ x ∧ x < 8) ∧ (0 ≤ y ∧ y < 6)) (a_1 : ¬ w = 115) (a_2 : ¬ w = 116) (a_3 : ¬ w = 121) (a_4 : ¬ w = 99) (a_5 : w = 103) (a_6 : ¬ (1 : Int32) = 0) (a_7 : 0 ≤ k ∧ k ≤ (-1)) : False := by grind
set_option maxRecDepth 100000 in
theorem gw_wsX11_demandElement : wsX11_demandElement.all goodWord = true := by decide +kernel
set_option maxRecDepth 100000 in
theorem gw_wsX11_demandPlace : wsX11_demandPlace.all goodWord = true := by decide +kernel
def wo_c_X11_layerAt_w : List Cond := [Cond.fieldLink RX11 62 "Underpaint" "picture" "LUnderpaint$Picture;", Cond.fieldLink RX11 183 "Underpaint$Stack" "size" "I"]
def wo_c_X11_layerAt : List Cond := .code yX11_layerAt cX11_layerAt 6 (some .int) :: (wo_c_X11_layerAt_w ++ (u_ws RX11 TX11 14 ++ (u_ws RX8 TX8 3 ++ (va_wsS RX11 176 yX11_demandPlace wsX11_demandPlace ++ (va_wsS RX11 87 yX11_demandArgument wsX11_demandArgument ++ (wsV RX11 179 RX5 yX5_at wo_c_at ++ (va_wsS RX11 91 yX11_isWithin wsX11_isWithin ++ (va_wsS RX11 187 yX11_demandElement wsX11_demandElement ++ List.nil))))))))
theorem gw_wo_c_X11_layerAt : wo_c_X11_layerAt.all goodWord = true := gw_c (by decide +kernel) (gw_a (by decide +kernel) (gw_a (by decide +kernel) (gw_a (by decide +kernel) (gw_a (gw_a (by decide +kernel) gw_wsX11_demandPlace) (gw_a (gw_a (by decide +kernel) gw_wsX11_demandArgument) (gw_a (gw_a (by decide +kernel) gw_wo_c_at) (gw_a (gw_a (by decide +kernel) gw_wsX11_isWithin) (gw_a (gw_a (by decide +kernel) gw_wsX11_demandElement) rfl))))))))
theorem go_c_X11_layerAt_0 : GoodIn wo_c_X11_layerAt (va_wsS RX11 176 yX11_demandPlace wsX11_demandPlace) := goodIn_sub (fun _ h => List.mem_cons_of_mem _ (List.mem_append_right _ (List.mem_append_right _ (List.mem_append_right _ (List.mem_append_left _ h))))) (gw_a (by decide +kernel) gw_wsX11_demandPlace)
theorem go_c_X11_layerAt_1 : GoodIn wo_c_X11_layerAt (va_wsS RX11 87 yX11_demandArgument wsX11_demandArgument) := goodIn_sub (fun _ h => List.mem_cons_of_mem _ (List.mem_append_right _ (List.mem_append_right _ (List.mem_append_right _ (List.mem_append_right _ (List.mem_append_left _ h)))))) (gw_a (by decide +kernel) gw_wsX11_demandArgument)
theorem go_c_X11_layerAt_2 : GoodIn wo_c_X11_layerAt (wsV RX11 179 RX5 yX5_at wo_c_at) := goodIn_sub (fun _ h => List.mem_cons_of_mem _ (List.mem_append_right _ (List.mem_append_right _ (List.mem_append_right _ (List.mem_append_right _ (List.mem_append_right _ (List.mem_append_left _ h))))))) (gw_a (by decide +kernel) gw_wo_c_at)
theorem go_c_X11_layerAt_3 : GoodIn wo_c_X11_layerAt (va_wsS RX11 91 yX11_isWithin wsX11_isWithin) := goodIn_sub (fun _ h => List.mem_cons_of_mem _ (List.mem_append_right _ (List.mem_append_right _ (List.mem_append_right _ (List.mem_append_right _ (List.mem_append_right _ (List.mem_append_right _ (List.mem_append_left _ h)))))))) (gw_a (by decide +kernel) gw_wsX11_isWithin)
theorem go_c_X11_layerAt_4 : GoodIn wo_c_X11_layerAt (va_wsS RX11 187 yX11_demandElement wsX11_demandElement) := goodIn_sub (fun _ h => List.mem_cons_of_mem _ (List.mem_append_right _ (List.mem_append_right _ (List.mem_append_right _ (List.mem_append_right _ (List.mem_append_right _ (List.mem_append_right _ (List.mem_append_right _ (List.mem_append_left _ h))))))))) (gw_a (by decide +kernel) gw_wsX11_demandElement)
set_option maxHeartbeats 4000000 in
set_option maxRecDepth 100000 in
theorem c_X11_layerAt (l : Launch) (hst : l.stackTraces = false) (dC : Nat → ClassId) (dI : Nat → Nat → Nat) (b0 : Nat) (en : EnT) (sz : Nat) (h pal she fil nte dat vot loa nos pic spa : Nat) (st sp ll : Nat) (g : Nat → Option Nat) (cS : ClassId) (N : Nat → Prop) (x y k w : Int32) (hNb : ∀ a, N a → b0 ≤ a ∧ a < sz) (hNw : ∀ a, N a → a ∉ List.map Prod.fst ([] : va_W)) (hNr : ∀ a, N a → a ∉ List.map Prod.fst ([(h, .inr (17, [.ref pal, .ref she, .ref fil, .ref nte, .ref dat, .ref vot, .ref loa, .ref nos, .ref pic, .ref spa, .int 5, .int 50, .int 1600, .int 0])), (pic, .inr (11, [.ref st, .ref sp, .ref ll, .int 0, .int 1600])), (st, .inl (cS, 48, .inr (.inr (.inr (.inr g)))))] : va_W)) : vx_Met l yX11_layerAt wo_c_X11_layerAt ({ frames := 7, cells := 3, slots := 18, locals := 111 } : Room) (cP b0 en (dC, dI) [(cS, .object "Underpaint$Stack")] [] [(h, .inr (17, [.ref pal, .ref she, .ref fil, .ref nte, .ref dat, .ref vot, .ref loa, .ref nos, .ref pic, .ref spa, .int 5, .int 50, .int 1600, .int 0])), (pic, .inr (11, [.ref st, .ref sp, .ref ll, .int 0, .int 1600])), (st, .inl (cS, 48, .inr (.inr (.inr (.inr g)))))] sz (FamS (dC, dI) N g) [.ref h, .int x, .int y, .int k, .int w]) (va_Qi (fun (r : Int32) (_ : Unit) => False) (fun _ _ => True) (va_A [] sz)) (vx_X (fun _ : Unit => True) (fun E _ _ => (E = "java/lang/IllegalArgumentException" ∧ ¬ (((0 ≤ x ∧ x < 8) ∧ (0 ≤ y ∧ y < 6)) ∧ (w = 115 ∨ w = 116 ∨ w = 121 ∨ w = 99 ∨ w = 103))) ∨ (E = "java/util/NoSuchElementException" ∧ ((0 ≤ x ∧ x < 8) ∧ (0 ≤ y ∧ y < 6)) ∧ (w = 115 ∨ w = 116 ∨ w = 121 ∨ w = 99 ∨ w = 103))) (va_A [] sz)) 3 18 (va_A [] sz) := by
  refine vx_ofW (cc := cX11_layerAt) (maxL := 6) (ret := (some .int)) (by decide) rfl ?_
  intro p e s m args below meth c s₁ B hml hext hv
  obtain ⟨rfl, hsz, hb0, hE, hPP, hK, hDD, hF0⟩ := hv
  have hx := B.exec
  have hb := B.bytes
  have hr := B.returns
  have hts := atoms_spec (ws := wo_c_X11_layerAt) B.pre
  have hown : s.vm.findClass RX11 = some m.cls := findClass_of_methodNamed B.named
  have hlocks := B.notSynchronized
  subst hsz
  have hN0 := en_N hPP hDD rfl
  have hP : va_P (dC, dI) vwCl [] s.heap := hPP.sub [] rfl
  have hR0 : va_P (dC, dI) vwCl [(h, .inr (17, [.ref pal, .ref she, .ref fil, .ref nte, .ref dat, .ref vot, .ref loa, .ref nos, .ref pic, .ref spa, .int 5, .int 50, .int 1600, .int 0])), (pic, .inr (11, [.ref st, .ref sp, .ref ll, .int 0, .int 1600])), (st, .inl (cS, 48, .inr (.inr (.inr (.inr g)))))] s.heap := hPP.sub [0, 1, 2] rfl
  have hD0 : va_D (fun q => b0 ≤ q) [] := hDD.sub [] (by decide) rfl
  have hDr : va_D (fun q => b0 ≤ q) [(h, .inr (17, [.ref pal, .ref she, .ref fil, .ref nte, .ref dat, .ref vot, .ref loa, .ref nos, .ref pic, .ref spa, .int 5, .int 50, .int 1600, .int 0])), (pic, .inr (11, [.ref st, .ref sp, .ref ll, .int 0, .int 1600])), (st, .inl (cS, 48, .inr (.inr (.inr (.inr g)))))] := hDD.sub [0, 1, 2] (by decide) rfl
  have hAb := en_A (sz := s.heap.size) hD0 hb0
  have hD := hD0.self (sz := s.heap.size)
  generalize hAe : va_A [] s.heap.size = A at hD hAb hN0 ⊢
  have hA : ∀ q : Nat, s.heap.size ≤ q → A q := fun q h => by rw [← hAe]; exact Or.inr h
  have hS : va_S A s.heap s.heap [] := va_S.rf
  have hR := hR0
  have hl := lv_entry [.ref h, .int x, .int y, .int k, .int w] (n := 6) (Nat.le_of_ble_eq_true rfl)
  rw [lg_entry_eq]
  generalize (lg_sl [.ref h, .int x, .int y, .int k, .int w] ++ List.replicate (6 - (lg_sl [.ref h, .int x, .int y, .int k, .int w]).length) Slot.unset).toArray = ls at hl ⊢
  have hl : lv_has ls 6 [(0, .ref h), (1, .int x), (2, .int y), (3, .int k), (4, .int w)] := hl
  have hR0b := hR0
  have hDrb := hDr
  have hN0b := hN0
  refine lv_iload_n hx hb dX11_layerAt_0 rfl (lv_at hl 1 rfl) ?_
  refine lv_iload_n hx hb dX11_layerAt_1 rfl (lv_at hl 2 rfl) ?_
  have hPc := (hP.app hR).sub (ws' := [] ++ []) [] rfl
  have hDc := (en_DD hD hDr hN0 hAb).sub (ws' := [] ++ []) [] (by decide) rfl
  have hKc := hK.sub (tys' := []) [] rfl
  have hFc := va_free (wc := []) hD hS hA [] rfl
  refine vx_callv (vx_runS (As := [.int x, .int y]) (rest := []) ⟨hx, hb, hml, hown, hts⟩ (c_X11_demandPlace l hst dC dI b0 en s.heap.size x y) (va_cwS 2 hts go_c_X11_layerAt_0 rfl rfl rfl (by decide +kernel) ⟨Nat.le_of_ble_eq_true rfl, Nat.le_of_ble_eq_true rfl⟩) ⟨cP.blind, cP.use (en_z hb0 hS) (hE.on hAb hS) hPc hKc hDc trivial⟩ rfl rfl hl.1 rfl (lv_room (Nat.le_of_ble_eq_true rfl)) dX11_layerAt_2 ⟨Nat.le_of_ble_eq_true rfl, Nat.le_of_ble_eq_true rfl⟩) hS (fun q _ h => hFc q h) hFc (fun q _ h => hFc q h) (fun E ce q9 u t H1 locs ht hvm hpx hBX hz1 hk1 hS hce hcv hcl => ?_) (fun u t H1 locs ht hvm hw hB hz1 hk1 hS => ?_)
  · skip
    try dsimp only at hBX
    obtain ⟨rfl, hc⟩ := hBX
    refine vx_widen (k := 3) (n := 18) (Nat.le_of_ble_eq_true rfl) (Nat.le_of_ble_eq_true rfl) ?_
    exact vx_out (fun x hx => (hext x hx).elim) hlocks hce hcv hcl (fun t ht hW => ⟨(), trivial, Or.inl ⟨rfl, (z_c_X11_layerAt_231 x y w hc)⟩, hS.F ht⟩) hS.2.2 (Nat.le_refl _) (Nat.le_refl _)
  have hP1 : va_P (dC, dI) vwCl [] H1 := fun k q h => by simp at h
  have hD1 : va_D (va_A [] s.heap.size) [] := ⟨fun i j p q h => by simp at h, fun k q h => by simp at h⟩
  try dsimp only at hw
  obtain ⟨hP, hD⟩ := va_join (wr := []) (w1 := []) hP hD [] [] rfl rfl (by decide) (by decide) hk1 hFc hP1 hD1
  generalize H1 = H at hP hS ⊢
  have hP : va_P (dC, dI) vwCl [] H := hP
  have hD : va_D A [] := hD
  have hR := en_R hR0 hN0 hS
  refine W.widen (k := 1) (n := 6) (Nat.le_of_ble_eq_true rfl) (Nat.le_of_ble_eq_true rfl) ?_
  have h_2 := hw
  refine lv_iload hx hb dX11_layerAt_5 (lv_at hl 4 rfl) ?_
  refine lv_bipush (v := 115) hx hb dX11_layerAt_7 (by decide) ?_
  refine lv_icmp_eq (tgt := 40) hx hb dX11_layerAt_9 (by decide) (fun c_3 => ?_) (fun c_3 => ?_)
  · skip
    refine lv_iconst (v := 1) hx hb dX11_layerAt_40 (by decide) ?_
    refine lv_goto (tgt := 45) hx hb dX11_layerAt_41 (by decide) ?_
    have hPc := (hP.app hR).sub (ws' := [] ++ []) [] rfl
    have hDc := (en_DD hD hDr hN0 hAb).sub (ws' := [] ++ []) [] (by decide) rfl
    have hKc := hK.sub (tys' := []) [] rfl
    have hFc := va_free (wc := []) hD hS hA [] rfl
    refine vx_callv (vx_runS (As := [.int 1]) (rest := []) ⟨hx, hb, hml, hown, hts⟩ (c_X11_demandArgument l hst dC dI b0 en H.size 1) (va_cwS 1 hts go_c_X11_layerAt_1 rfl rfl rfl (by decide +kernel) ⟨Nat.le_of_ble_eq_true rfl, Nat.le_of_ble_eq_true rfl⟩) ⟨cP.blind, cP.use (en_z hb0 hS) (hE.on hAb hS) hPc hKc hDc trivial⟩ rfl rfl hl.1 rfl (lv_room (Nat.le_of_ble_eq_true rfl)) dX11_layerAt_45 ⟨Nat.le_of_ble_eq_true rfl, Nat.le_of_ble_eq_true rfl⟩) hS (fun q _ h => hFc q h) hFc (fun q _ h => hFc q h) (fun E ce q9 u t H1 locs ht hvm hpx hBX hz1 hk1 hS hce hcv hcl => ?_) (fun u t H1 locs ht hvm hw hB hz1 hk1 hS => ?_)
    · skip
      try dsimp only at hBX
      obtain ⟨rfl, hc⟩ := hBX
      exact absurd hc (by decide)
    have hP1 : va_P (dC, dI) vwCl [] H1 := fun k q h => by simp at h
    have hD1 : va_D (va_A [] H.size) [] := ⟨fun i j p q h => by simp at h, fun k q h => by simp at h⟩
    try dsimp only at hw
    obtain ⟨hP, hD⟩ := va_join (wr := []) (w1 := []) hP hD [] [] rfl rfl (by decide) (by decide) hk1 hFc hP1 hD1
    generalize H1 = H at hP hS ⊢
    have hP : va_P (dC, dI) vwCl [] H := hP
    have hD : va_D A [] := hD
    have hR := en_R hR0 hN0 hS
    refine W.widen (k := 2) (n := 12) (Nat.le_of_ble_eq_true rfl) (Nat.le_of_ble_eq_true rfl) ?_
    have h_5 := hw
    refine lv_aload_n hx hb dX11_layerAt_48 rfl (lv_at hl 0 rfl) ?_
    refine va_get (D := (dC, dI)) (ci := 17) (v := .ref pic) (C := RX11) (T := TX11) (N := 14) hx hb hts (by decide +kernel) hown hK hR 0 rfl rfl 8 (by decide) (hts (.fieldLink RX11 62 "Underpaint" "picture" "LUnderpaint$Picture;") (by decide +kernel)) (fun _ h9 => h9) rfl dX11_layerAt_49 ?_
    refine lv_iload_n hx hb dX11_layerAt_52 rfl (lv_at hl 1 rfl) ?_
    refine lv_iload_n hx hb dX11_layerAt_53 rfl (lv_at hl 2 rfl) ?_
    have hPc := (hP.app hR).sub (ws' := [] ++ [(pic, .inr (11, [.ref st, .ref sp, .ref ll, .int 0, .int 1600])), (st, .inl (cS, 48, .inr (.inr (.inr (.inr g)))))]) [1, 2] rfl
    have hDc := (en_DD hD hDr hN0 hAb).sub (ws' := [] ++ [(pic, .inr (11, [.ref st, .ref sp, .ref ll, .int 0, .int 1600])), (st, .inl (cS, 48, .inr (.inr (.inr (.inr g)))))]) [1, 2] (by decide) rfl
    have hKc := hK.sub (tys' := [(cS, .object "Underpaint$Stack")]) [0] rfl
    have hFc := va_free (wc := []) hD hS hA [] rfl
    refine va_callq (va_runV (As := [.int x, .int y]) (rest := []) ⟨hx, hb, hml, hown, hts⟩ (c_at l dC dI b0 en H.size pic st sp ll x y g cS (z_c_X11_layerAt_232 x y w h_2 c_3 h_5)) (cwV 2 hts go_c_X11_layerAt_2 rfl rfl rfl (by decide +kernel) ⟨Nat.le_of_ble_eq_true rfl, Nat.le_of_ble_eq_true rfl⟩) ⟨cP.blind, va_recv hK hR (ci := 11) (q0 := 1) rfl rfl, cP.use (en_z hb0 hS) (hE.on hAb hS) hPc hKc hDc trivial⟩ rfl rfl hl.1 rfl (lv_room (Nat.le_of_ble_eq_true rfl)) dX11_layerAt_54 ⟨Nat.le_of_ble_eq_true rfl, Nat.le_of_ble_eq_true rfl⟩) hS (fun q _ h => hFc q h) hFc (fun r_6 u t H1 locs ht hvm hw hB hz1 hk1 hS => ?_)
    have hP1 : va_P (dC, dI) vwCl [] H1 := fun k q h => by simp at h
    have hD1 : va_D (va_A [] H.size) [] := ⟨fun i j p q h => by simp at h, fun k q h => by simp at h⟩
    try dsimp only at hw
    obtain ⟨hP, hD⟩ := va_join (wr := []) (w1 := []) hP hD [] [] rfl rfl (by decide) (by decide) hk1 hFc hP1 hD1
    generalize H1 = H at hP hS ⊢
    have hP : va_P (dC, dI) vwCl [] H := hP
    have hD : va_D A [] := hD
    have hR := en_R hR0 hN0 hS
    refine W.widen (k := 2) (n := 12) (Nat.le_of_ble_eq_true rfl) (Nat.le_of_ble_eq_true rfl) ?_
    subst r_6
    obtain ⟨ap_7, rp_7, hgp_7, hup_7, hnp_7⟩ := hF0 (pidx x y) (pidx_lt (z_c_X11_layerAt_233 x y w h_2 c_3 h_5))
    refine lv_topv (w := .ref ap_7) (by rw [hgp_7]; rfl) ?_
    have hxp_7 : ¬ A ap_7 := by rw [← hAe]; exact vA0 hup_7.lt
    refine lv_astore (lv' := [(5, .ref ap_7), (0, .ref h), (1, .int x), (2, .int y), (3, .int k), (4, .int w)]) hx hb dX11_layerAt_57 hl (by decide) rfl (fun ls hl => ?_)
    refine lv_iload_n hx hb dX11_layerAt_59 rfl (lv_at hl 4 rfl) ?_
    refine lv_iconst (v := 0) hx hb dX11_layerAt_60 (by decide) ?_
    refine lv_aload hx hb dX11_layerAt_61 (lv_at hl 0 rfl) ?_
    have hfa := va1 (hup_7.kept (hS.2.1 _ hup_7.lt hxp_7))
    refine va_get (D := (dC, dI)) (ci := 14) (v := .int 0) (C := RX8) (T := TX8) (N := 3) hx hb hts (by decide +kernel) hown hK hfa 0 rfl rfl 1 (by decide) (hts (.fieldLink RX11 183 "Underpaint$Stack" "size" "I") (by decide +kernel)) (fun _ h9 => h9) rfl dX11_layerAt_63 ?_
    refine lv_iconst (v := 1) hx hb dX11_layerAt_66 (by decide) ?_
    refine lv_isub hx hb dX11_layerAt_67 ?_
    refine lv_topi (fun x_8 ex_8 => ?_)
    obtain rfl : x_8 = (-1) := ex_8.trans (by decide)
    have hPc := (hP.app hR).sub (ws' := [] ++ []) [] rfl
    have hDc := (en_DD hD hDr hN0 hAb).sub (ws' := [] ++ []) [] (by decide) rfl
    have hKc := hK.sub (tys' := []) [] rfl
    have hFc := va_free (wc := []) hD hS hA [] rfl
    refine va_calli (va_runS (As := [.int k, .int 0, .int (-1)]) (rest := []) ⟨hx, hb, hml, hown, hts⟩ (c_X11_isWithin l dC dI b0 en H.size k 0 (-1)) (va_cwS 3 hts go_c_X11_layerAt_3 rfl rfl rfl (by decide +kernel) ⟨Nat.le_of_ble_eq_true rfl, Nat.le_of_ble_eq_true rfl⟩) ⟨cP.blind, cP.use (en_z hb0 hS) (hE.on hAb hS) hPc hKc hDc trivial⟩ rfl rfl hl.1 rfl (lv_room (Nat.le_of_ble_eq_true rfl)) dX11_layerAt_68 ⟨Nat.le_of_ble_eq_true rfl, Nat.le_of_ble_eq_true rfl⟩) hS (fun q _ h => hFc q h) hFc (fun r_9 u t H1 locs ht hvm hw hB hz1 hk1 hS => ?_)
    have hP1 : va_P (dC, dI) vwCl [] H1 := fun k q h => by simp at h
    have hD1 : va_D (va_A [] H.size) [] := ⟨fun i j p q h => by simp at h, fun k q h => by simp at h⟩
    try dsimp only at hw
    obtain ⟨hP, hD⟩ := va_join (wr := []) (w1 := []) hP hD [] [] rfl rfl (by decide) (by decide) hk1 hFc hP1 hD1
    generalize H1 = H at hP hS ⊢
    have hP : va_P (dC, dI) vwCl [] H := hP
    have hD : va_D A [] := hD
    have hR := en_R hR0 hN0 hS
    refine W.widen (k := 2) (n := 12) (Nat.le_of_ble_eq_true rfl) (Nat.le_of_ble_eq_true rfl) ?_
    have h_10 := hw
    have hPc := (hP.app hR).sub (ws' := [] ++ []) [] rfl
    have hDc := (en_DD hD hDr hN0 hAb).sub (ws' := [] ++ []) [] (by decide) rfl
    have hKc := hK.sub (tys' := []) [] rfl
    have hFc := va_free (wc := []) hD hS hA [] rfl
    refine vx_callv (vx_runS (As := [.int r_9]) (rest := []) ⟨hx, hb, hml, hown, hts⟩ (c_X11_demandElement l hst dC dI b0 en H.size r_9) (va_cwS 1 hts go_c_X11_layerAt_4 rfl rfl rfl (by decide +kernel) ⟨Nat.le_of_ble_eq_true rfl, Nat.le_of_ble_eq_true rfl⟩) ⟨cP.blind, cP.use (en_z hb0 hS) (hE.on hAb hS) hPc hKc hDc trivial⟩ rfl rfl hl.1 rfl (lv_room (Nat.le_of_ble_eq_true rfl)) dX11_layerAt_71 ⟨Nat.le_of_ble_eq_true rfl, Nat.le_of_ble_eq_true rfl⟩) hS (fun q _ h => hFc q h) hFc (fun q _ h => hFc q h) (fun E ce q9 u t H1 locs ht hvm hpx hBX hz1 hk1 hS hce hcv hcl => ?_) (fun u t H1 locs ht hvm hw hB hz1 hk1 hS => ?_)
    · skip
      try dsimp only at hBX
      obtain ⟨rfl, hc⟩ := hBX
      refine vx_widen (k := 3) (n := 18) (Nat.le_of_ble_eq_true rfl) (Nat.le_of_ble_eq_true rfl) ?_
      exact vx_out (fun x hx => (hext x hx).elim) hlocks hce hcv hcl (fun t ht hW => ⟨(), trivial, Or.inr (⟨rfl, (z_c_X11_layerAt_234 x y k w h_2 c_3 h_5 (b_no h_10 hc))⟩), hS.F ht⟩) hS.2.2 (Nat.le_refl _) (Nat.le_refl _)
    have hP1 : va_P (dC, dI) vwCl [] H1 := fun k q h => by simp at h
    have hD1 : va_D (va_A [] H.size) [] := ⟨fun i j p q h => by simp at h, fun k q h => by simp at h⟩
    try dsimp only at hw
    obtain ⟨hP, hD⟩ := va_join (wr := []) (w1 := []) hP hD [] [] rfl rfl (by decide) (by decide) hk1 hFc hP1 hD1
    generalize H1 = H at hP hS ⊢
    have hP : va_P (dC, dI) vwCl [] H := hP
    have hD : va_D A [] := hD
    have hR := en_R hR0 hN0 hS
    refine W.widen (k := 3) (n := 18) (Nat.le_of_ble_eq_true rfl) (Nat.le_of_ble_eq_true rfl) ?_
    have h_12 := hw
    exact absurd (z_c_X11_layerAt_235 x y k w h_2 c_3 h_5 (b_yes h_10 h_12)) (fun z => z)
  · skip
    refine lv_iload hx hb dX11_layerAt_12 (lv_at hl 4 rfl) ?_
    refine lv_bipush (v := 116) hx hb dX11_layerAt_14 (by decide) ?_
    refine lv_icmp_eq (tgt := 40) hx hb dX11_layerAt_16 (by decide) (fun c_13 => ?_) (fun c_13 => ?_)
    · skip
      refine lv_iconst (v := 1) hx hb dX11_layerAt_40 (by decide) ?_
      refine lv_goto (tgt := 45) hx hb dX11_layerAt_41 (by decide) ?_
      have hPc := (hP.app hR).sub (ws' := [] ++ []) [] rfl
      have hDc := (en_DD hD hDr hN0 hAb).sub (ws' := [] ++ []) [] (by decide) rfl
      have hKc := hK.sub (tys' := []) [] rfl
      have hFc := va_free (wc := []) hD hS hA [] rfl
      refine vx_callv (vx_runS (As := [.int 1]) (rest := []) ⟨hx, hb, hml, hown, hts⟩ (c_X11_demandArgument l hst dC dI b0 en H.size 1) (va_cwS 1 hts go_c_X11_layerAt_1 rfl rfl rfl (by decide +kernel) ⟨Nat.le_of_ble_eq_true rfl, Nat.le_of_ble_eq_true rfl⟩) ⟨cP.blind, cP.use (en_z hb0 hS) (hE.on hAb hS) hPc hKc hDc trivial⟩ rfl rfl hl.1 rfl (lv_room (Nat.le_of_ble_eq_true rfl)) dX11_layerAt_45 ⟨Nat.le_of_ble_eq_true rfl, Nat.le_of_ble_eq_true rfl⟩) hS (fun q _ h => hFc q h) hFc (fun q _ h => hFc q h) (fun E ce q9 u t H1 locs ht hvm hpx hBX hz1 hk1 hS hce hcv hcl => ?_) (fun u t H1 locs ht hvm hw hB hz1 hk1 hS => ?_)
      · skip
        try dsimp only at hBX
        obtain ⟨rfl, hc⟩ := hBX
        exact absurd hc (by decide)
      have hP1 : va_P (dC, dI) vwCl [] H1 := fun k q h => by simp at h
      have hD1 : va_D (va_A [] H.size) [] := ⟨fun i j p q h => by simp at h, fun k q h => by simp at h⟩
      try dsimp only at hw
      obtain ⟨hP, hD⟩ := va_join (wr := []) (w1 := []) hP hD [] [] rfl rfl (by decide) (by decide) hk1 hFc hP1 hD1
      generalize H1 = H at hP hS ⊢
      have hP : va_P (dC, dI) vwCl [] H := hP
      have hD : va_D A [] := hD
      have hR := en_R hR0 hN0 hS
      refine W.widen (k := 2) (n := 12) (Nat.le_of_ble_eq_true rfl) (Nat.le_of_ble_eq_true rfl) ?_
      have h_15 := hw
      refine lv_aload_n hx hb dX11_layerAt_48 rfl (lv_at hl 0 rfl) ?_
      refine va_get (D := (dC, dI)) (ci := 17) (v := .ref pic) (C := RX11) (T := TX11) (N := 14) hx hb hts (by decide +kernel) hown hK hR 0 rfl rfl 8 (by decide) (hts (.fieldLink RX11 62 "Underpaint" "picture" "LUnderpaint$Picture;") (by decide +kernel)) (fun _ h9 => h9) rfl dX11_layerAt_49 ?_
      refine lv_iload_n hx hb dX11_layerAt_52 rfl (lv_at hl 1 rfl) ?_
      refine lv_iload_n hx hb dX11_layerAt_53 rfl (lv_at hl 2 rfl) ?_
      have hPc := (hP.app hR).sub (ws' := [] ++ [(pic, .inr (11, [.ref st, .ref sp, .ref ll, .int 0, .int 1600])), (st, .inl (cS, 48, .inr (.inr (.inr (.inr g)))))]) [1, 2] rfl
      have hDc := (en_DD hD hDr hN0 hAb).sub (ws' := [] ++ [(pic, .inr (11, [.ref st, .ref sp, .ref ll, .int 0, .int 1600])), (st, .inl (cS, 48, .inr (.inr (.inr (.inr g)))))]) [1, 2] (by decide) rfl
      have hKc := hK.sub (tys' := [(cS, .object "Underpaint$Stack")]) [0] rfl
      have hFc := va_free (wc := []) hD hS hA [] rfl
      refine va_callq (va_runV (As := [.int x, .int y]) (rest := []) ⟨hx, hb, hml, hown, hts⟩ (c_at l dC dI b0 en H.size pic st sp ll x y g cS (z_c_X11_layerAt_236 x y w h_2 c_3 c_13 h_15)) (cwV 2 hts go_c_X11_layerAt_2 rfl rfl rfl (by decide +kernel) ⟨Nat.le_of_ble_eq_true rfl, Nat.le_of_ble_eq_true rfl⟩) ⟨cP.blind, va_recv hK hR (ci := 11) (q0 := 1) rfl rfl, cP.use (en_z hb0 hS) (hE.on hAb hS) hPc hKc hDc trivial⟩ rfl rfl hl.1 rfl (lv_room (Nat.le_of_ble_eq_true rfl)) dX11_layerAt_54 ⟨Nat.le_of_ble_eq_true rfl, Nat.le_of_ble_eq_true rfl⟩) hS (fun q _ h => hFc q h) hFc (fun r_16 u t H1 locs ht hvm hw hB hz1 hk1 hS => ?_)
      have hP1 : va_P (dC, dI) vwCl [] H1 := fun k q h => by simp at h
      have hD1 : va_D (va_A [] H.size) [] := ⟨fun i j p q h => by simp at h, fun k q h => by simp at h⟩
      try dsimp only at hw
      obtain ⟨hP, hD⟩ := va_join (wr := []) (w1 := []) hP hD [] [] rfl rfl (by decide) (by decide) hk1 hFc hP1 hD1
      generalize H1 = H at hP hS ⊢
      have hP : va_P (dC, dI) vwCl [] H := hP
      have hD : va_D A [] := hD
      have hR := en_R hR0 hN0 hS
      refine W.widen (k := 2) (n := 12) (Nat.le_of_ble_eq_true rfl) (Nat.le_of_ble_eq_true rfl) ?_
      subst r_16
      obtain ⟨ap_17, rp_17, hgp_17, hup_17, hnp_17⟩ := hF0 (pidx x y) (pidx_lt (z_c_X11_layerAt_237 x y w h_2 c_3 c_13 h_15))
      refine lv_topv (w := .ref ap_17) (by rw [hgp_17]; rfl) ?_
      have hxp_17 : ¬ A ap_17 := by rw [← hAe]; exact vA0 hup_17.lt
      refine lv_astore (lv' := [(5, .ref ap_17), (0, .ref h), (1, .int x), (2, .int y), (3, .int k), (4, .int w)]) hx hb dX11_layerAt_57 hl (by decide) rfl (fun ls hl => ?_)
      refine lv_iload_n hx hb dX11_layerAt_59 rfl (lv_at hl 4 rfl) ?_
      refine lv_iconst (v := 0) hx hb dX11_layerAt_60 (by decide) ?_
      refine lv_aload hx hb dX11_layerAt_61 (lv_at hl 0 rfl) ?_
      have hfa := va1 (hup_17.kept (hS.2.1 _ hup_17.lt hxp_17))
      refine va_get (D := (dC, dI)) (ci := 14) (v := .int 0) (C := RX8) (T := TX8) (N := 3) hx hb hts (by decide +kernel) hown hK hfa 0 rfl rfl 1 (by decide) (hts (.fieldLink RX11 183 "Underpaint$Stack" "size" "I") (by decide +kernel)) (fun _ h9 => h9) rfl dX11_layerAt_63 ?_
      refine lv_iconst (v := 1) hx hb dX11_layerAt_66 (by decide) ?_
      refine lv_isub hx hb dX11_layerAt_67 ?_
      refine lv_topi (fun x_18 ex_18 => ?_)
      obtain rfl : x_18 = (-1) := ex_18.trans (by decide)
      have hPc := (hP.app hR).sub (ws' := [] ++ []) [] rfl
      have hDc := (en_DD hD hDr hN0 hAb).sub (ws' := [] ++ []) [] (by decide) rfl
      have hKc := hK.sub (tys' := []) [] rfl
      have hFc := va_free (wc := []) hD hS hA [] rfl
      refine va_calli (va_runS (As := [.int k, .int 0, .int (-1)]) (rest := []) ⟨hx, hb, hml, hown, hts⟩ (c_X11_isWithin l dC dI b0 en H.size k 0 (-1)) (va_cwS 3 hts go_c_X11_layerAt_3 rfl rfl rfl (by decide +kernel) ⟨Nat.le_of_ble_eq_true rfl, Nat.le_of_ble_eq_true rfl⟩) ⟨cP.blind, cP.use (en_z hb0 hS) (hE.on hAb hS) hPc hKc hDc trivial⟩ rfl rfl hl.1 rfl (lv_room (Nat.le_of_ble_eq_true rfl)) dX11_layerAt_68 ⟨Nat.le_of_ble_eq_true rfl, Nat.le_of_ble_eq_true rfl⟩) hS (fun q _ h => hFc q h) hFc (fun r_19 u t H1 locs ht hvm hw hB hz1 hk1 hS => ?_)
      have hP1 : va_P (dC, dI) vwCl [] H1 := fun k q h => by simp at h
      have hD1 : va_D (va_A [] H.size) [] := ⟨fun i j p q h => by simp at h, fun k q h => by simp at h⟩
      try dsimp only at hw
      obtain ⟨hP, hD⟩ := va_join (wr := []) (w1 := []) hP hD [] [] rfl rfl (by decide) (by decide) hk1 hFc hP1 hD1
      generalize H1 = H at hP hS ⊢
      have hP : va_P (dC, dI) vwCl [] H := hP
      have hD : va_D A [] := hD
      have hR := en_R hR0 hN0 hS
      refine W.widen (k := 2) (n := 12) (Nat.le_of_ble_eq_true rfl) (Nat.le_of_ble_eq_true rfl) ?_
      have h_20 := hw
      have hPc := (hP.app hR).sub (ws' := [] ++ []) [] rfl
      have hDc := (en_DD hD hDr hN0 hAb).sub (ws' := [] ++ []) [] (by decide) rfl
      have hKc := hK.sub (tys' := []) [] rfl
      have hFc := va_free (wc := []) hD hS hA [] rfl
      refine vx_callv (vx_runS (As := [.int r_19]) (rest := []) ⟨hx, hb, hml, hown, hts⟩ (c_X11_demandElement l hst dC dI b0 en H.size r_19) (va_cwS 1 hts go_c_X11_layerAt_4 rfl rfl rfl (by decide +kernel) ⟨Nat.le_of_ble_eq_true rfl, Nat.le_of_ble_eq_true rfl⟩) ⟨cP.blind, cP.use (en_z hb0 hS) (hE.on hAb hS) hPc hKc hDc trivial⟩ rfl rfl hl.1 rfl (lv_room (Nat.le_of_ble_eq_true rfl)) dX11_layerAt_71 ⟨Nat.le_of_ble_eq_true rfl, Nat.le_of_ble_eq_true rfl⟩) hS (fun q _ h => hFc q h) hFc (fun q _ h => hFc q h) (fun E ce q9 u t H1 locs ht hvm hpx hBX hz1 hk1 hS hce hcv hcl => ?_) (fun u t H1 locs ht hvm hw hB hz1 hk1 hS => ?_)
      · skip
        try dsimp only at hBX
        obtain ⟨rfl, hc⟩ := hBX
        refine vx_widen (k := 3) (n := 18) (Nat.le_of_ble_eq_true rfl) (Nat.le_of_ble_eq_true rfl) ?_
        exact vx_out (fun x hx => (hext x hx).elim) hlocks hce hcv hcl (fun t ht hW => ⟨(), trivial, Or.inr (⟨rfl, (z_c_X11_layerAt_238 x y k w h_2 c_3 c_13 h_15 (b_no h_20 hc))⟩), hS.F ht⟩) hS.2.2 (Nat.le_refl _) (Nat.le_refl _)
      have hP1 : va_P (dC, dI) vwCl [] H1 := fun k q h => by simp at h
      have hD1 : va_D (va_A [] H.size) [] := ⟨fun i j p q h => by simp at h, fun k q h => by simp at h⟩
      try dsimp only at hw
      obtain ⟨hP, hD⟩ := va_join (wr := []) (w1 := []) hP hD [] [] rfl rfl (by decide) (by decide) hk1 hFc hP1 hD1
      generalize H1 = H at hP hS ⊢
      have hP : va_P (dC, dI) vwCl [] H := hP
      have hD : va_D A [] := hD
      have hR := en_R hR0 hN0 hS
      refine W.widen (k := 3) (n := 18) (Nat.le_of_ble_eq_true rfl) (Nat.le_of_ble_eq_true rfl) ?_
      have h_22 := hw
      exact absurd (z_c_X11_layerAt_239 x y k w h_2 c_3 c_13 h_15 (b_yes h_20 h_22)) (fun z => z)
    · skip
      refine lv_iload hx hb dX11_layerAt_19 (lv_at hl 4 rfl) ?_
      refine lv_bipush (v := 121) hx hb dX11_layerAt_21 (by decide) ?_
      refine lv_icmp_eq (tgt := 40) hx hb dX11_layerAt_23 (by decide) (fun c_23 => ?_) (fun c_23 => ?_)
      · skip
        refine lv_iconst (v := 1) hx hb dX11_layerAt_40 (by decide) ?_
        refine lv_goto (tgt := 45) hx hb dX11_layerAt_41 (by decide) ?_
        have hPc := (hP.app hR).sub (ws' := [] ++ []) [] rfl
        have hDc := (en_DD hD hDr hN0 hAb).sub (ws' := [] ++ []) [] (by decide) rfl
        have hKc := hK.sub (tys' := []) [] rfl
        have hFc := va_free (wc := []) hD hS hA [] rfl
        refine vx_callv (vx_runS (As := [.int 1]) (rest := []) ⟨hx, hb, hml, hown, hts⟩ (c_X11_demandArgument l hst dC dI b0 en H.size 1) (va_cwS 1 hts go_c_X11_layerAt_1 rfl rfl rfl (by decide +kernel) ⟨Nat.le_of_ble_eq_true rfl, Nat.le_of_ble_eq_true rfl⟩) ⟨cP.blind, cP.use (en_z hb0 hS) (hE.on hAb hS) hPc hKc hDc trivial⟩ rfl rfl hl.1 rfl (lv_room (Nat.le_of_ble_eq_true rfl)) dX11_layerAt_45 ⟨Nat.le_of_ble_eq_true rfl, Nat.le_of_ble_eq_true rfl⟩) hS (fun q _ h => hFc q h) hFc (fun q _ h => hFc q h) (fun E ce q9 u t H1 locs ht hvm hpx hBX hz1 hk1 hS hce hcv hcl => ?_) (fun u t H1 locs ht hvm hw hB hz1 hk1 hS => ?_)
        · skip
          try dsimp only at hBX
          obtain ⟨rfl, hc⟩ := hBX
          exact absurd hc (by decide)
        have hP1 : va_P (dC, dI) vwCl [] H1 := fun k q h => by simp at h
        have hD1 : va_D (va_A [] H.size) [] := ⟨fun i j p q h => by simp at h, fun k q h => by simp at h⟩
        try dsimp only at hw
        obtain ⟨hP, hD⟩ := va_join (wr := []) (w1 := []) hP hD [] [] rfl rfl (by decide) (by decide) hk1 hFc hP1 hD1
        generalize H1 = H at hP hS ⊢
        have hP : va_P (dC, dI) vwCl [] H := hP
        have hD : va_D A [] := hD
        have hR := en_R hR0 hN0 hS
        refine W.widen (k := 2) (n := 12) (Nat.le_of_ble_eq_true rfl) (Nat.le_of_ble_eq_true rfl) ?_
        have h_25 := hw
        refine lv_aload_n hx hb dX11_layerAt_48 rfl (lv_at hl 0 rfl) ?_
        refine va_get (D := (dC, dI)) (ci := 17) (v := .ref pic) (C := RX11) (T := TX11) (N := 14) hx hb hts (by decide +kernel) hown hK hR 0 rfl rfl 8 (by decide) (hts (.fieldLink RX11 62 "Underpaint" "picture" "LUnderpaint$Picture;") (by decide +kernel)) (fun _ h9 => h9) rfl dX11_layerAt_49 ?_
        refine lv_iload_n hx hb dX11_layerAt_52 rfl (lv_at hl 1 rfl) ?_
        refine lv_iload_n hx hb dX11_layerAt_53 rfl (lv_at hl 2 rfl) ?_
        have hPc := (hP.app hR).sub (ws' := [] ++ [(pic, .inr (11, [.ref st, .ref sp, .ref ll, .int 0, .int 1600])), (st, .inl (cS, 48, .inr (.inr (.inr (.inr g)))))]) [1, 2] rfl
        have hDc := (en_DD hD hDr hN0 hAb).sub (ws' := [] ++ [(pic, .inr (11, [.ref st, .ref sp, .ref ll, .int 0, .int 1600])), (st, .inl (cS, 48, .inr (.inr (.inr (.inr g)))))]) [1, 2] (by decide) rfl
        have hKc := hK.sub (tys' := [(cS, .object "Underpaint$Stack")]) [0] rfl
        have hFc := va_free (wc := []) hD hS hA [] rfl
        refine va_callq (va_runV (As := [.int x, .int y]) (rest := []) ⟨hx, hb, hml, hown, hts⟩ (c_at l dC dI b0 en H.size pic st sp ll x y g cS (z_c_X11_layerAt_240 x y w h_2 c_3 c_13 c_23 h_25)) (cwV 2 hts go_c_X11_layerAt_2 rfl rfl rfl (by decide +kernel) ⟨Nat.le_of_ble_eq_true rfl, Nat.le_of_ble_eq_true rfl⟩) ⟨cP.blind, va_recv hK hR (ci := 11) (q0 := 1) rfl rfl, cP.use (en_z hb0 hS) (hE.on hAb hS) hPc hKc hDc trivial⟩ rfl rfl hl.1 rfl (lv_room (Nat.le_of_ble_eq_true rfl)) dX11_layerAt_54 ⟨Nat.le_of_ble_eq_true rfl, Nat.le_of_ble_eq_true rfl⟩) hS (fun q _ h => hFc q h) hFc (fun r_26 u t H1 locs ht hvm hw hB hz1 hk1 hS => ?_)
        have hP1 : va_P (dC, dI) vwCl [] H1 := fun k q h => by simp at h
        have hD1 : va_D (va_A [] H.size) [] := ⟨fun i j p q h => by simp at h, fun k q h => by simp at h⟩
        try dsimp only at hw
        obtain ⟨hP, hD⟩ := va_join (wr := []) (w1 := []) hP hD [] [] rfl rfl (by decide) (by decide) hk1 hFc hP1 hD1
        generalize H1 = H at hP hS ⊢
        have hP : va_P (dC, dI) vwCl [] H := hP
        have hD : va_D A [] := hD
        have hR := en_R hR0 hN0 hS
        refine W.widen (k := 2) (n := 12) (Nat.le_of_ble_eq_true rfl) (Nat.le_of_ble_eq_true rfl) ?_
        subst r_26
        obtain ⟨ap_27, rp_27, hgp_27, hup_27, hnp_27⟩ := hF0 (pidx x y) (pidx_lt (z_c_X11_layerAt_241 x y w h_2 c_3 c_13 c_23 h_25))
        refine lv_topv (w := .ref ap_27) (by rw [hgp_27]; rfl) ?_
        have hxp_27 : ¬ A ap_27 := by rw [← hAe]; exact vA0 hup_27.lt
        refine lv_astore (lv' := [(5, .ref ap_27), (0, .ref h), (1, .int x), (2, .int y), (3, .int k), (4, .int w)]) hx hb dX11_layerAt_57 hl (by decide) rfl (fun ls hl => ?_)
        refine lv_iload_n hx hb dX11_layerAt_59 rfl (lv_at hl 4 rfl) ?_
        refine lv_iconst (v := 0) hx hb dX11_layerAt_60 (by decide) ?_
        refine lv_aload hx hb dX11_layerAt_61 (lv_at hl 0 rfl) ?_
        have hfa := va1 (hup_27.kept (hS.2.1 _ hup_27.lt hxp_27))
        refine va_get (D := (dC, dI)) (ci := 14) (v := .int 0) (C := RX8) (T := TX8) (N := 3) hx hb hts (by decide +kernel) hown hK hfa 0 rfl rfl 1 (by decide) (hts (.fieldLink RX11 183 "Underpaint$Stack" "size" "I") (by decide +kernel)) (fun _ h9 => h9) rfl dX11_layerAt_63 ?_
        refine lv_iconst (v := 1) hx hb dX11_layerAt_66 (by decide) ?_
        refine lv_isub hx hb dX11_layerAt_67 ?_
        refine lv_topi (fun x_28 ex_28 => ?_)
        obtain rfl : x_28 = (-1) := ex_28.trans (by decide)
        have hPc := (hP.app hR).sub (ws' := [] ++ []) [] rfl
        have hDc := (en_DD hD hDr hN0 hAb).sub (ws' := [] ++ []) [] (by decide) rfl
        have hKc := hK.sub (tys' := []) [] rfl
        have hFc := va_free (wc := []) hD hS hA [] rfl
        refine va_calli (va_runS (As := [.int k, .int 0, .int (-1)]) (rest := []) ⟨hx, hb, hml, hown, hts⟩ (c_X11_isWithin l dC dI b0 en H.size k 0 (-1)) (va_cwS 3 hts go_c_X11_layerAt_3 rfl rfl rfl (by decide +kernel) ⟨Nat.le_of_ble_eq_true rfl, Nat.le_of_ble_eq_true rfl⟩) ⟨cP.blind, cP.use (en_z hb0 hS) (hE.on hAb hS) hPc hKc hDc trivial⟩ rfl rfl hl.1 rfl (lv_room (Nat.le_of_ble_eq_true rfl)) dX11_layerAt_68 ⟨Nat.le_of_ble_eq_true rfl, Nat.le_of_ble_eq_true rfl⟩) hS (fun q _ h => hFc q h) hFc (fun r_29 u t H1 locs ht hvm hw hB hz1 hk1 hS => ?_)
        have hP1 : va_P (dC, dI) vwCl [] H1 := fun k q h => by simp at h
        have hD1 : va_D (va_A [] H.size) [] := ⟨fun i j p q h => by simp at h, fun k q h => by simp at h⟩
        try dsimp only at hw
        obtain ⟨hP, hD⟩ := va_join (wr := []) (w1 := []) hP hD [] [] rfl rfl (by decide) (by decide) hk1 hFc hP1 hD1
        generalize H1 = H at hP hS ⊢
        have hP : va_P (dC, dI) vwCl [] H := hP
        have hD : va_D A [] := hD
        have hR := en_R hR0 hN0 hS
        refine W.widen (k := 2) (n := 12) (Nat.le_of_ble_eq_true rfl) (Nat.le_of_ble_eq_true rfl) ?_
        have h_30 := hw
        have hPc := (hP.app hR).sub (ws' := [] ++ []) [] rfl
        have hDc := (en_DD hD hDr hN0 hAb).sub (ws' := [] ++ []) [] (by decide) rfl
        have hKc := hK.sub (tys' := []) [] rfl
        have hFc := va_free (wc := []) hD hS hA [] rfl
        refine vx_callv (vx_runS (As := [.int r_29]) (rest := []) ⟨hx, hb, hml, hown, hts⟩ (c_X11_demandElement l hst dC dI b0 en H.size r_29) (va_cwS 1 hts go_c_X11_layerAt_4 rfl rfl rfl (by decide +kernel) ⟨Nat.le_of_ble_eq_true rfl, Nat.le_of_ble_eq_true rfl⟩) ⟨cP.blind, cP.use (en_z hb0 hS) (hE.on hAb hS) hPc hKc hDc trivial⟩ rfl rfl hl.1 rfl (lv_room (Nat.le_of_ble_eq_true rfl)) dX11_layerAt_71 ⟨Nat.le_of_ble_eq_true rfl, Nat.le_of_ble_eq_true rfl⟩) hS (fun q _ h => hFc q h) hFc (fun q _ h => hFc q h) (fun E ce q9 u t H1 locs ht hvm hpx hBX hz1 hk1 hS hce hcv hcl => ?_) (fun u t H1 locs ht hvm hw hB hz1 hk1 hS => ?_)
        · skip
          try dsimp only at hBX
          obtain ⟨rfl, hc⟩ := hBX
          refine vx_widen (k := 3) (n := 18) (Nat.le_of_ble_eq_true rfl) (Nat.le_of_ble_eq_true rfl) ?_
          exact vx_out (fun x hx => (hext x hx).elim) hlocks hce hcv hcl (fun t ht hW => ⟨(), trivial, Or.inr (⟨rfl, (z_c_X11_layerAt_242 x y k w h_2 c_3 c_13 c_23 h_25 (b_no h_30 hc))⟩), hS.F ht⟩) hS.2.2 (Nat.le_refl _) (Nat.le_refl _)
        have hP1 : va_P (dC, dI) vwCl [] H1 := fun k q h => by simp at h
        have hD1 : va_D (va_A [] H.size) [] := ⟨fun i j p q h => by simp at h, fun k q h => by simp at h⟩
        try dsimp only at hw
        obtain ⟨hP, hD⟩ := va_join (wr := []) (w1 := []) hP hD [] [] rfl rfl (by decide) (by decide) hk1 hFc hP1 hD1
        generalize H1 = H at hP hS ⊢
        have hP : va_P (dC, dI) vwCl [] H := hP
        have hD : va_D A [] := hD
        have hR := en_R hR0 hN0 hS
        refine W.widen (k := 3) (n := 18) (Nat.le_of_ble_eq_true rfl) (Nat.le_of_ble_eq_true rfl) ?_
        have h_32 := hw
        exact absurd (z_c_X11_layerAt_243 x y k w h_2 c_3 c_13 c_23 h_25 (b_yes h_30 h_32)) (fun z => z)
      · skip
        refine lv_iload hx hb dX11_layerAt_26 (lv_at hl 4 rfl) ?_
        refine lv_bipush (v := 99) hx hb dX11_layerAt_28 (by decide) ?_
        refine lv_icmp_eq (tgt := 40) hx hb dX11_layerAt_30 (by decide) (fun c_33 => ?_) (fun c_33 => ?_)
        · skip
          refine lv_iconst (v := 1) hx hb dX11_layerAt_40 (by decide) ?_
          refine lv_goto (tgt := 45) hx hb dX11_layerAt_41 (by decide) ?_
          have hPc := (hP.app hR).sub (ws' := [] ++ []) [] rfl
          have hDc := (en_DD hD hDr hN0 hAb).sub (ws' := [] ++ []) [] (by decide) rfl
          have hKc := hK.sub (tys' := []) [] rfl
          have hFc := va_free (wc := []) hD hS hA [] rfl
          refine vx_callv (vx_runS (As := [.int 1]) (rest := []) ⟨hx, hb, hml, hown, hts⟩ (c_X11_demandArgument l hst dC dI b0 en H.size 1) (va_cwS 1 hts go_c_X11_layerAt_1 rfl rfl rfl (by decide +kernel) ⟨Nat.le_of_ble_eq_true rfl, Nat.le_of_ble_eq_true rfl⟩) ⟨cP.blind, cP.use (en_z hb0 hS) (hE.on hAb hS) hPc hKc hDc trivial⟩ rfl rfl hl.1 rfl (lv_room (Nat.le_of_ble_eq_true rfl)) dX11_layerAt_45 ⟨Nat.le_of_ble_eq_true rfl, Nat.le_of_ble_eq_true rfl⟩) hS (fun q _ h => hFc q h) hFc (fun q _ h => hFc q h) (fun E ce q9 u t H1 locs ht hvm hpx hBX hz1 hk1 hS hce hcv hcl => ?_) (fun u t H1 locs ht hvm hw hB hz1 hk1 hS => ?_)
          · skip
            try dsimp only at hBX
            obtain ⟨rfl, hc⟩ := hBX
            exact absurd hc (by decide)
          have hP1 : va_P (dC, dI) vwCl [] H1 := fun k q h => by simp at h
          have hD1 : va_D (va_A [] H.size) [] := ⟨fun i j p q h => by simp at h, fun k q h => by simp at h⟩
          try dsimp only at hw
          obtain ⟨hP, hD⟩ := va_join (wr := []) (w1 := []) hP hD [] [] rfl rfl (by decide) (by decide) hk1 hFc hP1 hD1
          generalize H1 = H at hP hS ⊢
          have hP : va_P (dC, dI) vwCl [] H := hP
          have hD : va_D A [] := hD
          have hR := en_R hR0 hN0 hS
          refine W.widen (k := 2) (n := 12) (Nat.le_of_ble_eq_true rfl) (Nat.le_of_ble_eq_true rfl) ?_
          have h_35 := hw
          refine lv_aload_n hx hb dX11_layerAt_48 rfl (lv_at hl 0 rfl) ?_
          refine va_get (D := (dC, dI)) (ci := 17) (v := .ref pic) (C := RX11) (T := TX11) (N := 14) hx hb hts (by decide +kernel) hown hK hR 0 rfl rfl 8 (by decide) (hts (.fieldLink RX11 62 "Underpaint" "picture" "LUnderpaint$Picture;") (by decide +kernel)) (fun _ h9 => h9) rfl dX11_layerAt_49 ?_
          refine lv_iload_n hx hb dX11_layerAt_52 rfl (lv_at hl 1 rfl) ?_
          refine lv_iload_n hx hb dX11_layerAt_53 rfl (lv_at hl 2 rfl) ?_
          have hPc := (hP.app hR).sub (ws' := [] ++ [(pic, .inr (11, [.ref st, .ref sp, .ref ll, .int 0, .int 1600])), (st, .inl (cS, 48, .inr (.inr (.inr (.inr g)))))]) [1, 2] rfl
          have hDc := (en_DD hD hDr hN0 hAb).sub (ws' := [] ++ [(pic, .inr (11, [.ref st, .ref sp, .ref ll, .int 0, .int 1600])), (st, .inl (cS, 48, .inr (.inr (.inr (.inr g)))))]) [1, 2] (by decide) rfl
          have hKc := hK.sub (tys' := [(cS, .object "Underpaint$Stack")]) [0] rfl
          have hFc := va_free (wc := []) hD hS hA [] rfl
          refine va_callq (va_runV (As := [.int x, .int y]) (rest := []) ⟨hx, hb, hml, hown, hts⟩ (c_at l dC dI b0 en H.size pic st sp ll x y g cS (z_c_X11_layerAt_244 x y w h_2 c_3 c_13 c_23 c_33 h_35)) (cwV 2 hts go_c_X11_layerAt_2 rfl rfl rfl (by decide +kernel) ⟨Nat.le_of_ble_eq_true rfl, Nat.le_of_ble_eq_true rfl⟩) ⟨cP.blind, va_recv hK hR (ci := 11) (q0 := 1) rfl rfl, cP.use (en_z hb0 hS) (hE.on hAb hS) hPc hKc hDc trivial⟩ rfl rfl hl.1 rfl (lv_room (Nat.le_of_ble_eq_true rfl)) dX11_layerAt_54 ⟨Nat.le_of_ble_eq_true rfl, Nat.le_of_ble_eq_true rfl⟩) hS (fun q _ h => hFc q h) hFc (fun r_36 u t H1 locs ht hvm hw hB hz1 hk1 hS => ?_)
          have hP1 : va_P (dC, dI) vwCl [] H1 := fun k q h => by simp at h
          have hD1 : va_D (va_A [] H.size) [] := ⟨fun i j p q h => by simp at h, fun k q h => by simp at h⟩
          try dsimp only at hw
          obtain ⟨hP, hD⟩ := va_join (wr := []) (w1 := []) hP hD [] [] rfl rfl (by decide) (by decide) hk1 hFc hP1 hD1
          generalize H1 = H at hP hS ⊢
          have hP : va_P (dC, dI) vwCl [] H := hP
          have hD : va_D A [] := hD
          have hR := en_R hR0 hN0 hS
          refine W.widen (k := 2) (n := 12) (Nat.le_of_ble_eq_true rfl) (Nat.le_of_ble_eq_true rfl) ?_
          subst r_36
          obtain ⟨ap_37, rp_37, hgp_37, hup_37, hnp_37⟩ := hF0 (pidx x y) (pidx_lt (z_c_X11_layerAt_245 x y w h_2 c_3 c_13 c_23 c_33 h_35))
          refine lv_topv (w := .ref ap_37) (by rw [hgp_37]; rfl) ?_
          have hxp_37 : ¬ A ap_37 := by rw [← hAe]; exact vA0 hup_37.lt
          refine lv_astore (lv' := [(5, .ref ap_37), (0, .ref h), (1, .int x), (2, .int y), (3, .int k), (4, .int w)]) hx hb dX11_layerAt_57 hl (by decide) rfl (fun ls hl => ?_)
          refine lv_iload_n hx hb dX11_layerAt_59 rfl (lv_at hl 4 rfl) ?_
          refine lv_iconst (v := 0) hx hb dX11_layerAt_60 (by decide) ?_
          refine lv_aload hx hb dX11_layerAt_61 (lv_at hl 0 rfl) ?_
          have hfa := va1 (hup_37.kept (hS.2.1 _ hup_37.lt hxp_37))
          refine va_get (D := (dC, dI)) (ci := 14) (v := .int 0) (C := RX8) (T := TX8) (N := 3) hx hb hts (by decide +kernel) hown hK hfa 0 rfl rfl 1 (by decide) (hts (.fieldLink RX11 183 "Underpaint$Stack" "size" "I") (by decide +kernel)) (fun _ h9 => h9) rfl dX11_layerAt_63 ?_
          refine lv_iconst (v := 1) hx hb dX11_layerAt_66 (by decide) ?_
          refine lv_isub hx hb dX11_layerAt_67 ?_
          refine lv_topi (fun x_38 ex_38 => ?_)
          obtain rfl : x_38 = (-1) := ex_38.trans (by decide)
          have hPc := (hP.app hR).sub (ws' := [] ++ []) [] rfl
          have hDc := (en_DD hD hDr hN0 hAb).sub (ws' := [] ++ []) [] (by decide) rfl
          have hKc := hK.sub (tys' := []) [] rfl
          have hFc := va_free (wc := []) hD hS hA [] rfl
          refine va_calli (va_runS (As := [.int k, .int 0, .int (-1)]) (rest := []) ⟨hx, hb, hml, hown, hts⟩ (c_X11_isWithin l dC dI b0 en H.size k 0 (-1)) (va_cwS 3 hts go_c_X11_layerAt_3 rfl rfl rfl (by decide +kernel) ⟨Nat.le_of_ble_eq_true rfl, Nat.le_of_ble_eq_true rfl⟩) ⟨cP.blind, cP.use (en_z hb0 hS) (hE.on hAb hS) hPc hKc hDc trivial⟩ rfl rfl hl.1 rfl (lv_room (Nat.le_of_ble_eq_true rfl)) dX11_layerAt_68 ⟨Nat.le_of_ble_eq_true rfl, Nat.le_of_ble_eq_true rfl⟩) hS (fun q _ h => hFc q h) hFc (fun r_39 u t H1 locs ht hvm hw hB hz1 hk1 hS => ?_)
          have hP1 : va_P (dC, dI) vwCl [] H1 := fun k q h => by simp at h
          have hD1 : va_D (va_A [] H.size) [] := ⟨fun i j p q h => by simp at h, fun k q h => by simp at h⟩
          try dsimp only at hw
          obtain ⟨hP, hD⟩ := va_join (wr := []) (w1 := []) hP hD [] [] rfl rfl (by decide) (by decide) hk1 hFc hP1 hD1
          generalize H1 = H at hP hS ⊢
          have hP : va_P (dC, dI) vwCl [] H := hP
          have hD : va_D A [] := hD
          have hR := en_R hR0 hN0 hS
          refine W.widen (k := 2) (n := 12) (Nat.le_of_ble_eq_true rfl) (Nat.le_of_ble_eq_true rfl) ?_
          have h_40 := hw
          have hPc := (hP.app hR).sub (ws' := [] ++ []) [] rfl
          have hDc := (en_DD hD hDr hN0 hAb).sub (ws' := [] ++ []) [] (by decide) rfl
          have hKc := hK.sub (tys' := []) [] rfl
          have hFc := va_free (wc := []) hD hS hA [] rfl
          refine vx_callv (vx_runS (As := [.int r_39]) (rest := []) ⟨hx, hb, hml, hown, hts⟩ (c_X11_demandElement l hst dC dI b0 en H.size r_39) (va_cwS 1 hts go_c_X11_layerAt_4 rfl rfl rfl (by decide +kernel) ⟨Nat.le_of_ble_eq_true rfl, Nat.le_of_ble_eq_true rfl⟩) ⟨cP.blind, cP.use (en_z hb0 hS) (hE.on hAb hS) hPc hKc hDc trivial⟩ rfl rfl hl.1 rfl (lv_room (Nat.le_of_ble_eq_true rfl)) dX11_layerAt_71 ⟨Nat.le_of_ble_eq_true rfl, Nat.le_of_ble_eq_true rfl⟩) hS (fun q _ h => hFc q h) hFc (fun q _ h => hFc q h) (fun E ce q9 u t H1 locs ht hvm hpx hBX hz1 hk1 hS hce hcv hcl => ?_) (fun u t H1 locs ht hvm hw hB hz1 hk1 hS => ?_)
          · skip
            try dsimp only at hBX
            obtain ⟨rfl, hc⟩ := hBX
            refine vx_widen (k := 3) (n := 18) (Nat.le_of_ble_eq_true rfl) (Nat.le_of_ble_eq_true rfl) ?_
            exact vx_out (fun x hx => (hext x hx).elim) hlocks hce hcv hcl (fun t ht hW => ⟨(), trivial, Or.inr (⟨rfl, (z_c_X11_layerAt_246 x y k w h_2 c_3 c_13 c_23 c_33 h_35 (b_no h_40 hc))⟩), hS.F ht⟩) hS.2.2 (Nat.le_refl _) (Nat.le_refl _)
          have hP1 : va_P (dC, dI) vwCl [] H1 := fun k q h => by simp at h
          have hD1 : va_D (va_A [] H.size) [] := ⟨fun i j p q h => by simp at h, fun k q h => by simp at h⟩
          try dsimp only at hw
          obtain ⟨hP, hD⟩ := va_join (wr := []) (w1 := []) hP hD [] [] rfl rfl (by decide) (by decide) hk1 hFc hP1 hD1
          generalize H1 = H at hP hS ⊢
          have hP : va_P (dC, dI) vwCl [] H := hP
          have hD : va_D A [] := hD
          have hR := en_R hR0 hN0 hS
          refine W.widen (k := 3) (n := 18) (Nat.le_of_ble_eq_true rfl) (Nat.le_of_ble_eq_true rfl) ?_
          have h_42 := hw
          exact absurd (z_c_X11_layerAt_247 x y k w h_2 c_3 c_13 c_23 c_33 h_35 (b_yes h_40 h_42)) (fun z => z)
        · skip
          refine lv_iload hx hb dX11_layerAt_33 (lv_at hl 4 rfl) ?_
          refine lv_bipush (v := 103) hx hb dX11_layerAt_35 (by decide) ?_
          refine lv_icmp_ne (tgt := 44) hx hb dX11_layerAt_37 (by decide) (fun c_43 => ?_) (fun c_43 => ?_)
          · skip
            refine lv_iconst (v := 0) hx hb dX11_layerAt_44 (by decide) ?_
            have hPc := (hP.app hR).sub (ws' := [] ++ []) [] rfl
            have hDc := (en_DD hD hDr hN0 hAb).sub (ws' := [] ++ []) [] (by decide) rfl
            have hKc := hK.sub (tys' := []) [] rfl
            have hFc := va_free (wc := []) hD hS hA [] rfl
            refine vx_callv (vx_runS (As := [.int 0]) (rest := []) ⟨hx, hb, hml, hown, hts⟩ (c_X11_demandArgument l hst dC dI b0 en H.size 0) (va_cwS 1 hts go_c_X11_layerAt_1 rfl rfl rfl (by decide +kernel) ⟨Nat.le_of_ble_eq_true rfl, Nat.le_of_ble_eq_true rfl⟩) ⟨cP.blind, cP.use (en_z hb0 hS) (hE.on hAb hS) hPc hKc hDc trivial⟩ rfl rfl hl.1 rfl (lv_room (Nat.le_of_ble_eq_true rfl)) dX11_layerAt_45 ⟨Nat.le_of_ble_eq_true rfl, Nat.le_of_ble_eq_true rfl⟩) hS (fun q _ h => hFc q h) hFc (fun q _ h => hFc q h) (fun E ce q9 u t H1 locs ht hvm hpx hBX hz1 hk1 hS hce hcv hcl => ?_) (fun u t H1 locs ht hvm hw hB hz1 hk1 hS => ?_)
            · skip
              try dsimp only at hBX
              obtain ⟨rfl, hc⟩ := hBX
              refine vx_widen (k := 3) (n := 18) (Nat.le_of_ble_eq_true rfl) (Nat.le_of_ble_eq_true rfl) ?_
              exact vx_out (fun x hx => (hext x hx).elim) hlocks hce hcv hcl (fun t ht hW => ⟨(), trivial, Or.inl ⟨rfl, (z_c_X11_layerAt_248 x y w h_2 c_3 c_13 c_23 c_33 c_43 hc)⟩, hS.F ht⟩) hS.2.2 (Nat.le_refl _) (Nat.le_refl _)
            have hP1 : va_P (dC, dI) vwCl [] H1 := fun k q h => by simp at h
            have hD1 : va_D (va_A [] H.size) [] := ⟨fun i j p q h => by simp at h, fun k q h => by simp at h⟩
            try dsimp only at hw
            obtain ⟨hP, hD⟩ := va_join (wr := []) (w1 := []) hP hD [] [] rfl rfl (by decide) (by decide) hk1 hFc hP1 hD1
            generalize H1 = H at hP hS ⊢
            have hP : va_P (dC, dI) vwCl [] H := hP
            have hD : va_D A [] := hD
            have hR := en_R hR0 hN0 hS
            refine W.widen (k := 2) (n := 12) (Nat.le_of_ble_eq_true rfl) (Nat.le_of_ble_eq_true rfl) ?_
            have h_45 := hw
            exact absurd h_45 (by decide)
          · skip
            refine lv_iconst (v := 1) hx hb dX11_layerAt_40 (by decide) ?_
            refine lv_goto (tgt := 45) hx hb dX11_layerAt_41 (by decide) ?_
            have hPc := (hP.app hR).sub (ws' := [] ++ []) [] rfl
            have hDc := (en_DD hD hDr hN0 hAb).sub (ws' := [] ++ []) [] (by decide) rfl
            have hKc := hK.sub (tys' := []) [] rfl
            have hFc := va_free (wc := []) hD hS hA [] rfl
            refine vx_callv (vx_runS (As := [.int 1]) (rest := []) ⟨hx, hb, hml, hown, hts⟩ (c_X11_demandArgument l hst dC dI b0 en H.size 1) (va_cwS 1 hts go_c_X11_layerAt_1 rfl rfl rfl (by decide +kernel) ⟨Nat.le_of_ble_eq_true rfl, Nat.le_of_ble_eq_true rfl⟩) ⟨cP.blind, cP.use (en_z hb0 hS) (hE.on hAb hS) hPc hKc hDc trivial⟩ rfl rfl hl.1 rfl (lv_room (Nat.le_of_ble_eq_true rfl)) dX11_layerAt_45 ⟨Nat.le_of_ble_eq_true rfl, Nat.le_of_ble_eq_true rfl⟩) hS (fun q _ h => hFc q h) hFc (fun q _ h => hFc q h) (fun E ce q9 u t H1 locs ht hvm hpx hBX hz1 hk1 hS hce hcv hcl => ?_) (fun u t H1 locs ht hvm hw hB hz1 hk1 hS => ?_)
            · skip
              try dsimp only at hBX
              obtain ⟨rfl, hc⟩ := hBX
              exact absurd hc (by decide)
            have hP1 : va_P (dC, dI) vwCl [] H1 := fun k q h => by simp at h
            have hD1 : va_D (va_A [] H.size) [] := ⟨fun i j p q h => by simp at h, fun k q h => by simp at h⟩
            try dsimp only at hw
            obtain ⟨hP, hD⟩ := va_join (wr := []) (w1 := []) hP hD [] [] rfl rfl (by decide) (by decide) hk1 hFc hP1 hD1
            generalize H1 = H at hP hS ⊢
            have hP : va_P (dC, dI) vwCl [] H := hP
            have hD : va_D A [] := hD
            have hR := en_R hR0 hN0 hS
            refine W.widen (k := 2) (n := 12) (Nat.le_of_ble_eq_true rfl) (Nat.le_of_ble_eq_true rfl) ?_
            have h_47 := hw
            refine lv_aload_n hx hb dX11_layerAt_48 rfl (lv_at hl 0 rfl) ?_
            refine va_get (D := (dC, dI)) (ci := 17) (v := .ref pic) (C := RX11) (T := TX11) (N := 14) hx hb hts (by decide +kernel) hown hK hR 0 rfl rfl 8 (by decide) (hts (.fieldLink RX11 62 "Underpaint" "picture" "LUnderpaint$Picture;") (by decide +kernel)) (fun _ h9 => h9) rfl dX11_layerAt_49 ?_
            refine lv_iload_n hx hb dX11_layerAt_52 rfl (lv_at hl 1 rfl) ?_
            refine lv_iload_n hx hb dX11_layerAt_53 rfl (lv_at hl 2 rfl) ?_
            have hPc := (hP.app hR).sub (ws' := [] ++ [(pic, .inr (11, [.ref st, .ref sp, .ref ll, .int 0, .int 1600])), (st, .inl (cS, 48, .inr (.inr (.inr (.inr g)))))]) [1, 2] rfl
            have hDc := (en_DD hD hDr hN0 hAb).sub (ws' := [] ++ [(pic, .inr (11, [.ref st, .ref sp, .ref ll, .int 0, .int 1600])), (st, .inl (cS, 48, .inr (.inr (.inr (.inr g)))))]) [1, 2] (by decide) rfl
            have hKc := hK.sub (tys' := [(cS, .object "Underpaint$Stack")]) [0] rfl
            have hFc := va_free (wc := []) hD hS hA [] rfl
            refine va_callq (va_runV (As := [.int x, .int y]) (rest := []) ⟨hx, hb, hml, hown, hts⟩ (c_at l dC dI b0 en H.size pic st sp ll x y g cS (z_c_X11_layerAt_249 x y w h_2 c_3 c_13 c_23 c_33 c_43 h_47)) (cwV 2 hts go_c_X11_layerAt_2 rfl rfl rfl (by decide +kernel) ⟨Nat.le_of_ble_eq_true rfl, Nat.le_of_ble_eq_true rfl⟩) ⟨cP.blind, va_recv hK hR (ci := 11) (q0 := 1) rfl rfl, cP.use (en_z hb0 hS) (hE.on hAb hS) hPc hKc hDc trivial⟩ rfl rfl hl.1 rfl (lv_room (Nat.le_of_ble_eq_true rfl)) dX11_layerAt_54 ⟨Nat.le_of_ble_eq_true rfl, Nat.le_of_ble_eq_true rfl⟩) hS (fun q _ h => hFc q h) hFc (fun r_48 u t H1 locs ht hvm hw hB hz1 hk1 hS => ?_)
            have hP1 : va_P (dC, dI) vwCl [] H1 := fun k q h => by simp at h
            have hD1 : va_D (va_A [] H.size) [] := ⟨fun i j p q h => by simp at h, fun k q h => by simp at h⟩
            try dsimp only at hw
            obtain ⟨hP, hD⟩ := va_join (wr := []) (w1 := []) hP hD [] [] rfl rfl (by decide) (by decide) hk1 hFc hP1 hD1
            generalize H1 = H at hP hS ⊢
            have hP : va_P (dC, dI) vwCl [] H := hP
            have hD : va_D A [] := hD
            have hR := en_R hR0 hN0 hS
            refine W.widen (k := 2) (n := 12) (Nat.le_of_ble_eq_true rfl) (Nat.le_of_ble_eq_true rfl) ?_
            subst r_48
            obtain ⟨ap_49, rp_49, hgp_49, hup_49, hnp_49⟩ := hF0 (pidx x y) (pidx_lt (z_c_X11_layerAt_250 x y w h_2 c_3 c_13 c_23 c_33 c_43 h_47))
            refine lv_topv (w := .ref ap_49) (by rw [hgp_49]; rfl) ?_
            have hxp_49 : ¬ A ap_49 := by rw [← hAe]; exact vA0 hup_49.lt
            refine lv_astore (lv' := [(5, .ref ap_49), (0, .ref h), (1, .int x), (2, .int y), (3, .int k), (4, .int w)]) hx hb dX11_layerAt_57 hl (by decide) rfl (fun ls hl => ?_)
            refine lv_iload_n hx hb dX11_layerAt_59 rfl (lv_at hl 4 rfl) ?_
            refine lv_iconst (v := 0) hx hb dX11_layerAt_60 (by decide) ?_
            refine lv_aload hx hb dX11_layerAt_61 (lv_at hl 0 rfl) ?_
            have hfa := va1 (hup_49.kept (hS.2.1 _ hup_49.lt hxp_49))
            refine va_get (D := (dC, dI)) (ci := 14) (v := .int 0) (C := RX8) (T := TX8) (N := 3) hx hb hts (by decide +kernel) hown hK hfa 0 rfl rfl 1 (by decide) (hts (.fieldLink RX11 183 "Underpaint$Stack" "size" "I") (by decide +kernel)) (fun _ h9 => h9) rfl dX11_layerAt_63 ?_
            refine lv_iconst (v := 1) hx hb dX11_layerAt_66 (by decide) ?_
            refine lv_isub hx hb dX11_layerAt_67 ?_
            refine lv_topi (fun x_50 ex_50 => ?_)
            obtain rfl : x_50 = (-1) := ex_50.trans (by decide)
            have hPc := (hP.app hR).sub (ws' := [] ++ []) [] rfl
            have hDc := (en_DD hD hDr hN0 hAb).sub (ws' := [] ++ []) [] (by decide) rfl
            have hKc := hK.sub (tys' := []) [] rfl
            have hFc := va_free (wc := []) hD hS hA [] rfl
            refine va_calli (va_runS (As := [.int k, .int 0, .int (-1)]) (rest := []) ⟨hx, hb, hml, hown, hts⟩ (c_X11_isWithin l dC dI b0 en H.size k 0 (-1)) (va_cwS 3 hts go_c_X11_layerAt_3 rfl rfl rfl (by decide +kernel) ⟨Nat.le_of_ble_eq_true rfl, Nat.le_of_ble_eq_true rfl⟩) ⟨cP.blind, cP.use (en_z hb0 hS) (hE.on hAb hS) hPc hKc hDc trivial⟩ rfl rfl hl.1 rfl (lv_room (Nat.le_of_ble_eq_true rfl)) dX11_layerAt_68 ⟨Nat.le_of_ble_eq_true rfl, Nat.le_of_ble_eq_true rfl⟩) hS (fun q _ h => hFc q h) hFc (fun r_51 u t H1 locs ht hvm hw hB hz1 hk1 hS => ?_)
            have hP1 : va_P (dC, dI) vwCl [] H1 := fun k q h => by simp at h
            have hD1 : va_D (va_A [] H.size) [] := ⟨fun i j p q h => by simp at h, fun k q h => by simp at h⟩
            try dsimp only at hw
            obtain ⟨hP, hD⟩ := va_join (wr := []) (w1 := []) hP hD [] [] rfl rfl (by decide) (by decide) hk1 hFc hP1 hD1
            generalize H1 = H at hP hS ⊢
            have hP : va_P (dC, dI) vwCl [] H := hP
            have hD : va_D A [] := hD
            have hR := en_R hR0 hN0 hS
            refine W.widen (k := 2) (n := 12) (Nat.le_of_ble_eq_true rfl) (Nat.le_of_ble_eq_true rfl) ?_
            have h_52 := hw
            have hPc := (hP.app hR).sub (ws' := [] ++ []) [] rfl
            have hDc := (en_DD hD hDr hN0 hAb).sub (ws' := [] ++ []) [] (by decide) rfl
            have hKc := hK.sub (tys' := []) [] rfl
            have hFc := va_free (wc := []) hD hS hA [] rfl
            refine vx_callv (vx_runS (As := [.int r_51]) (rest := []) ⟨hx, hb, hml, hown, hts⟩ (c_X11_demandElement l hst dC dI b0 en H.size r_51) (va_cwS 1 hts go_c_X11_layerAt_4 rfl rfl rfl (by decide +kernel) ⟨Nat.le_of_ble_eq_true rfl, Nat.le_of_ble_eq_true rfl⟩) ⟨cP.blind, cP.use (en_z hb0 hS) (hE.on hAb hS) hPc hKc hDc trivial⟩ rfl rfl hl.1 rfl (lv_room (Nat.le_of_ble_eq_true rfl)) dX11_layerAt_71 ⟨Nat.le_of_ble_eq_true rfl, Nat.le_of_ble_eq_true rfl⟩) hS (fun q _ h => hFc q h) hFc (fun q _ h => hFc q h) (fun E ce q9 u t H1 locs ht hvm hpx hBX hz1 hk1 hS hce hcv hcl => ?_) (fun u t H1 locs ht hvm hw hB hz1 hk1 hS => ?_)
            · skip
              try dsimp only at hBX
              obtain ⟨rfl, hc⟩ := hBX
              refine vx_widen (k := 3) (n := 18) (Nat.le_of_ble_eq_true rfl) (Nat.le_of_ble_eq_true rfl) ?_
              exact vx_out (fun x hx => (hext x hx).elim) hlocks hce hcv hcl (fun t ht hW => ⟨(), trivial, Or.inr (⟨rfl, (z_c_X11_layerAt_251 x y k w h_2 c_3 c_13 c_23 c_33 c_43 h_47 (b_no h_52 hc))⟩), hS.F ht⟩) hS.2.2 (Nat.le_refl _) (Nat.le_refl _)
            have hP1 : va_P (dC, dI) vwCl [] H1 := fun k q h => by simp at h
            have hD1 : va_D (va_A [] H.size) [] := ⟨fun i j p q h => by simp at h, fun k q h => by simp at h⟩
            try dsimp only at hw
            obtain ⟨hP, hD⟩ := va_join (wr := []) (w1 := []) hP hD [] [] rfl rfl (by decide) (by decide) hk1 hFc hP1 hD1
            generalize H1 = H at hP hS ⊢
            have hP : va_P (dC, dI) vwCl [] H := hP
            have hD : va_D A [] := hD
            have hR := en_R hR0 hN0 hS
            refine W.widen (k := 3) (n := 18) (Nat.le_of_ble_eq_true rfl) (Nat.le_of_ble_eq_true rfl) ?_
            have h_54 := hw
            exact absurd (z_c_X11_layerAt_252 x y k w h_2 c_3 c_13 c_23 c_33 c_43 h_47 (b_yes h_52 h_54)) (fun z => z)
theorem z_c_see_253 (ray : Int32) (a_0 : ¬ ray = 0) (a_1 : ¬ ray = 1) (a_2 : ¬ ray = 2) : (0 : Int32) = if ray = 0 then 50 else if ray = 2 then -1 else 0 := by grind
theorem z_c_see_254 (ray : Int32) (a_0 : ¬ ray = 0) (a_1 : ¬ ray = 1) (a_2 : ray = 2) : (-1 : Int32) = if ray = 0 then 50 else if ray = 2 then -1 else 0 := by grind
theorem z_c_see_255 (ray : Int32) (a_0 : ¬ ray = 0) (a_1 : ray = 1) : (0 : Int32) = if ray = 0 then 50 else if ray = 2 then -1 else 0 := by grind
theorem z_c_see_256 (ray : Int32) (a_0 : ray = 0) : (50 : Int32) = if ray = 0 then 50 else if ray = 2 then -1 else 0 := by grind
set_option maxRecDepth 100000 in
theorem gw_wsX8_plain : wsX8_plain.all goodWord = true := by decide +kernel
set_option maxRecDepth 100000 in
theorem gw_wsX8_heavy : wsX8_heavy.all goodWord = true := by decide +kernel
set_option maxRecDepth 100000 in
theorem gw_wsX8_heat : wsX8_heat.all goodWord = true := by decide +kernel
set_option maxRecDepth 100000 in
theorem gw_wsX8_lampLight : wsX8_lampLight.all goodWord = true := by decide +kernel
def wo_c_see_w : List Cond := []
def wo_c_see : List Cond := .code yX8_see cX8_see 2 (some .int) :: (wo_c_see_w ++ (wsV RX8 61 RX8 yX8_lampLight wsX8_lampLight ++ (wsV RX8 58 RX8 yX8_heat wsX8_heat ++ (wsV RX8 55 RX8 yX8_heavy wsX8_heavy ++ (wsV RX8 51 RX8 yX8_plain wsX8_plain ++ List.nil)))))
theorem gw_wo_c_see : wo_c_see.all goodWord = true := gw_c (by decide +kernel) (gw_a (by decide +kernel) (gw_a (gw_a (by decide +kernel) gw_wsX8_lampLight) (gw_a (gw_a (by decide +kernel) gw_wsX8_heat) (gw_a (gw_a (by decide +kernel) gw_wsX8_heavy) (gw_a (gw_a (by decide +kernel) gw_wsX8_plain) rfl)))))
theorem go_c_see_0 : GoodIn wo_c_see (wsV RX8 61 RX8 yX8_lampLight wsX8_lampLight) := goodIn_sub (fun _ h => List.mem_cons_of_mem _ (List.mem_append_right _ (List.mem_append_left _ h))) (gw_a (by decide +kernel) gw_wsX8_lampLight)
theorem go_c_see_1 : GoodIn wo_c_see (wsV RX8 58 RX8 yX8_heat wsX8_heat) := goodIn_sub (fun _ h => List.mem_cons_of_mem _ (List.mem_append_right _ (List.mem_append_right _ (List.mem_append_left _ h)))) (gw_a (by decide +kernel) gw_wsX8_heat)
theorem go_c_see_2 : GoodIn wo_c_see (wsV RX8 55 RX8 yX8_heavy wsX8_heavy) := goodIn_sub (fun _ h => List.mem_cons_of_mem _ (List.mem_append_right _ (List.mem_append_right _ (List.mem_append_right _ (List.mem_append_left _ h))))) (gw_a (by decide +kernel) gw_wsX8_heavy)
theorem go_c_see_3 : GoodIn wo_c_see (wsV RX8 51 RX8 yX8_plain wsX8_plain) := goodIn_sub (fun _ h => List.mem_cons_of_mem _ (List.mem_append_right _ (List.mem_append_right _ (List.mem_append_right _ (List.mem_append_right _ (List.mem_append_left _ h)))))) (gw_a (by decide +kernel) gw_wsX8_plain)
set_option maxHeartbeats 4000000 in
set_option maxRecDepth 100000 in
/-- Stack.see(ray) without layers -/
theorem c_see (l : Launch) (dC : Nat → ClassId) (dI : Nat → Nat → Nat) (b0 : Nat) (en : EnT) (sz : Nat) (a rw : Nat) (ray : Int32) : Met l yX8_see wo_c_see ({ frames := 1, cells := 0, slots := 0, locals := 24 } : Room) (cP b0 en (dC, dI) [] [] [(a, .inr (14, [.ref rw, .int 0, .int 0]))] sz (fun _ => True) [.ref a, .int ray]) (va_Qi (fun (r : Int32) (_ : Unit) => r = if ray = 0 then 50 else if ray = 2 then -1 else 0) (fun _ _ => True) (va_A [] sz)) 0 0 (va_A [] sz) := by
  refine Met.ofW (cc := cX8_see) (maxL := 2) (ret := (some .int)) (by decide) rfl ?_
  intro p e s m args below meth c s₁ B hml hv
  obtain ⟨rfl, hsz, hb0, hE, hPP, hK, hDD, hF0⟩ := hv
  have hx := B.exec
  have hb := B.bytes
  have hr := B.returns
  have hts := atoms_spec (ws := wo_c_see) B.pre
  have hown : s.vm.findClass RX8 = some m.cls := findClass_of_methodNamed B.named
  have hlocks := B.notSynchronized
  subst hsz
  have hN0 := en_N hPP hDD rfl
  have hP : va_P (dC, dI) vwCl [] s.heap := hPP.sub [] rfl
  have hR0 : va_P (dC, dI) vwCl [(a, .inr (14, [.ref rw, .int 0, .int 0]))] s.heap := hPP.sub [0] rfl
  have hD0 : va_D (fun q => b0 ≤ q) [] := hDD.sub [] (by decide) rfl
  have hDr : va_D (fun q => b0 ≤ q) [(a, .inr (14, [.ref rw, .int 0, .int 0]))] := hDD.sub [0] (by decide) rfl
  have hAb := en_A (sz := s.heap.size) hD0 hb0
  have hD := hD0.self (sz := s.heap.size)
  generalize hAe : va_A [] s.heap.size = A at hD hAb hN0 ⊢
  have hA : ∀ q : Nat, s.heap.size ≤ q → A q := fun q h => by rw [← hAe]; exact Or.inr h
  have hS : va_S A s.heap s.heap [] := va_S.rf
  have hR := hR0
  have hl := lv_entry [.ref a, .int ray] (n := 2) (Nat.le_of_ble_eq_true rfl)
  rw [lg_entry_eq]
  generalize (lg_sl [.ref a, .int ray] ++ List.replicate (2 - (lg_sl [.ref a, .int ray]).length) Slot.unset).toArray = ls at hl ⊢
  have hl : lv_has ls 2 [(0, .ref a), (1, .int ray)] := hl
  refine lv_iload_n hx hb dX8_see_0 rfl (lv_at hl 1 rfl) ?_
  refine lv_if_ne (tgt := 9) hx hb dX8_see_1 (by decide) (fun c_1 => ?_) (fun c_1 => ?_)
  · skip
    refine lv_iload_n hx hb dX8_see_9 rfl (lv_at hl 1 rfl) ?_
    refine lv_iconst (v := 1) hx hb dX8_see_10 (by decide) ?_
    refine lv_icmp_ne (tgt := 19) hx hb dX8_see_11 (by decide) (fun c_2 => ?_) (fun c_2 => ?_)
    · skip
      refine lv_iload_n hx hb dX8_see_19 rfl (lv_at hl 1 rfl) ?_
      refine lv_iconst (v := 2) hx hb dX8_see_20 (by decide) ?_
      refine lv_icmp_ne (tgt := 31) hx hb dX8_see_21 (by decide) (fun c_3 => ?_) (fun c_3 => ?_)
      · skip
        refine lv_aload_n hx hb dX8_see_31 rfl (lv_at hl 0 rfl) ?_
        have hPc := (hP.app hR).sub (ws' := [] ++ [(a, .inr (14, [.ref rw, .int 0, .int 0]))]) [0] rfl
        have hDc := (en_DD hD hDr hN0 hAb).sub (ws' := [] ++ [(a, .inr (14, [.ref rw, .int 0, .int 0]))]) [0] (by decide) rfl
        have hKc := hK.sub (tys' := []) [] rfl
        have hFc := va_free (wc := []) hD hS hA [] rfl
        refine va_calli (va_runV (As := []) (rest := []) ⟨hx, hb, hml, hown, hts⟩ (c_X8_lampLight l dC dI b0 en s.heap.size a rw) (cwV 0 hts go_c_see_0 rfl rfl rfl (by decide +kernel) ⟨Nat.le_of_ble_eq_true rfl, Nat.le_of_ble_eq_true rfl⟩) ⟨cP.blind, va_recv hK hR (ci := 14) (q0 := 0) rfl rfl, cP.use (en_z hb0 hS) (hE.on hAb hS) hPc hKc hDc trivial⟩ rfl rfl hl.1 rfl (lv_room (Nat.le_of_ble_eq_true rfl)) dX8_see_32 ⟨Nat.le_of_ble_eq_true rfl, Nat.le_of_ble_eq_true rfl⟩) hS (fun q _ h => hFc q h) hFc (fun r_4 u t H1 locs ht hvm hw hB hz1 hk1 hS => ?_)
        have hP1 : va_P (dC, dI) vwCl [] H1 := fun k q h => by simp at h
        have hD1 : va_D (va_A [] s.heap.size) [] := ⟨fun i j p q h => by simp at h, fun k q h => by simp at h⟩
        try dsimp only at hw
        obtain ⟨hP, hD⟩ := va_join (wr := []) (w1 := []) hP hD [] [] rfl rfl (by decide) (by decide) hk1 hFc hP1 hD1
        generalize H1 = H at hP hS ⊢
        have hP : va_P (dC, dI) vwCl [] H := hP
        have hD : va_D A [] := hD
        have hR := en_R hR0 hN0 hS
        refine W.widen (k := 0) (n := 0) (Nat.le_of_ble_eq_true rfl) (Nat.le_of_ble_eq_true rfl) ?_
        subst r_4
        refine W.widen (k := 0) (n := 0) (Nat.le_of_ble_eq_true rfl) (Nat.le_of_ble_eq_true rfl) ?_
        exact W.iret (v := 0) hx hb hr (fun t ht hW => ⟨⟨0, (), rfl, (z_c_see_253 ray c_1 c_2 c_3), trivial⟩, hS.F ht⟩) hS.2.2 dX8_see_35
      · skip
        refine lv_aload_n hx hb dX8_see_24 rfl (lv_at hl 0 rfl) ?_
        have hPc := (hP.app hR).sub (ws' := [] ++ [(a, .inr (14, [.ref rw, .int 0, .int 0]))]) [0] rfl
        have hDc := (en_DD hD hDr hN0 hAb).sub (ws' := [] ++ [(a, .inr (14, [.ref rw, .int 0, .int 0]))]) [0] (by decide) rfl
        have hKc := hK.sub (tys' := []) [] rfl
        have hFc := va_free (wc := []) hD hS hA [] rfl
        refine va_calli (va_runV (As := []) (rest := []) ⟨hx, hb, hml, hown, hts⟩ (c_X8_heat l dC dI b0 en s.heap.size a rw) (cwV 0 hts go_c_see_1 rfl rfl rfl (by decide +kernel) ⟨Nat.le_of_ble_eq_true rfl, Nat.le_of_ble_eq_true rfl⟩) ⟨cP.blind, va_recv hK hR (ci := 14) (q0 := 0) rfl rfl, cP.use (en_z hb0 hS) (hE.on hAb hS) hPc hKc hDc trivial⟩ rfl rfl hl.1 rfl (lv_room (Nat.le_of_ble_eq_true rfl)) dX8_see_25 ⟨Nat.le_of_ble_eq_true rfl, Nat.le_of_ble_eq_true rfl⟩) hS (fun q _ h => hFc q h) hFc (fun r_5 u t H1 locs ht hvm hw hB hz1 hk1 hS => ?_)
        have hP1 : va_P (dC, dI) vwCl [] H1 := fun k q h => by simp at h
        have hD1 : va_D (va_A [] s.heap.size) [] := ⟨fun i j p q h => by simp at h, fun k q h => by simp at h⟩
        try dsimp only at hw
        obtain ⟨hP, hD⟩ := va_join (wr := []) (w1 := []) hP hD [] [] rfl rfl (by decide) (by decide) hk1 hFc hP1 hD1
        generalize H1 = H at hP hS ⊢
        have hP : va_P (dC, dI) vwCl [] H := hP
        have hD : va_D A [] := hD
        have hR := en_R hR0 hN0 hS
        refine W.widen (k := 0) (n := 0) (Nat.le_of_ble_eq_true rfl) (Nat.le_of_ble_eq_true rfl) ?_
        subst r_5
        refine lv_goto (tgt := 35) hx hb dX8_see_28 (by decide) ?_
        refine W.widen (k := 0) (n := 0) (Nat.le_of_ble_eq_true rfl) (Nat.le_of_ble_eq_true rfl) ?_
        exact W.iret (v := (-1)) hx hb hr (fun t ht hW => ⟨⟨(-1), (), rfl, (z_c_see_254 ray c_1 c_2 c_3), trivial⟩, hS.F ht⟩) hS.2.2 dX8_see_35
    · skip
      refine lv_aload_n hx hb dX8_see_14 rfl (lv_at hl 0 rfl) ?_
      have hPc := (hP.app hR).sub (ws' := [] ++ [(a, .inr (14, [.ref rw, .int 0, .int 0]))]) [0] rfl
      have hDc := (en_DD hD hDr hN0 hAb).sub (ws' := [] ++ [(a, .inr (14, [.ref rw, .int 0, .int 0]))]) [0] (by decide) rfl
      have hKc := hK.sub (tys' := []) [] rfl
      have hFc := va_free (wc := []) hD hS hA [] rfl
      refine va_calli (va_runV (As := []) (rest := []) ⟨hx, hb, hml, hown, hts⟩ (c_X8_heavy l dC dI b0 en s.heap.size a rw) (cwV 0 hts go_c_see_2 rfl rfl rfl (by decide +kernel) ⟨Nat.le_of_ble_eq_true rfl, Nat.le_of_ble_eq_true rfl⟩) ⟨cP.blind, va_recv hK hR (ci := 14) (q0 := 0) rfl rfl, cP.use (en_z hb0 hS) (hE.on hAb hS) hPc hKc hDc trivial⟩ rfl rfl hl.1 rfl (lv_room (Nat.le_of_ble_eq_true rfl)) dX8_see_15 ⟨Nat.le_of_ble_eq_true rfl, Nat.le_of_ble_eq_true rfl⟩) hS (fun q _ h => hFc q h) hFc (fun r_6 u t H1 locs ht hvm hw hB hz1 hk1 hS => ?_)
      have hP1 : va_P (dC, dI) vwCl [] H1 := fun k q h => by simp at h
      have hD1 : va_D (va_A [] s.heap.size) [] := ⟨fun i j p q h => by simp at h, fun k q h => by simp at h⟩
      try dsimp only at hw
      obtain ⟨hP, hD⟩ := va_join (wr := []) (w1 := []) hP hD [] [] rfl rfl (by decide) (by decide) hk1 hFc hP1 hD1
      generalize H1 = H at hP hS ⊢
      have hP : va_P (dC, dI) vwCl [] H := hP
      have hD : va_D A [] := hD
      have hR := en_R hR0 hN0 hS
      refine W.widen (k := 0) (n := 0) (Nat.le_of_ble_eq_true rfl) (Nat.le_of_ble_eq_true rfl) ?_
      subst r_6
      refine W.widen (k := 0) (n := 0) (Nat.le_of_ble_eq_true rfl) (Nat.le_of_ble_eq_true rfl) ?_
      exact W.iret (v := 0) hx hb hr (fun t ht hW => ⟨⟨0, (), rfl, (z_c_see_255 ray c_1 c_2), trivial⟩, hS.F ht⟩) hS.2.2 dX8_see_18
  · skip
    refine lv_aload_n hx hb dX8_see_4 rfl (lv_at hl 0 rfl) ?_
    have hPc := (hP.app hR).sub (ws' := [] ++ [(a, .inr (14, [.ref rw, .int 0, .int 0]))]) [0] rfl
    have hDc := (en_DD hD hDr hN0 hAb).sub (ws' := [] ++ [(a, .inr (14, [.ref rw, .int 0, .int 0]))]) [0] (by decide) rfl
    have hKc := hK.sub (tys' := []) [] rfl
    have hFc := va_free (wc := []) hD hS hA [] rfl
    refine va_calli (va_runV (As := []) (rest := []) ⟨hx, hb, hml, hown, hts⟩ (c_X8_plain l dC dI b0 en s.heap.size a rw) (cwV 0 hts go_c_see_3 rfl rfl rfl (by decide +kernel) ⟨Nat.le_of_ble_eq_true rfl, Nat.le_of_ble_eq_true rfl⟩) ⟨cP.blind, va_recv hK hR (ci := 14) (q0 := 0) rfl rfl, cP.use (en_z hb0 hS) (hE.on hAb hS) hPc hKc hDc trivial⟩ rfl rfl hl.1 rfl (lv_room (Nat.le_of_ble_eq_true rfl)) dX8_see_5 ⟨Nat.le_of_ble_eq_true rfl, Nat.le_of_ble_eq_true rfl⟩) hS (fun q _ h => hFc q h) hFc (fun r_7 u t H1 locs ht hvm hw hB hz1 hk1 hS => ?_)
    have hP1 : va_P (dC, dI) vwCl [] H1 := fun k q h => by simp at h
    have hD1 : va_D (va_A [] s.heap.size) [] := ⟨fun i j p q h => by simp at h, fun k q h => by simp at h⟩
    try dsimp only at hw
    obtain ⟨hP, hD⟩ := va_join (wr := []) (w1 := []) hP hD [] [] rfl rfl (by decide) (by decide) hk1 hFc hP1 hD1
    generalize H1 = H at hP hS ⊢
    have hP : va_P (dC, dI) vwCl [] H := hP
    have hD : va_D A [] := hD
    have hR := en_R hR0 hN0 hS
    refine W.widen (k := 0) (n := 0) (Nat.le_of_ble_eq_true rfl) (Nat.le_of_ble_eq_true rfl) ?_
    subst r_7
    refine W.widen (k := 0) (n := 0) (Nat.le_of_ble_eq_true rfl) (Nat.le_of_ble_eq_true rfl) ?_
    exact W.iret (v := 50) hx hb hr (fun t ht hW => ⟨⟨50, (), rfl, (z_c_see_256 ray c_1), trivial⟩, hS.F ht⟩) hS.2.2 dX8_see_8
theorem z_c_X5_raking_257 (x : Int32) (y : Int32) (a_0 : (0 ≤ x ∧ x < 8) ∧ (0 ≤ y ∧ y < 6)) : ((0 : Int32) ≤ x ∧ (x : Int32) < 8) ∧ ((0 : Int32) ≤ y ∧ (y : Int32) < 6) := by grind
theorem z_c_X5_raking_258 (x : Int32) (y : Int32) (a_0 : (0 ≤ x ∧ x < 8) ∧ (0 ≤ y ∧ y < 6)) : (0 ≤ x ∧ x < 8) ∧ (0 ≤ y ∧ y < 6) := by grind
theorem z_c_X5_raking_259 (x : Int32) (y : Int32) (x_5 : Int32) (x_6 : Int32) (x_11 : Int32) (x_12 : Int32) (x_17 : Int32) (x_18 : Int32) (x_23 : Int32) (x_24 : Int32) (a_0 : (0 ≤ x ∧ x < 8) ∧ (0 ≤ y ∧ y < 6)) (a_1 : x_5 = x + 1) (a_2 : x_6 = y + 0) (a_3 : ¬ ((0 ≤ x_5 ∧ x_5 < 8) ∧ (0 ≤ x_6 ∧ x_6 < 6))) (a_4 : x_11 = x + (-1)) (a_5 : x_12 = y + 0) (a_6 : ¬ ((0 ≤ x_11 ∧ x_11 < 8) ∧ (0 ≤ x_12 ∧ x_12 < 6))) (a_7 : x_17 = x + 0) (a_8 : x_18 = y + 1) (a_9 : ¬ ((0 ≤ x_17 ∧ x_17 < 8) ∧ (0 ≤ x_18 ∧ x_18 < 6))) (a_10 : x_23 = x + 0) (a_11 : x_24 = y + (-1)) (a_12 : ¬ ((0 ≤ x_23 ∧ x_23 < 8) ∧ (0 ≤ x_24 ∧ x_24 < 6))) : (0 : Int32) = 0 := by grind
theorem z_c_X5_raking_260 (x : Int32) (y : Int32) (x_5 : Int32) (x_6 : Int32) (x_11 : Int32) (x_12 : Int32) (x_17 : Int32) (x_18 : Int32) (x_23 : Int32) (x_24 : Int32) (x_29 : Int32) (x_30 : Int32) (a_0 : (0 ≤ x ∧ x < 8) ∧ (0 ≤ y ∧ y < 6)) (a_1 : x_5 = x + 1) (a_2 : x_6 = y + 0) (a_3 : ¬ ((0 ≤ x_5 ∧ x_5 < 8) ∧ (0 ≤ x_6 ∧ x_6 < 6))) (a_4 : x_11 = x + (-1)) (a_5 : x_12 = y + 0) (a_6 : ¬ ((0 ≤ x_11 ∧ x_11 < 8) ∧ (0 ≤ x_12 ∧ x_12 < 6))) (a_7 : x_17 = x + 0) (a_8 : x_18 = y + 1) (a_9 : ¬ ((0 ≤ x_17 ∧ x_17 < 8) ∧ (0 ≤ x_18 ∧ x_18 < 6))) (a_10 : x_23 = x + 0) (a_11 : x_24 = y + (-1)) (a_12 : (0 ≤ x_23 ∧ x_23 < 8) ∧ (0 ≤ x_24 ∧ x_24 < 6)) (a_13 : x_29 = x + 0) (a_14 : x_30 = y + (-1)) : ((0 : Int32) ≤ x_29 ∧ (x_29 : Int32) < 8) ∧ ((0 : Int32) ≤ x_30 ∧ (x_30 : Int32) < 6) := by grind
theorem z_c_X5_raking_261 (x : Int32) (y : Int32) (x_5 : Int32) (x_6 : Int32) (x_11 : Int32) (x_12 : Int32) (x_17 : Int32) (x_18 : Int32) (x_23 : Int32) (x_24 : Int32) (x_29 : Int32) (x_30 : Int32) (a_0 : (0 ≤ x ∧ x < 8) ∧ (0 ≤ y ∧ y < 6)) (a_1 : x_5 = x + 1) (a_2 : x_6 = y + 0) (a_3 : ¬ ((0 ≤ x_5 ∧ x_5 < 8) ∧ (0 ≤ x_6 ∧ x_6 < 6))) (a_4 : x_11 = x + (-1)) (a_5 : x_12 = y + 0) (a_6 : ¬ ((0 ≤ x_11 ∧ x_11 < 8) ∧ (0 ≤ x_12 ∧ x_12 < 6))) (a_7 : x_17 = x + 0) (a_8 : x_18 = y + 1) (a_9 : ¬ ((0 ≤ x_17 ∧ x_17 < 8) ∧ (0 ≤ x_18 ∧ x_18 < 6))) (a_10 : x_23 = x + 0) (a_11 : x_24 = y + (-1)) (a_12 : (0 ≤ x_23 ∧ x_23 < 8) ∧ (0 ≤ x_24 ∧ x_24 < 6)) (a_13 : x_29 = x + 0) (a_14 : x_30 = y + (-1)) : (0 ≤ x_29 ∧ x_29 < 8) ∧ (0 ≤ x_30 ∧ x_30 < 6) := by grind
theorem z_c_X5_raking_262 (x : Int32) (y : Int32) (x_5 : Int32) (x_6 : Int32) (x_11 : Int32) (x_12 : Int32) (x_17 : Int32) (x_18 : Int32) (x_23 : Int32) (x_24 : Int32) (x_29 : Int32) (x_30 : Int32) (a_0 : (0 ≤ x ∧ x < 8) ∧ (0 ≤ y ∧ y < 6)) (a_1 : x_5 = x + 1) (a_2 : x_6 = y + 0) (a_3 : ¬ ((0 ≤ x_5 ∧ x_5 < 8) ∧ (0 ≤ x_6 ∧ x_6 < 6))) (a_4 : x_11 = x + (-1)) (a_5 : x_12 = y + 0) (a_6 : ¬ ((0 ≤ x_11 ∧ x_11 < 8) ∧ (0 ≤ x_12 ∧ x_12 < 6))) (a_7 : x_17 = x + 0) (a_8 : x_18 = y + 1) (a_9 : ¬ ((0 ≤ x_17 ∧ x_17 < 8) ∧ (0 ≤ x_18 ∧ x_18 < 6))) (a_10 : x_23 = x + 0) (a_11 : x_24 = y + (-1)) (a_12 : (0 ≤ x_23 ∧ x_23 < 8) ∧ (0 ≤ x_24 ∧ x_24 < 6)) (a_13 : x_29 = x + 0) (a_14 : x_30 = y + (-1)) : (0 : Int32) = 0 := by grind
theorem z_c_X5_raking_263 (x : Int32) (y : Int32) (x_5 : Int32) (x_6 : Int32) (x_11 : Int32) (x_12 : Int32) (x_17 : Int32) (x_18 : Int32) (x_38 : Int32) (x_39 : Int32) (a_0 : (0 ≤ x ∧ x < 8) ∧ (0 ≤ y ∧ y < 6)) (a_1 : x_5 = x + 1) (a_2 : x_6 = y + 0) (a_3 : ¬ ((0 ≤ x_5 ∧ x_5 < 8) ∧ (0 ≤ x_6 ∧ x_6 < 6))) (a_4 : x_11 = x + (-1)) (a_5 : x_12 = y + 0) (a_6 : ¬ ((0 ≤ x_11 ∧ x_11 < 8) ∧ (0 ≤ x_12 ∧ x_12 < 6))) (a_7 : x_17 = x + 0) (a_8 : x_18 = y + 1) (a_9 : (0 ≤ x_17 ∧ x_17 < 8) ∧ (0 ≤ x_18 ∧ x_18 < 6)) (a_10 : x_38 = x + 0) (a_11 : x_39 = y + 1) : ((0 : Int32) ≤ x_38 ∧ (x_38 : Int32) < 8) ∧ ((0 : Int32) ≤ x_39 ∧ (x_39 : Int32) < 6) := by grind
theorem z_c_X5_raking_264 (x : Int32) (y : Int32) (x_5 : Int32) (x_6 : Int32) (x_11 : Int32) (x_12 : Int32) (x_17 : Int32) (x_18 : Int32) (x_38 : Int32) (x_39 : Int32) (a_0 : (0 ≤ x ∧ x < 8) ∧ (0 ≤ y ∧ y < 6)) (a_1 : x_5 = x + 1) (a_2 : x_6 = y + 0) (a_3 : ¬ ((0 ≤ x_5 ∧ x_5 < 8) ∧ (0 ≤ x_6 ∧ x_6 < 6))) (a_4 : x_11 = x + (-1)) (a_5 : x_12 = y + 0) (a_6 : ¬ ((0 ≤ x_11 ∧ x_11 < 8) ∧ (0 ≤ x_12 ∧ x_12 < 6))) (a_7 : x_17 = x + 0) (a_8 : x_18 = y + 1) (a_9 : (0 ≤ x_17 ∧ x_17 < 8) ∧ (0 ≤ x_18 ∧ x_18 < 6)) (a_10 : x_38 = x + 0) (a_11 : x_39 = y + 1) : (0 ≤ x_38 ∧ x_38 < 8) ∧ (0 ≤ x_39 ∧ x_39 < 6) := by grind
theorem z_c_X5_raking_265 (x : Int32) (y : Int32) (x_5 : Int32) (x_6 : Int32) (x_11 : Int32) (x_12 : Int32) (x_17 : Int32) (x_18 : Int32) (x_38 : Int32) (x_39 : Int32) (x_47 : Int32) (x_48 : Int32) (a_0 : (0 ≤ x ∧ x < 8) ∧ (0 ≤ y ∧ y < 6)) (a_1 : x_5 = x + 1) (a_2 : x_6 = y + 0) (a_3 : ¬ ((0 ≤ x_5 ∧ x_5 < 8) ∧ (0 ≤ x_6 ∧ x_6 < 6))) (a_4 : x_11 = x + (-1)) (a_5 : x_12 = y + 0) (a_6 : ¬ ((0 ≤ x_11 ∧ x_11 < 8) ∧ (0 ≤ x_12 ∧ x_12 < 6))) (a_7 : x_17 = x + 0) (a_8 : x_18 = y + 1) (a_9 : (0 ≤ x_17 ∧ x_17 < 8) ∧ (0 ≤ x_18 ∧ x_18 < 6)) (a_10 : x_38 = x + 0) (a_11 : x_39 = y + 1) (a_12 : x_47 = x + 0) (a_13 : x_48 = y + (-1)) (a_14 : ¬ ((0 ≤ x_47 ∧ x_47 < 8) ∧ (0 ≤ x_48 ∧ x_48 < 6))) : (0 : Int32) = 0 := by grind
theorem z_c_X5_raking_266 (x : Int32) (y : Int32) (x_5 : Int32) (x_6 : Int32) (x_11 : Int32) (x_12 : Int32) (x_17 : Int32) (x_18 : Int32) (x_38 : Int32) (x_39 : Int32) (x_47 : Int32) (x_48 : Int32) (x_53 : Int32) (x_54 : Int32) (a_0 : (0 ≤ x ∧ x < 8) ∧ (0 ≤ y ∧ y < 6)) (a_1 : x_5 = x + 1) (a_2 : x_6 = y + 0) (a_3 : ¬ ((0 ≤ x_5 ∧ x_5 < 8) ∧ (0 ≤ x_6 ∧ x_6 < 6))) (a_4 : x_11 = x + (-1)) (a_5 : x_12 = y + 0) (a_6 : ¬ ((0 ≤ x_11 ∧ x_11 < 8) ∧ (0 ≤ x_12 ∧ x_12 < 6))) (a_7 : x_17 = x + 0) (a_8 : x_18 = y + 1) (a_9 : (0 ≤ x_17 ∧ x_17 < 8) ∧ (0 ≤ x_18 ∧ x_18 < 6)) (a_10 : x_38 = x + 0) (a_11 : x_39 = y + 1) (a_12 : x_47 = x + 0) (a_13 : x_48 = y + (-1)) (a_14 : (0 ≤ x_47 ∧ x_47 < 8) ∧ (0 ≤ x_48 ∧ x_48 < 6)) (a_15 : x_53 = x + 0) (a_16 : x_54 = y + (-1)) : ((0 : Int32) ≤ x_53 ∧ (x_53 : Int32) < 8) ∧ ((0 : Int32) ≤ x_54 ∧ (x_54 : Int32) < 6) := by grind
theorem z_c_X5_raking_267 (x : Int32) (y : Int32) (x_5 : Int32) (x_6 : Int32) (x_11 : Int32) (x_12 : Int32) (x_17 : Int32) (x_18 : Int32) (x_38 : Int32) (x_39 : Int32) (x_47 : Int32) (x_48 : Int32) (x_53 : Int32) (x_54 : Int32) (a_0 : (0 ≤ x ∧ x < 8) ∧ (0 ≤ y ∧ y < 6)) (a_1 : x_5 = x + 1) (a_2 : x_6 = y + 0) (a_3 : ¬ ((0 ≤ x_5 ∧ x_5 < 8) ∧ (0 ≤ x_6 ∧ x_6 < 6))) (a_4 : x_11 = x + (-1)) (a_5 : x_12 = y + 0) (a_6 : ¬ ((0 ≤ x_11 ∧ x_11 < 8) ∧ (0 ≤ x_12 ∧ x_12 < 6))) (a_7 : x_17 = x + 0) (a_8 : x_18 = y + 1) (a_9 : (0 ≤ x_17 ∧ x_17 < 8) ∧ (0 ≤ x_18 ∧ x_18 < 6)) (a_10 : x_38 = x + 0) (a_11 : x_39 = y + 1) (a_12 : x_47 = x + 0) (a_13 : x_48 = y + (-1)) (a_14 : (0 ≤ x_47 ∧ x_47 < 8) ∧ (0 ≤ x_48 ∧ x_48 < 6)) (a_15 : x_53 = x + 0) (a_16 : x_54 = y + (-1)) : (0 ≤ x_53 ∧ x_53 < 8) ∧ (0 ≤ x_54 ∧ x_54 < 6) := by grind
theorem z_c_X5_raking_268 (x : Int32) (y : Int32) (x_5 : Int32) (x_6 : Int32) (x_11 : Int32) (x_12 : Int32) (x_17 : Int32) (x_18 : Int32) (x_38 : Int32) (x_39 : Int32) (x_47 : Int32) (x_48 : Int32) (x_53 : Int32) (x_54 : Int32) (a_0 : (0 ≤ x ∧ x < 8) ∧ (0 ≤ y ∧ y < 6)) (a_1 : x_5 = x + 1) (a_2 : x_6 = y + 0) (a_3 : ¬ ((0 ≤ x_5 ∧ x_5 < 8) ∧ (0 ≤ x_6 ∧ x_6 < 6))) (a_4 : x_11 = x + (-1)) (a_5 : x_12 = y + 0) (a_6 : ¬ ((0 ≤ x_11 ∧ x_11 < 8) ∧ (0 ≤ x_12 ∧ x_12 < 6))) (a_7 : x_17 = x + 0) (a_8 : x_18 = y + 1) (a_9 : (0 ≤ x_17 ∧ x_17 < 8) ∧ (0 ≤ x_18 ∧ x_18 < 6)) (a_10 : x_38 = x + 0) (a_11 : x_39 = y + 1) (a_12 : x_47 = x + 0) (a_13 : x_48 = y + (-1)) (a_14 : (0 ≤ x_47 ∧ x_47 < 8) ∧ (0 ≤ x_48 ∧ x_48 < 6)) (a_15 : x_53 = x + 0) (a_16 : x_54 = y + (-1)) : (0 : Int32) = 0 := by grind
theorem z_c_X5_raking_269 (x : Int32) (y : Int32) (x_5 : Int32) (x_6 : Int32) (x_11 : Int32) (x_12 : Int32) (x_62 : Int32) (x_63 : Int32) (a_0 : (0 ≤ x ∧ x < 8) ∧ (0 ≤ y ∧ y < 6)) (a_1 : x_5 = x + 1) (a_2 : x_6 = y + 0) (a_3 : ¬ ((0 ≤ x_5 ∧ x_5 < 8) ∧ (0 ≤ x_6 ∧ x_6 < 6))) (a_4 : x_11 = x + (-1)) (a_5 : x_12 = y + 0) (a_6 : (0 ≤ x_11 ∧ x_11 < 8) ∧ (0 ≤ x_12 ∧ x_12 < 6)) (a_7 : x_62 = x + (-1)) (a_8 : x_63 = y + 0) : ((0 : Int32) ≤ x_62 ∧ (x_62 : Int32) < 8) ∧ ((0 : Int32) ≤ x_63 ∧ (x_63 : Int32) < 6) := by grind
theorem z_c_X5_raking_270 (x : Int32) (y : Int32) (x_5 : Int32) (x_6 : Int32) (x_11 : Int32) (x_12 : Int32) (x_62 : Int32) (x_63 : Int32) (a_0 : (0 ≤ x ∧ x < 8) ∧ (0 ≤ y ∧ y < 6)) (a_1 : x_5 = x + 1) (a_2 : x_6 = y + 0) (a_3 : ¬ ((0 ≤ x_5 ∧ x_5 < 8) ∧ (0 ≤ x_6 ∧ x_6 < 6))) (a_4 : x_11 = x + (-1)) (a_5 : x_12 = y + 0) (a_6 : (0 ≤ x_11 ∧ x_11 < 8) ∧ (0 ≤ x_12 ∧ x_12 < 6)) (a_7 : x_62 = x + (-1)) (a_8 : x_63 = y + 0) : (0 ≤ x_62 ∧ x_62 < 8) ∧ (0 ≤ x_63 ∧ x_63 < 6) := by grind
theorem z_c_X5_raking_271 (x : Int32) (y : Int32) (x_5 : Int32) (x_6 : Int32) (x_11 : Int32) (x_12 : Int32) (x_62 : Int32) (x_63 : Int32) (x_71 : Int32) (x_72 : Int32) (x_77 : Int32) (x_78 : Int32) (a_0 : (0 ≤ x ∧ x < 8) ∧ (0 ≤ y ∧ y < 6)) (a_1 : x_5 = x + 1) (a_2 : x_6 = y + 0) (a_3 : ¬ ((0 ≤ x_5 ∧ x_5 < 8) ∧ (0 ≤ x_6 ∧ x_6 < 6))) (a_4 : x_11 = x + (-1)) (a_5 : x_12 = y + 0) (a_6 : (0 ≤ x_11 ∧ x_11 < 8) ∧ (0 ≤ x_12 ∧ x_12 < 6)) (a_7 : x_62 = x + (-1)) (a_8 : x_63 = y + 0) (a_9 : x_71 = x + 0) (a_10 : x_72 = y + 1) (a_11 : ¬ ((0 ≤ x_71 ∧ x_71 < 8) ∧ (0 ≤ x_72 ∧ x_72 < 6))) (a_12 : x_77 = x + 0) (a_13 : x_78 = y + (-1)) (a_14 : ¬ ((0 ≤ x_77 ∧ x_77 < 8) ∧ (0 ≤ x_78 ∧ x_78 < 6))) : (0 : Int32) = 0 := by grind
theorem z_c_X5_raking_272 (x : Int32) (y : Int32) (x_5 : Int32) (x_6 : Int32) (x_11 : Int32) (x_12 : Int32) (x_62 : Int32) (x_63 : Int32) (x_71 : Int32) (x_72 : Int32) (x_77 : Int32) (x_78 : Int32) (x_83 : Int32) (x_84 : Int32) (a_0 : (0 ≤ x ∧ x < 8) ∧ (0 ≤ y ∧ y < 6)) (a_1 : x_5 = x + 1) (a_2 : x_6 = y + 0) (a_3 : ¬ ((0 ≤ x_5 ∧ x_5 < 8) ∧ (0 ≤ x_6 ∧ x_6 < 6))) (a_4 : x_11 = x + (-1)) (a_5 : x_12 = y + 0) (a_6 : (0 ≤ x_11 ∧ x_11 < 8) ∧ (0 ≤ x_12 ∧ x_12 < 6)) (a_7 : x_62 = x + (-1)) (a_8 : x_63 = y + 0) (a_9 : x_71 = x + 0) (a_10 : x_72 = y + 1) (a_11 : ¬ ((0 ≤ x_71 ∧ x_71 < 8) ∧ (0 ≤ x_72 ∧ x_72 < 6))) (a_12 : x_77 = x + 0) (a_13 : x_78 = y + (-1)) (a_14 : (0 ≤ x_77 ∧ x_77 < 8) ∧ (0 ≤ x_78 ∧ x_78 < 6)) (a_15 : x_83 = x + 0) (a_16 : x_84 = y + (-1)) : ((0 : Int32) ≤ x_83 ∧ (x_83 : Int32) < 8) ∧ ((0 : Int32) ≤ x_84 ∧ (x_84 : Int32) < 6) := by grind
theorem z_c_X5_raking_273 (x : Int32) (y : Int32) (x_5 : Int32) (x_6 : Int32) (x_11 : Int32) (x_12 : Int32) (x_62 : Int32) (x_63 : Int32) (x_71 : Int32) (x_72 : Int32) (x_77 : Int32) (x_78 : Int32) (x_83 : Int32) (x_84 : Int32) (a_0 : (0 ≤ x ∧ x < 8) ∧ (0 ≤ y ∧ y < 6)) (a_1 : x_5 = x + 1) (a_2 : x_6 = y + 0) (a_3 : ¬ ((0 ≤ x_5 ∧ x_5 < 8) ∧ (0 ≤ x_6 ∧ x_6 < 6))) (a_4 : x_11 = x + (-1)) (a_5 : x_12 = y + 0) (a_6 : (0 ≤ x_11 ∧ x_11 < 8) ∧ (0 ≤ x_12 ∧ x_12 < 6)) (a_7 : x_62 = x + (-1)) (a_8 : x_63 = y + 0) (a_9 : x_71 = x + 0) (a_10 : x_72 = y + 1) (a_11 : ¬ ((0 ≤ x_71 ∧ x_71 < 8) ∧ (0 ≤ x_72 ∧ x_72 < 6))) (a_12 : x_77 = x + 0) (a_13 : x_78 = y + (-1)) (a_14 : (0 ≤ x_77 ∧ x_77 < 8) ∧ (0 ≤ x_78 ∧ x_78 < 6)) (a_15 : x_83 = x + 0) (a_16 : x_84 = y + (-1)) : (0 ≤ x_83 ∧ x_83 < 8) ∧ (0 ≤ x_84 ∧ x_84 < 6) := by grind
theorem z_c_X5_raking_274 (x : Int32) (y : Int32) (x_5 : Int32) (x_6 : Int32) (x_11 : Int32) (x_12 : Int32) (x_62 : Int32) (x_63 : Int32) (x_71 : Int32) (x_72 : Int32) (x_77 : Int32) (x_78 : Int32) (x_83 : Int32) (x_84 : Int32) (a_0 : (0 ≤ x ∧ x < 8) ∧ (0 ≤ y ∧ y < 6)) (a_1 : x_5 = x + 1) (a_2 : x_6 = y + 0) (a_3 : ¬ ((0 ≤ x_5 ∧ x_5 < 8) ∧ (0 ≤ x_6 ∧ x_6 < 6))) (a_4 : x_11 = x + (-1)) (a_5 : x_12 = y + 0) (a_6 : (0 ≤ x_11 ∧ x_11 < 8) ∧ (0 ≤ x_12 ∧ x_12 < 6)) (a_7 : x_62 = x + (-1)) (a_8 : x_63 = y + 0) (a_9 : x_71 = x + 0) (a_10 : x_72 = y + 1) (a_11 : ¬ ((0 ≤ x_71 ∧ x_71 < 8) ∧ (0 ≤ x_72 ∧ x_72 < 6))) (a_12 : x_77 = x + 0) (a_13 : x_78 = y + (-1)) (a_14 : (0 ≤ x_77 ∧ x_77 < 8) ∧ (0 ≤ x_78 ∧ x_78 < 6)) (a_15 : x_83 = x + 0) (a_16 : x_84 = y + (-1)) : (0 : Int32) = 0 := by grind
theorem z_c_X5_raking_275 (x : Int32) (y : Int32) (x_5 : Int32) (x_6 : Int32) (x_11 : Int32) (x_12 : Int32) (x_62 : Int32) (x_63 : Int32) (x_71 : Int32) (x_72 : Int32) (x_92 : Int32) (x_93 : Int32) (a_0 : (0 ≤ x ∧ x < 8) ∧ (0 ≤ y ∧ y < 6)) (a_1 : x_5 = x + 1) (a_2 : x_6 = y + 0) (a_3 : ¬ ((0 ≤ x_5 ∧ x_5 < 8) ∧ (0 ≤ x_6 ∧ x_6 < 6))) (a_4 : x_11 = x + (-1)) (a_5 : x_12 = y + 0) (a_6 : (0 ≤ x_11 ∧ x_11 < 8) ∧ (0 ≤ x_12 ∧ x_12 < 6)) (a_7 : x_62 = x + (-1)) (a_8 : x_63 = y + 0) (a_9 : x_71 = x + 0) (a_10 : x_72 = y + 1) (a_11 : (0 ≤ x_71 ∧ x_71 < 8) ∧ (0 ≤ x_72 ∧ x_72 < 6)) (a_12 : x_92 = x + 0) (a_13 : x_93 = y + 1) : ((0 : Int32) ≤ x_92 ∧ (x_92 : Int32) < 8) ∧ ((0 : Int32) ≤ x_93 ∧ (x_93 : Int32) < 6) := by grind
theorem z_c_X5_raking_276 (x : Int32) (y : Int32) (x_5 : Int32) (x_6 : Int32) (x_11 : Int32) (x_12 : Int32) (x_62 : Int32) (x_63 : Int32) (x_71 : Int32) (x_72 : Int32) (x_92 : Int32) (x_93 : Int32) (a_0 : (0 ≤ x ∧ x < 8) ∧ (0 ≤ y ∧ y < 6)) (a_1 : x_5 = x + 1) (a_2 : x_6 = y + 0) (a_3 : ¬ ((0 ≤ x_5 ∧ x_5 < 8) ∧ (0 ≤ x_6 ∧ x_6 < 6))) (a_4 : x_11 = x + (-1)) (a_5 : x_12 = y + 0) (a_6 : (0 ≤ x_11 ∧ x_11 < 8) ∧ (0 ≤ x_12 ∧ x_12 < 6)) (a_7 : x_62 = x + (-1)) (a_8 : x_63 = y + 0) (a_9 : x_71 = x + 0) (a_10 : x_72 = y + 1) (a_11 : (0 ≤ x_71 ∧ x_71 < 8) ∧ (0 ≤ x_72 ∧ x_72 < 6)) (a_12 : x_92 = x + 0) (a_13 : x_93 = y + 1) : (0 ≤ x_92 ∧ x_92 < 8) ∧ (0 ≤ x_93 ∧ x_93 < 6) := by grind
theorem z_c_X5_raking_277 (x : Int32) (y : Int32) (x_5 : Int32) (x_6 : Int32) (x_11 : Int32) (x_12 : Int32) (x_62 : Int32) (x_63 : Int32) (x_71 : Int32) (x_72 : Int32) (x_92 : Int32) (x_93 : Int32) (x_101 : Int32) (x_102 : Int32) (a_0 : (0 ≤ x ∧ x < 8) ∧ (0 ≤ y ∧ y < 6)) (a_1 : x_5 = x + 1) (a_2 : x_6 = y + 0) (a_3 : ¬ ((0 ≤ x_5 ∧ x_5 < 8) ∧ (0 ≤ x_6 ∧ x_6 < 6))) (a_4 : x_11 = x + (-1)) (a_5 : x_12 = y + 0) (a_6 : (0 ≤ x_11 ∧ x_11 < 8) ∧ (0 ≤ x_12 ∧ x_12 < 6)) (a_7 : x_62 = x + (-1)) (a_8 : x_63 = y + 0) (a_9 : x_71 = x + 0) (a_10 : x_72 = y + 1) (a_11 : (0 ≤ x_71 ∧ x_71 < 8) ∧ (0 ≤ x_72 ∧ x_72 < 6)) (a_12 : x_92 = x + 0) (a_13 : x_93 = y + 1) (a_14 : x_101 = x + 0) (a_15 : x_102 = y + (-1)) (a_16 : ¬ ((0 ≤ x_101 ∧ x_101 < 8) ∧ (0 ≤ x_102 ∧ x_102 < 6))) : (0 : Int32) = 0 := by grind
theorem z_c_X5_raking_278 (x : Int32) (y : Int32) (x_5 : Int32) (x_6 : Int32) (x_11 : Int32) (x_12 : Int32) (x_62 : Int32) (x_63 : Int32) (x_71 : Int32) (x_72 : Int32) (x_92 : Int32) (x_93 : Int32) (x_101 : Int32) (x_102 : Int32) (x_107 : Int32) (x_108 : Int32) (a_0 : (0 ≤ x ∧ x < 8) ∧ (0 ≤ y ∧ y < 6)) (a_1 : x_5 = x + 1) (a_2 : x_6 = y + 0) (a_3 : ¬ ((0 ≤ x_5 ∧ x_5 < 8) ∧ (0 ≤ x_6 ∧ x_6 < 6))) (a_4 : x_11 = x + (-1)) (a_5 : x_12 = y + 0) (a_6 : (0 ≤ x_11 ∧ x_11 < 8) ∧ (0 ≤ x_12 ∧ x_12 < 6)) (a_7 : x_62 = x + (-1)) (a_8 : x_63 = y + 0) (a_9 : x_71 = x + 0) (a_10 : x_72 = y + 1) (a_11 : (0 ≤ x_71 ∧ x_71 < 8) ∧ (0 ≤ x_72 ∧ x_72 < 6)) (a_12 : x_92 = x + 0) (a_13 : x_93 = y + 1) (a_14 : x_101 = x + 0) (a_15 : x_102 = y + (-1)) (a_16 : (0 ≤ x_101 ∧ x_101 < 8) ∧ (0 ≤ x_102 ∧ x_102 < 6)) (a_17 : x_107 = x + 0) (a_18 : x_108 = y + (-1)) : ((0 : Int32) ≤ x_107 ∧ (x_107 : Int32) < 8) ∧ ((0 : Int32) ≤ x_108 ∧ (x_108 : Int32) < 6) := by grind
theorem z_c_X5_raking_279 (x : Int32) (y : Int32) (x_5 : Int32) (x_6 : Int32) (x_11 : Int32) (x_12 : Int32) (x_62 : Int32) (x_63 : Int32) (x_71 : Int32) (x_72 : Int32) (x_92 : Int32) (x_93 : Int32) (x_101 : Int32) (x_102 : Int32) (x_107 : Int32) (x_108 : Int32) (a_0 : (0 ≤ x ∧ x < 8) ∧ (0 ≤ y ∧ y < 6)) (a_1 : x_5 = x + 1) (a_2 : x_6 = y + 0) (a_3 : ¬ ((0 ≤ x_5 ∧ x_5 < 8) ∧ (0 ≤ x_6 ∧ x_6 < 6))) (a_4 : x_11 = x + (-1)) (a_5 : x_12 = y + 0) (a_6 : (0 ≤ x_11 ∧ x_11 < 8) ∧ (0 ≤ x_12 ∧ x_12 < 6)) (a_7 : x_62 = x + (-1)) (a_8 : x_63 = y + 0) (a_9 : x_71 = x + 0) (a_10 : x_72 = y + 1) (a_11 : (0 ≤ x_71 ∧ x_71 < 8) ∧ (0 ≤ x_72 ∧ x_72 < 6)) (a_12 : x_92 = x + 0) (a_13 : x_93 = y + 1) (a_14 : x_101 = x + 0) (a_15 : x_102 = y + (-1)) (a_16 : (0 ≤ x_101 ∧ x_101 < 8) ∧ (0 ≤ x_102 ∧ x_102 < 6)) (a_17 : x_107 = x + 0) (a_18 : x_108 = y + (-1)) : (0 ≤ x_107 ∧ x_107 < 8) ∧ (0 ≤ x_108 ∧ x_108 < 6) := by grind
theorem z_c_X5_raking_280 (x : Int32) (y : Int32) (x_5 : Int32) (x_6 : Int32) (x_11 : Int32) (x_12 : Int32) (x_62 : Int32) (x_63 : Int32) (x_71 : Int32) (x_72 : Int32) (x_92 : Int32) (x_93 : Int32) (x_101 : Int32) (x_102 : Int32) (x_107 : Int32) (x_108 : Int32) (a_0 : (0 ≤ x ∧ x < 8) ∧ (0 ≤ y ∧ y < 6)) (a_1 : x_5 = x + 1) (a_2 : x_6 = y + 0) (a_3 : ¬ ((0 ≤ x_5 ∧ x_5 < 8) ∧ (0 ≤ x_6 ∧ x_6 < 6))) (a_4 : x_11 = x + (-1)) (a_5 : x_12 = y + 0) (a_6 : (0 ≤ x_11 ∧ x_11 < 8) ∧ (0 ≤ x_12 ∧ x_12 < 6)) (a_7 : x_62 = x + (-1)) (a_8 : x_63 = y + 0) (a_9 : x_71 = x + 0) (a_10 : x_72 = y + 1) (a_11 : (0 ≤ x_71 ∧ x_71 < 8) ∧ (0 ≤ x_72 ∧ x_72 < 6)) (a_12 : x_92 = x + 0) (a_13 : x_93 = y + 1) (a_14 : x_101 = x + 0) (a_15 : x_102 = y + (-1)) (a_16 : (0 ≤ x_101 ∧ x_101 < 8) ∧ (0 ≤ x_102 ∧ x_102 < 6)) (a_17 : x_107 = x + 0) (a_18 : x_108 = y + (-1)) : (0 : Int32) = 0 := by grind
theorem z_c_X5_raking_281 (x : Int32) (y : Int32) (x_5 : Int32) (x_6 : Int32) (x_116 : Int32) (x_117 : Int32) (a_0 : (0 ≤ x ∧ x < 8) ∧ (0 ≤ y ∧ y < 6)) (a_1 : x_5 = x + 1) (a_2 : x_6 = y + 0) (a_3 : (0 ≤ x_5 ∧ x_5 < 8) ∧ (0 ≤ x_6 ∧ x_6 < 6)) (a_4 : x_116 = x + 1) (a_5 : x_117 = y + 0) : ((0 : Int32) ≤ x_116 ∧ (x_116 : Int32) < 8) ∧ ((0 : Int32) ≤ x_117 ∧ (x_117 : Int32) < 6) := by grind
theorem z_c_X5_raking_282 (x : Int32) (y : Int32) (x_5 : Int32) (x_6 : Int32) (x_116 : Int32) (x_117 : Int32) (a_0 : (0 ≤ x ∧ x < 8) ∧ (0 ≤ y ∧ y < 6)) (a_1 : x_5 = x + 1) (a_2 : x_6 = y + 0) (a_3 : (0 ≤ x_5 ∧ x_5 < 8) ∧ (0 ≤ x_6 ∧ x_6 < 6)) (a_4 : x_116 = x + 1) (a_5 : x_117 = y + 0) : (0 ≤ x_116 ∧ x_116 < 8) ∧ (0 ≤ x_117 ∧ x_117 < 6) := by grind
theorem z_c_X5_raking_283 (x : Int32) (y : Int32) (x_5 : Int32) (x_6 : Int32) (x_116 : Int32) (x_117 : Int32) (x_125 : Int32) (x_126 : Int32) (x_131 : Int32) (x_132 : Int32) (x_137 : Int32) (x_138 : Int32) (a_0 : (0 ≤ x ∧ x < 8) ∧ (0 ≤ y ∧ y < 6)) (a_1 : x_5 = x + 1) (a_2 : x_6 = y + 0) (a_3 : (0 ≤ x_5 ∧ x_5 < 8) ∧ (0 ≤ x_6 ∧ x_6 < 6)) (a_4 : x_116 = x + 1) (a_5 : x_117 = y + 0) (a_6 : x_125 = x + (-1)) (a_7 : x_126 = y + 0) (a_8 : ¬ ((0 ≤ x_125 ∧ x_125 < 8) ∧ (0 ≤ x_126 ∧ x_126 < 6))) (a_9 : x_131 = x + 0) (a_10 : x_132 = y + 1) (a_11 : ¬ ((0 ≤ x_131 ∧ x_131 < 8) ∧ (0 ≤ x_132 ∧ x_132 < 6))) (a_12 : x_137 = x + 0) (a_13 : x_138 = y + (-1)) (a_14 : ¬ ((0 ≤ x_137 ∧ x_137 < 8) ∧ (0 ≤ x_138 ∧ x_138 < 6))) : (0 : Int32) = 0 := by grind
theorem z_c_X5_raking_284 (x : Int32) (y : Int32) (x_5 : Int32) (x_6 : Int32) (x_116 : Int32) (x_117 : Int32) (x_125 : Int32) (x_126 : Int32) (x_131 : Int32) (x_132 : Int32) (x_137 : Int32) (x_138 : Int32) (x_143 : Int32) (x_144 : Int32) (a_0 : (0 ≤ x ∧ x < 8) ∧ (0 ≤ y ∧ y < 6)) (a_1 : x_5 = x + 1) (a_2 : x_6 = y + 0) (a_3 : (0 ≤ x_5 ∧ x_5 < 8) ∧ (0 ≤ x_6 ∧ x_6 < 6)) (a_4 : x_116 = x + 1) (a_5 : x_117 = y + 0) (a_6 : x_125 = x + (-1)) (a_7 : x_126 = y + 0) (a_8 : ¬ ((0 ≤ x_125 ∧ x_125 < 8) ∧ (0 ≤ x_126 ∧ x_126 < 6))) (a_9 : x_131 = x + 0) (a_10 : x_132 = y + 1) (a_11 : ¬ ((0 ≤ x_131 ∧ x_131 < 8) ∧ (0 ≤ x_132 ∧ x_132 < 6))) (a_12 : x_137 = x + 0) (a_13 : x_138 = y + (-1)) (a_14 : (0 ≤ x_137 ∧ x_137 < 8) ∧ (0 ≤ x_138 ∧ x_138 < 6)) (a_15 : x_143 = x + 0) (a_16 : x_144 = y + (-1)) : ((0 : Int32) ≤ x_143 ∧ (x_143 : Int32) < 8) ∧ ((0 : Int32) ≤ x_144 ∧ (x_144 : Int32) < 6) := by grind
theorem z_c_X5_raking_285 (x : Int32) (y : Int32) (x_5 : Int32) (x_6 : Int32) (x_116 : Int32) (x_117 : Int32) (x_125 : Int32) (x_126 : Int32) (x_131 : Int32) (x_132 : Int32) (x_137 : Int32) (x_138 : Int32) (x_143 : Int32) (x_144 : Int32) (a_0 : (0 ≤ x ∧ x < 8) ∧ (0 ≤ y ∧ y < 6)) (a_1 : x_5 = x + 1) (a_2 : x_6 = y + 0) (a_3 : (0 ≤ x_5 ∧ x_5 < 8) ∧ (0 ≤ x_6 ∧ x_6 < 6)) (a_4 : x_116 = x + 1) (a_5 : x_117 = y + 0) (a_6 : x_125 = x + (-1)) (a_7 : x_126 = y + 0) (a_8 : ¬ ((0 ≤ x_125 ∧ x_125 < 8) ∧ (0 ≤ x_126 ∧ x_126 < 6))) (a_9 : x_131 = x + 0) (a_10 : x_132 = y + 1) (a_11 : ¬ ((0 ≤ x_131 ∧ x_131 < 8) ∧ (0 ≤ x_132 ∧ x_132 < 6))) (a_12 : x_137 = x + 0) (a_13 : x_138 = y + (-1)) (a_14 : (0 ≤ x_137 ∧ x_137 < 8) ∧ (0 ≤ x_138 ∧ x_138 < 6)) (a_15 : x_143 = x + 0) (a_16 : x_144 = y + (-1)) : (0 ≤ x_143 ∧ x_143 < 8) ∧ (0 ≤ x_144 ∧ x_144 < 6) := by grind
theorem z_c_X5_raking_286 (x : Int32) (y : Int32) (x_5 : Int32) (x_6 : Int32) (x_116 : Int32) (x_117 : Int32) (x_125 : Int32) (x_126 : Int32) (x_131 : Int32) (x_132 : Int32) (x_137 : Int32) (x_138 : Int32) (x_143 : Int32) (x_144 : Int32) (a_0 : (0 ≤ x ∧ x < 8) ∧ (0 ≤ y ∧ y < 6)) (a_1 : x_5 = x + 1) (a_2 : x_6 = y + 0) (a_3 : (0 ≤ x_5 ∧ x_5 < 8) ∧ (0 ≤ x_6 ∧ x_6 < 6)) (a_4 : x_116 = x + 1) (a_5 : x_117 = y + 0) (a_6 : x_125 = x + (-1)) (a_7 : x_126 = y + 0) (a_8 : ¬ ((0 ≤ x_125 ∧ x_125 < 8) ∧ (0 ≤ x_126 ∧ x_126 < 6))) (a_9 : x_131 = x + 0) (a_10 : x_132 = y + 1) (a_11 : ¬ ((0 ≤ x_131 ∧ x_131 < 8) ∧ (0 ≤ x_132 ∧ x_132 < 6))) (a_12 : x_137 = x + 0) (a_13 : x_138 = y + (-1)) (a_14 : (0 ≤ x_137 ∧ x_137 < 8) ∧ (0 ≤ x_138 ∧ x_138 < 6)) (a_15 : x_143 = x + 0) (a_16 : x_144 = y + (-1)) : (0 : Int32) = 0 := by grind
theorem z_c_X5_raking_287 (x : Int32) (y : Int32) (x_5 : Int32) (x_6 : Int32) (x_116 : Int32) (x_117 : Int32) (x_125 : Int32) (x_126 : Int32) (x_131 : Int32) (x_132 : Int32) (x_152 : Int32) (x_153 : Int32) (a_0 : (0 ≤ x ∧ x < 8) ∧ (0 ≤ y ∧ y < 6)) (a_1 : x_5 = x + 1) (a_2 : x_6 = y + 0) (a_3 : (0 ≤ x_5 ∧ x_5 < 8) ∧ (0 ≤ x_6 ∧ x_6 < 6)) (a_4 : x_116 = x + 1) (a_5 : x_117 = y + 0) (a_6 : x_125 = x + (-1)) (a_7 : x_126 = y + 0) (a_8 : ¬ ((0 ≤ x_125 ∧ x_125 < 8) ∧ (0 ≤ x_126 ∧ x_126 < 6))) (a_9 : x_131 = x + 0) (a_10 : x_132 = y + 1) (a_11 : (0 ≤ x_131 ∧ x_131 < 8) ∧ (0 ≤ x_132 ∧ x_132 < 6)) (a_12 : x_152 = x + 0) (a_13 : x_153 = y + 1) : ((0 : Int32) ≤ x_152 ∧ (x_152 : Int32) < 8) ∧ ((0 : Int32) ≤ x_153 ∧ (x_153 : Int32) < 6) := by grind
theorem z_c_X5_raking_288 (x : Int32) (y : Int32) (x_5 : Int32) (x_6 : Int32) (x_116 : Int32) (x_117 : Int32) (x_125 : Int32) (x_126 : Int32) (x_131 : Int32) (x_132 : Int32) (x_152 : Int32) (x_153 : Int32) (a_0 : (0 ≤ x ∧ x < 8) ∧ (0 ≤ y ∧ y < 6)) (a_1 : x_5 = x + 1) (a_2 : x_6 = y + 0) (a_3 : (0 ≤ x_5 ∧ x_5 < 8) ∧ (0 ≤ x_6 ∧ x_6 < 6)) (a_4 : x_116 = x + 1) (a_5 : x_117 = y + 0) (a_6 : x_125 = x + (-1)) (a_7 : x_126 = y + 0) (a_8 : ¬ ((0 ≤ x_125 ∧ x_125 < 8) ∧ (0 ≤ x_126 ∧ x_126 < 6))) (a_9 : x_131 = x + 0) (a_10 : x_132 = y + 1) (a_11 : (0 ≤ x_131 ∧ x_131 < 8) ∧ (0 ≤ x_132 ∧ x_132 < 6)) (a_12 : x_152 = x + 0) (a_13 : x_153 = y + 1) : (0 ≤ x_152 ∧ x_152 < 8) ∧ (0 ≤ x_153 ∧ x_153 < 6) := by grind
theorem z_c_X5_raking_289 (x : Int32) (y : Int32) (x_5 : Int32) (x_6 : Int32) (x_116 : Int32) (x_117 : Int32) (x_125 : Int32) (x_126 : Int32) (x_131 : Int32) (x_132 : Int32) (x_152 : Int32) (x_153 : Int32) (x_161 : Int32) (x_162 : Int32) (a_0 : (0 ≤ x ∧ x < 8) ∧ (0 ≤ y ∧ y < 6)) (a_1 : x_5 = x + 1) (a_2 : x_6 = y + 0) (a_3 : (0 ≤ x_5 ∧ x_5 < 8) ∧ (0 ≤ x_6 ∧ x_6 < 6)) (a_4 : x_116 = x + 1) (a_5 : x_117 = y + 0) (a_6 : x_125 = x + (-1)) (a_7 : x_126 = y + 0) (a_8 : ¬ ((0 ≤ x_125 ∧ x_125 < 8) ∧ (0 ≤ x_126 ∧ x_126 < 6))) (a_9 : x_131 = x + 0) (a_10 : x_132 = y + 1) (a_11 : (0 ≤ x_131 ∧ x_131 < 8) ∧ (0 ≤ x_132 ∧ x_132 < 6)) (a_12 : x_152 = x + 0) (a_13 : x_153 = y + 1) (a_14 : x_161 = x + 0) (a_15 : x_162 = y + (-1)) (a_16 : ¬ ((0 ≤ x_161 ∧ x_161 < 8) ∧ (0 ≤ x_162 ∧ x_162 < 6))) : (0 : Int32) = 0 := by grind
theorem z_c_X5_raking_290 (x : Int32) (y : Int32) (x_5 : Int32) (x_6 : Int32) (x_116 : Int32) (x_117 : Int32) (x_125 : Int32) (x_126 : Int32) (x_131 : Int32) (x_132 : Int32) (x_152 : Int32) (x_153 : Int32) (x_161 : Int32) (x_162 : Int32) (x_167 : Int32) (x_168 : Int32) (a_0 : (0 ≤ x ∧ x < 8) ∧ (0 ≤ y ∧ y < 6)) (a_1 : x_5 = x + 1) (a_2 : x_6 = y + 0) (a_3 : (0 ≤ x_5 ∧ x_5 < 8) ∧ (0 ≤ x_6 ∧ x_6 < 6)) (a_4 : x_116 = x + 1) (a_5 : x_117 = y + 0) (a_6 : x_125 = x + (-1)) (a_7 : x_126 = y + 0) (a_8 : ¬ ((0 ≤ x_125 ∧ x_125 < 8) ∧ (0 ≤ x_126 ∧ x_126 < 6))) (a_9 : x_131 = x + 0) (a_10 : x_132 = y + 1) (a_11 : (0 ≤ x_131 ∧ x_131 < 8) ∧ (0 ≤ x_132 ∧ x_132 < 6)) (a_12 : x_152 = x + 0) (a_13 : x_153 = y + 1) (a_14 : x_161 = x + 0) (a_15 : x_162 = y + (-1)) (a_16 : (0 ≤ x_161 ∧ x_161 < 8) ∧ (0 ≤ x_162 ∧ x_162 < 6)) (a_17 : x_167 = x + 0) (a_18 : x_168 = y + (-1)) : ((0 : Int32) ≤ x_167 ∧ (x_167 : Int32) < 8) ∧ ((0 : Int32) ≤ x_168 ∧ (x_168 : Int32) < 6) := by grind
theorem z_c_X5_raking_291 (x : Int32) (y : Int32) (x_5 : Int32) (x_6 : Int32) (x_116 : Int32) (x_117 : Int32) (x_125 : Int32) (x_126 : Int32) (x_131 : Int32) (x_132 : Int32) (x_152 : Int32) (x_153 : Int32) (x_161 : Int32) (x_162 : Int32) (x_167 : Int32) (x_168 : Int32) (a_0 : (0 ≤ x ∧ x < 8) ∧ (0 ≤ y ∧ y < 6)) (a_1 : x_5 = x + 1) (a_2 : x_6 = y + 0) (a_3 : (0 ≤ x_5 ∧ x_5 < 8) ∧ (0 ≤ x_6 ∧ x_6 < 6)) (a_4 : x_116 = x + 1) (a_5 : x_117 = y + 0) (a_6 : x_125 = x + (-1)) (a_7 : x_126 = y + 0) (a_8 : ¬ ((0 ≤ x_125 ∧ x_125 < 8) ∧ (0 ≤ x_126 ∧ x_126 < 6))) (a_9 : x_131 = x + 0) (a_10 : x_132 = y + 1) (a_11 : (0 ≤ x_131 ∧ x_131 < 8) ∧ (0 ≤ x_132 ∧ x_132 < 6)) (a_12 : x_152 = x + 0) (a_13 : x_153 = y + 1) (a_14 : x_161 = x + 0) (a_15 : x_162 = y + (-1)) (a_16 : (0 ≤ x_161 ∧ x_161 < 8) ∧ (0 ≤ x_162 ∧ x_162 < 6)) (a_17 : x_167 = x + 0) (a_18 : x_168 = y + (-1)) : (0 ≤ x_167 ∧ x_167 < 8) ∧ (0 ≤ x_168 ∧ x_168 < 6) := by grind
theorem z_c_X5_raking_292 (x : Int32) (y : Int32) (x_5 : Int32) (x_6 : Int32) (x_116 : Int32) (x_117 : Int32) (x_125 : Int32) (x_126 : Int32) (x_131 : Int32) (x_132 : Int32) (x_152 : Int32) (x_153 : Int32) (x_161 : Int32) (x_162 : Int32) (x_167 : Int32) (x_168 : Int32) (a_0 : (0 ≤ x ∧ x < 8) ∧ (0 ≤ y ∧ y < 6)) (a_1 : x_5 = x + 1) (a_2 : x_6 = y + 0) (a_3 : (0 ≤ x_5 ∧ x_5 < 8) ∧ (0 ≤ x_6 ∧ x_6 < 6)) (a_4 : x_116 = x + 1) (a_5 : x_117 = y + 0) (a_6 : x_125 = x + (-1)) (a_7 : x_126 = y + 0) (a_8 : ¬ ((0 ≤ x_125 ∧ x_125 < 8) ∧ (0 ≤ x_126 ∧ x_126 < 6))) (a_9 : x_131 = x + 0) (a_10 : x_132 = y + 1) (a_11 : (0 ≤ x_131 ∧ x_131 < 8) ∧ (0 ≤ x_132 ∧ x_132 < 6)) (a_12 : x_152 = x + 0) (a_13 : x_153 = y + 1) (a_14 : x_161 = x + 0) (a_15 : x_162 = y + (-1)) (a_16 : (0 ≤ x_161 ∧ x_161 < 8) ∧ (0 ≤ x_162 ∧ x_162 < 6)) (a_17 : x_167 = x + 0) (a_18 : x_168 = y + (-1)) : (0 : Int32) = 0 := by grind
theorem z_c_X5_raking_293 (x : Int32) (y : Int32) (x_5 : Int32) (x_6 : Int32) (x_116 : Int32) (x_117 : Int32) (x_125 : Int32) (x_126 : Int32) (x_176 : Int32) (x_177 : Int32) (a_0 : (0 ≤ x ∧ x < 8) ∧ (0 ≤ y ∧ y < 6)) (a_1 : x_5 = x + 1) (a_2 : x_6 = y + 0) (a_3 : (0 ≤ x_5 ∧ x_5 < 8) ∧ (0 ≤ x_6 ∧ x_6 < 6)) (a_4 : x_116 = x + 1) (a_5 : x_117 = y + 0) (a_6 : x_125 = x + (-1)) (a_7 : x_126 = y + 0) (a_8 : (0 ≤ x_125 ∧ x_125 < 8) ∧ (0 ≤ x_126 ∧ x_126 < 6)) (a_9 : x_176 = x + (-1)) (a_10 : x_177 = y + 0) : ((0 : Int32) ≤ x_176 ∧ (x_176 : Int32) < 8) ∧ ((0 : Int32) ≤ x_177 ∧ (x_177 : Int32) < 6) := by grind
theorem z_c_X5_raking_294 (x : Int32) (y : Int32) (x_5 : Int32) (x_6 : Int32) (x_116 : Int32) (x_117 : Int32) (x_125 : Int32) (x_126 : Int32) (x_176 : Int32) (x_177 : Int32) (a_0 : (0 ≤ x ∧ x < 8) ∧ (0 ≤ y ∧ y < 6)) (a_1 : x_5 = x + 1) (a_2 : x_6 = y + 0) (a_3 : (0 ≤ x_5 ∧ x_5 < 8) ∧ (0 ≤ x_6 ∧ x_6 < 6)) (a_4 : x_116 = x + 1) (a_5 : x_117 = y + 0) (a_6 : x_125 = x + (-1)) (a_7 : x_126 = y + 0) (a_8 : (0 ≤ x_125 ∧ x_125 < 8) ∧ (0 ≤ x_126 ∧ x_126 < 6)) (a_9 : x_176 = x + (-1)) (a_10 : x_177 = y + 0) : (0 ≤ x_176 ∧ x_176 < 8) ∧ (0 ≤ x_177 ∧ x_177 < 6) := by grind
theorem z_c_X5_raking_295 (x : Int32) (y : Int32) (x_5 : Int32) (x_6 : Int32) (x_116 : Int32) (x_117 : Int32) (x_125 : Int32) (x_126 : Int32) (x_176 : Int32) (x_177 : Int32) (x_185 : Int32) (x_186 : Int32) (x_191 : Int32) (x_192 : Int32) (a_0 : (0 ≤ x ∧ x < 8) ∧ (0 ≤ y ∧ y < 6)) (a_1 : x_5 = x + 1) (a_2 : x_6 = y + 0) (a_3 : (0 ≤ x_5 ∧ x_5 < 8) ∧ (0 ≤ x_6 ∧ x_6 < 6)) (a_4 : x_116 = x + 1) (a_5 : x_117 = y + 0) (a_6 : x_125 = x + (-1)) (a_7 : x_126 = y + 0) (a_8 : (0 ≤ x_125 ∧ x_125 < 8) ∧ (0 ≤ x_126 ∧ x_126 < 6)) (a_9 : x_176 = x + (-1)) (a_10 : x_177 = y + 0) (a_11 : x_185 = x + 0) (a_12 : x_186 = y + 1) (a_13 : ¬ ((0 ≤ x_185 ∧ x_185 < 8) ∧ (0 ≤ x_186 ∧ x_186 < 6))) (a_14 : x_191 = x + 0) (a_15 : x_192 = y + (-1)) (a_16 : ¬ ((0 ≤ x_191 ∧ x_191 < 8) ∧ (0 ≤ x_192 ∧ x_192 < 6))) : (0 : Int32) = 0 := by grind
theorem z_c_X5_raking_296 (x : Int32) (y : Int32) (x_5 : Int32) (x_6 : Int32) (x_116 : Int32) (x_117 : Int32) (x_125 : Int32) (x_126 : Int32) (x_176 : Int32) (x_177 : Int32) (x_185 : Int32) (x_186 : Int32) (x_191 : Int32) (x_192 : Int32) (x_197 : Int32) (x_198 : Int32) (a_0 : (0 ≤ x ∧ x < 8) ∧ (0 ≤ y ∧ y < 6)) (a_1 : x_5 = x + 1) (a_2 : x_6 = y + 0) (a_3 : (0 ≤ x_5 ∧ x_5 < 8) ∧ (0 ≤ x_6 ∧ x_6 < 6)) (a_4 : x_116 = x + 1) (a_5 : x_117 = y + 0) (a_6 : x_125 = x + (-1)) (a_7 : x_126 = y + 0) (a_8 : (0 ≤ x_125 ∧ x_125 < 8) ∧ (0 ≤ x_126 ∧ x_126 < 6)) (a_9 : x_176 = x + (-1)) (a_10 : x_177 = y + 0) (a_11 : x_185 = x + 0) (a_12 : x_186 = y + 1) (a_13 : ¬ ((0 ≤ x_185 ∧ x_185 < 8) ∧ (0 ≤ x_186 ∧ x_186 < 6))) (a_14 : x_191 = x + 0) (a_15 : x_192 = y + (-1)) (a_16 : (0 ≤ x_191 ∧ x_191 < 8) ∧ (0 ≤ x_192 ∧ x_192 < 6)) (a_17 : x_197 = x + 0) (a_18 : x_198 = y + (-1)) : ((0 : Int32) ≤ x_197 ∧ (x_197 : Int32) < 8) ∧ ((0 : Int32) ≤ x_198 ∧ (x_198 : Int32) < 6) := by grind
theorem z_c_X5_raking_297 (x : Int32) (y : Int32) (x_5 : Int32) (x_6 : Int32) (x_116 : Int32) (x_117 : Int32) (x_125 : Int32) (x_126 : Int32) (x_176 : Int32) (x_177 : Int32) (x_185 : Int32) (x_186 : Int32) (x_191 : Int32) (x_192 : Int32) (x_197 : Int32) (x_198 : Int32) (a_0 : (0 ≤ x ∧ x < 8) ∧ (0 ≤ y ∧ y < 6)) (a_1 : x_5 = x + 1) (a_2 : x_6 = y + 0) (a_3 : (0 ≤ x_5 ∧ x_5 < 8) ∧ (0 ≤ x_6 ∧ x_6 < 6)) (a_4 : x_116 = x + 1) (a_5 : x_117 = y + 0) (a_6 : x_125 = x + (-1)) (a_7 : x_126 = y + 0) (a_8 : (0 ≤ x_125 ∧ x_125 < 8) ∧ (0 ≤ x_126 ∧ x_126 < 6)) (a_9 : x_176 = x + (-1)) (a_10 : x_177 = y + 0) (a_11 : x_185 = x + 0) (a_12 : x_186 = y + 1) (a_13 : ¬ ((0 ≤ x_185 ∧ x_185 < 8) ∧ (0 ≤ x_186 ∧ x_186 < 6))) (a_14 : x_191 = x + 0) (a_15 : x_192 = y + (-1)) (a_16 : (0 ≤ x_191 ∧ x_191 < 8) ∧ (0 ≤ x_192 ∧ x_192 < 6)) (a_17 : x_197 = x + 0) (a_18 : x_198 = y + (-1)) : (0 ≤ x_197 ∧ x_197 < 8) ∧ (0 ≤ x_198 ∧ x_198 < 6) := by grind
theorem z_c_X5_raking_298 (x : Int32) (y : Int32) (x_5 : Int32) (x_6 : Int32) (x_116 : Int32) (x_117 : Int32) (x_125 : Int32) (x_126 : Int32) (x_176 : Int32) (x_177 : Int32) (x_185 : Int32) (x_186 : Int32) (x_191 : Int32) (x_192 : Int32) (x_197 : Int32) (x_198 : Int32) (a_0 : (0 ≤ x ∧ x < 8) ∧ (0 ≤ y ∧ y < 6)) (a_1 : x_5 = x + 1) (a_2 : x_6 = y + 0) (a_3 : (0 ≤ x_5 ∧ x_5 < 8) ∧ (0 ≤ x_6 ∧ x_6 < 6)) (a_4 : x_116 = x + 1) (a_5 : x_117 = y + 0) (a_6 : x_125 = x + (-1)) (a_7 : x_126 = y + 0) (a_8 : (0 ≤ x_125 ∧ x_125 < 8) ∧ (0 ≤ x_126 ∧ x_126 < 6)) (a_9 : x_176 = x + (-1)) (a_10 : x_177 = y + 0) (a_11 : x_185 = x + 0) (a_12 : x_186 = y + 1) (a_13 : ¬ ((0 ≤ x_185 ∧ x_185 < 8) ∧ (0 ≤ x_186 ∧ x_186 < 6))) (a_14 : x_191 = x + 0) (a_15 : x_192 = y + (-1)) (a_16 : (0 ≤ x_191 ∧ x_191 < 8) ∧ (0 ≤ x_192 ∧ x_192 < 6)) (a_17 : x_197 = x + 0) (a_18 : x_198 = y + (-1)) : (0 : Int32) = 0 := by grind
theorem z_c_X5_raking_299 (x : Int32) (y : Int32) (x_5 : Int32) (x_6 : Int32) (x_116 : Int32) (x_117 : Int32) (x_125 : Int32) (x_126 : Int32) (x_176 : Int32) (x_177 : Int32) (x_185 : Int32) (x_186 : Int32) (x_206 : Int32) (x_207 : Int32) (a_0 : (0 ≤ x ∧ x < 8) ∧ (0 ≤ y ∧ y < 6)) (a_1 : x_5 = x + 1) (a_2 : x_6 = y + 0) (a_3 : (0 ≤ x_5 ∧ x_5 < 8) ∧ (0 ≤ x_6 ∧ x_6 < 6)) (a_4 : x_116 = x + 1) (a_5 : x_117 = y + 0) (a_6 : x_125 = x + (-1)) (a_7 : x_126 = y + 0) (a_8 : (0 ≤ x_125 ∧ x_125 < 8) ∧ (0 ≤ x_126 ∧ x_126 < 6)) (a_9 : x_176 = x + (-1)) (a_10 : x_177 = y + 0) (a_11 : x_185 = x + 0) (a_12 : x_186 = y + 1) (a_13 : (0 ≤ x_185 ∧ x_185 < 8) ∧ (0 ≤ x_186 ∧ x_186 < 6)) (a_14 : x_206 = x + 0) (a_15 : x_207 = y + 1) : ((0 : Int32) ≤ x_206 ∧ (x_206 : Int32) < 8) ∧ ((0 : Int32) ≤ x_207 ∧ (x_207 : Int32) < 6) := by grind
theorem z_c_X5_raking_300 (x : Int32) (y : Int32) (x_5 : Int32) (x_6 : Int32) (x_116 : Int32) (x_117 : Int32) (x_125 : Int32) (x_126 : Int32) (x_176 : Int32) (x_177 : Int32) (x_185 : Int32) (x_186 : Int32) (x_206 : Int32) (x_207 : Int32) (a_0 : (0 ≤ x ∧ x < 8) ∧ (0 ≤ y ∧ y < 6)) (a_1 : x_5 = x + 1) (a_2 : x_6 = y + 0) (a_3 : (0 ≤ x_5 ∧ x_5 < 8) ∧ (0 ≤ x_6 ∧ x_6 < 6)) (a_4 : x_116 = x + 1) (a_5 : x_117 = y + 0) (a_6 : x_125 = x + (-1)) (a_7 : x_126 = y + 0) (a_8 : (0 ≤ x_125 ∧ x_125 < 8) ∧ (0 ≤ x_126 ∧ x_126 < 6)) (a_9 : x_176 = x + (-1)) (a_10 : x_177 = y + 0) (a_11 : x_185 = x + 0) (a_12 : x_186 = y + 1) (a_13 : (0 ≤ x_185 ∧ x_185 < 8) ∧ (0 ≤ x_186 ∧ x_186 < 6)) (a_14 : x_206 = x + 0) (a_15 : x_207 = y + 1) : (0 ≤ x_206 ∧ x_206 < 8) ∧ (0 ≤ x_207 ∧ x_207 < 6) := by grind
theorem z_c_X5_raking_301 (x : Int32) (y : Int32) (x_5 : Int32) (x_6 : Int32) (x_116 : Int32) (x_117 : Int32) (x_125 : Int32) (x_126 : Int32) (x_176 : Int32) (x_177 : Int32) (x_185 : Int32) (x_186 : Int32) (x_206 : Int32) (x_207 : Int32) (x_215 : Int32) (x_216 : Int32) (a_0 : (0 ≤ x ∧ x < 8) ∧ (0 ≤ y ∧ y < 6)) (a_1 : x_5 = x + 1) (a_2 : x_6 = y + 0) (a_3 : (0 ≤ x_5 ∧ x_5 < 8) ∧ (0 ≤ x_6 ∧ x_6 < 6)) (a_4 : x_116 = x + 1) (a_5 : x_117 = y + 0) (a_6 : x_125 = x + (-1)) (a_7 : x_126 = y + 0) (a_8 : (0 ≤ x_125 ∧ x_125 < 8) ∧ (0 ≤ x_126 ∧ x_126 < 6)) (a_9 : x_176 = x + (-1)) (a_10 : x_177 = y + 0) (a_11 : x_185 = x + 0) (a_12 : x_186 = y + 1) (a_13 : (0 ≤ x_185 ∧ x_185 < 8) ∧ (0 ≤ x_186 ∧ x_186 < 6)) (a_14 : x_206 = x + 0) (a_15 : x_207 = y + 1) (a_16 : x_215 = x + 0) (a_17 : x_216 = y + (-1)) (a_18 : ¬ ((0 ≤ x_215 ∧ x_215 < 8) ∧ (0 ≤ x_216 ∧ x_216 < 6))) : (0 : Int32) = 0 := by grind
theorem z_c_X5_raking_302 (x : Int32) (y : Int32) (x_5 : Int32) (x_6 : Int32) (x_116 : Int32) (x_117 : Int32) (x_125 : Int32) (x_126 : Int32) (x_176 : Int32) (x_177 : Int32) (x_185 : Int32) (x_186 : Int32) (x_206 : Int32) (x_207 : Int32) (x_215 : Int32) (x_216 : Int32) (x_221 : Int32) (x_222 : Int32) (a_0 : (0 ≤ x ∧ x < 8) ∧ (0 ≤ y ∧ y < 6)) (a_1 : x_5 = x + 1) (a_2 : x_6 = y + 0) (a_3 : (0 ≤ x_5 ∧ x_5 < 8) ∧ (0 ≤ x_6 ∧ x_6 < 6)) (a_4 : x_116 = x + 1) (a_5 : x_117 = y + 0) (a_6 : x_125 = x + (-1)) (a_7 : x_126 = y + 0) (a_8 : (0 ≤ x_125 ∧ x_125 < 8) ∧ (0 ≤ x_126 ∧ x_126 < 6)) (a_9 : x_176 = x + (-1)) (a_10 : x_177 = y + 0) (a_11 : x_185 = x + 0) (a_12 : x_186 = y + 1) (a_13 : (0 ≤ x_185 ∧ x_185 < 8) ∧ (0 ≤ x_186 ∧ x_186 < 6)) (a_14 : x_206 = x + 0) (a_15 : x_207 = y + 1) (a_16 : x_215 = x + 0) (a_17 : x_216 = y + (-1)) (a_18 : (0 ≤ x_215 ∧ x_215 < 8) ∧ (0 ≤ x_216 ∧ x_216 < 6)) (a_19 : x_221 = x + 0) (a_20 : x_222 = y + (-1)) : ((0 : Int32) ≤ x_221 ∧ (x_221 : Int32) < 8) ∧ ((0 : Int32) ≤ x_222 ∧ (x_222 : Int32) < 6) := by grind
theorem z_c_X5_raking_303 (x : Int32) (y : Int32) (x_5 : Int32) (x_6 : Int32) (x_116 : Int32) (x_117 : Int32) (x_125 : Int32) (x_126 : Int32) (x_176 : Int32) (x_177 : Int32) (x_185 : Int32) (x_186 : Int32) (x_206 : Int32) (x_207 : Int32) (x_215 : Int32) (x_216 : Int32) (x_221 : Int32) (x_222 : Int32) (a_0 : (0 ≤ x ∧ x < 8) ∧ (0 ≤ y ∧ y < 6)) (a_1 : x_5 = x + 1) (a_2 : x_6 = y + 0) (a_3 : (0 ≤ x_5 ∧ x_5 < 8) ∧ (0 ≤ x_6 ∧ x_6 < 6)) (a_4 : x_116 = x + 1) (a_5 : x_117 = y + 0) (a_6 : x_125 = x + (-1)) (a_7 : x_126 = y + 0) (a_8 : (0 ≤ x_125 ∧ x_125 < 8) ∧ (0 ≤ x_126 ∧ x_126 < 6)) (a_9 : x_176 = x + (-1)) (a_10 : x_177 = y + 0) (a_11 : x_185 = x + 0) (a_12 : x_186 = y + 1) (a_13 : (0 ≤ x_185 ∧ x_185 < 8) ∧ (0 ≤ x_186 ∧ x_186 < 6)) (a_14 : x_206 = x + 0) (a_15 : x_207 = y + 1) (a_16 : x_215 = x + 0) (a_17 : x_216 = y + (-1)) (a_18 : (0 ≤ x_215 ∧ x_215 < 8) ∧ (0 ≤ x_216 ∧ x_216 < 6)) (a_19 : x_221 = x + 0) (a_20 : x_222 = y + (-1)) : (0 ≤ x_221 ∧ x_221 < 8) ∧ (0 ≤ x_222 ∧ x_222 < 6) := by grind
theorem z_c_X5_raking_304 (x : Int32) (y : Int32) (x_5 : Int32) (x_6 : Int32) (x_116 : Int32) (x_117 : Int32) (x_125 : Int32) (x_126 : Int32) (x_176 : Int32) (x_177 : Int32) (x_185 : Int32) (x_186 : Int32) (x_206 : Int32) (x_207 : Int32) (x_215 : Int32) (x_216 : Int32) (x_221 : Int32) (x_222 : Int32) (a_0 : (0 ≤ x ∧ x < 8) ∧ (0 ≤ y ∧ y < 6)) (a_1 : x_5 = x + 1) (a_2 : x_6 = y + 0) (a_3 : (0 ≤ x_5 ∧ x_5 < 8) ∧ (0 ≤ x_6 ∧ x_6 < 6)) (a_4 : x_116 = x + 1) (a_5 : x_117 = y + 0) (a_6 : x_125 = x + (-1)) (a_7 : x_126 = y + 0) (a_8 : (0 ≤ x_125 ∧ x_125 < 8) ∧ (0 ≤ x_126 ∧ x_126 < 6)) (a_9 : x_176 = x + (-1)) (a_10 : x_177 = y + 0) (a_11 : x_185 = x + 0) (a_12 : x_186 = y + 1) (a_13 : (0 ≤ x_185 ∧ x_185 < 8) ∧ (0 ≤ x_186 ∧ x_186 < 6)) (a_14 : x_206 = x + 0) (a_15 : x_207 = y + 1) (a_16 : x_215 = x + 0) (a_17 : x_216 = y + (-1)) (a_18 : (0 ≤ x_215 ∧ x_215 < 8) ∧ (0 ≤ x_216 ∧ x_216 < 6)) (a_19 : x_221 = x + 0) (a_20 : x_222 = y + (-1)) : (0 : Int32) = 0 := by grind
set_option maxRecDepth 100000 in
theorem gw_wsX11_isPlace : wsX11_isPlace.all goodWord = true := by decide +kernel
set_option maxRecDepth 100000 in
theorem gw_wsX8_height : wsX8_height.all goodWord = true := by decide +kernel
def wo_c_X5_raking_w : List Cond := [Cond.initialized RX11, Cond.static yX11_isPlace, Cond.methodLink RX5 65 Lib.Math.abs.name, Cond.static Lib.Math.abs.name, Cond.initialized "java/lang/Math", Cond.code Lib.Math.abs.name Lib.Math.abs.code 1 (some .int), Cond.methodLink RX5 70 Lib.Math.max.name, Cond.static Lib.Math.max.name, Cond.code Lib.Math.max.name Lib.Math.max.code 2 (some .int)]
def wo_c_X5_raking : List Cond := .code yX5_raking cX5_raking 7 (some .int) :: (wo_c_X5_raking_w ++ (wsV RX5 43 RX5 yX5_at wo_c_at ++ (wsV RX5 51 RX8 yX8_height wsX8_height ++ (wsX11_isPlace ++ List.nil))))
theorem gw_wo_c_X5_raking : wo_c_X5_raking.all goodWord = true := gw_c (by decide +kernel) (gw_a (by decide +kernel) (gw_a (gw_a (by decide +kernel) gw_wo_c_at) (gw_a (gw_a (by decide +kernel) gw_wsX8_height) (gw_a gw_wsX11_isPlace rfl))))
theorem go_c_X5_raking_0 : GoodIn wo_c_X5_raking (wsV RX5 43 RX5 yX5_at wo_c_at) := goodIn_sub (fun _ h => List.mem_cons_of_mem _ (List.mem_append_right _ (List.mem_append_left _ h))) (gw_a (by decide +kernel) gw_wo_c_at)
theorem go_c_X5_raking_1 : GoodIn wo_c_X5_raking (wsV RX5 51 RX8 yX8_height wsX8_height) := goodIn_sub (fun _ h => List.mem_cons_of_mem _ (List.mem_append_right _ (List.mem_append_right _ (List.mem_append_left _ h)))) (gw_a (by decide +kernel) gw_wsX8_height)
theorem go_c_X5_raking_2 : GoodIn wo_c_X5_raking (wsX11_isPlace) := goodIn_sub (fun _ h => List.mem_cons_of_mem _ (List.mem_append_right _ (List.mem_append_right _ (List.mem_append_right _ (List.mem_append_left _ h))))) gw_wsX11_isPlace
set_option maxHeartbeats 4000000 in
set_option maxRecDepth 100000 in
/-- Picture.raking -/
theorem c_X5_raking (l : Launch) (dC : Nat → ClassId) (dI : Nat → Nat → Nat) (b0 : Nat) (en : EnT) (sz : Nat) (q st sp ll : Nat) (g : Nat → Option Nat) (cS : ClassId) (N : Nat → Prop) (x y : Int32) (hxy : (0 ≤ x ∧ x < 8) ∧ (0 ≤ y ∧ y < 6)) (hNb : ∀ a, N a → b0 ≤ a ∧ a < sz) (hNw : ∀ a, N a → a ∉ List.map Prod.fst ([] : va_W)) (hNr : ∀ a, N a → a ∉ List.map Prod.fst ([(q, .inr (11, [.ref st, .ref sp, .ref ll, .int 0, .int 1600])), (st, .inl (cS, 48, .inr (.inr (.inr (.inr g)))))] : va_W)) : Met l yX5_raking wo_c_X5_raking ({ frames := 2, cells := 0, slots := 0, locals := 43 } : Room) (cP b0 en (dC, dI) [(cS, .object "Underpaint$Stack")] [] [(q, .inr (11, [.ref st, .ref sp, .ref ll, .int 0, .int 1600])), (st, .inl (cS, 48, .inr (.inr (.inr (.inr g)))))] sz (FamS (dC, dI) N g) [.ref q, .int x, .int y]) (va_Qi (fun (r : Int32) (_ : Unit) => r = 0) (fun _ _ => True) (va_A [] sz)) 0 0 (va_A [] sz) := by
  refine Met.ofW (cc := cX5_raking) (maxL := 7) (ret := (some .int)) (by decide) rfl ?_
  intro p e s m args below meth c s₁ B hml hv
  obtain ⟨rfl, hsz, hb0, hE, hPP, hK, hDD, hF0⟩ := hv
  have hx := B.exec
  have hb := B.bytes
  have hr := B.returns
  have hts := atoms_spec (ws := wo_c_X5_raking) B.pre
  have hown : s.vm.findClass RX5 = some m.cls := findClass_of_methodNamed B.named
  have hlocks := B.notSynchronized
  subst hsz
  have hN0 := en_N hPP hDD rfl
  have hP : va_P (dC, dI) vwCl [] s.heap := hPP.sub [] rfl
  have hR0 : va_P (dC, dI) vwCl [(q, .inr (11, [.ref st, .ref sp, .ref ll, .int 0, .int 1600])), (st, .inl (cS, 48, .inr (.inr (.inr (.inr g)))))] s.heap := hPP.sub [0, 1] rfl
  have hD0 : va_D (fun q => b0 ≤ q) [] := hDD.sub [] (by decide) rfl
  have hDr : va_D (fun q => b0 ≤ q) [(q, .inr (11, [.ref st, .ref sp, .ref ll, .int 0, .int 1600])), (st, .inl (cS, 48, .inr (.inr (.inr (.inr g)))))] := hDD.sub [0, 1] (by decide) rfl
  have hAb := en_A (sz := s.heap.size) hD0 hb0
  have hD := hD0.self (sz := s.heap.size)
  generalize hAe : va_A [] s.heap.size = A at hD hAb hN0 ⊢
  have hA : ∀ q : Nat, s.heap.size ≤ q → A q := fun q h => by rw [← hAe]; exact Or.inr h
  have hS : va_S A s.heap s.heap [] := va_S.rf
  have hR := hR0
  have hl := lv_entry [.ref q, .int x, .int y] (n := 7) (Nat.le_of_ble_eq_true rfl)
  rw [lg_entry_eq]
  generalize (lg_sl [.ref q, .int x, .int y] ++ List.replicate (7 - (lg_sl [.ref q, .int x, .int y]).length) Slot.unset).toArray = ls at hl ⊢
  have hl : lv_has ls 7 [(0, .ref q), (1, .int x), (2, .int y)] := hl
  have hR0b := hR0
  have hDrb := hDr
  have hN0b := hN0
  refine lv_aload_n hx hb dX5_raking_0 rfl (lv_at hl 0 rfl) ?_
  refine lv_iload_n hx hb dX5_raking_1 rfl (lv_at hl 1 rfl) ?_
  refine lv_iload_n hx hb dX5_raking_2 rfl (lv_at hl 2 rfl) ?_
  have hPc := (hP.app hR).sub (ws' := [] ++ [(q, .inr (11, [.ref st, .ref sp, .ref ll, .int 0, .int 1600])), (st, .inl (cS, 48, .inr (.inr (.inr (.inr g)))))]) [0, 1] rfl
  have hDc := (en_DD hD hDr hN0 hAb).sub (ws' := [] ++ [(q, .inr (11, [.ref st, .ref sp, .ref ll, .int 0, .int 1600])), (st, .inl (cS, 48, .inr (.inr (.inr (.inr g)))))]) [0, 1] (by decide) rfl
  have hKc := hK.sub (tys' := [(cS, .object "Underpaint$Stack")]) [0] rfl
  have hFc := va_free (wc := []) hD hS hA [] rfl
  refine va_callq (va_runV (As := [.int x, .int y]) (rest := []) ⟨hx, hb, hml, hown, hts⟩ (c_at l dC dI b0 en s.heap.size q st sp ll x y g cS (z_c_X5_raking_257 x y hxy)) (cwV 2 hts go_c_X5_raking_0 rfl rfl rfl (by decide +kernel) ⟨Nat.le_of_ble_eq_true rfl, Nat.le_of_ble_eq_true rfl⟩) ⟨cP.blind, va_recv hK hR (ci := 11) (q0 := 0) rfl rfl, cP.use (en_z hb0 hS) (hE.on hAb hS) hPc hKc hDc trivial⟩ rfl rfl hl.1 rfl (lv_room (Nat.le_of_ble_eq_true rfl)) dX5_raking_3 ⟨Nat.le_of_ble_eq_true rfl, Nat.le_of_ble_eq_true rfl⟩) hS (fun q _ h => hFc q h) hFc (fun r_1 u t H1 locs ht hvm hw hB hz1 hk1 hS => ?_)
  have hP1 : va_P (dC, dI) vwCl [] H1 := fun k q h => by simp at h
  have hD1 : va_D (va_A [] s.heap.size) [] := ⟨fun i j p q h => by simp at h, fun k q h => by simp at h⟩
  try dsimp only at hw
  obtain ⟨hP, hD⟩ := va_join (wr := []) (w1 := []) hP hD [] [] rfl rfl (by decide) (by decide) hk1 hFc hP1 hD1
  generalize H1 = H at hP hS ⊢
  have hP : va_P (dC, dI) vwCl [] H := hP
  have hD : va_D A [] := hD
  have hR := en_R hR0 hN0 hS
  refine W.widen (k := 0) (n := 0) (Nat.le_of_ble_eq_true rfl) (Nat.le_of_ble_eq_true rfl) ?_
  subst r_1
  obtain ⟨ap_2, rp_2, hgp_2, hup_2, hnp_2⟩ := hF0 (pidx x y) (pidx_lt (z_c_X5_raking_258 x y hxy))
  refine lv_topv (w := .ref ap_2) (by rw [hgp_2]; rfl) ?_
  have hxp_2 : ¬ A ap_2 := by rw [← hAe]; exact vA0 hup_2.lt
  have hR0 : va_P (dC, dI) vwCl [(q, .inr (11, [.ref st, .ref sp, .ref ll, .int 0, .int 1600])), (st, .inl (cS, 48, .inr (.inr (.inr (.inr g))))), (ap_2, .inr (14, [.ref rp_2, .int 0, .int 0]))] s.heap := (hR0b.app (va1 hup_2))
  have hDr : va_D (fun q => b0 ≤ q) [(q, .inr (11, [.ref st, .ref sp, .ref ll, .int 0, .int 1600])), (st, .inl (cS, 48, .inr (.inr (.inr (.inr g))))), (ap_2, .inr (14, [.ref rp_2, .int 0, .int 0]))] := (vD_push hDrb (hNb ap_2 hnp_2).1 (nR (hNr ap_2 hnp_2)))
  have hN0 : ∀ (k9 : Nat) (q9 : Nat × va_E), [(q, .inr (11, [.ref st, .ref sp, .ref ll, .int 0, .int 1600])), (st, .inl (cS, 48, .inr (.inr (.inr (.inr g))))), (ap_2, .inr (14, [.ref rp_2, .int 0, .int 0]))][k9]? = some q9 → ¬ A q9.1 := (vN_push hN0b hxp_2)
  have hR : va_P (dC, dI) vwCl [(q, .inr (11, [.ref st, .ref sp, .ref ll, .int 0, .int 1600])), (st, .inl (cS, 48, .inr (.inr (.inr (.inr g))))), (ap_2, .inr (14, [.ref rp_2, .int 0, .int 0]))] H := en_R hR0 hN0 hS
  have hPc := (hP.app hR).sub (ws' := [] ++ [(ap_2, .inr (14, [.ref rp_2, .int 0, .int 0]))]) [2] rfl
  have hDc := (en_DD hD hDr hN0 hAb).sub (ws' := [] ++ [(ap_2, .inr (14, [.ref rp_2, .int 0, .int 0]))]) [2] (by decide) rfl
  have hKc := hK.sub (tys' := []) [] rfl
  have hFc := va_free (wc := []) hD hS hA [] rfl
  refine va_calli (va_runV (As := []) (rest := []) ⟨hx, hb, hml, hown, hts⟩ (c_X8_height l dC dI b0 en H.size ap_2 rp_2) (cwV 0 hts go_c_X5_raking_1 rfl rfl rfl (by decide +kernel) ⟨Nat.le_of_ble_eq_true rfl, Nat.le_of_ble_eq_true rfl⟩) ⟨cP.blind, va_recv hK hR (ci := 14) (q0 := 2) rfl rfl, cP.use (en_z hb0 hS) (hE.on hAb hS) hPc hKc hDc trivial⟩ rfl rfl hl.1 rfl (lv_room (Nat.le_of_ble_eq_true rfl)) dX5_raking_6 ⟨Nat.le_of_ble_eq_true rfl, Nat.le_of_ble_eq_true rfl⟩) hS (fun q _ h => hFc q h) hFc (fun r_3 u t H1 locs ht hvm hw hB hz1 hk1 hS => ?_)
  have hP1 : va_P (dC, dI) vwCl [] H1 := fun k q h => by simp at h
  have hD1 : va_D (va_A [] H.size) [] := ⟨fun i j p q h => by simp at h, fun k q h => by simp at h⟩
  try dsimp only at hw
  obtain ⟨hP, hD⟩ := va_join (wr := []) (w1 := []) hP hD [] [] rfl rfl (by decide) (by decide) hk1 hFc hP1 hD1
  generalize H1 = H at hP hS ⊢
  have hP : va_P (dC, dI) vwCl [] H := hP
  have hD : va_D A [] := hD
  have hR := en_R hR0 hN0 hS
  refine W.widen (k := 0) (n := 0) (Nat.le_of_ble_eq_true rfl) (Nat.le_of_ble_eq_true rfl) ?_
  subst r_3
  refine lv_istore_n (lv' := [(3, .int 0), (0, .ref q), (1, .int x), (2, .int y)]) hx hb dX5_raking_9 rfl hl (by decide) rfl (fun ls hl => ?_)
  refine lv_iconst (v := 0) hx hb dX5_raking_10 (by decide) ?_
  refine lv_istore (lv' := [(4, .int 0), (3, .int 0), (0, .ref q), (1, .int x), (2, .int y)]) hx hb dX5_raking_11 hl (by decide) rfl (fun ls hl => ?_)
  refine lv_iconst (v := 0) hx hb dX5_raking_13 (by decide) ?_
  refine lv_istore (lv' := [(5, .int 0), (4, .int 0), (3, .int 0), (0, .ref q), (1, .int x), (2, .int y)]) hx hb dX5_raking_14 hl (by decide) rfl (fun ls hl => ?_)
  refine lv_iload hx hb dX5_raking_16 (lv_at hl 0 rfl) ?_
  refine lv_iconst (v := 4) hx hb dX5_raking_18 (by decide) ?_
  refine lv_icmp_ge (tgt := 89) hx hb dX5_raking_19 (by decide) (fun c_4 => absurd c_4 (by decide)) (fun c_4 => ?_)
  refine lv_iload_n hx hb dX5_raking_22 rfl (lv_at hl 4 rfl) ?_
  refine va_getsN hx hb (hE.sx hAb) hS hown (va_Nw.use rfl (hE.nf ("Underpaint$Picture", 55, "Underpaint", "SIDE_X", "[I", "Underpaint") (by decide +kernel))) (fun _ h9 => h9) dX5_raking_23 ?_
  refine lv_iload hx hb dX5_raking_26 (lv_at hl 0 rfl) ?_
  refine va_ti hx hb (hE.sxa hAb) hS (v := .int 1) (vp_in_nI (by decide : 0 < 4) (by decide)) rfl dX5_raking_28 ?_
  refine lv_iadd hx hb dX5_raking_29 ?_
  refine lv_topi (fun x_5 ex_5 => ?_)
  refine lv_iload_n hx hb dX5_raking_30 rfl (lv_at hl 5 rfl) ?_
  refine va_getsN hx hb (hE.sy hAb) hS hown (va_Nw.use rfl (hE.nf ("Underpaint$Picture", 58, "Underpaint", "SIDE_Y", "[I", "Underpaint") (by decide +kernel))) (fun _ h9 => h9) dX5_raking_31 ?_
  refine lv_iload hx hb dX5_raking_34 (lv_at hl 0 rfl) ?_
  refine va_ti hx hb (hE.sya hAb) hS (v := .int 0) (vp_in_nI (by decide : 0 < 4) (by decide)) rfl dX5_raking_36 ?_
  refine lv_iadd hx hb dX5_raking_37 ?_
  refine lv_topi (fun x_6 ex_6 => ?_)
  have hPc := (hP.app hR).sub (ws' := [] ++ []) [] rfl
  have hDc := (en_DD hD hDr hN0 hAb).sub (ws' := [] ++ []) [] (by decide) rfl
  have hKc := hK.sub (tys' := []) [] rfl
  have hFc := va_free (wc := []) hD hS hA [] rfl
  refine va_calli (va_runSN (As := [.int x_5, .int x_6]) (rest := []) ⟨hx, hb, hml, hown, hts⟩ (c_X11_isPlace l dC dI b0 en H.size x_5 x_6) ⟨va_cnB 2 hts go_c_X5_raking_2 rfl rfl rfl (hE.nm ("Underpaint$Picture", 61, ⟨"Underpaint", "isPlace", "(II)Z"⟩, "Underpaint") (by decide +kernel)) (hts (.initialized RX11) (by decide +kernel)) (by decide +kernel) ⟨Nat.le_of_ble_eq_true rfl, Nat.le_of_ble_eq_true rfl⟩, hts (.static yX11_isPlace) (by decide +kernel), trivial⟩ ⟨cP.blind, cP.use (en_z hb0 hS) (hE.on hAb hS) hPc hKc hDc trivial⟩ rfl rfl hl.1 rfl (lv_room (Nat.le_of_ble_eq_true rfl)) dX5_raking_38 ⟨Nat.le_of_ble_eq_true rfl, Nat.le_of_ble_eq_true rfl⟩) hS (fun q _ h => hFc q h) hFc (fun r_7 u t H1 locs ht hvm hw hB hz1 hk1 hS => ?_)
  have hP1 : va_P (dC, dI) vwCl [] H1 := fun k q h => by simp at h
  have hD1 : va_D (va_A [] H.size) [] := ⟨fun i j p q h => by simp at h, fun k q h => by simp at h⟩
  try dsimp only at hw
  obtain ⟨hP, hD⟩ := va_join (wr := []) (w1 := []) hP hD [] [] rfl rfl (by decide) (by decide) hk1 hFc hP1 hD1
  generalize H1 = H at hP hS ⊢
  have hP : va_P (dC, dI) vwCl [] H := hP
  have hD : va_D A [] := hD
  have hR := en_R hR0 hN0 hS
  refine W.widen (k := 0) (n := 0) (Nat.le_of_ble_eq_true rfl) (Nat.le_of_ble_eq_true rfl) ?_
  have h_8 := hw
  refine lv_if_eq (tgt := 83) hx hb dX5_raking_41 (by decide) (fun c_9 => ?_) (fun c_9 => ?_)
  · skip
    refine lv_iinc (v := 1) (lv' := [(5, .int 1), (4, .int 0), (3, .int 0), (0, .ref q), (1, .int x), (2, .int y)]) hx hb dX5_raking_83 hl (k := 0) rfl (by decide) (by decide) rfl (fun ls hl => ?_)
    refine lv_goto (tgt := 16) hx hb dX5_raking_86 (by decide) ?_
    refine lv_iload hx hb dX5_raking_16 (lv_at hl 0 rfl) ?_
    refine lv_iconst (v := 4) hx hb dX5_raking_18 (by decide) ?_
    refine lv_icmp_ge (tgt := 89) hx hb dX5_raking_19 (by decide) (fun c_10 => absurd c_10 (by decide)) (fun c_10 => ?_)
    refine lv_iload_n hx hb dX5_raking_22 rfl (lv_at hl 4 rfl) ?_
    refine va_getsN hx hb (hE.sx hAb) hS hown (va_Nw.use rfl (hE.nf ("Underpaint$Picture", 55, "Underpaint", "SIDE_X", "[I", "Underpaint") (by decide +kernel))) (fun _ h9 => h9) dX5_raking_23 ?_
    refine lv_iload hx hb dX5_raking_26 (lv_at hl 0 rfl) ?_
    refine va_ti hx hb (hE.sxa hAb) hS (v := .int (-1)) (vp_in_nI (by decide : 1 < 4) (by decide)) rfl dX5_raking_28 ?_
    refine lv_iadd hx hb dX5_raking_29 ?_
    refine lv_topi (fun x_11 ex_11 => ?_)
    refine lv_iload_n hx hb dX5_raking_30 rfl (lv_at hl 5 rfl) ?_
    refine va_getsN hx hb (hE.sy hAb) hS hown (va_Nw.use rfl (hE.nf ("Underpaint$Picture", 58, "Underpaint", "SIDE_Y", "[I", "Underpaint") (by decide +kernel))) (fun _ h9 => h9) dX5_raking_31 ?_
    refine lv_iload hx hb dX5_raking_34 (lv_at hl 0 rfl) ?_
    refine va_ti hx hb (hE.sya hAb) hS (v := .int 0) (vp_in_nI (by decide : 1 < 4) (by decide)) rfl dX5_raking_36 ?_
    refine lv_iadd hx hb dX5_raking_37 ?_
    refine lv_topi (fun x_12 ex_12 => ?_)
    have hPc := (hP.app hR).sub (ws' := [] ++ []) [] rfl
    have hDc := (en_DD hD hDr hN0 hAb).sub (ws' := [] ++ []) [] (by decide) rfl
    have hKc := hK.sub (tys' := []) [] rfl
    have hFc := va_free (wc := []) hD hS hA [] rfl
    refine va_calli (va_runSN (As := [.int x_11, .int x_12]) (rest := []) ⟨hx, hb, hml, hown, hts⟩ (c_X11_isPlace l dC dI b0 en H.size x_11 x_12) ⟨va_cnB 2 hts go_c_X5_raking_2 rfl rfl rfl (hE.nm ("Underpaint$Picture", 61, ⟨"Underpaint", "isPlace", "(II)Z"⟩, "Underpaint") (by decide +kernel)) (hts (.initialized RX11) (by decide +kernel)) (by decide +kernel) ⟨Nat.le_of_ble_eq_true rfl, Nat.le_of_ble_eq_true rfl⟩, hts (.static yX11_isPlace) (by decide +kernel), trivial⟩ ⟨cP.blind, cP.use (en_z hb0 hS) (hE.on hAb hS) hPc hKc hDc trivial⟩ rfl rfl hl.1 rfl (lv_room (Nat.le_of_ble_eq_true rfl)) dX5_raking_38 ⟨Nat.le_of_ble_eq_true rfl, Nat.le_of_ble_eq_true rfl⟩) hS (fun q _ h => hFc q h) hFc (fun r_13 u t H1 locs ht hvm hw hB hz1 hk1 hS => ?_)
    have hP1 : va_P (dC, dI) vwCl [] H1 := fun k q h => by simp at h
    have hD1 : va_D (va_A [] H.size) [] := ⟨fun i j p q h => by simp at h, fun k q h => by simp at h⟩
    try dsimp only at hw
    obtain ⟨hP, hD⟩ := va_join (wr := []) (w1 := []) hP hD [] [] rfl rfl (by decide) (by decide) hk1 hFc hP1 hD1
    generalize H1 = H at hP hS ⊢
    have hP : va_P (dC, dI) vwCl [] H := hP
    have hD : va_D A [] := hD
    have hR := en_R hR0 hN0 hS
    refine W.widen (k := 0) (n := 0) (Nat.le_of_ble_eq_true rfl) (Nat.le_of_ble_eq_true rfl) ?_
    have h_14 := hw
    refine lv_if_eq (tgt := 83) hx hb dX5_raking_41 (by decide) (fun c_15 => ?_) (fun c_15 => ?_)
    · skip
      refine lv_iinc (v := 2) (lv' := [(5, .int 2), (4, .int 0), (3, .int 0), (0, .ref q), (1, .int x), (2, .int y)]) hx hb dX5_raking_83 hl (k := 0) rfl (by decide) (by decide) rfl (fun ls hl => ?_)
      refine lv_goto (tgt := 16) hx hb dX5_raking_86 (by decide) ?_
      refine lv_iload hx hb dX5_raking_16 (lv_at hl 0 rfl) ?_
      refine lv_iconst (v := 4) hx hb dX5_raking_18 (by decide) ?_
      refine lv_icmp_ge (tgt := 89) hx hb dX5_raking_19 (by decide) (fun c_16 => absurd c_16 (by decide)) (fun c_16 => ?_)
      refine lv_iload_n hx hb dX5_raking_22 rfl (lv_at hl 4 rfl) ?_
      refine va_getsN hx hb (hE.sx hAb) hS hown (va_Nw.use rfl (hE.nf ("Underpaint$Picture", 55, "Underpaint", "SIDE_X", "[I", "Underpaint") (by decide +kernel))) (fun _ h9 => h9) dX5_raking_23 ?_
      refine lv_iload hx hb dX5_raking_26 (lv_at hl 0 rfl) ?_
      refine va_ti hx hb (hE.sxa hAb) hS (v := .int 0) (vp_in_nI (by decide : 2 < 4) (by decide)) rfl dX5_raking_28 ?_
      refine lv_iadd hx hb dX5_raking_29 ?_
      refine lv_topi (fun x_17 ex_17 => ?_)
      refine lv_iload_n hx hb dX5_raking_30 rfl (lv_at hl 5 rfl) ?_
      refine va_getsN hx hb (hE.sy hAb) hS hown (va_Nw.use rfl (hE.nf ("Underpaint$Picture", 58, "Underpaint", "SIDE_Y", "[I", "Underpaint") (by decide +kernel))) (fun _ h9 => h9) dX5_raking_31 ?_
      refine lv_iload hx hb dX5_raking_34 (lv_at hl 0 rfl) ?_
      refine va_ti hx hb (hE.sya hAb) hS (v := .int 1) (vp_in_nI (by decide : 2 < 4) (by decide)) rfl dX5_raking_36 ?_
      refine lv_iadd hx hb dX5_raking_37 ?_
      refine lv_topi (fun x_18 ex_18 => ?_)
      have hPc := (hP.app hR).sub (ws' := [] ++ []) [] rfl
      have hDc := (en_DD hD hDr hN0 hAb).sub (ws' := [] ++ []) [] (by decide) rfl
      have hKc := hK.sub (tys' := []) [] rfl
      have hFc := va_free (wc := []) hD hS hA [] rfl
      refine va_calli (va_runSN (As := [.int x_17, .int x_18]) (rest := []) ⟨hx, hb, hml, hown, hts⟩ (c_X11_isPlace l dC dI b0 en H.size x_17 x_18) ⟨va_cnB 2 hts go_c_X5_raking_2 rfl rfl rfl (hE.nm ("Underpaint$Picture", 61, ⟨"Underpaint", "isPlace", "(II)Z"⟩, "Underpaint") (by decide +kernel)) (hts (.initialized RX11) (by decide +kernel)) (by decide +kernel) ⟨Nat.le_of_ble_eq_true rfl, Nat.le_of_ble_eq_true rfl⟩, hts (.static yX11_isPlace) (by decide +kernel), trivial⟩ ⟨cP.blind, cP.use (en_z hb0 hS) (hE.on hAb hS) hPc hKc hDc trivial⟩ rfl rfl hl.1 rfl (lv_room (Nat.le_of_ble_eq_true rfl)) dX5_raking_38 ⟨Nat.le_of_ble_eq_true rfl, Nat.le_of_ble_eq_true rfl⟩) hS (fun q _ h => hFc q h) hFc (fun r_19 u t H1 locs ht hvm hw hB hz1 hk1 hS => ?_)
      have hP1 : va_P (dC, dI) vwCl [] H1 := fun k q h => by simp at h
      have hD1 : va_D (va_A [] H.size) [] := ⟨fun i j p q h => by simp at h, fun k q h => by simp at h⟩
      try dsimp only at hw
      obtain ⟨hP, hD⟩ := va_join (wr := []) (w1 := []) hP hD [] [] rfl rfl (by decide) (by decide) hk1 hFc hP1 hD1
      generalize H1 = H at hP hS ⊢
      have hP : va_P (dC, dI) vwCl [] H := hP
      have hD : va_D A [] := hD
      have hR := en_R hR0 hN0 hS
      refine W.widen (k := 0) (n := 0) (Nat.le_of_ble_eq_true rfl) (Nat.le_of_ble_eq_true rfl) ?_
      have h_20 := hw
      refine lv_if_eq (tgt := 83) hx hb dX5_raking_41 (by decide) (fun c_21 => ?_) (fun c_21 => ?_)
      · skip
        refine lv_iinc (v := 3) (lv' := [(5, .int 3), (4, .int 0), (3, .int 0), (0, .ref q), (1, .int x), (2, .int y)]) hx hb dX5_raking_83 hl (k := 0) rfl (by decide) (by decide) rfl (fun ls hl => ?_)
        refine lv_goto (tgt := 16) hx hb dX5_raking_86 (by decide) ?_
        refine lv_iload hx hb dX5_raking_16 (lv_at hl 0 rfl) ?_
        refine lv_iconst (v := 4) hx hb dX5_raking_18 (by decide) ?_
        refine lv_icmp_ge (tgt := 89) hx hb dX5_raking_19 (by decide) (fun c_22 => absurd c_22 (by decide)) (fun c_22 => ?_)
        refine lv_iload_n hx hb dX5_raking_22 rfl (lv_at hl 4 rfl) ?_
        refine va_getsN hx hb (hE.sx hAb) hS hown (va_Nw.use rfl (hE.nf ("Underpaint$Picture", 55, "Underpaint", "SIDE_X", "[I", "Underpaint") (by decide +kernel))) (fun _ h9 => h9) dX5_raking_23 ?_
        refine lv_iload hx hb dX5_raking_26 (lv_at hl 0 rfl) ?_
        refine va_ti hx hb (hE.sxa hAb) hS (v := .int 0) (vp_in_nI (by decide : 3 < 4) (by decide)) rfl dX5_raking_28 ?_
        refine lv_iadd hx hb dX5_raking_29 ?_
        refine lv_topi (fun x_23 ex_23 => ?_)
        refine lv_iload_n hx hb dX5_raking_30 rfl (lv_at hl 5 rfl) ?_
        refine va_getsN hx hb (hE.sy hAb) hS hown (va_Nw.use rfl (hE.nf ("Underpaint$Picture", 58, "Underpaint", "SIDE_Y", "[I", "Underpaint") (by decide +kernel))) (fun _ h9 => h9) dX5_raking_31 ?_
        refine lv_iload hx hb dX5_raking_34 (lv_at hl 0 rfl) ?_
        refine va_ti hx hb (hE.sya hAb) hS (v := .int (-1)) (vp_in_nI (by decide : 3 < 4) (by decide)) rfl dX5_raking_36 ?_
        refine lv_iadd hx hb dX5_raking_37 ?_
        refine lv_topi (fun x_24 ex_24 => ?_)
        have hPc := (hP.app hR).sub (ws' := [] ++ []) [] rfl
        have hDc := (en_DD hD hDr hN0 hAb).sub (ws' := [] ++ []) [] (by decide) rfl
        have hKc := hK.sub (tys' := []) [] rfl
        have hFc := va_free (wc := []) hD hS hA [] rfl
        refine va_calli (va_runSN (As := [.int x_23, .int x_24]) (rest := []) ⟨hx, hb, hml, hown, hts⟩ (c_X11_isPlace l dC dI b0 en H.size x_23 x_24) ⟨va_cnB 2 hts go_c_X5_raking_2 rfl rfl rfl (hE.nm ("Underpaint$Picture", 61, ⟨"Underpaint", "isPlace", "(II)Z"⟩, "Underpaint") (by decide +kernel)) (hts (.initialized RX11) (by decide +kernel)) (by decide +kernel) ⟨Nat.le_of_ble_eq_true rfl, Nat.le_of_ble_eq_true rfl⟩, hts (.static yX11_isPlace) (by decide +kernel), trivial⟩ ⟨cP.blind, cP.use (en_z hb0 hS) (hE.on hAb hS) hPc hKc hDc trivial⟩ rfl rfl hl.1 rfl (lv_room (Nat.le_of_ble_eq_true rfl)) dX5_raking_38 ⟨Nat.le_of_ble_eq_true rfl, Nat.le_of_ble_eq_true rfl⟩) hS (fun q _ h => hFc q h) hFc (fun r_25 u t H1 locs ht hvm hw hB hz1 hk1 hS => ?_)
        have hP1 : va_P (dC, dI) vwCl [] H1 := fun k q h => by simp at h
        have hD1 : va_D (va_A [] H.size) [] := ⟨fun i j p q h => by simp at h, fun k q h => by simp at h⟩
        try dsimp only at hw
        obtain ⟨hP, hD⟩ := va_join (wr := []) (w1 := []) hP hD [] [] rfl rfl (by decide) (by decide) hk1 hFc hP1 hD1
        generalize H1 = H at hP hS ⊢
        have hP : va_P (dC, dI) vwCl [] H := hP
        have hD : va_D A [] := hD
        have hR := en_R hR0 hN0 hS
        refine W.widen (k := 0) (n := 0) (Nat.le_of_ble_eq_true rfl) (Nat.le_of_ble_eq_true rfl) ?_
        have h_26 := hw
        refine lv_if_eq (tgt := 83) hx hb dX5_raking_41 (by decide) (fun c_27 => ?_) (fun c_27 => ?_)
        · skip
          refine lv_iinc (v := 4) (lv' := [(5, .int 4), (4, .int 0), (3, .int 0), (0, .ref q), (1, .int x), (2, .int y)]) hx hb dX5_raking_83 hl (k := 0) rfl (by decide) (by decide) rfl (fun ls hl => ?_)
          refine lv_goto (tgt := 16) hx hb dX5_raking_86 (by decide) ?_
          refine lv_iload hx hb dX5_raking_16 (lv_at hl 0 rfl) ?_
          refine lv_iconst (v := 4) hx hb dX5_raking_18 (by decide) ?_
          refine lv_icmp_ge (tgt := 89) hx hb dX5_raking_19 (by decide) (fun c_28 => ?_) (fun c_28 => absurd c_28 (by decide))
          refine lv_iload hx hb dX5_raking_89 (lv_at hl 1 rfl) ?_
          refine W.widen (k := 0) (n := 0) (Nat.le_of_ble_eq_true rfl) (Nat.le_of_ble_eq_true rfl) ?_
          exact W.iret (v := 0) hx hb hr (fun t ht hW => ⟨⟨0, (), rfl, (z_c_X5_raking_259 x y x_5 x_6 x_11 x_12 x_17 x_18 x_23 x_24 hxy ex_5 ex_6 (b_no h_8 c_9) ex_11 ex_12 (b_no h_14 c_15) ex_17 ex_18 (b_no h_20 c_21) ex_23 ex_24 (b_no h_26 c_27)), trivial⟩, hS.F ht⟩) hS.2.2 dX5_raking_91
        · skip
          refine lv_aload_n hx hb dX5_raking_44 rfl (lv_at hl 3 rfl) ?_
          refine lv_iload_n hx hb dX5_raking_45 rfl (lv_at hl 4 rfl) ?_
          refine va_getsN hx hb (hE.sx hAb) hS hown (va_Nw.use rfl (hE.nf ("Underpaint$Picture", 55, "Underpaint", "SIDE_X", "[I", "Underpaint") (by decide +kernel))) (fun _ h9 => h9) dX5_raking_46 ?_
          refine lv_iload hx hb dX5_raking_49 (lv_at hl 0 rfl) ?_
          refine va_ti hx hb (hE.sxa hAb) hS (v := .int 0) (vp_in_nI (by decide : 3 < 4) (by decide)) rfl dX5_raking_51 ?_
          refine lv_iadd hx hb dX5_raking_52 ?_
          refine lv_topi (fun x_29 ex_29 => ?_)
          refine lv_iload_n hx hb dX5_raking_53 rfl (lv_at hl 5 rfl) ?_
          refine va_getsN hx hb (hE.sy hAb) hS hown (va_Nw.use rfl (hE.nf ("Underpaint$Picture", 58, "Underpaint", "SIDE_Y", "[I", "Underpaint") (by decide +kernel))) (fun _ h9 => h9) dX5_raking_54 ?_
          refine lv_iload hx hb dX5_raking_57 (lv_at hl 0 rfl) ?_
          refine va_ti hx hb (hE.sya hAb) hS (v := .int (-1)) (vp_in_nI (by decide : 3 < 4) (by decide)) rfl dX5_raking_59 ?_
          refine lv_iadd hx hb dX5_raking_60 ?_
          refine lv_topi (fun x_30 ex_30 => ?_)
          have hPc := (hP.app hR).sub (ws' := [] ++ [(q, .inr (11, [.ref st, .ref sp, .ref ll, .int 0, .int 1600])), (st, .inl (cS, 48, .inr (.inr (.inr (.inr g)))))]) [0, 1] rfl
          have hDc := (en_DD hD hDr hN0 hAb).sub (ws' := [] ++ [(q, .inr (11, [.ref st, .ref sp, .ref ll, .int 0, .int 1600])), (st, .inl (cS, 48, .inr (.inr (.inr (.inr g)))))]) [0, 1] (by decide) rfl
          have hKc := hK.sub (tys' := [(cS, .object "Underpaint$Stack")]) [0] rfl
          have hFc := va_free (wc := []) hD hS hA [] rfl
          refine va_callq (va_runV (As := [.int x_29, .int x_30]) (rest := []) ⟨hx, hb, hml, hown, hts⟩ (c_at l dC dI b0 en H.size q st sp ll x_29 x_30 g cS (z_c_X5_raking_260 x y x_5 x_6 x_11 x_12 x_17 x_18 x_23 x_24 x_29 x_30 hxy ex_5 ex_6 (b_no h_8 c_9) ex_11 ex_12 (b_no h_14 c_15) ex_17 ex_18 (b_no h_20 c_21) ex_23 ex_24 (b_yes h_26 c_27) ex_29 ex_30)) (cwV 2 hts go_c_X5_raking_0 rfl rfl rfl (by decide +kernel) ⟨Nat.le_of_ble_eq_true rfl, Nat.le_of_ble_eq_true rfl⟩) ⟨cP.blind, va_recv hK hR (ci := 11) (q0 := 0) rfl rfl, cP.use (en_z hb0 hS) (hE.on hAb hS) hPc hKc hDc trivial⟩ rfl rfl hl.1 rfl (lv_room (Nat.le_of_ble_eq_true rfl)) dX5_raking_61 ⟨Nat.le_of_ble_eq_true rfl, Nat.le_of_ble_eq_true rfl⟩) hS (fun q _ h => hFc q h) hFc (fun r_31 u t H1 locs ht hvm hw hB hz1 hk1 hS => ?_)
          have hP1 : va_P (dC, dI) vwCl [] H1 := fun k q h => by simp at h
          have hD1 : va_D (va_A [] H.size) [] := ⟨fun i j p q h => by simp at h, fun k q h => by simp at h⟩
          try dsimp only at hw
          obtain ⟨hP, hD⟩ := va_join (wr := []) (w1 := []) hP hD [] [] rfl rfl (by decide) (by decide) hk1 hFc hP1 hD1
          generalize H1 = H at hP hS ⊢
          have hP : va_P (dC, dI) vwCl [] H := hP
          have hD : va_D A [] := hD
          have hR := en_R hR0 hN0 hS
          refine W.widen (k := 0) (n := 0) (Nat.le_of_ble_eq_true rfl) (Nat.le_of_ble_eq_true rfl) ?_
          subst r_31
          obtain ⟨ap_32, rp_32, hgp_32, hup_32, hnp_32⟩ := hF0 (pidx x_29 x_30) (pidx_lt (z_c_X5_raking_261 x y x_5 x_6 x_11 x_12 x_17 x_18 x_23 x_24 x_29 x_30 hxy ex_5 ex_6 (b_no h_8 c_9) ex_11 ex_12 (b_no h_14 c_15) ex_17 ex_18 (b_no h_20 c_21) ex_23 ex_24 (b_yes h_26 c_27) ex_29 ex_30))
          refine lv_topv (w := .ref ap_32) (by rw [hgp_32]; rfl) ?_
          have hxp_32 : ¬ A ap_32 := by rw [← hAe]; exact vA0 hup_32.lt
          have hR0 : va_P (dC, dI) vwCl [(q, .inr (11, [.ref st, .ref sp, .ref ll, .int 0, .int 1600])), (st, .inl (cS, 48, .inr (.inr (.inr (.inr g))))), (ap_32, .inr (14, [.ref rp_32, .int 0, .int 0]))] s.heap := (hR0b.app (va1 hup_32))
          have hDr : va_D (fun q => b0 ≤ q) [(q, .inr (11, [.ref st, .ref sp, .ref ll, .int 0, .int 1600])), (st, .inl (cS, 48, .inr (.inr (.inr (.inr g))))), (ap_32, .inr (14, [.ref rp_32, .int 0, .int 0]))] := (vD_push hDrb (hNb ap_32 hnp_32).1 (nR (hNr ap_32 hnp_32)))
          have hN0 : ∀ (k9 : Nat) (q9 : Nat × va_E), [(q, .inr (11, [.ref st, .ref sp, .ref ll, .int 0, .int 1600])), (st, .inl (cS, 48, .inr (.inr (.inr (.inr g))))), (ap_32, .inr (14, [.ref rp_32, .int 0, .int 0]))][k9]? = some q9 → ¬ A q9.1 := (vN_push hN0b hxp_32)
          have hR : va_P (dC, dI) vwCl [(q, .inr (11, [.ref st, .ref sp, .ref ll, .int 0, .int 1600])), (st, .inl (cS, 48, .inr (.inr (.inr (.inr g))))), (ap_32, .inr (14, [.ref rp_32, .int 0, .int 0]))] H := en_R hR0 hN0 hS
          have hPc := (hP.app hR).sub (ws' := [] ++ [(ap_32, .inr (14, [.ref rp_32, .int 0, .int 0]))]) [2] rfl
          have hDc := (en_DD hD hDr hN0 hAb).sub (ws' := [] ++ [(ap_32, .inr (14, [.ref rp_32, .int 0, .int 0]))]) [2] (by decide) rfl
          have hKc := hK.sub (tys' := []) [] rfl
          have hFc := va_free (wc := []) hD hS hA [] rfl
          refine va_calli (va_runV (As := []) (rest := []) ⟨hx, hb, hml, hown, hts⟩ (c_X8_height l dC dI b0 en H.size ap_32 rp_32) (cwV 0 hts go_c_X5_raking_1 rfl rfl rfl (by decide +kernel) ⟨Nat.le_of_ble_eq_true rfl, Nat.le_of_ble_eq_true rfl⟩) ⟨cP.blind, va_recv hK hR (ci := 14) (q0 := 2) rfl rfl, cP.use (en_z hb0 hS) (hE.on hAb hS) hPc hKc hDc trivial⟩ rfl rfl hl.1 rfl (lv_room (Nat.le_of_ble_eq_true rfl)) dX5_raking_64 ⟨Nat.le_of_ble_eq_true rfl, Nat.le_of_ble_eq_true rfl⟩) hS (fun q _ h => hFc q h) hFc (fun r_33 u t H1 locs ht hvm hw hB hz1 hk1 hS => ?_)
          have hP1 : va_P (dC, dI) vwCl [] H1 := fun k q h => by simp at h
          have hD1 : va_D (va_A [] H.size) [] := ⟨fun i j p q h => by simp at h, fun k q h => by simp at h⟩
          try dsimp only at hw
          obtain ⟨hP, hD⟩ := va_join (wr := []) (w1 := []) hP hD [] [] rfl rfl (by decide) (by decide) hk1 hFc hP1 hD1
          generalize H1 = H at hP hS ⊢
          have hP : va_P (dC, dI) vwCl [] H := hP
          have hD : va_D A [] := hD
          have hR := en_R hR0 hN0 hS
          refine W.widen (k := 0) (n := 0) (Nat.le_of_ble_eq_true rfl) (Nat.le_of_ble_eq_true rfl) ?_
          subst r_33
          refine lv_iload_n hx hb dX5_raking_67 rfl (lv_at hl 2 rfl) ?_
          refine lv_isub hx hb dX5_raking_68 ?_
          refine lv_topi (fun x_34 ex_34 => ?_)
          obtain rfl : x_34 = 0 := ex_34.trans (by decide)
          refine lv_istore (lv' := [(6, .int 0), (5, .int 3), (4, .int 0), (3, .int 0), (0, .ref q), (1, .int x), (2, .int y)]) hx hb dX5_raking_69 hl (by decide) rfl (fun ls hl => ?_)
          refine lv_iload hx hb dX5_raking_71 (lv_at hl 2 rfl) ?_
          refine lv_iload hx hb dX5_raking_73 (lv_at hl 0 rfl) ?_
          refine va_mabs hx hb (hml.trans hl.1.symm) hown (hts (.methodLink RX5 65 Lib.Math.abs.name) (by decide +kernel)) (hts (.static Lib.Math.abs.name) (by decide +kernel)) (hts (.initialized "java/lang/Math") (by decide +kernel)) (hts (.code Lib.Math.abs.name Lib.Math.abs.code 1 (some .int)) (by decide +kernel)) (Nat.le_of_ble_eq_true rfl) (Nat.le_of_ble_eq_true rfl) (Nat.le_of_ble_eq_true rfl) (Nat.le_of_ble_eq_true rfl) dX5_raking_75 ?_
          refine lv_topi (fun x_35 ex_35 => ?_)
          obtain rfl : x_35 = 0 := ex_35.trans (by decide)
          refine va_mmax hx hb (hml.trans hl.1.symm) hown (hts (.methodLink RX5 70 Lib.Math.max.name) (by decide +kernel)) (hts (.static Lib.Math.max.name) (by decide +kernel)) (hts (.initialized "java/lang/Math") (by decide +kernel)) (hts (.code Lib.Math.max.name Lib.Math.max.code 2 (some .int)) (by decide +kernel)) (Nat.le_of_ble_eq_true rfl) (Nat.le_of_ble_eq_true rfl) (Nat.le_of_ble_eq_true rfl) (Nat.le_of_ble_eq_true rfl) dX5_raking_78 ?_
          refine lv_topi (fun x_36 ex_36 => ?_)
          obtain rfl : x_36 = 0 := ex_36.trans (by decide)
          refine lv_istore (lv' := [(4, .int 0), (6, .int 0), (5, .int 3), (3, .int 0), (0, .ref q), (1, .int x), (2, .int y)]) hx hb dX5_raking_81 hl (by decide) rfl (fun ls hl => ?_)
          refine lv_iinc (v := 4) (lv' := [(5, .int 4), (4, .int 0), (6, .int 0), (3, .int 0), (0, .ref q), (1, .int x), (2, .int y)]) hx hb dX5_raking_83 hl (k := 2) rfl (by decide) (by decide) rfl (fun ls hl => ?_)
          refine lv_goto (tgt := 16) hx hb dX5_raking_86 (by decide) ?_
          refine lv_iload hx hb dX5_raking_16 (lv_at hl 0 rfl) ?_
          refine lv_iconst (v := 4) hx hb dX5_raking_18 (by decide) ?_
          refine lv_icmp_ge (tgt := 89) hx hb dX5_raking_19 (by decide) (fun c_37 => ?_) (fun c_37 => absurd c_37 (by decide))
          refine lv_iload hx hb dX5_raking_89 (lv_at hl 1 rfl) ?_
          refine W.widen (k := 0) (n := 0) (Nat.le_of_ble_eq_true rfl) (Nat.le_of_ble_eq_true rfl) ?_
          exact W.iret (v := 0) hx hb hr (fun t ht hW => ⟨⟨0, (), rfl, (z_c_X5_raking_262 x y x_5 x_6 x_11 x_12 x_17 x_18 x_23 x_24 x_29 x_30 hxy ex_5 ex_6 (b_no h_8 c_9) ex_11 ex_12 (b_no h_14 c_15) ex_17 ex_18 (b_no h_20 c_21) ex_23 ex_24 (b_yes h_26 c_27) ex_29 ex_30), trivial⟩, hS.F ht⟩) hS.2.2 dX5_raking_91
      · skip
        refine lv_aload_n hx hb dX5_raking_44 rfl (lv_at hl 3 rfl) ?_
        refine lv_iload_n hx hb dX5_raking_45 rfl (lv_at hl 4 rfl) ?_
        refine va_getsN hx hb (hE.sx hAb) hS hown (va_Nw.use rfl (hE.nf ("Underpaint$Picture", 55, "Underpaint", "SIDE_X", "[I", "Underpaint") (by decide +kernel))) (fun _ h9 => h9) dX5_raking_46 ?_
        refine lv_iload hx hb dX5_raking_49 (lv_at hl 0 rfl) ?_
        refine va_ti hx hb (hE.sxa hAb) hS (v := .int 0) (vp_in_nI (by decide : 2 < 4) (by decide)) rfl dX5_raking_51 ?_
        refine lv_iadd hx hb dX5_raking_52 ?_
        refine lv_topi (fun x_38 ex_38 => ?_)
        refine lv_iload_n hx hb dX5_raking_53 rfl (lv_at hl 5 rfl) ?_
        refine va_getsN hx hb (hE.sy hAb) hS hown (va_Nw.use rfl (hE.nf ("Underpaint$Picture", 58, "Underpaint", "SIDE_Y", "[I", "Underpaint") (by decide +kernel))) (fun _ h9 => h9) dX5_raking_54 ?_
        refine lv_iload hx hb dX5_raking_57 (lv_at hl 0 rfl) ?_
        refine va_ti hx hb (hE.sya hAb) hS (v := .int 1) (vp_in_nI (by decide : 2 < 4) (by decide)) rfl dX5_raking_59 ?_
        refine lv_iadd hx hb dX5_raking_60 ?_
        refine lv_topi (fun x_39 ex_39 => ?_)
        have hPc := (hP.app hR).sub (ws' := [] ++ [(q, .inr (11, [.ref st, .ref sp, .ref ll, .int 0, .int 1600])), (st, .inl (cS, 48, .inr (.inr (.inr (.inr g)))))]) [0, 1] rfl
        have hDc := (en_DD hD hDr hN0 hAb).sub (ws' := [] ++ [(q, .inr (11, [.ref st, .ref sp, .ref ll, .int 0, .int 1600])), (st, .inl (cS, 48, .inr (.inr (.inr (.inr g)))))]) [0, 1] (by decide) rfl
        have hKc := hK.sub (tys' := [(cS, .object "Underpaint$Stack")]) [0] rfl
        have hFc := va_free (wc := []) hD hS hA [] rfl
        refine va_callq (va_runV (As := [.int x_38, .int x_39]) (rest := []) ⟨hx, hb, hml, hown, hts⟩ (c_at l dC dI b0 en H.size q st sp ll x_38 x_39 g cS (z_c_X5_raking_263 x y x_5 x_6 x_11 x_12 x_17 x_18 x_38 x_39 hxy ex_5 ex_6 (b_no h_8 c_9) ex_11 ex_12 (b_no h_14 c_15) ex_17 ex_18 (b_yes h_20 c_21) ex_38 ex_39)) (cwV 2 hts go_c_X5_raking_0 rfl rfl rfl (by decide +kernel) ⟨Nat.le_of_ble_eq_true rfl, Nat.le_of_ble_eq_true rfl⟩) ⟨cP.blind, va_recv hK hR (ci := 11) (q0 := 0) rfl rfl, cP.use (en_z hb0 hS) (hE.on hAb hS) hPc hKc hDc trivial⟩ rfl rfl hl.1 rfl (lv_room (Nat.le_of_ble_eq_true rfl)) dX5_raking_61 ⟨Nat.le_of_ble_eq_true rfl, Nat.le_of_ble_eq_true rfl⟩) hS (fun q _ h => hFc q h) hFc (fun r_40 u t H1 locs ht hvm hw hB hz1 hk1 hS => ?_)
        have hP1 : va_P (dC, dI) vwCl [] H1 := fun k q h => by simp at h
        have hD1 : va_D (va_A [] H.size) [] := ⟨fun i j p q h => by simp at h, fun k q h => by simp at h⟩
        try dsimp only at hw
        obtain ⟨hP, hD⟩ := va_join (wr := []) (w1 := []) hP hD [] [] rfl rfl (by decide) (by decide) hk1 hFc hP1 hD1
        generalize H1 = H at hP hS ⊢
        have hP : va_P (dC, dI) vwCl [] H := hP
        have hD : va_D A [] := hD
        have hR := en_R hR0 hN0 hS
        refine W.widen (k := 0) (n := 0) (Nat.le_of_ble_eq_true rfl) (Nat.le_of_ble_eq_true rfl) ?_
        subst r_40
        obtain ⟨ap_41, rp_41, hgp_41, hup_41, hnp_41⟩ := hF0 (pidx x_38 x_39) (pidx_lt (z_c_X5_raking_264 x y x_5 x_6 x_11 x_12 x_17 x_18 x_38 x_39 hxy ex_5 ex_6 (b_no h_8 c_9) ex_11 ex_12 (b_no h_14 c_15) ex_17 ex_18 (b_yes h_20 c_21) ex_38 ex_39))
        refine lv_topv (w := .ref ap_41) (by rw [hgp_41]; rfl) ?_
        have hxp_41 : ¬ A ap_41 := by rw [← hAe]; exact vA0 hup_41.lt
        have hR0 : va_P (dC, dI) vwCl [(q, .inr (11, [.ref st, .ref sp, .ref ll, .int 0, .int 1600])), (st, .inl (cS, 48, .inr (.inr (.inr (.inr g))))), (ap_41, .inr (14, [.ref rp_41, .int 0, .int 0]))] s.heap := (hR0b.app (va1 hup_41))
        have hDr : va_D (fun q => b0 ≤ q) [(q, .inr (11, [.ref st, .ref sp, .ref ll, .int 0, .int 1600])), (st, .inl (cS, 48, .inr (.inr (.inr (.inr g))))), (ap_41, .inr (14, [.ref rp_41, .int 0, .int 0]))] := (vD_push hDrb (hNb ap_41 hnp_41).1 (nR (hNr ap_41 hnp_41)))
        have hN0 : ∀ (k9 : Nat) (q9 : Nat × va_E), [(q, .inr (11, [.ref st, .ref sp, .ref ll, .int 0, .int 1600])), (st, .inl (cS, 48, .inr (.inr (.inr (.inr g))))), (ap_41, .inr (14, [.ref rp_41, .int 0, .int 0]))][k9]? = some q9 → ¬ A q9.1 := (vN_push hN0b hxp_41)
        have hR : va_P (dC, dI) vwCl [(q, .inr (11, [.ref st, .ref sp, .ref ll, .int 0, .int 1600])), (st, .inl (cS, 48, .inr (.inr (.inr (.inr g))))), (ap_41, .inr (14, [.ref rp_41, .int 0, .int 0]))] H := en_R hR0 hN0 hS
        have hPc := (hP.app hR).sub (ws' := [] ++ [(ap_41, .inr (14, [.ref rp_41, .int 0, .int 0]))]) [2] rfl
        have hDc := (en_DD hD hDr hN0 hAb).sub (ws' := [] ++ [(ap_41, .inr (14, [.ref rp_41, .int 0, .int 0]))]) [2] (by decide) rfl
        have hKc := hK.sub (tys' := []) [] rfl
        have hFc := va_free (wc := []) hD hS hA [] rfl
        refine va_calli (va_runV (As := []) (rest := []) ⟨hx, hb, hml, hown, hts⟩ (c_X8_height l dC dI b0 en H.size ap_41 rp_41) (cwV 0 hts go_c_X5_raking_1 rfl rfl rfl (by decide +kernel) ⟨Nat.le_of_ble_eq_true rfl, Nat.le_of_ble_eq_true rfl⟩) ⟨cP.blind, va_recv hK hR (ci := 14) (q0 := 2) rfl rfl, cP.use (en_z hb0 hS) (hE.on hAb hS) hPc hKc hDc trivial⟩ rfl rfl hl.1 rfl (lv_room (Nat.le_of_ble_eq_true rfl)) dX5_raking_64 ⟨Nat.le_of_ble_eq_true rfl, Nat.le_of_ble_eq_true rfl⟩) hS (fun q _ h => hFc q h) hFc (fun r_42 u t H1 locs ht hvm hw hB hz1 hk1 hS => ?_)
        have hP1 : va_P (dC, dI) vwCl [] H1 := fun k q h => by simp at h
        have hD1 : va_D (va_A [] H.size) [] := ⟨fun i j p q h => by simp at h, fun k q h => by simp at h⟩
        try dsimp only at hw
        obtain ⟨hP, hD⟩ := va_join (wr := []) (w1 := []) hP hD [] [] rfl rfl (by decide) (by decide) hk1 hFc hP1 hD1
        generalize H1 = H at hP hS ⊢
        have hP : va_P (dC, dI) vwCl [] H := hP
        have hD : va_D A [] := hD
        have hR := en_R hR0 hN0 hS
        refine W.widen (k := 0) (n := 0) (Nat.le_of_ble_eq_true rfl) (Nat.le_of_ble_eq_true rfl) ?_
        subst r_42
        refine lv_iload_n hx hb dX5_raking_67 rfl (lv_at hl 2 rfl) ?_
        refine lv_isub hx hb dX5_raking_68 ?_
        refine lv_topi (fun x_43 ex_43 => ?_)
        obtain rfl : x_43 = 0 := ex_43.trans (by decide)
        refine lv_istore (lv' := [(6, .int 0), (5, .int 2), (4, .int 0), (3, .int 0), (0, .ref q), (1, .int x), (2, .int y)]) hx hb dX5_raking_69 hl (by decide) rfl (fun ls hl => ?_)
        refine lv_iload hx hb dX5_raking_71 (lv_at hl 2 rfl) ?_
        refine lv_iload hx hb dX5_raking_73 (lv_at hl 0 rfl) ?_
        refine va_mabs hx hb (hml.trans hl.1.symm) hown (hts (.methodLink RX5 65 Lib.Math.abs.name) (by decide +kernel)) (hts (.static Lib.Math.abs.name) (by decide +kernel)) (hts (.initialized "java/lang/Math") (by decide +kernel)) (hts (.code Lib.Math.abs.name Lib.Math.abs.code 1 (some .int)) (by decide +kernel)) (Nat.le_of_ble_eq_true rfl) (Nat.le_of_ble_eq_true rfl) (Nat.le_of_ble_eq_true rfl) (Nat.le_of_ble_eq_true rfl) dX5_raking_75 ?_
        refine lv_topi (fun x_44 ex_44 => ?_)
        obtain rfl : x_44 = 0 := ex_44.trans (by decide)
        refine va_mmax hx hb (hml.trans hl.1.symm) hown (hts (.methodLink RX5 70 Lib.Math.max.name) (by decide +kernel)) (hts (.static Lib.Math.max.name) (by decide +kernel)) (hts (.initialized "java/lang/Math") (by decide +kernel)) (hts (.code Lib.Math.max.name Lib.Math.max.code 2 (some .int)) (by decide +kernel)) (Nat.le_of_ble_eq_true rfl) (Nat.le_of_ble_eq_true rfl) (Nat.le_of_ble_eq_true rfl) (Nat.le_of_ble_eq_true rfl) dX5_raking_78 ?_
        refine lv_topi (fun x_45 ex_45 => ?_)
        obtain rfl : x_45 = 0 := ex_45.trans (by decide)
        refine lv_istore (lv' := [(4, .int 0), (6, .int 0), (5, .int 2), (3, .int 0), (0, .ref q), (1, .int x), (2, .int y)]) hx hb dX5_raking_81 hl (by decide) rfl (fun ls hl => ?_)
        refine lv_iinc (v := 3) (lv' := [(5, .int 3), (4, .int 0), (6, .int 0), (3, .int 0), (0, .ref q), (1, .int x), (2, .int y)]) hx hb dX5_raking_83 hl (k := 2) rfl (by decide) (by decide) rfl (fun ls hl => ?_)
        refine lv_goto (tgt := 16) hx hb dX5_raking_86 (by decide) ?_
        refine lv_iload hx hb dX5_raking_16 (lv_at hl 0 rfl) ?_
        refine lv_iconst (v := 4) hx hb dX5_raking_18 (by decide) ?_
        refine lv_icmp_ge (tgt := 89) hx hb dX5_raking_19 (by decide) (fun c_46 => absurd c_46 (by decide)) (fun c_46 => ?_)
        refine lv_iload_n hx hb dX5_raking_22 rfl (lv_at hl 5 rfl) ?_
        refine va_getsN hx hb (hE.sx hAb) hS hown (va_Nw.use rfl (hE.nf ("Underpaint$Picture", 55, "Underpaint", "SIDE_X", "[I", "Underpaint") (by decide +kernel))) (fun _ h9 => h9) dX5_raking_23 ?_
        refine lv_iload hx hb dX5_raking_26 (lv_at hl 0 rfl) ?_
        refine va_ti hx hb (hE.sxa hAb) hS (v := .int 0) (vp_in_nI (by decide : 3 < 4) (by decide)) rfl dX5_raking_28 ?_
        refine lv_iadd hx hb dX5_raking_29 ?_
        refine lv_topi (fun x_47 ex_47 => ?_)
        refine lv_iload_n hx hb dX5_raking_30 rfl (lv_at hl 6 rfl) ?_
        refine va_getsN hx hb (hE.sy hAb) hS hown (va_Nw.use rfl (hE.nf ("Underpaint$Picture", 58, "Underpaint", "SIDE_Y", "[I", "Underpaint") (by decide +kernel))) (fun _ h9 => h9) dX5_raking_31 ?_
        refine lv_iload hx hb dX5_raking_34 (lv_at hl 0 rfl) ?_
        refine va_ti hx hb (hE.sya hAb) hS (v := .int (-1)) (vp_in_nI (by decide : 3 < 4) (by decide)) rfl dX5_raking_36 ?_
        refine lv_iadd hx hb dX5_raking_37 ?_
        refine lv_topi (fun x_48 ex_48 => ?_)
        have hPc := (hP.app hR).sub (ws' := [] ++ []) [] rfl
        have hDc := (en_DD hD hDr hN0 hAb).sub (ws' := [] ++ []) [] (by decide) rfl
        have hKc := hK.sub (tys' := []) [] rfl
        have hFc := va_free (wc := []) hD hS hA [] rfl
        refine va_calli (va_runSN (As := [.int x_47, .int x_48]) (rest := []) ⟨hx, hb, hml, hown, hts⟩ (c_X11_isPlace l dC dI b0 en H.size x_47 x_48) ⟨va_cnB 2 hts go_c_X5_raking_2 rfl rfl rfl (hE.nm ("Underpaint$Picture", 61, ⟨"Underpaint", "isPlace", "(II)Z"⟩, "Underpaint") (by decide +kernel)) (hts (.initialized RX11) (by decide +kernel)) (by decide +kernel) ⟨Nat.le_of_ble_eq_true rfl, Nat.le_of_ble_eq_true rfl⟩, hts (.static yX11_isPlace) (by decide +kernel), trivial⟩ ⟨cP.blind, cP.use (en_z hb0 hS) (hE.on hAb hS) hPc hKc hDc trivial⟩ rfl rfl hl.1 rfl (lv_room (Nat.le_of_ble_eq_true rfl)) dX5_raking_38 ⟨Nat.le_of_ble_eq_true rfl, Nat.le_of_ble_eq_true rfl⟩) hS (fun q _ h => hFc q h) hFc (fun r_49 u t H1 locs ht hvm hw hB hz1 hk1 hS => ?_)
        have hP1 : va_P (dC, dI) vwCl [] H1 := fun k q h => by simp at h
        have hD1 : va_D (va_A [] H.size) [] := ⟨fun i j p q h => by simp at h, fun k q h => by simp at h⟩
        try dsimp only at hw
        obtain ⟨hP, hD⟩ := va_join (wr := []) (w1 := []) hP hD [] [] rfl rfl (by decide) (by decide) hk1 hFc hP1 hD1
        generalize H1 = H at hP hS ⊢
        have hP : va_P (dC, dI) vwCl [] H := hP
        have hD : va_D A [] := hD
        have hR := en_R hR0 hN0 hS
        refine W.widen (k := 0) (n := 0) (Nat.le_of_ble_eq_true rfl) (Nat.le_of_ble_eq_true rfl) ?_
        have h_50 := hw
        refine lv_if_eq (tgt := 83) hx hb dX5_raking_41 (by decide) (fun c_51 => ?_) (fun c_51 => ?_)
        · skip
          refine lv_iinc (v := 4) (lv' := [(5, .int 4), (4, .int 0), (6, .int 0), (3, .int 0), (0, .ref q), (1, .int x), (2, .int y)]) hx hb dX5_raking_83 hl (k := 0) rfl (by decide) (by decide) rfl (fun ls hl => ?_)
          refine lv_goto (tgt := 16) hx hb dX5_raking_86 (by decide) ?_
          refine lv_iload hx hb dX5_raking_16 (lv_at hl 0 rfl) ?_
          refine lv_iconst (v := 4) hx hb dX5_raking_18 (by decide) ?_
          refine lv_icmp_ge (tgt := 89) hx hb dX5_raking_19 (by decide) (fun c_52 => ?_) (fun c_52 => absurd c_52 (by decide))
          refine lv_iload hx hb dX5_raking_89 (lv_at hl 1 rfl) ?_
          refine W.widen (k := 0) (n := 0) (Nat.le_of_ble_eq_true rfl) (Nat.le_of_ble_eq_true rfl) ?_
          exact W.iret (v := 0) hx hb hr (fun t ht hW => ⟨⟨0, (), rfl, (z_c_X5_raking_265 x y x_5 x_6 x_11 x_12 x_17 x_18 x_38 x_39 x_47 x_48 hxy ex_5 ex_6 (b_no h_8 c_9) ex_11 ex_12 (b_no h_14 c_15) ex_17 ex_18 (b_yes h_20 c_21) ex_38 ex_39 ex_47 ex_48 (b_no h_50 c_51)), trivial⟩, hS.F ht⟩) hS.2.2 dX5_raking_91
        · skip
          refine lv_aload_n hx hb dX5_raking_44 rfl (lv_at hl 4 rfl) ?_
          refine lv_iload_n hx hb dX5_raking_45 rfl (lv_at hl 5 rfl) ?_
          refine va_getsN hx hb (hE.sx hAb) hS hown (va_Nw.use rfl (hE.nf ("Underpaint$Picture", 55, "Underpaint", "SIDE_X", "[I", "Underpaint") (by decide +kernel))) (fun _ h9 => h9) dX5_raking_46 ?_
          refine lv_iload hx hb dX5_raking_49 (lv_at hl 0 rfl) ?_
          refine va_ti hx hb (hE.sxa hAb) hS (v := .int 0) (vp_in_nI (by decide : 3 < 4) (by decide)) rfl dX5_raking_51 ?_
          refine lv_iadd hx hb dX5_raking_52 ?_
          refine lv_topi (fun x_53 ex_53 => ?_)
          refine lv_iload_n hx hb dX5_raking_53 rfl (lv_at hl 6 rfl) ?_
          refine va_getsN hx hb (hE.sy hAb) hS hown (va_Nw.use rfl (hE.nf ("Underpaint$Picture", 58, "Underpaint", "SIDE_Y", "[I", "Underpaint") (by decide +kernel))) (fun _ h9 => h9) dX5_raking_54 ?_
          refine lv_iload hx hb dX5_raking_57 (lv_at hl 0 rfl) ?_
          refine va_ti hx hb (hE.sya hAb) hS (v := .int (-1)) (vp_in_nI (by decide : 3 < 4) (by decide)) rfl dX5_raking_59 ?_
          refine lv_iadd hx hb dX5_raking_60 ?_
          refine lv_topi (fun x_54 ex_54 => ?_)
          have hPc := (hP.app hR).sub (ws' := [] ++ [(q, .inr (11, [.ref st, .ref sp, .ref ll, .int 0, .int 1600])), (st, .inl (cS, 48, .inr (.inr (.inr (.inr g)))))]) [0, 1] rfl
          have hDc := (en_DD hD hDr hN0 hAb).sub (ws' := [] ++ [(q, .inr (11, [.ref st, .ref sp, .ref ll, .int 0, .int 1600])), (st, .inl (cS, 48, .inr (.inr (.inr (.inr g)))))]) [0, 1] (by decide) rfl
          have hKc := hK.sub (tys' := [(cS, .object "Underpaint$Stack")]) [0] rfl
          have hFc := va_free (wc := []) hD hS hA [] rfl
          refine va_callq (va_runV (As := [.int x_53, .int x_54]) (rest := []) ⟨hx, hb, hml, hown, hts⟩ (c_at l dC dI b0 en H.size q st sp ll x_53 x_54 g cS (z_c_X5_raking_266 x y x_5 x_6 x_11 x_12 x_17 x_18 x_38 x_39 x_47 x_48 x_53 x_54 hxy ex_5 ex_6 (b_no h_8 c_9) ex_11 ex_12 (b_no h_14 c_15) ex_17 ex_18 (b_yes h_20 c_21) ex_38 ex_39 ex_47 ex_48 (b_yes h_50 c_51) ex_53 ex_54)) (cwV 2 hts go_c_X5_raking_0 rfl rfl rfl (by decide +kernel) ⟨Nat.le_of_ble_eq_true rfl, Nat.le_of_ble_eq_true rfl⟩) ⟨cP.blind, va_recv hK hR (ci := 11) (q0 := 0) rfl rfl, cP.use (en_z hb0 hS) (hE.on hAb hS) hPc hKc hDc trivial⟩ rfl rfl hl.1 rfl (lv_room (Nat.le_of_ble_eq_true rfl)) dX5_raking_61 ⟨Nat.le_of_ble_eq_true rfl, Nat.le_of_ble_eq_true rfl⟩) hS (fun q _ h => hFc q h) hFc (fun r_55 u t H1 locs ht hvm hw hB hz1 hk1 hS => ?_)
          have hP1 : va_P (dC, dI) vwCl [] H1 := fun k q h => by simp at h
          have hD1 : va_D (va_A [] H.size) [] := ⟨fun i j p q h => by simp at h, fun k q h => by simp at h⟩
          try dsimp only at hw
          obtain ⟨hP, hD⟩ := va_join (wr := []) (w1 := []) hP hD [] [] rfl rfl (by decide) (by decide) hk1 hFc hP1 hD1
          generalize H1 = H at hP hS ⊢
          have hP : va_P (dC, dI) vwCl [] H := hP
          have hD : va_D A [] := hD
          have hR := en_R hR0 hN0 hS
          refine W.widen (k := 0) (n := 0) (Nat.le_of_ble_eq_true rfl) (Nat.le_of_ble_eq_true rfl) ?_
          subst r_55
          obtain ⟨ap_56, rp_56, hgp_56, hup_56, hnp_56⟩ := hF0 (pidx x_53 x_54) (pidx_lt (z_c_X5_raking_267 x y x_5 x_6 x_11 x_12 x_17 x_18 x_38 x_39 x_47 x_48 x_53 x_54 hxy ex_5 ex_6 (b_no h_8 c_9) ex_11 ex_12 (b_no h_14 c_15) ex_17 ex_18 (b_yes h_20 c_21) ex_38 ex_39 ex_47 ex_48 (b_yes h_50 c_51) ex_53 ex_54))
          refine lv_topv (w := .ref ap_56) (by rw [hgp_56]; rfl) ?_
          have hxp_56 : ¬ A ap_56 := by rw [← hAe]; exact vA0 hup_56.lt
          have hR0 : va_P (dC, dI) vwCl [(q, .inr (11, [.ref st, .ref sp, .ref ll, .int 0, .int 1600])), (st, .inl (cS, 48, .inr (.inr (.inr (.inr g))))), (ap_56, .inr (14, [.ref rp_56, .int 0, .int 0]))] s.heap := (hR0b.app (va1 hup_56))
          have hDr : va_D (fun q => b0 ≤ q) [(q, .inr (11, [.ref st, .ref sp, .ref ll, .int 0, .int 1600])), (st, .inl (cS, 48, .inr (.inr (.inr (.inr g))))), (ap_56, .inr (14, [.ref rp_56, .int 0, .int 0]))] := (vD_push hDrb (hNb ap_56 hnp_56).1 (nR (hNr ap_56 hnp_56)))
          have hN0 : ∀ (k9 : Nat) (q9 : Nat × va_E), [(q, .inr (11, [.ref st, .ref sp, .ref ll, .int 0, .int 1600])), (st, .inl (cS, 48, .inr (.inr (.inr (.inr g))))), (ap_56, .inr (14, [.ref rp_56, .int 0, .int 0]))][k9]? = some q9 → ¬ A q9.1 := (vN_push hN0b hxp_56)
          have hR : va_P (dC, dI) vwCl [(q, .inr (11, [.ref st, .ref sp, .ref ll, .int 0, .int 1600])), (st, .inl (cS, 48, .inr (.inr (.inr (.inr g))))), (ap_56, .inr (14, [.ref rp_56, .int 0, .int 0]))] H := en_R hR0 hN0 hS
          have hPc := (hP.app hR).sub (ws' := [] ++ [(ap_56, .inr (14, [.ref rp_56, .int 0, .int 0]))]) [2] rfl
          have hDc := (en_DD hD hDr hN0 hAb).sub (ws' := [] ++ [(ap_56, .inr (14, [.ref rp_56, .int 0, .int 0]))]) [2] (by decide) rfl
          have hKc := hK.sub (tys' := []) [] rfl
          have hFc := va_free (wc := []) hD hS hA [] rfl
          refine va_calli (va_runV (As := []) (rest := []) ⟨hx, hb, hml, hown, hts⟩ (c_X8_height l dC dI b0 en H.size ap_56 rp_56) (cwV 0 hts go_c_X5_raking_1 rfl rfl rfl (by decide +kernel) ⟨Nat.le_of_ble_eq_true rfl, Nat.le_of_ble_eq_true rfl⟩) ⟨cP.blind, va_recv hK hR (ci := 14) (q0 := 2) rfl rfl, cP.use (en_z hb0 hS) (hE.on hAb hS) hPc hKc hDc trivial⟩ rfl rfl hl.1 rfl (lv_room (Nat.le_of_ble_eq_true rfl)) dX5_raking_64 ⟨Nat.le_of_ble_eq_true rfl, Nat.le_of_ble_eq_true rfl⟩) hS (fun q _ h => hFc q h) hFc (fun r_57 u t H1 locs ht hvm hw hB hz1 hk1 hS => ?_)
          have hP1 : va_P (dC, dI) vwCl [] H1 := fun k q h => by simp at h
          have hD1 : va_D (va_A [] H.size) [] := ⟨fun i j p q h => by simp at h, fun k q h => by simp at h⟩
          try dsimp only at hw
          obtain ⟨hP, hD⟩ := va_join (wr := []) (w1 := []) hP hD [] [] rfl rfl (by decide) (by decide) hk1 hFc hP1 hD1
          generalize H1 = H at hP hS ⊢
          have hP : va_P (dC, dI) vwCl [] H := hP
          have hD : va_D A [] := hD
          have hR := en_R hR0 hN0 hS
          refine W.widen (k := 0) (n := 0) (Nat.le_of_ble_eq_true rfl) (Nat.le_of_ble_eq_true rfl) ?_
          subst r_57
          refine lv_iload_n hx hb dX5_raking_67 rfl (lv_at hl 3 rfl) ?_
          refine lv_isub hx hb dX5_raking_68 ?_
          refine lv_topi (fun x_58 ex_58 => ?_)
          obtain rfl : x_58 = 0 := ex_58.trans (by decide)
          refine lv_istore (lv' := [(6, .int 0), (5, .int 3), (4, .int 0), (3, .int 0), (0, .ref q), (1, .int x), (2, .int y)]) hx hb dX5_raking_69 hl (by decide) rfl (fun ls hl => ?_)
          refine lv_iload hx hb dX5_raking_71 (lv_at hl 2 rfl) ?_
          refine lv_iload hx hb dX5_raking_73 (lv_at hl 0 rfl) ?_
          refine va_mabs hx hb (hml.trans hl.1.symm) hown (hts (.methodLink RX5 65 Lib.Math.abs.name) (by decide +kernel)) (hts (.static Lib.Math.abs.name) (by decide +kernel)) (hts (.initialized "java/lang/Math") (by decide +kernel)) (hts (.code Lib.Math.abs.name Lib.Math.abs.code 1 (some .int)) (by decide +kernel)) (Nat.le_of_ble_eq_true rfl) (Nat.le_of_ble_eq_true rfl) (Nat.le_of_ble_eq_true rfl) (Nat.le_of_ble_eq_true rfl) dX5_raking_75 ?_
          refine lv_topi (fun x_59 ex_59 => ?_)
          obtain rfl : x_59 = 0 := ex_59.trans (by decide)
          refine va_mmax hx hb (hml.trans hl.1.symm) hown (hts (.methodLink RX5 70 Lib.Math.max.name) (by decide +kernel)) (hts (.static Lib.Math.max.name) (by decide +kernel)) (hts (.initialized "java/lang/Math") (by decide +kernel)) (hts (.code Lib.Math.max.name Lib.Math.max.code 2 (some .int)) (by decide +kernel)) (Nat.le_of_ble_eq_true rfl) (Nat.le_of_ble_eq_true rfl) (Nat.le_of_ble_eq_true rfl) (Nat.le_of_ble_eq_true rfl) dX5_raking_78 ?_
          refine lv_topi (fun x_60 ex_60 => ?_)
          obtain rfl : x_60 = 0 := ex_60.trans (by decide)
          refine lv_istore (lv' := [(4, .int 0), (6, .int 0), (5, .int 3), (3, .int 0), (0, .ref q), (1, .int x), (2, .int y)]) hx hb dX5_raking_81 hl (by decide) rfl (fun ls hl => ?_)
          refine lv_iinc (v := 4) (lv' := [(5, .int 4), (4, .int 0), (6, .int 0), (3, .int 0), (0, .ref q), (1, .int x), (2, .int y)]) hx hb dX5_raking_83 hl (k := 2) rfl (by decide) (by decide) rfl (fun ls hl => ?_)
          refine lv_goto (tgt := 16) hx hb dX5_raking_86 (by decide) ?_
          refine lv_iload hx hb dX5_raking_16 (lv_at hl 0 rfl) ?_
          refine lv_iconst (v := 4) hx hb dX5_raking_18 (by decide) ?_
          refine lv_icmp_ge (tgt := 89) hx hb dX5_raking_19 (by decide) (fun c_61 => ?_) (fun c_61 => absurd c_61 (by decide))
          refine lv_iload hx hb dX5_raking_89 (lv_at hl 1 rfl) ?_
          refine W.widen (k := 0) (n := 0) (Nat.le_of_ble_eq_true rfl) (Nat.le_of_ble_eq_true rfl) ?_
          exact W.iret (v := 0) hx hb hr (fun t ht hW => ⟨⟨0, (), rfl, (z_c_X5_raking_268 x y x_5 x_6 x_11 x_12 x_17 x_18 x_38 x_39 x_47 x_48 x_53 x_54 hxy ex_5 ex_6 (b_no h_8 c_9) ex_11 ex_12 (b_no h_14 c_15) ex_17 ex_18 (b_yes h_20 c_21) ex_38 ex_39 ex_47 ex_48 (b_yes h_50 c_51) ex_53 ex_54), trivial⟩, hS.F ht⟩) hS.2.2 dX5_raking_91
    · skip
      refine lv_aload_n hx hb dX5_raking_44 rfl (lv_at hl 3 rfl) ?_
      refine lv_iload_n hx hb dX5_raking_45 rfl (lv_at hl 4 rfl) ?_
      refine va_getsN hx hb (hE.sx hAb) hS hown (va_Nw.use rfl (hE.nf ("Underpaint$Picture", 55, "Underpaint", "SIDE_X", "[I", "Underpaint") (by decide +kernel))) (fun _ h9 => h9) dX5_raking_46 ?_
      refine lv_iload hx hb dX5_raking_49 (lv_at hl 0 rfl) ?_
      refine va_ti hx hb (hE.sxa hAb) hS (v := .int (-1)) (vp_in_nI (by decide : 1 < 4) (by decide)) rfl dX5_raking_51 ?_
      refine lv_iadd hx hb dX5_raking_52 ?_
      refine lv_topi (fun x_62 ex_62 => ?_)
      refine lv_iload_n hx hb dX5_raking_53 rfl (lv_at hl 5 rfl) ?_
      refine va_getsN hx hb (hE.sy hAb) hS hown (va_Nw.use rfl (hE.nf ("Underpaint$Picture", 58, "Underpaint", "SIDE_Y", "[I", "Underpaint") (by decide +kernel))) (fun _ h9 => h9) dX5_raking_54 ?_
      refine lv_iload hx hb dX5_raking_57 (lv_at hl 0 rfl) ?_
      refine va_ti hx hb (hE.sya hAb) hS (v := .int 0) (vp_in_nI (by decide : 1 < 4) (by decide)) rfl dX5_raking_59 ?_
      refine lv_iadd hx hb dX5_raking_60 ?_
      refine lv_topi (fun x_63 ex_63 => ?_)
      have hPc := (hP.app hR).sub (ws' := [] ++ [(q, .inr (11, [.ref st, .ref sp, .ref ll, .int 0, .int 1600])), (st, .inl (cS, 48, .inr (.inr (.inr (.inr g)))))]) [0, 1] rfl
      have hDc := (en_DD hD hDr hN0 hAb).sub (ws' := [] ++ [(q, .inr (11, [.ref st, .ref sp, .ref ll, .int 0, .int 1600])), (st, .inl (cS, 48, .inr (.inr (.inr (.inr g)))))]) [0, 1] (by decide) rfl
      have hKc := hK.sub (tys' := [(cS, .object "Underpaint$Stack")]) [0] rfl
      have hFc := va_free (wc := []) hD hS hA [] rfl
      refine va_callq (va_runV (As := [.int x_62, .int x_63]) (rest := []) ⟨hx, hb, hml, hown, hts⟩ (c_at l dC dI b0 en H.size q st sp ll x_62 x_63 g cS (z_c_X5_raking_269 x y x_5 x_6 x_11 x_12 x_62 x_63 hxy ex_5 ex_6 (b_no h_8 c_9) ex_11 ex_12 (b_yes h_14 c_15) ex_62 ex_63)) (cwV 2 hts go_c_X5_raking_0 rfl rfl rfl (by decide +kernel) ⟨Nat.le_of_ble_eq_true rfl, Nat.le_of_ble_eq_true rfl⟩) ⟨cP.blind, va_recv hK hR (ci := 11) (q0 := 0) rfl rfl, cP.use (en_z hb0 hS) (hE.on hAb hS) hPc hKc hDc trivial⟩ rfl rfl hl.1 rfl (lv_room (Nat.le_of_ble_eq_true rfl)) dX5_raking_61 ⟨Nat.le_of_ble_eq_true rfl, Nat.le_of_ble_eq_true rfl⟩) hS (fun q _ h => hFc q h) hFc (fun r_64 u t H1 locs ht hvm hw hB hz1 hk1 hS => ?_)
      have hP1 : va_P (dC, dI) vwCl [] H1 := fun k q h => by simp at h
      have hD1 : va_D (va_A [] H.size) [] := ⟨fun i j p q h => by simp at h, fun k q h => by simp at h⟩
      try dsimp only at hw
      obtain ⟨hP, hD⟩ := va_join (wr := []) (w1 := []) hP hD [] [] rfl rfl (by decide) (by decide) hk1 hFc hP1 hD1
      generalize H1 = H at hP hS ⊢
      have hP : va_P (dC, dI) vwCl [] H := hP
      have hD : va_D A [] := hD
      have hR := en_R hR0 hN0 hS
      refine W.widen (k := 0) (n := 0) (Nat.le_of_ble_eq_true rfl) (Nat.le_of_ble_eq_true rfl) ?_
      subst r_64
      obtain ⟨ap_65, rp_65, hgp_65, hup_65, hnp_65⟩ := hF0 (pidx x_62 x_63) (pidx_lt (z_c_X5_raking_270 x y x_5 x_6 x_11 x_12 x_62 x_63 hxy ex_5 ex_6 (b_no h_8 c_9) ex_11 ex_12 (b_yes h_14 c_15) ex_62 ex_63))
      refine lv_topv (w := .ref ap_65) (by rw [hgp_65]; rfl) ?_
      have hxp_65 : ¬ A ap_65 := by rw [← hAe]; exact vA0 hup_65.lt
      have hR0 : va_P (dC, dI) vwCl [(q, .inr (11, [.ref st, .ref sp, .ref ll, .int 0, .int 1600])), (st, .inl (cS, 48, .inr (.inr (.inr (.inr g))))), (ap_65, .inr (14, [.ref rp_65, .int 0, .int 0]))] s.heap := (hR0b.app (va1 hup_65))
      have hDr : va_D (fun q => b0 ≤ q) [(q, .inr (11, [.ref st, .ref sp, .ref ll, .int 0, .int 1600])), (st, .inl (cS, 48, .inr (.inr (.inr (.inr g))))), (ap_65, .inr (14, [.ref rp_65, .int 0, .int 0]))] := (vD_push hDrb (hNb ap_65 hnp_65).1 (nR (hNr ap_65 hnp_65)))
      have hN0 : ∀ (k9 : Nat) (q9 : Nat × va_E), [(q, .inr (11, [.ref st, .ref sp, .ref ll, .int 0, .int 1600])), (st, .inl (cS, 48, .inr (.inr (.inr (.inr g))))), (ap_65, .inr (14, [.ref rp_65, .int 0, .int 0]))][k9]? = some q9 → ¬ A q9.1 := (vN_push hN0b hxp_65)
      have hR : va_P (dC, dI) vwCl [(q, .inr (11, [.ref st, .ref sp, .ref ll, .int 0, .int 1600])), (st, .inl (cS, 48, .inr (.inr (.inr (.inr g))))), (ap_65, .inr (14, [.ref rp_65, .int 0, .int 0]))] H := en_R hR0 hN0 hS
      have hPc := (hP.app hR).sub (ws' := [] ++ [(ap_65, .inr (14, [.ref rp_65, .int 0, .int 0]))]) [2] rfl
      have hDc := (en_DD hD hDr hN0 hAb).sub (ws' := [] ++ [(ap_65, .inr (14, [.ref rp_65, .int 0, .int 0]))]) [2] (by decide) rfl
      have hKc := hK.sub (tys' := []) [] rfl
      have hFc := va_free (wc := []) hD hS hA [] rfl
      refine va_calli (va_runV (As := []) (rest := []) ⟨hx, hb, hml, hown, hts⟩ (c_X8_height l dC dI b0 en H.size ap_65 rp_65) (cwV 0 hts go_c_X5_raking_1 rfl rfl rfl (by decide +kernel) ⟨Nat.le_of_ble_eq_true rfl, Nat.le_of_ble_eq_true rfl⟩) ⟨cP.blind, va_recv hK hR (ci := 14) (q0 := 2) rfl rfl, cP.use (en_z hb0 hS) (hE.on hAb hS) hPc hKc hDc trivial⟩ rfl rfl hl.1 rfl (lv_room (Nat.le_of_ble_eq_true rfl)) dX5_raking_64 ⟨Nat.le_of_ble_eq_true rfl, Nat.le_of_ble_eq_true rfl⟩) hS (fun q _ h => hFc q h) hFc (fun r_66 u t H1 locs ht hvm hw hB hz1 hk1 hS => ?_)
      have hP1 : va_P (dC, dI) vwCl [] H1 := fun k q h => by simp at h
      have hD1 : va_D (va_A [] H.size) [] := ⟨fun i j p q h => by simp at h, fun k q h => by simp at h⟩
      try dsimp only at hw
      obtain ⟨hP, hD⟩ := va_join (wr := []) (w1 := []) hP hD [] [] rfl rfl (by decide) (by decide) hk1 hFc hP1 hD1
      generalize H1 = H at hP hS ⊢
      have hP : va_P (dC, dI) vwCl [] H := hP
      have hD : va_D A [] := hD
      have hR := en_R hR0 hN0 hS
      refine W.widen (k := 0) (n := 0) (Nat.le_of_ble_eq_true rfl) (Nat.le_of_ble_eq_true rfl) ?_
      subst r_66
      refine lv_iload_n hx hb dX5_raking_67 rfl (lv_at hl 2 rfl) ?_
      refine lv_isub hx hb dX5_raking_68 ?_
      refine lv_topi (fun x_67 ex_67 => ?_)
      obtain rfl : x_67 = 0 := ex_67.trans (by decide)
      refine lv_istore (lv' := [(6, .int 0), (5, .int 1), (4, .int 0), (3, .int 0), (0, .ref q), (1, .int x), (2, .int y)]) hx hb dX5_raking_69 hl (by decide) rfl (fun ls hl => ?_)
      refine lv_iload hx hb dX5_raking_71 (lv_at hl 2 rfl) ?_
      refine lv_iload hx hb dX5_raking_73 (lv_at hl 0 rfl) ?_
      refine va_mabs hx hb (hml.trans hl.1.symm) hown (hts (.methodLink RX5 65 Lib.Math.abs.name) (by decide +kernel)) (hts (.static Lib.Math.abs.name) (by decide +kernel)) (hts (.initialized "java/lang/Math") (by decide +kernel)) (hts (.code Lib.Math.abs.name Lib.Math.abs.code 1 (some .int)) (by decide +kernel)) (Nat.le_of_ble_eq_true rfl) (Nat.le_of_ble_eq_true rfl) (Nat.le_of_ble_eq_true rfl) (Nat.le_of_ble_eq_true rfl) dX5_raking_75 ?_
      refine lv_topi (fun x_68 ex_68 => ?_)
      obtain rfl : x_68 = 0 := ex_68.trans (by decide)
      refine va_mmax hx hb (hml.trans hl.1.symm) hown (hts (.methodLink RX5 70 Lib.Math.max.name) (by decide +kernel)) (hts (.static Lib.Math.max.name) (by decide +kernel)) (hts (.initialized "java/lang/Math") (by decide +kernel)) (hts (.code Lib.Math.max.name Lib.Math.max.code 2 (some .int)) (by decide +kernel)) (Nat.le_of_ble_eq_true rfl) (Nat.le_of_ble_eq_true rfl) (Nat.le_of_ble_eq_true rfl) (Nat.le_of_ble_eq_true rfl) dX5_raking_78 ?_
      refine lv_topi (fun x_69 ex_69 => ?_)
      obtain rfl : x_69 = 0 := ex_69.trans (by decide)
      refine lv_istore (lv' := [(4, .int 0), (6, .int 0), (5, .int 1), (3, .int 0), (0, .ref q), (1, .int x), (2, .int y)]) hx hb dX5_raking_81 hl (by decide) rfl (fun ls hl => ?_)
      refine lv_iinc (v := 2) (lv' := [(5, .int 2), (4, .int 0), (6, .int 0), (3, .int 0), (0, .ref q), (1, .int x), (2, .int y)]) hx hb dX5_raking_83 hl (k := 2) rfl (by decide) (by decide) rfl (fun ls hl => ?_)
      refine lv_goto (tgt := 16) hx hb dX5_raking_86 (by decide) ?_
      refine lv_iload hx hb dX5_raking_16 (lv_at hl 0 rfl) ?_
      refine lv_iconst (v := 4) hx hb dX5_raking_18 (by decide) ?_
      refine lv_icmp_ge (tgt := 89) hx hb dX5_raking_19 (by decide) (fun c_70 => absurd c_70 (by decide)) (fun c_70 => ?_)
      refine lv_iload_n hx hb dX5_raking_22 rfl (lv_at hl 5 rfl) ?_
      refine va_getsN hx hb (hE.sx hAb) hS hown (va_Nw.use rfl (hE.nf ("Underpaint$Picture", 55, "Underpaint", "SIDE_X", "[I", "Underpaint") (by decide +kernel))) (fun _ h9 => h9) dX5_raking_23 ?_
      refine lv_iload hx hb dX5_raking_26 (lv_at hl 0 rfl) ?_
      refine va_ti hx hb (hE.sxa hAb) hS (v := .int 0) (vp_in_nI (by decide : 2 < 4) (by decide)) rfl dX5_raking_28 ?_
      refine lv_iadd hx hb dX5_raking_29 ?_
      refine lv_topi (fun x_71 ex_71 => ?_)
      refine lv_iload_n hx hb dX5_raking_30 rfl (lv_at hl 6 rfl) ?_
      refine va_getsN hx hb (hE.sy hAb) hS hown (va_Nw.use rfl (hE.nf ("Underpaint$Picture", 58, "Underpaint", "SIDE_Y", "[I", "Underpaint") (by decide +kernel))) (fun _ h9 => h9) dX5_raking_31 ?_
      refine lv_iload hx hb dX5_raking_34 (lv_at hl 0 rfl) ?_
      refine va_ti hx hb (hE.sya hAb) hS (v := .int 1) (vp_in_nI (by decide : 2 < 4) (by decide)) rfl dX5_raking_36 ?_
      refine lv_iadd hx hb dX5_raking_37 ?_
      refine lv_topi (fun x_72 ex_72 => ?_)
      have hPc := (hP.app hR).sub (ws' := [] ++ []) [] rfl
      have hDc := (en_DD hD hDr hN0 hAb).sub (ws' := [] ++ []) [] (by decide) rfl
      have hKc := hK.sub (tys' := []) [] rfl
      have hFc := va_free (wc := []) hD hS hA [] rfl
      refine va_calli (va_runSN (As := [.int x_71, .int x_72]) (rest := []) ⟨hx, hb, hml, hown, hts⟩ (c_X11_isPlace l dC dI b0 en H.size x_71 x_72) ⟨va_cnB 2 hts go_c_X5_raking_2 rfl rfl rfl (hE.nm ("Underpaint$Picture", 61, ⟨"Underpaint", "isPlace", "(II)Z"⟩, "Underpaint") (by decide +kernel)) (hts (.initialized RX11) (by decide +kernel)) (by decide +kernel) ⟨Nat.le_of_ble_eq_true rfl, Nat.le_of_ble_eq_true rfl⟩, hts (.static yX11_isPlace) (by decide +kernel), trivial⟩ ⟨cP.blind, cP.use (en_z hb0 hS) (hE.on hAb hS) hPc hKc hDc trivial⟩ rfl rfl hl.1 rfl (lv_room (Nat.le_of_ble_eq_true rfl)) dX5_raking_38 ⟨Nat.le_of_ble_eq_true rfl, Nat.le_of_ble_eq_true rfl⟩) hS (fun q _ h => hFc q h) hFc (fun r_73 u t H1 locs ht hvm hw hB hz1 hk1 hS => ?_)
      have hP1 : va_P (dC, dI) vwCl [] H1 := fun k q h => by simp at h
      have hD1 : va_D (va_A [] H.size) [] := ⟨fun i j p q h => by simp at h, fun k q h => by simp at h⟩
      try dsimp only at hw
      obtain ⟨hP, hD⟩ := va_join (wr := []) (w1 := []) hP hD [] [] rfl rfl (by decide) (by decide) hk1 hFc hP1 hD1
      generalize H1 = H at hP hS ⊢
      have hP : va_P (dC, dI) vwCl [] H := hP
      have hD : va_D A [] := hD
      have hR := en_R hR0 hN0 hS
      refine W.widen (k := 0) (n := 0) (Nat.le_of_ble_eq_true rfl) (Nat.le_of_ble_eq_true rfl) ?_
      have h_74 := hw
      refine lv_if_eq (tgt := 83) hx hb dX5_raking_41 (by decide) (fun c_75 => ?_) (fun c_75 => ?_)
      · skip
        refine lv_iinc (v := 3) (lv' := [(5, .int 3), (4, .int 0), (6, .int 0), (3, .int 0), (0, .ref q), (1, .int x), (2, .int y)]) hx hb dX5_raking_83 hl (k := 0) rfl (by decide) (by decide) rfl (fun ls hl => ?_)
        refine lv_goto (tgt := 16) hx hb dX5_raking_86 (by decide) ?_
        refine lv_iload hx hb dX5_raking_16 (lv_at hl 0 rfl) ?_
        refine lv_iconst (v := 4) hx hb dX5_raking_18 (by decide) ?_
        refine lv_icmp_ge (tgt := 89) hx hb dX5_raking_19 (by decide) (fun c_76 => absurd c_76 (by decide)) (fun c_76 => ?_)
        refine lv_iload_n hx hb dX5_raking_22 rfl (lv_at hl 5 rfl) ?_
        refine va_getsN hx hb (hE.sx hAb) hS hown (va_Nw.use rfl (hE.nf ("Underpaint$Picture", 55, "Underpaint", "SIDE_X", "[I", "Underpaint") (by decide +kernel))) (fun _ h9 => h9) dX5_raking_23 ?_
        refine lv_iload hx hb dX5_raking_26 (lv_at hl 0 rfl) ?_
        refine va_ti hx hb (hE.sxa hAb) hS (v := .int 0) (vp_in_nI (by decide : 3 < 4) (by decide)) rfl dX5_raking_28 ?_
        refine lv_iadd hx hb dX5_raking_29 ?_
        refine lv_topi (fun x_77 ex_77 => ?_)
        refine lv_iload_n hx hb dX5_raking_30 rfl (lv_at hl 6 rfl) ?_
        refine va_getsN hx hb (hE.sy hAb) hS hown (va_Nw.use rfl (hE.nf ("Underpaint$Picture", 58, "Underpaint", "SIDE_Y", "[I", "Underpaint") (by decide +kernel))) (fun _ h9 => h9) dX5_raking_31 ?_
        refine lv_iload hx hb dX5_raking_34 (lv_at hl 0 rfl) ?_
        refine va_ti hx hb (hE.sya hAb) hS (v := .int (-1)) (vp_in_nI (by decide : 3 < 4) (by decide)) rfl dX5_raking_36 ?_
        refine lv_iadd hx hb dX5_raking_37 ?_
        refine lv_topi (fun x_78 ex_78 => ?_)
        have hPc := (hP.app hR).sub (ws' := [] ++ []) [] rfl
        have hDc := (en_DD hD hDr hN0 hAb).sub (ws' := [] ++ []) [] (by decide) rfl
        have hKc := hK.sub (tys' := []) [] rfl
        have hFc := va_free (wc := []) hD hS hA [] rfl
        refine va_calli (va_runSN (As := [.int x_77, .int x_78]) (rest := []) ⟨hx, hb, hml, hown, hts⟩ (c_X11_isPlace l dC dI b0 en H.size x_77 x_78) ⟨va_cnB 2 hts go_c_X5_raking_2 rfl rfl rfl (hE.nm ("Underpaint$Picture", 61, ⟨"Underpaint", "isPlace", "(II)Z"⟩, "Underpaint") (by decide +kernel)) (hts (.initialized RX11) (by decide +kernel)) (by decide +kernel) ⟨Nat.le_of_ble_eq_true rfl, Nat.le_of_ble_eq_true rfl⟩, hts (.static yX11_isPlace) (by decide +kernel), trivial⟩ ⟨cP.blind, cP.use (en_z hb0 hS) (hE.on hAb hS) hPc hKc hDc trivial⟩ rfl rfl hl.1 rfl (lv_room (Nat.le_of_ble_eq_true rfl)) dX5_raking_38 ⟨Nat.le_of_ble_eq_true rfl, Nat.le_of_ble_eq_true rfl⟩) hS (fun q _ h => hFc q h) hFc (fun r_79 u t H1 locs ht hvm hw hB hz1 hk1 hS => ?_)
        have hP1 : va_P (dC, dI) vwCl [] H1 := fun k q h => by simp at h
        have hD1 : va_D (va_A [] H.size) [] := ⟨fun i j p q h => by simp at h, fun k q h => by simp at h⟩
        try dsimp only at hw
        obtain ⟨hP, hD⟩ := va_join (wr := []) (w1 := []) hP hD [] [] rfl rfl (by decide) (by decide) hk1 hFc hP1 hD1
        generalize H1 = H at hP hS ⊢
        have hP : va_P (dC, dI) vwCl [] H := hP
        have hD : va_D A [] := hD
        have hR := en_R hR0 hN0 hS
        refine W.widen (k := 0) (n := 0) (Nat.le_of_ble_eq_true rfl) (Nat.le_of_ble_eq_true rfl) ?_
        have h_80 := hw
        refine lv_if_eq (tgt := 83) hx hb dX5_raking_41 (by decide) (fun c_81 => ?_) (fun c_81 => ?_)
        · skip
          refine lv_iinc (v := 4) (lv' := [(5, .int 4), (4, .int 0), (6, .int 0), (3, .int 0), (0, .ref q), (1, .int x), (2, .int y)]) hx hb dX5_raking_83 hl (k := 0) rfl (by decide) (by decide) rfl (fun ls hl => ?_)
          refine lv_goto (tgt := 16) hx hb dX5_raking_86 (by decide) ?_
          refine lv_iload hx hb dX5_raking_16 (lv_at hl 0 rfl) ?_
          refine lv_iconst (v := 4) hx hb dX5_raking_18 (by decide) ?_
          refine lv_icmp_ge (tgt := 89) hx hb dX5_raking_19 (by decide) (fun c_82 => ?_) (fun c_82 => absurd c_82 (by decide))
          refine lv_iload hx hb dX5_raking_89 (lv_at hl 1 rfl) ?_
          refine W.widen (k := 0) (n := 0) (Nat.le_of_ble_eq_true rfl) (Nat.le_of_ble_eq_true rfl) ?_
          exact W.iret (v := 0) hx hb hr (fun t ht hW => ⟨⟨0, (), rfl, (z_c_X5_raking_271 x y x_5 x_6 x_11 x_12 x_62 x_63 x_71 x_72 x_77 x_78 hxy ex_5 ex_6 (b_no h_8 c_9) ex_11 ex_12 (b_yes h_14 c_15) ex_62 ex_63 ex_71 ex_72 (b_no h_74 c_75) ex_77 ex_78 (b_no h_80 c_81)), trivial⟩, hS.F ht⟩) hS.2.2 dX5_raking_91
        · skip
          refine lv_aload_n hx hb dX5_raking_44 rfl (lv_at hl 4 rfl) ?_
          refine lv_iload_n hx hb dX5_raking_45 rfl (lv_at hl 5 rfl) ?_
          refine va_getsN hx hb (hE.sx hAb) hS hown (va_Nw.use rfl (hE.nf ("Underpaint$Picture", 55, "Underpaint", "SIDE_X", "[I", "Underpaint") (by decide +kernel))) (fun _ h9 => h9) dX5_raking_46 ?_
          refine lv_iload hx hb dX5_raking_49 (lv_at hl 0 rfl) ?_
          refine va_ti hx hb (hE.sxa hAb) hS (v := .int 0) (vp_in_nI (by decide : 3 < 4) (by decide)) rfl dX5_raking_51 ?_
          refine lv_iadd hx hb dX5_raking_52 ?_
          refine lv_topi (fun x_83 ex_83 => ?_)
          refine lv_iload_n hx hb dX5_raking_53 rfl (lv_at hl 6 rfl) ?_
          refine va_getsN hx hb (hE.sy hAb) hS hown (va_Nw.use rfl (hE.nf ("Underpaint$Picture", 58, "Underpaint", "SIDE_Y", "[I", "Underpaint") (by decide +kernel))) (fun _ h9 => h9) dX5_raking_54 ?_
          refine lv_iload hx hb dX5_raking_57 (lv_at hl 0 rfl) ?_
          refine va_ti hx hb (hE.sya hAb) hS (v := .int (-1)) (vp_in_nI (by decide : 3 < 4) (by decide)) rfl dX5_raking_59 ?_
          refine lv_iadd hx hb dX5_raking_60 ?_
          refine lv_topi (fun x_84 ex_84 => ?_)
          have hPc := (hP.app hR).sub (ws' := [] ++ [(q, .inr (11, [.ref st, .ref sp, .ref ll, .int 0, .int 1600])), (st, .inl (cS, 48, .inr (.inr (.inr (.inr g)))))]) [0, 1] rfl
          have hDc := (en_DD hD hDr hN0 hAb).sub (ws' := [] ++ [(q, .inr (11, [.ref st, .ref sp, .ref ll, .int 0, .int 1600])), (st, .inl (cS, 48, .inr (.inr (.inr (.inr g)))))]) [0, 1] (by decide) rfl
          have hKc := hK.sub (tys' := [(cS, .object "Underpaint$Stack")]) [0] rfl
          have hFc := va_free (wc := []) hD hS hA [] rfl
          refine va_callq (va_runV (As := [.int x_83, .int x_84]) (rest := []) ⟨hx, hb, hml, hown, hts⟩ (c_at l dC dI b0 en H.size q st sp ll x_83 x_84 g cS (z_c_X5_raking_272 x y x_5 x_6 x_11 x_12 x_62 x_63 x_71 x_72 x_77 x_78 x_83 x_84 hxy ex_5 ex_6 (b_no h_8 c_9) ex_11 ex_12 (b_yes h_14 c_15) ex_62 ex_63 ex_71 ex_72 (b_no h_74 c_75) ex_77 ex_78 (b_yes h_80 c_81) ex_83 ex_84)) (cwV 2 hts go_c_X5_raking_0 rfl rfl rfl (by decide +kernel) ⟨Nat.le_of_ble_eq_true rfl, Nat.le_of_ble_eq_true rfl⟩) ⟨cP.blind, va_recv hK hR (ci := 11) (q0 := 0) rfl rfl, cP.use (en_z hb0 hS) (hE.on hAb hS) hPc hKc hDc trivial⟩ rfl rfl hl.1 rfl (lv_room (Nat.le_of_ble_eq_true rfl)) dX5_raking_61 ⟨Nat.le_of_ble_eq_true rfl, Nat.le_of_ble_eq_true rfl⟩) hS (fun q _ h => hFc q h) hFc (fun r_85 u t H1 locs ht hvm hw hB hz1 hk1 hS => ?_)
          have hP1 : va_P (dC, dI) vwCl [] H1 := fun k q h => by simp at h
          have hD1 : va_D (va_A [] H.size) [] := ⟨fun i j p q h => by simp at h, fun k q h => by simp at h⟩
          try dsimp only at hw
          obtain ⟨hP, hD⟩ := va_join (wr := []) (w1 := []) hP hD [] [] rfl rfl (by decide) (by decide) hk1 hFc hP1 hD1
          generalize H1 = H at hP hS ⊢
          have hP : va_P (dC, dI) vwCl [] H := hP
          have hD : va_D A [] := hD
          have hR := en_R hR0 hN0 hS
          refine W.widen (k := 0) (n := 0) (Nat.le_of_ble_eq_true rfl) (Nat.le_of_ble_eq_true rfl) ?_
          subst r_85
          obtain ⟨ap_86, rp_86, hgp_86, hup_86, hnp_86⟩ := hF0 (pidx x_83 x_84) (pidx_lt (z_c_X5_raking_273 x y x_5 x_6 x_11 x_12 x_62 x_63 x_71 x_72 x_77 x_78 x_83 x_84 hxy ex_5 ex_6 (b_no h_8 c_9) ex_11 ex_12 (b_yes h_14 c_15) ex_62 ex_63 ex_71 ex_72 (b_no h_74 c_75) ex_77 ex_78 (b_yes h_80 c_81) ex_83 ex_84))
          refine lv_topv (w := .ref ap_86) (by rw [hgp_86]; rfl) ?_
          have hxp_86 : ¬ A ap_86 := by rw [← hAe]; exact vA0 hup_86.lt
          have hR0 : va_P (dC, dI) vwCl [(q, .inr (11, [.ref st, .ref sp, .ref ll, .int 0, .int 1600])), (st, .inl (cS, 48, .inr (.inr (.inr (.inr g))))), (ap_86, .inr (14, [.ref rp_86, .int 0, .int 0]))] s.heap := (hR0b.app (va1 hup_86))
          have hDr : va_D (fun q => b0 ≤ q) [(q, .inr (11, [.ref st, .ref sp, .ref ll, .int 0, .int 1600])), (st, .inl (cS, 48, .inr (.inr (.inr (.inr g))))), (ap_86, .inr (14, [.ref rp_86, .int 0, .int 0]))] := (vD_push hDrb (hNb ap_86 hnp_86).1 (nR (hNr ap_86 hnp_86)))
          have hN0 : ∀ (k9 : Nat) (q9 : Nat × va_E), [(q, .inr (11, [.ref st, .ref sp, .ref ll, .int 0, .int 1600])), (st, .inl (cS, 48, .inr (.inr (.inr (.inr g))))), (ap_86, .inr (14, [.ref rp_86, .int 0, .int 0]))][k9]? = some q9 → ¬ A q9.1 := (vN_push hN0b hxp_86)
          have hR : va_P (dC, dI) vwCl [(q, .inr (11, [.ref st, .ref sp, .ref ll, .int 0, .int 1600])), (st, .inl (cS, 48, .inr (.inr (.inr (.inr g))))), (ap_86, .inr (14, [.ref rp_86, .int 0, .int 0]))] H := en_R hR0 hN0 hS
          have hPc := (hP.app hR).sub (ws' := [] ++ [(ap_86, .inr (14, [.ref rp_86, .int 0, .int 0]))]) [2] rfl
          have hDc := (en_DD hD hDr hN0 hAb).sub (ws' := [] ++ [(ap_86, .inr (14, [.ref rp_86, .int 0, .int 0]))]) [2] (by decide) rfl
          have hKc := hK.sub (tys' := []) [] rfl
          have hFc := va_free (wc := []) hD hS hA [] rfl
          refine va_calli (va_runV (As := []) (rest := []) ⟨hx, hb, hml, hown, hts⟩ (c_X8_height l dC dI b0 en H.size ap_86 rp_86) (cwV 0 hts go_c_X5_raking_1 rfl rfl rfl (by decide +kernel) ⟨Nat.le_of_ble_eq_true rfl, Nat.le_of_ble_eq_true rfl⟩) ⟨cP.blind, va_recv hK hR (ci := 14) (q0 := 2) rfl rfl, cP.use (en_z hb0 hS) (hE.on hAb hS) hPc hKc hDc trivial⟩ rfl rfl hl.1 rfl (lv_room (Nat.le_of_ble_eq_true rfl)) dX5_raking_64 ⟨Nat.le_of_ble_eq_true rfl, Nat.le_of_ble_eq_true rfl⟩) hS (fun q _ h => hFc q h) hFc (fun r_87 u t H1 locs ht hvm hw hB hz1 hk1 hS => ?_)
          have hP1 : va_P (dC, dI) vwCl [] H1 := fun k q h => by simp at h
          have hD1 : va_D (va_A [] H.size) [] := ⟨fun i j p q h => by simp at h, fun k q h => by simp at h⟩
          try dsimp only at hw
          obtain ⟨hP, hD⟩ := va_join (wr := []) (w1 := []) hP hD [] [] rfl rfl (by decide) (by decide) hk1 hFc hP1 hD1
          generalize H1 = H at hP hS ⊢
          have hP : va_P (dC, dI) vwCl [] H := hP
          have hD : va_D A [] := hD
          have hR := en_R hR0 hN0 hS
          refine W.widen (k := 0) (n := 0) (Nat.le_of_ble_eq_true rfl) (Nat.le_of_ble_eq_true rfl) ?_
          subst r_87
          refine lv_iload_n hx hb dX5_raking_67 rfl (lv_at hl 3 rfl) ?_
          refine lv_isub hx hb dX5_raking_68 ?_
          refine lv_topi (fun x_88 ex_88 => ?_)
          obtain rfl : x_88 = 0 := ex_88.trans (by decide)
          refine lv_istore (lv' := [(6, .int 0), (5, .int 3), (4, .int 0), (3, .int 0), (0, .ref q), (1, .int x), (2, .int y)]) hx hb dX5_raking_69 hl (by decide) rfl (fun ls hl => ?_)
          refine lv_iload hx hb dX5_raking_71 (lv_at hl 2 rfl) ?_
          refine lv_iload hx hb dX5_raking_73 (lv_at hl 0 rfl) ?_
          refine va_mabs hx hb (hml.trans hl.1.symm) hown (hts (.methodLink RX5 65 Lib.Math.abs.name) (by decide +kernel)) (hts (.static Lib.Math.abs.name) (by decide +kernel)) (hts (.initialized "java/lang/Math") (by decide +kernel)) (hts (.code Lib.Math.abs.name Lib.Math.abs.code 1 (some .int)) (by decide +kernel)) (Nat.le_of_ble_eq_true rfl) (Nat.le_of_ble_eq_true rfl) (Nat.le_of_ble_eq_true rfl) (Nat.le_of_ble_eq_true rfl) dX5_raking_75 ?_
          refine lv_topi (fun x_89 ex_89 => ?_)
          obtain rfl : x_89 = 0 := ex_89.trans (by decide)
          refine va_mmax hx hb (hml.trans hl.1.symm) hown (hts (.methodLink RX5 70 Lib.Math.max.name) (by decide +kernel)) (hts (.static Lib.Math.max.name) (by decide +kernel)) (hts (.initialized "java/lang/Math") (by decide +kernel)) (hts (.code Lib.Math.max.name Lib.Math.max.code 2 (some .int)) (by decide +kernel)) (Nat.le_of_ble_eq_true rfl) (Nat.le_of_ble_eq_true rfl) (Nat.le_of_ble_eq_true rfl) (Nat.le_of_ble_eq_true rfl) dX5_raking_78 ?_
          refine lv_topi (fun x_90 ex_90 => ?_)
          obtain rfl : x_90 = 0 := ex_90.trans (by decide)
          refine lv_istore (lv' := [(4, .int 0), (6, .int 0), (5, .int 3), (3, .int 0), (0, .ref q), (1, .int x), (2, .int y)]) hx hb dX5_raking_81 hl (by decide) rfl (fun ls hl => ?_)
          refine lv_iinc (v := 4) (lv' := [(5, .int 4), (4, .int 0), (6, .int 0), (3, .int 0), (0, .ref q), (1, .int x), (2, .int y)]) hx hb dX5_raking_83 hl (k := 2) rfl (by decide) (by decide) rfl (fun ls hl => ?_)
          refine lv_goto (tgt := 16) hx hb dX5_raking_86 (by decide) ?_
          refine lv_iload hx hb dX5_raking_16 (lv_at hl 0 rfl) ?_
          refine lv_iconst (v := 4) hx hb dX5_raking_18 (by decide) ?_
          refine lv_icmp_ge (tgt := 89) hx hb dX5_raking_19 (by decide) (fun c_91 => ?_) (fun c_91 => absurd c_91 (by decide))
          refine lv_iload hx hb dX5_raking_89 (lv_at hl 1 rfl) ?_
          refine W.widen (k := 0) (n := 0) (Nat.le_of_ble_eq_true rfl) (Nat.le_of_ble_eq_true rfl) ?_
          exact W.iret (v := 0) hx hb hr (fun t ht hW => ⟨⟨0, (), rfl, (z_c_X5_raking_274 x y x_5 x_6 x_11 x_12 x_62 x_63 x_71 x_72 x_77 x_78 x_83 x_84 hxy ex_5 ex_6 (b_no h_8 c_9) ex_11 ex_12 (b_yes h_14 c_15) ex_62 ex_63 ex_71 ex_72 (b_no h_74 c_75) ex_77 ex_78 (b_yes h_80 c_81) ex_83 ex_84), trivial⟩, hS.F ht⟩) hS.2.2 dX5_raking_91
      · skip
        refine lv_aload_n hx hb dX5_raking_44 rfl (lv_at hl 4 rfl) ?_
        refine lv_iload_n hx hb dX5_raking_45 rfl (lv_at hl 5 rfl) ?_
        refine va_getsN hx hb (hE.sx hAb) hS hown (va_Nw.use rfl (hE.nf ("Underpaint$Picture", 55, "Underpaint", "SIDE_X", "[I", "Underpaint") (by decide +kernel))) (fun _ h9 => h9) dX5_raking_46 ?_
        refine lv_iload hx hb dX5_raking_49 (lv_at hl 0 rfl) ?_
        refine va_ti hx hb (hE.sxa hAb) hS (v := .int 0) (vp_in_nI (by decide : 2 < 4) (by decide)) rfl dX5_raking_51 ?_
        refine lv_iadd hx hb dX5_raking_52 ?_
        refine lv_topi (fun x_92 ex_92 => ?_)
        refine lv_iload_n hx hb dX5_raking_53 rfl (lv_at hl 6 rfl) ?_
        refine va_getsN hx hb (hE.sy hAb) hS hown (va_Nw.use rfl (hE.nf ("Underpaint$Picture", 58, "Underpaint", "SIDE_Y", "[I", "Underpaint") (by decide +kernel))) (fun _ h9 => h9) dX5_raking_54 ?_
        refine lv_iload hx hb dX5_raking_57 (lv_at hl 0 rfl) ?_
        refine va_ti hx hb (hE.sya hAb) hS (v := .int 1) (vp_in_nI (by decide : 2 < 4) (by decide)) rfl dX5_raking_59 ?_
        refine lv_iadd hx hb dX5_raking_60 ?_
        refine lv_topi (fun x_93 ex_93 => ?_)
        have hPc := (hP.app hR).sub (ws' := [] ++ [(q, .inr (11, [.ref st, .ref sp, .ref ll, .int 0, .int 1600])), (st, .inl (cS, 48, .inr (.inr (.inr (.inr g)))))]) [0, 1] rfl
        have hDc := (en_DD hD hDr hN0 hAb).sub (ws' := [] ++ [(q, .inr (11, [.ref st, .ref sp, .ref ll, .int 0, .int 1600])), (st, .inl (cS, 48, .inr (.inr (.inr (.inr g)))))]) [0, 1] (by decide) rfl
        have hKc := hK.sub (tys' := [(cS, .object "Underpaint$Stack")]) [0] rfl
        have hFc := va_free (wc := []) hD hS hA [] rfl
        refine va_callq (va_runV (As := [.int x_92, .int x_93]) (rest := []) ⟨hx, hb, hml, hown, hts⟩ (c_at l dC dI b0 en H.size q st sp ll x_92 x_93 g cS (z_c_X5_raking_275 x y x_5 x_6 x_11 x_12 x_62 x_63 x_71 x_72 x_92 x_93 hxy ex_5 ex_6 (b_no h_8 c_9) ex_11 ex_12 (b_yes h_14 c_15) ex_62 ex_63 ex_71 ex_72 (b_yes h_74 c_75) ex_92 ex_93)) (cwV 2 hts go_c_X5_raking_0 rfl rfl rfl (by decide +kernel) ⟨Nat.le_of_ble_eq_true rfl, Nat.le_of_ble_eq_true rfl⟩) ⟨cP.blind, va_recv hK hR (ci := 11) (q0 := 0) rfl rfl, cP.use (en_z hb0 hS) (hE.on hAb hS) hPc hKc hDc trivial⟩ rfl rfl hl.1 rfl (lv_room (Nat.le_of_ble_eq_true rfl)) dX5_raking_61 ⟨Nat.le_of_ble_eq_true rfl, Nat.le_of_ble_eq_true rfl⟩) hS (fun q _ h => hFc q h) hFc (fun r_94 u t H1 locs ht hvm hw hB hz1 hk1 hS => ?_)
        have hP1 : va_P (dC, dI) vwCl [] H1 := fun k q h => by simp at h
        have hD1 : va_D (va_A [] H.size) [] := ⟨fun i j p q h => by simp at h, fun k q h => by simp at h⟩
        try dsimp only at hw
        obtain ⟨hP, hD⟩ := va_join (wr := []) (w1 := []) hP hD [] [] rfl rfl (by decide) (by decide) hk1 hFc hP1 hD1
        generalize H1 = H at hP hS ⊢
        have hP : va_P (dC, dI) vwCl [] H := hP
        have hD : va_D A [] := hD
        have hR := en_R hR0 hN0 hS
        refine W.widen (k := 0) (n := 0) (Nat.le_of_ble_eq_true rfl) (Nat.le_of_ble_eq_true rfl) ?_
        subst r_94
        obtain ⟨ap_95, rp_95, hgp_95, hup_95, hnp_95⟩ := hF0 (pidx x_92 x_93) (pidx_lt (z_c_X5_raking_276 x y x_5 x_6 x_11 x_12 x_62 x_63 x_71 x_72 x_92 x_93 hxy ex_5 ex_6 (b_no h_8 c_9) ex_11 ex_12 (b_yes h_14 c_15) ex_62 ex_63 ex_71 ex_72 (b_yes h_74 c_75) ex_92 ex_93))
        refine lv_topv (w := .ref ap_95) (by rw [hgp_95]; rfl) ?_
        have hxp_95 : ¬ A ap_95 := by rw [← hAe]; exact vA0 hup_95.lt
        have hR0 : va_P (dC, dI) vwCl [(q, .inr (11, [.ref st, .ref sp, .ref ll, .int 0, .int 1600])), (st, .inl (cS, 48, .inr (.inr (.inr (.inr g))))), (ap_95, .inr (14, [.ref rp_95, .int 0, .int 0]))] s.heap := (hR0b.app (va1 hup_95))
        have hDr : va_D (fun q => b0 ≤ q) [(q, .inr (11, [.ref st, .ref sp, .ref ll, .int 0, .int 1600])), (st, .inl (cS, 48, .inr (.inr (.inr (.inr g))))), (ap_95, .inr (14, [.ref rp_95, .int 0, .int 0]))] := (vD_push hDrb (hNb ap_95 hnp_95).1 (nR (hNr ap_95 hnp_95)))
        have hN0 : ∀ (k9 : Nat) (q9 : Nat × va_E), [(q, .inr (11, [.ref st, .ref sp, .ref ll, .int 0, .int 1600])), (st, .inl (cS, 48, .inr (.inr (.inr (.inr g))))), (ap_95, .inr (14, [.ref rp_95, .int 0, .int 0]))][k9]? = some q9 → ¬ A q9.1 := (vN_push hN0b hxp_95)
        have hR : va_P (dC, dI) vwCl [(q, .inr (11, [.ref st, .ref sp, .ref ll, .int 0, .int 1600])), (st, .inl (cS, 48, .inr (.inr (.inr (.inr g))))), (ap_95, .inr (14, [.ref rp_95, .int 0, .int 0]))] H := en_R hR0 hN0 hS
        have hPc := (hP.app hR).sub (ws' := [] ++ [(ap_95, .inr (14, [.ref rp_95, .int 0, .int 0]))]) [2] rfl
        have hDc := (en_DD hD hDr hN0 hAb).sub (ws' := [] ++ [(ap_95, .inr (14, [.ref rp_95, .int 0, .int 0]))]) [2] (by decide) rfl
        have hKc := hK.sub (tys' := []) [] rfl
        have hFc := va_free (wc := []) hD hS hA [] rfl
        refine va_calli (va_runV (As := []) (rest := []) ⟨hx, hb, hml, hown, hts⟩ (c_X8_height l dC dI b0 en H.size ap_95 rp_95) (cwV 0 hts go_c_X5_raking_1 rfl rfl rfl (by decide +kernel) ⟨Nat.le_of_ble_eq_true rfl, Nat.le_of_ble_eq_true rfl⟩) ⟨cP.blind, va_recv hK hR (ci := 14) (q0 := 2) rfl rfl, cP.use (en_z hb0 hS) (hE.on hAb hS) hPc hKc hDc trivial⟩ rfl rfl hl.1 rfl (lv_room (Nat.le_of_ble_eq_true rfl)) dX5_raking_64 ⟨Nat.le_of_ble_eq_true rfl, Nat.le_of_ble_eq_true rfl⟩) hS (fun q _ h => hFc q h) hFc (fun r_96 u t H1 locs ht hvm hw hB hz1 hk1 hS => ?_)
        have hP1 : va_P (dC, dI) vwCl [] H1 := fun k q h => by simp at h
        have hD1 : va_D (va_A [] H.size) [] := ⟨fun i j p q h => by simp at h, fun k q h => by simp at h⟩
        try dsimp only at hw
        obtain ⟨hP, hD⟩ := va_join (wr := []) (w1 := []) hP hD [] [] rfl rfl (by decide) (by decide) hk1 hFc hP1 hD1
        generalize H1 = H at hP hS ⊢
        have hP : va_P (dC, dI) vwCl [] H := hP
        have hD : va_D A [] := hD
        have hR := en_R hR0 hN0 hS
        refine W.widen (k := 0) (n := 0) (Nat.le_of_ble_eq_true rfl) (Nat.le_of_ble_eq_true rfl) ?_
        subst r_96
        refine lv_iload_n hx hb dX5_raking_67 rfl (lv_at hl 3 rfl) ?_
        refine lv_isub hx hb dX5_raking_68 ?_
        refine lv_topi (fun x_97 ex_97 => ?_)
        obtain rfl : x_97 = 0 := ex_97.trans (by decide)
        refine lv_istore (lv' := [(6, .int 0), (5, .int 2), (4, .int 0), (3, .int 0), (0, .ref q), (1, .int x), (2, .int y)]) hx hb dX5_raking_69 hl (by decide) rfl (fun ls hl => ?_)
        refine lv_iload hx hb dX5_raking_71 (lv_at hl 2 rfl) ?_
        refine lv_iload hx hb dX5_raking_73 (lv_at hl 0 rfl) ?_
        refine va_mabs hx hb (hml.trans hl.1.symm) hown (hts (.methodLink RX5 65 Lib.Math.abs.name) (by decide +kernel)) (hts (.static Lib.Math.abs.name) (by decide +kernel)) (hts (.initialized "java/lang/Math") (by decide +kernel)) (hts (.code Lib.Math.abs.name Lib.Math.abs.code 1 (some .int)) (by decide +kernel)) (Nat.le_of_ble_eq_true rfl) (Nat.le_of_ble_eq_true rfl) (Nat.le_of_ble_eq_true rfl) (Nat.le_of_ble_eq_true rfl) dX5_raking_75 ?_
        refine lv_topi (fun x_98 ex_98 => ?_)
        obtain rfl : x_98 = 0 := ex_98.trans (by decide)
        refine va_mmax hx hb (hml.trans hl.1.symm) hown (hts (.methodLink RX5 70 Lib.Math.max.name) (by decide +kernel)) (hts (.static Lib.Math.max.name) (by decide +kernel)) (hts (.initialized "java/lang/Math") (by decide +kernel)) (hts (.code Lib.Math.max.name Lib.Math.max.code 2 (some .int)) (by decide +kernel)) (Nat.le_of_ble_eq_true rfl) (Nat.le_of_ble_eq_true rfl) (Nat.le_of_ble_eq_true rfl) (Nat.le_of_ble_eq_true rfl) dX5_raking_78 ?_
        refine lv_topi (fun x_99 ex_99 => ?_)
        obtain rfl : x_99 = 0 := ex_99.trans (by decide)
        refine lv_istore (lv' := [(4, .int 0), (6, .int 0), (5, .int 2), (3, .int 0), (0, .ref q), (1, .int x), (2, .int y)]) hx hb dX5_raking_81 hl (by decide) rfl (fun ls hl => ?_)
        refine lv_iinc (v := 3) (lv' := [(5, .int 3), (4, .int 0), (6, .int 0), (3, .int 0), (0, .ref q), (1, .int x), (2, .int y)]) hx hb dX5_raking_83 hl (k := 2) rfl (by decide) (by decide) rfl (fun ls hl => ?_)
        refine lv_goto (tgt := 16) hx hb dX5_raking_86 (by decide) ?_
        refine lv_iload hx hb dX5_raking_16 (lv_at hl 0 rfl) ?_
        refine lv_iconst (v := 4) hx hb dX5_raking_18 (by decide) ?_
        refine lv_icmp_ge (tgt := 89) hx hb dX5_raking_19 (by decide) (fun c_100 => absurd c_100 (by decide)) (fun c_100 => ?_)
        refine lv_iload_n hx hb dX5_raking_22 rfl (lv_at hl 5 rfl) ?_
        refine va_getsN hx hb (hE.sx hAb) hS hown (va_Nw.use rfl (hE.nf ("Underpaint$Picture", 55, "Underpaint", "SIDE_X", "[I", "Underpaint") (by decide +kernel))) (fun _ h9 => h9) dX5_raking_23 ?_
        refine lv_iload hx hb dX5_raking_26 (lv_at hl 0 rfl) ?_
        refine va_ti hx hb (hE.sxa hAb) hS (v := .int 0) (vp_in_nI (by decide : 3 < 4) (by decide)) rfl dX5_raking_28 ?_
        refine lv_iadd hx hb dX5_raking_29 ?_
        refine lv_topi (fun x_101 ex_101 => ?_)
        refine lv_iload_n hx hb dX5_raking_30 rfl (lv_at hl 6 rfl) ?_
        refine va_getsN hx hb (hE.sy hAb) hS hown (va_Nw.use rfl (hE.nf ("Underpaint$Picture", 58, "Underpaint", "SIDE_Y", "[I", "Underpaint") (by decide +kernel))) (fun _ h9 => h9) dX5_raking_31 ?_
        refine lv_iload hx hb dX5_raking_34 (lv_at hl 0 rfl) ?_
        refine va_ti hx hb (hE.sya hAb) hS (v := .int (-1)) (vp_in_nI (by decide : 3 < 4) (by decide)) rfl dX5_raking_36 ?_
        refine lv_iadd hx hb dX5_raking_37 ?_
        refine lv_topi (fun x_102 ex_102 => ?_)
        have hPc := (hP.app hR).sub (ws' := [] ++ []) [] rfl
        have hDc := (en_DD hD hDr hN0 hAb).sub (ws' := [] ++ []) [] (by decide) rfl
        have hKc := hK.sub (tys' := []) [] rfl
        have hFc := va_free (wc := []) hD hS hA [] rfl
        refine va_calli (va_runSN (As := [.int x_101, .int x_102]) (rest := []) ⟨hx, hb, hml, hown, hts⟩ (c_X11_isPlace l dC dI b0 en H.size x_101 x_102) ⟨va_cnB 2 hts go_c_X5_raking_2 rfl rfl rfl (hE.nm ("Underpaint$Picture", 61, ⟨"Underpaint", "isPlace", "(II)Z"⟩, "Underpaint") (by decide +kernel)) (hts (.initialized RX11) (by decide +kernel)) (by decide +kernel) ⟨Nat.le_of_ble_eq_true rfl, Nat.le_of_ble_eq_true rfl⟩, hts (.static yX11_isPlace) (by decide +kernel), trivial⟩ ⟨cP.blind, cP.use (en_z hb0 hS) (hE.on hAb hS) hPc hKc hDc trivial⟩ rfl rfl hl.1 rfl (lv_room (Nat.le_of_ble_eq_true rfl)) dX5_raking_38 ⟨Nat.le_of_ble_eq_true rfl, Nat.le_of_ble_eq_true rfl⟩) hS (fun q _ h => hFc q h) hFc (fun r_103 u t H1 locs ht hvm hw hB hz1 hk1 hS => ?_)
        have hP1 : va_P (dC, dI) vwCl [] H1 := fun k q h => by simp at h
        have hD1 : va_D (va_A [] H.size) [] := ⟨fun i j p q h => by simp at h, fun k q h => by simp at h⟩
        try dsimp only at hw
        obtain ⟨hP, hD⟩ := va_join (wr := []) (w1 := []) hP hD [] [] rfl rfl (by decide) (by decide) hk1 hFc hP1 hD1
        generalize H1 = H at hP hS ⊢
        have hP : va_P (dC, dI) vwCl [] H := hP
        have hD : va_D A [] := hD
        have hR := en_R hR0 hN0 hS
        refine W.widen (k := 0) (n := 0) (Nat.le_of_ble_eq_true rfl) (Nat.le_of_ble_eq_true rfl) ?_
        have h_104 := hw
        refine lv_if_eq (tgt := 83) hx hb dX5_raking_41 (by decide) (fun c_105 => ?_) (fun c_105 => ?_)
        · skip
          refine lv_iinc (v := 4) (lv' := [(5, .int 4), (4, .int 0), (6, .int 0), (3, .int 0), (0, .ref q), (1, .int x), (2, .int y)]) hx hb dX5_raking_83 hl (k := 0) rfl (by decide) (by decide) rfl (fun ls hl => ?_)
          refine lv_goto (tgt := 16) hx hb dX5_raking_86 (by decide) ?_
          refine lv_iload hx hb dX5_raking_16 (lv_at hl 0 rfl) ?_
          refine lv_iconst (v := 4) hx hb dX5_raking_18 (by decide) ?_
          refine lv_icmp_ge (tgt := 89) hx hb dX5_raking_19 (by decide) (fun c_106 => ?_) (fun c_106 => absurd c_106 (by decide))
          refine lv_iload hx hb dX5_raking_89 (lv_at hl 1 rfl) ?_
          refine W.widen (k := 0) (n := 0) (Nat.le_of_ble_eq_true rfl) (Nat.le_of_ble_eq_true rfl) ?_
          exact W.iret (v := 0) hx hb hr (fun t ht hW => ⟨⟨0, (), rfl, (z_c_X5_raking_277 x y x_5 x_6 x_11 x_12 x_62 x_63 x_71 x_72 x_92 x_93 x_101 x_102 hxy ex_5 ex_6 (b_no h_8 c_9) ex_11 ex_12 (b_yes h_14 c_15) ex_62 ex_63 ex_71 ex_72 (b_yes h_74 c_75) ex_92 ex_93 ex_101 ex_102 (b_no h_104 c_105)), trivial⟩, hS.F ht⟩) hS.2.2 dX5_raking_91
        · skip
          refine lv_aload_n hx hb dX5_raking_44 rfl (lv_at hl 4 rfl) ?_
          refine lv_iload_n hx hb dX5_raking_45 rfl (lv_at hl 5 rfl) ?_
          refine va_getsN hx hb (hE.sx hAb) hS hown (va_Nw.use rfl (hE.nf ("Underpaint$Picture", 55, "Underpaint", "SIDE_X", "[I", "Underpaint") (by decide +kernel))) (fun _ h9 => h9) dX5_raking_46 ?_
          refine lv_iload hx hb dX5_raking_49 (lv_at hl 0 rfl) ?_
          refine va_ti hx hb (hE.sxa hAb) hS (v := .int 0) (vp_in_nI (by decide : 3 < 4) (by decide)) rfl dX5_raking_51 ?_
          refine lv_iadd hx hb dX5_raking_52 ?_
          refine lv_topi (fun x_107 ex_107 => ?_)
          refine lv_iload_n hx hb dX5_raking_53 rfl (lv_at hl 6 rfl) ?_
          refine va_getsN hx hb (hE.sy hAb) hS hown (va_Nw.use rfl (hE.nf ("Underpaint$Picture", 58, "Underpaint", "SIDE_Y", "[I", "Underpaint") (by decide +kernel))) (fun _ h9 => h9) dX5_raking_54 ?_
          refine lv_iload hx hb dX5_raking_57 (lv_at hl 0 rfl) ?_
          refine va_ti hx hb (hE.sya hAb) hS (v := .int (-1)) (vp_in_nI (by decide : 3 < 4) (by decide)) rfl dX5_raking_59 ?_
          refine lv_iadd hx hb dX5_raking_60 ?_
          refine lv_topi (fun x_108 ex_108 => ?_)
          have hPc := (hP.app hR).sub (ws' := [] ++ [(q, .inr (11, [.ref st, .ref sp, .ref ll, .int 0, .int 1600])), (st, .inl (cS, 48, .inr (.inr (.inr (.inr g)))))]) [0, 1] rfl
          have hDc := (en_DD hD hDr hN0 hAb).sub (ws' := [] ++ [(q, .inr (11, [.ref st, .ref sp, .ref ll, .int 0, .int 1600])), (st, .inl (cS, 48, .inr (.inr (.inr (.inr g)))))]) [0, 1] (by decide) rfl
          have hKc := hK.sub (tys' := [(cS, .object "Underpaint$Stack")]) [0] rfl
          have hFc := va_free (wc := []) hD hS hA [] rfl
          refine va_callq (va_runV (As := [.int x_107, .int x_108]) (rest := []) ⟨hx, hb, hml, hown, hts⟩ (c_at l dC dI b0 en H.size q st sp ll x_107 x_108 g cS (z_c_X5_raking_278 x y x_5 x_6 x_11 x_12 x_62 x_63 x_71 x_72 x_92 x_93 x_101 x_102 x_107 x_108 hxy ex_5 ex_6 (b_no h_8 c_9) ex_11 ex_12 (b_yes h_14 c_15) ex_62 ex_63 ex_71 ex_72 (b_yes h_74 c_75) ex_92 ex_93 ex_101 ex_102 (b_yes h_104 c_105) ex_107 ex_108)) (cwV 2 hts go_c_X5_raking_0 rfl rfl rfl (by decide +kernel) ⟨Nat.le_of_ble_eq_true rfl, Nat.le_of_ble_eq_true rfl⟩) ⟨cP.blind, va_recv hK hR (ci := 11) (q0 := 0) rfl rfl, cP.use (en_z hb0 hS) (hE.on hAb hS) hPc hKc hDc trivial⟩ rfl rfl hl.1 rfl (lv_room (Nat.le_of_ble_eq_true rfl)) dX5_raking_61 ⟨Nat.le_of_ble_eq_true rfl, Nat.le_of_ble_eq_true rfl⟩) hS (fun q _ h => hFc q h) hFc (fun r_109 u t H1 locs ht hvm hw hB hz1 hk1 hS => ?_)
          have hP1 : va_P (dC, dI) vwCl [] H1 := fun k q h => by simp at h
          have hD1 : va_D (va_A [] H.size) [] := ⟨fun i j p q h => by simp at h, fun k q h => by simp at h⟩
          try dsimp only at hw
          obtain ⟨hP, hD⟩ := va_join (wr := []) (w1 := []) hP hD [] [] rfl rfl (by decide) (by decide) hk1 hFc hP1 hD1
          generalize H1 = H at hP hS ⊢
          have hP : va_P (dC, dI) vwCl [] H := hP
          have hD : va_D A [] := hD
          have hR := en_R hR0 hN0 hS
          refine W.widen (k := 0) (n := 0) (Nat.le_of_ble_eq_true rfl) (Nat.le_of_ble_eq_true rfl) ?_
          subst r_109
          obtain ⟨ap_110, rp_110, hgp_110, hup_110, hnp_110⟩ := hF0 (pidx x_107 x_108) (pidx_lt (z_c_X5_raking_279 x y x_5 x_6 x_11 x_12 x_62 x_63 x_71 x_72 x_92 x_93 x_101 x_102 x_107 x_108 hxy ex_5 ex_6 (b_no h_8 c_9) ex_11 ex_12 (b_yes h_14 c_15) ex_62 ex_63 ex_71 ex_72 (b_yes h_74 c_75) ex_92 ex_93 ex_101 ex_102 (b_yes h_104 c_105) ex_107 ex_108))
          refine lv_topv (w := .ref ap_110) (by rw [hgp_110]; rfl) ?_
          have hxp_110 : ¬ A ap_110 := by rw [← hAe]; exact vA0 hup_110.lt
          have hR0 : va_P (dC, dI) vwCl [(q, .inr (11, [.ref st, .ref sp, .ref ll, .int 0, .int 1600])), (st, .inl (cS, 48, .inr (.inr (.inr (.inr g))))), (ap_110, .inr (14, [.ref rp_110, .int 0, .int 0]))] s.heap := (hR0b.app (va1 hup_110))
          have hDr : va_D (fun q => b0 ≤ q) [(q, .inr (11, [.ref st, .ref sp, .ref ll, .int 0, .int 1600])), (st, .inl (cS, 48, .inr (.inr (.inr (.inr g))))), (ap_110, .inr (14, [.ref rp_110, .int 0, .int 0]))] := (vD_push hDrb (hNb ap_110 hnp_110).1 (nR (hNr ap_110 hnp_110)))
          have hN0 : ∀ (k9 : Nat) (q9 : Nat × va_E), [(q, .inr (11, [.ref st, .ref sp, .ref ll, .int 0, .int 1600])), (st, .inl (cS, 48, .inr (.inr (.inr (.inr g))))), (ap_110, .inr (14, [.ref rp_110, .int 0, .int 0]))][k9]? = some q9 → ¬ A q9.1 := (vN_push hN0b hxp_110)
          have hR : va_P (dC, dI) vwCl [(q, .inr (11, [.ref st, .ref sp, .ref ll, .int 0, .int 1600])), (st, .inl (cS, 48, .inr (.inr (.inr (.inr g))))), (ap_110, .inr (14, [.ref rp_110, .int 0, .int 0]))] H := en_R hR0 hN0 hS
          have hPc := (hP.app hR).sub (ws' := [] ++ [(ap_110, .inr (14, [.ref rp_110, .int 0, .int 0]))]) [2] rfl
          have hDc := (en_DD hD hDr hN0 hAb).sub (ws' := [] ++ [(ap_110, .inr (14, [.ref rp_110, .int 0, .int 0]))]) [2] (by decide) rfl
          have hKc := hK.sub (tys' := []) [] rfl
          have hFc := va_free (wc := []) hD hS hA [] rfl
          refine va_calli (va_runV (As := []) (rest := []) ⟨hx, hb, hml, hown, hts⟩ (c_X8_height l dC dI b0 en H.size ap_110 rp_110) (cwV 0 hts go_c_X5_raking_1 rfl rfl rfl (by decide +kernel) ⟨Nat.le_of_ble_eq_true rfl, Nat.le_of_ble_eq_true rfl⟩) ⟨cP.blind, va_recv hK hR (ci := 14) (q0 := 2) rfl rfl, cP.use (en_z hb0 hS) (hE.on hAb hS) hPc hKc hDc trivial⟩ rfl rfl hl.1 rfl (lv_room (Nat.le_of_ble_eq_true rfl)) dX5_raking_64 ⟨Nat.le_of_ble_eq_true rfl, Nat.le_of_ble_eq_true rfl⟩) hS (fun q _ h => hFc q h) hFc (fun r_111 u t H1 locs ht hvm hw hB hz1 hk1 hS => ?_)
          have hP1 : va_P (dC, dI) vwCl [] H1 := fun k q h => by simp at h
          have hD1 : va_D (va_A [] H.size) [] := ⟨fun i j p q h => by simp at h, fun k q h => by simp at h⟩
          try dsimp only at hw
          obtain ⟨hP, hD⟩ := va_join (wr := []) (w1 := []) hP hD [] [] rfl rfl (by decide) (by decide) hk1 hFc hP1 hD1
          generalize H1 = H at hP hS ⊢
          have hP : va_P (dC, dI) vwCl [] H := hP
          have hD : va_D A [] := hD
          have hR := en_R hR0 hN0 hS
          refine W.widen (k := 0) (n := 0) (Nat.le_of_ble_eq_true rfl) (Nat.le_of_ble_eq_true rfl) ?_
          subst r_111
          refine lv_iload_n hx hb dX5_raking_67 rfl (lv_at hl 3 rfl) ?_
          refine lv_isub hx hb dX5_raking_68 ?_
          refine lv_topi (fun x_112 ex_112 => ?_)
          obtain rfl : x_112 = 0 := ex_112.trans (by decide)
          refine lv_istore (lv' := [(6, .int 0), (5, .int 3), (4, .int 0), (3, .int 0), (0, .ref q), (1, .int x), (2, .int y)]) hx hb dX5_raking_69 hl (by decide) rfl (fun ls hl => ?_)
          refine lv_iload hx hb dX5_raking_71 (lv_at hl 2 rfl) ?_
          refine lv_iload hx hb dX5_raking_73 (lv_at hl 0 rfl) ?_
          refine va_mabs hx hb (hml.trans hl.1.symm) hown (hts (.methodLink RX5 65 Lib.Math.abs.name) (by decide +kernel)) (hts (.static Lib.Math.abs.name) (by decide +kernel)) (hts (.initialized "java/lang/Math") (by decide +kernel)) (hts (.code Lib.Math.abs.name Lib.Math.abs.code 1 (some .int)) (by decide +kernel)) (Nat.le_of_ble_eq_true rfl) (Nat.le_of_ble_eq_true rfl) (Nat.le_of_ble_eq_true rfl) (Nat.le_of_ble_eq_true rfl) dX5_raking_75 ?_
          refine lv_topi (fun x_113 ex_113 => ?_)
          obtain rfl : x_113 = 0 := ex_113.trans (by decide)
          refine va_mmax hx hb (hml.trans hl.1.symm) hown (hts (.methodLink RX5 70 Lib.Math.max.name) (by decide +kernel)) (hts (.static Lib.Math.max.name) (by decide +kernel)) (hts (.initialized "java/lang/Math") (by decide +kernel)) (hts (.code Lib.Math.max.name Lib.Math.max.code 2 (some .int)) (by decide +kernel)) (Nat.le_of_ble_eq_true rfl) (Nat.le_of_ble_eq_true rfl) (Nat.le_of_ble_eq_true rfl) (Nat.le_of_ble_eq_true rfl) dX5_raking_78 ?_
          refine lv_topi (fun x_114 ex_114 => ?_)
          obtain rfl : x_114 = 0 := ex_114.trans (by decide)
          refine lv_istore (lv' := [(4, .int 0), (6, .int 0), (5, .int 3), (3, .int 0), (0, .ref q), (1, .int x), (2, .int y)]) hx hb dX5_raking_81 hl (by decide) rfl (fun ls hl => ?_)
          refine lv_iinc (v := 4) (lv' := [(5, .int 4), (4, .int 0), (6, .int 0), (3, .int 0), (0, .ref q), (1, .int x), (2, .int y)]) hx hb dX5_raking_83 hl (k := 2) rfl (by decide) (by decide) rfl (fun ls hl => ?_)
          refine lv_goto (tgt := 16) hx hb dX5_raking_86 (by decide) ?_
          refine lv_iload hx hb dX5_raking_16 (lv_at hl 0 rfl) ?_
          refine lv_iconst (v := 4) hx hb dX5_raking_18 (by decide) ?_
          refine lv_icmp_ge (tgt := 89) hx hb dX5_raking_19 (by decide) (fun c_115 => ?_) (fun c_115 => absurd c_115 (by decide))
          refine lv_iload hx hb dX5_raking_89 (lv_at hl 1 rfl) ?_
          refine W.widen (k := 0) (n := 0) (Nat.le_of_ble_eq_true rfl) (Nat.le_of_ble_eq_true rfl) ?_
          exact W.iret (v := 0) hx hb hr (fun t ht hW => ⟨⟨0, (), rfl, (z_c_X5_raking_280 x y x_5 x_6 x_11 x_12 x_62 x_63 x_71 x_72 x_92 x_93 x_101 x_102 x_107 x_108 hxy ex_5 ex_6 (b_no h_8 c_9) ex_11 ex_12 (b_yes h_14 c_15) ex_62 ex_63 ex_71 ex_72 (b_yes h_74 c_75) ex_92 ex_93 ex_101 ex_102 (b_yes h_104 c_105) ex_107 ex_108), trivial⟩, hS.F ht⟩) hS.2.2 dX5_raking_91
  · skip
    refine lv_aload_n hx hb dX5_raking_44 rfl (lv_at hl 3 rfl) ?_
    refine lv_iload_n hx hb dX5_raking_45 rfl (lv_at hl 4 rfl) ?_
    refine va_getsN hx hb (hE.sx hAb) hS hown (va_Nw.use rfl (hE.nf ("Underpaint$Picture", 55, "Underpaint", "SIDE_X", "[I", "Underpaint") (by decide +kernel))) (fun _ h9 => h9) dX5_raking_46 ?_
    refine lv_iload hx hb dX5_raking_49 (lv_at hl 0 rfl) ?_
    refine va_ti hx hb (hE.sxa hAb) hS (v := .int 1) (vp_in_nI (by decide : 0 < 4) (by decide)) rfl dX5_raking_51 ?_
    refine lv_iadd hx hb dX5_raking_52 ?_
    refine lv_topi (fun x_116 ex_116 => ?_)
    refine lv_iload_n hx hb dX5_raking_53 rfl (lv_at hl 5 rfl) ?_
    refine va_getsN hx hb (hE.sy hAb) hS hown (va_Nw.use rfl (hE.nf ("Underpaint$Picture", 58, "Underpaint", "SIDE_Y", "[I", "Underpaint") (by decide +kernel))) (fun _ h9 => h9) dX5_raking_54 ?_
    refine lv_iload hx hb dX5_raking_57 (lv_at hl 0 rfl) ?_
    refine va_ti hx hb (hE.sya hAb) hS (v := .int 0) (vp_in_nI (by decide : 0 < 4) (by decide)) rfl dX5_raking_59 ?_
    refine lv_iadd hx hb dX5_raking_60 ?_
    refine lv_topi (fun x_117 ex_117 => ?_)
    have hPc := (hP.app hR).sub (ws' := [] ++ [(q, .inr (11, [.ref st, .ref sp, .ref ll, .int 0, .int 1600])), (st, .inl (cS, 48, .inr (.inr (.inr (.inr g)))))]) [0, 1] rfl
    have hDc := (en_DD hD hDr hN0 hAb).sub (ws' := [] ++ [(q, .inr (11, [.ref st, .ref sp, .ref ll, .int 0, .int 1600])), (st, .inl (cS, 48, .inr (.inr (.inr (.inr g)))))]) [0, 1] (by decide) rfl
    have hKc := hK.sub (tys' := [(cS, .object "Underpaint$Stack")]) [0] rfl
    have hFc := va_free (wc := []) hD hS hA [] rfl
    refine va_callq (va_runV (As := [.int x_116, .int x_117]) (rest := []) ⟨hx, hb, hml, hown, hts⟩ (c_at l dC dI b0 en H.size q st sp ll x_116 x_117 g cS (z_c_X5_raking_281 x y x_5 x_6 x_116 x_117 hxy ex_5 ex_6 (b_yes h_8 c_9) ex_116 ex_117)) (cwV 2 hts go_c_X5_raking_0 rfl rfl rfl (by decide +kernel) ⟨Nat.le_of_ble_eq_true rfl, Nat.le_of_ble_eq_true rfl⟩) ⟨cP.blind, va_recv hK hR (ci := 11) (q0 := 0) rfl rfl, cP.use (en_z hb0 hS) (hE.on hAb hS) hPc hKc hDc trivial⟩ rfl rfl hl.1 rfl (lv_room (Nat.le_of_ble_eq_true rfl)) dX5_raking_61 ⟨Nat.le_of_ble_eq_true rfl, Nat.le_of_ble_eq_true rfl⟩) hS (fun q _ h => hFc q h) hFc (fun r_118 u t H1 locs ht hvm hw hB hz1 hk1 hS => ?_)
    have hP1 : va_P (dC, dI) vwCl [] H1 := fun k q h => by simp at h
    have hD1 : va_D (va_A [] H.size) [] := ⟨fun i j p q h => by simp at h, fun k q h => by simp at h⟩
    try dsimp only at hw
    obtain ⟨hP, hD⟩ := va_join (wr := []) (w1 := []) hP hD [] [] rfl rfl (by decide) (by decide) hk1 hFc hP1 hD1
    generalize H1 = H at hP hS ⊢
    have hP : va_P (dC, dI) vwCl [] H := hP
    have hD : va_D A [] := hD
    have hR := en_R hR0 hN0 hS
    refine W.widen (k := 0) (n := 0) (Nat.le_of_ble_eq_true rfl) (Nat.le_of_ble_eq_true rfl) ?_
    subst r_118
    obtain ⟨ap_119, rp_119, hgp_119, hup_119, hnp_119⟩ := hF0 (pidx x_116 x_117) (pidx_lt (z_c_X5_raking_282 x y x_5 x_6 x_116 x_117 hxy ex_5 ex_6 (b_yes h_8 c_9) ex_116 ex_117))
    refine lv_topv (w := .ref ap_119) (by rw [hgp_119]; rfl) ?_
    have hxp_119 : ¬ A ap_119 := by rw [← hAe]; exact vA0 hup_119.lt
    have hR0 : va_P (dC, dI) vwCl [(q, .inr (11, [.ref st, .ref sp, .ref ll, .int 0, .int 1600])), (st, .inl (cS, 48, .inr (.inr (.inr (.inr g))))), (ap_119, .inr (14, [.ref rp_119, .int 0, .int 0]))] s.heap := (hR0b.app (va1 hup_119))
    have hDr : va_D (fun q => b0 ≤ q) [(q, .inr (11, [.ref st, .ref sp, .ref ll, .int 0, .int 1600])), (st, .inl (cS, 48, .inr (.inr (.inr (.inr g))))), (ap_119, .inr (14, [.ref rp_119, .int 0, .int 0]))] := (vD_push hDrb (hNb ap_119 hnp_119).1 (nR (hNr ap_119 hnp_119)))
    have hN0 : ∀ (k9 : Nat) (q9 : Nat × va_E), [(q, .inr (11, [.ref st, .ref sp, .ref ll, .int 0, .int 1600])), (st, .inl (cS, 48, .inr (.inr (.inr (.inr g))))), (ap_119, .inr (14, [.ref rp_119, .int 0, .int 0]))][k9]? = some q9 → ¬ A q9.1 := (vN_push hN0b hxp_119)
    have hR : va_P (dC, dI) vwCl [(q, .inr (11, [.ref st, .ref sp, .ref ll, .int 0, .int 1600])), (st, .inl (cS, 48, .inr (.inr (.inr (.inr g))))), (ap_119, .inr (14, [.ref rp_119, .int 0, .int 0]))] H := en_R hR0 hN0 hS
    have hPc := (hP.app hR).sub (ws' := [] ++ [(ap_119, .inr (14, [.ref rp_119, .int 0, .int 0]))]) [2] rfl
    have hDc := (en_DD hD hDr hN0 hAb).sub (ws' := [] ++ [(ap_119, .inr (14, [.ref rp_119, .int 0, .int 0]))]) [2] (by decide) rfl
    have hKc := hK.sub (tys' := []) [] rfl
    have hFc := va_free (wc := []) hD hS hA [] rfl
    refine va_calli (va_runV (As := []) (rest := []) ⟨hx, hb, hml, hown, hts⟩ (c_X8_height l dC dI b0 en H.size ap_119 rp_119) (cwV 0 hts go_c_X5_raking_1 rfl rfl rfl (by decide +kernel) ⟨Nat.le_of_ble_eq_true rfl, Nat.le_of_ble_eq_true rfl⟩) ⟨cP.blind, va_recv hK hR (ci := 14) (q0 := 2) rfl rfl, cP.use (en_z hb0 hS) (hE.on hAb hS) hPc hKc hDc trivial⟩ rfl rfl hl.1 rfl (lv_room (Nat.le_of_ble_eq_true rfl)) dX5_raking_64 ⟨Nat.le_of_ble_eq_true rfl, Nat.le_of_ble_eq_true rfl⟩) hS (fun q _ h => hFc q h) hFc (fun r_120 u t H1 locs ht hvm hw hB hz1 hk1 hS => ?_)
    have hP1 : va_P (dC, dI) vwCl [] H1 := fun k q h => by simp at h
    have hD1 : va_D (va_A [] H.size) [] := ⟨fun i j p q h => by simp at h, fun k q h => by simp at h⟩
    try dsimp only at hw
    obtain ⟨hP, hD⟩ := va_join (wr := []) (w1 := []) hP hD [] [] rfl rfl (by decide) (by decide) hk1 hFc hP1 hD1
    generalize H1 = H at hP hS ⊢
    have hP : va_P (dC, dI) vwCl [] H := hP
    have hD : va_D A [] := hD
    have hR := en_R hR0 hN0 hS
    refine W.widen (k := 0) (n := 0) (Nat.le_of_ble_eq_true rfl) (Nat.le_of_ble_eq_true rfl) ?_
    subst r_120
    refine lv_iload_n hx hb dX5_raking_67 rfl (lv_at hl 2 rfl) ?_
    refine lv_isub hx hb dX5_raking_68 ?_
    refine lv_topi (fun x_121 ex_121 => ?_)
    obtain rfl : x_121 = 0 := ex_121.trans (by decide)
    refine lv_istore (lv' := [(6, .int 0), (5, .int 0), (4, .int 0), (3, .int 0), (0, .ref q), (1, .int x), (2, .int y)]) hx hb dX5_raking_69 hl (by decide) rfl (fun ls hl => ?_)
    refine lv_iload hx hb dX5_raking_71 (lv_at hl 2 rfl) ?_
    refine lv_iload hx hb dX5_raking_73 (lv_at hl 0 rfl) ?_
    refine va_mabs hx hb (hml.trans hl.1.symm) hown (hts (.methodLink RX5 65 Lib.Math.abs.name) (by decide +kernel)) (hts (.static Lib.Math.abs.name) (by decide +kernel)) (hts (.initialized "java/lang/Math") (by decide +kernel)) (hts (.code Lib.Math.abs.name Lib.Math.abs.code 1 (some .int)) (by decide +kernel)) (Nat.le_of_ble_eq_true rfl) (Nat.le_of_ble_eq_true rfl) (Nat.le_of_ble_eq_true rfl) (Nat.le_of_ble_eq_true rfl) dX5_raking_75 ?_
    refine lv_topi (fun x_122 ex_122 => ?_)
    obtain rfl : x_122 = 0 := ex_122.trans (by decide)
    refine va_mmax hx hb (hml.trans hl.1.symm) hown (hts (.methodLink RX5 70 Lib.Math.max.name) (by decide +kernel)) (hts (.static Lib.Math.max.name) (by decide +kernel)) (hts (.initialized "java/lang/Math") (by decide +kernel)) (hts (.code Lib.Math.max.name Lib.Math.max.code 2 (some .int)) (by decide +kernel)) (Nat.le_of_ble_eq_true rfl) (Nat.le_of_ble_eq_true rfl) (Nat.le_of_ble_eq_true rfl) (Nat.le_of_ble_eq_true rfl) dX5_raking_78 ?_
    refine lv_topi (fun x_123 ex_123 => ?_)
    obtain rfl : x_123 = 0 := ex_123.trans (by decide)
    refine lv_istore (lv' := [(4, .int 0), (6, .int 0), (5, .int 0), (3, .int 0), (0, .ref q), (1, .int x), (2, .int y)]) hx hb dX5_raking_81 hl (by decide) rfl (fun ls hl => ?_)
    refine lv_iinc (v := 1) (lv' := [(5, .int 1), (4, .int 0), (6, .int 0), (3, .int 0), (0, .ref q), (1, .int x), (2, .int y)]) hx hb dX5_raking_83 hl (k := 2) rfl (by decide) (by decide) rfl (fun ls hl => ?_)
    refine lv_goto (tgt := 16) hx hb dX5_raking_86 (by decide) ?_
    refine lv_iload hx hb dX5_raking_16 (lv_at hl 0 rfl) ?_
    refine lv_iconst (v := 4) hx hb dX5_raking_18 (by decide) ?_
    refine lv_icmp_ge (tgt := 89) hx hb dX5_raking_19 (by decide) (fun c_124 => absurd c_124 (by decide)) (fun c_124 => ?_)
    refine lv_iload_n hx hb dX5_raking_22 rfl (lv_at hl 5 rfl) ?_
    refine va_getsN hx hb (hE.sx hAb) hS hown (va_Nw.use rfl (hE.nf ("Underpaint$Picture", 55, "Underpaint", "SIDE_X", "[I", "Underpaint") (by decide +kernel))) (fun _ h9 => h9) dX5_raking_23 ?_
    refine lv_iload hx hb dX5_raking_26 (lv_at hl 0 rfl) ?_
    refine va_ti hx hb (hE.sxa hAb) hS (v := .int (-1)) (vp_in_nI (by decide : 1 < 4) (by decide)) rfl dX5_raking_28 ?_
    refine lv_iadd hx hb dX5_raking_29 ?_
    refine lv_topi (fun x_125 ex_125 => ?_)
    refine lv_iload_n hx hb dX5_raking_30 rfl (lv_at hl 6 rfl) ?_
    refine va_getsN hx hb (hE.sy hAb) hS hown (va_Nw.use rfl (hE.nf ("Underpaint$Picture", 58, "Underpaint", "SIDE_Y", "[I", "Underpaint") (by decide +kernel))) (fun _ h9 => h9) dX5_raking_31 ?_
    refine lv_iload hx hb dX5_raking_34 (lv_at hl 0 rfl) ?_
    refine va_ti hx hb (hE.sya hAb) hS (v := .int 0) (vp_in_nI (by decide : 1 < 4) (by decide)) rfl dX5_raking_36 ?_
    refine lv_iadd hx hb dX5_raking_37 ?_
    refine lv_topi (fun x_126 ex_126 => ?_)
    have hPc := (hP.app hR).sub (ws' := [] ++ []) [] rfl
    have hDc := (en_DD hD hDr hN0 hAb).sub (ws' := [] ++ []) [] (by decide) rfl
    have hKc := hK.sub (tys' := []) [] rfl
    have hFc := va_free (wc := []) hD hS hA [] rfl
    refine va_calli (va_runSN (As := [.int x_125, .int x_126]) (rest := []) ⟨hx, hb, hml, hown, hts⟩ (c_X11_isPlace l dC dI b0 en H.size x_125 x_126) ⟨va_cnB 2 hts go_c_X5_raking_2 rfl rfl rfl (hE.nm ("Underpaint$Picture", 61, ⟨"Underpaint", "isPlace", "(II)Z"⟩, "Underpaint") (by decide +kernel)) (hts (.initialized RX11) (by decide +kernel)) (by decide +kernel) ⟨Nat.le_of_ble_eq_true rfl, Nat.le_of_ble_eq_true rfl⟩, hts (.static yX11_isPlace) (by decide +kernel), trivial⟩ ⟨cP.blind, cP.use (en_z hb0 hS) (hE.on hAb hS) hPc hKc hDc trivial⟩ rfl rfl hl.1 rfl (lv_room (Nat.le_of_ble_eq_true rfl)) dX5_raking_38 ⟨Nat.le_of_ble_eq_true rfl, Nat.le_of_ble_eq_true rfl⟩) hS (fun q _ h => hFc q h) hFc (fun r_127 u t H1 locs ht hvm hw hB hz1 hk1 hS => ?_)
    have hP1 : va_P (dC, dI) vwCl [] H1 := fun k q h => by simp at h
    have hD1 : va_D (va_A [] H.size) [] := ⟨fun i j p q h => by simp at h, fun k q h => by simp at h⟩
    try dsimp only at hw
    obtain ⟨hP, hD⟩ := va_join (wr := []) (w1 := []) hP hD [] [] rfl rfl (by decide) (by decide) hk1 hFc hP1 hD1
    generalize H1 = H at hP hS ⊢
    have hP : va_P (dC, dI) vwCl [] H := hP
    have hD : va_D A [] := hD
    have hR := en_R hR0 hN0 hS
    refine W.widen (k := 0) (n := 0) (Nat.le_of_ble_eq_true rfl) (Nat.le_of_ble_eq_true rfl) ?_
    have h_128 := hw
    refine lv_if_eq (tgt := 83) hx hb dX5_raking_41 (by decide) (fun c_129 => ?_) (fun c_129 => ?_)
    · skip
      refine lv_iinc (v := 2) (lv' := [(5, .int 2), (4, .int 0), (6, .int 0), (3, .int 0), (0, .ref q), (1, .int x), (2, .int y)]) hx hb dX5_raking_83 hl (k := 0) rfl (by decide) (by decide) rfl (fun ls hl => ?_)
      refine lv_goto (tgt := 16) hx hb dX5_raking_86 (by decide) ?_
      refine lv_iload hx hb dX5_raking_16 (lv_at hl 0 rfl) ?_
      refine lv_iconst (v := 4) hx hb dX5_raking_18 (by decide) ?_
      refine lv_icmp_ge (tgt := 89) hx hb dX5_raking_19 (by decide) (fun c_130 => absurd c_130 (by decide)) (fun c_130 => ?_)
      refine lv_iload_n hx hb dX5_raking_22 rfl (lv_at hl 5 rfl) ?_
      refine va_getsN hx hb (hE.sx hAb) hS hown (va_Nw.use rfl (hE.nf ("Underpaint$Picture", 55, "Underpaint", "SIDE_X", "[I", "Underpaint") (by decide +kernel))) (fun _ h9 => h9) dX5_raking_23 ?_
      refine lv_iload hx hb dX5_raking_26 (lv_at hl 0 rfl) ?_
      refine va_ti hx hb (hE.sxa hAb) hS (v := .int 0) (vp_in_nI (by decide : 2 < 4) (by decide)) rfl dX5_raking_28 ?_
      refine lv_iadd hx hb dX5_raking_29 ?_
      refine lv_topi (fun x_131 ex_131 => ?_)
      refine lv_iload_n hx hb dX5_raking_30 rfl (lv_at hl 6 rfl) ?_
      refine va_getsN hx hb (hE.sy hAb) hS hown (va_Nw.use rfl (hE.nf ("Underpaint$Picture", 58, "Underpaint", "SIDE_Y", "[I", "Underpaint") (by decide +kernel))) (fun _ h9 => h9) dX5_raking_31 ?_
      refine lv_iload hx hb dX5_raking_34 (lv_at hl 0 rfl) ?_
      refine va_ti hx hb (hE.sya hAb) hS (v := .int 1) (vp_in_nI (by decide : 2 < 4) (by decide)) rfl dX5_raking_36 ?_
      refine lv_iadd hx hb dX5_raking_37 ?_
      refine lv_topi (fun x_132 ex_132 => ?_)
      have hPc := (hP.app hR).sub (ws' := [] ++ []) [] rfl
      have hDc := (en_DD hD hDr hN0 hAb).sub (ws' := [] ++ []) [] (by decide) rfl
      have hKc := hK.sub (tys' := []) [] rfl
      have hFc := va_free (wc := []) hD hS hA [] rfl
      refine va_calli (va_runSN (As := [.int x_131, .int x_132]) (rest := []) ⟨hx, hb, hml, hown, hts⟩ (c_X11_isPlace l dC dI b0 en H.size x_131 x_132) ⟨va_cnB 2 hts go_c_X5_raking_2 rfl rfl rfl (hE.nm ("Underpaint$Picture", 61, ⟨"Underpaint", "isPlace", "(II)Z"⟩, "Underpaint") (by decide +kernel)) (hts (.initialized RX11) (by decide +kernel)) (by decide +kernel) ⟨Nat.le_of_ble_eq_true rfl, Nat.le_of_ble_eq_true rfl⟩, hts (.static yX11_isPlace) (by decide +kernel), trivial⟩ ⟨cP.blind, cP.use (en_z hb0 hS) (hE.on hAb hS) hPc hKc hDc trivial⟩ rfl rfl hl.1 rfl (lv_room (Nat.le_of_ble_eq_true rfl)) dX5_raking_38 ⟨Nat.le_of_ble_eq_true rfl, Nat.le_of_ble_eq_true rfl⟩) hS (fun q _ h => hFc q h) hFc (fun r_133 u t H1 locs ht hvm hw hB hz1 hk1 hS => ?_)
      have hP1 : va_P (dC, dI) vwCl [] H1 := fun k q h => by simp at h
      have hD1 : va_D (va_A [] H.size) [] := ⟨fun i j p q h => by simp at h, fun k q h => by simp at h⟩
      try dsimp only at hw
      obtain ⟨hP, hD⟩ := va_join (wr := []) (w1 := []) hP hD [] [] rfl rfl (by decide) (by decide) hk1 hFc hP1 hD1
      generalize H1 = H at hP hS ⊢
      have hP : va_P (dC, dI) vwCl [] H := hP
      have hD : va_D A [] := hD
      have hR := en_R hR0 hN0 hS
      refine W.widen (k := 0) (n := 0) (Nat.le_of_ble_eq_true rfl) (Nat.le_of_ble_eq_true rfl) ?_
      have h_134 := hw
      refine lv_if_eq (tgt := 83) hx hb dX5_raking_41 (by decide) (fun c_135 => ?_) (fun c_135 => ?_)
      · skip
        refine lv_iinc (v := 3) (lv' := [(5, .int 3), (4, .int 0), (6, .int 0), (3, .int 0), (0, .ref q), (1, .int x), (2, .int y)]) hx hb dX5_raking_83 hl (k := 0) rfl (by decide) (by decide) rfl (fun ls hl => ?_)
        refine lv_goto (tgt := 16) hx hb dX5_raking_86 (by decide) ?_
        refine lv_iload hx hb dX5_raking_16 (lv_at hl 0 rfl) ?_
        refine lv_iconst (v := 4) hx hb dX5_raking_18 (by decide) ?_
        refine lv_icmp_ge (tgt := 89) hx hb dX5_raking_19 (by decide) (fun c_136 => absurd c_136 (by decide)) (fun c_136 => ?_)
        refine lv_iload_n hx hb dX5_raking_22 rfl (lv_at hl 5 rfl) ?_
        refine va_getsN hx hb (hE.sx hAb) hS hown (va_Nw.use rfl (hE.nf ("Underpaint$Picture", 55, "Underpaint", "SIDE_X", "[I", "Underpaint") (by decide +kernel))) (fun _ h9 => h9) dX5_raking_23 ?_
        refine lv_iload hx hb dX5_raking_26 (lv_at hl 0 rfl) ?_
        refine va_ti hx hb (hE.sxa hAb) hS (v := .int 0) (vp_in_nI (by decide : 3 < 4) (by decide)) rfl dX5_raking_28 ?_
        refine lv_iadd hx hb dX5_raking_29 ?_
        refine lv_topi (fun x_137 ex_137 => ?_)
        refine lv_iload_n hx hb dX5_raking_30 rfl (lv_at hl 6 rfl) ?_
        refine va_getsN hx hb (hE.sy hAb) hS hown (va_Nw.use rfl (hE.nf ("Underpaint$Picture", 58, "Underpaint", "SIDE_Y", "[I", "Underpaint") (by decide +kernel))) (fun _ h9 => h9) dX5_raking_31 ?_
        refine lv_iload hx hb dX5_raking_34 (lv_at hl 0 rfl) ?_
        refine va_ti hx hb (hE.sya hAb) hS (v := .int (-1)) (vp_in_nI (by decide : 3 < 4) (by decide)) rfl dX5_raking_36 ?_
        refine lv_iadd hx hb dX5_raking_37 ?_
        refine lv_topi (fun x_138 ex_138 => ?_)
        have hPc := (hP.app hR).sub (ws' := [] ++ []) [] rfl
        have hDc := (en_DD hD hDr hN0 hAb).sub (ws' := [] ++ []) [] (by decide) rfl
        have hKc := hK.sub (tys' := []) [] rfl
        have hFc := va_free (wc := []) hD hS hA [] rfl
        refine va_calli (va_runSN (As := [.int x_137, .int x_138]) (rest := []) ⟨hx, hb, hml, hown, hts⟩ (c_X11_isPlace l dC dI b0 en H.size x_137 x_138) ⟨va_cnB 2 hts go_c_X5_raking_2 rfl rfl rfl (hE.nm ("Underpaint$Picture", 61, ⟨"Underpaint", "isPlace", "(II)Z"⟩, "Underpaint") (by decide +kernel)) (hts (.initialized RX11) (by decide +kernel)) (by decide +kernel) ⟨Nat.le_of_ble_eq_true rfl, Nat.le_of_ble_eq_true rfl⟩, hts (.static yX11_isPlace) (by decide +kernel), trivial⟩ ⟨cP.blind, cP.use (en_z hb0 hS) (hE.on hAb hS) hPc hKc hDc trivial⟩ rfl rfl hl.1 rfl (lv_room (Nat.le_of_ble_eq_true rfl)) dX5_raking_38 ⟨Nat.le_of_ble_eq_true rfl, Nat.le_of_ble_eq_true rfl⟩) hS (fun q _ h => hFc q h) hFc (fun r_139 u t H1 locs ht hvm hw hB hz1 hk1 hS => ?_)
        have hP1 : va_P (dC, dI) vwCl [] H1 := fun k q h => by simp at h
        have hD1 : va_D (va_A [] H.size) [] := ⟨fun i j p q h => by simp at h, fun k q h => by simp at h⟩
        try dsimp only at hw
        obtain ⟨hP, hD⟩ := va_join (wr := []) (w1 := []) hP hD [] [] rfl rfl (by decide) (by decide) hk1 hFc hP1 hD1
        generalize H1 = H at hP hS ⊢
        have hP : va_P (dC, dI) vwCl [] H := hP
        have hD : va_D A [] := hD
        have hR := en_R hR0 hN0 hS
        refine W.widen (k := 0) (n := 0) (Nat.le_of_ble_eq_true rfl) (Nat.le_of_ble_eq_true rfl) ?_
        have h_140 := hw
        refine lv_if_eq (tgt := 83) hx hb dX5_raking_41 (by decide) (fun c_141 => ?_) (fun c_141 => ?_)
        · skip
          refine lv_iinc (v := 4) (lv' := [(5, .int 4), (4, .int 0), (6, .int 0), (3, .int 0), (0, .ref q), (1, .int x), (2, .int y)]) hx hb dX5_raking_83 hl (k := 0) rfl (by decide) (by decide) rfl (fun ls hl => ?_)
          refine lv_goto (tgt := 16) hx hb dX5_raking_86 (by decide) ?_
          refine lv_iload hx hb dX5_raking_16 (lv_at hl 0 rfl) ?_
          refine lv_iconst (v := 4) hx hb dX5_raking_18 (by decide) ?_
          refine lv_icmp_ge (tgt := 89) hx hb dX5_raking_19 (by decide) (fun c_142 => ?_) (fun c_142 => absurd c_142 (by decide))
          refine lv_iload hx hb dX5_raking_89 (lv_at hl 1 rfl) ?_
          refine W.widen (k := 0) (n := 0) (Nat.le_of_ble_eq_true rfl) (Nat.le_of_ble_eq_true rfl) ?_
          exact W.iret (v := 0) hx hb hr (fun t ht hW => ⟨⟨0, (), rfl, (z_c_X5_raking_283 x y x_5 x_6 x_116 x_117 x_125 x_126 x_131 x_132 x_137 x_138 hxy ex_5 ex_6 (b_yes h_8 c_9) ex_116 ex_117 ex_125 ex_126 (b_no h_128 c_129) ex_131 ex_132 (b_no h_134 c_135) ex_137 ex_138 (b_no h_140 c_141)), trivial⟩, hS.F ht⟩) hS.2.2 dX5_raking_91
        · skip
          refine lv_aload_n hx hb dX5_raking_44 rfl (lv_at hl 4 rfl) ?_
          refine lv_iload_n hx hb dX5_raking_45 rfl (lv_at hl 5 rfl) ?_
          refine va_getsN hx hb (hE.sx hAb) hS hown (va_Nw.use rfl (hE.nf ("Underpaint$Picture", 55, "Underpaint", "SIDE_X", "[I", "Underpaint") (by decide +kernel))) (fun _ h9 => h9) dX5_raking_46 ?_
          refine lv_iload hx hb dX5_raking_49 (lv_at hl 0 rfl) ?_
          refine va_ti hx hb (hE.sxa hAb) hS (v := .int 0) (vp_in_nI (by decide : 3 < 4) (by decide)) rfl dX5_raking_51 ?_
          refine lv_iadd hx hb dX5_raking_52 ?_
          refine lv_topi (fun x_143 ex_143 => ?_)
          refine lv_iload_n hx hb dX5_raking_53 rfl (lv_at hl 6 rfl) ?_
          refine va_getsN hx hb (hE.sy hAb) hS hown (va_Nw.use rfl (hE.nf ("Underpaint$Picture", 58, "Underpaint", "SIDE_Y", "[I", "Underpaint") (by decide +kernel))) (fun _ h9 => h9) dX5_raking_54 ?_
          refine lv_iload hx hb dX5_raking_57 (lv_at hl 0 rfl) ?_
          refine va_ti hx hb (hE.sya hAb) hS (v := .int (-1)) (vp_in_nI (by decide : 3 < 4) (by decide)) rfl dX5_raking_59 ?_
          refine lv_iadd hx hb dX5_raking_60 ?_
          refine lv_topi (fun x_144 ex_144 => ?_)
          have hPc := (hP.app hR).sub (ws' := [] ++ [(q, .inr (11, [.ref st, .ref sp, .ref ll, .int 0, .int 1600])), (st, .inl (cS, 48, .inr (.inr (.inr (.inr g)))))]) [0, 1] rfl
          have hDc := (en_DD hD hDr hN0 hAb).sub (ws' := [] ++ [(q, .inr (11, [.ref st, .ref sp, .ref ll, .int 0, .int 1600])), (st, .inl (cS, 48, .inr (.inr (.inr (.inr g)))))]) [0, 1] (by decide) rfl
          have hKc := hK.sub (tys' := [(cS, .object "Underpaint$Stack")]) [0] rfl
          have hFc := va_free (wc := []) hD hS hA [] rfl
          refine va_callq (va_runV (As := [.int x_143, .int x_144]) (rest := []) ⟨hx, hb, hml, hown, hts⟩ (c_at l dC dI b0 en H.size q st sp ll x_143 x_144 g cS (z_c_X5_raking_284 x y x_5 x_6 x_116 x_117 x_125 x_126 x_131 x_132 x_137 x_138 x_143 x_144 hxy ex_5 ex_6 (b_yes h_8 c_9) ex_116 ex_117 ex_125 ex_126 (b_no h_128 c_129) ex_131 ex_132 (b_no h_134 c_135) ex_137 ex_138 (b_yes h_140 c_141) ex_143 ex_144)) (cwV 2 hts go_c_X5_raking_0 rfl rfl rfl (by decide +kernel) ⟨Nat.le_of_ble_eq_true rfl, Nat.le_of_ble_eq_true rfl⟩) ⟨cP.blind, va_recv hK hR (ci := 11) (q0 := 0) rfl rfl, cP.use (en_z hb0 hS) (hE.on hAb hS) hPc hKc hDc trivial⟩ rfl rfl hl.1 rfl (lv_room (Nat.le_of_ble_eq_true rfl)) dX5_raking_61 ⟨Nat.le_of_ble_eq_true rfl, Nat.le_of_ble_eq_true rfl⟩) hS (fun q _ h => hFc q h) hFc (fun r_145 u t H1 locs ht hvm hw hB hz1 hk1 hS => ?_)
          have hP1 : va_P (dC, dI) vwCl [] H1 := fun k q h => by simp at h
          have hD1 : va_D (va_A [] H.size) [] := ⟨fun i j p q h => by simp at h, fun k q h => by simp at h⟩
          try dsimp only at hw
          obtain ⟨hP, hD⟩ := va_join (wr := []) (w1 := []) hP hD [] [] rfl rfl (by decide) (by decide) hk1 hFc hP1 hD1
          generalize H1 = H at hP hS ⊢
          have hP : va_P (dC, dI) vwCl [] H := hP
          have hD : va_D A [] := hD
          have hR := en_R hR0 hN0 hS
          refine W.widen (k := 0) (n := 0) (Nat.le_of_ble_eq_true rfl) (Nat.le_of_ble_eq_true rfl) ?_
          subst r_145
          obtain ⟨ap_146, rp_146, hgp_146, hup_146, hnp_146⟩ := hF0 (pidx x_143 x_144) (pidx_lt (z_c_X5_raking_285 x y x_5 x_6 x_116 x_117 x_125 x_126 x_131 x_132 x_137 x_138 x_143 x_144 hxy ex_5 ex_6 (b_yes h_8 c_9) ex_116 ex_117 ex_125 ex_126 (b_no h_128 c_129) ex_131 ex_132 (b_no h_134 c_135) ex_137 ex_138 (b_yes h_140 c_141) ex_143 ex_144))
          refine lv_topv (w := .ref ap_146) (by rw [hgp_146]; rfl) ?_
          have hxp_146 : ¬ A ap_146 := by rw [← hAe]; exact vA0 hup_146.lt
          have hR0 : va_P (dC, dI) vwCl [(q, .inr (11, [.ref st, .ref sp, .ref ll, .int 0, .int 1600])), (st, .inl (cS, 48, .inr (.inr (.inr (.inr g))))), (ap_146, .inr (14, [.ref rp_146, .int 0, .int 0]))] s.heap := (hR0b.app (va1 hup_146))
          have hDr : va_D (fun q => b0 ≤ q) [(q, .inr (11, [.ref st, .ref sp, .ref ll, .int 0, .int 1600])), (st, .inl (cS, 48, .inr (.inr (.inr (.inr g))))), (ap_146, .inr (14, [.ref rp_146, .int 0, .int 0]))] := (vD_push hDrb (hNb ap_146 hnp_146).1 (nR (hNr ap_146 hnp_146)))
          have hN0 : ∀ (k9 : Nat) (q9 : Nat × va_E), [(q, .inr (11, [.ref st, .ref sp, .ref ll, .int 0, .int 1600])), (st, .inl (cS, 48, .inr (.inr (.inr (.inr g))))), (ap_146, .inr (14, [.ref rp_146, .int 0, .int 0]))][k9]? = some q9 → ¬ A q9.1 := (vN_push hN0b hxp_146)
          have hR : va_P (dC, dI) vwCl [(q, .inr (11, [.ref st, .ref sp, .ref ll, .int 0, .int 1600])), (st, .inl (cS, 48, .inr (.inr (.inr (.inr g))))), (ap_146, .inr (14, [.ref rp_146, .int 0, .int 0]))] H := en_R hR0 hN0 hS
          have hPc := (hP.app hR).sub (ws' := [] ++ [(ap_146, .inr (14, [.ref rp_146, .int 0, .int 0]))]) [2] rfl
          have hDc := (en_DD hD hDr hN0 hAb).sub (ws' := [] ++ [(ap_146, .inr (14, [.ref rp_146, .int 0, .int 0]))]) [2] (by decide) rfl
          have hKc := hK.sub (tys' := []) [] rfl
          have hFc := va_free (wc := []) hD hS hA [] rfl
          refine va_calli (va_runV (As := []) (rest := []) ⟨hx, hb, hml, hown, hts⟩ (c_X8_height l dC dI b0 en H.size ap_146 rp_146) (cwV 0 hts go_c_X5_raking_1 rfl rfl rfl (by decide +kernel) ⟨Nat.le_of_ble_eq_true rfl, Nat.le_of_ble_eq_true rfl⟩) ⟨cP.blind, va_recv hK hR (ci := 14) (q0 := 2) rfl rfl, cP.use (en_z hb0 hS) (hE.on hAb hS) hPc hKc hDc trivial⟩ rfl rfl hl.1 rfl (lv_room (Nat.le_of_ble_eq_true rfl)) dX5_raking_64 ⟨Nat.le_of_ble_eq_true rfl, Nat.le_of_ble_eq_true rfl⟩) hS (fun q _ h => hFc q h) hFc (fun r_147 u t H1 locs ht hvm hw hB hz1 hk1 hS => ?_)
          have hP1 : va_P (dC, dI) vwCl [] H1 := fun k q h => by simp at h
          have hD1 : va_D (va_A [] H.size) [] := ⟨fun i j p q h => by simp at h, fun k q h => by simp at h⟩
          try dsimp only at hw
          obtain ⟨hP, hD⟩ := va_join (wr := []) (w1 := []) hP hD [] [] rfl rfl (by decide) (by decide) hk1 hFc hP1 hD1
          generalize H1 = H at hP hS ⊢
          have hP : va_P (dC, dI) vwCl [] H := hP
          have hD : va_D A [] := hD
          have hR := en_R hR0 hN0 hS
          refine W.widen (k := 0) (n := 0) (Nat.le_of_ble_eq_true rfl) (Nat.le_of_ble_eq_true rfl) ?_
          subst r_147
          refine lv_iload_n hx hb dX5_raking_67 rfl (lv_at hl 3 rfl) ?_
          refine lv_isub hx hb dX5_raking_68 ?_
          refine lv_topi (fun x_148 ex_148 => ?_)
          obtain rfl : x_148 = 0 := ex_148.trans (by decide)
          refine lv_istore (lv' := [(6, .int 0), (5, .int 3), (4, .int 0), (3, .int 0), (0, .ref q), (1, .int x), (2, .int y)]) hx hb dX5_raking_69 hl (by decide) rfl (fun ls hl => ?_)
          refine lv_iload hx hb dX5_raking_71 (lv_at hl 2 rfl) ?_
          refine lv_iload hx hb dX5_raking_73 (lv_at hl 0 rfl) ?_
          refine va_mabs hx hb (hml.trans hl.1.symm) hown (hts (.methodLink RX5 65 Lib.Math.abs.name) (by decide +kernel)) (hts (.static Lib.Math.abs.name) (by decide +kernel)) (hts (.initialized "java/lang/Math") (by decide +kernel)) (hts (.code Lib.Math.abs.name Lib.Math.abs.code 1 (some .int)) (by decide +kernel)) (Nat.le_of_ble_eq_true rfl) (Nat.le_of_ble_eq_true rfl) (Nat.le_of_ble_eq_true rfl) (Nat.le_of_ble_eq_true rfl) dX5_raking_75 ?_
          refine lv_topi (fun x_149 ex_149 => ?_)
          obtain rfl : x_149 = 0 := ex_149.trans (by decide)
          refine va_mmax hx hb (hml.trans hl.1.symm) hown (hts (.methodLink RX5 70 Lib.Math.max.name) (by decide +kernel)) (hts (.static Lib.Math.max.name) (by decide +kernel)) (hts (.initialized "java/lang/Math") (by decide +kernel)) (hts (.code Lib.Math.max.name Lib.Math.max.code 2 (some .int)) (by decide +kernel)) (Nat.le_of_ble_eq_true rfl) (Nat.le_of_ble_eq_true rfl) (Nat.le_of_ble_eq_true rfl) (Nat.le_of_ble_eq_true rfl) dX5_raking_78 ?_
          refine lv_topi (fun x_150 ex_150 => ?_)
          obtain rfl : x_150 = 0 := ex_150.trans (by decide)
          refine lv_istore (lv' := [(4, .int 0), (6, .int 0), (5, .int 3), (3, .int 0), (0, .ref q), (1, .int x), (2, .int y)]) hx hb dX5_raking_81 hl (by decide) rfl (fun ls hl => ?_)
          refine lv_iinc (v := 4) (lv' := [(5, .int 4), (4, .int 0), (6, .int 0), (3, .int 0), (0, .ref q), (1, .int x), (2, .int y)]) hx hb dX5_raking_83 hl (k := 2) rfl (by decide) (by decide) rfl (fun ls hl => ?_)
          refine lv_goto (tgt := 16) hx hb dX5_raking_86 (by decide) ?_
          refine lv_iload hx hb dX5_raking_16 (lv_at hl 0 rfl) ?_
          refine lv_iconst (v := 4) hx hb dX5_raking_18 (by decide) ?_
          refine lv_icmp_ge (tgt := 89) hx hb dX5_raking_19 (by decide) (fun c_151 => ?_) (fun c_151 => absurd c_151 (by decide))
          refine lv_iload hx hb dX5_raking_89 (lv_at hl 1 rfl) ?_
          refine W.widen (k := 0) (n := 0) (Nat.le_of_ble_eq_true rfl) (Nat.le_of_ble_eq_true rfl) ?_
          exact W.iret (v := 0) hx hb hr (fun t ht hW => ⟨⟨0, (), rfl, (z_c_X5_raking_286 x y x_5 x_6 x_116 x_117 x_125 x_126 x_131 x_132 x_137 x_138 x_143 x_144 hxy ex_5 ex_6 (b_yes h_8 c_9) ex_116 ex_117 ex_125 ex_126 (b_no h_128 c_129) ex_131 ex_132 (b_no h_134 c_135) ex_137 ex_138 (b_yes h_140 c_141) ex_143 ex_144), trivial⟩, hS.F ht⟩) hS.2.2 dX5_raking_91
      · skip
        refine lv_aload_n hx hb dX5_raking_44 rfl (lv_at hl 4 rfl) ?_
        refine lv_iload_n hx hb dX5_raking_45 rfl (lv_at hl 5 rfl) ?_
        refine va_getsN hx hb (hE.sx hAb) hS hown (va_Nw.use rfl (hE.nf ("Underpaint$Picture", 55, "Underpaint", "SIDE_X", "[I", "Underpaint") (by decide +kernel))) (fun _ h9 => h9) dX5_raking_46 ?_
        refine lv_iload hx hb dX5_raking_49 (lv_at hl 0 rfl) ?_
        refine va_ti hx hb (hE.sxa hAb) hS (v := .int 0) (vp_in_nI (by decide : 2 < 4) (by decide)) rfl dX5_raking_51 ?_
        refine lv_iadd hx hb dX5_raking_52 ?_
        refine lv_topi (fun x_152 ex_152 => ?_)
        refine lv_iload_n hx hb dX5_raking_53 rfl (lv_at hl 6 rfl) ?_
        refine va_getsN hx hb (hE.sy hAb) hS hown (va_Nw.use rfl (hE.nf ("Underpaint$Picture", 58, "Underpaint", "SIDE_Y", "[I", "Underpaint") (by decide +kernel))) (fun _ h9 => h9) dX5_raking_54 ?_
        refine lv_iload hx hb dX5_raking_57 (lv_at hl 0 rfl) ?_
        refine va_ti hx hb (hE.sya hAb) hS (v := .int 1) (vp_in_nI (by decide : 2 < 4) (by decide)) rfl dX5_raking_59 ?_
        refine lv_iadd hx hb dX5_raking_60 ?_
        refine lv_topi (fun x_153 ex_153 => ?_)
        have hPc := (hP.app hR).sub (ws' := [] ++ [(q, .inr (11, [.ref st, .ref sp, .ref ll, .int 0, .int 1600])), (st, .inl (cS, 48, .inr (.inr (.inr (.inr g)))))]) [0, 1] rfl
        have hDc := (en_DD hD hDr hN0 hAb).sub (ws' := [] ++ [(q, .inr (11, [.ref st, .ref sp, .ref ll, .int 0, .int 1600])), (st, .inl (cS, 48, .inr (.inr (.inr (.inr g)))))]) [0, 1] (by decide) rfl
        have hKc := hK.sub (tys' := [(cS, .object "Underpaint$Stack")]) [0] rfl
        have hFc := va_free (wc := []) hD hS hA [] rfl
        refine va_callq (va_runV (As := [.int x_152, .int x_153]) (rest := []) ⟨hx, hb, hml, hown, hts⟩ (c_at l dC dI b0 en H.size q st sp ll x_152 x_153 g cS (z_c_X5_raking_287 x y x_5 x_6 x_116 x_117 x_125 x_126 x_131 x_132 x_152 x_153 hxy ex_5 ex_6 (b_yes h_8 c_9) ex_116 ex_117 ex_125 ex_126 (b_no h_128 c_129) ex_131 ex_132 (b_yes h_134 c_135) ex_152 ex_153)) (cwV 2 hts go_c_X5_raking_0 rfl rfl rfl (by decide +kernel) ⟨Nat.le_of_ble_eq_true rfl, Nat.le_of_ble_eq_true rfl⟩) ⟨cP.blind, va_recv hK hR (ci := 11) (q0 := 0) rfl rfl, cP.use (en_z hb0 hS) (hE.on hAb hS) hPc hKc hDc trivial⟩ rfl rfl hl.1 rfl (lv_room (Nat.le_of_ble_eq_true rfl)) dX5_raking_61 ⟨Nat.le_of_ble_eq_true rfl, Nat.le_of_ble_eq_true rfl⟩) hS (fun q _ h => hFc q h) hFc (fun r_154 u t H1 locs ht hvm hw hB hz1 hk1 hS => ?_)
        have hP1 : va_P (dC, dI) vwCl [] H1 := fun k q h => by simp at h
        have hD1 : va_D (va_A [] H.size) [] := ⟨fun i j p q h => by simp at h, fun k q h => by simp at h⟩
        try dsimp only at hw
        obtain ⟨hP, hD⟩ := va_join (wr := []) (w1 := []) hP hD [] [] rfl rfl (by decide) (by decide) hk1 hFc hP1 hD1
        generalize H1 = H at hP hS ⊢
        have hP : va_P (dC, dI) vwCl [] H := hP
        have hD : va_D A [] := hD
        have hR := en_R hR0 hN0 hS
        refine W.widen (k := 0) (n := 0) (Nat.le_of_ble_eq_true rfl) (Nat.le_of_ble_eq_true rfl) ?_
        subst r_154
        obtain ⟨ap_155, rp_155, hgp_155, hup_155, hnp_155⟩ := hF0 (pidx x_152 x_153) (pidx_lt (z_c_X5_raking_288 x y x_5 x_6 x_116 x_117 x_125 x_126 x_131 x_132 x_152 x_153 hxy ex_5 ex_6 (b_yes h_8 c_9) ex_116 ex_117 ex_125 ex_126 (b_no h_128 c_129) ex_131 ex_132 (b_yes h_134 c_135) ex_152 ex_153))
        refine lv_topv (w := .ref ap_155) (by rw [hgp_155]; rfl) ?_
        have hxp_155 : ¬ A ap_155 := by rw [← hAe]; exact vA0 hup_155.lt
        have hR0 : va_P (dC, dI) vwCl [(q, .inr (11, [.ref st, .ref sp, .ref ll, .int 0, .int 1600])), (st, .inl (cS, 48, .inr (.inr (.inr (.inr g))))), (ap_155, .inr (14, [.ref rp_155, .int 0, .int 0]))] s.heap := (hR0b.app (va1 hup_155))
        have hDr : va_D (fun q => b0 ≤ q) [(q, .inr (11, [.ref st, .ref sp, .ref ll, .int 0, .int 1600])), (st, .inl (cS, 48, .inr (.inr (.inr (.inr g))))), (ap_155, .inr (14, [.ref rp_155, .int 0, .int 0]))] := (vD_push hDrb (hNb ap_155 hnp_155).1 (nR (hNr ap_155 hnp_155)))
        have hN0 : ∀ (k9 : Nat) (q9 : Nat × va_E), [(q, .inr (11, [.ref st, .ref sp, .ref ll, .int 0, .int 1600])), (st, .inl (cS, 48, .inr (.inr (.inr (.inr g))))), (ap_155, .inr (14, [.ref rp_155, .int 0, .int 0]))][k9]? = some q9 → ¬ A q9.1 := (vN_push hN0b hxp_155)
        have hR : va_P (dC, dI) vwCl [(q, .inr (11, [.ref st, .ref sp, .ref ll, .int 0, .int 1600])), (st, .inl (cS, 48, .inr (.inr (.inr (.inr g))))), (ap_155, .inr (14, [.ref rp_155, .int 0, .int 0]))] H := en_R hR0 hN0 hS
        have hPc := (hP.app hR).sub (ws' := [] ++ [(ap_155, .inr (14, [.ref rp_155, .int 0, .int 0]))]) [2] rfl
        have hDc := (en_DD hD hDr hN0 hAb).sub (ws' := [] ++ [(ap_155, .inr (14, [.ref rp_155, .int 0, .int 0]))]) [2] (by decide) rfl
        have hKc := hK.sub (tys' := []) [] rfl
        have hFc := va_free (wc := []) hD hS hA [] rfl
        refine va_calli (va_runV (As := []) (rest := []) ⟨hx, hb, hml, hown, hts⟩ (c_X8_height l dC dI b0 en H.size ap_155 rp_155) (cwV 0 hts go_c_X5_raking_1 rfl rfl rfl (by decide +kernel) ⟨Nat.le_of_ble_eq_true rfl, Nat.le_of_ble_eq_true rfl⟩) ⟨cP.blind, va_recv hK hR (ci := 14) (q0 := 2) rfl rfl, cP.use (en_z hb0 hS) (hE.on hAb hS) hPc hKc hDc trivial⟩ rfl rfl hl.1 rfl (lv_room (Nat.le_of_ble_eq_true rfl)) dX5_raking_64 ⟨Nat.le_of_ble_eq_true rfl, Nat.le_of_ble_eq_true rfl⟩) hS (fun q _ h => hFc q h) hFc (fun r_156 u t H1 locs ht hvm hw hB hz1 hk1 hS => ?_)
        have hP1 : va_P (dC, dI) vwCl [] H1 := fun k q h => by simp at h
        have hD1 : va_D (va_A [] H.size) [] := ⟨fun i j p q h => by simp at h, fun k q h => by simp at h⟩
        try dsimp only at hw
        obtain ⟨hP, hD⟩ := va_join (wr := []) (w1 := []) hP hD [] [] rfl rfl (by decide) (by decide) hk1 hFc hP1 hD1
        generalize H1 = H at hP hS ⊢
        have hP : va_P (dC, dI) vwCl [] H := hP
        have hD : va_D A [] := hD
        have hR := en_R hR0 hN0 hS
        refine W.widen (k := 0) (n := 0) (Nat.le_of_ble_eq_true rfl) (Nat.le_of_ble_eq_true rfl) ?_
        subst r_156
        refine lv_iload_n hx hb dX5_raking_67 rfl (lv_at hl 3 rfl) ?_
        refine lv_isub hx hb dX5_raking_68 ?_
        refine lv_topi (fun x_157 ex_157 => ?_)
        obtain rfl : x_157 = 0 := ex_157.trans (by decide)
        refine lv_istore (lv' := [(6, .int 0), (5, .int 2), (4, .int 0), (3, .int 0), (0, .ref q), (1, .int x), (2, .int y)]) hx hb dX5_raking_69 hl (by decide) rfl (fun ls hl => ?_)
        refine lv_iload hx hb dX5_raking_71 (lv_at hl 2 rfl) ?_
        refine lv_iload hx hb dX5_raking_73 (lv_at hl 0 rfl) ?_
        refine va_mabs hx hb (hml.trans hl.1.symm) hown (hts (.methodLink RX5 65 Lib.Math.abs.name) (by decide +kernel)) (hts (.static Lib.Math.abs.name) (by decide +kernel)) (hts (.initialized "java/lang/Math") (by decide +kernel)) (hts (.code Lib.Math.abs.name Lib.Math.abs.code 1 (some .int)) (by decide +kernel)) (Nat.le_of_ble_eq_true rfl) (Nat.le_of_ble_eq_true rfl) (Nat.le_of_ble_eq_true rfl) (Nat.le_of_ble_eq_true rfl) dX5_raking_75 ?_
        refine lv_topi (fun x_158 ex_158 => ?_)
        obtain rfl : x_158 = 0 := ex_158.trans (by decide)
        refine va_mmax hx hb (hml.trans hl.1.symm) hown (hts (.methodLink RX5 70 Lib.Math.max.name) (by decide +kernel)) (hts (.static Lib.Math.max.name) (by decide +kernel)) (hts (.initialized "java/lang/Math") (by decide +kernel)) (hts (.code Lib.Math.max.name Lib.Math.max.code 2 (some .int)) (by decide +kernel)) (Nat.le_of_ble_eq_true rfl) (Nat.le_of_ble_eq_true rfl) (Nat.le_of_ble_eq_true rfl) (Nat.le_of_ble_eq_true rfl) dX5_raking_78 ?_
        refine lv_topi (fun x_159 ex_159 => ?_)
        obtain rfl : x_159 = 0 := ex_159.trans (by decide)
        refine lv_istore (lv' := [(4, .int 0), (6, .int 0), (5, .int 2), (3, .int 0), (0, .ref q), (1, .int x), (2, .int y)]) hx hb dX5_raking_81 hl (by decide) rfl (fun ls hl => ?_)
        refine lv_iinc (v := 3) (lv' := [(5, .int 3), (4, .int 0), (6, .int 0), (3, .int 0), (0, .ref q), (1, .int x), (2, .int y)]) hx hb dX5_raking_83 hl (k := 2) rfl (by decide) (by decide) rfl (fun ls hl => ?_)
        refine lv_goto (tgt := 16) hx hb dX5_raking_86 (by decide) ?_
        refine lv_iload hx hb dX5_raking_16 (lv_at hl 0 rfl) ?_
        refine lv_iconst (v := 4) hx hb dX5_raking_18 (by decide) ?_
        refine lv_icmp_ge (tgt := 89) hx hb dX5_raking_19 (by decide) (fun c_160 => absurd c_160 (by decide)) (fun c_160 => ?_)
        refine lv_iload_n hx hb dX5_raking_22 rfl (lv_at hl 5 rfl) ?_
        refine va_getsN hx hb (hE.sx hAb) hS hown (va_Nw.use rfl (hE.nf ("Underpaint$Picture", 55, "Underpaint", "SIDE_X", "[I", "Underpaint") (by decide +kernel))) (fun _ h9 => h9) dX5_raking_23 ?_
        refine lv_iload hx hb dX5_raking_26 (lv_at hl 0 rfl) ?_
        refine va_ti hx hb (hE.sxa hAb) hS (v := .int 0) (vp_in_nI (by decide : 3 < 4) (by decide)) rfl dX5_raking_28 ?_
        refine lv_iadd hx hb dX5_raking_29 ?_
        refine lv_topi (fun x_161 ex_161 => ?_)
        refine lv_iload_n hx hb dX5_raking_30 rfl (lv_at hl 6 rfl) ?_
        refine va_getsN hx hb (hE.sy hAb) hS hown (va_Nw.use rfl (hE.nf ("Underpaint$Picture", 58, "Underpaint", "SIDE_Y", "[I", "Underpaint") (by decide +kernel))) (fun _ h9 => h9) dX5_raking_31 ?_
        refine lv_iload hx hb dX5_raking_34 (lv_at hl 0 rfl) ?_
        refine va_ti hx hb (hE.sya hAb) hS (v := .int (-1)) (vp_in_nI (by decide : 3 < 4) (by decide)) rfl dX5_raking_36 ?_
        refine lv_iadd hx hb dX5_raking_37 ?_
        refine lv_topi (fun x_162 ex_162 => ?_)
        have hPc := (hP.app hR).sub (ws' := [] ++ []) [] rfl
        have hDc := (en_DD hD hDr hN0 hAb).sub (ws' := [] ++ []) [] (by decide) rfl
        have hKc := hK.sub (tys' := []) [] rfl
        have hFc := va_free (wc := []) hD hS hA [] rfl
        refine va_calli (va_runSN (As := [.int x_161, .int x_162]) (rest := []) ⟨hx, hb, hml, hown, hts⟩ (c_X11_isPlace l dC dI b0 en H.size x_161 x_162) ⟨va_cnB 2 hts go_c_X5_raking_2 rfl rfl rfl (hE.nm ("Underpaint$Picture", 61, ⟨"Underpaint", "isPlace", "(II)Z"⟩, "Underpaint") (by decide +kernel)) (hts (.initialized RX11) (by decide +kernel)) (by decide +kernel) ⟨Nat.le_of_ble_eq_true rfl, Nat.le_of_ble_eq_true rfl⟩, hts (.static yX11_isPlace) (by decide +kernel), trivial⟩ ⟨cP.blind, cP.use (en_z hb0 hS) (hE.on hAb hS) hPc hKc hDc trivial⟩ rfl rfl hl.1 rfl (lv_room (Nat.le_of_ble_eq_true rfl)) dX5_raking_38 ⟨Nat.le_of_ble_eq_true rfl, Nat.le_of_ble_eq_true rfl⟩) hS (fun q _ h => hFc q h) hFc (fun r_163 u t H1 locs ht hvm hw hB hz1 hk1 hS => ?_)
        have hP1 : va_P (dC, dI) vwCl [] H1 := fun k q h => by simp at h
        have hD1 : va_D (va_A [] H.size) [] := ⟨fun i j p q h => by simp at h, fun k q h => by simp at h⟩
        try dsimp only at hw
        obtain ⟨hP, hD⟩ := va_join (wr := []) (w1 := []) hP hD [] [] rfl rfl (by decide) (by decide) hk1 hFc hP1 hD1
        generalize H1 = H at hP hS ⊢
        have hP : va_P (dC, dI) vwCl [] H := hP
        have hD : va_D A [] := hD
        have hR := en_R hR0 hN0 hS
        refine W.widen (k := 0) (n := 0) (Nat.le_of_ble_eq_true rfl) (Nat.le_of_ble_eq_true rfl) ?_
        have h_164 := hw
        refine lv_if_eq (tgt := 83) hx hb dX5_raking_41 (by decide) (fun c_165 => ?_) (fun c_165 => ?_)
        · skip
          refine lv_iinc (v := 4) (lv' := [(5, .int 4), (4, .int 0), (6, .int 0), (3, .int 0), (0, .ref q), (1, .int x), (2, .int y)]) hx hb dX5_raking_83 hl (k := 0) rfl (by decide) (by decide) rfl (fun ls hl => ?_)
          refine lv_goto (tgt := 16) hx hb dX5_raking_86 (by decide) ?_
          refine lv_iload hx hb dX5_raking_16 (lv_at hl 0 rfl) ?_
          refine lv_iconst (v := 4) hx hb dX5_raking_18 (by decide) ?_
          refine lv_icmp_ge (tgt := 89) hx hb dX5_raking_19 (by decide) (fun c_166 => ?_) (fun c_166 => absurd c_166 (by decide))
          refine lv_iload hx hb dX5_raking_89 (lv_at hl 1 rfl) ?_
          refine W.widen (k := 0) (n := 0) (Nat.le_of_ble_eq_true rfl) (Nat.le_of_ble_eq_true rfl) ?_
          exact W.iret (v := 0) hx hb hr (fun t ht hW => ⟨⟨0, (), rfl, (z_c_X5_raking_289 x y x_5 x_6 x_116 x_117 x_125 x_126 x_131 x_132 x_152 x_153 x_161 x_162 hxy ex_5 ex_6 (b_yes h_8 c_9) ex_116 ex_117 ex_125 ex_126 (b_no h_128 c_129) ex_131 ex_132 (b_yes h_134 c_135) ex_152 ex_153 ex_161 ex_162 (b_no h_164 c_165)), trivial⟩, hS.F ht⟩) hS.2.2 dX5_raking_91
        · skip
          refine lv_aload_n hx hb dX5_raking_44 rfl (lv_at hl 4 rfl) ?_
          refine lv_iload_n hx hb dX5_raking_45 rfl (lv_at hl 5 rfl) ?_
          refine va_getsN hx hb (hE.sx hAb) hS hown (va_Nw.use rfl (hE.nf ("Underpaint$Picture", 55, "Underpaint", "SIDE_X", "[I", "Underpaint") (by decide +kernel))) (fun _ h9 => h9) dX5_raking_46 ?_
          refine lv_iload hx hb dX5_raking_49 (lv_at hl 0 rfl) ?_
          refine va_ti hx hb (hE.sxa hAb) hS (v := .int 0) (vp_in_nI (by decide : 3 < 4) (by decide)) rfl dX5_raking_51 ?_
          refine lv_iadd hx hb dX5_raking_52 ?_
          refine lv_topi (fun x_167 ex_167 => ?_)
          refine lv_iload_n hx hb dX5_raking_53 rfl (lv_at hl 6 rfl) ?_
          refine va_getsN hx hb (hE.sy hAb) hS hown (va_Nw.use rfl (hE.nf ("Underpaint$Picture", 58, "Underpaint", "SIDE_Y", "[I", "Underpaint") (by decide +kernel))) (fun _ h9 => h9) dX5_raking_54 ?_
          refine lv_iload hx hb dX5_raking_57 (lv_at hl 0 rfl) ?_
          refine va_ti hx hb (hE.sya hAb) hS (v := .int (-1)) (vp_in_nI (by decide : 3 < 4) (by decide)) rfl dX5_raking_59 ?_
          refine lv_iadd hx hb dX5_raking_60 ?_
          refine lv_topi (fun x_168 ex_168 => ?_)
          have hPc := (hP.app hR).sub (ws' := [] ++ [(q, .inr (11, [.ref st, .ref sp, .ref ll, .int 0, .int 1600])), (st, .inl (cS, 48, .inr (.inr (.inr (.inr g)))))]) [0, 1] rfl
          have hDc := (en_DD hD hDr hN0 hAb).sub (ws' := [] ++ [(q, .inr (11, [.ref st, .ref sp, .ref ll, .int 0, .int 1600])), (st, .inl (cS, 48, .inr (.inr (.inr (.inr g)))))]) [0, 1] (by decide) rfl
          have hKc := hK.sub (tys' := [(cS, .object "Underpaint$Stack")]) [0] rfl
          have hFc := va_free (wc := []) hD hS hA [] rfl
          refine va_callq (va_runV (As := [.int x_167, .int x_168]) (rest := []) ⟨hx, hb, hml, hown, hts⟩ (c_at l dC dI b0 en H.size q st sp ll x_167 x_168 g cS (z_c_X5_raking_290 x y x_5 x_6 x_116 x_117 x_125 x_126 x_131 x_132 x_152 x_153 x_161 x_162 x_167 x_168 hxy ex_5 ex_6 (b_yes h_8 c_9) ex_116 ex_117 ex_125 ex_126 (b_no h_128 c_129) ex_131 ex_132 (b_yes h_134 c_135) ex_152 ex_153 ex_161 ex_162 (b_yes h_164 c_165) ex_167 ex_168)) (cwV 2 hts go_c_X5_raking_0 rfl rfl rfl (by decide +kernel) ⟨Nat.le_of_ble_eq_true rfl, Nat.le_of_ble_eq_true rfl⟩) ⟨cP.blind, va_recv hK hR (ci := 11) (q0 := 0) rfl rfl, cP.use (en_z hb0 hS) (hE.on hAb hS) hPc hKc hDc trivial⟩ rfl rfl hl.1 rfl (lv_room (Nat.le_of_ble_eq_true rfl)) dX5_raking_61 ⟨Nat.le_of_ble_eq_true rfl, Nat.le_of_ble_eq_true rfl⟩) hS (fun q _ h => hFc q h) hFc (fun r_169 u t H1 locs ht hvm hw hB hz1 hk1 hS => ?_)
          have hP1 : va_P (dC, dI) vwCl [] H1 := fun k q h => by simp at h
          have hD1 : va_D (va_A [] H.size) [] := ⟨fun i j p q h => by simp at h, fun k q h => by simp at h⟩
          try dsimp only at hw
          obtain ⟨hP, hD⟩ := va_join (wr := []) (w1 := []) hP hD [] [] rfl rfl (by decide) (by decide) hk1 hFc hP1 hD1
          generalize H1 = H at hP hS ⊢
          have hP : va_P (dC, dI) vwCl [] H := hP
          have hD : va_D A [] := hD
          have hR := en_R hR0 hN0 hS
          refine W.widen (k := 0) (n := 0) (Nat.le_of_ble_eq_true rfl) (Nat.le_of_ble_eq_true rfl) ?_
          subst r_169
          obtain ⟨ap_170, rp_170, hgp_170, hup_170, hnp_170⟩ := hF0 (pidx x_167 x_168) (pidx_lt (z_c_X5_raking_291 x y x_5 x_6 x_116 x_117 x_125 x_126 x_131 x_132 x_152 x_153 x_161 x_162 x_167 x_168 hxy ex_5 ex_6 (b_yes h_8 c_9) ex_116 ex_117 ex_125 ex_126 (b_no h_128 c_129) ex_131 ex_132 (b_yes h_134 c_135) ex_152 ex_153 ex_161 ex_162 (b_yes h_164 c_165) ex_167 ex_168))
          refine lv_topv (w := .ref ap_170) (by rw [hgp_170]; rfl) ?_
          have hxp_170 : ¬ A ap_170 := by rw [← hAe]; exact vA0 hup_170.lt
          have hR0 : va_P (dC, dI) vwCl [(q, .inr (11, [.ref st, .ref sp, .ref ll, .int 0, .int 1600])), (st, .inl (cS, 48, .inr (.inr (.inr (.inr g))))), (ap_170, .inr (14, [.ref rp_170, .int 0, .int 0]))] s.heap := (hR0b.app (va1 hup_170))
          have hDr : va_D (fun q => b0 ≤ q) [(q, .inr (11, [.ref st, .ref sp, .ref ll, .int 0, .int 1600])), (st, .inl (cS, 48, .inr (.inr (.inr (.inr g))))), (ap_170, .inr (14, [.ref rp_170, .int 0, .int 0]))] := (vD_push hDrb (hNb ap_170 hnp_170).1 (nR (hNr ap_170 hnp_170)))
          have hN0 : ∀ (k9 : Nat) (q9 : Nat × va_E), [(q, .inr (11, [.ref st, .ref sp, .ref ll, .int 0, .int 1600])), (st, .inl (cS, 48, .inr (.inr (.inr (.inr g))))), (ap_170, .inr (14, [.ref rp_170, .int 0, .int 0]))][k9]? = some q9 → ¬ A q9.1 := (vN_push hN0b hxp_170)
          have hR : va_P (dC, dI) vwCl [(q, .inr (11, [.ref st, .ref sp, .ref ll, .int 0, .int 1600])), (st, .inl (cS, 48, .inr (.inr (.inr (.inr g))))), (ap_170, .inr (14, [.ref rp_170, .int 0, .int 0]))] H := en_R hR0 hN0 hS
          have hPc := (hP.app hR).sub (ws' := [] ++ [(ap_170, .inr (14, [.ref rp_170, .int 0, .int 0]))]) [2] rfl
          have hDc := (en_DD hD hDr hN0 hAb).sub (ws' := [] ++ [(ap_170, .inr (14, [.ref rp_170, .int 0, .int 0]))]) [2] (by decide) rfl
          have hKc := hK.sub (tys' := []) [] rfl
          have hFc := va_free (wc := []) hD hS hA [] rfl
          refine va_calli (va_runV (As := []) (rest := []) ⟨hx, hb, hml, hown, hts⟩ (c_X8_height l dC dI b0 en H.size ap_170 rp_170) (cwV 0 hts go_c_X5_raking_1 rfl rfl rfl (by decide +kernel) ⟨Nat.le_of_ble_eq_true rfl, Nat.le_of_ble_eq_true rfl⟩) ⟨cP.blind, va_recv hK hR (ci := 14) (q0 := 2) rfl rfl, cP.use (en_z hb0 hS) (hE.on hAb hS) hPc hKc hDc trivial⟩ rfl rfl hl.1 rfl (lv_room (Nat.le_of_ble_eq_true rfl)) dX5_raking_64 ⟨Nat.le_of_ble_eq_true rfl, Nat.le_of_ble_eq_true rfl⟩) hS (fun q _ h => hFc q h) hFc (fun r_171 u t H1 locs ht hvm hw hB hz1 hk1 hS => ?_)
          have hP1 : va_P (dC, dI) vwCl [] H1 := fun k q h => by simp at h
          have hD1 : va_D (va_A [] H.size) [] := ⟨fun i j p q h => by simp at h, fun k q h => by simp at h⟩
          try dsimp only at hw
          obtain ⟨hP, hD⟩ := va_join (wr := []) (w1 := []) hP hD [] [] rfl rfl (by decide) (by decide) hk1 hFc hP1 hD1
          generalize H1 = H at hP hS ⊢
          have hP : va_P (dC, dI) vwCl [] H := hP
          have hD : va_D A [] := hD
          have hR := en_R hR0 hN0 hS
          refine W.widen (k := 0) (n := 0) (Nat.le_of_ble_eq_true rfl) (Nat.le_of_ble_eq_true rfl) ?_
          subst r_171
          refine lv_iload_n hx hb dX5_raking_67 rfl (lv_at hl 3 rfl) ?_
          refine lv_isub hx hb dX5_raking_68 ?_
          refine lv_topi (fun x_172 ex_172 => ?_)
          obtain rfl : x_172 = 0 := ex_172.trans (by decide)
          refine lv_istore (lv' := [(6, .int 0), (5, .int 3), (4, .int 0), (3, .int 0), (0, .ref q), (1, .int x), (2, .int y)]) hx hb dX5_raking_69 hl (by decide) rfl (fun ls hl => ?_)
          refine lv_iload hx hb dX5_raking_71 (lv_at hl 2 rfl) ?_
          refine lv_iload hx hb dX5_raking_73 (lv_at hl 0 rfl) ?_
          refine va_mabs hx hb (hml.trans hl.1.symm) hown (hts (.methodLink RX5 65 Lib.Math.abs.name) (by decide +kernel)) (hts (.static Lib.Math.abs.name) (by decide +kernel)) (hts (.initialized "java/lang/Math") (by decide +kernel)) (hts (.code Lib.Math.abs.name Lib.Math.abs.code 1 (some .int)) (by decide +kernel)) (Nat.le_of_ble_eq_true rfl) (Nat.le_of_ble_eq_true rfl) (Nat.le_of_ble_eq_true rfl) (Nat.le_of_ble_eq_true rfl) dX5_raking_75 ?_
          refine lv_topi (fun x_173 ex_173 => ?_)
          obtain rfl : x_173 = 0 := ex_173.trans (by decide)
          refine va_mmax hx hb (hml.trans hl.1.symm) hown (hts (.methodLink RX5 70 Lib.Math.max.name) (by decide +kernel)) (hts (.static Lib.Math.max.name) (by decide +kernel)) (hts (.initialized "java/lang/Math") (by decide +kernel)) (hts (.code Lib.Math.max.name Lib.Math.max.code 2 (some .int)) (by decide +kernel)) (Nat.le_of_ble_eq_true rfl) (Nat.le_of_ble_eq_true rfl) (Nat.le_of_ble_eq_true rfl) (Nat.le_of_ble_eq_true rfl) dX5_raking_78 ?_
          refine lv_topi (fun x_174 ex_174 => ?_)
          obtain rfl : x_174 = 0 := ex_174.trans (by decide)
          refine lv_istore (lv' := [(4, .int 0), (6, .int 0), (5, .int 3), (3, .int 0), (0, .ref q), (1, .int x), (2, .int y)]) hx hb dX5_raking_81 hl (by decide) rfl (fun ls hl => ?_)
          refine lv_iinc (v := 4) (lv' := [(5, .int 4), (4, .int 0), (6, .int 0), (3, .int 0), (0, .ref q), (1, .int x), (2, .int y)]) hx hb dX5_raking_83 hl (k := 2) rfl (by decide) (by decide) rfl (fun ls hl => ?_)
          refine lv_goto (tgt := 16) hx hb dX5_raking_86 (by decide) ?_
          refine lv_iload hx hb dX5_raking_16 (lv_at hl 0 rfl) ?_
          refine lv_iconst (v := 4) hx hb dX5_raking_18 (by decide) ?_
          refine lv_icmp_ge (tgt := 89) hx hb dX5_raking_19 (by decide) (fun c_175 => ?_) (fun c_175 => absurd c_175 (by decide))
          refine lv_iload hx hb dX5_raking_89 (lv_at hl 1 rfl) ?_
          refine W.widen (k := 0) (n := 0) (Nat.le_of_ble_eq_true rfl) (Nat.le_of_ble_eq_true rfl) ?_
          exact W.iret (v := 0) hx hb hr (fun t ht hW => ⟨⟨0, (), rfl, (z_c_X5_raking_292 x y x_5 x_6 x_116 x_117 x_125 x_126 x_131 x_132 x_152 x_153 x_161 x_162 x_167 x_168 hxy ex_5 ex_6 (b_yes h_8 c_9) ex_116 ex_117 ex_125 ex_126 (b_no h_128 c_129) ex_131 ex_132 (b_yes h_134 c_135) ex_152 ex_153 ex_161 ex_162 (b_yes h_164 c_165) ex_167 ex_168), trivial⟩, hS.F ht⟩) hS.2.2 dX5_raking_91
    · skip
      refine lv_aload_n hx hb dX5_raking_44 rfl (lv_at hl 4 rfl) ?_
      refine lv_iload_n hx hb dX5_raking_45 rfl (lv_at hl 5 rfl) ?_
      refine va_getsN hx hb (hE.sx hAb) hS hown (va_Nw.use rfl (hE.nf ("Underpaint$Picture", 55, "Underpaint", "SIDE_X", "[I", "Underpaint") (by decide +kernel))) (fun _ h9 => h9) dX5_raking_46 ?_
      refine lv_iload hx hb dX5_raking_49 (lv_at hl 0 rfl) ?_
      refine va_ti hx hb (hE.sxa hAb) hS (v := .int (-1)) (vp_in_nI (by decide : 1 < 4) (by decide)) rfl dX5_raking_51 ?_
      refine lv_iadd hx hb dX5_raking_52 ?_
      refine lv_topi (fun x_176 ex_176 => ?_)
      refine lv_iload_n hx hb dX5_raking_53 rfl (lv_at hl 6 rfl) ?_
      refine va_getsN hx hb (hE.sy hAb) hS hown (va_Nw.use rfl (hE.nf ("Underpaint$Picture", 58, "Underpaint", "SIDE_Y", "[I", "Underpaint") (by decide +kernel))) (fun _ h9 => h9) dX5_raking_54 ?_
      refine lv_iload hx hb dX5_raking_57 (lv_at hl 0 rfl) ?_
      refine va_ti hx hb (hE.sya hAb) hS (v := .int 0) (vp_in_nI (by decide : 1 < 4) (by decide)) rfl dX5_raking_59 ?_
      refine lv_iadd hx hb dX5_raking_60 ?_
      refine lv_topi (fun x_177 ex_177 => ?_)
      have hPc := (hP.app hR).sub (ws' := [] ++ [(q, .inr (11, [.ref st, .ref sp, .ref ll, .int 0, .int 1600])), (st, .inl (cS, 48, .inr (.inr (.inr (.inr g)))))]) [0, 1] rfl
      have hDc := (en_DD hD hDr hN0 hAb).sub (ws' := [] ++ [(q, .inr (11, [.ref st, .ref sp, .ref ll, .int 0, .int 1600])), (st, .inl (cS, 48, .inr (.inr (.inr (.inr g)))))]) [0, 1] (by decide) rfl
      have hKc := hK.sub (tys' := [(cS, .object "Underpaint$Stack")]) [0] rfl
      have hFc := va_free (wc := []) hD hS hA [] rfl
      refine va_callq (va_runV (As := [.int x_176, .int x_177]) (rest := []) ⟨hx, hb, hml, hown, hts⟩ (c_at l dC dI b0 en H.size q st sp ll x_176 x_177 g cS (z_c_X5_raking_293 x y x_5 x_6 x_116 x_117 x_125 x_126 x_176 x_177 hxy ex_5 ex_6 (b_yes h_8 c_9) ex_116 ex_117 ex_125 ex_126 (b_yes h_128 c_129) ex_176 ex_177)) (cwV 2 hts go_c_X5_raking_0 rfl rfl rfl (by decide +kernel) ⟨Nat.le_of_ble_eq_true rfl, Nat.le_of_ble_eq_true rfl⟩) ⟨cP.blind, va_recv hK hR (ci := 11) (q0 := 0) rfl rfl, cP.use (en_z hb0 hS) (hE.on hAb hS) hPc hKc hDc trivial⟩ rfl rfl hl.1 rfl (lv_room (Nat.le_of_ble_eq_true rfl)) dX5_raking_61 ⟨Nat.le_of_ble_eq_true rfl, Nat.le_of_ble_eq_true rfl⟩) hS (fun q _ h => hFc q h) hFc (fun r_178 u t H1 locs ht hvm hw hB hz1 hk1 hS => ?_)
      have hP1 : va_P (dC, dI) vwCl [] H1 := fun k q h => by simp at h
      have hD1 : va_D (va_A [] H.size) [] := ⟨fun i j p q h => by simp at h, fun k q h => by simp at h⟩
      try dsimp only at hw
      obtain ⟨hP, hD⟩ := va_join (wr := []) (w1 := []) hP hD [] [] rfl rfl (by decide) (by decide) hk1 hFc hP1 hD1
      generalize H1 = H at hP hS ⊢
      have hP : va_P (dC, dI) vwCl [] H := hP
      have hD : va_D A [] := hD
      have hR := en_R hR0 hN0 hS
      refine W.widen (k := 0) (n := 0) (Nat.le_of_ble_eq_true rfl) (Nat.le_of_ble_eq_true rfl) ?_
      subst r_178
      obtain ⟨ap_179, rp_179, hgp_179, hup_179, hnp_179⟩ := hF0 (pidx x_176 x_177) (pidx_lt (z_c_X5_raking_294 x y x_5 x_6 x_116 x_117 x_125 x_126 x_176 x_177 hxy ex_5 ex_6 (b_yes h_8 c_9) ex_116 ex_117 ex_125 ex_126 (b_yes h_128 c_129) ex_176 ex_177))
      refine lv_topv (w := .ref ap_179) (by rw [hgp_179]; rfl) ?_
      have hxp_179 : ¬ A ap_179 := by rw [← hAe]; exact vA0 hup_179.lt
      have hR0 : va_P (dC, dI) vwCl [(q, .inr (11, [.ref st, .ref sp, .ref ll, .int 0, .int 1600])), (st, .inl (cS, 48, .inr (.inr (.inr (.inr g))))), (ap_179, .inr (14, [.ref rp_179, .int 0, .int 0]))] s.heap := (hR0b.app (va1 hup_179))
      have hDr : va_D (fun q => b0 ≤ q) [(q, .inr (11, [.ref st, .ref sp, .ref ll, .int 0, .int 1600])), (st, .inl (cS, 48, .inr (.inr (.inr (.inr g))))), (ap_179, .inr (14, [.ref rp_179, .int 0, .int 0]))] := (vD_push hDrb (hNb ap_179 hnp_179).1 (nR (hNr ap_179 hnp_179)))
      have hN0 : ∀ (k9 : Nat) (q9 : Nat × va_E), [(q, .inr (11, [.ref st, .ref sp, .ref ll, .int 0, .int 1600])), (st, .inl (cS, 48, .inr (.inr (.inr (.inr g))))), (ap_179, .inr (14, [.ref rp_179, .int 0, .int 0]))][k9]? = some q9 → ¬ A q9.1 := (vN_push hN0b hxp_179)
      have hR : va_P (dC, dI) vwCl [(q, .inr (11, [.ref st, .ref sp, .ref ll, .int 0, .int 1600])), (st, .inl (cS, 48, .inr (.inr (.inr (.inr g))))), (ap_179, .inr (14, [.ref rp_179, .int 0, .int 0]))] H := en_R hR0 hN0 hS
      have hPc := (hP.app hR).sub (ws' := [] ++ [(ap_179, .inr (14, [.ref rp_179, .int 0, .int 0]))]) [2] rfl
      have hDc := (en_DD hD hDr hN0 hAb).sub (ws' := [] ++ [(ap_179, .inr (14, [.ref rp_179, .int 0, .int 0]))]) [2] (by decide) rfl
      have hKc := hK.sub (tys' := []) [] rfl
      have hFc := va_free (wc := []) hD hS hA [] rfl
      refine va_calli (va_runV (As := []) (rest := []) ⟨hx, hb, hml, hown, hts⟩ (c_X8_height l dC dI b0 en H.size ap_179 rp_179) (cwV 0 hts go_c_X5_raking_1 rfl rfl rfl (by decide +kernel) ⟨Nat.le_of_ble_eq_true rfl, Nat.le_of_ble_eq_true rfl⟩) ⟨cP.blind, va_recv hK hR (ci := 14) (q0 := 2) rfl rfl, cP.use (en_z hb0 hS) (hE.on hAb hS) hPc hKc hDc trivial⟩ rfl rfl hl.1 rfl (lv_room (Nat.le_of_ble_eq_true rfl)) dX5_raking_64 ⟨Nat.le_of_ble_eq_true rfl, Nat.le_of_ble_eq_true rfl⟩) hS (fun q _ h => hFc q h) hFc (fun r_180 u t H1 locs ht hvm hw hB hz1 hk1 hS => ?_)
      have hP1 : va_P (dC, dI) vwCl [] H1 := fun k q h => by simp at h
      have hD1 : va_D (va_A [] H.size) [] := ⟨fun i j p q h => by simp at h, fun k q h => by simp at h⟩
      try dsimp only at hw
      obtain ⟨hP, hD⟩ := va_join (wr := []) (w1 := []) hP hD [] [] rfl rfl (by decide) (by decide) hk1 hFc hP1 hD1
      generalize H1 = H at hP hS ⊢
      have hP : va_P (dC, dI) vwCl [] H := hP
      have hD : va_D A [] := hD
      have hR := en_R hR0 hN0 hS
      refine W.widen (k := 0) (n := 0) (Nat.le_of_ble_eq_true rfl) (Nat.le_of_ble_eq_true rfl) ?_
      subst r_180
      refine lv_iload_n hx hb dX5_raking_67 rfl (lv_at hl 3 rfl) ?_
      refine lv_isub hx hb dX5_raking_68 ?_
      refine lv_topi (fun x_181 ex_181 => ?_)
      obtain rfl : x_181 = 0 := ex_181.trans (by decide)
      refine lv_istore (lv' := [(6, .int 0), (5, .int 1), (4, .int 0), (3, .int 0), (0, .ref q), (1, .int x), (2, .int y)]) hx hb dX5_raking_69 hl (by decide) rfl (fun ls hl => ?_)
      refine lv_iload hx hb dX5_raking_71 (lv_at hl 2 rfl) ?_
      refine lv_iload hx hb dX5_raking_73 (lv_at hl 0 rfl) ?_
      refine va_mabs hx hb (hml.trans hl.1.symm) hown (hts (.methodLink RX5 65 Lib.Math.abs.name) (by decide +kernel)) (hts (.static Lib.Math.abs.name) (by decide +kernel)) (hts (.initialized "java/lang/Math") (by decide +kernel)) (hts (.code Lib.Math.abs.name Lib.Math.abs.code 1 (some .int)) (by decide +kernel)) (Nat.le_of_ble_eq_true rfl) (Nat.le_of_ble_eq_true rfl) (Nat.le_of_ble_eq_true rfl) (Nat.le_of_ble_eq_true rfl) dX5_raking_75 ?_
      refine lv_topi (fun x_182 ex_182 => ?_)
      obtain rfl : x_182 = 0 := ex_182.trans (by decide)
      refine va_mmax hx hb (hml.trans hl.1.symm) hown (hts (.methodLink RX5 70 Lib.Math.max.name) (by decide +kernel)) (hts (.static Lib.Math.max.name) (by decide +kernel)) (hts (.initialized "java/lang/Math") (by decide +kernel)) (hts (.code Lib.Math.max.name Lib.Math.max.code 2 (some .int)) (by decide +kernel)) (Nat.le_of_ble_eq_true rfl) (Nat.le_of_ble_eq_true rfl) (Nat.le_of_ble_eq_true rfl) (Nat.le_of_ble_eq_true rfl) dX5_raking_78 ?_
      refine lv_topi (fun x_183 ex_183 => ?_)
      obtain rfl : x_183 = 0 := ex_183.trans (by decide)
      refine lv_istore (lv' := [(4, .int 0), (6, .int 0), (5, .int 1), (3, .int 0), (0, .ref q), (1, .int x), (2, .int y)]) hx hb dX5_raking_81 hl (by decide) rfl (fun ls hl => ?_)
      refine lv_iinc (v := 2) (lv' := [(5, .int 2), (4, .int 0), (6, .int 0), (3, .int 0), (0, .ref q), (1, .int x), (2, .int y)]) hx hb dX5_raking_83 hl (k := 2) rfl (by decide) (by decide) rfl (fun ls hl => ?_)
      refine lv_goto (tgt := 16) hx hb dX5_raking_86 (by decide) ?_
      refine lv_iload hx hb dX5_raking_16 (lv_at hl 0 rfl) ?_
      refine lv_iconst (v := 4) hx hb dX5_raking_18 (by decide) ?_
      refine lv_icmp_ge (tgt := 89) hx hb dX5_raking_19 (by decide) (fun c_184 => absurd c_184 (by decide)) (fun c_184 => ?_)
      refine lv_iload_n hx hb dX5_raking_22 rfl (lv_at hl 5 rfl) ?_
      refine va_getsN hx hb (hE.sx hAb) hS hown (va_Nw.use rfl (hE.nf ("Underpaint$Picture", 55, "Underpaint", "SIDE_X", "[I", "Underpaint") (by decide +kernel))) (fun _ h9 => h9) dX5_raking_23 ?_
      refine lv_iload hx hb dX5_raking_26 (lv_at hl 0 rfl) ?_
      refine va_ti hx hb (hE.sxa hAb) hS (v := .int 0) (vp_in_nI (by decide : 2 < 4) (by decide)) rfl dX5_raking_28 ?_
      refine lv_iadd hx hb dX5_raking_29 ?_
      refine lv_topi (fun x_185 ex_185 => ?_)
      refine lv_iload_n hx hb dX5_raking_30 rfl (lv_at hl 6 rfl) ?_
      refine va_getsN hx hb (hE.sy hAb) hS hown (va_Nw.use rfl (hE.nf ("Underpaint$Picture", 58, "Underpaint", "SIDE_Y", "[I", "Underpaint") (by decide +kernel))) (fun _ h9 => h9) dX5_raking_31 ?_
      refine lv_iload hx hb dX5_raking_34 (lv_at hl 0 rfl) ?_
      refine va_ti hx hb (hE.sya hAb) hS (v := .int 1) (vp_in_nI (by decide : 2 < 4) (by decide)) rfl dX5_raking_36 ?_
      refine lv_iadd hx hb dX5_raking_37 ?_
      refine lv_topi (fun x_186 ex_186 => ?_)
      have hPc := (hP.app hR).sub (ws' := [] ++ []) [] rfl
      have hDc := (en_DD hD hDr hN0 hAb).sub (ws' := [] ++ []) [] (by decide) rfl
      have hKc := hK.sub (tys' := []) [] rfl
      have hFc := va_free (wc := []) hD hS hA [] rfl
      refine va_calli (va_runSN (As := [.int x_185, .int x_186]) (rest := []) ⟨hx, hb, hml, hown, hts⟩ (c_X11_isPlace l dC dI b0 en H.size x_185 x_186) ⟨va_cnB 2 hts go_c_X5_raking_2 rfl rfl rfl (hE.nm ("Underpaint$Picture", 61, ⟨"Underpaint", "isPlace", "(II)Z"⟩, "Underpaint") (by decide +kernel)) (hts (.initialized RX11) (by decide +kernel)) (by decide +kernel) ⟨Nat.le_of_ble_eq_true rfl, Nat.le_of_ble_eq_true rfl⟩, hts (.static yX11_isPlace) (by decide +kernel), trivial⟩ ⟨cP.blind, cP.use (en_z hb0 hS) (hE.on hAb hS) hPc hKc hDc trivial⟩ rfl rfl hl.1 rfl (lv_room (Nat.le_of_ble_eq_true rfl)) dX5_raking_38 ⟨Nat.le_of_ble_eq_true rfl, Nat.le_of_ble_eq_true rfl⟩) hS (fun q _ h => hFc q h) hFc (fun r_187 u t H1 locs ht hvm hw hB hz1 hk1 hS => ?_)
      have hP1 : va_P (dC, dI) vwCl [] H1 := fun k q h => by simp at h
      have hD1 : va_D (va_A [] H.size) [] := ⟨fun i j p q h => by simp at h, fun k q h => by simp at h⟩
      try dsimp only at hw
      obtain ⟨hP, hD⟩ := va_join (wr := []) (w1 := []) hP hD [] [] rfl rfl (by decide) (by decide) hk1 hFc hP1 hD1
      generalize H1 = H at hP hS ⊢
      have hP : va_P (dC, dI) vwCl [] H := hP
      have hD : va_D A [] := hD
      have hR := en_R hR0 hN0 hS
      refine W.widen (k := 0) (n := 0) (Nat.le_of_ble_eq_true rfl) (Nat.le_of_ble_eq_true rfl) ?_
      have h_188 := hw
      refine lv_if_eq (tgt := 83) hx hb dX5_raking_41 (by decide) (fun c_189 => ?_) (fun c_189 => ?_)
      · skip
        refine lv_iinc (v := 3) (lv' := [(5, .int 3), (4, .int 0), (6, .int 0), (3, .int 0), (0, .ref q), (1, .int x), (2, .int y)]) hx hb dX5_raking_83 hl (k := 0) rfl (by decide) (by decide) rfl (fun ls hl => ?_)
        refine lv_goto (tgt := 16) hx hb dX5_raking_86 (by decide) ?_
        refine lv_iload hx hb dX5_raking_16 (lv_at hl 0 rfl) ?_
        refine lv_iconst (v := 4) hx hb dX5_raking_18 (by decide) ?_
        refine lv_icmp_ge (tgt := 89) hx hb dX5_raking_19 (by decide) (fun c_190 => absurd c_190 (by decide)) (fun c_190 => ?_)
        refine lv_iload_n hx hb dX5_raking_22 rfl (lv_at hl 5 rfl) ?_
        refine va_getsN hx hb (hE.sx hAb) hS hown (va_Nw.use rfl (hE.nf ("Underpaint$Picture", 55, "Underpaint", "SIDE_X", "[I", "Underpaint") (by decide +kernel))) (fun _ h9 => h9) dX5_raking_23 ?_
        refine lv_iload hx hb dX5_raking_26 (lv_at hl 0 rfl) ?_
        refine va_ti hx hb (hE.sxa hAb) hS (v := .int 0) (vp_in_nI (by decide : 3 < 4) (by decide)) rfl dX5_raking_28 ?_
        refine lv_iadd hx hb dX5_raking_29 ?_
        refine lv_topi (fun x_191 ex_191 => ?_)
        refine lv_iload_n hx hb dX5_raking_30 rfl (lv_at hl 6 rfl) ?_
        refine va_getsN hx hb (hE.sy hAb) hS hown (va_Nw.use rfl (hE.nf ("Underpaint$Picture", 58, "Underpaint", "SIDE_Y", "[I", "Underpaint") (by decide +kernel))) (fun _ h9 => h9) dX5_raking_31 ?_
        refine lv_iload hx hb dX5_raking_34 (lv_at hl 0 rfl) ?_
        refine va_ti hx hb (hE.sya hAb) hS (v := .int (-1)) (vp_in_nI (by decide : 3 < 4) (by decide)) rfl dX5_raking_36 ?_
        refine lv_iadd hx hb dX5_raking_37 ?_
        refine lv_topi (fun x_192 ex_192 => ?_)
        have hPc := (hP.app hR).sub (ws' := [] ++ []) [] rfl
        have hDc := (en_DD hD hDr hN0 hAb).sub (ws' := [] ++ []) [] (by decide) rfl
        have hKc := hK.sub (tys' := []) [] rfl
        have hFc := va_free (wc := []) hD hS hA [] rfl
        refine va_calli (va_runSN (As := [.int x_191, .int x_192]) (rest := []) ⟨hx, hb, hml, hown, hts⟩ (c_X11_isPlace l dC dI b0 en H.size x_191 x_192) ⟨va_cnB 2 hts go_c_X5_raking_2 rfl rfl rfl (hE.nm ("Underpaint$Picture", 61, ⟨"Underpaint", "isPlace", "(II)Z"⟩, "Underpaint") (by decide +kernel)) (hts (.initialized RX11) (by decide +kernel)) (by decide +kernel) ⟨Nat.le_of_ble_eq_true rfl, Nat.le_of_ble_eq_true rfl⟩, hts (.static yX11_isPlace) (by decide +kernel), trivial⟩ ⟨cP.blind, cP.use (en_z hb0 hS) (hE.on hAb hS) hPc hKc hDc trivial⟩ rfl rfl hl.1 rfl (lv_room (Nat.le_of_ble_eq_true rfl)) dX5_raking_38 ⟨Nat.le_of_ble_eq_true rfl, Nat.le_of_ble_eq_true rfl⟩) hS (fun q _ h => hFc q h) hFc (fun r_193 u t H1 locs ht hvm hw hB hz1 hk1 hS => ?_)
        have hP1 : va_P (dC, dI) vwCl [] H1 := fun k q h => by simp at h
        have hD1 : va_D (va_A [] H.size) [] := ⟨fun i j p q h => by simp at h, fun k q h => by simp at h⟩
        try dsimp only at hw
        obtain ⟨hP, hD⟩ := va_join (wr := []) (w1 := []) hP hD [] [] rfl rfl (by decide) (by decide) hk1 hFc hP1 hD1
        generalize H1 = H at hP hS ⊢
        have hP : va_P (dC, dI) vwCl [] H := hP
        have hD : va_D A [] := hD
        have hR := en_R hR0 hN0 hS
        refine W.widen (k := 0) (n := 0) (Nat.le_of_ble_eq_true rfl) (Nat.le_of_ble_eq_true rfl) ?_
        have h_194 := hw
        refine lv_if_eq (tgt := 83) hx hb dX5_raking_41 (by decide) (fun c_195 => ?_) (fun c_195 => ?_)
        · skip
          refine lv_iinc (v := 4) (lv' := [(5, .int 4), (4, .int 0), (6, .int 0), (3, .int 0), (0, .ref q), (1, .int x), (2, .int y)]) hx hb dX5_raking_83 hl (k := 0) rfl (by decide) (by decide) rfl (fun ls hl => ?_)
          refine lv_goto (tgt := 16) hx hb dX5_raking_86 (by decide) ?_
          refine lv_iload hx hb dX5_raking_16 (lv_at hl 0 rfl) ?_
          refine lv_iconst (v := 4) hx hb dX5_raking_18 (by decide) ?_
          refine lv_icmp_ge (tgt := 89) hx hb dX5_raking_19 (by decide) (fun c_196 => ?_) (fun c_196 => absurd c_196 (by decide))
          refine lv_iload hx hb dX5_raking_89 (lv_at hl 1 rfl) ?_
          refine W.widen (k := 0) (n := 0) (Nat.le_of_ble_eq_true rfl) (Nat.le_of_ble_eq_true rfl) ?_
          exact W.iret (v := 0) hx hb hr (fun t ht hW => ⟨⟨0, (), rfl, (z_c_X5_raking_295 x y x_5 x_6 x_116 x_117 x_125 x_126 x_176 x_177 x_185 x_186 x_191 x_192 hxy ex_5 ex_6 (b_yes h_8 c_9) ex_116 ex_117 ex_125 ex_126 (b_yes h_128 c_129) ex_176 ex_177 ex_185 ex_186 (b_no h_188 c_189) ex_191 ex_192 (b_no h_194 c_195)), trivial⟩, hS.F ht⟩) hS.2.2 dX5_raking_91
        · skip
          refine lv_aload_n hx hb dX5_raking_44 rfl (lv_at hl 4 rfl) ?_
          refine lv_iload_n hx hb dX5_raking_45 rfl (lv_at hl 5 rfl) ?_
          refine va_getsN hx hb (hE.sx hAb) hS hown (va_Nw.use rfl (hE.nf ("Underpaint$Picture", 55, "Underpaint", "SIDE_X", "[I", "Underpaint") (by decide +kernel))) (fun _ h9 => h9) dX5_raking_46 ?_
          refine lv_iload hx hb dX5_raking_49 (lv_at hl 0 rfl) ?_
          refine va_ti hx hb (hE.sxa hAb) hS (v := .int 0) (vp_in_nI (by decide : 3 < 4) (by decide)) rfl dX5_raking_51 ?_
          refine lv_iadd hx hb dX5_raking_52 ?_
          refine lv_topi (fun x_197 ex_197 => ?_)
          refine lv_iload_n hx hb dX5_raking_53 rfl (lv_at hl 6 rfl) ?_
          refine va_getsN hx hb (hE.sy hAb) hS hown (va_Nw.use rfl (hE.nf ("Underpaint$Picture", 58, "Underpaint", "SIDE_Y", "[I", "Underpaint") (by decide +kernel))) (fun _ h9 => h9) dX5_raking_54 ?_
          refine lv_iload hx hb dX5_raking_57 (lv_at hl 0 rfl) ?_
          refine va_ti hx hb (hE.sya hAb) hS (v := .int (-1)) (vp_in_nI (by decide : 3 < 4) (by decide)) rfl dX5_raking_59 ?_
          refine lv_iadd hx hb dX5_raking_60 ?_
          refine lv_topi (fun x_198 ex_198 => ?_)
          have hPc := (hP.app hR).sub (ws' := [] ++ [(q, .inr (11, [.ref st, .ref sp, .ref ll, .int 0, .int 1600])), (st, .inl (cS, 48, .inr (.inr (.inr (.inr g)))))]) [0, 1] rfl
          have hDc := (en_DD hD hDr hN0 hAb).sub (ws' := [] ++ [(q, .inr (11, [.ref st, .ref sp, .ref ll, .int 0, .int 1600])), (st, .inl (cS, 48, .inr (.inr (.inr (.inr g)))))]) [0, 1] (by decide) rfl
          have hKc := hK.sub (tys' := [(cS, .object "Underpaint$Stack")]) [0] rfl
          have hFc := va_free (wc := []) hD hS hA [] rfl
          refine va_callq (va_runV (As := [.int x_197, .int x_198]) (rest := []) ⟨hx, hb, hml, hown, hts⟩ (c_at l dC dI b0 en H.size q st sp ll x_197 x_198 g cS (z_c_X5_raking_296 x y x_5 x_6 x_116 x_117 x_125 x_126 x_176 x_177 x_185 x_186 x_191 x_192 x_197 x_198 hxy ex_5 ex_6 (b_yes h_8 c_9) ex_116 ex_117 ex_125 ex_126 (b_yes h_128 c_129) ex_176 ex_177 ex_185 ex_186 (b_no h_188 c_189) ex_191 ex_192 (b_yes h_194 c_195) ex_197 ex_198)) (cwV 2 hts go_c_X5_raking_0 rfl rfl rfl (by decide +kernel) ⟨Nat.le_of_ble_eq_true rfl, Nat.le_of_ble_eq_true rfl⟩) ⟨cP.blind, va_recv hK hR (ci := 11) (q0 := 0) rfl rfl, cP.use (en_z hb0 hS) (hE.on hAb hS) hPc hKc hDc trivial⟩ rfl rfl hl.1 rfl (lv_room (Nat.le_of_ble_eq_true rfl)) dX5_raking_61 ⟨Nat.le_of_ble_eq_true rfl, Nat.le_of_ble_eq_true rfl⟩) hS (fun q _ h => hFc q h) hFc (fun r_199 u t H1 locs ht hvm hw hB hz1 hk1 hS => ?_)
          have hP1 : va_P (dC, dI) vwCl [] H1 := fun k q h => by simp at h
          have hD1 : va_D (va_A [] H.size) [] := ⟨fun i j p q h => by simp at h, fun k q h => by simp at h⟩
          try dsimp only at hw
          obtain ⟨hP, hD⟩ := va_join (wr := []) (w1 := []) hP hD [] [] rfl rfl (by decide) (by decide) hk1 hFc hP1 hD1
          generalize H1 = H at hP hS ⊢
          have hP : va_P (dC, dI) vwCl [] H := hP
          have hD : va_D A [] := hD
          have hR := en_R hR0 hN0 hS
          refine W.widen (k := 0) (n := 0) (Nat.le_of_ble_eq_true rfl) (Nat.le_of_ble_eq_true rfl) ?_
          subst r_199
          obtain ⟨ap_200, rp_200, hgp_200, hup_200, hnp_200⟩ := hF0 (pidx x_197 x_198) (pidx_lt (z_c_X5_raking_297 x y x_5 x_6 x_116 x_117 x_125 x_126 x_176 x_177 x_185 x_186 x_191 x_192 x_197 x_198 hxy ex_5 ex_6 (b_yes h_8 c_9) ex_116 ex_117 ex_125 ex_126 (b_yes h_128 c_129) ex_176 ex_177 ex_185 ex_186 (b_no h_188 c_189) ex_191 ex_192 (b_yes h_194 c_195) ex_197 ex_198))
          refine lv_topv (w := .ref ap_200) (by rw [hgp_200]; rfl) ?_
          have hxp_200 : ¬ A ap_200 := by rw [← hAe]; exact vA0 hup_200.lt
          have hR0 : va_P (dC, dI) vwCl [(q, .inr (11, [.ref st, .ref sp, .ref ll, .int 0, .int 1600])), (st, .inl (cS, 48, .inr (.inr (.inr (.inr g))))), (ap_200, .inr (14, [.ref rp_200, .int 0, .int 0]))] s.heap := (hR0b.app (va1 hup_200))
          have hDr : va_D (fun q => b0 ≤ q) [(q, .inr (11, [.ref st, .ref sp, .ref ll, .int 0, .int 1600])), (st, .inl (cS, 48, .inr (.inr (.inr (.inr g))))), (ap_200, .inr (14, [.ref rp_200, .int 0, .int 0]))] := (vD_push hDrb (hNb ap_200 hnp_200).1 (nR (hNr ap_200 hnp_200)))
          have hN0 : ∀ (k9 : Nat) (q9 : Nat × va_E), [(q, .inr (11, [.ref st, .ref sp, .ref ll, .int 0, .int 1600])), (st, .inl (cS, 48, .inr (.inr (.inr (.inr g))))), (ap_200, .inr (14, [.ref rp_200, .int 0, .int 0]))][k9]? = some q9 → ¬ A q9.1 := (vN_push hN0b hxp_200)
          have hR : va_P (dC, dI) vwCl [(q, .inr (11, [.ref st, .ref sp, .ref ll, .int 0, .int 1600])), (st, .inl (cS, 48, .inr (.inr (.inr (.inr g))))), (ap_200, .inr (14, [.ref rp_200, .int 0, .int 0]))] H := en_R hR0 hN0 hS
          have hPc := (hP.app hR).sub (ws' := [] ++ [(ap_200, .inr (14, [.ref rp_200, .int 0, .int 0]))]) [2] rfl
          have hDc := (en_DD hD hDr hN0 hAb).sub (ws' := [] ++ [(ap_200, .inr (14, [.ref rp_200, .int 0, .int 0]))]) [2] (by decide) rfl
          have hKc := hK.sub (tys' := []) [] rfl
          have hFc := va_free (wc := []) hD hS hA [] rfl
          refine va_calli (va_runV (As := []) (rest := []) ⟨hx, hb, hml, hown, hts⟩ (c_X8_height l dC dI b0 en H.size ap_200 rp_200) (cwV 0 hts go_c_X5_raking_1 rfl rfl rfl (by decide +kernel) ⟨Nat.le_of_ble_eq_true rfl, Nat.le_of_ble_eq_true rfl⟩) ⟨cP.blind, va_recv hK hR (ci := 14) (q0 := 2) rfl rfl, cP.use (en_z hb0 hS) (hE.on hAb hS) hPc hKc hDc trivial⟩ rfl rfl hl.1 rfl (lv_room (Nat.le_of_ble_eq_true rfl)) dX5_raking_64 ⟨Nat.le_of_ble_eq_true rfl, Nat.le_of_ble_eq_true rfl⟩) hS (fun q _ h => hFc q h) hFc (fun r_201 u t H1 locs ht hvm hw hB hz1 hk1 hS => ?_)
          have hP1 : va_P (dC, dI) vwCl [] H1 := fun k q h => by simp at h
          have hD1 : va_D (va_A [] H.size) [] := ⟨fun i j p q h => by simp at h, fun k q h => by simp at h⟩
          try dsimp only at hw
          obtain ⟨hP, hD⟩ := va_join (wr := []) (w1 := []) hP hD [] [] rfl rfl (by decide) (by decide) hk1 hFc hP1 hD1
          generalize H1 = H at hP hS ⊢
          have hP : va_P (dC, dI) vwCl [] H := hP
          have hD : va_D A [] := hD
          have hR := en_R hR0 hN0 hS
          refine W.widen (k := 0) (n := 0) (Nat.le_of_ble_eq_true rfl) (Nat.le_of_ble_eq_true rfl) ?_
          subst r_201
          refine lv_iload_n hx hb dX5_raking_67 rfl (lv_at hl 3 rfl) ?_
          refine lv_isub hx hb dX5_raking_68 ?_
          refine lv_topi (fun x_202 ex_202 => ?_)
          obtain rfl : x_202 = 0 := ex_202.trans (by decide)
          refine lv_istore (lv' := [(6, .int 0), (5, .int 3), (4, .int 0), (3, .int 0), (0, .ref q), (1, .int x), (2, .int y)]) hx hb dX5_raking_69 hl (by decide) rfl (fun ls hl => ?_)
          refine lv_iload hx hb dX5_raking_71 (lv_at hl 2 rfl) ?_
          refine lv_iload hx hb dX5_raking_73 (lv_at hl 0 rfl) ?_
          refine va_mabs hx hb (hml.trans hl.1.symm) hown (hts (.methodLink RX5 65 Lib.Math.abs.name) (by decide +kernel)) (hts (.static Lib.Math.abs.name) (by decide +kernel)) (hts (.initialized "java/lang/Math") (by decide +kernel)) (hts (.code Lib.Math.abs.name Lib.Math.abs.code 1 (some .int)) (by decide +kernel)) (Nat.le_of_ble_eq_true rfl) (Nat.le_of_ble_eq_true rfl) (Nat.le_of_ble_eq_true rfl) (Nat.le_of_ble_eq_true rfl) dX5_raking_75 ?_
          refine lv_topi (fun x_203 ex_203 => ?_)
          obtain rfl : x_203 = 0 := ex_203.trans (by decide)
          refine va_mmax hx hb (hml.trans hl.1.symm) hown (hts (.methodLink RX5 70 Lib.Math.max.name) (by decide +kernel)) (hts (.static Lib.Math.max.name) (by decide +kernel)) (hts (.initialized "java/lang/Math") (by decide +kernel)) (hts (.code Lib.Math.max.name Lib.Math.max.code 2 (some .int)) (by decide +kernel)) (Nat.le_of_ble_eq_true rfl) (Nat.le_of_ble_eq_true rfl) (Nat.le_of_ble_eq_true rfl) (Nat.le_of_ble_eq_true rfl) dX5_raking_78 ?_
          refine lv_topi (fun x_204 ex_204 => ?_)
          obtain rfl : x_204 = 0 := ex_204.trans (by decide)
          refine lv_istore (lv' := [(4, .int 0), (6, .int 0), (5, .int 3), (3, .int 0), (0, .ref q), (1, .int x), (2, .int y)]) hx hb dX5_raking_81 hl (by decide) rfl (fun ls hl => ?_)
          refine lv_iinc (v := 4) (lv' := [(5, .int 4), (4, .int 0), (6, .int 0), (3, .int 0), (0, .ref q), (1, .int x), (2, .int y)]) hx hb dX5_raking_83 hl (k := 2) rfl (by decide) (by decide) rfl (fun ls hl => ?_)
          refine lv_goto (tgt := 16) hx hb dX5_raking_86 (by decide) ?_
          refine lv_iload hx hb dX5_raking_16 (lv_at hl 0 rfl) ?_
          refine lv_iconst (v := 4) hx hb dX5_raking_18 (by decide) ?_
          refine lv_icmp_ge (tgt := 89) hx hb dX5_raking_19 (by decide) (fun c_205 => ?_) (fun c_205 => absurd c_205 (by decide))
          refine lv_iload hx hb dX5_raking_89 (lv_at hl 1 rfl) ?_
          refine W.widen (k := 0) (n := 0) (Nat.le_of_ble_eq_true rfl) (Nat.le_of_ble_eq_true rfl) ?_
          exact W.iret (v := 0) hx hb hr (fun t ht hW => ⟨⟨0, (), rfl, (z_c_X5_raking_298 x y x_5 x_6 x_116 x_117 x_125 x_126 x_176 x_177 x_185 x_186 x_191 x_192 x_197 x_198 hxy ex_5 ex_6 (b_yes h_8 c_9) ex_116 ex_117 ex_125 ex_126 (b_yes h_128 c_129) ex_176 ex_177 ex_185 ex_186 (b_no h_188 c_189) ex_191 ex_192 (b_yes h_194 c_195) ex_197 ex_198), trivial⟩, hS.F ht⟩) hS.2.2 dX5_raking_91
      · skip
        refine lv_aload_n hx hb dX5_raking_44 rfl (lv_at hl 4 rfl) ?_
        refine lv_iload_n hx hb dX5_raking_45 rfl (lv_at hl 5 rfl) ?_
        refine va_getsN hx hb (hE.sx hAb) hS hown (va_Nw.use rfl (hE.nf ("Underpaint$Picture", 55, "Underpaint", "SIDE_X", "[I", "Underpaint") (by decide +kernel))) (fun _ h9 => h9) dX5_raking_46 ?_
        refine lv_iload hx hb dX5_raking_49 (lv_at hl 0 rfl) ?_
        refine va_ti hx hb (hE.sxa hAb) hS (v := .int 0) (vp_in_nI (by decide : 2 < 4) (by decide)) rfl dX5_raking_51 ?_
        refine lv_iadd hx hb dX5_raking_52 ?_
        refine lv_topi (fun x_206 ex_206 => ?_)
        refine lv_iload_n hx hb dX5_raking_53 rfl (lv_at hl 6 rfl) ?_
        refine va_getsN hx hb (hE.sy hAb) hS hown (va_Nw.use rfl (hE.nf ("Underpaint$Picture", 58, "Underpaint", "SIDE_Y", "[I", "Underpaint") (by decide +kernel))) (fun _ h9 => h9) dX5_raking_54 ?_
        refine lv_iload hx hb dX5_raking_57 (lv_at hl 0 rfl) ?_
        refine va_ti hx hb (hE.sya hAb) hS (v := .int 1) (vp_in_nI (by decide : 2 < 4) (by decide)) rfl dX5_raking_59 ?_
        refine lv_iadd hx hb dX5_raking_60 ?_
        refine lv_topi (fun x_207 ex_207 => ?_)
        have hPc := (hP.app hR).sub (ws' := [] ++ [(q, .inr (11, [.ref st, .ref sp, .ref ll, .int 0, .int 1600])), (st, .inl (cS, 48, .inr (.inr (.inr (.inr g)))))]) [0, 1] rfl
        have hDc := (en_DD hD hDr hN0 hAb).sub (ws' := [] ++ [(q, .inr (11, [.ref st, .ref sp, .ref ll, .int 0, .int 1600])), (st, .inl (cS, 48, .inr (.inr (.inr (.inr g)))))]) [0, 1] (by decide) rfl
        have hKc := hK.sub (tys' := [(cS, .object "Underpaint$Stack")]) [0] rfl
        have hFc := va_free (wc := []) hD hS hA [] rfl
        refine va_callq (va_runV (As := [.int x_206, .int x_207]) (rest := []) ⟨hx, hb, hml, hown, hts⟩ (c_at l dC dI b0 en H.size q st sp ll x_206 x_207 g cS (z_c_X5_raking_299 x y x_5 x_6 x_116 x_117 x_125 x_126 x_176 x_177 x_185 x_186 x_206 x_207 hxy ex_5 ex_6 (b_yes h_8 c_9) ex_116 ex_117 ex_125 ex_126 (b_yes h_128 c_129) ex_176 ex_177 ex_185 ex_186 (b_yes h_188 c_189) ex_206 ex_207)) (cwV 2 hts go_c_X5_raking_0 rfl rfl rfl (by decide +kernel) ⟨Nat.le_of_ble_eq_true rfl, Nat.le_of_ble_eq_true rfl⟩) ⟨cP.blind, va_recv hK hR (ci := 11) (q0 := 0) rfl rfl, cP.use (en_z hb0 hS) (hE.on hAb hS) hPc hKc hDc trivial⟩ rfl rfl hl.1 rfl (lv_room (Nat.le_of_ble_eq_true rfl)) dX5_raking_61 ⟨Nat.le_of_ble_eq_true rfl, Nat.le_of_ble_eq_true rfl⟩) hS (fun q _ h => hFc q h) hFc (fun r_208 u t H1 locs ht hvm hw hB hz1 hk1 hS => ?_)
        have hP1 : va_P (dC, dI) vwCl [] H1 := fun k q h => by simp at h
        have hD1 : va_D (va_A [] H.size) [] := ⟨fun i j p q h => by simp at h, fun k q h => by simp at h⟩
        try dsimp only at hw
        obtain ⟨hP, hD⟩ := va_join (wr := []) (w1 := []) hP hD [] [] rfl rfl (by decide) (by decide) hk1 hFc hP1 hD1
        generalize H1 = H at hP hS ⊢
        have hP : va_P (dC, dI) vwCl [] H := hP
        have hD : va_D A [] := hD
        have hR := en_R hR0 hN0 hS
        refine W.widen (k := 0) (n := 0) (Nat.le_of_ble_eq_true rfl) (Nat.le_of_ble_eq_true rfl) ?_
        subst r_208
        obtain ⟨ap_209, rp_209, hgp_209, hup_209, hnp_209⟩ := hF0 (pidx x_206 x_207) (pidx_lt (z_c_X5_raking_300 x y x_5 x_6 x_116 x_117 x_125 x_126 x_176 x_177 x_185 x_186 x_206 x_207 hxy ex_5 ex_6 (b_yes h_8 c_9) ex_116 ex_117 ex_125 ex_126 (b_yes h_128 c_129) ex_176 ex_177 ex_185 ex_186 (b_yes h_188 c_189) ex_206 ex_207))
        refine lv_topv (w := .ref ap_209) (by rw [hgp_209]; rfl) ?_
        have hxp_209 : ¬ A ap_209 := by rw [← hAe]; exact vA0 hup_209.lt
        have hR0 : va_P (dC, dI) vwCl [(q, .inr (11, [.ref st, .ref sp, .ref ll, .int 0, .int 1600])), (st, .inl (cS, 48, .inr (.inr (.inr (.inr g))))), (ap_209, .inr (14, [.ref rp_209, .int 0, .int 0]))] s.heap := (hR0b.app (va1 hup_209))
        have hDr : va_D (fun q => b0 ≤ q) [(q, .inr (11, [.ref st, .ref sp, .ref ll, .int 0, .int 1600])), (st, .inl (cS, 48, .inr (.inr (.inr (.inr g))))), (ap_209, .inr (14, [.ref rp_209, .int 0, .int 0]))] := (vD_push hDrb (hNb ap_209 hnp_209).1 (nR (hNr ap_209 hnp_209)))
        have hN0 : ∀ (k9 : Nat) (q9 : Nat × va_E), [(q, .inr (11, [.ref st, .ref sp, .ref ll, .int 0, .int 1600])), (st, .inl (cS, 48, .inr (.inr (.inr (.inr g))))), (ap_209, .inr (14, [.ref rp_209, .int 0, .int 0]))][k9]? = some q9 → ¬ A q9.1 := (vN_push hN0b hxp_209)
        have hR : va_P (dC, dI) vwCl [(q, .inr (11, [.ref st, .ref sp, .ref ll, .int 0, .int 1600])), (st, .inl (cS, 48, .inr (.inr (.inr (.inr g))))), (ap_209, .inr (14, [.ref rp_209, .int 0, .int 0]))] H := en_R hR0 hN0 hS
        have hPc := (hP.app hR).sub (ws' := [] ++ [(ap_209, .inr (14, [.ref rp_209, .int 0, .int 0]))]) [2] rfl
        have hDc := (en_DD hD hDr hN0 hAb).sub (ws' := [] ++ [(ap_209, .inr (14, [.ref rp_209, .int 0, .int 0]))]) [2] (by decide) rfl
        have hKc := hK.sub (tys' := []) [] rfl
        have hFc := va_free (wc := []) hD hS hA [] rfl
        refine va_calli (va_runV (As := []) (rest := []) ⟨hx, hb, hml, hown, hts⟩ (c_X8_height l dC dI b0 en H.size ap_209 rp_209) (cwV 0 hts go_c_X5_raking_1 rfl rfl rfl (by decide +kernel) ⟨Nat.le_of_ble_eq_true rfl, Nat.le_of_ble_eq_true rfl⟩) ⟨cP.blind, va_recv hK hR (ci := 14) (q0 := 2) rfl rfl, cP.use (en_z hb0 hS) (hE.on hAb hS) hPc hKc hDc trivial⟩ rfl rfl hl.1 rfl (lv_room (Nat.le_of_ble_eq_true rfl)) dX5_raking_64 ⟨Nat.le_of_ble_eq_true rfl, Nat.le_of_ble_eq_true rfl⟩) hS (fun q _ h => hFc q h) hFc (fun r_210 u t H1 locs ht hvm hw hB hz1 hk1 hS => ?_)
        have hP1 : va_P (dC, dI) vwCl [] H1 := fun k q h => by simp at h
        have hD1 : va_D (va_A [] H.size) [] := ⟨fun i j p q h => by simp at h, fun k q h => by simp at h⟩
        try dsimp only at hw
        obtain ⟨hP, hD⟩ := va_join (wr := []) (w1 := []) hP hD [] [] rfl rfl (by decide) (by decide) hk1 hFc hP1 hD1
        generalize H1 = H at hP hS ⊢
        have hP : va_P (dC, dI) vwCl [] H := hP
        have hD : va_D A [] := hD
        have hR := en_R hR0 hN0 hS
        refine W.widen (k := 0) (n := 0) (Nat.le_of_ble_eq_true rfl) (Nat.le_of_ble_eq_true rfl) ?_
        subst r_210
        refine lv_iload_n hx hb dX5_raking_67 rfl (lv_at hl 3 rfl) ?_
        refine lv_isub hx hb dX5_raking_68 ?_
        refine lv_topi (fun x_211 ex_211 => ?_)
        obtain rfl : x_211 = 0 := ex_211.trans (by decide)
        refine lv_istore (lv' := [(6, .int 0), (5, .int 2), (4, .int 0), (3, .int 0), (0, .ref q), (1, .int x), (2, .int y)]) hx hb dX5_raking_69 hl (by decide) rfl (fun ls hl => ?_)
        refine lv_iload hx hb dX5_raking_71 (lv_at hl 2 rfl) ?_
        refine lv_iload hx hb dX5_raking_73 (lv_at hl 0 rfl) ?_
        refine va_mabs hx hb (hml.trans hl.1.symm) hown (hts (.methodLink RX5 65 Lib.Math.abs.name) (by decide +kernel)) (hts (.static Lib.Math.abs.name) (by decide +kernel)) (hts (.initialized "java/lang/Math") (by decide +kernel)) (hts (.code Lib.Math.abs.name Lib.Math.abs.code 1 (some .int)) (by decide +kernel)) (Nat.le_of_ble_eq_true rfl) (Nat.le_of_ble_eq_true rfl) (Nat.le_of_ble_eq_true rfl) (Nat.le_of_ble_eq_true rfl) dX5_raking_75 ?_
        refine lv_topi (fun x_212 ex_212 => ?_)
        obtain rfl : x_212 = 0 := ex_212.trans (by decide)
        refine va_mmax hx hb (hml.trans hl.1.symm) hown (hts (.methodLink RX5 70 Lib.Math.max.name) (by decide +kernel)) (hts (.static Lib.Math.max.name) (by decide +kernel)) (hts (.initialized "java/lang/Math") (by decide +kernel)) (hts (.code Lib.Math.max.name Lib.Math.max.code 2 (some .int)) (by decide +kernel)) (Nat.le_of_ble_eq_true rfl) (Nat.le_of_ble_eq_true rfl) (Nat.le_of_ble_eq_true rfl) (Nat.le_of_ble_eq_true rfl) dX5_raking_78 ?_
        refine lv_topi (fun x_213 ex_213 => ?_)
        obtain rfl : x_213 = 0 := ex_213.trans (by decide)
        refine lv_istore (lv' := [(4, .int 0), (6, .int 0), (5, .int 2), (3, .int 0), (0, .ref q), (1, .int x), (2, .int y)]) hx hb dX5_raking_81 hl (by decide) rfl (fun ls hl => ?_)
        refine lv_iinc (v := 3) (lv' := [(5, .int 3), (4, .int 0), (6, .int 0), (3, .int 0), (0, .ref q), (1, .int x), (2, .int y)]) hx hb dX5_raking_83 hl (k := 2) rfl (by decide) (by decide) rfl (fun ls hl => ?_)
        refine lv_goto (tgt := 16) hx hb dX5_raking_86 (by decide) ?_
        refine lv_iload hx hb dX5_raking_16 (lv_at hl 0 rfl) ?_
        refine lv_iconst (v := 4) hx hb dX5_raking_18 (by decide) ?_
        refine lv_icmp_ge (tgt := 89) hx hb dX5_raking_19 (by decide) (fun c_214 => absurd c_214 (by decide)) (fun c_214 => ?_)
        refine lv_iload_n hx hb dX5_raking_22 rfl (lv_at hl 5 rfl) ?_
        refine va_getsN hx hb (hE.sx hAb) hS hown (va_Nw.use rfl (hE.nf ("Underpaint$Picture", 55, "Underpaint", "SIDE_X", "[I", "Underpaint") (by decide +kernel))) (fun _ h9 => h9) dX5_raking_23 ?_
        refine lv_iload hx hb dX5_raking_26 (lv_at hl 0 rfl) ?_
        refine va_ti hx hb (hE.sxa hAb) hS (v := .int 0) (vp_in_nI (by decide : 3 < 4) (by decide)) rfl dX5_raking_28 ?_
        refine lv_iadd hx hb dX5_raking_29 ?_
        refine lv_topi (fun x_215 ex_215 => ?_)
        refine lv_iload_n hx hb dX5_raking_30 rfl (lv_at hl 6 rfl) ?_
        refine va_getsN hx hb (hE.sy hAb) hS hown (va_Nw.use rfl (hE.nf ("Underpaint$Picture", 58, "Underpaint", "SIDE_Y", "[I", "Underpaint") (by decide +kernel))) (fun _ h9 => h9) dX5_raking_31 ?_
        refine lv_iload hx hb dX5_raking_34 (lv_at hl 0 rfl) ?_
        refine va_ti hx hb (hE.sya hAb) hS (v := .int (-1)) (vp_in_nI (by decide : 3 < 4) (by decide)) rfl dX5_raking_36 ?_
        refine lv_iadd hx hb dX5_raking_37 ?_
        refine lv_topi (fun x_216 ex_216 => ?_)
        have hPc := (hP.app hR).sub (ws' := [] ++ []) [] rfl
        have hDc := (en_DD hD hDr hN0 hAb).sub (ws' := [] ++ []) [] (by decide) rfl
        have hKc := hK.sub (tys' := []) [] rfl
        have hFc := va_free (wc := []) hD hS hA [] rfl
        refine va_calli (va_runSN (As := [.int x_215, .int x_216]) (rest := []) ⟨hx, hb, hml, hown, hts⟩ (c_X11_isPlace l dC dI b0 en H.size x_215 x_216) ⟨va_cnB 2 hts go_c_X5_raking_2 rfl rfl rfl (hE.nm ("Underpaint$Picture", 61, ⟨"Underpaint", "isPlace", "(II)Z"⟩, "Underpaint") (by decide +kernel)) (hts (.initialized RX11) (by decide +kernel)) (by decide +kernel) ⟨Nat.le_of_ble_eq_true rfl, Nat.le_of_ble_eq_true rfl⟩, hts (.static yX11_isPlace) (by decide +kernel), trivial⟩ ⟨cP.blind, cP.use (en_z hb0 hS) (hE.on hAb hS) hPc hKc hDc trivial⟩ rfl rfl hl.1 rfl (lv_room (Nat.le_of_ble_eq_true rfl)) dX5_raking_38 ⟨Nat.le_of_ble_eq_true rfl, Nat.le_of_ble_eq_true rfl⟩) hS (fun q _ h => hFc q h) hFc (fun r_217 u t H1 locs ht hvm hw hB hz1 hk1 hS => ?_)
        have hP1 : va_P (dC, dI) vwCl [] H1 := fun k q h => by simp at h
        have hD1 : va_D (va_A [] H.size) [] := ⟨fun i j p q h => by simp at h, fun k q h => by simp at h⟩
        try dsimp only at hw
        obtain ⟨hP, hD⟩ := va_join (wr := []) (w1 := []) hP hD [] [] rfl rfl (by decide) (by decide) hk1 hFc hP1 hD1
        generalize H1 = H at hP hS ⊢
        have hP : va_P (dC, dI) vwCl [] H := hP
        have hD : va_D A [] := hD
        have hR := en_R hR0 hN0 hS
        refine W.widen (k := 0) (n := 0) (Nat.le_of_ble_eq_true rfl) (Nat.le_of_ble_eq_true rfl) ?_
        have h_218 := hw
        refine lv_if_eq (tgt := 83) hx hb dX5_raking_41 (by decide) (fun c_219 => ?_) (fun c_219 => ?_)
        · skip
          refine lv_iinc (v := 4) (lv' := [(5, .int 4), (4, .int 0), (6, .int 0), (3, .int 0), (0, .ref q), (1, .int x), (2, .int y)]) hx hb dX5_raking_83 hl (k := 0) rfl (by decide) (by decide) rfl (fun ls hl => ?_)
          refine lv_goto (tgt := 16) hx hb dX5_raking_86 (by decide) ?_
          refine lv_iload hx hb dX5_raking_16 (lv_at hl 0 rfl) ?_
          refine lv_iconst (v := 4) hx hb dX5_raking_18 (by decide) ?_
          refine lv_icmp_ge (tgt := 89) hx hb dX5_raking_19 (by decide) (fun c_220 => ?_) (fun c_220 => absurd c_220 (by decide))
          refine lv_iload hx hb dX5_raking_89 (lv_at hl 1 rfl) ?_
          refine W.widen (k := 0) (n := 0) (Nat.le_of_ble_eq_true rfl) (Nat.le_of_ble_eq_true rfl) ?_
          exact W.iret (v := 0) hx hb hr (fun t ht hW => ⟨⟨0, (), rfl, (z_c_X5_raking_301 x y x_5 x_6 x_116 x_117 x_125 x_126 x_176 x_177 x_185 x_186 x_206 x_207 x_215 x_216 hxy ex_5 ex_6 (b_yes h_8 c_9) ex_116 ex_117 ex_125 ex_126 (b_yes h_128 c_129) ex_176 ex_177 ex_185 ex_186 (b_yes h_188 c_189) ex_206 ex_207 ex_215 ex_216 (b_no h_218 c_219)), trivial⟩, hS.F ht⟩) hS.2.2 dX5_raking_91
        · skip
          refine lv_aload_n hx hb dX5_raking_44 rfl (lv_at hl 4 rfl) ?_
          refine lv_iload_n hx hb dX5_raking_45 rfl (lv_at hl 5 rfl) ?_
          refine va_getsN hx hb (hE.sx hAb) hS hown (va_Nw.use rfl (hE.nf ("Underpaint$Picture", 55, "Underpaint", "SIDE_X", "[I", "Underpaint") (by decide +kernel))) (fun _ h9 => h9) dX5_raking_46 ?_
          refine lv_iload hx hb dX5_raking_49 (lv_at hl 0 rfl) ?_
          refine va_ti hx hb (hE.sxa hAb) hS (v := .int 0) (vp_in_nI (by decide : 3 < 4) (by decide)) rfl dX5_raking_51 ?_
          refine lv_iadd hx hb dX5_raking_52 ?_
          refine lv_topi (fun x_221 ex_221 => ?_)
          refine lv_iload_n hx hb dX5_raking_53 rfl (lv_at hl 6 rfl) ?_
          refine va_getsN hx hb (hE.sy hAb) hS hown (va_Nw.use rfl (hE.nf ("Underpaint$Picture", 58, "Underpaint", "SIDE_Y", "[I", "Underpaint") (by decide +kernel))) (fun _ h9 => h9) dX5_raking_54 ?_
          refine lv_iload hx hb dX5_raking_57 (lv_at hl 0 rfl) ?_
          refine va_ti hx hb (hE.sya hAb) hS (v := .int (-1)) (vp_in_nI (by decide : 3 < 4) (by decide)) rfl dX5_raking_59 ?_
          refine lv_iadd hx hb dX5_raking_60 ?_
          refine lv_topi (fun x_222 ex_222 => ?_)
          have hPc := (hP.app hR).sub (ws' := [] ++ [(q, .inr (11, [.ref st, .ref sp, .ref ll, .int 0, .int 1600])), (st, .inl (cS, 48, .inr (.inr (.inr (.inr g)))))]) [0, 1] rfl
          have hDc := (en_DD hD hDr hN0 hAb).sub (ws' := [] ++ [(q, .inr (11, [.ref st, .ref sp, .ref ll, .int 0, .int 1600])), (st, .inl (cS, 48, .inr (.inr (.inr (.inr g)))))]) [0, 1] (by decide) rfl
          have hKc := hK.sub (tys' := [(cS, .object "Underpaint$Stack")]) [0] rfl
          have hFc := va_free (wc := []) hD hS hA [] rfl
          refine va_callq (va_runV (As := [.int x_221, .int x_222]) (rest := []) ⟨hx, hb, hml, hown, hts⟩ (c_at l dC dI b0 en H.size q st sp ll x_221 x_222 g cS (z_c_X5_raking_302 x y x_5 x_6 x_116 x_117 x_125 x_126 x_176 x_177 x_185 x_186 x_206 x_207 x_215 x_216 x_221 x_222 hxy ex_5 ex_6 (b_yes h_8 c_9) ex_116 ex_117 ex_125 ex_126 (b_yes h_128 c_129) ex_176 ex_177 ex_185 ex_186 (b_yes h_188 c_189) ex_206 ex_207 ex_215 ex_216 (b_yes h_218 c_219) ex_221 ex_222)) (cwV 2 hts go_c_X5_raking_0 rfl rfl rfl (by decide +kernel) ⟨Nat.le_of_ble_eq_true rfl, Nat.le_of_ble_eq_true rfl⟩) ⟨cP.blind, va_recv hK hR (ci := 11) (q0 := 0) rfl rfl, cP.use (en_z hb0 hS) (hE.on hAb hS) hPc hKc hDc trivial⟩ rfl rfl hl.1 rfl (lv_room (Nat.le_of_ble_eq_true rfl)) dX5_raking_61 ⟨Nat.le_of_ble_eq_true rfl, Nat.le_of_ble_eq_true rfl⟩) hS (fun q _ h => hFc q h) hFc (fun r_223 u t H1 locs ht hvm hw hB hz1 hk1 hS => ?_)
          have hP1 : va_P (dC, dI) vwCl [] H1 := fun k q h => by simp at h
          have hD1 : va_D (va_A [] H.size) [] := ⟨fun i j p q h => by simp at h, fun k q h => by simp at h⟩
          try dsimp only at hw
          obtain ⟨hP, hD⟩ := va_join (wr := []) (w1 := []) hP hD [] [] rfl rfl (by decide) (by decide) hk1 hFc hP1 hD1
          generalize H1 = H at hP hS ⊢
          have hP : va_P (dC, dI) vwCl [] H := hP
          have hD : va_D A [] := hD
          have hR := en_R hR0 hN0 hS
          refine W.widen (k := 0) (n := 0) (Nat.le_of_ble_eq_true rfl) (Nat.le_of_ble_eq_true rfl) ?_
          subst r_223
          obtain ⟨ap_224, rp_224, hgp_224, hup_224, hnp_224⟩ := hF0 (pidx x_221 x_222) (pidx_lt (z_c_X5_raking_303 x y x_5 x_6 x_116 x_117 x_125 x_126 x_176 x_177 x_185 x_186 x_206 x_207 x_215 x_216 x_221 x_222 hxy ex_5 ex_6 (b_yes h_8 c_9) ex_116 ex_117 ex_125 ex_126 (b_yes h_128 c_129) ex_176 ex_177 ex_185 ex_186 (b_yes h_188 c_189) ex_206 ex_207 ex_215 ex_216 (b_yes h_218 c_219) ex_221 ex_222))
          refine lv_topv (w := .ref ap_224) (by rw [hgp_224]; rfl) ?_
          have hxp_224 : ¬ A ap_224 := by rw [← hAe]; exact vA0 hup_224.lt
          have hR0 : va_P (dC, dI) vwCl [(q, .inr (11, [.ref st, .ref sp, .ref ll, .int 0, .int 1600])), (st, .inl (cS, 48, .inr (.inr (.inr (.inr g))))), (ap_224, .inr (14, [.ref rp_224, .int 0, .int 0]))] s.heap := (hR0b.app (va1 hup_224))
          have hDr : va_D (fun q => b0 ≤ q) [(q, .inr (11, [.ref st, .ref sp, .ref ll, .int 0, .int 1600])), (st, .inl (cS, 48, .inr (.inr (.inr (.inr g))))), (ap_224, .inr (14, [.ref rp_224, .int 0, .int 0]))] := (vD_push hDrb (hNb ap_224 hnp_224).1 (nR (hNr ap_224 hnp_224)))
          have hN0 : ∀ (k9 : Nat) (q9 : Nat × va_E), [(q, .inr (11, [.ref st, .ref sp, .ref ll, .int 0, .int 1600])), (st, .inl (cS, 48, .inr (.inr (.inr (.inr g))))), (ap_224, .inr (14, [.ref rp_224, .int 0, .int 0]))][k9]? = some q9 → ¬ A q9.1 := (vN_push hN0b hxp_224)
          have hR : va_P (dC, dI) vwCl [(q, .inr (11, [.ref st, .ref sp, .ref ll, .int 0, .int 1600])), (st, .inl (cS, 48, .inr (.inr (.inr (.inr g))))), (ap_224, .inr (14, [.ref rp_224, .int 0, .int 0]))] H := en_R hR0 hN0 hS
          have hPc := (hP.app hR).sub (ws' := [] ++ [(ap_224, .inr (14, [.ref rp_224, .int 0, .int 0]))]) [2] rfl
          have hDc := (en_DD hD hDr hN0 hAb).sub (ws' := [] ++ [(ap_224, .inr (14, [.ref rp_224, .int 0, .int 0]))]) [2] (by decide) rfl
          have hKc := hK.sub (tys' := []) [] rfl
          have hFc := va_free (wc := []) hD hS hA [] rfl
          refine va_calli (va_runV (As := []) (rest := []) ⟨hx, hb, hml, hown, hts⟩ (c_X8_height l dC dI b0 en H.size ap_224 rp_224) (cwV 0 hts go_c_X5_raking_1 rfl rfl rfl (by decide +kernel) ⟨Nat.le_of_ble_eq_true rfl, Nat.le_of_ble_eq_true rfl⟩) ⟨cP.blind, va_recv hK hR (ci := 14) (q0 := 2) rfl rfl, cP.use (en_z hb0 hS) (hE.on hAb hS) hPc hKc hDc trivial⟩ rfl rfl hl.1 rfl (lv_room (Nat.le_of_ble_eq_true rfl)) dX5_raking_64 ⟨Nat.le_of_ble_eq_true rfl, Nat.le_of_ble_eq_true rfl⟩) hS (fun q _ h => hFc q h) hFc (fun r_225 u t H1 locs ht hvm hw hB hz1 hk1 hS => ?_)
          have hP1 : va_P (dC, dI) vwCl [] H1 := fun k q h => by simp at h
          have hD1 : va_D (va_A [] H.size) [] := ⟨fun i j p q h => by simp at h, fun k q h => by simp at h⟩
          try dsimp only at hw
          obtain ⟨hP, hD⟩ := va_join (wr := []) (w1 := []) hP hD [] [] rfl rfl (by decide) (by decide) hk1 hFc hP1 hD1
          generalize H1 = H at hP hS ⊢
          have hP : va_P (dC, dI) vwCl [] H := hP
          have hD : va_D A [] := hD
          have hR := en_R hR0 hN0 hS
          refine W.widen (k := 0) (n := 0) (Nat.le_of_ble_eq_true rfl) (Nat.le_of_ble_eq_true rfl) ?_
          subst r_225
          refine lv_iload_n hx hb dX5_raking_67 rfl (lv_at hl 3 rfl) ?_
          refine lv_isub hx hb dX5_raking_68 ?_
          refine lv_topi (fun x_226 ex_226 => ?_)
          obtain rfl : x_226 = 0 := ex_226.trans (by decide)
          refine lv_istore (lv' := [(6, .int 0), (5, .int 3), (4, .int 0), (3, .int 0), (0, .ref q), (1, .int x), (2, .int y)]) hx hb dX5_raking_69 hl (by decide) rfl (fun ls hl => ?_)
          refine lv_iload hx hb dX5_raking_71 (lv_at hl 2 rfl) ?_
          refine lv_iload hx hb dX5_raking_73 (lv_at hl 0 rfl) ?_
          refine va_mabs hx hb (hml.trans hl.1.symm) hown (hts (.methodLink RX5 65 Lib.Math.abs.name) (by decide +kernel)) (hts (.static Lib.Math.abs.name) (by decide +kernel)) (hts (.initialized "java/lang/Math") (by decide +kernel)) (hts (.code Lib.Math.abs.name Lib.Math.abs.code 1 (some .int)) (by decide +kernel)) (Nat.le_of_ble_eq_true rfl) (Nat.le_of_ble_eq_true rfl) (Nat.le_of_ble_eq_true rfl) (Nat.le_of_ble_eq_true rfl) dX5_raking_75 ?_
          refine lv_topi (fun x_227 ex_227 => ?_)
          obtain rfl : x_227 = 0 := ex_227.trans (by decide)
          refine va_mmax hx hb (hml.trans hl.1.symm) hown (hts (.methodLink RX5 70 Lib.Math.max.name) (by decide +kernel)) (hts (.static Lib.Math.max.name) (by decide +kernel)) (hts (.initialized "java/lang/Math") (by decide +kernel)) (hts (.code Lib.Math.max.name Lib.Math.max.code 2 (some .int)) (by decide +kernel)) (Nat.le_of_ble_eq_true rfl) (Nat.le_of_ble_eq_true rfl) (Nat.le_of_ble_eq_true rfl) (Nat.le_of_ble_eq_true rfl) dX5_raking_78 ?_
          refine lv_topi (fun x_228 ex_228 => ?_)
          obtain rfl : x_228 = 0 := ex_228.trans (by decide)
          refine lv_istore (lv' := [(4, .int 0), (6, .int 0), (5, .int 3), (3, .int 0), (0, .ref q), (1, .int x), (2, .int y)]) hx hb dX5_raking_81 hl (by decide) rfl (fun ls hl => ?_)
          refine lv_iinc (v := 4) (lv' := [(5, .int 4), (4, .int 0), (6, .int 0), (3, .int 0), (0, .ref q), (1, .int x), (2, .int y)]) hx hb dX5_raking_83 hl (k := 2) rfl (by decide) (by decide) rfl (fun ls hl => ?_)
          refine lv_goto (tgt := 16) hx hb dX5_raking_86 (by decide) ?_
          refine lv_iload hx hb dX5_raking_16 (lv_at hl 0 rfl) ?_
          refine lv_iconst (v := 4) hx hb dX5_raking_18 (by decide) ?_
          refine lv_icmp_ge (tgt := 89) hx hb dX5_raking_19 (by decide) (fun c_229 => ?_) (fun c_229 => absurd c_229 (by decide))
          refine lv_iload hx hb dX5_raking_89 (lv_at hl 1 rfl) ?_
          refine W.widen (k := 0) (n := 0) (Nat.le_of_ble_eq_true rfl) (Nat.le_of_ble_eq_true rfl) ?_
          exact W.iret (v := 0) hx hb hr (fun t ht hW => ⟨⟨0, (), rfl, (z_c_X5_raking_304 x y x_5 x_6 x_116 x_117 x_125 x_126 x_176 x_177 x_185 x_186 x_206 x_207 x_215 x_216 x_221 x_222 hxy ex_5 ex_6 (b_yes h_8 c_9) ex_116 ex_117 ex_125 ex_126 (b_yes h_128 c_129) ex_176 ex_177 ex_185 ex_186 (b_yes h_188 c_189) ex_206 ex_207 ex_215 ex_216 (b_yes h_218 c_219) ex_221 ex_222), trivial⟩, hS.F ht⟩) hS.2.2 dX5_raking_91
theorem z_c_X5_see_305 (ray : Int32) (x : Int32) (y : Int32) (a_0 : (0 ≤ x ∧ x < 8) ∧ (0 ≤ y ∧ y < 6)) (a_1 : ¬ ray = 4) : ((0 : Int32) ≤ x ∧ (x : Int32) < 8) ∧ ((0 : Int32) ≤ y ∧ (y : Int32) < 6) := by grind
theorem z_c_X5_see_306 (ray : Int32) (x : Int32) (y : Int32) (a_0 : (0 ≤ x ∧ x < 8) ∧ (0 ≤ y ∧ y < 6)) (a_1 : ¬ ray = 4) : (0 ≤ x ∧ x < 8) ∧ (0 ≤ y ∧ y < 6) := by grind
theorem z_c_X5_see_307 (ray : Int32) (x : Int32) (y : Int32) (r_4 : Int32) (a_0 : (0 ≤ x ∧ x < 8) ∧ (0 ≤ y ∧ y < 6)) (a_1 : ¬ ray = 4) (a_2 : r_4 = if ray = 0 then 50 else if ray = 2 then -1 else 0) : r_4 = if ray = 0 then 50 else if ray = 2 then -1 else 0 := by grind
theorem z_c_X5_see_308 (ray : Int32) (x : Int32) (y : Int32) (a_0 : (0 ≤ x ∧ x < 8) ∧ (0 ≤ y ∧ y < 6)) (a_1 : ray = 4) : (0 ≤ x ∧ x < 8) ∧ (0 ≤ y ∧ y < 6) := by grind
theorem z_c_X5_see_309 (ray : Int32) (x : Int32) (y : Int32) (a_0 : (0 ≤ x ∧ x < 8) ∧ (0 ≤ y ∧ y < 6)) (a_1 : ray = 4) : (0 : Int32) = if ray = 0 then 50 else if ray = 2 then -1 else 0 := by grind
def wo_c_X5_see_w : List Cond := []
def wo_c_X5_see : List Cond := .code yX5_see cX5_see 4 (some .int) :: (wo_c_X5_see_w ++ (wsV RX5 43 RX5 yX5_at wo_c_at ++ (wsV RX5 47 RX8 yX8_see wo_c_see ++ (wsV RX5 40 RX5 yX5_raking wo_c_X5_raking ++ List.nil))))
theorem gw_wo_c_X5_see : wo_c_X5_see.all goodWord = true := gw_c (by decide +kernel) (gw_a (by decide +kernel) (gw_a (gw_a (by decide +kernel) gw_wo_c_at) (gw_a (gw_a (by decide +kernel) gw_wo_c_see) (gw_a (gw_a (by decide +kernel) gw_wo_c_X5_raking) rfl))))
theorem go_c_X5_see_0 : GoodIn wo_c_X5_see (wsV RX5 43 RX5 yX5_at wo_c_at) := goodIn_sub (fun _ h => List.mem_cons_of_mem _ (List.mem_append_right _ (List.mem_append_left _ h))) (gw_a (by decide +kernel) gw_wo_c_at)
theorem go_c_X5_see_1 : GoodIn wo_c_X5_see (wsV RX5 47 RX8 yX8_see wo_c_see) := goodIn_sub (fun _ h => List.mem_cons_of_mem _ (List.mem_append_right _ (List.mem_append_right _ (List.mem_append_left _ h)))) (gw_a (by decide +kernel) gw_wo_c_see)
theorem go_c_X5_see_2 : GoodIn wo_c_X5_see (wsV RX5 40 RX5 yX5_raking wo_c_X5_raking) := goodIn_sub (fun _ h => List.mem_cons_of_mem _ (List.mem_append_right _ (List.mem_append_right _ (List.mem_append_right _ (List.mem_append_left _ h))))) (gw_a (by decide +kernel) gw_wo_c_X5_raking)
set_option maxHeartbeats 4000000 in
set_option maxRecDepth 100000 in
/-- Picture.see -/
theorem c_X5_see (l : Launch) (dC : Nat → ClassId) (dI : Nat → Nat → Nat) (b0 : Nat) (en : EnT) (sz : Nat) (q st sp ll : Nat) (g : Nat → Option Nat) (cS : ClassId) (N : Nat → Prop) (ray x y : Int32) (hxy : (0 ≤ x ∧ x < 8) ∧ (0 ≤ y ∧ y < 6)) (hNb : ∀ a, N a → b0 ≤ a ∧ a < sz) (hNw : ∀ a, N a → a ∉ List.map Prod.fst ([] : va_W)) (hNr : ∀ a, N a → a ∉ List.map Prod.fst ([(q, .inr (11, [.ref st, .ref sp, .ref ll, .int 0, .int 1600])), (st, .inl (cS, 48, .inr (.inr (.inr (.inr g)))))] : va_W)) : Met l yX5_see wo_c_X5_see ({ frames := 3, cells := 0, slots := 0, locals := 69 } : Room) (cP b0 en (dC, dI) [(cS, .object "Underpaint$Stack")] [] [(q, .inr (11, [.ref st, .ref sp, .ref ll, .int 0, .int 1600])), (st, .inl (cS, 48, .inr (.inr (.inr (.inr g)))))] sz (FamS (dC, dI) N g) [.ref q, .int ray, .int x, .int y]) (va_Qi (fun (r : Int32) (_ : Unit) => r = if ray = 0 then 50 else if ray = 2 then -1 else 0) (fun _ _ => True) (va_A [] sz)) 0 0 (va_A [] sz) := by
  refine Met.ofW (cc := cX5_see) (maxL := 4) (ret := (some .int)) (by decide) rfl ?_
  intro p e s m args below meth c s₁ B hml hv
  obtain ⟨rfl, hsz, hb0, hE, hPP, hK, hDD, hF0⟩ := hv
  have hx := B.exec
  have hb := B.bytes
  have hr := B.returns
  have hts := atoms_spec (ws := wo_c_X5_see) B.pre
  have hown : s.vm.findClass RX5 = some m.cls := findClass_of_methodNamed B.named
  have hlocks := B.notSynchronized
  subst hsz
  have hN0 := en_N hPP hDD rfl
  have hP : va_P (dC, dI) vwCl [] s.heap := hPP.sub [] rfl
  have hR0 : va_P (dC, dI) vwCl [(q, .inr (11, [.ref st, .ref sp, .ref ll, .int 0, .int 1600])), (st, .inl (cS, 48, .inr (.inr (.inr (.inr g)))))] s.heap := hPP.sub [0, 1] rfl
  have hD0 : va_D (fun q => b0 ≤ q) [] := hDD.sub [] (by decide) rfl
  have hDr : va_D (fun q => b0 ≤ q) [(q, .inr (11, [.ref st, .ref sp, .ref ll, .int 0, .int 1600])), (st, .inl (cS, 48, .inr (.inr (.inr (.inr g)))))] := hDD.sub [0, 1] (by decide) rfl
  have hAb := en_A (sz := s.heap.size) hD0 hb0
  have hD := hD0.self (sz := s.heap.size)
  generalize hAe : va_A [] s.heap.size = A at hD hAb hN0 ⊢
  have hA : ∀ q : Nat, s.heap.size ≤ q → A q := fun q h => by rw [← hAe]; exact Or.inr h
  have hS : va_S A s.heap s.heap [] := va_S.rf
  have hR := hR0
  have hl := lv_entry [.ref q, .int ray, .int x, .int y] (n := 4) (Nat.le_of_ble_eq_true rfl)
  rw [lg_entry_eq]
  generalize (lg_sl [.ref q, .int ray, .int x, .int y] ++ List.replicate (4 - (lg_sl [.ref q, .int ray, .int x, .int y]).length) Slot.unset).toArray = ls at hl ⊢
  have hl : lv_has ls 4 [(0, .ref q), (1, .int ray), (2, .int x), (3, .int y)] := hl
  have hR0b := hR0
  have hDrb := hDr
  have hN0b := hN0
  refine lv_iload_n hx hb dX5_see_0 rfl (lv_at hl 1 rfl) ?_
  refine lv_iconst (v := 4) hx hb dX5_see_1 (by decide) ?_
  refine lv_icmp_ne (tgt := 14) hx hb dX5_see_2 (by decide) (fun c_1 => ?_) (fun c_1 => ?_)
  · skip
    refine lv_aload_n hx hb dX5_see_14 rfl (lv_at hl 0 rfl) ?_
    refine lv_iload_n hx hb dX5_see_15 rfl (lv_at hl 2 rfl) ?_
    refine lv_iload_n hx hb dX5_see_16 rfl (lv_at hl 3 rfl) ?_
    have hPc := (hP.app hR).sub (ws' := [] ++ [(q, .inr (11, [.ref st, .ref sp, .ref ll, .int 0, .int 1600])), (st, .inl (cS, 48, .inr (.inr (.inr (.inr g)))))]) [0, 1] rfl
    have hDc := (en_DD hD hDr hN0 hAb).sub (ws' := [] ++ [(q, .inr (11, [.ref st, .ref sp, .ref ll, .int 0, .int 1600])), (st, .inl (cS, 48, .inr (.inr (.inr (.inr g)))))]) [0, 1] (by decide) rfl
    have hKc := hK.sub (tys' := [(cS, .object "Underpaint$Stack")]) [0] rfl
    have hFc := va_free (wc := []) hD hS hA [] rfl
    refine va_callq (va_runV (As := [.int x, .int y]) (rest := []) ⟨hx, hb, hml, hown, hts⟩ (c_at l dC dI b0 en s.heap.size q st sp ll x y g cS (z_c_X5_see_305 ray x y hxy c_1)) (cwV 2 hts go_c_X5_see_0 rfl rfl rfl (by decide +kernel) ⟨Nat.le_of_ble_eq_true rfl, Nat.le_of_ble_eq_true rfl⟩) ⟨cP.blind, va_recv hK hR (ci := 11) (q0 := 0) rfl rfl, cP.use (en_z hb0 hS) (hE.on hAb hS) hPc hKc hDc trivial⟩ rfl rfl hl.1 rfl (lv_room (Nat.le_of_ble_eq_true rfl)) dX5_see_17 ⟨Nat.le_of_ble_eq_true rfl, Nat.le_of_ble_eq_true rfl⟩) hS (fun q _ h => hFc q h) hFc (fun r_2 u t H1 locs ht hvm hw hB hz1 hk1 hS => ?_)
    have hP1 : va_P (dC, dI) vwCl [] H1 := fun k q h => by simp at h
    have hD1 : va_D (va_A [] s.heap.size) [] := ⟨fun i j p q h => by simp at h, fun k q h => by simp at h⟩
    try dsimp only at hw
    obtain ⟨hP, hD⟩ := va_join (wr := []) (w1 := []) hP hD [] [] rfl rfl (by decide) (by decide) hk1 hFc hP1 hD1
    generalize H1 = H at hP hS ⊢
    have hP : va_P (dC, dI) vwCl [] H := hP
    have hD : va_D A [] := hD
    have hR := en_R hR0 hN0 hS
    refine W.widen (k := 0) (n := 0) (Nat.le_of_ble_eq_true rfl) (Nat.le_of_ble_eq_true rfl) ?_
    subst r_2
    obtain ⟨ap_3, rp_3, hgp_3, hup_3, hnp_3⟩ := hF0 (pidx x y) (pidx_lt (z_c_X5_see_306 ray x y hxy c_1))
    refine lv_topv (w := .ref ap_3) (by rw [hgp_3]; rfl) ?_
    have hxp_3 : ¬ A ap_3 := by rw [← hAe]; exact vA0 hup_3.lt
    refine lv_iload_n hx hb dX5_see_20 rfl (lv_at hl 1 rfl) ?_
    have hR0 : va_P (dC, dI) vwCl [(q, .inr (11, [.ref st, .ref sp, .ref ll, .int 0, .int 1600])), (st, .inl (cS, 48, .inr (.inr (.inr (.inr g))))), (ap_3, .inr (14, [.ref rp_3, .int 0, .int 0]))] s.heap := (hR0b.app (va1 hup_3))
    have hDr : va_D (fun q => b0 ≤ q) [(q, .inr (11, [.ref st, .ref sp, .ref ll, .int 0, .int 1600])), (st, .inl (cS, 48, .inr (.inr (.inr (.inr g))))), (ap_3, .inr (14, [.ref rp_3, .int 0, .int 0]))] := (vD_push hDrb (hNb ap_3 hnp_3).1 (nR (hNr ap_3 hnp_3)))
    have hN0 : ∀ (k9 : Nat) (q9 : Nat × va_E), [(q, .inr (11, [.ref st, .ref sp, .ref ll, .int 0, .int 1600])), (st, .inl (cS, 48, .inr (.inr (.inr (.inr g))))), (ap_3, .inr (14, [.ref rp_3, .int 0, .int 0]))][k9]? = some q9 → ¬ A q9.1 := (vN_push hN0b hxp_3)
    have hR : va_P (dC, dI) vwCl [(q, .inr (11, [.ref st, .ref sp, .ref ll, .int 0, .int 1600])), (st, .inl (cS, 48, .inr (.inr (.inr (.inr g))))), (ap_3, .inr (14, [.ref rp_3, .int 0, .int 0]))] H := en_R hR0 hN0 hS
    have hPc := (hP.app hR).sub (ws' := [] ++ [(ap_3, .inr (14, [.ref rp_3, .int 0, .int 0]))]) [2] rfl
    have hDc := (en_DD hD hDr hN0 hAb).sub (ws' := [] ++ [(ap_3, .inr (14, [.ref rp_3, .int 0, .int 0]))]) [2] (by decide) rfl
    have hKc := hK.sub (tys' := []) [] rfl
    have hFc := va_free (wc := []) hD hS hA [] rfl
    refine va_calli (va_runV (As := [.int ray]) (rest := []) ⟨hx, hb, hml, hown, hts⟩ (c_see l dC dI b0 en H.size ap_3 rp_3 ray) (cwV 1 hts go_c_X5_see_1 rfl rfl rfl (by decide +kernel) ⟨Nat.le_of_ble_eq_true rfl, Nat.le_of_ble_eq_true rfl⟩) ⟨cP.blind, va_recv hK hR (ci := 14) (q0 := 2) rfl rfl, cP.use (en_z hb0 hS) (hE.on hAb hS) hPc hKc hDc trivial⟩ rfl rfl hl.1 rfl (lv_room (Nat.le_of_ble_eq_true rfl)) dX5_see_21 ⟨Nat.le_of_ble_eq_true rfl, Nat.le_of_ble_eq_true rfl⟩) hS (fun q _ h => hFc q h) hFc (fun r_4 u t H1 locs ht hvm hw hB hz1 hk1 hS => ?_)
    have hP1 : va_P (dC, dI) vwCl [] H1 := fun k q h => by simp at h
    have hD1 : va_D (va_A [] H.size) [] := ⟨fun i j p q h => by simp at h, fun k q h => by simp at h⟩
    try dsimp only at hw
    obtain ⟨hP, hD⟩ := va_join (wr := []) (w1 := []) hP hD [] [] rfl rfl (by decide) (by decide) hk1 hFc hP1 hD1
    generalize H1 = H at hP hS ⊢
    have hP : va_P (dC, dI) vwCl [] H := hP
    have hD : va_D A [] := hD
    have hR := en_R hR0 hN0 hS
    refine W.widen (k := 0) (n := 0) (Nat.le_of_ble_eq_true rfl) (Nat.le_of_ble_eq_true rfl) ?_
    have h_5 := hw
    refine W.widen (k := 0) (n := 0) (Nat.le_of_ble_eq_true rfl) (Nat.le_of_ble_eq_true rfl) ?_
    exact W.iret (v := r_4) hx hb hr (fun t ht hW => ⟨⟨r_4, (), rfl, (z_c_X5_see_307 ray x y r_4 hxy c_1 h_5), trivial⟩, hS.F ht⟩) hS.2.2 dX5_see_24
  · skip
    refine lv_aload_n hx hb dX5_see_5 rfl (lv_at hl 0 rfl) ?_
    refine lv_iload_n hx hb dX5_see_6 rfl (lv_at hl 2 rfl) ?_
    refine lv_iload_n hx hb dX5_see_7 rfl (lv_at hl 3 rfl) ?_
    have hPc := (hP.app hR).sub (ws' := [] ++ [(q, .inr (11, [.ref st, .ref sp, .ref ll, .int 0, .int 1600])), (st, .inl (cS, 48, .inr (.inr (.inr (.inr g)))))]) [0, 1] rfl
    have hDc := (en_DD hD hDr hN0 hAb).sub (ws' := [] ++ [(q, .inr (11, [.ref st, .ref sp, .ref ll, .int 0, .int 1600])), (st, .inl (cS, 48, .inr (.inr (.inr (.inr g)))))]) [0, 1] (by decide) rfl
    have hKc := hK.sub (tys' := [(cS, .object "Underpaint$Stack")]) [0] rfl
    have hFc := va_free (wc := []) hD hS hA [] rfl
    refine va_calli (va_runV (As := [.int x, .int y]) (rest := []) ⟨hx, hb, hml, hown, hts⟩ (c_X5_raking l dC dI b0 en s.heap.size q st sp ll g cS N x y (z_c_X5_see_308 ray x y hxy c_1) (fun a9 h9 => ⟨(hNb a9 h9).1, Nat.lt_of_lt_of_le (hNb a9 h9).2 hS.1⟩) (fun a9 h9 z9 => by have g1 := hNw a9 h9; have g2 := hNr a9 h9; have g3 := (hNb a9 h9).2; simp only [List.map_cons, List.map_nil, List.mem_cons, List.not_mem_nil, or_false, not_or] at g1 g2 z9 <;> omega) (fun a9 h9 z9 => by have g1 := hNw a9 h9; have g2 := hNr a9 h9; have g3 := (hNb a9 h9).2; simp only [List.map_cons, List.map_nil, List.mem_cons, List.not_mem_nil, or_false, not_or] at g1 g2 z9 <;> omega)) (cwV 2 hts go_c_X5_see_2 rfl rfl rfl (by decide +kernel) ⟨Nat.le_of_ble_eq_true rfl, Nat.le_of_ble_eq_true rfl⟩) ⟨cP.blind, va_recv hK hR (ci := 11) (q0 := 0) rfl rfl, cP.use (en_z hb0 hS) (hE.on hAb hS) hPc hKc hDc (hF0.on (fun a9 h8 h9 => by rw [← hAe]; exact vA0 h8) hS)⟩ rfl rfl hl.1 rfl (lv_room (Nat.le_of_ble_eq_true rfl)) dX5_see_8 ⟨Nat.le_of_ble_eq_true rfl, Nat.le_of_ble_eq_true rfl⟩) hS (fun q _ h => hFc q h) hFc (fun r_6 u t H1 locs ht hvm hw hB hz1 hk1 hS => ?_)
    have hP1 : va_P (dC, dI) vwCl [] H1 := fun k q h => by simp at h
    have hD1 : va_D (va_A [] s.heap.size) [] := ⟨fun i j p q h => by simp at h, fun k q h => by simp at h⟩
    try dsimp only at hw
    obtain ⟨hP, hD⟩ := va_join (wr := []) (w1 := []) hP hD [] [] rfl rfl (by decide) (by decide) hk1 hFc hP1 hD1
    generalize H1 = H at hP hS ⊢
    have hP : va_P (dC, dI) vwCl [] H := hP
    have hD : va_D A [] := hD
    have hR := en_R hR0 hN0 hS
    refine W.widen (k := 0) (n := 0) (Nat.le_of_ble_eq_true rfl) (Nat.le_of_ble_eq_true rfl) ?_
    subst r_6
    refine lv_goto (tgt := 24) hx hb dX5_see_11 (by decide) ?_
    refine W.widen (k := 0) (n := 0) (Nat.le_of_ble_eq_true rfl) (Nat.le_of_ble_eq_true rfl) ?_
    exact W.iret (v := 0) hx hb hr (fun t ht hW => ⟨⟨0, (), rfl, (z_c_X5_see_309 ray x y hxy c_1), trivial⟩, hS.F ht⟩) hS.2.2 dX5_see_24
theorem z_c_X11_view_310 (ray : Int32) (x : Int32) (y : Int32) (a_0 : ¬ (0 ≤ ixL 1 ray ∧ ((0 ≤ x ∧ x < 8) ∧ (0 ≤ y ∧ y < 6)))) : ¬ (0 ≤ ixL 1 ray ∧ ((0 ≤ x ∧ x < 8) ∧ (0 ≤ y ∧ y < 6))) := by grind
theorem z_c_X11_view_311 (ray : Int32) (x : Int32) (y : Int32) (a_0 : 0 ≤ ixL 1 ray ∧ ((0 ≤ x ∧ x < 8) ∧ (0 ≤ y ∧ y < 6))) : 1 < 6 := by grind
theorem z_c_X11_view_312 (ray : Int32) (x : Int32) (y : Int32) (a_0 : 0 ≤ ixL 1 ray ∧ ((0 ≤ x ∧ x < 8) ∧ (0 ≤ y ∧ y < 6))) : (0 ≤ x ∧ x < 8) ∧ (0 ≤ y ∧ y < 6) := by grind
theorem z_c_X11_view_313 (ray : Int32) (x : Int32) (y : Int32) (r_4 : Int32) (a_0 : 0 ≤ ixL 1 ray ∧ ((0 ≤ x ∧ x < 8) ∧ (0 ≤ y ∧ y < 6))) (a_1 : r_4 = if (ixL 1 ray) = 0 then 50 else if (ixL 1 ray) = 2 then -1 else 0) : (r_4 = if ixL 1 ray = 0 then 50 else if ixL 1 ray = 2 then -1 else 0) ∧ 0 ≤ ixL 1 ray ∧ ((0 ≤ x ∧ x < 8) ∧ (0 ≤ y ∧ y < 6)) := by grind
set_option maxRecDepth 100000 in
theorem gw_wsJ0_indexOf_0f7a4 : wsJ0_indexOf_0f7a4.all goodWord = true := by decide +kernel
set_option maxRecDepth 100000 in
theorem gw_wsX11_demandRayAndPlace : wsX11_demandRayAndPlace.all goodWord = true := by decide +kernel
def wo_c_X11_view_w : List Cond := [Cond.fieldLink RX11 62 "Underpaint" "picture" "LUnderpaint$Picture;"]
def wo_c_X11_view : List Cond := .code yX11_view cX11_view 4 (some .int) :: (wo_c_X11_view_w ++ (u_ws RX11 TX11 14 ++ (va_wsS RX11 212 yX11_demandRayAndPlace wsX11_demandRayAndPlace ++ (wsV RX11 81 RJ0 yJ0_indexOf_0f7a4 wsJ0_indexOf_0f7a4 ++ (wsV RX11 218 RX5 yX5_see wo_c_X5_see ++ List.nil)))))
theorem gw_wo_c_X11_view : wo_c_X11_view.all goodWord = true := gw_c (by decide +kernel) (gw_a (by decide +kernel) (gw_a (by decide +kernel) (gw_a (gw_a (by decide +kernel) gw_wsX11_demandRayAndPlace) (gw_a (gw_a (by decide +kernel) gw_wsJ0_indexOf_0f7a4) (gw_a (gw_a (by decide +kernel) gw_wo_c_X5_see) rfl)))))
theorem go_c_X11_view_0 : GoodIn wo_c_X11_view (va_wsS RX11 212 yX11_demandRayAndPlace wsX11_demandRayAndPlace) := goodIn_sub (fun _ h => List.mem_cons_of_mem _ (List.mem_append_right _ (List.mem_append_right _ (List.mem_append_left _ h)))) (gw_a (by decide +kernel) gw_wsX11_demandRayAndPlace)
theorem go_c_X11_view_1 : GoodIn wo_c_X11_view (wsV RX11 81 RJ0 yJ0_indexOf_0f7a4 wsJ0_indexOf_0f7a4) := goodIn_sub (fun _ h => List.mem_cons_of_mem _ (List.mem_append_right _ (List.mem_append_right _ (List.mem_append_right _ (List.mem_append_left _ h))))) (gw_a (by decide +kernel) gw_wsJ0_indexOf_0f7a4)
theorem go_c_X11_view_2 : GoodIn wo_c_X11_view (wsV RX11 218 RX5 yX5_see wo_c_X5_see) := goodIn_sub (fun _ h => List.mem_cons_of_mem _ (List.mem_append_right _ (List.mem_append_right _ (List.mem_append_right _ (List.mem_append_right _ (List.mem_append_left _ h)))))) (gw_a (by decide +kernel) gw_wo_c_X5_see)
set_option maxHeartbeats 4000000 in
set_option maxRecDepth 100000 in
theorem c_X11_view (l : Launch) (hst : l.stackTraces = false) (dC : Nat → ClassId) (dI : Nat → Nat → Nat) (b0 : Nat) (en : EnT) (sz : Nat) (h pal she fil nte dat vot loa nos pic spa : Nat) (st sp ll : Nat) (g : Nat → Option Nat) (cS : ClassId) (N : Nat → Prop) (ray x y : Int32) (hNb : ∀ a, N a → b0 ≤ a ∧ a < sz) (hNw : ∀ a, N a → a ∉ List.map Prod.fst ([] : va_W)) (hNr : ∀ a, N a → a ∉ List.map Prod.fst ([(h, .inr (17, [.ref pal, .ref she, .ref fil, .ref nte, .ref dat, .ref vot, .ref loa, .ref nos, .ref pic, .ref spa, .int 5, .int 50, .int 1600, .int 0])), (pic, .inr (11, [.ref st, .ref sp, .ref ll, .int 0, .int 1600])), (st, .inl (cS, 48, .inr (.inr (.inr (.inr g)))))] : va_W)) : vx_Met l yX11_view wo_c_X11_view ({ frames := 7, cells := 1, slots := 6, locals := 153 } : Room) (cP b0 en (dC, dI) [(cS, .object "Underpaint$Stack")] [] [(h, .inr (17, [.ref pal, .ref she, .ref fil, .ref nte, .ref dat, .ref vot, .ref loa, .ref nos, .ref pic, .ref spa, .int 5, .int 50, .int 1600, .int 0])), (pic, .inr (11, [.ref st, .ref sp, .ref ll, .int 0, .int 1600])), (st, .inl (cS, 48, .inr (.inr (.inr (.inr g)))))] sz (FamS (dC, dI) N g) [.ref h, .int ray, .int x, .int y]) (va_Qi (fun (r : Int32) (_ : Unit) => (r = if ixL 1 ray = 0 then 50 else if ixL 1 ray = 2 then -1 else 0) ∧ 0 ≤ ixL 1 ray ∧ ((0 ≤ x ∧ x < 8) ∧ (0 ≤ y ∧ y < 6))) (fun _ _ => True) (va_A [] sz)) (vx_X (fun _ : Unit => True) (fun E _ _ => (E = "java/lang/IllegalArgumentException" ∧ ¬ (0 ≤ ixL 1 ray ∧ ((0 ≤ x ∧ x < 8) ∧ (0 ≤ y ∧ y < 6))))) (va_A [] sz)) 1 6 (va_A [] sz) := by
  refine vx_ofW (cc := cX11_view) (maxL := 4) (ret := (some .int)) (by decide) rfl ?_
  intro p e s m args below meth c s₁ B hml hext hv
  obtain ⟨rfl, hsz, hb0, hE, hPP, hK, hDD, hF0⟩ := hv
  have hx := B.exec
  have hb := B.bytes
  have hr := B.returns
  have hts := atoms_spec (ws := wo_c_X11_view) B.pre
  have hown : s.vm.findClass RX11 = some m.cls := findClass_of_methodNamed B.named
  have hlocks := B.notSynchronized
  subst hsz
  have hN0 := en_N hPP hDD rfl
  have hP : va_P (dC, dI) vwCl [] s.heap := hPP.sub [] rfl
  have hR0 : va_P (dC, dI) vwCl [(h, .inr (17, [.ref pal, .ref she, .ref fil, .ref nte, .ref dat, .ref vot, .ref loa, .ref nos, .ref pic, .ref spa, .int 5, .int 50, .int 1600, .int 0])), (pic, .inr (11, [.ref st, .ref sp, .ref ll, .int 0, .int 1600])), (st, .inl (cS, 48, .inr (.inr (.inr (.inr g)))))] s.heap := hPP.sub [0, 1, 2] rfl
  have hD0 : va_D (fun q => b0 ≤ q) [] := hDD.sub [] (by decide) rfl
  have hDr : va_D (fun q => b0 ≤ q) [(h, .inr (17, [.ref pal, .ref she, .ref fil, .ref nte, .ref dat, .ref vot, .ref loa, .ref nos, .ref pic, .ref spa, .int 5, .int 50, .int 1600, .int 0])), (pic, .inr (11, [.ref st, .ref sp, .ref ll, .int 0, .int 1600])), (st, .inl (cS, 48, .inr (.inr (.inr (.inr g)))))] := hDD.sub [0, 1, 2] (by decide) rfl
  have hAb := en_A (sz := s.heap.size) hD0 hb0
  have hD := hD0.self (sz := s.heap.size)
  generalize hAe : va_A [] s.heap.size = A at hD hAb hN0 ⊢
  have hA : ∀ q : Nat, s.heap.size ≤ q → A q := fun q h => by rw [← hAe]; exact Or.inr h
  have hS : va_S A s.heap s.heap [] := va_S.rf
  have hR := hR0
  have hl := lv_entry [.ref h, .int ray, .int x, .int y] (n := 4) (Nat.le_of_ble_eq_true rfl)
  rw [lg_entry_eq]
  generalize (lg_sl [.ref h, .int ray, .int x, .int y] ++ List.replicate (4 - (lg_sl [.ref h, .int ray, .int x, .int y]).length) Slot.unset).toArray = ls at hl ⊢
  have hl : lv_has ls 4 [(0, .ref h), (1, .int ray), (2, .int x), (3, .int y)] := hl
  have hR0b := hR0
  have hDrb := hDr
  have hN0b := hN0
  refine lv_iload_n hx hb dX11_view_0 rfl (lv_at hl 1 rfl) ?_
  refine lv_iload_n hx hb dX11_view_1 rfl (lv_at hl 2 rfl) ?_
  refine lv_iload_n hx hb dX11_view_2 rfl (lv_at hl 3 rfl) ?_
  have hPc := (hP.app hR).sub (ws' := [] ++ []) [] rfl
  have hDc := (en_DD hD hDr hN0 hAb).sub (ws' := [] ++ []) [] (by decide) rfl
  have hKc := hK.sub (tys' := []) [] rfl
  have hFc := va_free (wc := []) hD hS hA [] rfl
  refine vx_callv (vx_runS (As := [.int ray, .int x, .int y]) (rest := []) ⟨hx, hb, hml, hown, hts⟩ (c_X11_demandRayAndPlace l hst dC dI b0 en s.heap.size ray x y) (va_cwS 3 hts go_c_X11_view_0 rfl rfl rfl (by decide +kernel) ⟨Nat.le_of_ble_eq_true rfl, Nat.le_of_ble_eq_true rfl⟩) ⟨cP.blind, cP.use (en_z hb0 hS) (hE.on hAb hS) hPc hKc hDc trivial⟩ rfl rfl hl.1 rfl (lv_room (Nat.le_of_ble_eq_true rfl)) dX11_view_3 ⟨Nat.le_of_ble_eq_true rfl, Nat.le_of_ble_eq_true rfl⟩) hS (fun q _ h => hFc q h) hFc (fun q _ h => hFc q h) (fun E ce q9 u t H1 locs ht hvm hpx hBX hz1 hk1 hS hce hcv hcl => ?_) (fun u t H1 locs ht hvm hw hB hz1 hk1 hS => ?_)
  · skip
    try dsimp only at hBX
    obtain ⟨rfl, hc⟩ := hBX
    refine vx_widen (k := 1) (n := 6) (Nat.le_of_ble_eq_true rfl) (Nat.le_of_ble_eq_true rfl) ?_
    exact vx_out (fun x hx => (hext x hx).elim) hlocks hce hcv hcl (fun t ht hW => ⟨(), trivial, ⟨rfl, (z_c_X11_view_310 ray x y hc)⟩, hS.F ht⟩) hS.2.2 (Nat.le_refl _) (Nat.le_refl _)
  have hP1 : va_P (dC, dI) vwCl [] H1 := fun k q h => by simp at h
  have hD1 : va_D (va_A [] s.heap.size) [] := ⟨fun i j p q h => by simp at h, fun k q h => by simp at h⟩
  try dsimp only at hw
  obtain ⟨hP, hD⟩ := va_join (wr := []) (w1 := []) hP hD [] [] rfl rfl (by decide) (by decide) hk1 hFc hP1 hD1
  generalize H1 = H at hP hS ⊢
  have hP : va_P (dC, dI) vwCl [] H := hP
  have hD : va_D A [] := hD
  have hR := en_R hR0 hN0 hS
  refine W.widen (k := 1) (n := 6) (Nat.le_of_ble_eq_true rfl) (Nat.le_of_ble_eq_true rfl) ?_
  have h_2 := hw
  refine lv_aload_n hx hb dX11_view_6 rfl (lv_at hl 0 rfl) ?_
  refine va_get (D := (dC, dI)) (ci := 17) (v := .ref pic) (C := RX11) (T := TX11) (N := 14) hx hb hts (by decide +kernel) hown hK hR 0 rfl rfl 8 (by decide) (hts (.fieldLink RX11 62 "Underpaint" "picture" "LUnderpaint$Picture;") (by decide +kernel)) (fun _ h9 => h9) rfl dX11_view_7 ?_
  refine va_ldcS hx hb hown (hE.ldc (1, "Underpaint", 216, "pwhlr") (by decide +kernel)) dX11_view_10 ?_
  refine lv_iload_n hx hb dX11_view_12 rfl (lv_at hl 1 rfl) ?_
  have hPc := (hP.app hR).sub (ws' := [] ++ []) [] rfl
  have hDc := (en_DD hD hDr hN0 hAb).sub (ws' := [] ++ []) [] (by decide) rfl
  have hKc := hK.sub (tys' := []) [] rfl
  have hFc := va_free (wc := []) hD hS hA [] rfl
  refine va_calli (va_runV (As := [.int ray]) (rest := [.ref pic]) ⟨hx, hb, hml, hown, hts⟩ (c_J0_indexOf l dC dI b0 en H.size 1 ray (z_c_X11_view_311 ray x y h_2)) (cwV 1 hts go_c_X11_view_1 rfl rfl rfl (by decide +kernel) ⟨Nat.le_of_ble_eq_true rfl, Nat.le_of_ble_eq_true rfl⟩) ⟨cP.blind, (en_recv (hE.lit hAb 1 (by decide)).1 hS), cP.use (en_z hb0 hS) (hE.on hAb hS) hPc hKc hDc trivial⟩ rfl rfl hl.1 rfl (lv_room (Nat.le_of_ble_eq_true rfl)) dX11_view_13 ⟨Nat.le_of_ble_eq_true rfl, Nat.le_of_ble_eq_true rfl⟩) hS (fun q _ h => hFc q h) hFc (fun r_3 u t H1 locs ht hvm hw hB hz1 hk1 hS => ?_)
  have hP1 : va_P (dC, dI) vwCl [] H1 := fun k q h => by simp at h
  have hD1 : va_D (va_A [] H.size) [] := ⟨fun i j p q h => by simp at h, fun k q h => by simp at h⟩
  try dsimp only at hw
  obtain ⟨hP, hD⟩ := va_join (wr := []) (w1 := []) hP hD [] [] rfl rfl (by decide) (by decide) hk1 hFc hP1 hD1
  generalize H1 = H at hP hS ⊢
  have hP : va_P (dC, dI) vwCl [] H := hP
  have hD : va_D A [] := hD
  have hR := en_R hR0 hN0 hS
  refine W.widen (k := 1) (n := 6) (Nat.le_of_ble_eq_true rfl) (Nat.le_of_ble_eq_true rfl) ?_
  subst r_3
  refine lv_iload_n hx hb dX11_view_16 rfl (lv_at hl 2 rfl) ?_
  refine lv_iload_n hx hb dX11_view_17 rfl (lv_at hl 3 rfl) ?_
  have hPc := (hP.app hR).sub (ws' := [] ++ [(pic, .inr (11, [.ref st, .ref sp, .ref ll, .int 0, .int 1600])), (st, .inl (cS, 48, .inr (.inr (.inr (.inr g)))))]) [1, 2] rfl
  have hDc := (en_DD hD hDr hN0 hAb).sub (ws' := [] ++ [(pic, .inr (11, [.ref st, .ref sp, .ref ll, .int 0, .int 1600])), (st, .inl (cS, 48, .inr (.inr (.inr (.inr g)))))]) [1, 2] (by decide) rfl
  have hKc := hK.sub (tys' := [(cS, .object "Underpaint$Stack")]) [0] rfl
  have hFc := va_free (wc := []) hD hS hA [] rfl
  refine va_calli (va_runV (As := [.int (ixL 1 ray), .int x, .int y]) (rest := []) ⟨hx, hb, hml, hown, hts⟩ (c_X5_see l dC dI b0 en H.size pic st sp ll g cS N (ixL 1 ray) x y (z_c_X11_view_312 ray x y h_2) (fun a9 h9 => ⟨(hNb a9 h9).1, Nat.lt_of_lt_of_le (hNb a9 h9).2 hS.1⟩) (fun a9 h9 z9 => by have g1 := hNw a9 h9; have g2 := hNr a9 h9; have g3 := (hNb a9 h9).2; simp only [List.map_cons, List.map_nil, List.mem_cons, List.not_mem_nil, or_false, not_or] at g1 g2 z9 <;> omega) (fun a9 h9 z9 => by have g1 := hNw a9 h9; have g2 := hNr a9 h9; have g3 := (hNb a9 h9).2; simp only [List.map_cons, List.map_nil, List.mem_cons, List.not_mem_nil, or_false, not_or] at g1 g2 z9 <;> omega)) (cwV 3 hts go_c_X11_view_2 rfl rfl rfl (by decide +kernel) ⟨Nat.le_of_ble_eq_true rfl, Nat.le_of_ble_eq_true rfl⟩) ⟨cP.blind, va_recv hK hR (ci := 11) (q0 := 1) rfl rfl, cP.use (en_z hb0 hS) (hE.on hAb hS) hPc hKc hDc (hF0.on (fun a9 h8 h9 => by rw [← hAe]; exact vA1 h8 (hNw a9 h9)) hS)⟩ rfl rfl hl.1 rfl (lv_room (Nat.le_of_ble_eq_true rfl)) dX11_view_18 ⟨Nat.le_of_ble_eq_true rfl, Nat.le_of_ble_eq_true rfl⟩) hS (fun q _ h => hFc q h) hFc (fun r_4 u t H1 locs ht hvm hw hB hz1 hk1 hS => ?_)
  have hP1 : va_P (dC, dI) vwCl [] H1 := fun k q h => by simp at h
  have hD1 : va_D (va_A [] H.size) [] := ⟨fun i j p q h => by simp at h, fun k q h => by simp at h⟩
  try dsimp only at hw
  obtain ⟨hP, hD⟩ := va_join (wr := []) (w1 := []) hP hD [] [] rfl rfl (by decide) (by decide) hk1 hFc hP1 hD1
  generalize H1 = H at hP hS ⊢
  have hP : va_P (dC, dI) vwCl [] H := hP
  have hD : va_D A [] := hD
  have hR := en_R hR0 hN0 hS
  refine W.widen (k := 1) (n := 6) (Nat.le_of_ble_eq_true rfl) (Nat.le_of_ble_eq_true rfl) ?_
  have h_5 := hw
  refine W.widen (k := 1) (n := 6) (Nat.le_of_ble_eq_true rfl) (Nat.le_of_ble_eq_true rfl) ?_
  refine vx_ret ?_
  exact W.iret (v := r_4) hx hb hr (fun t ht hW => ⟨⟨r_4, (), rfl, (z_c_X11_view_313 ray x y r_4 h_2 h_5), trivial⟩, hS.F ht⟩) hS.2.2 dX11_view_21
