theorem dJx4a65c_isEmpty_aae02_0 : decode cJx4a65c_isEmpty_aae02 0 = .ok (.aload_n 0, 1) := by decide +kernel
theorem dJx4a65c_isEmpty_aae02_1 : decode cJx4a65c_isEmpty_aae02 1 = .ok (.getfield 48, 3) := by decide +kernel
theorem dJx4a65c_isEmpty_aae02_4 : decode cJx4a65c_isEmpty_aae02 4 = .ok (.ifCond .ne 7, 3) := by decide +kernel
theorem dJx4a65c_isEmpty_aae02_7 : decode cJx4a65c_isEmpty_aae02 7 = .ok (.iconst 1, 1) := by decide +kernel
theorem dJx4a65c_isEmpty_aae02_8 : decode cJx4a65c_isEmpty_aae02 8 = .ok (.goto 4, 3) := by decide +kernel
theorem dJx4a65c_isEmpty_aae02_12 : decode cJx4a65c_isEmpty_aae02 12 = .ok (.ireturn, 1) := by decide +kernel
theorem dJx4a65c_isEmpty_aae02_11 : decode cJx4a65c_isEmpty_aae02 11 = .ok (.iconst 0, 1) := by decide +kernel
theorem dJxa1e45_init_da8c8_0 : decode cJxa1e45_init_da8c8 0 = .ok (.aload_n 0, 1) := by decide +kernel
theorem dJxa1e45_init_da8c8_1 : decode cJxa1e45_init_da8c8 1 = .ok (.invokespecial 1, 3) := by decide +kernel
theorem dJxa1e45_init_da8c8_4 : decode cJxa1e45_init_da8c8 4 = .ok (.return_, 1) := by decide +kernel
theorem dJxc12de_init_da8c8_0 : decode cJxc12de_init_da8c8 0 = .ok (.aload_n 0, 1) := by decide +kernel
set_option maxRecDepth 20000 in
theorem ggJxc12de_init_da8c8_Jxa1e45_init_da8c8 : GoodIn wsJxc12de_init_da8c8 wsJxa1e45_init_da8c8 := goodIn_r _ [5, 6, 7, 8] (by decide +kernel) (by decide +kernel)
set_option maxRecDepth 20000 in
theorem gJxc12de_init_da8c8_Jxa1e45_init_da8c8 : GoodIn wsJxc12de_init_da8c8 (wsJxa1e45_init_da8c8) := ggJxc12de_init_da8c8_Jxa1e45_init_da8c8
theorem dJxc12de_init_da8c8_1 : decode cJxc12de_init_da8c8 1 = .ok (.invokespecial 1, 3) := by decide +kernel
theorem dJxc12de_init_da8c8_4 : decode cJxc12de_init_da8c8 4 = .ok (.aload_n 0, 1) := by decide +kernel
theorem dJxc12de_init_da8c8_5 : decode cJxc12de_init_da8c8 5 = .ok (.iconst 0, 1) := by decide +kernel
theorem dJxc12de_init_da8c8_6 : decode cJxc12de_init_da8c8 6 = .ok (.putfield 7, 3) := by decide +kernel
theorem dJxc12de_init_da8c8_9 : decode cJxc12de_init_da8c8 9 = .ok (.return_, 1) := by decide +kernel
theorem dJx4a65c_init_da8c8_0 : decode cJx4a65c_init_da8c8 0 = .ok (.aload_n 0, 1) := by decide +kernel
set_option maxRecDepth 20000 in
theorem ggJx4a65c_init_da8c8_Jxc12de_init_da8c8 : GoodIn wsJx4a65c_init_da8c8 wsJxc12de_init_da8c8 := goodIn_r _ [6, 7, 8, 9, 10, 11, 12, 13, 14, 15, 16, 17] (by decide +kernel) (by decide +kernel)
set_option maxRecDepth 20000 in
theorem gJx4a65c_init_da8c8_Jxc12de_init_da8c8 : GoodIn wsJx4a65c_init_da8c8 (wsJxc12de_init_da8c8) := ggJx4a65c_init_da8c8_Jxc12de_init_da8c8
theorem dJx4a65c_init_da8c8_1 : decode cJx4a65c_init_da8c8 1 = .ok (.invokespecial 1, 3) := by decide +kernel
theorem dJx4a65c_init_da8c8_4 : decode cJx4a65c_init_da8c8 4 = .ok (.aload_n 0, 1) := by decide +kernel
theorem dJx4a65c_init_da8c8_5 : decode cJx4a65c_init_da8c8 5 = .ok (.getstatic 39, 3) := by decide +kernel
theorem dJx4a65c_init_da8c8_8 : decode cJx4a65c_init_da8c8 8 = .ok (.putfield 9, 3) := by decide +kernel
theorem dJx4a65c_init_da8c8_11 : decode cJx4a65c_init_da8c8 11 = .ok (.return_, 1) := by decide +kernel
theorem dJx35411_init_45d68_0 : decode cJx35411_init_45d68 0 = .ok (.aload_n 0, 1) := by decide +kernel
theorem dJx35411_init_45d68_1 : decode cJx35411_init_45d68 1 = .ok (.aload_n 1, 1) := by decide +kernel
theorem dJx35411_init_45d68_2 : decode cJx35411_init_45d68 2 = .ok (.putfield 1, 3) := by decide +kernel
theorem dJx35411_init_45d68_5 : decode cJx35411_init_45d68 5 = .ok (.aload_n 0, 1) := by decide +kernel
theorem dJx35411_init_45d68_6 : decode cJx35411_init_45d68 6 = .ok (.invokespecial 7, 3) := by decide +kernel
theorem dJx35411_init_45d68_9 : decode cJx35411_init_45d68 9 = .ok (.aload_n 0, 1) := by decide +kernel
theorem dJx35411_init_45d68_10 : decode cJx35411_init_45d68 10 = .ok (.iconst (-1), 1) := by decide +kernel
theorem dJx35411_init_45d68_11 : decode cJx35411_init_45d68 11 = .ok (.putfield 13, 3) := by decide +kernel
theorem dJx35411_init_45d68_14 : decode cJx35411_init_45d68 14 = .ok (.aload_n 0, 1) := by decide +kernel
theorem dJx35411_init_45d68_15 : decode cJx35411_init_45d68 15 = .ok (.aload_n 0, 1) := by decide +kernel
theorem dJx35411_init_45d68_16 : decode cJx35411_init_45d68 16 = .ok (.getfield 1, 3) := by decide +kernel
theorem dJx35411_init_45d68_19 : decode cJx35411_init_45d68 19 = .ok (.getfield 17, 3) := by decide +kernel
theorem dJx35411_init_45d68_22 : decode cJx35411_init_45d68 22 = .ok (.putfield 22, 3) := by decide +kernel
theorem dJx35411_init_45d68_25 : decode cJx35411_init_45d68 25 = .ok (.return_, 1) := by decide +kernel
theorem dJx4a65c_iterator_32c93_0 : decode cJx4a65c_iterator_32c93 0 = .ok (.new 267, 3) := by decide +kernel
theorem dJx4a65c_iterator_32c93_3 : decode cJx4a65c_iterator_32c93 3 = .ok (.dup, 1) := by decide +kernel
theorem dJx4a65c_iterator_32c93_4 : decode cJx4a65c_iterator_32c93 4 = .ok (.aload_n 0, 1) := by decide +kernel
set_option maxRecDepth 20000 in
theorem ggJx4a65c_iterator_32c93_Jx35411_init_45d68 : GoodIn wsJx4a65c_iterator_32c93 wsJx35411_init_45d68 := goodIn_r _ [6, 7, 8, 9, 10, 11, 12, 13, 14, 15, 16, 17, 18, 19, 20, 21] (by decide +kernel) (by decide +kernel)
set_option maxRecDepth 20000 in
theorem gJx4a65c_iterator_32c93_Jx35411_init_45d68 : GoodIn wsJx4a65c_iterator_32c93 (wsJx35411_init_45d68) := ggJx4a65c_iterator_32c93_Jx35411_init_45d68
theorem dJx4a65c_iterator_32c93_5 : decode cJx4a65c_iterator_32c93 5 = .ok (.invokespecial 269, 3) := by decide +kernel
theorem dJx4a65c_iterator_32c93_8 : decode cJx4a65c_iterator_32c93 8 = .ok (.areturn, 1) := by decide +kernel
theorem dJx35411_hasNext_aae02_0 : decode cJx35411_hasNext_aae02 0 = .ok (.aload_n 0, 1) := by decide +kernel
theorem dJx35411_hasNext_aae02_1 : decode cJx35411_hasNext_aae02 1 = .ok (.getfield 25, 3) := by decide +kernel
theorem dJx35411_hasNext_aae02_4 : decode cJx35411_hasNext_aae02 4 = .ok (.aload_n 0, 1) := by decide +kernel
theorem dJx35411_hasNext_aae02_5 : decode cJx35411_hasNext_aae02 5 = .ok (.getfield 1, 3) := by decide +kernel
theorem dJx35411_hasNext_aae02_8 : decode cJx35411_hasNext_aae02 8 = .ok (.getfield 28, 3) := by decide +kernel
theorem dJx35411_hasNext_aae02_11 : decode cJx35411_hasNext_aae02 11 = .ok (.if_icmp .eq 7, 3) := by decide +kernel
theorem dJx35411_hasNext_aae02_18 : decode cJx35411_hasNext_aae02 18 = .ok (.iconst 0, 1) := by decide +kernel
theorem dJx35411_hasNext_aae02_19 : decode cJx35411_hasNext_aae02 19 = .ok (.ireturn, 1) := by decide +kernel
theorem dJx4a65c_grow_92f84_0 : decode cJx4a65c_grow_92f84 0 = .ok (.aload_n 0, 1) := by decide +kernel
theorem dJx4a65c_grow_92f84_1 : decode cJx4a65c_grow_92f84 1 = .ok (.getfield 9, 3) := by decide +kernel
theorem dJx4a65c_grow_92f84_4 : decode cJx4a65c_grow_92f84 4 = .ok (.arraylength, 1) := by decide +kernel
theorem dJx4a65c_grow_92f84_5 : decode cJx4a65c_grow_92f84 5 = .ok (.istore_n 2, 1) := by decide +kernel
theorem dJx4a65c_grow_92f84_6 : decode cJx4a65c_grow_92f84 6 = .ok (.iload_n 2, 1) := by decide +kernel
theorem dJx4a65c_grow_92f84_7 : decode cJx4a65c_grow_92f84 7 = .ok (.ifCond .gt 13, 3) := by decide +kernel
theorem dJx4a65c_grow_92f84_10 : decode cJx4a65c_grow_92f84 10 = .ok (.aload_n 0, 1) := by decide +kernel
theorem dJx4a65c_grow_92f84_11 : decode cJx4a65c_grow_92f84 11 = .ok (.getfield 9, 3) := by decide +kernel
theorem dJx4a65c_grow_92f84_14 : decode cJx4a65c_grow_92f84 14 = .ok (.getstatic 39, 3) := by decide +kernel
theorem dJx4a65c_grow_92f84_17 : decode cJx4a65c_grow_92f84 17 = .ok (.if_acmp .eq 28, 3) := by decide +kernel
theorem dJx4a65c_grow_92f84_45 : decode cJx4a65c_grow_92f84 45 = .ok (.aload_n 0, 1) := by decide +kernel
theorem dJx4a65c_grow_92f84_46 : decode cJx4a65c_grow_92f84 46 = .ok (.bipush 10, 2) := by decide +kernel
theorem dJx4a65c_grow_92f84_48 : decode cJx4a65c_grow_92f84 48 = .ok (.iload_n 1, 1) := by decide +kernel
theorem dJx4a65c_grow_92f84_49 : decode cJx4a65c_grow_92f84 49 = .ok (.invokestatic 79, 3) := by decide +kernel
theorem dJx4a65c_grow_92f84_52 : decode cJx4a65c_grow_92f84 52 = .ok (.anewarray 7, 3) := by decide +kernel
theorem dJx4a65c_grow_92f84_55 : decode cJx4a65c_grow_92f84 55 = .ok (.dup_x1, 1) := by decide +kernel
theorem dJx4a65c_grow_92f84_56 : decode cJx4a65c_grow_92f84 56 = .ok (.putfield 9, 3) := by decide +kernel
theorem dJx4a65c_grow_92f84_59 : decode cJx4a65c_grow_92f84 59 = .ok (.areturn, 1) := by decide +kernel
theorem dJx4a65c_grow_d5877_0 : decode cJx4a65c_grow_d5877 0 = .ok (.aload_n 0, 1) := by decide +kernel
theorem dJx4a65c_grow_d5877_1 : decode cJx4a65c_grow_d5877 1 = .ok (.aload_n 0, 1) := by decide +kernel
theorem dJx4a65c_grow_d5877_2 : decode cJx4a65c_grow_d5877 2 = .ok (.getfield 48, 3) := by decide +kernel
theorem dJx4a65c_grow_d5877_5 : decode cJx4a65c_grow_d5877 5 = .ok (.iconst 1, 1) := by decide +kernel
theorem dJx4a65c_grow_d5877_6 : decode cJx4a65c_grow_d5877 6 = .ok (.iadd, 1) := by decide +kernel
set_option maxRecDepth 20000 in
theorem ggJx4a65c_grow_d5877_Jx4a65c_grow_92f84 : GoodIn wsJx4a65c_grow_d5877 wsJx4a65c_grow_92f84 := goodIn_r _ [6, 7, 8, 9, 10, 11, 12, 13, 14, 15, 16, 17, 18, 19, 20, 21, 22, 23, 24, 25, 26, 27, 28, 29, 30, 31, 32, 33, 34, 35, 36, 37, 38, 39, 40, 41, 42, 43, 44, 45] (by decide +kernel) (by decide +kernel)
set_option maxRecDepth 20000 in
theorem gJx4a65c_grow_d5877_Jx4a65c_grow_92f84 : GoodIn wsJx4a65c_grow_d5877 (wsV RJx4a65c 69 RJx4a65c yJx4a65c_grow_92f84 wsJx4a65c_grow_92f84) := goodIn_app (goodIn_of _ (by decide +kernel)) ggJx4a65c_grow_d5877_Jx4a65c_grow_92f84
theorem dJx4a65c_grow_d5877_7 : decode cJx4a65c_grow_d5877 7 = .ok (.invokevirtual 69, 3) := by decide +kernel
theorem dJx4a65c_grow_d5877_10 : decode cJx4a65c_grow_d5877 10 = .ok (.areturn, 1) := by decide +kernel
theorem dJx4a65c_add_72be8_0 : decode cJx4a65c_add_72be8 0 = .ok (.iload_n 3, 1) := by decide +kernel
theorem dJx4a65c_add_72be8_1 : decode cJx4a65c_add_72be8 1 = .ok (.aload_n 2, 1) := by decide +kernel
theorem dJx4a65c_add_72be8_2 : decode cJx4a65c_add_72be8 2 = .ok (.arraylength, 1) := by decide +kernel
theorem dJx4a65c_add_72be8_3 : decode cJx4a65c_add_72be8 3 = .ok (.if_icmp .ne 8, 3) := by decide +kernel
theorem dJx4a65c_add_72be8_6 : decode cJx4a65c_add_72be8 6 = .ok (.aload_n 0, 1) := by decide +kernel
set_option maxRecDepth 20000 in
theorem ggJx4a65c_add_72be8_Jx4a65c_grow_d5877 : GoodIn wsJx4a65c_add_72be8 wsJx4a65c_grow_d5877 := goodIn_r _ [6, 1, 7, 8, 9, 5, 10, 11, 12, 13, 14, 15, 16, 17, 18, 19, 20, 21, 22, 23, 24, 25, 26, 27, 28, 29, 30, 31, 32, 33, 34, 35, 36, 37, 38, 39, 40, 41, 42, 43, 44, 45, 46, 47, 48, 49] (by decide +kernel) (by decide +kernel)
set_option maxRecDepth 20000 in
theorem gJx4a65c_add_72be8_Jx4a65c_grow_d5877 : GoodIn wsJx4a65c_add_72be8 (wsV RJx4a65c 129 RJx4a65c yJx4a65c_grow_d5877 wsJx4a65c_grow_d5877) := goodIn_app (goodIn_of _ (by decide +kernel)) ggJx4a65c_add_72be8_Jx4a65c_grow_d5877
theorem dJx4a65c_add_72be8_7 : decode cJx4a65c_add_72be8 7 = .ok (.invokevirtual 129, 3) := by decide +kernel
theorem dJx4a65c_add_72be8_10 : decode cJx4a65c_add_72be8 10 = .ok (.astore_n 2, 1) := by decide +kernel
theorem dJx4a65c_add_72be8_11 : decode cJx4a65c_add_72be8 11 = .ok (.aload_n 2, 1) := by decide +kernel
theorem dJx4a65c_add_72be8_12 : decode cJx4a65c_add_72be8 12 = .ok (.iload_n 3, 1) := by decide +kernel
theorem dJx4a65c_add_72be8_13 : decode cJx4a65c_add_72be8 13 = .ok (.aload_n 1, 1) := by decide +kernel
theorem dJx4a65c_add_72be8_14 : decode cJx4a65c_add_72be8 14 = .ok (.aastore, 1) := by decide +kernel
theorem dJx4a65c_add_72be8_15 : decode cJx4a65c_add_72be8 15 = .ok (.aload_n 0, 1) := by decide +kernel
theorem dJx4a65c_add_72be8_16 : decode cJx4a65c_add_72be8 16 = .ok (.iload_n 3, 1) := by decide +kernel
theorem dJx4a65c_add_72be8_17 : decode cJx4a65c_add_72be8 17 = .ok (.iconst 1, 1) := by decide +kernel
theorem dJx4a65c_add_72be8_18 : decode cJx4a65c_add_72be8 18 = .ok (.iadd, 1) := by decide +kernel
theorem dJx4a65c_add_72be8_19 : decode cJx4a65c_add_72be8 19 = .ok (.putfield 48, 3) := by decide +kernel
theorem dJx4a65c_add_72be8_22 : decode cJx4a65c_add_72be8 22 = .ok (.return_, 1) := by decide +kernel
theorem dJx4a65c_add_9ea2d_0 : decode cJx4a65c_add_9ea2d 0 = .ok (.aload_n 0, 1) := by decide +kernel
theorem dJx4a65c_add_9ea2d_1 : decode cJx4a65c_add_9ea2d 1 = .ok (.dup, 1) := by decide +kernel
theorem dJx4a65c_add_9ea2d_2 : decode cJx4a65c_add_9ea2d 2 = .ok (.getfield 63, 3) := by decide +kernel
theorem dJx4a65c_add_9ea2d_5 : decode cJx4a65c_add_9ea2d 5 = .ok (.iconst 1, 1) := by decide +kernel
theorem dJx4a65c_add_9ea2d_6 : decode cJx4a65c_add_9ea2d 6 = .ok (.iadd, 1) := by decide +kernel
theorem dJx4a65c_add_9ea2d_7 : decode cJx4a65c_add_9ea2d 7 = .ok (.putfield 63, 3) := by decide +kernel
theorem dJx4a65c_add_9ea2d_10 : decode cJx4a65c_add_9ea2d 10 = .ok (.aload_n 0, 1) := by decide +kernel
theorem dJx4a65c_add_9ea2d_11 : decode cJx4a65c_add_9ea2d 11 = .ok (.aload_n 1, 1) := by decide +kernel
theorem dJx4a65c_add_9ea2d_12 : decode cJx4a65c_add_9ea2d 12 = .ok (.aload_n 0, 1) := by decide +kernel
theorem dJx4a65c_add_9ea2d_13 : decode cJx4a65c_add_9ea2d 13 = .ok (.getfield 9, 3) := by decide +kernel
theorem dJx4a65c_add_9ea2d_16 : decode cJx4a65c_add_9ea2d 16 = .ok (.aload_n 0, 1) := by decide +kernel
theorem dJx4a65c_add_9ea2d_17 : decode cJx4a65c_add_9ea2d 17 = .ok (.getfield 48, 3) := by decide +kernel
set_option maxRecDepth 20000 in
theorem ggJx4a65c_add_9ea2d_Jx4a65c_add_72be8 : GoodIn wsJx4a65c_add_9ea2d wsJx4a65c_add_72be8 := goodIn_r _ [9, 4, 10, 11, 12, 8, 13, 14, 15, 16, 17, 3, 18, 19, 20, 21, 22, 23, 24, 25, 26, 27, 28, 29, 30, 31, 32, 33, 34, 35, 36, 37, 38, 39, 40, 41, 42, 43, 44, 45, 46, 47, 48, 49, 50, 51, 52, 53, 54, 55] (by decide +kernel) (by decide +kernel)
set_option maxRecDepth 20000 in
theorem gJx4a65c_add_9ea2d_Jx4a65c_add_72be8 : GoodIn wsJx4a65c_add_9ea2d (wsV RJx4a65c 131 RJx4a65c yJx4a65c_add_72be8 wsJx4a65c_add_72be8) := goodIn_app (goodIn_of _ (by decide +kernel)) ggJx4a65c_add_9ea2d_Jx4a65c_add_72be8
theorem dJx4a65c_add_9ea2d_20 : decode cJx4a65c_add_9ea2d 20 = .ok (.invokevirtual 131, 3) := by decide +kernel
theorem dJx4a65c_add_9ea2d_23 : decode cJx4a65c_add_9ea2d 23 = .ok (.iconst 1, 1) := by decide +kernel
theorem dJx4a65c_add_9ea2d_24 : decode cJx4a65c_add_9ea2d 24 = .ok (.ireturn, 1) := by decide +kernel
theorem z_c_isEmpty0_22   : (1 : Int32) = 1 := by grind
set_option maxHeartbeats 4000000 in
set_option maxRecDepth 100000 in
/-- ArrayList.isEmpty() of a list without elements -/
theorem c_isEmpty0 (l : Launch) (dC : Nat → ClassId) (dI : Nat → Nat → Nat) (b0 : Nat) (en : EnT) (sz : Nat) (li ed : Nat) (mo : Int32) : Met l yJx4a65c_isEmpty_aae02 wsJx4a65c_isEmpty_aae02 ({ frames := 0, cells := 0, slots := 0, locals := 0 } : Room) (cP b0 en (dC, dI) [] [] [(li, .inr (5, [.int mo, .ref ed, .int 0]))] sz (fun _ => True) [.ref li]) (va_Qi (fun (r : Int32) (_ : Unit) => r = 1) (fun _ _ => True) (va_A [] sz)) 0 0 (va_A [] sz) := by
  refine Met.ofW (cc := cJx4a65c_isEmpty_aae02) (maxL := 1) (ret := (some .boolean)) (by decide) rfl ?_
  intro p e s m args below meth c s₁ B hml hv
  obtain ⟨rfl, hsz, hb0, hE, hPP, hK, hDD, hF0⟩ := hv
  have hx := B.exec
  have hb := B.bytes
  have hr := B.returns
  have hts := atoms_spec (ws := wsJx4a65c_isEmpty_aae02) B.pre
  have hown : s.vm.findClass RJx4a65c = some m.cls := findClass_of_methodNamed B.named
  have hlocks := B.notSynchronized
  subst hsz
  have hN0 := en_N hPP hDD rfl
  have hP : va_P (dC, dI) vwCl [] s.heap := hPP.sub [] rfl
  have hR0 : va_P (dC, dI) vwCl [(li, .inr (5, [.int mo, .ref ed, .int 0]))] s.heap := hPP.sub [0] rfl
  have hD0 : va_D (fun q => b0 ≤ q) [] := hDD.sub [] (by decide) rfl
  have hDr : va_D (fun q => b0 ≤ q) [(li, .inr (5, [.int mo, .ref ed, .int 0]))] := hDD.sub [0] (by decide) rfl
  have hAb := en_A (sz := s.heap.size) hD0 hb0
  have hD := hD0.self (sz := s.heap.size)
  generalize hAe : va_A [] s.heap.size = A at hD hAb hN0 ⊢
  have hA : ∀ q : Nat, s.heap.size ≤ q → A q := fun q h => by rw [← hAe]; exact Or.inr h
  have hS : va_S A s.heap s.heap [] := va_S.rf
  have hR := hR0
  have hl := lv_entry [.ref li] (n := 1) (Nat.le_of_ble_eq_true rfl)
  rw [lg_entry_eq]
  generalize (lg_sl [.ref li] ++ List.replicate (1 - (lg_sl [.ref li]).length) Slot.unset).toArray = ls at hl ⊢
  have hl : lv_has ls 1 [(0, .ref li)] := hl
  refine lv_aload_n hx hb dJx4a65c_isEmpty_aae02_0 rfl (lv_at hl 0 rfl) ?_
  refine va_get (D := (dC, dI)) (ci := 5) (v := .int 0) (C := RJx4a65c) (T := TJx4a65c) (N := 3) hx hb hts (by decide +kernel) hown hK hR 0 rfl rfl 2 (by decide) (hts (.fieldLink RJx4a65c 48 "java/util/ArrayList" "size" "I") (by decide +kernel)) (fun _ h9 => h9) rfl dJx4a65c_isEmpty_aae02_1 ?_
  refine lv_if_ne (tgt := 11) hx hb dJx4a65c_isEmpty_aae02_4 (by decide) (fun c_1 => absurd c_1 (by decide)) (fun c_1 => ?_)
  refine lv_iconst (v := 1) hx hb dJx4a65c_isEmpty_aae02_7 (by decide) ?_
  refine lv_goto (tgt := 12) hx hb dJx4a65c_isEmpty_aae02_8 (by decide) ?_
  refine W.widen (k := 0) (n := 0) (Nat.le_of_ble_eq_true rfl) (Nat.le_of_ble_eq_true rfl) ?_
  exact W.zret (v := 1) hx hb hr (by first | rfl | decide +kernel) (fun t ht hW => ⟨⟨1, (), rfl, (z_c_isEmpty0_22), trivial⟩, hS.F ht⟩) hS.2.2 dJx4a65c_isEmpty_aae02_12
theorem z_c_isEmpty_23 (n : Int32) (a_0 : ¬ n = 0) : (0 : Int32) = if n = 0 then 1 else 0 := by grind
theorem z_c_isEmpty_24 (n : Int32) (a_0 : n = 0) : (1 : Int32) = if n = 0 then 1 else 0 := by grind
set_option maxHeartbeats 4000000 in
set_option maxRecDepth 100000 in
/-- ArrayList.isEmpty() -/
theorem c_isEmpty (l : Launch) (dC : Nat → ClassId) (dI : Nat → Nat → Nat) (b0 : Nat) (en : EnT) (sz : Nat) (li ed : Nat) (mo n : Int32) : Met l yJx4a65c_isEmpty_aae02 wsJx4a65c_isEmpty_aae02 ({ frames := 0, cells := 0, slots := 0, locals := 0 } : Room) (cP b0 en (dC, dI) [] [] [(li, .inr (5, [.int mo, .ref ed, .int n]))] sz (fun _ => True) [.ref li]) (va_Qi (fun (r : Int32) (_ : Unit) => r = if n = 0 then 1 else 0) (fun _ _ => True) (va_A [] sz)) 0 0 (va_A [] sz) := by
  refine Met.ofW (cc := cJx4a65c_isEmpty_aae02) (maxL := 1) (ret := (some .boolean)) (by decide) rfl ?_
  intro p e s m args below meth c s₁ B hml hv
  obtain ⟨rfl, hsz, hb0, hE, hPP, hK, hDD, hF0⟩ := hv
  have hx := B.exec
  have hb := B.bytes
  have hr := B.returns
  have hts := atoms_spec (ws := wsJx4a65c_isEmpty_aae02) B.pre
  have hown : s.vm.findClass RJx4a65c = some m.cls := findClass_of_methodNamed B.named
  have hlocks := B.notSynchronized
  subst hsz
  have hN0 := en_N hPP hDD rfl
  have hP : va_P (dC, dI) vwCl [] s.heap := hPP.sub [] rfl
  have hR0 : va_P (dC, dI) vwCl [(li, .inr (5, [.int mo, .ref ed, .int n]))] s.heap := hPP.sub [0] rfl
  have hD0 : va_D (fun q => b0 ≤ q) [] := hDD.sub [] (by decide) rfl
  have hDr : va_D (fun q => b0 ≤ q) [(li, .inr (5, [.int mo, .ref ed, .int n]))] := hDD.sub [0] (by decide) rfl
  have hAb := en_A (sz := s.heap.size) hD0 hb0
  have hD := hD0.self (sz := s.heap.size)
  generalize hAe : va_A [] s.heap.size = A at hD hAb hN0 ⊢
  have hA : ∀ q : Nat, s.heap.size ≤ q → A q := fun q h => by rw [← hAe]; exact Or.inr h
  have hS : va_S A s.heap s.heap [] := va_S.rf
  have hR := hR0
  have hl := lv_entry [.ref li] (n := 1) (Nat.le_of_ble_eq_true rfl)
  rw [lg_entry_eq]
  generalize (lg_sl [.ref li] ++ List.replicate (1 - (lg_sl [.ref li]).length) Slot.unset).toArray = ls at hl ⊢
  have hl : lv_has ls 1 [(0, .ref li)] := hl
  refine lv_aload_n hx hb dJx4a65c_isEmpty_aae02_0 rfl (lv_at hl 0 rfl) ?_
  refine va_get (D := (dC, dI)) (ci := 5) (v := .int n) (C := RJx4a65c) (T := TJx4a65c) (N := 3) hx hb hts (by decide +kernel) hown hK hR 0 rfl rfl 2 (by decide) (hts (.fieldLink RJx4a65c 48 "java/util/ArrayList" "size" "I") (by decide +kernel)) (fun _ h9 => h9) rfl dJx4a65c_isEmpty_aae02_1 ?_
  refine lv_if_ne (tgt := 11) hx hb dJx4a65c_isEmpty_aae02_4 (by decide) (fun c_1 => ?_) (fun c_1 => ?_)
  · skip
    refine lv_iconst (v := 0) hx hb dJx4a65c_isEmpty_aae02_11 (by decide) ?_
    refine W.widen (k := 0) (n := 0) (Nat.le_of_ble_eq_true rfl) (Nat.le_of_ble_eq_true rfl) ?_
    exact W.zret (v := 0) hx hb hr (by first | rfl | decide +kernel) (fun t ht hW => ⟨⟨0, (), rfl, (z_c_isEmpty_23 n c_1), trivial⟩, hS.F ht⟩) hS.2.2 dJx4a65c_isEmpty_aae02_12
  · skip
    refine lv_iconst (v := 1) hx hb dJx4a65c_isEmpty_aae02_7 (by decide) ?_
    refine lv_goto (tgt := 12) hx hb dJx4a65c_isEmpty_aae02_8 (by decide) ?_
    refine W.widen (k := 0) (n := 0) (Nat.le_of_ble_eq_true rfl) (Nat.le_of_ble_eq_true rfl) ?_
    exact W.zret (v := 1) hx hb hr (by first | rfl | decide +kernel) (fun t ht hW => ⟨⟨1, (), rfl, (z_c_isEmpty_24 n c_1), trivial⟩, hS.F ht⟩) hS.2.2 dJx4a65c_isEmpty_aae02_12

set_option maxHeartbeats 4000000 in
set_option maxRecDepth 100000 in
/-- AbstractCollection() -/
theorem c_AbstractCollection (l : Launch) (dC : Nat → ClassId) (dI : Nat → Nat → Nat) (b0 : Nat) (en : EnT) (sz : Nat) (li : Nat) : Met l yJxa1e45_init_da8c8 wsJxa1e45_init_da8c8 ({ frames := 1, cells := 0, slots := 0, locals := 30 } : Room) (cP b0 en (dC, dI) [] [] [] sz (fun _ => True) [.ref li]) (va_Qv (fun _ : Unit => True) (fun _ _ => True) (va_A [] sz)) 0 0 (va_A [] sz) := by
  refine Met.ofW (cc := cJxa1e45_init_da8c8) (maxL := 1) (ret := none) (by decide) rfl ?_
  intro p e s m args below meth c s₁ B hml hv
  obtain ⟨rfl, hsz, hb0, hE, hPP, hK, hDD, hF0⟩ := hv
  have hx := B.exec
  have hb := B.bytes
  have hr := B.returns
  have hts := atoms_spec (ws := wsJxa1e45_init_da8c8) B.pre
  have hown : s.vm.findClass RJxa1e45 = some m.cls := findClass_of_methodNamed B.named
  have hlocks := B.notSynchronized
  have hin : meth.name = "<init>" := (name_of_methodNamed B.named B.method).1
  subst hsz
  have hN0 := en_N hPP hDD rfl
  have hP : va_P (dC, dI) vwCl [] s.heap := hPP.sub [] rfl
  have hR0 : va_P (dC, dI) vwCl [] s.heap := hPP.sub [] rfl
  have hD0 : va_D (fun q => b0 ≤ q) [] := hDD.sub [] (by decide) rfl
  have hDr : va_D (fun q => b0 ≤ q) [] := hDD.sub [] (by decide) rfl
  have hAb := en_A (sz := s.heap.size) hD0 hb0
  have hD := hD0.self (sz := s.heap.size)
  generalize hAe : va_A [] s.heap.size = A at hD hAb hN0 ⊢
  have hA : ∀ q : Nat, s.heap.size ≤ q → A q := fun q h => by rw [← hAe]; exact Or.inr h
  have hS : va_S A s.heap s.heap [] := va_S.rf
  have hR := hR0
  have hl := lv_entry [.ref li] (n := 1) (Nat.le_of_ble_eq_true rfl)
  rw [lg_entry_eq]
  generalize (lg_sl [.ref li] ++ List.replicate (1 - (lg_sl [.ref li]).length) Slot.unset).toArray = ls at hl ⊢
  have hl : lv_has ls 1 [(0, .ref li)] := hl
  refine lv_aload_n hx hb dJxa1e45_init_da8c8_0 rfl (lv_at hl 0 rfl) ?_
  refine W.objInit hx hb hown (hts (.methodLink RJxa1e45 1 objectInit) (by decide +kernel)) (hts (.instanceMethod objectInit) (by decide +kernel)) (hts (.code objectInit ⟨#[0xb1]⟩ 1 none) (by decide +kernel)) rfl (by rw [hml]; exact hl.1) rfl dJxa1e45_init_da8c8_1 (Nat.le_of_ble_eq_true rfl) (Nat.le_of_ble_eq_true rfl) ?_
  refine W.widen (k := 0) (n := 0) (Nat.le_of_ble_eq_true rfl) (Nat.le_of_ble_eq_true rfl) ?_
  exact W.vret hx hb hr (fun t ht hW => ⟨⟨(), rfl, trivial, trivial⟩, hS.F ht⟩) hS.2.2 dJxa1e45_init_da8c8_4

set_option maxHeartbeats 4000000 in
set_option maxRecDepth 100000 in
/-- AbstractList() -/
theorem c_AbstractList (l : Launch) (dC : Nat → ClassId) (dI : Nat → Nat → Nat) (b0 : Nat) (en : EnT) (sz : Nat) (li : Nat) : Met l yJxc12de_init_da8c8 wsJxc12de_init_da8c8 ({ frames := 2, cells := 0, slots := 0, locals := 50 } : Room) (cP b0 en (dC, dI) [] [(li, .inr (5, [.int 0, .null, .int 0]))] [] sz (fun _ => True) [.ref li]) (va_Qv (fun u : Unit => True) (fun u t => cB (dC, dI) [] [(li, .inr (5, [.int 0, .null, .int 0]))] (va_A [(li, .inr (5, [.int 0, .null, .int 0]))] sz) (fun _ => True) t) (va_A [(li, .inr (5, [.int 0, .null, .int 0]))] sz)) 0 0 (va_A [(li, .inr (5, [.int 0, .null, .int 0]))] sz) := by
  refine Met.ofW (cc := cJxc12de_init_da8c8) (maxL := 1) (ret := none) (by decide) rfl ?_
  intro p e s m args below meth c s₁ B hml hv
  obtain ⟨rfl, hsz, hb0, hE, hPP, hK, hDD, hF0⟩ := hv
  have hx := B.exec
  have hb := B.bytes
  have hr := B.returns
  have hts := atoms_spec (ws := wsJxc12de_init_da8c8) B.pre
  have hown : s.vm.findClass RJxc12de = some m.cls := findClass_of_methodNamed B.named
  have hlocks := B.notSynchronized
  have hin : meth.name = "<init>" := (name_of_methodNamed B.named B.method).1
  subst hsz
  have hN0 := en_N hPP hDD rfl
  have hP : va_P (dC, dI) vwCl [(li, .inr (5, [.int 0, .null, .int 0]))] s.heap := hPP.sub [0] rfl
  have hR0 : va_P (dC, dI) vwCl [] s.heap := hPP.sub [] rfl
  have hD0 : va_D (fun q => b0 ≤ q) [(li, .inr (5, [.int 0, .null, .int 0]))] := hDD.sub [0] (by decide) rfl
  have hDr : va_D (fun q => b0 ≤ q) [] := hDD.sub [] (by decide) rfl
  have hAb := en_A (sz := s.heap.size) hD0 hb0
  have hD := hD0.self (sz := s.heap.size)
  generalize hAe : va_A [(li, .inr (5, [.int 0, .null, .int 0]))] s.heap.size = A at hD hAb hN0 ⊢
  have hA : ∀ q : Nat, s.heap.size ≤ q → A q := fun q h => by rw [← hAe]; exact Or.inr h
  have hS : va_S A s.heap s.heap [] := va_S.rf
  have hR := hR0
  have hl := lv_entry [.ref li] (n := 1) (Nat.le_of_ble_eq_true rfl)
  rw [lg_entry_eq]
  generalize (lg_sl [.ref li] ++ List.replicate (1 - (lg_sl [.ref li]).length) Slot.unset).toArray = ls at hl ⊢
  have hl : lv_has ls 1 [(0, .ref li)] := hl
  refine lv_aload_n hx hb dJxc12de_init_da8c8_0 rfl (lv_at hl 0 rfl) ?_
  have hPc := (hP.app hR).sub (ws' := [] ++ []) [] rfl
  have hDc := (en_DD hD hDr hN0 hAb).sub (ws' := [] ++ []) [] (by decide) rfl
  have hKc := hK.sub (tys' := []) [] rfl
  have hFc := va_free (wc := []) hD hS hA [] rfl
  refine va_callv (va_runI (As := []) (rest := []) ⟨hx, hb, hml, hown, hts⟩ (c_AbstractCollection l dC dI b0 en s.heap.size li) (cwI 0 hts gJxc12de_init_da8c8_Jxa1e45_init_da8c8 rfl rfl rfl (hts (.initialized RJxa1e45) (by decide +kernel)) (hts (.methodLink RJxc12de 1 yJxa1e45_init_da8c8) (by decide +kernel)) (hts (.instanceMethod yJxa1e45_init_da8c8) (by decide +kernel)) rfl (by decide +kernel) ⟨Nat.le_of_ble_eq_true rfl, Nat.le_of_ble_eq_true rfl⟩) ⟨cP.blind, cP.use (en_z hb0 hS) (hE.on hAb hS) hPc hKc hDc trivial⟩ rfl rfl hl.1 rfl (lv_room (Nat.le_of_ble_eq_true rfl)) dJxc12de_init_da8c8_1 ⟨Nat.le_of_ble_eq_true rfl, Nat.le_of_ble_eq_true rfl⟩) hS (fun q _ h => hFc q h) hFc (fun u t H1 locs ht hvm hw hB hz1 hk1 hS => ?_)
  have hP1 : va_P (dC, dI) vwCl [] H1 := fun k q h => by simp at h
  have hD1 : va_D (va_A [] s.heap.size) [] := ⟨fun i j p q h => by simp at h, fun k q h => by simp at h⟩
  try dsimp only at hw
  obtain ⟨hP, hD⟩ := va_join (wr := [(li, .inr (5, [.int 0, .null, .int 0]))]) (w1 := []) hP hD [] [0] rfl rfl (by decide) (by decide) hk1 hFc hP1 hD1
  generalize H1 = H at hP hS ⊢
  have hP : va_P (dC, dI) vwCl [(li, .inr (5, [.int 0, .null, .int 0]))] H := hP
  have hD : va_D A [(li, .inr (5, [.int 0, .null, .int 0]))] := hD
  have hR : va_P (dC, dI) vwCl [] H := fun k q h => by simp at h
  refine W.widen (k := 0) (n := 0) (Nat.le_of_ble_eq_true rfl) (Nat.le_of_ble_eq_true rfl) ?_
  refine lv_aload_n hx hb dJxc12de_init_da8c8_4 rfl (lv_at hl 0 rfl) ?_
  refine lv_iconst (v := 0) hx hb dJxc12de_init_da8c8_5 (by decide) ?_
  refine va_put (D := (dC, dI)) (ci := 5) (v := .int 0) (ty := .int) (C := RJx4a65c) (T := TJx4a65c) (N := 3) hx hb hts (by decide +kernel) tyJx4a65c tyJx4a65c_ok nmJx4a65c hown hK hP hD hS 0 rfl rfl 0 (by decide) (hts (.fieldLink RJxc12de 7 "java/util/AbstractList" "modCount" "I") (by decide +kernel)) (fun _ h9 => h9) rfl (by decide +kernel) rfl rfl (Nat.le_of_ble_eq_true rfl) dJxc12de_init_da8c8_6 (fun H locs hP hD hS => ?_)
  have hP : va_P (dC, dI) vwCl [(li, .inr (5, [.int 0, .null, .int 0]))] H := hP
  have hD : va_D A [(li, .inr (5, [.int 0, .null, .int 0]))] := hD
  have hR : va_P (dC, dI) vwCl [] H := fun k q h => by simp at h
  refine W.widen (k := 0) (n := 0) (Nat.le_of_ble_eq_true rfl) (Nat.le_of_ble_eq_true rfl) ?_
  exact W.vret hx hb hr (fun t ht hW => ⟨⟨(), rfl, trivial, cB.mk ht hW (hP.sub [0] rfl) (hK.sub [] rfl) (hD.sub [0] (by decide) rfl) (trivial)⟩, hS.F ht⟩) hS.2.2 dJxc12de_init_da8c8_9

set_option maxHeartbeats 4000000 in
set_option maxRecDepth 100000 in
/-- ArrayList() -/
theorem c_AList (l : Launch) (dC : Nat → ClassId) (dI : Nat → Nat → Nat) (b0 : Nat) (en : EnT) (sz : Nat) (li : Nat) : Met l yJx4a65c_init_da8c8 wsJx4a65c_init_da8c8 ({ frames := 3, cells := 0, slots := 0, locals := 70 } : Room) (cP b0 en (dC, dI) [] [(li, .inr (5, [.int 0, .null, .int 0]))] [] sz (fun _ => True) [.ref li]) (va_Qv (fun u : Unit => True) (fun u t => cB (dC, dI) [] [(li, .inr (5, [.int 0, .ref en.2.2.1, .int 0]))] (va_A [(li, .inr (5, [.int 0, .null, .int 0]))] sz) (fun _ => True) t) (va_A [(li, .inr (5, [.int 0, .null, .int 0]))] sz)) 0 0 (va_A [(li, .inr (5, [.int 0, .null, .int 0]))] sz) := by
  refine Met.ofW (cc := cJx4a65c_init_da8c8) (maxL := 1) (ret := none) (by decide) rfl ?_
  intro p e s m args below meth c s₁ B hml hv
  obtain ⟨rfl, hsz, hb0, hE, hPP, hK, hDD, hF0⟩ := hv
  have hx := B.exec
  have hb := B.bytes
  have hr := B.returns
  have hts := atoms_spec (ws := wsJx4a65c_init_da8c8) B.pre
  have hown : s.vm.findClass RJx4a65c = some m.cls := findClass_of_methodNamed B.named
  have hlocks := B.notSynchronized
  have hin : meth.name = "<init>" := (name_of_methodNamed B.named B.method).1
  subst hsz
  have hN0 := en_N hPP hDD rfl
  have hP : va_P (dC, dI) vwCl [(li, .inr (5, [.int 0, .null, .int 0]))] s.heap := hPP.sub [0] rfl
  have hR0 : va_P (dC, dI) vwCl [] s.heap := hPP.sub [] rfl
  have hD0 : va_D (fun q => b0 ≤ q) [(li, .inr (5, [.int 0, .null, .int 0]))] := hDD.sub [0] (by decide) rfl
  have hDr : va_D (fun q => b0 ≤ q) [] := hDD.sub [] (by decide) rfl
  have hAb := en_A (sz := s.heap.size) hD0 hb0
  have hD := hD0.self (sz := s.heap.size)
  generalize hAe : va_A [(li, .inr (5, [.int 0, .null, .int 0]))] s.heap.size = A at hD hAb hN0 ⊢
  have hA : ∀ q : Nat, s.heap.size ≤ q → A q := fun q h => by rw [← hAe]; exact Or.inr h
  have hS : va_S A s.heap s.heap [] := va_S.rf
  have hR := hR0
  have hl := lv_entry [.ref li] (n := 1) (Nat.le_of_ble_eq_true rfl)
  rw [lg_entry_eq]
  generalize (lg_sl [.ref li] ++ List.replicate (1 - (lg_sl [.ref li]).length) Slot.unset).toArray = ls at hl ⊢
  have hl : lv_has ls 1 [(0, .ref li)] := hl
  refine lv_aload_n hx hb dJx4a65c_init_da8c8_0 rfl (lv_at hl 0 rfl) ?_
  have hPc := (hP.app hR).sub (ws' := [(li, .inr (5, [.int 0, .null, .int 0]))] ++ []) [0] rfl
  have hDc := (en_DD hD hDr hN0 hAb).sub (ws' := [(li, .inr (5, [.int 0, .null, .int 0]))] ++ []) [0] (by decide) rfl
  have hKc := hK.sub (tys' := []) [] rfl
  have hFc := va_free (wc := [(li, .inr (5, [.int 0, .null, .int 0]))]) hD hS hA [0] rfl
  refine va_callv (va_runI (As := []) (rest := []) ⟨hx, hb, hml, hown, hts⟩ (c_AbstractList l dC dI b0 en s.heap.size li) (cwI 0 hts gJx4a65c_init_da8c8_Jxc12de_init_da8c8 rfl rfl rfl (hts (.initialized RJxc12de) (by decide +kernel)) (hts (.methodLink RJx4a65c 1 yJxc12de_init_da8c8) (by decide +kernel)) (hts (.instanceMethod yJxc12de_init_da8c8) (by decide +kernel)) rfl (by decide +kernel) ⟨Nat.le_of_ble_eq_true rfl, Nat.le_of_ble_eq_true rfl⟩) ⟨cP.blind, cP.use (en_z hb0 hS) (hE.on hAb hS) hPc hKc hDc trivial⟩ rfl rfl hl.1 rfl (lv_room (Nat.le_of_ble_eq_true rfl)) dJx4a65c_init_da8c8_1 ⟨Nat.le_of_ble_eq_true rfl, Nat.le_of_ble_eq_true rfl⟩) hS (fun q _ h => hFc q h) hFc (fun u t H1 locs ht hvm hw hB hz1 hk1 hS => ?_)
  obtain ⟨hP1, hK1, hD1, hF1⟩ := hB
  rw [ht] at hP1
  try rw [ht] at hF1
  have hK1 := va_K.moved hvm.symm hK1
  try dsimp only at hw
  obtain ⟨hP, hD⟩ := va_join (wr := []) (w1 := [(li, .inr (5, [.int 0, .null, .int 0]))]) hP hD [0] [] rfl rfl (by decide) (by decide) hk1 hFc hP1 hD1
  generalize H1 = H at hP hS ⊢
  have hP : va_P (dC, dI) vwCl [(li, .inr (5, [.int 0, .null, .int 0]))] H := hP
  have hD : va_D A [(li, .inr (5, [.int 0, .null, .int 0]))] := hD
  have hR : va_P (dC, dI) vwCl [] H := fun k q h => by simp at h
  refine W.widen (k := 0) (n := 0) (Nat.le_of_ble_eq_true rfl) (Nat.le_of_ble_eq_true rfl) ?_
  refine lv_aload_n hx hb dJx4a65c_init_da8c8_4 rfl (lv_at hl 0 rfl) ?_
  refine va_gets hx hb (hE.ee hAb) hS hown (hts (.fieldLink RJx4a65c 39 "java/util/ArrayList" "DEFAULTCAPACITY_EMPTY_ELEMENTDATA" "[Ljava/lang/Object;") (by decide +kernel)) (fun _ h9 => h9) dJx4a65c_init_da8c8_5 ?_
  refine va_put (D := (dC, dI)) (ci := 5) (v := .ref en.2.2.1) (ty := .array (.object "java/lang/Object")) (C := RJx4a65c) (T := TJx4a65c) (N := 3) hx hb hts (by decide +kernel) tyJx4a65c tyJx4a65c_ok nmJx4a65c hown hK hP hD hS 0 rfl rfl 1 (by decide) (hts (.fieldLink RJx4a65c 9 "java/util/ArrayList" "elementData" "[Ljava/lang/Object;") (by decide +kernel)) (fun _ h9 => h9) rfl (by decide +kernel) rfl rfl (Nat.le_of_ble_eq_true rfl) dJx4a65c_init_da8c8_8 (fun H locs hP hD hS => ?_)
  have hP : va_P (dC, dI) vwCl [(li, .inr (5, [.int 0, .ref en.2.2.1, .int 0]))] H := hP
  have hD : va_D A [(li, .inr (5, [.int 0, .ref en.2.2.1, .int 0]))] := hD
  have hR : va_P (dC, dI) vwCl [] H := fun k q h => by simp at h
  refine W.widen (k := 0) (n := 0) (Nat.le_of_ble_eq_true rfl) (Nat.le_of_ble_eq_true rfl) ?_
  exact W.vret hx hb hr (fun t ht hW => ⟨⟨(), rfl, trivial, cB.mk ht hW (hP.sub [0] rfl) (hK.sub [] rfl) (hD.sub [0] (by decide) rfl) (trivial)⟩, hS.F ht⟩) hS.2.2 dJx4a65c_init_da8c8_11

set_option maxHeartbeats 4000000 in
set_option maxRecDepth 100000 in
/-- Itr(list) -/
theorem c_Itr (l : Launch) (dC : Nat → ClassId) (dI : Nat → Nat → Nat) (b0 : Nat) (en : EnT) (sz : Nat) (q li ed : Nat) (mo n : Int32) : Met l yJx35411_init_45d68 wsJx35411_init_45d68 ({ frames := 1, cells := 0, slots := 0, locals := 30 } : Room) (cP b0 en (dC, dI) [] [(q, .inr (4, [.int 0, .int 0, .int 0, .null]))] [(li, .inr (5, [.int mo, .ref ed, .int n]))] sz (fun _ => True) [.ref q, .ref li]) (va_Qv (fun u : Unit => True) (fun u t => cB (dC, dI) [] [(q, .inr (4, [.int 0, .int (-1), .int mo, .ref li]))] (va_A [(q, .inr (4, [.int 0, .int 0, .int 0, .null]))] sz) (fun _ => True) t) (va_A [(q, .inr (4, [.int 0, .int 0, .int 0, .null]))] sz)) 0 0 (va_A [(q, .inr (4, [.int 0, .int 0, .int 0, .null]))] sz) := by
  refine Met.ofW (cc := cJx35411_init_45d68) (maxL := 2) (ret := none) (by decide) rfl ?_
  intro p e s m args below meth c s₁ B hml hv
  obtain ⟨rfl, hsz, hb0, hE, hPP, hK, hDD, hF0⟩ := hv
  have hx := B.exec
  have hb := B.bytes
  have hr := B.returns
  have hts := atoms_spec (ws := wsJx35411_init_45d68) B.pre
  have hown : s.vm.findClass RJx35411 = some m.cls := findClass_of_methodNamed B.named
  have hlocks := B.notSynchronized
  have hin : meth.name = "<init>" := (name_of_methodNamed B.named B.method).1
  subst hsz
  have hN0 := en_N hPP hDD rfl
  have hP : va_P (dC, dI) vwCl [(q, .inr (4, [.int 0, .int 0, .int 0, .null]))] s.heap := hPP.sub [0] rfl
  have hR0 : va_P (dC, dI) vwCl [(li, .inr (5, [.int mo, .ref ed, .int n]))] s.heap := hPP.sub [1] rfl
  have hD0 : va_D (fun q => b0 ≤ q) [(q, .inr (4, [.int 0, .int 0, .int 0, .null]))] := hDD.sub [0] (by decide) rfl
  have hDr : va_D (fun q => b0 ≤ q) [(li, .inr (5, [.int mo, .ref ed, .int n]))] := hDD.sub [1] (by decide) rfl
  have hAb := en_A (sz := s.heap.size) hD0 hb0
  have hD := hD0.self (sz := s.heap.size)
  generalize hAe : va_A [(q, .inr (4, [.int 0, .int 0, .int 0, .null]))] s.heap.size = A at hD hAb hN0 ⊢
  have hA : ∀ q : Nat, s.heap.size ≤ q → A q := fun q h => by rw [← hAe]; exact Or.inr h
  have hS : va_S A s.heap s.heap [] := va_S.rf
  have hR := hR0
  have hl := lv_entry [.ref q, .ref li] (n := 2) (Nat.le_of_ble_eq_true rfl)
  rw [lg_entry_eq]
  generalize (lg_sl [.ref q, .ref li] ++ List.replicate (2 - (lg_sl [.ref q, .ref li]).length) Slot.unset).toArray = ls at hl ⊢
  have hl : lv_has ls 2 [(0, .ref q), (1, .ref li)] := hl
  refine lv_aload_n hx hb dJx35411_init_45d68_0 rfl (lv_at hl 0 rfl) ?_
  refine lv_aload_n hx hb dJx35411_init_45d68_1 rfl (lv_at hl 1 rfl) ?_
  refine va_putF (D := (dC, dI)) (ci := 4) (v := .ref li) (ty := .object "java/util/ArrayList") (C := RJx35411) (T := TJx35411) (N := 4) hx hb hts (by decide +kernel) tyJx35411 tyJx35411_ok nmJx35411 hown hK hP hD hS 0 rfl rfl 3 (by decide) (hts (.fieldLink RJx35411 1 "java/util/ArrayList$Itr" "this$0" "Ljava/util/ArrayList;") (by decide +kernel)) (fun _ h9 => h9) rfl hin rfl (by decide +kernel) rfl rfl (Nat.le_of_ble_eq_true rfl) dJx35411_init_45d68_2 (fun H locs hP hD hS => ?_)
  have hP : va_P (dC, dI) vwCl [(q, .inr (4, [.int 0, .int 0, .int 0, .ref li]))] H := hP
  have hD : va_D A [(q, .inr (4, [.int 0, .int 0, .int 0, .ref li]))] := hD
  have hR := en_R hR0 hN0 hS
  refine lv_aload_n hx hb dJx35411_init_45d68_5 rfl (lv_at hl 0 rfl) ?_
  refine W.objInit hx hb hown (hts (.methodLink RJx35411 7 objectInit) (by decide +kernel)) (hts (.instanceMethod objectInit) (by decide +kernel)) (hts (.code objectInit ⟨#[0xb1]⟩ 1 none) (by decide +kernel)) rfl (by rw [hml]; exact hl.1) rfl dJx35411_init_45d68_6 (Nat.le_of_ble_eq_true rfl) (Nat.le_of_ble_eq_true rfl) ?_
  refine lv_aload_n hx hb dJx35411_init_45d68_9 rfl (lv_at hl 0 rfl) ?_
  refine lv_iconst (v := (-1)) hx hb dJx35411_init_45d68_10 (by decide) ?_
  refine va_put (D := (dC, dI)) (ci := 4) (v := .int (-1)) (ty := .int) (C := RJx35411) (T := TJx35411) (N := 4) hx hb hts (by decide +kernel) tyJx35411 tyJx35411_ok nmJx35411 hown hK hP hD hS 0 rfl rfl 1 (by decide) (hts (.fieldLink RJx35411 13 "java/util/ArrayList$Itr" "lastRet" "I") (by decide +kernel)) (fun _ h9 => h9) rfl (by decide +kernel) rfl rfl (Nat.le_of_ble_eq_true rfl) dJx35411_init_45d68_11 (fun H locs hP hD hS => ?_)
  have hP : va_P (dC, dI) vwCl [(q, .inr (4, [.int 0, .int (-1), .int 0, .ref li]))] H := hP
  have hD : va_D A [(q, .inr (4, [.int 0, .int (-1), .int 0, .ref li]))] := hD
  have hR := en_R hR0 hN0 hS
  refine lv_aload_n hx hb dJx35411_init_45d68_14 rfl (lv_at hl 0 rfl) ?_
  refine lv_aload_n hx hb dJx35411_init_45d68_15 rfl (lv_at hl 0 rfl) ?_
  refine va_get (D := (dC, dI)) (ci := 4) (v := .ref li) (C := RJx35411) (T := TJx35411) (N := 4) hx hb hts (by decide +kernel) hown hK hP 0 rfl rfl 3 (by decide) (hts (.fieldLink RJx35411 1 "java/util/ArrayList$Itr" "this$0" "Ljava/util/ArrayList;") (by decide +kernel)) (fun _ h9 => h9) rfl dJx35411_init_45d68_16 ?_
  refine va_get (D := (dC, dI)) (ci := 5) (v := .int mo) (C := RJx4a65c) (T := TJx4a65c) (N := 3) hx hb hts (by decide +kernel) hown hK hR 0 rfl rfl 0 (by decide) (hts (.fieldLink RJx35411 17 "java/util/ArrayList" "modCount" "I") (by decide +kernel)) (fun x h9 => u_same (hts (.sameField "java/util/ArrayList" "java/util/AbstractList" "modCount" "I") (by decide +kernel)) x h9) rfl dJx35411_init_45d68_19 ?_
  refine va_put (D := (dC, dI)) (ci := 4) (v := .int mo) (ty := .int) (C := RJx35411) (T := TJx35411) (N := 4) hx hb hts (by decide +kernel) tyJx35411 tyJx35411_ok nmJx35411 hown hK hP hD hS 0 rfl rfl 2 (by decide) (hts (.fieldLink RJx35411 22 "java/util/ArrayList$Itr" "expectedModCount" "I") (by decide +kernel)) (fun _ h9 => h9) rfl (by decide +kernel) rfl rfl (Nat.le_of_ble_eq_true rfl) dJx35411_init_45d68_22 (fun H locs hP hD hS => ?_)
  have hP : va_P (dC, dI) vwCl [(q, .inr (4, [.int 0, .int (-1), .int mo, .ref li]))] H := hP
  have hD : va_D A [(q, .inr (4, [.int 0, .int (-1), .int mo, .ref li]))] := hD
  have hR := en_R hR0 hN0 hS
  refine W.widen (k := 0) (n := 0) (Nat.le_of_ble_eq_true rfl) (Nat.le_of_ble_eq_true rfl) ?_
  exact W.vret hx hb hr (fun t ht hW => ⟨⟨(), rfl, trivial, cB.mk ht hW (hP.sub [0] rfl) (hK.sub [] rfl) (hD.sub [0] (by decide) rfl) (trivial)⟩, hS.F ht⟩) hS.2.2 dJx35411_init_45d68_25

set_option maxHeartbeats 4000000 in
set_option maxRecDepth 100000 in
/-- ArrayList.iterator() -/
theorem c_iterator (l : Launch) (dC : Nat → ClassId) (dI : Nat → Nat → Nat) (b0 : Nat) (en : EnT) (sz : Nat) (li ed : Nat) (mo n : Int32) : Met l yJx4a65c_iterator_32c93 wsJx4a65c_iterator_32c93 ({ frames := 2, cells := 1, slots := 4, locals := 51 } : Room) (cP b0 en (dC, dI) [] [] [(li, .inr (5, [.int mo, .ref ed, .int n]))] sz (fun _ => True) [.ref li]) (va_Qr (fun u : Unit => True) (fun u r t => cB (dC, dI) [] [(r, .inr (4, [.int 0, .int (-1), .int mo, .ref li]))] (va_A [] sz) (fun _ => True) t) (va_A [] sz)) 1 4 (va_A [] sz) := by
  refine Met.ofW (cc := cJx4a65c_iterator_32c93) (maxL := 1) (ret := (some (.object "java/util/Iterator"))) (by decide) rfl ?_
  intro p e s m args below meth c s₁ B hml hv
  obtain ⟨rfl, hsz, hb0, hE, hPP, hK, hDD, hF0⟩ := hv
  have hx := B.exec
  have hb := B.bytes
  have hr := B.returns
  have hts := atoms_spec (ws := wsJx4a65c_iterator_32c93) B.pre
  have hown : s.vm.findClass RJx4a65c = some m.cls := findClass_of_methodNamed B.named
  have hlocks := B.notSynchronized
  subst hsz
  have hN0 := en_N hPP hDD rfl
  have hP : va_P (dC, dI) vwCl [] s.heap := hPP.sub [] rfl
  have hR0 : va_P (dC, dI) vwCl [(li, .inr (5, [.int mo, .ref ed, .int n]))] s.heap := hPP.sub [0] rfl
  have hD0 : va_D (fun q => b0 ≤ q) [] := hDD.sub [] (by decide) rfl
  have hDr : va_D (fun q => b0 ≤ q) [(li, .inr (5, [.int mo, .ref ed, .int n]))] := hDD.sub [0] (by decide) rfl
  have hAb := en_A (sz := s.heap.size) hD0 hb0
  have hD := hD0.self (sz := s.heap.size)
  generalize hAe : va_A [] s.heap.size = A at hD hAb hN0 ⊢
  have hA : ∀ q : Nat, s.heap.size ≤ q → A q := fun q h => by rw [← hAe]; exact Or.inr h
  have hS : va_S A s.heap s.heap [] := va_S.rf
  have hR := hR0
  have hl := lv_entry [.ref li] (n := 1) (Nat.le_of_ble_eq_true rfl)
  rw [lg_entry_eq]
  generalize (lg_sl [.ref li] ++ List.replicate (1 - (lg_sl [.ref li]).length) Slot.unset).toArray = ls at hl ⊢
  have hl : lv_has ls 1 [(0, .ref li)] := hl
  refine va_new (ci := 4) (fs := [.int 0, .int 0, .int 0, .null]) (C := RJx35411) (T := TJx35411) (N := 4) hx hb hts (by decide +kernel) tyJx35411 tyJx35411_ok hown (hts (.classLink RJx4a65c 267 RJx35411) (by decide +kernel)) (hts (.instantiable RJx35411 4) (by decide +kernel)) (hts (.initialized RJx35411) (by decide +kernel)) hK hP hD hS hA rfl (fun j hj => by rcases (show j = 0 ∨ j = 1 ∨ j = 2 ∨ j = 3 by omega) with rfl | rfl | rfl | rfl <;> rfl) (Nat.le_of_ble_eq_true rfl) (Nat.le_of_ble_eq_true rfl) dJx4a65c_iterator_32c93_0 (fun q_1 H hP hD hS => ?_)
  have hP : va_P (dC, dI) vwCl [(q_1, .inr (4, [.int 0, .int 0, .int 0, .null]))] H := hP
  have hD : va_D A [(q_1, .inr (4, [.int 0, .int 0, .int 0, .null]))] := hD
  have hR := en_R hR0 hN0 hS
  refine W.widen (k := 1) (n := 4) (Nat.le_of_ble_eq_true rfl) (Nat.le_of_ble_eq_true rfl) ?_
  refine lv_dup hx hb dJx4a65c_iterator_32c93_3 rfl ?_
  refine lv_aload_n hx hb dJx4a65c_iterator_32c93_4 rfl (lv_at hl 0 rfl) ?_
  have hPc := (hP.app hR).sub (ws' := [(q_1, .inr (4, [.int 0, .int 0, .int 0, .null]))] ++ [(li, .inr (5, [.int mo, .ref ed, .int n]))]) [0, 1] rfl
  have hDc := (en_DD hD hDr hN0 hAb).sub (ws' := [(q_1, .inr (4, [.int 0, .int 0, .int 0, .null]))] ++ [(li, .inr (5, [.int mo, .ref ed, .int n]))]) [0, 1] (by decide) rfl
  have hKc := hK.sub (tys' := []) [] rfl
  have hFc := va_free (wc := [(q_1, .inr (4, [.int 0, .int 0, .int 0, .null]))]) hD hS hA [0] rfl
  refine va_callv (va_runI (As := [.ref li]) (rest := [.ref q_1]) ⟨hx, hb, hml, hown, hts⟩ (c_Itr l dC dI b0 en H.size q_1 li ed mo n) (cwI 1 hts gJx4a65c_iterator_32c93_Jx35411_init_45d68 rfl rfl rfl (hts (.initialized RJx35411) (by decide +kernel)) (hts (.methodLink RJx4a65c 269 yJx35411_init_45d68) (by decide +kernel)) (hts (.instanceMethod yJx35411_init_45d68) (by decide +kernel)) rfl (by decide +kernel) ⟨Nat.le_of_ble_eq_true rfl, Nat.le_of_ble_eq_true rfl⟩) ⟨cP.blind, cP.use (en_z hb0 hS) (hE.on hAb hS) hPc hKc hDc trivial⟩ rfl rfl hl.1 rfl (lv_room (Nat.le_of_ble_eq_true rfl)) dJx4a65c_iterator_32c93_5 ⟨Nat.le_of_ble_eq_true rfl, Nat.le_of_ble_eq_true rfl⟩) hS (fun q _ h => hFc q h) hFc (fun u t H1 locs ht hvm hw hB hz1 hk1 hS => ?_)
  obtain ⟨hP1, hK1, hD1, hF1⟩ := hB
  rw [ht] at hP1
  try rw [ht] at hF1
  have hK1 := va_K.moved hvm.symm hK1
  try dsimp only at hw
  obtain ⟨hP, hD⟩ := va_join (wr := []) (w1 := [(q_1, .inr (4, [.int 0, .int (-1), .int mo, .ref li]))]) hP hD [0] [] rfl rfl (by decide) (by decide) hk1 hFc hP1 hD1
  generalize H1 = H at hP hS ⊢
  have hP : va_P (dC, dI) vwCl [(q_1, .inr (4, [.int 0, .int (-1), .int mo, .ref li]))] H := hP
  have hD : va_D A [(q_1, .inr (4, [.int 0, .int (-1), .int mo, .ref li]))] := hD
  have hR := en_R hR0 hN0 hS
  refine W.widen (k := 1) (n := 4) (Nat.le_of_ble_eq_true rfl) (Nat.le_of_ble_eq_true rfl) ?_
  refine W.widen (k := 1) (n := 4) (Nat.le_of_ble_eq_true rfl) (Nat.le_of_ble_eq_true rfl) ?_
  exact W.aret (v := .ref q_1) hx hb hr (by first | exact Or.inl ⟨_, rfl⟩ | exact Or.inr ⟨_, rfl⟩) (Or.inr ⟨_, rfl⟩) (fun t ht hW => ⟨⟨(), q_1, rfl, trivial, cB.mk ht hW (hP.sub [0] rfl) (hK.sub [] rfl) (hD.sub [0] (by decide) rfl) (trivial)⟩, hS.F ht⟩) hS.2.2 dJx4a65c_iterator_32c93_8

set_option maxHeartbeats 4000000 in
set_option maxRecDepth 100000 in
/-- Itr.hasNext() of a list without elements -/
theorem c_hasNext (l : Launch) (dC : Nat → ClassId) (dI : Nat → Nat → Nat) (b0 : Nat) (en : EnT) (sz : Nat) (q li ed : Nat) (mo mo2 : Int32) : Met l yJx35411_hasNext_aae02 wsJx35411_hasNext_aae02 ({ frames := 0, cells := 0, slots := 0, locals := 0 } : Room) (cP b0 en (dC, dI) [] [] [(q, .inr (4, [.int 0, .int (-1), .int mo, .ref li])), (li, .inr (5, [.int mo2, .ref ed, .int 0]))] sz (fun _ => True) [.ref q]) (va_Qi (fun (r : Int32) (_ : Unit) => r = 0) (fun _ _ => True) (va_A [] sz)) 0 0 (va_A [] sz) := by
  refine Met.ofW (cc := cJx35411_hasNext_aae02) (maxL := 1) (ret := (some .boolean)) (by decide) rfl ?_
  intro p e s m args below meth c s₁ B hml hv
  obtain ⟨rfl, hsz, hb0, hE, hPP, hK, hDD, hF0⟩ := hv
  have hx := B.exec
  have hb := B.bytes
  have hr := B.returns
  have hts := atoms_spec (ws := wsJx35411_hasNext_aae02) B.pre
  have hown : s.vm.findClass RJx35411 = some m.cls := findClass_of_methodNamed B.named
  have hlocks := B.notSynchronized
  subst hsz
  have hN0 := en_N hPP hDD rfl
  have hP : va_P (dC, dI) vwCl [] s.heap := hPP.sub [] rfl
  have hR0 : va_P (dC, dI) vwCl [(q, .inr (4, [.int 0, .int (-1), .int mo, .ref li])), (li, .inr (5, [.int mo2, .ref ed, .int 0]))] s.heap := hPP.sub [0, 1] rfl
  have hD0 : va_D (fun q => b0 ≤ q) [] := hDD.sub [] (by decide) rfl
  have hDr : va_D (fun q => b0 ≤ q) [(q, .inr (4, [.int 0, .int (-1), .int mo, .ref li])), (li, .inr (5, [.int mo2, .ref ed, .int 0]))] := hDD.sub [0, 1] (by decide) rfl
  have hAb := en_A (sz := s.heap.size) hD0 hb0
  have hD := hD0.self (sz := s.heap.size)
  generalize hAe : va_A [] s.heap.size = A at hD hAb hN0 ⊢
  have hA : ∀ q : Nat, s.heap.size ≤ q → A q := fun q h => by rw [← hAe]; exact Or.inr h
  have hS : va_S A s.heap s.heap [] := va_S.rf
  have hR := hR0
  have hl := lv_entry [.ref q] (n := 1) (Nat.le_of_ble_eq_true rfl)
  rw [lg_entry_eq]
  generalize (lg_sl [.ref q] ++ List.replicate (1 - (lg_sl [.ref q]).length) Slot.unset).toArray = ls at hl ⊢
  have hl : lv_has ls 1 [(0, .ref q)] := hl
  refine lv_aload_n hx hb dJx35411_hasNext_aae02_0 rfl (lv_at hl 0 rfl) ?_
  refine va_get (D := (dC, dI)) (ci := 4) (v := .int 0) (C := RJx35411) (T := TJx35411) (N := 4) hx hb hts (by decide +kernel) hown hK hR 0 rfl rfl 0 (by decide) (hts (.fieldLink RJx35411 25 "java/util/ArrayList$Itr" "cursor" "I") (by decide +kernel)) (fun _ h9 => h9) rfl dJx35411_hasNext_aae02_1 ?_
  refine lv_aload_n hx hb dJx35411_hasNext_aae02_4 rfl (lv_at hl 0 rfl) ?_
  refine va_get (D := (dC, dI)) (ci := 4) (v := .ref li) (C := RJx35411) (T := TJx35411) (N := 4) hx hb hts (by decide +kernel) hown hK hR 0 rfl rfl 3 (by decide) (hts (.fieldLink RJx35411 1 "java/util/ArrayList$Itr" "this$0" "Ljava/util/ArrayList;") (by decide +kernel)) (fun _ h9 => h9) rfl dJx35411_hasNext_aae02_5 ?_
  refine va_getN (D := (dC, dI)) (ci := 5) (v := .int 0) (C := RJx4a65c) (T := TJx4a65c) (N := 3) hx hb hts (by decide +kernel) hown hK hR 1 rfl rfl 2 (by decide) (va_Nw.use rfl (hE.nf ("java/util/ArrayList$Itr", 28, "java/util/ArrayList", "size", "I", "java/util/ArrayList") (by decide +kernel))) (fun _ h9 => h9) rfl dJx35411_hasNext_aae02_8 ?_
  refine lv_icmp_eq (tgt := 18) hx hb dJx35411_hasNext_aae02_11 (by decide) (fun c_1 => ?_) (fun c_1 => absurd c_1 (by decide))
  refine lv_iconst (v := 0) hx hb dJx35411_hasNext_aae02_18 (by decide) ?_
  refine W.widen (k := 0) (n := 0) (Nat.le_of_ble_eq_true rfl) (Nat.le_of_ble_eq_true rfl) ?_
  exact W.zret (v := 0) hx hb hr (by first | rfl | decide +kernel) (fun t ht hW => ⟨⟨0, (), rfl, (z_c_X18_fails_14), trivial⟩, hS.F ht⟩) hS.2.2 dJx35411_hasNext_aae02_19

set_option maxHeartbeats 4000000 in
set_option maxRecDepth 100000 in
/-- ArrayList.grow(1) of a list as made -/
theorem c_growI (l : Launch) (dC : Nat → ClassId) (dI : Nat → Nat → Nat) (b0 : Nat) (en : EnT) (sz : Nat) (li : Nat) (mo n : Int32) : Met l yJx4a65c_grow_92f84 wsJx4a65c_grow_92f84 ({ frames := 1, cells := 1, slots := 10, locals := 40 } : Room) (cP b0 en (dC, dI) [] [(li, .inr (5, [.int mo, .ref en.2.2.1, .int n]))] [] sz (fun _ => True) [.ref li, .int 1]) (va_Qr (fun u : ClassId => True) (fun u r t => cB (dC, dI) [(u, .object "java/lang/Object")] [(li, .inr (5, [.int mo, .ref r, .int n])), (r, .inl (u, 10, .inr (.inr (.inr (.inr (fun _ => none))))))] (va_A [(li, .inr (5, [.int mo, .ref en.2.2.1, .int n]))] sz) (fun _ => True) t) (va_A [(li, .inr (5, [.int mo, .ref en.2.2.1, .int n]))] sz)) 1 10 (va_A [(li, .inr (5, [.int mo, .ref en.2.2.1, .int n]))] sz) := by
  refine Met.ofW (cc := cJx4a65c_grow_92f84) (maxL := 4) (ret := (some (.array (.object "java/lang/Object")))) (by decide) rfl ?_
  intro p e s m args below meth c s₁ B hml hv
  obtain ⟨rfl, hsz, hb0, hE, hPP, hK, hDD, hF0⟩ := hv
  have hx := B.exec
  have hb := B.bytes
  have hr := B.returns
  have hts := atoms_spec (ws := wsJx4a65c_grow_92f84) B.pre
  have hown : s.vm.findClass RJx4a65c = some m.cls := findClass_of_methodNamed B.named
  have hlocks := B.notSynchronized
  subst hsz
  have hN0 := en_N hPP hDD rfl
  have hP : va_P (dC, dI) vwCl [(li, .inr (5, [.int mo, .ref en.2.2.1, .int n]))] s.heap := hPP.sub [0] rfl
  have hR0 : va_P (dC, dI) vwCl [] s.heap := hPP.sub [] rfl
  have hD0 : va_D (fun q => b0 ≤ q) [(li, .inr (5, [.int mo, .ref en.2.2.1, .int n]))] := hDD.sub [0] (by decide) rfl
  have hDr : va_D (fun q => b0 ≤ q) [] := hDD.sub [] (by decide) rfl
  have hAb := en_A (sz := s.heap.size) hD0 hb0
  have hD := hD0.self (sz := s.heap.size)
  generalize hAe : va_A [(li, .inr (5, [.int mo, .ref en.2.2.1, .int n]))] s.heap.size = A at hD hAb hN0 ⊢
  have hA : ∀ q : Nat, s.heap.size ≤ q → A q := fun q h => by rw [← hAe]; exact Or.inr h
  have hS : va_S A s.heap s.heap [] := va_S.rf
  have hR := hR0
  have hl := lv_entry [.ref li, .int 1] (n := 4) (Nat.le_of_ble_eq_true rfl)
  rw [lg_entry_eq]
  generalize (lg_sl [.ref li, .int 1] ++ List.replicate (4 - (lg_sl [.ref li, .int 1]).length) Slot.unset).toArray = ls at hl ⊢
  have hl : lv_has ls 4 [(0, .ref li), (1, .int 1)] := hl
  refine lv_aload_n hx hb dJx4a65c_grow_92f84_0 rfl (lv_at hl 0 rfl) ?_
  refine va_get (D := (dC, dI)) (ci := 5) (v := .ref en.2.2.1) (C := RJx4a65c) (T := TJx4a65c) (N := 3) hx hb hts (by decide +kernel) hown hK hP 0 rfl rfl 1 (by decide) (hts (.fieldLink RJx4a65c 9 "java/util/ArrayList" "elementData" "[Ljava/lang/Object;") (by decide +kernel)) (fun _ h9 => h9) rfl dJx4a65c_grow_92f84_1 ?_
  refine va_tlen hx hb (hE.ea hAb) hS (v := 0) rfl dJx4a65c_grow_92f84_4 ?_
  refine lv_istore_n (lv' := [(2, .int 0), (0, .ref li), (1, .int 1)]) hx hb dJx4a65c_grow_92f84_5 rfl hl (by decide) rfl (fun ls hl => ?_)
  refine lv_iload_n hx hb dJx4a65c_grow_92f84_6 rfl (lv_at hl 0 rfl) ?_
  refine lv_if_gt (tgt := 20) hx hb dJx4a65c_grow_92f84_7 (by decide) (fun c_1 => absurd c_1 (by decide)) (fun c_1 => ?_)
  refine lv_aload_n hx hb dJx4a65c_grow_92f84_10 rfl (lv_at hl 1 rfl) ?_
  refine va_get (D := (dC, dI)) (ci := 5) (v := .ref en.2.2.1) (C := RJx4a65c) (T := TJx4a65c) (N := 3) hx hb hts (by decide +kernel) hown hK hP 0 rfl rfl 1 (by decide) (hts (.fieldLink RJx4a65c 9 "java/util/ArrayList" "elementData" "[Ljava/lang/Object;") (by decide +kernel)) (fun _ h9 => h9) rfl dJx4a65c_grow_92f84_11 ?_
  refine va_gets hx hb (hE.ee hAb) hS hown (hts (.fieldLink RJx4a65c 39 "java/util/ArrayList" "DEFAULTCAPACITY_EMPTY_ELEMENTDATA" "[Ljava/lang/Object;") (by decide +kernel)) (fun _ h9 => h9) dJx4a65c_grow_92f84_14 ?_
  refine lv_acmp_eq (rx := (some en.2.2.1)) (ry := (some en.2.2.1)) (tgt := 45) hx hb dJx4a65c_grow_92f84_17 (by decide) (fun _ => ?_) (fun h9 => absurd rfl h9)
  refine lv_aload_n hx hb dJx4a65c_grow_92f84_45 rfl (lv_at hl 1 rfl) ?_
  refine lv_bipush (v := 10) hx hb dJx4a65c_grow_92f84_46 (by decide) ?_
  refine lv_iload_n hx hb dJx4a65c_grow_92f84_48 rfl (lv_at hl 2 rfl) ?_
  refine va_mmax hx hb (hml.trans hl.1.symm) hown (hts (.methodLink RJx4a65c 79 Lib.Math.max.name) (by decide +kernel)) (hts (.static Lib.Math.max.name) (by decide +kernel)) (hts (.initialized "java/lang/Math") (by decide +kernel)) (hts (.code Lib.Math.max.name Lib.Math.max.code 2 (some .int)) (by decide +kernel)) (Nat.le_of_ble_eq_true rfl) (Nat.le_of_ble_eq_true rfl) (Nat.le_of_ble_eq_true rfl) (Nat.le_of_ble_eq_true rfl) dJx4a65c_grow_92f84_49 ?_
  refine lv_topi (fun x_2 ex_2 => ?_)
  obtain rfl : x_2 = 10 := ex_2.trans (by decide)
  refine va_newq (C := "java/lang/Object") (N' := 10) hx hb hown (hts (.classLink RJx4a65c 7 "java/lang/Object") (by decide +kernel)) (hE.arr (by decide +kernel)) hK hP hD hS hA (by decide) (by decide) (by decide) (Nat.le_of_ble_eq_true rfl) (Nat.le_of_ble_eq_true rfl) dJx4a65c_grow_92f84_52 (fun q_3 k_4 H hK hP hD hS => ?_)
  have hP : va_P (dC, dI) vwCl [(li, .inr (5, [.int mo, .ref en.2.2.1, .int n])), (q_3, .inl (k_4, 10, .inr (.inr (.inr (.inr (fun _ => none))))))] H := hP
  have hD : va_D A [(li, .inr (5, [.int mo, .ref en.2.2.1, .int n])), (q_3, .inl (k_4, 10, .inr (.inr (.inr (.inr (fun _ => none))))))] := hD
  have hR : va_P (dC, dI) vwCl [] H := fun k q h => by simp at h
  refine W.widen (k := 1) (n := 10) (Nat.le_of_ble_eq_true rfl) (Nat.le_of_ble_eq_true rfl) ?_
  refine lv_dup_x1 hx hb dJx4a65c_grow_92f84_55 rfl rfl ?_
  refine va_put (D := (dC, dI)) (ci := 5) (v := .ref q_3) (ty := .array (.object "java/lang/Object")) (C := RJx4a65c) (T := TJx4a65c) (N := 3) hx hb hts (by decide +kernel) tyJx4a65c tyJx4a65c_ok nmJx4a65c hown hK hP hD hS 0 rfl rfl 1 (by decide) (hts (.fieldLink RJx4a65c 9 "java/util/ArrayList" "elementData" "[Ljava/lang/Object;") (by decide +kernel)) (fun _ h9 => h9) rfl (by decide +kernel) rfl rfl (Nat.le_of_ble_eq_true rfl) dJx4a65c_grow_92f84_56 (fun H locs hP hD hS => ?_)
  have hP : va_P (dC, dI) vwCl [(li, .inr (5, [.int mo, .ref q_3, .int n])), (q_3, .inl (k_4, 10, .inr (.inr (.inr (.inr (fun _ => none))))))] H := hP
  have hD : va_D A [(li, .inr (5, [.int mo, .ref q_3, .int n])), (q_3, .inl (k_4, 10, .inr (.inr (.inr (.inr (fun _ => none))))))] := hD
  have hR : va_P (dC, dI) vwCl [] H := fun k q h => by simp at h
  refine W.widen (k := 1) (n := 10) (Nat.le_of_ble_eq_true rfl) (Nat.le_of_ble_eq_true rfl) ?_
  exact W.aret (v := .ref q_3) hx hb hr (by first | exact Or.inl ⟨_, rfl⟩ | exact Or.inr ⟨_, rfl⟩) (Or.inr ⟨_, rfl⟩) (fun t ht hW => ⟨⟨k_4, q_3, rfl, trivial, cB.mk ht hW (hP.sub [0, 1] rfl) (hK.sub [0] rfl) (hD.sub [0, 1] (by decide) rfl) (trivial)⟩, hS.F ht⟩) hS.2.2 dJx4a65c_grow_92f84_59

set_option maxHeartbeats 4000000 in
set_option maxRecDepth 100000 in
/-- ArrayList.grow() of a list as made -/
theorem c_grow (l : Launch) (dC : Nat → ClassId) (dI : Nat → Nat → Nat) (b0 : Nat) (en : EnT) (sz : Nat) (li : Nat) (mo : Int32) : Met l yJx4a65c_grow_d5877 wsJx4a65c_grow_d5877 ({ frames := 2, cells := 1, slots := 10, locals := 63 } : Room) (cP b0 en (dC, dI) [] [(li, .inr (5, [.int mo, .ref en.2.2.1, .int 0]))] [] sz (fun _ => True) [.ref li]) (va_Qr (fun u : ClassId => True) (fun u r t => cB (dC, dI) [(u, .object "java/lang/Object")] [(li, .inr (5, [.int mo, .ref r, .int 0])), (r, .inl (u, 10, .inr (.inr (.inr (.inr (fun _ => none))))))] (va_A [(li, .inr (5, [.int mo, .ref en.2.2.1, .int 0]))] sz) (fun _ => True) t) (va_A [(li, .inr (5, [.int mo, .ref en.2.2.1, .int 0]))] sz)) 1 10 (va_A [(li, .inr (5, [.int mo, .ref en.2.2.1, .int 0]))] sz) := by
  refine Met.ofW (cc := cJx4a65c_grow_d5877) (maxL := 1) (ret := (some (.array (.object "java/lang/Object")))) (by decide) rfl ?_
  intro p e s m args below meth c s₁ B hml hv
  obtain ⟨rfl, hsz, hb0, hE, hPP, hK, hDD, hF0⟩ := hv
  have hx := B.exec
  have hb := B.bytes
  have hr := B.returns
  have hts := atoms_spec (ws := wsJx4a65c_grow_d5877) B.pre
  have hown : s.vm.findClass RJx4a65c = some m.cls := findClass_of_methodNamed B.named
  have hlocks := B.notSynchronized
  subst hsz
  have hN0 := en_N hPP hDD rfl
  have hP : va_P (dC, dI) vwCl [(li, .inr (5, [.int mo, .ref en.2.2.1, .int 0]))] s.heap := hPP.sub [0] rfl
  have hR0 : va_P (dC, dI) vwCl [] s.heap := hPP.sub [] rfl
  have hD0 : va_D (fun q => b0 ≤ q) [(li, .inr (5, [.int mo, .ref en.2.2.1, .int 0]))] := hDD.sub [0] (by decide) rfl
  have hDr : va_D (fun q => b0 ≤ q) [] := hDD.sub [] (by decide) rfl
  have hAb := en_A (sz := s.heap.size) hD0 hb0
  have hD := hD0.self (sz := s.heap.size)
  generalize hAe : va_A [(li, .inr (5, [.int mo, .ref en.2.2.1, .int 0]))] s.heap.size = A at hD hAb hN0 ⊢
  have hA : ∀ q : Nat, s.heap.size ≤ q → A q := fun q h => by rw [← hAe]; exact Or.inr h
  have hS : va_S A s.heap s.heap [] := va_S.rf
  have hR := hR0
  have hl := lv_entry [.ref li] (n := 1) (Nat.le_of_ble_eq_true rfl)
  rw [lg_entry_eq]
  generalize (lg_sl [.ref li] ++ List.replicate (1 - (lg_sl [.ref li]).length) Slot.unset).toArray = ls at hl ⊢
  have hl : lv_has ls 1 [(0, .ref li)] := hl
  refine lv_aload_n hx hb dJx4a65c_grow_d5877_0 rfl (lv_at hl 0 rfl) ?_
  refine lv_aload_n hx hb dJx4a65c_grow_d5877_1 rfl (lv_at hl 0 rfl) ?_
  refine va_get (D := (dC, dI)) (ci := 5) (v := .int 0) (C := RJx4a65c) (T := TJx4a65c) (N := 3) hx hb hts (by decide +kernel) hown hK hP 0 rfl rfl 2 (by decide) (hts (.fieldLink RJx4a65c 48 "java/util/ArrayList" "size" "I") (by decide +kernel)) (fun _ h9 => h9) rfl dJx4a65c_grow_d5877_2 ?_
  refine lv_iconst (v := 1) hx hb dJx4a65c_grow_d5877_5 (by decide) ?_
  refine lv_iadd hx hb dJx4a65c_grow_d5877_6 ?_
  refine lv_topi (fun x_1 ex_1 => ?_)
  obtain rfl : x_1 = 1 := ex_1.trans (by decide)
  have hPc := (hP.app hR).sub (ws' := [(li, .inr (5, [.int mo, .ref en.2.2.1, .int 0]))] ++ []) [0] rfl
  have hDc := (en_DD hD hDr hN0 hAb).sub (ws' := [(li, .inr (5, [.int mo, .ref en.2.2.1, .int 0]))] ++ []) [0] (by decide) rfl
  have hKc := hK.sub (tys' := []) [] rfl
  have hFc := va_free (wc := [(li, .inr (5, [.int mo, .ref en.2.2.1, .int 0]))]) hD hS hA [0] rfl
  refine va_callr (va_runV (As := [.int 1]) (rest := []) ⟨hx, hb, hml, hown, hts⟩ (c_growI l dC dI b0 en s.heap.size li mo 0) (cwV 1 hts gJx4a65c_grow_d5877_Jx4a65c_grow_92f84 rfl rfl rfl (by decide +kernel) ⟨Nat.le_of_ble_eq_true rfl, Nat.le_of_ble_eq_true rfl⟩) ⟨cP.blind, va_recv hK hP (ci := 5) (q0 := 0) rfl rfl, cP.use (en_z hb0 hS) (hE.on hAb hS) hPc hKc hDc trivial⟩ rfl rfl hl.1 rfl (lv_room (Nat.le_of_ble_eq_true rfl)) dJx4a65c_grow_d5877_7 ⟨Nat.le_of_ble_eq_true rfl, Nat.le_of_ble_eq_true rfl⟩) hS (fun q _ h => hFc q h) hFc (fun u_2 r_3 t H1 locs ht hvm hw hB hz1 hk1 hS => ?_)
  obtain ⟨hP1, hK1, hD1, hF1⟩ := hB
  rw [ht] at hP1
  try rw [ht] at hF1
  have hK1 := va_K.moved hvm.symm hK1
  try dsimp only at hw
  obtain ⟨hP, hD⟩ := va_join (wr := []) (w1 := [(li, .inr (5, [.int mo, .ref r_3, .int 0])), (r_3, .inl (u_2, 10, .inr (.inr (.inr (.inr (fun _ => none))))))]) hP hD [0] [] rfl rfl (by decide) (by decide) hk1 hFc hP1 hD1
  have hK := hK.app hK1
  generalize H1 = H at hP hS ⊢
  have hP : va_P (dC, dI) vwCl [(li, .inr (5, [.int mo, .ref r_3, .int 0])), (r_3, .inl (u_2, 10, .inr (.inr (.inr (.inr (fun _ => none))))))] H := hP
  have hD : va_D A [(li, .inr (5, [.int mo, .ref r_3, .int 0])), (r_3, .inl (u_2, 10, .inr (.inr (.inr (.inr (fun _ => none))))))] := hD
  have hR : va_P (dC, dI) vwCl [] H := fun k q h => by simp at h
  refine W.widen (k := 1) (n := 10) (Nat.le_of_ble_eq_true rfl) (Nat.le_of_ble_eq_true rfl) ?_
  refine W.widen (k := 1) (n := 10) (Nat.le_of_ble_eq_true rfl) (Nat.le_of_ble_eq_true rfl) ?_
  exact W.aret (v := .ref r_3) hx hb hr (by first | exact Or.inl ⟨_, rfl⟩ | exact Or.inr ⟨_, rfl⟩) (Or.inr ⟨_, rfl⟩) (fun t ht hW => ⟨⟨u_2, r_3, rfl, trivial, cB.mk ht hW (hP.sub [0, 1] rfl) (hK.sub [0] rfl) (hD.sub [0, 1] (by decide) rfl) (trivial)⟩, hS.F ht⟩) hS.2.2 dJx4a65c_grow_d5877_10

set_option maxHeartbeats 4000000 in
set_option maxRecDepth 100000 in
/-- ArrayList.add(e, elementData, size): the first one -/
theorem c_add3o (l : Launch) (dC : Nat → ClassId) (dI : Nat → Nat → Nat) (b0 : Nat) (en : EnT) (sz : Nat) (li : Nat) (el ci : Nat) (vs : List Value) (rC : vw_C) (hci : vwCl[ci]? = some rC) (hcr : rC.1 ∈ en_O) : Met l yJx4a65c_add_72be8 wsJx4a65c_add_72be8 ({ frames := 3, cells := 1, slots := 10, locals := 83 } : Room) (cP b0 en (dC, dI) [] [(li, .inr (5, [.int 1, .ref en.2.2.1, .int 0]))] [(el, .inr (ci, vs))] sz (fun _ => True) [.ref li, .ref el, .ref en.2.2.1, .int 0]) (va_Qv (fun u : Nat × ClassId × (Nat → Option Nat) => True) (fun u t => cB (dC, dI) [(u.2.1, .object "java/lang/Object")] [(li, .inr (5, [.int 1, .ref u.1, .int 1])), (u.1, .inl (u.2.1, 10, .inr (.inr (.inr (.inr u.2.2)))))] (va_A [(li, .inr (5, [.int 1, .ref en.2.2.1, .int 0]))] sz) (fun _ => True) t) (va_A [(li, .inr (5, [.int 1, .ref en.2.2.1, .int 0]))] sz)) 1 10 (va_A [(li, .inr (5, [.int 1, .ref en.2.2.1, .int 0]))] sz) := by
  refine Met.ofW (cc := cJx4a65c_add_72be8) (maxL := 4) (ret := none) (by decide) rfl ?_
  intro p e s m args below meth c s₁ B hml hv
  obtain ⟨rfl, hsz, hb0, hE, hPP, hK, hDD, hF0⟩ := hv
  have hx := B.exec
  have hb := B.bytes
  have hr := B.returns
  have hts := atoms_spec (ws := wsJx4a65c_add_72be8) B.pre
  have hown : s.vm.findClass RJx4a65c = some m.cls := findClass_of_methodNamed B.named
  have hlocks := B.notSynchronized
  subst hsz
  have hN0 := en_N hPP hDD rfl
  have hP : va_P (dC, dI) vwCl [(li, .inr (5, [.int 1, .ref en.2.2.1, .int 0]))] s.heap := hPP.sub [0] rfl
  have hR0 : va_P (dC, dI) vwCl [(el, .inr (ci, vs))] s.heap := hPP.sub [1] rfl
  have hD0 : va_D (fun q => b0 ≤ q) [(li, .inr (5, [.int 1, .ref en.2.2.1, .int 0]))] := hDD.sub [0] (by decide) rfl
  have hDr : va_D (fun q => b0 ≤ q) [(el, .inr (ci, vs))] := hDD.sub [1] (by decide) rfl
  have hAb := en_A (sz := s.heap.size) hD0 hb0
  have hD := hD0.self (sz := s.heap.size)
  generalize hAe : va_A [(li, .inr (5, [.int 1, .ref en.2.2.1, .int 0]))] s.heap.size = A at hD hAb hN0 ⊢
  have hA : ∀ q : Nat, s.heap.size ≤ q → A q := fun q h => by rw [← hAe]; exact Or.inr h
  have hS : va_S A s.heap s.heap [] := va_S.rf
  have hR := hR0
  have hl := lv_entry [.ref li, .ref el, .ref en.2.2.1, .int 0] (n := 4) (Nat.le_of_ble_eq_true rfl)
  rw [lg_entry_eq]
  generalize (lg_sl [.ref li, .ref el, .ref en.2.2.1, .int 0] ++ List.replicate (4 - (lg_sl [.ref li, .ref el, .ref en.2.2.1, .int 0]).length) Slot.unset).toArray = ls at hl ⊢
  have hl : lv_has ls 4 [(0, .ref li), (1, .ref el), (2, .ref en.2.2.1), (3, .int 0)] := hl
  refine lv_iload_n hx hb dJx4a65c_add_72be8_0 rfl (lv_at hl 3 rfl) ?_
  refine lv_aload_n hx hb dJx4a65c_add_72be8_1 rfl (lv_at hl 2 rfl) ?_
  refine va_tlen hx hb (hE.ea hAb) hS (v := 0) rfl dJx4a65c_add_72be8_2 ?_
  refine lv_icmp_ne (tgt := 11) hx hb dJx4a65c_add_72be8_3 (by decide) (fun c_1 => absurd c_1 (by decide)) (fun c_1 => ?_)
  refine lv_aload_n hx hb dJx4a65c_add_72be8_6 rfl (lv_at hl 0 rfl) ?_
  have hPc := (hP.app hR).sub (ws' := [(li, .inr (5, [.int 1, .ref en.2.2.1, .int 0]))] ++ []) [0] rfl
  have hDc := (en_DD hD hDr hN0 hAb).sub (ws' := [(li, .inr (5, [.int 1, .ref en.2.2.1, .int 0]))] ++ []) [0] (by decide) rfl
  have hKc := hK.sub (tys' := []) [] rfl
  have hFc := va_free (wc := [(li, .inr (5, [.int 1, .ref en.2.2.1, .int 0]))]) hD hS hA [0] rfl
  refine va_callr (va_runV (As := []) (rest := []) ⟨hx, hb, hml, hown, hts⟩ (c_grow l dC dI b0 en s.heap.size li 1) (cwV 0 hts gJx4a65c_add_72be8_Jx4a65c_grow_d5877 rfl rfl rfl (by decide +kernel) ⟨Nat.le_of_ble_eq_true rfl, Nat.le_of_ble_eq_true rfl⟩) ⟨cP.blind, va_recv hK hP (ci := 5) (q0 := 0) rfl rfl, cP.use (en_z hb0 hS) (hE.on hAb hS) hPc hKc hDc trivial⟩ rfl rfl hl.1 rfl (lv_room (Nat.le_of_ble_eq_true rfl)) dJx4a65c_add_72be8_7 ⟨Nat.le_of_ble_eq_true rfl, Nat.le_of_ble_eq_true rfl⟩) hS (fun q _ h => hFc q h) hFc (fun u_2 r_3 t H1 locs ht hvm hw hB hz1 hk1 hS => ?_)
  obtain ⟨hP1, hK1, hD1, hF1⟩ := hB
  rw [ht] at hP1
  try rw [ht] at hF1
  have hK1 := va_K.moved hvm.symm hK1
  try dsimp only at hw
  obtain ⟨hP, hD⟩ := va_join (wr := []) (w1 := [(li, .inr (5, [.int 1, .ref r_3, .int 0])), (r_3, .inl (u_2, 10, .inr (.inr (.inr (.inr (fun _ => none))))))]) hP hD [0] [] rfl rfl (by decide) (by decide) hk1 hFc hP1 hD1
  have hK := hK.app hK1
  generalize H1 = H at hP hS ⊢
  have hP : va_P (dC, dI) vwCl [(li, .inr (5, [.int 1, .ref r_3, .int 0])), (r_3, .inl (u_2, 10, .inr (.inr (.inr (.inr (fun _ => none))))))] H := hP
  have hD : va_D A [(li, .inr (5, [.int 1, .ref r_3, .int 0])), (r_3, .inl (u_2, 10, .inr (.inr (.inr (.inr (fun _ => none))))))] := hD
  have hR := en_R hR0 hN0 hS
  refine W.widen (k := 1) (n := 10) (Nat.le_of_ble_eq_true rfl) (Nat.le_of_ble_eq_true rfl) ?_
  refine lv_astore_n (lv' := [(2, .ref r_3), (0, .ref li), (1, .ref el), (3, .int 0)]) hx hb dJx4a65c_add_72be8_10 rfl hl (by decide) rfl (fun ls hl => ?_)
  refine lv_aload_n hx hb dJx4a65c_add_72be8_11 rfl (lv_at hl 0 rfl) ?_
  refine lv_iload_n hx hb dJx4a65c_add_72be8_12 rfl (lv_at hl 3 rfl) ?_
  refine lv_aload_n hx hb dJx4a65c_add_72be8_13 rfl (lv_at hl 2 rfl) ?_
  refine va_astqM hx hb hK hP hD hS 1 0 rfl rfl (anyObj hK hR (q0 := 0) (ci := ci) rfl hci (hE.obj hcr)) (vp_in_nI (by decide : 0 < 10) (by decide)) dJx4a65c_add_72be8_14 (fun H locs hP hD hS => ?_)
  generalize ef_4 : va_up (fun _ => none) (0 : Int32).toNatClampNeg (some el) = f_4 at hP hD
  have hP : va_P (dC, dI) vwCl [(li, .inr (5, [.int 1, .ref r_3, .int 0])), (r_3, .inl (u_2, 10, .inr (.inr (.inr (.inr f_4)))))] H := hP
  have hD : va_D A [(li, .inr (5, [.int 1, .ref r_3, .int 0])), (r_3, .inl (u_2, 10, .inr (.inr (.inr (.inr f_4)))))] := hD
  have hR := en_R hR0 hN0 hS
  refine lv_aload_n hx hb dJx4a65c_add_72be8_15 rfl (lv_at hl 1 rfl) ?_
  refine lv_iload_n hx hb dJx4a65c_add_72be8_16 rfl (lv_at hl 3 rfl) ?_
  refine lv_iconst (v := 1) hx hb dJx4a65c_add_72be8_17 (by decide) ?_
  refine lv_iadd hx hb dJx4a65c_add_72be8_18 ?_
  refine lv_topi (fun x_5 ex_5 => ?_)
  obtain rfl : x_5 = 1 := ex_5.trans (by decide)
  refine va_put (D := (dC, dI)) (ci := 5) (v := .int 1) (ty := .int) (C := RJx4a65c) (T := TJx4a65c) (N := 3) hx hb hts (by decide +kernel) tyJx4a65c tyJx4a65c_ok nmJx4a65c hown hK hP hD hS 0 rfl rfl 2 (by decide) (hts (.fieldLink RJx4a65c 48 "java/util/ArrayList" "size" "I") (by decide +kernel)) (fun _ h9 => h9) rfl (by decide +kernel) rfl rfl (Nat.le_of_ble_eq_true rfl) dJx4a65c_add_72be8_19 (fun H locs hP hD hS => ?_)
  have hP : va_P (dC, dI) vwCl [(li, .inr (5, [.int 1, .ref r_3, .int 1])), (r_3, .inl (u_2, 10, .inr (.inr (.inr (.inr f_4)))))] H := hP
  have hD : va_D A [(li, .inr (5, [.int 1, .ref r_3, .int 1])), (r_3, .inl (u_2, 10, .inr (.inr (.inr (.inr f_4)))))] := hD
  have hR := en_R hR0 hN0 hS
  refine W.widen (k := 1) (n := 10) (Nat.le_of_ble_eq_true rfl) (Nat.le_of_ble_eq_true rfl) ?_
  exact W.vret hx hb hr (fun t ht hW => ⟨⟨⟨r_3, u_2, f_4⟩, rfl, trivial, cB.mk ht hW (hP.sub [0, 1] rfl) (hK.sub [0] rfl) (hD.sub [0, 1] (by decide) rfl) (trivial)⟩, hS.F ht⟩) hS.2.2 dJx4a65c_add_72be8_22

set_option maxHeartbeats 4000000 in
set_option maxRecDepth 100000 in
/-- ArrayList.add(e): the first one -/
theorem c_addo (l : Launch) (dC : Nat → ClassId) (dI : Nat → Nat → Nat) (b0 : Nat) (en : EnT) (sz : Nat) (li : Nat) (el ci : Nat) (vs : List Value) (rC : vw_C) (hci : vwCl[ci]? = some rC) (hcr : rC.1 ∈ en_O) : Met l yJx4a65c_add_9ea2d wsJx4a65c_add_9ea2d ({ frames := 4, cells := 1, slots := 10, locals := 106 } : Room) (cP b0 en (dC, dI) [] [(li, .inr (5, [.int 0, .ref en.2.2.1, .int 0]))] [(el, .inr (ci, vs))] sz (fun _ => True) [.ref li, .ref el]) (va_Qi (fun (r : Int32) (u : Nat × ClassId × (Nat → Option Nat)) => r = 1) (fun u t => cB (dC, dI) [(u.2.1, .object "java/lang/Object")] [(li, .inr (5, [.int 1, .ref u.1, .int 1])), (u.1, .inl (u.2.1, 10, .inr (.inr (.inr (.inr u.2.2)))))] (va_A [(li, .inr (5, [.int 0, .ref en.2.2.1, .int 0]))] sz) (fun _ => True) t) (va_A [(li, .inr (5, [.int 0, .ref en.2.2.1, .int 0]))] sz)) 1 10 (va_A [(li, .inr (5, [.int 0, .ref en.2.2.1, .int 0]))] sz) := by
  refine Met.ofW (cc := cJx4a65c_add_9ea2d) (maxL := 2) (ret := (some .boolean)) (by decide) rfl ?_
  intro p e s m args below meth c s₁ B hml hv
  obtain ⟨rfl, hsz, hb0, hE, hPP, hK, hDD, hF0⟩ := hv
  have hx := B.exec
  have hb := B.bytes
  have hr := B.returns
  have hts := atoms_spec (ws := wsJx4a65c_add_9ea2d) B.pre
  have hown : s.vm.findClass RJx4a65c = some m.cls := findClass_of_methodNamed B.named
  have hlocks := B.notSynchronized
  subst hsz
  have hN0 := en_N hPP hDD rfl
  have hP : va_P (dC, dI) vwCl [(li, .inr (5, [.int 0, .ref en.2.2.1, .int 0]))] s.heap := hPP.sub [0] rfl
  have hR0 : va_P (dC, dI) vwCl [(el, .inr (ci, vs))] s.heap := hPP.sub [1] rfl
  have hD0 : va_D (fun q => b0 ≤ q) [(li, .inr (5, [.int 0, .ref en.2.2.1, .int 0]))] := hDD.sub [0] (by decide) rfl
  have hDr : va_D (fun q => b0 ≤ q) [(el, .inr (ci, vs))] := hDD.sub [1] (by decide) rfl
  have hAb := en_A (sz := s.heap.size) hD0 hb0
  have hD := hD0.self (sz := s.heap.size)
  generalize hAe : va_A [(li, .inr (5, [.int 0, .ref en.2.2.1, .int 0]))] s.heap.size = A at hD hAb hN0 ⊢
  have hA : ∀ q : Nat, s.heap.size ≤ q → A q := fun q h => by rw [← hAe]; exact Or.inr h
  have hS : va_S A s.heap s.heap [] := va_S.rf
  have hR := hR0
  have hl := lv_entry [.ref li, .ref el] (n := 2) (Nat.le_of_ble_eq_true rfl)
  rw [lg_entry_eq]
  generalize (lg_sl [.ref li, .ref el] ++ List.replicate (2 - (lg_sl [.ref li, .ref el]).length) Slot.unset).toArray = ls at hl ⊢
  have hl : lv_has ls 2 [(0, .ref li), (1, .ref el)] := hl
  refine lv_aload_n hx hb dJx4a65c_add_9ea2d_0 rfl (lv_at hl 0 rfl) ?_
  refine lv_dup hx hb dJx4a65c_add_9ea2d_1 rfl ?_
  refine va_get (D := (dC, dI)) (ci := 5) (v := .int 0) (C := RJx4a65c) (T := TJx4a65c) (N := 3) hx hb hts (by decide +kernel) hown hK hP 0 rfl rfl 0 (by decide) (hts (.fieldLink RJx4a65c 63 "java/util/ArrayList" "modCount" "I") (by decide +kernel)) (fun x h9 => u_same (hts (.sameField "java/util/ArrayList" "java/util/AbstractList" "modCount" "I") (by decide +kernel)) x h9) rfl dJx4a65c_add_9ea2d_2 ?_
  refine lv_iconst (v := 1) hx hb dJx4a65c_add_9ea2d_5 (by decide) ?_
  refine lv_iadd hx hb dJx4a65c_add_9ea2d_6 ?_
  refine lv_topi (fun x_1 ex_1 => ?_)
  obtain rfl : x_1 = 1 := ex_1.trans (by decide)
  refine va_put (D := (dC, dI)) (ci := 5) (v := .int 1) (ty := .int) (C := RJx4a65c) (T := TJx4a65c) (N := 3) hx hb hts (by decide +kernel) tyJx4a65c tyJx4a65c_ok nmJx4a65c hown hK hP hD hS 0 rfl rfl 0 (by decide) (hts (.fieldLink RJx4a65c 63 "java/util/ArrayList" "modCount" "I") (by decide +kernel)) (fun x h9 => u_same (hts (.sameField "java/util/ArrayList" "java/util/AbstractList" "modCount" "I") (by decide +kernel)) x h9) rfl (by decide +kernel) rfl rfl (Nat.le_of_ble_eq_true rfl) dJx4a65c_add_9ea2d_7 (fun H locs hP hD hS => ?_)
  have hP : va_P (dC, dI) vwCl [(li, .inr (5, [.int 1, .ref en.2.2.1, .int 0]))] H := hP
  have hD : va_D A [(li, .inr (5, [.int 1, .ref en.2.2.1, .int 0]))] := hD
  have hR := en_R hR0 hN0 hS
  refine lv_aload_n hx hb dJx4a65c_add_9ea2d_10 rfl (lv_at hl 0 rfl) ?_
  refine lv_aload_n hx hb dJx4a65c_add_9ea2d_11 rfl (lv_at hl 1 rfl) ?_
  refine lv_aload_n hx hb dJx4a65c_add_9ea2d_12 rfl (lv_at hl 0 rfl) ?_
  refine va_get (D := (dC, dI)) (ci := 5) (v := .ref en.2.2.1) (C := RJx4a65c) (T := TJx4a65c) (N := 3) hx hb hts (by decide +kernel) hown hK hP 0 rfl rfl 1 (by decide) (hts (.fieldLink RJx4a65c 9 "java/util/ArrayList" "elementData" "[Ljava/lang/Object;") (by decide +kernel)) (fun _ h9 => h9) rfl dJx4a65c_add_9ea2d_13 ?_
  refine lv_aload_n hx hb dJx4a65c_add_9ea2d_16 rfl (lv_at hl 0 rfl) ?_
  refine va_get (D := (dC, dI)) (ci := 5) (v := .int 0) (C := RJx4a65c) (T := TJx4a65c) (N := 3) hx hb hts (by decide +kernel) hown hK hP 0 rfl rfl 2 (by decide) (hts (.fieldLink RJx4a65c 48 "java/util/ArrayList" "size" "I") (by decide +kernel)) (fun _ h9 => h9) rfl dJx4a65c_add_9ea2d_17 ?_
  have hPc := (hP.app hR).sub (ws' := [(li, .inr (5, [.int 1, .ref en.2.2.1, .int 0]))] ++ [(el, .inr (ci, vs))]) [0, 1] rfl
  have hDc := (en_DD hD hDr hN0 hAb).sub (ws' := [(li, .inr (5, [.int 1, .ref en.2.2.1, .int 0]))] ++ [(el, .inr (ci, vs))]) [0, 1] (by decide) rfl
  have hKc := hK.sub (tys' := []) [] rfl
  have hFc := va_free (wc := [(li, .inr (5, [.int 1, .ref en.2.2.1, .int 0]))]) hD hS hA [0] rfl
  refine va_callv (va_runV (As := [.ref el, .ref en.2.2.1, .int 0]) (rest := []) ⟨hx, hb, hml, hown, hts⟩ (c_add3o l dC dI b0 en H.size li el ci vs rC hci hcr) (cwV 3 hts gJx4a65c_add_9ea2d_Jx4a65c_add_72be8 rfl rfl rfl (by decide +kernel) ⟨Nat.le_of_ble_eq_true rfl, Nat.le_of_ble_eq_true rfl⟩) ⟨cP.blind, va_recv hK hP (ci := 5) (q0 := 0) rfl rfl, cP.use (en_z hb0 hS) (hE.on hAb hS) hPc hKc hDc trivial⟩ rfl rfl hl.1 rfl (lv_room (Nat.le_of_ble_eq_true rfl)) dJx4a65c_add_9ea2d_20 ⟨Nat.le_of_ble_eq_true rfl, Nat.le_of_ble_eq_true rfl⟩) hS (fun q _ h => hFc q h) hFc (fun u_2 t H1 locs ht hvm hw hB hz1 hk1 hS => ?_)
  obtain ⟨hP1, hK1, hD1, hF1⟩ := hB
  rw [ht] at hP1
  try rw [ht] at hF1
  have hK1 := va_K.moved hvm.symm hK1
  try dsimp only at hw
  obtain ⟨hP, hD⟩ := va_join (wr := []) (w1 := [(li, .inr (5, [.int 1, .ref u_2.1, .int 1])), (u_2.1, .inl (u_2.2.1, 10, .inr (.inr (.inr (.inr u_2.2.2)))))]) hP hD [0] [] rfl rfl (by decide) (by decide) hk1 hFc hP1 hD1
  have hK := hK.app hK1
  generalize H1 = H at hP hS ⊢
  have hP : va_P (dC, dI) vwCl [(li, .inr (5, [.int 1, .ref u_2.1, .int 1])), (u_2.1, .inl (u_2.2.1, 10, .inr (.inr (.inr (.inr u_2.2.2)))))] H := hP
  have hD : va_D A [(li, .inr (5, [.int 1, .ref u_2.1, .int 1])), (u_2.1, .inl (u_2.2.1, 10, .inr (.inr (.inr (.inr u_2.2.2)))))] := hD
  have hR := en_R hR0 hN0 hS
  refine W.widen (k := 1) (n := 10) (Nat.le_of_ble_eq_true rfl) (Nat.le_of_ble_eq_true rfl) ?_
  refine lv_iconst (v := 1) hx hb dJx4a65c_add_9ea2d_23 (by decide) ?_
  refine W.widen (k := 1) (n := 10) (Nat.le_of_ble_eq_true rfl) (Nat.le_of_ble_eq_true rfl) ?_
  exact W.zret (v := 1) hx hb hr (by first | rfl | decide +kernel) (fun t ht hW => ⟨⟨1, ⟨u_2.1, u_2.2.1, u_2.2.2⟩, rfl, (z_c_isEmpty0_22), cB.mk ht hW (hP.sub [0, 1] rfl) (hK.sub [0] rfl) (hD.sub [0, 1] (by decide) rfl) (trivial)⟩, hS.F ht⟩) hS.2.2 dJx4a65c_add_9ea2d_24

set_option maxHeartbeats 4000000 in
set_option maxRecDepth 100000 in
/-- ArrayList.add(e, elementData, size): the first one -/
theorem c_add3a (l : Launch) (dC : Nat → ClassId) (dI : Nat → Nat → Nat) (b0 : Nat) (en : EnT) (sz : Nat) (li : Nat) (el : Nat) (cE : ClassId) (ax : vp_A) : Met l yJx4a65c_add_72be8 wsJx4a65c_add_72be8 ({ frames := 3, cells := 1, slots := 10, locals := 83 } : Room) (cP b0 en (dC, dI) [(cE, .int)] [(li, .inr (5, [.int 1, .ref en.2.2.1, .int 0]))] [(el, .inl (cE, ax))] sz (fun _ => True) [.ref li, .ref el, .ref en.2.2.1, .int 0]) (va_Qv (fun u : Nat × ClassId × (Nat → Option Nat) => True) (fun u t => cB (dC, dI) [(u.2.1, .object "java/lang/Object")] [(li, .inr (5, [.int 1, .ref u.1, .int 1])), (u.1, .inl (u.2.1, 10, .inr (.inr (.inr (.inr u.2.2)))))] (va_A [(li, .inr (5, [.int 1, .ref en.2.2.1, .int 0]))] sz) (fun _ => True) t) (va_A [(li, .inr (5, [.int 1, .ref en.2.2.1, .int 0]))] sz)) 1 10 (va_A [(li, .inr (5, [.int 1, .ref en.2.2.1, .int 0]))] sz) := by
  refine Met.ofW (cc := cJx4a65c_add_72be8) (maxL := 4) (ret := none) (by decide) rfl ?_
  intro p e s m args below meth c s₁ B hml hv
  obtain ⟨rfl, hsz, hb0, hE, hPP, hK, hDD, hF0⟩ := hv
  have hx := B.exec
  have hb := B.bytes
  have hr := B.returns
  have hts := atoms_spec (ws := wsJx4a65c_add_72be8) B.pre
  have hown : s.vm.findClass RJx4a65c = some m.cls := findClass_of_methodNamed B.named
  have hlocks := B.notSynchronized
  subst hsz
  have hN0 := en_N hPP hDD rfl
  have hP : va_P (dC, dI) vwCl [(li, .inr (5, [.int 1, .ref en.2.2.1, .int 0]))] s.heap := hPP.sub [0] rfl
  have hR0 : va_P (dC, dI) vwCl [(el, .inl (cE, ax))] s.heap := hPP.sub [1] rfl
  have hD0 : va_D (fun q => b0 ≤ q) [(li, .inr (5, [.int 1, .ref en.2.2.1, .int 0]))] := hDD.sub [0] (by decide) rfl
  have hDr : va_D (fun q => b0 ≤ q) [(el, .inl (cE, ax))] := hDD.sub [1] (by decide) rfl
  have hAb := en_A (sz := s.heap.size) hD0 hb0
  have hD := hD0.self (sz := s.heap.size)
  generalize hAe : va_A [(li, .inr (5, [.int 1, .ref en.2.2.1, .int 0]))] s.heap.size = A at hD hAb hN0 ⊢
  have hA : ∀ q : Nat, s.heap.size ≤ q → A q := fun q h => by rw [← hAe]; exact Or.inr h
  have hS : va_S A s.heap s.heap [] := va_S.rf
  have hR := hR0
  have hl := lv_entry [.ref li, .ref el, .ref en.2.2.1, .int 0] (n := 4) (Nat.le_of_ble_eq_true rfl)
  rw [lg_entry_eq]
  generalize (lg_sl [.ref li, .ref el, .ref en.2.2.1, .int 0] ++ List.replicate (4 - (lg_sl [.ref li, .ref el, .ref en.2.2.1, .int 0]).length) Slot.unset).toArray = ls at hl ⊢
  have hl : lv_has ls 4 [(0, .ref li), (1, .ref el), (2, .ref en.2.2.1), (3, .int 0)] := hl
  refine lv_iload_n hx hb dJx4a65c_add_72be8_0 rfl (lv_at hl 3 rfl) ?_
  refine lv_aload_n hx hb dJx4a65c_add_72be8_1 rfl (lv_at hl 2 rfl) ?_
  refine va_tlen hx hb (hE.ea hAb) hS (v := 0) rfl dJx4a65c_add_72be8_2 ?_
  refine lv_icmp_ne (tgt := 11) hx hb dJx4a65c_add_72be8_3 (by decide) (fun c_1 => absurd c_1 (by decide)) (fun c_1 => ?_)
  refine lv_aload_n hx hb dJx4a65c_add_72be8_6 rfl (lv_at hl 0 rfl) ?_
  have hPc := (hP.app hR).sub (ws' := [(li, .inr (5, [.int 1, .ref en.2.2.1, .int 0]))] ++ []) [0] rfl
  have hDc := (en_DD hD hDr hN0 hAb).sub (ws' := [(li, .inr (5, [.int 1, .ref en.2.2.1, .int 0]))] ++ []) [0] (by decide) rfl
  have hKc := hK.sub (tys' := []) [] rfl
  have hFc := va_free (wc := [(li, .inr (5, [.int 1, .ref en.2.2.1, .int 0]))]) hD hS hA [0] rfl
  refine va_callr (va_runV (As := []) (rest := []) ⟨hx, hb, hml, hown, hts⟩ (c_grow l dC dI b0 en s.heap.size li 1) (cwV 0 hts gJx4a65c_add_72be8_Jx4a65c_grow_d5877 rfl rfl rfl (by decide +kernel) ⟨Nat.le_of_ble_eq_true rfl, Nat.le_of_ble_eq_true rfl⟩) ⟨cP.blind, va_recv hK hP (ci := 5) (q0 := 0) rfl rfl, cP.use (en_z hb0 hS) (hE.on hAb hS) hPc hKc hDc trivial⟩ rfl rfl hl.1 rfl (lv_room (Nat.le_of_ble_eq_true rfl)) dJx4a65c_add_72be8_7 ⟨Nat.le_of_ble_eq_true rfl, Nat.le_of_ble_eq_true rfl⟩) hS (fun q _ h => hFc q h) hFc (fun u_2 r_3 t H1 locs ht hvm hw hB hz1 hk1 hS => ?_)
  obtain ⟨hP1, hK1, hD1, hF1⟩ := hB
  rw [ht] at hP1
  try rw [ht] at hF1
  have hK1 := va_K.moved hvm.symm hK1
  try dsimp only at hw
  obtain ⟨hP, hD⟩ := va_join (wr := []) (w1 := [(li, .inr (5, [.int 1, .ref r_3, .int 0])), (r_3, .inl (u_2, 10, .inr (.inr (.inr (.inr (fun _ => none))))))]) hP hD [0] [] rfl rfl (by decide) (by decide) hk1 hFc hP1 hD1
  have hK := hK.app hK1
  generalize H1 = H at hP hS ⊢
  have hP : va_P (dC, dI) vwCl [(li, .inr (5, [.int 1, .ref r_3, .int 0])), (r_3, .inl (u_2, 10, .inr (.inr (.inr (.inr (fun _ => none))))))] H := hP
  have hD : va_D A [(li, .inr (5, [.int 1, .ref r_3, .int 0])), (r_3, .inl (u_2, 10, .inr (.inr (.inr (.inr (fun _ => none))))))] := hD
  have hR := en_R hR0 hN0 hS
  refine W.widen (k := 1) (n := 10) (Nat.le_of_ble_eq_true rfl) (Nat.le_of_ble_eq_true rfl) ?_
  refine lv_astore_n (lv' := [(2, .ref r_3), (0, .ref li), (1, .ref el), (3, .int 0)]) hx hb dJx4a65c_add_72be8_10 rfl hl (by decide) rfl (fun ls hl => ?_)
  refine lv_aload_n hx hb dJx4a65c_add_72be8_11 rfl (lv_at hl 0 rfl) ?_
  refine lv_iload_n hx hb dJx4a65c_add_72be8_12 rfl (lv_at hl 3 rfl) ?_
  refine lv_aload_n hx hb dJx4a65c_add_72be8_13 rfl (lv_at hl 2 rfl) ?_
  refine va_astqM hx hb hK hP hD hS 1 1 rfl rfl (anyArr hK hR (q0 := 0) (t0 := 0) rfl rfl (hE.obj (by decide +kernel))) (vp_in_nI (by decide : 0 < 10) (by decide)) dJx4a65c_add_72be8_14 (fun H locs hP hD hS => ?_)
  generalize ef_4 : va_up (fun _ => none) (0 : Int32).toNatClampNeg (some el) = f_4 at hP hD
  have hP : va_P (dC, dI) vwCl [(li, .inr (5, [.int 1, .ref r_3, .int 0])), (r_3, .inl (u_2, 10, .inr (.inr (.inr (.inr f_4)))))] H := hP
  have hD : va_D A [(li, .inr (5, [.int 1, .ref r_3, .int 0])), (r_3, .inl (u_2, 10, .inr (.inr (.inr (.inr f_4)))))] := hD
  have hR := en_R hR0 hN0 hS
  refine lv_aload_n hx hb dJx4a65c_add_72be8_15 rfl (lv_at hl 1 rfl) ?_
  refine lv_iload_n hx hb dJx4a65c_add_72be8_16 rfl (lv_at hl 3 rfl) ?_
  refine lv_iconst (v := 1) hx hb dJx4a65c_add_72be8_17 (by decide) ?_
  refine lv_iadd hx hb dJx4a65c_add_72be8_18 ?_
  refine lv_topi (fun x_5 ex_5 => ?_)
  obtain rfl : x_5 = 1 := ex_5.trans (by decide)
  refine va_put (D := (dC, dI)) (ci := 5) (v := .int 1) (ty := .int) (C := RJx4a65c) (T := TJx4a65c) (N := 3) hx hb hts (by decide +kernel) tyJx4a65c tyJx4a65c_ok nmJx4a65c hown hK hP hD hS 0 rfl rfl 2 (by decide) (hts (.fieldLink RJx4a65c 48 "java/util/ArrayList" "size" "I") (by decide +kernel)) (fun _ h9 => h9) rfl (by decide +kernel) rfl rfl (Nat.le_of_ble_eq_true rfl) dJx4a65c_add_72be8_19 (fun H locs hP hD hS => ?_)
  have hP : va_P (dC, dI) vwCl [(li, .inr (5, [.int 1, .ref r_3, .int 1])), (r_3, .inl (u_2, 10, .inr (.inr (.inr (.inr f_4)))))] H := hP
  have hD : va_D A [(li, .inr (5, [.int 1, .ref r_3, .int 1])), (r_3, .inl (u_2, 10, .inr (.inr (.inr (.inr f_4)))))] := hD
  have hR := en_R hR0 hN0 hS
  refine W.widen (k := 1) (n := 10) (Nat.le_of_ble_eq_true rfl) (Nat.le_of_ble_eq_true rfl) ?_
  exact W.vret hx hb hr (fun t ht hW => ⟨⟨⟨r_3, u_2, f_4⟩, rfl, trivial, cB.mk ht hW (hP.sub [0, 1] rfl) (hK.sub [1] rfl) (hD.sub [0, 1] (by decide) rfl) (trivial)⟩, hS.F ht⟩) hS.2.2 dJx4a65c_add_72be8_22

set_option maxHeartbeats 4000000 in
set_option maxRecDepth 100000 in
/-- ArrayList.add(e): the first one -/
theorem c_adda (l : Launch) (dC : Nat → ClassId) (dI : Nat → Nat → Nat) (b0 : Nat) (en : EnT) (sz : Nat) (li : Nat) (el : Nat) (cE : ClassId) (ax : vp_A) : Met l yJx4a65c_add_9ea2d wsJx4a65c_add_9ea2d ({ frames := 4, cells := 1, slots := 10, locals := 106 } : Room) (cP b0 en (dC, dI) [(cE, .int)] [(li, .inr (5, [.int 0, .ref en.2.2.1, .int 0]))] [(el, .inl (cE, ax))] sz (fun _ => True) [.ref li, .ref el]) (va_Qi (fun (r : Int32) (u : Nat × ClassId × (Nat → Option Nat)) => r = 1) (fun u t => cB (dC, dI) [(u.2.1, .object "java/lang/Object")] [(li, .inr (5, [.int 1, .ref u.1, .int 1])), (u.1, .inl (u.2.1, 10, .inr (.inr (.inr (.inr u.2.2)))))] (va_A [(li, .inr (5, [.int 0, .ref en.2.2.1, .int 0]))] sz) (fun _ => True) t) (va_A [(li, .inr (5, [.int 0, .ref en.2.2.1, .int 0]))] sz)) 1 10 (va_A [(li, .inr (5, [.int 0, .ref en.2.2.1, .int 0]))] sz) := by
  refine Met.ofW (cc := cJx4a65c_add_9ea2d) (maxL := 2) (ret := (some .boolean)) (by decide) rfl ?_
  intro p e s m args below meth c s₁ B hml hv
  obtain ⟨rfl, hsz, hb0, hE, hPP, hK, hDD, hF0⟩ := hv
  have hx := B.exec
  have hb := B.bytes
  have hr := B.returns
  have hts := atoms_spec (ws := wsJx4a65c_add_9ea2d) B.pre
  have hown : s.vm.findClass RJx4a65c = some m.cls := findClass_of_methodNamed B.named
  have hlocks := B.notSynchronized
  subst hsz
  have hN0 := en_N hPP hDD rfl
  have hP : va_P (dC, dI) vwCl [(li, .inr (5, [.int 0, .ref en.2.2.1, .int 0]))] s.heap := hPP.sub [0] rfl
  have hR0 : va_P (dC, dI) vwCl [(el, .inl (cE, ax))] s.heap := hPP.sub [1] rfl
  have hD0 : va_D (fun q => b0 ≤ q) [(li, .inr (5, [.int 0, .ref en.2.2.1, .int 0]))] := hDD.sub [0] (by decide) rfl
  have hDr : va_D (fun q => b0 ≤ q) [(el, .inl (cE, ax))] := hDD.sub [1] (by decide) rfl
  have hAb := en_A (sz := s.heap.size) hD0 hb0
  have hD := hD0.self (sz := s.heap.size)
  generalize hAe : va_A [(li, .inr (5, [.int 0, .ref en.2.2.1, .int 0]))] s.heap.size = A at hD hAb hN0 ⊢
  have hA : ∀ q : Nat, s.heap.size ≤ q → A q := fun q h => by rw [← hAe]; exact Or.inr h
  have hS : va_S A s.heap s.heap [] := va_S.rf
  have hR := hR0
  have hl := lv_entry [.ref li, .ref el] (n := 2) (Nat.le_of_ble_eq_true rfl)
  rw [lg_entry_eq]
  generalize (lg_sl [.ref li, .ref el] ++ List.replicate (2 - (lg_sl [.ref li, .ref el]).length) Slot.unset).toArray = ls at hl ⊢
  have hl : lv_has ls 2 [(0, .ref li), (1, .ref el)] := hl
  refine lv_aload_n hx hb dJx4a65c_add_9ea2d_0 rfl (lv_at hl 0 rfl) ?_
  refine lv_dup hx hb dJx4a65c_add_9ea2d_1 rfl ?_
  refine va_get (D := (dC, dI)) (ci := 5) (v := .int 0) (C := RJx4a65c) (T := TJx4a65c) (N := 3) hx hb hts (by decide +kernel) hown hK hP 0 rfl rfl 0 (by decide) (hts (.fieldLink RJx4a65c 63 "java/util/ArrayList" "modCount" "I") (by decide +kernel)) (fun x h9 => u_same (hts (.sameField "java/util/ArrayList" "java/util/AbstractList" "modCount" "I") (by decide +kernel)) x h9) rfl dJx4a65c_add_9ea2d_2 ?_
  refine lv_iconst (v := 1) hx hb dJx4a65c_add_9ea2d_5 (by decide) ?_
  refine lv_iadd hx hb dJx4a65c_add_9ea2d_6 ?_
  refine lv_topi (fun x_1 ex_1 => ?_)
  obtain rfl : x_1 = 1 := ex_1.trans (by decide)
  refine va_put (D := (dC, dI)) (ci := 5) (v := .int 1) (ty := .int) (C := RJx4a65c) (T := TJx4a65c) (N := 3) hx hb hts (by decide +kernel) tyJx4a65c tyJx4a65c_ok nmJx4a65c hown hK hP hD hS 0 rfl rfl 0 (by decide) (hts (.fieldLink RJx4a65c 63 "java/util/ArrayList" "modCount" "I") (by decide +kernel)) (fun x h9 => u_same (hts (.sameField "java/util/ArrayList" "java/util/AbstractList" "modCount" "I") (by decide +kernel)) x h9) rfl (by decide +kernel) rfl rfl (Nat.le_of_ble_eq_true rfl) dJx4a65c_add_9ea2d_7 (fun H locs hP hD hS => ?_)
  have hP : va_P (dC, dI) vwCl [(li, .inr (5, [.int 1, .ref en.2.2.1, .int 0]))] H := hP
  have hD : va_D A [(li, .inr (5, [.int 1, .ref en.2.2.1, .int 0]))] := hD
  have hR := en_R hR0 hN0 hS
  refine lv_aload_n hx hb dJx4a65c_add_9ea2d_10 rfl (lv_at hl 0 rfl) ?_
  refine lv_aload_n hx hb dJx4a65c_add_9ea2d_11 rfl (lv_at hl 1 rfl) ?_
  refine lv_aload_n hx hb dJx4a65c_add_9ea2d_12 rfl (lv_at hl 0 rfl) ?_
  refine va_get (D := (dC, dI)) (ci := 5) (v := .ref en.2.2.1) (C := RJx4a65c) (T := TJx4a65c) (N := 3) hx hb hts (by decide +kernel) hown hK hP 0 rfl rfl 1 (by decide) (hts (.fieldLink RJx4a65c 9 "java/util/ArrayList" "elementData" "[Ljava/lang/Object;") (by decide +kernel)) (fun _ h9 => h9) rfl dJx4a65c_add_9ea2d_13 ?_
  refine lv_aload_n hx hb dJx4a65c_add_9ea2d_16 rfl (lv_at hl 0 rfl) ?_
  refine va_get (D := (dC, dI)) (ci := 5) (v := .int 0) (C := RJx4a65c) (T := TJx4a65c) (N := 3) hx hb hts (by decide +kernel) hown hK hP 0 rfl rfl 2 (by decide) (hts (.fieldLink RJx4a65c 48 "java/util/ArrayList" "size" "I") (by decide +kernel)) (fun _ h9 => h9) rfl dJx4a65c_add_9ea2d_17 ?_
  have hPc := (hP.app hR).sub (ws' := [(li, .inr (5, [.int 1, .ref en.2.2.1, .int 0]))] ++ [(el, .inl (cE, ax))]) [0, 1] rfl
  have hDc := (en_DD hD hDr hN0 hAb).sub (ws' := [(li, .inr (5, [.int 1, .ref en.2.2.1, .int 0]))] ++ [(el, .inl (cE, ax))]) [0, 1] (by decide) rfl
  have hKc := hK.sub (tys' := [(cE, .int)]) [0] rfl
  have hFc := va_free (wc := [(li, .inr (5, [.int 1, .ref en.2.2.1, .int 0]))]) hD hS hA [0] rfl
  refine va_callv (va_runV (As := [.ref el, .ref en.2.2.1, .int 0]) (rest := []) ⟨hx, hb, hml, hown, hts⟩ (c_add3a l dC dI b0 en H.size li el cE ax) (cwV 3 hts gJx4a65c_add_9ea2d_Jx4a65c_add_72be8 rfl rfl rfl (by decide +kernel) ⟨Nat.le_of_ble_eq_true rfl, Nat.le_of_ble_eq_true rfl⟩) ⟨cP.blind, va_recv hK hP (ci := 5) (q0 := 0) rfl rfl, cP.use (en_z hb0 hS) (hE.on hAb hS) hPc hKc hDc trivial⟩ rfl rfl hl.1 rfl (lv_room (Nat.le_of_ble_eq_true rfl)) dJx4a65c_add_9ea2d_20 ⟨Nat.le_of_ble_eq_true rfl, Nat.le_of_ble_eq_true rfl⟩) hS (fun q _ h => hFc q h) hFc (fun u_2 t H1 locs ht hvm hw hB hz1 hk1 hS => ?_)
  obtain ⟨hP1, hK1, hD1, hF1⟩ := hB
  rw [ht] at hP1
  try rw [ht] at hF1
  have hK1 := va_K.moved hvm.symm hK1
  try dsimp only at hw
  obtain ⟨hP, hD⟩ := va_join (wr := []) (w1 := [(li, .inr (5, [.int 1, .ref u_2.1, .int 1])), (u_2.1, .inl (u_2.2.1, 10, .inr (.inr (.inr (.inr u_2.2.2)))))]) hP hD [0] [] rfl rfl (by decide) (by decide) hk1 hFc hP1 hD1
  have hK := hK.app hK1
  generalize H1 = H at hP hS ⊢
  have hP : va_P (dC, dI) vwCl [(li, .inr (5, [.int 1, .ref u_2.1, .int 1])), (u_2.1, .inl (u_2.2.1, 10, .inr (.inr (.inr (.inr u_2.2.2)))))] H := hP
  have hD : va_D A [(li, .inr (5, [.int 1, .ref u_2.1, .int 1])), (u_2.1, .inl (u_2.2.1, 10, .inr (.inr (.inr (.inr u_2.2.2)))))] := hD
  have hR := en_R hR0 hN0 hS
  refine W.widen (k := 1) (n := 10) (Nat.le_of_ble_eq_true rfl) (Nat.le_of_ble_eq_true rfl) ?_
  refine lv_iconst (v := 1) hx hb dJx4a65c_add_9ea2d_23 (by decide) ?_
  refine W.widen (k := 1) (n := 10) (Nat.le_of_ble_eq_true rfl) (Nat.le_of_ble_eq_true rfl) ?_
  exact W.zret (v := 1) hx hb hr (by first | rfl | decide +kernel) (fun t ht hW => ⟨⟨1, ⟨u_2.1, u_2.2.1, u_2.2.2⟩, rfl, (z_c_isEmpty0_22), cB.mk ht hW (hP.sub [0, 1] rfl) (hK.sub [1] rfl) (hD.sub [0, 1] (by decide) rfl) (trivial)⟩, hS.F ht⟩) hS.2.2 dJx4a65c_add_9ea2d_24

set_option maxHeartbeats 4000000 in
set_option maxRecDepth 100000 in
/-- ArrayList.add(e, elementData, size): the first one -/
theorem c_add3i (l : Launch) (dC : Nat → ClassId) (dI : Nat → Nat → Nat) (b0 : Nat) (en : EnT) (sz : Nat) (li : Nat) (j : Nat) (hj : j < 256) : Met l yJx4a65c_add_72be8 wsJx4a65c_add_72be8 ({ frames := 3, cells := 1, slots := 10, locals := 83 } : Room) (cP b0 en (dC, dI) [] [(li, .inr (5, [.int 1, .ref en.2.2.1, .int 0]))] [] sz (fun _ => True) [.ref li, .ref (en.2.2.2 (3 + j)), .ref en.2.2.1, .int 0]) (va_Qv (fun u : Nat × ClassId × (Nat → Option Nat) => True) (fun u t => cB (dC, dI) [(u.2.1, .object "java/lang/Object")] [(li, .inr (5, [.int 1, .ref u.1, .int 1])), (u.1, .inl (u.2.1, 10, .inr (.inr (.inr (.inr u.2.2)))))] (va_A [(li, .inr (5, [.int 1, .ref en.2.2.1, .int 0]))] sz) (fun _ => True) t) (va_A [(li, .inr (5, [.int 1, .ref en.2.2.1, .int 0]))] sz)) 1 10 (va_A [(li, .inr (5, [.int 1, .ref en.2.2.1, .int 0]))] sz) := by
  refine Met.ofW (cc := cJx4a65c_add_72be8) (maxL := 4) (ret := none) (by decide) rfl ?_
  intro p e s m args below meth c s₁ B hml hv
  obtain ⟨rfl, hsz, hb0, hE, hPP, hK, hDD, hF0⟩ := hv
  have hx := B.exec
  have hb := B.bytes
  have hr := B.returns
  have hts := atoms_spec (ws := wsJx4a65c_add_72be8) B.pre
  have hown : s.vm.findClass RJx4a65c = some m.cls := findClass_of_methodNamed B.named
  have hlocks := B.notSynchronized
  subst hsz
  have hN0 := en_N hPP hDD rfl
  have hP : va_P (dC, dI) vwCl [(li, .inr (5, [.int 1, .ref en.2.2.1, .int 0]))] s.heap := hPP.sub [0] rfl
  have hR0 : va_P (dC, dI) vwCl [] s.heap := hPP.sub [] rfl
  have hD0 : va_D (fun q => b0 ≤ q) [(li, .inr (5, [.int 1, .ref en.2.2.1, .int 0]))] := hDD.sub [0] (by decide) rfl
  have hDr : va_D (fun q => b0 ≤ q) [] := hDD.sub [] (by decide) rfl
  have hAb := en_A (sz := s.heap.size) hD0 hb0
  have hD := hD0.self (sz := s.heap.size)
  generalize hAe : va_A [(li, .inr (5, [.int 1, .ref en.2.2.1, .int 0]))] s.heap.size = A at hD hAb hN0 ⊢
  have hA : ∀ q : Nat, s.heap.size ≤ q → A q := fun q h => by rw [← hAe]; exact Or.inr h
  have hS : va_S A s.heap s.heap [] := va_S.rf
  have hR := hR0
  have hl := lv_entry [.ref li, .ref (en.2.2.2 (3 + j)), .ref en.2.2.1, .int 0] (n := 4) (Nat.le_of_ble_eq_true rfl)
  rw [lg_entry_eq]
  generalize (lg_sl [.ref li, .ref (en.2.2.2 (3 + j)), .ref en.2.2.1, .int 0] ++ List.replicate (4 - (lg_sl [.ref li, .ref (en.2.2.2 (3 + j)), .ref en.2.2.1, .int 0]).length) Slot.unset).toArray = ls at hl ⊢
  have hl : lv_has ls 4 [(0, .ref li), (1, .ref (en.2.2.2 (3 + j))), (2, .ref en.2.2.1), (3, .int 0)] := hl
  refine lv_iload_n hx hb dJx4a65c_add_72be8_0 rfl (lv_at hl 3 rfl) ?_
  refine lv_aload_n hx hb dJx4a65c_add_72be8_1 rfl (lv_at hl 2 rfl) ?_
  refine va_tlen hx hb (hE.ea hAb) hS (v := 0) rfl dJx4a65c_add_72be8_2 ?_
  refine lv_icmp_ne (tgt := 11) hx hb dJx4a65c_add_72be8_3 (by decide) (fun c_1 => absurd c_1 (by decide)) (fun c_1 => ?_)
  refine lv_aload_n hx hb dJx4a65c_add_72be8_6 rfl (lv_at hl 0 rfl) ?_
  have hPc := (hP.app hR).sub (ws' := [(li, .inr (5, [.int 1, .ref en.2.2.1, .int 0]))] ++ []) [0] rfl
  have hDc := (en_DD hD hDr hN0 hAb).sub (ws' := [(li, .inr (5, [.int 1, .ref en.2.2.1, .int 0]))] ++ []) [0] (by decide) rfl
  have hKc := hK.sub (tys' := []) [] rfl
  have hFc := va_free (wc := [(li, .inr (5, [.int 1, .ref en.2.2.1, .int 0]))]) hD hS hA [0] rfl
  refine va_callr (va_runV (As := []) (rest := []) ⟨hx, hb, hml, hown, hts⟩ (c_grow l dC dI b0 en s.heap.size li 1) (cwV 0 hts gJx4a65c_add_72be8_Jx4a65c_grow_d5877 rfl rfl rfl (by decide +kernel) ⟨Nat.le_of_ble_eq_true rfl, Nat.le_of_ble_eq_true rfl⟩) ⟨cP.blind, va_recv hK hP (ci := 5) (q0 := 0) rfl rfl, cP.use (en_z hb0 hS) (hE.on hAb hS) hPc hKc hDc trivial⟩ rfl rfl hl.1 rfl (lv_room (Nat.le_of_ble_eq_true rfl)) dJx4a65c_add_72be8_7 ⟨Nat.le_of_ble_eq_true rfl, Nat.le_of_ble_eq_true rfl⟩) hS (fun q _ h => hFc q h) hFc (fun u_2 r_3 t H1 locs ht hvm hw hB hz1 hk1 hS => ?_)
  obtain ⟨hP1, hK1, hD1, hF1⟩ := hB
  rw [ht] at hP1
  try rw [ht] at hF1
  have hK1 := va_K.moved hvm.symm hK1
  try dsimp only at hw
  obtain ⟨hP, hD⟩ := va_join (wr := []) (w1 := [(li, .inr (5, [.int 1, .ref r_3, .int 0])), (r_3, .inl (u_2, 10, .inr (.inr (.inr (.inr (fun _ => none))))))]) hP hD [0] [] rfl rfl (by decide) (by decide) hk1 hFc hP1 hD1
  have hK := hK.app hK1
  generalize H1 = H at hP hS ⊢
  have hP : va_P (dC, dI) vwCl [(li, .inr (5, [.int 1, .ref r_3, .int 0])), (r_3, .inl (u_2, 10, .inr (.inr (.inr (.inr (fun _ => none))))))] H := hP
  have hD : va_D A [(li, .inr (5, [.int 1, .ref r_3, .int 0])), (r_3, .inl (u_2, 10, .inr (.inr (.inr (.inr (fun _ => none))))))] := hD
  have hR : va_P (dC, dI) vwCl [] H := fun k q h => by simp at h
  refine W.widen (k := 1) (n := 10) (Nat.le_of_ble_eq_true rfl) (Nat.le_of_ble_eq_true rfl) ?_
  refine lv_astore_n (lv' := [(2, .ref r_3), (0, .ref li), (1, .ref (en.2.2.2 (3 + j))), (3, .int 0)]) hx hb dJx4a65c_add_72be8_10 rfl hl (by decide) rfl (fun ls hl => ?_)
  refine lv_aload_n hx hb dJx4a65c_add_72be8_11 rfl (lv_at hl 0 rfl) ?_
  refine lv_iload_n hx hb dJx4a65c_add_72be8_12 rfl (lv_at hl 3 rfl) ?_
  refine lv_aload_n hx hb dJx4a65c_add_72be8_13 rfl (lv_at hl 2 rfl) ?_
  refine va_astqM hx hb hK hP hD hS 1 0 rfl rfl (anyInt ((hE.io hAb).1 j hj) hS (hE.obj (by decide +kernel))) (vp_in_nI (by decide : 0 < 10) (by decide)) dJx4a65c_add_72be8_14 (fun H locs hP hD hS => ?_)
  generalize ef_4 : va_up (fun _ => none) (0 : Int32).toNatClampNeg (some (en.2.2.2 (3 + j))) = f_4 at hP hD
  have hP : va_P (dC, dI) vwCl [(li, .inr (5, [.int 1, .ref r_3, .int 0])), (r_3, .inl (u_2, 10, .inr (.inr (.inr (.inr f_4)))))] H := hP
  have hD : va_D A [(li, .inr (5, [.int 1, .ref r_3, .int 0])), (r_3, .inl (u_2, 10, .inr (.inr (.inr (.inr f_4)))))] := hD
  have hR : va_P (dC, dI) vwCl [] H := fun k q h => by simp at h
  refine lv_aload_n hx hb dJx4a65c_add_72be8_15 rfl (lv_at hl 1 rfl) ?_
  refine lv_iload_n hx hb dJx4a65c_add_72be8_16 rfl (lv_at hl 3 rfl) ?_
  refine lv_iconst (v := 1) hx hb dJx4a65c_add_72be8_17 (by decide) ?_
  refine lv_iadd hx hb dJx4a65c_add_72be8_18 ?_
  refine lv_topi (fun x_5 ex_5 => ?_)
  obtain rfl : x_5 = 1 := ex_5.trans (by decide)
  refine va_put (D := (dC, dI)) (ci := 5) (v := .int 1) (ty := .int) (C := RJx4a65c) (T := TJx4a65c) (N := 3) hx hb hts (by decide +kernel) tyJx4a65c tyJx4a65c_ok nmJx4a65c hown hK hP hD hS 0 rfl rfl 2 (by decide) (hts (.fieldLink RJx4a65c 48 "java/util/ArrayList" "size" "I") (by decide +kernel)) (fun _ h9 => h9) rfl (by decide +kernel) rfl rfl (Nat.le_of_ble_eq_true rfl) dJx4a65c_add_72be8_19 (fun H locs hP hD hS => ?_)
  have hP : va_P (dC, dI) vwCl [(li, .inr (5, [.int 1, .ref r_3, .int 1])), (r_3, .inl (u_2, 10, .inr (.inr (.inr (.inr f_4)))))] H := hP
  have hD : va_D A [(li, .inr (5, [.int 1, .ref r_3, .int 1])), (r_3, .inl (u_2, 10, .inr (.inr (.inr (.inr f_4)))))] := hD
  have hR : va_P (dC, dI) vwCl [] H := fun k q h => by simp at h
  refine W.widen (k := 1) (n := 10) (Nat.le_of_ble_eq_true rfl) (Nat.le_of_ble_eq_true rfl) ?_
  exact W.vret hx hb hr (fun t ht hW => ⟨⟨⟨r_3, u_2, f_4⟩, rfl, trivial, cB.mk ht hW (hP.sub [0, 1] rfl) (hK.sub [0] rfl) (hD.sub [0, 1] (by decide) rfl) (trivial)⟩, hS.F ht⟩) hS.2.2 dJx4a65c_add_72be8_22

set_option maxHeartbeats 4000000 in
set_option maxRecDepth 100000 in
/-- ArrayList.add(e): the first one -/
theorem c_addi (l : Launch) (dC : Nat → ClassId) (dI : Nat → Nat → Nat) (b0 : Nat) (en : EnT) (sz : Nat) (li : Nat) (j : Nat) (hj : j < 256) : Met l yJx4a65c_add_9ea2d wsJx4a65c_add_9ea2d ({ frames := 4, cells := 1, slots := 10, locals := 106 } : Room) (cP b0 en (dC, dI) [] [(li, .inr (5, [.int 0, .ref en.2.2.1, .int 0]))] [] sz (fun _ => True) [.ref li, .ref (en.2.2.2 (3 + j))]) (va_Qi (fun (r : Int32) (u : Nat × ClassId × (Nat → Option Nat)) => r = 1) (fun u t => cB (dC, dI) [(u.2.1, .object "java/lang/Object")] [(li, .inr (5, [.int 1, .ref u.1, .int 1])), (u.1, .inl (u.2.1, 10, .inr (.inr (.inr (.inr u.2.2)))))] (va_A [(li, .inr (5, [.int 0, .ref en.2.2.1, .int 0]))] sz) (fun _ => True) t) (va_A [(li, .inr (5, [.int 0, .ref en.2.2.1, .int 0]))] sz)) 1 10 (va_A [(li, .inr (5, [.int 0, .ref en.2.2.1, .int 0]))] sz) := by
  refine Met.ofW (cc := cJx4a65c_add_9ea2d) (maxL := 2) (ret := (some .boolean)) (by decide) rfl ?_
  intro p e s m args below meth c s₁ B hml hv
  obtain ⟨rfl, hsz, hb0, hE, hPP, hK, hDD, hF0⟩ := hv
  have hx := B.exec
  have hb := B.bytes
  have hr := B.returns
  have hts := atoms_spec (ws := wsJx4a65c_add_9ea2d) B.pre
  have hown : s.vm.findClass RJx4a65c = some m.cls := findClass_of_methodNamed B.named
  have hlocks := B.notSynchronized
  subst hsz
  have hN0 := en_N hPP hDD rfl
  have hP : va_P (dC, dI) vwCl [(li, .inr (5, [.int 0, .ref en.2.2.1, .int 0]))] s.heap := hPP.sub [0] rfl
  have hR0 : va_P (dC, dI) vwCl [] s.heap := hPP.sub [] rfl
  have hD0 : va_D (fun q => b0 ≤ q) [(li, .inr (5, [.int 0, .ref en.2.2.1, .int 0]))] := hDD.sub [0] (by decide) rfl
  have hDr : va_D (fun q => b0 ≤ q) [] := hDD.sub [] (by decide) rfl
  have hAb := en_A (sz := s.heap.size) hD0 hb0
  have hD := hD0.self (sz := s.heap.size)
  generalize hAe : va_A [(li, .inr (5, [.int 0, .ref en.2.2.1, .int 0]))] s.heap.size = A at hD hAb hN0 ⊢
  have hA : ∀ q : Nat, s.heap.size ≤ q → A q := fun q h => by rw [← hAe]; exact Or.inr h
  have hS : va_S A s.heap s.heap [] := va_S.rf
  have hR := hR0
  have hl := lv_entry [.ref li, .ref (en.2.2.2 (3 + j))] (n := 2) (Nat.le_of_ble_eq_true rfl)
  rw [lg_entry_eq]
  generalize (lg_sl [.ref li, .ref (en.2.2.2 (3 + j))] ++ List.replicate (2 - (lg_sl [.ref li, .ref (en.2.2.2 (3 + j))]).length) Slot.unset).toArray = ls at hl ⊢
  have hl : lv_has ls 2 [(0, .ref li), (1, .ref (en.2.2.2 (3 + j)))] := hl
  refine lv_aload_n hx hb dJx4a65c_add_9ea2d_0 rfl (lv_at hl 0 rfl) ?_
  refine lv_dup hx hb dJx4a65c_add_9ea2d_1 rfl ?_
  refine va_get (D := (dC, dI)) (ci := 5) (v := .int 0) (C := RJx4a65c) (T := TJx4a65c) (N := 3) hx hb hts (by decide +kernel) hown hK hP 0 rfl rfl 0 (by decide) (hts (.fieldLink RJx4a65c 63 "java/util/ArrayList" "modCount" "I") (by decide +kernel)) (fun x h9 => u_same (hts (.sameField "java/util/ArrayList" "java/util/AbstractList" "modCount" "I") (by decide +kernel)) x h9) rfl dJx4a65c_add_9ea2d_2 ?_
  refine lv_iconst (v := 1) hx hb dJx4a65c_add_9ea2d_5 (by decide) ?_
  refine lv_iadd hx hb dJx4a65c_add_9ea2d_6 ?_
  refine lv_topi (fun x_1 ex_1 => ?_)
  obtain rfl : x_1 = 1 := ex_1.trans (by decide)
  refine va_put (D := (dC, dI)) (ci := 5) (v := .int 1) (ty := .int) (C := RJx4a65c) (T := TJx4a65c) (N := 3) hx hb hts (by decide +kernel) tyJx4a65c tyJx4a65c_ok nmJx4a65c hown hK hP hD hS 0 rfl rfl 0 (by decide) (hts (.fieldLink RJx4a65c 63 "java/util/ArrayList" "modCount" "I") (by decide +kernel)) (fun x h9 => u_same (hts (.sameField "java/util/ArrayList" "java/util/AbstractList" "modCount" "I") (by decide +kernel)) x h9) rfl (by decide +kernel) rfl rfl (Nat.le_of_ble_eq_true rfl) dJx4a65c_add_9ea2d_7 (fun H locs hP hD hS => ?_)
  have hP : va_P (dC, dI) vwCl [(li, .inr (5, [.int 1, .ref en.2.2.1, .int 0]))] H := hP
  have hD : va_D A [(li, .inr (5, [.int 1, .ref en.2.2.1, .int 0]))] := hD
  have hR : va_P (dC, dI) vwCl [] H := fun k q h => by simp at h
  refine lv_aload_n hx hb dJx4a65c_add_9ea2d_10 rfl (lv_at hl 0 rfl) ?_
  refine lv_aload_n hx hb dJx4a65c_add_9ea2d_11 rfl (lv_at hl 1 rfl) ?_
  refine lv_aload_n hx hb dJx4a65c_add_9ea2d_12 rfl (lv_at hl 0 rfl) ?_
  refine va_get (D := (dC, dI)) (ci := 5) (v := .ref en.2.2.1) (C := RJx4a65c) (T := TJx4a65c) (N := 3) hx hb hts (by decide +kernel) hown hK hP 0 rfl rfl 1 (by decide) (hts (.fieldLink RJx4a65c 9 "java/util/ArrayList" "elementData" "[Ljava/lang/Object;") (by decide +kernel)) (fun _ h9 => h9) rfl dJx4a65c_add_9ea2d_13 ?_
  refine lv_aload_n hx hb dJx4a65c_add_9ea2d_16 rfl (lv_at hl 0 rfl) ?_
  refine va_get (D := (dC, dI)) (ci := 5) (v := .int 0) (C := RJx4a65c) (T := TJx4a65c) (N := 3) hx hb hts (by decide +kernel) hown hK hP 0 rfl rfl 2 (by decide) (hts (.fieldLink RJx4a65c 48 "java/util/ArrayList" "size" "I") (by decide +kernel)) (fun _ h9 => h9) rfl dJx4a65c_add_9ea2d_17 ?_
  have hPc := (hP.app hR).sub (ws' := [(li, .inr (5, [.int 1, .ref en.2.2.1, .int 0]))] ++ []) [0] rfl
  have hDc := (en_DD hD hDr hN0 hAb).sub (ws' := [(li, .inr (5, [.int 1, .ref en.2.2.1, .int 0]))] ++ []) [0] (by decide) rfl
  have hKc := hK.sub (tys' := []) [] rfl
  have hFc := va_free (wc := [(li, .inr (5, [.int 1, .ref en.2.2.1, .int 0]))]) hD hS hA [0] rfl
  refine va_callv (va_runV (As := [.ref (en.2.2.2 (3 + j)), .ref en.2.2.1, .int 0]) (rest := []) ⟨hx, hb, hml, hown, hts⟩ (c_add3i l dC dI b0 en H.size li j hj) (cwV 3 hts gJx4a65c_add_9ea2d_Jx4a65c_add_72be8 rfl rfl rfl (by decide +kernel) ⟨Nat.le_of_ble_eq_true rfl, Nat.le_of_ble_eq_true rfl⟩) ⟨cP.blind, va_recv hK hP (ci := 5) (q0 := 0) rfl rfl, cP.use (en_z hb0 hS) (hE.on hAb hS) hPc hKc hDc trivial⟩ rfl rfl hl.1 rfl (lv_room (Nat.le_of_ble_eq_true rfl)) dJx4a65c_add_9ea2d_20 ⟨Nat.le_of_ble_eq_true rfl, Nat.le_of_ble_eq_true rfl⟩) hS (fun q _ h => hFc q h) hFc (fun u_2 t H1 locs ht hvm hw hB hz1 hk1 hS => ?_)
  obtain ⟨hP1, hK1, hD1, hF1⟩ := hB
  rw [ht] at hP1
  try rw [ht] at hF1
  have hK1 := va_K.moved hvm.symm hK1
  try dsimp only at hw
  obtain ⟨hP, hD⟩ := va_join (wr := []) (w1 := [(li, .inr (5, [.int 1, .ref u_2.1, .int 1])), (u_2.1, .inl (u_2.2.1, 10, .inr (.inr (.inr (.inr u_2.2.2)))))]) hP hD [0] [] rfl rfl (by decide) (by decide) hk1 hFc hP1 hD1
  have hK := hK.app hK1
  generalize H1 = H at hP hS ⊢
  have hP : va_P (dC, dI) vwCl [(li, .inr (5, [.int 1, .ref u_2.1, .int 1])), (u_2.1, .inl (u_2.2.1, 10, .inr (.inr (.inr (.inr u_2.2.2)))))] H := hP
  have hD : va_D A [(li, .inr (5, [.int 1, .ref u_2.1, .int 1])), (u_2.1, .inl (u_2.2.1, 10, .inr (.inr (.inr (.inr u_2.2.2)))))] := hD
  have hR : va_P (dC, dI) vwCl [] H := fun k q h => by simp at h
  refine W.widen (k := 1) (n := 10) (Nat.le_of_ble_eq_true rfl) (Nat.le_of_ble_eq_true rfl) ?_
  refine lv_iconst (v := 1) hx hb dJx4a65c_add_9ea2d_23 (by decide) ?_
  refine W.widen (k := 1) (n := 10) (Nat.le_of_ble_eq_true rfl) (Nat.le_of_ble_eq_true rfl) ?_
  exact W.zret (v := 1) hx hb hr (by first | rfl | decide +kernel) (fun t ht hW => ⟨⟨1, ⟨u_2.1, u_2.2.1, u_2.2.2⟩, rfl, (z_c_isEmpty0_22), cB.mk ht hW (hP.sub [0, 1] rfl) (hK.sub [0] rfl) (hD.sub [0, 1] (by decide) rfl) (trivial)⟩, hS.F ht⟩) hS.2.2 dJx4a65c_add_9ea2d_24
