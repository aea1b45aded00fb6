theorem dX18_in_0 : decode cX18_in 0 = .ok (.iload_n 0, 1) := by decide +kernel
theorem dX18_in_1 : decode cX18_in 1 = .ok (.iload_n 1, 1) := by decide +kernel
theorem dX18_in_2 : decode cX18_in 2 = .ok (.if_icmp .lt 12, 3) := by decide +kernel
theorem dX18_in_14 : decode cX18_in 14 = .ok (.iconst 0, 1) := by decide +kernel
theorem dX18_in_15 : decode cX18_in 15 = .ok (.ireturn, 1) := by decide +kernel
theorem dX18_in_5 : decode cX18_in 5 = .ok (.iload_n 0, 1) := by decide +kernel
theorem dX18_in_6 : decode cX18_in 6 = .ok (.iload_n 2, 1) := by decide +kernel
theorem dX18_in_7 : decode cX18_in 7 = .ok (.if_icmp .gt 7, 3) := by decide +kernel
theorem dX18_in_10 : decode cX18_in 10 = .ok (.iconst 1, 1) := by decide +kernel
theorem dX18_in_11 : decode cX18_in 11 = .ok (.goto 4, 3) := by decide +kernel
theorem dX18_isPlace_0 : decode cX18_isPlace 0 = .ok (.iload_n 0, 1) := by decide +kernel
theorem dX18_isPlace_1 : decode cX18_isPlace 1 = .ok (.iconst 0, 1) := by decide +kernel
theorem dX18_isPlace_2 : decode cX18_isPlace 2 = .ok (.bipush 7, 2) := by decide +kernel
set_option maxRecDepth 20000 in
theorem ggX18_isPlace_X18_in : GoodIn wsX18_isPlace wsX18_in := goodIn_r _ [4] (by decide +kernel) (by decide +kernel)
set_option maxRecDepth 20000 in
theorem gX18_isPlace_X18_in : GoodIn wsX18_isPlace (va_wsS RX18 70 yX18_in wsX18_in) := goodIn_app (goodIn_of _ (by decide +kernel)) ggX18_isPlace_X18_in
theorem dX18_isPlace_4 : decode cX18_isPlace 4 = .ok (.invokestatic 70, 3) := by decide +kernel
theorem dX18_isPlace_7 : decode cX18_isPlace 7 = .ok (.ifCond .eq 16, 3) := by decide +kernel
theorem dX18_isPlace_23 : decode cX18_isPlace 23 = .ok (.iconst 0, 1) := by decide +kernel
theorem dX18_isPlace_24 : decode cX18_isPlace 24 = .ok (.ireturn, 1) := by decide +kernel
theorem dX18_isPlace_10 : decode cX18_isPlace 10 = .ok (.iload_n 1, 1) := by decide +kernel
theorem dX18_isPlace_11 : decode cX18_isPlace 11 = .ok (.iconst 0, 1) := by decide +kernel
theorem dX18_isPlace_12 : decode cX18_isPlace 12 = .ok (.iconst 5, 1) := by decide +kernel
theorem dX18_isPlace_13 : decode cX18_isPlace 13 = .ok (.invokestatic 70, 3) := by decide +kernel
theorem dX18_isPlace_16 : decode cX18_isPlace 16 = .ok (.ifCond .eq 7, 3) := by decide +kernel
theorem dX18_isPlace_19 : decode cX18_isPlace 19 = .ok (.iconst 1, 1) := by decide +kernel
theorem dX18_isPlace_20 : decode cX18_isPlace 20 = .ok (.goto 4, 3) := by decide +kernel
theorem dX18_areHabits_0 : decode cX18_areHabits 0 = .ok (.iload_n 0, 1) := by decide +kernel
theorem dX18_areHabits_1 : decode cX18_areHabits 1 = .ok (.iconst 0, 1) := by decide +kernel
theorem dX18_areHabits_2 : decode cX18_areHabits 2 = .ok (.bipush 99, 2) := by decide +kernel
set_option maxRecDepth 20000 in
theorem ggX18_areHabits_X18_in : GoodIn wsX18_areHabits wsX18_in := goodIn_r _ [4] (by decide +kernel) (by decide +kernel)
set_option maxRecDepth 20000 in
theorem gX18_areHabits_X18_in : GoodIn wsX18_areHabits (va_wsS RX18 70 yX18_in wsX18_in) := goodIn_app (goodIn_of _ (by decide +kernel)) ggX18_areHabits_X18_in
theorem dX18_areHabits_4 : decode cX18_areHabits 4 = .ok (.invokestatic 70, 3) := by decide +kernel
theorem dX18_areHabits_7 : decode cX18_areHabits 7 = .ok (.ifCond .eq 37, 3) := by decide +kernel
theorem dX18_areHabits_44 : decode cX18_areHabits 44 = .ok (.iconst 0, 1) := by decide +kernel
theorem dX18_areHabits_45 : decode cX18_areHabits 45 = .ok (.ireturn, 1) := by decide +kernel
theorem dX18_areHabits_10 : decode cX18_areHabits 10 = .ok (.iload_n 1, 1) := by decide +kernel
theorem dX18_areHabits_11 : decode cX18_areHabits 11 = .ok (.iconst 0, 1) := by decide +kernel
theorem dX18_areHabits_12 : decode cX18_areHabits 12 = .ok (.bipush 99, 2) := by decide +kernel
theorem dX18_areHabits_14 : decode cX18_areHabits 14 = .ok (.invokestatic 70, 3) := by decide +kernel
theorem dX18_areHabits_17 : decode cX18_areHabits 17 = .ok (.ifCond .eq 27, 3) := by decide +kernel
theorem dX18_areHabits_20 : decode cX18_areHabits 20 = .ok (.iload_n 2, 1) := by decide +kernel
theorem dX18_areHabits_21 : decode cX18_areHabits 21 = .ok (.iconst 0, 1) := by decide +kernel
theorem dX18_areHabits_22 : decode cX18_areHabits 22 = .ok (.bipush 99, 2) := by decide +kernel
theorem dX18_areHabits_24 : decode cX18_areHabits 24 = .ok (.invokestatic 70, 3) := by decide +kernel
theorem dX18_areHabits_27 : decode cX18_areHabits 27 = .ok (.ifCond .eq 17, 3) := by decide +kernel
theorem dX18_areHabits_30 : decode cX18_areHabits 30 = .ok (.iload_n 3, 1) := by decide +kernel
theorem dX18_areHabits_31 : decode cX18_areHabits 31 = .ok (.iconst 0, 1) := by decide +kernel
theorem dX18_areHabits_32 : decode cX18_areHabits 32 = .ok (.bipush 99, 2) := by decide +kernel
theorem dX18_areHabits_34 : decode cX18_areHabits 34 = .ok (.invokestatic 70, 3) := by decide +kernel
theorem dX18_areHabits_37 : decode cX18_areHabits 37 = .ok (.ifCond .eq 7, 3) := by decide +kernel
theorem dX18_areHabits_40 : decode cX18_areHabits 40 = .ok (.iconst 1, 1) := by decide +kernel
theorem dX18_areHabits_41 : decode cX18_areHabits 41 = .ok (.goto 4, 3) := by decide +kernel
theorem dX18_fails_0 : decode cX18_fails 0 = .ok (.aload_n 0, 1) := by decide +kernel
theorem dX18_fails_1 : decode cX18_fails 1 = .ok (.iload_n 1, 1) := by decide +kernel
theorem dX18_fails_2 : decode cX18_fails 2 = .ok (.putfield 67, 3) := by decide +kernel
theorem dX18_fails_5 : decode cX18_fails 5 = .ok (.iconst 0, 1) := by decide +kernel
theorem dX18_fails_6 : decode cX18_fails 6 = .ok (.ireturn, 1) := by decide +kernel
theorem dX18_failsBoolean_0 : decode cX18_failsBoolean 0 = .ok (.aload_n 0, 1) := by decide +kernel
theorem dX18_failsBoolean_1 : decode cX18_failsBoolean 1 = .ok (.iload_n 1, 1) := by decide +kernel
theorem dX18_failsBoolean_2 : decode cX18_failsBoolean 2 = .ok (.putfield 67, 3) := by decide +kernel
theorem dX18_failsBoolean_5 : decode cX18_failsBoolean 5 = .ok (.iconst 0, 1) := by decide +kernel
theorem dX18_failsBoolean_6 : decode cX18_failsBoolean 6 = .ok (.ireturn, 1) := by decide +kernel
theorem dX18_thrown_0 : decode cX18_thrown 0 = .ok (.aload_n 0, 1) := by decide +kernel
theorem dX18_thrown_1 : decode cX18_thrown 1 = .ok (.getfield 67, 3) := by decide +kernel
theorem dX18_thrown_4 : decode cX18_thrown 4 = .ok (.ireturn, 1) := by decide +kernel
theorem dX18_light_0 : decode cX18_light 0 = .ok (.aload_n 0, 1) := by decide +kernel
theorem dX18_light_1 : decode cX18_light 1 = .ok (.iconst 0, 1) := by decide +kernel
theorem dX18_light_2 : decode cX18_light 2 = .ok (.putfield 67, 3) := by decide +kernel
theorem dX18_light_5 : decode cX18_light 5 = .ok (.iload_n 1, 1) := by decide +kernel
theorem dX18_light_6 : decode cX18_light 6 = .ok (.iconst 0, 1) := by decide +kernel
theorem dX18_light_7 : decode cX18_light 7 = .ok (.bipush 9, 2) := by decide +kernel
set_option maxRecDepth 20000 in
theorem ggX18_light_X18_in : GoodIn wsX18_light wsX18_in := goodIn_r _ [6] (by decide +kernel) (by decide +kernel)
set_option maxRecDepth 20000 in
theorem gX18_light_X18_in : GoodIn wsX18_light (va_wsS RX18 70 yX18_in wsX18_in) := goodIn_app (goodIn_of _ (by decide +kernel)) ggX18_light_X18_in
theorem dX18_light_9 : decode cX18_light 9 = .ok (.invokestatic 70, 3) := by decide +kernel
theorem dX18_light_12 : decode cX18_light 12 = .ok (.ifCond .ne 9, 3) := by decide +kernel
theorem dX18_light_21 : decode cX18_light 21 = .ok (.aload_n 0, 1) := by decide +kernel
theorem dX18_light_22 : decode cX18_light 22 = .ok (.getfield 32, 3) := by decide +kernel
theorem dX18_light_25 : decode cX18_light 25 = .ok (.istore_n 2, 1) := by decide +kernel
theorem dX18_light_26 : decode cX18_light 26 = .ok (.aload_n 0, 1) := by decide +kernel
theorem dX18_light_27 : decode cX18_light 27 = .ok (.iload_n 1, 1) := by decide +kernel
theorem dX18_light_28 : decode cX18_light 28 = .ok (.putfield 32, 3) := by decide +kernel
theorem dX18_light_31 : decode cX18_light 31 = .ok (.iload_n 2, 1) := by decide +kernel
theorem dX18_light_32 : decode cX18_light 32 = .ok (.ireturn, 1) := by decide +kernel
theorem dX18_light_15 : decode cX18_light 15 = .ok (.aload_n 0, 1) := by decide +kernel
theorem dX18_light_16 : decode cX18_light 16 = .ok (.iconst 1, 1) := by decide +kernel
set_option maxRecDepth 20000 in
theorem ggX18_light_X18_fails : GoodIn wsX18_light wsX18_fails := goodIn_r _ [10, 1, 11, 12, 13, 14, 15, 16, 17, 18, 19, 20, 21, 22, 23, 24, 25, 26, 27] (by decide +kernel) (by decide +kernel)
set_option maxRecDepth 20000 in
theorem gX18_light_X18_fails : GoodIn wsX18_light (wsV RX18 88 RX18 yX18_fails wsX18_fails) := goodIn_app (goodIn_of _ (by decide +kernel)) ggX18_light_X18_fails
theorem dX18_light_17 : decode cX18_light 17 = .ok (.invokevirtual 88, 3) := by decide +kernel
theorem dX18_light_20 : decode cX18_light 20 = .ok (.ireturn, 1) := by decide +kernel
theorem dX18_damp_0 : decode cX18_damp 0 = .ok (.aload_n 0, 1) := by decide +kernel
theorem dX18_damp_1 : decode cX18_damp 1 = .ok (.iconst 0, 1) := by decide +kernel
theorem dX18_damp_2 : decode cX18_damp 2 = .ok (.putfield 67, 3) := by decide +kernel
theorem dX18_damp_5 : decode cX18_damp 5 = .ok (.iload_n 1, 1) := by decide +kernel
theorem dX18_damp_6 : decode cX18_damp 6 = .ok (.iconst 0, 1) := by decide +kernel
theorem dX18_damp_7 : decode cX18_damp 7 = .ok (.bipush 99, 2) := by decide +kernel
set_option maxRecDepth 20000 in
theorem ggX18_damp_X18_in : GoodIn wsX18_damp wsX18_in := goodIn_r _ [6] (by decide +kernel) (by decide +kernel)
set_option maxRecDepth 20000 in
theorem gX18_damp_X18_in : GoodIn wsX18_damp (va_wsS RX18 70 yX18_in wsX18_in) := goodIn_app (goodIn_of _ (by decide +kernel)) ggX18_damp_X18_in
theorem dX18_damp_9 : decode cX18_damp 9 = .ok (.invokestatic 70, 3) := by decide +kernel
theorem dX18_damp_12 : decode cX18_damp 12 = .ok (.ifCond .ne 9, 3) := by decide +kernel
theorem dX18_damp_21 : decode cX18_damp 21 = .ok (.aload_n 0, 1) := by decide +kernel
theorem dX18_damp_22 : decode cX18_damp 22 = .ok (.getfield 36, 3) := by decide +kernel
theorem dX18_damp_25 : decode cX18_damp 25 = .ok (.istore_n 2, 1) := by decide +kernel
theorem dX18_damp_26 : decode cX18_damp 26 = .ok (.aload_n 0, 1) := by decide +kernel
theorem dX18_damp_27 : decode cX18_damp 27 = .ok (.iload_n 1, 1) := by decide +kernel
theorem dX18_damp_28 : decode cX18_damp 28 = .ok (.putfield 36, 3) := by decide +kernel
theorem dX18_damp_31 : decode cX18_damp 31 = .ok (.iload_n 2, 1) := by decide +kernel
theorem dX18_damp_32 : decode cX18_damp 32 = .ok (.ireturn, 1) := by decide +kernel
theorem dX18_damp_15 : decode cX18_damp 15 = .ok (.aload_n 0, 1) := by decide +kernel
theorem dX18_damp_16 : decode cX18_damp 16 = .ok (.iconst 1, 1) := by decide +kernel
set_option maxRecDepth 20000 in
theorem ggX18_damp_X18_fails : GoodIn wsX18_damp wsX18_fails := goodIn_r _ [10, 1, 11, 12, 13, 14, 15, 16, 17, 18, 19, 20, 21, 22, 23, 24, 25, 26, 27] (by decide +kernel) (by decide +kernel)
set_option maxRecDepth 20000 in
theorem gX18_damp_X18_fails : GoodIn wsX18_damp (wsV RX18 88 RX18 yX18_fails wsX18_fails) := goodIn_app (goodIn_of _ (by decide +kernel)) ggX18_damp_X18_fails
theorem dX18_damp_17 : decode cX18_damp 17 = .ok (.invokevirtual 88, 3) := by decide +kernel
theorem dX18_damp_20 : decode cX18_damp 20 = .ok (.ireturn, 1) := by decide +kernel
theorem dX18_original_0 : decode cX18_original 0 = .ok (.aload_n 0, 1) := by decide +kernel
theorem dX18_original_1 : decode cX18_original 1 = .ok (.iconst 0, 1) := by decide +kernel
theorem dX18_original_2 : decode cX18_original 2 = .ok (.putfield 67, 3) := by decide +kernel
theorem dX18_original_5 : decode cX18_original 5 = .ok (.iload_n 1, 1) := by decide +kernel
theorem dX18_original_6 : decode cX18_original 6 = .ok (.iconst 0, 1) := by decide +kernel
theorem dX18_original_7 : decode cX18_original 7 = .ok (.sipush 9999, 3) := by decide +kernel
set_option maxRecDepth 20000 in
theorem ggX18_original_X18_in : GoodIn wsX18_original wsX18_in := goodIn_r _ [6] (by decide +kernel) (by decide +kernel)
set_option maxRecDepth 20000 in
theorem gX18_original_X18_in : GoodIn wsX18_original (va_wsS RX18 70 yX18_in wsX18_in) := goodIn_app (goodIn_of _ (by decide +kernel)) ggX18_original_X18_in
theorem dX18_original_10 : decode cX18_original 10 = .ok (.invokestatic 70, 3) := by decide +kernel
theorem dX18_original_13 : decode cX18_original 13 = .ok (.ifCond .ne 9, 3) := by decide +kernel
theorem dX18_original_22 : decode cX18_original 22 = .ok (.aload_n 0, 1) := by decide +kernel
theorem dX18_original_23 : decode cX18_original 23 = .ok (.getfield 46, 3) := by decide +kernel
theorem dX18_original_26 : decode cX18_original 26 = .ok (.istore_n 2, 1) := by decide +kernel
theorem dX18_original_27 : decode cX18_original 27 = .ok (.aload_n 0, 1) := by decide +kernel
theorem dX18_original_28 : decode cX18_original 28 = .ok (.iload_n 1, 1) := by decide +kernel
theorem dX18_original_29 : decode cX18_original 29 = .ok (.putfield 46, 3) := by decide +kernel
theorem dX18_original_32 : decode cX18_original 32 = .ok (.iload_n 2, 1) := by decide +kernel
theorem dX18_original_33 : decode cX18_original 33 = .ok (.ireturn, 1) := by decide +kernel
theorem dX18_original_16 : decode cX18_original 16 = .ok (.aload_n 0, 1) := by decide +kernel
theorem dX18_original_17 : decode cX18_original 17 = .ok (.iconst 1, 1) := by decide +kernel
set_option maxRecDepth 20000 in
theorem ggX18_original_X18_fails : GoodIn wsX18_original wsX18_fails := goodIn_r _ [10, 1, 11, 12, 13, 14, 15, 16, 17, 18, 19, 20, 21, 22, 23, 24, 25, 26, 27] (by decide +kernel) (by decide +kernel)
set_option maxRecDepth 20000 in
theorem gX18_original_X18_fails : GoodIn wsX18_original (wsV RX18 88 RX18 yX18_fails wsX18_fails) := goodIn_app (goodIn_of _ (by decide +kernel)) ggX18_original_X18_fails
theorem dX18_original_18 : decode cX18_original 18 = .ok (.invokevirtual 88, 3) := by decide +kernel
theorem dX18_original_21 : decode cX18_original 21 = .ok (.ireturn, 1) := by decide +kernel
theorem dX18_sign_0 : decode cX18_sign 0 = .ok (.aload_n 0, 1) := by decide +kernel
theorem dX18_sign_1 : decode cX18_sign 1 = .ok (.iconst 0, 1) := by decide +kernel
theorem dX18_sign_2 : decode cX18_sign 2 = .ok (.putfield 67, 3) := by decide +kernel
theorem dX18_sign_5 : decode cX18_sign 5 = .ok (.aload_n 0, 1) := by decide +kernel
theorem dX18_sign_6 : decode cX18_sign 6 = .ok (.getfield 273, 3) := by decide +kernel
theorem dX18_sign_9 : decode cX18_sign 9 = .ok (.ifCond .ne 7, 3) := by decide +kernel
theorem dX18_sign_12 : decode cX18_sign 12 = .ok (.iconst 1, 1) := by decide +kernel
theorem dX18_sign_13 : decode cX18_sign 13 = .ok (.goto 4, 3) := by decide +kernel
theorem dX18_sign_17 : decode cX18_sign 17 = .ok (.istore_n 1, 1) := by decide +kernel
theorem dX18_sign_18 : decode cX18_sign 18 = .ok (.aload_n 0, 1) := by decide +kernel
theorem dX18_sign_19 : decode cX18_sign 19 = .ok (.iconst 1, 1) := by decide +kernel
theorem dX18_sign_20 : decode cX18_sign 20 = .ok (.putfield 273, 3) := by decide +kernel
theorem dX18_sign_23 : decode cX18_sign 23 = .ok (.iload_n 1, 1) := by decide +kernel
theorem dX18_sign_24 : decode cX18_sign 24 = .ok (.ireturn, 1) := by decide +kernel
theorem dX18_isSound_0 : decode cX18_isSound 0 = .ok (.aload_n 0, 1) := by decide +kernel
theorem dX18_isSound_1 : decode cX18_isSound 1 = .ok (.iconst 0, 1) := by decide +kernel
theorem dX18_isSound_2 : decode cX18_isSound 2 = .ok (.putfield 67, 3) := by decide +kernel
theorem dX18_isSound_5 : decode cX18_isSound 5 = .ok (.iconst 1, 1) := by decide +kernel
theorem dX18_isSound_6 : decode cX18_isSound 6 = .ok (.ireturn, 1) := by decide +kernel
theorem z_c_X18_in0_0 (n : Int32) (a_0 : n < 0) : (0 : Int32) = 0 := by grind
theorem z_c_X18_in0_1 (n : Int32) (a_0 : ¬ n < 0) (a_1 : (-1) < n) : (0 : Int32) = 0 := by grind
theorem z_c_X18_in0_2 (n : Int32) (a_0 : ¬ n < 0) (a_1 : ¬ (-1) < n) : (1 : Int32) = 0 := by grind
set_option maxHeartbeats 4000000 in
set_option maxRecDepth 100000 in
/-- UnderpaintModel.in: nothing is in -/
theorem c_X18_in0 (l : Launch) (dC : Nat → ClassId) (dI : Nat → Nat → Nat) (b0 : Nat) (en : EnT) (sz : Nat) (n : Int32) : Met l yX18_in wsX18_in ({ frames := 0, cells := 0, slots := 0, locals := 0 } : Room) (cP b0 en (dC, dI) [] [] [] sz (fun _ => True) [.int n, .int 0, .int (-1)]) (va_Qi (fun (r : Int32) (_ : Unit) => r = 0) (fun _ _ => True) (va_A [] sz)) 0 0 (va_A [] sz) := by
  refine Met.ofW (cc := cX18_in) (maxL := 3) (ret := (some .boolean)) (by decide) rfl ?_
  intro p e s m args below meth c s₁ B hml hv
  obtain ⟨rfl, hsz, hb0, hE, hPP, hK, hDD, hF0⟩ := hv
  have hx := B.exec
  have hb := B.bytes
  have hr := B.returns
  have hts := atoms_spec (ws := wsX18_in) B.pre
  have hown : s.vm.findClass RX18 = some m.cls := findClass_of_methodNamed B.named
  have hlocks := B.notSynchronized
  subst hsz
  have hN0 := en_N hPP hDD rfl
  have hP : va_P (dC, dI) vwCl [] s.heap := hPP.sub [] rfl
  have hR0 : va_P (dC, dI) vwCl [] s.heap := hPP.sub [] rfl
  have hD0 : va_D (fun q => b0 ≤ q) [] := hDD.sub [] (by decide) rfl
  have hDr : va_D (fun q => b0 ≤ q) [] := hDD.sub [] (by decide) rfl
  have hAb := en_A (sz := s.heap.size) hD0 hb0
  have hD := hD0.self (sz := s.heap.size)
  generalize hAe : va_A [] s.heap.size = A at hD hAb hN0 ⊢
  have hA : ∀ q : Nat, s.heap.size ≤ q → A q := fun q h => by rw [← hAe]; exact Or.inr h
  have hS : va_S A s.heap s.heap [] := va_S.rf
  have hR := hR0
  have hl := lv_entry [.int n, .int 0, .int (-1)] (n := 3) (Nat.le_of_ble_eq_true rfl)
  rw [lg_entry_eq]
  generalize (lg_sl [.int n, .int 0, .int (-1)] ++ List.replicate (3 - (lg_sl [.int n, .int 0, .int (-1)]).length) Slot.unset).toArray = ls at hl ⊢
  have hl : lv_has ls 3 [(0, .int n), (1, .int 0), (2, .int (-1))] := hl
  refine lv_iload_n hx hb dX18_in_0 rfl (lv_at hl 0 rfl) ?_
  refine lv_iload_n hx hb dX18_in_1 rfl (lv_at hl 1 rfl) ?_
  refine lv_icmp_lt (tgt := 14) hx hb dX18_in_2 (by decide) (fun c_1 => ?_) (fun c_1 => ?_)
  · skip
    refine lv_iconst (v := 0) hx hb dX18_in_14 (by decide) ?_
    refine W.widen (k := 0) (n := 0) (Nat.le_of_ble_eq_true rfl) (Nat.le_of_ble_eq_true rfl) ?_
    exact W.zret (v := 0) hx hb hr (by first | rfl | decide +kernel) (fun t ht hW => ⟨⟨0, (), rfl, (z_c_X18_in0_0 n c_1), trivial⟩, hS.F ht⟩) hS.2.2 dX18_in_15
  · skip
    refine lv_iload_n hx hb dX18_in_5 rfl (lv_at hl 0 rfl) ?_
    refine lv_iload_n hx hb dX18_in_6 rfl (lv_at hl 2 rfl) ?_
    refine lv_icmp_gt (tgt := 14) hx hb dX18_in_7 (by decide) (fun c_2 => ?_) (fun c_2 => ?_)
    · skip
      refine lv_iconst (v := 0) hx hb dX18_in_14 (by decide) ?_
      refine W.widen (k := 0) (n := 0) (Nat.le_of_ble_eq_true rfl) (Nat.le_of_ble_eq_true rfl) ?_
      exact W.zret (v := 0) hx hb hr (by first | rfl | decide +kernel) (fun t ht hW => ⟨⟨0, (), rfl, (z_c_X18_in0_1 n c_1 c_2), trivial⟩, hS.F ht⟩) hS.2.2 dX18_in_15
    · skip
      refine lv_iconst (v := 1) hx hb dX18_in_10 (by decide) ?_
      refine lv_goto (tgt := 15) hx hb dX18_in_11 (by decide) ?_
      refine W.widen (k := 0) (n := 0) (Nat.le_of_ble_eq_true rfl) (Nat.le_of_ble_eq_true rfl) ?_
      exact W.zret (v := 1) hx hb hr (by first | rfl | decide +kernel) (fun t ht hW => ⟨⟨1, (), rfl, (z_c_X18_in0_2 n c_1 c_2), trivial⟩, hS.F ht⟩) hS.2.2 dX18_in_15
theorem z_c_X18_in_3 (n : Int32) (a : Int32) (b : Int32) (a_0 : n < a) : (0 : Int32) = if a ≤ n ∧ n ≤ b then 1 else 0 := by grind
theorem z_c_X18_in_4 (n : Int32) (a : Int32) (b : Int32) (a_0 : ¬ n < a) (a_1 : b < n) : (0 : Int32) = if a ≤ n ∧ n ≤ b then 1 else 0 := by grind
theorem z_c_X18_in_5 (n : Int32) (a : Int32) (b : Int32) (a_0 : ¬ n < a) (a_1 : ¬ b < n) : (1 : Int32) = if a ≤ n ∧ n ≤ b then 1 else 0 := by grind
set_option maxHeartbeats 4000000 in
set_option maxRecDepth 100000 in
/-- UnderpaintModel.in -/
theorem c_X18_in (l : Launch) (dC : Nat → ClassId) (dI : Nat → Nat → Nat) (b0 : Nat) (en : EnT) (sz : Nat) (n a b : Int32) : Met l yX18_in wsX18_in ({ frames := 0, cells := 0, slots := 0, locals := 0 } : Room) (cP b0 en (dC, dI) [] [] [] sz (fun _ => True) [.int n, .int a, .int b]) (va_Qi (fun (r : Int32) (_ : Unit) => r = if a ≤ n ∧ n ≤ b then 1 else 0) (fun _ _ => True) (va_A [] sz)) 0 0 (va_A [] sz) := by
  refine Met.ofW (cc := cX18_in) (maxL := 3) (ret := (some .boolean)) (by decide) rfl ?_
  intro p e s m args below meth c s₁ B hml hv
  obtain ⟨rfl, hsz, hb0, hE, hPP, hK, hDD, hF0⟩ := hv
  have hx := B.exec
  have hb := B.bytes
  have hr := B.returns
  have hts := atoms_spec (ws := wsX18_in) B.pre
  have hown : s.vm.findClass RX18 = some m.cls := findClass_of_methodNamed B.named
  have hlocks := B.notSynchronized
  subst hsz
  have hN0 := en_N hPP hDD rfl
  have hP : va_P (dC, dI) vwCl [] s.heap := hPP.sub [] rfl
  have hR0 : va_P (dC, dI) vwCl [] s.heap := hPP.sub [] rfl
  have hD0 : va_D (fun q => b0 ≤ q) [] := hDD.sub [] (by decide) rfl
  have hDr : va_D (fun q => b0 ≤ q) [] := hDD.sub [] (by decide) rfl
  have hAb := en_A (sz := s.heap.size) hD0 hb0
  have hD := hD0.self (sz := s.heap.size)
  generalize hAe : va_A [] s.heap.size = A at hD hAb hN0 ⊢
  have hA : ∀ q : Nat, s.heap.size ≤ q → A q := fun q h => by rw [← hAe]; exact Or.inr h
  have hS : va_S A s.heap s.heap [] := va_S.rf
  have hR := hR0
  have hl := lv_entry [.int n, .int a, .int b] (n := 3) (Nat.le_of_ble_eq_true rfl)
  rw [lg_entry_eq]
  generalize (lg_sl [.int n, .int a, .int b] ++ List.replicate (3 - (lg_sl [.int n, .int a, .int b]).length) Slot.unset).toArray = ls at hl ⊢
  have hl : lv_has ls 3 [(0, .int n), (1, .int a), (2, .int b)] := hl
  refine lv_iload_n hx hb dX18_in_0 rfl (lv_at hl 0 rfl) ?_
  refine lv_iload_n hx hb dX18_in_1 rfl (lv_at hl 1 rfl) ?_
  refine lv_icmp_lt (tgt := 14) hx hb dX18_in_2 (by decide) (fun c_1 => ?_) (fun c_1 => ?_)
  · skip
    refine lv_iconst (v := 0) hx hb dX18_in_14 (by decide) ?_
    refine W.widen (k := 0) (n := 0) (Nat.le_of_ble_eq_true rfl) (Nat.le_of_ble_eq_true rfl) ?_
    exact W.zret (v := 0) hx hb hr (by first | rfl | decide +kernel) (fun t ht hW => ⟨⟨0, (), rfl, (z_c_X18_in_3 n a b c_1), trivial⟩, hS.F ht⟩) hS.2.2 dX18_in_15
  · skip
    refine lv_iload_n hx hb dX18_in_5 rfl (lv_at hl 0 rfl) ?_
    refine lv_iload_n hx hb dX18_in_6 rfl (lv_at hl 2 rfl) ?_
    refine lv_icmp_gt (tgt := 14) hx hb dX18_in_7 (by decide) (fun c_2 => ?_) (fun c_2 => ?_)
    · skip
      refine lv_iconst (v := 0) hx hb dX18_in_14 (by decide) ?_
      refine W.widen (k := 0) (n := 0) (Nat.le_of_ble_eq_true rfl) (Nat.le_of_ble_eq_true rfl) ?_
      exact W.zret (v := 0) hx hb hr (by first | rfl | decide +kernel) (fun t ht hW => ⟨⟨0, (), rfl, (z_c_X18_in_4 n a b c_1 c_2), trivial⟩, hS.F ht⟩) hS.2.2 dX18_in_15
    · skip
      refine lv_iconst (v := 1) hx hb dX18_in_10 (by decide) ?_
      refine lv_goto (tgt := 15) hx hb dX18_in_11 (by decide) ?_
      refine W.widen (k := 0) (n := 0) (Nat.le_of_ble_eq_true rfl) (Nat.le_of_ble_eq_true rfl) ?_
      exact W.zret (v := 1) hx hb hr (by first | rfl | decide +kernel) (fun t ht hW => ⟨⟨1, (), rfl, (z_c_X18_in_5 n a b c_1 c_2), trivial⟩, hS.F ht⟩) hS.2.2 dX18_in_15
theorem z_c_X18_isPlace_6 (x : Int32) (y : Int32) (r_1 : Int32) (a_0 : r_1 = if 0 ≤ x ∧ x ≤ 7 then 1 else 0) (a_1 : r_1 = 0) : (0 : Int32) = if (0 ≤ x ∧ x < 8) ∧ (0 ≤ y ∧ y < 6) then 1 else 0 := by grind
theorem z_c_X18_isPlace_7 (x : Int32) (y : Int32) (r_1 : Int32) (r_4 : Int32) (a_0 : r_1 = if 0 ≤ x ∧ x ≤ 7 then 1 else 0) (a_1 : ¬ r_1 = 0) (a_2 : r_4 = if 0 ≤ y ∧ y ≤ 5 then 1 else 0) (a_3 : r_4 = 0) : (0 : Int32) = if (0 ≤ x ∧ x < 8) ∧ (0 ≤ y ∧ y < 6) then 1 else 0 := by grind
theorem z_c_X18_isPlace_8 (x : Int32) (y : Int32) (r_1 : Int32) (r_4 : Int32) (a_0 : r_1 = if 0 ≤ x ∧ x ≤ 7 then 1 else 0) (a_1 : ¬ r_1 = 0) (a_2 : r_4 = if 0 ≤ y ∧ y ≤ 5 then 1 else 0) (a_3 : ¬ r_4 = 0) : (1 : Int32) = if (0 ≤ x ∧ x < 8) ∧ (0 ≤ y ∧ y < 6) then 1 else 0 := by grind
set_option maxHeartbeats 4000000 in
set_option maxRecDepth 100000 in
/-- UnderpaintModel.isPlace -/
theorem c_X18_isPlace (l : Launch) (dC : Nat → ClassId) (dI : Nat → Nat → Nat) (b0 : Nat) (en : EnT) (sz : Nat) (x y : Int32) : Met l yX18_isPlace wsX18_isPlace ({ frames := 1, cells := 0, slots := 0, locals := 22 } : Room) (cP b0 en (dC, dI) [] [] [] sz (fun _ => True) [.int x, .int y]) (va_Qi (fun (r : Int32) (_ : Unit) => r = if (0 ≤ x ∧ x < 8) ∧ (0 ≤ y ∧ y < 6) then 1 else 0) (fun _ _ => True) (va_A [] sz)) 0 0 (va_A [] sz) := by
  refine Met.ofW (cc := cX18_isPlace) (maxL := 2) (ret := (some .boolean)) (by decide) rfl ?_
  intro p e s m args below meth c s₁ B hml hv
  obtain ⟨rfl, hsz, hb0, hE, hPP, hK, hDD, hF0⟩ := hv
  have hx := B.exec
  have hb := B.bytes
  have hr := B.returns
  have hts := atoms_spec (ws := wsX18_isPlace) B.pre
  have hown : s.vm.findClass RX18 = some m.cls := findClass_of_methodNamed B.named
  have hlocks := B.notSynchronized
  subst hsz
  have hN0 := en_N hPP hDD rfl
  have hP : va_P (dC, dI) vwCl [] s.heap := hPP.sub [] rfl
  have hR0 : va_P (dC, dI) vwCl [] s.heap := hPP.sub [] rfl
  have hD0 : va_D (fun q => b0 ≤ q) [] := hDD.sub [] (by decide) rfl
  have hDr : va_D (fun q => b0 ≤ q) [] := hDD.sub [] (by decide) rfl
  have hAb := en_A (sz := s.heap.size) hD0 hb0
  have hD := hD0.self (sz := s.heap.size)
  generalize hAe : va_A [] s.heap.size = A at hD hAb hN0 ⊢
  have hA : ∀ q : Nat, s.heap.size ≤ q → A q := fun q h => by rw [← hAe]; exact Or.inr h
  have hS : va_S A s.heap s.heap [] := va_S.rf
  have hR := hR0
  have hl := lv_entry [.int x, .int y] (n := 2) (Nat.le_of_ble_eq_true rfl)
  rw [lg_entry_eq]
  generalize (lg_sl [.int x, .int y] ++ List.replicate (2 - (lg_sl [.int x, .int y]).length) Slot.unset).toArray = ls at hl ⊢
  have hl : lv_has ls 2 [(0, .int x), (1, .int y)] := hl
  refine lv_iload_n hx hb dX18_isPlace_0 rfl (lv_at hl 0 rfl) ?_
  refine lv_iconst (v := 0) hx hb dX18_isPlace_1 (by decide) ?_
  refine lv_bipush (v := 7) hx hb dX18_isPlace_2 (by decide) ?_
  have hPc := (hP.app hR).sub (ws' := [] ++ []) [] rfl
  have hDc := (en_DD hD hDr hN0 hAb).sub (ws' := [] ++ []) [] (by decide) rfl
  have hKc := hK.sub (tys' := []) [] rfl
  have hFc := va_free (wc := []) hD hS hA [] rfl
  refine va_calli (va_runS (As := [.int x, .int 0, .int 7]) (rest := []) ⟨hx, hb, hml, hown, hts⟩ (c_X18_in l dC dI b0 en s.heap.size x 0 7) (va_cwS 3 hts gX18_isPlace_X18_in rfl rfl rfl (by decide +kernel) ⟨Nat.le_of_ble_eq_true rfl, Nat.le_of_ble_eq_true rfl⟩) ⟨cP.blind, cP.use (en_z hb0 hS) (hE.on hAb hS) hPc hKc hDc trivial⟩ rfl rfl hl.1 rfl (lv_room (Nat.le_of_ble_eq_true rfl)) dX18_isPlace_4 ⟨Nat.le_of_ble_eq_true rfl, Nat.le_of_ble_eq_true rfl⟩) hS (fun q _ h => hFc q h) hFc (fun r_1 u t H1 locs ht hvm hw hB hz1 hk1 hS => ?_)
  have hP1 : va_P (dC, dI) vwCl [] H1 := fun k q h => by simp at h
  have hD1 : va_D (va_A [] s.heap.size) [] := ⟨fun i j p q h => by simp at h, fun k q h => by simp at h⟩
  try dsimp only at hw
  obtain ⟨hP, hD⟩ := va_join (wr := []) (w1 := []) hP hD [] [] rfl rfl (by decide) (by decide) hk1 hFc hP1 hD1
  generalize H1 = H at hP hS ⊢
  have hP : va_P (dC, dI) vwCl [] H := hP
  have hD : va_D A [] := hD
  have hR : va_P (dC, dI) vwCl [] H := fun k q h => by simp at h
  refine W.widen (k := 0) (n := 0) (Nat.le_of_ble_eq_true rfl) (Nat.le_of_ble_eq_true rfl) ?_
  have h_2 := hw
  refine lv_if_eq (tgt := 23) hx hb dX18_isPlace_7 (by decide) (fun c_3 => ?_) (fun c_3 => ?_)
  · skip
    refine lv_iconst (v := 0) hx hb dX18_isPlace_23 (by decide) ?_
    refine W.widen (k := 0) (n := 0) (Nat.le_of_ble_eq_true rfl) (Nat.le_of_ble_eq_true rfl) ?_
    exact W.zret (v := 0) hx hb hr (by first | rfl | decide +kernel) (fun t ht hW => ⟨⟨0, (), rfl, (z_c_X18_isPlace_6 x y r_1 h_2 c_3), trivial⟩, hS.F ht⟩) hS.2.2 dX18_isPlace_24
  · skip
    refine lv_iload_n hx hb dX18_isPlace_10 rfl (lv_at hl 1 rfl) ?_
    refine lv_iconst (v := 0) hx hb dX18_isPlace_11 (by decide) ?_
    refine lv_iconst (v := 5) hx hb dX18_isPlace_12 (by decide) ?_
    have hPc := (hP.app hR).sub (ws' := [] ++ []) [] rfl
    have hDc := (en_DD hD hDr hN0 hAb).sub (ws' := [] ++ []) [] (by decide) rfl
    have hKc := hK.sub (tys' := []) [] rfl
    have hFc := va_free (wc := []) hD hS hA [] rfl
    refine va_calli (va_runS (As := [.int y, .int 0, .int 5]) (rest := []) ⟨hx, hb, hml, hown, hts⟩ (c_X18_in l dC dI b0 en H.size y 0 5) (va_cwS 3 hts gX18_isPlace_X18_in rfl rfl rfl (by decide +kernel) ⟨Nat.le_of_ble_eq_true rfl, Nat.le_of_ble_eq_true rfl⟩) ⟨cP.blind, cP.use (en_z hb0 hS) (hE.on hAb hS) hPc hKc hDc trivial⟩ rfl rfl hl.1 rfl (lv_room (Nat.le_of_ble_eq_true rfl)) dX18_isPlace_13 ⟨Nat.le_of_ble_eq_true rfl, Nat.le_of_ble_eq_true rfl⟩) hS (fun q _ h => hFc q h) hFc (fun r_4 u t H1 locs ht hvm hw hB hz1 hk1 hS => ?_)
    have hP1 : va_P (dC, dI) vwCl [] H1 := fun k q h => by simp at h
    have hD1 : va_D (va_A [] H.size) [] := ⟨fun i j p q h => by simp at h, fun k q h => by simp at h⟩
    try dsimp only at hw
    obtain ⟨hP, hD⟩ := va_join (wr := []) (w1 := []) hP hD [] [] rfl rfl (by decide) (by decide) hk1 hFc hP1 hD1
    generalize H1 = H at hP hS ⊢
    have hP : va_P (dC, dI) vwCl [] H := hP
    have hD : va_D A [] := hD
    have hR : va_P (dC, dI) vwCl [] H := fun k q h => by simp at h
    refine W.widen (k := 0) (n := 0) (Nat.le_of_ble_eq_true rfl) (Nat.le_of_ble_eq_true rfl) ?_
    have h_5 := hw
    refine lv_if_eq (tgt := 23) hx hb dX18_isPlace_16 (by decide) (fun c_6 => ?_) (fun c_6 => ?_)
    · skip
      refine lv_iconst (v := 0) hx hb dX18_isPlace_23 (by decide) ?_
      refine W.widen (k := 0) (n := 0) (Nat.le_of_ble_eq_true rfl) (Nat.le_of_ble_eq_true rfl) ?_
      exact W.zret (v := 0) hx hb hr (by first | rfl | decide +kernel) (fun t ht hW => ⟨⟨0, (), rfl, (z_c_X18_isPlace_7 x y r_1 r_4 h_2 c_3 h_5 c_6), trivial⟩, hS.F ht⟩) hS.2.2 dX18_isPlace_24
    · skip
      refine lv_iconst (v := 1) hx hb dX18_isPlace_19 (by decide) ?_
      refine lv_goto (tgt := 24) hx hb dX18_isPlace_20 (by decide) ?_
      refine W.widen (k := 0) (n := 0) (Nat.le_of_ble_eq_true rfl) (Nat.le_of_ble_eq_true rfl) ?_
      exact W.zret (v := 1) hx hb hr (by first | rfl | decide +kernel) (fun t ht hW => ⟨⟨1, (), rfl, (z_c_X18_isPlace_8 x y r_1 r_4 h_2 c_3 h_5 c_6), trivial⟩, hS.F ht⟩) hS.2.2 dX18_isPlace_24
theorem z_c_X18_areHabits_9 (a : Int32) (b : Int32) (c9 : Int32) (d : Int32) (r_1 : Int32) (a_0 : r_1 = if 0 ≤ a ∧ a ≤ 99 then 1 else 0) (a_1 : r_1 = 0) : (0 : Int32) = if (0 ≤ a ∧ a ≤ 99) ∧ (0 ≤ b ∧ b ≤ 99) ∧ (0 ≤ c9 ∧ c9 ≤ 99) ∧ (0 ≤ d ∧ d ≤ 99) then 1 else 0 := by grind
theorem z_c_X18_areHabits_10 (a : Int32) (b : Int32) (c9 : Int32) (d : Int32) (r_1 : Int32) (r_4 : Int32) (a_0 : r_1 = if 0 ≤ a ∧ a ≤ 99 then 1 else 0) (a_1 : ¬ r_1 = 0) (a_2 : r_4 = if 0 ≤ b ∧ b ≤ 99 then 1 else 0) (a_3 : r_4 = 0) : (0 : Int32) = if (0 ≤ a ∧ a ≤ 99) ∧ (0 ≤ b ∧ b ≤ 99) ∧ (0 ≤ c9 ∧ c9 ≤ 99) ∧ (0 ≤ d ∧ d ≤ 99) then 1 else 0 := by grind
theorem z_c_X18_areHabits_11 (a : Int32) (b : Int32) (c9 : Int32) (d : Int32) (r_1 : Int32) (r_4 : Int32) (r_7 : Int32) (a_0 : r_1 = if 0 ≤ a ∧ a ≤ 99 then 1 else 0) (a_1 : ¬ r_1 = 0) (a_2 : r_4 = if 0 ≤ b ∧ b ≤ 99 then 1 else 0) (a_3 : ¬ r_4 = 0) (a_4 : r_7 = if 0 ≤ c9 ∧ c9 ≤ 99 then 1 else 0) (a_5 : r_7 = 0) : (0 : Int32) = if (0 ≤ a ∧ a ≤ 99) ∧ (0 ≤ b ∧ b ≤ 99) ∧ (0 ≤ c9 ∧ c9 ≤ 99) ∧ (0 ≤ d ∧ d ≤ 99) then 1 else 0 := by grind
theorem z_c_X18_areHabits_12 (a : Int32) (b : Int32) (c9 : Int32) (d : Int32) (r_1 : Int32) (r_4 : Int32) (r_7 : Int32) (r_10 : Int32) (a_0 : r_1 = if 0 ≤ a ∧ a ≤ 99 then 1 else 0) (a_1 : ¬ r_1 = 0) (a_2 : r_4 = if 0 ≤ b ∧ b ≤ 99 then 1 else 0) (a_3 : ¬ r_4 = 0) (a_4 : r_7 = if 0 ≤ c9 ∧ c9 ≤ 99 then 1 else 0) (a_5 : ¬ r_7 = 0) (a_6 : r_10 = if 0 ≤ d ∧ d ≤ 99 then 1 else 0) (a_7 : r_10 = 0) : (0 : Int32) = if (0 ≤ a ∧ a ≤ 99) ∧ (0 ≤ b ∧ b ≤ 99) ∧ (0 ≤ c9 ∧ c9 ≤ 99) ∧ (0 ≤ d ∧ d ≤ 99) then 1 else 0 := by grind
theorem z_c_X18_areHabits_13 (a : Int32) (b : Int32) (c9 : Int32) (d : Int32) (r_1 : Int32) (r_4 : Int32) (r_7 : Int32) (r_10 : Int32) (a_0 : r_1 = if 0 ≤ a ∧ a ≤ 99 then 1 else 0) (a_1 : ¬ r_1 = 0) (a_2 : r_4 = if 0 ≤ b ∧ b ≤ 99 then 1 else 0) (a_3 : ¬ r_4 = 0) (a_4 : r_7 = if 0 ≤ c9 ∧ c9 ≤ 99 then 1 else 0) (a_5 : ¬ r_7 = 0) (a_6 : r_10 = if 0 ≤ d ∧ d ≤ 99 then 1 else 0) (a_7 : ¬ r_10 = 0) : (1 : Int32) = if (0 ≤ a ∧ a ≤ 99) ∧ (0 ≤ b ∧ b ≤ 99) ∧ (0 ≤ c9 ∧ c9 ≤ 99) ∧ (0 ≤ d ∧ d ≤ 99) then 1 else 0 := by grind
set_option maxHeartbeats 4000000 in
set_option maxRecDepth 100000 in
/-- UnderpaintModel.areHabits -/
theorem c_X18_areHabits (l : Launch) (dC : Nat → ClassId) (dI : Nat → Nat → Nat) (b0 : Nat) (en : EnT) (sz : Nat) (a b c9 d : Int32) : Met l yX18_areHabits wsX18_areHabits ({ frames := 1, cells := 0, slots := 0, locals := 22 } : Room) (cP b0 en (dC, dI) [] [] [] sz (fun _ => True) [.int a, .int b, .int c9, .int d]) (va_Qi (fun (r : Int32) (_ : Unit) => r = if (0 ≤ a ∧ a ≤ 99) ∧ (0 ≤ b ∧ b ≤ 99) ∧ (0 ≤ c9 ∧ c9 ≤ 99) ∧ (0 ≤ d ∧ d ≤ 99) then 1 else 0) (fun _ _ => True) (va_A [] sz)) 0 0 (va_A [] sz) := by
  refine Met.ofW (cc := cX18_areHabits) (maxL := 4) (ret := (some .boolean)) (by decide) rfl ?_
  intro p e s m args below meth c s₁ B hml hv
  obtain ⟨rfl, hsz, hb0, hE, hPP, hK, hDD, hF0⟩ := hv
  have hx := B.exec
  have hb := B.bytes
  have hr := B.returns
  have hts := atoms_spec (ws := wsX18_areHabits) B.pre
  have hown : s.vm.findClass RX18 = some m.cls := findClass_of_methodNamed B.named
  have hlocks := B.notSynchronized
  subst hsz
  have hN0 := en_N hPP hDD rfl
  have hP : va_P (dC, dI) vwCl [] s.heap := hPP.sub [] rfl
  have hR0 : va_P (dC, dI) vwCl [] s.heap := hPP.sub [] rfl
  have hD0 : va_D (fun q => b0 ≤ q) [] := hDD.sub [] (by decide) rfl
  have hDr : va_D (fun q => b0 ≤ q) [] := hDD.sub [] (by decide) rfl
  have hAb := en_A (sz := s.heap.size) hD0 hb0
  have hD := hD0.self (sz := s.heap.size)
  generalize hAe : va_A [] s.heap.size = A at hD hAb hN0 ⊢
  have hA : ∀ q : Nat, s.heap.size ≤ q → A q := fun q h => by rw [← hAe]; exact Or.inr h
  have hS : va_S A s.heap s.heap [] := va_S.rf
  have hR := hR0
  have hl := lv_entry [.int a, .int b, .int c9, .int d] (n := 4) (Nat.le_of_ble_eq_true rfl)
  rw [lg_entry_eq]
  generalize (lg_sl [.int a, .int b, .int c9, .int d] ++ List.replicate (4 - (lg_sl [.int a, .int b, .int c9, .int d]).length) Slot.unset).toArray = ls at hl ⊢
  have hl : lv_has ls 4 [(0, .int a), (1, .int b), (2, .int c9), (3, .int d)] := hl
  refine lv_iload_n hx hb dX18_areHabits_0 rfl (lv_at hl 0 rfl) ?_
  refine lv_iconst (v := 0) hx hb dX18_areHabits_1 (by decide) ?_
  refine lv_bipush (v := 99) hx hb dX18_areHabits_2 (by decide) ?_
  have hPc := (hP.app hR).sub (ws' := [] ++ []) [] rfl
  have hDc := (en_DD hD hDr hN0 hAb).sub (ws' := [] ++ []) [] (by decide) rfl
  have hKc := hK.sub (tys' := []) [] rfl
  have hFc := va_free (wc := []) hD hS hA [] rfl
  refine va_calli (va_runS (As := [.int a, .int 0, .int 99]) (rest := []) ⟨hx, hb, hml, hown, hts⟩ (c_X18_in l dC dI b0 en s.heap.size a 0 99) (va_cwS 3 hts gX18_areHabits_X18_in rfl rfl rfl (by decide +kernel) ⟨Nat.le_of_ble_eq_true rfl, Nat.le_of_ble_eq_true rfl⟩) ⟨cP.blind, cP.use (en_z hb0 hS) (hE.on hAb hS) hPc hKc hDc trivial⟩ rfl rfl hl.1 rfl (lv_room (Nat.le_of_ble_eq_true rfl)) dX18_areHabits_4 ⟨Nat.le_of_ble_eq_true rfl, Nat.le_of_ble_eq_true rfl⟩) hS (fun q _ h => hFc q h) hFc (fun r_1 u t H1 locs ht hvm hw hB hz1 hk1 hS => ?_)
  have hP1 : va_P (dC, dI) vwCl [] H1 := fun k q h => by simp at h
  have hD1 : va_D (va_A [] s.heap.size) [] := ⟨fun i j p q h => by simp at h, fun k q h => by simp at h⟩
  try dsimp only at hw
  obtain ⟨hP, hD⟩ := va_join (wr := []) (w1 := []) hP hD [] [] rfl rfl (by decide) (by decide) hk1 hFc hP1 hD1
  generalize H1 = H at hP hS ⊢
  have hP : va_P (dC, dI) vwCl [] H := hP
  have hD : va_D A [] := hD
  have hR : va_P (dC, dI) vwCl [] H := fun k q h => by simp at h
  refine W.widen (k := 0) (n := 0) (Nat.le_of_ble_eq_true rfl) (Nat.le_of_ble_eq_true rfl) ?_
  have h_2 := hw
  refine lv_if_eq (tgt := 44) hx hb dX18_areHabits_7 (by decide) (fun c_3 => ?_) (fun c_3 => ?_)
  · skip
    refine lv_iconst (v := 0) hx hb dX18_areHabits_44 (by decide) ?_
    refine W.widen (k := 0) (n := 0) (Nat.le_of_ble_eq_true rfl) (Nat.le_of_ble_eq_true rfl) ?_
    exact W.zret (v := 0) hx hb hr (by first | rfl | decide +kernel) (fun t ht hW => ⟨⟨0, (), rfl, (z_c_X18_areHabits_9 a b c9 d r_1 h_2 c_3), trivial⟩, hS.F ht⟩) hS.2.2 dX18_areHabits_45
  · skip
    refine lv_iload_n hx hb dX18_areHabits_10 rfl (lv_at hl 1 rfl) ?_
    refine lv_iconst (v := 0) hx hb dX18_areHabits_11 (by decide) ?_
    refine lv_bipush (v := 99) hx hb dX18_areHabits_12 (by decide) ?_
    have hPc := (hP.app hR).sub (ws' := [] ++ []) [] rfl
    have hDc := (en_DD hD hDr hN0 hAb).sub (ws' := [] ++ []) [] (by decide) rfl
    have hKc := hK.sub (tys' := []) [] rfl
    have hFc := va_free (wc := []) hD hS hA [] rfl
    refine va_calli (va_runS (As := [.int b, .int 0, .int 99]) (rest := []) ⟨hx, hb, hml, hown, hts⟩ (c_X18_in l dC dI b0 en H.size b 0 99) (va_cwS 3 hts gX18_areHabits_X18_in rfl rfl rfl (by decide +kernel) ⟨Nat.le_of_ble_eq_true rfl, Nat.le_of_ble_eq_true rfl⟩) ⟨cP.blind, cP.use (en_z hb0 hS) (hE.on hAb hS) hPc hKc hDc trivial⟩ rfl rfl hl.1 rfl (lv_room (Nat.le_of_ble_eq_true rfl)) dX18_areHabits_14 ⟨Nat.le_of_ble_eq_true rfl, Nat.le_of_ble_eq_true rfl⟩) hS (fun q _ h => hFc q h) hFc (fun r_4 u t H1 locs ht hvm hw hB hz1 hk1 hS => ?_)
    have hP1 : va_P (dC, dI) vwCl [] H1 := fun k q h => by simp at h
    have hD1 : va_D (va_A [] H.size) [] := ⟨fun i j p q h => by simp at h, fun k q h => by simp at h⟩
    try dsimp only at hw
    obtain ⟨hP, hD⟩ := va_join (wr := []) (w1 := []) hP hD [] [] rfl rfl (by decide) (by decide) hk1 hFc hP1 hD1
    generalize H1 = H at hP hS ⊢
    have hP : va_P (dC, dI) vwCl [] H := hP
    have hD : va_D A [] := hD
    have hR : va_P (dC, dI) vwCl [] H := fun k q h => by simp at h
    refine W.widen (k := 0) (n := 0) (Nat.le_of_ble_eq_true rfl) (Nat.le_of_ble_eq_true rfl) ?_
    have h_5 := hw
    refine lv_if_eq (tgt := 44) hx hb dX18_areHabits_17 (by decide) (fun c_6 => ?_) (fun c_6 => ?_)
    · skip
      refine lv_iconst (v := 0) hx hb dX18_areHabits_44 (by decide) ?_
      refine W.widen (k := 0) (n := 0) (Nat.le_of_ble_eq_true rfl) (Nat.le_of_ble_eq_true rfl) ?_
      exact W.zret (v := 0) hx hb hr (by first | rfl | decide +kernel) (fun t ht hW => ⟨⟨0, (), rfl, (z_c_X18_areHabits_10 a b c9 d r_1 r_4 h_2 c_3 h_5 c_6), trivial⟩, hS.F ht⟩) hS.2.2 dX18_areHabits_45
    · skip
      refine lv_iload_n hx hb dX18_areHabits_20 rfl (lv_at hl 2 rfl) ?_
      refine lv_iconst (v := 0) hx hb dX18_areHabits_21 (by decide) ?_
      refine lv_bipush (v := 99) hx hb dX18_areHabits_22 (by decide) ?_
      have hPc := (hP.app hR).sub (ws' := [] ++ []) [] rfl
      have hDc := (en_DD hD hDr hN0 hAb).sub (ws' := [] ++ []) [] (by decide) rfl
      have hKc := hK.sub (tys' := []) [] rfl
      have hFc := va_free (wc := []) hD hS hA [] rfl
      refine va_calli (va_runS (As := [.int c9, .int 0, .int 99]) (rest := []) ⟨hx, hb, hml, hown, hts⟩ (c_X18_in l dC dI b0 en H.size c9 0 99) (va_cwS 3 hts gX18_areHabits_X18_in rfl rfl rfl (by decide +kernel) ⟨Nat.le_of_ble_eq_true rfl, Nat.le_of_ble_eq_true rfl⟩) ⟨cP.blind, cP.use (en_z hb0 hS) (hE.on hAb hS) hPc hKc hDc trivial⟩ rfl rfl hl.1 rfl (lv_room (Nat.le_of_ble_eq_true rfl)) dX18_areHabits_24 ⟨Nat.le_of_ble_eq_true rfl, Nat.le_of_ble_eq_true rfl⟩) hS (fun q _ h => hFc q h) hFc (fun r_7 u t H1 locs ht hvm hw hB hz1 hk1 hS => ?_)
      have hP1 : va_P (dC, dI) vwCl [] H1 := fun k q h => by simp at h
      have hD1 : va_D (va_A [] H.size) [] := ⟨fun i j p q h => by simp at h, fun k q h => by simp at h⟩
      try dsimp only at hw
      obtain ⟨hP, hD⟩ := va_join (wr := []) (w1 := []) hP hD [] [] rfl rfl (by decide) (by decide) hk1 hFc hP1 hD1
      generalize H1 = H at hP hS ⊢
      have hP : va_P (dC, dI) vwCl [] H := hP
      have hD : va_D A [] := hD
      have hR : va_P (dC, dI) vwCl [] H := fun k q h => by simp at h
      refine W.widen (k := 0) (n := 0) (Nat.le_of_ble_eq_true rfl) (Nat.le_of_ble_eq_true rfl) ?_
      have h_8 := hw
      refine lv_if_eq (tgt := 44) hx hb dX18_areHabits_27 (by decide) (fun c_9 => ?_) (fun c_9 => ?_)
      · skip
        refine lv_iconst (v := 0) hx hb dX18_areHabits_44 (by decide) ?_
        refine W.widen (k := 0) (n := 0) (Nat.le_of_ble_eq_true rfl) (Nat.le_of_ble_eq_true rfl) ?_
        exact W.zret (v := 0) hx hb hr (by first | rfl | decide +kernel) (fun t ht hW => ⟨⟨0, (), rfl, (z_c_X18_areHabits_11 a b c9 d r_1 r_4 r_7 h_2 c_3 h_5 c_6 h_8 c_9), trivial⟩, hS.F ht⟩) hS.2.2 dX18_areHabits_45
      · skip
        refine lv_iload_n hx hb dX18_areHabits_30 rfl (lv_at hl 3 rfl) ?_
        refine lv_iconst (v := 0) hx hb dX18_areHabits_31 (by decide) ?_
        refine lv_bipush (v := 99) hx hb dX18_areHabits_32 (by decide) ?_
        have hPc := (hP.app hR).sub (ws' := [] ++ []) [] rfl
        have hDc := (en_DD hD hDr hN0 hAb).sub (ws' := [] ++ []) [] (by decide) rfl
        have hKc := hK.sub (tys' := []) [] rfl
        have hFc := va_free (wc := []) hD hS hA [] rfl
        refine va_calli (va_runS (As := [.int d, .int 0, .int 99]) (rest := []) ⟨hx, hb, hml, hown, hts⟩ (c_X18_in l dC dI b0 en H.size d 0 99) (va_cwS 3 hts gX18_areHabits_X18_in rfl rfl rfl (by decide +kernel) ⟨Nat.le_of_ble_eq_true rfl, Nat.le_of_ble_eq_true rfl⟩) ⟨cP.blind, cP.use (en_z hb0 hS) (hE.on hAb hS) hPc hKc hDc trivial⟩ rfl rfl hl.1 rfl (lv_room (Nat.le_of_ble_eq_true rfl)) dX18_areHabits_34 ⟨Nat.le_of_ble_eq_true rfl, Nat.le_of_ble_eq_true rfl⟩) hS (fun q _ h => hFc q h) hFc (fun r_10 u t H1 locs ht hvm hw hB hz1 hk1 hS => ?_)
        have hP1 : va_P (dC, dI) vwCl [] H1 := fun k q h => by simp at h
        have hD1 : va_D (va_A [] H.size) [] := ⟨fun i j p q h => by simp at h, fun k q h => by simp at h⟩
        try dsimp only at hw
        obtain ⟨hP, hD⟩ := va_join (wr := []) (w1 := []) hP hD [] [] rfl rfl (by decide) (by decide) hk1 hFc hP1 hD1
        generalize H1 = H at hP hS ⊢
        have hP : va_P (dC, dI) vwCl [] H := hP
        have hD : va_D A [] := hD
        have hR : va_P (dC, dI) vwCl [] H := fun k q h => by simp at h
        refine W.widen (k := 0) (n := 0) (Nat.le_of_ble_eq_true rfl) (Nat.le_of_ble_eq_true rfl) ?_
        have h_11 := hw
        refine lv_if_eq (tgt := 44) hx hb dX18_areHabits_37 (by decide) (fun c_12 => ?_) (fun c_12 => ?_)
        · skip
          refine lv_iconst (v := 0) hx hb dX18_areHabits_44 (by decide) ?_
          refine W.widen (k := 0) (n := 0) (Nat.le_of_ble_eq_true rfl) (Nat.le_of_ble_eq_true rfl) ?_
          exact W.zret (v := 0) hx hb hr (by first | rfl | decide +kernel) (fun t ht hW => ⟨⟨0, (), rfl, (z_c_X18_areHabits_12 a b c9 d r_1 r_4 r_7 r_10 h_2 c_3 h_5 c_6 h_8 c_9 h_11 c_12), trivial⟩, hS.F ht⟩) hS.2.2 dX18_areHabits_45
        · skip
          refine lv_iconst (v := 1) hx hb dX18_areHabits_40 (by decide) ?_
          refine lv_goto (tgt := 45) hx hb dX18_areHabits_41 (by decide) ?_
          refine W.widen (k := 0) (n := 0) (Nat.le_of_ble_eq_true rfl) (Nat.le_of_ble_eq_true rfl) ?_
          exact W.zret (v := 1) hx hb hr (by first | rfl | decide +kernel) (fun t ht hW => ⟨⟨1, (), rfl, (z_c_X18_areHabits_13 a b c9 d r_1 r_4 r_7 r_10 h_2 c_3 h_5 c_6 h_8 c_9 h_11 c_12), trivial⟩, hS.F ht⟩) hS.2.2 dX18_areHabits_45
theorem z_c_X18_fails_14   : (0 : Int32) = 0 := by grind
set_option maxHeartbeats 4000000 in
set_option maxRecDepth 100000 in
/-- sets the code -/
theorem c_X18_fails (l : Launch) (dC : Nat → ClassId) (dI : Nat → Nat → Nat) (b0 : Nat) (en : EnT) (sz : Nat) (mm : Nat) (k0 why : Int32) (vs : List Value) : Met l yX18_fails wsX18_fails ({ frames := 0, cells := 0, slots := 0, locals := 0 } : Room) (cP b0 en (dC, dI) [] [(mm, .inr (24, .int k0 :: vs))] [] sz (fun _ => True) [.ref mm, .int why]) (va_Qi (fun (r : Int32) (u : Unit) => r = 0) (fun u t => cB (dC, dI) [] [(mm, .inr (24, .int why :: vs))] (va_A [(mm, .inr (24, .int k0 :: vs))] sz) (fun _ => True) t) (va_A [(mm, .inr (24, .int k0 :: vs))] sz)) 0 0 (va_A [(mm, .inr (24, .int k0 :: vs))] sz) := by
  refine Met.ofW (cc := cX18_fails) (maxL := 2) (ret := (some .int)) (by decide) rfl ?_
  intro p e s m args below meth c s₁ B hml hv
  obtain ⟨rfl, hsz, hb0, hE, hPP, hK, hDD, hF0⟩ := hv
  have hx := B.exec
  have hb := B.bytes
  have hr := B.returns
  have hts := atoms_spec (ws := wsX18_fails) B.pre
  have hown : s.vm.findClass RX18 = some m.cls := findClass_of_methodNamed B.named
  have hlocks := B.notSynchronized
  subst hsz
  have hN0 := en_N hPP hDD rfl
  have hP : va_P (dC, dI) vwCl [(mm, .inr (24, .int k0 :: vs))] s.heap := hPP.sub [0] rfl
  have hR0 : va_P (dC, dI) vwCl [] s.heap := hPP.sub [] rfl
  have hD0 : va_D (fun q => b0 ≤ q) [(mm, .inr (24, .int k0 :: vs))] := hDD.sub [0] (by decide) rfl
  have hDr : va_D (fun q => b0 ≤ q) [] := hDD.sub [] (by decide) rfl
  have hAb := en_A (sz := s.heap.size) hD0 hb0
  have hD := hD0.self (sz := s.heap.size)
  generalize hAe : va_A [(mm, .inr (24, .int k0 :: vs))] s.heap.size = A at hD hAb hN0 ⊢
  have hA : ∀ q : Nat, s.heap.size ≤ q → A q := fun q h => by rw [← hAe]; exact Or.inr h
  have hS : va_S A s.heap s.heap [] := va_S.rf
  have hR := hR0
  have hl := lv_entry [.ref mm, .int why] (n := 2) (Nat.le_of_ble_eq_true rfl)
  rw [lg_entry_eq]
  generalize (lg_sl [.ref mm, .int why] ++ List.replicate (2 - (lg_sl [.ref mm, .int why]).length) Slot.unset).toArray = ls at hl ⊢
  have hl : lv_has ls 2 [(0, .ref mm), (1, .int why)] := hl
  refine lv_aload_n hx hb dX18_fails_0 rfl (lv_at hl 0 rfl) ?_
  refine lv_iload_n hx hb dX18_fails_1 rfl (lv_at hl 1 rfl) ?_
  refine va_put (D := (dC, dI)) (ci := 24) (v := .int why) (ty := .int) (C := RX18) (T := TX18) (N := 17) hx hb hts (by decide +kernel) tyX18 tyX18_ok nmX18 hown hK hP hD hS 0 rfl rfl 0 (by decide) (hts (.fieldLink RX18 67 "UnderpaintModel" "code" "I") (by decide +kernel)) (fun _ h9 => h9) rfl (by decide +kernel) rfl rfl (Nat.le_of_ble_eq_true rfl) dX18_fails_2 (fun H locs hP hD hS => ?_)
  have hP : va_P (dC, dI) vwCl [(mm, .inr (24, .int why :: vs))] H := hP
  have hD : va_D A [(mm, .inr (24, .int why :: vs))] := hD
  have hR : va_P (dC, dI) vwCl [] H := fun k q h => by simp at h
  refine lv_iconst (v := 0) hx hb dX18_fails_5 (by decide) ?_
  refine W.widen (k := 0) (n := 0) (Nat.le_of_ble_eq_true rfl) (Nat.le_of_ble_eq_true rfl) ?_
  exact W.iret (v := 0) hx hb hr (fun t ht hW => ⟨⟨0, (), rfl, (z_c_X18_fails_14), cB.mk ht hW (hP.sub [0] rfl) (hK.sub [] rfl) (hD.sub [0] (by decide) rfl) (trivial)⟩, hS.F ht⟩) hS.2.2 dX18_fails_6

set_option maxHeartbeats 4000000 in
set_option maxRecDepth 100000 in
/-- sets the code -/
theorem c_X18_failsBoolean (l : Launch) (dC : Nat → ClassId) (dI : Nat → Nat → Nat) (b0 : Nat) (en : EnT) (sz : Nat) (mm : Nat) (k0 why : Int32) (vs : List Value) : Met l yX18_failsBoolean wsX18_failsBoolean ({ frames := 0, cells := 0, slots := 0, locals := 0 } : Room) (cP b0 en (dC, dI) [] [(mm, .inr (24, .int k0 :: vs))] [] sz (fun _ => True) [.ref mm, .int why]) (va_Qi (fun (r : Int32) (u : Unit) => r = 0) (fun u t => cB (dC, dI) [] [(mm, .inr (24, .int why :: vs))] (va_A [(mm, .inr (24, .int k0 :: vs))] sz) (fun _ => True) t) (va_A [(mm, .inr (24, .int k0 :: vs))] sz)) 0 0 (va_A [(mm, .inr (24, .int k0 :: vs))] sz) := by
  refine Met.ofW (cc := cX18_failsBoolean) (maxL := 2) (ret := (some .boolean)) (by decide) rfl ?_
  intro p e s m args below meth c s₁ B hml hv
  obtain ⟨rfl, hsz, hb0, hE, hPP, hK, hDD, hF0⟩ := hv
  have hx := B.exec
  have hb := B.bytes
  have hr := B.returns
  have hts := atoms_spec (ws := wsX18_failsBoolean) B.pre
  have hown : s.vm.findClass RX18 = some m.cls := findClass_of_methodNamed B.named
  have hlocks := B.notSynchronized
  subst hsz
  have hN0 := en_N hPP hDD rfl
  have hP : va_P (dC, dI) vwCl [(mm, .inr (24, .int k0 :: vs))] s.heap := hPP.sub [0] rfl
  have hR0 : va_P (dC, dI) vwCl [] s.heap := hPP.sub [] rfl
  have hD0 : va_D (fun q => b0 ≤ q) [(mm, .inr (24, .int k0 :: vs))] := hDD.sub [0] (by decide) rfl
  have hDr : va_D (fun q => b0 ≤ q) [] := hDD.sub [] (by decide) rfl
  have hAb := en_A (sz := s.heap.size) hD0 hb0
  have hD := hD0.self (sz := s.heap.size)
  generalize hAe : va_A [(mm, .inr (24, .int k0 :: vs))] s.heap.size = A at hD hAb hN0 ⊢
  have hA : ∀ q : Nat, s.heap.size ≤ q → A q := fun q h => by rw [← hAe]; exact Or.inr h
  have hS : va_S A s.heap s.heap [] := va_S.rf
  have hR := hR0
  have hl := lv_entry [.ref mm, .int why] (n := 2) (Nat.le_of_ble_eq_true rfl)
  rw [lg_entry_eq]
  generalize (lg_sl [.ref mm, .int why] ++ List.replicate (2 - (lg_sl [.ref mm, .int why]).length) Slot.unset).toArray = ls at hl ⊢
  have hl : lv_has ls 2 [(0, .ref mm), (1, .int why)] := hl
  refine lv_aload_n hx hb dX18_failsBoolean_0 rfl (lv_at hl 0 rfl) ?_
  refine lv_iload_n hx hb dX18_failsBoolean_1 rfl (lv_at hl 1 rfl) ?_
  refine va_put (D := (dC, dI)) (ci := 24) (v := .int why) (ty := .int) (C := RX18) (T := TX18) (N := 17) hx hb hts (by decide +kernel) tyX18 tyX18_ok nmX18 hown hK hP hD hS 0 rfl rfl 0 (by decide) (hts (.fieldLink RX18 67 "UnderpaintModel" "code" "I") (by decide +kernel)) (fun _ h9 => h9) rfl (by decide +kernel) rfl rfl (Nat.le_of_ble_eq_true rfl) dX18_failsBoolean_2 (fun H locs hP hD hS => ?_)
  have hP : va_P (dC, dI) vwCl [(mm, .inr (24, .int why :: vs))] H := hP
  have hD : va_D A [(mm, .inr (24, .int why :: vs))] := hD
  have hR : va_P (dC, dI) vwCl [] H := fun k q h => by simp at h
  refine lv_iconst (v := 0) hx hb dX18_failsBoolean_5 (by decide) ?_
  refine W.widen (k := 0) (n := 0) (Nat.le_of_ble_eq_true rfl) (Nat.le_of_ble_eq_true rfl) ?_
  exact W.zret (v := 0) hx hb hr (by first | rfl | decide +kernel) (fun t ht hW => ⟨⟨0, (), rfl, (z_c_X18_fails_14), cB.mk ht hW (hP.sub [0] rfl) (hK.sub [] rfl) (hD.sub [0] (by decide) rfl) (trivial)⟩, hS.F ht⟩) hS.2.2 dX18_failsBoolean_6

set_option maxHeartbeats 4000000 in
set_option maxRecDepth 100000 in
/-- the code -/
theorem c_X18_thrown (l : Launch) (dC : Nat → ClassId) (dI : Nat → Nat → Nat) (b0 : Nat) (en : EnT) (sz : Nat) (mm : Nat) (k0 : Int32) (vs : List Value) : Met l yX18_thrown wsX18_thrown ({ frames := 0, cells := 0, slots := 0, locals := 0 } : Room) (cP b0 en (dC, dI) [] [] [(mm, .inr (24, .int k0 :: vs))] sz (fun _ => True) [.ref mm]) (va_Qi (fun (r : Int32) (_ : Unit) => r = k0) (fun _ _ => True) (va_A [] sz)) 0 0 (va_A [] sz) := by
  refine Met.ofW (cc := cX18_thrown) (maxL := 1) (ret := (some .int)) (by decide) rfl ?_
  intro p e s m args below meth c s₁ B hml hv
  obtain ⟨rfl, hsz, hb0, hE, hPP, hK, hDD, hF0⟩ := hv
  have hx := B.exec
  have hb := B.bytes
  have hr := B.returns
  have hts := atoms_spec (ws := wsX18_thrown) B.pre
  have hown : s.vm.findClass RX18 = some m.cls := findClass_of_methodNamed B.named
  have hlocks := B.notSynchronized
  subst hsz
  have hN0 := en_N hPP hDD rfl
  have hP : va_P (dC, dI) vwCl [] s.heap := hPP.sub [] rfl
  have hR0 : va_P (dC, dI) vwCl [(mm, .inr (24, .int k0 :: vs))] s.heap := hPP.sub [0] rfl
  have hD0 : va_D (fun q => b0 ≤ q) [] := hDD.sub [] (by decide) rfl
  have hDr : va_D (fun q => b0 ≤ q) [(mm, .inr (24, .int k0 :: vs))] := hDD.sub [0] (by decide) rfl
  have hAb := en_A (sz := s.heap.size) hD0 hb0
  have hD := hD0.self (sz := s.heap.size)
  generalize hAe : va_A [] s.heap.size = A at hD hAb hN0 ⊢
  have hA : ∀ q : Nat, s.heap.size ≤ q → A q := fun q h => by rw [← hAe]; exact Or.inr h
  have hS : va_S A s.heap s.heap [] := va_S.rf
  have hR := hR0
  have hl := lv_entry [.ref mm] (n := 1) (Nat.le_of_ble_eq_true rfl)
  rw [lg_entry_eq]
  generalize (lg_sl [.ref mm] ++ List.replicate (1 - (lg_sl [.ref mm]).length) Slot.unset).toArray = ls at hl ⊢
  have hl : lv_has ls 1 [(0, .ref mm)] := hl
  refine lv_aload_n hx hb dX18_thrown_0 rfl (lv_at hl 0 rfl) ?_
  refine va_get (D := (dC, dI)) (ci := 24) (v := .int k0) (C := RX18) (T := TX18) (N := 17) hx hb hts (by decide +kernel) hown hK hR 0 rfl rfl 0 (by decide) (hts (.fieldLink RX18 67 "UnderpaintModel" "code" "I") (by decide +kernel)) (fun _ h9 => h9) rfl dX18_thrown_1 ?_
  refine W.widen (k := 0) (n := 0) (Nat.le_of_ble_eq_true rfl) (Nat.le_of_ble_eq_true rfl) ?_
  exact W.iret (v := k0) hx hb hr (fun t ht hW => ⟨⟨k0, (), rfl, rfl, trivial⟩, hS.F ht⟩) hS.2.2 dX18_thrown_4
theorem z_c_X18_light_15 (n : Int32) (r_1 : Int32) (a_0 : r_1 = if 0 ≤ n ∧ n ≤ 9 then 1 else 0) (a_1 : ¬ r_1 = 0) : ((0 : Int32) = 0 ∧ (5 : Int32) = 5 ∧ (0 ≤ n ∧ n ≤ 9)) ∨ ((0 : Int32) = 1 ∧ ¬ (0 ≤ n ∧ n ≤ 9)) := by grind
theorem z_c_X18_light_16 (n : Int32) (r_1 : Int32) (a_0 : r_1 = if 0 ≤ n ∧ n ≤ 9 then 1 else 0) (a_1 : r_1 = 0) : ((1 : Int32) = 0 ∧ (0 : Int32) = 5 ∧ (0 ≤ n ∧ n ≤ 9)) ∨ ((1 : Int32) = 1 ∧ ¬ (0 ≤ n ∧ n ≤ 9)) := by grind
set_option maxHeartbeats 4000000 in
set_option maxRecDepth 100000 in
theorem c_X18_light (l : Launch) (dC : Nat → ClassId) (dI : Nat → Nat → Nat) (b0 : Nat) (en : EnT) (sz : Nat) (mm stu cla pic act nts isn boa mas pai sol bal leg : Nat) (n : Int32) : Met l yX18_light wsX18_light ({ frames := 1, cells := 0, slots := 0, locals := 22 } : Room) (cP b0 en (dC, dI) [] [(mm, .inr (24, [.int 0, .ref stu, .ref cla, .ref pic, .ref act, .int 5, .int 50, .ref nts, .ref isn, .int 1600, .ref boa, .ref mas, .ref pai, .ref sol, .int 0, .ref bal, .ref leg]))] [] sz (fun _ => True) [.ref mm, .int n]) (va_Qi (fun (r : Int32) (u : Int32 × List Value) => (u.1 = 0 ∧ r = 5 ∧ (0 ≤ n ∧ n ≤ 9)) ∨ (u.1 = 1 ∧ ¬ (0 ≤ n ∧ n ≤ 9))) (fun u t => cB (dC, dI) [] [(mm, .inr (24, .int u.1 :: u.2))] (va_A [(mm, .inr (24, [.int 0, .ref stu, .ref cla, .ref pic, .ref act, .int 5, .int 50, .ref nts, .ref isn, .int 1600, .ref boa, .ref mas, .ref pai, .ref sol, .int 0, .ref bal, .ref leg]))] sz) (fun _ => True) t) (va_A [(mm, .inr (24, [.int 0, .ref stu, .ref cla, .ref pic, .ref act, .int 5, .int 50, .ref nts, .ref isn, .int 1600, .ref boa, .ref mas, .ref pai, .ref sol, .int 0, .ref bal, .ref leg]))] sz)) 0 0 (va_A [(mm, .inr (24, [.int 0, .ref stu, .ref cla, .ref pic, .ref act, .int 5, .int 50, .ref nts, .ref isn, .int 1600, .ref boa, .ref mas, .ref pai, .ref sol, .int 0, .ref bal, .ref leg]))] sz) := by
  refine Met.ofW (cc := cX18_light) (maxL := 3) (ret := (some .int)) (by decide) rfl ?_
  intro p e s m args below meth c s₁ B hml hv
  obtain ⟨rfl, hsz, hb0, hE, hPP, hK, hDD, hF0⟩ := hv
  have hx := B.exec
  have hb := B.bytes
  have hr := B.returns
  have hts := atoms_spec (ws := wsX18_light) B.pre
  have hown : s.vm.findClass RX18 = some m.cls := findClass_of_methodNamed B.named
  have hlocks := B.notSynchronized
  subst hsz
  have hN0 := en_N hPP hDD rfl
  have hP : va_P (dC, dI) vwCl [(mm, .inr (24, [.int 0, .ref stu, .ref cla, .ref pic, .ref act, .int 5, .int 50, .ref nts, .ref isn, .int 1600, .ref boa, .ref mas, .ref pai, .ref sol, .int 0, .ref bal, .ref leg]))] s.heap := hPP.sub [0] rfl
  have hR0 : va_P (dC, dI) vwCl [] s.heap := hPP.sub [] rfl
  have hD0 : va_D (fun q => b0 ≤ q) [(mm, .inr (24, [.int 0, .ref stu, .ref cla, .ref pic, .ref act, .int 5, .int 50, .ref nts, .ref isn, .int 1600, .ref boa, .ref mas, .ref pai, .ref sol, .int 0, .ref bal, .ref leg]))] := hDD.sub [0] (by decide) rfl
  have hDr : va_D (fun q => b0 ≤ q) [] := hDD.sub [] (by decide) rfl
  have hAb := en_A (sz := s.heap.size) hD0 hb0
  have hD := hD0.self (sz := s.heap.size)
  generalize hAe : va_A [(mm, .inr (24, [.int 0, .ref stu, .ref cla, .ref pic, .ref act, .int 5, .int 50, .ref nts, .ref isn, .int 1600, .ref boa, .ref mas, .ref pai, .ref sol, .int 0, .ref bal, .ref leg]))] s.heap.size = A at hD hAb hN0 ⊢
  have hA : ∀ q : Nat, s.heap.size ≤ q → A q := fun q h => by rw [← hAe]; exact Or.inr h
  have hS : va_S A s.heap s.heap [] := va_S.rf
  have hR := hR0
  have hl := lv_entry [.ref mm, .int n] (n := 3) (Nat.le_of_ble_eq_true rfl)
  rw [lg_entry_eq]
  generalize (lg_sl [.ref mm, .int n] ++ List.replicate (3 - (lg_sl [.ref mm, .int n]).length) Slot.unset).toArray = ls at hl ⊢
  have hl : lv_has ls 3 [(0, .ref mm), (1, .int n)] := hl
  refine lv_aload_n hx hb dX18_light_0 rfl (lv_at hl 0 rfl) ?_
  refine lv_iconst (v := 0) hx hb dX18_light_1 (by decide) ?_
  refine va_put (D := (dC, dI)) (ci := 24) (v := .int 0) (ty := .int) (C := RX18) (T := TX18) (N := 17) hx hb hts (by decide +kernel) tyX18 tyX18_ok nmX18 hown hK hP hD hS 0 rfl rfl 0 (by decide) (hts (.fieldLink RX18 67 "UnderpaintModel" "code" "I") (by decide +kernel)) (fun _ h9 => h9) rfl (by decide +kernel) rfl rfl (Nat.le_of_ble_eq_true rfl) dX18_light_2 (fun H locs hP hD hS => ?_)
  have hP : va_P (dC, dI) vwCl [(mm, .inr (24, [.int 0, .ref stu, .ref cla, .ref pic, .ref act, .int 5, .int 50, .ref nts, .ref isn, .int 1600, .ref boa, .ref mas, .ref pai, .ref sol, .int 0, .ref bal, .ref leg]))] H := hP
  have hD : va_D A [(mm, .inr (24, [.int 0, .ref stu, .ref cla, .ref pic, .ref act, .int 5, .int 50, .ref nts, .ref isn, .int 1600, .ref boa, .ref mas, .ref pai, .ref sol, .int 0, .ref bal, .ref leg]))] := hD
  have hR : va_P (dC, dI) vwCl [] H := fun k q h => by simp at h
  refine lv_iload_n hx hb dX18_light_5 rfl (lv_at hl 1 rfl) ?_
  refine lv_iconst (v := 0) hx hb dX18_light_6 (by decide) ?_
  refine lv_bipush (v := 9) hx hb dX18_light_7 (by decide) ?_
  have hPc := (hP.app hR).sub (ws' := [] ++ []) [] rfl
  have hDc := (en_DD hD hDr hN0 hAb).sub (ws' := [] ++ []) [] (by decide) rfl
  have hKc := hK.sub (tys' := []) [] rfl
  have hFc := va_free (wc := []) hD hS hA [] rfl
  refine va_calli (va_runS (As := [.int n, .int 0, .int 9]) (rest := []) ⟨hx, hb, hml, hown, hts⟩ (c_X18_in l dC dI b0 en H.size n 0 9) (va_cwS 3 hts gX18_light_X18_in rfl rfl rfl (by decide +kernel) ⟨Nat.le_of_ble_eq_true rfl, Nat.le_of_ble_eq_true rfl⟩) ⟨cP.blind, cP.use (en_z hb0 hS) (hE.on hAb hS) hPc hKc hDc trivial⟩ rfl rfl hl.1 rfl (lv_room (Nat.le_of_ble_eq_true rfl)) dX18_light_9 ⟨Nat.le_of_ble_eq_true rfl, Nat.le_of_ble_eq_true rfl⟩) hS (fun q _ h => hFc q h) hFc (fun r_1 u t H1 locs ht hvm hw hB hz1 hk1 hS => ?_)
  have hP1 : va_P (dC, dI) vwCl [] H1 := fun k q h => by simp at h
  have hD1 : va_D (va_A [] H.size) [] := ⟨fun i j p q h => by simp at h, fun k q h => by simp at h⟩
  try dsimp only at hw
  obtain ⟨hP, hD⟩ := va_join (wr := [(mm, .inr (24, [.int 0, .ref stu, .ref cla, .ref pic, .ref act, .int 5, .int 50, .ref nts, .ref isn, .int 1600, .ref boa, .ref mas, .ref pai, .ref sol, .int 0, .ref bal, .ref leg]))]) (w1 := []) hP hD [] [0] rfl rfl (by decide) (by decide) hk1 hFc hP1 hD1
  generalize H1 = H at hP hS ⊢
  have hP : va_P (dC, dI) vwCl [(mm, .inr (24, [.int 0, .ref stu, .ref cla, .ref pic, .ref act, .int 5, .int 50, .ref nts, .ref isn, .int 1600, .ref boa, .ref mas, .ref pai, .ref sol, .int 0, .ref bal, .ref leg]))] H := hP
  have hD : va_D A [(mm, .inr (24, [.int 0, .ref stu, .ref cla, .ref pic, .ref act, .int 5, .int 50, .ref nts, .ref isn, .int 1600, .ref boa, .ref mas, .ref pai, .ref sol, .int 0, .ref bal, .ref leg]))] := hD
  have hR : va_P (dC, dI) vwCl [] H := fun k q h => by simp at h
  refine W.widen (k := 0) (n := 0) (Nat.le_of_ble_eq_true rfl) (Nat.le_of_ble_eq_true rfl) ?_
  have h_2 := hw
  refine lv_if_ne (tgt := 21) hx hb dX18_light_12 (by decide) (fun c_3 => ?_) (fun c_3 => ?_)
  · skip
    refine lv_aload_n hx hb dX18_light_21 rfl (lv_at hl 0 rfl) ?_
    refine va_get (D := (dC, dI)) (ci := 24) (v := .int 5) (C := RX18) (T := TX18) (N := 17) hx hb hts (by decide +kernel) hown hK hP 0 rfl rfl 5 (by decide) (hts (.fieldLink RX18 32 "UnderpaintModel" "light" "I") (by decide +kernel)) (fun _ h9 => h9) rfl dX18_light_22 ?_
    refine lv_istore_n (lv' := [(2, .int 5), (0, .ref mm), (1, .int n)]) hx hb dX18_light_25 rfl hl (by decide) rfl (fun ls hl => ?_)
    refine lv_aload_n hx hb dX18_light_26 rfl (lv_at hl 1 rfl) ?_
    refine lv_iload_n hx hb dX18_light_27 rfl (lv_at hl 2 rfl) ?_
    refine va_put (D := (dC, dI)) (ci := 24) (v := .int n) (ty := .int) (C := RX18) (T := TX18) (N := 17) hx hb hts (by decide +kernel) tyX18 tyX18_ok nmX18 hown hK hP hD hS 0 rfl rfl 5 (by decide) (hts (.fieldLink RX18 32 "UnderpaintModel" "light" "I") (by decide +kernel)) (fun _ h9 => h9) rfl (by decide +kernel) rfl rfl (Nat.le_of_ble_eq_true rfl) dX18_light_28 (fun H locs hP hD hS => ?_)
    have hP : va_P (dC, dI) vwCl [(mm, .inr (24, [.int 0, .ref stu, .ref cla, .ref pic, .ref act, .int n, .int 50, .ref nts, .ref isn, .int 1600, .ref boa, .ref mas, .ref pai, .ref sol, .int 0, .ref bal, .ref leg]))] H := hP
    have hD : va_D A [(mm, .inr (24, [.int 0, .ref stu, .ref cla, .ref pic, .ref act, .int n, .int 50, .ref nts, .ref isn, .int 1600, .ref boa, .ref mas, .ref pai, .ref sol, .int 0, .ref bal, .ref leg]))] := hD
    have hR : va_P (dC, dI) vwCl [] H := fun k q h => by simp at h
    refine lv_iload_n hx hb dX18_light_31 rfl (lv_at hl 0 rfl) ?_
    refine W.widen (k := 0) (n := 0) (Nat.le_of_ble_eq_true rfl) (Nat.le_of_ble_eq_true rfl) ?_
    exact W.iret (v := 5) hx hb hr (fun t ht hW => ⟨⟨5, ⟨0, [.ref stu, .ref cla, .ref pic, .ref act, .int n, .int 50, .ref nts, .ref isn, .int 1600, .ref boa, .ref mas, .ref pai, .ref sol, .int 0, .ref bal, .ref leg]⟩, rfl, (z_c_X18_light_15 n r_1 h_2 c_3), cB.mk ht hW (hP.sub [0] rfl) (hK.sub [] rfl) (hD.sub [0] (by decide) rfl) (trivial)⟩, hS.F ht⟩) hS.2.2 dX18_light_32
  · skip
    refine lv_aload_n hx hb dX18_light_15 rfl (lv_at hl 0 rfl) ?_
    refine lv_iconst (v := 1) hx hb dX18_light_16 (by decide) ?_
    have hPc := (hP.app hR).sub (ws' := [(mm, .inr (24, .int 0 :: ([.ref stu, .ref cla, .ref pic, .ref act, .int 5, .int 50, .ref nts, .ref isn, .int 1600, .ref boa, .ref mas, .ref pai, .ref sol, .int 0, .ref bal, .ref leg])))] ++ []) [0] rfl
    have hDc := (en_DD hD hDr hN0 hAb).sub (ws' := [(mm, .inr (24, .int 0 :: ([.ref stu, .ref cla, .ref pic, .ref act, .int 5, .int 50, .ref nts, .ref isn, .int 1600, .ref boa, .ref mas, .ref pai, .ref sol, .int 0, .ref bal, .ref leg])))] ++ []) [0] (by decide) rfl
    have hKc := hK.sub (tys' := []) [] rfl
    have hFc := va_free (wc := [(mm, .inr (24, .int 0 :: ([.ref stu, .ref cla, .ref pic, .ref act, .int 5, .int 50, .ref nts, .ref isn, .int 1600, .ref boa, .ref mas, .ref pai, .ref sol, .int 0, .ref bal, .ref leg])))]) hD hS hA [0] rfl
    refine va_calli (va_runV (As := [.int 1]) (rest := []) ⟨hx, hb, hml, hown, hts⟩ (c_X18_fails l dC dI b0 en H.size mm 0 1 ([.ref stu, .ref cla, .ref pic, .ref act, .int 5, .int 50, .ref nts, .ref isn, .int 1600, .ref boa, .ref mas, .ref pai, .ref sol, .int 0, .ref bal, .ref leg])) (cwV 1 hts gX18_light_X18_fails rfl rfl rfl (by decide +kernel) ⟨Nat.le_of_ble_eq_true rfl, Nat.le_of_ble_eq_true rfl⟩) ⟨cP.blind, va_recv hK hP (ci := 24) (q0 := 0) rfl rfl, cP.use (en_z hb0 hS) (hE.on hAb hS) hPc hKc hDc trivial⟩ rfl rfl hl.1 rfl (lv_room (Nat.le_of_ble_eq_true rfl)) dX18_light_17 ⟨Nat.le_of_ble_eq_true rfl, Nat.le_of_ble_eq_true rfl⟩) hS (fun q _ h => hFc q h) hFc (fun r_4 u t H1 locs ht hvm hw hB hz1 hk1 hS => ?_)
    obtain ⟨hP1, hK1, hD1, hF1⟩ := hB
    rw [ht] at hP1
    try rw [ht] at hF1
    have hK1 := va_K.moved hvm.symm hK1
    try dsimp only at hw
    obtain ⟨hP, hD⟩ := va_join (wr := []) (w1 := [(mm, .inr (24, [.int 1, .ref stu, .ref cla, .ref pic, .ref act, .int 5, .int 50, .ref nts, .ref isn, .int 1600, .ref boa, .ref mas, .ref pai, .ref sol, .int 0, .ref bal, .ref leg]))]) hP hD [0] [] rfl rfl (by decide) (by decide) hk1 hFc hP1 hD1
    generalize H1 = H at hP hS ⊢
    have hP : va_P (dC, dI) vwCl [(mm, .inr (24, [.int 1, .ref stu, .ref cla, .ref pic, .ref act, .int 5, .int 50, .ref nts, .ref isn, .int 1600, .ref boa, .ref mas, .ref pai, .ref sol, .int 0, .ref bal, .ref leg]))] H := hP
    have hD : va_D A [(mm, .inr (24, [.int 1, .ref stu, .ref cla, .ref pic, .ref act, .int 5, .int 50, .ref nts, .ref isn, .int 1600, .ref boa, .ref mas, .ref pai, .ref sol, .int 0, .ref bal, .ref leg]))] := hD
    have hR : va_P (dC, dI) vwCl [] H := fun k q h => by simp at h
    refine W.widen (k := 0) (n := 0) (Nat.le_of_ble_eq_true rfl) (Nat.le_of_ble_eq_true rfl) ?_
    subst r_4
    refine W.widen (k := 0) (n := 0) (Nat.le_of_ble_eq_true rfl) (Nat.le_of_ble_eq_true rfl) ?_
    exact W.iret (v := 0) hx hb hr (fun t ht hW => ⟨⟨0, ⟨1, [.ref stu, .ref cla, .ref pic, .ref act, .int 5, .int 50, .ref nts, .ref isn, .int 1600, .ref boa, .ref mas, .ref pai, .ref sol, .int 0, .ref bal, .ref leg]⟩, rfl, (z_c_X18_light_16 n r_1 h_2 c_3), cB.mk ht hW (hP.sub [0] rfl) (hK.sub [] rfl) (hD.sub [0] (by decide) rfl) (trivial)⟩, hS.F ht⟩) hS.2.2 dX18_light_20
theorem z_c_X18_damp_17 (n : Int32) (r_1 : Int32) (a_0 : r_1 = if 0 ≤ n ∧ n ≤ 99 then 1 else 0) (a_1 : ¬ r_1 = 0) : ((0 : Int32) = 0 ∧ (50 : Int32) = 50 ∧ (0 ≤ n ∧ n ≤ 99)) ∨ ((0 : Int32) = 1 ∧ ¬ (0 ≤ n ∧ n ≤ 99)) := by grind
theorem z_c_X18_damp_18 (n : Int32) (r_1 : Int32) (a_0 : r_1 = if 0 ≤ n ∧ n ≤ 99 then 1 else 0) (a_1 : r_1 = 0) : ((1 : Int32) = 0 ∧ (0 : Int32) = 50 ∧ (0 ≤ n ∧ n ≤ 99)) ∨ ((1 : Int32) = 1 ∧ ¬ (0 ≤ n ∧ n ≤ 99)) := by grind
set_option maxHeartbeats 4000000 in
set_option maxRecDepth 100000 in
theorem c_X18_damp (l : Launch) (dC : Nat → ClassId) (dI : Nat → Nat → Nat) (b0 : Nat) (en : EnT) (sz : Nat) (mm stu cla pic act nts isn boa mas pai sol bal leg : Nat) (n : Int32) : Met l yX18_damp wsX18_damp ({ frames := 1, cells := 0, slots := 0, locals := 22 } : Room) (cP b0 en (dC, dI) [] [(mm, .inr (24, [.int 0, .ref stu, .ref cla, .ref pic, .ref act, .int 5, .int 50, .ref nts, .ref isn, .int 1600, .ref boa, .ref mas, .ref pai, .ref sol, .int 0, .ref bal, .ref leg]))] [] sz (fun _ => True) [.ref mm, .int n]) (va_Qi (fun (r : Int32) (u : Int32 × List Value) => (u.1 = 0 ∧ r = 50 ∧ (0 ≤ n ∧ n ≤ 99)) ∨ (u.1 = 1 ∧ ¬ (0 ≤ n ∧ n ≤ 99))) (fun u t => cB (dC, dI) [] [(mm, .inr (24, .int u.1 :: u.2))] (va_A [(mm, .inr (24, [.int 0, .ref stu, .ref cla, .ref pic, .ref act, .int 5, .int 50, .ref nts, .ref isn, .int 1600, .ref boa, .ref mas, .ref pai, .ref sol, .int 0, .ref bal, .ref leg]))] sz) (fun _ => True) t) (va_A [(mm, .inr (24, [.int 0, .ref stu, .ref cla, .ref pic, .ref act, .int 5, .int 50, .ref nts, .ref isn, .int 1600, .ref boa, .ref mas, .ref pai, .ref sol, .int 0, .ref bal, .ref leg]))] sz)) 0 0 (va_A [(mm, .inr (24, [.int 0, .ref stu, .ref cla, .ref pic, .ref act, .int 5, .int 50, .ref nts, .ref isn, .int 1600, .ref boa, .ref mas, .ref pai, .ref sol, .int 0, .ref bal, .ref leg]))] sz) := by
  refine Met.ofW (cc := cX18_damp) (maxL := 3) (ret := (some .int)) (by decide) rfl ?_
  intro p e s m args below meth c s₁ B hml hv
  obtain ⟨rfl, hsz, hb0, hE, hPP, hK, hDD, hF0⟩ := hv
  have hx := B.exec
  have hb := B.bytes
  have hr := B.returns
  have hts := atoms_spec (ws := wsX18_damp) B.pre
  have hown : s.vm.findClass RX18 = some m.cls := findClass_of_methodNamed B.named
  have hlocks := B.notSynchronized
  subst hsz
  have hN0 := en_N hPP hDD rfl
  have hP : va_P (dC, dI) vwCl [(mm, .inr (24, [.int 0, .ref stu, .ref cla, .ref pic, .ref act, .int 5, .int 50, .ref nts, .ref isn, .int 1600, .ref boa, .ref mas, .ref pai, .ref sol, .int 0, .ref bal, .ref leg]))] s.heap := hPP.sub [0] rfl
  have hR0 : va_P (dC, dI) vwCl [] s.heap := hPP.sub [] rfl
  have hD0 : va_D (fun q => b0 ≤ q) [(mm, .inr (24, [.int 0, .ref stu, .ref cla, .ref pic, .ref act, .int 5, .int 50, .ref nts, .ref isn, .int 1600, .ref boa, .ref mas, .ref pai, .ref sol, .int 0, .ref bal, .ref leg]))] := hDD.sub [0] (by decide) rfl
  have hDr : va_D (fun q => b0 ≤ q) [] := hDD.sub [] (by decide) rfl
  have hAb := en_A (sz := s.heap.size) hD0 hb0
  have hD := hD0.self (sz := s.heap.size)
  generalize hAe : va_A [(mm, .inr (24, [.int 0, .ref stu, .ref cla, .ref pic, .ref act, .int 5, .int 50, .ref nts, .ref isn, .int 1600, .ref boa, .ref mas, .ref pai, .ref sol, .int 0, .ref bal, .ref leg]))] s.heap.size = A at hD hAb hN0 ⊢
  have hA : ∀ q : Nat, s.heap.size ≤ q → A q := fun q h => by rw [← hAe]; exact Or.inr h
  have hS : va_S A s.heap s.heap [] := va_S.rf
  have hR := hR0
  have hl := lv_entry [.ref mm, .int n] (n := 3) (Nat.le_of_ble_eq_true rfl)
  rw [lg_entry_eq]
  generalize (lg_sl [.ref mm, .int n] ++ List.replicate (3 - (lg_sl [.ref mm, .int n]).length) Slot.unset).toArray = ls at hl ⊢
  have hl : lv_has ls 3 [(0, .ref mm), (1, .int n)] := hl
  refine lv_aload_n hx hb dX18_damp_0 rfl (lv_at hl 0 rfl) ?_
  refine lv_iconst (v := 0) hx hb dX18_damp_1 (by decide) ?_
  refine va_put (D := (dC, dI)) (ci := 24) (v := .int 0) (ty := .int) (C := RX18) (T := TX18) (N := 17) hx hb hts (by decide +kernel) tyX18 tyX18_ok nmX18 hown hK hP hD hS 0 rfl rfl 0 (by decide) (hts (.fieldLink RX18 67 "UnderpaintModel" "code" "I") (by decide +kernel)) (fun _ h9 => h9) rfl (by decide +kernel) rfl rfl (Nat.le_of_ble_eq_true rfl) dX18_damp_2 (fun H locs hP hD hS => ?_)
  have hP : va_P (dC, dI) vwCl [(mm, .inr (24, [.int 0, .ref stu, .ref cla, .ref pic, .ref act, .int 5, .int 50, .ref nts, .ref isn, .int 1600, .ref boa, .ref mas, .ref pai, .ref sol, .int 0, .ref bal, .ref leg]))] H := hP
  have hD : va_D A [(mm, .inr (24, [.int 0, .ref stu, .ref cla, .ref pic, .ref act, .int 5, .int 50, .ref nts, .ref isn, .int 1600, .ref boa, .ref mas, .ref pai, .ref sol, .int 0, .ref bal, .ref leg]))] := hD
  have hR : va_P (dC, dI) vwCl [] H := fun k q h => by simp at h
  refine lv_iload_n hx hb dX18_damp_5 rfl (lv_at hl 1 rfl) ?_
  refine lv_iconst (v := 0) hx hb dX18_damp_6 (by decide) ?_
  refine lv_bipush (v := 99) hx hb dX18_damp_7 (by decide) ?_
  have hPc := (hP.app hR).sub (ws' := [] ++ []) [] rfl
  have hDc := (en_DD hD hDr hN0 hAb).sub (ws' := [] ++ []) [] (by decide) rfl
  have hKc := hK.sub (tys' := []) [] rfl
  have hFc := va_free (wc := []) hD hS hA [] rfl
  refine va_calli (va_runS (As := [.int n, .int 0, .int 99]) (rest := []) ⟨hx, hb, hml, hown, hts⟩ (c_X18_in l dC dI b0 en H.size n 0 99) (va_cwS 3 hts gX18_damp_X18_in rfl rfl rfl (by decide +kernel) ⟨Nat.le_of_ble_eq_true rfl, Nat.le_of_ble_eq_true rfl⟩) ⟨cP.blind, cP.use (en_z hb0 hS) (hE.on hAb hS) hPc hKc hDc trivial⟩ rfl rfl hl.1 rfl (lv_room (Nat.le_of_ble_eq_true rfl)) dX18_damp_9 ⟨Nat.le_of_ble_eq_true rfl, Nat.le_of_ble_eq_true rfl⟩) hS (fun q _ h => hFc q h) hFc (fun r_1 u t H1 locs ht hvm hw hB hz1 hk1 hS => ?_)
  have hP1 : va_P (dC, dI) vwCl [] H1 := fun k q h => by simp at h
  have hD1 : va_D (va_A [] H.size) [] := ⟨fun i j p q h => by simp at h, fun k q h => by simp at h⟩
  try dsimp only at hw
  obtain ⟨hP, hD⟩ := va_join (wr := [(mm, .inr (24, [.int 0, .ref stu, .ref cla, .ref pic, .ref act, .int 5, .int 50, .ref nts, .ref isn, .int 1600, .ref boa, .ref mas, .ref pai, .ref sol, .int 0, .ref bal, .ref leg]))]) (w1 := []) hP hD [] [0] rfl rfl (by decide) (by decide) hk1 hFc hP1 hD1
  generalize H1 = H at hP hS ⊢
  have hP : va_P (dC, dI) vwCl [(mm, .inr (24, [.int 0, .ref stu, .ref cla, .ref pic, .ref act, .int 5, .int 50, .ref nts, .ref isn, .int 1600, .ref boa, .ref mas, .ref pai, .ref sol, .int 0, .ref bal, .ref leg]))] H := hP
  have hD : va_D A [(mm, .inr (24, [.int 0, .ref stu, .ref cla, .ref pic, .ref act, .int 5, .int 50, .ref nts, .ref isn, .int 1600, .ref boa, .ref mas, .ref pai, .ref sol, .int 0, .ref bal, .ref leg]))] := hD
  have hR : va_P (dC, dI) vwCl [] H := fun k q h => by simp at h
  refine W.widen (k := 0) (n := 0) (Nat.le_of_ble_eq_true rfl) (Nat.le_of_ble_eq_true rfl) ?_
  have h_2 := hw
  refine lv_if_ne (tgt := 21) hx hb dX18_damp_12 (by decide) (fun c_3 => ?_) (fun c_3 => ?_)
  · skip
    refine lv_aload_n hx hb dX18_damp_21 rfl (lv_at hl 0 rfl) ?_
    refine va_get (D := (dC, dI)) (ci := 24) (v := .int 50) (C := RX18) (T := TX18) (N := 17) hx hb hts (by decide +kernel) hown hK hP 0 rfl rfl 6 (by decide) (hts (.fieldLink RX18 36 "UnderpaintModel" "damp" "I") (by decide +kernel)) (fun _ h9 => h9) rfl dX18_damp_22 ?_
    refine lv_istore_n (lv' := [(2, .int 50), (0, .ref mm), (1, .int n)]) hx hb dX18_damp_25 rfl hl (by decide) rfl (fun ls hl => ?_)
    refine lv_aload_n hx hb dX18_damp_26 rfl (lv_at hl 1 rfl) ?_
    refine lv_iload_n hx hb dX18_damp_27 rfl (lv_at hl 2 rfl) ?_
    refine va_put (D := (dC, dI)) (ci := 24) (v := .int n) (ty := .int) (C := RX18) (T := TX18) (N := 17) hx hb hts (by decide +kernel) tyX18 tyX18_ok nmX18 hown hK hP hD hS 0 rfl rfl 6 (by decide) (hts (.fieldLink RX18 36 "UnderpaintModel" "damp" "I") (by decide +kernel)) (fun _ h9 => h9) rfl (by decide +kernel) rfl rfl (Nat.le_of_ble_eq_true rfl) dX18_damp_28 (fun H locs hP hD hS => ?_)
    have hP : va_P (dC, dI) vwCl [(mm, .inr (24, [.int 0, .ref stu, .ref cla, .ref pic, .ref act, .int 5, .int n, .ref nts, .ref isn, .int 1600, .ref boa, .ref mas, .ref pai, .ref sol, .int 0, .ref bal, .ref leg]))] H := hP
    have hD : va_D A [(mm, .inr (24, [.int 0, .ref stu, .ref cla, .ref pic, .ref act, .int 5, .int n, .ref nts, .ref isn, .int 1600, .ref boa, .ref mas, .ref pai, .ref sol, .int 0, .ref bal, .ref leg]))] := hD
    have hR : va_P (dC, dI) vwCl [] H := fun k q h => by simp at h
    refine lv_iload_n hx hb dX18_damp_31 rfl (lv_at hl 0 rfl) ?_
    refine W.widen (k := 0) (n := 0) (Nat.le_of_ble_eq_true rfl) (Nat.le_of_ble_eq_true rfl) ?_
    exact W.iret (v := 50) hx hb hr (fun t ht hW => ⟨⟨50, ⟨0, [.ref stu, .ref cla, .ref pic, .ref act, .int 5, .int n, .ref nts, .ref isn, .int 1600, .ref boa, .ref mas, .ref pai, .ref sol, .int 0, .ref bal, .ref leg]⟩, rfl, (z_c_X18_damp_17 n r_1 h_2 c_3), cB.mk ht hW (hP.sub [0] rfl) (hK.sub [] rfl) (hD.sub [0] (by decide) rfl) (trivial)⟩, hS.F ht⟩) hS.2.2 dX18_damp_32
  · skip
    refine lv_aload_n hx hb dX18_damp_15 rfl (lv_at hl 0 rfl) ?_
    refine lv_iconst (v := 1) hx hb dX18_damp_16 (by decide) ?_
    have hPc := (hP.app hR).sub (ws' := [(mm, .inr (24, .int 0 :: ([.ref stu, .ref cla, .ref pic, .ref act, .int 5, .int 50, .ref nts, .ref isn, .int 1600, .ref boa, .ref mas, .ref pai, .ref sol, .int 0, .ref bal, .ref leg])))] ++ []) [0] rfl
    have hDc := (en_DD hD hDr hN0 hAb).sub (ws' := [(mm, .inr (24, .int 0 :: ([.ref stu, .ref cla, .ref pic, .ref act, .int 5, .int 50, .ref nts, .ref isn, .int 1600, .ref boa, .ref mas, .ref pai, .ref sol, .int 0, .ref bal, .ref leg])))] ++ []) [0] (by decide) rfl
    have hKc := hK.sub (tys' := []) [] rfl
    have hFc := va_free (wc := [(mm, .inr (24, .int 0 :: ([.ref stu, .ref cla, .ref pic, .ref act, .int 5, .int 50, .ref nts, .ref isn, .int 1600, .ref boa, .ref mas, .ref pai, .ref sol, .int 0, .ref bal, .ref leg])))]) hD hS hA [0] rfl
    refine va_calli (va_runV (As := [.int 1]) (rest := []) ⟨hx, hb, hml, hown, hts⟩ (c_X18_fails l dC dI b0 en H.size mm 0 1 ([.ref stu, .ref cla, .ref pic, .ref act, .int 5, .int 50, .ref nts, .ref isn, .int 1600, .ref boa, .ref mas, .ref pai, .ref sol, .int 0, .ref bal, .ref leg])) (cwV 1 hts gX18_damp_X18_fails rfl rfl rfl (by decide +kernel) ⟨Nat.le_of_ble_eq_true rfl, Nat.le_of_ble_eq_true rfl⟩) ⟨cP.blind, va_recv hK hP (ci := 24) (q0 := 0) rfl rfl, cP.use (en_z hb0 hS) (hE.on hAb hS) hPc hKc hDc trivial⟩ rfl rfl hl.1 rfl (lv_room (Nat.le_of_ble_eq_true rfl)) dX18_damp_17 ⟨Nat.le_of_ble_eq_true rfl, Nat.le_of_ble_eq_true rfl⟩) hS (fun q _ h => hFc q h) hFc (fun r_4 u t H1 locs ht hvm hw hB hz1 hk1 hS => ?_)
    obtain ⟨hP1, hK1, hD1, hF1⟩ := hB
    rw [ht] at hP1
    try rw [ht] at hF1
    have hK1 := va_K.moved hvm.symm hK1
    try dsimp only at hw
    obtain ⟨hP, hD⟩ := va_join (wr := []) (w1 := [(mm, .inr (24, [.int 1, .ref stu, .ref cla, .ref pic, .ref act, .int 5, .int 50, .ref nts, .ref isn, .int 1600, .ref boa, .ref mas, .ref pai, .ref sol, .int 0, .ref bal, .ref leg]))]) hP hD [0] [] rfl rfl (by decide) (by decide) hk1 hFc hP1 hD1
    generalize H1 = H at hP hS ⊢
    have hP : va_P (dC, dI) vwCl [(mm, .inr (24, [.int 1, .ref stu, .ref cla, .ref pic, .ref act, .int 5, .int 50, .ref nts, .ref isn, .int 1600, .ref boa, .ref mas, .ref pai, .ref sol, .int 0, .ref bal, .ref leg]))] H := hP
    have hD : va_D A [(mm, .inr (24, [.int 1, .ref stu, .ref cla, .ref pic, .ref act, .int 5, .int 50, .ref nts, .ref isn, .int 1600, .ref boa, .ref mas, .ref pai, .ref sol, .int 0, .ref bal, .ref leg]))] := hD
    have hR : va_P (dC, dI) vwCl [] H := fun k q h => by simp at h
    refine W.widen (k := 0) (n := 0) (Nat.le_of_ble_eq_true rfl) (Nat.le_of_ble_eq_true rfl) ?_
    subst r_4
    refine W.widen (k := 0) (n := 0) (Nat.le_of_ble_eq_true rfl) (Nat.le_of_ble_eq_true rfl) ?_
    exact W.iret (v := 0) hx hb hr (fun t ht hW => ⟨⟨0, ⟨1, [.ref stu, .ref cla, .ref pic, .ref act, .int 5, .int 50, .ref nts, .ref isn, .int 1600, .ref boa, .ref mas, .ref pai, .ref sol, .int 0, .ref bal, .ref leg]⟩, rfl, (z_c_X18_damp_18 n r_1 h_2 c_3), cB.mk ht hW (hP.sub [0] rfl) (hK.sub [] rfl) (hD.sub [0] (by decide) rfl) (trivial)⟩, hS.F ht⟩) hS.2.2 dX18_damp_20
theorem z_c_X18_original_19 (n : Int32) (r_1 : Int32) (a_0 : r_1 = if 0 ≤ n ∧ n ≤ 9999 then 1 else 0) (a_1 : ¬ r_1 = 0) : ((0 : Int32) = 0 ∧ (1600 : Int32) = 1600 ∧ (0 ≤ n ∧ n ≤ 9999)) ∨ ((0 : Int32) = 1 ∧ ¬ (0 ≤ n ∧ n ≤ 9999)) := by grind
theorem z_c_X18_original_20 (n : Int32) (r_1 : Int32) (a_0 : r_1 = if 0 ≤ n ∧ n ≤ 9999 then 1 else 0) (a_1 : r_1 = 0) : ((1 : Int32) = 0 ∧ (0 : Int32) = 1600 ∧ (0 ≤ n ∧ n ≤ 9999)) ∨ ((1 : Int32) = 1 ∧ ¬ (0 ≤ n ∧ n ≤ 9999)) := by grind
set_option maxHeartbeats 4000000 in
set_option maxRecDepth 100000 in
theorem c_X18_original (l : Launch) (dC : Nat → ClassId) (dI : Nat → Nat → Nat) (b0 : Nat) (en : EnT) (sz : Nat) (mm stu cla pic act nts isn boa mas pai sol bal leg : Nat) (n : Int32) : Met l yX18_original wsX18_original ({ frames := 1, cells := 0, slots := 0, locals := 22 } : Room) (cP b0 en (dC, dI) [] [(mm, .inr (24, [.int 0, .ref stu, .ref cla, .ref pic, .ref act, .int 5, .int 50, .ref nts, .ref isn, .int 1600, .ref boa, .ref mas, .ref pai, .ref sol, .int 0, .ref bal, .ref leg]))] [] sz (fun _ => True) [.ref mm, .int n]) (va_Qi (fun (r : Int32) (u : Int32 × List Value) => (u.1 = 0 ∧ r = 1600 ∧ (0 ≤ n ∧ n ≤ 9999)) ∨ (u.1 = 1 ∧ ¬ (0 ≤ n ∧ n ≤ 9999))) (fun u t => cB (dC, dI) [] [(mm, .inr (24, .int u.1 :: u.2))] (va_A [(mm, .inr (24, [.int 0, .ref stu, .ref cla, .ref pic, .ref act, .int 5, .int 50, .ref nts, .ref isn, .int 1600, .ref boa, .ref mas, .ref pai, .ref sol, .int 0, .ref bal, .ref leg]))] sz) (fun _ => True) t) (va_A [(mm, .inr (24, [.int 0, .ref stu, .ref cla, .ref pic, .ref act, .int 5, .int 50, .ref nts, .ref isn, .int 1600, .ref boa, .ref mas, .ref pai, .ref sol, .int 0, .ref bal, .ref leg]))] sz)) 0 0 (va_A [(mm, .inr (24, [.int 0, .ref stu, .ref cla, .ref pic, .ref act, .int 5, .int 50, .ref nts, .ref isn, .int 1600, .ref boa, .ref mas, .ref pai, .ref sol, .int 0, .ref bal, .ref leg]))] sz) := by
  refine Met.ofW (cc := cX18_original) (maxL := 3) (ret := (some .int)) (by decide) rfl ?_
  intro p e s m args below meth c s₁ B hml hv
  obtain ⟨rfl, hsz, hb0, hE, hPP, hK, hDD, hF0⟩ := hv
  have hx := B.exec
  have hb := B.bytes
  have hr := B.returns
  have hts := atoms_spec (ws := wsX18_original) B.pre
  have hown : s.vm.findClass RX18 = some m.cls := findClass_of_methodNamed B.named
  have hlocks := B.notSynchronized
  subst hsz
  have hN0 := en_N hPP hDD rfl
  have hP : va_P (dC, dI) vwCl [(mm, .inr (24, [.int 0, .ref stu, .ref cla, .ref pic, .ref act, .int 5, .int 50, .ref nts, .ref isn, .int 1600, .ref boa, .ref mas, .ref pai, .ref sol, .int 0, .ref bal, .ref leg]))] s.heap := hPP.sub [0] rfl
  have hR0 : va_P (dC, dI) vwCl [] s.heap := hPP.sub [] rfl
  have hD0 : va_D (fun q => b0 ≤ q) [(mm, .inr (24, [.int 0, .ref stu, .ref cla, .ref pic, .ref act, .int 5, .int 50, .ref nts, .ref isn, .int 1600, .ref boa, .ref mas, .ref pai, .ref sol, .int 0, .ref bal, .ref leg]))] := hDD.sub [0] (by decide) rfl
  have hDr : va_D (fun q => b0 ≤ q) [] := hDD.sub [] (by decide) rfl
  have hAb := en_A (sz := s.heap.size) hD0 hb0
  have hD := hD0.self (sz := s.heap.size)
  generalize hAe : va_A [(mm, .inr (24, [.int 0, .ref stu, .ref cla, .ref pic, .ref act, .int 5, .int 50, .ref nts, .ref isn, .int 1600, .ref boa, .ref mas, .ref pai, .ref sol, .int 0, .ref bal, .ref leg]))] s.heap.size = A at hD hAb hN0 ⊢
  have hA : ∀ q : Nat, s.heap.size ≤ q → A q := fun q h => by rw [← hAe]; exact Or.inr h
  have hS : va_S A s.heap s.heap [] := va_S.rf
  have hR := hR0
  have hl := lv_entry [.ref mm, .int n] (n := 3) (Nat.le_of_ble_eq_true rfl)
  rw [lg_entry_eq]
  generalize (lg_sl [.ref mm, .int n] ++ List.replicate (3 - (lg_sl [.ref mm, .int n]).length) Slot.unset).toArray = ls at hl ⊢
  have hl : lv_has ls 3 [(0, .ref mm), (1, .int n)] := hl
  refine lv_aload_n hx hb dX18_original_0 rfl (lv_at hl 0 rfl) ?_
  refine lv_iconst (v := 0) hx hb dX18_original_1 (by decide) ?_
  refine va_put (D := (dC, dI)) (ci := 24) (v := .int 0) (ty := .int) (C := RX18) (T := TX18) (N := 17) hx hb hts (by decide +kernel) tyX18 tyX18_ok nmX18 hown hK hP hD hS 0 rfl rfl 0 (by decide) (hts (.fieldLink RX18 67 "UnderpaintModel" "code" "I") (by decide +kernel)) (fun _ h9 => h9) rfl (by decide +kernel) rfl rfl (Nat.le_of_ble_eq_true rfl) dX18_original_2 (fun H locs hP hD hS => ?_)
  have hP : va_P (dC, dI) vwCl [(mm, .inr (24, [.int 0, .ref stu, .ref cla, .ref pic, .ref act, .int 5, .int 50, .ref nts, .ref isn, .int 1600, .ref boa, .ref mas, .ref pai, .ref sol, .int 0, .ref bal, .ref leg]))] H := hP
  have hD : va_D A [(mm, .inr (24, [.int 0, .ref stu, .ref cla, .ref pic, .ref act, .int 5, .int 50, .ref nts, .ref isn, .int 1600, .ref boa, .ref mas, .ref pai, .ref sol, .int 0, .ref bal, .ref leg]))] := hD
  have hR : va_P (dC, dI) vwCl [] H := fun k q h => by simp at h
  refine lv_iload_n hx hb dX18_original_5 rfl (lv_at hl 1 rfl) ?_
  refine lv_iconst (v := 0) hx hb dX18_original_6 (by decide) ?_
  refine lv_sipush (v := 9999) hx hb dX18_original_7 (by decide) ?_
  have hPc := (hP.app hR).sub (ws' := [] ++ []) [] rfl
  have hDc := (en_DD hD hDr hN0 hAb).sub (ws' := [] ++ []) [] (by decide) rfl
  have hKc := hK.sub (tys' := []) [] rfl
  have hFc := va_free (wc := []) hD hS hA [] rfl
  refine va_calli (va_runS (As := [.int n, .int 0, .int 9999]) (rest := []) ⟨hx, hb, hml, hown, hts⟩ (c_X18_in l dC dI b0 en H.size n 0 9999) (va_cwS 3 hts gX18_original_X18_in rfl rfl rfl (by decide +kernel) ⟨Nat.le_of_ble_eq_true rfl, Nat.le_of_ble_eq_true rfl⟩) ⟨cP.blind, cP.use (en_z hb0 hS) (hE.on hAb hS) hPc hKc hDc trivial⟩ rfl rfl hl.1 rfl (lv_room (Nat.le_of_ble_eq_true rfl)) dX18_original_10 ⟨Nat.le_of_ble_eq_true rfl, Nat.le_of_ble_eq_true rfl⟩) hS (fun q _ h => hFc q h) hFc (fun r_1 u t H1 locs ht hvm hw hB hz1 hk1 hS => ?_)
  have hP1 : va_P (dC, dI) vwCl [] H1 := fun k q h => by simp at h
  have hD1 : va_D (va_A [] H.size) [] := ⟨fun i j p q h => by simp at h, fun k q h => by simp at h⟩
  try dsimp only at hw
  obtain ⟨hP, hD⟩ := va_join (wr := [(mm, .inr (24, [.int 0, .ref stu, .ref cla, .ref pic, .ref act, .int 5, .int 50, .ref nts, .ref isn, .int 1600, .ref boa, .ref mas, .ref pai, .ref sol, .int 0, .ref bal, .ref leg]))]) (w1 := []) hP hD [] [0] rfl rfl (by decide) (by decide) hk1 hFc hP1 hD1
  generalize H1 = H at hP hS ⊢
  have hP : va_P (dC, dI) vwCl [(mm, .inr (24, [.int 0, .ref stu, .ref cla, .ref pic, .ref act, .int 5, .int 50, .ref nts, .ref isn, .int 1600, .ref boa, .ref mas, .ref pai, .ref sol, .int 0, .ref bal, .ref leg]))] H := hP
  have hD : va_D A [(mm, .inr (24, [.int 0, .ref stu, .ref cla, .ref pic, .ref act, .int 5, .int 50, .ref nts, .ref isn, .int 1600, .ref boa, .ref mas, .ref pai, .ref sol, .int 0, .ref bal, .ref leg]))] := hD
  have hR : va_P (dC, dI) vwCl [] H := fun k q h => by simp at h
  refine W.widen (k := 0) (n := 0) (Nat.le_of_ble_eq_true rfl) (Nat.le_of_ble_eq_true rfl) ?_
  have h_2 := hw
  refine lv_if_ne (tgt := 22) hx hb dX18_original_13 (by decide) (fun c_3 => ?_) (fun c_3 => ?_)
  · skip
    refine lv_aload_n hx hb dX18_original_22 rfl (lv_at hl 0 rfl) ?_
    refine va_get (D := (dC, dI)) (ci := 24) (v := .int 1600) (C := RX18) (T := TX18) (N := 17) hx hb hts (by decide +kernel) hown hK hP 0 rfl rfl 9 (by decide) (hts (.fieldLink RX18 46 "UnderpaintModel" "original" "I") (by decide +kernel)) (fun _ h9 => h9) rfl dX18_original_23 ?_
    refine lv_istore_n (lv' := [(2, .int 1600), (0, .ref mm), (1, .int n)]) hx hb dX18_original_26 rfl hl (by decide) rfl (fun ls hl => ?_)
    refine lv_aload_n hx hb dX18_original_27 rfl (lv_at hl 1 rfl) ?_
    refine lv_iload_n hx hb dX18_original_28 rfl (lv_at hl 2 rfl) ?_
    refine va_put (D := (dC, dI)) (ci := 24) (v := .int n) (ty := .int) (C := RX18) (T := TX18) (N := 17) hx hb hts (by decide +kernel) tyX18 tyX18_ok nmX18 hown hK hP hD hS 0 rfl rfl 9 (by decide) (hts (.fieldLink RX18 46 "UnderpaintModel" "original" "I") (by decide +kernel)) (fun _ h9 => h9) rfl (by decide +kernel) rfl rfl (Nat.le_of_ble_eq_true rfl) dX18_original_29 (fun H locs hP hD hS => ?_)
    have hP : va_P (dC, dI) vwCl [(mm, .inr (24, [.int 0, .ref stu, .ref cla, .ref pic, .ref act, .int 5, .int 50, .ref nts, .ref isn, .int n, .ref boa, .ref mas, .ref pai, .ref sol, .int 0, .ref bal, .ref leg]))] H := hP
    have hD : va_D A [(mm, .inr (24, [.int 0, .ref stu, .ref cla, .ref pic, .ref act, .int 5, .int 50, .ref nts, .ref isn, .int n, .ref boa, .ref mas, .ref pai, .ref sol, .int 0, .ref bal, .ref leg]))] := hD
    have hR : va_P (dC, dI) vwCl [] H := fun k q h => by simp at h
    refine lv_iload_n hx hb dX18_original_32 rfl (lv_at hl 0 rfl) ?_
    refine W.widen (k := 0) (n := 0) (Nat.le_of_ble_eq_true rfl) (Nat.le_of_ble_eq_true rfl) ?_
    exact W.iret (v := 1600) hx hb hr (fun t ht hW => ⟨⟨1600, ⟨0, [.ref stu, .ref cla, .ref pic, .ref act, .int 5, .int 50, .ref nts, .ref isn, .int n, .ref boa, .ref mas, .ref pai, .ref sol, .int 0, .ref bal, .ref leg]⟩, rfl, (z_c_X18_original_19 n r_1 h_2 c_3), cB.mk ht hW (hP.sub [0] rfl) (hK.sub [] rfl) (hD.sub [0] (by decide) rfl) (trivial)⟩, hS.F ht⟩) hS.2.2 dX18_original_33
  · skip
    refine lv_aload_n hx hb dX18_original_16 rfl (lv_at hl 0 rfl) ?_
    refine lv_iconst (v := 1) hx hb dX18_original_17 (by decide) ?_
    have hPc := (hP.app hR).sub (ws' := [(mm, .inr (24, .int 0 :: ([.ref stu, .ref cla, .ref pic, .ref act, .int 5, .int 50, .ref nts, .ref isn, .int 1600, .ref boa, .ref mas, .ref pai, .ref sol, .int 0, .ref bal, .ref leg])))] ++ []) [0] rfl
    have hDc := (en_DD hD hDr hN0 hAb).sub (ws' := [(mm, .inr (24, .int 0 :: ([.ref stu, .ref cla, .ref pic, .ref act, .int 5, .int 50, .ref nts, .ref isn, .int 1600, .ref boa, .ref mas, .ref pai, .ref sol, .int 0, .ref bal, .ref leg])))] ++ []) [0] (by decide) rfl
    have hKc := hK.sub (tys' := []) [] rfl
    have hFc := va_free (wc := [(mm, .inr (24, .int 0 :: ([.ref stu, .ref cla, .ref pic, .ref act, .int 5, .int 50, .ref nts, .ref isn, .int 1600, .ref boa, .ref mas, .ref pai, .ref sol, .int 0, .ref bal, .ref leg])))]) hD hS hA [0] rfl
    refine va_calli (va_runV (As := [.int 1]) (rest := []) ⟨hx, hb, hml, hown, hts⟩ (c_X18_fails l dC dI b0 en H.size mm 0 1 ([.ref stu, .ref cla, .ref pic, .ref act, .int 5, .int 50, .ref nts, .ref isn, .int 1600, .ref boa, .ref mas, .ref pai, .ref sol, .int 0, .ref bal, .ref leg])) (cwV 1 hts gX18_original_X18_fails rfl rfl rfl (by decide +kernel) ⟨Nat.le_of_ble_eq_true rfl, Nat.le_of_ble_eq_true rfl⟩) ⟨cP.blind, va_recv hK hP (ci := 24) (q0 := 0) rfl rfl, cP.use (en_z hb0 hS) (hE.on hAb hS) hPc hKc hDc trivial⟩ rfl rfl hl.1 rfl (lv_room (Nat.le_of_ble_eq_true rfl)) dX18_original_18 ⟨Nat.le_of_ble_eq_true rfl, Nat.le_of_ble_eq_true rfl⟩) hS (fun q _ h => hFc q h) hFc (fun r_4 u t H1 locs ht hvm hw hB hz1 hk1 hS => ?_)
    obtain ⟨hP1, hK1, hD1, hF1⟩ := hB
    rw [ht] at hP1
    try rw [ht] at hF1
    have hK1 := va_K.moved hvm.symm hK1
    try dsimp only at hw
    obtain ⟨hP, hD⟩ := va_join (wr := []) (w1 := [(mm, .inr (24, [.int 1, .ref stu, .ref cla, .ref pic, .ref act, .int 5, .int 50, .ref nts, .ref isn, .int 1600, .ref boa, .ref mas, .ref pai, .ref sol, .int 0, .ref bal, .ref leg]))]) hP hD [0] [] rfl rfl (by decide) (by decide) hk1 hFc hP1 hD1
    generalize H1 = H at hP hS ⊢
    have hP : va_P (dC, dI) vwCl [(mm, .inr (24, [.int 1, .ref stu, .ref cla, .ref pic, .ref act, .int 5, .int 50, .ref nts, .ref isn, .int 1600, .ref boa, .ref mas, .ref pai, .ref sol, .int 0, .ref bal, .ref leg]))] H := hP
    have hD : va_D A [(mm, .inr (24, [.int 1, .ref stu, .ref cla, .ref pic, .ref act, .int 5, .int 50, .ref nts, .ref isn, .int 1600, .ref boa, .ref mas, .ref pai, .ref sol, .int 0, .ref bal, .ref leg]))] := hD
    have hR : va_P (dC, dI) vwCl [] H := fun k q h => by simp at h
    refine W.widen (k := 0) (n := 0) (Nat.le_of_ble_eq_true rfl) (Nat.le_of_ble_eq_true rfl) ?_
    subst r_4
    refine W.widen (k := 0) (n := 0) (Nat.le_of_ble_eq_true rfl) (Nat.le_of_ble_eq_true rfl) ?_
    exact W.iret (v := 0) hx hb hr (fun t ht hW => ⟨⟨0, ⟨1, [.ref stu, .ref cla, .ref pic, .ref act, .int 5, .int 50, .ref nts, .ref isn, .int 1600, .ref boa, .ref mas, .ref pai, .ref sol, .int 0, .ref bal, .ref leg]⟩, rfl, (z_c_X18_original_20 n r_1 h_2 c_3), cB.mk ht hW (hP.sub [0] rfl) (hK.sub [] rfl) (hD.sub [0] (by decide) rfl) (trivial)⟩, hS.F ht⟩) hS.2.2 dX18_original_21
theorem z_c_X18_sign_21   : (0 : Int32) = 0 ∧ (1 : Int32) = 1 := by grind
set_option maxHeartbeats 4000000 in
set_option maxRecDepth 100000 in
theorem c_X18_sign (l : Launch) (dC : Nat → ClassId) (dI : Nat → Nat → Nat) (b0 : Nat) (en : EnT) (sz : Nat) (mm stu cla pic act nts isn boa mas pai sol bal leg : Nat) : Met l yX18_sign wsX18_sign ({ frames := 0, cells := 0, slots := 0, locals := 0 } : Room) (cP b0 en (dC, dI) [] [(mm, .inr (24, [.int 0, .ref stu, .ref cla, .ref pic, .ref act, .int 5, .int 50, .ref nts, .ref isn, .int 1600, .ref boa, .ref mas, .ref pai, .ref sol, .int 0, .ref bal, .ref leg]))] [] sz (fun _ => True) [.ref mm]) (va_Qi (fun (r : Int32) (u : Int32 × List Value) => u.1 = 0 ∧ r = 1) (fun u t => cB (dC, dI) [] [(mm, .inr (24, .int u.1 :: u.2))] (va_A [(mm, .inr (24, [.int 0, .ref stu, .ref cla, .ref pic, .ref act, .int 5, .int 50, .ref nts, .ref isn, .int 1600, .ref boa, .ref mas, .ref pai, .ref sol, .int 0, .ref bal, .ref leg]))] sz) (fun _ => True) t) (va_A [(mm, .inr (24, [.int 0, .ref stu, .ref cla, .ref pic, .ref act, .int 5, .int 50, .ref nts, .ref isn, .int 1600, .ref boa, .ref mas, .ref pai, .ref sol, .int 0, .ref bal, .ref leg]))] sz)) 0 0 (va_A [(mm, .inr (24, [.int 0, .ref stu, .ref cla, .ref pic, .ref act, .int 5, .int 50, .ref nts, .ref isn, .int 1600, .ref boa, .ref mas, .ref pai, .ref sol, .int 0, .ref bal, .ref leg]))] sz) := by
  refine Met.ofW (cc := cX18_sign) (maxL := 2) (ret := (some .boolean)) (by decide) rfl ?_
  intro p e s m args below meth c s₁ B hml hv
  obtain ⟨rfl, hsz, hb0, hE, hPP, hK, hDD, hF0⟩ := hv
  have hx := B.exec
  have hb := B.bytes
  have hr := B.returns
  have hts := atoms_spec (ws := wsX18_sign) B.pre
  have hown : s.vm.findClass RX18 = some m.cls := findClass_of_methodNamed B.named
  have hlocks := B.notSynchronized
  subst hsz
  have hN0 := en_N hPP hDD rfl
  have hP : va_P (dC, dI) vwCl [(mm, .inr (24, [.int 0, .ref stu, .ref cla, .ref pic, .ref act, .int 5, .int 50, .ref nts, .ref isn, .int 1600, .ref boa, .ref mas, .ref pai, .ref sol, .int 0, .ref bal, .ref leg]))] s.heap := hPP.sub [0] rfl
  have hR0 : va_P (dC, dI) vwCl [] s.heap := hPP.sub [] rfl
  have hD0 : va_D (fun q => b0 ≤ q) [(mm, .inr (24, [.int 0, .ref stu, .ref cla, .ref pic, .ref act, .int 5, .int 50, .ref nts, .ref isn, .int 1600, .ref boa, .ref mas, .ref pai, .ref sol, .int 0, .ref bal, .ref leg]))] := hDD.sub [0] (by decide) rfl
  have hDr : va_D (fun q => b0 ≤ q) [] := hDD.sub [] (by decide) rfl
  have hAb := en_A (sz := s.heap.size) hD0 hb0
  have hD := hD0.self (sz := s.heap.size)
  generalize hAe : va_A [(mm, .inr (24, [.int 0, .ref stu, .ref cla, .ref pic, .ref act, .int 5, .int 50, .ref nts, .ref isn, .int 1600, .ref boa, .ref mas, .ref pai, .ref sol, .int 0, .ref bal, .ref leg]))] s.heap.size = A at hD hAb hN0 ⊢
  have hA : ∀ q : Nat, s.heap.size ≤ q → A q := fun q h => by rw [← hAe]; exact Or.inr h
  have hS : va_S A s.heap s.heap [] := va_S.rf
  have hR := hR0
  have hl := lv_entry [.ref mm] (n := 2) (Nat.le_of_ble_eq_true rfl)
  rw [lg_entry_eq]
  generalize (lg_sl [.ref mm] ++ List.replicate (2 - (lg_sl [.ref mm]).length) Slot.unset).toArray = ls at hl ⊢
  have hl : lv_has ls 2 [(0, .ref mm)] := hl
  refine lv_aload_n hx hb dX18_sign_0 rfl (lv_at hl 0 rfl) ?_
  refine lv_iconst (v := 0) hx hb dX18_sign_1 (by decide) ?_
  refine va_put (D := (dC, dI)) (ci := 24) (v := .int 0) (ty := .int) (C := RX18) (T := TX18) (N := 17) hx hb hts (by decide +kernel) tyX18 tyX18_ok nmX18 hown hK hP hD hS 0 rfl rfl 0 (by decide) (hts (.fieldLink RX18 67 "UnderpaintModel" "code" "I") (by decide +kernel)) (fun _ h9 => h9) rfl (by decide +kernel) rfl rfl (Nat.le_of_ble_eq_true rfl) dX18_sign_2 (fun H locs hP hD hS => ?_)
  have hP : va_P (dC, dI) vwCl [(mm, .inr (24, [.int 0, .ref stu, .ref cla, .ref pic, .ref act, .int 5, .int 50, .ref nts, .ref isn, .int 1600, .ref boa, .ref mas, .ref pai, .ref sol, .int 0, .ref bal, .ref leg]))] H := hP
  have hD : va_D A [(mm, .inr (24, [.int 0, .ref stu, .ref cla, .ref pic, .ref act, .int 5, .int 50, .ref nts, .ref isn, .int 1600, .ref boa, .ref mas, .ref pai, .ref sol, .int 0, .ref bal, .ref leg]))] := hD
  have hR : va_P (dC, dI) vwCl [] H := fun k q h => by simp at h
  refine lv_aload_n hx hb dX18_sign_5 rfl (lv_at hl 0 rfl) ?_
  refine va_get (D := (dC, dI)) (ci := 24) (v := .int 0) (C := RX18) (T := TX18) (N := 17) hx hb hts (by decide +kernel) hown hK hP 0 rfl rfl 14 (by decide) (hts (.fieldLink RX18 273 "UnderpaintModel" "isSigned" "Z") (by decide +kernel)) (fun _ h9 => h9) rfl dX18_sign_6 ?_
  refine lv_if_ne (tgt := 16) hx hb dX18_sign_9 (by decide) (fun c_1 => absurd c_1 (by decide)) (fun c_1 => ?_)
  refine lv_iconst (v := 1) hx hb dX18_sign_12 (by decide) ?_
  refine lv_goto (tgt := 17) hx hb dX18_sign_13 (by decide) ?_
  refine lv_istore_n (lv' := [(1, .int 1), (0, .ref mm)]) hx hb dX18_sign_17 rfl hl (by decide) rfl (fun ls hl => ?_)
  refine lv_aload_n hx hb dX18_sign_18 rfl (lv_at hl 1 rfl) ?_
  refine lv_iconst (v := 1) hx hb dX18_sign_19 (by decide) ?_
  refine va_put (D := (dC, dI)) (ci := 24) (v := .int 1) (ty := .boolean) (C := RX18) (T := TX18) (N := 17) hx hb hts (by decide +kernel) tyX18 tyX18_ok nmX18 hown hK hP hD hS 0 rfl rfl 14 (by decide) (hts (.fieldLink RX18 273 "UnderpaintModel" "isSigned" "Z") (by decide +kernel)) (fun _ h9 => h9) rfl (by decide +kernel) (by first | rfl | decide +kernel) (by first | rfl | decide +kernel) (Nat.le_of_ble_eq_true rfl) dX18_sign_20 (fun H locs hP hD hS => ?_)
  have hP : va_P (dC, dI) vwCl [(mm, .inr (24, [.int 0, .ref stu, .ref cla, .ref pic, .ref act, .int 5, .int 50, .ref nts, .ref isn, .int 1600, .ref boa, .ref mas, .ref pai, .ref sol, .int 1, .ref bal, .ref leg]))] H := hP
  have hD : va_D A [(mm, .inr (24, [.int 0, .ref stu, .ref cla, .ref pic, .ref act, .int 5, .int 50, .ref nts, .ref isn, .int 1600, .ref boa, .ref mas, .ref pai, .ref sol, .int 1, .ref bal, .ref leg]))] := hD
  have hR : va_P (dC, dI) vwCl [] H := fun k q h => by simp at h
  refine lv_iload_n hx hb dX18_sign_23 rfl (lv_at hl 0 rfl) ?_
  refine W.widen (k := 0) (n := 0) (Nat.le_of_ble_eq_true rfl) (Nat.le_of_ble_eq_true rfl) ?_
  exact W.zret (v := 1) hx hb hr (by first | rfl | decide +kernel) (fun t ht hW => ⟨⟨1, ⟨0, [.ref stu, .ref cla, .ref pic, .ref act, .int 5, .int 50, .ref nts, .ref isn, .int 1600, .ref boa, .ref mas, .ref pai, .ref sol, .int 1, .ref bal, .ref leg]⟩, rfl, (z_c_X18_sign_21), cB.mk ht hW (hP.sub [0] rfl) (hK.sub [] rfl) (hD.sub [0] (by decide) rfl) (trivial)⟩, hS.F ht⟩) hS.2.2 dX18_sign_24

set_option maxHeartbeats 4000000 in
set_option maxRecDepth 100000 in
theorem c_X18_isSound (l : Launch) (dC : Nat → ClassId) (dI : Nat → Nat → Nat) (b0 : Nat) (en : EnT) (sz : Nat) (mm stu cla pic act nts isn boa mas pai sol bal leg : Nat) : Met l yX18_isSound wsX18_isSound ({ frames := 0, cells := 0, slots := 0, locals := 0 } : Room) (cP b0 en (dC, dI) [] [(mm, .inr (24, [.int 0, .ref stu, .ref cla, .ref pic, .ref act, .int 5, .int 50, .ref nts, .ref isn, .int 1600, .ref boa, .ref mas, .ref pai, .ref sol, .int 0, .ref bal, .ref leg]))] [] sz (fun _ => True) [.ref mm]) (va_Qi (fun (r : Int32) (u : Int32 × List Value) => u.1 = 0 ∧ r = 1) (fun u t => cB (dC, dI) [] [(mm, .inr (24, .int u.1 :: u.2))] (va_A [(mm, .inr (24, [.int 0, .ref stu, .ref cla, .ref pic, .ref act, .int 5, .int 50, .ref nts, .ref isn, .int 1600, .ref boa, .ref mas, .ref pai, .ref sol, .int 0, .ref bal, .ref leg]))] sz) (fun _ => True) t) (va_A [(mm, .inr (24, [.int 0, .ref stu, .ref cla, .ref pic, .ref act, .int 5, .int 50, .ref nts, .ref isn, .int 1600, .ref boa, .ref mas, .ref pai, .ref sol, .int 0, .ref bal, .ref leg]))] sz)) 0 0 (va_A [(mm, .inr (24, [.int 0, .ref stu, .ref cla, .ref pic, .ref act, .int 5, .int 50, .ref nts, .ref isn, .int 1600, .ref boa, .ref mas, .ref pai, .ref sol, .int 0, .ref bal, .ref leg]))] sz) := by
  refine Met.ofW (cc := cX18_isSound) (maxL := 1) (ret := (some .boolean)) (by decide) rfl ?_
  intro p e s m args below meth c s₁ B hml hv
  obtain ⟨rfl, hsz, hb0, hE, hPP, hK, hDD, hF0⟩ := hv
  have hx := B.exec
  have hb := B.bytes
  have hr := B.returns
  have hts := atoms_spec (ws := wsX18_isSound) B.pre
  have hown : s.vm.findClass RX18 = some m.cls := findClass_of_methodNamed B.named
  have hlocks := B.notSynchronized
  subst hsz
  have hN0 := en_N hPP hDD rfl
  have hP : va_P (dC, dI) vwCl [(mm, .inr (24, [.int 0, .ref stu, .ref cla, .ref pic, .ref act, .int 5, .int 50, .ref nts, .ref isn, .int 1600, .ref boa, .ref mas, .ref pai, .ref sol, .int 0, .ref bal, .ref leg]))] s.heap := hPP.sub [0] rfl
  have hR0 : va_P (dC, dI) vwCl [] s.heap := hPP.sub [] rfl
  have hD0 : va_D (fun q => b0 ≤ q) [(mm, .inr (24, [.int 0, .ref stu, .ref cla, .ref pic, .ref act, .int 5, .int 50, .ref nts, .ref isn, .int 1600, .ref boa, .ref mas, .ref pai, .ref sol, .int 0, .ref bal, .ref leg]))] := hDD.sub [0] (by decide) rfl
  have hDr : va_D (fun q => b0 ≤ q) [] := hDD.sub [] (by decide) rfl
  have hAb := en_A (sz := s.heap.size) hD0 hb0
  have hD := hD0.self (sz := s.heap.size)
  generalize hAe : va_A [(mm, .inr (24, [.int 0, .ref stu, .ref cla, .ref pic, .ref act, .int 5, .int 50, .ref nts, .ref isn, .int 1600, .ref boa, .ref mas, .ref pai, .ref sol, .int 0, .ref bal, .ref leg]))] s.heap.size = A at hD hAb hN0 ⊢
  have hA : ∀ q : Nat, s.heap.size ≤ q → A q := fun q h => by rw [← hAe]; exact Or.inr h
  have hS : va_S A s.heap s.heap [] := va_S.rf
  have hR := hR0
  have hl := lv_entry [.ref mm] (n := 1) (Nat.le_of_ble_eq_true rfl)
  rw [lg_entry_eq]
  generalize (lg_sl [.ref mm] ++ List.replicate (1 - (lg_sl [.ref mm]).length) Slot.unset).toArray = ls at hl ⊢
  have hl : lv_has ls 1 [(0, .ref mm)] := hl
  refine lv_aload_n hx hb dX18_isSound_0 rfl (lv_at hl 0 rfl) ?_
  refine lv_iconst (v := 0) hx hb dX18_isSound_1 (by decide) ?_
  refine va_put (D := (dC, dI)) (ci := 24) (v := .int 0) (ty := .int) (C := RX18) (T := TX18) (N := 17) hx hb hts (by decide +kernel) tyX18 tyX18_ok nmX18 hown hK hP hD hS 0 rfl rfl 0 (by decide) (hts (.fieldLink RX18 67 "UnderpaintModel" "code" "I") (by decide +kernel)) (fun _ h9 => h9) rfl (by decide +kernel) rfl rfl (Nat.le_of_ble_eq_true rfl) dX18_isSound_2 (fun H locs hP hD hS => ?_)
  have hP : va_P (dC, dI) vwCl [(mm, .inr (24, [.int 0, .ref stu, .ref cla, .ref pic, .ref act, .int 5, .int 50, .ref nts, .ref isn, .int 1600, .ref boa, .ref mas, .ref pai, .ref sol, .int 0, .ref bal, .ref leg]))] H := hP
  have hD : va_D A [(mm, .inr (24, [.int 0, .ref stu, .ref cla, .ref pic, .ref act, .int 5, .int 50, .ref nts, .ref isn, .int 1600, .ref boa, .ref mas, .ref pai, .ref sol, .int 0, .ref bal, .ref leg]))] := hD
  have hR : va_P (dC, dI) vwCl [] H := fun k q h => by simp at h
  refine lv_iconst (v := 1) hx hb dX18_isSound_5 (by decide) ?_
  refine W.widen (k := 0) (n := 0) (Nat.le_of_ble_eq_true rfl) (Nat.le_of_ble_eq_true rfl) ?_
  exact W.zret (v := 1) hx hb hr (by first | rfl | decide +kernel) (fun t ht hW => ⟨⟨1, ⟨0, [.ref stu, .ref cla, .ref pic, .ref act, .int 5, .int 50, .ref nts, .ref isn, .int 1600, .ref boa, .ref mas, .ref pai, .ref sol, .int 0, .ref bal, .ref leg]⟩, rfl, (z_c_X18_sign_21), cB.mk ht hW (hP.sub [0] rfl) (hK.sub [] rfl) (hD.sub [0] (by decide) rfl) (trivial)⟩, hS.F ht⟩) hS.2.2 dX18_isSound_6
