theorem dX15_init_0 : decode cX15_init 0 = .ok (.aload_n 0, 1) := by decide +kernel
theorem dX15_init_1 : decode cX15_init 1 = .ok (.invokespecial 3, 3) := by decide +kernel
theorem dX15_init_4 : decode cX15_init 4 = .ok (.aload_n 0, 1) := by decide +kernel
theorem dX15_init_5 : decode cX15_init 5 = .ok (.new 9, 3) := by decide +kernel
theorem dX15_init_8 : decode cX15_init 8 = .ok (.dup, 1) := by decide +kernel
set_option maxRecDepth 20000 in
theorem ggX15_init_Jx4a65c_init_da8c8 : GoodIn wsX15_init wsJx4a65c_init_da8c8 := goodIn_r _ [11, 12, 13, 14, 15, 16, 17, 18, 19, 20, 21, 22, 23, 2, 3, 24, 25, 26] (by decide +kernel) (by decide +kernel)
set_option maxRecDepth 20000 in
theorem gX15_init_Jx4a65c_init_da8c8 : GoodIn wsX15_init (wsJx4a65c_init_da8c8) := ggX15_init_Jx4a65c_init_da8c8
theorem dX15_init_9 : decode cX15_init 9 = .ok (.invokespecial 11, 3) := by decide +kernel
theorem dX15_init_12 : decode cX15_init 12 = .ok (.putfield 12, 3) := by decide +kernel
theorem dX15_init_15 : decode cX15_init 15 = .ok (.aload_n 0, 1) := by decide +kernel
theorem dX15_init_16 : decode cX15_init 16 = .ok (.iload_n 1, 1) := by decide +kernel
theorem dX15_init_17 : decode cX15_init 17 = .ok (.putfield 18, 3) := by decide +kernel
theorem dX15_init_20 : decode cX15_init 20 = .ok (.return_, 1) := by decide +kernel
theorem dX14_init_0 : decode cX14_init 0 = .ok (.aload_n 0, 1) := by decide +kernel
theorem dX14_init_1 : decode cX14_init 1 = .ok (.aload_n 1, 1) := by decide +kernel
theorem dX14_init_2 : decode cX14_init 2 = .ok (.putfield 3, 3) := by decide +kernel
theorem dX14_init_5 : decode cX14_init 5 = .ok (.aload_n 0, 1) := by decide +kernel
theorem dX14_init_6 : decode cX14_init 6 = .ok (.invokespecial 9, 3) := by decide +kernel
theorem dX14_init_9 : decode cX14_init 9 = .ok (.aload_n 0, 1) := by decide +kernel
theorem dX14_init_10 : decode cX14_init 10 = .ok (.bipush 48, 2) := by decide +kernel
theorem dX14_init_12 : decode cX14_init 12 = .ok (.anewarray 15, 3) := by decide +kernel
theorem dX14_init_15 : decode cX14_init 15 = .ok (.putfield 17, 3) := by decide +kernel
theorem dX14_init_18 : decode cX14_init 18 = .ok (.aload_n 0, 1) := by decide +kernel
theorem dX14_init_19 : decode cX14_init 19 = .ok (.new 21, 3) := by decide +kernel
theorem dX14_init_22 : decode cX14_init 22 = .ok (.dup, 1) := by decide +kernel
set_option maxRecDepth 20000 in
theorem ggX14_init_Jx4a65c_init_da8c8 : GoodIn wsX14_init wsJx4a65c_init_da8c8 := goodIn_r _ [16, 17, 18, 19, 20, 21, 22, 23, 24, 25, 26, 27, 28, 3, 4, 43, 44, 45] (by decide +kernel) (by decide +kernel)
set_option maxRecDepth 20000 in
theorem gX14_init_Jx4a65c_init_da8c8 : GoodIn wsX14_init (wsJx4a65c_init_da8c8) := ggX14_init_Jx4a65c_init_da8c8
theorem dX14_init_23 : decode cX14_init 23 = .ok (.invokespecial 23, 3) := by decide +kernel
theorem dX14_init_26 : decode cX14_init 26 = .ok (.putfield 24, 3) := by decide +kernel
theorem dX14_init_29 : decode cX14_init 29 = .ok (.aload_n 0, 1) := by decide +kernel
theorem dX14_init_30 : decode cX14_init 30 = .ok (.sipush 1600, 3) := by decide +kernel
theorem dX14_init_33 : decode cX14_init 33 = .ok (.putfield 28, 3) := by decide +kernel
theorem dX14_init_36 : decode cX14_init 36 = .ok (.iconst 0, 1) := by decide +kernel
theorem dX14_init_37 : decode cX14_init 37 = .ok (.istore_n 2, 1) := by decide +kernel
theorem dX14_init_38 : decode cX14_init 38 = .ok (.iload_n 2, 1) := by decide +kernel
theorem dX14_init_39 : decode cX14_init 39 = .ok (.bipush 48, 2) := by decide +kernel
theorem dX14_init_41 : decode cX14_init 41 = .ok (.if_icmp .ge 23, 3) := by decide +kernel
theorem dX14_init_64 : decode cX14_init 64 = .ok (.return_, 1) := by decide +kernel
theorem dX14_init_44 : decode cX14_init 44 = .ok (.aload_n 0, 1) := by decide +kernel
theorem dX14_init_45 : decode cX14_init 45 = .ok (.getfield 17, 3) := by decide +kernel
theorem dX14_init_48 : decode cX14_init 48 = .ok (.iload_n 2, 1) := by decide +kernel
theorem dX14_init_49 : decode cX14_init 49 = .ok (.new 15, 3) := by decide +kernel
theorem dX14_init_52 : decode cX14_init 52 = .ok (.dup, 1) := by decide +kernel
theorem dX14_init_53 : decode cX14_init 53 = .ok (.iload_n 2, 1) := by decide +kernel
set_option maxRecDepth 20000 in
theorem ggX14_init_X15_init : GoodIn wsX14_init wsX15_init := goodIn_r _ [31, 32, 3, 4, 33, 8, 9, 34, 35, 36, 15, 16, 17, 18, 19, 20, 21, 22, 23, 24, 25, 26, 27, 28, 43, 44, 45, 46, 47, 48] (by decide +kernel) (by decide +kernel)
set_option maxRecDepth 20000 in
theorem gX14_init_X15_init : GoodIn wsX14_init (wsX15_init) := ggX14_init_X15_init
theorem dX14_init_54 : decode cX14_init 54 = .ok (.invokespecial 32, 3) := by decide +kernel
theorem dX14_init_57 : decode cX14_init 57 = .ok (.aastore, 1) := by decide +kernel
theorem dX14_init_58 : decode cX14_init 58 = .ok (.iinc 2 1, 3) := by decide +kernel
theorem dX14_init_61 : decode cX14_init 61 = .ok (.goto (-23), 3) := by decide +kernel
theorem dX14_copy_0 : decode cX14_copy 0 = .ok (.new 4, 3) := by decide +kernel
theorem dX14_copy_3 : decode cX14_copy 3 = .ok (.dup, 1) := by decide +kernel
theorem dX14_copy_4 : decode cX14_copy 4 = .ok (.aload_n 0, 1) := by decide +kernel
theorem dX14_copy_5 : decode cX14_copy 5 = .ok (.getfield 3, 3) := by decide +kernel
set_option maxRecDepth 20000 in
theorem ggX14_copy_X14_init : GoodIn wsX14_copy wsX14_init := goodIn_r _ [14, 4, 15, 16, 17, 18, 7, 19, 20, 21, 6, 5, 22, 23, 24, 25, 26, 27, 28, 29, 30, 31, 32, 33, 34, 35, 36, 37, 38, 39, 40, 41, 42, 43, 44, 45, 46, 146, 147, 148, 149, 150, 151, 160, 161, 162, 152, 153, 154] (by decide +kernel) (by decide +kernel)
set_option maxRecDepth 20000 in
theorem gX14_copy_X14_init : GoodIn wsX14_copy (wsX14_init) := ggX14_copy_X14_init
theorem dX14_copy_8 : decode cX14_copy 8 = .ok (.invokespecial 35, 3) := by decide +kernel
theorem dX14_copy_11 : decode cX14_copy 11 = .ok (.astore_n 1, 1) := by decide +kernel
theorem dX14_copy_12 : decode cX14_copy 12 = .ok (.aload_n 1, 1) := by decide +kernel
theorem dX14_copy_13 : decode cX14_copy 13 = .ok (.aload_n 0, 1) := by decide +kernel
theorem dX14_copy_14 : decode cX14_copy 14 = .ok (.getfield 28, 3) := by decide +kernel
theorem dX14_copy_17 : decode cX14_copy 17 = .ok (.putfield 28, 3) := by decide +kernel
theorem dX14_copy_20 : decode cX14_copy 20 = .ok (.aload_n 1, 1) := by decide +kernel
theorem dX14_copy_21 : decode cX14_copy 21 = .ok (.getfield 24, 3) := by decide +kernel
theorem dX14_copy_24 : decode cX14_copy 24 = .ok (.aload_n 0, 1) := by decide +kernel
theorem dX14_copy_25 : decode cX14_copy 25 = .ok (.getfield 24, 3) := by decide +kernel
set_option maxRecDepth 20000 in
theorem ggX14_copy_Jx4a65c_addAll_f0b43 : GoodIn wsX14_copy wsJx4a65c_addAll_f0b43 := goodIn_r _ [50, 51, 52, 28, 53, 54, 55, 56, 57, 58, 59, 60, 21, 61, 62, 63, 64, 65, 66, 67, 68, 69, 70, 71, 72, 73, 74, 75, 76, 77, 78, 79, 80, 81, 82, 83, 27, 84, 85, 86, 87, 88, 89, 90, 91, 92, 93, 94, 95, 96, 160, 161, 162] (by decide +kernel) (by decide +kernel)
set_option maxRecDepth 20000 in
theorem gX14_copy_Jx4a65c_addAll_f0b43_f38Jx4a65c : GoodIn wsX14_copy (va_wsF RX14 38 RJx4a65c ⟨"java/util/List", "addAll", "(Ljava/util/Collection;)Z"⟩ yJx4a65c_addAll_f0b43 wsJx4a65c_addAll_f0b43) := goodIn_app (goodIn_of _ (by decide +kernel)) ggX14_copy_Jx4a65c_addAll_f0b43
theorem dX14_copy_28 : decode cX14_copy 28 = .ok (.invokeinterface 38 2, 5) := by decide +kernel
theorem dX14_copy_33 : decode cX14_copy 33 = .ok (.pop, 1) := by decide +kernel
theorem dX14_copy_34 : decode cX14_copy 34 = .ok (.iconst 0, 1) := by decide +kernel
theorem dX14_copy_35 : decode cX14_copy 35 = .ok (.istore_n 2, 1) := by decide +kernel
theorem dX14_copy_36 : decode cX14_copy 36 = .ok (.iload_n 2, 1) := by decide +kernel
theorem dX14_copy_37 : decode cX14_copy 37 = .ok (.bipush 48, 2) := by decide +kernel
theorem dX14_copy_39 : decode cX14_copy 39 = .ok (.if_icmp .ge 121, 3) := by decide +kernel
theorem dX14_copy_160 : decode cX14_copy 160 = .ok (.aload_n 1, 1) := by decide +kernel
theorem dX14_copy_161 : decode cX14_copy 161 = .ok (.areturn, 1) := by decide +kernel
theorem dX14_copy_42 : decode cX14_copy 42 = .ok (.aload_n 1, 1) := by decide +kernel
theorem dX14_copy_43 : decode cX14_copy 43 = .ok (.getfield 17, 3) := by decide +kernel
theorem dX14_copy_46 : decode cX14_copy 46 = .ok (.iload_n 2, 1) := by decide +kernel
theorem dX14_copy_47 : decode cX14_copy 47 = .ok (.aaload, 1) := by decide +kernel
theorem dX14_copy_48 : decode cX14_copy 48 = .ok (.aload_n 0, 1) := by decide +kernel
theorem dX14_copy_49 : decode cX14_copy 49 = .ok (.getfield 17, 3) := by decide +kernel
theorem dX14_copy_52 : decode cX14_copy 52 = .ok (.iload_n 2, 1) := by decide +kernel
theorem dX14_copy_53 : decode cX14_copy 53 = .ok (.aaload, 1) := by decide +kernel
theorem dX14_copy_54 : decode cX14_copy 54 = .ok (.getfield 44, 3) := by decide +kernel
theorem dX14_copy_57 : decode cX14_copy 57 = .ok (.putfield 44, 3) := by decide +kernel
theorem dX14_copy_60 : decode cX14_copy 60 = .ok (.aload_n 0, 1) := by decide +kernel
theorem dX14_copy_61 : decode cX14_copy 61 = .ok (.getfield 17, 3) := by decide +kernel
theorem dX14_copy_64 : decode cX14_copy 64 = .ok (.iload_n 2, 1) := by decide +kernel
theorem dX14_copy_65 : decode cX14_copy 65 = .ok (.aaload, 1) := by decide +kernel
theorem dX14_copy_66 : decode cX14_copy 66 = .ok (.getfield 47, 3) := by decide +kernel
set_option maxRecDepth 20000 in
theorem ggX14_copy_Jx4a65c_iterator_32c93 : GoodIn wsX14_copy wsJx4a65c_iterator_32c93 := goodIn_r _ [100, 101, 102, 103, 104, 105, 106, 107, 108, 16, 17, 109, 110, 52, 111, 163, 164, 165, 166, 160, 161, 162] (by decide +kernel) (by decide +kernel)
set_option maxRecDepth 20000 in
theorem gX14_copy_Jx4a65c_iterator_32c93_f50Jx4a65c : GoodIn wsX14_copy (va_wsF RX14 50 RJx4a65c ⟨"java/util/List", "iterator", "()Ljava/util/Iterator;"⟩ yJx4a65c_iterator_32c93 wsJx4a65c_iterator_32c93) := goodIn_app (goodIn_of _ (by decide +kernel)) ggX14_copy_Jx4a65c_iterator_32c93
theorem dX14_copy_69 : decode cX14_copy 69 = .ok (.invokeinterface 50 1, 5) := by decide +kernel
theorem dX14_copy_74 : decode cX14_copy 74 = .ok (.astore_n 3, 1) := by decide +kernel
theorem dX14_copy_75 : decode cX14_copy 75 = .ok (.aload_n 3, 1) := by decide +kernel
set_option maxRecDepth 20000 in
theorem ggX14_copy_Jx35411_hasNext_aae02 : GoodIn wsX14_copy wsJx35411_hasNext_aae02 := goodIn_r _ [115, 116, 107, 163, 164, 165, 166, 160, 161, 162] (by decide +kernel) (by decide +kernel)
set_option maxRecDepth 20000 in
theorem gX14_copy_Jx35411_hasNext_aae02_f54Jx35411 : GoodIn wsX14_copy (va_wsF RX14 54 RJx35411 ⟨"java/util/Iterator", "hasNext", "()Z"⟩ yJx35411_hasNext_aae02 wsJx35411_hasNext_aae02) := goodIn_app (goodIn_of _ (by decide +kernel)) ggX14_copy_Jx35411_hasNext_aae02
theorem dX14_copy_76 : decode cX14_copy 76 = .ok (.invokeinterface 54 1, 5) := by decide +kernel
theorem dX14_copy_81 : decode cX14_copy 81 = .ok (.ifCond .eq 73, 3) := by decide +kernel
theorem dX14_copy_154 : decode cX14_copy 154 = .ok (.iinc 2 1, 3) := by decide +kernel
theorem dX14_copy_157 : decode cX14_copy 157 = .ok (.goto (-121), 3) := by decide +kernel

set_option maxHeartbeats 4000000 in
set_option maxRecDepth 100000 in
/-- Place(number) -/
theorem c_X15_init (l : Launch) (dC : Nat → ClassId) (dI : Nat → Nat → Nat) (b0 : Nat) (en : EnT) (sz : Nat) (pa : Nat) (num : Int32) : Met l yX15_init wsX15_init ({ frames := 4, cells := 1, slots := 3, locals := 90 } : Room) (cP b0 en (dC, dI) [] [(pa, .inr (21, [.int 0, .null, .int 0]))] [] sz (fun _ => True) [.ref pa, .int num]) (va_Qv (fun u : Nat => True) (fun u t => cB (dC, dI) [] [(pa, .inr (21, [.int num, .ref u, .int 0])), (u, .inr (5, [.int 0, .ref en.2.2.1, .int 0]))] (va_A [(pa, .inr (21, [.int 0, .null, .int 0]))] sz) (fun _ => True) t) (va_A [(pa, .inr (21, [.int 0, .null, .int 0]))] sz)) 1 3 (va_A [(pa, .inr (21, [.int 0, .null, .int 0]))] sz) := by
  refine Met.ofW (cc := cX15_init) (maxL := 2) (ret := none) (by decide) rfl ?_
  intro p e s m args below meth c s₁ B hml hv
  obtain ⟨rfl, hsz, hb0, hE, hPP, hK, hDD, hF0⟩ := hv
  have hx := B.exec
  have hb := B.bytes
  have hr := B.returns
  have hts := atoms_spec (ws := wsX15_init) B.pre
  have hown : s.vm.findClass RX15 = some m.cls := findClass_of_methodNamed B.named
  have hlocks := B.notSynchronized
  have hin : meth.name = "<init>" := (name_of_methodNamed B.named B.method).1
  subst hsz
  have hN0 := en_N hPP hDD rfl
  have hP : va_P (dC, dI) vwCl [(pa, .inr (21, [.int 0, .null, .int 0]))] s.heap := hPP.sub [0] rfl
  have hR0 : va_P (dC, dI) vwCl [] s.heap := hPP.sub [] rfl
  have hD0 : va_D (fun q => b0 ≤ q) [(pa, .inr (21, [.int 0, .null, .int 0]))] := hDD.sub [0] (by decide) rfl
  have hDr : va_D (fun q => b0 ≤ q) [] := hDD.sub [] (by decide) rfl
  have hAb := en_A (sz := s.heap.size) hD0 hb0
  have hD := hD0.self (sz := s.heap.size)
  generalize hAe : va_A [(pa, .inr (21, [.int 0, .null, .int 0]))] s.heap.size = A at hD hAb hN0 ⊢
  have hA : ∀ q : Nat, s.heap.size ≤ q → A q := fun q h => by rw [← hAe]; exact Or.inr h
  have hS : va_S A s.heap s.heap [] := va_S.rf
  have hR := hR0
  have hl := lv_entry [.ref pa, .int num] (n := 2) (Nat.le_of_ble_eq_true rfl)
  rw [lg_entry_eq]
  generalize (lg_sl [.ref pa, .int num] ++ List.replicate (2 - (lg_sl [.ref pa, .int num]).length) Slot.unset).toArray = ls at hl ⊢
  have hl : lv_has ls 2 [(0, .ref pa), (1, .int num)] := hl
  refine lv_aload_n hx hb dX15_init_0 rfl (lv_at hl 0 rfl) ?_
  refine W.objInit hx hb hown (hts (.methodLink RX15 3 objectInit) (by decide +kernel)) (hts (.instanceMethod objectInit) (by decide +kernel)) (hts (.code objectInit ⟨#[0xb1]⟩ 1 none) (by decide +kernel)) rfl (by rw [hml]; exact hl.1) rfl dX15_init_1 (Nat.le_of_ble_eq_true rfl) (Nat.le_of_ble_eq_true rfl) ?_
  refine lv_aload_n hx hb dX15_init_4 rfl (lv_at hl 0 rfl) ?_
  refine va_new (ci := 5) (fs := [.int 0, .null, .int 0]) (C := RJx4a65c) (T := TJx4a65c) (N := 3) hx hb hts (by decide +kernel) tyJx4a65c tyJx4a65c_ok hown (hts (.classLink RX15 9 RJx4a65c) (by decide +kernel)) (hts (.instantiable RJx4a65c 3) (by decide +kernel)) (hts (.initialized RJx4a65c) (by decide +kernel)) hK hP hD hS hA rfl (fun j hj => by rcases (show j = 0 ∨ j = 1 ∨ j = 2 by omega) with rfl | rfl | rfl <;> rfl) (Nat.le_of_ble_eq_true rfl) (Nat.le_of_ble_eq_true rfl) dX15_init_5 (fun q_1 H hP hD hS => ?_)
  have hP : va_P (dC, dI) vwCl [(pa, .inr (21, [.int 0, .null, .int 0])), (q_1, .inr (5, [.int 0, .null, .int 0]))] H := hP
  have hD : va_D A [(pa, .inr (21, [.int 0, .null, .int 0])), (q_1, .inr (5, [.int 0, .null, .int 0]))] := hD
  have hR : va_P (dC, dI) vwCl [] H := fun k q h => by simp at h
  refine W.widen (k := 1) (n := 3) (Nat.le_of_ble_eq_true rfl) (Nat.le_of_ble_eq_true rfl) ?_
  refine lv_dup hx hb dX15_init_8 rfl ?_
  have hPc := (hP.app hR).sub (ws' := [(q_1, .inr (5, [.int 0, .null, .int 0]))] ++ []) [1] rfl
  have hDc := (en_DD hD hDr hN0 hAb).sub (ws' := [(q_1, .inr (5, [.int 0, .null, .int 0]))] ++ []) [1] (by decide) rfl
  have hKc := hK.sub (tys' := []) [] rfl
  have hFc := va_free (wc := [(q_1, .inr (5, [.int 0, .null, .int 0]))]) hD hS hA [1] rfl
  refine va_callv (va_runI (As := []) (rest := [.ref q_1, .ref pa]) ⟨hx, hb, hml, hown, hts⟩ (c_AList l dC dI b0 en H.size q_1) (cwI 0 hts gX15_init_Jx4a65c_init_da8c8 rfl rfl rfl (hts (.initialized RJx4a65c) (by decide +kernel)) (hts (.methodLink RX15 11 yJx4a65c_init_da8c8) (by decide +kernel)) (hts (.instanceMethod yJx4a65c_init_da8c8) (by decide +kernel)) rfl (by decide +kernel) ⟨Nat.le_of_ble_eq_true rfl, Nat.le_of_ble_eq_true rfl⟩) ⟨cP.blind, cP.use (en_z hb0 hS) (hE.on hAb hS) hPc hKc hDc trivial⟩ rfl rfl hl.1 rfl (lv_room (Nat.le_of_ble_eq_true rfl)) dX15_init_9 ⟨Nat.le_of_ble_eq_true rfl, Nat.le_of_ble_eq_true rfl⟩) hS (fun q _ h => hFc q h) hFc (fun u t H1 locs ht hvm hw hB hz1 hk1 hS => ?_)
  obtain ⟨hP1, hK1, hD1, hF1⟩ := hB
  rw [ht] at hP1
  try rw [ht] at hF1
  have hK1 := va_K.moved hvm.symm hK1
  try dsimp only at hw
  obtain ⟨hP, hD⟩ := va_join (wr := [(pa, .inr (21, [.int 0, .null, .int 0]))]) (w1 := [(q_1, .inr (5, [.int 0, .ref en.2.2.1, .int 0]))]) hP hD [1] [0] rfl rfl (by decide) (by decide) hk1 hFc hP1 hD1
  generalize H1 = H at hP hS ⊢
  have hP : va_P (dC, dI) vwCl [(pa, .inr (21, [.int 0, .null, .int 0])), (q_1, .inr (5, [.int 0, .ref en.2.2.1, .int 0]))] H := hP
  have hD : va_D A [(pa, .inr (21, [.int 0, .null, .int 0])), (q_1, .inr (5, [.int 0, .ref en.2.2.1, .int 0]))] := hD
  have hR : va_P (dC, dI) vwCl [] H := fun k q h => by simp at h
  refine W.widen (k := 1) (n := 3) (Nat.le_of_ble_eq_true rfl) (Nat.le_of_ble_eq_true rfl) ?_
  refine va_putF (D := (dC, dI)) (ci := 21) (v := .ref q_1) (ty := .object "java/util/List") (C := RX15) (T := TX15) (N := 3) hx hb hts (by decide +kernel) tyX15 tyX15_ok nmX15 hown hK hP hD hS 0 rfl rfl 1 (by decide) (hts (.fieldLink RX15 12 "UnderpaintModel$Place" "layers" "Ljava/util/List;") (by decide +kernel)) (fun _ h9 => h9) rfl hin rfl (by decide +kernel) rfl rfl (Nat.le_of_ble_eq_true rfl) dX15_init_12 (fun H locs hP hD hS => ?_)
  have hP : va_P (dC, dI) vwCl [(pa, .inr (21, [.int 0, .ref q_1, .int 0])), (q_1, .inr (5, [.int 0, .ref en.2.2.1, .int 0]))] H := hP
  have hD : va_D A [(pa, .inr (21, [.int 0, .ref q_1, .int 0])), (q_1, .inr (5, [.int 0, .ref en.2.2.1, .int 0]))] := hD
  have hR : va_P (dC, dI) vwCl [] H := fun k q h => by simp at h
  refine lv_aload_n hx hb dX15_init_15 rfl (lv_at hl 0 rfl) ?_
  refine lv_iload_n hx hb dX15_init_16 rfl (lv_at hl 1 rfl) ?_
  refine va_putF (D := (dC, dI)) (ci := 21) (v := .int num) (ty := .int) (C := RX15) (T := TX15) (N := 3) hx hb hts (by decide +kernel) tyX15 tyX15_ok nmX15 hown hK hP hD hS 0 rfl rfl 0 (by decide) (hts (.fieldLink RX15 18 "UnderpaintModel$Place" "number" "I") (by decide +kernel)) (fun _ h9 => h9) rfl hin rfl (by decide +kernel) rfl rfl (Nat.le_of_ble_eq_true rfl) dX15_init_17 (fun H locs hP hD hS => ?_)
  have hP : va_P (dC, dI) vwCl [(pa, .inr (21, [.int num, .ref q_1, .int 0])), (q_1, .inr (5, [.int 0, .ref en.2.2.1, .int 0]))] H := hP
  have hD : va_D A [(pa, .inr (21, [.int num, .ref q_1, .int 0])), (q_1, .inr (5, [.int 0, .ref en.2.2.1, .int 0]))] := hD
  have hR : va_P (dC, dI) vwCl [] H := fun k q h => by simp at h
  refine W.widen (k := 1) (n := 3) (Nat.le_of_ble_eq_true rfl) (Nat.le_of_ble_eq_true rfl) ?_
  exact W.vret hx hb hr (fun t ht hW => ⟨⟨q_1, rfl, trivial, cB.mk ht hW (hP.sub [0, 1] rfl) (hK.sub [] rfl) (hD.sub [0, 1] (by decide) rfl) (trivial)⟩, hS.F ht⟩) hS.2.2 dX15_init_20

set_option maxHeartbeats 4000000 in
set_option maxRecDepth 100000 in
/-- new Picture -/
theorem c_X14_init (l : Launch) (dC : Nat → ClassId) (dI : Nat → Nat → Nat) (b0 : Nat) (en : EnT) (sz : Nat) (pic mm : Nat) : Met l yX14_init wsX14_init ({ frames := 5, cells := 98, slots := 339, locals := 111 } : Room) (cP b0 en (dC, dI) [] [(pic, .inr (20, [.null, .null, .int 0, .int 0, .int 0, .null]))] [] sz (fun _ => True) [.ref pic, .ref mm]) (va_Qv (fun u : Nat × Nat × ClassId × (Nat → Option Nat) => True) (fun u t => cB (dC, dI) [(u.2.2.1, .object "UnderpaintModel$Place")] [(pic, .inr (20, [.ref u.1, .ref u.2.1, .int 1600, .int 0, .int 0, .ref mm])), (u.1, .inl (u.2.2.1, 48, .inr (.inr (.inr (.inr u.2.2.2))))), (u.2.1, .inr (5, [.int 0, .ref en.2.2.1, .int 0]))] (va_A [(pic, .inr (20, [.null, .null, .int 0, .int 0, .int 0, .null]))] sz) (FamP (dC, dI) (vN sz [pic, u.1, u.2.1]) en.2.2.1 u.2.2.2) t) (va_A [(pic, .inr (20, [.null, .null, .int 0, .int 0, .int 0, .null]))] sz)) 98 339 (va_A [(pic, .inr (20, [.null, .null, .int 0, .int 0, .int 0, .null]))] sz) := by
  refine Met.ofW (cc := cX14_init) (maxL := 3) (ret := none) (by decide) rfl ?_
  intro p e s m args below meth c s₁ B hml hv
  obtain ⟨rfl, hsz, hb0, hE, hPP, hK, hDD, hF0⟩ := hv
  have hx := B.exec
  have hb := B.bytes
  have hr := B.returns
  have hts := atoms_spec (ws := wsX14_init) B.pre
  have hown : s.vm.findClass RX14 = some m.cls := findClass_of_methodNamed B.named
  have hlocks := B.notSynchronized
  have hin : meth.name = "<init>" := (name_of_methodNamed B.named B.method).1
  subst hsz
  have hN0 := en_N hPP hDD rfl
  have hP : va_P (dC, dI) vwCl [(pic, .inr (20, [.null, .null, .int 0, .int 0, .int 0, .null]))] s.heap := hPP.sub [0] rfl
  have hR0 : va_P (dC, dI) vwCl [] s.heap := hPP.sub [] rfl
  have hD0 : va_D (fun q => b0 ≤ q) [(pic, .inr (20, [.null, .null, .int 0, .int 0, .int 0, .null]))] := hDD.sub [0] (by decide) rfl
  have hDr : va_D (fun q => b0 ≤ q) [] := hDD.sub [] (by decide) rfl
  have hAb := en_A (sz := s.heap.size) hD0 hb0
  have hD := hD0.self (sz := s.heap.size)
  generalize hAe : va_A [(pic, .inr (20, [.null, .null, .int 0, .int 0, .int 0, .null]))] s.heap.size = A at hD hAb hN0 ⊢
  have hA : ∀ q : Nat, s.heap.size ≤ q → A q := fun q h => by rw [← hAe]; exact Or.inr h
  have hS : va_S A s.heap s.heap [] := va_S.rf
  have hR := hR0
  have hl := lv_entry [.ref pic, .ref mm] (n := 3) (Nat.le_of_ble_eq_true rfl)
  rw [lg_entry_eq]
  generalize (lg_sl [.ref pic, .ref mm] ++ List.replicate (3 - (lg_sl [.ref pic, .ref mm]).length) Slot.unset).toArray = ls at hl ⊢
  have hl : lv_has ls 3 [(0, .ref pic), (1, .ref mm)] := hl
  refine W.gen (fun Q hQ => ?_)
  refine lv_aload_n hx hb dX14_init_0 rfl (lv_at hl 0 rfl) ?_
  refine lv_aload_n hx hb dX14_init_1 rfl (lv_at hl 1 rfl) ?_
  refine va_putF (D := (dC, dI)) (ci := 20) (v := .ref mm) (ty := .object "UnderpaintModel") (C := RX14) (T := TX14) (N := 6) hx hb hts (by decide +kernel) tyX14 tyX14_ok nmX14 hown hK hP hD hS 0 rfl rfl 5 (by decide) (hts (.fieldLink RX14 3 "UnderpaintModel$Picture" "this$0" "LUnderpaintModel;") (by decide +kernel)) (fun _ h9 => h9) rfl hin rfl (by decide +kernel) rfl rfl (Nat.le_of_ble_eq_true rfl) dX14_init_2 (fun H locs hP hD hS => ?_)
  have hP : va_P (dC, dI) vwCl [(pic, .inr (20, [.null, .null, .int 0, .int 0, .int 0, .ref mm]))] H := hP
  have hD : va_D A [(pic, .inr (20, [.null, .null, .int 0, .int 0, .int 0, .ref mm]))] := hD
  have hR : va_P (dC, dI) vwCl [] H := fun k q h => by simp at h
  refine lv_aload_n hx hb dX14_init_5 rfl (lv_at hl 0 rfl) ?_
  refine W.objInit hx hb hown (hts (.methodLink RX14 9 objectInit) (by decide +kernel)) (hts (.instanceMethod objectInit) (by decide +kernel)) (hts (.code objectInit ⟨#[0xb1]⟩ 1 none) (by decide +kernel)) rfl (by rw [hml]; exact hl.1) rfl dX14_init_6 (Nat.le_of_ble_eq_true rfl) (Nat.le_of_ble_eq_true rfl) ?_
  refine lv_aload_n hx hb dX14_init_9 rfl (lv_at hl 0 rfl) ?_
  refine lv_bipush (v := 48) hx hb dX14_init_10 (by decide) ?_
  refine va_newq (C := "UnderpaintModel$Place") (N' := 48) hx hb hown (hts (.classLink RX14 15 "UnderpaintModel$Place") (by decide +kernel)) (hE.arr (by decide +kernel)) hK hP hD hS hA (by decide) (by decide) (by decide) (Nat.le_of_ble_eq_true rfl) (Nat.le_of_ble_eq_true rfl) dX14_init_12 (fun q_1 k_2 H hK hP hD hS => ?_)
  have hP : va_P (dC, dI) vwCl [(pic, .inr (20, [.null, .null, .int 0, .int 0, .int 0, .ref mm])), (q_1, .inl (k_2, 48, .inr (.inr (.inr (.inr (fun _ => none))))))] H := hP
  have hD : va_D A [(pic, .inr (20, [.null, .null, .int 0, .int 0, .int 0, .ref mm])), (q_1, .inl (k_2, 48, .inr (.inr (.inr (.inr (fun _ => none))))))] := hD
  have hR : va_P (dC, dI) vwCl [] H := fun k q h => by simp at h
  refine W.widen (k := 1) (n := 48) (Nat.le_of_ble_eq_true rfl) (Nat.le_of_ble_eq_true rfl) ?_
  refine va_putF (D := (dC, dI)) (ci := 20) (v := .ref q_1) (ty := .array (.object "UnderpaintModel$Place")) (C := RX14) (T := TX14) (N := 6) hx hb hts (by decide +kernel) tyX14 tyX14_ok nmX14 hown hK hP hD hS 0 rfl rfl 0 (by decide) (hts (.fieldLink RX14 17 "UnderpaintModel$Picture" "at" "[LUnderpaintModel$Place;") (by decide +kernel)) (fun _ h9 => h9) rfl hin rfl (by decide +kernel) rfl rfl (Nat.le_of_ble_eq_true rfl) dX14_init_15 (fun H locs hP hD hS => ?_)
  have hP : va_P (dC, dI) vwCl [(pic, .inr (20, [.ref q_1, .null, .int 0, .int 0, .int 0, .ref mm])), (q_1, .inl (k_2, 48, .inr (.inr (.inr (.inr (fun _ => none))))))] H := hP
  have hD : va_D A [(pic, .inr (20, [.ref q_1, .null, .int 0, .int 0, .int 0, .ref mm])), (q_1, .inl (k_2, 48, .inr (.inr (.inr (.inr (fun _ => none))))))] := hD
  have hR : va_P (dC, dI) vwCl [] H := fun k q h => by simp at h
  refine lv_aload_n hx hb dX14_init_18 rfl (lv_at hl 0 rfl) ?_
  refine va_new (ci := 5) (fs := [.int 0, .null, .int 0]) (C := RJx4a65c) (T := TJx4a65c) (N := 3) hx hb hts (by decide +kernel) tyJx4a65c tyJx4a65c_ok hown (hts (.classLink RX14 21 RJx4a65c) (by decide +kernel)) (hts (.instantiable RJx4a65c 3) (by decide +kernel)) (hts (.initialized RJx4a65c) (by decide +kernel)) hK hP hD hS hA rfl (fun j hj => by rcases (show j = 0 ∨ j = 1 ∨ j = 2 by omega) with rfl | rfl | rfl <;> rfl) (Nat.le_of_ble_eq_true rfl) (Nat.le_of_ble_eq_true rfl) dX14_init_19 (fun q_3 H hP hD hS => ?_)
  have hP : va_P (dC, dI) vwCl [(pic, .inr (20, [.ref q_1, .null, .int 0, .int 0, .int 0, .ref mm])), (q_1, .inl (k_2, 48, .inr (.inr (.inr (.inr (fun _ => none)))))), (q_3, .inr (5, [.int 0, .null, .int 0]))] H := hP
  have hD : va_D A [(pic, .inr (20, [.ref q_1, .null, .int 0, .int 0, .int 0, .ref mm])), (q_1, .inl (k_2, 48, .inr (.inr (.inr (.inr (fun _ => none)))))), (q_3, .inr (5, [.int 0, .null, .int 0]))] := hD
  have hR : va_P (dC, dI) vwCl [] H := fun k q h => by simp at h
  refine W.widen (k := 2) (n := 51) (Nat.le_of_ble_eq_true rfl) (Nat.le_of_ble_eq_true rfl) ?_
  refine lv_dup hx hb dX14_init_22 rfl ?_
  have hPc := (hP.app hR).sub (ws' := [(q_3, .inr (5, [.int 0, .null, .int 0]))] ++ []) [2] rfl
  have hDc := (en_DD hD hDr hN0 hAb).sub (ws' := [(q_3, .inr (5, [.int 0, .null, .int 0]))] ++ []) [2] (by decide) rfl
  have hKc := hK.sub (tys' := []) [] rfl
  have hFc := va_free (wc := [(q_3, .inr (5, [.int 0, .null, .int 0]))]) hD hS hA [2] rfl
  refine va_callv (va_runI (As := []) (rest := [.ref q_3, .ref pic]) ⟨hx, hb, hml, hown, hts⟩ (c_AList l dC dI b0 en H.size q_3) (cwI 0 hts gX14_init_Jx4a65c_init_da8c8 rfl rfl rfl (hts (.initialized RJx4a65c) (by decide +kernel)) (hts (.methodLink RX14 23 yJx4a65c_init_da8c8) (by decide +kernel)) (hts (.instanceMethod yJx4a65c_init_da8c8) (by decide +kernel)) rfl (by decide +kernel) ⟨Nat.le_of_ble_eq_true rfl, Nat.le_of_ble_eq_true rfl⟩) ⟨cP.blind, cP.use (en_z hb0 hS) (hE.on hAb hS) hPc hKc hDc trivial⟩ rfl rfl hl.1 rfl (lv_room (Nat.le_of_ble_eq_true rfl)) dX14_init_23 ⟨Nat.le_of_ble_eq_true rfl, Nat.le_of_ble_eq_true rfl⟩) hS (fun q _ h => hFc q h) hFc (fun u t H1 locs ht hvm hw hB hz1 hk1 hS => ?_)
  obtain ⟨hP1, hK1, hD1, hF1⟩ := hB
  rw [ht] at hP1
  try rw [ht] at hF1
  have hK1 := va_K.moved hvm.symm hK1
  try dsimp only at hw
  obtain ⟨hP, hD⟩ := va_join (wr := [(pic, .inr (20, [.ref q_1, .null, .int 0, .int 0, .int 0, .ref mm])), (q_1, .inl (k_2, 48, .inr (.inr (.inr (.inr (fun _ => none))))))]) (w1 := [(q_3, .inr (5, [.int 0, .ref en.2.2.1, .int 0]))]) hP hD [2] [0, 1] rfl rfl (by decide) (by decide) hk1 hFc hP1 hD1
  generalize H1 = H at hP hS ⊢
  have hP : va_P (dC, dI) vwCl [(pic, .inr (20, [.ref q_1, .null, .int 0, .int 0, .int 0, .ref mm])), (q_1, .inl (k_2, 48, .inr (.inr (.inr (.inr (fun _ => none)))))), (q_3, .inr (5, [.int 0, .ref en.2.2.1, .int 0]))] H := hP
  have hD : va_D A [(pic, .inr (20, [.ref q_1, .null, .int 0, .int 0, .int 0, .ref mm])), (q_1, .inl (k_2, 48, .inr (.inr (.inr (.inr (fun _ => none)))))), (q_3, .inr (5, [.int 0, .ref en.2.2.1, .int 0]))] := hD
  have hR : va_P (dC, dI) vwCl [] H := fun k q h => by simp at h
  refine W.widen (k := 2) (n := 51) (Nat.le_of_ble_eq_true rfl) (Nat.le_of_ble_eq_true rfl) ?_
  refine va_putF (D := (dC, dI)) (ci := 20) (v := .ref q_3) (ty := .object "java/util/List") (C := RX14) (T := TX14) (N := 6) hx hb hts (by decide +kernel) tyX14 tyX14_ok nmX14 hown hK hP hD hS 0 rfl rfl 1 (by decide) (hts (.fieldLink RX14 24 "UnderpaintModel$Picture" "scratches" "Ljava/util/List;") (by decide +kernel)) (fun _ h9 => h9) rfl hin rfl (by decide +kernel) rfl rfl (Nat.le_of_ble_eq_true rfl) dX14_init_26 (fun H locs hP hD hS => ?_)
  have hP : va_P (dC, dI) vwCl [(pic, .inr (20, [.ref q_1, .ref q_3, .int 0, .int 0, .int 0, .ref mm])), (q_1, .inl (k_2, 48, .inr (.inr (.inr (.inr (fun _ => none)))))), (q_3, .inr (5, [.int 0, .ref en.2.2.1, .int 0]))] H := hP
  have hD : va_D A [(pic, .inr (20, [.ref q_1, .ref q_3, .int 0, .int 0, .int 0, .ref mm])), (q_1, .inl (k_2, 48, .inr (.inr (.inr (.inr (fun _ => none)))))), (q_3, .inr (5, [.int 0, .ref en.2.2.1, .int 0]))] := hD
  have hR : va_P (dC, dI) vwCl [] H := fun k q h => by simp at h
  refine lv_aload_n hx hb dX14_init_29 rfl (lv_at hl 0 rfl) ?_
  refine lv_sipush (v := 1600) hx hb dX14_init_30 (by decide) ?_
  refine va_put (D := (dC, dI)) (ci := 20) (v := .int 1600) (ty := .int) (C := RX14) (T := TX14) (N := 6) hx hb hts (by decide +kernel) tyX14 tyX14_ok nmX14 hown hK hP hD hS 0 rfl rfl 2 (by decide) (hts (.fieldLink RX14 28 "UnderpaintModel$Picture" "year" "I") (by decide +kernel)) (fun _ h9 => h9) rfl (by decide +kernel) rfl rfl (Nat.le_of_ble_eq_true rfl) dX14_init_33 (fun H locs hP hD hS => ?_)
  have hP : va_P (dC, dI) vwCl [(pic, .inr (20, [.ref q_1, .ref q_3, .int 1600, .int 0, .int 0, .ref mm])), (q_1, .inl (k_2, 48, .inr (.inr (.inr (.inr (fun _ => none)))))), (q_3, .inr (5, [.int 0, .ref en.2.2.1, .int 0]))] H := hP
  have hD : va_D A [(pic, .inr (20, [.ref q_1, .ref q_3, .int 1600, .int 0, .int 0, .ref mm])), (q_1, .inl (k_2, 48, .inr (.inr (.inr (.inr (fun _ => none)))))), (q_3, .inr (5, [.int 0, .ref en.2.2.1, .int 0]))] := hD
  have hR : va_P (dC, dI) vwCl [] H := fun k q h => by simp at h
  refine lv_iconst (v := 0) hx hb dX14_init_36 (by decide) ?_
  refine lv_istore_n (lv' := [(2, .int 0), (0, .ref pic), (1, .ref mm)]) hx hb dX14_init_37 rfl hl (by decide) rfl (fun ls hl => ?_)
  have loop_38 : ∀ (n_6 k_5 : Nat), n_6 + k_5 = 48 → ∀ gk : Nat → Option Nat, ∀ (H : Heap) (locs : List Loc), va_P (dC, dI) vwCl [(pic, .inr (20, [.ref q_1, .ref q_3, .int 1600, .int 0, .int 0, .ref mm])), (q_1, .inl (k_2, 48, .inr (.inr (.inr (.inr gk))))), (q_3, .inr (5, [.int 0, .ref en.2.2.1, .int 0]))] H → va_D A [(pic, .inr (20, [.ref q_1, .ref q_3, .int 1600, .int 0, .int 0, .ref mm])), (q_1, .inl (k_2, 48, .inr (.inr (.inr (.inr gk))))), (q_3, .inr (5, [.int 0, .ref en.2.2.1, .int 0]))] → va_S A s.heap H locs → FamPk k_5 (dC, dI) (vN s.heap.size [pic, q_1, q_3]) en.2.2.1 gk H → ∀ ls : Array Slot, lv_has ls 3 [(2, .int (nI k_5)), (0, .ref pic), (1, .ref mm)] → W p l e (headSpec wsX14_init ({ frames := 5, cells := 98, slots := 339, locals := 111 } : Room)).room s m #[.ref pic, .ref mm] below meth c H locs (2 + 2 * k_5) (51 + 6 * k_5) Q (F0 m 38 ls []) := by
    intro n_6
    induction n_6 with
    | zero =>
      intro k_5 hk_7 gk H locs hP hD hS hG ls hl
      have ek_5 : k_5 = 48 := by omega
      subst ek_5
      have hl : lv_has ls 3 [(2, .int 48), (0, .ref pic), (1, .ref mm)] := hl
      refine W.widen (k := 98) (n := 339) (Nat.le_of_ble_eq_true rfl) (Nat.le_of_ble_eq_true rfl) ?_
      have hR : va_P (dC, dI) vwCl [] H := fun k q h => by simp at h
      refine lv_iload_n hx hb dX14_init_38 rfl (lv_at hl 0 rfl) ?_
      refine lv_bipush (v := 48) hx hb dX14_init_39 (by decide) ?_
      refine lv_icmp_ge (tgt := 64) hx hb dX14_init_41 (by decide) (fun c_9 => ?_) (fun c_9 => absurd c_9 (by decide))
      subst hQ
      refine W.widen (k := 98) (n := 339) (Nat.le_of_ble_eq_true rfl) (Nat.le_of_ble_eq_true rfl) ?_
      exact W.vret hx hb hr (fun t ht hW => ⟨⟨⟨q_1, q_3, k_2, gk⟩, rfl, trivial, cB.mk ht hW (hP.sub [0, 1, 2] rfl) (hK.sub [0] rfl) (hD.sub [0, 1, 2] (by decide) rfl) (hG)⟩, hS.F ht⟩) hS.2.2 dX14_init_64
    | succ n_6 ih =>
      intro k_5 hk_7 gk H locs hP hD hS hG ls hl
      have hk_10 : k_5 < 48 := by omega
      have hb_11 : 0 ≤ nI k_5 ∧ nI k_5 < 48 := ⟨nI_le (Nat.zero_le _) (by omega), nI_lk hk_10 (by decide)⟩
      have hR : va_P (dC, dI) vwCl [] H := fun k q h => by simp at h
      have hG := hG.lt
      refine lv_iload_n hx hb dX14_init_38 rfl (lv_at hl 0 rfl) ?_
      refine lv_bipush (v := 48) hx hb dX14_init_39 (by decide) ?_
      refine lv_icmp_ge (tgt := 64) hx hb dX14_init_41 (by decide) (fun c_12 => ?_) (fun c_12 => ?_)
      · skip
        first | exact absurd c_12 (nI_ge hk_10 (by decide)) | exact absurd (nI_lk hk_10 (by decide)) c_12
      · skip
        refine lv_aload_n hx hb dX14_init_44 rfl (lv_at hl 1 rfl) ?_
        refine va_get (D := (dC, dI)) (ci := 20) (v := .ref q_1) (C := RX14) (T := TX14) (N := 6) hx hb hts (by decide +kernel) hown hK hP 0 rfl rfl 0 (by decide) (hts (.fieldLink RX14 17 "UnderpaintModel$Picture" "at" "[LUnderpaintModel$Place;") (by decide +kernel)) (fun _ h9 => h9) rfl dX14_init_45 ?_
        refine lv_iload_n hx hb dX14_init_48 rfl (lv_at hl 0 rfl) ?_
        refine va_newX (ci := 21) (fs := [.int 0, .null, .int 0]) (C := RX15) (T := TX15) (N := 3) hx hb hts (by decide +kernel) tyX15 tyX15_ok hown (hts (.classLink RX14 15 RX15) (by decide +kernel)) (hts (.instantiable RX15 3) (by decide +kernel)) (hts (.initialized RX15) (by decide +kernel)) hK hP hD hS hA rfl (fun j hj => by rcases (show j = 0 ∨ j = 1 ∨ j = 2 by omega) with rfl | rfl | rfl <;> rfl) (by show (_ : Nat) ≤ 98; omega) (by show (_ : Nat) ≤ 339; omega) dX14_init_49 (fun q_13 H hP hD hS hoq hoz => ?_)
        have hG := hG.via (fun q9 h9 _ => hoq q9 h9)
        have hP : va_P (dC, dI) vwCl [(pic, .inr (20, [.ref q_1, .ref q_3, .int 1600, .int 0, .int 0, .ref mm])), (q_1, .inl (k_2, 48, .inr (.inr (.inr (.inr gk))))), (q_3, .inr (5, [.int 0, .ref en.2.2.1, .int 0])), (q_13, .inr (21, [.int 0, .null, .int 0]))] H := hP
        have hD : va_D A [(pic, .inr (20, [.ref q_1, .ref q_3, .int 1600, .int 0, .int 0, .ref mm])), (q_1, .inl (k_2, 48, .inr (.inr (.inr (.inr gk))))), (q_3, .inr (5, [.int 0, .ref en.2.2.1, .int 0])), (q_13, .inr (21, [.int 0, .null, .int 0]))] := hD
        have hR : va_P (dC, dI) vwCl [] H := fun k q h => by simp at h
        refine W.widen (k := (3 + 2 * k_5)) (n := (54 + 6 * k_5)) (by omega) (by omega) ?_
        have hoz_q_13 := hoz
        refine lv_dup hx hb dX14_init_52 rfl ?_
        refine lv_iload_n hx hb dX14_init_53 rfl (lv_at hl 0 rfl) ?_
        have hPc := (hP.app hR).sub (ws' := [(q_13, .inr (21, [.int 0, .null, .int 0]))] ++ []) [3] rfl
        have hDc := (en_DD hD hDr hN0 hAb).sub (ws' := [(q_13, .inr (21, [.int 0, .null, .int 0]))] ++ []) [3] (by decide) rfl
        have hKc := hK.sub (tys' := []) [] rfl
        have hFc := va_free (wc := [(q_13, .inr (21, [.int 0, .null, .int 0]))]) hD hS hA [3] rfl
        refine va_callv (va_runI (As := [.int (nI k_5)]) (rest := [.ref q_13, .int (nI k_5), .ref q_1]) ⟨hx, hb, hml, hown, hts⟩ (c_X15_init l dC dI b0 en H.size q_13 (nI k_5)) (cwI 1 hts gX14_init_X15_init rfl rfl rfl (hts (.initialized RX15) (by decide +kernel)) (hts (.methodLink RX14 32 yX15_init) (by decide +kernel)) (hts (.instanceMethod yX15_init) (by decide +kernel)) rfl (by decide +kernel) ⟨Nat.le_of_ble_eq_true rfl, Nat.le_of_ble_eq_true rfl⟩) ⟨cP.blind, cP.use (en_z hb0 hS) (hE.on hAb hS) hPc hKc hDc trivial⟩ rfl rfl hl.1 rfl (lv_room (Nat.le_of_ble_eq_true rfl)) dX14_init_54 ⟨(by show (_ : Nat) ≤ 98; omega), (by show (_ : Nat) ≤ 339; omega)⟩) hS (fun q _ h => hFc q h) hFc (fun u_14 t H1 locs ht hvm hw hB hz1 hk1 hS => ?_)
        obtain ⟨hP1, hK1, hD1, hF1⟩ := hB
        rw [ht] at hP1
        try rw [ht] at hF1
        have hK1 := va_K.moved hvm.symm hK1
        try dsimp only at hw
        obtain ⟨hP, hD⟩ := va_join (wr := [(pic, .inr (20, [.ref q_1, .ref q_3, .int 1600, .int 0, .int 0, .ref mm])), (q_1, .inl (k_2, 48, .inr (.inr (.inr (.inr gk))))), (q_3, .inr (5, [.int 0, .ref en.2.2.1, .int 0]))]) (w1 := [(q_13, .inr (21, [.int (nI k_5), .ref u_14, .int 0])), (u_14, .inr (5, [.int 0, .ref en.2.2.1, .int 0]))]) hP hD [3] [0, 1, 2] rfl rfl (by decide) (by decide) hk1 hFc hP1 hD1
        have hG := hG.via (fun q9 h9 n9 => hk1 q9 h9 (vA1 h9 (fun z9 => by have g1 := n9.1.2; have g2 := n9.1.1; have g3 := n9.2; simp only [List.map_cons, List.map_nil, List.mem_cons, List.not_mem_nil, or_false, not_or] at g1 z9; omega)))
        generalize H1 = H at hP hS hG ⊢
        have hP : va_P (dC, dI) vwCl [(pic, .inr (20, [.ref q_1, .ref q_3, .int 1600, .int 0, .int 0, .ref mm])), (q_1, .inl (k_2, 48, .inr (.inr (.inr (.inr gk))))), (q_3, .inr (5, [.int 0, .ref en.2.2.1, .int 0])), (q_13, .inr (21, [.int (nI k_5), .ref u_14, .int 0])), (u_14, .inr (5, [.int 0, .ref en.2.2.1, .int 0]))] H := hP
        have hD : va_D A [(pic, .inr (20, [.ref q_1, .ref q_3, .int 1600, .int 0, .int 0, .ref mm])), (q_1, .inl (k_2, 48, .inr (.inr (.inr (.inr gk))))), (q_3, .inr (5, [.int 0, .ref en.2.2.1, .int 0])), (q_13, .inr (21, [.int (nI k_5), .ref u_14, .int 0])), (u_14, .inr (5, [.int 0, .ref en.2.2.1, .int 0]))] := hD
        have hR : va_P (dC, dI) vwCl [] H := fun k q h => by simp at h
        refine W.widen (k := (4 + 2 * k_5)) (n := (57 + 6 * k_5)) (by omega) (by omega) ?_
        refine va_astqX hx hb hK hP hD hS 1 0 3 21 rfl rfl rfl rfl (vp_in_nI hk_10 (by decide)) dX14_init_57 (fun H locs hP hD hS hoq => ?_)
        have hG := hG.via (fun q9 h9 n9 => hoq q9 (fun e9 => n9.1.2 (by rw [e9]; simp only [List.mem_cons, List.not_mem_nil, or_false, true_or, or_true])))
        generalize ef_16 : va_up gk (nI k_5).toNatClampNeg (some q_13) = f_16 at hP hD
        have hP : va_P (dC, dI) vwCl [(pic, .inr (20, [.ref q_1, .ref q_3, .int 1600, .int 0, .int 0, .ref mm])), (q_1, .inl (k_2, 48, .inr (.inr (.inr (.inr f_16))))), (q_3, .inr (5, [.int 0, .ref en.2.2.1, .int 0])), (q_13, .inr (21, [.int (nI k_5), .ref u_14, .int 0])), (u_14, .inr (5, [.int 0, .ref en.2.2.1, .int 0]))] H := hP
        have hD : va_D A [(pic, .inr (20, [.ref q_1, .ref q_3, .int 1600, .int 0, .int 0, .ref mm])), (q_1, .inl (k_2, 48, .inr (.inr (.inr (.inr f_16))))), (q_3, .inr (5, [.int 0, .ref en.2.2.1, .int 0])), (q_13, .inr (21, [.int (nI k_5), .ref u_14, .int 0])), (u_14, .inr (5, [.int 0, .ref en.2.2.1, .int 0]))] := hD
        have hR : va_P (dC, dI) vwCl [] H := fun k q h => by simp at h
        obtain ⟨x_17, ex_17⟩ : ∃ y : Int32, y = (nI k_5) + 1 := ⟨_, rfl⟩
        refine lv_iinc (v := x_17) (lv' := [(2, .int x_17), (0, .ref pic), (1, .ref mm)]) hx hb dX14_init_58 hl (k := 0) rfl (by rw [ex_17]; rfl) (by decide) rfl (fun ls hl => ?_)
        have hy : x_17 = nI (k_5 + 1) := by rw [ex_17]; exact nI_1 k_5
        subst hy
        refine lv_goto (tgt := 38) hx hb dX14_init_61 (by decide) ?_
        refine W.widen (k := 2 + 2 * (k_5 + 1)) (n := 51 + 6 * (k_5 + 1)) (by omega) (by omega) ?_
        have nea0 : q_13 ≠ pic := vAp hD 3 0 rfl rfl (by decide)
        have nea1 : q_13 ≠ q_1 := vAp hD 3 1 rfl rfl (by decide)
        have nea2 : q_13 ≠ q_3 := vAp hD 3 2 rfl rfl (by decide)
        have gea : s.heap.size ≤ q_13 := vAge (by rw [hAe]; exact hD.2 3 _ rfl) nea0
        have nel0 : u_14 ≠ pic := vAp hD 4 0 rfl rfl (by decide)
        have nel1 : u_14 ≠ q_1 := vAp hD 4 1 rfl rfl (by decide)
        have nel2 : u_14 ≠ q_3 := vAp hD 4 2 rfl rfl (by decide)
        have gel : s.heap.size ≤ u_14 := vAge (by rw [hAe]; exact hD.2 4 _ rfl) nel0
        exact ih (k_5 + 1) (by omega) f_16 _ _ (hP.sub [0, 1, 2] rfl) (hD.sub [0, 1, 2] (by decide) rfl) hS (FamPk.push hG (by rw [← ef_16, nI_clamp (by omega)]) (hP 3 _ rfl) (hP 4 _ rfl) ⟨gea, by simp only [List.mem_cons, List.not_mem_nil, or_false, not_or]; exact ⟨nea0, nea1, nea2⟩⟩ ⟨gel, by simp only [List.mem_cons, List.not_mem_nil, or_false, not_or]; exact ⟨nel0, nel1, nel2⟩⟩ (vAp hD 3 4 rfl rfl (by decide))) _ (lv_sub hl [0, 1, 2] rfl)
  exact loop_38 48 0 rfl (fun _ => none) _ _ hP hD hS (fun i9 h9 => absurd h9 (Nat.not_lt_zero i9)) ls (lv_sub hl [0, 1, 2] rfl)

set_option maxHeartbeats 4000000 in
set_option maxRecDepth 100000 in
/-- Picture.copy() of a new picture -/
theorem c_X14_copy (l : Launch) (dC : Nat → ClassId) (dI : Nat → Nat → Nat) (b0 : Nat) (en : EnT) (sz : Nat) (pic ap scr mm : Nat) (g : Nat → Option Nat) (kP : ClassId) (N : Nat → Prop) (hNb : ∀ a, N a → b0 ≤ a ∧ a < sz) (hNw : ∀ a, N a → a ∉ List.map Prod.fst ([] : va_W)) (hNr : ∀ a, N a → a ∉ List.map Prod.fst ([(pic, .inr (20, [.ref ap, .ref scr, .int 1600, .int 0, .int 0, .ref mm])), (ap, .inl (kP, 48, .inr (.inr (.inr (.inr g))))), (scr, .inr (5, [.int 0, .ref en.2.2.1, .int 0]))] : va_W)) : Met l yX14_copy wsX14_copy ({ frames := 6, cells := 148, slots := 537, locals := 133 } : Room) (cP b0 en (dC, dI) [(kP, .object "UnderpaintModel$Place")] [] [(pic, .inr (20, [.ref ap, .ref scr, .int 1600, .int 0, .int 0, .ref mm])), (ap, .inl (kP, 48, .inr (.inr (.inr (.inr g))))), (scr, .inr (5, [.int 0, .ref en.2.2.1, .int 0]))] sz (FamP (dC, dI) N en.2.2.1 g) [.ref pic]) (va_Qr (fun u : Nat × Nat × ClassId × (Nat → Option Nat) => True) (fun u r t => cB (dC, dI) [(u.2.2.1, .object "UnderpaintModel$Place")] [(r, .inr (20, [.ref u.1, .ref u.2.1, .int 1600, .int 0, .int 0, .ref mm])), (u.1, .inl (u.2.2.1, 48, .inr (.inr (.inr (.inr u.2.2.2))))), (u.2.1, .inr (5, [.int 1, .ref en.2.2.1, .int 0]))] (va_A [] sz) (FamP (dC, dI) (vN sz [r, u.1, u.2.1]) en.2.2.1 u.2.2.2) t) (va_A [] sz)) 148 537 (va_A [] sz) := by
  refine Met.ofW (cc := cX14_copy) (maxL := 6) (ret := (some (.object "UnderpaintModel$Picture"))) (by decide) rfl ?_
  intro p e s m args below meth c s₁ B hml hv
  obtain ⟨rfl, hsz, hb0, hE, hPP, hK, hDD, hF0⟩ := hv
  have hx := B.exec
  have hb := B.bytes
  have hr := B.returns
  have hts := atoms_spec (ws := wsX14_copy) B.pre
  have hown : s.vm.findClass RX14 = some m.cls := findClass_of_methodNamed B.named
  have hlocks := B.notSynchronized
  subst hsz
  have hN0 := en_N hPP hDD rfl
  have hP : va_P (dC, dI) vwCl [] s.heap := hPP.sub [] rfl
  have hR0 : va_P (dC, dI) vwCl [(pic, .inr (20, [.ref ap, .ref scr, .int 1600, .int 0, .int 0, .ref mm])), (ap, .inl (kP, 48, .inr (.inr (.inr (.inr g))))), (scr, .inr (5, [.int 0, .ref en.2.2.1, .int 0]))] s.heap := hPP.sub [0, 1, 2] rfl
  have hD0 : va_D (fun q => b0 ≤ q) [] := hDD.sub [] (by decide) rfl
  have hDr : va_D (fun q => b0 ≤ q) [(pic, .inr (20, [.ref ap, .ref scr, .int 1600, .int 0, .int 0, .ref mm])), (ap, .inl (kP, 48, .inr (.inr (.inr (.inr g))))), (scr, .inr (5, [.int 0, .ref en.2.2.1, .int 0]))] := hDD.sub [0, 1, 2] (by decide) rfl
  have hAb := en_A (sz := s.heap.size) hD0 hb0
  have hD := hD0.self (sz := s.heap.size)
  generalize hAe : va_A [] s.heap.size = A at hD hAb hN0 ⊢
  have hA : ∀ q : Nat, s.heap.size ≤ q → A q := fun q h => by rw [← hAe]; exact Or.inr h
  have hS : va_S A s.heap s.heap [] := va_S.rf
  have hR := hR0
  have hl := lv_entry [.ref pic] (n := 6) (Nat.le_of_ble_eq_true rfl)
  rw [lg_entry_eq]
  generalize (lg_sl [.ref pic] ++ List.replicate (6 - (lg_sl [.ref pic]).length) Slot.unset).toArray = ls at hl ⊢
  have hl : lv_has ls 6 [(0, .ref pic)] := hl
  have hAc := hA
  have hlt_pic : pic < s.heap.size := (hPP 0 _ rfl).lt
  have hlt_ap : ap < s.heap.size := (hPP 1 _ rfl).lt
  have hlt_scr : scr < s.heap.size := (hPP 2 _ rfl).lt
  refine W.gen (fun Q hQ => ?_)
  have hR0b := hR0
  have hDrb := hDr
  have hN0b := hN0
  refine va_new (ci := 20) (fs := [.null, .null, .int 0, .int 0, .int 0, .null]) (C := RX14) (T := TX14) (N := 6) hx hb hts (by decide +kernel) tyX14 tyX14_ok hown (hts (.classLink RX14 4 RX14) (by decide +kernel)) (hts (.instantiable RX14 6) (by decide +kernel)) (hts (.initialized RX14) (by decide +kernel)) hK hP hD hS hA rfl (fun j hj => by rcases (show j = 0 ∨ j = 1 ∨ j = 2 ∨ j = 3 ∨ j = 4 ∨ j = 5 by omega) with rfl | rfl | rfl | rfl | rfl | rfl <;> rfl) (Nat.le_of_ble_eq_true rfl) (Nat.le_of_ble_eq_true rfl) dX14_copy_0 (fun q_1 H hP hD hS => ?_)
  have hP : va_P (dC, dI) vwCl [(q_1, .inr (20, [.null, .null, .int 0, .int 0, .int 0, .null]))] H := hP
  have hD : va_D A [(q_1, .inr (20, [.null, .null, .int 0, .int 0, .int 0, .null]))] := hD
  have hR := en_R hR0 hN0 hS
  refine W.widen (k := 1) (n := 6) (Nat.le_of_ble_eq_true rfl) (Nat.le_of_ble_eq_true rfl) ?_
  refine lv_dup hx hb dX14_copy_3 rfl ?_
  refine lv_aload_n hx hb dX14_copy_4 rfl (lv_at hl 0 rfl) ?_
  refine va_get (D := (dC, dI)) (ci := 20) (v := .ref mm) (C := RX14) (T := TX14) (N := 6) hx hb hts (by decide +kernel) hown hK hR 0 rfl rfl 5 (by decide) (hts (.fieldLink RX14 3 "UnderpaintModel$Picture" "this$0" "LUnderpaintModel;") (by decide +kernel)) (fun _ h9 => h9) rfl dX14_copy_5 ?_
  have hS9 := hS
  have hPc := (hP.app hR).sub (ws' := [(q_1, .inr (20, [.null, .null, .int 0, .int 0, .int 0, .null]))] ++ []) [0] rfl
  have hDc := (en_DD hD hDr hN0 hAb).sub (ws' := [(q_1, .inr (20, [.null, .null, .int 0, .int 0, .int 0, .null]))] ++ []) [0] (by decide) rfl
  have hKc := hK.sub (tys' := []) [] rfl
  have hFc := va_free (wc := [(q_1, .inr (20, [.null, .null, .int 0, .int 0, .int 0, .null]))]) hD hS hA [0] rfl
  refine va_callv (va_runI (As := [.ref mm]) (rest := [.ref q_1]) ⟨hx, hb, hml, hown, hts⟩ (c_X14_init l dC dI b0 en H.size q_1 mm) (cwI 1 hts gX14_copy_X14_init rfl rfl rfl (hts (.initialized RX14) (by decide +kernel)) (hts (.methodLink RX14 35 yX14_init) (by decide +kernel)) (hts (.instanceMethod yX14_init) (by decide +kernel)) rfl (by decide +kernel) ⟨Nat.le_of_ble_eq_true rfl, Nat.le_of_ble_eq_true rfl⟩) ⟨cP.blind, cP.use (en_z hb0 hS) (hE.on hAb hS) hPc hKc hDc trivial⟩ rfl rfl hl.1 rfl (lv_room (Nat.le_of_ble_eq_true rfl)) dX14_copy_8 ⟨Nat.le_of_ble_eq_true rfl, Nat.le_of_ble_eq_true rfl⟩) hS (fun q _ h => hFc q h) hFc (fun ⟨ap_3, scr_4, kP_5, g_6⟩ t H1 locs ht hvm hw hB hz1 hk1 hS => ?_)
  obtain ⟨hP1, hK1, hD1, hF1⟩ := hB
  rw [ht] at hP1
  try rw [ht] at hF1
  have hK1 := va_K.moved hvm.symm hK1
  try dsimp only at hw
  obtain ⟨hP, hD⟩ := va_join (wr := []) (w1 := [(q_1, .inr (20, [.ref ap_3, .ref scr_4, .int 1600, .int 0, .int 0, .ref mm])), (ap_3, .inl (kP_5, 48, .inr (.inr (.inr (.inr g_6))))), (scr_4, .inr (5, [.int 0, .ref en.2.2.1, .int 0]))]) hP hD [0] [] rfl rfl (by decide) (by decide) hk1 hFc hP1 hD1
  have hK := hK.app hK1
  have hG : FamP (dC, dI) (vN s.heap.size [q_1, ap_3, scr_4]) en.2.2.1 g_6 H1 := FamP.mono hF1 (fun a9 h9 => ⟨Nat.le_trans hS9.1 h9.1, h9.2⟩)
  skip
  skip
  skip
  generalize H1 = H at hP hS hG ⊢
  have hP : va_P (dC, dI) vwCl [(q_1, .inr (20, [.ref ap_3, .ref scr_4, .int 1600, .int 0, .int 0, .ref mm])), (ap_3, .inl (kP_5, 48, .inr (.inr (.inr (.inr g_6))))), (scr_4, .inr (5, [.int 0, .ref en.2.2.1, .int 0]))] H := hP
  have hD : va_D A [(q_1, .inr (20, [.ref ap_3, .ref scr_4, .int 1600, .int 0, .int 0, .ref mm])), (ap_3, .inl (kP_5, 48, .inr (.inr (.inr (.inr g_6))))), (scr_4, .inr (5, [.int 0, .ref en.2.2.1, .int 0]))] := hD
  have hR := en_R hR0 hN0 hS
  refine W.widen (k := 99) (n := 345) (Nat.le_of_ble_eq_true rfl) (Nat.le_of_ble_eq_true rfl) ?_
  refine lv_astore_n (lv' := [(1, .ref q_1), (0, .ref pic)]) hx hb dX14_copy_11 rfl hl (by decide) rfl (fun ls hl => ?_)
  refine lv_aload_n hx hb dX14_copy_12 rfl (lv_at hl 0 rfl) ?_
  refine lv_aload_n hx hb dX14_copy_13 rfl (lv_at hl 1 rfl) ?_
  refine va_get (D := (dC, dI)) (ci := 20) (v := .int 1600) (C := RX14) (T := TX14) (N := 6) hx hb hts (by decide +kernel) hown hK hR 0 rfl rfl 2 (by decide) (hts (.fieldLink RX14 28 "UnderpaintModel$Picture" "year" "I") (by decide +kernel)) (fun _ h9 => h9) rfl dX14_copy_14 ?_
  refine va_putS (D := (dC, dI)) (ci := 20) (v := .int 1600) (ty := .int) (C := RX14) (T := TX14) (N := 6) hx hb hts (by decide +kernel) hown hK (hP 0 _ rfl) (hD.2 0 _ rfl) hS rfl 2 (by decide) (hts (.fieldLink RX14 28 "UnderpaintModel$Picture" "year" "I") (by decide +kernel)) (fun _ h9 => h9) rfl rfl (by decide +kernel) (by first | rfl | decide +kernel) (by first | rfl | decide +kernel) dX14_copy_17 (fun locs hS => ?_)
  refine lv_aload_n hx hb dX14_copy_20 rfl (lv_at hl 0 rfl) ?_
  refine va_get (D := (dC, dI)) (ci := 20) (v := .ref scr_4) (C := RX14) (T := TX14) (N := 6) hx hb hts (by decide +kernel) hown hK hP 0 rfl rfl 1 (by decide) (hts (.fieldLink RX14 24 "UnderpaintModel$Picture" "scratches" "Ljava/util/List;") (by decide +kernel)) (fun _ h9 => h9) rfl dX14_copy_21 ?_
  refine lv_aload_n hx hb dX14_copy_24 rfl (lv_at hl 1 rfl) ?_
  refine va_get (D := (dC, dI)) (ci := 20) (v := .ref scr) (C := RX14) (T := TX14) (N := 6) hx hb hts (by decide +kernel) hown hK hR 0 rfl rfl 1 (by decide) (hts (.fieldLink RX14 24 "UnderpaintModel$Picture" "scratches" "Ljava/util/List;") (by decide +kernel)) (fun _ h9 => h9) rfl dX14_copy_25 ?_
  have hPc := (hP.app hR).sub (ws' := [(scr_4, .inr (5, [.int 0, .ref en.2.2.1, .int 0]))] ++ [(scr, .inr (5, [.int 0, .ref en.2.2.1, .int 0]))]) [2, 5] rfl
  have hDc := (en_DD hD hDr hN0 hAb).sub (ws' := [(scr_4, .inr (5, [.int 0, .ref en.2.2.1, .int 0]))] ++ [(scr, .inr (5, [.int 0, .ref en.2.2.1, .int 0]))]) [2, 5] (by decide) rfl
  have hKc := hK.sub (tys' := []) [] rfl
  have hFc := va_free (wc := [(scr_4, .inr (5, [.int 0, .ref en.2.2.1, .int 0]))]) hD hS hA [2] rfl
  refine va_callFi (va_runF (As := [.ref scr]) (rest := []) (hK.1 5 _ rfl).2 ⟨hx, hb, hml, hown, hts⟩ (c_addAll l dC dI b0 en H.size scr_4 scr 0) (va_cwF 1 hts gX14_copy_Jx4a65c_addAll_f0b43_f38Jx4a65c rfl rfl rfl (hE.face ("java/util/ArrayList", ⟨"java/util/List", "addAll", "(Ljava/util/Collection;)Z"⟩, ⟨"java/util/ArrayList", "addAll", "(Ljava/util/Collection;)Z"⟩) (by decide +kernel)) (by decide +kernel) ⟨Nat.le_of_ble_eq_true rfl, Nat.le_of_ble_eq_true rfl⟩) ⟨cP.blind, va_recv hK hP (ci := 5) (q0 := 2) rfl rfl, cP.use (en_z hb0 hS) (hE.on hAb hS) hPc hKc hDc trivial⟩ rfl rfl hl.1 rfl (lv_room (Nat.le_of_ble_eq_true rfl)) dX14_copy_28 ⟨Nat.le_of_ble_eq_true rfl, Nat.le_of_ble_eq_true rfl⟩) hS (fun q _ h => hFc q h) hFc (fun r_8 u t H1 locs ht hvm hw hB hz1 hk1 hS => ?_)
  obtain ⟨hP1, hK1, hD1, hF1⟩ := hB
  rw [ht] at hP1
  try rw [ht] at hF1
  have hK1 := va_K.moved hvm.symm hK1
  try dsimp only at hw
  obtain ⟨hP, hD⟩ := va_join (wr := [(q_1, .inr (20, [.ref ap_3, .ref scr_4, .int 1600, .int 0, .int 0, .ref mm])), (ap_3, .inl (kP_5, 48, .inr (.inr (.inr (.inr g_6)))))]) (w1 := [(scr_4, .inr (5, [.int 1, .ref en.2.2.1, .int 0]))]) hP hD [2] [0, 1] rfl rfl (by decide) (by decide) hk1 hFc hP1 hD1
  have hG := hG.via (fun q9 h9 n9 => hk1 q9 h9 (vA1 h9 (fun z9 => by have g1 := n9.2; have g2 := n9.1; have g3 := n9.2; simp only [List.map_cons, List.map_nil, List.mem_cons, List.not_mem_nil, or_false, not_or] at g1 z9; omega)))
  skip
  generalize H1 = H at hP hS hG ⊢
  have hP : va_P (dC, dI) vwCl [(q_1, .inr (20, [.ref ap_3, .ref scr_4, .int 1600, .int 0, .int 0, .ref mm])), (ap_3, .inl (kP_5, 48, .inr (.inr (.inr (.inr g_6))))), (scr_4, .inr (5, [.int 1, .ref en.2.2.1, .int 0]))] H := hP
  have hD : va_D A [(q_1, .inr (20, [.ref ap_3, .ref scr_4, .int 1600, .int 0, .int 0, .ref mm])), (ap_3, .inl (kP_5, 48, .inr (.inr (.inr (.inr g_6))))), (scr_4, .inr (5, [.int 1, .ref en.2.2.1, .int 0]))] := hD
  have hR := en_R hR0 hN0 hS
  refine W.widen (k := 100) (n := 345) (Nat.le_of_ble_eq_true rfl) (Nat.le_of_ble_eq_true rfl) ?_
  subst r_8
  refine lv_pop hx hb dX14_copy_33 rfl ?_
  refine lv_iconst (v := 0) hx hb dX14_copy_34 (by decide) ?_
  refine lv_istore_n (lv' := [(2, .int 0), (1, .ref q_1), (0, .ref pic)]) hx hb dX14_copy_35 rfl hl (by decide) rfl (fun ls hl => ?_)
  have loop_36 : ∀ (n_10 k_9 : Nat), n_10 + k_9 = 48 → ∀ (H : Heap) (locs : List Loc), va_P (dC, dI) vwCl [(q_1, .inr (20, [.ref ap_3, .ref scr_4, .int 1600, .int 0, .int 0, .ref mm])), (ap_3, .inl (kP_5, 48, .inr (.inr (.inr (.inr g_6))))), (scr_4, .inr (5, [.int 1, .ref en.2.2.1, .int 0]))] H → va_D A [(q_1, .inr (20, [.ref ap_3, .ref scr_4, .int 1600, .int 0, .int 0, .ref mm])), (ap_3, .inl (kP_5, 48, .inr (.inr (.inr (.inr g_6))))), (scr_4, .inr (5, [.int 1, .ref en.2.2.1, .int 0]))] → va_S A s.heap H locs → FamP (dC, dI) (vN s.heap.size [q_1, ap_3, scr_4]) en.2.2.1 g_6 H → ∀ ls : Array Slot, lv_has ls 6 [(2, .int (nI k_9)), (1, .ref q_1), (0, .ref pic)] → W p l e (headSpec wsX14_copy ({ frames := 6, cells := 148, slots := 537, locals := 133 } : Room)).room s m #[.ref pic] below meth c H locs (100 + 1 * k_9) (345 + 4 * k_9) Q (F0 m 36 ls []) := by
    intro n_10
    induction n_10 with
    | zero =>
      intro k_9 hk_11 H locs hP hD hS hG ls hl
      have ek_9 : k_9 = 48 := by omega
      subst ek_9
      have hl : lv_has ls 6 [(2, .int 48), (1, .ref q_1), (0, .ref pic)] := hl
      refine W.widen (k := 148) (n := 537) (Nat.le_of_ble_eq_true rfl) (Nat.le_of_ble_eq_true rfl) ?_
      have hR := en_R hR0 hN0 hS
      refine lv_iload_n hx hb dX14_copy_36 rfl (lv_at hl 0 rfl) ?_
      refine lv_bipush (v := 48) hx hb dX14_copy_37 (by decide) ?_
      refine lv_icmp_ge (tgt := 160) hx hb dX14_copy_39 (by decide) (fun c_13 => ?_) (fun c_13 => absurd c_13 (by decide))
      refine lv_aload_n hx hb dX14_copy_160 rfl (lv_at hl 1 rfl) ?_
      subst hQ
      refine W.widen (k := 148) (n := 537) (Nat.le_of_ble_eq_true rfl) (Nat.le_of_ble_eq_true rfl) ?_
      exact W.aret (v := .ref q_1) hx hb hr (by first | exact Or.inl ⟨_, rfl⟩ | exact Or.inr ⟨_, rfl⟩) (Or.inr ⟨_, rfl⟩) (fun t ht hW => ⟨⟨⟨ap_3, scr_4, kP_5, g_6⟩, q_1, rfl, trivial, cB.mk ht hW (hP.sub [0, 1, 2] rfl) (hK.sub [1] rfl) (hD.sub [0, 1, 2] (by decide) rfl) (hG)⟩, hS.F ht⟩) hS.2.2 dX14_copy_161
    | succ n_10 ih =>
      intro k_9 hk_11 H locs hP hD hS hG ls hl
      have hk_14 : k_9 < 48 := by omega
      have hb_15 : 0 ≤ nI k_9 ∧ nI k_9 < 48 := ⟨nI_le (Nat.zero_le _) (by omega), nI_lk hk_14 (by decide)⟩
      have hR := en_R hR0 hN0 hS
      refine lv_iload_n hx hb dX14_copy_36 rfl (lv_at hl 0 rfl) ?_
      refine lv_bipush (v := 48) hx hb dX14_copy_37 (by decide) ?_
      refine lv_icmp_ge (tgt := 160) hx hb dX14_copy_39 (by decide) (fun c_16 => ?_) (fun c_16 => ?_)
      · skip
        first | exact absurd c_16 (nI_ge hk_14 (by decide)) | exact absurd (nI_lk hk_14 (by decide)) c_16
      · skip
        refine lv_aload_n hx hb dX14_copy_42 rfl (lv_at hl 1 rfl) ?_
        refine va_get (D := (dC, dI)) (ci := 20) (v := .ref ap_3) (C := RX14) (T := TX14) (N := 6) hx hb hts (by decide +kernel) hown hK hP 0 rfl rfl 0 (by decide) (hts (.fieldLink RX14 17 "UnderpaintModel$Picture" "at" "[LUnderpaintModel$Place;") (by decide +kernel)) (fun _ h9 => h9) rfl dX14_copy_43 ?_
        refine lv_iload_n hx hb dX14_copy_46 rfl (lv_at hl 0 rfl) ?_
        refine va_aldq hx hb hK hP 1 1 rfl rfl (vp_in_nI hk_14 (by decide)) dX14_copy_47 ?_
        obtain ⟨ap_17, lp_17, hg_ap_17, hup_17, hvp_17, hnp_17, hmp_17, hdp_17⟩ := hG k_9 hk_14
        refine lv_topv (w := .ref ap_17) (by rw [nI_clamp (by omega), hg_ap_17]; rfl) ?_
        have hc0_ap_17 : s.heap.size ≤ ap_17 := hnp_17.1
        have hP := hP.app (va1 hup_17)
        have hD := vD_push (e := .inr (21, [.int (nI k_9), .ref lp_17, .int 0])) hD (hAc ap_17 hnp_17.1) (nR (fun z9 => by have g1 := hnp_17.2; simp only [List.map_cons, List.map_nil, List.cons_append, List.nil_append, List.mem_cons, List.not_mem_nil, or_false, not_or] at g1 z9; omega))
        have hc0_lp_17 : s.heap.size ≤ lp_17 := hmp_17.1
        have hP := hP.app (va1 hvp_17)
        have hD := vD_push (e := .inr (5, [.int 0, .ref en.2.2.1, .int 0])) hD (hAc lp_17 hmp_17.1) (nR (fun z9 => by have g1 := hmp_17.2; have g7 := hdp_17; simp only [List.map_cons, List.map_nil, List.cons_append, List.nil_append, List.mem_cons, List.not_mem_nil, or_false, not_or] at g1 z9; omega))
        have hP : va_P (dC, dI) vwCl [(q_1, .inr (20, [.ref ap_3, .ref scr_4, .int 1600, .int 0, .int 0, .ref mm])), (ap_3, .inl (kP_5, 48, .inr (.inr (.inr (.inr g_6))))), (scr_4, .inr (5, [.int 1, .ref en.2.2.1, .int 0])), (ap_17, .inr (21, [.int (nI k_9), .ref lp_17, .int 0])), (lp_17, .inr (5, [.int 0, .ref en.2.2.1, .int 0]))] H := hP
        have hD : va_D A [(q_1, .inr (20, [.ref ap_3, .ref scr_4, .int 1600, .int 0, .int 0, .ref mm])), (ap_3, .inl (kP_5, 48, .inr (.inr (.inr (.inr g_6))))), (scr_4, .inr (5, [.int 1, .ref en.2.2.1, .int 0])), (ap_17, .inr (21, [.int (nI k_9), .ref lp_17, .int 0])), (lp_17, .inr (5, [.int 0, .ref en.2.2.1, .int 0]))] := hD
        refine lv_aload_n hx hb dX14_copy_48 rfl (lv_at hl 2 rfl) ?_
        refine va_get (D := (dC, dI)) (ci := 20) (v := .ref ap) (C := RX14) (T := TX14) (N := 6) hx hb hts (by decide +kernel) hown hK hR 0 rfl rfl 0 (by decide) (hts (.fieldLink RX14 17 "UnderpaintModel$Picture" "at" "[LUnderpaintModel$Place;") (by decide +kernel)) (fun _ h9 => h9) rfl dX14_copy_49 ?_
        refine lv_iload_n hx hb dX14_copy_52 rfl (lv_at hl 0 rfl) ?_
        refine va_aldq hx hb hK hR 1 0 rfl rfl (vp_in_nI hk_14 (by decide)) dX14_copy_53 ?_
        obtain ⟨ap_18, lp_18, hgp_18, hup_18, hvp_18, hnp_18, hmp_18, hdp_18⟩ := hF0 k_9 hk_14
        refine lv_topv (w := .ref ap_18) (by rw [nI_clamp (by omega), hgp_18]; rfl) ?_
        have hxp_18 : ¬ A ap_18 := by rw [← hAe]; exact vA0 hup_18.lt
        have hyp_18 : ¬ A lp_18 := by rw [← hAe]; exact vA0 hvp_18.lt
        have hfa := va1 (hup_18.kept (hS.2.1 _ hup_18.lt hxp_18))
        refine va_getN (D := (dC, dI)) (ci := 21) (v := .int 0) (C := RX15) (T := TX15) (N := 3) hx hb hts (by decide +kernel) hown hK hfa 0 rfl rfl 2 (by decide) (va_Nw.use rfl (hE.nf ("UnderpaintModel$Picture", 44, "UnderpaintModel$Place", "tired", "I", "UnderpaintModel") (by decide +kernel))) (fun _ h9 => h9) rfl dX14_copy_54 ?_
        refine va_putSN (D := (dC, dI)) (ci := 21) (v := .int 0) (ty := .int) (C := RX15) (T := TX15) (N := 3) hx hb hts (by decide +kernel) hown hK (hP 3 _ rfl) (hD.2 3 _ rfl) hS rfl 2 (by decide) (va_Nw.use rfl (hE.nf ("UnderpaintModel$Picture", 44, "UnderpaintModel$Place", "tired", "I", "UnderpaintModel") (by decide +kernel))) (fun _ h9 => h9) rfl rfl (by decide +kernel) (by first | rfl | decide +kernel) (by first | rfl | decide +kernel) dX14_copy_57 (fun locs hS => ?_)
        refine lv_aload_n hx hb dX14_copy_60 rfl (lv_at hl 2 rfl) ?_
        refine va_get (D := (dC, dI)) (ci := 20) (v := .ref ap) (C := RX14) (T := TX14) (N := 6) hx hb hts (by decide +kernel) hown hK hR 0 rfl rfl 0 (by decide) (hts (.fieldLink RX14 17 "UnderpaintModel$Picture" "at" "[LUnderpaintModel$Place;") (by decide +kernel)) (fun _ h9 => h9) rfl dX14_copy_61 ?_
        refine lv_iload_n hx hb dX14_copy_64 rfl (lv_at hl 0 rfl) ?_
        refine va_aldq hx hb hK hR 1 0 rfl rfl (vp_in_nI hk_14 (by decide)) dX14_copy_65 ?_
        obtain ⟨ap_19, lp_19, hgp_19, hup_19, hvp_19, hnp_19, hmp_19, hdp_19⟩ := hF0 k_9 hk_14
        refine lv_topv (w := .ref ap_19) (by rw [nI_clamp (by omega), hgp_19]; rfl) ?_
        have hxp_19 : ¬ A ap_19 := by rw [← hAe]; exact vA0 hup_19.lt
        have hyp_19 : ¬ A lp_19 := by rw [← hAe]; exact vA0 hvp_19.lt
        have hfa := va1 (hup_19.kept (hS.2.1 _ hup_19.lt hxp_19))
        refine va_getN (D := (dC, dI)) (ci := 21) (v := .ref lp_19) (C := RX15) (T := TX15) (N := 3) hx hb hts (by decide +kernel) hown hK hfa 0 rfl rfl 1 (by decide) (va_Nw.use rfl (hE.nf ("UnderpaintModel$Picture", 47, "UnderpaintModel$Place", "layers", "Ljava/util/List;", "UnderpaintModel") (by decide +kernel))) (fun _ h9 => h9) rfl dX14_copy_66 ?_
        have hR0 : va_P (dC, dI) vwCl [(pic, .inr (20, [.ref ap, .ref scr, .int 1600, .int 0, .int 0, .ref mm])), (ap, .inl (kP, 48, .inr (.inr (.inr (.inr g))))), (scr, .inr (5, [.int 0, .ref en.2.2.1, .int 0])), (lp_19, .inr (5, [.int 0, .ref en.2.2.1, .int 0]))] s.heap := (hR0b.app (va1 hvp_19))
        have hDr : va_D (fun q => b0 ≤ q) [(pic, .inr (20, [.ref ap, .ref scr, .int 1600, .int 0, .int 0, .ref mm])), (ap, .inl (kP, 48, .inr (.inr (.inr (.inr g))))), (scr, .inr (5, [.int 0, .ref en.2.2.1, .int 0])), (lp_19, .inr (5, [.int 0, .ref en.2.2.1, .int 0]))] := (vD_push hDrb (hNb lp_19 hmp_19).1 (nR (hNr lp_19 hmp_19)))
        have hN0 : ∀ (k9 : Nat) (q9 : Nat × va_E), [(pic, .inr (20, [.ref ap, .ref scr, .int 1600, .int 0, .int 0, .ref mm])), (ap, .inl (kP, 48, .inr (.inr (.inr (.inr g))))), (scr, .inr (5, [.int 0, .ref en.2.2.1, .int 0])), (lp_19, .inr (5, [.int 0, .ref en.2.2.1, .int 0]))][k9]? = some q9 → ¬ A q9.1 := (vN_push hN0b hyp_19)
        have hR : va_P (dC, dI) vwCl [(pic, .inr (20, [.ref ap, .ref scr, .int 1600, .int 0, .int 0, .ref mm])), (ap, .inl (kP, 48, .inr (.inr (.inr (.inr g))))), (scr, .inr (5, [.int 0, .ref en.2.2.1, .int 0])), (lp_19, .inr (5, [.int 0, .ref en.2.2.1, .int 0]))] H := en_R hR0 hN0 hS
        have hS9 := hS
        have hPc := (hP.app hR).sub (ws' := [] ++ [(lp_19, .inr (5, [.int 0, .ref en.2.2.1, .int 0]))]) [8] rfl
        have hDc := (en_DD hD hDr hN0 hAb).sub (ws' := [] ++ [(lp_19, .inr (5, [.int 0, .ref en.2.2.1, .int 0]))]) [8] (by decide) rfl
        have hKc := hK.sub (tys' := []) [] rfl
        have hFc := va_free (wc := []) hD hS hA [] rfl
        refine va_callFr (va_runF (As := []) (rest := []) (hK.1 5 _ rfl).2 ⟨hx, hb, hml, hown, hts⟩ (c_iterator l dC dI b0 en H.size lp_19 en.2.2.1 0 0) (va_cwF 0 hts gX14_copy_Jx4a65c_iterator_32c93_f50Jx4a65c rfl rfl rfl (hE.face ("java/util/ArrayList", ⟨"java/util/List", "iterator", "()Ljava/util/Iterator;"⟩, ⟨"java/util/ArrayList", "iterator", "()Ljava/util/Iterator;"⟩) (by decide +kernel)) (by decide +kernel) ⟨Nat.le_of_ble_eq_true rfl, Nat.le_of_ble_eq_true rfl⟩) ⟨cP.blind, va_recv hK hR (ci := 5) (q0 := 3) rfl rfl, cP.use (en_z hb0 hS) (hE.on hAb hS) hPc hKc hDc trivial⟩ rfl rfl hl.1 rfl (lv_room (Nat.le_of_ble_eq_true rfl)) dX14_copy_69 ⟨(by show (_ : Nat) ≤ 148; omega), (by show (_ : Nat) ≤ 537; omega)⟩) hS (fun q _ h => hFc q h) hFc (fun u r_20 t H1 locs ht hvm hw hB hz1 hk1 hS => ?_)
        obtain ⟨hP1, hK1, hD1, hF1⟩ := hB
        rw [ht] at hP1
        try rw [ht] at hF1
        have hK1 := va_K.moved hvm.symm hK1
        try dsimp only at hw
        obtain ⟨hP, hD⟩ := va_join (wr := [(q_1, .inr (20, [.ref ap_3, .ref scr_4, .int 1600, .int 0, .int 0, .ref mm])), (ap_3, .inl (kP_5, 48, .inr (.inr (.inr (.inr g_6))))), (scr_4, .inr (5, [.int 1, .ref en.2.2.1, .int 0])), (ap_17, .inr (21, [.int (nI k_9), .ref lp_17, .int 0])), (lp_17, .inr (5, [.int 0, .ref en.2.2.1, .int 0]))]) (w1 := [(r_20, .inr (4, [.int 0, .int (-1), .int 0, .ref lp_19]))]) hP hD [] [0, 1, 2, 3, 4] rfl rfl (by decide) (by decide) hk1 hFc hP1 hD1
        have hG := hG.hq (hq_.of (ws := []) hk1)
        have hge_r_20 : s.heap.size ≤ r_20 := Nat.le_trans hS9.1 (vGe hD1 0 rfl)
        generalize H1 = H at hP hS hG ⊢
        have hP : va_P (dC, dI) vwCl [(q_1, .inr (20, [.ref ap_3, .ref scr_4, .int 1600, .int 0, .int 0, .ref mm])), (ap_3, .inl (kP_5, 48, .inr (.inr (.inr (.inr g_6))))), (scr_4, .inr (5, [.int 1, .ref en.2.2.1, .int 0])), (ap_17, .inr (21, [.int (nI k_9), .ref lp_17, .int 0])), (lp_17, .inr (5, [.int 0, .ref en.2.2.1, .int 0])), (r_20, .inr (4, [.int 0, .int (-1), .int 0, .ref lp_19]))] H := hP
        have hD : va_D A [(q_1, .inr (20, [.ref ap_3, .ref scr_4, .int 1600, .int 0, .int 0, .ref mm])), (ap_3, .inl (kP_5, 48, .inr (.inr (.inr (.inr g_6))))), (scr_4, .inr (5, [.int 1, .ref en.2.2.1, .int 0])), (ap_17, .inr (21, [.int (nI k_9), .ref lp_17, .int 0])), (lp_17, .inr (5, [.int 0, .ref en.2.2.1, .int 0])), (r_20, .inr (4, [.int 0, .int (-1), .int 0, .ref lp_19]))] := hD
        have hR := en_R hR0 hN0 hS
        refine W.widen (k := (101 + 1 * k_9)) (n := (349 + 4 * k_9)) (by omega) (by omega) ?_
        refine lv_astore_n (lv' := [(3, .ref r_20), (2, .int (nI k_9)), (1, .ref q_1), (0, .ref pic)]) hx hb dX14_copy_74 rfl hl (by decide) rfl (fun ls hl => ?_)
        refine lv_aload_n hx hb dX14_copy_75 rfl (lv_at hl 0 rfl) ?_
        have hPc := (hP.app hR).sub (ws' := [] ++ [(r_20, .inr (4, [.int 0, .int (-1), .int 0, .ref lp_19])), (lp_19, .inr (5, [.int 0, .ref en.2.2.1, .int 0]))]) [5, 9] rfl
        have hDc := (en_DD hD hDr hN0 hAb).sub (ws' := [] ++ [(r_20, .inr (4, [.int 0, .int (-1), .int 0, .ref lp_19])), (lp_19, .inr (5, [.int 0, .ref en.2.2.1, .int 0]))]) [5, 9] (by decide) rfl
        have hKc := hK.sub (tys' := []) [] rfl
        have hFc := va_free (wc := []) hD hS hA [] rfl
        refine va_callFi (va_runF (As := []) (rest := []) (hK.1 4 _ rfl).2 ⟨hx, hb, hml, hown, hts⟩ (c_hasNext l dC dI b0 en H.size r_20 lp_19 en.2.2.1 0 0) (va_cwF 0 hts gX14_copy_Jx35411_hasNext_aae02_f54Jx35411 rfl rfl rfl (hE.face ("java/util/ArrayList$Itr", ⟨"java/util/Iterator", "hasNext", "()Z"⟩, ⟨"java/util/ArrayList$Itr", "hasNext", "()Z"⟩) (by decide +kernel)) (by decide +kernel) ⟨Nat.le_of_ble_eq_true rfl, Nat.le_of_ble_eq_true rfl⟩) ⟨cP.blind, va_recv hK hP (ci := 4) (q0 := 5) rfl rfl, cP.use (en_z hb0 hS) (hE.on hAb hS) hPc hKc hDc trivial⟩ rfl rfl hl.1 rfl (lv_room (Nat.le_of_ble_eq_true rfl)) dX14_copy_76 ⟨(by show (_ : Nat) ≤ 148; omega), (by show (_ : Nat) ≤ 537; omega)⟩) hS (fun q _ h => hFc q h) hFc (fun r_21 u t H1 locs ht hvm hw hB hz1 hk1 hS => ?_)
        have hP1 : va_P (dC, dI) vwCl [] H1 := fun k q h => by simp at h
        have hD1 : va_D (va_A [] H.size) [] := ⟨fun i j p q h => by simp at h, fun k q h => by simp at h⟩
        try dsimp only at hw
        obtain ⟨hP, hD⟩ := va_join (wr := [(q_1, .inr (20, [.ref ap_3, .ref scr_4, .int 1600, .int 0, .int 0, .ref mm])), (ap_3, .inl (kP_5, 48, .inr (.inr (.inr (.inr g_6))))), (scr_4, .inr (5, [.int 1, .ref en.2.2.1, .int 0])), (ap_17, .inr (21, [.int (nI k_9), .ref lp_17, .int 0])), (lp_17, .inr (5, [.int 0, .ref en.2.2.1, .int 0])), (r_20, .inr (4, [.int 0, .int (-1), .int 0, .ref lp_19]))]) (w1 := []) hP hD [] [0, 1, 2, 3, 4, 5] rfl rfl (by decide) (by decide) hk1 hFc hP1 hD1
        have hG := hG.hq (hq_.of (ws := []) hk1)
        generalize H1 = H at hP hS hG ⊢
        have hP : va_P (dC, dI) vwCl [(q_1, .inr (20, [.ref ap_3, .ref scr_4, .int 1600, .int 0, .int 0, .ref mm])), (ap_3, .inl (kP_5, 48, .inr (.inr (.inr (.inr g_6))))), (scr_4, .inr (5, [.int 1, .ref en.2.2.1, .int 0])), (ap_17, .inr (21, [.int (nI k_9), .ref lp_17, .int 0])), (lp_17, .inr (5, [.int 0, .ref en.2.2.1, .int 0])), (r_20, .inr (4, [.int 0, .int (-1), .int 0, .ref lp_19]))] H := hP
        have hD : va_D A [(q_1, .inr (20, [.ref ap_3, .ref scr_4, .int 1600, .int 0, .int 0, .ref mm])), (ap_3, .inl (kP_5, 48, .inr (.inr (.inr (.inr g_6))))), (scr_4, .inr (5, [.int 1, .ref en.2.2.1, .int 0])), (ap_17, .inr (21, [.int (nI k_9), .ref lp_17, .int 0])), (lp_17, .inr (5, [.int 0, .ref en.2.2.1, .int 0])), (r_20, .inr (4, [.int 0, .int (-1), .int 0, .ref lp_19]))] := hD
        have hR := en_R hR0 hN0 hS
        refine W.widen (k := (101 + 1 * k_9)) (n := (349 + 4 * k_9)) (by omega) (by omega) ?_
        subst r_21
        refine lv_if_eq (tgt := 154) hx hb dX14_copy_81 (by decide) (fun c_22 => ?_) (fun c_22 => absurd c_22 (by decide))
        obtain ⟨x_23, ex_23⟩ : ∃ y : Int32, y = (nI k_9) + 1 := ⟨_, rfl⟩
        refine lv_iinc (v := x_23) (lv' := [(2, .int x_23), (3, .ref r_20), (1, .ref q_1), (0, .ref pic)]) hx hb dX14_copy_154 hl (k := 1) rfl (by rw [ex_23]; rfl) (by decide) rfl (fun ls hl => ?_)
        have hy : x_23 = nI (k_9 + 1) := by rw [ex_23]; exact nI_1 k_9
        subst hy
        refine lv_goto (tgt := 36) hx hb dX14_copy_157 (by decide) ?_
        refine W.widen (k := 100 + 1 * (k_9 + 1)) (n := 345 + 4 * (k_9 + 1)) (by omega) (by omega) ?_
        exact ih (k_9 + 1) (by omega)  _ _ (hP.sub [0, 1, 2] rfl) (hD.sub [0, 1, 2] (by decide) rfl) hS hG _ (lv_sub hl [0, 2, 3] rfl)
  exact loop_36 48 0 rfl  _ _ hP hD hS hG ls (lv_sub hl [0, 1, 2] rfl)
