theorem dJ7_copyOf_6403c_0 : decode cJ7_copyOf_6403c 0 = .ok (.aload_n 2, 1) := by decide +kernel
theorem dJ7_copyOf_6403c_1 : decode cJ7_copyOf_6403c 1 = .ok (.ldc 110, 2) := by decide +kernel
theorem dJ7_copyOf_6403c_3 : decode cJ7_copyOf_6403c 3 = .ok (.if_acmp .ne 10, 3) := by decide +kernel
theorem dJ7_copyOf_6403c_6 : decode cJ7_copyOf_6403c 6 = .ok (.iload_n 1, 1) := by decide +kernel
theorem dJ7_copyOf_6403c_7 : decode cJ7_copyOf_6403c 7 = .ok (.anewarray 2, 3) := by decide +kernel
theorem dJ7_copyOf_6403c_10 : decode cJ7_copyOf_6403c 10 = .ok (.goto 14, 3) := by decide +kernel
theorem dJ7_copyOf_6403c_24 : decode cJ7_copyOf_6403c 24 = .ok (.astore_n 3, 1) := by decide +kernel
theorem dJ7_copyOf_6403c_25 : decode cJ7_copyOf_6403c 25 = .ok (.aload_n 0, 1) := by decide +kernel
theorem dJ7_copyOf_6403c_26 : decode cJ7_copyOf_6403c 26 = .ok (.iconst 0, 1) := by decide +kernel
theorem dJ7_copyOf_6403c_27 : decode cJ7_copyOf_6403c 27 = .ok (.aload_n 3, 1) := by decide +kernel
theorem dJ7_copyOf_6403c_28 : decode cJ7_copyOf_6403c 28 = .ok (.iconst 0, 1) := by decide +kernel
theorem dJ7_copyOf_6403c_29 : decode cJ7_copyOf_6403c 29 = .ok (.aload_n 0, 1) := by decide +kernel
theorem dJ7_copyOf_6403c_30 : decode cJ7_copyOf_6403c 30 = .ok (.arraylength, 1) := by decide +kernel
theorem dJ7_copyOf_6403c_31 : decode cJ7_copyOf_6403c 31 = .ok (.iload_n 1, 1) := by decide +kernel
theorem dJ7_copyOf_6403c_32 : decode cJ7_copyOf_6403c 32 = .ok (.invokestatic 304, 3) := by decide +kernel
theorem dJ7_copyOf_6403c_35 : decode cJ7_copyOf_6403c 35 = .ok (.invokestatic 150, 3) := by decide +kernel
theorem dJ7_copyOf_6403c_38 : decode cJ7_copyOf_6403c 38 = .ok (.aload_n 3, 1) := by decide +kernel
theorem dJ7_copyOf_6403c_39 : decode cJ7_copyOf_6403c 39 = .ok (.areturn, 1) := by decide +kernel
theorem dJ7_copyOf_1904c_0 : decode cJ7_copyOf_1904c 0 = .ok (.aload_n 0, 1) := by decide +kernel
theorem dJ7_copyOf_1904c_1 : decode cJ7_copyOf_1904c 1 = .ok (.iload_n 1, 1) := by decide +kernel
theorem dJ7_copyOf_1904c_2 : decode cJ7_copyOf_1904c 2 = .ok (.aload_n 0, 1) := by decide +kernel
theorem dJ7_copyOf_1904c_3 : decode cJ7_copyOf_1904c 3 = .ok (.invokevirtual 86, 3) := by decide +kernel
set_option maxRecDepth 20000 in
theorem ggJ7_copyOf_1904c_J7_copyOf_6403c : GoodIn wsJ7_copyOf_1904c wsJ7_copyOf_6403c := goodIn_r _ [8, 9, 10, 11, 12, 13, 14, 15, 16, 17, 18] (by decide +kernel) (by decide +kernel)
set_option maxRecDepth 20000 in
theorem gJ7_copyOf_1904c_J7_copyOf_6403c : GoodIn wsJ7_copyOf_1904c (va_wsS RJ7 300 yJ7_copyOf_6403c wsJ7_copyOf_6403c) := goodIn_app (goodIn_of _ (by decide +kernel)) ggJ7_copyOf_1904c_J7_copyOf_6403c
theorem dJ7_copyOf_1904c_6 : decode cJ7_copyOf_1904c 6 = .ok (.invokestatic 300, 3) := by decide +kernel
theorem dJ7_copyOf_1904c_9 : decode cJ7_copyOf_1904c 9 = .ok (.areturn, 1) := by decide +kernel
theorem dJx4a65c_toArray_d5877_0 : decode cJx4a65c_toArray_d5877 0 = .ok (.aload_n 0, 1) := by decide +kernel
theorem dJx4a65c_toArray_d5877_1 : decode cJx4a65c_toArray_d5877 1 = .ok (.getfield 9, 3) := by decide +kernel
theorem dJx4a65c_toArray_d5877_4 : decode cJx4a65c_toArray_d5877 4 = .ok (.aload_n 0, 1) := by decide +kernel
theorem dJx4a65c_toArray_d5877_5 : decode cJx4a65c_toArray_d5877 5 = .ok (.getfield 48, 3) := by decide +kernel
set_option maxRecDepth 20000 in
theorem ggJx4a65c_toArray_d5877_J7_copyOf_1904c : GoodIn wsJx4a65c_toArray_d5877 wsJ7_copyOf_1904c := goodIn_r _ [6, 7, 8, 9, 10, 11, 12, 5, 13, 14, 15, 16, 17, 18, 19, 20, 21, 22, 23] (by decide +kernel) (by decide +kernel)
set_option maxRecDepth 20000 in
theorem gJx4a65c_toArray_d5877_J7_copyOf_1904c : GoodIn wsJx4a65c_toArray_d5877 (va_wsS RJx4a65c 66 yJ7_copyOf_1904c wsJ7_copyOf_1904c) := goodIn_app (goodIn_of _ (by decide +kernel)) ggJx4a65c_toArray_d5877_J7_copyOf_1904c
theorem dJx4a65c_toArray_d5877_8 : decode cJx4a65c_toArray_d5877 8 = .ok (.invokestatic 66, 3) := by decide +kernel
theorem dJx4a65c_toArray_d5877_11 : decode cJx4a65c_toArray_d5877 11 = .ok (.areturn, 1) := by decide +kernel
theorem dJx4a65c_addAll_f0b43_0 : decode cJx4a65c_addAll_f0b43 0 = .ok (.aload_n 1, 1) := by decide +kernel
set_option maxRecDepth 20000 in
theorem ggJx4a65c_addAll_f0b43_Jx4a65c_toArray_d5877 : GoodIn wsJx4a65c_addAll_f0b43 wsJx4a65c_toArray_d5877 := goodIn_r _ [13, 3, 4, 14, 15, 16, 17, 18, 19, 20, 21, 22, 23, 24, 25, 26, 27, 28, 29, 30, 31, 6, 7, 8, 50, 51, 52] (by decide +kernel) (by decide +kernel)
set_option maxRecDepth 20000 in
theorem gJx4a65c_addAll_f0b43_Jx4a65c_toArray_d5877_f42Jx4a65c : GoodIn wsJx4a65c_addAll_f0b43 (va_wsF RJx4a65c 42 RJx4a65c ⟨"java/util/Collection", "toArray", "()[Ljava/lang/Object;"⟩ yJx4a65c_toArray_d5877 wsJx4a65c_toArray_d5877) := goodIn_app (goodIn_of _ (by decide +kernel)) ggJx4a65c_addAll_f0b43_Jx4a65c_toArray_d5877
theorem dJx4a65c_addAll_f0b43_1 : decode cJx4a65c_addAll_f0b43 1 = .ok (.invokeinterface 42 1, 5) := by decide +kernel
theorem dJx4a65c_addAll_f0b43_6 : decode cJx4a65c_addAll_f0b43 6 = .ok (.astore_n 2, 1) := by decide +kernel
theorem dJx4a65c_addAll_f0b43_7 : decode cJx4a65c_addAll_f0b43 7 = .ok (.aload_n 0, 1) := by decide +kernel
theorem dJx4a65c_addAll_f0b43_8 : decode cJx4a65c_addAll_f0b43 8 = .ok (.dup, 1) := by decide +kernel
theorem dJx4a65c_addAll_f0b43_9 : decode cJx4a65c_addAll_f0b43 9 = .ok (.getfield 63, 3) := by decide +kernel
theorem dJx4a65c_addAll_f0b43_12 : decode cJx4a65c_addAll_f0b43 12 = .ok (.iconst 1, 1) := by decide +kernel
theorem dJx4a65c_addAll_f0b43_13 : decode cJx4a65c_addAll_f0b43 13 = .ok (.iadd, 1) := by decide +kernel
theorem dJx4a65c_addAll_f0b43_14 : decode cJx4a65c_addAll_f0b43 14 = .ok (.putfield 63, 3) := by decide +kernel
theorem dJx4a65c_addAll_f0b43_17 : decode cJx4a65c_addAll_f0b43 17 = .ok (.aload_n 2, 1) := by decide +kernel
theorem dJx4a65c_addAll_f0b43_18 : decode cJx4a65c_addAll_f0b43 18 = .ok (.arraylength, 1) := by decide +kernel
theorem dJx4a65c_addAll_f0b43_19 : decode cJx4a65c_addAll_f0b43 19 = .ok (.istore_n 3, 1) := by decide +kernel
theorem dJx4a65c_addAll_f0b43_20 : decode cJx4a65c_addAll_f0b43 20 = .ok (.iload_n 3, 1) := by decide +kernel
theorem dJx4a65c_addAll_f0b43_21 : decode cJx4a65c_addAll_f0b43 21 = .ok (.ifCond .ne 5, 3) := by decide +kernel
theorem dJx4a65c_addAll_f0b43_24 : decode cJx4a65c_addAll_f0b43 24 = .ok (.iconst 0, 1) := by decide +kernel
theorem dJx4a65c_addAll_f0b43_25 : decode cJx4a65c_addAll_f0b43 25 = .ok (.ireturn, 1) := by decide +kernel

set_option maxHeartbeats 4000000 in
set_option maxRecDepth 100000 in
/-- Arrays.copyOf(the empty array, 0, its class) -/
theorem c_copyOf3 (l : Launch) (dC : Nat → ClassId) (dI : Nat → Nat → Nat) (b0 : Nat) (en : EnT) (sz : Nat) : Met l yJ7_copyOf_6403c wsJ7_copyOf_6403c ({ frames := 1, cells := 1, slots := 0, locals := 40 } : Room) (cP b0 en (dC, dI) [] [] [] sz (fun _ => True) [.ref en.2.2.1, .int 0, .ref (en.2.2.2 259)]) (va_Qr (fun u : ClassId × (Nat → Option Nat) => True) (fun u r t => cB (dC, dI) [(u.1, .object "java/lang/Object")] [(r, .inl (u.1, 0, .inr (.inr (.inr (.inr u.2)))))] (va_A [] sz) (fun _ => True) t) (va_A [] sz)) 1 0 (va_A [] sz) := by
  refine Met.ofW (cc := cJ7_copyOf_6403c) (maxL := 4) (ret := (some (.array (.object "java/lang/Object")))) (by decide) rfl ?_
  intro p e s m args below meth c s₁ B hml hv
  obtain ⟨rfl, hsz, hb0, hE, hPP, hK, hDD, hF0⟩ := hv
  have hx := B.exec
  have hb := B.bytes
  have hr := B.returns
  have hts := atoms_spec (ws := wsJ7_copyOf_6403c) B.pre
  have hown : s.vm.findClass RJ7 = some m.cls := findClass_of_methodNamed B.named
  have hlocks := B.notSynchronized
  subst hsz
  have hN0 := en_N hPP hDD rfl
  have hP : va_P (dC, dI) vwCl [] s.heap := hPP.sub [] rfl
  have hR0 : va_P (dC, dI) vwCl [] s.heap := hPP.sub [] rfl
  have hD0 : va_D (fun q => b0 ≤ q) [] := hDD.sub [] (by decide) rfl
  have hDr : va_D (fun q => b0 ≤ q) [] := hDD.sub [] (by decide) rfl
  have hAb := en_A (sz := s.heap.size) hD0 hb0
  have hD := hD0.self (sz := s.heap.size)
  generalize hAe : va_A [] s.heap.size = A at hD hAb hN0 ⊢
  have hA : ∀ q : Nat, s.heap.size ≤ q → A q := fun q h => by rw [← hAe]; exact Or.inr h
  have hS : va_S A s.heap s.heap [] := va_S.rf
  have hR := hR0
  have hl := lv_entry [.ref en.2.2.1, .int 0, .ref (en.2.2.2 259)] (n := 4) (Nat.le_of_ble_eq_true rfl)
  rw [lg_entry_eq]
  generalize (lg_sl [.ref en.2.2.1, .int 0, .ref (en.2.2.2 259)] ++ List.replicate (4 - (lg_sl [.ref en.2.2.1, .int 0, .ref (en.2.2.2 259)]).length) Slot.unset).toArray = ls at hl ⊢
  have hl : lv_has ls 4 [(0, .ref en.2.2.1), (1, .int 0), (2, .ref (en.2.2.2 259))] := hl
  refine lv_aload_n hx hb dJ7_copyOf_6403c_0 rfl (lv_at hl 2 rfl) ?_
  refine va_ldcM hx hb hown (hts (.classLink RJ7 110 "[Ljava/lang/Object;") (by decide +kernel)) hE.mir dJ7_copyOf_6403c_1 ?_
  refine lv_acmp_ne (rx := (some (en.2.2.2 259))) (ry := (some (en.2.2.2 259))) (tgt := 13) hx hb dJ7_copyOf_6403c_3 (by decide) (fun h9 => absurd rfl h9) (fun _ => ?_)
  refine lv_iload_n hx hb dJ7_copyOf_6403c_6 rfl (lv_at hl 1 rfl) ?_
  refine va_newq (C := "java/lang/Object") (N' := 0) hx hb hown (hts (.classLink RJ7 2 "java/lang/Object") (by decide +kernel)) (hE.arr (by decide +kernel)) hK hP hD hS hA (by decide) (by decide) (by decide) (Nat.le_of_ble_eq_true rfl) (Nat.le_of_ble_eq_true rfl) dJ7_copyOf_6403c_7 (fun q_1 k_2 H hK hP hD hS => ?_)
  have hP : va_P (dC, dI) vwCl [(q_1, .inl (k_2, 0, .inr (.inr (.inr (.inr (fun _ => none))))))] H := hP
  have hD : va_D A [(q_1, .inl (k_2, 0, .inr (.inr (.inr (.inr (fun _ => none))))))] := hD
  have hR : va_P (dC, dI) vwCl [] H := fun k q h => by simp at h
  refine W.widen (k := 1) (n := 0) (Nat.le_of_ble_eq_true rfl) (Nat.le_of_ble_eq_true rfl) ?_
  refine lv_goto (tgt := 24) hx hb dJ7_copyOf_6403c_10 (by decide) ?_
  refine lv_astore_n (lv' := [(3, .ref q_1), (0, .ref en.2.2.1), (1, .int 0), (2, .ref (en.2.2.2 259))]) hx hb dJ7_copyOf_6403c_24 rfl hl (by decide) rfl (fun ls hl => ?_)
  refine lv_aload_n hx hb dJ7_copyOf_6403c_25 rfl (lv_at hl 1 rfl) ?_
  refine lv_iconst (v := 0) hx hb dJ7_copyOf_6403c_26 (by decide) ?_
  refine lv_aload_n hx hb dJ7_copyOf_6403c_27 rfl (lv_at hl 0 rfl) ?_
  refine lv_iconst (v := 0) hx hb dJ7_copyOf_6403c_28 (by decide) ?_
  refine lv_aload_n hx hb dJ7_copyOf_6403c_29 rfl (lv_at hl 1 rfl) ?_
  refine va_tlen hx hb (hE.ea hAb) hS (v := 0) rfl dJ7_copyOf_6403c_30 ?_
  refine lv_iload_n hx hb dJ7_copyOf_6403c_31 rfl (lv_at hl 2 rfl) ?_
  refine va_mmin hx hb (hml.trans hl.1.symm) hown (hts (.methodLink RJ7 304 Lib.Math.min.name) (by decide +kernel)) (hts (.static Lib.Math.min.name) (by decide +kernel)) (hts (.initialized "java/lang/Math") (by decide +kernel)) (hts (.code Lib.Math.min.name Lib.Math.min.code 2 (some .int)) (by decide +kernel)) (Nat.le_of_ble_eq_true rfl) (Nat.le_of_ble_eq_true rfl) (Nat.le_of_ble_eq_true rfl) (Nat.le_of_ble_eq_true rfl) dJ7_copyOf_6403c_32 ?_
  refine lv_topi (fun x_3 ex_3 => ?_)
  obtain rfl : x_3 = 0 := ex_3.trans (by decide)
  refine va_copyg hx hb (hml.trans hl.1.symm) hown (hts (.methodLink RJ7 150 arraycopyName) (by decide +kernel)) (hts (.native arraycopyName) (by decide +kernel)) (hts (.static arraycopyName) (by decide +kernel)) (hts (.initialized "java/lang/System") (by decide +kernel)) hK hP hD hS 0 0 (hE.ea hAb) rfl rfl (by decide) (by decide) (by decide) (by decide) (by decide) (Nat.le_of_ble_eq_true rfl) (Nat.le_of_ble_eq_true rfl) dJ7_copyOf_6403c_35 (fun H locs hP hD hS => ?_)
  generalize ef_4 : va_cpy (fun _ => none) (fun _ => none) (0 : Int32).toNatClampNeg (0 : Int32).toNatClampNeg (0 : Int32).toNatClampNeg = f_4 at hP hD
  have hP : va_P (dC, dI) vwCl [(q_1, .inl (k_2, 0, .inr (.inr (.inr (.inr f_4)))))] H := hP
  have hD : va_D A [(q_1, .inl (k_2, 0, .inr (.inr (.inr (.inr f_4)))))] := hD
  have hR : va_P (dC, dI) vwCl [] H := fun k q h => by simp at h
  refine lv_aload_n hx hb dJ7_copyOf_6403c_38 rfl (lv_at hl 0 rfl) ?_
  refine W.widen (k := 1) (n := 0) (Nat.le_of_ble_eq_true rfl) (Nat.le_of_ble_eq_true rfl) ?_
  exact W.aret (v := .ref q_1) hx hb hr (by first | exact Or.inl ⟨_, rfl⟩ | exact Or.inr ⟨_, rfl⟩) (Or.inr ⟨_, rfl⟩) (fun t ht hW => ⟨⟨⟨k_2, f_4⟩, q_1, rfl, trivial, cB.mk ht hW (hP.sub [0] rfl) (hK.sub [0] rfl) (hD.sub [0] (by decide) rfl) (trivial)⟩, hS.F ht⟩) hS.2.2 dJ7_copyOf_6403c_39

set_option maxHeartbeats 4000000 in
set_option maxRecDepth 100000 in
/-- Arrays.copyOf(the empty array, 0) -/
theorem c_copyOf2 (l : Launch) (dC : Nat → ClassId) (dI : Nat → Nat → Nat) (b0 : Nat) (en : EnT) (sz : Nat) : Met l yJ7_copyOf_1904c wsJ7_copyOf_1904c ({ frames := 2, cells := 1, slots := 0, locals := 63 } : Room) (cP b0 en (dC, dI) [] [] [] sz (fun _ => True) [.ref en.2.2.1, .int 0]) (va_Qr (fun u : ClassId × (Nat → Option Nat) => True) (fun u r t => cB (dC, dI) [(u.1, .object "java/lang/Object")] [(r, .inl (u.1, 0, .inr (.inr (.inr (.inr u.2)))))] (va_A [] sz) (fun _ => True) t) (va_A [] sz)) 1 0 (va_A [] sz) := by
  refine Met.ofW (cc := cJ7_copyOf_1904c) (maxL := 2) (ret := (some (.array (.object "java/lang/Object")))) (by decide) rfl ?_
  intro p e s m args below meth c s₁ B hml hv
  obtain ⟨rfl, hsz, hb0, hE, hPP, hK, hDD, hF0⟩ := hv
  have hx := B.exec
  have hb := B.bytes
  have hr := B.returns
  have hts := atoms_spec (ws := wsJ7_copyOf_1904c) B.pre
  have hown : s.vm.findClass RJ7 = some m.cls := findClass_of_methodNamed B.named
  have hlocks := B.notSynchronized
  subst hsz
  have hN0 := en_N hPP hDD rfl
  have hP : va_P (dC, dI) vwCl [] s.heap := hPP.sub [] rfl
  have hR0 : va_P (dC, dI) vwCl [] s.heap := hPP.sub [] rfl
  have hD0 : va_D (fun q => b0 ≤ q) [] := hDD.sub [] (by decide) rfl
  have hDr : va_D (fun q => b0 ≤ q) [] := hDD.sub [] (by decide) rfl
  have hAb := en_A (sz := s.heap.size) hD0 hb0
  have hD := hD0.self (sz := s.heap.size)
  generalize hAe : va_A [] s.heap.size = A at hD hAb hN0 ⊢
  have hA : ∀ q : Nat, s.heap.size ≤ q → A q := fun q h => by rw [← hAe]; exact Or.inr h
  have hS : va_S A s.heap s.heap [] := va_S.rf
  have hR := hR0
  have hl := lv_entry [.ref en.2.2.1, .int 0] (n := 2) (Nat.le_of_ble_eq_true rfl)
  rw [lg_entry_eq]
  generalize (lg_sl [.ref en.2.2.1, .int 0] ++ List.replicate (2 - (lg_sl [.ref en.2.2.1, .int 0]).length) Slot.unset).toArray = ls at hl ⊢
  have hl : lv_has ls 2 [(0, .ref en.2.2.1), (1, .int 0)] := hl
  refine lv_aload_n hx hb dJ7_copyOf_1904c_0 rfl (lv_at hl 0 rfl) ?_
  refine lv_iload_n hx hb dJ7_copyOf_1904c_1 rfl (lv_at hl 1 rfl) ?_
  refine lv_aload_n hx hb dJ7_copyOf_1904c_2 rfl (lv_at hl 0 rfl) ?_
  refine va_getC hx hb (hml.trans hl.1.symm) hown (hts (.methodLink RJ7 86 ⟨"java/lang/Object", "getClass", "()Ljava/lang/Class;"⟩) (by decide +kernel)) hE.dc.use (hts (.selects "[Ljava/lang/Object;" ⟨"java/lang/Object", "getClass", "()Ljava/lang/Class;"⟩ ⟨"java/lang/Object", "getClass", "()Ljava/lang/Class;"⟩) (by decide +kernel)) (hts (.instanceMethod ⟨"java/lang/Object", "getClass", "()Ljava/lang/Class;"⟩) (by decide +kernel)) (hts (.native ⟨"java/lang/Object", "getClass", "()Ljava/lang/Class;"⟩) (by decide +kernel)) hE.mir (en_recv (hE.eo hAb) hS) (Nat.le_of_ble_eq_true rfl) (Nat.le_of_ble_eq_true rfl) dJ7_copyOf_1904c_3 ?_
  have hPc := (hP.app hR).sub (ws' := [] ++ []) [] rfl
  have hDc := (en_DD hD hDr hN0 hAb).sub (ws' := [] ++ []) [] (by decide) rfl
  have hKc := hK.sub (tys' := []) [] rfl
  have hFc := va_free (wc := []) hD hS hA [] rfl
  refine va_callr (va_runS (As := [.ref en.2.2.1, .int 0, .ref (en.2.2.2 259)]) (rest := []) ⟨hx, hb, hml, hown, hts⟩ (c_copyOf3 l dC dI b0 en s.heap.size ) (va_cwS 3 hts gJ7_copyOf_1904c_J7_copyOf_6403c rfl rfl rfl (by decide +kernel) ⟨Nat.le_of_ble_eq_true rfl, Nat.le_of_ble_eq_true rfl⟩) ⟨cP.blind, cP.use (en_z hb0 hS) (hE.on hAb hS) hPc hKc hDc trivial⟩ rfl rfl hl.1 rfl (lv_room (Nat.le_of_ble_eq_true rfl)) dJ7_copyOf_1904c_6 ⟨Nat.le_of_ble_eq_true rfl, Nat.le_of_ble_eq_true rfl⟩) hS (fun q _ h => hFc q h) hFc (fun u_1 r_2 t H1 locs ht hvm hw hB hz1 hk1 hS => ?_)
  obtain ⟨hP1, hK1, hD1, hF1⟩ := hB
  rw [ht] at hP1
  try rw [ht] at hF1
  have hK1 := va_K.moved hvm.symm hK1
  try dsimp only at hw
  obtain ⟨hP, hD⟩ := va_join (wr := []) (w1 := [(r_2, .inl (u_1.1, 0, .inr (.inr (.inr (.inr u_1.2)))))]) hP hD [] [] rfl rfl (by decide) (by decide) hk1 hFc hP1 hD1
  have hK := hK.app hK1
  generalize H1 = H at hP hS ⊢
  have hP : va_P (dC, dI) vwCl [(r_2, .inl (u_1.1, 0, .inr (.inr (.inr (.inr u_1.2)))))] H := hP
  have hD : va_D A [(r_2, .inl (u_1.1, 0, .inr (.inr (.inr (.inr u_1.2)))))] := hD
  have hR : va_P (dC, dI) vwCl [] H := fun k q h => by simp at h
  refine W.widen (k := 1) (n := 0) (Nat.le_of_ble_eq_true rfl) (Nat.le_of_ble_eq_true rfl) ?_
  refine W.widen (k := 1) (n := 0) (Nat.le_of_ble_eq_true rfl) (Nat.le_of_ble_eq_true rfl) ?_
  exact W.aret (v := .ref r_2) hx hb hr (by first | exact Or.inl ⟨_, rfl⟩ | exact Or.inr ⟨_, rfl⟩) (Or.inr ⟨_, rfl⟩) (fun t ht hW => ⟨⟨⟨u_1.1, u_1.2⟩, r_2, rfl, trivial, cB.mk ht hW (hP.sub [0] rfl) (hK.sub [0] rfl) (hD.sub [0] (by decide) rfl) (trivial)⟩, hS.F ht⟩) hS.2.2 dJ7_copyOf_1904c_9

set_option maxHeartbeats 4000000 in
set_option maxRecDepth 100000 in
/-- ArrayList.toArray() of a list as made -/
theorem c_toArray (l : Launch) (dC : Nat → ClassId) (dI : Nat → Nat → Nat) (b0 : Nat) (en : EnT) (sz : Nat) (li : Nat) (mo : Int32) : Met l yJx4a65c_toArray_d5877 wsJx4a65c_toArray_d5877 ({ frames := 3, cells := 1, slots := 0, locals := 84 } : Room) (cP b0 en (dC, dI) [] [] [(li, .inr (5, [.int mo, .ref en.2.2.1, .int 0]))] sz (fun _ => True) [.ref li]) (va_Qr (fun u : ClassId × (Nat → Option Nat) => True) (fun u r t => cB (dC, dI) [(u.1, .object "java/lang/Object")] [(r, .inl (u.1, 0, .inr (.inr (.inr (.inr u.2)))))] (va_A [] sz) (fun _ => True) t) (va_A [] sz)) 1 0 (va_A [] sz) := by
  refine Met.ofW (cc := cJx4a65c_toArray_d5877) (maxL := 1) (ret := (some (.array (.object "java/lang/Object")))) (by decide) rfl ?_
  intro p e s m args below meth c s₁ B hml hv
  obtain ⟨rfl, hsz, hb0, hE, hPP, hK, hDD, hF0⟩ := hv
  have hx := B.exec
  have hb := B.bytes
  have hr := B.returns
  have hts := atoms_spec (ws := wsJx4a65c_toArray_d5877) B.pre
  have hown : s.vm.findClass RJx4a65c = some m.cls := findClass_of_methodNamed B.named
  have hlocks := B.notSynchronized
  subst hsz
  have hN0 := en_N hPP hDD rfl
  have hP : va_P (dC, dI) vwCl [] s.heap := hPP.sub [] rfl
  have hR0 : va_P (dC, dI) vwCl [(li, .inr (5, [.int mo, .ref en.2.2.1, .int 0]))] s.heap := hPP.sub [0] rfl
  have hD0 : va_D (fun q => b0 ≤ q) [] := hDD.sub [] (by decide) rfl
  have hDr : va_D (fun q => b0 ≤ q) [(li, .inr (5, [.int mo, .ref en.2.2.1, .int 0]))] := hDD.sub [0] (by decide) rfl
  have hAb := en_A (sz := s.heap.size) hD0 hb0
  have hD := hD0.self (sz := s.heap.size)
  generalize hAe : va_A [] s.heap.size = A at hD hAb hN0 ⊢
  have hA : ∀ q : Nat, s.heap.size ≤ q → A q := fun q h => by rw [← hAe]; exact Or.inr h
  have hS : va_S A s.heap s.heap [] := va_S.rf
  have hR := hR0
  have hl := lv_entry [.ref li] (n := 1) (Nat.le_of_ble_eq_true rfl)
  rw [lg_entry_eq]
  generalize (lg_sl [.ref li] ++ List.replicate (1 - (lg_sl [.ref li]).length) Slot.unset).toArray = ls at hl ⊢
  have hl : lv_has ls 1 [(0, .ref li)] := hl
  refine lv_aload_n hx hb dJx4a65c_toArray_d5877_0 rfl (lv_at hl 0 rfl) ?_
  refine va_get (D := (dC, dI)) (ci := 5) (v := .ref en.2.2.1) (C := RJx4a65c) (T := TJx4a65c) (N := 3) hx hb hts (by decide +kernel) hown hK hR 0 rfl rfl 1 (by decide) (hts (.fieldLink RJx4a65c 9 "java/util/ArrayList" "elementData" "[Ljava/lang/Object;") (by decide +kernel)) (fun _ h9 => h9) rfl dJx4a65c_toArray_d5877_1 ?_
  refine lv_aload_n hx hb dJx4a65c_toArray_d5877_4 rfl (lv_at hl 0 rfl) ?_
  refine va_get (D := (dC, dI)) (ci := 5) (v := .int 0) (C := RJx4a65c) (T := TJx4a65c) (N := 3) hx hb hts (by decide +kernel) hown hK hR 0 rfl rfl 2 (by decide) (hts (.fieldLink RJx4a65c 48 "java/util/ArrayList" "size" "I") (by decide +kernel)) (fun _ h9 => h9) rfl dJx4a65c_toArray_d5877_5 ?_
  have hPc := (hP.app hR).sub (ws' := [] ++ []) [] rfl
  have hDc := (en_DD hD hDr hN0 hAb).sub (ws' := [] ++ []) [] (by decide) rfl
  have hKc := hK.sub (tys' := []) [] rfl
  have hFc := va_free (wc := []) hD hS hA [] rfl
  refine va_callr (va_runS (As := [.ref en.2.2.1, .int 0]) (rest := []) ⟨hx, hb, hml, hown, hts⟩ (c_copyOf2 l dC dI b0 en s.heap.size ) (va_cwS 2 hts gJx4a65c_toArray_d5877_J7_copyOf_1904c rfl rfl rfl (by decide +kernel) ⟨Nat.le_of_ble_eq_true rfl, Nat.le_of_ble_eq_true rfl⟩) ⟨cP.blind, cP.use (en_z hb0 hS) (hE.on hAb hS) hPc hKc hDc trivial⟩ rfl rfl hl.1 rfl (lv_room (Nat.le_of_ble_eq_true rfl)) dJx4a65c_toArray_d5877_8 ⟨Nat.le_of_ble_eq_true rfl, Nat.le_of_ble_eq_true rfl⟩) hS (fun q _ h => hFc q h) hFc (fun u_1 r_2 t H1 locs ht hvm hw hB hz1 hk1 hS => ?_)
  obtain ⟨hP1, hK1, hD1, hF1⟩ := hB
  rw [ht] at hP1
  try rw [ht] at hF1
  have hK1 := va_K.moved hvm.symm hK1
  try dsimp only at hw
  obtain ⟨hP, hD⟩ := va_join (wr := []) (w1 := [(r_2, .inl (u_1.1, 0, .inr (.inr (.inr (.inr u_1.2)))))]) hP hD [] [] rfl rfl (by decide) (by decide) hk1 hFc hP1 hD1
  have hK := hK.app hK1
  generalize H1 = H at hP hS ⊢
  have hP : va_P (dC, dI) vwCl [(r_2, .inl (u_1.1, 0, .inr (.inr (.inr (.inr u_1.2)))))] H := hP
  have hD : va_D A [(r_2, .inl (u_1.1, 0, .inr (.inr (.inr (.inr u_1.2)))))] := hD
  have hR := en_R hR0 hN0 hS
  refine W.widen (k := 1) (n := 0) (Nat.le_of_ble_eq_true rfl) (Nat.le_of_ble_eq_true rfl) ?_
  refine W.widen (k := 1) (n := 0) (Nat.le_of_ble_eq_true rfl) (Nat.le_of_ble_eq_true rfl) ?_
  exact W.aret (v := .ref r_2) hx hb hr (by first | exact Or.inl ⟨_, rfl⟩ | exact Or.inr ⟨_, rfl⟩) (Or.inr ⟨_, rfl⟩) (fun t ht hW => ⟨⟨⟨u_1.1, u_1.2⟩, r_2, rfl, trivial, cB.mk ht hW (hP.sub [0] rfl) (hK.sub [0] rfl) (hD.sub [0] (by decide) rfl) (trivial)⟩, hS.F ht⟩) hS.2.2 dJx4a65c_toArray_d5877_11

set_option maxHeartbeats 4000000 in
set_option maxRecDepth 100000 in
/-- ArrayList.addAll of a list without elements -/
theorem c_addAll (l : Launch) (dC : Nat → ClassId) (dI : Nat → Nat → Nat) (b0 : Nat) (en : EnT) (sz : Nat) (li l2 : Nat) (mo : Int32) : Met l yJx4a65c_addAll_f0b43 wsJx4a65c_addAll_f0b43 ({ frames := 4, cells := 1, slots := 0, locals := 104 } : Room) (cP b0 en (dC, dI) [] [(li, .inr (5, [.int 0, .ref en.2.2.1, .int 0]))] [(l2, .inr (5, [.int mo, .ref en.2.2.1, .int 0]))] sz (fun _ => True) [.ref li, .ref l2]) (va_Qi (fun (r : Int32) (u : Unit) => r = 0) (fun u t => cB (dC, dI) [] [(li, .inr (5, [.int 1, .ref en.2.2.1, .int 0]))] (va_A [(li, .inr (5, [.int 0, .ref en.2.2.1, .int 0]))] sz) (fun _ => True) t) (va_A [(li, .inr (5, [.int 0, .ref en.2.2.1, .int 0]))] sz)) 1 0 (va_A [(li, .inr (5, [.int 0, .ref en.2.2.1, .int 0]))] sz) := by
  refine Met.ofW (cc := cJx4a65c_addAll_f0b43) (maxL := 6) (ret := (some .boolean)) (by decide) rfl ?_
  intro p e s m args below meth c s₁ B hml hv
  obtain ⟨rfl, hsz, hb0, hE, hPP, hK, hDD, hF0⟩ := hv
  have hx := B.exec
  have hb := B.bytes
  have hr := B.returns
  have hts := atoms_spec (ws := wsJx4a65c_addAll_f0b43) B.pre
  have hown : s.vm.findClass RJx4a65c = some m.cls := findClass_of_methodNamed B.named
  have hlocks := B.notSynchronized
  subst hsz
  have hN0 := en_N hPP hDD rfl
  have hP : va_P (dC, dI) vwCl [(li, .inr (5, [.int 0, .ref en.2.2.1, .int 0]))] s.heap := hPP.sub [0] rfl
  have hR0 : va_P (dC, dI) vwCl [(l2, .inr (5, [.int mo, .ref en.2.2.1, .int 0]))] s.heap := hPP.sub [1] rfl
  have hD0 : va_D (fun q => b0 ≤ q) [(li, .inr (5, [.int 0, .ref en.2.2.1, .int 0]))] := hDD.sub [0] (by decide) rfl
  have hDr : va_D (fun q => b0 ≤ q) [(l2, .inr (5, [.int mo, .ref en.2.2.1, .int 0]))] := hDD.sub [1] (by decide) rfl
  have hAb := en_A (sz := s.heap.size) hD0 hb0
  have hD := hD0.self (sz := s.heap.size)
  generalize hAe : va_A [(li, .inr (5, [.int 0, .ref en.2.2.1, .int 0]))] s.heap.size = A at hD hAb hN0 ⊢
  have hA : ∀ q : Nat, s.heap.size ≤ q → A q := fun q h => by rw [← hAe]; exact Or.inr h
  have hS : va_S A s.heap s.heap [] := va_S.rf
  have hR := hR0
  have hl := lv_entry [.ref li, .ref l2] (n := 6) (Nat.le_of_ble_eq_true rfl)
  rw [lg_entry_eq]
  generalize (lg_sl [.ref li, .ref l2] ++ List.replicate (6 - (lg_sl [.ref li, .ref l2]).length) Slot.unset).toArray = ls at hl ⊢
  have hl : lv_has ls 6 [(0, .ref li), (1, .ref l2)] := hl
  refine lv_aload_n hx hb dJx4a65c_addAll_f0b43_0 rfl (lv_at hl 1 rfl) ?_
  have hPc := (hP.app hR).sub (ws' := [] ++ [(l2, .inr (5, [.int mo, .ref en.2.2.1, .int 0]))]) [1] rfl
  have hDc := (en_DD hD hDr hN0 hAb).sub (ws' := [] ++ [(l2, .inr (5, [.int mo, .ref en.2.2.1, .int 0]))]) [1] (by decide) rfl
  have hKc := hK.sub (tys' := []) [] rfl
  have hFc := va_free (wc := []) hD hS hA [] rfl
  refine va_callFr (va_runF (As := []) (rest := []) (hK.1 5 _ rfl).2 ⟨hx, hb, hml, hown, hts⟩ (c_toArray l dC dI b0 en s.heap.size l2 mo) (va_cwF 0 hts gJx4a65c_addAll_f0b43_Jx4a65c_toArray_d5877_f42Jx4a65c rfl rfl rfl (hE.face ("java/util/ArrayList", ⟨"java/util/Collection", "toArray", "()[Ljava/lang/Object;"⟩, ⟨"java/util/ArrayList", "toArray", "()[Ljava/lang/Object;"⟩) (by decide +kernel)) (by decide +kernel) ⟨Nat.le_of_ble_eq_true rfl, Nat.le_of_ble_eq_true rfl⟩) ⟨cP.blind, va_recv hK hR (ci := 5) (q0 := 0) rfl rfl, cP.use (en_z hb0 hS) (hE.on hAb hS) hPc hKc hDc trivial⟩ rfl rfl hl.1 rfl (lv_room (Nat.le_of_ble_eq_true rfl)) dJx4a65c_addAll_f0b43_1 ⟨Nat.le_of_ble_eq_true rfl, Nat.le_of_ble_eq_true rfl⟩) hS (fun q _ h => hFc q h) hFc (fun u_1 r_2 t H1 locs ht hvm hw hB hz1 hk1 hS => ?_)
  obtain ⟨hP1, hK1, hD1, hF1⟩ := hB
  rw [ht] at hP1
  try rw [ht] at hF1
  have hK1 := va_K.moved hvm.symm hK1
  try dsimp only at hw
  obtain ⟨hP, hD⟩ := va_join (wr := [(li, .inr (5, [.int 0, .ref en.2.2.1, .int 0]))]) (w1 := [(r_2, .inl (u_1.1, 0, .inr (.inr (.inr (.inr u_1.2)))))]) hP hD [] [0] rfl rfl (by decide) (by decide) hk1 hFc hP1 hD1
  have hK := hK.app hK1
  generalize H1 = H at hP hS ⊢
  have hP : va_P (dC, dI) vwCl [(li, .inr (5, [.int 0, .ref en.2.2.1, .int 0])), (r_2, .inl (u_1.1, 0, .inr (.inr (.inr (.inr u_1.2)))))] H := hP
  have hD : va_D A [(li, .inr (5, [.int 0, .ref en.2.2.1, .int 0])), (r_2, .inl (u_1.1, 0, .inr (.inr (.inr (.inr u_1.2)))))] := hD
  have hR := en_R hR0 hN0 hS
  refine W.widen (k := 1) (n := 0) (Nat.le_of_ble_eq_true rfl) (Nat.le_of_ble_eq_true rfl) ?_
  refine lv_astore_n (lv' := [(2, .ref r_2), (0, .ref li), (1, .ref l2)]) hx hb dJx4a65c_addAll_f0b43_6 rfl hl (by decide) rfl (fun ls hl => ?_)
  refine lv_aload_n hx hb dJx4a65c_addAll_f0b43_7 rfl (lv_at hl 1 rfl) ?_
  refine lv_dup hx hb dJx4a65c_addAll_f0b43_8 rfl ?_
  refine va_get (D := (dC, dI)) (ci := 5) (v := .int 0) (C := RJx4a65c) (T := TJx4a65c) (N := 3) hx hb hts (by decide +kernel) hown hK hP 0 rfl rfl 0 (by decide) (hts (.fieldLink RJx4a65c 63 "java/util/ArrayList" "modCount" "I") (by decide +kernel)) (fun x h9 => u_same (hts (.sameField "java/util/ArrayList" "java/util/AbstractList" "modCount" "I") (by decide +kernel)) x h9) rfl dJx4a65c_addAll_f0b43_9 ?_
  refine lv_iconst (v := 1) hx hb dJx4a65c_addAll_f0b43_12 (by decide) ?_
  refine lv_iadd hx hb dJx4a65c_addAll_f0b43_13 ?_
  refine lv_topi (fun x_3 ex_3 => ?_)
  obtain rfl : x_3 = 1 := ex_3.trans (by decide)
  refine va_put (D := (dC, dI)) (ci := 5) (v := .int 1) (ty := .int) (C := RJx4a65c) (T := TJx4a65c) (N := 3) hx hb hts (by decide +kernel) tyJx4a65c tyJx4a65c_ok nmJx4a65c hown hK hP hD hS 0 rfl rfl 0 (by decide) (hts (.fieldLink RJx4a65c 63 "java/util/ArrayList" "modCount" "I") (by decide +kernel)) (fun x h9 => u_same (hts (.sameField "java/util/ArrayList" "java/util/AbstractList" "modCount" "I") (by decide +kernel)) x h9) rfl (by decide +kernel) rfl rfl (Nat.le_of_ble_eq_true rfl) dJx4a65c_addAll_f0b43_14 (fun H locs hP hD hS => ?_)
  have hP : va_P (dC, dI) vwCl [(li, .inr (5, [.int 1, .ref en.2.2.1, .int 0])), (r_2, .inl (u_1.1, 0, .inr (.inr (.inr (.inr u_1.2)))))] H := hP
  have hD : va_D A [(li, .inr (5, [.int 1, .ref en.2.2.1, .int 0])), (r_2, .inl (u_1.1, 0, .inr (.inr (.inr (.inr u_1.2)))))] := hD
  have hR := en_R hR0 hN0 hS
  refine lv_aload_n hx hb dJx4a65c_addAll_f0b43_17 rfl (lv_at hl 0 rfl) ?_
  refine va_alen hx hb hK hP 1 0 rfl rfl (v := 0) rfl dJx4a65c_addAll_f0b43_18 ?_
  refine lv_istore_n (lv' := [(3, .int 0), (2, .ref r_2), (0, .ref li), (1, .ref l2)]) hx hb dJx4a65c_addAll_f0b43_19 rfl hl (by decide) rfl (fun ls hl => ?_)
  refine lv_iload_n hx hb dJx4a65c_addAll_f0b43_20 rfl (lv_at hl 0 rfl) ?_
  refine lv_if_ne (tgt := 26) hx hb dJx4a65c_addAll_f0b43_21 (by decide) (fun c_4 => absurd c_4 (by decide)) (fun c_4 => ?_)
  refine lv_iconst (v := 0) hx hb dJx4a65c_addAll_f0b43_24 (by decide) ?_
  refine W.widen (k := 1) (n := 0) (Nat.le_of_ble_eq_true rfl) (Nat.le_of_ble_eq_true rfl) ?_
  exact W.zret (v := 0) hx hb hr (by first | rfl | decide +kernel) (fun t ht hW => ⟨⟨0, (), rfl, (z_c_X18_fails_14), cB.mk ht hW (hP.sub [0] rfl) (hK.sub [] rfl) (hD.sub [0] (by decide) rfl) (trivial)⟩, hS.F ht⟩) hS.2.2 dJx4a65c_addAll_f0b43_25
