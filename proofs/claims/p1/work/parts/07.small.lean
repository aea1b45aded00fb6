theorem dX11_isWithin_0 : decode cX11_isWithin 0 = .ok (.iload_n 0, 1) := by decide +kernel
theorem dX11_isWithin_1 : decode cX11_isWithin 1 = .ok (.iload_n 1, 1) := by decide +kernel
theorem dX11_isWithin_2 : decode cX11_isWithin 2 = .ok (.if_icmp .lt 12, 3) := by decide +kernel
theorem dX11_isWithin_14 : decode cX11_isWithin 14 = .ok (.iconst 0, 1) := by decide +kernel
theorem dX11_isWithin_15 : decode cX11_isWithin 15 = .ok (.ireturn, 1) := by decide +kernel
theorem dX11_isWithin_5 : decode cX11_isWithin 5 = .ok (.iload_n 0, 1) := by decide +kernel
theorem dX11_isWithin_6 : decode cX11_isWithin 6 = .ok (.iload_n 2, 1) := by decide +kernel
theorem dX11_isWithin_7 : decode cX11_isWithin 7 = .ok (.if_icmp .gt 7, 3) := by decide +kernel
theorem dX11_isWithin_10 : decode cX11_isWithin 10 = .ok (.iconst 1, 1) := by decide +kernel
theorem dX11_isWithin_11 : decode cX11_isWithin 11 = .ok (.goto 4, 3) := by decide +kernel
theorem dX11_isPlace_0 : decode cX11_isPlace 0 = .ok (.iload_n 0, 1) := by decide +kernel
theorem dX11_isPlace_1 : decode cX11_isPlace 1 = .ok (.ifCond .lt 23, 3) := by decide +kernel
theorem dX11_isPlace_24 : decode cX11_isPlace 24 = .ok (.iconst 0, 1) := by decide +kernel
theorem dX11_isPlace_25 : decode cX11_isPlace 25 = .ok (.ireturn, 1) := by decide +kernel
theorem dX11_isPlace_4 : decode cX11_isPlace 4 = .ok (.iload_n 0, 1) := by decide +kernel
theorem dX11_isPlace_5 : decode cX11_isPlace 5 = .ok (.bipush 8, 2) := by decide +kernel
theorem dX11_isPlace_7 : decode cX11_isPlace 7 = .ok (.if_icmp .ge 17, 3) := by decide +kernel
theorem dX11_isPlace_10 : decode cX11_isPlace 10 = .ok (.iload_n 1, 1) := by decide +kernel
theorem dX11_isPlace_11 : decode cX11_isPlace 11 = .ok (.ifCond .lt 13, 3) := by decide +kernel
theorem dX11_isPlace_14 : decode cX11_isPlace 14 = .ok (.iload_n 1, 1) := by decide +kernel
theorem dX11_isPlace_15 : decode cX11_isPlace 15 = .ok (.bipush 6, 2) := by decide +kernel
theorem dX11_isPlace_17 : decode cX11_isPlace 17 = .ok (.if_icmp .ge 7, 3) := by decide +kernel
theorem dX11_isPlace_20 : decode cX11_isPlace 20 = .ok (.iconst 1, 1) := by decide +kernel
theorem dX11_isPlace_21 : decode cX11_isPlace 21 = .ok (.goto 4, 3) := by decide +kernel
theorem dX11_placeOf_0 : decode cX11_placeOf 0 = .ok (.iload_n 1, 1) := by decide +kernel
theorem dX11_placeOf_1 : decode cX11_placeOf 1 = .ok (.bipush 8, 2) := by decide +kernel
theorem dX11_placeOf_3 : decode cX11_placeOf 3 = .ok (.imul, 1) := by decide +kernel
theorem dX11_placeOf_4 : decode cX11_placeOf 4 = .ok (.iload_n 0, 1) := by decide +kernel
theorem dX11_placeOf_5 : decode cX11_placeOf 5 = .ok (.iadd, 1) := by decide +kernel
theorem dX11_placeOf_6 : decode cX11_placeOf 6 = .ok (.ireturn, 1) := by decide +kernel
theorem dX11_demandArgument_0 : decode cX11_demandArgument 0 = .ok (.iload_n 0, 1) := by decide +kernel
theorem dX11_demandArgument_1 : decode cX11_demandArgument 1 = .ok (.ifCond .ne 14, 3) := by decide +kernel
theorem dX11_demandArgument_15 : decode cX11_demandArgument 15 = .ok (.return_, 1) := by decide +kernel
theorem dX11_demandArgument_4 : decode cX11_demandArgument 4 = .ok (.new 451, 3) := by decide +kernel
theorem dX11_demandArgument_7 : decode cX11_demandArgument 7 = .ok (.dup, 1) := by decide +kernel
theorem dX11_demandArgument_8 : decode cX11_demandArgument 8 = .ok (.ldc_w 453, 3) := by decide +kernel
theorem dX11_demandArgument_11 : decode cX11_demandArgument 11 = .ok (.invokespecial 455, 3) := by decide +kernel
theorem dX11_demandArgument_14 : decode cX11_demandArgument 14 = .ok (.athrow, 1) := by decide +kernel
theorem dX11_demandElement_0 : decode cX11_demandElement 0 = .ok (.iload_n 0, 1) := by decide +kernel
theorem dX11_demandElement_1 : decode cX11_demandElement 1 = .ok (.ifCond .ne 14, 3) := by decide +kernel
theorem dX11_demandElement_15 : decode cX11_demandElement 15 = .ok (.return_, 1) := by decide +kernel
theorem dX11_demandElement_4 : decode cX11_demandElement 4 = .ok (.new 467, 3) := by decide +kernel
theorem dX11_demandElement_7 : decode cX11_demandElement 7 = .ok (.dup, 1) := by decide +kernel
theorem dX11_demandElement_8 : decode cX11_demandElement 8 = .ok (.ldc_w 469, 3) := by decide +kernel
theorem dX11_demandElement_11 : decode cX11_demandElement 11 = .ok (.invokespecial 471, 3) := by decide +kernel
theorem dX11_demandElement_14 : decode cX11_demandElement 14 = .ok (.athrow, 1) := by decide +kernel
theorem dX11_demandPossible_0 : decode cX11_demandPossible 0 = .ok (.iload_n 0, 1) := by decide +kernel
theorem dX11_demandPossible_1 : decode cX11_demandPossible 1 = .ok (.ifCond .ne 14, 3) := by decide +kernel
theorem dX11_demandPossible_15 : decode cX11_demandPossible 15 = .ok (.return_, 1) := by decide +kernel
theorem dX11_demandPossible_4 : decode cX11_demandPossible 4 = .ok (.new 472, 3) := by decide +kernel
theorem dX11_demandPossible_7 : decode cX11_demandPossible 7 = .ok (.dup, 1) := by decide +kernel
theorem dX11_demandPossible_8 : decode cX11_demandPossible 8 = .ok (.ldc_w 474, 3) := by decide +kernel
theorem dX11_demandPossible_11 : decode cX11_demandPossible 11 = .ok (.invokespecial 476, 3) := by decide +kernel
theorem dX11_demandPossible_14 : decode cX11_demandPossible 14 = .ok (.athrow, 1) := by decide +kernel
theorem dX11_demandRoom_0 : decode cX11_demandRoom 0 = .ok (.iload_n 0, 1) := by decide +kernel
theorem dX11_demandRoom_1 : decode cX11_demandRoom 1 = .ok (.ifCond .ne 14, 3) := by decide +kernel
theorem dX11_demandRoom_15 : decode cX11_demandRoom 15 = .ok (.return_, 1) := by decide +kernel
theorem dX11_demandRoom_4 : decode cX11_demandRoom 4 = .ok (.new 477, 3) := by decide +kernel
theorem dX11_demandRoom_7 : decode cX11_demandRoom 7 = .ok (.dup, 1) := by decide +kernel
theorem dX11_demandRoom_8 : decode cX11_demandRoom 8 = .ok (.ldc_w 479, 3) := by decide +kernel
theorem dX11_demandRoom_11 : decode cX11_demandRoom 11 = .ok (.invokespecial 481, 3) := by decide +kernel
theorem dX11_demandRoom_14 : decode cX11_demandRoom 14 = .ok (.athrow, 1) := by decide +kernel
theorem dX11_demandCovered_0 : decode cX11_demandCovered 0 = .ok (.iload_n 0, 1) := by decide +kernel
theorem dX11_demandCovered_1 : decode cX11_demandCovered 1 = .ok (.ifCond .ne 14, 3) := by decide +kernel
theorem dX11_demandCovered_15 : decode cX11_demandCovered 15 = .ok (.return_, 1) := by decide +kernel
theorem dX11_demandCovered_4 : decode cX11_demandCovered 4 = .ok (.new 482, 3) := by decide +kernel
theorem dX11_demandCovered_7 : decode cX11_demandCovered 7 = .ok (.dup, 1) := by decide +kernel
theorem dX11_demandCovered_8 : decode cX11_demandCovered 8 = .ok (.ldc_w 484, 3) := by decide +kernel
theorem dX11_demandCovered_11 : decode cX11_demandCovered 11 = .ok (.invokespecial 486, 3) := by decide +kernel
theorem dX11_demandCovered_14 : decode cX11_demandCovered 14 = .ok (.athrow, 1) := by decide +kernel
theorem dX11_demandIndex_0 : decode cX11_demandIndex 0 = .ok (.iload_n 0, 1) := by decide +kernel
theorem dX11_demandIndex_1 : decode cX11_demandIndex 1 = .ok (.ifCond .lt 8, 3) := by decide +kernel
theorem dX11_demandIndex_9 : decode cX11_demandIndex 9 = .ok (.new 462, 3) := by decide +kernel
theorem dX11_demandIndex_12 : decode cX11_demandIndex 12 = .ok (.dup, 1) := by decide +kernel
theorem dX11_demandIndex_13 : decode cX11_demandIndex 13 = .ok (.ldc_w 464, 3) := by decide +kernel
theorem dX11_demandIndex_16 : decode cX11_demandIndex 16 = .ok (.invokespecial 466, 3) := by decide +kernel
theorem dX11_demandIndex_19 : decode cX11_demandIndex 19 = .ok (.athrow, 1) := by decide +kernel
theorem dX11_demandIndex_4 : decode cX11_demandIndex 4 = .ok (.iload_n 0, 1) := by decide +kernel
theorem dX11_demandIndex_5 : decode cX11_demandIndex 5 = .ok (.iload_n 1, 1) := by decide +kernel
theorem dX11_demandIndex_6 : decode cX11_demandIndex 6 = .ok (.if_icmp .lt 14, 3) := by decide +kernel
theorem dX11_demandIndex_20 : decode cX11_demandIndex 20 = .ok (.return_, 1) := by decide +kernel
theorem dX11_demandPlace_0 : decode cX11_demandPlace 0 = .ok (.iload_n 0, 1) := by decide +kernel
theorem dX11_demandPlace_1 : decode cX11_demandPlace 1 = .ok (.iload_n 1, 1) := by decide +kernel
set_option maxRecDepth 20000 in
theorem ggX11_demandPlace_X11_isPlace : GoodIn wsX11_demandPlace wsX11_isPlace := goodIn_r _ [6] (by decide +kernel) (by decide +kernel)
set_option maxRecDepth 20000 in
theorem gX11_demandPlace_X11_isPlace : GoodIn wsX11_demandPlace (va_wsS RX11 157 yX11_isPlace wsX11_isPlace) := goodIn_app (goodIn_of _ (by decide +kernel)) ggX11_demandPlace_X11_isPlace
theorem dX11_demandPlace_2 : decode cX11_demandPlace 2 = .ok (.invokestatic 157, 3) := by decide +kernel
theorem dX11_demandPlace_5 : decode cX11_demandPlace 5 = .ok (.ifCond .ne 14, 3) := by decide +kernel
theorem dX11_demandPlace_19 : decode cX11_demandPlace 19 = .ok (.return_, 1) := by decide +kernel
theorem dX11_demandPlace_8 : decode cX11_demandPlace 8 = .ok (.new 451, 3) := by decide +kernel
theorem dX11_demandPlace_11 : decode cX11_demandPlace 11 = .ok (.dup, 1) := by decide +kernel
theorem dX11_demandPlace_12 : decode cX11_demandPlace 12 = .ok (.ldc_w 458, 3) := by decide +kernel
theorem dX11_demandPlace_15 : decode cX11_demandPlace 15 = .ok (.invokespecial 455, 3) := by decide +kernel
theorem dX11_demandPlace_18 : decode cX11_demandPlace 18 = .ok (.athrow, 1) := by decide +kernel
set_option maxHeartbeats 4000000 in
set_option maxRecDepth 100000 in
/-- Underpaint.isWithin(n, a, b): 1 if a ≤ n ≤ b, else 0 -/
theorem c_X11_isWithin (l : Launch) (dC : Nat → ClassId) (dI : Nat → Nat → Nat) (b0 : Nat) (en : EnT) (sz : Nat) (n a b : Int32) : Met l yX11_isWithin wsX11_isWithin ({ frames := 0, cells := 0, slots := 0, locals := 0 } : Room) (cP b0 en (dC, dI) [] [] [] sz (fun _ => True) [.int n, .int a, .int b]) (va_Qi (fun (r : Int32) (_ : Unit) => r = if a ≤ n ∧ n ≤ b then 1 else 0) (fun _ _ => True) (va_A [] sz)) 0 0 (va_A [] sz) := by
  refine Met.ofW (cc := cX11_isWithin) (maxL := 3) (ret := (some .boolean)) (by decide) rfl ?_
  intro p e s m args below meth c s₁ B hml hv
  obtain ⟨rfl, hsz, hb0, hE, hPP, hK, hDD, hF0⟩ := hv
  have hx := B.exec
  have hb := B.bytes
  have hr := B.returns
  have hts := atoms_spec (ws := wsX11_isWithin) B.pre
  have hown : s.vm.findClass RX11 = some m.cls := findClass_of_methodNamed B.named
  have hlocks := B.notSynchronized
  subst hsz
  have hN0 := en_N hPP hDD rfl
  have hP : va_P (dC, dI) vwCl [] s.heap := hPP.sub [] rfl
  have hR0 : va_P (dC, dI) vwCl [] s.heap := hPP.sub [] rfl
  have hD0 : va_D (fun q => b0 ≤ q) [] := hDD.sub [] (by decide) rfl
  have hDr : va_D (fun q => b0 ≤ q) [] := hDD.sub [] (by decide) rfl
  have hAb := en_A (sz := s.heap.size) hD0 hb0
  have hD := hD0.self (sz := s.heap.size)
  generalize hAe : va_A [] s.heap.size = A at hD hAb hN0 ⊢
  have hA : ∀ q : Nat, s.heap.size ≤ q → A q := fun q h => by rw [← hAe]; exact Or.inr h
  have hS : va_S A s.heap s.heap [] := va_S.rf
  have hR := hR0
  have hl := lv_entry [.int n, .int a, .int b] (n := 3) (Nat.le_of_ble_eq_true rfl)
  rw [lg_entry_eq]
  generalize (lg_sl [.int n, .int a, .int b] ++ List.replicate (3 - (lg_sl [.int n, .int a, .int b]).length) Slot.unset).toArray = ls at hl ⊢
  have hl : lv_has ls 3 [(0, .int n), (1, .int a), (2, .int b)] := hl
  refine lv_iload_n hx hb dX11_isWithin_0 rfl (lv_at hl 0 rfl) ?_
  refine lv_iload_n hx hb dX11_isWithin_1 rfl (lv_at hl 1 rfl) ?_
  refine lv_icmp_lt (tgt := 14) hx hb dX11_isWithin_2 (by decide) (fun c_1 => ?_) (fun c_1 => ?_)
  · skip
    refine lv_iconst (v := 0) hx hb dX11_isWithin_14 (by decide) ?_
    refine W.widen (k := 0) (n := 0) (Nat.le_of_ble_eq_true rfl) (Nat.le_of_ble_eq_true rfl) ?_
    exact W.zret (v := 0) hx hb hr (by first | rfl | decide +kernel) (fun t ht hW => ⟨⟨0, (), rfl, by first | exact (if_pos ⟨by first | assumption | exact Int32.not_lt.mp (by assumption), by first | assumption | exact Int32.not_lt.mp (by assumption)⟩).symm | exact (if_neg (fun z => by first | exact absurd z.1 (Int32.not_le.mpr (by assumption)) | exact absurd z.2 (Int32.not_le.mpr (by assumption)))).symm, trivial⟩, hS.F ht⟩) hS.2.2 dX11_isWithin_15
  · skip
    refine lv_iload_n hx hb dX11_isWithin_5 rfl (lv_at hl 0 rfl) ?_
    refine lv_iload_n hx hb dX11_isWithin_6 rfl (lv_at hl 2 rfl) ?_
    refine lv_icmp_gt (tgt := 14) hx hb dX11_isWithin_7 (by decide) (fun c_2 => ?_) (fun c_2 => ?_)
    · skip
      refine lv_iconst (v := 0) hx hb dX11_isWithin_14 (by decide) ?_
      refine W.widen (k := 0) (n := 0) (Nat.le_of_ble_eq_true rfl) (Nat.le_of_ble_eq_true rfl) ?_
      exact W.zret (v := 0) hx hb hr (by first | rfl | decide +kernel) (fun t ht hW => ⟨⟨0, (), rfl, by first | exact (if_pos ⟨by first | assumption | exact Int32.not_lt.mp (by assumption), by first | assumption | exact Int32.not_lt.mp (by assumption)⟩).symm | exact (if_neg (fun z => by first | exact absurd z.1 (Int32.not_le.mpr (by assumption)) | exact absurd z.2 (Int32.not_le.mpr (by assumption)))).symm, trivial⟩, hS.F ht⟩) hS.2.2 dX11_isWithin_15
    · skip
      refine lv_iconst (v := 1) hx hb dX11_isWithin_10 (by decide) ?_
      refine lv_goto (tgt := 15) hx hb dX11_isWithin_11 (by decide) ?_
      refine W.widen (k := 0) (n := 0) (Nat.le_of_ble_eq_true rfl) (Nat.le_of_ble_eq_true rfl) ?_
      exact W.zret (v := 1) hx hb hr (by first | rfl | decide +kernel) (fun t ht hW => ⟨⟨1, (), rfl, by first | exact (if_pos ⟨by first | assumption | exact Int32.not_lt.mp (by assumption), by first | assumption | exact Int32.not_lt.mp (by assumption)⟩).symm | exact (if_neg (fun z => by first | exact absurd z.1 (Int32.not_le.mpr (by assumption)) | exact absurd z.2 (Int32.not_le.mpr (by assumption)))).symm, trivial⟩, hS.F ht⟩) hS.2.2 dX11_isWithin_15
set_option maxHeartbeats 4000000 in
set_option maxRecDepth 100000 in
/-- Underpaint.isPlace(x, y) -/
theorem c_X11_isPlace (l : Launch) (dC : Nat → ClassId) (dI : Nat → Nat → Nat) (b0 : Nat) (en : EnT) (sz : Nat) (x y : Int32) : Met l yX11_isPlace wsX11_isPlace ({ frames := 0, cells := 0, slots := 0, locals := 0 } : Room) (cP b0 en (dC, dI) [] [] [] sz (fun _ => True) [.int x, .int y]) (va_Qi (fun (r : Int32) (_ : Unit) => r = if (0 ≤ x ∧ x < 8) ∧ (0 ≤ y ∧ y < 6) then 1 else 0) (fun _ _ => True) (va_A [] sz)) 0 0 (va_A [] sz) := by
  refine Met.ofW (cc := cX11_isPlace) (maxL := 2) (ret := (some .boolean)) (by decide) rfl ?_
  intro p e s m args below meth c s₁ B hml hv
  obtain ⟨rfl, hsz, hb0, hE, hPP, hK, hDD, hF0⟩ := hv
  have hx := B.exec
  have hb := B.bytes
  have hr := B.returns
  have hts := atoms_spec (ws := wsX11_isPlace) B.pre
  have hown : s.vm.findClass RX11 = some m.cls := findClass_of_methodNamed B.named
  have hlocks := B.notSynchronized
  subst hsz
  have hN0 := en_N hPP hDD rfl
  have hP : va_P (dC, dI) vwCl [] s.heap := hPP.sub [] rfl
  have hR0 : va_P (dC, dI) vwCl [] s.heap := hPP.sub [] rfl
  have hD0 : va_D (fun q => b0 ≤ q) [] := hDD.sub [] (by decide) rfl
  have hDr : va_D (fun q => b0 ≤ q) [] := hDD.sub [] (by decide) rfl
  have hAb := en_A (sz := s.heap.size) hD0 hb0
  have hD := hD0.self (sz := s.heap.size)
  generalize hAe : va_A [] s.heap.size = A at hD hAb hN0 ⊢
  have hA : ∀ q : Nat, s.heap.size ≤ q → A q := fun q h => by rw [← hAe]; exact Or.inr h
  have hS : va_S A s.heap s.heap [] := va_S.rf
  have hR := hR0
  have hl := lv_entry [.int x, .int y] (n := 2) (Nat.le_of_ble_eq_true rfl)
  rw [lg_entry_eq]
  generalize (lg_sl [.int x, .int y] ++ List.replicate (2 - (lg_sl [.int x, .int y]).length) Slot.unset).toArray = ls at hl ⊢
  have hl : lv_has ls 2 [(0, .int x), (1, .int y)] := hl
  refine lv_iload_n hx hb dX11_isPlace_0 rfl (lv_at hl 0 rfl) ?_
  refine lv_if_lt (tgt := 24) hx hb dX11_isPlace_1 (by decide) (fun c_1 => ?_) (fun c_1 => ?_)
  · skip
    refine lv_iconst (v := 0) hx hb dX11_isPlace_24 (by decide) ?_
    refine W.widen (k := 0) (n := 0) (Nat.le_of_ble_eq_true rfl) (Nat.le_of_ble_eq_true rfl) ?_
    exact W.zret (v := 0) hx hb hr (by first | rfl | decide +kernel) (fun t ht hW => ⟨⟨0, (), rfl, by first | exact (if_pos ⟨⟨by first | assumption | exact Int32.not_lt.mp (by assumption), by first | assumption | exact Int32.not_le.mp (by assumption)⟩, by first | assumption | exact Int32.not_lt.mp (by assumption), by first | assumption | exact Int32.not_le.mp (by assumption)⟩).symm | exact (if_neg (fun z => by first | exact absurd z.1.1 (by assumption) | exact absurd z.1.1 (Int32.not_le.mpr (by assumption)) | exact absurd z.1.2 (Int32.not_lt.mpr (by assumption)) | exact absurd z.2.1 (by assumption) | exact absurd z.2.1 (Int32.not_le.mpr (by assumption)) | exact absurd z.2.2 (Int32.not_lt.mpr (by assumption)))).symm, trivial⟩, hS.F ht⟩) hS.2.2 dX11_isPlace_25
  · skip
    refine lv_iload_n hx hb dX11_isPlace_4 rfl (lv_at hl 0 rfl) ?_
    refine lv_bipush (v := 8) hx hb dX11_isPlace_5 (by decide) ?_
    refine lv_icmp_ge (tgt := 24) hx hb dX11_isPlace_7 (by decide) (fun c_2 => ?_) (fun c_2 => ?_)
    · skip
      refine lv_iconst (v := 0) hx hb dX11_isPlace_24 (by decide) ?_
      refine W.widen (k := 0) (n := 0) (Nat.le_of_ble_eq_true rfl) (Nat.le_of_ble_eq_true rfl) ?_
      exact W.zret (v := 0) hx hb hr (by first | rfl | decide +kernel) (fun t ht hW => ⟨⟨0, (), rfl, by first | exact (if_pos ⟨⟨by first | assumption | exact Int32.not_lt.mp (by assumption), by first | assumption | exact Int32.not_le.mp (by assumption)⟩, by first | assumption | exact Int32.not_lt.mp (by assumption), by first | assumption | exact Int32.not_le.mp (by assumption)⟩).symm | exact (if_neg (fun z => by first | exact absurd z.1.1 (by assumption) | exact absurd z.1.1 (Int32.not_le.mpr (by assumption)) | exact absurd z.1.2 (Int32.not_lt.mpr (by assumption)) | exact absurd z.2.1 (by assumption) | exact absurd z.2.1 (Int32.not_le.mpr (by assumption)) | exact absurd z.2.2 (Int32.not_lt.mpr (by assumption)))).symm, trivial⟩, hS.F ht⟩) hS.2.2 dX11_isPlace_25
    · skip
      refine lv_iload_n hx hb dX11_isPlace_10 rfl (lv_at hl 1 rfl) ?_
      refine lv_if_lt (tgt := 24) hx hb dX11_isPlace_11 (by decide) (fun c_3 => ?_) (fun c_3 => ?_)
      · skip
        refine lv_iconst (v := 0) hx hb dX11_isPlace_24 (by decide) ?_
        refine W.widen (k := 0) (n := 0) (Nat.le_of_ble_eq_true rfl) (Nat.le_of_ble_eq_true rfl) ?_
        exact W.zret (v := 0) hx hb hr (by first | rfl | decide +kernel) (fun t ht hW => ⟨⟨0, (), rfl, by first | exact (if_pos ⟨⟨by first | assumption | exact Int32.not_lt.mp (by assumption), by first | assumption | exact Int32.not_le.mp (by assumption)⟩, by first | assumption | exact Int32.not_lt.mp (by assumption), by first | assumption | exact Int32.not_le.mp (by assumption)⟩).symm | exact (if_neg (fun z => by first | exact absurd z.1.1 (by assumption) | exact absurd z.1.1 (Int32.not_le.mpr (by assumption)) | exact absurd z.1.2 (Int32.not_lt.mpr (by assumption)) | exact absurd z.2.1 (by assumption) | exact absurd z.2.1 (Int32.not_le.mpr (by assumption)) | exact absurd z.2.2 (Int32.not_lt.mpr (by assumption)))).symm, trivial⟩, hS.F ht⟩) hS.2.2 dX11_isPlace_25
      · skip
        refine lv_iload_n hx hb dX11_isPlace_14 rfl (lv_at hl 1 rfl) ?_
        refine lv_bipush (v := 6) hx hb dX11_isPlace_15 (by decide) ?_
        refine lv_icmp_ge (tgt := 24) hx hb dX11_isPlace_17 (by decide) (fun c_4 => ?_) (fun c_4 => ?_)
        · skip
          refine lv_iconst (v := 0) hx hb dX11_isPlace_24 (by decide) ?_
          refine W.widen (k := 0) (n := 0) (Nat.le_of_ble_eq_true rfl) (Nat.le_of_ble_eq_true rfl) ?_
          exact W.zret (v := 0) hx hb hr (by first | rfl | decide +kernel) (fun t ht hW => ⟨⟨0, (), rfl, by first | exact (if_pos ⟨⟨by first | assumption | exact Int32.not_lt.mp (by assumption), by first | assumption | exact Int32.not_le.mp (by assumption)⟩, by first | assumption | exact Int32.not_lt.mp (by assumption), by first | assumption | exact Int32.not_le.mp (by assumption)⟩).symm | exact (if_neg (fun z => by first | exact absurd z.1.1 (by assumption) | exact absurd z.1.1 (Int32.not_le.mpr (by assumption)) | exact absurd z.1.2 (Int32.not_lt.mpr (by assumption)) | exact absurd z.2.1 (by assumption) | exact absurd z.2.1 (Int32.not_le.mpr (by assumption)) | exact absurd z.2.2 (Int32.not_lt.mpr (by assumption)))).symm, trivial⟩, hS.F ht⟩) hS.2.2 dX11_isPlace_25
        · skip
          refine lv_iconst (v := 1) hx hb dX11_isPlace_20 (by decide) ?_
          refine lv_goto (tgt := 25) hx hb dX11_isPlace_21 (by decide) ?_
          refine W.widen (k := 0) (n := 0) (Nat.le_of_ble_eq_true rfl) (Nat.le_of_ble_eq_true rfl) ?_
          exact W.zret (v := 1) hx hb hr (by first | rfl | decide +kernel) (fun t ht hW => ⟨⟨1, (), rfl, by first | exact (if_pos ⟨⟨by first | assumption | exact Int32.not_lt.mp (by assumption), by first | assumption | exact Int32.not_le.mp (by assumption)⟩, by first | assumption | exact Int32.not_lt.mp (by assumption), by first | assumption | exact Int32.not_le.mp (by assumption)⟩).symm | exact (if_neg (fun z => by first | exact absurd z.1.1 (by assumption) | exact absurd z.1.1 (Int32.not_le.mpr (by assumption)) | exact absurd z.1.2 (Int32.not_lt.mpr (by assumption)) | exact absurd z.2.1 (by assumption) | exact absurd z.2.1 (Int32.not_le.mpr (by assumption)) | exact absurd z.2.2 (Int32.not_lt.mpr (by assumption)))).symm, trivial⟩, hS.F ht⟩) hS.2.2 dX11_isPlace_25
set_option maxHeartbeats 4000000 in
set_option maxRecDepth 100000 in
/-- Underpaint.placeOf(x, y) -/
theorem c_X11_placeOf (l : Launch) (dC : Nat → ClassId) (dI : Nat → Nat → Nat) (b0 : Nat) (en : EnT) (sz : Nat) (x y : Int32) : Met l yX11_placeOf wsX11_placeOf ({ frames := 0, cells := 0, slots := 0, locals := 0 } : Room) (cP b0 en (dC, dI) [] [] [] sz (fun _ => True) [.int x, .int y]) (va_Qi (fun (r : Int32) (_ : Unit) => r = y * 8 + x) (fun _ _ => True) (va_A [] sz)) 0 0 (va_A [] sz) := by
  refine Met.ofW (cc := cX11_placeOf) (maxL := 2) (ret := (some .int)) (by decide) rfl ?_
  intro p e s m args below meth c s₁ B hml hv
  obtain ⟨rfl, hsz, hb0, hE, hPP, hK, hDD, hF0⟩ := hv
  have hx := B.exec
  have hb := B.bytes
  have hr := B.returns
  have hts := atoms_spec (ws := wsX11_placeOf) B.pre
  have hown : s.vm.findClass RX11 = some m.cls := findClass_of_methodNamed B.named
  have hlocks := B.notSynchronized
  subst hsz
  have hN0 := en_N hPP hDD rfl
  have hP : va_P (dC, dI) vwCl [] s.heap := hPP.sub [] rfl
  have hR0 : va_P (dC, dI) vwCl [] s.heap := hPP.sub [] rfl
  have hD0 : va_D (fun q => b0 ≤ q) [] := hDD.sub [] (by decide) rfl
  have hDr : va_D (fun q => b0 ≤ q) [] := hDD.sub [] (by decide) rfl
  have hAb := en_A (sz := s.heap.size) hD0 hb0
  have hD := hD0.self (sz := s.heap.size)
  generalize hAe : va_A [] s.heap.size = A at hD hAb hN0 ⊢
  have hA : ∀ q : Nat, s.heap.size ≤ q → A q := fun q h => by rw [← hAe]; exact Or.inr h
  have hS : va_S A s.heap s.heap [] := va_S.rf
  have hR := hR0
  have hl := lv_entry [.int x, .int y] (n := 2) (Nat.le_of_ble_eq_true rfl)
  rw [lg_entry_eq]
  generalize (lg_sl [.int x, .int y] ++ List.replicate (2 - (lg_sl [.int x, .int y]).length) Slot.unset).toArray = ls at hl ⊢
  have hl : lv_has ls 2 [(0, .int x), (1, .int y)] := hl
  refine lv_iload_n hx hb dX11_placeOf_0 rfl (lv_at hl 1 rfl) ?_
  refine lv_bipush (v := 8) hx hb dX11_placeOf_1 (by decide) ?_
  refine lv_imul hx hb dX11_placeOf_3 ?_
  refine lv_topi (fun x_1 ex_1 => ?_)
  refine lv_iload_n hx hb dX11_placeOf_4 rfl (lv_at hl 0 rfl) ?_
  refine lv_iadd hx hb dX11_placeOf_5 ?_
  refine lv_topi (fun x_2 ex_2 => ?_)
  refine W.widen (k := 0) (n := 0) (Nat.le_of_ble_eq_true rfl) (Nat.le_of_ble_eq_true rfl) ?_
  exact W.iret (v := x_2) hx hb hr (fun t ht hW => ⟨⟨x_2, (), rfl, by simp only [*], trivial⟩, hS.F ht⟩) hS.2.2 dX11_placeOf_6
set_option maxHeartbeats 4000000 in
set_option maxRecDepth 100000 in
/-- throws java/lang/IllegalArgumentException if v = 0 -/
theorem c_X11_demandArgument (l : Launch) (hst : l.stackTraces = false) (dC : Nat → ClassId) (dI : Nat → Nat → Nat) (b0 : Nat) (en : EnT) (sz : Nat) (v : Int32) : vx_Met l yX11_demandArgument wsX11_demandArgument ({ frames := 6, cells := 1, slots := 6, locals := 90 } : Room) (cP b0 en (dC, dI) [] [] [] sz (fun _ => True) [.int v]) (va_Qv (fun _ : Unit => ¬ v = 0) (fun _ _ => True) (va_A [] sz)) (vx_X (fun _ : Unit => True) (fun E _ _ => (E = "java/lang/IllegalArgumentException" ∧ v = 0)) (va_A [] sz)) 1 6 (va_A [] sz) := by
  refine vx_ofW (cc := cX11_demandArgument) (maxL := 1) (ret := none) (by decide) rfl ?_
  intro p e s m args below meth c s₁ B hml hext hv
  obtain ⟨rfl, hsz, hb0, hE, hPP, hK, hDD, hF0⟩ := hv
  have hx := B.exec
  have hb := B.bytes
  have hr := B.returns
  have hts := atoms_spec (ws := wsX11_demandArgument) B.pre
  have hown : s.vm.findClass RX11 = some m.cls := findClass_of_methodNamed B.named
  have hlocks := B.notSynchronized
  subst hsz
  have hN0 := en_N hPP hDD rfl
  have hP : va_P (dC, dI) vwCl [] s.heap := hPP.sub [] rfl
  have hR0 : va_P (dC, dI) vwCl [] s.heap := hPP.sub [] rfl
  have hD0 : va_D (fun q => b0 ≤ q) [] := hDD.sub [] (by decide) rfl
  have hDr : va_D (fun q => b0 ≤ q) [] := hDD.sub [] (by decide) rfl
  have hAb := en_A (sz := s.heap.size) hD0 hb0
  have hD := hD0.self (sz := s.heap.size)
  generalize hAe : va_A [] s.heap.size = A at hD hAb hN0 ⊢
  have hA : ∀ q : Nat, s.heap.size ≤ q → A q := fun q h => by rw [← hAe]; exact Or.inr h
  have hS : va_S A s.heap s.heap [] := va_S.rf
  have hR := hR0
  have hl := lv_entry [.int v] (n := 1) (Nat.le_of_ble_eq_true rfl)
  rw [lg_entry_eq]
  generalize (lg_sl [.int v] ++ List.replicate (1 - (lg_sl [.int v]).length) Slot.unset).toArray = ls at hl ⊢
  have hl : lv_has ls 1 [(0, .int v)] := hl
  refine lv_iload_n hx hb dX11_demandArgument_0 rfl (lv_at hl 0 rfl) ?_
  refine lv_if_ne (tgt := 15) hx hb dX11_demandArgument_1 (by decide) (fun c_1 => ?_) (fun c_1 => ?_)
  · skip
    refine W.widen (k := 1) (n := 6) (Nat.le_of_ble_eq_true rfl) (Nat.le_of_ble_eq_true rfl) ?_
    refine vx_ret ?_
    exact W.vret hx hb hr (fun t ht hW => ⟨⟨(), rfl, c_1, trivial⟩, hS.F ht⟩) hS.2.2 dX11_demandArgument_15
  · skip
    obtain ⟨sa, hsa⟩ := hE.text (453, "out of range, or of no such kind") (by decide +kernel)
    have hat := vx_hat (L := vx_atS RX11 455 "java/lang/IllegalArgumentException" ["java/lang/RuntimeException", "java/lang/Exception"]) (s := s) (fun w hw => hts w (List.mem_cons_of_mem _ (List.mem_append_right _ hw))) (B := [.castable "java/lang/IllegalArgumentException" "java/lang/IllegalArgumentException", .declares (Bundle.initS "java/lang/RuntimeException"), .declares (Bundle.initS "java/lang/Exception"), .declares (Bundle.initS "java/lang/Throwable")]) (by decide +kernel) (vx_c (va_Nw.use rfl (hE.cast (E := "java/lang/IllegalArgumentException") (by decide +kernel))) (vx_c (va_Nw.use rfl (hE.dec (by decide +kernel))) (vx_c (va_Nw.use rfl (hE.dec (by decide +kernel))) (vx_c (va_Nw.use rfl (hE.dec (by decide +kernel))) vx_n))))
    exact vx_throwSW hx hb hst (sa := sa) (names := ["java/lang/RuntimeException", "java/lang/Exception"]) (A := A) hown (by decide +kernel) (by decide +kernel) (hts (.classLink RX11 451 "java/lang/IllegalArgumentException") (by decide +kernel)) (hts (.initialized "java/lang/IllegalArgumentException") (by decide +kernel)) hsa hat (by decide +kernel) (hE.zq1 hAb) (hE.zq2 hAb) hS (by rw [hml]; exact hl.1) dX11_demandArgument_4 dX11_demandArgument_7 dX11_demandArgument_8 dX11_demandArgument_11 dX11_demandArgument_14 (fun x hx => (hext x hx).elim) (Nat.le_of_ble_eq_true rfl) (Nat.le_of_ble_eq_true rfl) (Nat.le_of_ble_eq_true rfl) (Nat.le_of_ble_eq_true rfl) hlocks (fun t hv hz hq => ⟨(), trivial, ⟨rfl, c_1⟩, ⟨Nat.le_trans hS.1 hz, fun q h1 h2 => (hq q (Nat.lt_of_lt_of_le h1 hS.1)).trans (hS.2.1 q h1 h2)⟩⟩) hS.2.2 (Nat.le_of_ble_eq_true rfl) (Nat.le_of_ble_eq_true rfl)
set_option maxHeartbeats 4000000 in
set_option maxRecDepth 100000 in
/-- throws java/util/NoSuchElementException if v = 0 -/
theorem c_X11_demandElement (l : Launch) (hst : l.stackTraces = false) (dC : Nat → ClassId) (dI : Nat → Nat → Nat) (b0 : Nat) (en : EnT) (sz : Nat) (v : Int32) : vx_Met l yX11_demandElement wsX11_demandElement ({ frames := 6, cells := 1, slots := 6, locals := 90 } : Room) (cP b0 en (dC, dI) [] [] [] sz (fun _ => True) [.int v]) (va_Qv (fun _ : Unit => ¬ v = 0) (fun _ _ => True) (va_A [] sz)) (vx_X (fun _ : Unit => True) (fun E _ _ => (E = "java/util/NoSuchElementException" ∧ v = 0)) (va_A [] sz)) 1 6 (va_A [] sz) := by
  refine vx_ofW (cc := cX11_demandElement) (maxL := 1) (ret := none) (by decide) rfl ?_
  intro p e s m args below meth c s₁ B hml hext hv
  obtain ⟨rfl, hsz, hb0, hE, hPP, hK, hDD, hF0⟩ := hv
  have hx := B.exec
  have hb := B.bytes
  have hr := B.returns
  have hts := atoms_spec (ws := wsX11_demandElement) B.pre
  have hown : s.vm.findClass RX11 = some m.cls := findClass_of_methodNamed B.named
  have hlocks := B.notSynchronized
  subst hsz
  have hN0 := en_N hPP hDD rfl
  have hP : va_P (dC, dI) vwCl [] s.heap := hPP.sub [] rfl
  have hR0 : va_P (dC, dI) vwCl [] s.heap := hPP.sub [] rfl
  have hD0 : va_D (fun q => b0 ≤ q) [] := hDD.sub [] (by decide) rfl
  have hDr : va_D (fun q => b0 ≤ q) [] := hDD.sub [] (by decide) rfl
  have hAb := en_A (sz := s.heap.size) hD0 hb0
  have hD := hD0.self (sz := s.heap.size)
  generalize hAe : va_A [] s.heap.size = A at hD hAb hN0 ⊢
  have hA : ∀ q : Nat, s.heap.size ≤ q → A q := fun q h => by rw [← hAe]; exact Or.inr h
  have hS : va_S A s.heap s.heap [] := va_S.rf
  have hR := hR0
  have hl := lv_entry [.int v] (n := 1) (Nat.le_of_ble_eq_true rfl)
  rw [lg_entry_eq]
  generalize (lg_sl [.int v] ++ List.replicate (1 - (lg_sl [.int v]).length) Slot.unset).toArray = ls at hl ⊢
  have hl : lv_has ls 1 [(0, .int v)] := hl
  refine lv_iload_n hx hb dX11_demandElement_0 rfl (lv_at hl 0 rfl) ?_
  refine lv_if_ne (tgt := 15) hx hb dX11_demandElement_1 (by decide) (fun c_1 => ?_) (fun c_1 => ?_)
  · skip
    refine W.widen (k := 1) (n := 6) (Nat.le_of_ble_eq_true rfl) (Nat.le_of_ble_eq_true rfl) ?_
    refine vx_ret ?_
    exact W.vret hx hb hr (fun t ht hW => ⟨⟨(), rfl, c_1, trivial⟩, hS.F ht⟩) hS.2.2 dX11_demandElement_15
  · skip
    obtain ⟨sa, hsa⟩ := hE.text (469, "there is none") (by decide +kernel)
    have hat := vx_hat (L := vx_atNS RX11 471) (s := s) (fun w hw => hts w (List.mem_cons_of_mem _ (List.mem_append_right _ hw))) (B := [.castable "java/util/NoSuchElementException" "java/util/NoSuchElementException", .declares (Bundle.initS "java/lang/RuntimeException"), .declares (Bundle.initS "java/lang/Exception"), .declares (Bundle.initS "java/lang/Throwable")]) (by decide +kernel) (vx_c (va_Nw.use rfl (hE.cast (E := "java/util/NoSuchElementException") (by decide +kernel))) (vx_c (va_Nw.use rfl (hE.dec (by decide +kernel))) (vx_c (va_Nw.use rfl (hE.dec (by decide +kernel))) (vx_c (va_Nw.use rfl (hE.dec (by decide +kernel))) vx_n))))
    exact vx_throwN hx hb hst (sa := sa) (A := A) hown (hts (.classLink RX11 467 "java/util/NoSuchElementException") (by decide +kernel)) (hts (.initialized "java/util/NoSuchElementException") (by decide +kernel)) hsa hat (by decide +kernel) (hE.zq1 hAb) (hE.zq2 hAb) hS (by rw [hml]; exact hl.1) dX11_demandElement_4 dX11_demandElement_7 dX11_demandElement_8 dX11_demandElement_11 dX11_demandElement_14 (fun x hx => (hext x hx).elim) (Nat.le_of_ble_eq_true rfl) (Nat.le_of_ble_eq_true rfl) (Nat.le_of_ble_eq_true rfl) (Nat.le_of_ble_eq_true rfl) hlocks (fun t hv hz hq => ⟨(), trivial, ⟨rfl, c_1⟩, ⟨Nat.le_trans hS.1 hz, fun q h1 h2 => (hq q (Nat.lt_of_lt_of_le h1 hS.1)).trans (hS.2.1 q h1 h2)⟩⟩) hS.2.2 (Nat.le_of_ble_eq_true rfl) (Nat.le_of_ble_eq_true rfl)
set_option maxHeartbeats 4000000 in
set_option maxRecDepth 100000 in
/-- throws java/lang/UnsupportedOperationException if v = 0 -/
theorem c_X11_demandPossible (l : Launch) (hst : l.stackTraces = false) (dC : Nat → ClassId) (dI : Nat → Nat → Nat) (b0 : Nat) (en : EnT) (sz : Nat) (v : Int32) : vx_Met l yX11_demandPossible wsX11_demandPossible ({ frames := 6, cells := 1, slots := 6, locals := 90 } : Room) (cP b0 en (dC, dI) [] [] [] sz (fun _ => True) [.int v]) (va_Qv (fun _ : Unit => ¬ v = 0) (fun _ _ => True) (va_A [] sz)) (vx_X (fun _ : Unit => True) (fun E _ _ => (E = "java/lang/UnsupportedOperationException" ∧ v = 0)) (va_A [] sz)) 1 6 (va_A [] sz) := by
  refine vx_ofW (cc := cX11_demandPossible) (maxL := 1) (ret := none) (by decide) rfl ?_
  intro p e s m args below meth c s₁ B hml hext hv
  obtain ⟨rfl, hsz, hb0, hE, hPP, hK, hDD, hF0⟩ := hv
  have hx := B.exec
  have hb := B.bytes
  have hr := B.returns
  have hts := atoms_spec (ws := wsX11_demandPossible) B.pre
  have hown : s.vm.findClass RX11 = some m.cls := findClass_of_methodNamed B.named
  have hlocks := B.notSynchronized
  subst hsz
  have hN0 := en_N hPP hDD rfl
  have hP : va_P (dC, dI) vwCl [] s.heap := hPP.sub [] rfl
  have hR0 : va_P (dC, dI) vwCl [] s.heap := hPP.sub [] rfl
  have hD0 : va_D (fun q => b0 ≤ q) [] := hDD.sub [] (by decide) rfl
  have hDr : va_D (fun q => b0 ≤ q) [] := hDD.sub [] (by decide) rfl
  have hAb := en_A (sz := s.heap.size) hD0 hb0
  have hD := hD0.self (sz := s.heap.size)
  generalize hAe : va_A [] s.heap.size = A at hD hAb hN0 ⊢
  have hA : ∀ q : Nat, s.heap.size ≤ q → A q := fun q h => by rw [← hAe]; exact Or.inr h
  have hS : va_S A s.heap s.heap [] := va_S.rf
  have hR := hR0
  have hl := lv_entry [.int v] (n := 1) (Nat.le_of_ble_eq_true rfl)
  rw [lg_entry_eq]
  generalize (lg_sl [.int v] ++ List.replicate (1 - (lg_sl [.int v]).length) Slot.unset).toArray = ls at hl ⊢
  have hl : lv_has ls 1 [(0, .int v)] := hl
  refine lv_iload_n hx hb dX11_demandPossible_0 rfl (lv_at hl 0 rfl) ?_
  refine lv_if_ne (tgt := 15) hx hb dX11_demandPossible_1 (by decide) (fun c_1 => ?_) (fun c_1 => ?_)
  · skip
    refine W.widen (k := 1) (n := 6) (Nat.le_of_ble_eq_true rfl) (Nat.le_of_ble_eq_true rfl) ?_
    refine vx_ret ?_
    exact W.vret hx hb hr (fun t ht hW => ⟨⟨(), rfl, c_1, trivial⟩, hS.F ht⟩) hS.2.2 dX11_demandPossible_15
  · skip
    obtain ⟨sa, hsa⟩ := hE.text (474, "this cannot be done") (by decide +kernel)
    have hat := vx_hat (L := vx_atS RX11 476 "java/lang/UnsupportedOperationException" ["java/lang/RuntimeException", "java/lang/Exception"]) (s := s) (fun w hw => hts w (List.mem_cons_of_mem _ (List.mem_append_right _ hw))) (B := [.castable "java/lang/UnsupportedOperationException" "java/lang/UnsupportedOperationException", .declares (Bundle.initS "java/lang/RuntimeException"), .declares (Bundle.initS "java/lang/Exception"), .declares (Bundle.initS "java/lang/Throwable")]) (by decide +kernel) (vx_c (va_Nw.use rfl (hE.cast (E := "java/lang/UnsupportedOperationException") (by decide +kernel))) (vx_c (va_Nw.use rfl (hE.dec (by decide +kernel))) (vx_c (va_Nw.use rfl (hE.dec (by decide +kernel))) (vx_c (va_Nw.use rfl (hE.dec (by decide +kernel))) vx_n))))
    exact vx_throwSW hx hb hst (sa := sa) (names := ["java/lang/RuntimeException", "java/lang/Exception"]) (A := A) hown (by decide +kernel) (by decide +kernel) (hts (.classLink RX11 472 "java/lang/UnsupportedOperationException") (by decide +kernel)) (hts (.initialized "java/lang/UnsupportedOperationException") (by decide +kernel)) hsa hat (by decide +kernel) (hE.zq1 hAb) (hE.zq2 hAb) hS (by rw [hml]; exact hl.1) dX11_demandPossible_4 dX11_demandPossible_7 dX11_demandPossible_8 dX11_demandPossible_11 dX11_demandPossible_14 (fun x hx => (hext x hx).elim) (Nat.le_of_ble_eq_true rfl) (Nat.le_of_ble_eq_true rfl) (Nat.le_of_ble_eq_true rfl) (Nat.le_of_ble_eq_true rfl) hlocks (fun t hv hz hq => ⟨(), trivial, ⟨rfl, c_1⟩, ⟨Nat.le_trans hS.1 hz, fun q h1 h2 => (hq q (Nat.lt_of_lt_of_le h1 hS.1)).trans (hS.2.1 q h1 h2)⟩⟩) hS.2.2 (Nat.le_of_ble_eq_true rfl) (Nat.le_of_ble_eq_true rfl)
set_option maxHeartbeats 4000000 in
set_option maxRecDepth 100000 in
/-- throws java/lang/IllegalStateException if v = 0 -/
theorem c_X11_demandRoom (l : Launch) (hst : l.stackTraces = false) (dC : Nat → ClassId) (dI : Nat → Nat → Nat) (b0 : Nat) (en : EnT) (sz : Nat) (v : Int32) : vx_Met l yX11_demandRoom wsX11_demandRoom ({ frames := 6, cells := 1, slots := 6, locals := 90 } : Room) (cP b0 en (dC, dI) [] [] [] sz (fun _ => True) [.int v]) (va_Qv (fun _ : Unit => ¬ v = 0) (fun _ _ => True) (va_A [] sz)) (vx_X (fun _ : Unit => True) (fun E _ _ => (E = "java/lang/IllegalStateException" ∧ v = 0)) (va_A [] sz)) 1 6 (va_A [] sz) := by
  refine vx_ofW (cc := cX11_demandRoom) (maxL := 1) (ret := none) (by decide) rfl ?_
  intro p e s m args below meth c s₁ B hml hext hv
  obtain ⟨rfl, hsz, hb0, hE, hPP, hK, hDD, hF0⟩ := hv
  have hx := B.exec
  have hb := B.bytes
  have hr := B.returns
  have hts := atoms_spec (ws := wsX11_demandRoom) B.pre
  have hown : s.vm.findClass RX11 = some m.cls := findClass_of_methodNamed B.named
  have hlocks := B.notSynchronized
  subst hsz
  have hN0 := en_N hPP hDD rfl
  have hP : va_P (dC, dI) vwCl [] s.heap := hPP.sub [] rfl
  have hR0 : va_P (dC, dI) vwCl [] s.heap := hPP.sub [] rfl
  have hD0 : va_D (fun q => b0 ≤ q) [] := hDD.sub [] (by decide) rfl
  have hDr : va_D (fun q => b0 ≤ q) [] := hDD.sub [] (by decide) rfl
  have hAb := en_A (sz := s.heap.size) hD0 hb0
  have hD := hD0.self (sz := s.heap.size)
  generalize hAe : va_A [] s.heap.size = A at hD hAb hN0 ⊢
  have hA : ∀ q : Nat, s.heap.size ≤ q → A q := fun q h => by rw [← hAe]; exact Or.inr h
  have hS : va_S A s.heap s.heap [] := va_S.rf
  have hR := hR0
  have hl := lv_entry [.int v] (n := 1) (Nat.le_of_ble_eq_true rfl)
  rw [lg_entry_eq]
  generalize (lg_sl [.int v] ++ List.replicate (1 - (lg_sl [.int v]).length) Slot.unset).toArray = ls at hl ⊢
  have hl : lv_has ls 1 [(0, .int v)] := hl
  refine lv_iload_n hx hb dX11_demandRoom_0 rfl (lv_at hl 0 rfl) ?_
  refine lv_if_ne (tgt := 15) hx hb dX11_demandRoom_1 (by decide) (fun c_1 => ?_) (fun c_1 => ?_)
  · skip
    refine W.widen (k := 1) (n := 6) (Nat.le_of_ble_eq_true rfl) (Nat.le_of_ble_eq_true rfl) ?_
    refine vx_ret ?_
    exact W.vret hx hb hr (fun t ht hW => ⟨⟨(), rfl, c_1, trivial⟩, hS.F ht⟩) hS.2.2 dX11_demandRoom_15
  · skip
    obtain ⟨sa, hsa⟩ := hE.text (479, "there is no room for more") (by decide +kernel)
    have hat := vx_hat (L := vx_atS RX11 481 "java/lang/IllegalStateException" ["java/lang/RuntimeException", "java/lang/Exception"]) (s := s) (fun w hw => hts w (List.mem_cons_of_mem _ (List.mem_append_right _ hw))) (B := [.castable "java/lang/IllegalStateException" "java/lang/IllegalStateException", .declares (Bundle.initS "java/lang/RuntimeException"), .declares (Bundle.initS "java/lang/Exception"), .declares (Bundle.initS "java/lang/Throwable")]) (by decide +kernel) (vx_c (va_Nw.use rfl (hE.cast (E := "java/lang/IllegalStateException") (by decide +kernel))) (vx_c (va_Nw.use rfl (hE.dec (by decide +kernel))) (vx_c (va_Nw.use rfl (hE.dec (by decide +kernel))) (vx_c (va_Nw.use rfl (hE.dec (by decide +kernel))) vx_n))))
    exact vx_throwSW hx hb hst (sa := sa) (names := ["java/lang/RuntimeException", "java/lang/Exception"]) (A := A) hown (by decide +kernel) (by decide +kernel) (hts (.classLink RX11 477 "java/lang/IllegalStateException") (by decide +kernel)) (hts (.initialized "java/lang/IllegalStateException") (by decide +kernel)) hsa hat (by decide +kernel) (hE.zq1 hAb) (hE.zq2 hAb) hS (by rw [hml]; exact hl.1) dX11_demandRoom_4 dX11_demandRoom_7 dX11_demandRoom_8 dX11_demandRoom_11 dX11_demandRoom_14 (fun x hx => (hext x hx).elim) (Nat.le_of_ble_eq_true rfl) (Nat.le_of_ble_eq_true rfl) (Nat.le_of_ble_eq_true rfl) (Nat.le_of_ble_eq_true rfl) hlocks (fun t hv hz hq => ⟨(), trivial, ⟨rfl, c_1⟩, ⟨Nat.le_trans hS.1 hz, fun q h1 h2 => (hq q (Nat.lt_of_lt_of_le h1 hS.1)).trans (hS.2.1 q h1 h2)⟩⟩) hS.2.2 (Nat.le_of_ble_eq_true rfl) (Nat.le_of_ble_eq_true rfl)
set_option maxHeartbeats 4000000 in
set_option maxRecDepth 100000 in
/-- throws java/lang/ArithmeticException if v = 0 -/
theorem c_X11_demandCovered (l : Launch) (hst : l.stackTraces = false) (dC : Nat → ClassId) (dI : Nat → Nat → Nat) (b0 : Nat) (en : EnT) (sz : Nat) (v : Int32) : vx_Met l yX11_demandCovered wsX11_demandCovered ({ frames := 6, cells := 1, slots := 6, locals := 90 } : Room) (cP b0 en (dC, dI) [] [] [] sz (fun _ => True) [.int v]) (va_Qv (fun _ : Unit => ¬ v = 0) (fun _ _ => True) (va_A [] sz)) (vx_X (fun _ : Unit => True) (fun E _ _ => (E = "java/lang/ArithmeticException" ∧ v = 0)) (va_A [] sz)) 1 6 (va_A [] sz) := by
  refine vx_ofW (cc := cX11_demandCovered) (maxL := 1) (ret := none) (by decide) rfl ?_
  intro p e s m args below meth c s₁ B hml hext hv
  obtain ⟨rfl, hsz, hb0, hE, hPP, hK, hDD, hF0⟩ := hv
  have hx := B.exec
  have hb := B.bytes
  have hr := B.returns
  have hts := atoms_spec (ws := wsX11_demandCovered) B.pre
  have hown : s.vm.findClass RX11 = some m.cls := findClass_of_methodNamed B.named
  have hlocks := B.notSynchronized
  subst hsz
  have hN0 := en_N hPP hDD rfl
  have hP : va_P (dC, dI) vwCl [] s.heap := hPP.sub [] rfl
  have hR0 : va_P (dC, dI) vwCl [] s.heap := hPP.sub [] rfl
  have hD0 : va_D (fun q => b0 ≤ q) [] := hDD.sub [] (by decide) rfl
  have hDr : va_D (fun q => b0 ≤ q) [] := hDD.sub [] (by decide) rfl
  have hAb := en_A (sz := s.heap.size) hD0 hb0
  have hD := hD0.self (sz := s.heap.size)
  generalize hAe : va_A [] s.heap.size = A at hD hAb hN0 ⊢
  have hA : ∀ q : Nat, s.heap.size ≤ q → A q := fun q h => by rw [← hAe]; exact Or.inr h
  have hS : va_S A s.heap s.heap [] := va_S.rf
  have hR := hR0
  have hl := lv_entry [.int v] (n := 1) (Nat.le_of_ble_eq_true rfl)
  rw [lg_entry_eq]
  generalize (lg_sl [.int v] ++ List.replicate (1 - (lg_sl [.int v]).length) Slot.unset).toArray = ls at hl ⊢
  have hl : lv_has ls 1 [(0, .int v)] := hl
  refine lv_iload_n hx hb dX11_demandCovered_0 rfl (lv_at hl 0 rfl) ?_
  refine lv_if_ne (tgt := 15) hx hb dX11_demandCovered_1 (by decide) (fun c_1 => ?_) (fun c_1 => ?_)
  · skip
    refine W.widen (k := 1) (n := 6) (Nat.le_of_ble_eq_true rfl) (Nat.le_of_ble_eq_true rfl) ?_
    refine vx_ret ?_
    exact W.vret hx hb hr (fun t ht hW => ⟨⟨(), rfl, c_1, trivial⟩, hS.F ht⟩) hS.2.2 dX11_demandCovered_15
  · skip
    obtain ⟨sa, hsa⟩ := hE.text (484, "no place has a layer") (by decide +kernel)
    have hat := vx_hat (L := vx_atS RX11 486 "java/lang/ArithmeticException" ["java/lang/RuntimeException", "java/lang/Exception"]) (s := s) (fun w hw => hts w (List.mem_cons_of_mem _ (List.mem_append_right _ hw))) (B := [.castable "java/lang/ArithmeticException" "java/lang/ArithmeticException", .declares (Bundle.initS "java/lang/RuntimeException"), .declares (Bundle.initS "java/lang/Exception"), .declares (Bundle.initS "java/lang/Throwable")]) (by decide +kernel) (vx_c (va_Nw.use rfl (hE.cast (E := "java/lang/ArithmeticException") (by decide +kernel))) (vx_c (va_Nw.use rfl (hE.dec (by decide +kernel))) (vx_c (va_Nw.use rfl (hE.dec (by decide +kernel))) (vx_c (va_Nw.use rfl (hE.dec (by decide +kernel))) vx_n))))
    exact vx_throwSW hx hb hst (sa := sa) (names := ["java/lang/RuntimeException", "java/lang/Exception"]) (A := A) hown (by decide +kernel) (by decide +kernel) (hts (.classLink RX11 482 "java/lang/ArithmeticException") (by decide +kernel)) (hts (.initialized "java/lang/ArithmeticException") (by decide +kernel)) hsa hat (by decide +kernel) (hE.zq1 hAb) (hE.zq2 hAb) hS (by rw [hml]; exact hl.1) dX11_demandCovered_4 dX11_demandCovered_7 dX11_demandCovered_8 dX11_demandCovered_11 dX11_demandCovered_14 (fun x hx => (hext x hx).elim) (Nat.le_of_ble_eq_true rfl) (Nat.le_of_ble_eq_true rfl) (Nat.le_of_ble_eq_true rfl) (Nat.le_of_ble_eq_true rfl) hlocks (fun t hv hz hq => ⟨(), trivial, ⟨rfl, c_1⟩, ⟨Nat.le_trans hS.1 hz, fun q h1 h2 => (hq q (Nat.lt_of_lt_of_le h1 hS.1)).trans (hS.2.1 q h1 h2)⟩⟩) hS.2.2 (Nat.le_of_ble_eq_true rfl) (Nat.le_of_ble_eq_true rfl)
set_option maxHeartbeats 4000000 in
set_option maxRecDepth 100000 in
/-- throws java/lang/IndexOutOfBoundsException if (i < 0 ∨ n ≤ i) -/
theorem c_X11_demandIndex (l : Launch) (hst : l.stackTraces = false) (dC : Nat → ClassId) (dI : Nat → Nat → Nat) (b0 : Nat) (en : EnT) (sz : Nat) (i n : Int32) : vx_Met l yX11_demandIndex wsX11_demandIndex ({ frames := 6, cells := 1, slots := 6, locals := 90 } : Room) (cP b0 en (dC, dI) [] [] [] sz (fun _ => True) [.int i, .int n]) (va_Qv (fun _ : Unit => ¬ (i < 0 ∨ n ≤ i)) (fun _ _ => True) (va_A [] sz)) (vx_X (fun _ : Unit => True) (fun E _ _ => (E = "java/lang/IndexOutOfBoundsException" ∧ (i < 0 ∨ n ≤ i))) (va_A [] sz)) 1 6 (va_A [] sz) := by
  refine vx_ofW (cc := cX11_demandIndex) (maxL := 2) (ret := none) (by decide) rfl ?_
  intro p e s m args below meth c s₁ B hml hext hv
  obtain ⟨rfl, hsz, hb0, hE, hPP, hK, hDD, hF0⟩ := hv
  have hx := B.exec
  have hb := B.bytes
  have hr := B.returns
  have hts := atoms_spec (ws := wsX11_demandIndex) B.pre
  have hown : s.vm.findClass RX11 = some m.cls := findClass_of_methodNamed B.named
  have hlocks := B.notSynchronized
  subst hsz
  have hN0 := en_N hPP hDD rfl
  have hP : va_P (dC, dI) vwCl [] s.heap := hPP.sub [] rfl
  have hR0 : va_P (dC, dI) vwCl [] s.heap := hPP.sub [] rfl
  have hD0 : va_D (fun q => b0 ≤ q) [] := hDD.sub [] (by decide) rfl
  have hDr : va_D (fun q => b0 ≤ q) [] := hDD.sub [] (by decide) rfl
  have hAb := en_A (sz := s.heap.size) hD0 hb0
  have hD := hD0.self (sz := s.heap.size)
  generalize hAe : va_A [] s.heap.size = A at hD hAb hN0 ⊢
  have hA : ∀ q : Nat, s.heap.size ≤ q → A q := fun q h => by rw [← hAe]; exact Or.inr h
  have hS : va_S A s.heap s.heap [] := va_S.rf
  have hR := hR0
  have hl := lv_entry [.int i, .int n] (n := 2) (Nat.le_of_ble_eq_true rfl)
  rw [lg_entry_eq]
  generalize (lg_sl [.int i, .int n] ++ List.replicate (2 - (lg_sl [.int i, .int n]).length) Slot.unset).toArray = ls at hl ⊢
  have hl : lv_has ls 2 [(0, .int i), (1, .int n)] := hl
  refine lv_iload_n hx hb dX11_demandIndex_0 rfl (lv_at hl 0 rfl) ?_
  refine lv_if_lt (tgt := 9) hx hb dX11_demandIndex_1 (by decide) (fun c_1 => ?_) (fun c_1 => ?_)
  · skip
    obtain ⟨sa, hsa⟩ := hE.text (464, "no such number") (by decide +kernel)
    have hat := vx_hat (L := vx_atS RX11 466 "java/lang/IndexOutOfBoundsException" ["java/lang/RuntimeException", "java/lang/Exception"]) (s := s) (fun w hw => hts w (List.mem_cons_of_mem _ (List.mem_append_right _ hw))) (B := [.castable "java/lang/IndexOutOfBoundsException" "java/lang/IndexOutOfBoundsException", .declares (Bundle.initS "java/lang/RuntimeException"), .declares (Bundle.initS "java/lang/Exception"), .declares (Bundle.initS "java/lang/Throwable")]) (by decide +kernel) (vx_c (va_Nw.use rfl (hE.cast (E := "java/lang/IndexOutOfBoundsException") (by decide +kernel))) (vx_c (va_Nw.use rfl (hE.dec (by decide +kernel))) (vx_c (va_Nw.use rfl (hE.dec (by decide +kernel))) (vx_c (va_Nw.use rfl (hE.dec (by decide +kernel))) vx_n))))
    exact vx_throwSW hx hb hst (sa := sa) (names := ["java/lang/RuntimeException", "java/lang/Exception"]) (A := A) hown (by decide +kernel) (by decide +kernel) (hts (.classLink RX11 462 "java/lang/IndexOutOfBoundsException") (by decide +kernel)) (hts (.initialized "java/lang/IndexOutOfBoundsException") (by decide +kernel)) hsa hat (by decide +kernel) (hE.zq1 hAb) (hE.zq2 hAb) hS (by rw [hml]; exact hl.1) dX11_demandIndex_9 dX11_demandIndex_12 dX11_demandIndex_13 dX11_demandIndex_16 dX11_demandIndex_19 (fun x hx => (hext x hx).elim) (Nat.le_of_ble_eq_true rfl) (Nat.le_of_ble_eq_true rfl) (Nat.le_of_ble_eq_true rfl) (Nat.le_of_ble_eq_true rfl) hlocks (fun t hv hz hq => ⟨(), trivial, ⟨rfl, Or.inl c_1⟩, ⟨Nat.le_trans hS.1 hz, fun q h1 h2 => (hq q (Nat.lt_of_lt_of_le h1 hS.1)).trans (hS.2.1 q h1 h2)⟩⟩) hS.2.2 (Nat.le_of_ble_eq_true rfl) (Nat.le_of_ble_eq_true rfl)
  · skip
    refine lv_iload_n hx hb dX11_demandIndex_4 rfl (lv_at hl 0 rfl) ?_
    refine lv_iload_n hx hb dX11_demandIndex_5 rfl (lv_at hl 1 rfl) ?_
    refine lv_icmp_lt (tgt := 20) hx hb dX11_demandIndex_6 (by decide) (fun c_2 => ?_) (fun c_2 => ?_)
    · skip
      refine W.widen (k := 1) (n := 6) (Nat.le_of_ble_eq_true rfl) (Nat.le_of_ble_eq_true rfl) ?_
      refine vx_ret ?_
      exact W.vret hx hb hr (fun t ht hW => ⟨⟨(), rfl, fun z => z.elim c_1 (fun z => absurd z (Int32.not_le.mpr c_2)), trivial⟩, hS.F ht⟩) hS.2.2 dX11_demandIndex_20
    · skip
      obtain ⟨sa, hsa⟩ := hE.text (464, "no such number") (by decide +kernel)
      have hat := vx_hat (L := vx_atS RX11 466 "java/lang/IndexOutOfBoundsException" ["java/lang/RuntimeException", "java/lang/Exception"]) (s := s) (fun w hw => hts w (List.mem_cons_of_mem _ (List.mem_append_right _ hw))) (B := [.castable "java/lang/IndexOutOfBoundsException" "java/lang/IndexOutOfBoundsException", .declares (Bundle.initS "java/lang/RuntimeException"), .declares (Bundle.initS "java/lang/Exception"), .declares (Bundle.initS "java/lang/Throwable")]) (by decide +kernel) (vx_c (va_Nw.use rfl (hE.cast (E := "java/lang/IndexOutOfBoundsException") (by decide +kernel))) (vx_c (va_Nw.use rfl (hE.dec (by decide +kernel))) (vx_c (va_Nw.use rfl (hE.dec (by decide +kernel))) (vx_c (va_Nw.use rfl (hE.dec (by decide +kernel))) vx_n))))
      exact vx_throwSW hx hb hst (sa := sa) (names := ["java/lang/RuntimeException", "java/lang/Exception"]) (A := A) hown (by decide +kernel) (by decide +kernel) (hts (.classLink RX11 462 "java/lang/IndexOutOfBoundsException") (by decide +kernel)) (hts (.initialized "java/lang/IndexOutOfBoundsException") (by decide +kernel)) hsa hat (by decide +kernel) (hE.zq1 hAb) (hE.zq2 hAb) hS (by rw [hml]; exact hl.1) dX11_demandIndex_9 dX11_demandIndex_12 dX11_demandIndex_13 dX11_demandIndex_16 dX11_demandIndex_19 (fun x hx => (hext x hx).elim) (Nat.le_of_ble_eq_true rfl) (Nat.le_of_ble_eq_true rfl) (Nat.le_of_ble_eq_true rfl) (Nat.le_of_ble_eq_true rfl) hlocks (fun t hv hz hq => ⟨(), trivial, ⟨rfl, Or.inr (Int32.not_lt.mp c_2)⟩, ⟨Nat.le_trans hS.1 hz, fun q h1 h2 => (hq q (Nat.lt_of_lt_of_le h1 hS.1)).trans (hS.2.1 q h1 h2)⟩⟩) hS.2.2 (Nat.le_of_ble_eq_true rfl) (Nat.le_of_ble_eq_true rfl)
set_option maxHeartbeats 4000000 in
set_option maxRecDepth 100000 in
/-- throws java/lang/IllegalArgumentException if ¬ ((0 ≤ x ∧ x < 8) ∧ (0 ≤ y ∧ y < 6)) -/
theorem c_X11_demandPlace (l : Launch) (hst : l.stackTraces = false) (dC : Nat → ClassId) (dI : Nat → Nat → Nat) (b0 : Nat) (en : EnT) (sz : Nat) (x y : Int32) : vx_Met l yX11_demandPlace wsX11_demandPlace ({ frames := 6, cells := 1, slots := 6, locals := 90 } : Room) (cP b0 en (dC, dI) [] [] [] sz (fun _ => True) [.int x, .int y]) (va_Qv (fun _ : Unit => (0 ≤ x ∧ x < 8) ∧ (0 ≤ y ∧ y < 6)) (fun _ _ => True) (va_A [] sz)) (vx_X (fun _ : Unit => True) (fun E _ _ => (E = "java/lang/IllegalArgumentException" ∧ ¬ ((0 ≤ x ∧ x < 8) ∧ (0 ≤ y ∧ y < 6)))) (va_A [] sz)) 1 6 (va_A [] sz) := by
  refine vx_ofW (cc := cX11_demandPlace) (maxL := 2) (ret := none) (by decide) rfl ?_
  intro p e s m args below meth c s₁ B hml hext hv
  obtain ⟨rfl, hsz, hb0, hE, hPP, hK, hDD, hF0⟩ := hv
  have hx := B.exec
  have hb := B.bytes
  have hr := B.returns
  have hts := atoms_spec (ws := wsX11_demandPlace) B.pre
  have hown : s.vm.findClass RX11 = some m.cls := findClass_of_methodNamed B.named
  have hlocks := B.notSynchronized
  subst hsz
  have hN0 := en_N hPP hDD rfl
  have hP : va_P (dC, dI) vwCl [] s.heap := hPP.sub [] rfl
  have hR0 : va_P (dC, dI) vwCl [] s.heap := hPP.sub [] rfl
  have hD0 : va_D (fun q => b0 ≤ q) [] := hDD.sub [] (by decide) rfl
  have hDr : va_D (fun q => b0 ≤ q) [] := hDD.sub [] (by decide) rfl
  have hAb := en_A (sz := s.heap.size) hD0 hb0
  have hD := hD0.self (sz := s.heap.size)
  generalize hAe : va_A [] s.heap.size = A at hD hAb hN0 ⊢
  have hA : ∀ q : Nat, s.heap.size ≤ q → A q := fun q h => by rw [← hAe]; exact Or.inr h
  have hS : va_S A s.heap s.heap [] := va_S.rf
  have hR := hR0
  have hl := lv_entry [.int x, .int y] (n := 2) (Nat.le_of_ble_eq_true rfl)
  rw [lg_entry_eq]
  generalize (lg_sl [.int x, .int y] ++ List.replicate (2 - (lg_sl [.int x, .int y]).length) Slot.unset).toArray = ls at hl ⊢
  have hl : lv_has ls 2 [(0, .int x), (1, .int y)] := hl
  refine lv_iload_n hx hb dX11_demandPlace_0 rfl (lv_at hl 0 rfl) ?_
  refine lv_iload_n hx hb dX11_demandPlace_1 rfl (lv_at hl 1 rfl) ?_
  have hPc := (hP.app hR).sub (ws' := [] ++ []) [] rfl
  have hDc := (en_DD hD hDr hN0 hAb).sub (ws' := [] ++ []) [] (by decide) rfl
  have hKc := hK.sub (tys' := []) [] rfl
  have hFc := va_free (wc := []) hD hS hA [] rfl
  refine va_calli (va_runS (As := [.int x, .int y]) (rest := []) ⟨hx, hb, hml, hown, hts⟩ (c_X11_isPlace l dC dI b0 en s.heap.size x y) (va_cwS 2 hts gX11_demandPlace_X11_isPlace rfl rfl rfl (by decide +kernel) ⟨Nat.le_of_ble_eq_true rfl, Nat.le_of_ble_eq_true rfl⟩) ⟨cP.blind, cP.use (en_z hb0 hS) (hE.on hAb hS) hPc hKc hDc trivial⟩ rfl rfl hl.1 rfl (lv_room (Nat.le_of_ble_eq_true rfl)) dX11_demandPlace_2 ⟨Nat.le_of_ble_eq_true rfl, Nat.le_of_ble_eq_true rfl⟩) hS (fun q _ h => hFc q h) hFc (fun r_1 u t H1 locs ht hvm hw hB hz1 hk1 hS => ?_)
  have hP1 : va_P (dC, dI) vwCl [] H1 := fun k q h => by simp at h
  have hD1 : va_D (va_A [] s.heap.size) [] := ⟨fun i j p q h => by simp at h, fun k q h => by simp at h⟩
  try dsimp only at hw
  obtain ⟨hP, hD⟩ := va_join (wr := []) (w1 := []) hP hD [] [] rfl rfl (by decide) (by decide) hk1 hFc hP1 hD1
  generalize H1 = H at hP hS ⊢
  have hP : va_P (dC, dI) vwCl [] H := hP
  have hD : va_D A [] := hD
  have hR : va_P (dC, dI) vwCl [] H := fun k q h => by simp at h
  refine W.widen (k := 0) (n := 0) (Nat.le_of_ble_eq_true rfl) (Nat.le_of_ble_eq_true rfl) ?_
  refine lv_if_ne (tgt := 19) hx hb dX11_demandPlace_5 (by decide) (fun c_2 => ?_) (fun c_2 => ?_)
  · skip
    refine W.widen (k := 1) (n := 6) (Nat.le_of_ble_eq_true rfl) (Nat.le_of_ble_eq_true rfl) ?_
    refine vx_ret ?_
    exact W.vret hx hb hr (fun t ht hW => ⟨⟨(), rfl, by rw [hw] at c_2; exact Decidable.by_contra (fun z => c_2 (if_neg z)), trivial⟩, hS.F ht⟩) hS.2.2 dX11_demandPlace_19
  · skip
    obtain ⟨sa, hsa⟩ := hE.text (458, "no such place") (by decide +kernel)
    have hat := vx_hat (L := vx_atS RX11 455 "java/lang/IllegalArgumentException" ["java/lang/RuntimeException", "java/lang/Exception"]) (s := s) (fun w hw => hts w (List.mem_cons_of_mem _ (List.mem_append_right _ hw))) (B := [.castable "java/lang/IllegalArgumentException" "java/lang/IllegalArgumentException", .declares (Bundle.initS "java/lang/RuntimeException"), .declares (Bundle.initS "java/lang/Exception"), .declares (Bundle.initS "java/lang/Throwable")]) (by decide +kernel) (vx_c (va_Nw.use rfl (hE.cast (E := "java/lang/IllegalArgumentException") (by decide +kernel))) (vx_c (va_Nw.use rfl (hE.dec (by decide +kernel))) (vx_c (va_Nw.use rfl (hE.dec (by decide +kernel))) (vx_c (va_Nw.use rfl (hE.dec (by decide +kernel))) vx_n))))
    exact vx_throwSW hx hb hst (sa := sa) (names := ["java/lang/RuntimeException", "java/lang/Exception"]) (A := A) hown (by decide +kernel) (by decide +kernel) (hts (.classLink RX11 451 "java/lang/IllegalArgumentException") (by decide +kernel)) (hts (.initialized "java/lang/IllegalArgumentException") (by decide +kernel)) hsa hat (by decide +kernel) (hE.zq1 hAb) (hE.zq2 hAb) hS (by rw [hml]; exact hl.1) dX11_demandPlace_8 dX11_demandPlace_11 dX11_demandPlace_12 dX11_demandPlace_15 dX11_demandPlace_18 (fun x hx => (hext x hx).elim) (Nat.le_of_ble_eq_true rfl) (Nat.le_of_ble_eq_true rfl) (Nat.le_of_ble_eq_true rfl) (Nat.le_of_ble_eq_true rfl) hlocks (fun t hv hz hq => ⟨(), trivial, ⟨rfl, fun z => by rw [hw, if_pos z] at c_2; exact absurd c_2 (by decide)⟩, ⟨Nat.le_trans hS.1 hz, fun q h1 h2 => (hq q (Nat.lt_of_lt_of_le h1 hS.1)).trans (hS.2.1 q h1 h2)⟩⟩) hS.2.2 (Nat.le_of_ble_eq_true rfl) (Nat.le_of_ble_eq_true rfl)
