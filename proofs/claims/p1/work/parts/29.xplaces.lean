theorem dX8_hasOriginal_0 : decode cX8_hasOriginal 0 = .ok (.iconst 0, 1) := by decide +kernel
theorem dX8_hasOriginal_1 : decode cX8_hasOriginal 1 = .ok (.istore_n 3, 1) := by decide +kernel
theorem dX8_hasOriginal_2 : decode cX8_hasOriginal 2 = .ok (.iload_n 3, 1) := by decide +kernel
theorem dX8_hasOriginal_3 : decode cX8_hasOriginal 3 = .ok (.aload_n 0, 1) := by decide +kernel
theorem dX8_hasOriginal_4 : decode cX8_hasOriginal 4 = .ok (.getfield 20, 3) := by decide +kernel
theorem dX8_hasOriginal_7 : decode cX8_hasOriginal 7 = .ok (.if_icmp .ge 43, 3) := by decide +kernel
theorem dX8_hasOriginal_50 : decode cX8_hasOriginal 50 = .ok (.iconst 0, 1) := by decide +kernel
theorem dX8_hasOriginal_51 : decode cX8_hasOriginal 51 = .ok (.ireturn, 1) := by decide +kernel
theorem dX11_isTold_0 : decode cX11_isTold 0 = .ok (.iload_n 1, 1) := by decide +kernel
theorem dX11_isTold_1 : decode cX11_isTold 1 = .ok (.iload_n 2, 1) := by decide +kernel
theorem dX11_isTold_2 : decode cX11_isTold 2 = .ok (.invokestatic 176, 3) := by decide +kernel
theorem dX11_isTold_5 : decode cX11_isTold 5 = .ok (.aload_n 0, 1) := by decide +kernel
theorem dX11_isTold_6 : decode cX11_isTold 6 = .ok (.getfield 62, 3) := by decide +kernel
theorem dX11_isTold_9 : decode cX11_isTold 9 = .ok (.iload_n 1, 1) := by decide +kernel
theorem dX11_isTold_10 : decode cX11_isTold 10 = .ok (.iload_n 2, 1) := by decide +kernel
theorem dX11_isTold_11 : decode cX11_isTold 11 = .ok (.invokevirtual 179, 3) := by decide +kernel
theorem dX11_isTold_14 : decode cX11_isTold 14 = .ok (.astore_n 3, 1) := by decide +kernel
theorem dX11_isTold_15 : decode cX11_isTold 15 = .ok (.aload_n 3, 1) := by decide +kernel
theorem dX11_isTold_16 : decode cX11_isTold 16 = .ok (.bipush 114, 2) := by decide +kernel
theorem dX11_isTold_18 : decode cX11_isTold 18 = .ok (.invokevirtual 345, 3) := by decide +kernel
theorem dX11_isTold_21 : decode cX11_isTold 21 = .ok (.invokestatic 187, 3) := by decide +kernel
theorem dX11_comesOff_0 : decode cX11_comesOff 0 = .ok (.iload_n 1, 1) := by decide +kernel
theorem dX11_comesOff_1 : decode cX11_comesOff 1 = .ok (.iload_n 2, 1) := by decide +kernel
theorem dX11_comesOff_2 : decode cX11_comesOff 2 = .ok (.invokestatic 176, 3) := by decide +kernel
theorem dX11_comesOff_5 : decode cX11_comesOff 5 = .ok (.aload_n 0, 1) := by decide +kernel
theorem dX11_comesOff_6 : decode cX11_comesOff 6 = .ok (.getfield 62, 3) := by decide +kernel
theorem dX11_comesOff_9 : decode cX11_comesOff 9 = .ok (.iload_n 1, 1) := by decide +kernel
theorem dX11_comesOff_10 : decode cX11_comesOff 10 = .ok (.iload_n 2, 1) := by decide +kernel
theorem dX11_comesOff_11 : decode cX11_comesOff 11 = .ok (.invokevirtual 179, 3) := by decide +kernel
theorem dX11_comesOff_14 : decode cX11_comesOff 14 = .ok (.astore_n 3, 1) := by decide +kernel
theorem dX11_comesOff_15 : decode cX11_comesOff 15 = .ok (.aload_n 3, 1) := by decide +kernel
theorem dX11_comesOff_16 : decode cX11_comesOff 16 = .ok (.bipush 114, 2) := by decide +kernel
theorem dX11_comesOff_18 : decode cX11_comesOff 18 = .ok (.invokevirtual 345, 3) := by decide +kernel
theorem dX11_comesOff_21 : decode cX11_comesOff 21 = .ok (.invokestatic 187, 3) := by decide +kernel
theorem dX5_covered_0 : decode cX5_covered 0 = .ok (.iconst 0, 1) := by decide +kernel
theorem dX5_covered_1 : decode cX5_covered 1 = .ok (.istore_n 1, 1) := by decide +kernel
theorem dX5_covered_2 : decode cX5_covered 2 = .ok (.iconst 0, 1) := by decide +kernel
theorem dX5_covered_3 : decode cX5_covered 3 = .ok (.istore_n 2, 1) := by decide +kernel
theorem dX5_covered_4 : decode cX5_covered 4 = .ok (.iload_n 2, 1) := by decide +kernel
theorem dX5_covered_5 : decode cX5_covered 5 = .ok (.bipush 48, 2) := by decide +kernel
theorem dX5_covered_7 : decode cX5_covered 7 = .ok (.if_icmp .ge 24, 3) := by decide +kernel
theorem dX5_covered_31 : decode cX5_covered 31 = .ok (.iload_n 1, 1) := by decide +kernel
theorem dX5_covered_32 : decode cX5_covered 32 = .ok (.ireturn, 1) := by decide +kernel
theorem dX5_covered_10 : decode cX5_covered 10 = .ok (.aload_n 0, 1) := by decide +kernel
theorem dX5_covered_11 : decode cX5_covered 11 = .ok (.getfield 11, 3) := by decide +kernel
theorem dX5_covered_14 : decode cX5_covered 14 = .ok (.iload_n 2, 1) := by decide +kernel
theorem dX5_covered_15 : decode cX5_covered 15 = .ok (.aaload, 1) := by decide +kernel
theorem dX5_covered_16 : decode cX5_covered 16 = .ok (.getfield 91, 3) := by decide +kernel
theorem dX5_covered_19 : decode cX5_covered 19 = .ok (.ifCond .le 6, 3) := by decide +kernel
theorem dX5_covered_25 : decode cX5_covered 25 = .ok (.iinc 2 1, 3) := by decide +kernel
theorem dX5_covered_28 : decode cX5_covered 28 = .ok (.goto (-24), 3) := by decide +kernel
theorem dX11_coveredShare_0 : decode cX11_coveredShare 0 = .ok (.aload_n 0, 1) := by decide +kernel
theorem dX11_coveredShare_1 : decode cX11_coveredShare 1 = .ok (.getfield 62, 3) := by decide +kernel
theorem dX11_coveredShare_4 : decode cX11_coveredShare 4 = .ok (.invokevirtual 410, 3) := by decide +kernel
theorem dX11_coveredShare_7 : decode cX11_coveredShare 7 = .ok (.i2f, 1) := by decide +kernel
theorem dX11_coveredShare_8 : decode cX11_coveredShare 8 = .ok (.ldc_w 413, 3) := by decide +kernel
theorem dX11_coveredShare_11 : decode cX11_coveredShare 11 = .ok (.fdiv, 1) := by decide +kernel
theorem dX11_coveredShare_12 : decode cX11_coveredShare 12 = .ok (.freturn, 1) := by decide +kernel
theorem dX11_meanTone_0 : decode cX11_meanTone 0 = .ok (.aload_n 0, 1) := by decide +kernel
theorem dX11_meanTone_1 : decode cX11_meanTone 1 = .ok (.getfield 62, 3) := by decide +kernel
theorem dX11_meanTone_4 : decode cX11_meanTone 4 = .ok (.invokevirtual 410, 3) := by decide +kernel
theorem dX11_meanTone_7 : decode cX11_meanTone 7 = .ok (.istore_n 1, 1) := by decide +kernel
theorem dX11_meanTone_8 : decode cX11_meanTone 8 = .ok (.iload_n 1, 1) := by decide +kernel
theorem dX11_meanTone_9 : decode cX11_meanTone 9 = .ok (.ifCond .le 7, 3) := by decide +kernel
theorem dX11_meanTone_16 : decode cX11_meanTone 16 = .ok (.iconst 0, 1) := by decide +kernel
theorem dX11_meanTone_17 : decode cX11_meanTone 17 = .ok (.invokestatic 414, 3) := by decide +kernel

def wo_c_X8_hasOriginal_w : List Cond := [Cond.fieldLink RX8 20 "Underpaint$Stack" "size" "I"]
def wo_c_X8_hasOriginal : List Cond := .code yX8_hasOriginal cX8_hasOriginal 4 (some .boolean) :: (wo_c_X8_hasOriginal_w ++ (u_ws RX8 TX8 3 ++ List.nil))
theorem gw_wo_c_X8_hasOriginal : wo_c_X8_hasOriginal.all goodWord = true := gw_c (by decide +kernel) (gw_a (by decide +kernel) (gw_a (by decide +kernel) rfl))
set_option maxHeartbeats 4000000 in
set_option maxRecDepth 100000 in
/-- Stack.hasOriginal without layers -/
theorem c_X8_hasOriginal (l : Launch) (dC : Nat → ClassId) (dI : Nat → Nat → Nat) (b0 : Nat) (en : EnT) (sz : Nat) (a rw sf : Nat) (n : Int32) : Met l yX8_hasOriginal wo_c_X8_hasOriginal ({ frames := 0, cells := 0, slots := 0, locals := 0 } : Room) (cP b0 en (dC, dI) [] [] [(a, .inr (14, [.ref rw, .int 0, .int 0]))] sz (fun _ => True) [.ref a, .ref sf, .int n]) (va_Qi (fun (r : Int32) (_ : Unit) => r = 0) (fun _ _ => True) (va_A [] sz)) 0 0 (va_A [] sz) := by
  refine Met.ofW (cc := cX8_hasOriginal) (maxL := 4) (ret := (some .boolean)) (by decide) rfl ?_
  intro p e s m args below meth c s₁ B hml hv
  obtain ⟨rfl, hsz, hb0, hE, hPP, hK, hDD, hF0⟩ := hv
  have hx := B.exec
  have hb := B.bytes
  have hr := B.returns
  have hts := atoms_spec (ws := wo_c_X8_hasOriginal) B.pre
  have hown : s.vm.findClass RX8 = some m.cls := findClass_of_methodNamed B.named
  have hlocks := B.notSynchronized
  subst hsz
  have hN0 := en_N hPP hDD rfl
  have hP : va_P (dC, dI) vwCl [] s.heap := hPP.sub [] rfl
  have hR0 : va_P (dC, dI) vwCl [(a, .inr (14, [.ref rw, .int 0, .int 0]))] s.heap := hPP.sub [0] rfl
  have hD0 : va_D (fun q => b0 ≤ q) [] := hDD.sub [] (by decide) rfl
  have hDr : va_D (fun q => b0 ≤ q) [(a, .inr (14, [.ref rw, .int 0, .int 0]))] := hDD.sub [0] (by decide) rfl
  have hAb := en_A (sz := s.heap.size) hD0 hb0
  have hD := hD0.self (sz := s.heap.size)
  generalize hAe : va_A [] s.heap.size = A at hD hAb hN0 ⊢
  have hA : ∀ q : Nat, s.heap.size ≤ q → A q := fun q h => by rw [← hAe]; exact Or.inr h
  have hS : va_S A s.heap s.heap [] := va_S.rf
  have hR := hR0
  have hl := lv_entry [.ref a, .ref sf, .int n] (n := 4) (Nat.le_of_ble_eq_true rfl)
  rw [lg_entry_eq]
  generalize (lg_sl [.ref a, .ref sf, .int n] ++ List.replicate (4 - (lg_sl [.ref a, .ref sf, .int n]).length) Slot.unset).toArray = ls at hl ⊢
  have hl : lv_has ls 4 [(0, .ref a), (1, .ref sf), (2, .int n)] := hl
  refine lv_iconst (v := 0) hx hb dX8_hasOriginal_0 (by decide) ?_
  refine lv_istore_n (lv' := [(3, .int 0), (0, .ref a), (1, .ref sf), (2, .int n)]) hx hb dX8_hasOriginal_1 rfl hl (by decide) rfl (fun ls hl => ?_)
  refine lv_iload_n hx hb dX8_hasOriginal_2 rfl (lv_at hl 0 rfl) ?_
  refine lv_aload_n hx hb dX8_hasOriginal_3 rfl (lv_at hl 1 rfl) ?_
  refine va_get (D := (dC, dI)) (ci := 14) (v := .int 0) (C := RX8) (T := TX8) (N := 3) hx hb hts (by decide +kernel) hown hK hR 0 rfl rfl 1 (by decide) (hts (.fieldLink RX8 20 "Underpaint$Stack" "size" "I") (by decide +kernel)) (fun _ h9 => h9) rfl dX8_hasOriginal_4 ?_
  refine lv_icmp_ge (tgt := 50) hx hb dX8_hasOriginal_7 (by decide) (fun c_1 => ?_) (fun c_1 => absurd c_1 (by decide))
  refine lv_iconst (v := 0) hx hb dX8_hasOriginal_50 (by decide) ?_
  refine W.widen (k := 0) (n := 0) (Nat.le_of_ble_eq_true rfl) (Nat.le_of_ble_eq_true rfl) ?_
  exact W.zret (v := 0) hx hb hr (by first | rfl | decide +kernel) (fun t ht hW => ⟨⟨0, (), rfl, (z_c_X14_lends_164), trivial⟩, hS.F ht⟩) hS.2.2 dX8_hasOriginal_51
theorem z_c_X11_isTold_366 (x : Int32) (y : Int32) (a_0 : (0 ≤ x ∧ x < 8) ∧ (0 ≤ y ∧ y < 6)) (a_1 : (0 : Int32) = 0) : (0 ≤ x ∧ x < 8) ∧ (0 ≤ y ∧ y < 6) := by grind
set_option maxRecDepth 100000 in
theorem gw_wsX8_isTopmost : wsX8_isTopmost.all goodWord = true := by decide +kernel
def wo_c_X11_isTold_w : List Cond := [Cond.fieldLink RX11 62 "Underpaint" "picture" "LUnderpaint$Picture;"]
def wo_c_X11_isTold : List Cond := .code yX11_isTold cX11_isTold 4 (some .boolean) :: (wo_c_X11_isTold_w ++ (u_ws RX11 TX11 14 ++ (va_wsS RX11 176 yX11_demandPlace wsX11_demandPlace ++ (wsV RX11 179 RX5 yX5_at wo_c_at ++ (wsV RX11 345 RX8 yX8_isTopmost wsX8_isTopmost ++ (va_wsS RX11 187 yX11_demandElement wsX11_demandElement ++ List.nil))))))
theorem gw_wo_c_X11_isTold : wo_c_X11_isTold.all goodWord = true := gw_c (by decide +kernel) (gw_a (by decide +kernel) (gw_a (by decide +kernel) (gw_a (gw_a (by decide +kernel) gw_wsX11_demandPlace) (gw_a (gw_a (by decide +kernel) gw_wo_c_at) (gw_a (gw_a (by decide +kernel) gw_wsX8_isTopmost) (gw_a (gw_a (by decide +kernel) gw_wsX11_demandElement) rfl))))))
theorem go_c_X11_isTold_0 : GoodIn wo_c_X11_isTold (va_wsS RX11 176 yX11_demandPlace wsX11_demandPlace) := goodIn_sub (fun _ h => List.mem_cons_of_mem _ (List.mem_append_right _ (List.mem_append_right _ (List.mem_append_left _ h)))) (gw_a (by decide +kernel) gw_wsX11_demandPlace)
theorem go_c_X11_isTold_1 : GoodIn wo_c_X11_isTold (wsV RX11 179 RX5 yX5_at wo_c_at) := goodIn_sub (fun _ h => List.mem_cons_of_mem _ (List.mem_append_right _ (List.mem_append_right _ (List.mem_append_right _ (List.mem_append_left _ h))))) (gw_a (by decide +kernel) gw_wo_c_at)
theorem go_c_X11_isTold_2 : GoodIn wo_c_X11_isTold (wsV RX11 345 RX8 yX8_isTopmost wsX8_isTopmost) := goodIn_sub (fun _ h => List.mem_cons_of_mem _ (List.mem_append_right _ (List.mem_append_right _ (List.mem_append_right _ (List.mem_append_right _ (List.mem_append_left _ h)))))) (gw_a (by decide +kernel) gw_wsX8_isTopmost)
theorem go_c_X11_isTold_3 : GoodIn wo_c_X11_isTold (va_wsS RX11 187 yX11_demandElement wsX11_demandElement) := goodIn_sub (fun _ h => List.mem_cons_of_mem _ (List.mem_append_right _ (List.mem_append_right _ (List.mem_append_right _ (List.mem_append_right _ (List.mem_append_right _ (List.mem_append_left _ h))))))) (gw_a (by decide +kernel) gw_wsX11_demandElement)
set_option maxHeartbeats 4000000 in
set_option maxRecDepth 100000 in
theorem c_X11_isTold (l : Launch) (hst : l.stackTraces = false) (dC : Nat → ClassId) (dI : Nat → Nat → Nat) (b0 : Nat) (en : EnT) (sz : Nat) (h pal she fil nte dat vot loa nos pic spa : Nat) (st sp ll : Nat) (g : Nat → Option Nat) (cS : ClassId) (N : Nat → Prop) (x y : Int32) (hNb : ∀ a, N a → b0 ≤ a ∧ a < sz) (hNw : ∀ a, N a → a ∉ List.map Prod.fst ([] : va_W)) (hNr : ∀ a, N a → a ∉ List.map Prod.fst ([(h, .inr (17, [.ref pal, .ref she, .ref fil, .ref nte, .ref dat, .ref vot, .ref loa, .ref nos, .ref pic, .ref spa, .int 5, .int 50, .int 1600, .int 0])), (pic, .inr (11, [.ref st, .ref sp, .ref ll, .int 0, .int 1600])), (st, .inl (cS, 48, .inr (.inr (.inr (.inr g)))))] : va_W)) : vx_Met l yX11_isTold wo_c_X11_isTold ({ frames := 7, cells := 2, slots := 12, locals := 111 } : Room) (cP b0 en (dC, dI) [(cS, .object "Underpaint$Stack")] [] [(h, .inr (17, [.ref pal, .ref she, .ref fil, .ref nte, .ref dat, .ref vot, .ref loa, .ref nos, .ref pic, .ref spa, .int 5, .int 50, .int 1600, .int 0])), (pic, .inr (11, [.ref st, .ref sp, .ref ll, .int 0, .int 1600])), (st, .inl (cS, 48, .inr (.inr (.inr (.inr g)))))] sz (FamS (dC, dI) N g) [.ref h, .int x, .int y]) (va_Qi (fun (r : Int32) (_ : Unit) => False) (fun _ _ => True) (va_A [] sz)) (vx_X (fun _ : Unit => True) (fun E _ _ => (E = "java/lang/IllegalArgumentException" ∧ ¬ ((0 ≤ x ∧ x < 8) ∧ (0 ≤ y ∧ y < 6))) ∨ (E = "java/util/NoSuchElementException" ∧ (0 ≤ x ∧ x < 8) ∧ (0 ≤ y ∧ y < 6))) (va_A [] sz)) 2 12 (va_A [] sz) := by
  refine vx_ofW (cc := cX11_isTold) (maxL := 4) (ret := (some .boolean)) (by decide) rfl ?_
  intro p e s m args below meth c s₁ B hml hext hv
  obtain ⟨rfl, hsz, hb0, hE, hPP, hK, hDD, hF0⟩ := hv
  have hx := B.exec
  have hb := B.bytes
  have hr := B.returns
  have hts := atoms_spec (ws := wo_c_X11_isTold) B.pre
  have hown : s.vm.findClass RX11 = some m.cls := findClass_of_methodNamed B.named
  have hlocks := B.notSynchronized
  subst hsz
  have hN0 := en_N hPP hDD rfl
  have hP : va_P (dC, dI) vwCl [] s.heap := hPP.sub [] rfl
  have hR0 : va_P (dC, dI) vwCl [(h, .inr (17, [.ref pal, .ref she, .ref fil, .ref nte, .ref dat, .ref vot, .ref loa, .ref nos, .ref pic, .ref spa, .int 5, .int 50, .int 1600, .int 0])), (pic, .inr (11, [.ref st, .ref sp, .ref ll, .int 0, .int 1600])), (st, .inl (cS, 48, .inr (.inr (.inr (.inr g)))))] s.heap := hPP.sub [0, 1, 2] rfl
  have hD0 : va_D (fun q => b0 ≤ q) [] := hDD.sub [] (by decide) rfl
  have hDr : va_D (fun q => b0 ≤ q) [(h, .inr (17, [.ref pal, .ref she, .ref fil, .ref nte, .ref dat, .ref vot, .ref loa, .ref nos, .ref pic, .ref spa, .int 5, .int 50, .int 1600, .int 0])), (pic, .inr (11, [.ref st, .ref sp, .ref ll, .int 0, .int 1600])), (st, .inl (cS, 48, .inr (.inr (.inr (.inr g)))))] := hDD.sub [0, 1, 2] (by decide) rfl
  have hAb := en_A (sz := s.heap.size) hD0 hb0
  have hD := hD0.self (sz := s.heap.size)
  generalize hAe : va_A [] s.heap.size = A at hD hAb hN0 ⊢
  have hA : ∀ q : Nat, s.heap.size ≤ q → A q := fun q h => by rw [← hAe]; exact Or.inr h
  have hS : va_S A s.heap s.heap [] := va_S.rf
  have hR := hR0
  have hl := lv_entry [.ref h, .int x, .int y] (n := 4) (Nat.le_of_ble_eq_true rfl)
  rw [lg_entry_eq]
  generalize (lg_sl [.ref h, .int x, .int y] ++ List.replicate (4 - (lg_sl [.ref h, .int x, .int y]).length) Slot.unset).toArray = ls at hl ⊢
  have hl : lv_has ls 4 [(0, .ref h), (1, .int x), (2, .int y)] := hl
  have hR0b := hR0
  have hDrb := hDr
  have hN0b := hN0
  refine lv_iload_n hx hb dX11_isTold_0 rfl (lv_at hl 1 rfl) ?_
  refine lv_iload_n hx hb dX11_isTold_1 rfl (lv_at hl 2 rfl) ?_
  have hPc := (hP.app hR).sub (ws' := [] ++ []) [] rfl
  have hDc := (en_DD hD hDr hN0 hAb).sub (ws' := [] ++ []) [] (by decide) rfl
  have hKc := hK.sub (tys' := []) [] rfl
  have hFc := va_free (wc := []) hD hS hA [] rfl
  refine vx_callv (vx_runS (As := [.int x, .int y]) (rest := []) ⟨hx, hb, hml, hown, hts⟩ (c_X11_demandPlace l hst dC dI b0 en s.heap.size x y) (va_cwS 2 hts go_c_X11_isTold_0 rfl rfl rfl (by decide +kernel) ⟨Nat.le_of_ble_eq_true rfl, Nat.le_of_ble_eq_true rfl⟩) ⟨cP.blind, cP.use (en_z hb0 hS) (hE.on hAb hS) hPc hKc hDc trivial⟩ rfl rfl hl.1 rfl (lv_room (Nat.le_of_ble_eq_true rfl)) dX11_isTold_2 ⟨Nat.le_of_ble_eq_true rfl, Nat.le_of_ble_eq_true rfl⟩) hS (fun q _ h => hFc q h) hFc (fun q _ h => hFc q h) (fun E ce q9 u t H1 locs ht hvm hpx hBX hz1 hk1 hS hce hcv hcl => ?_) (fun u t H1 locs ht hvm hw hB hz1 hk1 hS => ?_)
  · skip
    try dsimp only at hBX
    obtain ⟨rfl, hc⟩ := hBX
    refine vx_widen (k := 2) (n := 12) (Nat.le_of_ble_eq_true rfl) (Nat.le_of_ble_eq_true rfl) ?_
    exact vx_out (fun x hx => (hext x hx).elim) hlocks hce hcv hcl (fun t ht hW => ⟨(), trivial, Or.inl ⟨rfl, (z_c_X11_guesses_343 x y hc)⟩, hS.F ht⟩) hS.2.2 (Nat.le_refl _) (Nat.le_refl _)
  have hP1 : va_P (dC, dI) vwCl [] H1 := fun k q h => by simp at h
  have hD1 : va_D (va_A [] s.heap.size) [] := ⟨fun i j p q h => by simp at h, fun k q h => by simp at h⟩
  try dsimp only at hw
  obtain ⟨hP, hD⟩ := va_join (wr := []) (w1 := []) hP hD [] [] rfl rfl (by decide) (by decide) hk1 hFc hP1 hD1
  generalize H1 = H at hP hS ⊢
  have hP : va_P (dC, dI) vwCl [] H := hP
  have hD : va_D A [] := hD
  have hR := en_R hR0 hN0 hS
  refine W.widen (k := 1) (n := 6) (Nat.le_of_ble_eq_true rfl) (Nat.le_of_ble_eq_true rfl) ?_
  have h_2 := hw
  refine lv_aload_n hx hb dX11_isTold_5 rfl (lv_at hl 0 rfl) ?_
  refine va_get (D := (dC, dI)) (ci := 17) (v := .ref pic) (C := RX11) (T := TX11) (N := 14) hx hb hts (by decide +kernel) hown hK hR 0 rfl rfl 8 (by decide) (hts (.fieldLink RX11 62 "Underpaint" "picture" "LUnderpaint$Picture;") (by decide +kernel)) (fun _ h9 => h9) rfl dX11_isTold_6 ?_
  refine lv_iload_n hx hb dX11_isTold_9 rfl (lv_at hl 1 rfl) ?_
  refine lv_iload_n hx hb dX11_isTold_10 rfl (lv_at hl 2 rfl) ?_
  have hPc := (hP.app hR).sub (ws' := [] ++ [(pic, .inr (11, [.ref st, .ref sp, .ref ll, .int 0, .int 1600])), (st, .inl (cS, 48, .inr (.inr (.inr (.inr g)))))]) [1, 2] rfl
  have hDc := (en_DD hD hDr hN0 hAb).sub (ws' := [] ++ [(pic, .inr (11, [.ref st, .ref sp, .ref ll, .int 0, .int 1600])), (st, .inl (cS, 48, .inr (.inr (.inr (.inr g)))))]) [1, 2] (by decide) rfl
  have hKc := hK.sub (tys' := [(cS, .object "Underpaint$Stack")]) [0] rfl
  have hFc := va_free (wc := []) hD hS hA [] rfl
  refine va_callq (va_runV (As := [.int x, .int y]) (rest := []) ⟨hx, hb, hml, hown, hts⟩ (c_at l dC dI b0 en H.size pic st sp ll x y g cS (z_c_X5_raking_257 x y h_2)) (cwV 2 hts go_c_X11_isTold_1 rfl rfl rfl (by decide +kernel) ⟨Nat.le_of_ble_eq_true rfl, Nat.le_of_ble_eq_true rfl⟩) ⟨cP.blind, va_recv hK hR (ci := 11) (q0 := 1) rfl rfl, cP.use (en_z hb0 hS) (hE.on hAb hS) hPc hKc hDc trivial⟩ rfl rfl hl.1 rfl (lv_room (Nat.le_of_ble_eq_true rfl)) dX11_isTold_11 ⟨Nat.le_of_ble_eq_true rfl, Nat.le_of_ble_eq_true rfl⟩) hS (fun q _ h => hFc q h) hFc (fun r_3 u t H1 locs ht hvm hw hB hz1 hk1 hS => ?_)
  have hP1 : va_P (dC, dI) vwCl [] H1 := fun k q h => by simp at h
  have hD1 : va_D (va_A [] H.size) [] := ⟨fun i j p q h => by simp at h, fun k q h => by simp at h⟩
  try dsimp only at hw
  obtain ⟨hP, hD⟩ := va_join (wr := []) (w1 := []) hP hD [] [] rfl rfl (by decide) (by decide) hk1 hFc hP1 hD1
  generalize H1 = H at hP hS ⊢
  have hP : va_P (dC, dI) vwCl [] H := hP
  have hD : va_D A [] := hD
  have hR := en_R hR0 hN0 hS
  refine W.widen (k := 1) (n := 6) (Nat.le_of_ble_eq_true rfl) (Nat.le_of_ble_eq_true rfl) ?_
  subst r_3
  obtain ⟨ap_4, rp_4, hgp_4, hup_4, hnp_4⟩ := hF0 (pidx x y) (pidx_lt (z_c_X5_raking_258 x y h_2))
  refine lv_topv (w := .ref ap_4) (by rw [hgp_4]; rfl) ?_
  have hxp_4 : ¬ A ap_4 := by rw [← hAe]; exact vA0 hup_4.lt
  refine lv_astore_n (lv' := [(3, .ref ap_4), (0, .ref h), (1, .int x), (2, .int y)]) hx hb dX11_isTold_14 rfl hl (by decide) rfl (fun ls hl => ?_)
  refine lv_aload_n hx hb dX11_isTold_15 rfl (lv_at hl 0 rfl) ?_
  refine lv_bipush (v := 114) hx hb dX11_isTold_16 (by decide) ?_
  have hR0 : va_P (dC, dI) vwCl [(h, .inr (17, [.ref pal, .ref she, .ref fil, .ref nte, .ref dat, .ref vot, .ref loa, .ref nos, .ref pic, .ref spa, .int 5, .int 50, .int 1600, .int 0])), (pic, .inr (11, [.ref st, .ref sp, .ref ll, .int 0, .int 1600])), (st, .inl (cS, 48, .inr (.inr (.inr (.inr g))))), (ap_4, .inr (14, [.ref rp_4, .int 0, .int 0]))] s.heap := (hR0b.app (va1 hup_4))
  have hDr : va_D (fun q => b0 ≤ q) [(h, .inr (17, [.ref pal, .ref she, .ref fil, .ref nte, .ref dat, .ref vot, .ref loa, .ref nos, .ref pic, .ref spa, .int 5, .int 50, .int 1600, .int 0])), (pic, .inr (11, [.ref st, .ref sp, .ref ll, .int 0, .int 1600])), (st, .inl (cS, 48, .inr (.inr (.inr (.inr g))))), (ap_4, .inr (14, [.ref rp_4, .int 0, .int 0]))] := (vD_push hDrb (hNb ap_4 hnp_4).1 (nR (hNr ap_4 hnp_4)))
  have hN0 : ∀ (k9 : Nat) (q9 : Nat × va_E), [(h, .inr (17, [.ref pal, .ref she, .ref fil, .ref nte, .ref dat, .ref vot, .ref loa, .ref nos, .ref pic, .ref spa, .int 5, .int 50, .int 1600, .int 0])), (pic, .inr (11, [.ref st, .ref sp, .ref ll, .int 0, .int 1600])), (st, .inl (cS, 48, .inr (.inr (.inr (.inr g))))), (ap_4, .inr (14, [.ref rp_4, .int 0, .int 0]))][k9]? = some q9 → ¬ A q9.1 := (vN_push hN0b hxp_4)
  have hR : va_P (dC, dI) vwCl [(h, .inr (17, [.ref pal, .ref she, .ref fil, .ref nte, .ref dat, .ref vot, .ref loa, .ref nos, .ref pic, .ref spa, .int 5, .int 50, .int 1600, .int 0])), (pic, .inr (11, [.ref st, .ref sp, .ref ll, .int 0, .int 1600])), (st, .inl (cS, 48, .inr (.inr (.inr (.inr g))))), (ap_4, .inr (14, [.ref rp_4, .int 0, .int 0]))] H := en_R hR0 hN0 hS
  have hPc := (hP.app hR).sub (ws' := [] ++ [(ap_4, .inr (14, [.ref rp_4, .int 0, .int 0]))]) [3] rfl
  have hDc := (en_DD hD hDr hN0 hAb).sub (ws' := [] ++ [(ap_4, .inr (14, [.ref rp_4, .int 0, .int 0]))]) [3] (by decide) rfl
  have hKc := hK.sub (tys' := []) [] rfl
  have hFc := va_free (wc := []) hD hS hA [] rfl
  refine va_calli (va_runV (As := [.int 114]) (rest := []) ⟨hx, hb, hml, hown, hts⟩ (c_X8_isTopmost l dC dI b0 en H.size ap_4 rp_4 114) (cwV 1 hts go_c_X11_isTold_2 rfl rfl rfl (by decide +kernel) ⟨Nat.le_of_ble_eq_true rfl, Nat.le_of_ble_eq_true rfl⟩) ⟨cP.blind, va_recv hK hR (ci := 14) (q0 := 3) rfl rfl, cP.use (en_z hb0 hS) (hE.on hAb hS) hPc hKc hDc trivial⟩ rfl rfl hl.1 rfl (lv_room (Nat.le_of_ble_eq_true rfl)) dX11_isTold_18 ⟨Nat.le_of_ble_eq_true rfl, Nat.le_of_ble_eq_true rfl⟩) hS (fun q _ h => hFc q h) hFc (fun r_5 u t H1 locs ht hvm hw hB hz1 hk1 hS => ?_)
  have hP1 : va_P (dC, dI) vwCl [] H1 := fun k q h => by simp at h
  have hD1 : va_D (va_A [] H.size) [] := ⟨fun i j p q h => by simp at h, fun k q h => by simp at h⟩
  try dsimp only at hw
  obtain ⟨hP, hD⟩ := va_join (wr := []) (w1 := []) hP hD [] [] rfl rfl (by decide) (by decide) hk1 hFc hP1 hD1
  generalize H1 = H at hP hS ⊢
  have hP : va_P (dC, dI) vwCl [] H := hP
  have hD : va_D A [] := hD
  have hR := en_R hR0 hN0 hS
  refine W.widen (k := 1) (n := 6) (Nat.le_of_ble_eq_true rfl) (Nat.le_of_ble_eq_true rfl) ?_
  subst r_5
  have hPc := (hP.app hR).sub (ws' := [] ++ []) [] rfl
  have hDc := (en_DD hD hDr hN0 hAb).sub (ws' := [] ++ []) [] (by decide) rfl
  have hKc := hK.sub (tys' := []) [] rfl
  have hFc := va_free (wc := []) hD hS hA [] rfl
  refine vx_callv (vx_runS (As := [.int 0]) (rest := []) ⟨hx, hb, hml, hown, hts⟩ (c_X11_demandElement l hst dC dI b0 en H.size 0) (va_cwS 1 hts go_c_X11_isTold_3 rfl rfl rfl (by decide +kernel) ⟨Nat.le_of_ble_eq_true rfl, Nat.le_of_ble_eq_true rfl⟩) ⟨cP.blind, cP.use (en_z hb0 hS) (hE.on hAb hS) hPc hKc hDc trivial⟩ rfl rfl hl.1 rfl (lv_room (Nat.le_of_ble_eq_true rfl)) dX11_isTold_21 ⟨Nat.le_of_ble_eq_true rfl, Nat.le_of_ble_eq_true rfl⟩) hS (fun q _ h => hFc q h) hFc (fun q _ h => hFc q h) (fun E ce q9 u t H1 locs ht hvm hpx hBX hz1 hk1 hS hce hcv hcl => ?_) (fun u t H1 locs ht hvm hw hB hz1 hk1 hS => ?_)
  · skip
    try dsimp only at hBX
    obtain ⟨rfl, hc⟩ := hBX
    refine vx_widen (k := 2) (n := 12) (Nat.le_of_ble_eq_true rfl) (Nat.le_of_ble_eq_true rfl) ?_
    exact vx_out (fun x hx => (hext x hx).elim) hlocks hce hcv hcl (fun t ht hW => ⟨(), trivial, Or.inr (⟨rfl, (z_c_X11_isTold_366 x y h_2 hc)⟩), hS.F ht⟩) hS.2.2 (Nat.le_refl _) (Nat.le_refl _)
  have hP1 : va_P (dC, dI) vwCl [] H1 := fun k q h => by simp at h
  have hD1 : va_D (va_A [] H.size) [] := ⟨fun i j p q h => by simp at h, fun k q h => by simp at h⟩
  try dsimp only at hw
  obtain ⟨hP, hD⟩ := va_join (wr := []) (w1 := []) hP hD [] [] rfl rfl (by decide) (by decide) hk1 hFc hP1 hD1
  generalize H1 = H at hP hS ⊢
  have hP : va_P (dC, dI) vwCl [] H := hP
  have hD : va_D A [] := hD
  have hR := en_R hR0 hN0 hS
  refine W.widen (k := 2) (n := 12) (Nat.le_of_ble_eq_true rfl) (Nat.le_of_ble_eq_true rfl) ?_
  have h_7 := hw
  exact absurd h_7 (by decide)

def wo_c_X11_comesOff_w : List Cond := [Cond.fieldLink RX11 62 "Underpaint" "picture" "LUnderpaint$Picture;"]
def wo_c_X11_comesOff : List Cond := .code yX11_comesOff cX11_comesOff 5 (some .int) :: (wo_c_X11_comesOff_w ++ (u_ws RX11 TX11 14 ++ (va_wsS RX11 176 yX11_demandPlace wsX11_demandPlace ++ (wsV RX11 179 RX5 yX5_at wo_c_at ++ (wsV RX11 345 RX8 yX8_isTopmost wsX8_isTopmost ++ (va_wsS RX11 187 yX11_demandElement wsX11_demandElement ++ List.nil))))))
theorem gw_wo_c_X11_comesOff : wo_c_X11_comesOff.all goodWord = true := gw_c (by decide +kernel) (gw_a (by decide +kernel) (gw_a (by decide +kernel) (gw_a (gw_a (by decide +kernel) gw_wsX11_demandPlace) (gw_a (gw_a (by decide +kernel) gw_wo_c_at) (gw_a (gw_a (by decide +kernel) gw_wsX8_isTopmost) (gw_a (gw_a (by decide +kernel) gw_wsX11_demandElement) rfl))))))
theorem go_c_X11_comesOff_0 : GoodIn wo_c_X11_comesOff (va_wsS RX11 176 yX11_demandPlace wsX11_demandPlace) := goodIn_sub (fun _ h => List.mem_cons_of_mem _ (List.mem_append_right _ (List.mem_append_right _ (List.mem_append_left _ h)))) (gw_a (by decide +kernel) gw_wsX11_demandPlace)
theorem go_c_X11_comesOff_1 : GoodIn wo_c_X11_comesOff (wsV RX11 179 RX5 yX5_at wo_c_at) := goodIn_sub (fun _ h => List.mem_cons_of_mem _ (List.mem_append_right _ (List.mem_append_right _ (List.mem_append_right _ (List.mem_append_left _ h))))) (gw_a (by decide +kernel) gw_wo_c_at)
theorem go_c_X11_comesOff_2 : GoodIn wo_c_X11_comesOff (wsV RX11 345 RX8 yX8_isTopmost wsX8_isTopmost) := goodIn_sub (fun _ h => List.mem_cons_of_mem _ (List.mem_append_right _ (List.mem_append_right _ (List.mem_append_right _ (List.mem_append_right _ (List.mem_append_left _ h)))))) (gw_a (by decide +kernel) gw_wsX8_isTopmost)
theorem go_c_X11_comesOff_3 : GoodIn wo_c_X11_comesOff (va_wsS RX11 187 yX11_demandElement wsX11_demandElement) := goodIn_sub (fun _ h => List.mem_cons_of_mem _ (List.mem_append_right _ (List.mem_append_right _ (List.mem_append_right _ (List.mem_append_right _ (List.mem_append_right _ (List.mem_append_left _ h))))))) (gw_a (by decide +kernel) gw_wsX11_demandElement)
set_option maxHeartbeats 4000000 in
set_option maxRecDepth 100000 in
theorem c_X11_comesOff (l : Launch) (hst : l.stackTraces = false) (dC : Nat → ClassId) (dI : Nat → Nat → Nat) (b0 : Nat) (en : EnT) (sz : Nat) (h pal she fil nte dat vot loa nos pic spa : Nat) (st sp ll : Nat) (g : Nat → Option Nat) (cS : ClassId) (N : Nat → Prop) (x y : Int32) (hNb : ∀ a, N a → b0 ≤ a ∧ a < sz) (hNw : ∀ a, N a → a ∉ List.map Prod.fst ([] : va_W)) (hNr : ∀ a, N a → a ∉ List.map Prod.fst ([(h, .inr (17, [.ref pal, .ref she, .ref fil, .ref nte, .ref dat, .ref vot, .ref loa, .ref nos, .ref pic, .ref spa, .int 5, .int 50, .int 1600, .int 0])), (pic, .inr (11, [.ref st, .ref sp, .ref ll, .int 0, .int 1600])), (st, .inl (cS, 48, .inr (.inr (.inr (.inr g)))))] : va_W)) : vx_Met l yX11_comesOff wo_c_X11_comesOff ({ frames := 7, cells := 2, slots := 12, locals := 111 } : Room) (cP b0 en (dC, dI) [(cS, .object "Underpaint$Stack")] [] [(h, .inr (17, [.ref pal, .ref she, .ref fil, .ref nte, .ref dat, .ref vot, .ref loa, .ref nos, .ref pic, .ref spa, .int 5, .int 50, .int 1600, .int 0])), (pic, .inr (11, [.ref st, .ref sp, .ref ll, .int 0, .int 1600])), (st, .inl (cS, 48, .inr (.inr (.inr (.inr g)))))] sz (FamS (dC, dI) N g) [.ref h, .int x, .int y]) (va_Qi (fun (r : Int32) (_ : Unit) => False) (fun _ _ => True) (va_A [] sz)) (vx_X (fun _ : Unit => True) (fun E _ _ => (E = "java/lang/IllegalArgumentException" ∧ ¬ ((0 ≤ x ∧ x < 8) ∧ (0 ≤ y ∧ y < 6))) ∨ (E = "java/util/NoSuchElementException" ∧ (0 ≤ x ∧ x < 8) ∧ (0 ≤ y ∧ y < 6))) (va_A [] sz)) 2 12 (va_A [] sz) := by
  refine vx_ofW (cc := cX11_comesOff) (maxL := 5) (ret := (some .int)) (by decide) rfl ?_
  intro p e s m args below meth c s₁ B hml hext hv
  obtain ⟨rfl, hsz, hb0, hE, hPP, hK, hDD, hF0⟩ := hv
  have hx := B.exec
  have hb := B.bytes
  have hr := B.returns
  have hts := atoms_spec (ws := wo_c_X11_comesOff) B.pre
  have hown : s.vm.findClass RX11 = some m.cls := findClass_of_methodNamed B.named
  have hlocks := B.notSynchronized
  subst hsz
  have hN0 := en_N hPP hDD rfl
  have hP : va_P (dC, dI) vwCl [] s.heap := hPP.sub [] rfl
  have hR0 : va_P (dC, dI) vwCl [(h, .inr (17, [.ref pal, .ref she, .ref fil, .ref nte, .ref dat, .ref vot, .ref loa, .ref nos, .ref pic, .ref spa, .int 5, .int 50, .int 1600, .int 0])), (pic, .inr (11, [.ref st, .ref sp, .ref ll, .int 0, .int 1600])), (st, .inl (cS, 48, .inr (.inr (.inr (.inr g)))))] s.heap := hPP.sub [0, 1, 2] rfl
  have hD0 : va_D (fun q => b0 ≤ q) [] := hDD.sub [] (by decide) rfl
  have hDr : va_D (fun q => b0 ≤ q) [(h, .inr (17, [.ref pal, .ref she, .ref fil, .ref nte, .ref dat, .ref vot, .ref loa, .ref nos, .ref pic, .ref spa, .int 5, .int 50, .int 1600, .int 0])), (pic, .inr (11, [.ref st, .ref sp, .ref ll, .int 0, .int 1600])), (st, .inl (cS, 48, .inr (.inr (.inr (.inr g)))))] := hDD.sub [0, 1, 2] (by decide) rfl
  have hAb := en_A (sz := s.heap.size) hD0 hb0
  have hD := hD0.self (sz := s.heap.size)
  generalize hAe : va_A [] s.heap.size = A at hD hAb hN0 ⊢
  have hA : ∀ q : Nat, s.heap.size ≤ q → A q := fun q h => by rw [← hAe]; exact Or.inr h
  have hS : va_S A s.heap s.heap [] := va_S.rf
  have hR := hR0
  have hl := lv_entry [.ref h, .int x, .int y] (n := 5) (Nat.le_of_ble_eq_true rfl)
  rw [lg_entry_eq]
  generalize (lg_sl [.ref h, .int x, .int y] ++ List.replicate (5 - (lg_sl [.ref h, .int x, .int y]).length) Slot.unset).toArray = ls at hl ⊢
  have hl : lv_has ls 5 [(0, .ref h), (1, .int x), (2, .int y)] := hl
  have hR0b := hR0
  have hDrb := hDr
  have hN0b := hN0
  refine lv_iload_n hx hb dX11_comesOff_0 rfl (lv_at hl 1 rfl) ?_
  refine lv_iload_n hx hb dX11_comesOff_1 rfl (lv_at hl 2 rfl) ?_
  have hPc := (hP.app hR).sub (ws' := [] ++ []) [] rfl
  have hDc := (en_DD hD hDr hN0 hAb).sub (ws' := [] ++ []) [] (by decide) rfl
  have hKc := hK.sub (tys' := []) [] rfl
  have hFc := va_free (wc := []) hD hS hA [] rfl
  refine vx_callv (vx_runS (As := [.int x, .int y]) (rest := []) ⟨hx, hb, hml, hown, hts⟩ (c_X11_demandPlace l hst dC dI b0 en s.heap.size x y) (va_cwS 2 hts go_c_X11_comesOff_0 rfl rfl rfl (by decide +kernel) ⟨Nat.le_of_ble_eq_true rfl, Nat.le_of_ble_eq_true rfl⟩) ⟨cP.blind, cP.use (en_z hb0 hS) (hE.on hAb hS) hPc hKc hDc trivial⟩ rfl rfl hl.1 rfl (lv_room (Nat.le_of_ble_eq_true rfl)) dX11_comesOff_2 ⟨Nat.le_of_ble_eq_true rfl, Nat.le_of_ble_eq_true rfl⟩) hS (fun q _ h => hFc q h) hFc (fun q _ h => hFc q h) (fun E ce q9 u t H1 locs ht hvm hpx hBX hz1 hk1 hS hce hcv hcl => ?_) (fun u t H1 locs ht hvm hw hB hz1 hk1 hS => ?_)
  · skip
    try dsimp only at hBX
    obtain ⟨rfl, hc⟩ := hBX
    refine vx_widen (k := 2) (n := 12) (Nat.le_of_ble_eq_true rfl) (Nat.le_of_ble_eq_true rfl) ?_
    exact vx_out (fun x hx => (hext x hx).elim) hlocks hce hcv hcl (fun t ht hW => ⟨(), trivial, Or.inl ⟨rfl, (z_c_X11_guesses_343 x y hc)⟩, hS.F ht⟩) hS.2.2 (Nat.le_refl _) (Nat.le_refl _)
  have hP1 : va_P (dC, dI) vwCl [] H1 := fun k q h => by simp at h
  have hD1 : va_D (va_A [] s.heap.size) [] := ⟨fun i j p q h => by simp at h, fun k q h => by simp at h⟩
  try dsimp only at hw
  obtain ⟨hP, hD⟩ := va_join (wr := []) (w1 := []) hP hD [] [] rfl rfl (by decide) (by decide) hk1 hFc hP1 hD1
  generalize H1 = H at hP hS ⊢
  have hP : va_P (dC, dI) vwCl [] H := hP
  have hD : va_D A [] := hD
  have hR := en_R hR0 hN0 hS
  refine W.widen (k := 1) (n := 6) (Nat.le_of_ble_eq_true rfl) (Nat.le_of_ble_eq_true rfl) ?_
  have h_2 := hw
  refine lv_aload_n hx hb dX11_comesOff_5 rfl (lv_at hl 0 rfl) ?_
  refine va_get (D := (dC, dI)) (ci := 17) (v := .ref pic) (C := RX11) (T := TX11) (N := 14) hx hb hts (by decide +kernel) hown hK hR 0 rfl rfl 8 (by decide) (hts (.fieldLink RX11 62 "Underpaint" "picture" "LUnderpaint$Picture;") (by decide +kernel)) (fun _ h9 => h9) rfl dX11_comesOff_6 ?_
  refine lv_iload_n hx hb dX11_comesOff_9 rfl (lv_at hl 1 rfl) ?_
  refine lv_iload_n hx hb dX11_comesOff_10 rfl (lv_at hl 2 rfl) ?_
  have hPc := (hP.app hR).sub (ws' := [] ++ [(pic, .inr (11, [.ref st, .ref sp, .ref ll, .int 0, .int 1600])), (st, .inl (cS, 48, .inr (.inr (.inr (.inr g)))))]) [1, 2] rfl
  have hDc := (en_DD hD hDr hN0 hAb).sub (ws' := [] ++ [(pic, .inr (11, [.ref st, .ref sp, .ref ll, .int 0, .int 1600])), (st, .inl (cS, 48, .inr (.inr (.inr (.inr g)))))]) [1, 2] (by decide) rfl
  have hKc := hK.sub (tys' := [(cS, .object "Underpaint$Stack")]) [0] rfl
  have hFc := va_free (wc := []) hD hS hA [] rfl
  refine va_callq (va_runV (As := [.int x, .int y]) (rest := []) ⟨hx, hb, hml, hown, hts⟩ (c_at l dC dI b0 en H.size pic st sp ll x y g cS (z_c_X5_raking_257 x y h_2)) (cwV 2 hts go_c_X11_comesOff_1 rfl rfl rfl (by decide +kernel) ⟨Nat.le_of_ble_eq_true rfl, Nat.le_of_ble_eq_true rfl⟩) ⟨cP.blind, va_recv hK hR (ci := 11) (q0 := 1) rfl rfl, cP.use (en_z hb0 hS) (hE.on hAb hS) hPc hKc hDc trivial⟩ rfl rfl hl.1 rfl (lv_room (Nat.le_of_ble_eq_true rfl)) dX11_comesOff_11 ⟨Nat.le_of_ble_eq_true rfl, Nat.le_of_ble_eq_true rfl⟩) hS (fun q _ h => hFc q h) hFc (fun r_3 u t H1 locs ht hvm hw hB hz1 hk1 hS => ?_)
  have hP1 : va_P (dC, dI) vwCl [] H1 := fun k q h => by simp at h
  have hD1 : va_D (va_A [] H.size) [] := ⟨fun i j p q h => by simp at h, fun k q h => by simp at h⟩
  try dsimp only at hw
  obtain ⟨hP, hD⟩ := va_join (wr := []) (w1 := []) hP hD [] [] rfl rfl (by decide) (by decide) hk1 hFc hP1 hD1
  generalize H1 = H at hP hS ⊢
  have hP : va_P (dC, dI) vwCl [] H := hP
  have hD : va_D A [] := hD
  have hR := en_R hR0 hN0 hS
  refine W.widen (k := 1) (n := 6) (Nat.le_of_ble_eq_true rfl) (Nat.le_of_ble_eq_true rfl) ?_
  subst r_3
  obtain ⟨ap_4, rp_4, hgp_4, hup_4, hnp_4⟩ := hF0 (pidx x y) (pidx_lt (z_c_X5_raking_258 x y h_2))
  refine lv_topv (w := .ref ap_4) (by rw [hgp_4]; rfl) ?_
  have hxp_4 : ¬ A ap_4 := by rw [← hAe]; exact vA0 hup_4.lt
  refine lv_astore_n (lv' := [(3, .ref ap_4), (0, .ref h), (1, .int x), (2, .int y)]) hx hb dX11_comesOff_14 rfl hl (by decide) rfl (fun ls hl => ?_)
  refine lv_aload_n hx hb dX11_comesOff_15 rfl (lv_at hl 0 rfl) ?_
  refine lv_bipush (v := 114) hx hb dX11_comesOff_16 (by decide) ?_
  have hR0 : va_P (dC, dI) vwCl [(h, .inr (17, [.ref pal, .ref she, .ref fil, .ref nte, .ref dat, .ref vot, .ref loa, .ref nos, .ref pic, .ref spa, .int 5, .int 50, .int 1600, .int 0])), (pic, .inr (11, [.ref st, .ref sp, .ref ll, .int 0, .int 1600])), (st, .inl (cS, 48, .inr (.inr (.inr (.inr g))))), (ap_4, .inr (14, [.ref rp_4, .int 0, .int 0]))] s.heap := (hR0b.app (va1 hup_4))
  have hDr : va_D (fun q => b0 ≤ q) [(h, .inr (17, [.ref pal, .ref she, .ref fil, .ref nte, .ref dat, .ref vot, .ref loa, .ref nos, .ref pic, .ref spa, .int 5, .int 50, .int 1600, .int 0])), (pic, .inr (11, [.ref st, .ref sp, .ref ll, .int 0, .int 1600])), (st, .inl (cS, 48, .inr (.inr (.inr (.inr g))))), (ap_4, .inr (14, [.ref rp_4, .int 0, .int 0]))] := (vD_push hDrb (hNb ap_4 hnp_4).1 (nR (hNr ap_4 hnp_4)))
  have hN0 : ∀ (k9 : Nat) (q9 : Nat × va_E), [(h, .inr (17, [.ref pal, .ref she, .ref fil, .ref nte, .ref dat, .ref vot, .ref loa, .ref nos, .ref pic, .ref spa, .int 5, .int 50, .int 1600, .int 0])), (pic, .inr (11, [.ref st, .ref sp, .ref ll, .int 0, .int 1600])), (st, .inl (cS, 48, .inr (.inr (.inr (.inr g))))), (ap_4, .inr (14, [.ref rp_4, .int 0, .int 0]))][k9]? = some q9 → ¬ A q9.1 := (vN_push hN0b hxp_4)
  have hR : va_P (dC, dI) vwCl [(h, .inr (17, [.ref pal, .ref she, .ref fil, .ref nte, .ref dat, .ref vot, .ref loa, .ref nos, .ref pic, .ref spa, .int 5, .int 50, .int 1600, .int 0])), (pic, .inr (11, [.ref st, .ref sp, .ref ll, .int 0, .int 1600])), (st, .inl (cS, 48, .inr (.inr (.inr (.inr g))))), (ap_4, .inr (14, [.ref rp_4, .int 0, .int 0]))] H := en_R hR0 hN0 hS
  have hPc := (hP.app hR).sub (ws' := [] ++ [(ap_4, .inr (14, [.ref rp_4, .int 0, .int 0]))]) [3] rfl
  have hDc := (en_DD hD hDr hN0 hAb).sub (ws' := [] ++ [(ap_4, .inr (14, [.ref rp_4, .int 0, .int 0]))]) [3] (by decide) rfl
  have hKc := hK.sub (tys' := []) [] rfl
  have hFc := va_free (wc := []) hD hS hA [] rfl
  refine va_calli (va_runV (As := [.int 114]) (rest := []) ⟨hx, hb, hml, hown, hts⟩ (c_X8_isTopmost l dC dI b0 en H.size ap_4 rp_4 114) (cwV 1 hts go_c_X11_comesOff_2 rfl rfl rfl (by decide +kernel) ⟨Nat.le_of_ble_eq_true rfl, Nat.le_of_ble_eq_true rfl⟩) ⟨cP.blind, va_recv hK hR (ci := 14) (q0 := 3) rfl rfl, cP.use (en_z hb0 hS) (hE.on hAb hS) hPc hKc hDc trivial⟩ rfl rfl hl.1 rfl (lv_room (Nat.le_of_ble_eq_true rfl)) dX11_comesOff_18 ⟨Nat.le_of_ble_eq_true rfl, Nat.le_of_ble_eq_true rfl⟩) hS (fun q _ h => hFc q h) hFc (fun r_5 u t H1 locs ht hvm hw hB hz1 hk1 hS => ?_)
  have hP1 : va_P (dC, dI) vwCl [] H1 := fun k q h => by simp at h
  have hD1 : va_D (va_A [] H.size) [] := ⟨fun i j p q h => by simp at h, fun k q h => by simp at h⟩
  try dsimp only at hw
  obtain ⟨hP, hD⟩ := va_join (wr := []) (w1 := []) hP hD [] [] rfl rfl (by decide) (by decide) hk1 hFc hP1 hD1
  generalize H1 = H at hP hS ⊢
  have hP : va_P (dC, dI) vwCl [] H := hP
  have hD : va_D A [] := hD
  have hR := en_R hR0 hN0 hS
  refine W.widen (k := 1) (n := 6) (Nat.le_of_ble_eq_true rfl) (Nat.le_of_ble_eq_true rfl) ?_
  subst r_5
  have hPc := (hP.app hR).sub (ws' := [] ++ []) [] rfl
  have hDc := (en_DD hD hDr hN0 hAb).sub (ws' := [] ++ []) [] (by decide) rfl
  have hKc := hK.sub (tys' := []) [] rfl
  have hFc := va_free (wc := []) hD hS hA [] rfl
  refine vx_callv (vx_runS (As := [.int 0]) (rest := []) ⟨hx, hb, hml, hown, hts⟩ (c_X11_demandElement l hst dC dI b0 en H.size 0) (va_cwS 1 hts go_c_X11_comesOff_3 rfl rfl rfl (by decide +kernel) ⟨Nat.le_of_ble_eq_true rfl, Nat.le_of_ble_eq_true rfl⟩) ⟨cP.blind, cP.use (en_z hb0 hS) (hE.on hAb hS) hPc hKc hDc trivial⟩ rfl rfl hl.1 rfl (lv_room (Nat.le_of_ble_eq_true rfl)) dX11_comesOff_21 ⟨Nat.le_of_ble_eq_true rfl, Nat.le_of_ble_eq_true rfl⟩) hS (fun q _ h => hFc q h) hFc (fun q _ h => hFc q h) (fun E ce q9 u t H1 locs ht hvm hpx hBX hz1 hk1 hS hce hcv hcl => ?_) (fun u t H1 locs ht hvm hw hB hz1 hk1 hS => ?_)
  · skip
    try dsimp only at hBX
    obtain ⟨rfl, hc⟩ := hBX
    refine vx_widen (k := 2) (n := 12) (Nat.le_of_ble_eq_true rfl) (Nat.le_of_ble_eq_true rfl) ?_
    exact vx_out (fun x hx => (hext x hx).elim) hlocks hce hcv hcl (fun t ht hW => ⟨(), trivial, Or.inr (⟨rfl, (z_c_X11_isTold_366 x y h_2 hc)⟩), hS.F ht⟩) hS.2.2 (Nat.le_refl _) (Nat.le_refl _)
  have hP1 : va_P (dC, dI) vwCl [] H1 := fun k q h => by simp at h
  have hD1 : va_D (va_A [] H.size) [] := ⟨fun i j p q h => by simp at h, fun k q h => by simp at h⟩
  try dsimp only at hw
  obtain ⟨hP, hD⟩ := va_join (wr := []) (w1 := []) hP hD [] [] rfl rfl (by decide) (by decide) hk1 hFc hP1 hD1
  generalize H1 = H at hP hS ⊢
  have hP : va_P (dC, dI) vwCl [] H := hP
  have hD : va_D A [] := hD
  have hR := en_R hR0 hN0 hS
  refine W.widen (k := 2) (n := 12) (Nat.le_of_ble_eq_true rfl) (Nat.le_of_ble_eq_true rfl) ?_
  have h_7 := hw
  exact absurd h_7 (by decide)

def wo_c_X5_covered_w : List Cond := [Cond.fieldLink RX5 11 "Underpaint$Picture" "stacks" "[LUnderpaint$Stack;", Cond.fieldLink RX5 91 "Underpaint$Stack" "size" "I"]
def wo_c_X5_covered : List Cond := .code yX5_covered cX5_covered 3 (some .int) :: (wo_c_X5_covered_w ++ (u_ws RX5 TX5 5 ++ (u_ws RX8 TX8 3 ++ List.nil)))
theorem gw_wo_c_X5_covered : wo_c_X5_covered.all goodWord = true := gw_c (by decide +kernel) (gw_a (by decide +kernel) (gw_a (by decide +kernel) (gw_a (by decide +kernel) rfl)))
set_option maxHeartbeats 4000000 in
set_option maxRecDepth 100000 in
/-- Picture.covered -/
theorem c_X5_covered (l : Launch) (dC : Nat → ClassId) (dI : Nat → Nat → Nat) (b0 : Nat) (en : EnT) (sz : Nat) (q st sp ll : Nat) (g : Nat → Option Nat) (cS : ClassId) (N : Nat → Prop) (hNb : ∀ a, N a → b0 ≤ a ∧ a < sz) (hNw : ∀ a, N a → a ∉ List.map Prod.fst ([] : va_W)) (hNr : ∀ a, N a → a ∉ List.map Prod.fst ([(q, .inr (11, [.ref st, .ref sp, .ref ll, .int 0, .int 1600])), (st, .inl (cS, 48, .inr (.inr (.inr (.inr g)))))] : va_W)) : Met l yX5_covered wo_c_X5_covered ({ frames := 0, cells := 0, slots := 0, locals := 0 } : Room) (cP b0 en (dC, dI) [(cS, .object "Underpaint$Stack")] [] [(q, .inr (11, [.ref st, .ref sp, .ref ll, .int 0, .int 1600])), (st, .inl (cS, 48, .inr (.inr (.inr (.inr g)))))] sz (FamS (dC, dI) N g) [.ref q]) (va_Qi (fun (r : Int32) (_ : Unit) => r = 0) (fun _ _ => True) (va_A [] sz)) 0 0 (va_A [] sz) := by
  refine Met.ofW (cc := cX5_covered) (maxL := 3) (ret := (some .int)) (by decide) rfl ?_
  intro p e s m args below meth c s₁ B hml hv
  obtain ⟨rfl, hsz, hb0, hE, hPP, hK, hDD, hF0⟩ := hv
  have hx := B.exec
  have hb := B.bytes
  have hr := B.returns
  have hts := atoms_spec (ws := wo_c_X5_covered) B.pre
  have hown : s.vm.findClass RX5 = some m.cls := findClass_of_methodNamed B.named
  have hlocks := B.notSynchronized
  subst hsz
  have hN0 := en_N hPP hDD rfl
  have hP : va_P (dC, dI) vwCl [] s.heap := hPP.sub [] rfl
  have hR0 : va_P (dC, dI) vwCl [(q, .inr (11, [.ref st, .ref sp, .ref ll, .int 0, .int 1600])), (st, .inl (cS, 48, .inr (.inr (.inr (.inr g)))))] s.heap := hPP.sub [0, 1] rfl
  have hD0 : va_D (fun q => b0 ≤ q) [] := hDD.sub [] (by decide) rfl
  have hDr : va_D (fun q => b0 ≤ q) [(q, .inr (11, [.ref st, .ref sp, .ref ll, .int 0, .int 1600])), (st, .inl (cS, 48, .inr (.inr (.inr (.inr g)))))] := hDD.sub [0, 1] (by decide) rfl
  have hAb := en_A (sz := s.heap.size) hD0 hb0
  have hD := hD0.self (sz := s.heap.size)
  generalize hAe : va_A [] s.heap.size = A at hD hAb hN0 ⊢
  have hA : ∀ q : Nat, s.heap.size ≤ q → A q := fun q h => by rw [← hAe]; exact Or.inr h
  have hS : va_S A s.heap s.heap [] := va_S.rf
  have hR := hR0
  have hl := lv_entry [.ref q] (n := 3) (Nat.le_of_ble_eq_true rfl)
  rw [lg_entry_eq]
  generalize (lg_sl [.ref q] ++ List.replicate (3 - (lg_sl [.ref q]).length) Slot.unset).toArray = ls at hl ⊢
  have hl : lv_has ls 3 [(0, .ref q)] := hl
  refine W.gen (fun Q hQ => ?_)
  have hR0b := hR0
  have hDrb := hDr
  have hN0b := hN0
  refine lv_iconst (v := 0) hx hb dX5_covered_0 (by decide) ?_
  refine lv_istore_n (lv' := [(1, .int 0), (0, .ref q)]) hx hb dX5_covered_1 rfl hl (by decide) rfl (fun ls hl => ?_)
  refine lv_iconst (v := 0) hx hb dX5_covered_2 (by decide) ?_
  refine lv_istore_n (lv' := [(2, .int 0), (1, .int 0), (0, .ref q)]) hx hb dX5_covered_3 rfl hl (by decide) rfl (fun ls hl => ?_)
  have loop_4 : ∀ (n_2 k_1 : Nat), n_2 + k_1 = 48 → ∀ (H : Heap) (locs : List Loc), va_P (dC, dI) vwCl [] H → va_D A [] → va_S A s.heap H locs → ∀ ls : Array Slot, lv_has ls 3 [(2, .int (nI k_1)), (1, .int 0), (0, .ref q)] → W p l e (headSpec wo_c_X5_covered ({ frames := 0, cells := 0, slots := 0, locals := 0 } : Room)).room s m #[.ref q] below meth c H locs 0 0 Q (F0 m 4 ls []) := by
    intro n_2
    induction n_2 with
    | zero =>
      intro k_1 hk_3 H locs hP hD hS ls hl
      have ek_1 : k_1 = 48 := by omega
      subst ek_1
      have hl : lv_has ls 3 [(2, .int 48), (1, .int 0), (0, .ref q)] := hl
      have hR := en_R hR0 hN0 hS
      refine lv_iload_n hx hb dX5_covered_4 rfl (lv_at hl 0 rfl) ?_
      refine lv_bipush (v := 48) hx hb dX5_covered_5 (by decide) ?_
      refine lv_icmp_ge (tgt := 31) hx hb dX5_covered_7 (by decide) (fun c_5 => ?_) (fun c_5 => absurd c_5 (by decide))
      refine lv_iload_n hx hb dX5_covered_31 rfl (lv_at hl 1 rfl) ?_
      subst hQ
      refine W.widen (k := 0) (n := 0) (Nat.le_of_ble_eq_true rfl) (Nat.le_of_ble_eq_true rfl) ?_
      exact W.iret (v := 0) hx hb hr (fun t ht hW => ⟨⟨0, (), rfl, (z_c_X14_lends_164), trivial⟩, hS.F ht⟩) hS.2.2 dX5_covered_32
    | succ n_2 ih =>
      intro k_1 hk_3 H locs hP hD hS ls hl
      have hk_6 : k_1 < 48 := by omega
      have hb_7 : 0 ≤ nI k_1 ∧ nI k_1 < 48 := ⟨nI_le (Nat.zero_le _) (by omega), nI_lk hk_6 (by decide)⟩
      have hR := en_R hR0 hN0 hS
      refine lv_iload_n hx hb dX5_covered_4 rfl (lv_at hl 0 rfl) ?_
      refine lv_bipush (v := 48) hx hb dX5_covered_5 (by decide) ?_
      refine lv_icmp_ge (tgt := 31) hx hb dX5_covered_7 (by decide) (fun c_8 => ?_) (fun c_8 => ?_)
      · skip
        first | exact absurd c_8 (nI_ge hk_6 (by decide)) | exact absurd (nI_lk hk_6 (by decide)) c_8
      · skip
        refine lv_aload_n hx hb dX5_covered_10 rfl (lv_at hl 2 rfl) ?_
        refine va_get (D := (dC, dI)) (ci := 11) (v := .ref st) (C := RX5) (T := TX5) (N := 5) hx hb hts (by decide +kernel) hown hK hR 0 rfl rfl 0 (by decide) (hts (.fieldLink RX5 11 "Underpaint$Picture" "stacks" "[LUnderpaint$Stack;") (by decide +kernel)) (fun _ h9 => h9) rfl dX5_covered_11 ?_
        refine lv_iload_n hx hb dX5_covered_14 rfl (lv_at hl 0 rfl) ?_
        refine va_aldq hx hb hK hR 1 0 rfl rfl (vp_in_nI hk_6 (by decide)) dX5_covered_15 ?_
        obtain ⟨ap_9, rp_9, hgp_9, hup_9, hnp_9⟩ := hF0 k_1 hk_6
        refine lv_topv (w := .ref ap_9) (by rw [nI_clamp (by omega), hgp_9]; rfl) ?_
        have hxp_9 : ¬ A ap_9 := by rw [← hAe]; exact vA0 hup_9.lt
        have hfa := va1 (hup_9.kept (hS.2.1 _ hup_9.lt hxp_9))
        refine va_get (D := (dC, dI)) (ci := 14) (v := .int 0) (C := RX8) (T := TX8) (N := 3) hx hb hts (by decide +kernel) hown hK hfa 0 rfl rfl 1 (by decide) (hts (.fieldLink RX5 91 "Underpaint$Stack" "size" "I") (by decide +kernel)) (fun _ h9 => h9) rfl dX5_covered_16 ?_
        refine lv_if_le (tgt := 25) hx hb dX5_covered_19 (by decide) (fun c_10 => ?_) (fun c_10 => absurd c_10 (by decide))
        obtain ⟨x_11, ex_11⟩ : ∃ y : Int32, y = (nI k_1) + 1 := ⟨_, rfl⟩
        refine lv_iinc (v := x_11) (lv' := [(2, .int x_11), (1, .int 0), (0, .ref q)]) hx hb dX5_covered_25 hl (k := 0) rfl (by rw [ex_11]; rfl) (by decide) rfl (fun ls hl => ?_)
        have hy : x_11 = nI (k_1 + 1) := by rw [ex_11]; exact nI_1 k_1
        subst hy
        refine lv_goto (tgt := 4) hx hb dX5_covered_28 (by decide) ?_
        exact ih (k_1 + 1) (by omega)  _ _ hP hD hS _ (lv_sub hl [0, 1, 2] rfl)
  exact loop_4 48 0 rfl  _ _ hP hD hS ls (lv_sub hl [0, 1, 2] rfl)

def wo_c_X11_coveredShare_w : List Cond := [Cond.fieldLink RX11 62 "Underpaint" "picture" "LUnderpaint$Picture;", Cond.constantFloat RX11 413 (1111490560)]
def wo_c_X11_coveredShare : List Cond := .code yX11_coveredShare cX11_coveredShare 1 (some .float) :: (wo_c_X11_coveredShare_w ++ (u_ws RX11 TX11 14 ++ (wsV RX11 410 RX5 yX5_covered wo_c_X5_covered ++ List.nil)))
theorem gw_wo_c_X11_coveredShare : wo_c_X11_coveredShare.all goodWord = true := gw_c (by decide +kernel) (gw_a (by decide +kernel) (gw_a (by decide +kernel) (gw_a (gw_a (by decide +kernel) gw_wo_c_X5_covered) rfl)))
theorem go_c_X11_coveredShare_0 : GoodIn wo_c_X11_coveredShare (wsV RX11 410 RX5 yX5_covered wo_c_X5_covered) := goodIn_sub (fun _ h => List.mem_cons_of_mem _ (List.mem_append_right _ (List.mem_append_right _ (List.mem_append_left _ h)))) (gw_a (by decide +kernel) gw_wo_c_X5_covered)
set_option maxHeartbeats 4000000 in
set_option maxRecDepth 100000 in
theorem c_X11_coveredShare (l : Launch) (dC : Nat → ClassId) (dI : Nat → Nat → Nat) (b0 : Nat) (en : EnT) (sz : Nat) (h pal she fil nte dat vot loa nos pic spa : Nat) (st sp ll : Nat) (g : Nat → Option Nat) (cS : ClassId) (N : Nat → Prop) (hNb : ∀ a, N a → b0 ≤ a ∧ a < sz) (hNw : ∀ a, N a → a ∉ List.map Prod.fst ([] : va_W)) (hNr : ∀ a, N a → a ∉ List.map Prod.fst ([(h, .inr (17, [.ref pal, .ref she, .ref fil, .ref nte, .ref dat, .ref vot, .ref loa, .ref nos, .ref pic, .ref spa, .int 5, .int 50, .int 1600, .int 0])), (pic, .inr (11, [.ref st, .ref sp, .ref ll, .int 0, .int 1600])), (st, .inl (cS, 48, .inr (.inr (.inr (.inr g)))))] : va_W)) : Met l yX11_coveredShare wo_c_X11_coveredShare ({ frames := 1, cells := 0, slots := 0, locals := 22 } : Room) (cP b0 en (dC, dI) [(cS, .object "Underpaint$Stack")] [] [(h, .inr (17, [.ref pal, .ref she, .ref fil, .ref nte, .ref dat, .ref vot, .ref loa, .ref nos, .ref pic, .ref spa, .int 5, .int 50, .int 1600, .int 0])), (pic, .inr (11, [.ref st, .ref sp, .ref ll, .int 0, .int 1600])), (st, .inl (cS, 48, .inr (.inr (.inr (.inr g)))))] sz (FamS (dC, dI) N g) [.ref h]) (va_Qf (fun (r : UInt32) (_ : Unit) => r = FP.fdiv (FP.i2f 0) 1111490560) (fun _ _ => True) (va_A [] sz)) 0 0 (va_A [] sz) := by
  refine Met.ofW (cc := cX11_coveredShare) (maxL := 1) (ret := (some .float)) (by decide) rfl ?_
  intro p e s m args below meth c s₁ B hml hv
  obtain ⟨rfl, hsz, hb0, hE, hPP, hK, hDD, hF0⟩ := hv
  have hx := B.exec
  have hb := B.bytes
  have hr := B.returns
  have hts := atoms_spec (ws := wo_c_X11_coveredShare) B.pre
  have hown : s.vm.findClass RX11 = some m.cls := findClass_of_methodNamed B.named
  have hlocks := B.notSynchronized
  subst hsz
  have hN0 := en_N hPP hDD rfl
  have hP : va_P (dC, dI) vwCl [] s.heap := hPP.sub [] rfl
  have hR0 : va_P (dC, dI) vwCl [(h, .inr (17, [.ref pal, .ref she, .ref fil, .ref nte, .ref dat, .ref vot, .ref loa, .ref nos, .ref pic, .ref spa, .int 5, .int 50, .int 1600, .int 0])), (pic, .inr (11, [.ref st, .ref sp, .ref ll, .int 0, .int 1600])), (st, .inl (cS, 48, .inr (.inr (.inr (.inr g)))))] s.heap := hPP.sub [0, 1, 2] rfl
  have hD0 : va_D (fun q => b0 ≤ q) [] := hDD.sub [] (by decide) rfl
  have hDr : va_D (fun q => b0 ≤ q) [(h, .inr (17, [.ref pal, .ref she, .ref fil, .ref nte, .ref dat, .ref vot, .ref loa, .ref nos, .ref pic, .ref spa, .int 5, .int 50, .int 1600, .int 0])), (pic, .inr (11, [.ref st, .ref sp, .ref ll, .int 0, .int 1600])), (st, .inl (cS, 48, .inr (.inr (.inr (.inr g)))))] := hDD.sub [0, 1, 2] (by decide) rfl
  have hAb := en_A (sz := s.heap.size) hD0 hb0
  have hD := hD0.self (sz := s.heap.size)
  generalize hAe : va_A [] s.heap.size = A at hD hAb hN0 ⊢
  have hA : ∀ q : Nat, s.heap.size ≤ q → A q := fun q h => by rw [← hAe]; exact Or.inr h
  have hS : va_S A s.heap s.heap [] := va_S.rf
  have hR := hR0
  have hl := lv_entry [.ref h] (n := 1) (Nat.le_of_ble_eq_true rfl)
  rw [lg_entry_eq]
  generalize (lg_sl [.ref h] ++ List.replicate (1 - (lg_sl [.ref h]).length) Slot.unset).toArray = ls at hl ⊢
  have hl : lv_has ls 1 [(0, .ref h)] := hl
  have hR0b := hR0
  have hDrb := hDr
  have hN0b := hN0
  refine lv_aload_n hx hb dX11_coveredShare_0 rfl (lv_at hl 0 rfl) ?_
  refine va_get (D := (dC, dI)) (ci := 17) (v := .ref pic) (C := RX11) (T := TX11) (N := 14) hx hb hts (by decide +kernel) hown hK hR 0 rfl rfl 8 (by decide) (hts (.fieldLink RX11 62 "Underpaint" "picture" "LUnderpaint$Picture;") (by decide +kernel)) (fun _ h9 => h9) rfl dX11_coveredShare_1 ?_
  have hPc := (hP.app hR).sub (ws' := [] ++ [(pic, .inr (11, [.ref st, .ref sp, .ref ll, .int 0, .int 1600])), (st, .inl (cS, 48, .inr (.inr (.inr (.inr g)))))]) [1, 2] rfl
  have hDc := (en_DD hD hDr hN0 hAb).sub (ws' := [] ++ [(pic, .inr (11, [.ref st, .ref sp, .ref ll, .int 0, .int 1600])), (st, .inl (cS, 48, .inr (.inr (.inr (.inr g)))))]) [1, 2] (by decide) rfl
  have hKc := hK.sub (tys' := [(cS, .object "Underpaint$Stack")]) [0] rfl
  have hFc := va_free (wc := []) hD hS hA [] rfl
  refine va_calli (va_runV (As := []) (rest := []) ⟨hx, hb, hml, hown, hts⟩ (c_X5_covered l dC dI b0 en s.heap.size pic st sp ll g cS N (fun a9 h9 => ⟨(hNb a9 h9).1, Nat.lt_of_lt_of_le (hNb a9 h9).2 hS.1⟩) (fun a9 h9 z9 => by have g1 := hNw a9 h9; have g2 := hNr a9 h9; have g3 := (hNb a9 h9).2; simp only [List.map_cons, List.map_nil, List.mem_cons, List.not_mem_nil, or_false, not_or] at g1 g2 z9 <;> omega) (fun a9 h9 z9 => by have g1 := hNw a9 h9; have g2 := hNr a9 h9; have g3 := (hNb a9 h9).2; simp only [List.map_cons, List.map_nil, List.mem_cons, List.not_mem_nil, or_false, not_or] at g1 g2 z9 <;> omega)) (cwV 0 hts go_c_X11_coveredShare_0 rfl rfl rfl (by decide +kernel) ⟨Nat.le_of_ble_eq_true rfl, Nat.le_of_ble_eq_true rfl⟩) ⟨cP.blind, va_recv hK hR (ci := 11) (q0 := 1) rfl rfl, cP.use (en_z hb0 hS) (hE.on hAb hS) hPc hKc hDc (hF0.on (fun a9 h8 h9 => by rw [← hAe]; exact vA1 h8 (hNw a9 h9)) hS)⟩ rfl rfl hl.1 rfl (lv_room (Nat.le_of_ble_eq_true rfl)) dX11_coveredShare_4 ⟨Nat.le_of_ble_eq_true rfl, Nat.le_of_ble_eq_true rfl⟩) hS (fun q _ h => hFc q h) hFc (fun r_1 u t H1 locs ht hvm hw hB hz1 hk1 hS => ?_)
  have hP1 : va_P (dC, dI) vwCl [] H1 := fun k q h => by simp at h
  have hD1 : va_D (va_A [] s.heap.size) [] := ⟨fun i j p q h => by simp at h, fun k q h => by simp at h⟩
  try dsimp only at hw
  obtain ⟨hP, hD⟩ := va_join (wr := []) (w1 := []) hP hD [] [] rfl rfl (by decide) (by decide) hk1 hFc hP1 hD1
  generalize H1 = H at hP hS ⊢
  have hP : va_P (dC, dI) vwCl [] H := hP
  have hD : va_D A [] := hD
  have hR := en_R hR0 hN0 hS
  refine W.widen (k := 0) (n := 0) (Nat.le_of_ble_eq_true rfl) (Nat.le_of_ble_eq_true rfl) ?_
  subst r_1
  refine lv_i2f hx hb dX11_coveredShare_7 ?_
  refine lv_ldcwf (v := 1111490560) hx hb hown (hts (.constantFloat RX11 413 (1111490560)) (by decide +kernel)) dX11_coveredShare_8 ?_
  refine lv_fdiv hx hb dX11_coveredShare_11 (by unfold vf_n32; decide +kernel) ?_
  refine W.widen (k := 0) (n := 0) (Nat.le_of_ble_eq_true rfl) (Nat.le_of_ble_eq_true rfl) ?_
  exact W.fret (v := (FP.fdiv (FP.i2f 0) 1111490560)) hx hb hr (fun t ht hW => ⟨⟨(FP.fdiv (FP.i2f 0) 1111490560), (), rfl, rfl, trivial⟩, hS.F ht⟩) hS.2.2 dX11_coveredShare_12

set_option maxRecDepth 100000 in
theorem gw_wsX11_demandCovered : wsX11_demandCovered.all goodWord = true := by decide +kernel
def wo_c_X11_meanTone_w : List Cond := [Cond.fieldLink RX11 62 "Underpaint" "picture" "LUnderpaint$Picture;"]
def wo_c_X11_meanTone : List Cond := .code yX11_meanTone cX11_meanTone 2 (some .double) :: (wo_c_X11_meanTone_w ++ (u_ws RX11 TX11 14 ++ (wsV RX11 410 RX5 yX5_covered wo_c_X5_covered ++ (va_wsS RX11 414 yX11_demandCovered wsX11_demandCovered ++ List.nil))))
theorem gw_wo_c_X11_meanTone : wo_c_X11_meanTone.all goodWord = true := gw_c (by decide +kernel) (gw_a (by decide +kernel) (gw_a (by decide +kernel) (gw_a (gw_a (by decide +kernel) gw_wo_c_X5_covered) (gw_a (gw_a (by decide +kernel) gw_wsX11_demandCovered) rfl))))
theorem go_c_X11_meanTone_0 : GoodIn wo_c_X11_meanTone (wsV RX11 410 RX5 yX5_covered wo_c_X5_covered) := goodIn_sub (fun _ h => List.mem_cons_of_mem _ (List.mem_append_right _ (List.mem_append_right _ (List.mem_append_left _ h)))) (gw_a (by decide +kernel) gw_wo_c_X5_covered)
theorem go_c_X11_meanTone_1 : GoodIn wo_c_X11_meanTone (va_wsS RX11 414 yX11_demandCovered wsX11_demandCovered) := goodIn_sub (fun _ h => List.mem_cons_of_mem _ (List.mem_append_right _ (List.mem_append_right _ (List.mem_append_right _ (List.mem_append_left _ h))))) (gw_a (by decide +kernel) gw_wsX11_demandCovered)
set_option maxHeartbeats 4000000 in
set_option maxRecDepth 100000 in
theorem c_X11_meanTone (l : Launch) (hst : l.stackTraces = false) (dC : Nat → ClassId) (dI : Nat → Nat → Nat) (b0 : Nat) (en : EnT) (sz : Nat) (h pal she fil nte dat vot loa nos pic spa : Nat) (st sp ll : Nat) (g : Nat → Option Nat) (cS : ClassId) (N : Nat → Prop) (hNb : ∀ a, N a → b0 ≤ a ∧ a < sz) (hNw : ∀ a, N a → a ∉ List.map Prod.fst ([] : va_W)) (hNr : ∀ a, N a → a ∉ List.map Prod.fst ([(h, .inr (17, [.ref pal, .ref she, .ref fil, .ref nte, .ref dat, .ref vot, .ref loa, .ref nos, .ref pic, .ref spa, .int 5, .int 50, .int 1600, .int 0])), (pic, .inr (11, [.ref st, .ref sp, .ref ll, .int 0, .int 1600])), (st, .inl (cS, 48, .inr (.inr (.inr (.inr g)))))] : va_W)) : vx_Met l yX11_meanTone wo_c_X11_meanTone ({ frames := 7, cells := 1, slots := 6, locals := 110 } : Room) (cP b0 en (dC, dI) [(cS, .object "Underpaint$Stack")] [] [(h, .inr (17, [.ref pal, .ref she, .ref fil, .ref nte, .ref dat, .ref vot, .ref loa, .ref nos, .ref pic, .ref spa, .int 5, .int 50, .int 1600, .int 0])), (pic, .inr (11, [.ref st, .ref sp, .ref ll, .int 0, .int 1600])), (st, .inl (cS, 48, .inr (.inr (.inr (.inr g)))))] sz (FamS (dC, dI) N g) [.ref h]) (va_Qd (fun (r : UInt64) (_ : Unit) => False) (fun _ _ => True) (va_A [] sz)) (vx_X (fun _ : Unit => True) (fun E _ _ => (E = "java/lang/ArithmeticException" ∧ True)) (va_A [] sz)) 1 6 (va_A [] sz) := by
  refine vx_ofW (cc := cX11_meanTone) (maxL := 2) (ret := (some .double)) (by decide) rfl ?_
  intro p e s m args below meth c s₁ B hml hext hv
  obtain ⟨rfl, hsz, hb0, hE, hPP, hK, hDD, hF0⟩ := hv
  have hx := B.exec
  have hb := B.bytes
  have hr := B.returns
  have hts := atoms_spec (ws := wo_c_X11_meanTone) B.pre
  have hown : s.vm.findClass RX11 = some m.cls := findClass_of_methodNamed B.named
  have hlocks := B.notSynchronized
  subst hsz
  have hN0 := en_N hPP hDD rfl
  have hP : va_P (dC, dI) vwCl [] s.heap := hPP.sub [] rfl
  have hR0 : va_P (dC, dI) vwCl [(h, .inr (17, [.ref pal, .ref she, .ref fil, .ref nte, .ref dat, .ref vot, .ref loa, .ref nos, .ref pic, .ref spa, .int 5, .int 50, .int 1600, .int 0])), (pic, .inr (11, [.ref st, .ref sp, .ref ll, .int 0, .int 1600])), (st, .inl (cS, 48, .inr (.inr (.inr (.inr g)))))] s.heap := hPP.sub [0, 1, 2] rfl
  have hD0 : va_D (fun q => b0 ≤ q) [] := hDD.sub [] (by decide) rfl
  have hDr : va_D (fun q => b0 ≤ q) [(h, .inr (17, [.ref pal, .ref she, .ref fil, .ref nte, .ref dat, .ref vot, .ref loa, .ref nos, .ref pic, .ref spa, .int 5, .int 50, .int 1600, .int 0])), (pic, .inr (11, [.ref st, .ref sp, .ref ll, .int 0, .int 1600])), (st, .inl (cS, 48, .inr (.inr (.inr (.inr g)))))] := hDD.sub [0, 1, 2] (by decide) rfl
  have hAb := en_A (sz := s.heap.size) hD0 hb0
  have hD := hD0.self (sz := s.heap.size)
  generalize hAe : va_A [] s.heap.size = A at hD hAb hN0 ⊢
  have hA : ∀ q : Nat, s.heap.size ≤ q → A q := fun q h => by rw [← hAe]; exact Or.inr h
  have hS : va_S A s.heap s.heap [] := va_S.rf
  have hR := hR0
  have hl := lv_entry [.ref h] (n := 2) (Nat.le_of_ble_eq_true rfl)
  rw [lg_entry_eq]
  generalize (lg_sl [.ref h] ++ List.replicate (2 - (lg_sl [.ref h]).length) Slot.unset).toArray = ls at hl ⊢
  have hl : lv_has ls 2 [(0, .ref h)] := hl
  have hR0b := hR0
  have hDrb := hDr
  have hN0b := hN0
  refine lv_aload_n hx hb dX11_meanTone_0 rfl (lv_at hl 0 rfl) ?_
  refine va_get (D := (dC, dI)) (ci := 17) (v := .ref pic) (C := RX11) (T := TX11) (N := 14) hx hb hts (by decide +kernel) hown hK hR 0 rfl rfl 8 (by decide) (hts (.fieldLink RX11 62 "Underpaint" "picture" "LUnderpaint$Picture;") (by decide +kernel)) (fun _ h9 => h9) rfl dX11_meanTone_1 ?_
  have hPc := (hP.app hR).sub (ws' := [] ++ [(pic, .inr (11, [.ref st, .ref sp, .ref ll, .int 0, .int 1600])), (st, .inl (cS, 48, .inr (.inr (.inr (.inr g)))))]) [1, 2] rfl
  have hDc := (en_DD hD hDr hN0 hAb).sub (ws' := [] ++ [(pic, .inr (11, [.ref st, .ref sp, .ref ll, .int 0, .int 1600])), (st, .inl (cS, 48, .inr (.inr (.inr (.inr g)))))]) [1, 2] (by decide) rfl
  have hKc := hK.sub (tys' := [(cS, .object "Underpaint$Stack")]) [0] rfl
  have hFc := va_free (wc := []) hD hS hA [] rfl
  refine va_calli (va_runV (As := []) (rest := []) ⟨hx, hb, hml, hown, hts⟩ (c_X5_covered l dC dI b0 en s.heap.size pic st sp ll g cS N (fun a9 h9 => ⟨(hNb a9 h9).1, Nat.lt_of_lt_of_le (hNb a9 h9).2 hS.1⟩) (fun a9 h9 z9 => by have g1 := hNw a9 h9; have g2 := hNr a9 h9; have g3 := (hNb a9 h9).2; simp only [List.map_cons, List.map_nil, List.mem_cons, List.not_mem_nil, or_false, not_or] at g1 g2 z9 <;> omega) (fun a9 h9 z9 => by have g1 := hNw a9 h9; have g2 := hNr a9 h9; have g3 := (hNb a9 h9).2; simp only [List.map_cons, List.map_nil, List.mem_cons, List.not_mem_nil, or_false, not_or] at g1 g2 z9 <;> omega)) (cwV 0 hts go_c_X11_meanTone_0 rfl rfl rfl (by decide +kernel) ⟨Nat.le_of_ble_eq_true rfl, Nat.le_of_ble_eq_true rfl⟩) ⟨cP.blind, va_recv hK hR (ci := 11) (q0 := 1) rfl rfl, cP.use (en_z hb0 hS) (hE.on hAb hS) hPc hKc hDc (hF0.on (fun a9 h8 h9 => by rw [← hAe]; exact vA1 h8 (hNw a9 h9)) hS)⟩ rfl rfl hl.1 rfl (lv_room (Nat.le_of_ble_eq_true rfl)) dX11_meanTone_4 ⟨Nat.le_of_ble_eq_true rfl, Nat.le_of_ble_eq_true rfl⟩) hS (fun q _ h => hFc q h) hFc (fun r_1 u t H1 locs ht hvm hw hB hz1 hk1 hS => ?_)
  have hP1 : va_P (dC, dI) vwCl [] H1 := fun k q h => by simp at h
  have hD1 : va_D (va_A [] s.heap.size) [] := ⟨fun i j p q h => by simp at h, fun k q h => by simp at h⟩
  try dsimp only at hw
  obtain ⟨hP, hD⟩ := va_join (wr := []) (w1 := []) hP hD [] [] rfl rfl (by decide) (by decide) hk1 hFc hP1 hD1
  generalize H1 = H at hP hS ⊢
  have hP : va_P (dC, dI) vwCl [] H := hP
  have hD : va_D A [] := hD
  have hR := en_R hR0 hN0 hS
  refine W.widen (k := 0) (n := 0) (Nat.le_of_ble_eq_true rfl) (Nat.le_of_ble_eq_true rfl) ?_
  subst r_1
  refine lv_istore_n (lv' := [(1, .int 0), (0, .ref h)]) hx hb dX11_meanTone_7 rfl hl (by decide) rfl (fun ls hl => ?_)
  refine lv_iload_n hx hb dX11_meanTone_8 rfl (lv_at hl 0 rfl) ?_
  refine lv_if_le (tgt := 16) hx hb dX11_meanTone_9 (by decide) (fun c_2 => ?_) (fun c_2 => absurd c_2 (by decide))
  refine lv_iconst (v := 0) hx hb dX11_meanTone_16 (by decide) ?_
  have hPc := (hP.app hR).sub (ws' := [] ++ []) [] rfl
  have hDc := (en_DD hD hDr hN0 hAb).sub (ws' := [] ++ []) [] (by decide) rfl
  have hKc := hK.sub (tys' := []) [] rfl
  have hFc := va_free (wc := []) hD hS hA [] rfl
  refine vx_callv (vx_runS (As := [.int 0]) (rest := []) ⟨hx, hb, hml, hown, hts⟩ (c_X11_demandCovered l hst dC dI b0 en H.size 0) (va_cwS 1 hts go_c_X11_meanTone_1 rfl rfl rfl (by decide +kernel) ⟨Nat.le_of_ble_eq_true rfl, Nat.le_of_ble_eq_true rfl⟩) ⟨cP.blind, cP.use (en_z hb0 hS) (hE.on hAb hS) hPc hKc hDc trivial⟩ rfl rfl hl.1 rfl (lv_room (Nat.le_of_ble_eq_true rfl)) dX11_meanTone_17 ⟨Nat.le_of_ble_eq_true rfl, Nat.le_of_ble_eq_true rfl⟩) hS (fun q _ h => hFc q h) hFc (fun q _ h => hFc q h) (fun E ce q9 u t H1 locs ht hvm hpx hBX hz1 hk1 hS hce hcv hcl => ?_) (fun u t H1 locs ht hvm hw hB hz1 hk1 hS => ?_)
  · skip
    try dsimp only at hBX
    obtain ⟨rfl, hc⟩ := hBX
    refine vx_widen (k := 1) (n := 6) (Nat.le_of_ble_eq_true rfl) (Nat.le_of_ble_eq_true rfl) ?_
    exact vx_out (fun x hx => (hext x hx).elim) hlocks hce hcv hcl (fun t ht hW => ⟨(), trivial, ⟨rfl, trivial⟩, hS.F ht⟩) hS.2.2 (Nat.le_refl _) (Nat.le_refl _)
  have hP1 : va_P (dC, dI) vwCl [] H1 := fun k q h => by simp at h
  have hD1 : va_D (va_A [] H.size) [] := ⟨fun i j p q h => by simp at h, fun k q h => by simp at h⟩
  try dsimp only at hw
  obtain ⟨hP, hD⟩ := va_join (wr := []) (w1 := []) hP hD [] [] rfl rfl (by decide) (by decide) hk1 hFc hP1 hD1
  generalize H1 = H at hP hS ⊢
  have hP : va_P (dC, dI) vwCl [] H := hP
  have hD : va_D A [] := hD
  have hR := en_R hR0 hN0 hS
  refine W.widen (k := 1) (n := 6) (Nat.le_of_ble_eq_true rfl) (Nat.le_of_ble_eq_true rfl) ?_
  have h_4 := hw
  exact absurd h_4 (by decide)
