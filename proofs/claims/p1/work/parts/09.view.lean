theorem dX5_at_0 : decode cX5_at 0 = .ok (.aload_n 0, 1) := by decide +kernel
theorem dX5_at_1 : decode cX5_at 1 = .ok (.getfield 11, 3) := by decide +kernel
theorem dX5_at_4 : decode cX5_at 4 = .ok (.iload_n 1, 1) := by decide +kernel
theorem dX5_at_5 : decode cX5_at 5 = .ok (.iload_n 2, 1) := by decide +kernel
set_option maxRecDepth 20000 in
theorem ggX5_at_X11_placeOf : GoodIn wsX5_at wsX11_placeOf := goodIn_r _ [4] (by decide +kernel) (by decide +kernel)
set_option maxRecDepth 20000 in
theorem gX5_at_X11_placeOf_n36 : GoodIn wsX5_at (wsX11_placeOf) := ggX5_at_X11_placeOf
theorem dX5_at_6 : decode cX5_at 6 = .ok (.invokestatic 36, 3) := by decide +kernel
theorem dX5_at_9 : decode cX5_at 9 = .ok (.aaload, 1) := by decide +kernel
theorem dX5_at_10 : decode cX5_at 10 = .ok (.areturn, 1) := by decide +kernel
theorem dX11_layers_0 : decode cX11_layers 0 = .ok (.iload_n 1, 1) := by decide +kernel
theorem dX11_layers_1 : decode cX11_layers 1 = .ok (.iload_n 2, 1) := by decide +kernel
set_option maxRecDepth 20000 in
theorem ggX11_layers_X11_demandPlace : GoodIn wsX11_layers wsX11_demandPlace := goodIn_ca (goodIn_r _ [6, 7, 8, 9, 10, 5, 11] (by decide +kernel) (by decide +kernel)) (goodIn_sub (fun _ h => List.mem_cons_of_mem _ (List.mem_append_right _ h)) (by decide +kernel))
set_option maxRecDepth 20000 in
theorem gX11_layers_X11_demandPlace : GoodIn wsX11_layers (va_wsS RX11 176 yX11_demandPlace wsX11_demandPlace) := goodIn_app (goodIn_of _ (by decide +kernel)) ggX11_layers_X11_demandPlace
theorem dX11_layers_2 : decode cX11_layers 2 = .ok (.invokestatic 176, 3) := by decide +kernel
theorem dX11_layers_5 : decode cX11_layers 5 = .ok (.aload_n 0, 1) := by decide +kernel
theorem dX11_layers_6 : decode cX11_layers 6 = .ok (.getfield 62, 3) := by decide +kernel
theorem dX11_layers_9 : decode cX11_layers 9 = .ok (.iload_n 1, 1) := by decide +kernel
theorem dX11_layers_10 : decode cX11_layers 10 = .ok (.iload_n 2, 1) := by decide +kernel
set_option maxRecDepth 20000 in
theorem ggX11_layers_X5_at : GoodIn wsX11_layers wsX5_at := goodIn_r _ [16, 17, 18, 5, 19, 37, 38, 39, 40, 41] (by decide +kernel) (by decide +kernel)
set_option maxRecDepth 20000 in
theorem gX11_layers_X5_at : GoodIn wsX11_layers (wsV RX11 179 RX5 yX5_at wsX5_at) := goodIn_app (goodIn_of _ (by decide +kernel)) ggX11_layers_X5_at
theorem dX11_layers_11 : decode cX11_layers 11 = .ok (.invokevirtual 179, 3) := by decide +kernel
theorem dX11_layers_14 : decode cX11_layers 14 = .ok (.getfield 183, 3) := by decide +kernel
theorem dX11_layers_17 : decode cX11_layers 17 = .ok (.ireturn, 1) := by decide +kernel
theorem dX11_tired_0 : decode cX11_tired 0 = .ok (.iload_n 1, 1) := by decide +kernel
theorem dX11_tired_1 : decode cX11_tired 1 = .ok (.iload_n 2, 1) := by decide +kernel
set_option maxRecDepth 20000 in
theorem ggX11_tired_X11_demandPlace : GoodIn wsX11_tired wsX11_demandPlace := goodIn_ca (goodIn_r _ [6, 7, 8, 9, 10, 5, 11] (by decide +kernel) (by decide +kernel)) (goodIn_sub (fun _ h => List.mem_cons_of_mem _ (List.mem_append_right _ h)) (by decide +kernel))
set_option maxRecDepth 20000 in
theorem gX11_tired_X11_demandPlace : GoodIn wsX11_tired (va_wsS RX11 176 yX11_demandPlace wsX11_demandPlace) := goodIn_app (goodIn_of _ (by decide +kernel)) ggX11_tired_X11_demandPlace
theorem dX11_tired_2 : decode cX11_tired 2 = .ok (.invokestatic 176, 3) := by decide +kernel
theorem dX11_tired_5 : decode cX11_tired 5 = .ok (.aload_n 0, 1) := by decide +kernel
theorem dX11_tired_6 : decode cX11_tired 6 = .ok (.getfield 62, 3) := by decide +kernel
theorem dX11_tired_9 : decode cX11_tired 9 = .ok (.iload_n 1, 1) := by decide +kernel
theorem dX11_tired_10 : decode cX11_tired 10 = .ok (.iload_n 2, 1) := by decide +kernel
set_option maxRecDepth 20000 in
theorem ggX11_tired_X5_at : GoodIn wsX11_tired wsX5_at := goodIn_r _ [16, 17, 18, 5, 19, 37, 38, 39, 40, 41] (by decide +kernel) (by decide +kernel)
set_option maxRecDepth 20000 in
theorem gX11_tired_X5_at : GoodIn wsX11_tired (wsV RX11 179 RX5 yX5_at wsX5_at) := goodIn_app (goodIn_of _ (by decide +kernel)) ggX11_tired_X5_at
theorem dX11_tired_11 : decode cX11_tired 11 = .ok (.invokevirtual 179, 3) := by decide +kernel
theorem dX11_tired_14 : decode cX11_tired 14 = .ok (.getfield 200, 3) := by decide +kernel
theorem dX11_tired_17 : decode cX11_tired 17 = .ok (.ireturn, 1) := by decide +kernel
theorem dX8_plain_0 : decode cX8_plain 0 = .ok (.bipush 100, 2) := by decide +kernel
theorem dX8_plain_2 : decode cX8_plain 2 = .ok (.istore_n 1, 1) := by decide +kernel
theorem dX8_plain_3 : decode cX8_plain 3 = .ok (.iconst 0, 1) := by decide +kernel
theorem dX8_plain_4 : decode cX8_plain 4 = .ok (.istore_n 2, 1) := by decide +kernel
theorem dX8_plain_5 : decode cX8_plain 5 = .ok (.aload_n 0, 1) := by decide +kernel
theorem dX8_plain_6 : decode cX8_plain 6 = .ok (.getfield 20, 3) := by decide +kernel
theorem dX8_plain_9 : decode cX8_plain 9 = .ok (.iconst 1, 1) := by decide +kernel
theorem dX8_plain_10 : decode cX8_plain 10 = .ok (.isub, 1) := by decide +kernel
theorem dX8_plain_11 : decode cX8_plain 11 = .ok (.istore_n 3, 1) := by decide +kernel
theorem dX8_plain_12 : decode cX8_plain 12 = .ok (.iload_n 3, 1) := by decide +kernel
theorem dX8_plain_13 : decode cX8_plain 13 = .ok (.ifCond .lt 45, 3) := by decide +kernel
theorem dX8_plain_58 : decode cX8_plain 58 = .ok (.iload_n 2, 1) := by decide +kernel
theorem dX8_plain_59 : decode cX8_plain 59 = .ok (.iload_n 1, 1) := by decide +kernel
theorem dX8_plain_60 : decode cX8_plain 60 = .ok (.bipush 50, 2) := by decide +kernel
theorem dX8_plain_62 : decode cX8_plain 62 = .ok (.imul, 1) := by decide +kernel
theorem dX8_plain_63 : decode cX8_plain 63 = .ok (.iadd, 1) := by decide +kernel
theorem dX8_plain_64 : decode cX8_plain 64 = .ok (.bipush 100, 2) := by decide +kernel
theorem dX8_plain_66 : decode cX8_plain 66 = .ok (.idiv, 1) := by decide +kernel
theorem dX8_plain_67 : decode cX8_plain 67 = .ok (.ireturn, 1) := by decide +kernel
theorem dX8_heavy_0 : decode cX8_heavy 0 = .ok (.iconst 0, 1) := by decide +kernel
theorem dX8_heavy_1 : decode cX8_heavy 1 = .ok (.istore_n 1, 1) := by decide +kernel
theorem dX8_heavy_2 : decode cX8_heavy 2 = .ok (.iconst 0, 1) := by decide +kernel
theorem dX8_heavy_3 : decode cX8_heavy 3 = .ok (.istore_n 2, 1) := by decide +kernel
theorem dX8_heavy_4 : decode cX8_heavy 4 = .ok (.iload_n 2, 1) := by decide +kernel
theorem dX8_heavy_5 : decode cX8_heavy 5 = .ok (.aload_n 0, 1) := by decide +kernel
theorem dX8_heavy_6 : decode cX8_heavy 6 = .ok (.getfield 20, 3) := by decide +kernel
theorem dX8_heavy_9 : decode cX8_heavy 9 = .ok (.if_icmp .ge 34, 3) := by decide +kernel
theorem dX8_heavy_43 : decode cX8_heavy 43 = .ok (.iload_n 1, 1) := by decide +kernel
theorem dX8_heavy_44 : decode cX8_heavy 44 = .ok (.bipush 10, 2) := by decide +kernel
theorem dX8_heavy_46 : decode cX8_heavy 46 = .ok (.idiv, 1) := by decide +kernel
theorem dX8_heavy_47 : decode cX8_heavy 47 = .ok (.ireturn, 1) := by decide +kernel
theorem dX8_heat_0 : decode cX8_heat 0 = .ok (.aload_n 0, 1) := by decide +kernel
theorem dX8_heat_1 : decode cX8_heat 1 = .ok (.getfield 20, 3) := by decide +kernel
theorem dX8_heat_4 : decode cX8_heat 4 = .ok (.iconst 1, 1) := by decide +kernel
theorem dX8_heat_5 : decode cX8_heat 5 = .ok (.isub, 1) := by decide +kernel
theorem dX8_heat_6 : decode cX8_heat 6 = .ok (.istore_n 1, 1) := by decide +kernel
theorem dX8_heat_7 : decode cX8_heat 7 = .ok (.iload_n 1, 1) := by decide +kernel
theorem dX8_heat_8 : decode cX8_heat 8 = .ok (.ifCond .lt 37, 3) := by decide +kernel
theorem dX8_heat_45 : decode cX8_heat 45 = .ok (.iconst (-1), 1) := by decide +kernel
theorem dX8_heat_46 : decode cX8_heat 46 = .ok (.ireturn, 1) := by decide +kernel
theorem dX8_lampLight_0 : decode cX8_lampLight 0 = .ok (.aload_n 0, 1) := by decide +kernel
theorem dX8_lampLight_1 : decode cX8_lampLight 1 = .ok (.getfield 20, 3) := by decide +kernel
theorem dX8_lampLight_4 : decode cX8_lampLight 4 = .ok (.ifCond .le 29, 3) := by decide +kernel
theorem dX8_lampLight_33 : decode cX8_lampLight 33 = .ok (.iconst 0, 1) := by decide +kernel
theorem dX8_lampLight_34 : decode cX8_lampLight 34 = .ok (.ireturn, 1) := by decide +kernel
theorem dX8_height_0 : decode cX8_height 0 = .ok (.iconst 0, 1) := by decide +kernel
theorem dX8_height_1 : decode cX8_height 1 = .ok (.istore_n 1, 1) := by decide +kernel
theorem dX8_height_2 : decode cX8_height 2 = .ok (.iconst 0, 1) := by decide +kernel
theorem dX8_height_3 : decode cX8_height 3 = .ok (.istore_n 2, 1) := by decide +kernel
theorem dX8_height_4 : decode cX8_height 4 = .ok (.iload_n 2, 1) := by decide +kernel
theorem dX8_height_5 : decode cX8_height 5 = .ok (.aload_n 0, 1) := by decide +kernel
theorem dX8_height_6 : decode cX8_height 6 = .ok (.getfield 20, 3) := by decide +kernel
theorem dX8_height_9 : decode cX8_height 9 = .ok (.if_icmp .ge 21, 3) := by decide +kernel
theorem dX8_height_30 : decode cX8_height 30 = .ok (.iload_n 1, 1) := by decide +kernel
theorem dX8_height_31 : decode cX8_height 31 = .ok (.ireturn, 1) := by decide +kernel
theorem dX8_fadingRow_0 : decode cX8_fadingRow 0 = .ok (.aload_n 0, 1) := by decide +kernel
theorem dX8_fadingRow_1 : decode cX8_fadingRow 1 = .ok (.getfield 20, 3) := by decide +kernel
theorem dX8_fadingRow_4 : decode cX8_fadingRow 4 = .ok (.iconst 1, 1) := by decide +kernel
theorem dX8_fadingRow_5 : decode cX8_fadingRow 5 = .ok (.isub, 1) := by decide +kernel
theorem dX8_fadingRow_6 : decode cX8_fadingRow 6 = .ok (.istore_n 1, 1) := by decide +kernel
theorem dX8_fadingRow_7 : decode cX8_fadingRow 7 = .ok (.iload_n 1, 1) := by decide +kernel
theorem dX8_fadingRow_8 : decode cX8_fadingRow 8 = .ok (.ifCond .lt 45, 3) := by decide +kernel
theorem dX8_fadingRow_53 : decode cX8_fadingRow 53 = .ok (.iconst (-1), 1) := by decide +kernel
theorem dX8_fadingRow_54 : decode cX8_fadingRow 54 = .ok (.ireturn, 1) := by decide +kernel
theorem dX8_isFull_0 : decode cX8_isFull 0 = .ok (.aload_n 0, 1) := by decide +kernel
theorem dX8_isFull_1 : decode cX8_isFull 1 = .ok (.getfield 20, 3) := by decide +kernel
theorem dX8_isFull_4 : decode cX8_isFull 4 = .ok (.bipush 9, 2) := by decide +kernel
theorem dX8_isFull_6 : decode cX8_isFull 6 = .ok (.if_icmp .lt 7, 3) := by decide +kernel
theorem dX8_isFull_13 : decode cX8_isFull 13 = .ok (.iconst 0, 1) := by decide +kernel
theorem dX8_isFull_14 : decode cX8_isFull 14 = .ok (.ireturn, 1) := by decide +kernel
theorem dX8_isTopmost_0 : decode cX8_isTopmost 0 = .ok (.aload_n 0, 1) := by decide +kernel
theorem dX8_isTopmost_1 : decode cX8_isTopmost 1 = .ok (.getfield 20, 3) := by decide +kernel
theorem dX8_isTopmost_4 : decode cX8_isTopmost 4 = .ok (.ifCond .le 21, 3) := by decide +kernel
theorem dX8_isTopmost_25 : decode cX8_isTopmost 25 = .ok (.iconst 0, 1) := by decide +kernel
theorem dX8_isTopmost_26 : decode cX8_isTopmost 26 = .ok (.ireturn, 1) := by decide +kernel
theorem dX8_see_0 : decode cX8_see 0 = .ok (.iload_n 1, 1) := by decide +kernel
theorem dX8_see_1 : decode cX8_see 1 = .ok (.ifCond .ne 8, 3) := by decide +kernel
theorem dX8_see_4 : decode cX8_see 4 = .ok (.aload_n 0, 1) := by decide +kernel
set_option maxRecDepth 20000 in
theorem ggX8_see_X8_plain : GoodIn wsX8_see wsX8_plain := goodIn_r _ [5, 6, 7, 8, 9, 10, 11, 12, 13, 14, 15, 16, 17, 18, 19, 20, 21, 49, 50, 51, 52, 53, 54, 55, 56, 57, 58, 59, 60, 61, 62, 63, 64, 65, 66, 67] (by decide +kernel) (by decide +kernel)
set_option maxRecDepth 20000 in
theorem gX8_see_X8_plain : GoodIn wsX8_see (wsV RX8 51 RX8 yX8_plain wsX8_plain) := goodIn_app (goodIn_of _ (by decide +kernel)) ggX8_see_X8_plain
theorem dX8_see_5 : decode cX8_see 5 = .ok (.invokevirtual 51, 3) := by decide +kernel
theorem dX8_see_8 : decode cX8_see 8 = .ok (.ireturn, 1) := by decide +kernel
theorem dX8_see_9 : decode cX8_see 9 = .ok (.iload_n 1, 1) := by decide +kernel
theorem dX8_see_10 : decode cX8_see 10 = .ok (.iconst 1, 1) := by decide +kernel
theorem dX8_see_11 : decode cX8_see 11 = .ok (.if_icmp .ne 8, 3) := by decide +kernel
theorem dX8_see_14 : decode cX8_see 14 = .ok (.aload_n 0, 1) := by decide +kernel
set_option maxRecDepth 20000 in
theorem ggX8_see_X8_heavy : GoodIn wsX8_see wsX8_heavy := goodIn_r _ [25, 6, 7, 26, 27, 28, 49, 50, 51, 52, 53, 54, 55, 56, 57, 58, 59, 60, 61, 62, 63, 64, 65, 66, 67] (by decide +kernel) (by decide +kernel)
set_option maxRecDepth 20000 in
theorem gX8_see_X8_heavy : GoodIn wsX8_see (wsV RX8 55 RX8 yX8_heavy wsX8_heavy) := goodIn_app (goodIn_of _ (by decide +kernel)) ggX8_see_X8_heavy
theorem dX8_see_15 : decode cX8_see 15 = .ok (.invokevirtual 55, 3) := by decide +kernel
theorem dX8_see_18 : decode cX8_see 18 = .ok (.ireturn, 1) := by decide +kernel
theorem dX8_see_19 : decode cX8_see 19 = .ok (.iload_n 1, 1) := by decide +kernel
theorem dX8_see_20 : decode cX8_see 20 = .ok (.iconst 2, 1) := by decide +kernel
theorem dX8_see_21 : decode cX8_see 21 = .ok (.if_icmp .ne 10, 3) := by decide +kernel
theorem dX8_see_24 : decode cX8_see 24 = .ok (.aload_n 0, 1) := by decide +kernel
set_option maxRecDepth 20000 in
theorem ggX8_see_X8_heat : GoodIn wsX8_see wsX8_heat := goodIn_r _ [32, 6, 7, 26, 33, 34, 49, 50, 51, 52, 53, 54, 55, 56, 57, 58, 59, 60, 61, 62, 63, 64, 65, 66, 67] (by decide +kernel) (by decide +kernel)
set_option maxRecDepth 20000 in
theorem gX8_see_X8_heat : GoodIn wsX8_see (wsV RX8 58 RX8 yX8_heat wsX8_heat) := goodIn_app (goodIn_of _ (by decide +kernel)) ggX8_see_X8_heat
theorem dX8_see_25 : decode cX8_see 25 = .ok (.invokevirtual 58, 3) := by decide +kernel
theorem dX8_see_28 : decode cX8_see 28 = .ok (.goto 7, 3) := by decide +kernel
theorem dX8_see_35 : decode cX8_see 35 = .ok (.ireturn, 1) := by decide +kernel
theorem dX8_see_31 : decode cX8_see 31 = .ok (.aload_n 0, 1) := by decide +kernel
set_option maxRecDepth 20000 in
theorem ggX8_see_X8_lampLight : GoodIn wsX8_see wsX8_lampLight := goodIn_r _ [38, 6, 26, 39, 40, 41, 42, 43, 44, 45, 46, 47, 4, 48, 7, 49, 50, 51, 52, 53, 54, 55, 56, 57, 58, 59, 60, 61, 62, 63, 64, 65, 66, 67] (by decide +kernel) (by decide +kernel)
set_option maxRecDepth 20000 in
theorem gX8_see_X8_lampLight : GoodIn wsX8_see (wsV RX8 61 RX8 yX8_lampLight wsX8_lampLight) := goodIn_app (goodIn_of _ (by decide +kernel)) ggX8_see_X8_lampLight
theorem dX8_see_32 : decode cX8_see 32 = .ok (.invokevirtual 61, 3) := by decide +kernel
set_option maxHeartbeats 4000000 in
set_option maxRecDepth 100000 in
/-- Picture.at(x, y): the stack of the place i -/
theorem c_X5_at (l : Launch) (dC : Nat → ClassId) (dI : Nat → Nat → Nat) (b0 : Nat) (en : EnT) (sz : Nat) (q st sp ll : Nat) (i : Nat) (x y : Int32) (g : Nat → Option Nat) (cS : ClassId) (hi : i < 48) (hxy : y * 8 + x = nI i) : Met l yX5_at wsX5_at ({ frames := 1, cells := 0, slots := 0, locals := 30 } : Room) (cP b0 en (dC, dI) [(cS, .object "Underpaint$Stack")] [] [(q, .inr (11, [.ref st, .ref sp, .ref ll, .int 0, .int 1600])), (st, .inl (cS, 48, .inr (.inr (.inr (.inr g)))))] sz (fun _ => True) [.ref q, .int x, .int y]) (va_Qq (fun (r : Option Nat) (_ : Unit) => r = g i) (fun _ _ => True) (va_A [] sz)) 0 0 (va_A [] sz) := by
  refine Met.ofW (cc := cX5_at) (maxL := 3) (ret := (some (.object "Underpaint$Stack"))) (by decide) rfl ?_
  intro p e s m args below meth c s₁ B hml hv
  obtain ⟨rfl, hsz, hb0, hE, hPP, hK, hDD, hF0⟩ := hv
  have hx := B.exec
  have hb := B.bytes
  have hr := B.returns
  have hts := atoms_spec (ws := wsX5_at) B.pre
  have hown : s.vm.findClass RX5 = some m.cls := findClass_of_methodNamed B.named
  have hlocks := B.notSynchronized
  subst hsz
  have hN0 := en_N hPP hDD rfl
  have hP : va_P (dC, dI) vwCl [] s.heap := hPP.sub [] rfl
  have hR0 : va_P (dC, dI) vwCl [(q, .inr (11, [.ref st, .ref sp, .ref ll, .int 0, .int 1600])), (st, .inl (cS, 48, .inr (.inr (.inr (.inr g)))))] s.heap := hPP.sub [0, 1] rfl
  have hD0 : va_D (fun q => b0 ≤ q) [] := hDD.sub [] (by decide) rfl
  have hDr : va_D (fun q => b0 ≤ q) [(q, .inr (11, [.ref st, .ref sp, .ref ll, .int 0, .int 1600])), (st, .inl (cS, 48, .inr (.inr (.inr (.inr g)))))] := hDD.sub [0, 1] (by decide) rfl
  have hAb := en_A (sz := s.heap.size) hD0 hb0
  have hD := hD0.self (sz := s.heap.size)
  generalize hAe : va_A [] s.heap.size = A at hD hAb hN0 ⊢
  have hA : ∀ q : Nat, s.heap.size ≤ q → A q := fun q h => by rw [← hAe]; exact Or.inr h
  have hS : va_S A s.heap s.heap [] := va_S.rf
  have hR := hR0
  have hl := lv_entry [.ref q, .int x, .int y] (n := 3) (Nat.le_of_ble_eq_true rfl)
  rw [lg_entry_eq]
  generalize (lg_sl [.ref q, .int x, .int y] ++ List.replicate (3 - (lg_sl [.ref q, .int x, .int y]).length) Slot.unset).toArray = ls at hl ⊢
  have hl : lv_has ls 3 [(0, .ref q), (1, .int x), (2, .int y)] := hl
  refine lv_aload_n hx hb dX5_at_0 rfl (lv_at hl 0 rfl) ?_
  refine va_get (D := (dC, dI)) (ci := 11) (v := .ref st) (C := RX5) (T := TX5) (N := 5) hx hb hts (by decide +kernel) hown hK hR 0 rfl rfl 0 (by decide) (hts (.fieldLink RX5 11 "Underpaint$Picture" "stacks" "[LUnderpaint$Stack;") (by decide +kernel)) (fun _ h9 => h9) rfl dX5_at_1 ?_
  refine lv_iload_n hx hb dX5_at_4 rfl (lv_at hl 1 rfl) ?_
  refine lv_iload_n hx hb dX5_at_5 rfl (lv_at hl 2 rfl) ?_
  have hPc := (hP.app hR).sub (ws' := [] ++ []) [] rfl
  have hDc := (en_DD hD hDr hN0 hAb).sub (ws' := [] ++ []) [] (by decide) rfl
  have hKc := hK.sub (tys' := []) [] rfl
  have hFc := va_free (wc := []) hD hS hA [] rfl
  refine va_calli (va_runSN (As := [.int x, .int y]) (rest := [.ref st]) ⟨hx, hb, hml, hown, hts⟩ (c_X11_placeOf l dC dI b0 en s.heap.size x y) ⟨va_cnB 2 hts gX5_at_X11_placeOf_n36 rfl rfl rfl (hE.nm ("Underpaint$Picture", 36, ⟨"Underpaint", "placeOf", "(II)I"⟩, "Underpaint") (by decide +kernel)) (hts (.initialized RX11) (by decide +kernel)) (by decide +kernel) ⟨Nat.le_of_ble_eq_true rfl, Nat.le_of_ble_eq_true rfl⟩, hts (.static yX11_placeOf) (by decide +kernel), trivial⟩ ⟨cP.blind, cP.use (en_z hb0 hS) (hE.on hAb hS) hPc hKc hDc trivial⟩ rfl rfl hl.1 rfl (lv_room (Nat.le_of_ble_eq_true rfl)) dX5_at_6 ⟨Nat.le_of_ble_eq_true rfl, Nat.le_of_ble_eq_true rfl⟩) hS (fun q _ h => hFc q h) hFc (fun r_1 u t H1 locs ht hvm hw hB hz1 hk1 hS => ?_)
  have hP1 : va_P (dC, dI) vwCl [] H1 := fun k q h => by simp at h
  have hD1 : va_D (va_A [] s.heap.size) [] := ⟨fun i j p q h => by simp at h, fun k q h => by simp at h⟩
  try dsimp only at hw
  obtain ⟨hP, hD⟩ := va_join (wr := []) (w1 := []) hP hD [] [] rfl rfl (by decide) (by decide) hk1 hFc hP1 hD1
  generalize H1 = H at hP hS ⊢
  have hP : va_P (dC, dI) vwCl [] H := hP
  have hD : va_D A [] := hD
  have hR := en_R hR0 hN0 hS
  refine W.widen (k := 0) (n := 0) (Nat.le_of_ble_eq_true rfl) (Nat.le_of_ble_eq_true rfl) ?_
  have h1 := hw
  refine va_aldq hx hb hK hR 1 0 rfl rfl (pl_in hi (h1.trans hxy)) dX5_at_9 ?_
  refine W.widen (k := 0) (n := 0) (Nat.le_of_ble_eq_true rfl) (Nat.le_of_ble_eq_true rfl) ?_
  exact W.aret (v := va_rf (g r_1.toNatClampNeg)) hx hb hr (by first | exact Or.inl ⟨_, rfl⟩ | exact Or.inr ⟨_, rfl⟩) (by first | exact va_rf_or _ | exact Or.inr ⟨_, rfl⟩) (fun t ht hW => ⟨⟨(g r_1.toNatClampNeg), (), rfl, by rw [pl_cl hi (h1.trans hxy)], trivial⟩, hS.F ht⟩) hS.2.2 dX5_at_10
set_option maxHeartbeats 4000000 in
set_option maxRecDepth 100000 in
/-- nothing there -/
theorem c_X11_layers (l : Launch) (hst : l.stackTraces = false) (dC : Nat → ClassId) (dI : Nat → Nat → Nat) (b0 : Nat) (en : EnT) (sz : Nat) (h pal she fil nte dat vot loa nos pic spa st sp ll : Nat) (g : Nat → Option Nat) (cS : ClassId) (N : Nat → Prop) (x y : Int32) : vx_Met l yX11_layers wsX11_layers ({ frames := 8, cells := 1, slots := 6, locals := 140 } : Room) (cP b0 en (dC, dI) [(cS, .object "Underpaint$Stack")] [] [(h, .inr (17, [.ref pal, .ref she, .ref fil, .ref nte, .ref dat, .ref vot, .ref loa, .ref nos, .ref pic, .ref spa, .int 5, .int 50, .int 1600, .int 0])), (pic, .inr (11, [.ref st, .ref sp, .ref ll, .int 0, .int 1600])), (st, .inl (cS, 48, .inr (.inr (.inr (.inr g)))))] sz (FamS (dC, dI) N g) [.ref h, .int x, .int y]) (va_Qi (fun (r : Int32) (_ : Unit) => r = 0 ∧ ((0 ≤ x ∧ x < 8) ∧ (0 ≤ y ∧ y < 6))) (fun _ _ => True) (va_A [] sz)) (vx_X (fun _ : Unit => True) (fun E _ _ => (E = "java/lang/IllegalArgumentException" ∧ ¬ ((0 ≤ x ∧ x < 8) ∧ (0 ≤ y ∧ y < 6)))) (va_A [] sz)) 1 6 (va_A [] sz) := by
  refine vx_ofW (cc := cX11_layers) (maxL := 3) (ret := (some .int)) (by decide) rfl ?_
  intro p e s m args below meth c s₁ B hml hext hv
  obtain ⟨rfl, hsz, hb0, hE, hPP, hK, hDD, hF0⟩ := hv
  have hx := B.exec
  have hb := B.bytes
  have hr := B.returns
  have hts := atoms_spec (ws := wsX11_layers) B.pre
  have hown : s.vm.findClass RX11 = some m.cls := findClass_of_methodNamed B.named
  have hlocks := B.notSynchronized
  subst hsz
  have hN0 := en_N hPP hDD rfl
  have hP : va_P (dC, dI) vwCl [] s.heap := hPP.sub [] rfl
  have hR0 : va_P (dC, dI) vwCl [(h, .inr (17, [.ref pal, .ref she, .ref fil, .ref nte, .ref dat, .ref vot, .ref loa, .ref nos, .ref pic, .ref spa, .int 5, .int 50, .int 1600, .int 0])), (pic, .inr (11, [.ref st, .ref sp, .ref ll, .int 0, .int 1600])), (st, .inl (cS, 48, .inr (.inr (.inr (.inr g)))))] s.heap := hPP.sub [0, 1, 2] rfl
  have hD0 : va_D (fun q => b0 ≤ q) [] := hDD.sub [] (by decide) rfl
  have hDr : va_D (fun q => b0 ≤ q) [(h, .inr (17, [.ref pal, .ref she, .ref fil, .ref nte, .ref dat, .ref vot, .ref loa, .ref nos, .ref pic, .ref spa, .int 5, .int 50, .int 1600, .int 0])), (pic, .inr (11, [.ref st, .ref sp, .ref ll, .int 0, .int 1600])), (st, .inl (cS, 48, .inr (.inr (.inr (.inr g)))))] := hDD.sub [0, 1, 2] (by decide) rfl
  have hAb := en_A (sz := s.heap.size) hD0 hb0
  have hD := hD0.self (sz := s.heap.size)
  generalize hAe : va_A [] s.heap.size = A at hD hAb hN0 ⊢
  have hA : ∀ q : Nat, s.heap.size ≤ q → A q := fun q h => by rw [← hAe]; exact Or.inr h
  have hS : va_S A s.heap s.heap [] := va_S.rf
  have hR := hR0
  have hl := lv_entry [.ref h, .int x, .int y] (n := 3) (Nat.le_of_ble_eq_true rfl)
  rw [lg_entry_eq]
  generalize (lg_sl [.ref h, .int x, .int y] ++ List.replicate (3 - (lg_sl [.ref h, .int x, .int y]).length) Slot.unset).toArray = ls at hl ⊢
  have hl : lv_has ls 3 [(0, .ref h), (1, .int x), (2, .int y)] := hl
  refine lv_iload_n hx hb dX11_layers_0 rfl (lv_at hl 1 rfl) ?_
  refine lv_iload_n hx hb dX11_layers_1 rfl (lv_at hl 2 rfl) ?_
  have hPc := (hP.app hR).sub (ws' := [] ++ []) [] rfl
  have hDc := (en_DD hD hDr hN0 hAb).sub (ws' := [] ++ []) [] (by decide) rfl
  have hKc := hK.sub (tys' := []) [] rfl
  have hFc := va_free (wc := []) hD hS hA [] rfl
  refine vx_callv (vx_runS (As := [.int x, .int y]) (rest := []) ⟨hx, hb, hml, hown, hts⟩ (c_X11_demandPlace l hst dC dI b0 en s.heap.size x y) (va_cwS 2 hts gX11_layers_X11_demandPlace rfl rfl rfl (by decide +kernel) ⟨Nat.le_of_ble_eq_true rfl, Nat.le_of_ble_eq_true rfl⟩) ⟨cP.blind, cP.use (en_z hb0 hS) (hE.on hAb hS) hPc hKc hDc trivial⟩ rfl rfl hl.1 rfl (lv_room (Nat.le_of_ble_eq_true rfl)) dX11_layers_2 ⟨Nat.le_of_ble_eq_true rfl, Nat.le_of_ble_eq_true rfl⟩) hS (fun q _ h => hFc q h) hFc (fun q _ h => hFc q h) (fun E ce q9 u t H1 locs ht hvm hpx hBX hz1 hk1 hS hce hcv hcl => ?_) (fun u t H1 locs ht hvm hw hB hz1 hk1 hS => ?_)
  · skip
    try dsimp only at hBX
    obtain ⟨rfl, h⟩ := hBX
    refine vx_widen (k := 1) (n := 6) (Nat.le_of_ble_eq_true rfl) (Nat.le_of_ble_eq_true rfl) ?_
    exact vx_out (fun x hx => (hext x hx).elim) hlocks hce hcv hcl (fun t ht hW => ⟨(), trivial, ⟨rfl, h⟩, hS.F ht⟩) hS.2.2 (Nat.le_refl _) (Nat.le_refl _)
  have hP1 : va_P (dC, dI) vwCl [] H1 := fun k q h => by simp at h
  have hD1 : va_D (va_A [] s.heap.size) [] := ⟨fun i j p q h => by simp at h, fun k q h => by simp at h⟩
  try dsimp only at hw
  obtain ⟨hP, hD⟩ := va_join (wr := []) (w1 := []) hP hD [] [] rfl rfl (by decide) (by decide) hk1 hFc hP1 hD1
  generalize H1 = H at hP hS ⊢
  have hP : va_P (dC, dI) vwCl [] H := hP
  have hD : va_D A [] := hD
  have hR := en_R hR0 hN0 hS
  refine W.widen (k := 1) (n := 6) (Nat.le_of_ble_eq_true rfl) (Nat.le_of_ble_eq_true rfl) ?_
  have h_2 := hw
  obtain ⟨i_0, hi_0, hxy_0⟩ := pl_ix h_2
  obtain ⟨a_0, rw_0, hg_0, hat_0, hn_0⟩ := hF0 i_0 hi_0
  have hna_0 : ¬ A a_0 := by rw [← hAe]; exact vA0 hat_0.lt
  refine lv_aload_n hx hb dX11_layers_5 rfl (lv_at hl 0 rfl) ?_
  refine va_get (D := (dC, dI)) (ci := 17) (v := .ref pic) (C := RX11) (T := TX11) (N := 14) hx hb hts (by decide +kernel) hown hK hR 0 rfl rfl 8 (by decide) (hts (.fieldLink RX11 62 "Underpaint" "picture" "LUnderpaint$Picture;") (by decide +kernel)) (fun _ h9 => h9) rfl dX11_layers_6 ?_
  refine lv_iload_n hx hb dX11_layers_9 rfl (lv_at hl 1 rfl) ?_
  refine lv_iload_n hx hb dX11_layers_10 rfl (lv_at hl 2 rfl) ?_
  have hPc := (hP.app hR).sub (ws' := [] ++ [(pic, .inr (11, [.ref st, .ref sp, .ref ll, .int 0, .int 1600])), (st, .inl (cS, 48, .inr (.inr (.inr (.inr g)))))]) [1, 2] rfl
  have hDc := (en_DD hD hDr hN0 hAb).sub (ws' := [] ++ [(pic, .inr (11, [.ref st, .ref sp, .ref ll, .int 0, .int 1600])), (st, .inl (cS, 48, .inr (.inr (.inr (.inr g)))))]) [1, 2] (by decide) rfl
  have hKc := hK.sub (tys' := [(cS, .object "Underpaint$Stack")]) [0] rfl
  have hFc := va_free (wc := []) hD hS hA [] rfl
  refine va_callq (va_runV (As := [.int x, .int y]) (rest := []) ⟨hx, hb, hml, hown, hts⟩ (c_X5_at l dC dI b0 en H.size pic st sp ll i_0 x y g cS hi_0 hxy_0) (cwV 2 hts gX11_layers_X5_at rfl rfl rfl (by decide +kernel) ⟨Nat.le_of_ble_eq_true rfl, Nat.le_of_ble_eq_true rfl⟩) ⟨cP.blind, va_recv hK hR (ci := 11) (q0 := 1) rfl rfl, cP.use (en_z hb0 hS) (hE.on hAb hS) hPc hKc hDc trivial⟩ rfl rfl hl.1 rfl (lv_room (Nat.le_of_ble_eq_true rfl)) dX11_layers_11 ⟨Nat.le_of_ble_eq_true rfl, Nat.le_of_ble_eq_true rfl⟩) hS (fun q _ h => hFc q h) hFc (fun r_3 u t H1 locs ht hvm hw hB hz1 hk1 hS => ?_)
  have hP1 : va_P (dC, dI) vwCl [] H1 := fun k q h => by simp at h
  have hD1 : va_D (va_A [] H.size) [] := ⟨fun i j p q h => by simp at h, fun k q h => by simp at h⟩
  try dsimp only at hw
  obtain ⟨hP, hD⟩ := va_join (wr := []) (w1 := []) hP hD [] [] rfl rfl (by decide) (by decide) hk1 hFc hP1 hD1
  generalize H1 = H at hP hS ⊢
  have hP : va_P (dC, dI) vwCl [] H := hP
  have hD : va_D A [] := hD
  have hR := en_R hR0 hN0 hS
  refine W.widen (k := 1) (n := 6) (Nat.le_of_ble_eq_true rfl) (Nat.le_of_ble_eq_true rfl) ?_
  obtain rfl : r_3 = some a_0 := hw.trans hg_0
  have hfa := va1 (hat_0.kept (hS.2.1 _ hat_0.lt hna_0))
  refine va_get (D := (dC, dI)) (ci := 14) (v := .int 0) (C := RX8) (T := TX8) (N := 3) hx hb hts (by decide +kernel) hown hK hfa 0 rfl rfl 1 (by decide) (hts (.fieldLink RX11 183 "Underpaint$Stack" "size" "I") (by decide +kernel)) (fun _ h9 => h9) rfl dX11_layers_14 ?_
  refine W.widen (k := 1) (n := 6) (Nat.le_of_ble_eq_true rfl) (Nat.le_of_ble_eq_true rfl) ?_
  refine vx_ret ?_
  exact W.iret (v := 0) hx hb hr (fun t ht hW => ⟨⟨0, (), rfl, ⟨rfl, h_2⟩, trivial⟩, hS.F ht⟩) hS.2.2 dX11_layers_17
set_option maxHeartbeats 4000000 in
set_option maxRecDepth 100000 in
/-- nothing there -/
theorem c_X11_tired (l : Launch) (hst : l.stackTraces = false) (dC : Nat → ClassId) (dI : Nat → Nat → Nat) (b0 : Nat) (en : EnT) (sz : Nat) (h pal she fil nte dat vot loa nos pic spa st sp ll : Nat) (g : Nat → Option Nat) (cS : ClassId) (N : Nat → Prop) (x y : Int32) : vx_Met l yX11_tired wsX11_tired ({ frames := 8, cells := 1, slots := 6, locals := 140 } : Room) (cP b0 en (dC, dI) [(cS, .object "Underpaint$Stack")] [] [(h, .inr (17, [.ref pal, .ref she, .ref fil, .ref nte, .ref dat, .ref vot, .ref loa, .ref nos, .ref pic, .ref spa, .int 5, .int 50, .int 1600, .int 0])), (pic, .inr (11, [.ref st, .ref sp, .ref ll, .int 0, .int 1600])), (st, .inl (cS, 48, .inr (.inr (.inr (.inr g)))))] sz (FamS (dC, dI) N g) [.ref h, .int x, .int y]) (va_Qi (fun (r : Int32) (_ : Unit) => r = 0 ∧ ((0 ≤ x ∧ x < 8) ∧ (0 ≤ y ∧ y < 6))) (fun _ _ => True) (va_A [] sz)) (vx_X (fun _ : Unit => True) (fun E _ _ => (E = "java/lang/IllegalArgumentException" ∧ ¬ ((0 ≤ x ∧ x < 8) ∧ (0 ≤ y ∧ y < 6)))) (va_A [] sz)) 1 6 (va_A [] sz) := by
  refine vx_ofW (cc := cX11_tired) (maxL := 3) (ret := (some .int)) (by decide) rfl ?_
  intro p e s m args below meth c s₁ B hml hext hv
  obtain ⟨rfl, hsz, hb0, hE, hPP, hK, hDD, hF0⟩ := hv
  have hx := B.exec
  have hb := B.bytes
  have hr := B.returns
  have hts := atoms_spec (ws := wsX11_tired) B.pre
  have hown : s.vm.findClass RX11 = some m.cls := findClass_of_methodNamed B.named
  have hlocks := B.notSynchronized
  subst hsz
  have hN0 := en_N hPP hDD rfl
  have hP : va_P (dC, dI) vwCl [] s.heap := hPP.sub [] rfl
  have hR0 : va_P (dC, dI) vwCl [(h, .inr (17, [.ref pal, .ref she, .ref fil, .ref nte, .ref dat, .ref vot, .ref loa, .ref nos, .ref pic, .ref spa, .int 5, .int 50, .int 1600, .int 0])), (pic, .inr (11, [.ref st, .ref sp, .ref ll, .int 0, .int 1600])), (st, .inl (cS, 48, .inr (.inr (.inr (.inr g)))))] s.heap := hPP.sub [0, 1, 2] rfl
  have hD0 : va_D (fun q => b0 ≤ q) [] := hDD.sub [] (by decide) rfl
  have hDr : va_D (fun q => b0 ≤ q) [(h, .inr (17, [.ref pal, .ref she, .ref fil, .ref nte, .ref dat, .ref vot, .ref loa, .ref nos, .ref pic, .ref spa, .int 5, .int 50, .int 1600, .int 0])), (pic, .inr (11, [.ref st, .ref sp, .ref ll, .int 0, .int 1600])), (st, .inl (cS, 48, .inr (.inr (.inr (.inr g)))))] := hDD.sub [0, 1, 2] (by decide) rfl
  have hAb := en_A (sz := s.heap.size) hD0 hb0
  have hD := hD0.self (sz := s.heap.size)
  generalize hAe : va_A [] s.heap.size = A at hD hAb hN0 ⊢
  have hA : ∀ q : Nat, s.heap.size ≤ q → A q := fun q h => by rw [← hAe]; exact Or.inr h
  have hS : va_S A s.heap s.heap [] := va_S.rf
  have hR := hR0
  have hl := lv_entry [.ref h, .int x, .int y] (n := 3) (Nat.le_of_ble_eq_true rfl)
  rw [lg_entry_eq]
  generalize (lg_sl [.ref h, .int x, .int y] ++ List.replicate (3 - (lg_sl [.ref h, .int x, .int y]).length) Slot.unset).toArray = ls at hl ⊢
  have hl : lv_has ls 3 [(0, .ref h), (1, .int x), (2, .int y)] := hl
  refine lv_iload_n hx hb dX11_tired_0 rfl (lv_at hl 1 rfl) ?_
  refine lv_iload_n hx hb dX11_tired_1 rfl (lv_at hl 2 rfl) ?_
  have hPc := (hP.app hR).sub (ws' := [] ++ []) [] rfl
  have hDc := (en_DD hD hDr hN0 hAb).sub (ws' := [] ++ []) [] (by decide) rfl
  have hKc := hK.sub (tys' := []) [] rfl
  have hFc := va_free (wc := []) hD hS hA [] rfl
  refine vx_callv (vx_runS (As := [.int x, .int y]) (rest := []) ⟨hx, hb, hml, hown, hts⟩ (c_X11_demandPlace l hst dC dI b0 en s.heap.size x y) (va_cwS 2 hts gX11_tired_X11_demandPlace rfl rfl rfl (by decide +kernel) ⟨Nat.le_of_ble_eq_true rfl, Nat.le_of_ble_eq_true rfl⟩) ⟨cP.blind, cP.use (en_z hb0 hS) (hE.on hAb hS) hPc hKc hDc trivial⟩ rfl rfl hl.1 rfl (lv_room (Nat.le_of_ble_eq_true rfl)) dX11_tired_2 ⟨Nat.le_of_ble_eq_true rfl, Nat.le_of_ble_eq_true rfl⟩) hS (fun q _ h => hFc q h) hFc (fun q _ h => hFc q h) (fun E ce q9 u t H1 locs ht hvm hpx hBX hz1 hk1 hS hce hcv hcl => ?_) (fun u t H1 locs ht hvm hw hB hz1 hk1 hS => ?_)
  · skip
    try dsimp only at hBX
    obtain ⟨rfl, h⟩ := hBX
    refine vx_widen (k := 1) (n := 6) (Nat.le_of_ble_eq_true rfl) (Nat.le_of_ble_eq_true rfl) ?_
    exact vx_out (fun x hx => (hext x hx).elim) hlocks hce hcv hcl (fun t ht hW => ⟨(), trivial, ⟨rfl, h⟩, hS.F ht⟩) hS.2.2 (Nat.le_refl _) (Nat.le_refl _)
  have hP1 : va_P (dC, dI) vwCl [] H1 := fun k q h => by simp at h
  have hD1 : va_D (va_A [] s.heap.size) [] := ⟨fun i j p q h => by simp at h, fun k q h => by simp at h⟩
  try dsimp only at hw
  obtain ⟨hP, hD⟩ := va_join (wr := []) (w1 := []) hP hD [] [] rfl rfl (by decide) (by decide) hk1 hFc hP1 hD1
  generalize H1 = H at hP hS ⊢
  have hP : va_P (dC, dI) vwCl [] H := hP
  have hD : va_D A [] := hD
  have hR := en_R hR0 hN0 hS
  refine W.widen (k := 1) (n := 6) (Nat.le_of_ble_eq_true rfl) (Nat.le_of_ble_eq_true rfl) ?_
  have h_2 := hw
  obtain ⟨i_0, hi_0, hxy_0⟩ := pl_ix h_2
  obtain ⟨a_0, rw_0, hg_0, hat_0, hn_0⟩ := hF0 i_0 hi_0
  have hna_0 : ¬ A a_0 := by rw [← hAe]; exact vA0 hat_0.lt
  refine lv_aload_n hx hb dX11_tired_5 rfl (lv_at hl 0 rfl) ?_
  refine va_get (D := (dC, dI)) (ci := 17) (v := .ref pic) (C := RX11) (T := TX11) (N := 14) hx hb hts (by decide +kernel) hown hK hR 0 rfl rfl 8 (by decide) (hts (.fieldLink RX11 62 "Underpaint" "picture" "LUnderpaint$Picture;") (by decide +kernel)) (fun _ h9 => h9) rfl dX11_tired_6 ?_
  refine lv_iload_n hx hb dX11_tired_9 rfl (lv_at hl 1 rfl) ?_
  refine lv_iload_n hx hb dX11_tired_10 rfl (lv_at hl 2 rfl) ?_
  have hPc := (hP.app hR).sub (ws' := [] ++ [(pic, .inr (11, [.ref st, .ref sp, .ref ll, .int 0, .int 1600])), (st, .inl (cS, 48, .inr (.inr (.inr (.inr g)))))]) [1, 2] rfl
  have hDc := (en_DD hD hDr hN0 hAb).sub (ws' := [] ++ [(pic, .inr (11, [.ref st, .ref sp, .ref ll, .int 0, .int 1600])), (st, .inl (cS, 48, .inr (.inr (.inr (.inr g)))))]) [1, 2] (by decide) rfl
  have hKc := hK.sub (tys' := [(cS, .object "Underpaint$Stack")]) [0] rfl
  have hFc := va_free (wc := []) hD hS hA [] rfl
  refine va_callq (va_runV (As := [.int x, .int y]) (rest := []) ⟨hx, hb, hml, hown, hts⟩ (c_X5_at l dC dI b0 en H.size pic st sp ll i_0 x y g cS hi_0 hxy_0) (cwV 2 hts gX11_tired_X5_at rfl rfl rfl (by decide +kernel) ⟨Nat.le_of_ble_eq_true rfl, Nat.le_of_ble_eq_true rfl⟩) ⟨cP.blind, va_recv hK hR (ci := 11) (q0 := 1) rfl rfl, cP.use (en_z hb0 hS) (hE.on hAb hS) hPc hKc hDc trivial⟩ rfl rfl hl.1 rfl (lv_room (Nat.le_of_ble_eq_true rfl)) dX11_tired_11 ⟨Nat.le_of_ble_eq_true rfl, Nat.le_of_ble_eq_true rfl⟩) hS (fun q _ h => hFc q h) hFc (fun r_3 u t H1 locs ht hvm hw hB hz1 hk1 hS => ?_)
  have hP1 : va_P (dC, dI) vwCl [] H1 := fun k q h => by simp at h
  have hD1 : va_D (va_A [] H.size) [] := ⟨fun i j p q h => by simp at h, fun k q h => by simp at h⟩
  try dsimp only at hw
  obtain ⟨hP, hD⟩ := va_join (wr := []) (w1 := []) hP hD [] [] rfl rfl (by decide) (by decide) hk1 hFc hP1 hD1
  generalize H1 = H at hP hS ⊢
  have hP : va_P (dC, dI) vwCl [] H := hP
  have hD : va_D A [] := hD
  have hR := en_R hR0 hN0 hS
  refine W.widen (k := 1) (n := 6) (Nat.le_of_ble_eq_true rfl) (Nat.le_of_ble_eq_true rfl) ?_
  obtain rfl : r_3 = some a_0 := hw.trans hg_0
  have hfa := va1 (hat_0.kept (hS.2.1 _ hat_0.lt hna_0))
  refine va_get (D := (dC, dI)) (ci := 14) (v := .int 0) (C := RX8) (T := TX8) (N := 3) hx hb hts (by decide +kernel) hown hK hfa 0 rfl rfl 2 (by decide) (hts (.fieldLink RX11 200 "Underpaint$Stack" "tiredness" "I") (by decide +kernel)) (fun _ h9 => h9) rfl dX11_tired_14 ?_
  refine W.widen (k := 1) (n := 6) (Nat.le_of_ble_eq_true rfl) (Nat.le_of_ble_eq_true rfl) ?_
  refine vx_ret ?_
  exact W.iret (v := 0) hx hb hr (fun t ht hW => ⟨⟨0, (), rfl, ⟨rfl, h_2⟩, trivial⟩, hS.F ht⟩) hS.2.2 dX11_tired_17
set_option maxHeartbeats 4000000 in
set_option maxRecDepth 100000 in
/-- of a stack without layers -/
theorem c_X8_plain (l : Launch) (dC : Nat → ClassId) (dI : Nat → Nat → Nat) (b0 : Nat) (en : EnT) (sz : Nat) (a rw : Nat) : Met l yX8_plain wsX8_plain ({ frames := 0, cells := 0, slots := 0, locals := 0 } : Room) (cP b0 en (dC, dI) [] [] [(a, .inr (14, [.ref rw, .int 0, .int 0]))] sz (fun _ => True) [.ref a]) (va_Qi (fun (r : Int32) (_ : Unit) => r = 50) (fun _ _ => True) (va_A [] sz)) 0 0 (va_A [] sz) := by
  refine Met.ofW (cc := cX8_plain) (maxL := 5) (ret := (some .int)) (by decide) rfl ?_
  intro p e s m args below meth c s₁ B hml hv
  obtain ⟨rfl, hsz, hb0, hE, hPP, hK, hDD, hF0⟩ := hv
  have hx := B.exec
  have hb := B.bytes
  have hr := B.returns
  have hts := atoms_spec (ws := wsX8_plain) B.pre
  have hown : s.vm.findClass RX8 = some m.cls := findClass_of_methodNamed B.named
  have hlocks := B.notSynchronized
  subst hsz
  have hN0 := en_N hPP hDD rfl
  have hP : va_P (dC, dI) vwCl [] s.heap := hPP.sub [] rfl
  have hR0 : va_P (dC, dI) vwCl [(a, .inr (14, [.ref rw, .int 0, .int 0]))] s.heap := hPP.sub [0] rfl
  have hD0 : va_D (fun q => b0 ≤ q) [] := hDD.sub [] (by decide) rfl
  have hDr : va_D (fun q => b0 ≤ q) [(a, .inr (14, [.ref rw, .int 0, .int 0]))] := hDD.sub [0] (by decide) rfl
  have hAb := en_A (sz := s.heap.size) hD0 hb0
  have hD := hD0.self (sz := s.heap.size)
  generalize hAe : va_A [] s.heap.size = A at hD hAb hN0 ⊢
  have hA : ∀ q : Nat, s.heap.size ≤ q → A q := fun q h => by rw [← hAe]; exact Or.inr h
  have hS : va_S A s.heap s.heap [] := va_S.rf
  have hR := hR0
  have hl := lv_entry [.ref a] (n := 5) (Nat.le_of_ble_eq_true rfl)
  rw [lg_entry_eq]
  generalize (lg_sl [.ref a] ++ List.replicate (5 - (lg_sl [.ref a]).length) Slot.unset).toArray = ls at hl ⊢
  have hl : lv_has ls 5 [(0, .ref a)] := hl
  refine lv_bipush (v := 100) hx hb dX8_plain_0 (by decide) ?_
  refine lv_istore_n (lv' := [(1, .int 100), (0, .ref a)]) hx hb dX8_plain_2 rfl hl (by decide) rfl (fun ls hl => ?_)
  refine lv_iconst (v := 0) hx hb dX8_plain_3 (by decide) ?_
  refine lv_istore_n (lv' := [(2, .int 0), (1, .int 100), (0, .ref a)]) hx hb dX8_plain_4 rfl hl (by decide) rfl (fun ls hl => ?_)
  refine lv_aload_n hx hb dX8_plain_5 rfl (lv_at hl 2 rfl) ?_
  refine va_get (D := (dC, dI)) (ci := 14) (v := .int 0) (C := RX8) (T := TX8) (N := 3) hx hb hts (by decide +kernel) hown hK hR 0 rfl rfl 1 (by decide) (hts (.fieldLink RX8 20 "Underpaint$Stack" "size" "I") (by decide +kernel)) (fun _ h9 => h9) rfl dX8_plain_6 ?_
  refine lv_iconst (v := 1) hx hb dX8_plain_9 (by decide) ?_
  refine lv_isub hx hb dX8_plain_10 ?_
  refine lv_topi (fun x_1 ex_1 => ?_)
  obtain rfl : x_1 = (-1) := ex_1.trans (by decide)
  refine lv_istore_n (lv' := [(3, .int (-1)), (2, .int 0), (1, .int 100), (0, .ref a)]) hx hb dX8_plain_11 rfl hl (by decide) rfl (fun ls hl => ?_)
  refine lv_iload_n hx hb dX8_plain_12 rfl (lv_at hl 0 rfl) ?_
  refine lv_if_lt (tgt := 58) hx hb dX8_plain_13 (by decide) (fun c_2 => ?_) (fun c_2 => absurd c_2 (by decide))
  refine lv_iload_n hx hb dX8_plain_58 rfl (lv_at hl 1 rfl) ?_
  refine lv_iload_n hx hb dX8_plain_59 rfl (lv_at hl 2 rfl) ?_
  refine lv_bipush (v := 50) hx hb dX8_plain_60 (by decide) ?_
  refine lv_imul hx hb dX8_plain_62 ?_
  refine lv_topi (fun x_3 ex_3 => ?_)
  obtain rfl : x_3 = 5000 := ex_3.trans (by decide)
  refine lv_iadd hx hb dX8_plain_63 ?_
  refine lv_topi (fun x_4 ex_4 => ?_)
  obtain rfl : x_4 = 5000 := ex_4.trans (by decide)
  refine lv_bipush (v := 100) hx hb dX8_plain_64 (by decide) ?_
  refine lv_idiv hx hb dX8_plain_66 (by decide) ?_
  refine lv_topi (fun x_5 ex_5 => ?_)
  obtain rfl : x_5 = 50 := ex_5.trans (by decide)
  refine W.widen (k := 0) (n := 0) (Nat.le_of_ble_eq_true rfl) (Nat.le_of_ble_eq_true rfl) ?_
  exact W.iret (v := 50) hx hb hr (fun t ht hW => ⟨⟨50, (), rfl, rfl, trivial⟩, hS.F ht⟩) hS.2.2 dX8_plain_67
set_option maxHeartbeats 4000000 in
set_option maxRecDepth 100000 in
/-- of a stack without layers -/
theorem c_X8_heavy (l : Launch) (dC : Nat → ClassId) (dI : Nat → Nat → Nat) (b0 : Nat) (en : EnT) (sz : Nat) (a rw : Nat) : Met l yX8_heavy wsX8_heavy ({ frames := 0, cells := 0, slots := 0, locals := 0 } : Room) (cP b0 en (dC, dI) [] [] [(a, .inr (14, [.ref rw, .int 0, .int 0]))] sz (fun _ => True) [.ref a]) (va_Qi (fun (r : Int32) (_ : Unit) => r = 0) (fun _ _ => True) (va_A [] sz)) 0 0 (va_A [] sz) := by
  refine Met.ofW (cc := cX8_heavy) (maxL := 3) (ret := (some .int)) (by decide) rfl ?_
  intro p e s m args below meth c s₁ B hml hv
  obtain ⟨rfl, hsz, hb0, hE, hPP, hK, hDD, hF0⟩ := hv
  have hx := B.exec
  have hb := B.bytes
  have hr := B.returns
  have hts := atoms_spec (ws := wsX8_heavy) B.pre
  have hown : s.vm.findClass RX8 = some m.cls := findClass_of_methodNamed B.named
  have hlocks := B.notSynchronized
  subst hsz
  have hN0 := en_N hPP hDD rfl
  have hP : va_P (dC, dI) vwCl [] s.heap := hPP.sub [] rfl
  have hR0 : va_P (dC, dI) vwCl [(a, .inr (14, [.ref rw, .int 0, .int 0]))] s.heap := hPP.sub [0] rfl
  have hD0 : va_D (fun q => b0 ≤ q) [] := hDD.sub [] (by decide) rfl
  have hDr : va_D (fun q => b0 ≤ q) [(a, .inr (14, [.ref rw, .int 0, .int 0]))] := hDD.sub [0] (by decide) rfl
  have hAb := en_A (sz := s.heap.size) hD0 hb0
  have hD := hD0.self (sz := s.heap.size)
  generalize hAe : va_A [] s.heap.size = A at hD hAb hN0 ⊢
  have hA : ∀ q : Nat, s.heap.size ≤ q → A q := fun q h => by rw [← hAe]; exact Or.inr h
  have hS : va_S A s.heap s.heap [] := va_S.rf
  have hR := hR0
  have hl := lv_entry [.ref a] (n := 3) (Nat.le_of_ble_eq_true rfl)
  rw [lg_entry_eq]
  generalize (lg_sl [.ref a] ++ List.replicate (3 - (lg_sl [.ref a]).length) Slot.unset).toArray = ls at hl ⊢
  have hl : lv_has ls 3 [(0, .ref a)] := hl
  refine lv_iconst (v := 0) hx hb dX8_heavy_0 (by decide) ?_
  refine lv_istore_n (lv' := [(1, .int 0), (0, .ref a)]) hx hb dX8_heavy_1 rfl hl (by decide) rfl (fun ls hl => ?_)
  refine lv_iconst (v := 0) hx hb dX8_heavy_2 (by decide) ?_
  refine lv_istore_n (lv' := [(2, .int 0), (1, .int 0), (0, .ref a)]) hx hb dX8_heavy_3 rfl hl (by decide) rfl (fun ls hl => ?_)
  refine lv_iload_n hx hb dX8_heavy_4 rfl (lv_at hl 0 rfl) ?_
  refine lv_aload_n hx hb dX8_heavy_5 rfl (lv_at hl 2 rfl) ?_
  refine va_get (D := (dC, dI)) (ci := 14) (v := .int 0) (C := RX8) (T := TX8) (N := 3) hx hb hts (by decide +kernel) hown hK hR 0 rfl rfl 1 (by decide) (hts (.fieldLink RX8 20 "Underpaint$Stack" "size" "I") (by decide +kernel)) (fun _ h9 => h9) rfl dX8_heavy_6 ?_
  refine lv_icmp_ge (tgt := 43) hx hb dX8_heavy_9 (by decide) (fun c_1 => ?_) (fun c_1 => absurd c_1 (by decide))
  refine lv_iload_n hx hb dX8_heavy_43 rfl (lv_at hl 1 rfl) ?_
  refine lv_bipush (v := 10) hx hb dX8_heavy_44 (by decide) ?_
  refine lv_idiv hx hb dX8_heavy_46 (by decide) ?_
  refine lv_topi (fun x_2 ex_2 => ?_)
  obtain rfl : x_2 = 0 := ex_2.trans (by decide)
  refine W.widen (k := 0) (n := 0) (Nat.le_of_ble_eq_true rfl) (Nat.le_of_ble_eq_true rfl) ?_
  exact W.iret (v := 0) hx hb hr (fun t ht hW => ⟨⟨0, (), rfl, rfl, trivial⟩, hS.F ht⟩) hS.2.2 dX8_heavy_47
set_option maxHeartbeats 4000000 in
set_option maxRecDepth 100000 in
/-- of a stack without layers -/
theorem c_X8_heat (l : Launch) (dC : Nat → ClassId) (dI : Nat → Nat → Nat) (b0 : Nat) (en : EnT) (sz : Nat) (a rw : Nat) : Met l yX8_heat wsX8_heat ({ frames := 0, cells := 0, slots := 0, locals := 0 } : Room) (cP b0 en (dC, dI) [] [] [(a, .inr (14, [.ref rw, .int 0, .int 0]))] sz (fun _ => True) [.ref a]) (va_Qi (fun (r : Int32) (_ : Unit) => r = -1) (fun _ _ => True) (va_A [] sz)) 0 0 (va_A [] sz) := by
  refine Met.ofW (cc := cX8_heat) (maxL := 2) (ret := (some .int)) (by decide) rfl ?_
  intro p e s m args below meth c s₁ B hml hv
  obtain ⟨rfl, hsz, hb0, hE, hPP, hK, hDD, hF0⟩ := hv
  have hx := B.exec
  have hb := B.bytes
  have hr := B.returns
  have hts := atoms_spec (ws := wsX8_heat) B.pre
  have hown : s.vm.findClass RX8 = some m.cls := findClass_of_methodNamed B.named
  have hlocks := B.notSynchronized
  subst hsz
  have hN0 := en_N hPP hDD rfl
  have hP : va_P (dC, dI) vwCl [] s.heap := hPP.sub [] rfl
  have hR0 : va_P (dC, dI) vwCl [(a, .inr (14, [.ref rw, .int 0, .int 0]))] s.heap := hPP.sub [0] rfl
  have hD0 : va_D (fun q => b0 ≤ q) [] := hDD.sub [] (by decide) rfl
  have hDr : va_D (fun q => b0 ≤ q) [(a, .inr (14, [.ref rw, .int 0, .int 0]))] := hDD.sub [0] (by decide) rfl
  have hAb := en_A (sz := s.heap.size) hD0 hb0
  have hD := hD0.self (sz := s.heap.size)
  generalize hAe : va_A [] s.heap.size = A at hD hAb hN0 ⊢
  have hA : ∀ q : Nat, s.heap.size ≤ q → A q := fun q h => by rw [← hAe]; exact Or.inr h
  have hS : va_S A s.heap s.heap [] := va_S.rf
  have hR := hR0
  have hl := lv_entry [.ref a] (n := 2) (Nat.le_of_ble_eq_true rfl)
  rw [lg_entry_eq]
  generalize (lg_sl [.ref a] ++ List.replicate (2 - (lg_sl [.ref a]).length) Slot.unset).toArray = ls at hl ⊢
  have hl : lv_has ls 2 [(0, .ref a)] := hl
  refine lv_aload_n hx hb dX8_heat_0 rfl (lv_at hl 0 rfl) ?_
  refine va_get (D := (dC, dI)) (ci := 14) (v := .int 0) (C := RX8) (T := TX8) (N := 3) hx hb hts (by decide +kernel) hown hK hR 0 rfl rfl 1 (by decide) (hts (.fieldLink RX8 20 "Underpaint$Stack" "size" "I") (by decide +kernel)) (fun _ h9 => h9) rfl dX8_heat_1 ?_
  refine lv_iconst (v := 1) hx hb dX8_heat_4 (by decide) ?_
  refine lv_isub hx hb dX8_heat_5 ?_
  refine lv_topi (fun x_1 ex_1 => ?_)
  obtain rfl : x_1 = (-1) := ex_1.trans (by decide)
  refine lv_istore_n (lv' := [(1, .int (-1)), (0, .ref a)]) hx hb dX8_heat_6 rfl hl (by decide) rfl (fun ls hl => ?_)
  refine lv_iload_n hx hb dX8_heat_7 rfl (lv_at hl 0 rfl) ?_
  refine lv_if_lt (tgt := 45) hx hb dX8_heat_8 (by decide) (fun c_2 => ?_) (fun c_2 => absurd c_2 (by decide))
  refine lv_iconst (v := (-1)) hx hb dX8_heat_45 (by decide) ?_
  refine W.widen (k := 0) (n := 0) (Nat.le_of_ble_eq_true rfl) (Nat.le_of_ble_eq_true rfl) ?_
  exact W.iret (v := (-1)) hx hb hr (fun t ht hW => ⟨⟨(-1), (), rfl, rfl, trivial⟩, hS.F ht⟩) hS.2.2 dX8_heat_46
set_option maxHeartbeats 4000000 in
set_option maxRecDepth 100000 in
/-- of a stack without layers -/
theorem c_X8_lampLight (l : Launch) (dC : Nat → ClassId) (dI : Nat → Nat → Nat) (b0 : Nat) (en : EnT) (sz : Nat) (a rw : Nat) : Met l yX8_lampLight wsX8_lampLight ({ frames := 0, cells := 0, slots := 0, locals := 0 } : Room) (cP b0 en (dC, dI) [] [] [(a, .inr (14, [.ref rw, .int 0, .int 0]))] sz (fun _ => True) [.ref a]) (va_Qi (fun (r : Int32) (_ : Unit) => r = 0) (fun _ _ => True) (va_A [] sz)) 0 0 (va_A [] sz) := by
  refine Met.ofW (cc := cX8_lampLight) (maxL := 1) (ret := (some .int)) (by decide) rfl ?_
  intro p e s m args below meth c s₁ B hml hv
  obtain ⟨rfl, hsz, hb0, hE, hPP, hK, hDD, hF0⟩ := hv
  have hx := B.exec
  have hb := B.bytes
  have hr := B.returns
  have hts := atoms_spec (ws := wsX8_lampLight) B.pre
  have hown : s.vm.findClass RX8 = some m.cls := findClass_of_methodNamed B.named
  have hlocks := B.notSynchronized
  subst hsz
  have hN0 := en_N hPP hDD rfl
  have hP : va_P (dC, dI) vwCl [] s.heap := hPP.sub [] rfl
  have hR0 : va_P (dC, dI) vwCl [(a, .inr (14, [.ref rw, .int 0, .int 0]))] s.heap := hPP.sub [0] rfl
  have hD0 : va_D (fun q => b0 ≤ q) [] := hDD.sub [] (by decide) rfl
  have hDr : va_D (fun q => b0 ≤ q) [(a, .inr (14, [.ref rw, .int 0, .int 0]))] := hDD.sub [0] (by decide) rfl
  have hAb := en_A (sz := s.heap.size) hD0 hb0
  have hD := hD0.self (sz := s.heap.size)
  generalize hAe : va_A [] s.heap.size = A at hD hAb hN0 ⊢
  have hA : ∀ q : Nat, s.heap.size ≤ q → A q := fun q h => by rw [← hAe]; exact Or.inr h
  have hS : va_S A s.heap s.heap [] := va_S.rf
  have hR := hR0
  have hl := lv_entry [.ref a] (n := 1) (Nat.le_of_ble_eq_true rfl)
  rw [lg_entry_eq]
  generalize (lg_sl [.ref a] ++ List.replicate (1 - (lg_sl [.ref a]).length) Slot.unset).toArray = ls at hl ⊢
  have hl : lv_has ls 1 [(0, .ref a)] := hl
  refine lv_aload_n hx hb dX8_lampLight_0 rfl (lv_at hl 0 rfl) ?_
  refine va_get (D := (dC, dI)) (ci := 14) (v := .int 0) (C := RX8) (T := TX8) (N := 3) hx hb hts (by decide +kernel) hown hK hR 0 rfl rfl 1 (by decide) (hts (.fieldLink RX8 20 "Underpaint$Stack" "size" "I") (by decide +kernel)) (fun _ h9 => h9) rfl dX8_lampLight_1 ?_
  refine lv_if_le (tgt := 33) hx hb dX8_lampLight_4 (by decide) (fun c_1 => ?_) (fun c_1 => absurd c_1 (by decide))
  refine lv_iconst (v := 0) hx hb dX8_lampLight_33 (by decide) ?_
  refine W.widen (k := 0) (n := 0) (Nat.le_of_ble_eq_true rfl) (Nat.le_of_ble_eq_true rfl) ?_
  exact W.iret (v := 0) hx hb hr (fun t ht hW => ⟨⟨0, (), rfl, rfl, trivial⟩, hS.F ht⟩) hS.2.2 dX8_lampLight_34
set_option maxHeartbeats 4000000 in
set_option maxRecDepth 100000 in
/-- of a stack without layers -/
theorem c_X8_height (l : Launch) (dC : Nat → ClassId) (dI : Nat → Nat → Nat) (b0 : Nat) (en : EnT) (sz : Nat) (a rw : Nat) : Met l yX8_height wsX8_height ({ frames := 0, cells := 0, slots := 0, locals := 0 } : Room) (cP b0 en (dC, dI) [] [] [(a, .inr (14, [.ref rw, .int 0, .int 0]))] sz (fun _ => True) [.ref a]) (va_Qi (fun (r : Int32) (_ : Unit) => r = 0) (fun _ _ => True) (va_A [] sz)) 0 0 (va_A [] sz) := by
  refine Met.ofW (cc := cX8_height) (maxL := 3) (ret := (some .int)) (by decide) rfl ?_
  intro p e s m args below meth c s₁ B hml hv
  obtain ⟨rfl, hsz, hb0, hE, hPP, hK, hDD, hF0⟩ := hv
  have hx := B.exec
  have hb := B.bytes
  have hr := B.returns
  have hts := atoms_spec (ws := wsX8_height) B.pre
  have hown : s.vm.findClass RX8 = some m.cls := findClass_of_methodNamed B.named
  have hlocks := B.notSynchronized
  subst hsz
  have hN0 := en_N hPP hDD rfl
  have hP : va_P (dC, dI) vwCl [] s.heap := hPP.sub [] rfl
  have hR0 : va_P (dC, dI) vwCl [(a, .inr (14, [.ref rw, .int 0, .int 0]))] s.heap := hPP.sub [0] rfl
  have hD0 : va_D (fun q => b0 ≤ q) [] := hDD.sub [] (by decide) rfl
  have hDr : va_D (fun q => b0 ≤ q) [(a, .inr (14, [.ref rw, .int 0, .int 0]))] := hDD.sub [0] (by decide) rfl
  have hAb := en_A (sz := s.heap.size) hD0 hb0
  have hD := hD0.self (sz := s.heap.size)
  generalize hAe : va_A [] s.heap.size = A at hD hAb hN0 ⊢
  have hA : ∀ q : Nat, s.heap.size ≤ q → A q := fun q h => by rw [← hAe]; exact Or.inr h
  have hS : va_S A s.heap s.heap [] := va_S.rf
  have hR := hR0
  have hl := lv_entry [.ref a] (n := 3) (Nat.le_of_ble_eq_true rfl)
  rw [lg_entry_eq]
  generalize (lg_sl [.ref a] ++ List.replicate (3 - (lg_sl [.ref a]).length) Slot.unset).toArray = ls at hl ⊢
  have hl : lv_has ls 3 [(0, .ref a)] := hl
  refine lv_iconst (v := 0) hx hb dX8_height_0 (by decide) ?_
  refine lv_istore_n (lv' := [(1, .int 0), (0, .ref a)]) hx hb dX8_height_1 rfl hl (by decide) rfl (fun ls hl => ?_)
  refine lv_iconst (v := 0) hx hb dX8_height_2 (by decide) ?_
  refine lv_istore_n (lv' := [(2, .int 0), (1, .int 0), (0, .ref a)]) hx hb dX8_height_3 rfl hl (by decide) rfl (fun ls hl => ?_)
  refine lv_iload_n hx hb dX8_height_4 rfl (lv_at hl 0 rfl) ?_
  refine lv_aload_n hx hb dX8_height_5 rfl (lv_at hl 2 rfl) ?_
  refine va_get (D := (dC, dI)) (ci := 14) (v := .int 0) (C := RX8) (T := TX8) (N := 3) hx hb hts (by decide +kernel) hown hK hR 0 rfl rfl 1 (by decide) (hts (.fieldLink RX8 20 "Underpaint$Stack" "size" "I") (by decide +kernel)) (fun _ h9 => h9) rfl dX8_height_6 ?_
  refine lv_icmp_ge (tgt := 30) hx hb dX8_height_9 (by decide) (fun c_1 => ?_) (fun c_1 => absurd c_1 (by decide))
  refine lv_iload_n hx hb dX8_height_30 rfl (lv_at hl 1 rfl) ?_
  refine W.widen (k := 0) (n := 0) (Nat.le_of_ble_eq_true rfl) (Nat.le_of_ble_eq_true rfl) ?_
  exact W.iret (v := 0) hx hb hr (fun t ht hW => ⟨⟨0, (), rfl, rfl, trivial⟩, hS.F ht⟩) hS.2.2 dX8_height_31
set_option maxHeartbeats 4000000 in
set_option maxRecDepth 100000 in
/-- of a stack without layers -/
theorem c_X8_fadingRow (l : Launch) (dC : Nat → ClassId) (dI : Nat → Nat → Nat) (b0 : Nat) (en : EnT) (sz : Nat) (a rw : Nat) : Met l yX8_fadingRow wsX8_fadingRow ({ frames := 0, cells := 0, slots := 0, locals := 0 } : Room) (cP b0 en (dC, dI) [] [] [(a, .inr (14, [.ref rw, .int 0, .int 0]))] sz (fun _ => True) [.ref a]) (va_Qi (fun (r : Int32) (_ : Unit) => r = -1) (fun _ _ => True) (va_A [] sz)) 0 0 (va_A [] sz) := by
  refine Met.ofW (cc := cX8_fadingRow) (maxL := 2) (ret := (some .int)) (by decide) rfl ?_
  intro p e s m args below meth c s₁ B hml hv
  obtain ⟨rfl, hsz, hb0, hE, hPP, hK, hDD, hF0⟩ := hv
  have hx := B.exec
  have hb := B.bytes
  have hr := B.returns
  have hts := atoms_spec (ws := wsX8_fadingRow) B.pre
  have hown : s.vm.findClass RX8 = some m.cls := findClass_of_methodNamed B.named
  have hlocks := B.notSynchronized
  subst hsz
  have hN0 := en_N hPP hDD rfl
  have hP : va_P (dC, dI) vwCl [] s.heap := hPP.sub [] rfl
  have hR0 : va_P (dC, dI) vwCl [(a, .inr (14, [.ref rw, .int 0, .int 0]))] s.heap := hPP.sub [0] rfl
  have hD0 : va_D (fun q => b0 ≤ q) [] := hDD.sub [] (by decide) rfl
  have hDr : va_D (fun q => b0 ≤ q) [(a, .inr (14, [.ref rw, .int 0, .int 0]))] := hDD.sub [0] (by decide) rfl
  have hAb := en_A (sz := s.heap.size) hD0 hb0
  have hD := hD0.self (sz := s.heap.size)
  generalize hAe : va_A [] s.heap.size = A at hD hAb hN0 ⊢
  have hA : ∀ q : Nat, s.heap.size ≤ q → A q := fun q h => by rw [← hAe]; exact Or.inr h
  have hS : va_S A s.heap s.heap [] := va_S.rf
  have hR := hR0
  have hl := lv_entry [.ref a] (n := 2) (Nat.le_of_ble_eq_true rfl)
  rw [lg_entry_eq]
  generalize (lg_sl [.ref a] ++ List.replicate (2 - (lg_sl [.ref a]).length) Slot.unset).toArray = ls at hl ⊢
  have hl : lv_has ls 2 [(0, .ref a)] := hl
  refine lv_aload_n hx hb dX8_fadingRow_0 rfl (lv_at hl 0 rfl) ?_
  refine va_get (D := (dC, dI)) (ci := 14) (v := .int 0) (C := RX8) (T := TX8) (N := 3) hx hb hts (by decide +kernel) hown hK hR 0 rfl rfl 1 (by decide) (hts (.fieldLink RX8 20 "Underpaint$Stack" "size" "I") (by decide +kernel)) (fun _ h9 => h9) rfl dX8_fadingRow_1 ?_
  refine lv_iconst (v := 1) hx hb dX8_fadingRow_4 (by decide) ?_
  refine lv_isub hx hb dX8_fadingRow_5 ?_
  refine lv_topi (fun x_1 ex_1 => ?_)
  obtain rfl : x_1 = (-1) := ex_1.trans (by decide)
  refine lv_istore_n (lv' := [(1, .int (-1)), (0, .ref a)]) hx hb dX8_fadingRow_6 rfl hl (by decide) rfl (fun ls hl => ?_)
  refine lv_iload_n hx hb dX8_fadingRow_7 rfl (lv_at hl 0 rfl) ?_
  refine lv_if_lt (tgt := 53) hx hb dX8_fadingRow_8 (by decide) (fun c_2 => ?_) (fun c_2 => absurd c_2 (by decide))
  refine lv_iconst (v := (-1)) hx hb dX8_fadingRow_53 (by decide) ?_
  refine W.widen (k := 0) (n := 0) (Nat.le_of_ble_eq_true rfl) (Nat.le_of_ble_eq_true rfl) ?_
  exact W.iret (v := (-1)) hx hb hr (fun t ht hW => ⟨⟨(-1), (), rfl, rfl, trivial⟩, hS.F ht⟩) hS.2.2 dX8_fadingRow_54
set_option maxHeartbeats 4000000 in
set_option maxRecDepth 100000 in
/-- of a stack without layers -/
theorem c_X8_isFull (l : Launch) (dC : Nat → ClassId) (dI : Nat → Nat → Nat) (b0 : Nat) (en : EnT) (sz : Nat) (a rw : Nat) : Met l yX8_isFull wsX8_isFull ({ frames := 0, cells := 0, slots := 0, locals := 0 } : Room) (cP b0 en (dC, dI) [] [] [(a, .inr (14, [.ref rw, .int 0, .int 0]))] sz (fun _ => True) [.ref a]) (va_Qi (fun (r : Int32) (_ : Unit) => r = 0) (fun _ _ => True) (va_A [] sz)) 0 0 (va_A [] sz) := by
  refine Met.ofW (cc := cX8_isFull) (maxL := 1) (ret := (some .boolean)) (by decide) rfl ?_
  intro p e s m args below meth c s₁ B hml hv
  obtain ⟨rfl, hsz, hb0, hE, hPP, hK, hDD, hF0⟩ := hv
  have hx := B.exec
  have hb := B.bytes
  have hr := B.returns
  have hts := atoms_spec (ws := wsX8_isFull) B.pre
  have hown : s.vm.findClass RX8 = some m.cls := findClass_of_methodNamed B.named
  have hlocks := B.notSynchronized
  subst hsz
  have hN0 := en_N hPP hDD rfl
  have hP : va_P (dC, dI) vwCl [] s.heap := hPP.sub [] rfl
  have hR0 : va_P (dC, dI) vwCl [(a, .inr (14, [.ref rw, .int 0, .int 0]))] s.heap := hPP.sub [0] rfl
  have hD0 : va_D (fun q => b0 ≤ q) [] := hDD.sub [] (by decide) rfl
  have hDr : va_D (fun q => b0 ≤ q) [(a, .inr (14, [.ref rw, .int 0, .int 0]))] := hDD.sub [0] (by decide) rfl
  have hAb := en_A (sz := s.heap.size) hD0 hb0
  have hD := hD0.self (sz := s.heap.size)
  generalize hAe : va_A [] s.heap.size = A at hD hAb hN0 ⊢
  have hA : ∀ q : Nat, s.heap.size ≤ q → A q := fun q h => by rw [← hAe]; exact Or.inr h
  have hS : va_S A s.heap s.heap [] := va_S.rf
  have hR := hR0
  have hl := lv_entry [.ref a] (n := 1) (Nat.le_of_ble_eq_true rfl)
  rw [lg_entry_eq]
  generalize (lg_sl [.ref a] ++ List.replicate (1 - (lg_sl [.ref a]).length) Slot.unset).toArray = ls at hl ⊢
  have hl : lv_has ls 1 [(0, .ref a)] := hl
  refine lv_aload_n hx hb dX8_isFull_0 rfl (lv_at hl 0 rfl) ?_
  refine va_get (D := (dC, dI)) (ci := 14) (v := .int 0) (C := RX8) (T := TX8) (N := 3) hx hb hts (by decide +kernel) hown hK hR 0 rfl rfl 1 (by decide) (hts (.fieldLink RX8 20 "Underpaint$Stack" "size" "I") (by decide +kernel)) (fun _ h9 => h9) rfl dX8_isFull_1 ?_
  refine lv_bipush (v := 9) hx hb dX8_isFull_4 (by decide) ?_
  refine lv_icmp_lt (tgt := 13) hx hb dX8_isFull_6 (by decide) (fun c_1 => ?_) (fun c_1 => absurd c_1 (by decide))
  refine lv_iconst (v := 0) hx hb dX8_isFull_13 (by decide) ?_
  refine W.widen (k := 0) (n := 0) (Nat.le_of_ble_eq_true rfl) (Nat.le_of_ble_eq_true rfl) ?_
  exact W.zret (v := 0) hx hb hr (by first | rfl | decide +kernel) (fun t ht hW => ⟨⟨0, (), rfl, rfl, trivial⟩, hS.F ht⟩) hS.2.2 dX8_isFull_14
set_option maxHeartbeats 4000000 in
set_option maxRecDepth 100000 in
/-- of a stack without layers -/
theorem c_X8_isTopmost (l : Launch) (dC : Nat → ClassId) (dI : Nat → Nat → Nat) (b0 : Nat) (en : EnT) (sz : Nat) (a rw : Nat) (k : Int32) : Met l yX8_isTopmost wsX8_isTopmost ({ frames := 0, cells := 0, slots := 0, locals := 0 } : Room) (cP b0 en (dC, dI) [] [] [(a, .inr (14, [.ref rw, .int 0, .int 0]))] sz (fun _ => True) [.ref a, .int k]) (va_Qi (fun (r : Int32) (_ : Unit) => r = 0) (fun _ _ => True) (va_A [] sz)) 0 0 (va_A [] sz) := by
  refine Met.ofW (cc := cX8_isTopmost) (maxL := 2) (ret := (some .boolean)) (by decide) rfl ?_
  intro p e s m args below meth c s₁ B hml hv
  obtain ⟨rfl, hsz, hb0, hE, hPP, hK, hDD, hF0⟩ := hv
  have hx := B.exec
  have hb := B.bytes
  have hr := B.returns
  have hts := atoms_spec (ws := wsX8_isTopmost) B.pre
  have hown : s.vm.findClass RX8 = some m.cls := findClass_of_methodNamed B.named
  have hlocks := B.notSynchronized
  subst hsz
  have hN0 := en_N hPP hDD rfl
  have hP : va_P (dC, dI) vwCl [] s.heap := hPP.sub [] rfl
  have hR0 : va_P (dC, dI) vwCl [(a, .inr (14, [.ref rw, .int 0, .int 0]))] s.heap := hPP.sub [0] rfl
  have hD0 : va_D (fun q => b0 ≤ q) [] := hDD.sub [] (by decide) rfl
  have hDr : va_D (fun q => b0 ≤ q) [(a, .inr (14, [.ref rw, .int 0, .int 0]))] := hDD.sub [0] (by decide) rfl
  have hAb := en_A (sz := s.heap.size) hD0 hb0
  have hD := hD0.self (sz := s.heap.size)
  generalize hAe : va_A [] s.heap.size = A at hD hAb hN0 ⊢
  have hA : ∀ q : Nat, s.heap.size ≤ q → A q := fun q h => by rw [← hAe]; exact Or.inr h
  have hS : va_S A s.heap s.heap [] := va_S.rf
  have hR := hR0
  have hl := lv_entry [.ref a, .int k] (n := 2) (Nat.le_of_ble_eq_true rfl)
  rw [lg_entry_eq]
  generalize (lg_sl [.ref a, .int k] ++ List.replicate (2 - (lg_sl [.ref a, .int k]).length) Slot.unset).toArray = ls at hl ⊢
  have hl : lv_has ls 2 [(0, .ref a), (1, .int k)] := hl
  refine lv_aload_n hx hb dX8_isTopmost_0 rfl (lv_at hl 0 rfl) ?_
  refine va_get (D := (dC, dI)) (ci := 14) (v := .int 0) (C := RX8) (T := TX8) (N := 3) hx hb hts (by decide +kernel) hown hK hR 0 rfl rfl 1 (by decide) (hts (.fieldLink RX8 20 "Underpaint$Stack" "size" "I") (by decide +kernel)) (fun _ h9 => h9) rfl dX8_isTopmost_1 ?_
  refine lv_if_le (tgt := 25) hx hb dX8_isTopmost_4 (by decide) (fun c_1 => ?_) (fun c_1 => absurd c_1 (by decide))
  refine lv_iconst (v := 0) hx hb dX8_isTopmost_25 (by decide) ?_
  refine W.widen (k := 0) (n := 0) (Nat.le_of_ble_eq_true rfl) (Nat.le_of_ble_eq_true rfl) ?_
  exact W.zret (v := 0) hx hb hr (by first | rfl | decide +kernel) (fun t ht hW => ⟨⟨0, (), rfl, rfl, trivial⟩, hS.F ht⟩) hS.2.2 dX8_isTopmost_26
set_option maxHeartbeats 4000000 in
set_option maxRecDepth 100000 in
/-- the view 0 of a stack without layers -/
theorem c_X8_see0 (l : Launch) (dC : Nat → ClassId) (dI : Nat → Nat → Nat) (b0 : Nat) (en : EnT) (sz : Nat) (a rw : Nat) : Met l yX8_see wsX8_see ({ frames := 1, cells := 0, slots := 0, locals := 40 } : Room) (cP b0 en (dC, dI) [] [] [(a, .inr (14, [.ref rw, .int 0, .int 0]))] sz (fun _ => True) [.ref a, .int 0]) (va_Qi (fun (r : Int32) (_ : Unit) => r = 50) (fun _ _ => True) (va_A [] sz)) 0 0 (va_A [] sz) := by
  refine Met.ofW (cc := cX8_see) (maxL := 2) (ret := (some .int)) (by decide) rfl ?_
  intro p e s m args below meth c s₁ B hml hv
  obtain ⟨rfl, hsz, hb0, hE, hPP, hK, hDD, hF0⟩ := hv
  have hx := B.exec
  have hb := B.bytes
  have hr := B.returns
  have hts := atoms_spec (ws := wsX8_see) B.pre
  have hown : s.vm.findClass RX8 = some m.cls := findClass_of_methodNamed B.named
  have hlocks := B.notSynchronized
  subst hsz
  have hN0 := en_N hPP hDD rfl
  have hP : va_P (dC, dI) vwCl [] s.heap := hPP.sub [] rfl
  have hR0 : va_P (dC, dI) vwCl [(a, .inr (14, [.ref rw, .int 0, .int 0]))] s.heap := hPP.sub [0] rfl
  have hD0 : va_D (fun q => b0 ≤ q) [] := hDD.sub [] (by decide) rfl
  have hDr : va_D (fun q => b0 ≤ q) [(a, .inr (14, [.ref rw, .int 0, .int 0]))] := hDD.sub [0] (by decide) rfl
  have hAb := en_A (sz := s.heap.size) hD0 hb0
  have hD := hD0.self (sz := s.heap.size)
  generalize hAe : va_A [] s.heap.size = A at hD hAb hN0 ⊢
  have hA : ∀ q : Nat, s.heap.size ≤ q → A q := fun q h => by rw [← hAe]; exact Or.inr h
  have hS : va_S A s.heap s.heap [] := va_S.rf
  have hR := hR0
  have hl := lv_entry [.ref a, .int 0] (n := 2) (Nat.le_of_ble_eq_true rfl)
  rw [lg_entry_eq]
  generalize (lg_sl [.ref a, .int 0] ++ List.replicate (2 - (lg_sl [.ref a, .int 0]).length) Slot.unset).toArray = ls at hl ⊢
  have hl : lv_has ls 2 [(0, .ref a), (1, .int 0)] := hl
  refine lv_iload_n hx hb dX8_see_0 rfl (lv_at hl 1 rfl) ?_
  refine lv_if_ne (tgt := 9) hx hb dX8_see_1 (by decide) (fun c_1 => absurd c_1 (by decide)) (fun c_1 => ?_)
  refine lv_aload_n hx hb dX8_see_4 rfl (lv_at hl 0 rfl) ?_
  have hPc := (hP.app hR).sub (ws' := [] ++ [(a, .inr (14, [.ref rw, .int 0, .int 0]))]) [0] rfl
  have hDc := (en_DD hD hDr hN0 hAb).sub (ws' := [] ++ [(a, .inr (14, [.ref rw, .int 0, .int 0]))]) [0] (by decide) rfl
  have hKc := hK.sub (tys' := []) [] rfl
  have hFc := va_free (wc := []) hD hS hA [] rfl
  refine va_calli (va_runV (As := []) (rest := []) ⟨hx, hb, hml, hown, hts⟩ (c_X8_plain l dC dI b0 en s.heap.size a rw) (cwV 0 hts gX8_see_X8_plain rfl rfl rfl (by decide +kernel) ⟨Nat.le_of_ble_eq_true rfl, Nat.le_of_ble_eq_true rfl⟩) ⟨cP.blind, va_recv hK hR (ci := 14) (q0 := 0) rfl rfl, cP.use (en_z hb0 hS) (hE.on hAb hS) hPc hKc hDc trivial⟩ rfl rfl hl.1 rfl (lv_room (Nat.le_of_ble_eq_true rfl)) dX8_see_5 ⟨Nat.le_of_ble_eq_true rfl, Nat.le_of_ble_eq_true rfl⟩) hS (fun q _ h => hFc q h) hFc (fun r_2 u t H1 locs ht hvm hw hB hz1 hk1 hS => ?_)
  have hP1 : va_P (dC, dI) vwCl [] H1 := fun k q h => by simp at h
  have hD1 : va_D (va_A [] s.heap.size) [] := ⟨fun i j p q h => by simp at h, fun k q h => by simp at h⟩
  try dsimp only at hw
  obtain ⟨hP, hD⟩ := va_join (wr := []) (w1 := []) hP hD [] [] rfl rfl (by decide) (by decide) hk1 hFc hP1 hD1
  generalize H1 = H at hP hS ⊢
  have hP : va_P (dC, dI) vwCl [] H := hP
  have hD : va_D A [] := hD
  have hR := en_R hR0 hN0 hS
  refine W.widen (k := 0) (n := 0) (Nat.le_of_ble_eq_true rfl) (Nat.le_of_ble_eq_true rfl) ?_
  have h1 := hw
  refine W.widen (k := 0) (n := 0) (Nat.le_of_ble_eq_true rfl) (Nat.le_of_ble_eq_true rfl) ?_
  exact W.iret (v := r_2) hx hb hr (fun t ht hW => ⟨⟨r_2, (), rfl, h1, trivial⟩, hS.F ht⟩) hS.2.2 dX8_see_8
set_option maxHeartbeats 4000000 in
set_option maxRecDepth 100000 in
/-- the view 1 of a stack without layers -/
theorem c_X8_see1 (l : Launch) (dC : Nat → ClassId) (dI : Nat → Nat → Nat) (b0 : Nat) (en : EnT) (sz : Nat) (a rw : Nat) : Met l yX8_see wsX8_see ({ frames := 1, cells := 0, slots := 0, locals := 40 } : Room) (cP b0 en (dC, dI) [] [] [(a, .inr (14, [.ref rw, .int 0, .int 0]))] sz (fun _ => True) [.ref a, .int 1]) (va_Qi (fun (r : Int32) (_ : Unit) => r = 0) (fun _ _ => True) (va_A [] sz)) 0 0 (va_A [] sz) := by
  refine Met.ofW (cc := cX8_see) (maxL := 2) (ret := (some .int)) (by decide) rfl ?_
  intro p e s m args below meth c s₁ B hml hv
  obtain ⟨rfl, hsz, hb0, hE, hPP, hK, hDD, hF0⟩ := hv
  have hx := B.exec
  have hb := B.bytes
  have hr := B.returns
  have hts := atoms_spec (ws := wsX8_see) B.pre
  have hown : s.vm.findClass RX8 = some m.cls := findClass_of_methodNamed B.named
  have hlocks := B.notSynchronized
  subst hsz
  have hN0 := en_N hPP hDD rfl
  have hP : va_P (dC, dI) vwCl [] s.heap := hPP.sub [] rfl
  have hR0 : va_P (dC, dI) vwCl [(a, .inr (14, [.ref rw, .int 0, .int 0]))] s.heap := hPP.sub [0] rfl
  have hD0 : va_D (fun q => b0 ≤ q) [] := hDD.sub [] (by decide) rfl
  have hDr : va_D (fun q => b0 ≤ q) [(a, .inr (14, [.ref rw, .int 0, .int 0]))] := hDD.sub [0] (by decide) rfl
  have hAb := en_A (sz := s.heap.size) hD0 hb0
  have hD := hD0.self (sz := s.heap.size)
  generalize hAe : va_A [] s.heap.size = A at hD hAb hN0 ⊢
  have hA : ∀ q : Nat, s.heap.size ≤ q → A q := fun q h => by rw [← hAe]; exact Or.inr h
  have hS : va_S A s.heap s.heap [] := va_S.rf
  have hR := hR0
  have hl := lv_entry [.ref a, .int 1] (n := 2) (Nat.le_of_ble_eq_true rfl)
  rw [lg_entry_eq]
  generalize (lg_sl [.ref a, .int 1] ++ List.replicate (2 - (lg_sl [.ref a, .int 1]).length) Slot.unset).toArray = ls at hl ⊢
  have hl : lv_has ls 2 [(0, .ref a), (1, .int 1)] := hl
  refine lv_iload_n hx hb dX8_see_0 rfl (lv_at hl 1 rfl) ?_
  refine lv_if_ne (tgt := 9) hx hb dX8_see_1 (by decide) (fun c_1 => ?_) (fun c_1 => absurd c_1 (by decide))
  refine lv_iload_n hx hb dX8_see_9 rfl (lv_at hl 1 rfl) ?_
  refine lv_iconst (v := 1) hx hb dX8_see_10 (by decide) ?_
  refine lv_icmp_ne (tgt := 19) hx hb dX8_see_11 (by decide) (fun c_2 => absurd c_2 (by decide)) (fun c_2 => ?_)
  refine lv_aload_n hx hb dX8_see_14 rfl (lv_at hl 0 rfl) ?_
  have hPc := (hP.app hR).sub (ws' := [] ++ [(a, .inr (14, [.ref rw, .int 0, .int 0]))]) [0] rfl
  have hDc := (en_DD hD hDr hN0 hAb).sub (ws' := [] ++ [(a, .inr (14, [.ref rw, .int 0, .int 0]))]) [0] (by decide) rfl
  have hKc := hK.sub (tys' := []) [] rfl
  have hFc := va_free (wc := []) hD hS hA [] rfl
  refine va_calli (va_runV (As := []) (rest := []) ⟨hx, hb, hml, hown, hts⟩ (c_X8_heavy l dC dI b0 en s.heap.size a rw) (cwV 0 hts gX8_see_X8_heavy rfl rfl rfl (by decide +kernel) ⟨Nat.le_of_ble_eq_true rfl, Nat.le_of_ble_eq_true rfl⟩) ⟨cP.blind, va_recv hK hR (ci := 14) (q0 := 0) rfl rfl, cP.use (en_z hb0 hS) (hE.on hAb hS) hPc hKc hDc trivial⟩ rfl rfl hl.1 rfl (lv_room (Nat.le_of_ble_eq_true rfl)) dX8_see_15 ⟨Nat.le_of_ble_eq_true rfl, Nat.le_of_ble_eq_true rfl⟩) hS (fun q _ h => hFc q h) hFc (fun r_3 u t H1 locs ht hvm hw hB hz1 hk1 hS => ?_)
  have hP1 : va_P (dC, dI) vwCl [] H1 := fun k q h => by simp at h
  have hD1 : va_D (va_A [] s.heap.size) [] := ⟨fun i j p q h => by simp at h, fun k q h => by simp at h⟩
  try dsimp only at hw
  obtain ⟨hP, hD⟩ := va_join (wr := []) (w1 := []) hP hD [] [] rfl rfl (by decide) (by decide) hk1 hFc hP1 hD1
  generalize H1 = H at hP hS ⊢
  have hP : va_P (dC, dI) vwCl [] H := hP
  have hD : va_D A [] := hD
  have hR := en_R hR0 hN0 hS
  refine W.widen (k := 0) (n := 0) (Nat.le_of_ble_eq_true rfl) (Nat.le_of_ble_eq_true rfl) ?_
  have h1 := hw
  refine W.widen (k := 0) (n := 0) (Nat.le_of_ble_eq_true rfl) (Nat.le_of_ble_eq_true rfl) ?_
  exact W.iret (v := r_3) hx hb hr (fun t ht hW => ⟨⟨r_3, (), rfl, h1, trivial⟩, hS.F ht⟩) hS.2.2 dX8_see_18
set_option maxHeartbeats 4000000 in
set_option maxRecDepth 100000 in
/-- the view 2 of a stack without layers -/
theorem c_X8_see2 (l : Launch) (dC : Nat → ClassId) (dI : Nat → Nat → Nat) (b0 : Nat) (en : EnT) (sz : Nat) (a rw : Nat) : Met l yX8_see wsX8_see ({ frames := 1, cells := 0, slots := 0, locals := 40 } : Room) (cP b0 en (dC, dI) [] [] [(a, .inr (14, [.ref rw, .int 0, .int 0]))] sz (fun _ => True) [.ref a, .int 2]) (va_Qi (fun (r : Int32) (_ : Unit) => r = -1) (fun _ _ => True) (va_A [] sz)) 0 0 (va_A [] sz) := by
  refine Met.ofW (cc := cX8_see) (maxL := 2) (ret := (some .int)) (by decide) rfl ?_
  intro p e s m args below meth c s₁ B hml hv
  obtain ⟨rfl, hsz, hb0, hE, hPP, hK, hDD, hF0⟩ := hv
  have hx := B.exec
  have hb := B.bytes
  have hr := B.returns
  have hts := atoms_spec (ws := wsX8_see) B.pre
  have hown : s.vm.findClass RX8 = some m.cls := findClass_of_methodNamed B.named
  have hlocks := B.notSynchronized
  subst hsz
  have hN0 := en_N hPP hDD rfl
  have hP : va_P (dC, dI) vwCl [] s.heap := hPP.sub [] rfl
  have hR0 : va_P (dC, dI) vwCl [(a, .inr (14, [.ref rw, .int 0, .int 0]))] s.heap := hPP.sub [0] rfl
  have hD0 : va_D (fun q => b0 ≤ q) [] := hDD.sub [] (by decide) rfl
  have hDr : va_D (fun q => b0 ≤ q) [(a, .inr (14, [.ref rw, .int 0, .int 0]))] := hDD.sub [0] (by decide) rfl
  have hAb := en_A (sz := s.heap.size) hD0 hb0
  have hD := hD0.self (sz := s.heap.size)
  generalize hAe : va_A [] s.heap.size = A at hD hAb hN0 ⊢
  have hA : ∀ q : Nat, s.heap.size ≤ q → A q := fun q h => by rw [← hAe]; exact Or.inr h
  have hS : va_S A s.heap s.heap [] := va_S.rf
  have hR := hR0
  have hl := lv_entry [.ref a, .int 2] (n := 2) (Nat.le_of_ble_eq_true rfl)
  rw [lg_entry_eq]
  generalize (lg_sl [.ref a, .int 2] ++ List.replicate (2 - (lg_sl [.ref a, .int 2]).length) Slot.unset).toArray = ls at hl ⊢
  have hl : lv_has ls 2 [(0, .ref a), (1, .int 2)] := hl
  refine lv_iload_n hx hb dX8_see_0 rfl (lv_at hl 1 rfl) ?_
  refine lv_if_ne (tgt := 9) hx hb dX8_see_1 (by decide) (fun c_1 => ?_) (fun c_1 => absurd c_1 (by decide))
  refine lv_iload_n hx hb dX8_see_9 rfl (lv_at hl 1 rfl) ?_
  refine lv_iconst (v := 1) hx hb dX8_see_10 (by decide) ?_
  refine lv_icmp_ne (tgt := 19) hx hb dX8_see_11 (by decide) (fun c_2 => ?_) (fun c_2 => absurd c_2 (by decide))
  refine lv_iload_n hx hb dX8_see_19 rfl (lv_at hl 1 rfl) ?_
  refine lv_iconst (v := 2) hx hb dX8_see_20 (by decide) ?_
  refine lv_icmp_ne (tgt := 31) hx hb dX8_see_21 (by decide) (fun c_3 => absurd c_3 (by decide)) (fun c_3 => ?_)
  refine lv_aload_n hx hb dX8_see_24 rfl (lv_at hl 0 rfl) ?_
  have hPc := (hP.app hR).sub (ws' := [] ++ [(a, .inr (14, [.ref rw, .int 0, .int 0]))]) [0] rfl
  have hDc := (en_DD hD hDr hN0 hAb).sub (ws' := [] ++ [(a, .inr (14, [.ref rw, .int 0, .int 0]))]) [0] (by decide) rfl
  have hKc := hK.sub (tys' := []) [] rfl
  have hFc := va_free (wc := []) hD hS hA [] rfl
  refine va_calli (va_runV (As := []) (rest := []) ⟨hx, hb, hml, hown, hts⟩ (c_X8_heat l dC dI b0 en s.heap.size a rw) (cwV 0 hts gX8_see_X8_heat rfl rfl rfl (by decide +kernel) ⟨Nat.le_of_ble_eq_true rfl, Nat.le_of_ble_eq_true rfl⟩) ⟨cP.blind, va_recv hK hR (ci := 14) (q0 := 0) rfl rfl, cP.use (en_z hb0 hS) (hE.on hAb hS) hPc hKc hDc trivial⟩ rfl rfl hl.1 rfl (lv_room (Nat.le_of_ble_eq_true rfl)) dX8_see_25 ⟨Nat.le_of_ble_eq_true rfl, Nat.le_of_ble_eq_true rfl⟩) hS (fun q _ h => hFc q h) hFc (fun r_4 u t H1 locs ht hvm hw hB hz1 hk1 hS => ?_)
  have hP1 : va_P (dC, dI) vwCl [] H1 := fun k q h => by simp at h
  have hD1 : va_D (va_A [] s.heap.size) [] := ⟨fun i j p q h => by simp at h, fun k q h => by simp at h⟩
  try dsimp only at hw
  obtain ⟨hP, hD⟩ := va_join (wr := []) (w1 := []) hP hD [] [] rfl rfl (by decide) (by decide) hk1 hFc hP1 hD1
  generalize H1 = H at hP hS ⊢
  have hP : va_P (dC, dI) vwCl [] H := hP
  have hD : va_D A [] := hD
  have hR := en_R hR0 hN0 hS
  refine W.widen (k := 0) (n := 0) (Nat.le_of_ble_eq_true rfl) (Nat.le_of_ble_eq_true rfl) ?_
  have h1 := hw
  refine lv_goto (tgt := 35) hx hb dX8_see_28 (by decide) ?_
  refine W.widen (k := 0) (n := 0) (Nat.le_of_ble_eq_true rfl) (Nat.le_of_ble_eq_true rfl) ?_
  exact W.iret (v := r_4) hx hb hr (fun t ht hW => ⟨⟨r_4, (), rfl, h1, trivial⟩, hS.F ht⟩) hS.2.2 dX8_see_35
set_option maxHeartbeats 4000000 in
set_option maxRecDepth 100000 in
/-- the view 3 of a stack without layers -/
theorem c_X8_see3 (l : Launch) (dC : Nat → ClassId) (dI : Nat → Nat → Nat) (b0 : Nat) (en : EnT) (sz : Nat) (a rw : Nat) : Met l yX8_see wsX8_see ({ frames := 1, cells := 0, slots := 0, locals := 40 } : Room) (cP b0 en (dC, dI) [] [] [(a, .inr (14, [.ref rw, .int 0, .int 0]))] sz (fun _ => True) [.ref a, .int 3]) (va_Qi (fun (r : Int32) (_ : Unit) => r = 0) (fun _ _ => True) (va_A [] sz)) 0 0 (va_A [] sz) := by
  refine Met.ofW (cc := cX8_see) (maxL := 2) (ret := (some .int)) (by decide) rfl ?_
  intro p e s m args below meth c s₁ B hml hv
  obtain ⟨rfl, hsz, hb0, hE, hPP, hK, hDD, hF0⟩ := hv
  have hx := B.exec
  have hb := B.bytes
  have hr := B.returns
  have hts := atoms_spec (ws := wsX8_see) B.pre
  have hown : s.vm.findClass RX8 = some m.cls := findClass_of_methodNamed B.named
  have hlocks := B.notSynchronized
  subst hsz
  have hN0 := en_N hPP hDD rfl
  have hP : va_P (dC, dI) vwCl [] s.heap := hPP.sub [] rfl
  have hR0 : va_P (dC, dI) vwCl [(a, .inr (14, [.ref rw, .int 0, .int 0]))] s.heap := hPP.sub [0] rfl
  have hD0 : va_D (fun q => b0 ≤ q) [] := hDD.sub [] (by decide) rfl
  have hDr : va_D (fun q => b0 ≤ q) [(a, .inr (14, [.ref rw, .int 0, .int 0]))] := hDD.sub [0] (by decide) rfl
  have hAb := en_A (sz := s.heap.size) hD0 hb0
  have hD := hD0.self (sz := s.heap.size)
  generalize hAe : va_A [] s.heap.size = A at hD hAb hN0 ⊢
  have hA : ∀ q : Nat, s.heap.size ≤ q → A q := fun q h => by rw [← hAe]; exact Or.inr h
  have hS : va_S A s.heap s.heap [] := va_S.rf
  have hR := hR0
  have hl := lv_entry [.ref a, .int 3] (n := 2) (Nat.le_of_ble_eq_true rfl)
  rw [lg_entry_eq]
  generalize (lg_sl [.ref a, .int 3] ++ List.replicate (2 - (lg_sl [.ref a, .int 3]).length) Slot.unset).toArray = ls at hl ⊢
  have hl : lv_has ls 2 [(0, .ref a), (1, .int 3)] := hl
  refine lv_iload_n hx hb dX8_see_0 rfl (lv_at hl 1 rfl) ?_
  refine lv_if_ne (tgt := 9) hx hb dX8_see_1 (by decide) (fun c_1 => ?_) (fun c_1 => absurd c_1 (by decide))
  refine lv_iload_n hx hb dX8_see_9 rfl (lv_at hl 1 rfl) ?_
  refine lv_iconst (v := 1) hx hb dX8_see_10 (by decide) ?_
  refine lv_icmp_ne (tgt := 19) hx hb dX8_see_11 (by decide) (fun c_2 => ?_) (fun c_2 => absurd c_2 (by decide))
  refine lv_iload_n hx hb dX8_see_19 rfl (lv_at hl 1 rfl) ?_
  refine lv_iconst (v := 2) hx hb dX8_see_20 (by decide) ?_
  refine lv_icmp_ne (tgt := 31) hx hb dX8_see_21 (by decide) (fun c_3 => ?_) (fun c_3 => absurd c_3 (by decide))
  refine lv_aload_n hx hb dX8_see_31 rfl (lv_at hl 0 rfl) ?_
  have hPc := (hP.app hR).sub (ws' := [] ++ [(a, .inr (14, [.ref rw, .int 0, .int 0]))]) [0] rfl
  have hDc := (en_DD hD hDr hN0 hAb).sub (ws' := [] ++ [(a, .inr (14, [.ref rw, .int 0, .int 0]))]) [0] (by decide) rfl
  have hKc := hK.sub (tys' := []) [] rfl
  have hFc := va_free (wc := []) hD hS hA [] rfl
  refine va_calli (va_runV (As := []) (rest := []) ⟨hx, hb, hml, hown, hts⟩ (c_X8_lampLight l dC dI b0 en s.heap.size a rw) (cwV 0 hts gX8_see_X8_lampLight rfl rfl rfl (by decide +kernel) ⟨Nat.le_of_ble_eq_true rfl, Nat.le_of_ble_eq_true rfl⟩) ⟨cP.blind, va_recv hK hR (ci := 14) (q0 := 0) rfl rfl, cP.use (en_z hb0 hS) (hE.on hAb hS) hPc hKc hDc trivial⟩ rfl rfl hl.1 rfl (lv_room (Nat.le_of_ble_eq_true rfl)) dX8_see_32 ⟨Nat.le_of_ble_eq_true rfl, Nat.le_of_ble_eq_true rfl⟩) hS (fun q _ h => hFc q h) hFc (fun r_4 u t H1 locs ht hvm hw hB hz1 hk1 hS => ?_)
  have hP1 : va_P (dC, dI) vwCl [] H1 := fun k q h => by simp at h
  have hD1 : va_D (va_A [] s.heap.size) [] := ⟨fun i j p q h => by simp at h, fun k q h => by simp at h⟩
  try dsimp only at hw
  obtain ⟨hP, hD⟩ := va_join (wr := []) (w1 := []) hP hD [] [] rfl rfl (by decide) (by decide) hk1 hFc hP1 hD1
  generalize H1 = H at hP hS ⊢
  have hP : va_P (dC, dI) vwCl [] H := hP
  have hD : va_D A [] := hD
  have hR := en_R hR0 hN0 hS
  refine W.widen (k := 0) (n := 0) (Nat.le_of_ble_eq_true rfl) (Nat.le_of_ble_eq_true rfl) ?_
  have h1 := hw
  refine W.widen (k := 0) (n := 0) (Nat.le_of_ble_eq_true rfl) (Nat.le_of_ble_eq_true rfl) ?_
  exact W.iret (v := r_4) hx hb hr (fun t ht hW => ⟨⟨r_4, (), rfl, h1, trivial⟩, hS.F ht⟩) hS.2.2 dX8_see_35
