theorem dX11_pass_0 : decode cX11_pass 0 = .ok (.iload_n 1, 1) := by decide +kernel
theorem dX11_pass_1 : decode cX11_pass 1 = .ok (.iconst 1, 1) := by decide +kernel
theorem dX11_pass_2 : decode cX11_pass 2 = .ok (.bipush 50, 2) := by decide +kernel
theorem dX11_pass_4 : decode cX11_pass 4 = .ok (.invokestatic 91, 3) := by decide +kernel
theorem dX11_pass_7 : decode cX11_pass 7 = .ok (.invokestatic 87, 3) := by decide +kernel
theorem dX11_pass_10 : decode cX11_pass 10 = .ok (.new 161, 3) := by decide +kernel
theorem dX11_pass_13 : decode cX11_pass 13 = .ok (.dup, 1) := by decide +kernel
theorem dX11_pass_14 : decode cX11_pass 14 = .ok (.bipush 121, 2) := by decide +kernel
theorem dX11_pass_16 : decode cX11_pass 16 = .ok (.aload_n 0, 1) := by decide +kernel
theorem dX11_pass_17 : decode cX11_pass 17 = .ok (.getfield 55, 3) := by decide +kernel
theorem dX11_pass_20 : decode cX11_pass 20 = .ok (.iload_n 1, 1) := by decide +kernel
theorem dX11_pass_21 : decode cX11_pass 21 = .ok (.iconst 0, 1) := by decide +kernel
theorem dX11_pass_22 : decode cX11_pass 22 = .ok (.iconst 0, 1) := by decide +kernel
theorem dX11_pass_23 : decode cX11_pass 23 = .ok (.invokespecial 163, 3) := by decide +kernel
theorem dX11_pass_26 : decode cX11_pass 26 = .ok (.astore_n 2, 1) := by decide +kernel
theorem dX11_pass_27 : decode cX11_pass 27 = .ok (.aload_n 2, 1) := by decide +kernel
theorem dX11_pass_28 : decode cX11_pass 28 = .ok (.aload_n 0, 1) := by decide +kernel
theorem dX11_pass_29 : decode cX11_pass 29 = .ok (.getfield 69, 3) := by decide +kernel
theorem dX11_pass_32 : decode cX11_pass 32 = .ok (.putfield 203, 3) := by decide +kernel
theorem dX11_pass_35 : decode cX11_pass 35 = .ok (.aload_n 2, 1) := by decide +kernel
theorem dX11_pass_36 : decode cX11_pass 36 = .ok (.aload_n 0, 1) := by decide +kernel
theorem dX11_pass_37 : decode cX11_pass 37 = .ok (.getfield 73, 3) := by decide +kernel
theorem dX11_pass_40 : decode cX11_pass 40 = .ok (.putfield 206, 3) := by decide +kernel
theorem dX11_pass_43 : decode cX11_pass 43 = .ok (.aload_n 0, 1) := by decide +kernel
theorem dX11_pass_44 : decode cX11_pass 44 = .ok (.aload_n 2, 1) := by decide +kernel
theorem dX11_pass_45 : decode cX11_pass 45 = .ok (.invokevirtual 172, 3) := by decide +kernel
theorem dX11_pass_48 : decode cX11_pass 48 = .ok (.ireturn, 1) := by decide +kernel
theorem dX11_scratch_0 : decode cX11_scratch 0 = .ok (.iload_n 1, 1) := by decide +kernel
theorem dX11_scratch_1 : decode cX11_scratch 1 = .ok (.iload_n 2, 1) := by decide +kernel
theorem dX11_scratch_2 : decode cX11_scratch 2 = .ok (.invokestatic 176, 3) := by decide +kernel
theorem dX11_scratch_5 : decode cX11_scratch 5 = .ok (.iload_n 3, 1) := by decide +kernel
theorem dX11_scratch_6 : decode cX11_scratch 6 = .ok (.iconst 1, 1) := by decide +kernel
theorem dX11_scratch_7 : decode cX11_scratch 7 = .ok (.sipush 999, 3) := by decide +kernel
theorem dX11_scratch_10 : decode cX11_scratch 10 = .ok (.invokestatic 91, 3) := by decide +kernel
theorem dX11_scratch_13 : decode cX11_scratch 13 = .ok (.invokestatic 87, 3) := by decide +kernel
theorem dX11_scratch_16 : decode cX11_scratch 16 = .ok (.aload_n 0, 1) := by decide +kernel
theorem dX11_scratch_17 : decode cX11_scratch 17 = .ok (.new 161, 3) := by decide +kernel
theorem dX11_scratch_20 : decode cX11_scratch 20 = .ok (.dup, 1) := by decide +kernel
theorem dX11_scratch_21 : decode cX11_scratch 21 = .ok (.bipush 115, 2) := by decide +kernel
theorem dX11_scratch_23 : decode cX11_scratch 23 = .ok (.aload_n 0, 1) := by decide +kernel
theorem dX11_scratch_24 : decode cX11_scratch 24 = .ok (.getfield 55, 3) := by decide +kernel
theorem dX11_scratch_27 : decode cX11_scratch 27 = .ok (.iload_n 3, 1) := by decide +kernel
theorem dX11_scratch_28 : decode cX11_scratch 28 = .ok (.iload_n 1, 1) := by decide +kernel
theorem dX11_scratch_29 : decode cX11_scratch 29 = .ok (.iload_n 2, 1) := by decide +kernel
theorem dX11_scratch_30 : decode cX11_scratch 30 = .ok (.invokespecial 163, 3) := by decide +kernel
theorem dX11_scratch_33 : decode cX11_scratch 33 = .ok (.invokevirtual 172, 3) := by decide +kernel
theorem dX11_glue_0 : decode cX11_glue 0 = .ok (.iload_n 1, 1) := by decide +kernel
theorem dX11_glue_1 : decode cX11_glue 1 = .ok (.iload_n 2, 1) := by decide +kernel
theorem dX11_glue_2 : decode cX11_glue 2 = .ok (.invokestatic 176, 3) := by decide +kernel
theorem dX11_glue_5 : decode cX11_glue 5 = .ok (.aload_n 0, 1) := by decide +kernel
theorem dX11_glue_6 : decode cX11_glue 6 = .ok (.new 161, 3) := by decide +kernel
theorem dX11_glue_9 : decode cX11_glue 9 = .ok (.dup, 1) := by decide +kernel
theorem dX11_glue_10 : decode cX11_glue 10 = .ok (.bipush 103, 2) := by decide +kernel
theorem dX11_glue_12 : decode cX11_glue 12 = .ok (.aload_n 0, 1) := by decide +kernel
theorem dX11_glue_13 : decode cX11_glue 13 = .ok (.getfield 55, 3) := by decide +kernel
theorem dX11_glue_16 : decode cX11_glue 16 = .ok (.iconst 0, 1) := by decide +kernel
theorem dX11_glue_17 : decode cX11_glue 17 = .ok (.iload_n 1, 1) := by decide +kernel
theorem dX11_glue_18 : decode cX11_glue 18 = .ok (.iload_n 2, 1) := by decide +kernel
theorem dX11_glue_19 : decode cX11_glue 19 = .ok (.invokespecial 163, 3) := by decide +kernel
theorem dX11_glue_22 : decode cX11_glue 22 = .ok (.invokevirtual 172, 3) := by decide +kernel
theorem dX11_glue_25 : decode cX11_glue 25 = .ok (.ireturn, 1) := by decide +kernel
theorem dX3_copyFrom_0 : decode cX3_copyFrom 0 = .ok (.aload_n 0, 1) := by decide +kernel
theorem dX3_copyFrom_1 : decode cX3_copyFrom 1 = .ok (.aload_n 1, 1) := by decide +kernel
theorem dX3_copyFrom_2 : decode cX3_copyFrom 2 = .ok (.getfield 18, 3) := by decide +kernel
theorem dX3_copyFrom_5 : decode cX3_copyFrom 5 = .ok (.putfield 18, 3) := by decide +kernel
theorem dX3_copyFrom_8 : decode cX3_copyFrom 8 = .ok (.iconst 0, 1) := by decide +kernel
theorem dX3_copyFrom_9 : decode cX3_copyFrom 9 = .ok (.istore_n 2, 1) := by decide +kernel
theorem dX3_copyFrom_10 : decode cX3_copyFrom 10 = .ok (.iload_n 2, 1) := by decide +kernel
theorem dX3_copyFrom_11 : decode cX3_copyFrom 11 = .ok (.aload_n 0, 1) := by decide +kernel
theorem dX3_copyFrom_12 : decode cX3_copyFrom 12 = .ok (.getfield 18, 3) := by decide +kernel
theorem dX3_copyFrom_15 : decode cX3_copyFrom 15 = .ok (.if_icmp .ge 33, 3) := by decide +kernel
theorem dX3_copyFrom_48 : decode cX3_copyFrom 48 = .ok (.return_, 1) := by decide +kernel
theorem dX11_lend_0 : decode cX11_lend 0 = .ok (.new 161, 3) := by decide +kernel
theorem dX11_lend_3 : decode cX11_lend 3 = .ok (.dup, 1) := by decide +kernel
theorem dX11_lend_4 : decode cX11_lend 4 = .ok (.bipush 111, 2) := by decide +kernel
theorem dX11_lend_6 : decode cX11_lend 6 = .ok (.aload_n 0, 1) := by decide +kernel
theorem dX11_lend_7 : decode cX11_lend 7 = .ok (.getfield 55, 3) := by decide +kernel
theorem dX11_lend_10 : decode cX11_lend 10 = .ok (.iconst 0, 1) := by decide +kernel
theorem dX11_lend_11 : decode cX11_lend 11 = .ok (.iconst 0, 1) := by decide +kernel
theorem dX11_lend_12 : decode cX11_lend 12 = .ok (.iconst 0, 1) := by decide +kernel
theorem dX11_lend_13 : decode cX11_lend 13 = .ok (.invokespecial 163, 3) := by decide +kernel
theorem dX11_lend_16 : decode cX11_lend 16 = .ok (.astore_n 1, 1) := by decide +kernel
theorem dX11_lend_17 : decode cX11_lend 17 = .ok (.aload_n 1, 1) := by decide +kernel
theorem dX11_lend_18 : decode cX11_lend 18 = .ok (.getfield 393, 3) := by decide +kernel
theorem dX11_lend_21 : decode cX11_lend 21 = .ok (.aload_n 0, 1) := by decide +kernel
theorem dX11_lend_22 : decode cX11_lend 22 = .ok (.getfield 46, 3) := by decide +kernel
theorem dX11_lend_25 : decode cX11_lend 25 = .ok (.invokevirtual 394, 3) := by decide +kernel
theorem dX11_lend_28 : decode cX11_lend 28 = .ok (.aload_n 0, 1) := by decide +kernel
theorem dX11_lend_29 : decode cX11_lend 29 = .ok (.aload_n 1, 1) := by decide +kernel
theorem dX11_lend_30 : decode cX11_lend 30 = .ok (.invokevirtual 172, 3) := by decide +kernel
theorem z_c_X11_pass_408 (n : Int32) (a_0 : ¬ (1 ≤ n ∧ n ≤ 50)) : ¬ (1 ≤ n ∧ n ≤ 50) := by grind
theorem z_c_X11_pass_409 (n : Int32) (a_0 : 1 ≤ n ∧ n ≤ 50) (a_1 : False) : False := by grind
theorem z_c_X11_pass_410 (n : Int32) (a_0 : 1 ≤ n ∧ n ≤ 50) : (1600 + n) = 1600 + n ∧ (1 ≤ n ∧ n ≤ 50) := by grind
def wo_c_X11_pass_w : List Cond := [Cond.classLink RX11 161 RX0, Cond.instantiable RX0 12, Cond.initialized RX0, Cond.fieldLink RX11 55 "Underpaint" "noStuff" "LUnderpaint$Stuff;", Cond.methodLink RX11 163 yX0_init, Cond.instanceMethod yX0_init, Cond.fieldLink RX11 69 "Underpaint" "lightNow" "I", Cond.fieldLink RX11 203 "Underpaint$Act" "light" "I", Cond.fieldLink RX11 73 "Underpaint" "dampNow" "I", Cond.fieldLink RX11 206 "Underpaint$Act" "damp" "I"]
def wo_c_X11_pass : List Cond := .code yX11_pass cX11_pass 3 (some .int) :: (wo_c_X11_pass_w ++ (u_ws RX0 TX0 12 ++ (u_ws RX11 TX11 14 ++ (va_wsS RX11 91 yX11_isWithin wsX11_isWithin ++ (va_wsS RX11 87 yX11_demandArgument wsX11_demandArgument ++ (wo_c_X0_init ++ (wsV RX11 172 RX11 yX11_enter wo_c_enter_y ++ List.nil)))))))
theorem gw_wo_c_X11_pass : wo_c_X11_pass.all goodWord = true := gw_c (by decide +kernel) (gw_a (by decide +kernel) (gw_a (by decide +kernel) (gw_a (by decide +kernel) (gw_a (gw_a (by decide +kernel) gw_wsX11_isWithin) (gw_a (gw_a (by decide +kernel) gw_wsX11_demandArgument) (gw_a gw_wo_c_X0_init (gw_a (gw_a (by decide +kernel) gw_wo_c_enter_y) rfl)))))))
theorem go_c_X11_pass_0 : GoodIn wo_c_X11_pass (va_wsS RX11 91 yX11_isWithin wsX11_isWithin) := goodIn_sub (fun _ h => List.mem_cons_of_mem _ (List.mem_append_right _ (List.mem_append_right _ (List.mem_append_right _ (List.mem_append_left _ h))))) (gw_a (by decide +kernel) gw_wsX11_isWithin)
theorem go_c_X11_pass_1 : GoodIn wo_c_X11_pass (va_wsS RX11 87 yX11_demandArgument wsX11_demandArgument) := goodIn_sub (fun _ h => List.mem_cons_of_mem _ (List.mem_append_right _ (List.mem_append_right _ (List.mem_append_right _ (List.mem_append_right _ (List.mem_append_left _ h)))))) (gw_a (by decide +kernel) gw_wsX11_demandArgument)
theorem go_c_X11_pass_2 : GoodIn wo_c_X11_pass (wo_c_X0_init) := goodIn_sub (fun _ h => List.mem_cons_of_mem _ (List.mem_append_right _ (List.mem_append_right _ (List.mem_append_right _ (List.mem_append_right _ (List.mem_append_right _ (List.mem_append_left _ h))))))) gw_wo_c_X0_init
theorem go_c_X11_pass_3 : GoodIn wo_c_X11_pass (wsV RX11 172 RX11 yX11_enter wo_c_enter_y) := goodIn_sub (fun _ h => List.mem_cons_of_mem _ (List.mem_append_right _ (List.mem_append_right _ (List.mem_append_right _ (List.mem_append_right _ (List.mem_append_right _ (List.mem_append_right _ (List.mem_append_left _ h)))))))) (gw_a (by decide +kernel) gw_wo_c_enter_y)
set_option maxHeartbeats 4000000 in
set_option maxRecDepth 100000 in
theorem c_X11_pass (l : Launch) (hst : l.stackTraces = false) (dC : Nat → ClassId) (dI : Nat → Nat → Nat) (b0 : Nat) (en : EnT) (sz : Nat) (h pal she fil nte dat vot loa nos pic spa : Nat) (st sp ll : Nat) (g : Nat → Option Nat) (cS : ClassId) (N : Nat → Prop) (n : Int32) (hNb : ∀ a, N a → b0 ≤ a ∧ a < sz) (hNw : ∀ a, N a → a ∉ List.map Prod.fst ([(fil, .inr (5, [.int 0, .ref en.2.2.1, .int 0])), (pic, .inr (11, [.ref st, .ref sp, .ref ll, .int 0, .int 1600]))] : va_W)) (hNr : ∀ a, N a → a ∉ List.map Prod.fst ([(h, .inr (17, [.ref pal, .ref she, .ref fil, .ref nte, .ref dat, .ref vot, .ref loa, .ref nos, .ref pic, .ref spa, .int 5, .int 50, .int 1600, .int 0])), (st, .inl (cS, 48, .inr (.inr (.inr (.inr g)))))] : va_W)) : vx_Met l yX11_pass wo_c_X11_pass ({ frames := 8, cells := 8, slots := 59, locals := 148 } : Room) (cP b0 en (dC, dI) [(cS, .object "Underpaint$Stack")] [(fil, .inr (5, [.int 0, .ref en.2.2.1, .int 0])), (pic, .inr (11, [.ref st, .ref sp, .ref ll, .int 0, .int 1600]))] [(h, .inr (17, [.ref pal, .ref she, .ref fil, .ref nte, .ref dat, .ref vot, .ref loa, .ref nos, .ref pic, .ref spa, .int 5, .int 50, .int 1600, .int 0])), (st, .inl (cS, 48, .inr (.inr (.inr (.inr g)))))] sz (FamS (dC, dI) N g) [.ref h, .int n]) (va_Qi (fun (r : Int32) (_ : Unit) => r = 1600 + n ∧ (1 ≤ n ∧ n ≤ 50)) (fun _ _ => True) (va_A [(fil, .inr (5, [.int 0, .ref en.2.2.1, .int 0])), (pic, .inr (11, [.ref st, .ref sp, .ref ll, .int 0, .int 1600]))] sz)) (vx_X (fun _ : Unit => True) (fun E _ _ => (E = "java/lang/IllegalArgumentException" ∧ ¬ (1 ≤ n ∧ n ≤ 50))) (va_A [(fil, .inr (5, [.int 0, .ref en.2.2.1, .int 0])), (pic, .inr (11, [.ref st, .ref sp, .ref ll, .int 0, .int 1600]))] sz)) 8 59 (va_A [(fil, .inr (5, [.int 0, .ref en.2.2.1, .int 0])), (pic, .inr (11, [.ref st, .ref sp, .ref ll, .int 0, .int 1600]))] sz) := by
  refine vx_ofW (cc := cX11_pass) (maxL := 3) (ret := (some .int)) (by decide) rfl ?_
  intro p e s m args below meth c s₁ B hml hext hv
  obtain ⟨rfl, hsz, hb0, hE, hPP, hK, hDD, hF0⟩ := hv
  have hx := B.exec
  have hb := B.bytes
  have hr := B.returns
  have hts := atoms_spec (ws := wo_c_X11_pass) B.pre
  have hown : s.vm.findClass RX11 = some m.cls := findClass_of_methodNamed B.named
  have hlocks := B.notSynchronized
  subst hsz
  have hN0 := en_N hPP hDD rfl
  have hP : va_P (dC, dI) vwCl [(fil, .inr (5, [.int 0, .ref en.2.2.1, .int 0])), (pic, .inr (11, [.ref st, .ref sp, .ref ll, .int 0, .int 1600]))] s.heap := hPP.sub [0, 1] rfl
  have hR0 : va_P (dC, dI) vwCl [(h, .inr (17, [.ref pal, .ref she, .ref fil, .ref nte, .ref dat, .ref vot, .ref loa, .ref nos, .ref pic, .ref spa, .int 5, .int 50, .int 1600, .int 0])), (st, .inl (cS, 48, .inr (.inr (.inr (.inr g)))))] s.heap := hPP.sub [2, 3] rfl
  have hD0 : va_D (fun q => b0 ≤ q) [(fil, .inr (5, [.int 0, .ref en.2.2.1, .int 0])), (pic, .inr (11, [.ref st, .ref sp, .ref ll, .int 0, .int 1600]))] := hDD.sub [0, 1] (by decide) rfl
  have hDr : va_D (fun q => b0 ≤ q) [(h, .inr (17, [.ref pal, .ref she, .ref fil, .ref nte, .ref dat, .ref vot, .ref loa, .ref nos, .ref pic, .ref spa, .int 5, .int 50, .int 1600, .int 0])), (st, .inl (cS, 48, .inr (.inr (.inr (.inr g)))))] := hDD.sub [2, 3] (by decide) rfl
  have hAb := en_A (sz := s.heap.size) hD0 hb0
  have hD := hD0.self (sz := s.heap.size)
  generalize hAe : va_A [(fil, .inr (5, [.int 0, .ref en.2.2.1, .int 0])), (pic, .inr (11, [.ref st, .ref sp, .ref ll, .int 0, .int 1600]))] s.heap.size = A at hD hAb hN0 ⊢
  have hA : ∀ q : Nat, s.heap.size ≤ q → A q := fun q h => by rw [← hAe]; exact Or.inr h
  have hS : va_S A s.heap s.heap [] := va_S.rf
  have hR := hR0
  have hl := lv_entry [.ref h, .int n] (n := 3) (Nat.le_of_ble_eq_true rfl)
  rw [lg_entry_eq]
  generalize (lg_sl [.ref h, .int n] ++ List.replicate (3 - (lg_sl [.ref h, .int n]).length) Slot.unset).toArray = ls at hl ⊢
  have hl : lv_has ls 3 [(0, .ref h), (1, .int n)] := hl
  have hR0b := hR0
  have hDrb := hDr
  have hN0b := hN0
  refine lv_iload_n hx hb dX11_pass_0 rfl (lv_at hl 1 rfl) ?_
  refine lv_iconst (v := 1) hx hb dX11_pass_1 (by decide) ?_
  refine lv_bipush (v := 50) hx hb dX11_pass_2 (by decide) ?_
  have hPc := (hP.app hR).sub (ws' := [] ++ []) [] rfl
  have hDc := (en_DD hD hDr hN0 hAb).sub (ws' := [] ++ []) [] (by decide) rfl
  have hKc := hK.sub (tys' := []) [] rfl
  have hFc := va_free (wc := []) hD hS hA [] rfl
  refine va_calli (va_runS (As := [.int n, .int 1, .int 50]) (rest := []) ⟨hx, hb, hml, hown, hts⟩ (c_X11_isWithin l dC dI b0 en s.heap.size n 1 50) (va_cwS 3 hts go_c_X11_pass_0 rfl rfl rfl (by decide +kernel) ⟨Nat.le_of_ble_eq_true rfl, Nat.le_of_ble_eq_true rfl⟩) ⟨cP.blind, cP.use (en_z hb0 hS) (hE.on hAb hS) hPc hKc hDc trivial⟩ rfl rfl hl.1 rfl (lv_room (Nat.le_of_ble_eq_true rfl)) dX11_pass_4 ⟨Nat.le_of_ble_eq_true rfl, Nat.le_of_ble_eq_true rfl⟩) hS (fun q _ h => hFc q h) hFc (fun r_1 u t H1 locs ht hvm hw hB hz1 hk1 hS => ?_)
  have hP1 : va_P (dC, dI) vwCl [] H1 := fun k q h => by simp at h
  have hD1 : va_D (va_A [] s.heap.size) [] := ⟨fun i j p q h => by simp at h, fun k q h => by simp at h⟩
  try dsimp only at hw
  obtain ⟨hP, hD⟩ := va_join (wr := [(fil, .inr (5, [.int 0, .ref en.2.2.1, .int 0])), (pic, .inr (11, [.ref st, .ref sp, .ref ll, .int 0, .int 1600]))]) (w1 := []) hP hD [] [0, 1] rfl rfl (by decide) (by decide) hk1 hFc hP1 hD1
  generalize H1 = H at hP hS ⊢
  have hP : va_P (dC, dI) vwCl [(fil, .inr (5, [.int 0, .ref en.2.2.1, .int 0])), (pic, .inr (11, [.ref st, .ref sp, .ref ll, .int 0, .int 1600]))] H := hP
  have hD : va_D A [(fil, .inr (5, [.int 0, .ref en.2.2.1, .int 0])), (pic, .inr (11, [.ref st, .ref sp, .ref ll, .int 0, .int 1600]))] := hD
  have hR := en_R hR0 hN0 hS
  refine W.widen (k := 0) (n := 0) (Nat.le_of_ble_eq_true rfl) (Nat.le_of_ble_eq_true rfl) ?_
  have h_2 := hw
  have hPc := (hP.app hR).sub (ws' := [] ++ []) [] rfl
  have hDc := (en_DD hD hDr hN0 hAb).sub (ws' := [] ++ []) [] (by decide) rfl
  have hKc := hK.sub (tys' := []) [] rfl
  have hFc := va_free (wc := []) hD hS hA [] rfl
  refine vx_callv (vx_runS (As := [.int r_1]) (rest := []) ⟨hx, hb, hml, hown, hts⟩ (c_X11_demandArgument l hst dC dI b0 en H.size r_1) (va_cwS 1 hts go_c_X11_pass_1 rfl rfl rfl (by decide +kernel) ⟨Nat.le_of_ble_eq_true rfl, Nat.le_of_ble_eq_true rfl⟩) ⟨cP.blind, cP.use (en_z hb0 hS) (hE.on hAb hS) hPc hKc hDc trivial⟩ rfl rfl hl.1 rfl (lv_room (Nat.le_of_ble_eq_true rfl)) dX11_pass_7 ⟨Nat.le_of_ble_eq_true rfl, Nat.le_of_ble_eq_true rfl⟩) hS (fun q _ h => hFc q h) hFc (fun q _ h => hFc q h) (fun E ce q9 u t H1 locs ht hvm hpx hBX hz1 hk1 hS hce hcv hcl => ?_) (fun u t H1 locs ht hvm hw hB hz1 hk1 hS => ?_)
  · skip
    try dsimp only at hBX
    obtain ⟨rfl, hc⟩ := hBX
    refine vx_widen (k := 8) (n := 59) (Nat.le_of_ble_eq_true rfl) (Nat.le_of_ble_eq_true rfl) ?_
    exact vx_out (fun x hx => (hext x hx).elim) hlocks hce hcv hcl (fun t ht hW => ⟨(), trivial, ⟨rfl, (z_c_X11_pass_408 n (b_no h_2 hc))⟩, hS.F ht⟩) hS.2.2 (Nat.le_refl _) (Nat.le_refl _)
  have hP1 : va_P (dC, dI) vwCl [] H1 := fun k q h => by simp at h
  have hD1 : va_D (va_A [] H.size) [] := ⟨fun i j p q h => by simp at h, fun k q h => by simp at h⟩
  try dsimp only at hw
  obtain ⟨hP, hD⟩ := va_join (wr := [(fil, .inr (5, [.int 0, .ref en.2.2.1, .int 0])), (pic, .inr (11, [.ref st, .ref sp, .ref ll, .int 0, .int 1600]))]) (w1 := []) hP hD [] [0, 1] rfl rfl (by decide) (by decide) hk1 hFc hP1 hD1
  generalize H1 = H at hP hS ⊢
  have hP : va_P (dC, dI) vwCl [(fil, .inr (5, [.int 0, .ref en.2.2.1, .int 0])), (pic, .inr (11, [.ref st, .ref sp, .ref ll, .int 0, .int 1600]))] H := hP
  have hD : va_D A [(fil, .inr (5, [.int 0, .ref en.2.2.1, .int 0])), (pic, .inr (11, [.ref st, .ref sp, .ref ll, .int 0, .int 1600]))] := hD
  have hR := en_R hR0 hN0 hS
  refine W.widen (k := 1) (n := 6) (Nat.le_of_ble_eq_true rfl) (Nat.le_of_ble_eq_true rfl) ?_
  have h_4 := hw
  have hz9 := hS.1
  refine va_newX (ci := 6) (fs := [.int 0, .null, .int 0, .int 0, .int 0, .int 0, .int 0, .int 0, .int 0, .int 0, .int 0, .null]) (C := RX0) (T := TX0) (N := 12) hx hb hts (by decide +kernel) tyX0 tyX0_ok hown (hts (.classLink RX11 161 RX0) (by decide +kernel)) (hts (.instantiable RX0 12) (by decide +kernel)) (hts (.initialized RX0) (by decide +kernel)) hK hP hD hS hA rfl (fun j hj => by rcases (show j = 0 ∨ j = 1 ∨ j = 2 ∨ j = 3 ∨ j = 4 ∨ j = 5 ∨ j = 6 ∨ j = 7 ∨ j = 8 ∨ j = 9 ∨ j = 10 ∨ j = 11 by omega) with rfl | rfl | rfl | rfl | rfl | rfl | rfl | rfl | rfl | rfl | rfl | rfl <;> rfl) (Nat.le_of_ble_eq_true rfl) (Nat.le_of_ble_eq_true rfl) dX11_pass_10 (fun q_5 H hP hD hS hoq hoz => ?_)
  have hP : va_P (dC, dI) vwCl [(fil, .inr (5, [.int 0, .ref en.2.2.1, .int 0])), (pic, .inr (11, [.ref st, .ref sp, .ref ll, .int 0, .int 1600])), (q_5, .inr (6, [.int 0, .null, .int 0, .int 0, .int 0, .int 0, .int 0, .int 0, .int 0, .int 0, .int 0, .null]))] H := hP
  have hD : va_D A [(fil, .inr (5, [.int 0, .ref en.2.2.1, .int 0])), (pic, .inr (11, [.ref st, .ref sp, .ref ll, .int 0, .int 1600])), (q_5, .inr (6, [.int 0, .null, .int 0, .int 0, .int 0, .int 0, .int 0, .int 0, .int 0, .int 0, .int 0, .null]))] := hD
  have hR := en_R hR0 hN0 hS
  refine W.widen (k := 2) (n := 18) (Nat.le_of_ble_eq_true rfl) (Nat.le_of_ble_eq_true rfl) ?_
  have hgz_q_5 : s.heap.size ≤ q_5 := by rw [hoz]; exact hz9
  have hoz_q_5 := hoz
  refine lv_dup hx hb dX11_pass_13 rfl ?_
  refine lv_bipush (v := 121) hx hb dX11_pass_14 (by decide) ?_
  refine lv_aload_n hx hb dX11_pass_16 rfl (lv_at hl 0 rfl) ?_
  refine va_get (D := (dC, dI)) (ci := 17) (v := .ref nos) (C := RX11) (T := TX11) (N := 14) hx hb hts (by decide +kernel) hown hK hR 0 rfl rfl 7 (by decide) (hts (.fieldLink RX11 55 "Underpaint" "noStuff" "LUnderpaint$Stuff;") (by decide +kernel)) (fun _ h9 => h9) rfl dX11_pass_17 ?_
  refine lv_iload_n hx hb dX11_pass_20 rfl (lv_at hl 1 rfl) ?_
  refine lv_iconst (v := 0) hx hb dX11_pass_21 (by decide) ?_
  refine lv_iconst (v := 0) hx hb dX11_pass_22 (by decide) ?_
  have hS9 := hS
  have hPc := (hP.app hR).sub (ws' := [(q_5, .inr (6, [.int 0, .null, .int 0, .int 0, .int 0, .int 0, .int 0, .int 0, .int 0, .int 0, .int 0, .null]))] ++ []) [2] rfl
  have hDc := (en_DD hD hDr hN0 hAb).sub (ws' := [(q_5, .inr (6, [.int 0, .null, .int 0, .int 0, .int 0, .int 0, .int 0, .int 0, .int 0, .int 0, .int 0, .null]))] ++ []) [2] (by decide) rfl
  have hKc := hK.sub (tys' := []) [] rfl
  have hFc := va_free (wc := [(q_5, .inr (6, [.int 0, .null, .int 0, .int 0, .int 0, .int 0, .int 0, .int 0, .int 0, .int 0, .int 0, .null]))]) hD hS hA [2] rfl
  refine va_callv (va_runI (As := [.int 121, .ref nos, .int n, .int 0, .int 0]) (rest := [.ref q_5]) ⟨hx, hb, hml, hown, hts⟩ (c_X0_init l dC dI b0 en H.size q_5 nos 121 n 0 0) (cwI 5 hts go_c_X11_pass_2 rfl rfl rfl (hts (.initialized RX0) (by decide +kernel)) (hts (.methodLink RX11 163 yX0_init) (by decide +kernel)) (hts (.instanceMethod yX0_init) (by decide +kernel)) rfl (by decide +kernel) ⟨Nat.le_of_ble_eq_true rfl, Nat.le_of_ble_eq_true rfl⟩) ⟨cP.blind, cP.use (en_z hb0 hS) (hE.on hAb hS) hPc hKc hDc trivial⟩ rfl rfl hl.1 rfl (lv_room (Nat.le_of_ble_eq_true rfl)) dX11_pass_23 ⟨Nat.le_of_ble_eq_true rfl, Nat.le_of_ble_eq_true rfl⟩) hS (fun q _ h => hFc q h) hFc (fun ⟨lo_7, lh_8, ld_9, kI_10⟩ t H1 locs ht hvm hw hB hz1 hk1 hS => ?_)
  obtain ⟨hP1, hK1, hD1, hF1⟩ := hB
  rw [ht] at hP1
  try rw [ht] at hF1
  have hK1 := va_K.moved hvm.symm hK1
  try dsimp only at hw
  obtain ⟨hP, hD⟩ := va_join (wr := [(fil, .inr (5, [.int 0, .ref en.2.2.1, .int 0])), (pic, .inr (11, [.ref st, .ref sp, .ref ll, .int 0, .int 1600]))]) (w1 := [(q_5, .inr (6, [.int 121, .ref nos, .int n, .int 0, .int 0, .int 0, .int 0, .int 0, .int 0, .int 0, .int 0, .ref lo_7])), (lo_7, .inr (9, [.ref lh_8, .ref ld_9, .int 0])), (lh_8, .inl (kI_10, 8, .inl (fun _ => 0))), (ld_9, .inl (kI_10, 8, .inl (fun _ => 0)))]) hP hD [2] [0, 1] rfl rfl (by decide) (by decide) hk1 hFc hP1 hD1
  have hK := hK.app hK1
  have hgz_lo_7 : s.heap.size ≤ lo_7 := Nat.le_trans hS9.1 (vGeN hD1 1 rfl (by simp only [List.map_cons, List.map_nil, List.mem_cons, List.not_mem_nil, or_false, not_or, not_false_eq_true]; exact vAp hD1 1 0 rfl rfl (by decide)))
  have hgz_lh_8 : s.heap.size ≤ lh_8 := Nat.le_trans hS9.1 (vGeN hD1 2 rfl (by simp only [List.map_cons, List.map_nil, List.mem_cons, List.not_mem_nil, or_false, not_or, not_false_eq_true]; exact vAp hD1 2 0 rfl rfl (by decide)))
  have hgz_ld_9 : s.heap.size ≤ ld_9 := Nat.le_trans hS9.1 (vGeN hD1 3 rfl (by simp only [List.map_cons, List.map_nil, List.mem_cons, List.not_mem_nil, or_false, not_or, not_false_eq_true]; exact vAp hD1 3 0 rfl rfl (by decide)))
  generalize H1 = H at hP hS ⊢
  have hP : va_P (dC, dI) vwCl [(fil, .inr (5, [.int 0, .ref en.2.2.1, .int 0])), (pic, .inr (11, [.ref st, .ref sp, .ref ll, .int 0, .int 1600])), (q_5, .inr (6, [.int 121, .ref nos, .int n, .int 0, .int 0, .int 0, .int 0, .int 0, .int 0, .int 0, .int 0, .ref lo_7])), (lo_7, .inr (9, [.ref lh_8, .ref ld_9, .int 0])), (lh_8, .inl (kI_10, 8, .inl (fun _ => 0))), (ld_9, .inl (kI_10, 8, .inl (fun _ => 0)))] H := hP
  have hD : va_D A [(fil, .inr (5, [.int 0, .ref en.2.2.1, .int 0])), (pic, .inr (11, [.ref st, .ref sp, .ref ll, .int 0, .int 1600])), (q_5, .inr (6, [.int 121, .ref nos, .int n, .int 0, .int 0, .int 0, .int 0, .int 0, .int 0, .int 0, .int 0, .ref lo_7])), (lo_7, .inr (9, [.ref lh_8, .ref ld_9, .int 0])), (lh_8, .inl (kI_10, 8, .inl (fun _ => 0))), (ld_9, .inl (kI_10, 8, .inl (fun _ => 0)))] := hD
  have hR := en_R hR0 hN0 hS
  refine W.widen (k := 5) (n := 37) (Nat.le_of_ble_eq_true rfl) (Nat.le_of_ble_eq_true rfl) ?_
  refine lv_astore_n (lv' := [(2, .ref q_5), (0, .ref h), (1, .int n)]) hx hb dX11_pass_26 rfl hl (by decide) rfl (fun ls hl => ?_)
  refine lv_aload_n hx hb dX11_pass_27 rfl (lv_at hl 0 rfl) ?_
  refine lv_aload_n hx hb dX11_pass_28 rfl (lv_at hl 1 rfl) ?_
  refine va_get (D := (dC, dI)) (ci := 17) (v := .int 5) (C := RX11) (T := TX11) (N := 14) hx hb hts (by decide +kernel) hown hK hR 0 rfl rfl 10 (by decide) (hts (.fieldLink RX11 69 "Underpaint" "lightNow" "I") (by decide +kernel)) (fun _ h9 => h9) rfl dX11_pass_29 ?_
  refine va_put (D := (dC, dI)) (ci := 6) (v := .int 5) (ty := .int) (C := RX0) (T := TX0) (N := 12) hx hb hts (by decide +kernel) tyX0 tyX0_ok nmX0 hown hK hP hD hS 2 rfl rfl 9 (by decide) (hts (.fieldLink RX11 203 "Underpaint$Act" "light" "I") (by decide +kernel)) (fun _ h9 => h9) rfl (by decide +kernel) rfl rfl (Nat.le_of_ble_eq_true rfl) dX11_pass_32 (fun H locs hP hD hS => ?_)
  have hP : va_P (dC, dI) vwCl [(fil, .inr (5, [.int 0, .ref en.2.2.1, .int 0])), (pic, .inr (11, [.ref st, .ref sp, .ref ll, .int 0, .int 1600])), (q_5, .inr (6, [.int 121, .ref nos, .int n, .int 0, .int 0, .int 0, .int 0, .int 0, .int 0, .int 5, .int 0, .ref lo_7])), (lo_7, .inr (9, [.ref lh_8, .ref ld_9, .int 0])), (lh_8, .inl (kI_10, 8, .inl (fun _ => 0))), (ld_9, .inl (kI_10, 8, .inl (fun _ => 0)))] H := hP
  have hD : va_D A [(fil, .inr (5, [.int 0, .ref en.2.2.1, .int 0])), (pic, .inr (11, [.ref st, .ref sp, .ref ll, .int 0, .int 1600])), (q_5, .inr (6, [.int 121, .ref nos, .int n, .int 0, .int 0, .int 0, .int 0, .int 0, .int 0, .int 5, .int 0, .ref lo_7])), (lo_7, .inr (9, [.ref lh_8, .ref ld_9, .int 0])), (lh_8, .inl (kI_10, 8, .inl (fun _ => 0))), (ld_9, .inl (kI_10, 8, .inl (fun _ => 0)))] := hD
  have hR := en_R hR0 hN0 hS
  refine lv_aload_n hx hb dX11_pass_35 rfl (lv_at hl 0 rfl) ?_
  refine lv_aload_n hx hb dX11_pass_36 rfl (lv_at hl 1 rfl) ?_
  refine va_get (D := (dC, dI)) (ci := 17) (v := .int 50) (C := RX11) (T := TX11) (N := 14) hx hb hts (by decide +kernel) hown hK hR 0 rfl rfl 11 (by decide) (hts (.fieldLink RX11 73 "Underpaint" "dampNow" "I") (by decide +kernel)) (fun _ h9 => h9) rfl dX11_pass_37 ?_
  refine va_put (D := (dC, dI)) (ci := 6) (v := .int 50) (ty := .int) (C := RX0) (T := TX0) (N := 12) hx hb hts (by decide +kernel) tyX0 tyX0_ok nmX0 hown hK hP hD hS 2 rfl rfl 10 (by decide) (hts (.fieldLink RX11 206 "Underpaint$Act" "damp" "I") (by decide +kernel)) (fun _ h9 => h9) rfl (by decide +kernel) rfl rfl (Nat.le_of_ble_eq_true rfl) dX11_pass_40 (fun H locs hP hD hS => ?_)
  have hP : va_P (dC, dI) vwCl [(fil, .inr (5, [.int 0, .ref en.2.2.1, .int 0])), (pic, .inr (11, [.ref st, .ref sp, .ref ll, .int 0, .int 1600])), (q_5, .inr (6, [.int 121, .ref nos, .int n, .int 0, .int 0, .int 0, .int 0, .int 0, .int 0, .int 5, .int 50, .ref lo_7])), (lo_7, .inr (9, [.ref lh_8, .ref ld_9, .int 0])), (lh_8, .inl (kI_10, 8, .inl (fun _ => 0))), (ld_9, .inl (kI_10, 8, .inl (fun _ => 0)))] H := hP
  have hD : va_D A [(fil, .inr (5, [.int 0, .ref en.2.2.1, .int 0])), (pic, .inr (11, [.ref st, .ref sp, .ref ll, .int 0, .int 1600])), (q_5, .inr (6, [.int 121, .ref nos, .int n, .int 0, .int 0, .int 0, .int 0, .int 0, .int 0, .int 5, .int 50, .ref lo_7])), (lo_7, .inr (9, [.ref lh_8, .ref ld_9, .int 0])), (lh_8, .inl (kI_10, 8, .inl (fun _ => 0))), (ld_9, .inl (kI_10, 8, .inl (fun _ => 0)))] := hD
  have hR := en_R hR0 hN0 hS
  refine lv_aload_n hx hb dX11_pass_43 rfl (lv_at hl 1 rfl) ?_
  refine lv_aload_n hx hb dX11_pass_44 rfl (lv_at hl 0 rfl) ?_
  have hPc := (hP.app hR).sub (ws' := [(fil, .inr (5, [.int 0, .ref en.2.2.1, .int 0])), (pic, .inr (11, [.ref st, .ref sp, .ref ll, .int 0, .int 1600]))] ++ [(h, .inr (17, [.ref pal, .ref she, .ref fil, .ref nte, .ref dat, .ref vot, .ref loa, .ref nos, .ref pic, .ref spa, .int 5, .int 50, .int 1600, .int 0])), (st, .inl (cS, 48, .inr (.inr (.inr (.inr g))))), (q_5, .inr (6, [.int 121, .ref nos, .int n, .int 0, .int 0, .int 0, .int 0, .int 0, .int 0, .int 5, .int 50, .ref lo_7]))]) [0, 1, 6, 7, 2] rfl
  have hDc := (en_DD hD hDr hN0 hAb).sub (ws' := [(fil, .inr (5, [.int 0, .ref en.2.2.1, .int 0])), (pic, .inr (11, [.ref st, .ref sp, .ref ll, .int 0, .int 1600]))] ++ [(h, .inr (17, [.ref pal, .ref she, .ref fil, .ref nte, .ref dat, .ref vot, .ref loa, .ref nos, .ref pic, .ref spa, .int 5, .int 50, .int 1600, .int 0])), (st, .inl (cS, 48, .inr (.inr (.inr (.inr g))))), (q_5, .inr (6, [.int 121, .ref nos, .int n, .int 0, .int 0, .int 0, .int 0, .int 0, .int 0, .int 5, .int 50, .ref lo_7]))]) [0, 1, 6, 7, 2] (by decide) rfl
  have hKc := hK.sub (tys' := [(cS, .object "Underpaint$Stack")]) [0] rfl
  have hFc := va_free (wc := [(fil, .inr (5, [.int 0, .ref en.2.2.1, .int 0])), (pic, .inr (11, [.ref st, .ref sp, .ref ll, .int 0, .int 1600]))]) hD hS hA [0, 1] rfl
  refine vx_calli (vx_runV (As := [.ref q_5]) (rest := []) ⟨hx, hb, hml, hown, hts⟩ (c_enter_y l hst dC dI b0 en H.size h pal she fil nte dat vot loa nos pic spa st sp ll g cS N q_5 nos lo_7 n 5 50 (fun a9 h9 => ⟨(hNb a9 h9).1, Nat.lt_of_lt_of_le (hNb a9 h9).2 hS.1⟩) (fun a9 h9 z9 => by have g1 := hNw a9 h9; have g2 := hNr a9 h9; have g3 := (hNb a9 h9).2; simp only [List.map_cons, List.map_nil, List.mem_cons, List.not_mem_nil, or_false, not_or] at g1 g2 z9 <;> omega) (fun a9 h9 z9 => by have g1 := hNw a9 h9; have g2 := hNr a9 h9; have g3 := (hNb a9 h9).2; simp only [List.map_cons, List.map_nil, List.mem_cons, List.not_mem_nil, or_false, not_or] at g1 g2 z9 <;> omega)) (cwV 1 hts go_c_X11_pass_3 rfl rfl rfl (by decide +kernel) ⟨Nat.le_of_ble_eq_true rfl, Nat.le_of_ble_eq_true rfl⟩) ⟨cP.blind, va_recv hK hR (ci := 17) (q0 := 0) rfl rfl, cP.use (en_z hb0 hS) (hE.on hAb hS) hPc hKc hDc (hF0.on (fun a9 h8 h9 => by rw [← hAe]; exact vA1 h8 (hNw a9 h9)) hS)⟩ rfl rfl hl.1 rfl (lv_room (Nat.le_of_ble_eq_true rfl)) dX11_pass_45 ⟨Nat.le_of_ble_eq_true rfl, Nat.le_of_ble_eq_true rfl⟩) hS (fun q _ h => hFc q h) hFc (fun q _ h => hFc q h) (fun E ce q9 u t H1 locs ht hvm hpx hBX hz1 hk1 hS hce hcv hcl => ?_) (fun r_12 u t H1 locs ht hvm hw hB hz1 hk1 hS => ?_)
  · skip
    try dsimp only at hBX
    obtain ⟨rfl, hc⟩ := hBX
    exact absurd (z_c_X11_pass_409 n (b_yes h_2 h_4) hc) (fun z => z)
  have hP1 : va_P (dC, dI) vwCl [] H1 := fun k q h => by simp at h
  have hD1 : va_D (va_A [(fil, .inr (5, [.int 0, .ref en.2.2.1, .int 0])), (pic, .inr (11, [.ref st, .ref sp, .ref ll, .int 0, .int 1600]))] H.size) [] := ⟨fun i j p q h => by simp at h, fun k q h => by simp at h⟩
  try dsimp only at hw
  obtain ⟨hP, hD⟩ := va_join (wr := [(q_5, .inr (6, [.int 121, .ref nos, .int n, .int 0, .int 0, .int 0, .int 0, .int 0, .int 0, .int 5, .int 50, .ref lo_7])), (lo_7, .inr (9, [.ref lh_8, .ref ld_9, .int 0])), (lh_8, .inl (kI_10, 8, .inl (fun _ => 0))), (ld_9, .inl (kI_10, 8, .inl (fun _ => 0)))]) (w1 := []) hP hD [0, 1] [2, 3, 4, 5] rfl rfl (by decide) (by decide) hk1 hFc hP1 hD1
  generalize H1 = H at hP hS ⊢
  have hP : va_P (dC, dI) vwCl [(q_5, .inr (6, [.int 121, .ref nos, .int n, .int 0, .int 0, .int 0, .int 0, .int 0, .int 0, .int 5, .int 50, .ref lo_7])), (lo_7, .inr (9, [.ref lh_8, .ref ld_9, .int 0])), (lh_8, .inl (kI_10, 8, .inl (fun _ => 0))), (ld_9, .inl (kI_10, 8, .inl (fun _ => 0)))] H := hP
  have hD : va_D A [(q_5, .inr (6, [.int 121, .ref nos, .int n, .int 0, .int 0, .int 0, .int 0, .int 0, .int 0, .int 5, .int 50, .ref lo_7])), (lo_7, .inr (9, [.ref lh_8, .ref ld_9, .int 0])), (lh_8, .inl (kI_10, 8, .inl (fun _ => 0))), (ld_9, .inl (kI_10, 8, .inl (fun _ => 0)))] := hD
  have hR := en_R hR0 hN0 hS
  refine W.widen (k := 8) (n := 59) (Nat.le_of_ble_eq_true rfl) (Nat.le_of_ble_eq_true rfl) ?_
  subst r_12
  refine W.widen (k := 8) (n := 59) (Nat.le_of_ble_eq_true rfl) (Nat.le_of_ble_eq_true rfl) ?_
  refine vx_ret ?_
  exact W.iret (v := (1600 + n)) hx hb hr (fun t ht hW => ⟨⟨(1600 + n), (), rfl, (z_c_X11_pass_410 n (b_yes h_2 h_4)), trivial⟩, hS.F ht⟩) hS.2.2 dX11_pass_48
theorem z_c_X11_scratch_411 (x : Int32) (y : Int32) (de : Int32) (a_0 : ¬ ((0 ≤ x ∧ x < 8) ∧ (0 ≤ y ∧ y < 6))) : ¬ (((0 ≤ x ∧ x < 8) ∧ (0 ≤ y ∧ y < 6)) ∧ (1 ≤ de ∧ de ≤ 999)) := by grind
theorem z_c_X11_scratch_412 (x : Int32) (y : Int32) (de : Int32) (a_0 : (0 ≤ x ∧ x < 8) ∧ (0 ≤ y ∧ y < 6)) (a_1 : ¬ (1 ≤ de ∧ de ≤ 999)) : ¬ (((0 ≤ x ∧ x < 8) ∧ (0 ≤ y ∧ y < 6)) ∧ (1 ≤ de ∧ de ≤ 999)) := by grind
theorem z_c_X11_scratch_413 (x : Int32) (y : Int32) (de : Int32) (a_0 : (0 ≤ x ∧ x < 8) ∧ (0 ≤ y ∧ y < 6)) (a_1 : 1 ≤ de ∧ de ≤ 999) : (0 ≤ x ∧ x < 8) ∧ (0 ≤ y ∧ y < 6) := by grind
theorem z_c_X11_scratch_414 (x : Int32) (y : Int32) (de : Int32) (a_0 : (0 ≤ x ∧ x < 8) ∧ (0 ≤ y ∧ y < 6)) (a_1 : 1 ≤ de ∧ de ≤ 999) (a_2 : True) : ((0 ≤ x ∧ x < 8) ∧ (0 ≤ y ∧ y < 6)) ∧ (1 ≤ de ∧ de ≤ 999) := by grind
def wo_c_X11_scratch_w : List Cond := [Cond.classLink RX11 161 RX0, Cond.instantiable RX0 12, Cond.initialized RX0, Cond.fieldLink RX11 55 "Underpaint" "noStuff" "LUnderpaint$Stuff;", Cond.methodLink RX11 163 yX0_init, Cond.instanceMethod yX0_init]
def wo_c_X11_scratch : List Cond := .code yX11_scratch cX11_scratch 4 (some .int) :: (wo_c_X11_scratch_w ++ (u_ws RX0 TX0 12 ++ (u_ws RX11 TX11 14 ++ (va_wsS RX11 176 yX11_demandPlace wsX11_demandPlace ++ (va_wsS RX11 91 yX11_isWithin wsX11_isWithin ++ (va_wsS RX11 87 yX11_demandArgument wsX11_demandArgument ++ (wo_c_X0_init ++ (wsV RX11 172 RX11 yX11_enter wo_c_enter_s ++ List.nil))))))))
theorem gw_wo_c_X11_scratch : wo_c_X11_scratch.all goodWord = true := gw_c (by decide +kernel) (gw_a (by decide +kernel) (gw_a (by decide +kernel) (gw_a (by decide +kernel) (gw_a (gw_a (by decide +kernel) gw_wsX11_demandPlace) (gw_a (gw_a (by decide +kernel) gw_wsX11_isWithin) (gw_a (gw_a (by decide +kernel) gw_wsX11_demandArgument) (gw_a gw_wo_c_X0_init (gw_a (gw_a (by decide +kernel) gw_wo_c_enter_s) rfl))))))))
theorem go_c_X11_scratch_0 : GoodIn wo_c_X11_scratch (va_wsS RX11 176 yX11_demandPlace wsX11_demandPlace) := goodIn_sub (fun _ h => List.mem_cons_of_mem _ (List.mem_append_right _ (List.mem_append_right _ (List.mem_append_right _ (List.mem_append_left _ h))))) (gw_a (by decide +kernel) gw_wsX11_demandPlace)
theorem go_c_X11_scratch_1 : GoodIn wo_c_X11_scratch (va_wsS RX11 91 yX11_isWithin wsX11_isWithin) := goodIn_sub (fun _ h => List.mem_cons_of_mem _ (List.mem_append_right _ (List.mem_append_right _ (List.mem_append_right _ (List.mem_append_right _ (List.mem_append_left _ h)))))) (gw_a (by decide +kernel) gw_wsX11_isWithin)
theorem go_c_X11_scratch_2 : GoodIn wo_c_X11_scratch (va_wsS RX11 87 yX11_demandArgument wsX11_demandArgument) := goodIn_sub (fun _ h => List.mem_cons_of_mem _ (List.mem_append_right _ (List.mem_append_right _ (List.mem_append_right _ (List.mem_append_right _ (List.mem_append_right _ (List.mem_append_left _ h))))))) (gw_a (by decide +kernel) gw_wsX11_demandArgument)
theorem go_c_X11_scratch_3 : GoodIn wo_c_X11_scratch (wo_c_X0_init) := goodIn_sub (fun _ h => List.mem_cons_of_mem _ (List.mem_append_right _ (List.mem_append_right _ (List.mem_append_right _ (List.mem_append_right _ (List.mem_append_right _ (List.mem_append_right _ (List.mem_append_left _ h)))))))) gw_wo_c_X0_init
theorem go_c_X11_scratch_4 : GoodIn wo_c_X11_scratch (wsV RX11 172 RX11 yX11_enter wo_c_enter_s) := goodIn_sub (fun _ h => List.mem_cons_of_mem _ (List.mem_append_right _ (List.mem_append_right _ (List.mem_append_right _ (List.mem_append_right _ (List.mem_append_right _ (List.mem_append_right _ (List.mem_append_right _ (List.mem_append_left _ h))))))))) (gw_a (by decide +kernel) gw_wo_c_enter_s)
set_option maxHeartbeats 4000000 in
set_option maxRecDepth 100000 in
theorem c_X11_scratch (l : Launch) (hst : l.stackTraces = false) (dC : Nat → ClassId) (dI : Nat → Nat → Nat) (b0 : Nat) (en : EnT) (sz : Nat) (h pal she fil nte dat vot loa nos pic spa : Nat) (st sp ll : Nat) (g : Nat → Option Nat) (cS : ClassId) (N : Nat → Prop) (x y de : Int32) (hNb : ∀ a, N a → b0 ≤ a ∧ a < sz) (hNw : ∀ a, N a → a ∉ List.map Prod.fst ([(fil, .inr (5, [.int 0, .ref en.2.2.1, .int 0]))] : va_W)) (hNr : ∀ a, N a → a ∉ List.map Prod.fst ([(h, .inr (17, [.ref pal, .ref she, .ref fil, .ref nte, .ref dat, .ref vot, .ref loa, .ref nos, .ref pic, .ref spa, .int 5, .int 50, .int 1600, .int 0])), (pic, .inr (11, [.ref st, .ref sp, .ref ll, .int 0, .int 1600])), (st, .inl (cS, 48, .inr (.inr (.inr (.inr g)))))] : va_W)) : vx_Met l yX11_scratch wo_c_X11_scratch ({ frames := 8, cells := 7, slots := 49, locals := 131 } : Room) (cP b0 en (dC, dI) [(cS, .object "Underpaint$Stack")] [(fil, .inr (5, [.int 0, .ref en.2.2.1, .int 0]))] [(h, .inr (17, [.ref pal, .ref she, .ref fil, .ref nte, .ref dat, .ref vot, .ref loa, .ref nos, .ref pic, .ref spa, .int 5, .int 50, .int 1600, .int 0])), (pic, .inr (11, [.ref st, .ref sp, .ref ll, .int 0, .int 1600])), (st, .inl (cS, 48, .inr (.inr (.inr (.inr g)))))] sz (FamS (dC, dI) N g) [.ref h, .int x, .int y, .int de]) (va_Qi (fun (r : Int32) (_ : Unit) => False) (fun _ _ => True) (va_A [(fil, .inr (5, [.int 0, .ref en.2.2.1, .int 0]))] sz)) (vx_X (fun _ : Unit => True) (fun E _ _ => (E = "java/lang/IllegalArgumentException" ∧ ¬ (((0 ≤ x ∧ x < 8) ∧ (0 ≤ y ∧ y < 6)) ∧ (1 ≤ de ∧ de ≤ 999))) ∨ (E = "java/lang/UnsupportedOperationException" ∧ ((0 ≤ x ∧ x < 8) ∧ (0 ≤ y ∧ y < 6)) ∧ (1 ≤ de ∧ de ≤ 999))) (va_A [(fil, .inr (5, [.int 0, .ref en.2.2.1, .int 0]))] sz)) 7 49 (va_A [(fil, .inr (5, [.int 0, .ref en.2.2.1, .int 0]))] sz) := by
  refine vx_ofW (cc := cX11_scratch) (maxL := 4) (ret := (some .int)) (by decide) rfl ?_
  intro p e s m args below meth c s₁ B hml hext hv
  obtain ⟨rfl, hsz, hb0, hE, hPP, hK, hDD, hF0⟩ := hv
  have hx := B.exec
  have hb := B.bytes
  have hr := B.returns
  have hts := atoms_spec (ws := wo_c_X11_scratch) B.pre
  have hown : s.vm.findClass RX11 = some m.cls := findClass_of_methodNamed B.named
  have hlocks := B.notSynchronized
  subst hsz
  have hN0 := en_N hPP hDD rfl
  have hP : va_P (dC, dI) vwCl [(fil, .inr (5, [.int 0, .ref en.2.2.1, .int 0]))] s.heap := hPP.sub [0] rfl
  have hR0 : va_P (dC, dI) vwCl [(h, .inr (17, [.ref pal, .ref she, .ref fil, .ref nte, .ref dat, .ref vot, .ref loa, .ref nos, .ref pic, .ref spa, .int 5, .int 50, .int 1600, .int 0])), (pic, .inr (11, [.ref st, .ref sp, .ref ll, .int 0, .int 1600])), (st, .inl (cS, 48, .inr (.inr (.inr (.inr g)))))] s.heap := hPP.sub [1, 2, 3] rfl
  have hD0 : va_D (fun q => b0 ≤ q) [(fil, .inr (5, [.int 0, .ref en.2.2.1, .int 0]))] := hDD.sub [0] (by decide) rfl
  have hDr : va_D (fun q => b0 ≤ q) [(h, .inr (17, [.ref pal, .ref she, .ref fil, .ref nte, .ref dat, .ref vot, .ref loa, .ref nos, .ref pic, .ref spa, .int 5, .int 50, .int 1600, .int 0])), (pic, .inr (11, [.ref st, .ref sp, .ref ll, .int 0, .int 1600])), (st, .inl (cS, 48, .inr (.inr (.inr (.inr g)))))] := hDD.sub [1, 2, 3] (by decide) rfl
  have hAb := en_A (sz := s.heap.size) hD0 hb0
  have hD := hD0.self (sz := s.heap.size)
  generalize hAe : va_A [(fil, .inr (5, [.int 0, .ref en.2.2.1, .int 0]))] s.heap.size = A at hD hAb hN0 ⊢
  have hA : ∀ q : Nat, s.heap.size ≤ q → A q := fun q h => by rw [← hAe]; exact Or.inr h
  have hS : va_S A s.heap s.heap [] := va_S.rf
  have hR := hR0
  have hl := lv_entry [.ref h, .int x, .int y, .int de] (n := 4) (Nat.le_of_ble_eq_true rfl)
  rw [lg_entry_eq]
  generalize (lg_sl [.ref h, .int x, .int y, .int de] ++ List.replicate (4 - (lg_sl [.ref h, .int x, .int y, .int de]).length) Slot.unset).toArray = ls at hl ⊢
  have hl : lv_has ls 4 [(0, .ref h), (1, .int x), (2, .int y), (3, .int de)] := hl
  have hR0b := hR0
  have hDrb := hDr
  have hN0b := hN0
  refine lv_iload_n hx hb dX11_scratch_0 rfl (lv_at hl 1 rfl) ?_
  refine lv_iload_n hx hb dX11_scratch_1 rfl (lv_at hl 2 rfl) ?_
  have hPc := (hP.app hR).sub (ws' := [] ++ []) [] rfl
  have hDc := (en_DD hD hDr hN0 hAb).sub (ws' := [] ++ []) [] (by decide) rfl
  have hKc := hK.sub (tys' := []) [] rfl
  have hFc := va_free (wc := []) hD hS hA [] rfl
  refine vx_callv (vx_runS (As := [.int x, .int y]) (rest := []) ⟨hx, hb, hml, hown, hts⟩ (c_X11_demandPlace l hst dC dI b0 en s.heap.size x y) (va_cwS 2 hts go_c_X11_scratch_0 rfl rfl rfl (by decide +kernel) ⟨Nat.le_of_ble_eq_true rfl, Nat.le_of_ble_eq_true rfl⟩) ⟨cP.blind, cP.use (en_z hb0 hS) (hE.on hAb hS) hPc hKc hDc trivial⟩ rfl rfl hl.1 rfl (lv_room (Nat.le_of_ble_eq_true rfl)) dX11_scratch_2 ⟨Nat.le_of_ble_eq_true rfl, Nat.le_of_ble_eq_true rfl⟩) hS (fun q _ h => hFc q h) hFc (fun q _ h => hFc q h) (fun E ce q9 u t H1 locs ht hvm hpx hBX hz1 hk1 hS hce hcv hcl => ?_) (fun u t H1 locs ht hvm hw hB hz1 hk1 hS => ?_)
  · skip
    try dsimp only at hBX
    obtain ⟨rfl, hc⟩ := hBX
    refine vx_widen (k := 7) (n := 49) (Nat.le_of_ble_eq_true rfl) (Nat.le_of_ble_eq_true rfl) ?_
    exact vx_out (fun x hx => (hext x hx).elim) hlocks hce hcv hcl (fun t ht hW => ⟨(), trivial, Or.inl ⟨rfl, (z_c_X11_scratch_411 x y de hc)⟩, hS.F ht⟩) hS.2.2 (Nat.le_refl _) (Nat.le_refl _)
  have hP1 : va_P (dC, dI) vwCl [] H1 := fun k q h => by simp at h
  have hD1 : va_D (va_A [] s.heap.size) [] := ⟨fun i j p q h => by simp at h, fun k q h => by simp at h⟩
  try dsimp only at hw
  obtain ⟨hP, hD⟩ := va_join (wr := [(fil, .inr (5, [.int 0, .ref en.2.2.1, .int 0]))]) (w1 := []) hP hD [] [0] rfl rfl (by decide) (by decide) hk1 hFc hP1 hD1
  generalize H1 = H at hP hS ⊢
  have hP : va_P (dC, dI) vwCl [(fil, .inr (5, [.int 0, .ref en.2.2.1, .int 0]))] H := hP
  have hD : va_D A [(fil, .inr (5, [.int 0, .ref en.2.2.1, .int 0]))] := hD
  have hR := en_R hR0 hN0 hS
  refine W.widen (k := 1) (n := 6) (Nat.le_of_ble_eq_true rfl) (Nat.le_of_ble_eq_true rfl) ?_
  have h_2 := hw
  refine lv_iload_n hx hb dX11_scratch_5 rfl (lv_at hl 3 rfl) ?_
  refine lv_iconst (v := 1) hx hb dX11_scratch_6 (by decide) ?_
  refine lv_sipush (v := 999) hx hb dX11_scratch_7 (by decide) ?_
  have hPc := (hP.app hR).sub (ws' := [] ++ []) [] rfl
  have hDc := (en_DD hD hDr hN0 hAb).sub (ws' := [] ++ []) [] (by decide) rfl
  have hKc := hK.sub (tys' := []) [] rfl
  have hFc := va_free (wc := []) hD hS hA [] rfl
  refine va_calli (va_runS (As := [.int de, .int 1, .int 999]) (rest := []) ⟨hx, hb, hml, hown, hts⟩ (c_X11_isWithin l dC dI b0 en H.size de 1 999) (va_cwS 3 hts go_c_X11_scratch_1 rfl rfl rfl (by decide +kernel) ⟨Nat.le_of_ble_eq_true rfl, Nat.le_of_ble_eq_true rfl⟩) ⟨cP.blind, cP.use (en_z hb0 hS) (hE.on hAb hS) hPc hKc hDc trivial⟩ rfl rfl hl.1 rfl (lv_room (Nat.le_of_ble_eq_true rfl)) dX11_scratch_10 ⟨Nat.le_of_ble_eq_true rfl, Nat.le_of_ble_eq_true rfl⟩) hS (fun q _ h => hFc q h) hFc (fun r_3 u t H1 locs ht hvm hw hB hz1 hk1 hS => ?_)
  have hP1 : va_P (dC, dI) vwCl [] H1 := fun k q h => by simp at h
  have hD1 : va_D (va_A [] H.size) [] := ⟨fun i j p q h => by simp at h, fun k q h => by simp at h⟩
  try dsimp only at hw
  obtain ⟨hP, hD⟩ := va_join (wr := [(fil, .inr (5, [.int 0, .ref en.2.2.1, .int 0]))]) (w1 := []) hP hD [] [0] rfl rfl (by decide) (by decide) hk1 hFc hP1 hD1
  generalize H1 = H at hP hS ⊢
  have hP : va_P (dC, dI) vwCl [(fil, .inr (5, [.int 0, .ref en.2.2.1, .int 0]))] H := hP
  have hD : va_D A [(fil, .inr (5, [.int 0, .ref en.2.2.1, .int 0]))] := hD
  have hR := en_R hR0 hN0 hS
  refine W.widen (k := 1) (n := 6) (Nat.le_of_ble_eq_true rfl) (Nat.le_of_ble_eq_true rfl) ?_
  have h_4 := hw
  have hPc := (hP.app hR).sub (ws' := [] ++ []) [] rfl
  have hDc := (en_DD hD hDr hN0 hAb).sub (ws' := [] ++ []) [] (by decide) rfl
  have hKc := hK.sub (tys' := []) [] rfl
  have hFc := va_free (wc := []) hD hS hA [] rfl
  refine vx_callv (vx_runS (As := [.int r_3]) (rest := []) ⟨hx, hb, hml, hown, hts⟩ (c_X11_demandArgument l hst dC dI b0 en H.size r_3) (va_cwS 1 hts go_c_X11_scratch_2 rfl rfl rfl (by decide +kernel) ⟨Nat.le_of_ble_eq_true rfl, Nat.le_of_ble_eq_true rfl⟩) ⟨cP.blind, cP.use (en_z hb0 hS) (hE.on hAb hS) hPc hKc hDc trivial⟩ rfl rfl hl.1 rfl (lv_room (Nat.le_of_ble_eq_true rfl)) dX11_scratch_13 ⟨Nat.le_of_ble_eq_true rfl, Nat.le_of_ble_eq_true rfl⟩) hS (fun q _ h => hFc q h) hFc (fun q _ h => hFc q h) (fun E ce q9 u t H1 locs ht hvm hpx hBX hz1 hk1 hS hce hcv hcl => ?_) (fun u t H1 locs ht hvm hw hB hz1 hk1 hS => ?_)
  · skip
    try dsimp only at hBX
    obtain ⟨rfl, hc⟩ := hBX
    refine vx_widen (k := 7) (n := 49) (Nat.le_of_ble_eq_true rfl) (Nat.le_of_ble_eq_true rfl) ?_
    exact vx_out (fun x hx => (hext x hx).elim) hlocks hce hcv hcl (fun t ht hW => ⟨(), trivial, Or.inl ⟨rfl, (z_c_X11_scratch_412 x y de h_2 (b_no h_4 hc))⟩, hS.F ht⟩) hS.2.2 (Nat.le_refl _) (Nat.le_refl _)
  have hP1 : va_P (dC, dI) vwCl [] H1 := fun k q h => by simp at h
  have hD1 : va_D (va_A [] H.size) [] := ⟨fun i j p q h => by simp at h, fun k q h => by simp at h⟩
  try dsimp only at hw
  obtain ⟨hP, hD⟩ := va_join (wr := [(fil, .inr (5, [.int 0, .ref en.2.2.1, .int 0]))]) (w1 := []) hP hD [] [0] rfl rfl (by decide) (by decide) hk1 hFc hP1 hD1
  generalize H1 = H at hP hS ⊢
  have hP : va_P (dC, dI) vwCl [(fil, .inr (5, [.int 0, .ref en.2.2.1, .int 0]))] H := hP
  have hD : va_D A [(fil, .inr (5, [.int 0, .ref en.2.2.1, .int 0]))] := hD
  have hR := en_R hR0 hN0 hS
  refine W.widen (k := 2) (n := 12) (Nat.le_of_ble_eq_true rfl) (Nat.le_of_ble_eq_true rfl) ?_
  have h_6 := hw
  refine lv_aload_n hx hb dX11_scratch_16 rfl (lv_at hl 0 rfl) ?_
  have hz9 := hS.1
  refine va_newX (ci := 6) (fs := [.int 0, .null, .int 0, .int 0, .int 0, .int 0, .int 0, .int 0, .int 0, .int 0, .int 0, .null]) (C := RX0) (T := TX0) (N := 12) hx hb hts (by decide +kernel) tyX0 tyX0_ok hown (hts (.classLink RX11 161 RX0) (by decide +kernel)) (hts (.instantiable RX0 12) (by decide +kernel)) (hts (.initialized RX0) (by decide +kernel)) hK hP hD hS hA rfl (fun j hj => by rcases (show j = 0 ∨ j = 1 ∨ j = 2 ∨ j = 3 ∨ j = 4 ∨ j = 5 ∨ j = 6 ∨ j = 7 ∨ j = 8 ∨ j = 9 ∨ j = 10 ∨ j = 11 by omega) with rfl | rfl | rfl | rfl | rfl | rfl | rfl | rfl | rfl | rfl | rfl | rfl <;> rfl) (Nat.le_of_ble_eq_true rfl) (Nat.le_of_ble_eq_true rfl) dX11_scratch_17 (fun q_7 H hP hD hS hoq hoz => ?_)
  have hP : va_P (dC, dI) vwCl [(fil, .inr (5, [.int 0, .ref en.2.2.1, .int 0])), (q_7, .inr (6, [.int 0, .null, .int 0, .int 0, .int 0, .int 0, .int 0, .int 0, .int 0, .int 0, .int 0, .null]))] H := hP
  have hD : va_D A [(fil, .inr (5, [.int 0, .ref en.2.2.1, .int 0])), (q_7, .inr (6, [.int 0, .null, .int 0, .int 0, .int 0, .int 0, .int 0, .int 0, .int 0, .int 0, .int 0, .null]))] := hD
  have hR := en_R hR0 hN0 hS
  refine W.widen (k := 3) (n := 24) (Nat.le_of_ble_eq_true rfl) (Nat.le_of_ble_eq_true rfl) ?_
  have hgz_q_7 : s.heap.size ≤ q_7 := by rw [hoz]; exact hz9
  have hoz_q_7 := hoz
  refine lv_dup hx hb dX11_scratch_20 rfl ?_
  refine lv_bipush (v := 115) hx hb dX11_scratch_21 (by decide) ?_
  refine lv_aload_n hx hb dX11_scratch_23 rfl (lv_at hl 0 rfl) ?_
  refine va_get (D := (dC, dI)) (ci := 17) (v := .ref nos) (C := RX11) (T := TX11) (N := 14) hx hb hts (by decide +kernel) hown hK hR 0 rfl rfl 7 (by decide) (hts (.fieldLink RX11 55 "Underpaint" "noStuff" "LUnderpaint$Stuff;") (by decide +kernel)) (fun _ h9 => h9) rfl dX11_scratch_24 ?_
  refine lv_iload_n hx hb dX11_scratch_27 rfl (lv_at hl 3 rfl) ?_
  refine lv_iload_n hx hb dX11_scratch_28 rfl (lv_at hl 1 rfl) ?_
  refine lv_iload_n hx hb dX11_scratch_29 rfl (lv_at hl 2 rfl) ?_
  have hS9 := hS
  have hPc := (hP.app hR).sub (ws' := [(q_7, .inr (6, [.int 0, .null, .int 0, .int 0, .int 0, .int 0, .int 0, .int 0, .int 0, .int 0, .int 0, .null]))] ++ []) [1] rfl
  have hDc := (en_DD hD hDr hN0 hAb).sub (ws' := [(q_7, .inr (6, [.int 0, .null, .int 0, .int 0, .int 0, .int 0, .int 0, .int 0, .int 0, .int 0, .int 0, .null]))] ++ []) [1] (by decide) rfl
  have hKc := hK.sub (tys' := []) [] rfl
  have hFc := va_free (wc := [(q_7, .inr (6, [.int 0, .null, .int 0, .int 0, .int 0, .int 0, .int 0, .int 0, .int 0, .int 0, .int 0, .null]))]) hD hS hA [1] rfl
  refine va_callv (va_runI (As := [.int 115, .ref nos, .int de, .int x, .int y]) (rest := [.ref q_7, .ref h]) ⟨hx, hb, hml, hown, hts⟩ (c_X0_init l dC dI b0 en H.size q_7 nos 115 de x y) (cwI 5 hts go_c_X11_scratch_3 rfl rfl rfl (hts (.initialized RX0) (by decide +kernel)) (hts (.methodLink RX11 163 yX0_init) (by decide +kernel)) (hts (.instanceMethod yX0_init) (by decide +kernel)) rfl (by decide +kernel) ⟨Nat.le_of_ble_eq_true rfl, Nat.le_of_ble_eq_true rfl⟩) ⟨cP.blind, cP.use (en_z hb0 hS) (hE.on hAb hS) hPc hKc hDc trivial⟩ rfl rfl hl.1 rfl (lv_room (Nat.le_of_ble_eq_true rfl)) dX11_scratch_30 ⟨Nat.le_of_ble_eq_true rfl, Nat.le_of_ble_eq_true rfl⟩) hS (fun q _ h => hFc q h) hFc (fun ⟨lo_9, lh_10, ld_11, kI_12⟩ t H1 locs ht hvm hw hB hz1 hk1 hS => ?_)
  obtain ⟨hP1, hK1, hD1, hF1⟩ := hB
  rw [ht] at hP1
  try rw [ht] at hF1
  have hK1 := va_K.moved hvm.symm hK1
  try dsimp only at hw
  obtain ⟨hP, hD⟩ := va_join (wr := [(fil, .inr (5, [.int 0, .ref en.2.2.1, .int 0]))]) (w1 := [(q_7, .inr (6, [.int 115, .ref nos, .int de, .int x, .int y, .int 0, .int 0, .int 0, .int 0, .int 0, .int 0, .ref lo_9])), (lo_9, .inr (9, [.ref lh_10, .ref ld_11, .int 0])), (lh_10, .inl (kI_12, 8, .inl (fun _ => 0))), (ld_11, .inl (kI_12, 8, .inl (fun _ => 0)))]) hP hD [1] [0] rfl rfl (by decide) (by decide) hk1 hFc hP1 hD1
  have hK := hK.app hK1
  have hgz_lo_9 : s.heap.size ≤ lo_9 := Nat.le_trans hS9.1 (vGeN hD1 1 rfl (by simp only [List.map_cons, List.map_nil, List.mem_cons, List.not_mem_nil, or_false, not_or, not_false_eq_true]; exact vAp hD1 1 0 rfl rfl (by decide)))
  have hgz_lh_10 : s.heap.size ≤ lh_10 := Nat.le_trans hS9.1 (vGeN hD1 2 rfl (by simp only [List.map_cons, List.map_nil, List.mem_cons, List.not_mem_nil, or_false, not_or, not_false_eq_true]; exact vAp hD1 2 0 rfl rfl (by decide)))
  have hgz_ld_11 : s.heap.size ≤ ld_11 := Nat.le_trans hS9.1 (vGeN hD1 3 rfl (by simp only [List.map_cons, List.map_nil, List.mem_cons, List.not_mem_nil, or_false, not_or, not_false_eq_true]; exact vAp hD1 3 0 rfl rfl (by decide)))
  generalize H1 = H at hP hS ⊢
  have hP : va_P (dC, dI) vwCl [(fil, .inr (5, [.int 0, .ref en.2.2.1, .int 0])), (q_7, .inr (6, [.int 115, .ref nos, .int de, .int x, .int y, .int 0, .int 0, .int 0, .int 0, .int 0, .int 0, .ref lo_9])), (lo_9, .inr (9, [.ref lh_10, .ref ld_11, .int 0])), (lh_10, .inl (kI_12, 8, .inl (fun _ => 0))), (ld_11, .inl (kI_12, 8, .inl (fun _ => 0)))] H := hP
  have hD : va_D A [(fil, .inr (5, [.int 0, .ref en.2.2.1, .int 0])), (q_7, .inr (6, [.int 115, .ref nos, .int de, .int x, .int y, .int 0, .int 0, .int 0, .int 0, .int 0, .int 0, .ref lo_9])), (lo_9, .inr (9, [.ref lh_10, .ref ld_11, .int 0])), (lh_10, .inl (kI_12, 8, .inl (fun _ => 0))), (ld_11, .inl (kI_12, 8, .inl (fun _ => 0)))] := hD
  have hR := en_R hR0 hN0 hS
  refine W.widen (k := 6) (n := 43) (Nat.le_of_ble_eq_true rfl) (Nat.le_of_ble_eq_true rfl) ?_
  have hPc := (hP.app hR).sub (ws' := [(fil, .inr (5, [.int 0, .ref en.2.2.1, .int 0]))] ++ [(h, .inr (17, [.ref pal, .ref she, .ref fil, .ref nte, .ref dat, .ref vot, .ref loa, .ref nos, .ref pic, .ref spa, .int 5, .int 50, .int 1600, .int 0])), (pic, .inr (11, [.ref st, .ref sp, .ref ll, .int 0, .int 1600])), (st, .inl (cS, 48, .inr (.inr (.inr (.inr g))))), (q_7, .inr (6, [.int 115, .ref nos, .int de, .int x, .int y, .int 0, .int 0, .int 0, .int 0, .int 0, .int 0, .ref lo_9]))]) [0, 5, 6, 7, 1] rfl
  have hDc := (en_DD hD hDr hN0 hAb).sub (ws' := [(fil, .inr (5, [.int 0, .ref en.2.2.1, .int 0]))] ++ [(h, .inr (17, [.ref pal, .ref she, .ref fil, .ref nte, .ref dat, .ref vot, .ref loa, .ref nos, .ref pic, .ref spa, .int 5, .int 50, .int 1600, .int 0])), (pic, .inr (11, [.ref st, .ref sp, .ref ll, .int 0, .int 1600])), (st, .inl (cS, 48, .inr (.inr (.inr (.inr g))))), (q_7, .inr (6, [.int 115, .ref nos, .int de, .int x, .int y, .int 0, .int 0, .int 0, .int 0, .int 0, .int 0, .ref lo_9]))]) [0, 5, 6, 7, 1] (by decide) rfl
  have hKc := hK.sub (tys' := [(cS, .object "Underpaint$Stack")]) [0] rfl
  have hFc := va_free (wc := [(fil, .inr (5, [.int 0, .ref en.2.2.1, .int 0]))]) hD hS hA [0] rfl
  refine vx_calli (vx_runV (As := [.ref q_7]) (rest := []) ⟨hx, hb, hml, hown, hts⟩ (c_enter_s l hst dC dI b0 en H.size h pal she fil nte dat vot loa nos pic spa st sp ll g cS N q_7 nos lo_9 de 0 0 x y (z_c_X11_scratch_413 x y de h_2 (b_yes h_4 h_6)) (fun a9 h9 => ⟨(hNb a9 h9).1, Nat.lt_of_lt_of_le (hNb a9 h9).2 hS.1⟩) (fun a9 h9 z9 => by have g1 := hNw a9 h9; have g2 := hNr a9 h9; have g3 := (hNb a9 h9).2; simp only [List.map_cons, List.map_nil, List.mem_cons, List.not_mem_nil, or_false, not_or] at g1 g2 z9 <;> omega) (fun a9 h9 z9 => by have g1 := hNw a9 h9; have g2 := hNr a9 h9; have g3 := (hNb a9 h9).2; simp only [List.map_cons, List.map_nil, List.mem_cons, List.not_mem_nil, or_false, not_or] at g1 g2 z9 <;> omega)) (cwV 1 hts go_c_X11_scratch_4 rfl rfl rfl (by decide +kernel) ⟨Nat.le_of_ble_eq_true rfl, Nat.le_of_ble_eq_true rfl⟩) ⟨cP.blind, va_recv hK hR (ci := 17) (q0 := 0) rfl rfl, cP.use (en_z hb0 hS) (hE.on hAb hS) hPc hKc hDc (hF0.on (fun a9 h8 h9 => by rw [← hAe]; exact vA1 h8 (hNw a9 h9)) hS)⟩ rfl rfl hl.1 rfl (lv_room (Nat.le_of_ble_eq_true rfl)) dX11_scratch_33 ⟨Nat.le_of_ble_eq_true rfl, Nat.le_of_ble_eq_true rfl⟩) hS (fun q _ h => hFc q h) hFc (fun q _ h => hFc q h) (fun E ce q9 u t H1 locs ht hvm hpx hBX hz1 hk1 hS hce hcv hcl => ?_) (fun r_14 u t H1 locs ht hvm hw hB hz1 hk1 hS => ?_)
  · skip
    try dsimp only at hBX
    obtain ⟨rfl, hc⟩ := hBX
    refine vx_widen (k := 7) (n := 49) (Nat.le_of_ble_eq_true rfl) (Nat.le_of_ble_eq_true rfl) ?_
    exact vx_out (fun x hx => (hext x hx).elim) hlocks hce hcv hcl (fun t ht hW => ⟨(), trivial, Or.inr (⟨rfl, (z_c_X11_scratch_414 x y de h_2 (b_yes h_4 h_6) hc)⟩), hS.F ht⟩) hS.2.2 (Nat.le_refl _) (Nat.le_refl _)
  exact (show False from hw).elim
theorem z_c_X11_glue_415 (x : Int32) (y : Int32) (a_0 : (0 ≤ x ∧ x < 8) ∧ (0 ≤ y ∧ y < 6)) (a_1 : False) : False := by grind
theorem z_c_X11_glue_416 (x : Int32) (y : Int32) (a_0 : (0 ≤ x ∧ x < 8) ∧ (0 ≤ y ∧ y < 6)) : (0 : Int32) = 0 ∧ ((0 ≤ x ∧ x < 8) ∧ (0 ≤ y ∧ y < 6)) := by grind
def wo_c_X11_glue_w : List Cond := [Cond.classLink RX11 161 RX0, Cond.instantiable RX0 12, Cond.initialized RX0, Cond.fieldLink RX11 55 "Underpaint" "noStuff" "LUnderpaint$Stuff;", Cond.methodLink RX11 163 yX0_init, Cond.instanceMethod yX0_init]
def wo_c_X11_glue : List Cond := .code yX11_glue cX11_glue 3 (some .int) :: (wo_c_X11_glue_w ++ (u_ws RX0 TX0 12 ++ (u_ws RX11 TX11 14 ++ (va_wsS RX11 176 yX11_demandPlace wsX11_demandPlace ++ (wo_c_X0_init ++ (wsV RX11 172 RX11 yX11_enter wo_c_enter_g ++ List.nil))))))
theorem gw_wo_c_X11_glue : wo_c_X11_glue.all goodWord = true := gw_c (by decide +kernel) (gw_a (by decide +kernel) (gw_a (by decide +kernel) (gw_a (by decide +kernel) (gw_a (gw_a (by decide +kernel) gw_wsX11_demandPlace) (gw_a gw_wo_c_X0_init (gw_a (gw_a (by decide +kernel) gw_wo_c_enter_g) rfl))))))
theorem go_c_X11_glue_0 : GoodIn wo_c_X11_glue (va_wsS RX11 176 yX11_demandPlace wsX11_demandPlace) := goodIn_sub (fun _ h => List.mem_cons_of_mem _ (List.mem_append_right _ (List.mem_append_right _ (List.mem_append_right _ (List.mem_append_left _ h))))) (gw_a (by decide +kernel) gw_wsX11_demandPlace)
theorem go_c_X11_glue_1 : GoodIn wo_c_X11_glue (wo_c_X0_init) := goodIn_sub (fun _ h => List.mem_cons_of_mem _ (List.mem_append_right _ (List.mem_append_right _ (List.mem_append_right _ (List.mem_append_right _ (List.mem_append_left _ h)))))) gw_wo_c_X0_init
theorem go_c_X11_glue_2 : GoodIn wo_c_X11_glue (wsV RX11 172 RX11 yX11_enter wo_c_enter_g) := goodIn_sub (fun _ h => List.mem_cons_of_mem _ (List.mem_append_right _ (List.mem_append_right _ (List.mem_append_right _ (List.mem_append_right _ (List.mem_append_right _ (List.mem_append_left _ h))))))) (gw_a (by decide +kernel) gw_wo_c_enter_g)
set_option maxHeartbeats 4000000 in
set_option maxRecDepth 100000 in
theorem c_X11_glue (l : Launch) (hst : l.stackTraces = false) (dC : Nat → ClassId) (dI : Nat → Nat → Nat) (b0 : Nat) (en : EnT) (sz : Nat) (h pal she fil nte dat vot loa nos pic spa : Nat) (st sp ll : Nat) (a rw : Nat) (g : Nat → Option Nat) (cS : ClassId) (x y : Int32) (hga : ((0 ≤ x ∧ x < 8) ∧ (0 ≤ y ∧ y < 6)) → g (pidx x y) = some a) : vx_Met l yX11_glue wo_c_X11_glue ({ frames := 8, cells := 8, slots := 59, locals := 148 } : Room) (cP b0 en (dC, dI) [(cS, .object "Underpaint$Stack")] [(fil, .inr (5, [.int 0, .ref en.2.2.1, .int 0])), (a, .inr (14, [.ref rw, .int 0, .int 0]))] [(h, .inr (17, [.ref pal, .ref she, .ref fil, .ref nte, .ref dat, .ref vot, .ref loa, .ref nos, .ref pic, .ref spa, .int 5, .int 50, .int 1600, .int 0])), (pic, .inr (11, [.ref st, .ref sp, .ref ll, .int 0, .int 1600])), (st, .inl (cS, 48, .inr (.inr (.inr (.inr g)))))] sz (fun _ => True) [.ref h, .int x, .int y]) (va_Qi (fun (r : Int32) (_ : Unit) => r = 0 ∧ ((0 ≤ x ∧ x < 8) ∧ (0 ≤ y ∧ y < 6))) (fun _ _ => True) (va_A [(fil, .inr (5, [.int 0, .ref en.2.2.1, .int 0])), (a, .inr (14, [.ref rw, .int 0, .int 0]))] sz)) (vx_X (fun _ : Unit => True) (fun E _ _ => (E = "java/lang/IllegalArgumentException" ∧ ¬ ((0 ≤ x ∧ x < 8) ∧ (0 ≤ y ∧ y < 6)))) (va_A [(fil, .inr (5, [.int 0, .ref en.2.2.1, .int 0])), (a, .inr (14, [.ref rw, .int 0, .int 0]))] sz)) 8 59 (va_A [(fil, .inr (5, [.int 0, .ref en.2.2.1, .int 0])), (a, .inr (14, [.ref rw, .int 0, .int 0]))] sz) := by
  refine vx_ofW (cc := cX11_glue) (maxL := 3) (ret := (some .int)) (by decide) rfl ?_
  intro p e s m args below meth c s₁ B hml hext hv
  obtain ⟨rfl, hsz, hb0, hE, hPP, hK, hDD, hF0⟩ := hv
  have hx := B.exec
  have hb := B.bytes
  have hr := B.returns
  have hts := atoms_spec (ws := wo_c_X11_glue) B.pre
  have hown : s.vm.findClass RX11 = some m.cls := findClass_of_methodNamed B.named
  have hlocks := B.notSynchronized
  subst hsz
  have hN0 := en_N hPP hDD rfl
  have hP : va_P (dC, dI) vwCl [(fil, .inr (5, [.int 0, .ref en.2.2.1, .int 0])), (a, .inr (14, [.ref rw, .int 0, .int 0]))] s.heap := hPP.sub [0, 1] rfl
  have hR0 : va_P (dC, dI) vwCl [(h, .inr (17, [.ref pal, .ref she, .ref fil, .ref nte, .ref dat, .ref vot, .ref loa, .ref nos, .ref pic, .ref spa, .int 5, .int 50, .int 1600, .int 0])), (pic, .inr (11, [.ref st, .ref sp, .ref ll, .int 0, .int 1600])), (st, .inl (cS, 48, .inr (.inr (.inr (.inr g)))))] s.heap := hPP.sub [2, 3, 4] rfl
  have hD0 : va_D (fun q => b0 ≤ q) [(fil, .inr (5, [.int 0, .ref en.2.2.1, .int 0])), (a, .inr (14, [.ref rw, .int 0, .int 0]))] := hDD.sub [0, 1] (by decide) rfl
  have hDr : va_D (fun q => b0 ≤ q) [(h, .inr (17, [.ref pal, .ref she, .ref fil, .ref nte, .ref dat, .ref vot, .ref loa, .ref nos, .ref pic, .ref spa, .int 5, .int 50, .int 1600, .int 0])), (pic, .inr (11, [.ref st, .ref sp, .ref ll, .int 0, .int 1600])), (st, .inl (cS, 48, .inr (.inr (.inr (.inr g)))))] := hDD.sub [2, 3, 4] (by decide) rfl
  have hAb := en_A (sz := s.heap.size) hD0 hb0
  have hD := hD0.self (sz := s.heap.size)
  generalize hAe : va_A [(fil, .inr (5, [.int 0, .ref en.2.2.1, .int 0])), (a, .inr (14, [.ref rw, .int 0, .int 0]))] s.heap.size = A at hD hAb hN0 ⊢
  have hA : ∀ q : Nat, s.heap.size ≤ q → A q := fun q h => by rw [← hAe]; exact Or.inr h
  have hS : va_S A s.heap s.heap [] := va_S.rf
  have hR := hR0
  have hl := lv_entry [.ref h, .int x, .int y] (n := 3) (Nat.le_of_ble_eq_true rfl)
  rw [lg_entry_eq]
  generalize (lg_sl [.ref h, .int x, .int y] ++ List.replicate (3 - (lg_sl [.ref h, .int x, .int y]).length) Slot.unset).toArray = ls at hl ⊢
  have hl : lv_has ls 3 [(0, .ref h), (1, .int x), (2, .int y)] := hl
  refine lv_iload_n hx hb dX11_glue_0 rfl (lv_at hl 1 rfl) ?_
  refine lv_iload_n hx hb dX11_glue_1 rfl (lv_at hl 2 rfl) ?_
  have hPc := (hP.app hR).sub (ws' := [] ++ []) [] rfl
  have hDc := (en_DD hD hDr hN0 hAb).sub (ws' := [] ++ []) [] (by decide) rfl
  have hKc := hK.sub (tys' := []) [] rfl
  have hFc := va_free (wc := []) hD hS hA [] rfl
  refine vx_callv (vx_runS (As := [.int x, .int y]) (rest := []) ⟨hx, hb, hml, hown, hts⟩ (c_X11_demandPlace l hst dC dI b0 en s.heap.size x y) (va_cwS 2 hts go_c_X11_glue_0 rfl rfl rfl (by decide +kernel) ⟨Nat.le_of_ble_eq_true rfl, Nat.le_of_ble_eq_true rfl⟩) ⟨cP.blind, cP.use (en_z hb0 hS) (hE.on hAb hS) hPc hKc hDc trivial⟩ rfl rfl hl.1 rfl (lv_room (Nat.le_of_ble_eq_true rfl)) dX11_glue_2 ⟨Nat.le_of_ble_eq_true rfl, Nat.le_of_ble_eq_true rfl⟩) hS (fun q _ h => hFc q h) hFc (fun q _ h => hFc q h) (fun E ce q9 u t H1 locs ht hvm hpx hBX hz1 hk1 hS hce hcv hcl => ?_) (fun u t H1 locs ht hvm hw hB hz1 hk1 hS => ?_)
  · skip
    try dsimp only at hBX
    obtain ⟨rfl, hc⟩ := hBX
    refine vx_widen (k := 8) (n := 59) (Nat.le_of_ble_eq_true rfl) (Nat.le_of_ble_eq_true rfl) ?_
    exact vx_out (fun x hx => (hext x hx).elim) hlocks hce hcv hcl (fun t ht hW => ⟨(), trivial, ⟨rfl, (z_c_X11_guesses_343 x y hc)⟩, hS.F ht⟩) hS.2.2 (Nat.le_refl _) (Nat.le_refl _)
  have hP1 : va_P (dC, dI) vwCl [] H1 := fun k q h => by simp at h
  have hD1 : va_D (va_A [] s.heap.size) [] := ⟨fun i j p q h => by simp at h, fun k q h => by simp at h⟩
  try dsimp only at hw
  obtain ⟨hP, hD⟩ := va_join (wr := [(fil, .inr (5, [.int 0, .ref en.2.2.1, .int 0])), (a, .inr (14, [.ref rw, .int 0, .int 0]))]) (w1 := []) hP hD [] [0, 1] rfl rfl (by decide) (by decide) hk1 hFc hP1 hD1
  generalize H1 = H at hP hS ⊢
  have hP : va_P (dC, dI) vwCl [(fil, .inr (5, [.int 0, .ref en.2.2.1, .int 0])), (a, .inr (14, [.ref rw, .int 0, .int 0]))] H := hP
  have hD : va_D A [(fil, .inr (5, [.int 0, .ref en.2.2.1, .int 0])), (a, .inr (14, [.ref rw, .int 0, .int 0]))] := hD
  have hR := en_R hR0 hN0 hS
  refine W.widen (k := 1) (n := 6) (Nat.le_of_ble_eq_true rfl) (Nat.le_of_ble_eq_true rfl) ?_
  have h_2 := hw
  refine lv_aload_n hx hb dX11_glue_5 rfl (lv_at hl 0 rfl) ?_
  have hz9 := hS.1
  refine va_newX (ci := 6) (fs := [.int 0, .null, .int 0, .int 0, .int 0, .int 0, .int 0, .int 0, .int 0, .int 0, .int 0, .null]) (C := RX0) (T := TX0) (N := 12) hx hb hts (by decide +kernel) tyX0 tyX0_ok hown (hts (.classLink RX11 161 RX0) (by decide +kernel)) (hts (.instantiable RX0 12) (by decide +kernel)) (hts (.initialized RX0) (by decide +kernel)) hK hP hD hS hA rfl (fun j hj => by rcases (show j = 0 ∨ j = 1 ∨ j = 2 ∨ j = 3 ∨ j = 4 ∨ j = 5 ∨ j = 6 ∨ j = 7 ∨ j = 8 ∨ j = 9 ∨ j = 10 ∨ j = 11 by omega) with rfl | rfl | rfl | rfl | rfl | rfl | rfl | rfl | rfl | rfl | rfl | rfl <;> rfl) (Nat.le_of_ble_eq_true rfl) (Nat.le_of_ble_eq_true rfl) dX11_glue_6 (fun q_3 H hP hD hS hoq hoz => ?_)
  have hP : va_P (dC, dI) vwCl [(fil, .inr (5, [.int 0, .ref en.2.2.1, .int 0])), (a, .inr (14, [.ref rw, .int 0, .int 0])), (q_3, .inr (6, [.int 0, .null, .int 0, .int 0, .int 0, .int 0, .int 0, .int 0, .int 0, .int 0, .int 0, .null]))] H := hP
  have hD : va_D A [(fil, .inr (5, [.int 0, .ref en.2.2.1, .int 0])), (a, .inr (14, [.ref rw, .int 0, .int 0])), (q_3, .inr (6, [.int 0, .null, .int 0, .int 0, .int 0, .int 0, .int 0, .int 0, .int 0, .int 0, .int 0, .null]))] := hD
  have hR := en_R hR0 hN0 hS
  refine W.widen (k := 2) (n := 18) (Nat.le_of_ble_eq_true rfl) (Nat.le_of_ble_eq_true rfl) ?_
  have hgz_q_3 : s.heap.size ≤ q_3 := by rw [hoz]; exact hz9
  have hoz_q_3 := hoz
  refine lv_dup hx hb dX11_glue_9 rfl ?_
  refine lv_bipush (v := 103) hx hb dX11_glue_10 (by decide) ?_
  refine lv_aload_n hx hb dX11_glue_12 rfl (lv_at hl 0 rfl) ?_
  refine va_get (D := (dC, dI)) (ci := 17) (v := .ref nos) (C := RX11) (T := TX11) (N := 14) hx hb hts (by decide +kernel) hown hK hR 0 rfl rfl 7 (by decide) (hts (.fieldLink RX11 55 "Underpaint" "noStuff" "LUnderpaint$Stuff;") (by decide +kernel)) (fun _ h9 => h9) rfl dX11_glue_13 ?_
  refine lv_iconst (v := 0) hx hb dX11_glue_16 (by decide) ?_
  refine lv_iload_n hx hb dX11_glue_17 rfl (lv_at hl 1 rfl) ?_
  refine lv_iload_n hx hb dX11_glue_18 rfl (lv_at hl 2 rfl) ?_
  have hS9 := hS
  have hPc := (hP.app hR).sub (ws' := [(q_3, .inr (6, [.int 0, .null, .int 0, .int 0, .int 0, .int 0, .int 0, .int 0, .int 0, .int 0, .int 0, .null]))] ++ []) [2] rfl
  have hDc := (en_DD hD hDr hN0 hAb).sub (ws' := [(q_3, .inr (6, [.int 0, .null, .int 0, .int 0, .int 0, .int 0, .int 0, .int 0, .int 0, .int 0, .int 0, .null]))] ++ []) [2] (by decide) rfl
  have hKc := hK.sub (tys' := []) [] rfl
  have hFc := va_free (wc := [(q_3, .inr (6, [.int 0, .null, .int 0, .int 0, .int 0, .int 0, .int 0, .int 0, .int 0, .int 0, .int 0, .null]))]) hD hS hA [2] rfl
  refine va_callv (va_runI (As := [.int 103, .ref nos, .int 0, .int x, .int y]) (rest := [.ref q_3, .ref h]) ⟨hx, hb, hml, hown, hts⟩ (c_X0_init l dC dI b0 en H.size q_3 nos 103 0 x y) (cwI 5 hts go_c_X11_glue_1 rfl rfl rfl (hts (.initialized RX0) (by decide +kernel)) (hts (.methodLink RX11 163 yX0_init) (by decide +kernel)) (hts (.instanceMethod yX0_init) (by decide +kernel)) rfl (by decide +kernel) ⟨Nat.le_of_ble_eq_true rfl, Nat.le_of_ble_eq_true rfl⟩) ⟨cP.blind, cP.use (en_z hb0 hS) (hE.on hAb hS) hPc hKc hDc trivial⟩ rfl rfl hl.1 rfl (lv_room (Nat.le_of_ble_eq_true rfl)) dX11_glue_19 ⟨Nat.le_of_ble_eq_true rfl, Nat.le_of_ble_eq_true rfl⟩) hS (fun q _ h => hFc q h) hFc (fun ⟨lo_5, lh_6, ld_7, kI_8⟩ t H1 locs ht hvm hw hB hz1 hk1 hS => ?_)
  obtain ⟨hP1, hK1, hD1, hF1⟩ := hB
  rw [ht] at hP1
  try rw [ht] at hF1
  have hK1 := va_K.moved hvm.symm hK1
  try dsimp only at hw
  obtain ⟨hP, hD⟩ := va_join (wr := [(fil, .inr (5, [.int 0, .ref en.2.2.1, .int 0])), (a, .inr (14, [.ref rw, .int 0, .int 0]))]) (w1 := [(q_3, .inr (6, [.int 103, .ref nos, .int 0, .int x, .int y, .int 0, .int 0, .int 0, .int 0, .int 0, .int 0, .ref lo_5])), (lo_5, .inr (9, [.ref lh_6, .ref ld_7, .int 0])), (lh_6, .inl (kI_8, 8, .inl (fun _ => 0))), (ld_7, .inl (kI_8, 8, .inl (fun _ => 0)))]) hP hD [2] [0, 1] rfl rfl (by decide) (by decide) hk1 hFc hP1 hD1
  have hK := hK.app hK1
  have hgz_lo_5 : s.heap.size ≤ lo_5 := Nat.le_trans hS9.1 (vGeN hD1 1 rfl (by simp only [List.map_cons, List.map_nil, List.mem_cons, List.not_mem_nil, or_false, not_or, not_false_eq_true]; exact vAp hD1 1 0 rfl rfl (by decide)))
  have hgz_lh_6 : s.heap.size ≤ lh_6 := Nat.le_trans hS9.1 (vGeN hD1 2 rfl (by simp only [List.map_cons, List.map_nil, List.mem_cons, List.not_mem_nil, or_false, not_or, not_false_eq_true]; exact vAp hD1 2 0 rfl rfl (by decide)))
  have hgz_ld_7 : s.heap.size ≤ ld_7 := Nat.le_trans hS9.1 (vGeN hD1 3 rfl (by simp only [List.map_cons, List.map_nil, List.mem_cons, List.not_mem_nil, or_false, not_or, not_false_eq_true]; exact vAp hD1 3 0 rfl rfl (by decide)))
  generalize H1 = H at hP hS ⊢
  have hP : va_P (dC, dI) vwCl [(fil, .inr (5, [.int 0, .ref en.2.2.1, .int 0])), (a, .inr (14, [.ref rw, .int 0, .int 0])), (q_3, .inr (6, [.int 103, .ref nos, .int 0, .int x, .int y, .int 0, .int 0, .int 0, .int 0, .int 0, .int 0, .ref lo_5])), (lo_5, .inr (9, [.ref lh_6, .ref ld_7, .int 0])), (lh_6, .inl (kI_8, 8, .inl (fun _ => 0))), (ld_7, .inl (kI_8, 8, .inl (fun _ => 0)))] H := hP
  have hD : va_D A [(fil, .inr (5, [.int 0, .ref en.2.2.1, .int 0])), (a, .inr (14, [.ref rw, .int 0, .int 0])), (q_3, .inr (6, [.int 103, .ref nos, .int 0, .int x, .int y, .int 0, .int 0, .int 0, .int 0, .int 0, .int 0, .ref lo_5])), (lo_5, .inr (9, [.ref lh_6, .ref ld_7, .int 0])), (lh_6, .inl (kI_8, 8, .inl (fun _ => 0))), (ld_7, .inl (kI_8, 8, .inl (fun _ => 0)))] := hD
  have hR := en_R hR0 hN0 hS
  refine W.widen (k := 5) (n := 37) (Nat.le_of_ble_eq_true rfl) (Nat.le_of_ble_eq_true rfl) ?_
  have hPc := (hP.app hR).sub (ws' := [(fil, .inr (5, [.int 0, .ref en.2.2.1, .int 0])), (a, .inr (14, [.ref rw, .int 0, .int 0]))] ++ [(h, .inr (17, [.ref pal, .ref she, .ref fil, .ref nte, .ref dat, .ref vot, .ref loa, .ref nos, .ref pic, .ref spa, .int 5, .int 50, .int 1600, .int 0])), (pic, .inr (11, [.ref st, .ref sp, .ref ll, .int 0, .int 1600])), (st, .inl (cS, 48, .inr (.inr (.inr (.inr g))))), (q_3, .inr (6, [.int 103, .ref nos, .int 0, .int x, .int y, .int 0, .int 0, .int 0, .int 0, .int 0, .int 0, .ref lo_5]))]) [0, 1, 6, 7, 8, 2] rfl
  have hDc := (en_DD hD hDr hN0 hAb).sub (ws' := [(fil, .inr (5, [.int 0, .ref en.2.2.1, .int 0])), (a, .inr (14, [.ref rw, .int 0, .int 0]))] ++ [(h, .inr (17, [.ref pal, .ref she, .ref fil, .ref nte, .ref dat, .ref vot, .ref loa, .ref nos, .ref pic, .ref spa, .int 5, .int 50, .int 1600, .int 0])), (pic, .inr (11, [.ref st, .ref sp, .ref ll, .int 0, .int 1600])), (st, .inl (cS, 48, .inr (.inr (.inr (.inr g))))), (q_3, .inr (6, [.int 103, .ref nos, .int 0, .int x, .int y, .int 0, .int 0, .int 0, .int 0, .int 0, .int 0, .ref lo_5]))]) [0, 1, 6, 7, 8, 2] (by decide) rfl
  have hKc := hK.sub (tys' := [(cS, .object "Underpaint$Stack")]) [0] rfl
  have hFc := va_free (wc := [(fil, .inr (5, [.int 0, .ref en.2.2.1, .int 0])), (a, .inr (14, [.ref rw, .int 0, .int 0]))]) hD hS hA [0, 1] rfl
  refine vx_calli (vx_runV (As := [.ref q_3]) (rest := []) ⟨hx, hb, hml, hown, hts⟩ (c_enter_g l hst dC dI b0 en H.size h pal she fil nte dat vot loa nos pic spa st sp ll a rw g cS q_3 nos lo_5 0 0 0 x y (z_c_X5_raking_258 x y h_2) (hga (z_c_X5_raking_258 x y h_2))) (cwV 1 hts go_c_X11_glue_2 rfl rfl rfl (by decide +kernel) ⟨Nat.le_of_ble_eq_true rfl, Nat.le_of_ble_eq_true rfl⟩) ⟨cP.blind, va_recv hK hR (ci := 17) (q0 := 0) rfl rfl, cP.use (en_z hb0 hS) (hE.on hAb hS) hPc hKc hDc trivial⟩ rfl rfl hl.1 rfl (lv_room (Nat.le_of_ble_eq_true rfl)) dX11_glue_22 ⟨Nat.le_of_ble_eq_true rfl, Nat.le_of_ble_eq_true rfl⟩) hS (fun q _ h => hFc q h) hFc (fun q _ h => hFc q h) (fun E ce q9 u t H1 locs ht hvm hpx hBX hz1 hk1 hS hce hcv hcl => ?_) (fun r_10 u t H1 locs ht hvm hw hB hz1 hk1 hS => ?_)
  · skip
    try dsimp only at hBX
    obtain ⟨rfl, hc⟩ := hBX
    exact absurd (z_c_X11_glue_415 x y h_2 hc) (fun z => z)
  have hP1 : va_P (dC, dI) vwCl [] H1 := fun k q h => by simp at h
  have hD1 : va_D (va_A [(fil, .inr (5, [.int 0, .ref en.2.2.1, .int 0])), (a, .inr (14, [.ref rw, .int 0, .int 0]))] H.size) [] := ⟨fun i j p q h => by simp at h, fun k q h => by simp at h⟩
  try dsimp only at hw
  obtain ⟨hP, hD⟩ := va_join (wr := [(q_3, .inr (6, [.int 103, .ref nos, .int 0, .int x, .int y, .int 0, .int 0, .int 0, .int 0, .int 0, .int 0, .ref lo_5])), (lo_5, .inr (9, [.ref lh_6, .ref ld_7, .int 0])), (lh_6, .inl (kI_8, 8, .inl (fun _ => 0))), (ld_7, .inl (kI_8, 8, .inl (fun _ => 0)))]) (w1 := []) hP hD [0, 1] [2, 3, 4, 5] rfl rfl (by decide) (by decide) hk1 hFc hP1 hD1
  generalize H1 = H at hP hS ⊢
  have hP : va_P (dC, dI) vwCl [(q_3, .inr (6, [.int 103, .ref nos, .int 0, .int x, .int y, .int 0, .int 0, .int 0, .int 0, .int 0, .int 0, .ref lo_5])), (lo_5, .inr (9, [.ref lh_6, .ref ld_7, .int 0])), (lh_6, .inl (kI_8, 8, .inl (fun _ => 0))), (ld_7, .inl (kI_8, 8, .inl (fun _ => 0)))] H := hP
  have hD : va_D A [(q_3, .inr (6, [.int 103, .ref nos, .int 0, .int x, .int y, .int 0, .int 0, .int 0, .int 0, .int 0, .int 0, .ref lo_5])), (lo_5, .inr (9, [.ref lh_6, .ref ld_7, .int 0])), (lh_6, .inl (kI_8, 8, .inl (fun _ => 0))), (ld_7, .inl (kI_8, 8, .inl (fun _ => 0)))] := hD
  have hR := en_R hR0 hN0 hS
  refine W.widen (k := 8) (n := 59) (Nat.le_of_ble_eq_true rfl) (Nat.le_of_ble_eq_true rfl) ?_
  subst r_10
  refine W.widen (k := 8) (n := 59) (Nat.le_of_ble_eq_true rfl) (Nat.le_of_ble_eq_true rfl) ?_
  refine vx_ret ?_
  exact W.iret (v := 0) hx hb hr (fun t ht hW => ⟨⟨0, (), rfl, (z_c_X11_glue_416 x y h_2), trivial⟩, hS.F ht⟩) hS.2.2 dX11_glue_25

def wo_c_X3_copyFrom_w : List Cond := [Cond.fieldLink RX3 18 "Underpaint$Loan" "size" "I"]
def wo_c_X3_copyFrom : List Cond := .code yX3_copyFrom cX3_copyFrom 3 none :: (wo_c_X3_copyFrom_w ++ (u_ws RX3 TX3 3 ++ List.nil))
theorem gw_wo_c_X3_copyFrom : wo_c_X3_copyFrom.all goodWord = true := gw_c (by decide +kernel) (gw_a (by decide +kernel) (gw_a (by decide +kernel) rfl))
set_option maxHeartbeats 4000000 in
set_option maxRecDepth 100000 in
/-- Loan.copyFrom of a loan without legs -/
theorem c_X3_copyFrom (l : Launch) (dC : Nat → ClassId) (dI : Nat → Nat → Nat) (b0 : Nat) (en : EnT) (sz : Nat) (lo lh ld loa lh2 ld2 : Nat) : Met l yX3_copyFrom wo_c_X3_copyFrom ({ frames := 0, cells := 0, slots := 0, locals := 0 } : Room) (cP b0 en (dC, dI) [] [(lo, .inr (9, [.ref lh, .ref ld, .int 0]))] [(loa, .inr (9, [.ref lh2, .ref ld2, .int 0]))] sz (fun _ => True) [.ref lo, .ref loa]) (va_Qv (fun u : Unit => True) (fun u t => cB (dC, dI) [] [(lo, .inr (9, [.ref lh, .ref ld, .int 0]))] (va_A [(lo, .inr (9, [.ref lh, .ref ld, .int 0]))] sz) (fun _ => True) t) (va_A [(lo, .inr (9, [.ref lh, .ref ld, .int 0]))] sz)) 0 0 (va_A [(lo, .inr (9, [.ref lh, .ref ld, .int 0]))] sz) := by
  refine Met.ofW (cc := cX3_copyFrom) (maxL := 3) (ret := none) (by decide) rfl ?_
  intro p e s m args below meth c s₁ B hml hv
  obtain ⟨rfl, hsz, hb0, hE, hPP, hK, hDD, hF0⟩ := hv
  have hx := B.exec
  have hb := B.bytes
  have hr := B.returns
  have hts := atoms_spec (ws := wo_c_X3_copyFrom) B.pre
  have hown : s.vm.findClass RX3 = some m.cls := findClass_of_methodNamed B.named
  have hlocks := B.notSynchronized
  subst hsz
  have hN0 := en_N hPP hDD rfl
  have hP : va_P (dC, dI) vwCl [(lo, .inr (9, [.ref lh, .ref ld, .int 0]))] s.heap := hPP.sub [0] rfl
  have hR0 : va_P (dC, dI) vwCl [(loa, .inr (9, [.ref lh2, .ref ld2, .int 0]))] s.heap := hPP.sub [1] rfl
  have hD0 : va_D (fun q => b0 ≤ q) [(lo, .inr (9, [.ref lh, .ref ld, .int 0]))] := hDD.sub [0] (by decide) rfl
  have hDr : va_D (fun q => b0 ≤ q) [(loa, .inr (9, [.ref lh2, .ref ld2, .int 0]))] := hDD.sub [1] (by decide) rfl
  have hAb := en_A (sz := s.heap.size) hD0 hb0
  have hD := hD0.self (sz := s.heap.size)
  generalize hAe : va_A [(lo, .inr (9, [.ref lh, .ref ld, .int 0]))] s.heap.size = A at hD hAb hN0 ⊢
  have hA : ∀ q : Nat, s.heap.size ≤ q → A q := fun q h => by rw [← hAe]; exact Or.inr h
  have hS : va_S A s.heap s.heap [] := va_S.rf
  have hR := hR0
  have hl := lv_entry [.ref lo, .ref loa] (n := 3) (Nat.le_of_ble_eq_true rfl)
  rw [lg_entry_eq]
  generalize (lg_sl [.ref lo, .ref loa] ++ List.replicate (3 - (lg_sl [.ref lo, .ref loa]).length) Slot.unset).toArray = ls at hl ⊢
  have hl : lv_has ls 3 [(0, .ref lo), (1, .ref loa)] := hl
  refine lv_aload_n hx hb dX3_copyFrom_0 rfl (lv_at hl 0 rfl) ?_
  refine lv_aload_n hx hb dX3_copyFrom_1 rfl (lv_at hl 1 rfl) ?_
  refine va_get (D := (dC, dI)) (ci := 9) (v := .int 0) (C := RX3) (T := TX3) (N := 3) hx hb hts (by decide +kernel) hown hK hR 0 rfl rfl 2 (by decide) (hts (.fieldLink RX3 18 "Underpaint$Loan" "size" "I") (by decide +kernel)) (fun _ h9 => h9) rfl dX3_copyFrom_2 ?_
  refine va_put (D := (dC, dI)) (ci := 9) (v := .int 0) (ty := .int) (C := RX3) (T := TX3) (N := 3) hx hb hts (by decide +kernel) tyX3 tyX3_ok nmX3 hown hK hP hD hS 0 rfl rfl 2 (by decide) (hts (.fieldLink RX3 18 "Underpaint$Loan" "size" "I") (by decide +kernel)) (fun _ h9 => h9) rfl (by decide +kernel) rfl rfl (Nat.le_of_ble_eq_true rfl) dX3_copyFrom_5 (fun H locs hP hD hS => ?_)
  have hP : va_P (dC, dI) vwCl [(lo, .inr (9, [.ref lh, .ref ld, .int 0]))] H := hP
  have hD : va_D A [(lo, .inr (9, [.ref lh, .ref ld, .int 0]))] := hD
  have hR := en_R hR0 hN0 hS
  refine lv_iconst (v := 0) hx hb dX3_copyFrom_8 (by decide) ?_
  refine lv_istore_n (lv' := [(2, .int 0), (0, .ref lo), (1, .ref loa)]) hx hb dX3_copyFrom_9 rfl hl (by decide) rfl (fun ls hl => ?_)
  refine lv_iload_n hx hb dX3_copyFrom_10 rfl (lv_at hl 0 rfl) ?_
  refine lv_aload_n hx hb dX3_copyFrom_11 rfl (lv_at hl 1 rfl) ?_
  refine va_get (D := (dC, dI)) (ci := 9) (v := .int 0) (C := RX3) (T := TX3) (N := 3) hx hb hts (by decide +kernel) hown hK hP 0 rfl rfl 2 (by decide) (hts (.fieldLink RX3 18 "Underpaint$Loan" "size" "I") (by decide +kernel)) (fun _ h9 => h9) rfl dX3_copyFrom_12 ?_
  refine lv_icmp_ge (tgt := 48) hx hb dX3_copyFrom_15 (by decide) (fun c_1 => ?_) (fun c_1 => absurd c_1 (by decide))
  refine W.widen (k := 0) (n := 0) (Nat.le_of_ble_eq_true rfl) (Nat.le_of_ble_eq_true rfl) ?_
  exact W.vret hx hb hr (fun t ht hW => ⟨⟨(), rfl, trivial, cB.mk ht hW (hP.sub [0] rfl) (hK.sub [] rfl) (hD.sub [0] (by decide) rfl) (trivial)⟩, hS.F ht⟩) hS.2.2 dX3_copyFrom_48

def wo_c_X11_lend_w : List Cond := [Cond.classLink RX11 161 RX0, Cond.instantiable RX0 12, Cond.initialized RX0, Cond.fieldLink RX11 55 "Underpaint" "noStuff" "LUnderpaint$Stuff;", Cond.methodLink RX11 163 yX0_init, Cond.instanceMethod yX0_init, Cond.fieldLink RX11 393 "Underpaint$Act" "loan" "LUnderpaint$Loan;", Cond.fieldLink RX11 46 "Underpaint" "loan" "LUnderpaint$Loan;"]
def wo_c_X11_lend : List Cond := .code yX11_lend cX11_lend 3 (some .int) :: (wo_c_X11_lend_w ++ (u_ws RX0 TX0 12 ++ (u_ws RX11 TX11 14 ++ (wo_c_X0_init ++ (wsV RX11 394 RX3 yX3_copyFrom wo_c_X3_copyFrom ++ (wsV RX11 172 RX11 yX11_enter wo_c_enter_o ++ List.nil))))))
theorem gw_wo_c_X11_lend : wo_c_X11_lend.all goodWord = true := gw_c (by decide +kernel) (gw_a (by decide +kernel) (gw_a (by decide +kernel) (gw_a (by decide +kernel) (gw_a gw_wo_c_X0_init (gw_a (gw_a (by decide +kernel) gw_wo_c_X3_copyFrom) (gw_a (gw_a (by decide +kernel) gw_wo_c_enter_o) rfl))))))
theorem go_c_X11_lend_0 : GoodIn wo_c_X11_lend (wo_c_X0_init) := goodIn_sub (fun _ h => List.mem_cons_of_mem _ (List.mem_append_right _ (List.mem_append_right _ (List.mem_append_right _ (List.mem_append_left _ h))))) gw_wo_c_X0_init
theorem go_c_X11_lend_1 : GoodIn wo_c_X11_lend (wsV RX11 394 RX3 yX3_copyFrom wo_c_X3_copyFrom) := goodIn_sub (fun _ h => List.mem_cons_of_mem _ (List.mem_append_right _ (List.mem_append_right _ (List.mem_append_right _ (List.mem_append_right _ (List.mem_append_left _ h)))))) (gw_a (by decide +kernel) gw_wo_c_X3_copyFrom)
theorem go_c_X11_lend_2 : GoodIn wo_c_X11_lend (wsV RX11 172 RX11 yX11_enter wo_c_enter_o) := goodIn_sub (fun _ h => List.mem_cons_of_mem _ (List.mem_append_right _ (List.mem_append_right _ (List.mem_append_right _ (List.mem_append_right _ (List.mem_append_right _ (List.mem_append_left _ h))))))) (gw_a (by decide +kernel) gw_wo_c_enter_o)
set_option maxHeartbeats 4000000 in
set_option maxRecDepth 100000 in
theorem c_X11_lend (l : Launch) (hst : l.stackTraces = false) (dC : Nat → ClassId) (dI : Nat → Nat → Nat) (b0 : Nat) (en : EnT) (sz : Nat) (h pal she fil nte dat vot loa nos pic spa : Nat) (st sp ll : Nat) (g : Nat → Option Nat) (cS : ClassId) (N : Nat → Prop) (lh ld : Nat) (hNb : ∀ a, N a → b0 ≤ a ∧ a < sz) (hNw : ∀ a, N a → a ∉ List.map Prod.fst ([(fil, .inr (5, [.int 0, .ref en.2.2.1, .int 0]))] : va_W)) (hNr : ∀ a, N a → a ∉ List.map Prod.fst ([(h, .inr (17, [.ref pal, .ref she, .ref fil, .ref nte, .ref dat, .ref vot, .ref loa, .ref nos, .ref pic, .ref spa, .int 5, .int 50, .int 1600, .int 0])), (pic, .inr (11, [.ref st, .ref sp, .ref ll, .int 0, .int 1600])), (st, .inl (cS, 48, .inr (.inr (.inr (.inr g))))), (loa, .inr (9, [.ref lh, .ref ld, .int 0]))] : va_W)) : vx_Met l yX11_lend wo_c_X11_lend ({ frames := 8, cells := 5, slots := 37, locals := 131 } : Room) (cP b0 en (dC, dI) [(cS, .object "Underpaint$Stack")] [(fil, .inr (5, [.int 0, .ref en.2.2.1, .int 0]))] [(h, .inr (17, [.ref pal, .ref she, .ref fil, .ref nte, .ref dat, .ref vot, .ref loa, .ref nos, .ref pic, .ref spa, .int 5, .int 50, .int 1600, .int 0])), (pic, .inr (11, [.ref st, .ref sp, .ref ll, .int 0, .int 1600])), (st, .inl (cS, 48, .inr (.inr (.inr (.inr g))))), (loa, .inr (9, [.ref lh, .ref ld, .int 0]))] sz (FamS (dC, dI) N g) [.ref h]) (va_Qi (fun (r : Int32) (_ : Unit) => False) (fun _ _ => True) (va_A [(fil, .inr (5, [.int 0, .ref en.2.2.1, .int 0]))] sz)) (vx_X (fun _ : Unit => True) (fun E _ _ => (E = "java/lang/UnsupportedOperationException" ∧ True)) (va_A [(fil, .inr (5, [.int 0, .ref en.2.2.1, .int 0]))] sz)) 5 37 (va_A [(fil, .inr (5, [.int 0, .ref en.2.2.1, .int 0]))] sz) := by
  refine vx_ofW (cc := cX11_lend) (maxL := 3) (ret := (some .int)) (by decide) rfl ?_
  intro p e s m args below meth c s₁ B hml hext hv
  obtain ⟨rfl, hsz, hb0, hE, hPP, hK, hDD, hF0⟩ := hv
  have hx := B.exec
  have hb := B.bytes
  have hr := B.returns
  have hts := atoms_spec (ws := wo_c_X11_lend) B.pre
  have hown : s.vm.findClass RX11 = some m.cls := findClass_of_methodNamed B.named
  have hlocks := B.notSynchronized
  subst hsz
  have hN0 := en_N hPP hDD rfl
  have hP : va_P (dC, dI) vwCl [(fil, .inr (5, [.int 0, .ref en.2.2.1, .int 0]))] s.heap := hPP.sub [0] rfl
  have hR0 : va_P (dC, dI) vwCl [(h, .inr (17, [.ref pal, .ref she, .ref fil, .ref nte, .ref dat, .ref vot, .ref loa, .ref nos, .ref pic, .ref spa, .int 5, .int 50, .int 1600, .int 0])), (pic, .inr (11, [.ref st, .ref sp, .ref ll, .int 0, .int 1600])), (st, .inl (cS, 48, .inr (.inr (.inr (.inr g))))), (loa, .inr (9, [.ref lh, .ref ld, .int 0]))] s.heap := hPP.sub [1, 2, 3, 4] rfl
  have hD0 : va_D (fun q => b0 ≤ q) [(fil, .inr (5, [.int 0, .ref en.2.2.1, .int 0]))] := hDD.sub [0] (by decide) rfl
  have hDr : va_D (fun q => b0 ≤ q) [(h, .inr (17, [.ref pal, .ref she, .ref fil, .ref nte, .ref dat, .ref vot, .ref loa, .ref nos, .ref pic, .ref spa, .int 5, .int 50, .int 1600, .int 0])), (pic, .inr (11, [.ref st, .ref sp, .ref ll, .int 0, .int 1600])), (st, .inl (cS, 48, .inr (.inr (.inr (.inr g))))), (loa, .inr (9, [.ref lh, .ref ld, .int 0]))] := hDD.sub [1, 2, 3, 4] (by decide) rfl
  have hAb := en_A (sz := s.heap.size) hD0 hb0
  have hD := hD0.self (sz := s.heap.size)
  generalize hAe : va_A [(fil, .inr (5, [.int 0, .ref en.2.2.1, .int 0]))] s.heap.size = A at hD hAb hN0 ⊢
  have hA : ∀ q : Nat, s.heap.size ≤ q → A q := fun q h => by rw [← hAe]; exact Or.inr h
  have hS : va_S A s.heap s.heap [] := va_S.rf
  have hR := hR0
  have hl := lv_entry [.ref h] (n := 3) (Nat.le_of_ble_eq_true rfl)
  rw [lg_entry_eq]
  generalize (lg_sl [.ref h] ++ List.replicate (3 - (lg_sl [.ref h]).length) Slot.unset).toArray = ls at hl ⊢
  have hl : lv_has ls 3 [(0, .ref h)] := hl
  have hR0b := hR0
  have hDrb := hDr
  have hN0b := hN0
  have hz9 := hS.1
  refine va_newX (ci := 6) (fs := [.int 0, .null, .int 0, .int 0, .int 0, .int 0, .int 0, .int 0, .int 0, .int 0, .int 0, .null]) (C := RX0) (T := TX0) (N := 12) hx hb hts (by decide +kernel) tyX0 tyX0_ok hown (hts (.classLink RX11 161 RX0) (by decide +kernel)) (hts (.instantiable RX0 12) (by decide +kernel)) (hts (.initialized RX0) (by decide +kernel)) hK hP hD hS hA rfl (fun j hj => by rcases (show j = 0 ∨ j = 1 ∨ j = 2 ∨ j = 3 ∨ j = 4 ∨ j = 5 ∨ j = 6 ∨ j = 7 ∨ j = 8 ∨ j = 9 ∨ j = 10 ∨ j = 11 by omega) with rfl | rfl | rfl | rfl | rfl | rfl | rfl | rfl | rfl | rfl | rfl | rfl <;> rfl) (Nat.le_of_ble_eq_true rfl) (Nat.le_of_ble_eq_true rfl) dX11_lend_0 (fun q_1 H hP hD hS hoq hoz => ?_)
  have hP : va_P (dC, dI) vwCl [(fil, .inr (5, [.int 0, .ref en.2.2.1, .int 0])), (q_1, .inr (6, [.int 0, .null, .int 0, .int 0, .int 0, .int 0, .int 0, .int 0, .int 0, .int 0, .int 0, .null]))] H := hP
  have hD : va_D A [(fil, .inr (5, [.int 0, .ref en.2.2.1, .int 0])), (q_1, .inr (6, [.int 0, .null, .int 0, .int 0, .int 0, .int 0, .int 0, .int 0, .int 0, .int 0, .int 0, .null]))] := hD
  have hR := en_R hR0 hN0 hS
  refine W.widen (k := 1) (n := 12) (Nat.le_of_ble_eq_true rfl) (Nat.le_of_ble_eq_true rfl) ?_
  have hgz_q_1 : s.heap.size ≤ q_1 := by rw [hoz]; exact hz9
  have hoz_q_1 := hoz
  refine lv_dup hx hb dX11_lend_3 rfl ?_
  refine lv_bipush (v := 111) hx hb dX11_lend_4 (by decide) ?_
  refine lv_aload_n hx hb dX11_lend_6 rfl (lv_at hl 0 rfl) ?_
  refine va_get (D := (dC, dI)) (ci := 17) (v := .ref nos) (C := RX11) (T := TX11) (N := 14) hx hb hts (by decide +kernel) hown hK hR 0 rfl rfl 7 (by decide) (hts (.fieldLink RX11 55 "Underpaint" "noStuff" "LUnderpaint$Stuff;") (by decide +kernel)) (fun _ h9 => h9) rfl dX11_lend_7 ?_
  refine lv_iconst (v := 0) hx hb dX11_lend_10 (by decide) ?_
  refine lv_iconst (v := 0) hx hb dX11_lend_11 (by decide) ?_
  refine lv_iconst (v := 0) hx hb dX11_lend_12 (by decide) ?_
  have hS9 := hS
  have hPc := (hP.app hR).sub (ws' := [(q_1, .inr (6, [.int 0, .null, .int 0, .int 0, .int 0, .int 0, .int 0, .int 0, .int 0, .int 0, .int 0, .null]))] ++ []) [1] rfl
  have hDc := (en_DD hD hDr hN0 hAb).sub (ws' := [(q_1, .inr (6, [.int 0, .null, .int 0, .int 0, .int 0, .int 0, .int 0, .int 0, .int 0, .int 0, .int 0, .null]))] ++ []) [1] (by decide) rfl
  have hKc := hK.sub (tys' := []) [] rfl
  have hFc := va_free (wc := [(q_1, .inr (6, [.int 0, .null, .int 0, .int 0, .int 0, .int 0, .int 0, .int 0, .int 0, .int 0, .int 0, .null]))]) hD hS hA [1] rfl
  refine va_callv (va_runI (As := [.int 111, .ref nos, .int 0, .int 0, .int 0]) (rest := [.ref q_1]) ⟨hx, hb, hml, hown, hts⟩ (c_X0_init l dC dI b0 en H.size q_1 nos 111 0 0 0) (cwI 5 hts go_c_X11_lend_0 rfl rfl rfl (hts (.initialized RX0) (by decide +kernel)) (hts (.methodLink RX11 163 yX0_init) (by decide +kernel)) (hts (.instanceMethod yX0_init) (by decide +kernel)) rfl (by decide +kernel) ⟨Nat.le_of_ble_eq_true rfl, Nat.le_of_ble_eq_true rfl⟩) ⟨cP.blind, cP.use (en_z hb0 hS) (hE.on hAb hS) hPc hKc hDc trivial⟩ rfl rfl hl.1 rfl (lv_room (Nat.le_of_ble_eq_true rfl)) dX11_lend_13 ⟨Nat.le_of_ble_eq_true rfl, Nat.le_of_ble_eq_true rfl⟩) hS (fun q _ h => hFc q h) hFc (fun ⟨lo_3, lh_4, ld_5, kI_6⟩ t H1 locs ht hvm hw hB hz1 hk1 hS => ?_)
  obtain ⟨hP1, hK1, hD1, hF1⟩ := hB
  rw [ht] at hP1
  try rw [ht] at hF1
  have hK1 := va_K.moved hvm.symm hK1
  try dsimp only at hw
  obtain ⟨hP, hD⟩ := va_join (wr := [(fil, .inr (5, [.int 0, .ref en.2.2.1, .int 0]))]) (w1 := [(q_1, .inr (6, [.int 111, .ref nos, .int 0, .int 0, .int 0, .int 0, .int 0, .int 0, .int 0, .int 0, .int 0, .ref lo_3])), (lo_3, .inr (9, [.ref lh_4, .ref ld_5, .int 0])), (lh_4, .inl (kI_6, 8, .inl (fun _ => 0))), (ld_5, .inl (kI_6, 8, .inl (fun _ => 0)))]) hP hD [1] [0] rfl rfl (by decide) (by decide) hk1 hFc hP1 hD1
  have hK := hK.app hK1
  have hgz_lo_3 : s.heap.size ≤ lo_3 := Nat.le_trans hS9.1 (vGeN hD1 1 rfl (by simp only [List.map_cons, List.map_nil, List.mem_cons, List.not_mem_nil, or_false, not_or, not_false_eq_true]; exact vAp hD1 1 0 rfl rfl (by decide)))
  have hgz_lh_4 : s.heap.size ≤ lh_4 := Nat.le_trans hS9.1 (vGeN hD1 2 rfl (by simp only [List.map_cons, List.map_nil, List.mem_cons, List.not_mem_nil, or_false, not_or, not_false_eq_true]; exact vAp hD1 2 0 rfl rfl (by decide)))
  have hgz_ld_5 : s.heap.size ≤ ld_5 := Nat.le_trans hS9.1 (vGeN hD1 3 rfl (by simp only [List.map_cons, List.map_nil, List.mem_cons, List.not_mem_nil, or_false, not_or, not_false_eq_true]; exact vAp hD1 3 0 rfl rfl (by decide)))
  generalize H1 = H at hP hS ⊢
  have hP : va_P (dC, dI) vwCl [(fil, .inr (5, [.int 0, .ref en.2.2.1, .int 0])), (q_1, .inr (6, [.int 111, .ref nos, .int 0, .int 0, .int 0, .int 0, .int 0, .int 0, .int 0, .int 0, .int 0, .ref lo_3])), (lo_3, .inr (9, [.ref lh_4, .ref ld_5, .int 0])), (lh_4, .inl (kI_6, 8, .inl (fun _ => 0))), (ld_5, .inl (kI_6, 8, .inl (fun _ => 0)))] H := hP
  have hD : va_D A [(fil, .inr (5, [.int 0, .ref en.2.2.1, .int 0])), (q_1, .inr (6, [.int 111, .ref nos, .int 0, .int 0, .int 0, .int 0, .int 0, .int 0, .int 0, .int 0, .int 0, .ref lo_3])), (lo_3, .inr (9, [.ref lh_4, .ref ld_5, .int 0])), (lh_4, .inl (kI_6, 8, .inl (fun _ => 0))), (ld_5, .inl (kI_6, 8, .inl (fun _ => 0)))] := hD
  have hR := en_R hR0 hN0 hS
  refine W.widen (k := 4) (n := 31) (Nat.le_of_ble_eq_true rfl) (Nat.le_of_ble_eq_true rfl) ?_
  refine lv_astore_n (lv' := [(1, .ref q_1), (0, .ref h)]) hx hb dX11_lend_16 rfl hl (by decide) rfl (fun ls hl => ?_)
  refine lv_aload_n hx hb dX11_lend_17 rfl (lv_at hl 0 rfl) ?_
  refine va_get (D := (dC, dI)) (ci := 6) (v := .ref lo_3) (C := RX0) (T := TX0) (N := 12) hx hb hts (by decide +kernel) hown hK hP 1 rfl rfl 11 (by decide) (hts (.fieldLink RX11 393 "Underpaint$Act" "loan" "LUnderpaint$Loan;") (by decide +kernel)) (fun _ h9 => h9) rfl dX11_lend_18 ?_
  refine lv_aload_n hx hb dX11_lend_21 rfl (lv_at hl 1 rfl) ?_
  refine va_get (D := (dC, dI)) (ci := 17) (v := .ref loa) (C := RX11) (T := TX11) (N := 14) hx hb hts (by decide +kernel) hown hK hR 0 rfl rfl 6 (by decide) (hts (.fieldLink RX11 46 "Underpaint" "loan" "LUnderpaint$Loan;") (by decide +kernel)) (fun _ h9 => h9) rfl dX11_lend_22 ?_
  have hPc := (hP.app hR).sub (ws' := [(lo_3, .inr (9, [.ref lh_4, .ref ld_5, .int 0]))] ++ [(loa, .inr (9, [.ref lh, .ref ld, .int 0]))]) [2, 8] rfl
  have hDc := (en_DD hD hDr hN0 hAb).sub (ws' := [(lo_3, .inr (9, [.ref lh_4, .ref ld_5, .int 0]))] ++ [(loa, .inr (9, [.ref lh, .ref ld, .int 0]))]) [2, 8] (by decide) rfl
  have hKc := hK.sub (tys' := []) [] rfl
  have hFc := va_free (wc := [(lo_3, .inr (9, [.ref lh_4, .ref ld_5, .int 0]))]) hD hS hA [2] rfl
  refine va_callv (va_runV (As := [.ref loa]) (rest := []) ⟨hx, hb, hml, hown, hts⟩ (c_X3_copyFrom l dC dI b0 en H.size lo_3 lh_4 ld_5 loa lh ld) (cwV 1 hts go_c_X11_lend_1 rfl rfl rfl (by decide +kernel) ⟨Nat.le_of_ble_eq_true rfl, Nat.le_of_ble_eq_true rfl⟩) ⟨cP.blind, va_recv hK hP (ci := 9) (q0 := 2) rfl rfl, cP.use (en_z hb0 hS) (hE.on hAb hS) hPc hKc hDc trivial⟩ rfl rfl hl.1 rfl (lv_room (Nat.le_of_ble_eq_true rfl)) dX11_lend_25 ⟨Nat.le_of_ble_eq_true rfl, Nat.le_of_ble_eq_true rfl⟩) hS (fun q _ h => hFc q h) hFc (fun u t H1 locs ht hvm hw hB hz1 hk1 hS => ?_)
  obtain ⟨hP1, hK1, hD1, hF1⟩ := hB
  rw [ht] at hP1
  try rw [ht] at hF1
  have hK1 := va_K.moved hvm.symm hK1
  try dsimp only at hw
  obtain ⟨hP, hD⟩ := va_join (wr := [(fil, .inr (5, [.int 0, .ref en.2.2.1, .int 0])), (q_1, .inr (6, [.int 111, .ref nos, .int 0, .int 0, .int 0, .int 0, .int 0, .int 0, .int 0, .int 0, .int 0, .ref lo_3])), (lh_4, .inl (kI_6, 8, .inl (fun _ => 0))), (ld_5, .inl (kI_6, 8, .inl (fun _ => 0)))]) (w1 := [(lo_3, .inr (9, [.ref lh_4, .ref ld_5, .int 0]))]) hP hD [2] [0, 1, 3, 4] rfl rfl (by decide) (by decide) hk1 hFc hP1 hD1
  generalize H1 = H at hP hS ⊢
  have hP : va_P (dC, dI) vwCl [(fil, .inr (5, [.int 0, .ref en.2.2.1, .int 0])), (q_1, .inr (6, [.int 111, .ref nos, .int 0, .int 0, .int 0, .int 0, .int 0, .int 0, .int 0, .int 0, .int 0, .ref lo_3])), (lh_4, .inl (kI_6, 8, .inl (fun _ => 0))), (ld_5, .inl (kI_6, 8, .inl (fun _ => 0))), (lo_3, .inr (9, [.ref lh_4, .ref ld_5, .int 0]))] H := hP
  have hD : va_D A [(fil, .inr (5, [.int 0, .ref en.2.2.1, .int 0])), (q_1, .inr (6, [.int 111, .ref nos, .int 0, .int 0, .int 0, .int 0, .int 0, .int 0, .int 0, .int 0, .int 0, .ref lo_3])), (lh_4, .inl (kI_6, 8, .inl (fun _ => 0))), (ld_5, .inl (kI_6, 8, .inl (fun _ => 0))), (lo_3, .inr (9, [.ref lh_4, .ref ld_5, .int 0]))] := hD
  have hR := en_R hR0 hN0 hS
  refine W.widen (k := 4) (n := 31) (Nat.le_of_ble_eq_true rfl) (Nat.le_of_ble_eq_true rfl) ?_
  refine lv_aload_n hx hb dX11_lend_28 rfl (lv_at hl 1 rfl) ?_
  refine lv_aload_n hx hb dX11_lend_29 rfl (lv_at hl 0 rfl) ?_
  have hPc := (hP.app hR).sub (ws' := [(fil, .inr (5, [.int 0, .ref en.2.2.1, .int 0]))] ++ [(h, .inr (17, [.ref pal, .ref she, .ref fil, .ref nte, .ref dat, .ref vot, .ref loa, .ref nos, .ref pic, .ref spa, .int 5, .int 50, .int 1600, .int 0])), (pic, .inr (11, [.ref st, .ref sp, .ref ll, .int 0, .int 1600])), (st, .inl (cS, 48, .inr (.inr (.inr (.inr g))))), (lo_3, .inr (9, [.ref lh_4, .ref ld_5, .int 0])), (q_1, .inr (6, [.int 111, .ref nos, .int 0, .int 0, .int 0, .int 0, .int 0, .int 0, .int 0, .int 0, .int 0, .ref lo_3]))]) [0, 5, 6, 7, 4, 1] rfl
  have hDc := (en_DD hD hDr hN0 hAb).sub (ws' := [(fil, .inr (5, [.int 0, .ref en.2.2.1, .int 0]))] ++ [(h, .inr (17, [.ref pal, .ref she, .ref fil, .ref nte, .ref dat, .ref vot, .ref loa, .ref nos, .ref pic, .ref spa, .int 5, .int 50, .int 1600, .int 0])), (pic, .inr (11, [.ref st, .ref sp, .ref ll, .int 0, .int 1600])), (st, .inl (cS, 48, .inr (.inr (.inr (.inr g))))), (lo_3, .inr (9, [.ref lh_4, .ref ld_5, .int 0])), (q_1, .inr (6, [.int 111, .ref nos, .int 0, .int 0, .int 0, .int 0, .int 0, .int 0, .int 0, .int 0, .int 0, .ref lo_3]))]) [0, 5, 6, 7, 4, 1] (by decide) rfl
  have hKc := hK.sub (tys' := [(cS, .object "Underpaint$Stack")]) [0] rfl
  have hFc := va_free (wc := [(fil, .inr (5, [.int 0, .ref en.2.2.1, .int 0]))]) hD hS hA [0] rfl
  refine vx_calli (vx_runV (As := [.ref q_1]) (rest := []) ⟨hx, hb, hml, hown, hts⟩ (c_enter_o l hst dC dI b0 en H.size h pal she fil nte dat vot loa nos pic spa st sp ll g cS N q_1 nos lo_3 0 0 0 lh_4 ld_5 (fun a9 h9 => ⟨(hNb a9 h9).1, Nat.lt_of_lt_of_le (hNb a9 h9).2 hS.1⟩) (fun a9 h9 z9 => by have g1 := hNw a9 h9; have g2 := hNr a9 h9; have g3 := (hNb a9 h9).2; simp only [List.map_cons, List.map_nil, List.mem_cons, List.not_mem_nil, or_false, not_or] at g1 g2 z9 <;> omega) (fun a9 h9 z9 => by have g1 := hNw a9 h9; have g2 := hNr a9 h9; have g3 := (hNb a9 h9).2; simp only [List.map_cons, List.map_nil, List.mem_cons, List.not_mem_nil, or_false, not_or] at g1 g2 z9 <;> omega)) (cwV 1 hts go_c_X11_lend_2 rfl rfl rfl (by decide +kernel) ⟨Nat.le_of_ble_eq_true rfl, Nat.le_of_ble_eq_true rfl⟩) ⟨cP.blind, va_recv hK hR (ci := 17) (q0 := 0) rfl rfl, cP.use (en_z hb0 hS) (hE.on hAb hS) hPc hKc hDc (hF0.on (fun a9 h8 h9 => by rw [← hAe]; exact vA1 h8 (hNw a9 h9)) hS)⟩ rfl rfl hl.1 rfl (lv_room (Nat.le_of_ble_eq_true rfl)) dX11_lend_30 ⟨Nat.le_of_ble_eq_true rfl, Nat.le_of_ble_eq_true rfl⟩) hS (fun q _ h => hFc q h) hFc (fun q _ h => hFc q h) (fun E ce q9 u t H1 locs ht hvm hpx hBX hz1 hk1 hS hce hcv hcl => ?_) (fun r_9 u t H1 locs ht hvm hw hB hz1 hk1 hS => ?_)
  · skip
    try dsimp only at hBX
    obtain ⟨rfl, hc⟩ := hBX
    refine vx_widen (k := 5) (n := 37) (Nat.le_of_ble_eq_true rfl) (Nat.le_of_ble_eq_true rfl) ?_
    exact vx_out (fun x hx => (hext x hx).elim) hlocks hce hcv hcl (fun t ht hW => ⟨(), trivial, ⟨rfl, trivial⟩, hS.F ht⟩) hS.2.2 (Nat.le_refl _) (Nat.le_refl _)
  exact (show False from hw).elim
