theorem dX2_init_0 : decode cX2_init 0 = .ok (.aload_n 0, 1) := by decide +kernel
theorem dX2_init_1 : decode cX2_init 1 = .ok (.invokespecial 3, 3) := by decide +kernel
theorem dX2_init_4 : decode cX2_init 4 = .ok (.aload_n 0, 1) := by decide +kernel
theorem dX2_init_5 : decode cX2_init 5 = .ok (.aload_n 1, 1) := by decide +kernel
theorem dX2_init_6 : decode cX2_init 6 = .ok (.putfield 9, 3) := by decide +kernel
theorem dX2_init_9 : decode cX2_init 9 = .ok (.return_, 1) := by decide +kernel
theorem dX8_init_0 : decode cX8_init 0 = .ok (.aload_n 0, 1) := by decide +kernel
theorem dX8_init_1 : decode cX8_init 1 = .ok (.invokespecial 3, 3) := by decide +kernel
theorem dX8_init_4 : decode cX8_init 4 = .ok (.aload_n 0, 1) := by decide +kernel
theorem dX8_init_5 : decode cX8_init 5 = .ok (.bipush 9, 2) := by decide +kernel
theorem dX8_init_7 : decode cX8_init 7 = .ok (.anewarray 9, 3) := by decide +kernel
theorem dX8_init_10 : decode cX8_init 10 = .ok (.putfield 11, 3) := by decide +kernel
theorem dX8_init_13 : decode cX8_init 13 = .ok (.iconst 0, 1) := by decide +kernel
theorem dX8_init_14 : decode cX8_init 14 = .ok (.istore_n 2, 1) := by decide +kernel
theorem dX8_init_15 : decode cX8_init 15 = .ok (.iload_n 2, 1) := by decide +kernel
theorem dX8_init_16 : decode cX8_init 16 = .ok (.bipush 9, 2) := by decide +kernel
theorem dX8_init_18 : decode cX8_init 18 = .ok (.if_icmp .ge 23, 3) := by decide +kernel
theorem dX8_init_41 : decode cX8_init 41 = .ok (.return_, 1) := by decide +kernel
theorem dX8_init_21 : decode cX8_init 21 = .ok (.aload_n 0, 1) := by decide +kernel
theorem dX8_init_22 : decode cX8_init 22 = .ok (.getfield 11, 3) := by decide +kernel
theorem dX8_init_25 : decode cX8_init 25 = .ok (.iload_n 2, 1) := by decide +kernel
theorem dX8_init_26 : decode cX8_init 26 = .ok (.new 9, 3) := by decide +kernel
theorem dX8_init_29 : decode cX8_init 29 = .ok (.dup, 1) := by decide +kernel
theorem dX8_init_30 : decode cX8_init 30 = .ok (.aload_n 1, 1) := by decide +kernel
theorem dX8_init_31 : decode cX8_init 31 = .ok (.invokespecial 17, 3) := by decide +kernel
theorem dX8_init_34 : decode cX8_init 34 = .ok (.aastore, 1) := by decide +kernel
theorem dX8_init_35 : decode cX8_init 35 = .ok (.iinc 2 1, 3) := by decide +kernel
theorem dX8_init_38 : decode cX8_init 38 = .ok (.goto (-23), 3) := by decide +kernel
theorem dX5_init_0 : decode cX5_init 0 = .ok (.aload_n 0, 1) := by decide +kernel
theorem dX5_init_1 : decode cX5_init 1 = .ok (.invokespecial 3, 3) := by decide +kernel
theorem dX5_init_4 : decode cX5_init 4 = .ok (.aload_n 0, 1) := by decide +kernel
theorem dX5_init_5 : decode cX5_init 5 = .ok (.bipush 48, 2) := by decide +kernel
theorem dX5_init_7 : decode cX5_init 7 = .ok (.anewarray 9, 3) := by decide +kernel
theorem dX5_init_10 : decode cX5_init 10 = .ok (.putfield 11, 3) := by decide +kernel
theorem dX5_init_13 : decode cX5_init 13 = .ok (.aload_n 0, 1) := by decide +kernel
theorem dX5_init_14 : decode cX5_init 14 = .ok (.bipush 40, 2) := by decide +kernel
theorem dX5_init_16 : decode cX5_init 16 = .ok (.newarray .int, 2) := by decide +kernel
theorem dX5_init_18 : decode cX5_init 18 = .ok (.putfield 17, 3) := by decide +kernel
theorem dX5_init_21 : decode cX5_init 21 = .ok (.aload_n 0, 1) := by decide +kernel
theorem dX5_init_22 : decode cX5_init 22 = .ok (.bipush 40, 2) := by decide +kernel
theorem dX5_init_24 : decode cX5_init 24 = .ok (.newarray .int, 2) := by decide +kernel
theorem dX5_init_26 : decode cX5_init 26 = .ok (.putfield 21, 3) := by decide +kernel
theorem dX5_init_29 : decode cX5_init 29 = .ok (.aload_n 0, 1) := by decide +kernel
theorem dX5_init_30 : decode cX5_init 30 = .ok (.sipush 1600, 3) := by decide +kernel
theorem dX5_init_33 : decode cX5_init 33 = .ok (.putfield 24, 3) := by decide +kernel
theorem dX5_init_36 : decode cX5_init 36 = .ok (.new 28, 3) := by decide +kernel
theorem dX5_init_39 : decode cX5_init 39 = .ok (.dup, 1) := by decide +kernel
theorem dX5_init_40 : decode cX5_init 40 = .ok (.iconst 0, 1) := by decide +kernel
theorem dX5_init_41 : decode cX5_init 41 = .ok (.bipush 115, 2) := by decide +kernel
theorem dX5_init_43 : decode cX5_init 43 = .ok (.invokespecial 30, 3) := by decide +kernel
theorem dX5_init_46 : decode cX5_init 46 = .ok (.astore_n 1, 1) := by decide +kernel
theorem dX5_init_47 : decode cX5_init 47 = .ok (.iconst 0, 1) := by decide +kernel
theorem dX5_init_48 : decode cX5_init 48 = .ok (.istore_n 2, 1) := by decide +kernel
theorem dX5_init_49 : decode cX5_init 49 = .ok (.iload_n 2, 1) := by decide +kernel
theorem dX5_init_50 : decode cX5_init 50 = .ok (.bipush 48, 2) := by decide +kernel
theorem dX5_init_52 : decode cX5_init 52 = .ok (.if_icmp .ge 23, 3) := by decide +kernel
theorem dX5_init_75 : decode cX5_init 75 = .ok (.return_, 1) := by decide +kernel
theorem dX5_init_55 : decode cX5_init 55 = .ok (.aload_n 0, 1) := by decide +kernel
theorem dX5_init_56 : decode cX5_init 56 = .ok (.getfield 11, 3) := by decide +kernel
theorem dX5_init_59 : decode cX5_init 59 = .ok (.iload_n 2, 1) := by decide +kernel
theorem dX5_init_60 : decode cX5_init 60 = .ok (.new 9, 3) := by decide +kernel
theorem dX5_init_63 : decode cX5_init 63 = .ok (.dup, 1) := by decide +kernel
theorem dX5_init_64 : decode cX5_init 64 = .ok (.aload_n 1, 1) := by decide +kernel
theorem dX5_init_65 : decode cX5_init 65 = .ok (.invokespecial 33, 3) := by decide +kernel
theorem dX5_init_68 : decode cX5_init 68 = .ok (.aastore, 1) := by decide +kernel
theorem dX5_init_69 : decode cX5_init 69 = .ok (.iinc 2 1, 3) := by decide +kernel
theorem dX5_init_72 : decode cX5_init 72 = .ok (.goto (-23), 3) := by decide +kernel
theorem dX4_init_0 : decode cX4_init 0 = .ok (.aload_n 0, 1) := by decide +kernel
theorem dX4_init_1 : decode cX4_init 1 = .ok (.invokespecial 3, 3) := by decide +kernel
theorem dX4_init_4 : decode cX4_init 4 = .ok (.aload_n 0, 1) := by decide +kernel
theorem dX4_init_5 : decode cX4_init 5 = .ok (.sipush 240, 3) := by decide +kernel
theorem dX4_init_8 : decode cX4_init 8 = .ok (.newarray .boolean, 2) := by decide +kernel
theorem dX4_init_10 : decode cX4_init 10 = .ok (.putfield 9, 3) := by decide +kernel
theorem dX4_init_13 : decode cX4_init 13 = .ok (.aload_n 0, 1) := by decide +kernel
theorem dX4_init_14 : decode cX4_init 14 = .ok (.sipush 240, 3) := by decide +kernel
theorem dX4_init_17 : decode cX4_init 17 = .ok (.newarray .int, 2) := by decide +kernel
theorem dX4_init_19 : decode cX4_init 19 = .ok (.putfield 15, 3) := by decide +kernel
theorem dX4_init_22 : decode cX4_init 22 = .ok (.aload_n 0, 1) := by decide +kernel
theorem dX4_init_23 : decode cX4_init 23 = .ok (.new 19, 3) := by decide +kernel
theorem dX4_init_26 : decode cX4_init 26 = .ok (.dup, 1) := by decide +kernel
theorem dX4_init_27 : decode cX4_init 27 = .ok (.new 21, 3) := by decide +kernel
theorem dX4_init_30 : decode cX4_init 30 = .ok (.dup, 1) := by decide +kernel
theorem dX4_init_31 : decode cX4_init 31 = .ok (.iconst 0, 1) := by decide +kernel
theorem dX4_init_32 : decode cX4_init 32 = .ok (.bipush 115, 2) := by decide +kernel
theorem dX4_init_34 : decode cX4_init 34 = .ok (.invokespecial 23, 3) := by decide +kernel
theorem dX4_init_37 : decode cX4_init 37 = .ok (.invokespecial 26, 3) := by decide +kernel
theorem dX4_init_40 : decode cX4_init 40 = .ok (.putfield 29, 3) := by decide +kernel
theorem dX4_init_43 : decode cX4_init 43 = .ok (.return_, 1) := by decide +kernel
theorem dX6_init_0 : decode cX6_init 0 = .ok (.aload_n 0, 1) := by decide +kernel
theorem dX6_init_1 : decode cX6_init 1 = .ok (.invokespecial 1, 3) := by decide +kernel
theorem dX6_init_4 : decode cX6_init 4 = .ok (.aload_n 0, 1) := by decide +kernel
theorem dX6_init_5 : decode cX6_init 5 = .ok (.iload_n 1, 1) := by decide +kernel
theorem dX6_init_6 : decode cX6_init 6 = .ok (.newarray .int, 2) := by decide +kernel
theorem dX6_init_8 : decode cX6_init 8 = .ok (.putfield 7, 3) := by decide +kernel
theorem dX6_init_11 : decode cX6_init 11 = .ok (.return_, 1) := by decide +kernel
theorem dX1_init_0 : decode cX1_init 0 = .ok (.aload_n 0, 1) := by decide +kernel
theorem dX1_init_1 : decode cX1_init 1 = .ok (.invokespecial 3, 3) := by decide +kernel
theorem dX1_init_4 : decode cX1_init 4 = .ok (.aload_n 0, 1) := by decide +kernel
theorem dX1_init_5 : decode cX1_init 5 = .ok (.new 9, 3) := by decide +kernel
theorem dX1_init_8 : decode cX1_init 8 = .ok (.dup, 1) := by decide +kernel
theorem dX1_init_9 : decode cX1_init 9 = .ok (.bipush 20, 2) := by decide +kernel
theorem dX1_init_11 : decode cX1_init 11 = .ok (.invokespecial 11, 3) := by decide +kernel
theorem dX1_init_14 : decode cX1_init 14 = .ok (.putfield 14, 3) := by decide +kernel
theorem dX1_init_17 : decode cX1_init 17 = .ok (.aload_n 0, 1) := by decide +kernel
theorem dX1_init_18 : decode cX1_init 18 = .ok (.new 9, 3) := by decide +kernel
theorem dX1_init_21 : decode cX1_init 21 = .ok (.dup, 1) := by decide +kernel
theorem dX1_init_22 : decode cX1_init 22 = .ok (.bipush 60, 2) := by decide +kernel
theorem dX1_init_24 : decode cX1_init 24 = .ok (.invokespecial 11, 3) := by decide +kernel
theorem dX1_init_27 : decode cX1_init 27 = .ok (.putfield 20, 3) := by decide +kernel
theorem dX1_init_30 : decode cX1_init 30 = .ok (.aload_n 0, 1) := by decide +kernel
theorem dX1_init_31 : decode cX1_init 31 = .ok (.bipush 24, 2) := by decide +kernel
theorem dX1_init_33 : decode cX1_init 33 = .ok (.newarray .int, 2) := by decide +kernel
theorem dX1_init_35 : decode cX1_init 35 = .ok (.putfield 23, 3) := by decide +kernel
theorem dX1_init_38 : decode cX1_init 38 = .ok (.aload_n 0, 1) := by decide +kernel
theorem dX1_init_39 : decode cX1_init 39 = .ok (.bipush 6, 2) := by decide +kernel
theorem dX1_init_41 : decode cX1_init 41 = .ok (.newarray .int, 2) := by decide +kernel
theorem dX1_init_43 : decode cX1_init 43 = .ok (.putfield 27, 3) := by decide +kernel
theorem dX1_init_46 : decode cX1_init 46 = .ok (.return_, 1) := by decide +kernel
theorem dX10_init_0 : decode cX10_init 0 = .ok (.aload_n 0, 1) := by decide +kernel
theorem dX10_init_1 : decode cX10_init 1 = .ok (.invokespecial 3, 3) := by decide +kernel
theorem dX10_init_4 : decode cX10_init 4 = .ok (.aload_n 0, 1) := by decide +kernel
theorem dX10_init_5 : decode cX10_init 5 = .ok (.bipush 9, 2) := by decide +kernel
theorem dX10_init_7 : decode cX10_init 7 = .ok (.newarray .int, 2) := by decide +kernel
theorem dX10_init_9 : decode cX10_init 9 = .ok (.putfield 9, 3) := by decide +kernel
theorem dX10_init_12 : decode cX10_init 12 = .ok (.return_, 1) := by decide +kernel

def wo_c_X2_init_w : List Cond := [Cond.methodLink RX2 3 objectInit, Cond.instanceMethod objectInit, Cond.code objectInit ⟨#[0xb1]⟩ 1 none, Cond.fieldLink RX2 9 "Underpaint$Layer" "stuff" "LUnderpaint$Stuff;"]
def wo_c_X2_init : List Cond := .code yX2_init cX2_init 2 none :: (wo_c_X2_init_w ++ (u_ws RX2 TX2 5 ++ List.nil))
theorem gw_wo_c_X2_init : wo_c_X2_init.all goodWord = true := gw_c (by decide +kernel) (gw_a (by decide +kernel) (gw_a (by decide +kernel) rfl))
set_option maxHeartbeats 4000000 in
set_option maxRecDepth 100000 in
/-- Layer(blank) -/
theorem c_X2_init (l : Launch) (dC : Nat → ClassId) (dI : Nat → Nat → Nat) (b0 : Nat) (en : EnT) (sz : Nat) (q sf : Nat) : Met l yX2_init wo_c_X2_init ({ frames := 1, cells := 0, slots := 0, locals := 30 } : Room) (cP b0 en (dC, dI) [] [(q, .inr (8, [.null, .int 0, .int 0, .int 0, .int 0]))] [] sz (fun _ => True) [.ref q, .ref sf]) (va_Qv (fun u : Unit => True) (fun u t => cB (dC, dI) [] [(q, .inr (8, [.ref sf, .int 0, .int 0, .int 0, .int 0]))] (va_A [(q, .inr (8, [.null, .int 0, .int 0, .int 0, .int 0]))] sz) (fun _ => True) t) (va_A [(q, .inr (8, [.null, .int 0, .int 0, .int 0, .int 0]))] sz)) 0 0 (va_A [(q, .inr (8, [.null, .int 0, .int 0, .int 0, .int 0]))] sz) := by
  refine Met.ofW (cc := cX2_init) (maxL := 2) (ret := none) (by decide) rfl ?_
  intro p e s m args below meth c s₁ B hml hv
  obtain ⟨rfl, hsz, hb0, hE, hPP, hK, hDD, hF0⟩ := hv
  have hx := B.exec
  have hb := B.bytes
  have hr := B.returns
  have hts := atoms_spec (ws := wo_c_X2_init) B.pre
  have hown : s.vm.findClass RX2 = some m.cls := findClass_of_methodNamed B.named
  have hlocks := B.notSynchronized
  have hin : meth.name = "<init>" := (name_of_methodNamed B.named B.method).1
  subst hsz
  have hN0 := en_N hPP hDD rfl
  have hP : va_P (dC, dI) vwCl [(q, .inr (8, [.null, .int 0, .int 0, .int 0, .int 0]))] s.heap := hPP.sub [0] rfl
  have hR0 : va_P (dC, dI) vwCl [] s.heap := hPP.sub [] rfl
  have hD0 : va_D (fun q => b0 ≤ q) [(q, .inr (8, [.null, .int 0, .int 0, .int 0, .int 0]))] := hDD.sub [0] (by decide) rfl
  have hDr : va_D (fun q => b0 ≤ q) [] := hDD.sub [] (by decide) rfl
  have hAb := en_A (sz := s.heap.size) hD0 hb0
  have hD := hD0.self (sz := s.heap.size)
  generalize hAe : va_A [(q, .inr (8, [.null, .int 0, .int 0, .int 0, .int 0]))] s.heap.size = A at hD hAb hN0 ⊢
  have hA : ∀ q : Nat, s.heap.size ≤ q → A q := fun q h => by rw [← hAe]; exact Or.inr h
  have hS : va_S A s.heap s.heap [] := va_S.rf
  have hR := hR0
  have hl := lv_entry [.ref q, .ref sf] (n := 2) (Nat.le_of_ble_eq_true rfl)
  rw [lg_entry_eq]
  generalize (lg_sl [.ref q, .ref sf] ++ List.replicate (2 - (lg_sl [.ref q, .ref sf]).length) Slot.unset).toArray = ls at hl ⊢
  have hl : lv_has ls 2 [(0, .ref q), (1, .ref sf)] := hl
  refine lv_aload_n hx hb dX2_init_0 rfl (lv_at hl 0 rfl) ?_
  refine W.objInit hx hb hown (hts (.methodLink RX2 3 objectInit) (by decide +kernel)) (hts (.instanceMethod objectInit) (by decide +kernel)) (hts (.code objectInit ⟨#[0xb1]⟩ 1 none) (by decide +kernel)) rfl (by rw [hml]; exact hl.1) rfl dX2_init_1 (Nat.le_of_ble_eq_true rfl) (Nat.le_of_ble_eq_true rfl) ?_
  refine lv_aload_n hx hb dX2_init_4 rfl (lv_at hl 0 rfl) ?_
  refine lv_aload_n hx hb dX2_init_5 rfl (lv_at hl 1 rfl) ?_
  refine va_put (D := (dC, dI)) (ci := 8) (v := .ref sf) (ty := .object "Underpaint$Stuff") (C := RX2) (T := TX2) (N := 5) hx hb hts (by decide +kernel) tyX2 tyX2_ok nmX2 hown hK hP hD hS 0 rfl rfl 0 (by decide) (hts (.fieldLink RX2 9 "Underpaint$Layer" "stuff" "LUnderpaint$Stuff;") (by decide +kernel)) (fun _ h9 => h9) rfl (by decide +kernel) rfl rfl (Nat.le_of_ble_eq_true rfl) dX2_init_6 (fun H locs hP hD hS => ?_)
  have hP : va_P (dC, dI) vwCl [(q, .inr (8, [.ref sf, .int 0, .int 0, .int 0, .int 0]))] H := hP
  have hD : va_D A [(q, .inr (8, [.ref sf, .int 0, .int 0, .int 0, .int 0]))] := hD
  have hR : va_P (dC, dI) vwCl [] H := fun k q h => by simp at h
  refine W.widen (k := 0) (n := 0) (Nat.le_of_ble_eq_true rfl) (Nat.le_of_ble_eq_true rfl) ?_
  exact W.vret hx hb hr (fun t ht hW => ⟨⟨(), rfl, trivial, cB.mk ht hW (hP.sub [0] rfl) (hK.sub [] rfl) (hD.sub [0] (by decide) rfl) (trivial)⟩, hS.F ht⟩) hS.2.2 dX2_init_9

def wo_c_X8_init_w : List Cond := [Cond.methodLink RX8 3 objectInit, Cond.instanceMethod objectInit, Cond.code objectInit ⟨#[0xb1]⟩ 1 none, Cond.classLink RX8 9 "Underpaint$Layer", Cond.fieldLink RX8 11 "Underpaint$Stack" "rows" "[LUnderpaint$Layer;", Cond.classLink RX8 9 RX2, Cond.instantiable RX2 5, Cond.initialized RX2, Cond.methodLink RX8 17 yX2_init, Cond.instanceMethod yX2_init]
def wo_c_X8_init : List Cond := .code yX8_init cX8_init 3 none :: (wo_c_X8_init_w ++ (u_ws RX8 TX8 3 ++ (u_ws RX2 TX2 5 ++ (wo_c_X2_init ++ List.nil))))
theorem gw_wo_c_X8_init : wo_c_X8_init.all goodWord = true := gw_c (by decide +kernel) (gw_a (by decide +kernel) (gw_a (by decide +kernel) (gw_a (by decide +kernel) (gw_a gw_wo_c_X2_init rfl))))
theorem go_c_X8_init_0 : GoodIn wo_c_X8_init (wo_c_X2_init) := goodIn_sub (fun _ h => List.mem_cons_of_mem _ (List.mem_append_right _ (List.mem_append_right _ (List.mem_append_right _ (List.mem_append_left _ h))))) gw_wo_c_X2_init
set_option maxHeartbeats 4000000 in
set_option maxRecDepth 100000 in
/-- Stack(blank) -/
theorem c_X8_init (l : Launch) (dC : Nat → ClassId) (dI : Nat → Nat → Nat) (b0 : Nat) (en : EnT) (sz : Nat) (a sf : Nat) : Met l yX8_init wo_c_X8_init ({ frames := 2, cells := 10, slots := 54, locals := 51 } : Room) (cP b0 en (dC, dI) [] [(a, .inr (14, [.null, .int 0, .int 0]))] [] sz (fun _ => True) [.ref a, .ref sf]) (va_Qv (fun u : Nat => True) (fun u t => cB (dC, dI) [] [(a, .inr (14, [.ref u, .int 0, .int 0]))] (va_A [(a, .inr (14, [.null, .int 0, .int 0]))] sz) (fun _ => True) t) (va_A [(a, .inr (14, [.null, .int 0, .int 0]))] sz)) 10 54 (va_A [(a, .inr (14, [.null, .int 0, .int 0]))] sz) := by
  refine Met.ofW (cc := cX8_init) (maxL := 3) (ret := none) (by decide) rfl ?_
  intro p e s m args below meth c s₁ B hml hv
  obtain ⟨rfl, hsz, hb0, hE, hPP, hK, hDD, hF0⟩ := hv
  have hx := B.exec
  have hb := B.bytes
  have hr := B.returns
  have hts := atoms_spec (ws := wo_c_X8_init) B.pre
  have hown : s.vm.findClass RX8 = some m.cls := findClass_of_methodNamed B.named
  have hlocks := B.notSynchronized
  have hin : meth.name = "<init>" := (name_of_methodNamed B.named B.method).1
  subst hsz
  have hN0 := en_N hPP hDD rfl
  have hP : va_P (dC, dI) vwCl [(a, .inr (14, [.null, .int 0, .int 0]))] s.heap := hPP.sub [0] rfl
  have hR0 : va_P (dC, dI) vwCl [] s.heap := hPP.sub [] rfl
  have hD0 : va_D (fun q => b0 ≤ q) [(a, .inr (14, [.null, .int 0, .int 0]))] := hDD.sub [0] (by decide) rfl
  have hDr : va_D (fun q => b0 ≤ q) [] := hDD.sub [] (by decide) rfl
  have hAb := en_A (sz := s.heap.size) hD0 hb0
  have hD := hD0.self (sz := s.heap.size)
  generalize hAe : va_A [(a, .inr (14, [.null, .int 0, .int 0]))] s.heap.size = A at hD hAb hN0 ⊢
  have hA : ∀ q : Nat, s.heap.size ≤ q → A q := fun q h => by rw [← hAe]; exact Or.inr h
  have hS : va_S A s.heap s.heap [] := va_S.rf
  have hR := hR0
  have hl := lv_entry [.ref a, .ref sf] (n := 3) (Nat.le_of_ble_eq_true rfl)
  rw [lg_entry_eq]
  generalize (lg_sl [.ref a, .ref sf] ++ List.replicate (3 - (lg_sl [.ref a, .ref sf]).length) Slot.unset).toArray = ls at hl ⊢
  have hl : lv_has ls 3 [(0, .ref a), (1, .ref sf)] := hl
  refine W.gen (fun Q hQ => ?_)
  refine lv_aload_n hx hb dX8_init_0 rfl (lv_at hl 0 rfl) ?_
  refine W.objInit hx hb hown (hts (.methodLink RX8 3 objectInit) (by decide +kernel)) (hts (.instanceMethod objectInit) (by decide +kernel)) (hts (.code objectInit ⟨#[0xb1]⟩ 1 none) (by decide +kernel)) rfl (by rw [hml]; exact hl.1) rfl dX8_init_1 (Nat.le_of_ble_eq_true rfl) (Nat.le_of_ble_eq_true rfl) ?_
  refine lv_aload_n hx hb dX8_init_4 rfl (lv_at hl 0 rfl) ?_
  refine lv_bipush (v := 9) hx hb dX8_init_5 (by decide) ?_
  refine va_newq (C := "Underpaint$Layer") (N' := 9) hx hb hown (hts (.classLink RX8 9 "Underpaint$Layer") (by decide +kernel)) (hE.arr (by decide +kernel)) hK hP hD hS hA (by decide) (by decide) (by decide) (Nat.le_of_ble_eq_true rfl) (Nat.le_of_ble_eq_true rfl) dX8_init_7 (fun q_1 k_2 H hK hP hD hS => ?_)
  have hP : va_P (dC, dI) vwCl [(a, .inr (14, [.null, .int 0, .int 0])), (q_1, .inl (k_2, 9, .inr (.inr (.inr (.inr (fun _ => none))))))] H := hP
  have hD : va_D A [(a, .inr (14, [.null, .int 0, .int 0])), (q_1, .inl (k_2, 9, .inr (.inr (.inr (.inr (fun _ => none))))))] := hD
  have hR : va_P (dC, dI) vwCl [] H := fun k q h => by simp at h
  refine W.widen (k := 1) (n := 9) (Nat.le_of_ble_eq_true rfl) (Nat.le_of_ble_eq_true rfl) ?_
  refine va_putF (D := (dC, dI)) (ci := 14) (v := .ref q_1) (ty := .array (.object "Underpaint$Layer")) (C := RX8) (T := TX8) (N := 3) hx hb hts (by decide +kernel) tyX8 tyX8_ok nmX8 hown hK hP hD hS 0 rfl rfl 0 (by decide) (hts (.fieldLink RX8 11 "Underpaint$Stack" "rows" "[LUnderpaint$Layer;") (by decide +kernel)) (fun _ h9 => h9) rfl hin rfl (by decide +kernel) rfl rfl (Nat.le_of_ble_eq_true rfl) dX8_init_10 (fun H locs hP hD hS => ?_)
  have hP : va_P (dC, dI) vwCl [(a, .inr (14, [.ref q_1, .int 0, .int 0])), (q_1, .inl (k_2, 9, .inr (.inr (.inr (.inr (fun _ => none))))))] H := hP
  have hD : va_D A [(a, .inr (14, [.ref q_1, .int 0, .int 0])), (q_1, .inl (k_2, 9, .inr (.inr (.inr (.inr (fun _ => none))))))] := hD
  have hR : va_P (dC, dI) vwCl [] H := fun k q h => by simp at h
  refine lv_iconst (v := 0) hx hb dX8_init_13 (by decide) ?_
  refine lv_istore_n (lv' := [(2, .int 0), (0, .ref a), (1, .ref sf)]) hx hb dX8_init_14 rfl hl (by decide) rfl (fun ls hl => ?_)
  have loop_15 : ∀ (n_4 k_3 : Nat), n_4 + k_3 = 9 → ∀ fr : Nat → Option Nat, ∀ (H : Heap) (locs : List Loc), va_P (dC, dI) vwCl [(a, .inr (14, [.ref q_1, .int 0, .int 0])), (q_1, .inl (k_2, 9, .inr (.inr (.inr (.inr fr)))))] H → va_D A [(a, .inr (14, [.ref q_1, .int 0, .int 0])), (q_1, .inl (k_2, 9, .inr (.inr (.inr (.inr fr)))))] → va_S A s.heap H locs → ∀ ls : Array Slot, lv_has ls 3 [(2, .int (nI k_3)), (0, .ref a), (1, .ref sf)] → W p l e (headSpec wo_c_X8_init ({ frames := 2, cells := 10, slots := 54, locals := 51 } : Room)).room s m #[.ref a, .ref sf] below meth c H locs (1 + 1 * k_3) (9 + 5 * k_3) Q (F0 m 15 ls []) := by
    intro n_4
    induction n_4 with
    | zero =>
      intro k_3 hk_5 fr H locs hP hD hS ls hl
      have ek_3 : k_3 = 9 := by omega
      subst ek_3
      have hl : lv_has ls 3 [(2, .int 9), (0, .ref a), (1, .ref sf)] := hl
      refine W.widen (k := 10) (n := 54) (Nat.le_of_ble_eq_true rfl) (Nat.le_of_ble_eq_true rfl) ?_
      have hR : va_P (dC, dI) vwCl [] H := fun k q h => by simp at h
      refine lv_iload_n hx hb dX8_init_15 rfl (lv_at hl 0 rfl) ?_
      refine lv_bipush (v := 9) hx hb dX8_init_16 (by decide) ?_
      refine lv_icmp_ge (tgt := 41) hx hb dX8_init_18 (by decide) (fun c_7 => ?_) (fun c_7 => absurd c_7 (by decide))
      subst hQ
      refine W.widen (k := 10) (n := 54) (Nat.le_of_ble_eq_true rfl) (Nat.le_of_ble_eq_true rfl) ?_
      exact W.vret hx hb hr (fun t ht hW => ⟨⟨q_1, rfl, trivial, cB.mk ht hW (hP.sub [0] rfl) (hK.sub [] rfl) (hD.sub [0] (by decide) rfl) (trivial)⟩, hS.F ht⟩) hS.2.2 dX8_init_41
    | succ n_4 ih =>
      intro k_3 hk_5 fr H locs hP hD hS ls hl
      have hk_8 : k_3 < 9 := by omega
      have hb_9 : 0 ≤ nI k_3 ∧ nI k_3 < 9 := ⟨nI_le (Nat.zero_le _) (by omega), nI_lk hk_8 (by decide)⟩
      have hR : va_P (dC, dI) vwCl [] H := fun k q h => by simp at h
      refine lv_iload_n hx hb dX8_init_15 rfl (lv_at hl 0 rfl) ?_
      refine lv_bipush (v := 9) hx hb dX8_init_16 (by decide) ?_
      refine lv_icmp_ge (tgt := 41) hx hb dX8_init_18 (by decide) (fun c_10 => ?_) (fun c_10 => ?_)
      · skip
        first | exact absurd c_10 (nI_ge hk_8 (by decide)) | exact absurd (nI_lk hk_8 (by decide)) c_10
      · skip
        refine lv_aload_n hx hb dX8_init_21 rfl (lv_at hl 1 rfl) ?_
        refine va_get (D := (dC, dI)) (ci := 14) (v := .ref q_1) (C := RX8) (T := TX8) (N := 3) hx hb hts (by decide +kernel) hown hK hP 0 rfl rfl 0 (by decide) (hts (.fieldLink RX8 11 "Underpaint$Stack" "rows" "[LUnderpaint$Layer;") (by decide +kernel)) (fun _ h9 => h9) rfl dX8_init_22 ?_
        refine lv_iload_n hx hb dX8_init_25 rfl (lv_at hl 0 rfl) ?_
        have hz9 := hS.1
        refine va_newX (ci := 8) (fs := [.null, .int 0, .int 0, .int 0, .int 0]) (C := RX2) (T := TX2) (N := 5) hx hb hts (by decide +kernel) tyX2 tyX2_ok hown (hts (.classLink RX8 9 RX2) (by decide +kernel)) (hts (.instantiable RX2 5) (by decide +kernel)) (hts (.initialized RX2) (by decide +kernel)) hK hP hD hS hA rfl (fun j hj => by rcases (show j = 0 ∨ j = 1 ∨ j = 2 ∨ j = 3 ∨ j = 4 by omega) with rfl | rfl | rfl | rfl | rfl <;> rfl) (by show (_ : Nat) ≤ 10; omega) (by show (_ : Nat) ≤ 54; omega) dX8_init_26 (fun q_11 H hP hD hS hoq hoz => ?_)
        have hP : va_P (dC, dI) vwCl [(a, .inr (14, [.ref q_1, .int 0, .int 0])), (q_1, .inl (k_2, 9, .inr (.inr (.inr (.inr fr))))), (q_11, .inr (8, [.null, .int 0, .int 0, .int 0, .int 0]))] H := hP
        have hD : va_D A [(a, .inr (14, [.ref q_1, .int 0, .int 0])), (q_1, .inl (k_2, 9, .inr (.inr (.inr (.inr fr))))), (q_11, .inr (8, [.null, .int 0, .int 0, .int 0, .int 0]))] := hD
        have hR : va_P (dC, dI) vwCl [] H := fun k q h => by simp at h
        refine W.widen (k := (2 + 1 * k_3)) (n := (14 + 5 * k_3)) (by omega) (by omega) ?_
        have hgz_q_11 : s.heap.size ≤ q_11 := by rw [hoz]; exact hz9
        have hoz_q_11 := hoz
        refine lv_dup hx hb dX8_init_29 rfl ?_
        refine lv_aload_n hx hb dX8_init_30 rfl (lv_at hl 2 rfl) ?_
        have hPc := (hP.app hR).sub (ws' := [(q_11, .inr (8, [.null, .int 0, .int 0, .int 0, .int 0]))] ++ []) [2] rfl
        have hDc := (en_DD hD hDr hN0 hAb).sub (ws' := [(q_11, .inr (8, [.null, .int 0, .int 0, .int 0, .int 0]))] ++ []) [2] (by decide) rfl
        have hKc := hK.sub (tys' := []) [] rfl
        have hFc := va_free (wc := [(q_11, .inr (8, [.null, .int 0, .int 0, .int 0, .int 0]))]) hD hS hA [2] rfl
        refine va_callv (va_runI (As := [.ref sf]) (rest := [.ref q_11, .int (nI k_3), .ref q_1]) ⟨hx, hb, hml, hown, hts⟩ (c_X2_init l dC dI b0 en H.size q_11 sf) (cwI 1 hts go_c_X8_init_0 rfl rfl rfl (hts (.initialized RX2) (by decide +kernel)) (hts (.methodLink RX8 17 yX2_init) (by decide +kernel)) (hts (.instanceMethod yX2_init) (by decide +kernel)) rfl (by decide +kernel) ⟨Nat.le_of_ble_eq_true rfl, Nat.le_of_ble_eq_true rfl⟩) ⟨cP.blind, cP.use (en_z hb0 hS) (hE.on hAb hS) hPc hKc hDc trivial⟩ rfl rfl hl.1 rfl (lv_room (Nat.le_of_ble_eq_true rfl)) dX8_init_31 ⟨(by show (_ : Nat) ≤ 10; omega), (by show (_ : Nat) ≤ 54; omega)⟩) hS (fun q _ h => hFc q h) hFc (fun u t H1 locs ht hvm hw hB hz1 hk1 hS => ?_)
        obtain ⟨hP1, hK1, hD1, hF1⟩ := hB
        rw [ht] at hP1
        try rw [ht] at hF1
        have hK1 := va_K.moved hvm.symm hK1
        try dsimp only at hw
        obtain ⟨hP, hD⟩ := va_join (wr := [(a, .inr (14, [.ref q_1, .int 0, .int 0])), (q_1, .inl (k_2, 9, .inr (.inr (.inr (.inr fr)))))]) (w1 := [(q_11, .inr (8, [.ref sf, .int 0, .int 0, .int 0, .int 0]))]) hP hD [2] [0, 1] rfl rfl (by decide) (by decide) hk1 hFc hP1 hD1
        generalize H1 = H at hP hS ⊢
        have hP : va_P (dC, dI) vwCl [(a, .inr (14, [.ref q_1, .int 0, .int 0])), (q_1, .inl (k_2, 9, .inr (.inr (.inr (.inr fr))))), (q_11, .inr (8, [.ref sf, .int 0, .int 0, .int 0, .int 0]))] H := hP
        have hD : va_D A [(a, .inr (14, [.ref q_1, .int 0, .int 0])), (q_1, .inl (k_2, 9, .inr (.inr (.inr (.inr fr))))), (q_11, .inr (8, [.ref sf, .int 0, .int 0, .int 0, .int 0]))] := hD
        have hR : va_P (dC, dI) vwCl [] H := fun k q h => by simp at h
        refine W.widen (k := (2 + 1 * k_3)) (n := (14 + 5 * k_3)) (by omega) (by omega) ?_
        refine va_astq hx hb hK hP hD hS 1 0 2 8 rfl rfl rfl rfl (vp_in_nI hk_8 (by decide)) dX8_init_34 (fun H locs hP hD hS => ?_)
        generalize ef_13 : va_up fr (nI k_3).toNatClampNeg (some q_11) = f_13 at hP hD
        have hP : va_P (dC, dI) vwCl [(a, .inr (14, [.ref q_1, .int 0, .int 0])), (q_1, .inl (k_2, 9, .inr (.inr (.inr (.inr f_13))))), (q_11, .inr (8, [.ref sf, .int 0, .int 0, .int 0, .int 0]))] H := hP
        have hD : va_D A [(a, .inr (14, [.ref q_1, .int 0, .int 0])), (q_1, .inl (k_2, 9, .inr (.inr (.inr (.inr f_13))))), (q_11, .inr (8, [.ref sf, .int 0, .int 0, .int 0, .int 0]))] := hD
        have hR : va_P (dC, dI) vwCl [] H := fun k q h => by simp at h
        obtain ⟨x_14, ex_14⟩ : ∃ y : Int32, y = (nI k_3) + 1 := ⟨_, rfl⟩
        refine lv_iinc (v := x_14) (lv' := [(2, .int x_14), (0, .ref a), (1, .ref sf)]) hx hb dX8_init_35 hl (k := 0) rfl (by rw [ex_14]; rfl) (by decide) rfl (fun ls hl => ?_)
        have hy : x_14 = nI (k_3 + 1) := by rw [ex_14]; exact nI_1 k_3
        subst hy
        refine lv_goto (tgt := 15) hx hb dX8_init_38 (by decide) ?_
        refine W.widen (k := 1 + 1 * (k_3 + 1)) (n := 9 + 5 * (k_3 + 1)) (by omega) (by omega) ?_
        exact ih (k_3 + 1) (by omega) f_13 _ _ (hP.sub [0, 1] rfl) (hD.sub [0, 1] (by decide) rfl) hS _ (lv_sub hl [0, 1, 2] rfl)
  exact loop_15 9 0 rfl (fun _ => none) _ _ hP hD hS ls (lv_sub hl [0, 1, 2] rfl)
theorem z_c_X5_init_417   : narrow .char (.int 115) = .int 115 := by first | decide +kernel | grind
theorem z_c_X5_init_418   : fits .char (.int 115) = true := by first | decide +kernel | grind
def wo_c_X5_init_w : List Cond := [Cond.methodLink RX5 3 objectInit, Cond.instanceMethod objectInit, Cond.code objectInit ⟨#[0xb1]⟩ 1 none, Cond.classLink RX5 9 "Underpaint$Stack", Cond.fieldLink RX5 11 "Underpaint$Picture" "stacks" "[LUnderpaint$Stack;", Cond.arrayClass .int, Cond.fieldLink RX5 17 "Underpaint$Picture" "scratchPlaces" "[I", Cond.fieldLink RX5 21 "Underpaint$Picture" "layersLeft" "[I", Cond.fieldLink RX5 24 "Underpaint$Picture" "yearNow" "I", Cond.classLink RX5 28 RX9, Cond.instantiable RX9 11, Cond.initialized RX9, Cond.methodLink RX5 30 yX9_init, Cond.instanceMethod yX9_init, Cond.classLink RX5 9 RX8, Cond.instantiable RX8 3, Cond.initialized RX8, Cond.methodLink RX5 33 yX8_init, Cond.instanceMethod yX8_init]
def wo_c_X5_init : List Cond := .code yX5_init cX5_init 3 none :: (wo_c_X5_init_w ++ (u_ws RX5 TX5 5 ++ (u_ws RX9 TX9 11 ++ (u_ws RX8 TX8 3 ++ (wo_c_X9_init ++ (wo_c_X8_init ++ List.nil))))))
theorem gw_wo_c_X5_init : wo_c_X5_init.all goodWord = true := gw_c (by decide +kernel) (gw_a (by decide +kernel) (gw_a (by decide +kernel) (gw_a (by decide +kernel) (gw_a (by decide +kernel) (gw_a gw_wo_c_X9_init (gw_a gw_wo_c_X8_init rfl))))))
theorem go_c_X5_init_0 : GoodIn wo_c_X5_init (wo_c_X9_init) := goodIn_sub (fun _ h => List.mem_cons_of_mem _ (List.mem_append_right _ (List.mem_append_right _ (List.mem_append_right _ (List.mem_append_right _ (List.mem_append_left _ h)))))) gw_wo_c_X9_init
theorem go_c_X5_init_1 : GoodIn wo_c_X5_init (wo_c_X8_init) := goodIn_sub (fun _ h => List.mem_cons_of_mem _ (List.mem_append_right _ (List.mem_append_right _ (List.mem_append_right _ (List.mem_append_right _ (List.mem_append_right _ (List.mem_append_left _ h))))))) gw_wo_c_X8_init
set_option maxHeartbeats 4000000 in
set_option maxRecDepth 100000 in
/-- Picture() -/
theorem c_X5_init (l : Launch) (dC : Nat → ClassId) (dI : Nat → Nat → Nat) (b0 : Nat) (en : EnT) (sz : Nat) (q : Nat) : Met l yX5_init wo_c_X5_init ({ frames := 3, cells := 532, slots := 2875, locals := 73 } : Room) (cP b0 en (dC, dI) [] [(q, .inr (11, [.null, .null, .null, .int 0, .int 0]))] [] sz (fun _ => True) [.ref q]) (va_Qv (fun u : Nat × Nat × Nat × ClassId × (Nat → Option Nat) => True) (fun u t => cB (dC, dI) [(u.2.2.2.1, .object "Underpaint$Stack")] [(q, .inr (11, [.ref u.1, .ref u.2.1, .ref u.2.2.1, .int 0, .int 1600])), (u.1, .inl (u.2.2.2.1, 48, .inr (.inr (.inr (.inr u.2.2.2.2)))))] (va_A [(q, .inr (11, [.null, .null, .null, .int 0, .int 0]))] sz) (FamS (dC, dI) (vN sz [q, u.1]) u.2.2.2.2) t) (va_A [(q, .inr (11, [.null, .null, .null, .int 0, .int 0]))] sz)) 532 2875 (va_A [(q, .inr (11, [.null, .null, .null, .int 0, .int 0]))] sz) := by
  refine Met.ofW (cc := cX5_init) (maxL := 3) (ret := none) (by decide) rfl ?_
  intro p e s m args below meth c s₁ B hml hv
  obtain ⟨rfl, hsz, hb0, hE, hPP, hK, hDD, hF0⟩ := hv
  have hx := B.exec
  have hb := B.bytes
  have hr := B.returns
  have hts := atoms_spec (ws := wo_c_X5_init) B.pre
  have hown : s.vm.findClass RX5 = some m.cls := findClass_of_methodNamed B.named
  have hlocks := B.notSynchronized
  have hin : meth.name = "<init>" := (name_of_methodNamed B.named B.method).1
  subst hsz
  have hN0 := en_N hPP hDD rfl
  have hP : va_P (dC, dI) vwCl [(q, .inr (11, [.null, .null, .null, .int 0, .int 0]))] s.heap := hPP.sub [0] rfl
  have hR0 : va_P (dC, dI) vwCl [] s.heap := hPP.sub [] rfl
  have hD0 : va_D (fun q => b0 ≤ q) [(q, .inr (11, [.null, .null, .null, .int 0, .int 0]))] := hDD.sub [0] (by decide) rfl
  have hDr : va_D (fun q => b0 ≤ q) [] := hDD.sub [] (by decide) rfl
  have hAb := en_A (sz := s.heap.size) hD0 hb0
  have hD := hD0.self (sz := s.heap.size)
  generalize hAe : va_A [(q, .inr (11, [.null, .null, .null, .int 0, .int 0]))] s.heap.size = A at hD hAb hN0 ⊢
  have hA : ∀ q : Nat, s.heap.size ≤ q → A q := fun q h => by rw [← hAe]; exact Or.inr h
  have hS : va_S A s.heap s.heap [] := va_S.rf
  have hR := hR0
  have hl := lv_entry [.ref q] (n := 3) (Nat.le_of_ble_eq_true rfl)
  rw [lg_entry_eq]
  generalize (lg_sl [.ref q] ++ List.replicate (3 - (lg_sl [.ref q]).length) Slot.unset).toArray = ls at hl ⊢
  have hl : lv_has ls 3 [(0, .ref q)] := hl
  refine W.gen (fun Q hQ => ?_)
  refine lv_aload_n hx hb dX5_init_0 rfl (lv_at hl 0 rfl) ?_
  refine W.objInit hx hb hown (hts (.methodLink RX5 3 objectInit) (by decide +kernel)) (hts (.instanceMethod objectInit) (by decide +kernel)) (hts (.code objectInit ⟨#[0xb1]⟩ 1 none) (by decide +kernel)) rfl (by rw [hml]; exact hl.1) rfl dX5_init_1 (Nat.le_of_ble_eq_true rfl) (Nat.le_of_ble_eq_true rfl) ?_
  refine lv_aload_n hx hb dX5_init_4 rfl (lv_at hl 0 rfl) ?_
  refine lv_bipush (v := 48) hx hb dX5_init_5 (by decide) ?_
  refine va_newq (C := "Underpaint$Stack") (N' := 48) hx hb hown (hts (.classLink RX5 9 "Underpaint$Stack") (by decide +kernel)) (hE.arr (by decide +kernel)) hK hP hD hS hA (by decide) (by decide) (by decide) (Nat.le_of_ble_eq_true rfl) (Nat.le_of_ble_eq_true rfl) dX5_init_7 (fun q_1 k_2 H hK hP hD hS => ?_)
  have hP : va_P (dC, dI) vwCl [(q, .inr (11, [.null, .null, .null, .int 0, .int 0])), (q_1, .inl (k_2, 48, .inr (.inr (.inr (.inr (fun _ => none))))))] H := hP
  have hD : va_D A [(q, .inr (11, [.null, .null, .null, .int 0, .int 0])), (q_1, .inl (k_2, 48, .inr (.inr (.inr (.inr (fun _ => none))))))] := hD
  have hR : va_P (dC, dI) vwCl [] H := fun k q h => by simp at h
  refine W.widen (k := 1) (n := 48) (Nat.le_of_ble_eq_true rfl) (Nat.le_of_ble_eq_true rfl) ?_
  refine va_putF (D := (dC, dI)) (ci := 11) (v := .ref q_1) (ty := .array (.object "Underpaint$Stack")) (C := RX5) (T := TX5) (N := 5) hx hb hts (by decide +kernel) tyX5 tyX5_ok nmX5 hown hK hP hD hS 0 rfl rfl 0 (by decide) (hts (.fieldLink RX5 11 "Underpaint$Picture" "stacks" "[LUnderpaint$Stack;") (by decide +kernel)) (fun _ h9 => h9) rfl hin rfl (by decide +kernel) rfl rfl (Nat.le_of_ble_eq_true rfl) dX5_init_10 (fun H locs hP hD hS => ?_)
  have hP : va_P (dC, dI) vwCl [(q, .inr (11, [.ref q_1, .null, .null, .int 0, .int 0])), (q_1, .inl (k_2, 48, .inr (.inr (.inr (.inr (fun _ => none))))))] H := hP
  have hD : va_D A [(q, .inr (11, [.ref q_1, .null, .null, .int 0, .int 0])), (q_1, .inl (k_2, 48, .inr (.inr (.inr (.inr (fun _ => none))))))] := hD
  have hR : va_P (dC, dI) vwCl [] H := fun k q h => by simp at h
  refine lv_aload_n hx hb dX5_init_13 rfl (lv_at hl 0 rfl) ?_
  refine lv_bipush (v := 40) hx hb dX5_init_14 (by decide) ?_
  have hz9 := hS.1
  refine va_newaX (atype := .int) (a0 := (40, .inl (fun _ => 0))) hx hb (hts (.arrayClass .int) (by decide +kernel)) rfl hK hP hD hS hA (fun _ => rfl) (by decide) (by decide) (by decide) (Nat.le_of_ble_eq_true rfl) (Nat.le_of_ble_eq_true rfl) dX5_init_16 (fun q_3 k_4 H hK hP hD hS hoq hoz => ?_)
  have hP : va_P (dC, dI) vwCl [(q, .inr (11, [.ref q_1, .null, .null, .int 0, .int 0])), (q_1, .inl (k_2, 48, .inr (.inr (.inr (.inr (fun _ => none)))))), (q_3, .inl (k_4, 40, .inl (fun _ => 0)))] H := hP
  have hD : va_D A [(q, .inr (11, [.ref q_1, .null, .null, .int 0, .int 0])), (q_1, .inl (k_2, 48, .inr (.inr (.inr (.inr (fun _ => none)))))), (q_3, .inl (k_4, 40, .inl (fun _ => 0)))] := hD
  have hR : va_P (dC, dI) vwCl [] H := fun k q h => by simp at h
  refine W.widen (k := 2) (n := 88) (Nat.le_of_ble_eq_true rfl) (Nat.le_of_ble_eq_true rfl) ?_
  have hgz_q_3 : s.heap.size ≤ q_3 := by rw [hoz]; exact hz9
  have hoz_q_3 := hoz
  refine va_putF (D := (dC, dI)) (ci := 11) (v := .ref q_3) (ty := .array (.int)) (C := RX5) (T := TX5) (N := 5) hx hb hts (by decide +kernel) tyX5 tyX5_ok nmX5 hown hK hP hD hS 0 rfl rfl 1 (by decide) (hts (.fieldLink RX5 17 "Underpaint$Picture" "scratchPlaces" "[I") (by decide +kernel)) (fun _ h9 => h9) rfl hin rfl (by decide +kernel) rfl rfl (Nat.le_of_ble_eq_true rfl) dX5_init_18 (fun H locs hP hD hS => ?_)
  have hP : va_P (dC, dI) vwCl [(q, .inr (11, [.ref q_1, .ref q_3, .null, .int 0, .int 0])), (q_1, .inl (k_2, 48, .inr (.inr (.inr (.inr (fun _ => none)))))), (q_3, .inl (k_4, 40, .inl (fun _ => 0)))] H := hP
  have hD : va_D A [(q, .inr (11, [.ref q_1, .ref q_3, .null, .int 0, .int 0])), (q_1, .inl (k_2, 48, .inr (.inr (.inr (.inr (fun _ => none)))))), (q_3, .inl (k_4, 40, .inl (fun _ => 0)))] := hD
  have hR : va_P (dC, dI) vwCl [] H := fun k q h => by simp at h
  refine lv_aload_n hx hb dX5_init_21 rfl (lv_at hl 0 rfl) ?_
  refine lv_bipush (v := 40) hx hb dX5_init_22 (by decide) ?_
  have hz9 := hS.1
  refine va_newaX (atype := .int) (a0 := (40, .inl (fun _ => 0))) hx hb (hts (.arrayClass .int) (by decide +kernel)) rfl hK hP hD hS hA (fun _ => rfl) (by decide) (by decide) (by decide) (Nat.le_of_ble_eq_true rfl) (Nat.le_of_ble_eq_true rfl) dX5_init_24 (fun q_5 k_6 H hK hP hD hS hoq hoz => ?_)
  have hP : va_P (dC, dI) vwCl [(q, .inr (11, [.ref q_1, .ref q_3, .null, .int 0, .int 0])), (q_1, .inl (k_2, 48, .inr (.inr (.inr (.inr (fun _ => none)))))), (q_3, .inl (k_4, 40, .inl (fun _ => 0))), (q_5, .inl (k_6, 40, .inl (fun _ => 0)))] H := hP
  have hD : va_D A [(q, .inr (11, [.ref q_1, .ref q_3, .null, .int 0, .int 0])), (q_1, .inl (k_2, 48, .inr (.inr (.inr (.inr (fun _ => none)))))), (q_3, .inl (k_4, 40, .inl (fun _ => 0))), (q_5, .inl (k_6, 40, .inl (fun _ => 0)))] := hD
  have hR : va_P (dC, dI) vwCl [] H := fun k q h => by simp at h
  refine W.widen (k := 3) (n := 128) (Nat.le_of_ble_eq_true rfl) (Nat.le_of_ble_eq_true rfl) ?_
  have hgz_q_5 : s.heap.size ≤ q_5 := by rw [hoz]; exact hz9
  have hoz_q_5 := hoz
  refine va_putF (D := (dC, dI)) (ci := 11) (v := .ref q_5) (ty := .array (.int)) (C := RX5) (T := TX5) (N := 5) hx hb hts (by decide +kernel) tyX5 tyX5_ok nmX5 hown hK hP hD hS 0 rfl rfl 2 (by decide) (hts (.fieldLink RX5 21 "Underpaint$Picture" "layersLeft" "[I") (by decide +kernel)) (fun _ h9 => h9) rfl hin rfl (by decide +kernel) rfl rfl (Nat.le_of_ble_eq_true rfl) dX5_init_26 (fun H locs hP hD hS => ?_)
  have hP : va_P (dC, dI) vwCl [(q, .inr (11, [.ref q_1, .ref q_3, .ref q_5, .int 0, .int 0])), (q_1, .inl (k_2, 48, .inr (.inr (.inr (.inr (fun _ => none)))))), (q_3, .inl (k_4, 40, .inl (fun _ => 0))), (q_5, .inl (k_6, 40, .inl (fun _ => 0)))] H := hP
  have hD : va_D A [(q, .inr (11, [.ref q_1, .ref q_3, .ref q_5, .int 0, .int 0])), (q_1, .inl (k_2, 48, .inr (.inr (.inr (.inr (fun _ => none)))))), (q_3, .inl (k_4, 40, .inl (fun _ => 0))), (q_5, .inl (k_6, 40, .inl (fun _ => 0)))] := hD
  have hR : va_P (dC, dI) vwCl [] H := fun k q h => by simp at h
  refine lv_aload_n hx hb dX5_init_29 rfl (lv_at hl 0 rfl) ?_
  refine lv_sipush (v := 1600) hx hb dX5_init_30 (by decide) ?_
  refine va_put (D := (dC, dI)) (ci := 11) (v := .int 1600) (ty := .int) (C := RX5) (T := TX5) (N := 5) hx hb hts (by decide +kernel) tyX5 tyX5_ok nmX5 hown hK hP hD hS 0 rfl rfl 4 (by decide) (hts (.fieldLink RX5 24 "Underpaint$Picture" "yearNow" "I") (by decide +kernel)) (fun _ h9 => h9) rfl (by decide +kernel) rfl rfl (Nat.le_of_ble_eq_true rfl) dX5_init_33 (fun H locs hP hD hS => ?_)
  have hP : va_P (dC, dI) vwCl [(q, .inr (11, [.ref q_1, .ref q_3, .ref q_5, .int 0, .int 1600])), (q_1, .inl (k_2, 48, .inr (.inr (.inr (.inr (fun _ => none)))))), (q_3, .inl (k_4, 40, .inl (fun _ => 0))), (q_5, .inl (k_6, 40, .inl (fun _ => 0)))] H := hP
  have hD : va_D A [(q, .inr (11, [.ref q_1, .ref q_3, .ref q_5, .int 0, .int 1600])), (q_1, .inl (k_2, 48, .inr (.inr (.inr (.inr (fun _ => none)))))), (q_3, .inl (k_4, 40, .inl (fun _ => 0))), (q_5, .inl (k_6, 40, .inl (fun _ => 0)))] := hD
  have hR : va_P (dC, dI) vwCl [] H := fun k q h => by simp at h
  have hz9 := hS.1
  refine va_newX (ci := 15) (fs := [.int 0, .int 0, .int 0, .int 0, .int 0, .int 0, .int 0, .int 0, .int 0, .int 0, .int 0]) (C := RX9) (T := TX9) (N := 11) hx hb hts (by decide +kernel) tyX9 tyX9_ok hown (hts (.classLink RX5 28 RX9) (by decide +kernel)) (hts (.instantiable RX9 11) (by decide +kernel)) (hts (.initialized RX9) (by decide +kernel)) hK hP hD hS hA rfl (fun j hj => by rcases (show j = 0 ∨ j = 1 ∨ j = 2 ∨ j = 3 ∨ j = 4 ∨ j = 5 ∨ j = 6 ∨ j = 7 ∨ j = 8 ∨ j = 9 ∨ j = 10 by omega) with rfl | rfl | rfl | rfl | rfl | rfl | rfl | rfl | rfl | rfl | rfl <;> rfl) (Nat.le_of_ble_eq_true rfl) (Nat.le_of_ble_eq_true rfl) dX5_init_36 (fun q_7 H hP hD hS hoq hoz => ?_)
  have hP : va_P (dC, dI) vwCl [(q, .inr (11, [.ref q_1, .ref q_3, .ref q_5, .int 0, .int 1600])), (q_1, .inl (k_2, 48, .inr (.inr (.inr (.inr (fun _ => none)))))), (q_3, .inl (k_4, 40, .inl (fun _ => 0))), (q_5, .inl (k_6, 40, .inl (fun _ => 0))), (q_7, .inr (15, [.int 0, .int 0, .int 0, .int 0, .int 0, .int 0, .int 0, .int 0, .int 0, .int 0, .int 0]))] H := hP
  have hD : va_D A [(q, .inr (11, [.ref q_1, .ref q_3, .ref q_5, .int 0, .int 1600])), (q_1, .inl (k_2, 48, .inr (.inr (.inr (.inr (fun _ => none)))))), (q_3, .inl (k_4, 40, .inl (fun _ => 0))), (q_5, .inl (k_6, 40, .inl (fun _ => 0))), (q_7, .inr (15, [.int 0, .int 0, .int 0, .int 0, .int 0, .int 0, .int 0, .int 0, .int 0, .int 0, .int 0]))] := hD
  have hR : va_P (dC, dI) vwCl [] H := fun k q h => by simp at h
  refine W.widen (k := 4) (n := 139) (Nat.le_of_ble_eq_true rfl) (Nat.le_of_ble_eq_true rfl) ?_
  have hgz_q_7 : s.heap.size ≤ q_7 := by rw [hoz]; exact hz9
  have hoz_q_7 := hoz
  refine lv_dup hx hb dX5_init_39 rfl ?_
  refine lv_iconst (v := 0) hx hb dX5_init_40 (by decide) ?_
  refine lv_bipush (v := 115) hx hb dX5_init_41 (by decide) ?_
  have hPc := (hP.app hR).sub (ws' := [(q_7, .inr (15, [.int 0, .int 0, .int 0, .int 0, .int 0, .int 0, .int 0, .int 0, .int 0, .int 0, .int 0]))] ++ []) [4] rfl
  have hDc := (en_DD hD hDr hN0 hAb).sub (ws' := [(q_7, .inr (15, [.int 0, .int 0, .int 0, .int 0, .int 0, .int 0, .int 0, .int 0, .int 0, .int 0, .int 0]))] ++ []) [4] (by decide) rfl
  have hKc := hK.sub (tys' := []) [] rfl
  have hFc := va_free (wc := [(q_7, .inr (15, [.int 0, .int 0, .int 0, .int 0, .int 0, .int 0, .int 0, .int 0, .int 0, .int 0, .int 0]))]) hD hS hA [4] rfl
  refine va_callv (va_runI (As := [.int 0, .int 115]) (rest := [.ref q_7]) ⟨hx, hb, hml, hown, hts⟩ (c_X9_init l dC dI b0 en H.size q_7 0 115 (z_c_X5_init_417) (z_c_X5_init_418)) (cwI 2 hts go_c_X5_init_0 rfl rfl rfl (hts (.initialized RX9) (by decide +kernel)) (hts (.methodLink RX5 30 yX9_init) (by decide +kernel)) (hts (.instanceMethod yX9_init) (by decide +kernel)) rfl (by decide +kernel) ⟨Nat.le_of_ble_eq_true rfl, Nat.le_of_ble_eq_true rfl⟩) ⟨cP.blind, cP.use (en_z hb0 hS) (hE.on hAb hS) hPc hKc hDc trivial⟩ rfl rfl hl.1 rfl (lv_room (Nat.le_of_ble_eq_true rfl)) dX5_init_43 ⟨Nat.le_of_ble_eq_true rfl, Nat.le_of_ble_eq_true rfl⟩) hS (fun q _ h => hFc q h) hFc (fun u t H1 locs ht hvm hw hB hz1 hk1 hS => ?_)
  obtain ⟨hP1, hK1, hD1, hF1⟩ := hB
  rw [ht] at hP1
  try rw [ht] at hF1
  have hK1 := va_K.moved hvm.symm hK1
  try dsimp only at hw
  obtain ⟨hP, hD⟩ := va_join (wr := [(q, .inr (11, [.ref q_1, .ref q_3, .ref q_5, .int 0, .int 1600])), (q_1, .inl (k_2, 48, .inr (.inr (.inr (.inr (fun _ => none)))))), (q_3, .inl (k_4, 40, .inl (fun _ => 0))), (q_5, .inl (k_6, 40, .inl (fun _ => 0)))]) (w1 := [(q_7, .inr (15, [.int 0, .int 115, .int 0, .int 0, .int 0, .int 0, .int 0, .int 0, .int 0, .int 0, .int 0]))]) hP hD [4] [0, 1, 2, 3] rfl rfl (by decide) (by decide) hk1 hFc hP1 hD1
  generalize H1 = H at hP hS ⊢
  have hP : va_P (dC, dI) vwCl [(q, .inr (11, [.ref q_1, .ref q_3, .ref q_5, .int 0, .int 1600])), (q_1, .inl (k_2, 48, .inr (.inr (.inr (.inr (fun _ => none)))))), (q_3, .inl (k_4, 40, .inl (fun _ => 0))), (q_5, .inl (k_6, 40, .inl (fun _ => 0))), (q_7, .inr (15, [.int 0, .int 115, .int 0, .int 0, .int 0, .int 0, .int 0, .int 0, .int 0, .int 0, .int 0]))] H := hP
  have hD : va_D A [(q, .inr (11, [.ref q_1, .ref q_3, .ref q_5, .int 0, .int 1600])), (q_1, .inl (k_2, 48, .inr (.inr (.inr (.inr (fun _ => none)))))), (q_3, .inl (k_4, 40, .inl (fun _ => 0))), (q_5, .inl (k_6, 40, .inl (fun _ => 0))), (q_7, .inr (15, [.int 0, .int 115, .int 0, .int 0, .int 0, .int 0, .int 0, .int 0, .int 0, .int 0, .int 0]))] := hD
  have hR : va_P (dC, dI) vwCl [] H := fun k q h => by simp at h
  refine W.widen (k := 4) (n := 139) (Nat.le_of_ble_eq_true rfl) (Nat.le_of_ble_eq_true rfl) ?_
  refine lv_astore_n (lv' := [(1, .ref q_7), (0, .ref q)]) hx hb dX5_init_46 rfl hl (by decide) rfl (fun ls hl => ?_)
  refine lv_iconst (v := 0) hx hb dX5_init_47 (by decide) ?_
  refine lv_istore_n (lv' := [(2, .int 0), (1, .ref q_7), (0, .ref q)]) hx hb dX5_init_48 rfl hl (by decide) rfl (fun ls hl => ?_)
  have loop_49 : ∀ (n_10 k_9 : Nat), n_10 + k_9 = 48 → ∀ gk : Nat → Option Nat, ∀ (H : Heap) (locs : List Loc), va_P (dC, dI) vwCl [(q, .inr (11, [.ref q_1, .ref q_3, .ref q_5, .int 0, .int 1600])), (q_1, .inl (k_2, 48, .inr (.inr (.inr (.inr gk))))), (q_3, .inl (k_4, 40, .inl (fun _ => 0))), (q_5, .inl (k_6, 40, .inl (fun _ => 0))), (q_7, .inr (15, [.int 0, .int 115, .int 0, .int 0, .int 0, .int 0, .int 0, .int 0, .int 0, .int 0, .int 0]))] H → va_D A [(q, .inr (11, [.ref q_1, .ref q_3, .ref q_5, .int 0, .int 1600])), (q_1, .inl (k_2, 48, .inr (.inr (.inr (.inr gk))))), (q_3, .inl (k_4, 40, .inl (fun _ => 0))), (q_5, .inl (k_6, 40, .inl (fun _ => 0))), (q_7, .inr (15, [.int 0, .int 115, .int 0, .int 0, .int 0, .int 0, .int 0, .int 0, .int 0, .int 0, .int 0]))] → va_S A s.heap H locs → FamSk k_9 (dC, dI) (vN s.heap.size [q, q_1]) gk H → ∀ ls : Array Slot, lv_has ls 3 [(2, .int (nI k_9)), (1, .ref q_7), (0, .ref q)] → W p l e (headSpec wo_c_X5_init ({ frames := 3, cells := 532, slots := 2875, locals := 73 } : Room)).room s m #[.ref q] below meth c H locs (4 + 11 * k_9) (139 + 57 * k_9) Q (F0 m 49 ls []) := by
    intro n_10
    induction n_10 with
    | zero =>
      intro k_9 hk_11 gk H locs hP hD hS hG ls hl
      have ek_9 : k_9 = 48 := by omega
      subst ek_9
      have hl : lv_has ls 3 [(2, .int 48), (1, .ref q_7), (0, .ref q)] := hl
      refine W.widen (k := 532) (n := 2875) (Nat.le_of_ble_eq_true rfl) (Nat.le_of_ble_eq_true rfl) ?_
      have hR : va_P (dC, dI) vwCl [] H := fun k q h => by simp at h
      refine lv_iload_n hx hb dX5_init_49 rfl (lv_at hl 0 rfl) ?_
      refine lv_bipush (v := 48) hx hb dX5_init_50 (by decide) ?_
      refine lv_icmp_ge (tgt := 75) hx hb dX5_init_52 (by decide) (fun c_13 => ?_) (fun c_13 => absurd c_13 (by decide))
      subst hQ
      refine W.widen (k := 532) (n := 2875) (Nat.le_of_ble_eq_true rfl) (Nat.le_of_ble_eq_true rfl) ?_
      exact W.vret hx hb hr (fun t ht hW => ⟨⟨⟨q_1, q_3, q_5, k_2, gk⟩, rfl, trivial, cB.mk ht hW (hP.sub [0, 1] rfl) (hK.sub [0] rfl) (hD.sub [0, 1] (by decide) rfl) (hG)⟩, hS.F ht⟩) hS.2.2 dX5_init_75
    | succ n_10 ih =>
      intro k_9 hk_11 gk H locs hP hD hS hG ls hl
      have hk_14 : k_9 < 48 := by omega
      have hb_15 : 0 ≤ nI k_9 ∧ nI k_9 < 48 := ⟨nI_le (Nat.zero_le _) (by omega), nI_lk hk_14 (by decide)⟩
      have hR : va_P (dC, dI) vwCl [] H := fun k q h => by simp at h
      have hG := hG.lt
      refine lv_iload_n hx hb dX5_init_49 rfl (lv_at hl 0 rfl) ?_
      refine lv_bipush (v := 48) hx hb dX5_init_50 (by decide) ?_
      refine lv_icmp_ge (tgt := 75) hx hb dX5_init_52 (by decide) (fun c_16 => ?_) (fun c_16 => ?_)
      · skip
        first | exact absurd c_16 (nI_ge hk_14 (by decide)) | exact absurd (nI_lk hk_14 (by decide)) c_16
      · skip
        refine lv_aload_n hx hb dX5_init_55 rfl (lv_at hl 2 rfl) ?_
        refine va_get (D := (dC, dI)) (ci := 11) (v := .ref q_1) (C := RX5) (T := TX5) (N := 5) hx hb hts (by decide +kernel) hown hK hP 0 rfl rfl 0 (by decide) (hts (.fieldLink RX5 11 "Underpaint$Picture" "stacks" "[LUnderpaint$Stack;") (by decide +kernel)) (fun _ h9 => h9) rfl dX5_init_56 ?_
        refine lv_iload_n hx hb dX5_init_59 rfl (lv_at hl 0 rfl) ?_
        have hz9 := hS.1
        refine va_newX (ci := 14) (fs := [.null, .int 0, .int 0]) (C := RX8) (T := TX8) (N := 3) hx hb hts (by decide +kernel) tyX8 tyX8_ok hown (hts (.classLink RX5 9 RX8) (by decide +kernel)) (hts (.instantiable RX8 3) (by decide +kernel)) (hts (.initialized RX8) (by decide +kernel)) hK hP hD hS hA rfl (fun j hj => by rcases (show j = 0 ∨ j = 1 ∨ j = 2 by omega) with rfl | rfl | rfl <;> rfl) (by show (_ : Nat) ≤ 532; omega) (by show (_ : Nat) ≤ 2875; omega) dX5_init_60 (fun q_17 H hP hD hS hoq hoz => ?_)
        have hG := hG.via (fun q9 h9 _ => hoq q9 h9)
        have hP : va_P (dC, dI) vwCl [(q, .inr (11, [.ref q_1, .ref q_3, .ref q_5, .int 0, .int 1600])), (q_1, .inl (k_2, 48, .inr (.inr (.inr (.inr gk))))), (q_3, .inl (k_4, 40, .inl (fun _ => 0))), (q_5, .inl (k_6, 40, .inl (fun _ => 0))), (q_7, .inr (15, [.int 0, .int 115, .int 0, .int 0, .int 0, .int 0, .int 0, .int 0, .int 0, .int 0, .int 0])), (q_17, .inr (14, [.null, .int 0, .int 0]))] H := hP
        have hD : va_D A [(q, .inr (11, [.ref q_1, .ref q_3, .ref q_5, .int 0, .int 1600])), (q_1, .inl (k_2, 48, .inr (.inr (.inr (.inr gk))))), (q_3, .inl (k_4, 40, .inl (fun _ => 0))), (q_5, .inl (k_6, 40, .inl (fun _ => 0))), (q_7, .inr (15, [.int 0, .int 115, .int 0, .int 0, .int 0, .int 0, .int 0, .int 0, .int 0, .int 0, .int 0])), (q_17, .inr (14, [.null, .int 0, .int 0]))] := hD
        have hR : va_P (dC, dI) vwCl [] H := fun k q h => by simp at h
        refine W.widen (k := (5 + 11 * k_9)) (n := (142 + 57 * k_9)) (by omega) (by omega) ?_
        have hgz_q_17 : s.heap.size ≤ q_17 := by rw [hoz]; exact hz9
        have hoz_q_17 := hoz
        refine lv_dup hx hb dX5_init_63 rfl ?_
        refine lv_aload_n hx hb dX5_init_64 rfl (lv_at hl 1 rfl) ?_
        have hPc := (hP.app hR).sub (ws' := [(q_17, .inr (14, [.null, .int 0, .int 0]))] ++ []) [5] rfl
        have hDc := (en_DD hD hDr hN0 hAb).sub (ws' := [(q_17, .inr (14, [.null, .int 0, .int 0]))] ++ []) [5] (by decide) rfl
        have hKc := hK.sub (tys' := []) [] rfl
        have hFc := va_free (wc := [(q_17, .inr (14, [.null, .int 0, .int 0]))]) hD hS hA [5] rfl
        refine va_callv (va_runI (As := [.ref q_7]) (rest := [.ref q_17, .int (nI k_9), .ref q_1]) ⟨hx, hb, hml, hown, hts⟩ (c_X8_init l dC dI b0 en H.size q_17 q_7) (cwI 1 hts go_c_X5_init_1 rfl rfl rfl (hts (.initialized RX8) (by decide +kernel)) (hts (.methodLink RX5 33 yX8_init) (by decide +kernel)) (hts (.instanceMethod yX8_init) (by decide +kernel)) rfl (by decide +kernel) ⟨Nat.le_of_ble_eq_true rfl, Nat.le_of_ble_eq_true rfl⟩) ⟨cP.blind, cP.use (en_z hb0 hS) (hE.on hAb hS) hPc hKc hDc trivial⟩ rfl rfl hl.1 rfl (lv_room (Nat.le_of_ble_eq_true rfl)) dX5_init_65 ⟨(by show (_ : Nat) ≤ 532; omega), (by show (_ : Nat) ≤ 2875; omega)⟩) hS (fun q _ h => hFc q h) hFc (fun u_18 t H1 locs ht hvm hw hB hz1 hk1 hS => ?_)
        obtain ⟨hP1, hK1, hD1, hF1⟩ := hB
        rw [ht] at hP1
        try rw [ht] at hF1
        have hK1 := va_K.moved hvm.symm hK1
        try dsimp only at hw
        obtain ⟨hP, hD⟩ := va_join (wr := [(q, .inr (11, [.ref q_1, .ref q_3, .ref q_5, .int 0, .int 1600])), (q_1, .inl (k_2, 48, .inr (.inr (.inr (.inr gk))))), (q_3, .inl (k_4, 40, .inl (fun _ => 0))), (q_5, .inl (k_6, 40, .inl (fun _ => 0))), (q_7, .inr (15, [.int 0, .int 115, .int 0, .int 0, .int 0, .int 0, .int 0, .int 0, .int 0, .int 0, .int 0]))]) (w1 := [(q_17, .inr (14, [.ref u_18, .int 0, .int 0]))]) hP hD [5] [0, 1, 2, 3, 4] rfl rfl (by decide) (by decide) hk1 hFc hP1 hD1
        have hG := hG.via (fun q9 h9 n9 => hk1 q9 h9 (vA1 h9 (fun z9 => by have g1 := n9.1.2; have g2 := n9.1.1; have g3 := n9.2; simp only [List.map_cons, List.map_nil, List.mem_cons, List.not_mem_nil, or_false, not_or] at g1 z9; omega)))
        generalize H1 = H at hP hS hG ⊢
        have hP : va_P (dC, dI) vwCl [(q, .inr (11, [.ref q_1, .ref q_3, .ref q_5, .int 0, .int 1600])), (q_1, .inl (k_2, 48, .inr (.inr (.inr (.inr gk))))), (q_3, .inl (k_4, 40, .inl (fun _ => 0))), (q_5, .inl (k_6, 40, .inl (fun _ => 0))), (q_7, .inr (15, [.int 0, .int 115, .int 0, .int 0, .int 0, .int 0, .int 0, .int 0, .int 0, .int 0, .int 0])), (q_17, .inr (14, [.ref u_18, .int 0, .int 0]))] H := hP
        have hD : va_D A [(q, .inr (11, [.ref q_1, .ref q_3, .ref q_5, .int 0, .int 1600])), (q_1, .inl (k_2, 48, .inr (.inr (.inr (.inr gk))))), (q_3, .inl (k_4, 40, .inl (fun _ => 0))), (q_5, .inl (k_6, 40, .inl (fun _ => 0))), (q_7, .inr (15, [.int 0, .int 115, .int 0, .int 0, .int 0, .int 0, .int 0, .int 0, .int 0, .int 0, .int 0])), (q_17, .inr (14, [.ref u_18, .int 0, .int 0]))] := hD
        have hR : va_P (dC, dI) vwCl [] H := fun k q h => by simp at h
        refine W.widen (k := (15 + 11 * k_9)) (n := (196 + 57 * k_9)) (by omega) (by omega) ?_
        refine va_astqX hx hb hK hP hD hS 1 0 5 14 rfl rfl rfl rfl (vp_in_nI hk_14 (by decide)) dX5_init_68 (fun H locs hP hD hS hoq => ?_)
        have hG := hG.via (fun q9 h9 n9 => hoq q9 (fun e9 => n9.1.2 (by rw [e9]; simp only [List.mem_cons, List.not_mem_nil, or_false, true_or, or_true])))
        generalize ef_20 : va_up gk (nI k_9).toNatClampNeg (some q_17) = f_20 at hP hD
        have hP : va_P (dC, dI) vwCl [(q, .inr (11, [.ref q_1, .ref q_3, .ref q_5, .int 0, .int 1600])), (q_1, .inl (k_2, 48, .inr (.inr (.inr (.inr f_20))))), (q_3, .inl (k_4, 40, .inl (fun _ => 0))), (q_5, .inl (k_6, 40, .inl (fun _ => 0))), (q_7, .inr (15, [.int 0, .int 115, .int 0, .int 0, .int 0, .int 0, .int 0, .int 0, .int 0, .int 0, .int 0])), (q_17, .inr (14, [.ref u_18, .int 0, .int 0]))] H := hP
        have hD : va_D A [(q, .inr (11, [.ref q_1, .ref q_3, .ref q_5, .int 0, .int 1600])), (q_1, .inl (k_2, 48, .inr (.inr (.inr (.inr f_20))))), (q_3, .inl (k_4, 40, .inl (fun _ => 0))), (q_5, .inl (k_6, 40, .inl (fun _ => 0))), (q_7, .inr (15, [.int 0, .int 115, .int 0, .int 0, .int 0, .int 0, .int 0, .int 0, .int 0, .int 0, .int 0])), (q_17, .inr (14, [.ref u_18, .int 0, .int 0]))] := hD
        have hR : va_P (dC, dI) vwCl [] H := fun k q h => by simp at h
        obtain ⟨x_21, ex_21⟩ : ∃ y : Int32, y = (nI k_9) + 1 := ⟨_, rfl⟩
        refine lv_iinc (v := x_21) (lv' := [(2, .int x_21), (1, .ref q_7), (0, .ref q)]) hx hb dX5_init_69 hl (k := 0) rfl (by rw [ex_21]; rfl) (by decide) rfl (fun ls hl => ?_)
        have hy : x_21 = nI (k_9 + 1) := by rw [ex_21]; exact nI_1 k_9
        subst hy
        refine lv_goto (tgt := 49) hx hb dX5_init_72 (by decide) ?_
        refine W.widen (k := 4 + 11 * (k_9 + 1)) (n := 139 + 57 * (k_9 + 1)) (by omega) (by omega) ?_
        have nea0 : q_17 ≠ q := vAp hD 5 0 rfl rfl (by decide)
        have nea1 : q_17 ≠ q_1 := vAp hD 5 1 rfl rfl (by decide)
        have gea : s.heap.size ≤ q_17 := vAge (by rw [hAe]; exact hD.2 5 _ rfl) nea0
        exact ih (k_9 + 1) (by omega) f_20 _ _ (hP.sub [0, 1, 2, 3, 4] rfl) (hD.sub [0, 1, 2, 3, 4] (by decide) rfl) hS (FamSk.push hG (by rw [← ef_20, nI_clamp (by omega)]) (hP 5 _ rfl) ⟨gea, by simp only [List.mem_cons, List.not_mem_nil, or_false, not_or]; exact ⟨nea0, nea1⟩⟩) _ (lv_sub hl [0, 1, 2] rfl)
  exact loop_49 48 0 rfl (fun _ => none) _ _ hP hD hS (fun i9 h9 => absurd h9 (Nat.not_lt_zero i9)) ls (lv_sub hl [0, 1, 2] rfl)

def wo_c_X4_init_w : List Cond := [Cond.methodLink RX4 3 objectInit, Cond.instanceMethod objectInit, Cond.code objectInit ⟨#[0xb1]⟩ 1 none, Cond.arrayClass .boolean, Cond.fieldLink RX4 9 "Underpaint$Notes" "isNoted" "[Z", Cond.arrayClass .int, Cond.fieldLink RX4 15 "Underpaint$Notes" "seen" "[I", Cond.classLink RX4 19 RX8, Cond.instantiable RX8 3, Cond.initialized RX8, Cond.classLink RX4 21 RX9, Cond.instantiable RX9 11, Cond.initialized RX9, Cond.methodLink RX4 23 yX9_init, Cond.instanceMethod yX9_init, Cond.methodLink RX4 26 yX8_init, Cond.instanceMethod yX8_init, Cond.fieldLink RX4 29 "Underpaint$Notes" "guess" "LUnderpaint$Stack;"]
def wo_c_X4_init : List Cond := .code yX4_init cX4_init 1 none :: (wo_c_X4_init_w ++ (u_ws RX4 TX4 4 ++ (u_ws RX8 TX8 3 ++ (u_ws RX9 TX9 11 ++ (wo_c_X9_init ++ (wo_c_X8_init ++ List.nil))))))
theorem gw_wo_c_X4_init : wo_c_X4_init.all goodWord = true := gw_c (by decide +kernel) (gw_a (by decide +kernel) (gw_a (by decide +kernel) (gw_a (by decide +kernel) (gw_a (by decide +kernel) (gw_a gw_wo_c_X9_init (gw_a gw_wo_c_X8_init rfl))))))
theorem go_c_X4_init_0 : GoodIn wo_c_X4_init (wo_c_X9_init) := goodIn_sub (fun _ h => List.mem_cons_of_mem _ (List.mem_append_right _ (List.mem_append_right _ (List.mem_append_right _ (List.mem_append_right _ (List.mem_append_left _ h)))))) gw_wo_c_X9_init
theorem go_c_X4_init_1 : GoodIn wo_c_X4_init (wo_c_X8_init) := goodIn_sub (fun _ h => List.mem_cons_of_mem _ (List.mem_append_right _ (List.mem_append_right _ (List.mem_append_right _ (List.mem_append_right _ (List.mem_append_right _ (List.mem_append_left _ h))))))) gw_wo_c_X8_init
set_option maxHeartbeats 4000000 in
set_option maxRecDepth 100000 in
/-- Notes() -/
theorem c_X4_init (l : Launch) (dC : Nat → ClassId) (dI : Nat → Nat → Nat) (b0 : Nat) (en : EnT) (sz : Nat) (nte : Nat) : Met l yX4_init wo_c_X4_init ({ frames := 3, cells := 14, slots := 548, locals := 73 } : Room) (cP b0 en (dC, dI) [] [(nte, .inr (10, [.null, .null, .null, .int 0]))] [] sz (fun _ => True) [.ref nte]) (va_Qv (fun u : Nat × Nat × Nat × ClassId × ClassId => True) (fun u t => cB (dC, dI) [(u.2.2.2.1, .boolean), (u.2.2.2.2, .int)] [(nte, .inr (10, [.ref u.1, .ref u.2.1, .ref u.2.2.1, .int 0])), (u.1, .inl (u.2.2.2.1, 240, .inl (fun _ => 0))), (u.2.1, .inl (u.2.2.2.2, 240, .inl (fun _ => 0)))] (va_A [(nte, .inr (10, [.null, .null, .null, .int 0]))] sz) (fun _ => True) t) (va_A [(nte, .inr (10, [.null, .null, .null, .int 0]))] sz)) 14 548 (va_A [(nte, .inr (10, [.null, .null, .null, .int 0]))] sz) := by
  refine Met.ofW (cc := cX4_init) (maxL := 1) (ret := none) (by decide) rfl ?_
  intro p e s m args below meth c s₁ B hml hv
  obtain ⟨rfl, hsz, hb0, hE, hPP, hK, hDD, hF0⟩ := hv
  have hx := B.exec
  have hb := B.bytes
  have hr := B.returns
  have hts := atoms_spec (ws := wo_c_X4_init) B.pre
  have hown : s.vm.findClass RX4 = some m.cls := findClass_of_methodNamed B.named
  have hlocks := B.notSynchronized
  have hin : meth.name = "<init>" := (name_of_methodNamed B.named B.method).1
  subst hsz
  have hN0 := en_N hPP hDD rfl
  have hP : va_P (dC, dI) vwCl [(nte, .inr (10, [.null, .null, .null, .int 0]))] s.heap := hPP.sub [0] rfl
  have hR0 : va_P (dC, dI) vwCl [] s.heap := hPP.sub [] rfl
  have hD0 : va_D (fun q => b0 ≤ q) [(nte, .inr (10, [.null, .null, .null, .int 0]))] := hDD.sub [0] (by decide) rfl
  have hDr : va_D (fun q => b0 ≤ q) [] := hDD.sub [] (by decide) rfl
  have hAb := en_A (sz := s.heap.size) hD0 hb0
  have hD := hD0.self (sz := s.heap.size)
  generalize hAe : va_A [(nte, .inr (10, [.null, .null, .null, .int 0]))] s.heap.size = A at hD hAb hN0 ⊢
  have hA : ∀ q : Nat, s.heap.size ≤ q → A q := fun q h => by rw [← hAe]; exact Or.inr h
  have hS : va_S A s.heap s.heap [] := va_S.rf
  have hR := hR0
  have hl := lv_entry [.ref nte] (n := 1) (Nat.le_of_ble_eq_true rfl)
  rw [lg_entry_eq]
  generalize (lg_sl [.ref nte] ++ List.replicate (1 - (lg_sl [.ref nte]).length) Slot.unset).toArray = ls at hl ⊢
  have hl : lv_has ls 1 [(0, .ref nte)] := hl
  refine lv_aload_n hx hb dX4_init_0 rfl (lv_at hl 0 rfl) ?_
  refine W.objInit hx hb hown (hts (.methodLink RX4 3 objectInit) (by decide +kernel)) (hts (.instanceMethod objectInit) (by decide +kernel)) (hts (.code objectInit ⟨#[0xb1]⟩ 1 none) (by decide +kernel)) rfl (by rw [hml]; exact hl.1) rfl dX4_init_1 (Nat.le_of_ble_eq_true rfl) (Nat.le_of_ble_eq_true rfl) ?_
  refine lv_aload_n hx hb dX4_init_4 rfl (lv_at hl 0 rfl) ?_
  refine lv_sipush (v := 240) hx hb dX4_init_5 (by decide) ?_
  have hz9 := hS.1
  refine va_newaX (atype := .boolean) (a0 := (240, .inl (fun _ => 0))) hx hb (hts (.arrayClass .boolean) (by decide +kernel)) rfl hK hP hD hS hA (fun _ => rfl) (by decide) (by decide) (by decide) (Nat.le_of_ble_eq_true rfl) (Nat.le_of_ble_eq_true rfl) dX4_init_8 (fun q_1 k_2 H hK hP hD hS hoq hoz => ?_)
  have hP : va_P (dC, dI) vwCl [(nte, .inr (10, [.null, .null, .null, .int 0])), (q_1, .inl (k_2, 240, .inl (fun _ => 0)))] H := hP
  have hD : va_D A [(nte, .inr (10, [.null, .null, .null, .int 0])), (q_1, .inl (k_2, 240, .inl (fun _ => 0)))] := hD
  have hR : va_P (dC, dI) vwCl [] H := fun k q h => by simp at h
  refine W.widen (k := 1) (n := 240) (Nat.le_of_ble_eq_true rfl) (Nat.le_of_ble_eq_true rfl) ?_
  have hgz_q_1 : s.heap.size ≤ q_1 := by rw [hoz]; exact hz9
  have hoz_q_1 := hoz
  refine va_putF (D := (dC, dI)) (ci := 10) (v := .ref q_1) (ty := .array (.boolean)) (C := RX4) (T := TX4) (N := 4) hx hb hts (by decide +kernel) tyX4 tyX4_ok nmX4 hown hK hP hD hS 0 rfl rfl 0 (by decide) (hts (.fieldLink RX4 9 "Underpaint$Notes" "isNoted" "[Z") (by decide +kernel)) (fun _ h9 => h9) rfl hin rfl (by decide +kernel) rfl rfl (Nat.le_of_ble_eq_true rfl) dX4_init_10 (fun H locs hP hD hS => ?_)
  have hP : va_P (dC, dI) vwCl [(nte, .inr (10, [.ref q_1, .null, .null, .int 0])), (q_1, .inl (k_2, 240, .inl (fun _ => 0)))] H := hP
  have hD : va_D A [(nte, .inr (10, [.ref q_1, .null, .null, .int 0])), (q_1, .inl (k_2, 240, .inl (fun _ => 0)))] := hD
  have hR : va_P (dC, dI) vwCl [] H := fun k q h => by simp at h
  refine lv_aload_n hx hb dX4_init_13 rfl (lv_at hl 0 rfl) ?_
  refine lv_sipush (v := 240) hx hb dX4_init_14 (by decide) ?_
  have hz9 := hS.1
  refine va_newaX (atype := .int) (a0 := (240, .inl (fun _ => 0))) hx hb (hts (.arrayClass .int) (by decide +kernel)) rfl hK hP hD hS hA (fun _ => rfl) (by decide) (by decide) (by decide) (Nat.le_of_ble_eq_true rfl) (Nat.le_of_ble_eq_true rfl) dX4_init_17 (fun q_3 k_4 H hK hP hD hS hoq hoz => ?_)
  have hP : va_P (dC, dI) vwCl [(nte, .inr (10, [.ref q_1, .null, .null, .int 0])), (q_1, .inl (k_2, 240, .inl (fun _ => 0))), (q_3, .inl (k_4, 240, .inl (fun _ => 0)))] H := hP
  have hD : va_D A [(nte, .inr (10, [.ref q_1, .null, .null, .int 0])), (q_1, .inl (k_2, 240, .inl (fun _ => 0))), (q_3, .inl (k_4, 240, .inl (fun _ => 0)))] := hD
  have hR : va_P (dC, dI) vwCl [] H := fun k q h => by simp at h
  refine W.widen (k := 2) (n := 480) (Nat.le_of_ble_eq_true rfl) (Nat.le_of_ble_eq_true rfl) ?_
  have hgz_q_3 : s.heap.size ≤ q_3 := by rw [hoz]; exact hz9
  have hoz_q_3 := hoz
  refine va_putF (D := (dC, dI)) (ci := 10) (v := .ref q_3) (ty := .array (.int)) (C := RX4) (T := TX4) (N := 4) hx hb hts (by decide +kernel) tyX4 tyX4_ok nmX4 hown hK hP hD hS 0 rfl rfl 1 (by decide) (hts (.fieldLink RX4 15 "Underpaint$Notes" "seen" "[I") (by decide +kernel)) (fun _ h9 => h9) rfl hin rfl (by decide +kernel) rfl rfl (Nat.le_of_ble_eq_true rfl) dX4_init_19 (fun H locs hP hD hS => ?_)
  have hP : va_P (dC, dI) vwCl [(nte, .inr (10, [.ref q_1, .ref q_3, .null, .int 0])), (q_1, .inl (k_2, 240, .inl (fun _ => 0))), (q_3, .inl (k_4, 240, .inl (fun _ => 0)))] H := hP
  have hD : va_D A [(nte, .inr (10, [.ref q_1, .ref q_3, .null, .int 0])), (q_1, .inl (k_2, 240, .inl (fun _ => 0))), (q_3, .inl (k_4, 240, .inl (fun _ => 0)))] := hD
  have hR : va_P (dC, dI) vwCl [] H := fun k q h => by simp at h
  refine lv_aload_n hx hb dX4_init_22 rfl (lv_at hl 0 rfl) ?_
  have hz9 := hS.1
  refine va_newX (ci := 14) (fs := [.null, .int 0, .int 0]) (C := RX8) (T := TX8) (N := 3) hx hb hts (by decide +kernel) tyX8 tyX8_ok hown (hts (.classLink RX4 19 RX8) (by decide +kernel)) (hts (.instantiable RX8 3) (by decide +kernel)) (hts (.initialized RX8) (by decide +kernel)) hK hP hD hS hA rfl (fun j hj => by rcases (show j = 0 ∨ j = 1 ∨ j = 2 by omega) with rfl | rfl | rfl <;> rfl) (Nat.le_of_ble_eq_true rfl) (Nat.le_of_ble_eq_true rfl) dX4_init_23 (fun q_5 H hP hD hS hoq hoz => ?_)
  have hP : va_P (dC, dI) vwCl [(nte, .inr (10, [.ref q_1, .ref q_3, .null, .int 0])), (q_1, .inl (k_2, 240, .inl (fun _ => 0))), (q_3, .inl (k_4, 240, .inl (fun _ => 0))), (q_5, .inr (14, [.null, .int 0, .int 0]))] H := hP
  have hD : va_D A [(nte, .inr (10, [.ref q_1, .ref q_3, .null, .int 0])), (q_1, .inl (k_2, 240, .inl (fun _ => 0))), (q_3, .inl (k_4, 240, .inl (fun _ => 0))), (q_5, .inr (14, [.null, .int 0, .int 0]))] := hD
  have hR : va_P (dC, dI) vwCl [] H := fun k q h => by simp at h
  refine W.widen (k := 3) (n := 483) (Nat.le_of_ble_eq_true rfl) (Nat.le_of_ble_eq_true rfl) ?_
  have hgz_q_5 : s.heap.size ≤ q_5 := by rw [hoz]; exact hz9
  have hoz_q_5 := hoz
  refine lv_dup hx hb dX4_init_26 rfl ?_
  have hz9 := hS.1
  refine va_newX (ci := 15) (fs := [.int 0, .int 0, .int 0, .int 0, .int 0, .int 0, .int 0, .int 0, .int 0, .int 0, .int 0]) (C := RX9) (T := TX9) (N := 11) hx hb hts (by decide +kernel) tyX9 tyX9_ok hown (hts (.classLink RX4 21 RX9) (by decide +kernel)) (hts (.instantiable RX9 11) (by decide +kernel)) (hts (.initialized RX9) (by decide +kernel)) hK hP hD hS hA rfl (fun j hj => by rcases (show j = 0 ∨ j = 1 ∨ j = 2 ∨ j = 3 ∨ j = 4 ∨ j = 5 ∨ j = 6 ∨ j = 7 ∨ j = 8 ∨ j = 9 ∨ j = 10 by omega) with rfl | rfl | rfl | rfl | rfl | rfl | rfl | rfl | rfl | rfl | rfl <;> rfl) (Nat.le_of_ble_eq_true rfl) (Nat.le_of_ble_eq_true rfl) dX4_init_27 (fun q_6 H hP hD hS hoq hoz => ?_)
  have hP : va_P (dC, dI) vwCl [(nte, .inr (10, [.ref q_1, .ref q_3, .null, .int 0])), (q_1, .inl (k_2, 240, .inl (fun _ => 0))), (q_3, .inl (k_4, 240, .inl (fun _ => 0))), (q_5, .inr (14, [.null, .int 0, .int 0])), (q_6, .inr (15, [.int 0, .int 0, .int 0, .int 0, .int 0, .int 0, .int 0, .int 0, .int 0, .int 0, .int 0]))] H := hP
  have hD : va_D A [(nte, .inr (10, [.ref q_1, .ref q_3, .null, .int 0])), (q_1, .inl (k_2, 240, .inl (fun _ => 0))), (q_3, .inl (k_4, 240, .inl (fun _ => 0))), (q_5, .inr (14, [.null, .int 0, .int 0])), (q_6, .inr (15, [.int 0, .int 0, .int 0, .int 0, .int 0, .int 0, .int 0, .int 0, .int 0, .int 0, .int 0]))] := hD
  have hR : va_P (dC, dI) vwCl [] H := fun k q h => by simp at h
  refine W.widen (k := 4) (n := 494) (Nat.le_of_ble_eq_true rfl) (Nat.le_of_ble_eq_true rfl) ?_
  have hgz_q_6 : s.heap.size ≤ q_6 := by rw [hoz]; exact hz9
  have hoz_q_6 := hoz
  refine lv_dup hx hb dX4_init_30 rfl ?_
  refine lv_iconst (v := 0) hx hb dX4_init_31 (by decide) ?_
  refine lv_bipush (v := 115) hx hb dX4_init_32 (by decide) ?_
  have hPc := (hP.app hR).sub (ws' := [(q_6, .inr (15, [.int 0, .int 0, .int 0, .int 0, .int 0, .int 0, .int 0, .int 0, .int 0, .int 0, .int 0]))] ++ []) [4] rfl
  have hDc := (en_DD hD hDr hN0 hAb).sub (ws' := [(q_6, .inr (15, [.int 0, .int 0, .int 0, .int 0, .int 0, .int 0, .int 0, .int 0, .int 0, .int 0, .int 0]))] ++ []) [4] (by decide) rfl
  have hKc := hK.sub (tys' := []) [] rfl
  have hFc := va_free (wc := [(q_6, .inr (15, [.int 0, .int 0, .int 0, .int 0, .int 0, .int 0, .int 0, .int 0, .int 0, .int 0, .int 0]))]) hD hS hA [4] rfl
  refine va_callv (va_runI (As := [.int 0, .int 115]) (rest := [.ref q_6, .ref q_5, .ref q_5, .ref nte]) ⟨hx, hb, hml, hown, hts⟩ (c_X9_init l dC dI b0 en H.size q_6 0 115 (z_c_X5_init_417) (z_c_X5_init_418)) (cwI 2 hts go_c_X4_init_0 rfl rfl rfl (hts (.initialized RX9) (by decide +kernel)) (hts (.methodLink RX4 23 yX9_init) (by decide +kernel)) (hts (.instanceMethod yX9_init) (by decide +kernel)) rfl (by decide +kernel) ⟨Nat.le_of_ble_eq_true rfl, Nat.le_of_ble_eq_true rfl⟩) ⟨cP.blind, cP.use (en_z hb0 hS) (hE.on hAb hS) hPc hKc hDc trivial⟩ rfl rfl hl.1 rfl (lv_room (Nat.le_of_ble_eq_true rfl)) dX4_init_34 ⟨Nat.le_of_ble_eq_true rfl, Nat.le_of_ble_eq_true rfl⟩) hS (fun q _ h => hFc q h) hFc (fun u t H1 locs ht hvm hw hB hz1 hk1 hS => ?_)
  obtain ⟨hP1, hK1, hD1, hF1⟩ := hB
  rw [ht] at hP1
  try rw [ht] at hF1
  have hK1 := va_K.moved hvm.symm hK1
  try dsimp only at hw
  obtain ⟨hP, hD⟩ := va_join (wr := [(nte, .inr (10, [.ref q_1, .ref q_3, .null, .int 0])), (q_1, .inl (k_2, 240, .inl (fun _ => 0))), (q_3, .inl (k_4, 240, .inl (fun _ => 0))), (q_5, .inr (14, [.null, .int 0, .int 0]))]) (w1 := [(q_6, .inr (15, [.int 0, .int 115, .int 0, .int 0, .int 0, .int 0, .int 0, .int 0, .int 0, .int 0, .int 0]))]) hP hD [4] [0, 1, 2, 3] rfl rfl (by decide) (by decide) hk1 hFc hP1 hD1
  generalize H1 = H at hP hS ⊢
  have hP : va_P (dC, dI) vwCl [(nte, .inr (10, [.ref q_1, .ref q_3, .null, .int 0])), (q_1, .inl (k_2, 240, .inl (fun _ => 0))), (q_3, .inl (k_4, 240, .inl (fun _ => 0))), (q_5, .inr (14, [.null, .int 0, .int 0])), (q_6, .inr (15, [.int 0, .int 115, .int 0, .int 0, .int 0, .int 0, .int 0, .int 0, .int 0, .int 0, .int 0]))] H := hP
  have hD : va_D A [(nte, .inr (10, [.ref q_1, .ref q_3, .null, .int 0])), (q_1, .inl (k_2, 240, .inl (fun _ => 0))), (q_3, .inl (k_4, 240, .inl (fun _ => 0))), (q_5, .inr (14, [.null, .int 0, .int 0])), (q_6, .inr (15, [.int 0, .int 115, .int 0, .int 0, .int 0, .int 0, .int 0, .int 0, .int 0, .int 0, .int 0]))] := hD
  have hR : va_P (dC, dI) vwCl [] H := fun k q h => by simp at h
  refine W.widen (k := 4) (n := 494) (Nat.le_of_ble_eq_true rfl) (Nat.le_of_ble_eq_true rfl) ?_
  have hPc := (hP.app hR).sub (ws' := [(q_5, .inr (14, [.null, .int 0, .int 0]))] ++ []) [3] rfl
  have hDc := (en_DD hD hDr hN0 hAb).sub (ws' := [(q_5, .inr (14, [.null, .int 0, .int 0]))] ++ []) [3] (by decide) rfl
  have hKc := hK.sub (tys' := []) [] rfl
  have hFc := va_free (wc := [(q_5, .inr (14, [.null, .int 0, .int 0]))]) hD hS hA [3] rfl
  refine va_callv (va_runI (As := [.ref q_6]) (rest := [.ref q_5, .ref nte]) ⟨hx, hb, hml, hown, hts⟩ (c_X8_init l dC dI b0 en H.size q_5 q_6) (cwI 1 hts go_c_X4_init_1 rfl rfl rfl (hts (.initialized RX8) (by decide +kernel)) (hts (.methodLink RX4 26 yX8_init) (by decide +kernel)) (hts (.instanceMethod yX8_init) (by decide +kernel)) rfl (by decide +kernel) ⟨Nat.le_of_ble_eq_true rfl, Nat.le_of_ble_eq_true rfl⟩) ⟨cP.blind, cP.use (en_z hb0 hS) (hE.on hAb hS) hPc hKc hDc trivial⟩ rfl rfl hl.1 rfl (lv_room (Nat.le_of_ble_eq_true rfl)) dX4_init_37 ⟨Nat.le_of_ble_eq_true rfl, Nat.le_of_ble_eq_true rfl⟩) hS (fun q _ h => hFc q h) hFc (fun u_8 t H1 locs ht hvm hw hB hz1 hk1 hS => ?_)
  obtain ⟨hP1, hK1, hD1, hF1⟩ := hB
  rw [ht] at hP1
  try rw [ht] at hF1
  have hK1 := va_K.moved hvm.symm hK1
  try dsimp only at hw
  obtain ⟨hP, hD⟩ := va_join (wr := [(nte, .inr (10, [.ref q_1, .ref q_3, .null, .int 0])), (q_1, .inl (k_2, 240, .inl (fun _ => 0))), (q_3, .inl (k_4, 240, .inl (fun _ => 0))), (q_6, .inr (15, [.int 0, .int 115, .int 0, .int 0, .int 0, .int 0, .int 0, .int 0, .int 0, .int 0, .int 0]))]) (w1 := [(q_5, .inr (14, [.ref u_8, .int 0, .int 0]))]) hP hD [3] [0, 1, 2, 4] rfl rfl (by decide) (by decide) hk1 hFc hP1 hD1
  generalize H1 = H at hP hS ⊢
  have hP : va_P (dC, dI) vwCl [(nte, .inr (10, [.ref q_1, .ref q_3, .null, .int 0])), (q_1, .inl (k_2, 240, .inl (fun _ => 0))), (q_3, .inl (k_4, 240, .inl (fun _ => 0))), (q_6, .inr (15, [.int 0, .int 115, .int 0, .int 0, .int 0, .int 0, .int 0, .int 0, .int 0, .int 0, .int 0])), (q_5, .inr (14, [.ref u_8, .int 0, .int 0]))] H := hP
  have hD : va_D A [(nte, .inr (10, [.ref q_1, .ref q_3, .null, .int 0])), (q_1, .inl (k_2, 240, .inl (fun _ => 0))), (q_3, .inl (k_4, 240, .inl (fun _ => 0))), (q_6, .inr (15, [.int 0, .int 115, .int 0, .int 0, .int 0, .int 0, .int 0, .int 0, .int 0, .int 0, .int 0])), (q_5, .inr (14, [.ref u_8, .int 0, .int 0]))] := hD
  have hR : va_P (dC, dI) vwCl [] H := fun k q h => by simp at h
  refine W.widen (k := 14) (n := 548) (Nat.le_of_ble_eq_true rfl) (Nat.le_of_ble_eq_true rfl) ?_
  refine va_putF (D := (dC, dI)) (ci := 10) (v := .ref q_5) (ty := .object "Underpaint$Stack") (C := RX4) (T := TX4) (N := 4) hx hb hts (by decide +kernel) tyX4 tyX4_ok nmX4 hown hK hP hD hS 0 rfl rfl 2 (by decide) (hts (.fieldLink RX4 29 "Underpaint$Notes" "guess" "LUnderpaint$Stack;") (by decide +kernel)) (fun _ h9 => h9) rfl hin rfl (by decide +kernel) rfl rfl (Nat.le_of_ble_eq_true rfl) dX4_init_40 (fun H locs hP hD hS => ?_)
  have hP : va_P (dC, dI) vwCl [(nte, .inr (10, [.ref q_1, .ref q_3, .ref q_5, .int 0])), (q_1, .inl (k_2, 240, .inl (fun _ => 0))), (q_3, .inl (k_4, 240, .inl (fun _ => 0))), (q_6, .inr (15, [.int 0, .int 115, .int 0, .int 0, .int 0, .int 0, .int 0, .int 0, .int 0, .int 0, .int 0])), (q_5, .inr (14, [.ref u_8, .int 0, .int 0]))] H := hP
  have hD : va_D A [(nte, .inr (10, [.ref q_1, .ref q_3, .ref q_5, .int 0])), (q_1, .inl (k_2, 240, .inl (fun _ => 0))), (q_3, .inl (k_4, 240, .inl (fun _ => 0))), (q_6, .inr (15, [.int 0, .int 115, .int 0, .int 0, .int 0, .int 0, .int 0, .int 0, .int 0, .int 0, .int 0])), (q_5, .inr (14, [.ref u_8, .int 0, .int 0]))] := hD
  have hR : va_P (dC, dI) vwCl [] H := fun k q h => by simp at h
  refine W.widen (k := 14) (n := 548) (Nat.le_of_ble_eq_true rfl) (Nat.le_of_ble_eq_true rfl) ?_
  exact W.vret hx hb hr (fun t ht hW => ⟨⟨⟨q_1, q_3, q_5, k_2, k_4⟩, rfl, trivial, cB.mk ht hW (hP.sub [0, 1, 2] rfl) (hK.sub [0, 1] rfl) (hD.sub [0, 1, 2] (by decide) rfl) (trivial)⟩, hS.F ht⟩) hS.2.2 dX4_init_43

def wo_c_X6_init_20_w : List Cond := [Cond.methodLink RX6 1 objectInit, Cond.instanceMethod objectInit, Cond.code objectInit ⟨#[0xb1]⟩ 1 none, Cond.arrayClass .int, Cond.fieldLink RX6 7 "Underpaint$Rings" "widths" "[I"]
def wo_c_X6_init_20 : List Cond := .code yX6_init cX6_init 2 none :: (wo_c_X6_init_20_w ++ (u_ws RX6 TX6 2 ++ List.nil))
theorem gw_wo_c_X6_init_20 : wo_c_X6_init_20.all goodWord = true := gw_c (by decide +kernel) (gw_a (by decide +kernel) (gw_a (by decide +kernel) rfl))
set_option maxHeartbeats 4000000 in
set_option maxRecDepth 100000 in
/-- Rings(20) -/
theorem c_X6_init_20 (l : Launch) (dC : Nat → ClassId) (dI : Nat → Nat → Nat) (b0 : Nat) (en : EnT) (sz : Nat) (ri : Nat) : Met l yX6_init wo_c_X6_init_20 ({ frames := 1, cells := 1, slots := 20, locals := 30 } : Room) (cP b0 en (dC, dI) [] [(ri, .inr (12, [.null, .int 0]))] [] sz (fun _ => True) [.ref ri, .int 20]) (va_Qv (fun u : Nat × ClassId => True) (fun u t => cB (dC, dI) [(u.2, .int)] [(ri, .inr (12, [.ref u.1, .int 0])), (u.1, .inl (u.2, 20, .inl (fun _ => 0)))] (va_A [(ri, .inr (12, [.null, .int 0]))] sz) (fun _ => True) t) (va_A [(ri, .inr (12, [.null, .int 0]))] sz)) 1 20 (va_A [(ri, .inr (12, [.null, .int 0]))] sz) := by
  refine Met.ofW (cc := cX6_init) (maxL := 2) (ret := none) (by decide) rfl ?_
  intro p e s m args below meth c s₁ B hml hv
  obtain ⟨rfl, hsz, hb0, hE, hPP, hK, hDD, hF0⟩ := hv
  have hx := B.exec
  have hb := B.bytes
  have hr := B.returns
  have hts := atoms_spec (ws := wo_c_X6_init_20) B.pre
  have hown : s.vm.findClass RX6 = some m.cls := findClass_of_methodNamed B.named
  have hlocks := B.notSynchronized
  have hin : meth.name = "<init>" := (name_of_methodNamed B.named B.method).1
  subst hsz
  have hN0 := en_N hPP hDD rfl
  have hP : va_P (dC, dI) vwCl [(ri, .inr (12, [.null, .int 0]))] s.heap := hPP.sub [0] rfl
  have hR0 : va_P (dC, dI) vwCl [] s.heap := hPP.sub [] rfl
  have hD0 : va_D (fun q => b0 ≤ q) [(ri, .inr (12, [.null, .int 0]))] := hDD.sub [0] (by decide) rfl
  have hDr : va_D (fun q => b0 ≤ q) [] := hDD.sub [] (by decide) rfl
  have hAb := en_A (sz := s.heap.size) hD0 hb0
  have hD := hD0.self (sz := s.heap.size)
  generalize hAe : va_A [(ri, .inr (12, [.null, .int 0]))] s.heap.size = A at hD hAb hN0 ⊢
  have hA : ∀ q : Nat, s.heap.size ≤ q → A q := fun q h => by rw [← hAe]; exact Or.inr h
  have hS : va_S A s.heap s.heap [] := va_S.rf
  have hR := hR0
  have hl := lv_entry [.ref ri, .int 20] (n := 2) (Nat.le_of_ble_eq_true rfl)
  rw [lg_entry_eq]
  generalize (lg_sl [.ref ri, .int 20] ++ List.replicate (2 - (lg_sl [.ref ri, .int 20]).length) Slot.unset).toArray = ls at hl ⊢
  have hl : lv_has ls 2 [(0, .ref ri), (1, .int 20)] := hl
  refine lv_aload_n hx hb dX6_init_0 rfl (lv_at hl 0 rfl) ?_
  refine W.objInit hx hb hown (hts (.methodLink RX6 1 objectInit) (by decide +kernel)) (hts (.instanceMethod objectInit) (by decide +kernel)) (hts (.code objectInit ⟨#[0xb1]⟩ 1 none) (by decide +kernel)) rfl (by rw [hml]; exact hl.1) rfl dX6_init_1 (Nat.le_of_ble_eq_true rfl) (Nat.le_of_ble_eq_true rfl) ?_
  refine lv_aload_n hx hb dX6_init_4 rfl (lv_at hl 0 rfl) ?_
  refine lv_iload_n hx hb dX6_init_5 rfl (lv_at hl 1 rfl) ?_
  have hz9 := hS.1
  refine va_newaX (atype := .int) (a0 := (20, .inl (fun _ => 0))) hx hb (hts (.arrayClass .int) (by decide +kernel)) rfl hK hP hD hS hA (fun _ => rfl) (by decide) (by decide) (by decide) (Nat.le_of_ble_eq_true rfl) (Nat.le_of_ble_eq_true rfl) dX6_init_6 (fun q_1 k_2 H hK hP hD hS hoq hoz => ?_)
  have hP : va_P (dC, dI) vwCl [(ri, .inr (12, [.null, .int 0])), (q_1, .inl (k_2, 20, .inl (fun _ => 0)))] H := hP
  have hD : va_D A [(ri, .inr (12, [.null, .int 0])), (q_1, .inl (k_2, 20, .inl (fun _ => 0)))] := hD
  have hR : va_P (dC, dI) vwCl [] H := fun k q h => by simp at h
  refine W.widen (k := 1) (n := 20) (Nat.le_of_ble_eq_true rfl) (Nat.le_of_ble_eq_true rfl) ?_
  have hgz_q_1 : s.heap.size ≤ q_1 := by rw [hoz]; exact hz9
  have hoz_q_1 := hoz
  refine va_putF (D := (dC, dI)) (ci := 12) (v := .ref q_1) (ty := .array (.int)) (C := RX6) (T := TX6) (N := 2) hx hb hts (by decide +kernel) tyX6 tyX6_ok nmX6 hown hK hP hD hS 0 rfl rfl 0 (by decide) (hts (.fieldLink RX6 7 "Underpaint$Rings" "widths" "[I") (by decide +kernel)) (fun _ h9 => h9) rfl hin rfl (by decide +kernel) rfl rfl (Nat.le_of_ble_eq_true rfl) dX6_init_8 (fun H locs hP hD hS => ?_)
  have hP : va_P (dC, dI) vwCl [(ri, .inr (12, [.ref q_1, .int 0])), (q_1, .inl (k_2, 20, .inl (fun _ => 0)))] H := hP
  have hD : va_D A [(ri, .inr (12, [.ref q_1, .int 0])), (q_1, .inl (k_2, 20, .inl (fun _ => 0)))] := hD
  have hR : va_P (dC, dI) vwCl [] H := fun k q h => by simp at h
  refine W.widen (k := 1) (n := 20) (Nat.le_of_ble_eq_true rfl) (Nat.le_of_ble_eq_true rfl) ?_
  exact W.vret hx hb hr (fun t ht hW => ⟨⟨⟨q_1, k_2⟩, rfl, trivial, cB.mk ht hW (hP.sub [0, 1] rfl) (hK.sub [0] rfl) (hD.sub [0, 1] (by decide) rfl) (trivial)⟩, hS.F ht⟩) hS.2.2 dX6_init_11

def wo_c_X6_init_60_w : List Cond := [Cond.methodLink RX6 1 objectInit, Cond.instanceMethod objectInit, Cond.code objectInit ⟨#[0xb1]⟩ 1 none, Cond.arrayClass .int, Cond.fieldLink RX6 7 "Underpaint$Rings" "widths" "[I"]
def wo_c_X6_init_60 : List Cond := .code yX6_init cX6_init 2 none :: (wo_c_X6_init_60_w ++ (u_ws RX6 TX6 2 ++ List.nil))
theorem gw_wo_c_X6_init_60 : wo_c_X6_init_60.all goodWord = true := gw_c (by decide +kernel) (gw_a (by decide +kernel) (gw_a (by decide +kernel) rfl))
set_option maxHeartbeats 4000000 in
set_option maxRecDepth 100000 in
/-- Rings(60) -/
theorem c_X6_init_60 (l : Launch) (dC : Nat → ClassId) (dI : Nat → Nat → Nat) (b0 : Nat) (en : EnT) (sz : Nat) (ri : Nat) : Met l yX6_init wo_c_X6_init_60 ({ frames := 1, cells := 1, slots := 60, locals := 30 } : Room) (cP b0 en (dC, dI) [] [(ri, .inr (12, [.null, .int 0]))] [] sz (fun _ => True) [.ref ri, .int 60]) (va_Qv (fun u : Nat × ClassId => True) (fun u t => cB (dC, dI) [(u.2, .int)] [(ri, .inr (12, [.ref u.1, .int 0])), (u.1, .inl (u.2, 60, .inl (fun _ => 0)))] (va_A [(ri, .inr (12, [.null, .int 0]))] sz) (fun _ => True) t) (va_A [(ri, .inr (12, [.null, .int 0]))] sz)) 1 60 (va_A [(ri, .inr (12, [.null, .int 0]))] sz) := by
  refine Met.ofW (cc := cX6_init) (maxL := 2) (ret := none) (by decide) rfl ?_
  intro p e s m args below meth c s₁ B hml hv
  obtain ⟨rfl, hsz, hb0, hE, hPP, hK, hDD, hF0⟩ := hv
  have hx := B.exec
  have hb := B.bytes
  have hr := B.returns
  have hts := atoms_spec (ws := wo_c_X6_init_60) B.pre
  have hown : s.vm.findClass RX6 = some m.cls := findClass_of_methodNamed B.named
  have hlocks := B.notSynchronized
  have hin : meth.name = "<init>" := (name_of_methodNamed B.named B.method).1
  subst hsz
  have hN0 := en_N hPP hDD rfl
  have hP : va_P (dC, dI) vwCl [(ri, .inr (12, [.null, .int 0]))] s.heap := hPP.sub [0] rfl
  have hR0 : va_P (dC, dI) vwCl [] s.heap := hPP.sub [] rfl
  have hD0 : va_D (fun q => b0 ≤ q) [(ri, .inr (12, [.null, .int 0]))] := hDD.sub [0] (by decide) rfl
  have hDr : va_D (fun q => b0 ≤ q) [] := hDD.sub [] (by decide) rfl
  have hAb := en_A (sz := s.heap.size) hD0 hb0
  have hD := hD0.self (sz := s.heap.size)
  generalize hAe : va_A [(ri, .inr (12, [.null, .int 0]))] s.heap.size = A at hD hAb hN0 ⊢
  have hA : ∀ q : Nat, s.heap.size ≤ q → A q := fun q h => by rw [← hAe]; exact Or.inr h
  have hS : va_S A s.heap s.heap [] := va_S.rf
  have hR := hR0
  have hl := lv_entry [.ref ri, .int 60] (n := 2) (Nat.le_of_ble_eq_true rfl)
  rw [lg_entry_eq]
  generalize (lg_sl [.ref ri, .int 60] ++ List.replicate (2 - (lg_sl [.ref ri, .int 60]).length) Slot.unset).toArray = ls at hl ⊢
  have hl : lv_has ls 2 [(0, .ref ri), (1, .int 60)] := hl
  refine lv_aload_n hx hb dX6_init_0 rfl (lv_at hl 0 rfl) ?_
  refine W.objInit hx hb hown (hts (.methodLink RX6 1 objectInit) (by decide +kernel)) (hts (.instanceMethod objectInit) (by decide +kernel)) (hts (.code objectInit ⟨#[0xb1]⟩ 1 none) (by decide +kernel)) rfl (by rw [hml]; exact hl.1) rfl dX6_init_1 (Nat.le_of_ble_eq_true rfl) (Nat.le_of_ble_eq_true rfl) ?_
  refine lv_aload_n hx hb dX6_init_4 rfl (lv_at hl 0 rfl) ?_
  refine lv_iload_n hx hb dX6_init_5 rfl (lv_at hl 1 rfl) ?_
  have hz9 := hS.1
  refine va_newaX (atype := .int) (a0 := (60, .inl (fun _ => 0))) hx hb (hts (.arrayClass .int) (by decide +kernel)) rfl hK hP hD hS hA (fun _ => rfl) (by decide) (by decide) (by decide) (Nat.le_of_ble_eq_true rfl) (Nat.le_of_ble_eq_true rfl) dX6_init_6 (fun q_1 k_2 H hK hP hD hS hoq hoz => ?_)
  have hP : va_P (dC, dI) vwCl [(ri, .inr (12, [.null, .int 0])), (q_1, .inl (k_2, 60, .inl (fun _ => 0)))] H := hP
  have hD : va_D A [(ri, .inr (12, [.null, .int 0])), (q_1, .inl (k_2, 60, .inl (fun _ => 0)))] := hD
  have hR : va_P (dC, dI) vwCl [] H := fun k q h => by simp at h
  refine W.widen (k := 1) (n := 60) (Nat.le_of_ble_eq_true rfl) (Nat.le_of_ble_eq_true rfl) ?_
  have hgz_q_1 : s.heap.size ≤ q_1 := by rw [hoz]; exact hz9
  have hoz_q_1 := hoz
  refine va_putF (D := (dC, dI)) (ci := 12) (v := .ref q_1) (ty := .array (.int)) (C := RX6) (T := TX6) (N := 2) hx hb hts (by decide +kernel) tyX6 tyX6_ok nmX6 hown hK hP hD hS 0 rfl rfl 0 (by decide) (hts (.fieldLink RX6 7 "Underpaint$Rings" "widths" "[I") (by decide +kernel)) (fun _ h9 => h9) rfl hin rfl (by decide +kernel) rfl rfl (Nat.le_of_ble_eq_true rfl) dX6_init_8 (fun H locs hP hD hS => ?_)
  have hP : va_P (dC, dI) vwCl [(ri, .inr (12, [.ref q_1, .int 0])), (q_1, .inl (k_2, 60, .inl (fun _ => 0)))] H := hP
  have hD : va_D A [(ri, .inr (12, [.ref q_1, .int 0])), (q_1, .inl (k_2, 60, .inl (fun _ => 0)))] := hD
  have hR : va_P (dC, dI) vwCl [] H := fun k q h => by simp at h
  refine W.widen (k := 1) (n := 60) (Nat.le_of_ble_eq_true rfl) (Nat.le_of_ble_eq_true rfl) ?_
  exact W.vret hx hb hr (fun t ht hW => ⟨⟨⟨q_1, k_2⟩, rfl, trivial, cB.mk ht hW (hP.sub [0, 1] rfl) (hK.sub [0] rfl) (hD.sub [0, 1] (by decide) rfl) (trivial)⟩, hS.F ht⟩) hS.2.2 dX6_init_11

def wo_c_X1_init_w : List Cond := [Cond.methodLink RX1 3 objectInit, Cond.instanceMethod objectInit, Cond.code objectInit ⟨#[0xb1]⟩ 1 none, Cond.classLink RX1 9 RX6, Cond.instantiable RX6 2, Cond.initialized RX6, Cond.methodLink RX1 11 yX6_init, Cond.instanceMethod yX6_init, Cond.fieldLink RX1 14 "Underpaint$Dates" "board" "LUnderpaint$Rings;", Cond.fieldLink RX1 20 "Underpaint$Dates" "master" "LUnderpaint$Rings;", Cond.arrayClass .int, Cond.fieldLink RX1 23 "Underpaint$Dates" "habits" "[I", Cond.fieldLink RX1 27 "Underpaint$Dates" "squares" "[I"]
def wo_c_X1_init : List Cond := .code yX1_init cX1_init 1 none :: (wo_c_X1_init_w ++ (u_ws RX6 TX6 2 ++ (u_ws RX1 TX1 5 ++ (wo_c_X6_init_20 ++ (wo_c_X6_init_60 ++ List.nil)))))
theorem gw_wo_c_X1_init : wo_c_X1_init.all goodWord = true := gw_c (by decide +kernel) (gw_a (by decide +kernel) (gw_a (by decide +kernel) (gw_a (by decide +kernel) (gw_a gw_wo_c_X6_init_20 (gw_a gw_wo_c_X6_init_60 rfl)))))
theorem go_c_X1_init_0 : GoodIn wo_c_X1_init (wo_c_X6_init_20) := goodIn_sub (fun _ h => List.mem_cons_of_mem _ (List.mem_append_right _ (List.mem_append_right _ (List.mem_append_right _ (List.mem_append_left _ h))))) gw_wo_c_X6_init_20
theorem go_c_X1_init_1 : GoodIn wo_c_X1_init (wo_c_X6_init_60) := goodIn_sub (fun _ h => List.mem_cons_of_mem _ (List.mem_append_right _ (List.mem_append_right _ (List.mem_append_right _ (List.mem_append_right _ (List.mem_append_left _ h)))))) gw_wo_c_X6_init_60
set_option maxHeartbeats 4000000 in
set_option maxRecDepth 100000 in
/-- Dates() -/
theorem c_X1_init (l : Launch) (dC : Nat → ClassId) (dI : Nat → Nat → Nat) (b0 : Nat) (en : EnT) (sz : Nat) (dat : Nat) : Met l yX1_init wo_c_X1_init ({ frames := 2, cells := 6, slots := 114, locals := 51 } : Room) (cP b0 en (dC, dI) [] [(dat, .inr (7, [.null, .null, .int 0, .null, .null]))] [] sz (fun _ => True) [.ref dat]) (va_Qv (fun u : Nat × Nat × Nat × Nat × Nat × Nat × ClassId => True) (fun u t => cB (dC, dI) [(u.2.2.2.2.2.2, .int)] [(dat, .inr (7, [.ref u.1, .ref u.2.1, .int 0, .ref u.2.2.1, .ref u.2.2.2.1])), (u.1, .inr (12, [.ref u.2.2.2.2.1, .int 0])), (u.2.1, .inr (12, [.ref u.2.2.2.2.2.1, .int 0])), (u.2.2.2.2.1, .inl (u.2.2.2.2.2.2, 20, .inl (fun _ => 0))), (u.2.2.2.2.2.1, .inl (u.2.2.2.2.2.2, 60, .inl (fun _ => 0))), (u.2.2.1, .inl (u.2.2.2.2.2.2, 24, .inl (fun _ => 0))), (u.2.2.2.1, .inl (u.2.2.2.2.2.2, 6, .inl (fun _ => 0)))] (va_A [(dat, .inr (7, [.null, .null, .int 0, .null, .null]))] sz) (fun _ => True) t) (va_A [(dat, .inr (7, [.null, .null, .int 0, .null, .null]))] sz)) 6 114 (va_A [(dat, .inr (7, [.null, .null, .int 0, .null, .null]))] sz) := by
  refine Met.ofW (cc := cX1_init) (maxL := 1) (ret := none) (by decide) rfl ?_
  intro p e s m args below meth c s₁ B hml hv
  obtain ⟨rfl, hsz, hb0, hE, hPP, hK, hDD, hF0⟩ := hv
  have hx := B.exec
  have hb := B.bytes
  have hr := B.returns
  have hts := atoms_spec (ws := wo_c_X1_init) B.pre
  have hown : s.vm.findClass RX1 = some m.cls := findClass_of_methodNamed B.named
  have hlocks := B.notSynchronized
  have hin : meth.name = "<init>" := (name_of_methodNamed B.named B.method).1
  subst hsz
  have hN0 := en_N hPP hDD rfl
  have hP : va_P (dC, dI) vwCl [(dat, .inr (7, [.null, .null, .int 0, .null, .null]))] s.heap := hPP.sub [0] rfl
  have hR0 : va_P (dC, dI) vwCl [] s.heap := hPP.sub [] rfl
  have hD0 : va_D (fun q => b0 ≤ q) [(dat, .inr (7, [.null, .null, .int 0, .null, .null]))] := hDD.sub [0] (by decide) rfl
  have hDr : va_D (fun q => b0 ≤ q) [] := hDD.sub [] (by decide) rfl
  have hAb := en_A (sz := s.heap.size) hD0 hb0
  have hD := hD0.self (sz := s.heap.size)
  generalize hAe : va_A [(dat, .inr (7, [.null, .null, .int 0, .null, .null]))] s.heap.size = A at hD hAb hN0 ⊢
  have hA : ∀ q : Nat, s.heap.size ≤ q → A q := fun q h => by rw [← hAe]; exact Or.inr h
  have hS : va_S A s.heap s.heap [] := va_S.rf
  have hR := hR0
  have hl := lv_entry [.ref dat] (n := 1) (Nat.le_of_ble_eq_true rfl)
  rw [lg_entry_eq]
  generalize (lg_sl [.ref dat] ++ List.replicate (1 - (lg_sl [.ref dat]).length) Slot.unset).toArray = ls at hl ⊢
  have hl : lv_has ls 1 [(0, .ref dat)] := hl
  refine lv_aload_n hx hb dX1_init_0 rfl (lv_at hl 0 rfl) ?_
  refine W.objInit hx hb hown (hts (.methodLink RX1 3 objectInit) (by decide +kernel)) (hts (.instanceMethod objectInit) (by decide +kernel)) (hts (.code objectInit ⟨#[0xb1]⟩ 1 none) (by decide +kernel)) rfl (by rw [hml]; exact hl.1) rfl dX1_init_1 (Nat.le_of_ble_eq_true rfl) (Nat.le_of_ble_eq_true rfl) ?_
  refine lv_aload_n hx hb dX1_init_4 rfl (lv_at hl 0 rfl) ?_
  have hz9 := hS.1
  refine va_newX (ci := 12) (fs := [.null, .int 0]) (C := RX6) (T := TX6) (N := 2) hx hb hts (by decide +kernel) tyX6 tyX6_ok hown (hts (.classLink RX1 9 RX6) (by decide +kernel)) (hts (.instantiable RX6 2) (by decide +kernel)) (hts (.initialized RX6) (by decide +kernel)) hK hP hD hS hA rfl (fun j hj => by rcases (show j = 0 ∨ j = 1 by omega) with rfl | rfl <;> rfl) (Nat.le_of_ble_eq_true rfl) (Nat.le_of_ble_eq_true rfl) dX1_init_5 (fun q_1 H hP hD hS hoq hoz => ?_)
  have hP : va_P (dC, dI) vwCl [(dat, .inr (7, [.null, .null, .int 0, .null, .null])), (q_1, .inr (12, [.null, .int 0]))] H := hP
  have hD : va_D A [(dat, .inr (7, [.null, .null, .int 0, .null, .null])), (q_1, .inr (12, [.null, .int 0]))] := hD
  have hR : va_P (dC, dI) vwCl [] H := fun k q h => by simp at h
  refine W.widen (k := 1) (n := 2) (Nat.le_of_ble_eq_true rfl) (Nat.le_of_ble_eq_true rfl) ?_
  have hgz_q_1 : s.heap.size ≤ q_1 := by rw [hoz]; exact hz9
  have hoz_q_1 := hoz
  refine lv_dup hx hb dX1_init_8 rfl ?_
  refine lv_bipush (v := 20) hx hb dX1_init_9 (by decide) ?_
  have hS9 := hS
  have hPc := (hP.app hR).sub (ws' := [(q_1, .inr (12, [.null, .int 0]))] ++ []) [1] rfl
  have hDc := (en_DD hD hDr hN0 hAb).sub (ws' := [(q_1, .inr (12, [.null, .int 0]))] ++ []) [1] (by decide) rfl
  have hKc := hK.sub (tys' := []) [] rfl
  have hFc := va_free (wc := [(q_1, .inr (12, [.null, .int 0]))]) hD hS hA [1] rfl
  refine va_callv (va_runI (As := [.int 20]) (rest := [.ref q_1, .ref dat]) ⟨hx, hb, hml, hown, hts⟩ (c_X6_init_20 l dC dI b0 en H.size q_1) (cwI 1 hts go_c_X1_init_0 rfl rfl rfl (hts (.initialized RX6) (by decide +kernel)) (hts (.methodLink RX1 11 yX6_init) (by decide +kernel)) (hts (.instanceMethod yX6_init) (by decide +kernel)) rfl (by decide +kernel) ⟨Nat.le_of_ble_eq_true rfl, Nat.le_of_ble_eq_true rfl⟩) ⟨cP.blind, cP.use (en_z hb0 hS) (hE.on hAb hS) hPc hKc hDc trivial⟩ rfl rfl hl.1 rfl (lv_room (Nat.le_of_ble_eq_true rfl)) dX1_init_11 ⟨Nat.le_of_ble_eq_true rfl, Nat.le_of_ble_eq_true rfl⟩) hS (fun q _ h => hFc q h) hFc (fun ⟨wi_3, kI_4⟩ t H1 locs ht hvm hw hB hz1 hk1 hS => ?_)
  obtain ⟨hP1, hK1, hD1, hF1⟩ := hB
  rw [ht] at hP1
  try rw [ht] at hF1
  have hK1 := va_K.moved hvm.symm hK1
  try dsimp only at hw
  obtain ⟨hP, hD⟩ := va_join (wr := [(dat, .inr (7, [.null, .null, .int 0, .null, .null]))]) (w1 := [(q_1, .inr (12, [.ref wi_3, .int 0])), (wi_3, .inl (kI_4, 20, .inl (fun _ => 0)))]) hP hD [1] [0] rfl rfl (by decide) (by decide) hk1 hFc hP1 hD1
  have hK := hK.app hK1
  have hgz_wi_3 : s.heap.size ≤ wi_3 := Nat.le_trans hS9.1 (vGeN hD1 1 rfl (by simp only [List.map_cons, List.map_nil, List.mem_cons, List.not_mem_nil, or_false, not_or, not_false_eq_true]; exact vAp hD1 1 0 rfl rfl (by decide)))
  generalize H1 = H at hP hS ⊢
  have hP : va_P (dC, dI) vwCl [(dat, .inr (7, [.null, .null, .int 0, .null, .null])), (q_1, .inr (12, [.ref wi_3, .int 0])), (wi_3, .inl (kI_4, 20, .inl (fun _ => 0)))] H := hP
  have hD : va_D A [(dat, .inr (7, [.null, .null, .int 0, .null, .null])), (q_1, .inr (12, [.ref wi_3, .int 0])), (wi_3, .inl (kI_4, 20, .inl (fun _ => 0)))] := hD
  have hR : va_P (dC, dI) vwCl [] H := fun k q h => by simp at h
  refine W.widen (k := 2) (n := 22) (Nat.le_of_ble_eq_true rfl) (Nat.le_of_ble_eq_true rfl) ?_
  refine va_putF (D := (dC, dI)) (ci := 7) (v := .ref q_1) (ty := .object "Underpaint$Rings") (C := RX1) (T := TX1) (N := 5) hx hb hts (by decide +kernel) tyX1 tyX1_ok nmX1 hown hK hP hD hS 0 rfl rfl 0 (by decide) (hts (.fieldLink RX1 14 "Underpaint$Dates" "board" "LUnderpaint$Rings;") (by decide +kernel)) (fun _ h9 => h9) rfl hin rfl (by decide +kernel) rfl rfl (Nat.le_of_ble_eq_true rfl) dX1_init_14 (fun H locs hP hD hS => ?_)
  have hP : va_P (dC, dI) vwCl [(dat, .inr (7, [.ref q_1, .null, .int 0, .null, .null])), (q_1, .inr (12, [.ref wi_3, .int 0])), (wi_3, .inl (kI_4, 20, .inl (fun _ => 0)))] H := hP
  have hD : va_D A [(dat, .inr (7, [.ref q_1, .null, .int 0, .null, .null])), (q_1, .inr (12, [.ref wi_3, .int 0])), (wi_3, .inl (kI_4, 20, .inl (fun _ => 0)))] := hD
  have hR : va_P (dC, dI) vwCl [] H := fun k q h => by simp at h
  refine lv_aload_n hx hb dX1_init_17 rfl (lv_at hl 0 rfl) ?_
  have hz9 := hS.1
  refine va_newX (ci := 12) (fs := [.null, .int 0]) (C := RX6) (T := TX6) (N := 2) hx hb hts (by decide +kernel) tyX6 tyX6_ok hown (hts (.classLink RX1 9 RX6) (by decide +kernel)) (hts (.instantiable RX6 2) (by decide +kernel)) (hts (.initialized RX6) (by decide +kernel)) hK hP hD hS hA rfl (fun j hj => by rcases (show j = 0 ∨ j = 1 by omega) with rfl | rfl <;> rfl) (Nat.le_of_ble_eq_true rfl) (Nat.le_of_ble_eq_true rfl) dX1_init_18 (fun q_6 H hP hD hS hoq hoz => ?_)
  have hP : va_P (dC, dI) vwCl [(dat, .inr (7, [.ref q_1, .null, .int 0, .null, .null])), (q_1, .inr (12, [.ref wi_3, .int 0])), (wi_3, .inl (kI_4, 20, .inl (fun _ => 0))), (q_6, .inr (12, [.null, .int 0]))] H := hP
  have hD : va_D A [(dat, .inr (7, [.ref q_1, .null, .int 0, .null, .null])), (q_1, .inr (12, [.ref wi_3, .int 0])), (wi_3, .inl (kI_4, 20, .inl (fun _ => 0))), (q_6, .inr (12, [.null, .int 0]))] := hD
  have hR : va_P (dC, dI) vwCl [] H := fun k q h => by simp at h
  refine W.widen (k := 3) (n := 24) (Nat.le_of_ble_eq_true rfl) (Nat.le_of_ble_eq_true rfl) ?_
  have hgz_q_6 : s.heap.size ≤ q_6 := by rw [hoz]; exact hz9
  have hoz_q_6 := hoz
  refine lv_dup hx hb dX1_init_21 rfl ?_
  refine lv_bipush (v := 60) hx hb dX1_init_22 (by decide) ?_
  have hS9 := hS
  have hPc := (hP.app hR).sub (ws' := [(q_6, .inr (12, [.null, .int 0]))] ++ []) [3] rfl
  have hDc := (en_DD hD hDr hN0 hAb).sub (ws' := [(q_6, .inr (12, [.null, .int 0]))] ++ []) [3] (by decide) rfl
  have hKc := hK.sub (tys' := []) [] rfl
  have hFc := va_free (wc := [(q_6, .inr (12, [.null, .int 0]))]) hD hS hA [3] rfl
  refine va_callv (va_runI (As := [.int 60]) (rest := [.ref q_6, .ref dat]) ⟨hx, hb, hml, hown, hts⟩ (c_X6_init_60 l dC dI b0 en H.size q_6) (cwI 1 hts go_c_X1_init_1 rfl rfl rfl (hts (.initialized RX6) (by decide +kernel)) (hts (.methodLink RX1 11 yX6_init) (by decide +kernel)) (hts (.instanceMethod yX6_init) (by decide +kernel)) rfl (by decide +kernel) ⟨Nat.le_of_ble_eq_true rfl, Nat.le_of_ble_eq_true rfl⟩) ⟨cP.blind, cP.use (en_z hb0 hS) (hE.on hAb hS) hPc hKc hDc trivial⟩ rfl rfl hl.1 rfl (lv_room (Nat.le_of_ble_eq_true rfl)) dX1_init_24 ⟨Nat.le_of_ble_eq_true rfl, Nat.le_of_ble_eq_true rfl⟩) hS (fun q _ h => hFc q h) hFc (fun ⟨wi_8, kI_9⟩ t H1 locs ht hvm hw hB hz1 hk1 hS => ?_)
  obtain ⟨hP1, hK1, hD1, hF1⟩ := hB
  rw [ht] at hP1
  try rw [ht] at hF1
  have hK1 := va_K.moved hvm.symm hK1
  try dsimp only at hw
  obtain ⟨hP, hD⟩ := va_join (wr := [(dat, .inr (7, [.ref q_1, .null, .int 0, .null, .null])), (q_1, .inr (12, [.ref wi_3, .int 0])), (wi_3, .inl (kI_4, 20, .inl (fun _ => 0)))]) (w1 := [(q_6, .inr (12, [.ref wi_8, .int 0])), (wi_8, .inl (kI_9, 60, .inl (fun _ => 0)))]) hP hD [3] [0, 1, 2] rfl rfl (by decide) (by decide) hk1 hFc hP1 hD1
  have hK := hK.app hK1
  have hgz_wi_8 : s.heap.size ≤ wi_8 := Nat.le_trans hS9.1 (vGeN hD1 1 rfl (by simp only [List.map_cons, List.map_nil, List.mem_cons, List.not_mem_nil, or_false, not_or, not_false_eq_true]; exact vAp hD1 1 0 rfl rfl (by decide)))
  generalize H1 = H at hP hS ⊢
  have hP : va_P (dC, dI) vwCl [(dat, .inr (7, [.ref q_1, .null, .int 0, .null, .null])), (q_1, .inr (12, [.ref wi_3, .int 0])), (wi_3, .inl (kI_4, 20, .inl (fun _ => 0))), (q_6, .inr (12, [.ref wi_8, .int 0])), (wi_8, .inl (kI_9, 60, .inl (fun _ => 0)))] H := hP
  have hD : va_D A [(dat, .inr (7, [.ref q_1, .null, .int 0, .null, .null])), (q_1, .inr (12, [.ref wi_3, .int 0])), (wi_3, .inl (kI_4, 20, .inl (fun _ => 0))), (q_6, .inr (12, [.ref wi_8, .int 0])), (wi_8, .inl (kI_9, 60, .inl (fun _ => 0)))] := hD
  have hR : va_P (dC, dI) vwCl [] H := fun k q h => by simp at h
  refine W.widen (k := 4) (n := 84) (Nat.le_of_ble_eq_true rfl) (Nat.le_of_ble_eq_true rfl) ?_
  obtain rfl : kI_4 = kI_9 := kEqI hK 0 1 rfl rfl
  refine va_putF (D := (dC, dI)) (ci := 7) (v := .ref q_6) (ty := .object "Underpaint$Rings") (C := RX1) (T := TX1) (N := 5) hx hb hts (by decide +kernel) tyX1 tyX1_ok nmX1 hown hK hP hD hS 0 rfl rfl 1 (by decide) (hts (.fieldLink RX1 20 "Underpaint$Dates" "master" "LUnderpaint$Rings;") (by decide +kernel)) (fun _ h9 => h9) rfl hin rfl (by decide +kernel) rfl rfl (Nat.le_of_ble_eq_true rfl) dX1_init_27 (fun H locs hP hD hS => ?_)
  have hP : va_P (dC, dI) vwCl [(dat, .inr (7, [.ref q_1, .ref q_6, .int 0, .null, .null])), (q_1, .inr (12, [.ref wi_3, .int 0])), (wi_3, .inl (kI_4, 20, .inl (fun _ => 0))), (q_6, .inr (12, [.ref wi_8, .int 0])), (wi_8, .inl (kI_4, 60, .inl (fun _ => 0)))] H := hP
  have hD : va_D A [(dat, .inr (7, [.ref q_1, .ref q_6, .int 0, .null, .null])), (q_1, .inr (12, [.ref wi_3, .int 0])), (wi_3, .inl (kI_4, 20, .inl (fun _ => 0))), (q_6, .inr (12, [.ref wi_8, .int 0])), (wi_8, .inl (kI_4, 60, .inl (fun _ => 0)))] := hD
  have hR : va_P (dC, dI) vwCl [] H := fun k q h => by simp at h
  refine lv_aload_n hx hb dX1_init_30 rfl (lv_at hl 0 rfl) ?_
  refine lv_bipush (v := 24) hx hb dX1_init_31 (by decide) ?_
  have hz9 := hS.1
  refine va_newaX (atype := .int) (a0 := (24, .inl (fun _ => 0))) hx hb (hts (.arrayClass .int) (by decide +kernel)) rfl hK hP hD hS hA (fun _ => rfl) (by decide) (by decide) (by decide) (Nat.le_of_ble_eq_true rfl) (Nat.le_of_ble_eq_true rfl) dX1_init_33 (fun q_11 k_12 H hK hP hD hS hoq hoz => ?_)
  have hP : va_P (dC, dI) vwCl [(dat, .inr (7, [.ref q_1, .ref q_6, .int 0, .null, .null])), (q_1, .inr (12, [.ref wi_3, .int 0])), (wi_3, .inl (kI_4, 20, .inl (fun _ => 0))), (q_6, .inr (12, [.ref wi_8, .int 0])), (wi_8, .inl (kI_4, 60, .inl (fun _ => 0))), (q_11, .inl (k_12, 24, .inl (fun _ => 0)))] H := hP
  have hD : va_D A [(dat, .inr (7, [.ref q_1, .ref q_6, .int 0, .null, .null])), (q_1, .inr (12, [.ref wi_3, .int 0])), (wi_3, .inl (kI_4, 20, .inl (fun _ => 0))), (q_6, .inr (12, [.ref wi_8, .int 0])), (wi_8, .inl (kI_4, 60, .inl (fun _ => 0))), (q_11, .inl (k_12, 24, .inl (fun _ => 0)))] := hD
  have hR : va_P (dC, dI) vwCl [] H := fun k q h => by simp at h
  refine W.widen (k := 5) (n := 108) (Nat.le_of_ble_eq_true rfl) (Nat.le_of_ble_eq_true rfl) ?_
  have hgz_q_11 : s.heap.size ≤ q_11 := by rw [hoz]; exact hz9
  have hoz_q_11 := hoz
  obtain rfl : kI_4 = k_12 := kEqI hK 0 2 rfl rfl
  refine va_putF (D := (dC, dI)) (ci := 7) (v := .ref q_11) (ty := .array (.int)) (C := RX1) (T := TX1) (N := 5) hx hb hts (by decide +kernel) tyX1 tyX1_ok nmX1 hown hK hP hD hS 0 rfl rfl 3 (by decide) (hts (.fieldLink RX1 23 "Underpaint$Dates" "habits" "[I") (by decide +kernel)) (fun _ h9 => h9) rfl hin rfl (by decide +kernel) rfl rfl (Nat.le_of_ble_eq_true rfl) dX1_init_35 (fun H locs hP hD hS => ?_)
  have hP : va_P (dC, dI) vwCl [(dat, .inr (7, [.ref q_1, .ref q_6, .int 0, .ref q_11, .null])), (q_1, .inr (12, [.ref wi_3, .int 0])), (wi_3, .inl (kI_4, 20, .inl (fun _ => 0))), (q_6, .inr (12, [.ref wi_8, .int 0])), (wi_8, .inl (kI_4, 60, .inl (fun _ => 0))), (q_11, .inl (kI_4, 24, .inl (fun _ => 0)))] H := hP
  have hD : va_D A [(dat, .inr (7, [.ref q_1, .ref q_6, .int 0, .ref q_11, .null])), (q_1, .inr (12, [.ref wi_3, .int 0])), (wi_3, .inl (kI_4, 20, .inl (fun _ => 0))), (q_6, .inr (12, [.ref wi_8, .int 0])), (wi_8, .inl (kI_4, 60, .inl (fun _ => 0))), (q_11, .inl (kI_4, 24, .inl (fun _ => 0)))] := hD
  have hR : va_P (dC, dI) vwCl [] H := fun k q h => by simp at h
  refine lv_aload_n hx hb dX1_init_38 rfl (lv_at hl 0 rfl) ?_
  refine lv_bipush (v := 6) hx hb dX1_init_39 (by decide) ?_
  have hz9 := hS.1
  refine va_newaX (atype := .int) (a0 := (6, .inl (fun _ => 0))) hx hb (hts (.arrayClass .int) (by decide +kernel)) rfl hK hP hD hS hA (fun _ => rfl) (by decide) (by decide) (by decide) (Nat.le_of_ble_eq_true rfl) (Nat.le_of_ble_eq_true rfl) dX1_init_41 (fun q_13 k_14 H hK hP hD hS hoq hoz => ?_)
  have hP : va_P (dC, dI) vwCl [(dat, .inr (7, [.ref q_1, .ref q_6, .int 0, .ref q_11, .null])), (q_1, .inr (12, [.ref wi_3, .int 0])), (wi_3, .inl (kI_4, 20, .inl (fun _ => 0))), (q_6, .inr (12, [.ref wi_8, .int 0])), (wi_8, .inl (kI_4, 60, .inl (fun _ => 0))), (q_11, .inl (kI_4, 24, .inl (fun _ => 0))), (q_13, .inl (k_14, 6, .inl (fun _ => 0)))] H := hP
  have hD : va_D A [(dat, .inr (7, [.ref q_1, .ref q_6, .int 0, .ref q_11, .null])), (q_1, .inr (12, [.ref wi_3, .int 0])), (wi_3, .inl (kI_4, 20, .inl (fun _ => 0))), (q_6, .inr (12, [.ref wi_8, .int 0])), (wi_8, .inl (kI_4, 60, .inl (fun _ => 0))), (q_11, .inl (kI_4, 24, .inl (fun _ => 0))), (q_13, .inl (k_14, 6, .inl (fun _ => 0)))] := hD
  have hR : va_P (dC, dI) vwCl [] H := fun k q h => by simp at h
  refine W.widen (k := 6) (n := 114) (Nat.le_of_ble_eq_true rfl) (Nat.le_of_ble_eq_true rfl) ?_
  have hgz_q_13 : s.heap.size ≤ q_13 := by rw [hoz]; exact hz9
  have hoz_q_13 := hoz
  obtain rfl : kI_4 = k_14 := kEqI hK 0 3 rfl rfl
  refine va_putF (D := (dC, dI)) (ci := 7) (v := .ref q_13) (ty := .array (.int)) (C := RX1) (T := TX1) (N := 5) hx hb hts (by decide +kernel) tyX1 tyX1_ok nmX1 hown hK hP hD hS 0 rfl rfl 4 (by decide) (hts (.fieldLink RX1 27 "Underpaint$Dates" "squares" "[I") (by decide +kernel)) (fun _ h9 => h9) rfl hin rfl (by decide +kernel) rfl rfl (Nat.le_of_ble_eq_true rfl) dX1_init_43 (fun H locs hP hD hS => ?_)
  have hP : va_P (dC, dI) vwCl [(dat, .inr (7, [.ref q_1, .ref q_6, .int 0, .ref q_11, .ref q_13])), (q_1, .inr (12, [.ref wi_3, .int 0])), (wi_3, .inl (kI_4, 20, .inl (fun _ => 0))), (q_6, .inr (12, [.ref wi_8, .int 0])), (wi_8, .inl (kI_4, 60, .inl (fun _ => 0))), (q_11, .inl (kI_4, 24, .inl (fun _ => 0))), (q_13, .inl (kI_4, 6, .inl (fun _ => 0)))] H := hP
  have hD : va_D A [(dat, .inr (7, [.ref q_1, .ref q_6, .int 0, .ref q_11, .ref q_13])), (q_1, .inr (12, [.ref wi_3, .int 0])), (wi_3, .inl (kI_4, 20, .inl (fun _ => 0))), (q_6, .inr (12, [.ref wi_8, .int 0])), (wi_8, .inl (kI_4, 60, .inl (fun _ => 0))), (q_11, .inl (kI_4, 24, .inl (fun _ => 0))), (q_13, .inl (kI_4, 6, .inl (fun _ => 0)))] := hD
  have hR : va_P (dC, dI) vwCl [] H := fun k q h => by simp at h
  refine W.widen (k := 6) (n := 114) (Nat.le_of_ble_eq_true rfl) (Nat.le_of_ble_eq_true rfl) ?_
  exact W.vret hx hb hr (fun t ht hW => ⟨⟨⟨q_1, q_6, q_11, q_13, wi_3, wi_8, kI_4⟩, rfl, trivial, cB.mk ht hW (hP.sub [0, 1, 3, 2, 4, 5, 6] rfl) (hK.sub [0] rfl) (hD.sub [0, 1, 3, 2, 4, 5, 6] (by decide) rfl) (trivial)⟩, hS.F ht⟩) hS.2.2 dX1_init_46

def wo_c_X10_init_w : List Cond := [Cond.methodLink RX10 3 objectInit, Cond.instanceMethod objectInit, Cond.code objectInit ⟨#[0xb1]⟩ 1 none, Cond.arrayClass .int, Cond.fieldLink RX10 9 "Underpaint$Votes" "ahead" "[I"]
def wo_c_X10_init : List Cond := .code yX10_init cX10_init 1 none :: (wo_c_X10_init_w ++ (u_ws RX10 TX10 2 ++ List.nil))
theorem gw_wo_c_X10_init : wo_c_X10_init.all goodWord = true := gw_c (by decide +kernel) (gw_a (by decide +kernel) (gw_a (by decide +kernel) rfl))
set_option maxHeartbeats 4000000 in
set_option maxRecDepth 100000 in
/-- Votes() -/
theorem c_X10_init (l : Launch) (dC : Nat → ClassId) (dI : Nat → Nat → Nat) (b0 : Nat) (en : EnT) (sz : Nat) (vot : Nat) : Met l yX10_init wo_c_X10_init ({ frames := 1, cells := 1, slots := 9, locals := 30 } : Room) (cP b0 en (dC, dI) [] [(vot, .inr (16, [.int 0, .null]))] [] sz (fun _ => True) [.ref vot]) (va_Qv (fun u : Nat × ClassId => True) (fun u t => cB (dC, dI) [(u.2, .int)] [(vot, .inr (16, [.int 0, .ref u.1])), (u.1, .inl (u.2, 9, .inl (fun _ => 0)))] (va_A [(vot, .inr (16, [.int 0, .null]))] sz) (fun _ => True) t) (va_A [(vot, .inr (16, [.int 0, .null]))] sz)) 1 9 (va_A [(vot, .inr (16, [.int 0, .null]))] sz) := by
  refine Met.ofW (cc := cX10_init) (maxL := 1) (ret := none) (by decide) rfl ?_
  intro p e s m args below meth c s₁ B hml hv
  obtain ⟨rfl, hsz, hb0, hE, hPP, hK, hDD, hF0⟩ := hv
  have hx := B.exec
  have hb := B.bytes
  have hr := B.returns
  have hts := atoms_spec (ws := wo_c_X10_init) B.pre
  have hown : s.vm.findClass RX10 = some m.cls := findClass_of_methodNamed B.named
  have hlocks := B.notSynchronized
  have hin : meth.name = "<init>" := (name_of_methodNamed B.named B.method).1
  subst hsz
  have hN0 := en_N hPP hDD rfl
  have hP : va_P (dC, dI) vwCl [(vot, .inr (16, [.int 0, .null]))] s.heap := hPP.sub [0] rfl
  have hR0 : va_P (dC, dI) vwCl [] s.heap := hPP.sub [] rfl
  have hD0 : va_D (fun q => b0 ≤ q) [(vot, .inr (16, [.int 0, .null]))] := hDD.sub [0] (by decide) rfl
  have hDr : va_D (fun q => b0 ≤ q) [] := hDD.sub [] (by decide) rfl
  have hAb := en_A (sz := s.heap.size) hD0 hb0
  have hD := hD0.self (sz := s.heap.size)
  generalize hAe : va_A [(vot, .inr (16, [.int 0, .null]))] s.heap.size = A at hD hAb hN0 ⊢
  have hA : ∀ q : Nat, s.heap.size ≤ q → A q := fun q h => by rw [← hAe]; exact Or.inr h
  have hS : va_S A s.heap s.heap [] := va_S.rf
  have hR := hR0
  have hl := lv_entry [.ref vot] (n := 1) (Nat.le_of_ble_eq_true rfl)
  rw [lg_entry_eq]
  generalize (lg_sl [.ref vot] ++ List.replicate (1 - (lg_sl [.ref vot]).length) Slot.unset).toArray = ls at hl ⊢
  have hl : lv_has ls 1 [(0, .ref vot)] := hl
  refine lv_aload_n hx hb dX10_init_0 rfl (lv_at hl 0 rfl) ?_
  refine W.objInit hx hb hown (hts (.methodLink RX10 3 objectInit) (by decide +kernel)) (hts (.instanceMethod objectInit) (by decide +kernel)) (hts (.code objectInit ⟨#[0xb1]⟩ 1 none) (by decide +kernel)) rfl (by rw [hml]; exact hl.1) rfl dX10_init_1 (Nat.le_of_ble_eq_true rfl) (Nat.le_of_ble_eq_true rfl) ?_
  refine lv_aload_n hx hb dX10_init_4 rfl (lv_at hl 0 rfl) ?_
  refine lv_bipush (v := 9) hx hb dX10_init_5 (by decide) ?_
  have hz9 := hS.1
  refine va_newaX (atype := .int) (a0 := (9, .inl (fun _ => 0))) hx hb (hts (.arrayClass .int) (by decide +kernel)) rfl hK hP hD hS hA (fun _ => rfl) (by decide) (by decide) (by decide) (Nat.le_of_ble_eq_true rfl) (Nat.le_of_ble_eq_true rfl) dX10_init_7 (fun q_1 k_2 H hK hP hD hS hoq hoz => ?_)
  have hP : va_P (dC, dI) vwCl [(vot, .inr (16, [.int 0, .null])), (q_1, .inl (k_2, 9, .inl (fun _ => 0)))] H := hP
  have hD : va_D A [(vot, .inr (16, [.int 0, .null])), (q_1, .inl (k_2, 9, .inl (fun _ => 0)))] := hD
  have hR : va_P (dC, dI) vwCl [] H := fun k q h => by simp at h
  refine W.widen (k := 1) (n := 9) (Nat.le_of_ble_eq_true rfl) (Nat.le_of_ble_eq_true rfl) ?_
  have hgz_q_1 : s.heap.size ≤ q_1 := by rw [hoz]; exact hz9
  have hoz_q_1 := hoz
  refine va_putF (D := (dC, dI)) (ci := 16) (v := .ref q_1) (ty := .array (.int)) (C := RX10) (T := TX10) (N := 2) hx hb hts (by decide +kernel) tyX10 tyX10_ok nmX10 hown hK hP hD hS 0 rfl rfl 1 (by decide) (hts (.fieldLink RX10 9 "Underpaint$Votes" "ahead" "[I") (by decide +kernel)) (fun _ h9 => h9) rfl hin rfl (by decide +kernel) rfl rfl (Nat.le_of_ble_eq_true rfl) dX10_init_9 (fun H locs hP hD hS => ?_)
  have hP : va_P (dC, dI) vwCl [(vot, .inr (16, [.int 0, .ref q_1])), (q_1, .inl (k_2, 9, .inl (fun _ => 0)))] H := hP
  have hD : va_D A [(vot, .inr (16, [.int 0, .ref q_1])), (q_1, .inl (k_2, 9, .inl (fun _ => 0)))] := hD
  have hR : va_P (dC, dI) vwCl [] H := fun k q h => by simp at h
  refine W.widen (k := 1) (n := 9) (Nat.le_of_ble_eq_true rfl) (Nat.le_of_ble_eq_true rfl) ?_
  exact W.vret hx hb hr (fun t ht hW => ⟨⟨⟨q_1, k_2⟩, rfl, trivial, cB.mk ht hW (hP.sub [0, 1] rfl) (hK.sub [0] rfl) (hD.sub [0, 1] (by decide) rfl) (trivial)⟩, hS.F ht⟩) hS.2.2 dX10_init_12
