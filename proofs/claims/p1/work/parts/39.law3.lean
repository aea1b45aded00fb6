theorem dL_isTold_0 : decode cL_isTold 0 = .ok (.aload_n 3, 1) := by decide +kernel
theorem dL_isTold_1 : decode cL_isTold 1 = .ok (.iconst 0, 1) := by decide +kernel
theorem dL_isTold_2 : decode cL_isTold 2 = .ok (.aload_n 0, 1) := by decide +kernel
theorem dL_isTold_3 : decode cL_isTold 3 = .ok (.iload_n 1, 1) := by decide +kernel
theorem dL_isTold_4 : decode cL_isTold 4 = .ok (.iload_n 2, 1) := by decide +kernel
theorem dL_isTold_5 : decode cL_isTold 5 = .ok (.invokevirtual 121, 3) := by decide +kernel
theorem dL_isTold_20 : decode cL_isTold 20 = .ok (.astore 4, 2) := by decide +kernel
theorem dL_isTold_22 : decode cL_isTold 22 = .ok (.iconst 1, 1) := by decide +kernel
theorem dL_isTold_23 : decode cL_isTold 23 = .ok (.ireturn, 1) := by decide +kernel
theorem dL_isTold_24 : decode cL_isTold 24 = .ok (.astore 4, 2) := by decide +kernel
theorem dL_isTold_26 : decode cL_isTold 26 = .ok (.iconst 2, 1) := by decide +kernel
theorem dL_isTold_27 : decode cL_isTold 27 = .ok (.ireturn, 1) := by decide +kernel
theorem dL_comesOff_0 : decode cL_comesOff 0 = .ok (.aload_n 3, 1) := by decide +kernel
theorem dL_comesOff_1 : decode cL_comesOff 1 = .ok (.iconst 0, 1) := by decide +kernel
theorem dL_comesOff_2 : decode cL_comesOff 2 = .ok (.aload_n 0, 1) := by decide +kernel
theorem dL_comesOff_3 : decode cL_comesOff 3 = .ok (.iload_n 1, 1) := by decide +kernel
theorem dL_comesOff_4 : decode cL_comesOff 4 = .ok (.iload_n 2, 1) := by decide +kernel
theorem dL_comesOff_5 : decode cL_comesOff 5 = .ok (.invokevirtual 124, 3) := by decide +kernel
theorem dL_comesOff_13 : decode cL_comesOff 13 = .ok (.astore 4, 2) := by decide +kernel
theorem dL_comesOff_15 : decode cL_comesOff 15 = .ok (.iconst 1, 1) := by decide +kernel
theorem dL_comesOff_16 : decode cL_comesOff 16 = .ok (.ireturn, 1) := by decide +kernel
theorem dL_comesOff_17 : decode cL_comesOff 17 = .ok (.astore 4, 2) := by decide +kernel
theorem dL_comesOff_19 : decode cL_comesOff 19 = .ok (.iconst 2, 1) := by decide +kernel
theorem dL_comesOff_20 : decode cL_comesOff 20 = .ok (.ireturn, 1) := by decide +kernel
theorem dL_glue_0 : decode cL_glue 0 = .ok (.aload_n 3, 1) := by decide +kernel
theorem dL_glue_1 : decode cL_glue 1 = .ok (.iconst 0, 1) := by decide +kernel
theorem dL_glue_2 : decode cL_glue 2 = .ok (.aload_n 0, 1) := by decide +kernel
theorem dL_glue_3 : decode cL_glue 3 = .ok (.iload_n 1, 1) := by decide +kernel
theorem dL_glue_4 : decode cL_glue 4 = .ok (.iload_n 2, 1) := by decide +kernel
theorem dL_glue_5 : decode cL_glue 5 = .ok (.invokevirtual 127, 3) := by decide +kernel
theorem dL_glue_13 : decode cL_glue 13 = .ok (.astore 4, 2) := by decide +kernel
theorem dL_glue_15 : decode cL_glue 15 = .ok (.iconst 1, 1) := by decide +kernel
theorem dL_glue_16 : decode cL_glue 16 = .ok (.ireturn, 1) := by decide +kernel
theorem dL_glue_8 : decode cL_glue 8 = .ok (.i2l, 1) := by decide +kernel
theorem dL_glue_9 : decode cL_glue 9 = .ok (.lastore, 1) := by decide +kernel
theorem dL_glue_10 : decode cL_glue 10 = .ok (.goto 11, 3) := by decide +kernel
theorem dL_glue_21 : decode cL_glue 21 = .ok (.iconst 0, 1) := by decide +kernel
theorem dL_glue_22 : decode cL_glue 22 = .ok (.ireturn, 1) := by decide +kernel
theorem dL_threads_0 : decode cL_threads 0 = .ok (.aload_n 2, 1) := by decide +kernel
theorem dL_threads_1 : decode cL_threads 1 = .ok (.iconst 0, 1) := by decide +kernel
theorem dL_threads_2 : decode cL_threads 2 = .ok (.aload_n 0, 1) := by decide +kernel
theorem dL_threads_3 : decode cL_threads 3 = .ok (.iload_n 1, 1) := by decide +kernel
theorem dL_threads_4 : decode cL_threads 4 = .ok (.invokevirtual 130, 3) := by decide +kernel
theorem dL_threads_12 : decode cL_threads 12 = .ok (.astore_n 3, 1) := by decide +kernel
theorem dL_threads_13 : decode cL_threads 13 = .ok (.iconst 1, 1) := by decide +kernel
theorem dL_threads_14 : decode cL_threads 14 = .ok (.ireturn, 1) := by decide +kernel
theorem dL_threads_7 : decode cL_threads 7 = .ok (.i2l, 1) := by decide +kernel
theorem dL_threads_8 : decode cL_threads 8 = .ok (.lastore, 1) := by decide +kernel
theorem dL_threads_9 : decode cL_threads 9 = .ok (.goto 6, 3) := by decide +kernel
theorem dL_threads_15 : decode cL_threads 15 = .ok (.iconst 0, 1) := by decide +kernel
theorem dL_threads_16 : decode cL_threads 16 = .ok (.ireturn, 1) := by decide +kernel
theorem dL_ballot_0 : decode cL_ballot 0 = .ok (.aload_n 3, 1) := by decide +kernel
theorem dL_ballot_1 : decode cL_ballot 1 = .ok (.iconst 0, 1) := by decide +kernel
theorem dL_ballot_2 : decode cL_ballot 2 = .ok (.aload_n 0, 1) := by decide +kernel
theorem dL_ballot_3 : decode cL_ballot 3 = .ok (.iload_n 1, 1) := by decide +kernel
theorem dL_ballot_4 : decode cL_ballot 4 = .ok (.iload_n 2, 1) := by decide +kernel
theorem dL_ballot_5 : decode cL_ballot 5 = .ok (.invokevirtual 133, 3) := by decide +kernel
theorem dL_ballot_13 : decode cL_ballot 13 = .ok (.astore 4, 2) := by decide +kernel
theorem dL_ballot_15 : decode cL_ballot 15 = .ok (.iconst 1, 1) := by decide +kernel
theorem dL_ballot_16 : decode cL_ballot 16 = .ok (.ireturn, 1) := by decide +kernel
theorem dL_ballot_8 : decode cL_ballot 8 = .ok (.i2l, 1) := by decide +kernel
theorem dL_ballot_9 : decode cL_ballot 9 = .ok (.lastore, 1) := by decide +kernel
theorem dL_ballot_10 : decode cL_ballot 10 = .ok (.goto 11, 3) := by decide +kernel
theorem dL_ballot_21 : decode cL_ballot 21 = .ok (.iconst 0, 1) := by decide +kernel
theorem dL_ballot_22 : decode cL_ballot 22 = .ok (.ireturn, 1) := by decide +kernel
theorem dL_winner_0 : decode cL_winner 0 = .ok (.aload_n 1, 1) := by decide +kernel
theorem dL_winner_1 : decode cL_winner 1 = .ok (.iconst 0, 1) := by decide +kernel
theorem dL_winner_2 : decode cL_winner 2 = .ok (.aload_n 0, 1) := by decide +kernel
theorem dL_winner_3 : decode cL_winner 3 = .ok (.invokevirtual 137, 3) := by decide +kernel
theorem dL_winner_11 : decode cL_winner 11 = .ok (.astore_n 2, 1) := by decide +kernel
theorem dL_winner_12 : decode cL_winner 12 = .ok (.iconst 1, 1) := by decide +kernel
theorem dL_winner_13 : decode cL_winner 13 = .ok (.ireturn, 1) := by decide +kernel
theorem dL_leg_0 : decode cL_leg 0 = .ok (.aload_n 3, 1) := by decide +kernel
theorem dL_leg_1 : decode cL_leg 1 = .ok (.iconst 0, 1) := by decide +kernel
theorem dL_leg_2 : decode cL_leg 2 = .ok (.aload_n 0, 1) := by decide +kernel
theorem dL_leg_3 : decode cL_leg 3 = .ok (.iload_n 1, 1) := by decide +kernel
theorem dL_leg_4 : decode cL_leg 4 = .ok (.iload_n 2, 1) := by decide +kernel
theorem dL_leg_5 : decode cL_leg 5 = .ok (.invokevirtual 141, 3) := by decide +kernel
theorem dL_leg_13 : decode cL_leg 13 = .ok (.astore 4, 2) := by decide +kernel
theorem dL_leg_15 : decode cL_leg 15 = .ok (.iconst 1, 1) := by decide +kernel
theorem dL_leg_16 : decode cL_leg 16 = .ok (.ireturn, 1) := by decide +kernel
theorem dL_leg_8 : decode cL_leg 8 = .ok (.i2l, 1) := by decide +kernel
theorem dL_leg_9 : decode cL_leg 9 = .ok (.lastore, 1) := by decide +kernel
theorem dL_leg_10 : decode cL_leg 10 = .ok (.goto 11, 3) := by decide +kernel
theorem dL_leg_21 : decode cL_leg 21 = .ok (.iconst 0, 1) := by decide +kernel
theorem dL_leg_22 : decode cL_leg 22 = .ok (.ireturn, 1) := by decide +kernel
theorem dL_lend_0 : decode cL_lend 0 = .ok (.aload_n 1, 1) := by decide +kernel
theorem dL_lend_1 : decode cL_lend 1 = .ok (.iconst 0, 1) := by decide +kernel
theorem dL_lend_2 : decode cL_lend 2 = .ok (.aload_n 0, 1) := by decide +kernel
theorem dL_lend_3 : decode cL_lend 3 = .ok (.invokevirtual 144, 3) := by decide +kernel
theorem dL_lend_11 : decode cL_lend 11 = .ok (.astore_n 2, 1) := by decide +kernel
theorem dL_lend_12 : decode cL_lend 12 = .ok (.iconst 1, 1) := by decide +kernel
theorem dL_lend_13 : decode cL_lend 13 = .ok (.ireturn, 1) := by decide +kernel
theorem dL_actAt_0 : decode cL_actAt 0 = .ok (.aload_n 2, 1) := by decide +kernel
theorem dL_actAt_1 : decode cL_actAt 1 = .ok (.iconst 0, 1) := by decide +kernel
theorem dL_actAt_2 : decode cL_actAt 2 = .ok (.aload_n 0, 1) := by decide +kernel
theorem dL_actAt_3 : decode cL_actAt 3 = .ok (.iload_n 1, 1) := by decide +kernel
theorem dL_actAt_4 : decode cL_actAt 4 = .ok (.invokevirtual 147, 3) := by decide +kernel
theorem dL_actAt_12 : decode cL_actAt 12 = .ok (.astore_n 3, 1) := by decide +kernel
theorem dL_actAt_13 : decode cL_actAt 13 = .ok (.iconst 1, 1) := by decide +kernel
theorem dL_actAt_14 : decode cL_actAt 14 = .ok (.ireturn, 1) := by decide +kernel
theorem dL_takeBack_0 : decode cL_takeBack 0 = .ok (.aload_n 2, 1) := by decide +kernel
theorem dL_takeBack_1 : decode cL_takeBack 1 = .ok (.iconst 0, 1) := by decide +kernel
theorem dL_takeBack_2 : decode cL_takeBack 2 = .ok (.aload_n 0, 1) := by decide +kernel
theorem dL_takeBack_3 : decode cL_takeBack 3 = .ok (.iload_n 1, 1) := by decide +kernel
theorem dL_takeBack_4 : decode cL_takeBack 4 = .ok (.invokevirtual 151, 3) := by decide +kernel
theorem dL_takeBack_12 : decode cL_takeBack 12 = .ok (.astore_n 3, 1) := by decide +kernel
theorem dL_takeBack_13 : decode cL_takeBack 13 = .ok (.iconst 1, 1) := by decide +kernel
theorem dL_takeBack_14 : decode cL_takeBack 14 = .ok (.ireturn, 1) := by decide +kernel
theorem dL_meanTone_0 : decode cL_meanTone 0 = .ok (.aload_n 1, 1) := by decide +kernel
theorem dL_meanTone_1 : decode cL_meanTone 1 = .ok (.iconst 0, 1) := by decide +kernel
theorem dL_meanTone_2 : decode cL_meanTone 2 = .ok (.aload_n 0, 1) := by decide +kernel
theorem dL_meanTone_3 : decode cL_meanTone 3 = .ok (.invokevirtual 154, 3) := by decide +kernel
theorem dL_meanTone_10 : decode cL_meanTone 10 = .ok (.astore_n 2, 1) := by decide +kernel
theorem dL_meanTone_11 : decode cL_meanTone 11 = .ok (.iconst 1, 1) := by decide +kernel
theorem dL_meanTone_12 : decode cL_meanTone 12 = .ok (.ireturn, 1) := by decide +kernel
theorem dL_stuff_0 : decode cL_stuff 0 = .ok (.aload 10, 2) := by decide +kernel
theorem dL_stuff_2 : decode cL_stuff 2 = .ok (.iconst 0, 1) := by decide +kernel
theorem dL_stuff_3 : decode cL_stuff 3 = .ok (.aload_n 0, 1) := by decide +kernel
theorem dL_stuff_4 : decode cL_stuff 4 = .ok (.iload_n 1, 1) := by decide +kernel
theorem dL_stuff_5 : decode cL_stuff 5 = .ok (.iload_n 2, 1) := by decide +kernel
theorem dL_stuff_6 : decode cL_stuff 6 = .ok (.iload_n 3, 1) := by decide +kernel
theorem dL_stuff_7 : decode cL_stuff 7 = .ok (.iload 4, 2) := by decide +kernel
theorem dL_stuff_9 : decode cL_stuff 9 = .ok (.iload 5, 2) := by decide +kernel
theorem dL_stuff_11 : decode cL_stuff 11 = .ok (.iload 6, 2) := by decide +kernel
theorem dL_stuff_13 : decode cL_stuff 13 = .ok (.iload 7, 2) := by decide +kernel
theorem dL_stuff_15 : decode cL_stuff 15 = .ok (.iload 8, 2) := by decide +kernel
theorem dL_stuff_17 : decode cL_stuff 17 = .ok (.iload 9, 2) := by decide +kernel
theorem dL_stuff_19 : decode cL_stuff 19 = .ok (.invokevirtual 7, 3) := by decide +kernel
theorem dL_stuff_27 : decode cL_stuff 27 = .ok (.astore 11, 2) := by decide +kernel
theorem dL_stuff_29 : decode cL_stuff 29 = .ok (.iconst 1, 1) := by decide +kernel
theorem dL_stuff_30 : decode cL_stuff 30 = .ok (.ireturn, 1) := by decide +kernel
theorem dL_stuff_22 : decode cL_stuff 22 = .ok (.i2l, 1) := by decide +kernel
theorem dL_stuff_23 : decode cL_stuff 23 = .ok (.lastore, 1) := by decide +kernel
theorem dL_stuff_24 : decode cL_stuff 24 = .ok (.goto 11, 3) := by decide +kernel
theorem dL_stuff_35 : decode cL_stuff 35 = .ok (.iconst 0, 1) := by decide +kernel
theorem dL_stuff_36 : decode cL_stuff 36 = .ok (.ireturn, 1) := by decide +kernel

def wo_c_L_isTold_w : List Cond := [Cond.codeWith yL_isTold cL_isTold 5 (some .int) [(0, 17, 20, 13), (0, 17, 24, 37)], Cond.classLink RL 13 "java/lang/IllegalArgumentException", Cond.classLink RL 37 "java/util/NoSuchElementException"]
def wo_c_L_isTold : List Cond := .codeWith yL_isTold cL_isTold 5 (some .int) [(0, 17, 20, 13), (0, 17, 24, 37)] :: (wo_c_L_isTold_w ++ (wsV RL 121 RX11 yX11_isTold wo_c_X11_isTold ++ List.nil))
theorem gw_wo_c_L_isTold : wo_c_L_isTold.all goodWord = true := gw_c (by decide +kernel) (gw_a (by decide +kernel) (gw_a (gw_a (by decide +kernel) gw_wo_c_X11_isTold) rfl))
theorem go_c_L_isTold_0 : GoodIn wo_c_L_isTold (wsV RL 121 RX11 yX11_isTold wo_c_X11_isTold) := goodIn_sub (fun _ h => List.mem_cons_of_mem _ (List.mem_append_right _ (List.mem_append_left _ h))) (gw_a (by decide +kernel) gw_wo_c_X11_isTold)
set_option maxHeartbeats 4000000 in
set_option maxRecDepth 100000 in
/-- the law: isTold -/
theorem c_L_isTold (l : Launch) (hst : l.stackTraces = false) (dC : Nat → ClassId) (dI : Nat → Nat → Nat) (b0 : Nat) (en : EnT) (sz : Nat) (h pal she fil nte dat vot loa nos pic spa : Nat) (st sp ll : Nat) (g : Nat → Option Nat) (cS : ClassId) (N : Nat → Prop) (x y : Int32) (out : Nat) (hNb : ∀ a, N a → b0 ≤ a ∧ a < sz) (hNw : ∀ a, N a → a ∉ List.map Prod.fst ([] : va_W)) (hNr : ∀ a, N a → a ∉ List.map Prod.fst ([(h, .inr (17, [.ref pal, .ref she, .ref fil, .ref nte, .ref dat, .ref vot, .ref loa, .ref nos, .ref pic, .ref spa, .int 5, .int 50, .int 1600, .int 0])), (pic, .inr (11, [.ref st, .ref sp, .ref ll, .int 0, .int 1600])), (st, .inl (cS, 48, .inr (.inr (.inr (.inr g)))))] : va_W)) : vx_Met l yL_isTold wo_c_L_isTold ({ frames := 8, cells := 2, slots := 12, locals := 134 } : Room) (cP b0 en (dC, dI) [(cS, .object "Underpaint$Stack")] [] [(h, .inr (17, [.ref pal, .ref she, .ref fil, .ref nte, .ref dat, .ref vot, .ref loa, .ref nos, .ref pic, .ref spa, .int 5, .int 50, .int 1600, .int 0])), (pic, .inr (11, [.ref st, .ref sp, .ref ll, .int 0, .int 1600])), (st, .inl (cS, 48, .inr (.inr (.inr (.inr g)))))] sz (FamS (dC, dI) N g) [.ref h, .int x, .int y, .ref out]) (va_Qi (fun (r : Int32) (u : Unit) => (r = 1 ∧ (¬ ((0 ≤ x ∧ x < 8) ∧ (0 ≤ y ∧ y < 6)))) ∨ (r = 2 ∧ ((0 ≤ x ∧ x < 8) ∧ (0 ≤ y ∧ y < 6)))) (fun u t => cB (dC, dI) [] [] (va_A [] sz) (fun _ => True) t) (va_A [] sz)) (vx_X (fun _ : Unit => True) (fun E _ _ => (E = "none" ∧ False)) (va_A [] sz)) 2 12 (va_A [] sz) := by
  refine vx_ofWH (cc := cL_isTold) (maxL := 5) (ret := (some .int)) (hh := [(0, 17, 20, 13), (0, 17, 24, 37)]) (by decide) rfl ?_
  intro p e s m args below meth c s₁ B hml hv
  obtain ⟨rfl, hsz, hb0, hE, hPP, hK, hDD, hF0⟩ := hv
  have hx := B.exec
  have hb := B.bytes
  have hr := B.returns
  have hts := atoms_spec (ws := wo_c_L_isTold) B.pre
  have hown : s.vm.findClass RL = some m.cls := findClass_of_methodNamed B.named
  have hlocks := B.notSynchronized
  subst hsz
  have hN0 := en_N hPP hDD rfl
  have hP : va_P (dC, dI) vwCl [] s.heap := hPP.sub [] rfl
  have hR0 : va_P (dC, dI) vwCl [(h, .inr (17, [.ref pal, .ref she, .ref fil, .ref nte, .ref dat, .ref vot, .ref loa, .ref nos, .ref pic, .ref spa, .int 5, .int 50, .int 1600, .int 0])), (pic, .inr (11, [.ref st, .ref sp, .ref ll, .int 0, .int 1600])), (st, .inl (cS, 48, .inr (.inr (.inr (.inr g)))))] s.heap := hPP.sub [0, 1, 2] rfl
  have hD0 : va_D (fun q => b0 ≤ q) [] := hDD.sub [] (by decide) rfl
  have hDr : va_D (fun q => b0 ≤ q) [(h, .inr (17, [.ref pal, .ref she, .ref fil, .ref nte, .ref dat, .ref vot, .ref loa, .ref nos, .ref pic, .ref spa, .int 5, .int 50, .int 1600, .int 0])), (pic, .inr (11, [.ref st, .ref sp, .ref ll, .int 0, .int 1600])), (st, .inl (cS, 48, .inr (.inr (.inr (.inr g)))))] := hDD.sub [0, 1, 2] (by decide) rfl
  have hAb := en_A (sz := s.heap.size) hD0 hb0
  have hD := hD0.self (sz := s.heap.size)
  generalize hAe : va_A [] s.heap.size = A at hD hAb hN0 ⊢
  have hA : ∀ q : Nat, s.heap.size ≤ q → A q := fun q h => by rw [← hAe]; exact Or.inr h
  have hS : va_S A s.heap s.heap [] := va_S.rf
  have hR := hR0
  have hl := lv_entry [.ref h, .int x, .int y, .ref out] (n := 5) (Nat.le_of_ble_eq_true rfl)
  rw [lg_entry_eq]
  generalize (lg_sl [.ref h, .int x, .int y, .ref out] ++ List.replicate (5 - (lg_sl [.ref h, .int x, .int y, .ref out]).length) Slot.unset).toArray = ls at hl ⊢
  have hl : lv_has ls 5 [(0, .ref h), (1, .int x), (2, .int y), (3, .ref out)] := hl
  have hTab := vx_table (x := yL_isTold) B (hts (.codeWith yL_isTold cL_isTold 5 (some .int) [(0, 17, 20, 13), (0, 17, 24, 37)]) (by decide +kernel))
  have hR0b := hR0
  have hDrb := hDr
  have hN0b := hN0
  refine lv_aload_n hx hb dL_isTold_0 rfl (lv_at hl 3 rfl) ?_
  refine lv_iconst (v := 0) hx hb dL_isTold_1 (by decide) ?_
  refine lv_aload_n hx hb dL_isTold_2 rfl (lv_at hl 0 rfl) ?_
  refine lv_iload_n hx hb dL_isTold_3 rfl (lv_at hl 1 rfl) ?_
  refine lv_iload_n hx hb dL_isTold_4 rfl (lv_at hl 2 rfl) ?_
  have hPc := (hP.app hR).sub (ws' := [] ++ [(h, .inr (17, [.ref pal, .ref she, .ref fil, .ref nte, .ref dat, .ref vot, .ref loa, .ref nos, .ref pic, .ref spa, .int 5, .int 50, .int 1600, .int 0])), (pic, .inr (11, [.ref st, .ref sp, .ref ll, .int 0, .int 1600])), (st, .inl (cS, 48, .inr (.inr (.inr (.inr g)))))]) [0, 1, 2] rfl
  have hDc := (en_DD hD hDr hN0 hAb).sub (ws' := [] ++ [(h, .inr (17, [.ref pal, .ref she, .ref fil, .ref nte, .ref dat, .ref vot, .ref loa, .ref nos, .ref pic, .ref spa, .int 5, .int 50, .int 1600, .int 0])), (pic, .inr (11, [.ref st, .ref sp, .ref ll, .int 0, .int 1600])), (st, .inl (cS, 48, .inr (.inr (.inr (.inr g)))))]) [0, 1, 2] (by decide) rfl
  have hKc := hK.sub (tys' := [(cS, .object "Underpaint$Stack")]) [0] rfl
  have hFc := va_free (wc := []) hD hS hA [] rfl
  refine vx_calli (vx_runV (As := [.int x, .int y]) (rest := [.int 0, .ref out]) ⟨hx, hb, hml, hown, hts⟩ (c_X11_isTold l hst dC dI b0 en s.heap.size h pal she fil nte dat vot loa nos pic spa st sp ll g cS N x y (fun a9 h9 => ⟨(hNb a9 h9).1, Nat.lt_of_lt_of_le (hNb a9 h9).2 hS.1⟩) (fun a9 h9 z9 => by have g1 := hNw a9 h9; have g2 := hNr a9 h9; have g3 := (hNb a9 h9).2; simp only [List.map_cons, List.map_nil, List.mem_cons, List.not_mem_nil, or_false, not_or] at g1 g2 z9 <;> omega) (fun a9 h9 z9 => by have g1 := hNw a9 h9; have g2 := hNr a9 h9; have g3 := (hNb a9 h9).2; simp only [List.map_cons, List.map_nil, List.mem_cons, List.not_mem_nil, or_false, not_or] at g1 g2 z9 <;> omega)) (cwV 2 hts go_c_L_isTold_0 rfl rfl rfl (by decide +kernel) ⟨Nat.le_of_ble_eq_true rfl, Nat.le_of_ble_eq_true rfl⟩) ⟨cP.blind, va_recv hK hR (ci := 17) (q0 := 0) rfl rfl, cP.use (en_z hb0 hS) (hE.on hAb hS) hPc hKc hDc (hF0.on (fun a9 h8 h9 => by rw [← hAe]; exact vA1 h8 (hNw a9 h9)) hS)⟩ rfl rfl hl.1 rfl (lv_room (Nat.le_of_ble_eq_true rfl)) dL_isTold_5 ⟨Nat.le_of_ble_eq_true rfl, Nat.le_of_ble_eq_true rfl⟩) hS (fun q _ h => hFc q h) hFc (fun q _ h => hFc q h) (fun E ce q9 u t H1 locs ht hvm hpx hBX hz1 hk1 hS hce hcv hcl => ?_) (fun r_1 u t H1 locs ht hvm hw hB hz1 hk1 hS => ?_)
  · skip
    try dsimp only at hBX
    rcases hBX with ⟨rfl, hc⟩ | ⟨rfl, hc⟩
    · skip
      have hP1 : va_P (dC, dI) vwCl [] H1 := fun k q h => by simp at h
      have hD1 : va_D (va_A [] s.heap.size) [] := ⟨fun i j p q h => by simp at h, fun k q h => by simp at h⟩
      obtain ⟨hP, hD⟩ := va_join (wr := []) (w1 := []) hP hD [] [] rfl rfl (by decide) (by decide) hk1 hFc hP1 hD1
      generalize H1 = H at hP hS hce ⊢
      have hP : va_P (dC, dI) vwCl [] H := hP
      have hD : va_D A [] := hD
      have hR := en_R hR0 hN0 hS
      refine vx_catch (own := RL) (name := "java/lang/IllegalArgumentException") (E := "java/lang/IllegalArgumentException") hown [] ⟨0, 17, 20, 13⟩ [⟨0, 17, 24, 37⟩] hTab (fun _ h9 => absurd h9 List.not_mem_nil) (by decide) (by decide) (hts (.classLink RL 13 "java/lang/IllegalArgumentException") (by decide +kernel)) (va_Nw.use rfl (hE.cast (by decide))) hce hcv hcl ?_
      refine lv_astore (lv' := [(4, .ref q9), (0, .ref h), (1, .int x), (2, .int y), (3, .ref out)]) hx hb dL_isTold_20 hl (by decide) rfl (fun ls hl => ?_)
      refine lv_iconst (v := 1) hx hb dL_isTold_22 (by decide) ?_
      refine W.widen (k := 2) (n := 12) (Nat.le_of_ble_eq_true rfl) (Nat.le_of_ble_eq_true rfl) ?_
      refine vx_ret ?_
      exact W.iret (v := 1) hx hb hr (fun t ht hW => ⟨⟨1, (), rfl, (z_c_L_guessAt_436 x y hc), cB.mk ht hW (hP.sub [] rfl) (hK.sub [] rfl) (hD.sub [] (by decide) rfl) (trivial)⟩, hS.F ht⟩) hS.2.2 dL_isTold_23
    · skip
      have hP1 : va_P (dC, dI) vwCl [] H1 := fun k q h => by simp at h
      have hD1 : va_D (va_A [] s.heap.size) [] := ⟨fun i j p q h => by simp at h, fun k q h => by simp at h⟩
      obtain ⟨hP, hD⟩ := va_join (wr := []) (w1 := []) hP hD [] [] rfl rfl (by decide) (by decide) hk1 hFc hP1 hD1
      generalize H1 = H at hP hS hce ⊢
      have hP : va_P (dC, dI) vwCl [] H := hP
      have hD : va_D A [] := hD
      have hR := en_R hR0 hN0 hS
      refine vx_catch (own := RL) (name := "java/util/NoSuchElementException") (E := "java/util/NoSuchElementException") hown [⟨0, 17, 20, 13⟩] ⟨0, 17, 24, 37⟩ [] hTab (List.forall_mem_cons.mpr ⟨Or.inr ⟨by decide, "java/lang/IllegalArgumentException", hts (.classLink RL 13 "java/lang/IllegalArgumentException") (by decide +kernel), hE.nocast (by decide) (by decide) (by decide)⟩, (fun _ h9 => absurd h9 List.not_mem_nil)⟩) (by decide) (by decide) (hts (.classLink RL 37 "java/util/NoSuchElementException") (by decide +kernel)) (va_Nw.use rfl (hE.cast (by decide))) hce hcv hcl ?_
      refine lv_astore (lv' := [(4, .ref q9), (0, .ref h), (1, .int x), (2, .int y), (3, .ref out)]) hx hb dL_isTold_24 hl (by decide) rfl (fun ls hl => ?_)
      refine lv_iconst (v := 2) hx hb dL_isTold_26 (by decide) ?_
      refine W.widen (k := 2) (n := 12) (Nat.le_of_ble_eq_true rfl) (Nat.le_of_ble_eq_true rfl) ?_
      refine vx_ret ?_
      exact W.iret (v := 2) hx hb hr (fun t ht hW => ⟨⟨2, (), rfl, (z_c_L_guessAt_437 x y hc), cB.mk ht hW (hP.sub [] rfl) (hK.sub [] rfl) (hD.sub [] (by decide) rfl) (trivial)⟩, hS.F ht⟩) hS.2.2 dL_isTold_27
  exact (show False from hw).elim

def wo_c_L_comesOff_w : List Cond := [Cond.codeWith yL_comesOff cL_comesOff 5 (some .int) [(0, 10, 13, 13), (0, 10, 17, 37)], Cond.classLink RL 13 "java/lang/IllegalArgumentException", Cond.classLink RL 37 "java/util/NoSuchElementException"]
def wo_c_L_comesOff : List Cond := .codeWith yL_comesOff cL_comesOff 5 (some .int) [(0, 10, 13, 13), (0, 10, 17, 37)] :: (wo_c_L_comesOff_w ++ (wsV RL 124 RX11 yX11_comesOff wo_c_X11_comesOff ++ List.nil))
theorem gw_wo_c_L_comesOff : wo_c_L_comesOff.all goodWord = true := gw_c (by decide +kernel) (gw_a (by decide +kernel) (gw_a (gw_a (by decide +kernel) gw_wo_c_X11_comesOff) rfl))
theorem go_c_L_comesOff_0 : GoodIn wo_c_L_comesOff (wsV RL 124 RX11 yX11_comesOff wo_c_X11_comesOff) := goodIn_sub (fun _ h => List.mem_cons_of_mem _ (List.mem_append_right _ (List.mem_append_left _ h))) (gw_a (by decide +kernel) gw_wo_c_X11_comesOff)
set_option maxHeartbeats 4000000 in
set_option maxRecDepth 100000 in
/-- the law: comesOff -/
theorem c_L_comesOff (l : Launch) (hst : l.stackTraces = false) (dC : Nat → ClassId) (dI : Nat → Nat → Nat) (b0 : Nat) (en : EnT) (sz : Nat) (h pal she fil nte dat vot loa nos pic spa : Nat) (st sp ll : Nat) (g : Nat → Option Nat) (cS : ClassId) (N : Nat → Prop) (x y : Int32) (out : Nat) (hNb : ∀ a, N a → b0 ≤ a ∧ a < sz) (hNw : ∀ a, N a → a ∉ List.map Prod.fst ([] : va_W)) (hNr : ∀ a, N a → a ∉ List.map Prod.fst ([(h, .inr (17, [.ref pal, .ref she, .ref fil, .ref nte, .ref dat, .ref vot, .ref loa, .ref nos, .ref pic, .ref spa, .int 5, .int 50, .int 1600, .int 0])), (pic, .inr (11, [.ref st, .ref sp, .ref ll, .int 0, .int 1600])), (st, .inl (cS, 48, .inr (.inr (.inr (.inr g)))))] : va_W)) : vx_Met l yL_comesOff wo_c_L_comesOff ({ frames := 8, cells := 2, slots := 12, locals := 135 } : Room) (cP b0 en (dC, dI) [(cS, .object "Underpaint$Stack")] [] [(h, .inr (17, [.ref pal, .ref she, .ref fil, .ref nte, .ref dat, .ref vot, .ref loa, .ref nos, .ref pic, .ref spa, .int 5, .int 50, .int 1600, .int 0])), (pic, .inr (11, [.ref st, .ref sp, .ref ll, .int 0, .int 1600])), (st, .inl (cS, 48, .inr (.inr (.inr (.inr g)))))] sz (FamS (dC, dI) N g) [.ref h, .int x, .int y, .ref out]) (va_Qi (fun (r : Int32) (u : Unit) => (r = 1 ∧ (¬ ((0 ≤ x ∧ x < 8) ∧ (0 ≤ y ∧ y < 6)))) ∨ (r = 2 ∧ ((0 ≤ x ∧ x < 8) ∧ (0 ≤ y ∧ y < 6)))) (fun u t => cB (dC, dI) [] [] (va_A [] sz) (fun _ => True) t) (va_A [] sz)) (vx_X (fun _ : Unit => True) (fun E _ _ => (E = "none" ∧ False)) (va_A [] sz)) 2 12 (va_A [] sz) := by
  refine vx_ofWH (cc := cL_comesOff) (maxL := 5) (ret := (some .int)) (hh := [(0, 10, 13, 13), (0, 10, 17, 37)]) (by decide) rfl ?_
  intro p e s m args below meth c s₁ B hml hv
  obtain ⟨rfl, hsz, hb0, hE, hPP, hK, hDD, hF0⟩ := hv
  have hx := B.exec
  have hb := B.bytes
  have hr := B.returns
  have hts := atoms_spec (ws := wo_c_L_comesOff) B.pre
  have hown : s.vm.findClass RL = some m.cls := findClass_of_methodNamed B.named
  have hlocks := B.notSynchronized
  subst hsz
  have hN0 := en_N hPP hDD rfl
  have hP : va_P (dC, dI) vwCl [] s.heap := hPP.sub [] rfl
  have hR0 : va_P (dC, dI) vwCl [(h, .inr (17, [.ref pal, .ref she, .ref fil, .ref nte, .ref dat, .ref vot, .ref loa, .ref nos, .ref pic, .ref spa, .int 5, .int 50, .int 1600, .int 0])), (pic, .inr (11, [.ref st, .ref sp, .ref ll, .int 0, .int 1600])), (st, .inl (cS, 48, .inr (.inr (.inr (.inr g)))))] s.heap := hPP.sub [0, 1, 2] rfl
  have hD0 : va_D (fun q => b0 ≤ q) [] := hDD.sub [] (by decide) rfl
  have hDr : va_D (fun q => b0 ≤ q) [(h, .inr (17, [.ref pal, .ref she, .ref fil, .ref nte, .ref dat, .ref vot, .ref loa, .ref nos, .ref pic, .ref spa, .int 5, .int 50, .int 1600, .int 0])), (pic, .inr (11, [.ref st, .ref sp, .ref ll, .int 0, .int 1600])), (st, .inl (cS, 48, .inr (.inr (.inr (.inr g)))))] := hDD.sub [0, 1, 2] (by decide) rfl
  have hAb := en_A (sz := s.heap.size) hD0 hb0
  have hD := hD0.self (sz := s.heap.size)
  generalize hAe : va_A [] s.heap.size = A at hD hAb hN0 ⊢
  have hA : ∀ q : Nat, s.heap.size ≤ q → A q := fun q h => by rw [← hAe]; exact Or.inr h
  have hS : va_S A s.heap s.heap [] := va_S.rf
  have hR := hR0
  have hl := lv_entry [.ref h, .int x, .int y, .ref out] (n := 5) (Nat.le_of_ble_eq_true rfl)
  rw [lg_entry_eq]
  generalize (lg_sl [.ref h, .int x, .int y, .ref out] ++ List.replicate (5 - (lg_sl [.ref h, .int x, .int y, .ref out]).length) Slot.unset).toArray = ls at hl ⊢
  have hl : lv_has ls 5 [(0, .ref h), (1, .int x), (2, .int y), (3, .ref out)] := hl
  have hTab := vx_table (x := yL_comesOff) B (hts (.codeWith yL_comesOff cL_comesOff 5 (some .int) [(0, 10, 13, 13), (0, 10, 17, 37)]) (by decide +kernel))
  have hR0b := hR0
  have hDrb := hDr
  have hN0b := hN0
  refine lv_aload_n hx hb dL_comesOff_0 rfl (lv_at hl 3 rfl) ?_
  refine lv_iconst (v := 0) hx hb dL_comesOff_1 (by decide) ?_
  refine lv_aload_n hx hb dL_comesOff_2 rfl (lv_at hl 0 rfl) ?_
  refine lv_iload_n hx hb dL_comesOff_3 rfl (lv_at hl 1 rfl) ?_
  refine lv_iload_n hx hb dL_comesOff_4 rfl (lv_at hl 2 rfl) ?_
  have hPc := (hP.app hR).sub (ws' := [] ++ [(h, .inr (17, [.ref pal, .ref she, .ref fil, .ref nte, .ref dat, .ref vot, .ref loa, .ref nos, .ref pic, .ref spa, .int 5, .int 50, .int 1600, .int 0])), (pic, .inr (11, [.ref st, .ref sp, .ref ll, .int 0, .int 1600])), (st, .inl (cS, 48, .inr (.inr (.inr (.inr g)))))]) [0, 1, 2] rfl
  have hDc := (en_DD hD hDr hN0 hAb).sub (ws' := [] ++ [(h, .inr (17, [.ref pal, .ref she, .ref fil, .ref nte, .ref dat, .ref vot, .ref loa, .ref nos, .ref pic, .ref spa, .int 5, .int 50, .int 1600, .int 0])), (pic, .inr (11, [.ref st, .ref sp, .ref ll, .int 0, .int 1600])), (st, .inl (cS, 48, .inr (.inr (.inr (.inr g)))))]) [0, 1, 2] (by decide) rfl
  have hKc := hK.sub (tys' := [(cS, .object "Underpaint$Stack")]) [0] rfl
  have hFc := va_free (wc := []) hD hS hA [] rfl
  refine vx_calli (vx_runV (As := [.int x, .int y]) (rest := [.int 0, .ref out]) ⟨hx, hb, hml, hown, hts⟩ (c_X11_comesOff l hst dC dI b0 en s.heap.size h pal she fil nte dat vot loa nos pic spa st sp ll g cS N x y (fun a9 h9 => ⟨(hNb a9 h9).1, Nat.lt_of_lt_of_le (hNb a9 h9).2 hS.1⟩) (fun a9 h9 z9 => by have g1 := hNw a9 h9; have g2 := hNr a9 h9; have g3 := (hNb a9 h9).2; simp only [List.map_cons, List.map_nil, List.mem_cons, List.not_mem_nil, or_false, not_or] at g1 g2 z9 <;> omega) (fun a9 h9 z9 => by have g1 := hNw a9 h9; have g2 := hNr a9 h9; have g3 := (hNb a9 h9).2; simp only [List.map_cons, List.map_nil, List.mem_cons, List.not_mem_nil, or_false, not_or] at g1 g2 z9 <;> omega)) (cwV 2 hts go_c_L_comesOff_0 rfl rfl rfl (by decide +kernel) ⟨Nat.le_of_ble_eq_true rfl, Nat.le_of_ble_eq_true rfl⟩) ⟨cP.blind, va_recv hK hR (ci := 17) (q0 := 0) rfl rfl, cP.use (en_z hb0 hS) (hE.on hAb hS) hPc hKc hDc (hF0.on (fun a9 h8 h9 => by rw [← hAe]; exact vA1 h8 (hNw a9 h9)) hS)⟩ rfl rfl hl.1 rfl (lv_room (Nat.le_of_ble_eq_true rfl)) dL_comesOff_5 ⟨Nat.le_of_ble_eq_true rfl, Nat.le_of_ble_eq_true rfl⟩) hS (fun q _ h => hFc q h) hFc (fun q _ h => hFc q h) (fun E ce q9 u t H1 locs ht hvm hpx hBX hz1 hk1 hS hce hcv hcl => ?_) (fun r_1 u t H1 locs ht hvm hw hB hz1 hk1 hS => ?_)
  · skip
    try dsimp only at hBX
    rcases hBX with ⟨rfl, hc⟩ | ⟨rfl, hc⟩
    · skip
      have hP1 : va_P (dC, dI) vwCl [] H1 := fun k q h => by simp at h
      have hD1 : va_D (va_A [] s.heap.size) [] := ⟨fun i j p q h => by simp at h, fun k q h => by simp at h⟩
      obtain ⟨hP, hD⟩ := va_join (wr := []) (w1 := []) hP hD [] [] rfl rfl (by decide) (by decide) hk1 hFc hP1 hD1
      generalize H1 = H at hP hS hce ⊢
      have hP : va_P (dC, dI) vwCl [] H := hP
      have hD : va_D A [] := hD
      have hR := en_R hR0 hN0 hS
      refine vx_catch (own := RL) (name := "java/lang/IllegalArgumentException") (E := "java/lang/IllegalArgumentException") hown [] ⟨0, 10, 13, 13⟩ [⟨0, 10, 17, 37⟩] hTab (fun _ h9 => absurd h9 List.not_mem_nil) (by decide) (by decide) (hts (.classLink RL 13 "java/lang/IllegalArgumentException") (by decide +kernel)) (va_Nw.use rfl (hE.cast (by decide))) hce hcv hcl ?_
      refine lv_astore (lv' := [(4, .ref q9), (0, .ref h), (1, .int x), (2, .int y), (3, .ref out)]) hx hb dL_comesOff_13 hl (by decide) rfl (fun ls hl => ?_)
      refine lv_iconst (v := 1) hx hb dL_comesOff_15 (by decide) ?_
      refine W.widen (k := 2) (n := 12) (Nat.le_of_ble_eq_true rfl) (Nat.le_of_ble_eq_true rfl) ?_
      refine vx_ret ?_
      exact W.iret (v := 1) hx hb hr (fun t ht hW => ⟨⟨1, (), rfl, (z_c_L_guessAt_436 x y hc), cB.mk ht hW (hP.sub [] rfl) (hK.sub [] rfl) (hD.sub [] (by decide) rfl) (trivial)⟩, hS.F ht⟩) hS.2.2 dL_comesOff_16
    · skip
      have hP1 : va_P (dC, dI) vwCl [] H1 := fun k q h => by simp at h
      have hD1 : va_D (va_A [] s.heap.size) [] := ⟨fun i j p q h => by simp at h, fun k q h => by simp at h⟩
      obtain ⟨hP, hD⟩ := va_join (wr := []) (w1 := []) hP hD [] [] rfl rfl (by decide) (by decide) hk1 hFc hP1 hD1
      generalize H1 = H at hP hS hce ⊢
      have hP : va_P (dC, dI) vwCl [] H := hP
      have hD : va_D A [] := hD
      have hR := en_R hR0 hN0 hS
      refine vx_catch (own := RL) (name := "java/util/NoSuchElementException") (E := "java/util/NoSuchElementException") hown [⟨0, 10, 13, 13⟩] ⟨0, 10, 17, 37⟩ [] hTab (List.forall_mem_cons.mpr ⟨Or.inr ⟨by decide, "java/lang/IllegalArgumentException", hts (.classLink RL 13 "java/lang/IllegalArgumentException") (by decide +kernel), hE.nocast (by decide) (by decide) (by decide)⟩, (fun _ h9 => absurd h9 List.not_mem_nil)⟩) (by decide) (by decide) (hts (.classLink RL 37 "java/util/NoSuchElementException") (by decide +kernel)) (va_Nw.use rfl (hE.cast (by decide))) hce hcv hcl ?_
      refine lv_astore (lv' := [(4, .ref q9), (0, .ref h), (1, .int x), (2, .int y), (3, .ref out)]) hx hb dL_comesOff_17 hl (by decide) rfl (fun ls hl => ?_)
      refine lv_iconst (v := 2) hx hb dL_comesOff_19 (by decide) ?_
      refine W.widen (k := 2) (n := 12) (Nat.le_of_ble_eq_true rfl) (Nat.le_of_ble_eq_true rfl) ?_
      refine vx_ret ?_
      exact W.iret (v := 2) hx hb hr (fun t ht hW => ⟨⟨2, (), rfl, (z_c_L_guessAt_437 x y hc), cB.mk ht hW (hP.sub [] rfl) (hK.sub [] rfl) (hD.sub [] (by decide) rfl) (trivial)⟩, hS.F ht⟩) hS.2.2 dL_comesOff_20
  exact (show False from hw).elim

def wo_c_L_glue_w : List Cond := [Cond.codeWith yL_glue cL_glue 5 (some .int) [(0, 10, 13, 13), (0, 10, 17, 15)], Cond.classLink RL 13 "java/lang/IllegalArgumentException"]
def wo_c_L_glue : List Cond := .codeWith yL_glue cL_glue 5 (some .int) [(0, 10, 13, 13), (0, 10, 17, 15)] :: (wo_c_L_glue_w ++ (wsV RL 127 RX11 yX11_glue wo_c_X11_glue ++ List.nil))
theorem gw_wo_c_L_glue : wo_c_L_glue.all goodWord = true := gw_c (by decide +kernel) (gw_a (by decide +kernel) (gw_a (gw_a (by decide +kernel) gw_wo_c_X11_glue) rfl))
theorem go_c_L_glue_0 : GoodIn wo_c_L_glue (wsV RL 127 RX11 yX11_glue wo_c_X11_glue) := goodIn_sub (fun _ h => List.mem_cons_of_mem _ (List.mem_append_right _ (List.mem_append_left _ h))) (gw_a (by decide +kernel) gw_wo_c_X11_glue)
set_option maxHeartbeats 4000000 in
set_option maxRecDepth 100000 in
/-- the law: glue -/
theorem c_L_glue (l : Launch) (hst : l.stackTraces = false) (dC : Nat → ClassId) (dI : Nat → Nat → Nat) (b0 : Nat) (en : EnT) (sz : Nat) (h pal she fil nte dat vot loa nos pic spa : Nat) (st sp ll : Nat) (a rw : Nat) (g : Nat → Option Nat) (cS : ClassId) (x y : Int32) (out : Nat) (kO : ClassId) (fo : Nat → Int64) (hga : ((0 ≤ x ∧ x < 8) ∧ (0 ≤ y ∧ y < 6)) → g (pidx x y) = some a) : vx_Met l yL_glue wo_c_L_glue ({ frames := 9, cells := 8, slots := 59, locals := 170 } : Room) (cP b0 en (dC, dI) [(cS, .object "Underpaint$Stack"), (kO, .long)] [(fil, .inr (5, [.int 0, .ref en.2.2.1, .int 0])), (a, .inr (14, [.ref rw, .int 0, .int 0])), (out, .inl (kO, 1, .inr (.inl fo)))] [(h, .inr (17, [.ref pal, .ref she, .ref fil, .ref nte, .ref dat, .ref vot, .ref loa, .ref nos, .ref pic, .ref spa, .int 5, .int 50, .int 1600, .int 0])), (pic, .inr (11, [.ref st, .ref sp, .ref ll, .int 0, .int 1600])), (st, .inl (cS, 48, .inr (.inr (.inr (.inr g)))))] sz (fun _ => True) [.ref h, .int x, .int y, .ref out]) (va_Qi (fun (r : Int32) (u : Nat → Int64) => (r = 0 ∧ u 0 = (0 : Int32).toInt64 ∧ ((0 ≤ x ∧ x < 8) ∧ (0 ≤ y ∧ y < 6))) ∨ (r = 1 ∧ (¬ ((0 ≤ x ∧ x < 8) ∧ (0 ≤ y ∧ y < 6))))) (fun u t => cB (dC, dI) [] [(out, .inl (kO, 1, .inr (.inl u)))] (va_A [(fil, .inr (5, [.int 0, .ref en.2.2.1, .int 0])), (a, .inr (14, [.ref rw, .int 0, .int 0])), (out, .inl (kO, 1, .inr (.inl fo)))] sz) (fun _ => True) t) (va_A [(fil, .inr (5, [.int 0, .ref en.2.2.1, .int 0])), (a, .inr (14, [.ref rw, .int 0, .int 0])), (out, .inl (kO, 1, .inr (.inl fo)))] sz)) (vx_X (fun _ : Unit => True) (fun E _ _ => (E = "none" ∧ False)) (va_A [(fil, .inr (5, [.int 0, .ref en.2.2.1, .int 0])), (a, .inr (14, [.ref rw, .int 0, .int 0])), (out, .inl (kO, 1, .inr (.inl fo)))] sz)) 8 59 (va_A [(fil, .inr (5, [.int 0, .ref en.2.2.1, .int 0])), (a, .inr (14, [.ref rw, .int 0, .int 0])), (out, .inl (kO, 1, .inr (.inl fo)))] sz) := by
  refine vx_ofWH (cc := cL_glue) (maxL := 5) (ret := (some .int)) (hh := [(0, 10, 13, 13), (0, 10, 17, 15)]) (by decide) rfl ?_
  intro p e s m args below meth c s₁ B hml hv
  obtain ⟨rfl, hsz, hb0, hE, hPP, hK, hDD, hF0⟩ := hv
  have hx := B.exec
  have hb := B.bytes
  have hr := B.returns
  have hts := atoms_spec (ws := wo_c_L_glue) B.pre
  have hown : s.vm.findClass RL = some m.cls := findClass_of_methodNamed B.named
  have hlocks := B.notSynchronized
  subst hsz
  have hN0 := en_N hPP hDD rfl
  have hP : va_P (dC, dI) vwCl [(fil, .inr (5, [.int 0, .ref en.2.2.1, .int 0])), (a, .inr (14, [.ref rw, .int 0, .int 0])), (out, .inl (kO, 1, .inr (.inl fo)))] s.heap := hPP.sub [0, 1, 2] rfl
  have hR0 : va_P (dC, dI) vwCl [(h, .inr (17, [.ref pal, .ref she, .ref fil, .ref nte, .ref dat, .ref vot, .ref loa, .ref nos, .ref pic, .ref spa, .int 5, .int 50, .int 1600, .int 0])), (pic, .inr (11, [.ref st, .ref sp, .ref ll, .int 0, .int 1600])), (st, .inl (cS, 48, .inr (.inr (.inr (.inr g)))))] s.heap := hPP.sub [3, 4, 5] rfl
  have hD0 : va_D (fun q => b0 ≤ q) [(fil, .inr (5, [.int 0, .ref en.2.2.1, .int 0])), (a, .inr (14, [.ref rw, .int 0, .int 0])), (out, .inl (kO, 1, .inr (.inl fo)))] := hDD.sub [0, 1, 2] (by decide) rfl
  have hDr : va_D (fun q => b0 ≤ q) [(h, .inr (17, [.ref pal, .ref she, .ref fil, .ref nte, .ref dat, .ref vot, .ref loa, .ref nos, .ref pic, .ref spa, .int 5, .int 50, .int 1600, .int 0])), (pic, .inr (11, [.ref st, .ref sp, .ref ll, .int 0, .int 1600])), (st, .inl (cS, 48, .inr (.inr (.inr (.inr g)))))] := hDD.sub [3, 4, 5] (by decide) rfl
  have hAb := en_A (sz := s.heap.size) hD0 hb0
  have hD := hD0.self (sz := s.heap.size)
  generalize hAe : va_A [(fil, .inr (5, [.int 0, .ref en.2.2.1, .int 0])), (a, .inr (14, [.ref rw, .int 0, .int 0])), (out, .inl (kO, 1, .inr (.inl fo)))] s.heap.size = A at hD hAb hN0 ⊢
  have hA : ∀ q : Nat, s.heap.size ≤ q → A q := fun q h => by rw [← hAe]; exact Or.inr h
  have hS : va_S A s.heap s.heap [] := va_S.rf
  have hR := hR0
  have hl := lv_entry [.ref h, .int x, .int y, .ref out] (n := 5) (Nat.le_of_ble_eq_true rfl)
  rw [lg_entry_eq]
  generalize (lg_sl [.ref h, .int x, .int y, .ref out] ++ List.replicate (5 - (lg_sl [.ref h, .int x, .int y, .ref out]).length) Slot.unset).toArray = ls at hl ⊢
  have hl : lv_has ls 5 [(0, .ref h), (1, .int x), (2, .int y), (3, .ref out)] := hl
  have hTab := vx_table (x := yL_glue) B (hts (.codeWith yL_glue cL_glue 5 (some .int) [(0, 10, 13, 13), (0, 10, 17, 15)]) (by decide +kernel))
  refine lv_aload_n hx hb dL_glue_0 rfl (lv_at hl 3 rfl) ?_
  refine lv_iconst (v := 0) hx hb dL_glue_1 (by decide) ?_
  refine lv_aload_n hx hb dL_glue_2 rfl (lv_at hl 0 rfl) ?_
  refine lv_iload_n hx hb dL_glue_3 rfl (lv_at hl 1 rfl) ?_
  refine lv_iload_n hx hb dL_glue_4 rfl (lv_at hl 2 rfl) ?_
  have hPc := (hP.app hR).sub (ws' := [(fil, .inr (5, [.int 0, .ref en.2.2.1, .int 0])), (a, .inr (14, [.ref rw, .int 0, .int 0]))] ++ [(h, .inr (17, [.ref pal, .ref she, .ref fil, .ref nte, .ref dat, .ref vot, .ref loa, .ref nos, .ref pic, .ref spa, .int 5, .int 50, .int 1600, .int 0])), (pic, .inr (11, [.ref st, .ref sp, .ref ll, .int 0, .int 1600])), (st, .inl (cS, 48, .inr (.inr (.inr (.inr g)))))]) [0, 1, 3, 4, 5] rfl
  have hDc := (en_DD hD hDr hN0 hAb).sub (ws' := [(fil, .inr (5, [.int 0, .ref en.2.2.1, .int 0])), (a, .inr (14, [.ref rw, .int 0, .int 0]))] ++ [(h, .inr (17, [.ref pal, .ref she, .ref fil, .ref nte, .ref dat, .ref vot, .ref loa, .ref nos, .ref pic, .ref spa, .int 5, .int 50, .int 1600, .int 0])), (pic, .inr (11, [.ref st, .ref sp, .ref ll, .int 0, .int 1600])), (st, .inl (cS, 48, .inr (.inr (.inr (.inr g)))))]) [0, 1, 3, 4, 5] (by decide) rfl
  have hKc := hK.sub (tys' := [(cS, .object "Underpaint$Stack")]) [0] rfl
  have hFc := va_free (wc := [(fil, .inr (5, [.int 0, .ref en.2.2.1, .int 0])), (a, .inr (14, [.ref rw, .int 0, .int 0]))]) hD hS hA [0, 1] rfl
  refine vx_calli (vx_runV (As := [.int x, .int y]) (rest := [.int 0, .ref out]) ⟨hx, hb, hml, hown, hts⟩ (c_X11_glue l hst dC dI b0 en s.heap.size h pal she fil nte dat vot loa nos pic spa st sp ll a rw g cS x y hga) (cwV 2 hts go_c_L_glue_0 rfl rfl rfl (by decide +kernel) ⟨Nat.le_of_ble_eq_true rfl, Nat.le_of_ble_eq_true rfl⟩) ⟨cP.blind, va_recv hK hR (ci := 17) (q0 := 0) rfl rfl, cP.use (en_z hb0 hS) (hE.on hAb hS) hPc hKc hDc trivial⟩ rfl rfl hl.1 rfl (lv_room (Nat.le_of_ble_eq_true rfl)) dL_glue_5 ⟨Nat.le_of_ble_eq_true rfl, Nat.le_of_ble_eq_true rfl⟩) hS (fun q _ h => hFc q h) hFc (fun q _ h => hFc q h) (fun E ce q9 u t H1 locs ht hvm hpx hBX hz1 hk1 hS hce hcv hcl => ?_) (fun r_1 u t H1 locs ht hvm hw hB hz1 hk1 hS => ?_)
  · skip
    try dsimp only at hBX
    obtain ⟨rfl, hc⟩ := hBX
    have hP1 : va_P (dC, dI) vwCl [] H1 := fun k q h => by simp at h
    have hD1 : va_D (va_A [(fil, .inr (5, [.int 0, .ref en.2.2.1, .int 0])), (a, .inr (14, [.ref rw, .int 0, .int 0]))] s.heap.size) [] := ⟨fun i j p q h => by simp at h, fun k q h => by simp at h⟩
    obtain ⟨hP, hD⟩ := va_join (wr := [(out, .inl (kO, 1, .inr (.inl fo)))]) (w1 := []) hP hD [0, 1] [2] rfl rfl (by decide) (by decide) hk1 hFc hP1 hD1
    generalize H1 = H at hP hS hce ⊢
    have hP : va_P (dC, dI) vwCl [(out, .inl (kO, 1, .inr (.inl fo)))] H := hP
    have hD : va_D A [(out, .inl (kO, 1, .inr (.inl fo)))] := hD
    have hR := en_R hR0 hN0 hS
    refine vx_catch (own := RL) (name := "java/lang/IllegalArgumentException") (E := "java/lang/IllegalArgumentException") hown [] ⟨0, 10, 13, 13⟩ [⟨0, 10, 17, 15⟩] hTab (fun _ h9 => absurd h9 List.not_mem_nil) (by decide) (by decide) (hts (.classLink RL 13 "java/lang/IllegalArgumentException") (by decide +kernel)) (va_Nw.use rfl (hE.cast (by decide))) hce hcv hcl ?_
    refine lv_astore (lv' := [(4, .ref q9), (0, .ref h), (1, .int x), (2, .int y), (3, .ref out)]) hx hb dL_glue_13 hl (by decide) rfl (fun ls hl => ?_)
    refine lv_iconst (v := 1) hx hb dL_glue_15 (by decide) ?_
    refine W.widen (k := 8) (n := 59) (Nat.le_of_ble_eq_true rfl) (Nat.le_of_ble_eq_true rfl) ?_
    refine vx_ret ?_
    exact W.iret (v := 1) hx hb hr (fun t ht hW => ⟨⟨1, fo, rfl, (z_c_L_layers_420 x y fo hc), cB.mk ht hW (hP.sub [0] rfl) (hK.sub [] rfl) (hD.sub [0] (by decide) rfl) (trivial)⟩, hS.F ht⟩) hS.2.2 dL_glue_16
  have hP1 : va_P (dC, dI) vwCl [] H1 := fun k q h => by simp at h
  have hD1 : va_D (va_A [(fil, .inr (5, [.int 0, .ref en.2.2.1, .int 0])), (a, .inr (14, [.ref rw, .int 0, .int 0]))] s.heap.size) [] := ⟨fun i j p q h => by simp at h, fun k q h => by simp at h⟩
  try dsimp only at hw
  obtain ⟨hP, hD⟩ := va_join (wr := [(out, .inl (kO, 1, .inr (.inl fo)))]) (w1 := []) hP hD [0, 1] [2] rfl rfl (by decide) (by decide) hk1 hFc hP1 hD1
  generalize H1 = H at hP hS ⊢
  have hP : va_P (dC, dI) vwCl [(out, .inl (kO, 1, .inr (.inl fo)))] H := hP
  have hD : va_D A [(out, .inl (kO, 1, .inr (.inl fo)))] := hD
  have hR := en_R hR0 hN0 hS
  refine W.widen (k := 8) (n := 59) (Nat.le_of_ble_eq_true rfl) (Nat.le_of_ble_eq_true rfl) ?_
  obtain ⟨hw, h_2⟩ := hw
  subst r_1
  refine lv_i2l hx hb dL_glue_8 rfl ?_
  refine lv_topl (fun y_3 ey_3 => ?_)
  refine va_last hx hb hK hP hD hS 0 1 rfl rfl (vp_in_nI (by decide : 0 < 1) (by decide)) dL_glue_9 (fun H locs hP hD hS => ?_)
  generalize ef_4 : vp_updL fo (0 : Int32).toNatClampNeg y_3 = f_4 at hP hD
  have hP : va_P (dC, dI) vwCl [(out, .inl (kO, 1, .inr (.inl f_4)))] H := hP
  have hD : va_D A [(out, .inl (kO, 1, .inr (.inl f_4)))] := hD
  have hR := en_R hR0 hN0 hS
  have h_5 : f_4 0 = y_3 := by rw [← ef_4]; exact pk_uLs
  refine lv_goto (tgt := 21) hx hb dL_glue_10 (by decide) ?_
  refine lv_iconst (v := 0) hx hb dL_glue_21 (by decide) ?_
  refine W.widen (k := 8) (n := 59) (Nat.le_of_ble_eq_true rfl) (Nat.le_of_ble_eq_true rfl) ?_
  refine vx_ret ?_
  exact W.iret (v := 0) hx hb hr (fun t ht hW => ⟨⟨0, f_4, rfl, (z_c_L_layers_421 x y y_3 f_4 h_2 ey_3 h_5), cB.mk ht hW (hP.sub [0] rfl) (hK.sub [] rfl) (hD.sub [0] (by decide) rfl) (trivial)⟩, hS.F ht⟩) hS.2.2 dL_glue_22
theorem z_c_L_threads_454 (n : Int32) (fo : Nat → Int64) (a_0 : ¬ (0 ≤ n ∧ n ≤ 65535)) : ((1 : Int32) = 0 ∧ fo 0 = (thC n : Int32).toInt64 ∧ (0 ≤ n ∧ n ≤ 65535)) ∨ ((1 : Int32) = 1 ∧ (¬ (0 ≤ n ∧ n ≤ 65535))) := by grind
theorem z_c_L_threads_455 (n : Int32) (y_3 : Int64) (f_4 : Nat → Int64) (a_0 : (0 ≤ n ∧ n ≤ 65535)) (a_1 : y_3 = ((thC n) : Int32).toInt64) (a_2 : f_4 0 = y_3) : ((0 : Int32) = 0 ∧ f_4 0 = (thC n : Int32).toInt64 ∧ (0 ≤ n ∧ n ≤ 65535)) ∨ ((0 : Int32) = 1 ∧ (¬ (0 ≤ n ∧ n ≤ 65535))) := by grind
def wo_c_L_threads_w : List Cond := [Cond.codeWith yL_threads cL_threads 4 (some .int) [(0, 9, 12, 13)], Cond.classLink RL 13 "java/lang/IllegalArgumentException"]
def wo_c_L_threads : List Cond := .codeWith yL_threads cL_threads 4 (some .int) [(0, 9, 12, 13)] :: (wo_c_L_threads_w ++ (wsV RL 130 RX11 yX11_threads wo_c_X11_threads ++ List.nil))
theorem gw_wo_c_L_threads : wo_c_L_threads.all goodWord = true := gw_c (by decide +kernel) (gw_a (by decide +kernel) (gw_a (gw_a (by decide +kernel) gw_wo_c_X11_threads) rfl))
theorem go_c_L_threads_0 : GoodIn wo_c_L_threads (wsV RL 130 RX11 yX11_threads wo_c_X11_threads) := goodIn_sub (fun _ h => List.mem_cons_of_mem _ (List.mem_append_right _ (List.mem_append_left _ h))) (gw_a (by decide +kernel) gw_wo_c_X11_threads)
set_option maxHeartbeats 4000000 in
set_option maxRecDepth 100000 in
/-- the law: threads -/
theorem c_L_threads (l : Launch) (hst : l.stackTraces = false) (dC : Nat → ClassId) (dI : Nat → Nat → Nat) (b0 : Nat) (en : EnT) (sz : Nat) (h pal she fil nte dat vot loa nos pic spa : Nat) (n : Int32) (out : Nat) (kO : ClassId) (fo : Nat → Int64) : vx_Met l yL_threads wo_c_L_threads ({ frames := 8, cells := 1, slots := 6, locals := 131 } : Room) (cP b0 en (dC, dI) [(kO, .long)] [(out, .inl (kO, 1, .inr (.inl fo)))] [(h, .inr (17, [.ref pal, .ref she, .ref fil, .ref nte, .ref dat, .ref vot, .ref loa, .ref nos, .ref pic, .ref spa, .int 5, .int 50, .int 1600, .int 0]))] sz (fun _ => True) [.ref h, .int n, .ref out]) (va_Qi (fun (r : Int32) (u : Nat → Int64) => (r = 0 ∧ u 0 = (thC n : Int32).toInt64 ∧ (0 ≤ n ∧ n ≤ 65535)) ∨ (r = 1 ∧ (¬ (0 ≤ n ∧ n ≤ 65535)))) (fun u t => cB (dC, dI) [] [(out, .inl (kO, 1, .inr (.inl u)))] (va_A [(out, .inl (kO, 1, .inr (.inl fo)))] sz) (fun _ => True) t) (va_A [(out, .inl (kO, 1, .inr (.inl fo)))] sz)) (vx_X (fun _ : Unit => True) (fun E _ _ => (E = "none" ∧ False)) (va_A [(out, .inl (kO, 1, .inr (.inl fo)))] sz)) 1 6 (va_A [(out, .inl (kO, 1, .inr (.inl fo)))] sz) := by
  refine vx_ofWH (cc := cL_threads) (maxL := 4) (ret := (some .int)) (hh := [(0, 9, 12, 13)]) (by decide) rfl ?_
  intro p e s m args below meth c s₁ B hml hv
  obtain ⟨rfl, hsz, hb0, hE, hPP, hK, hDD, hF0⟩ := hv
  have hx := B.exec
  have hb := B.bytes
  have hr := B.returns
  have hts := atoms_spec (ws := wo_c_L_threads) B.pre
  have hown : s.vm.findClass RL = some m.cls := findClass_of_methodNamed B.named
  have hlocks := B.notSynchronized
  subst hsz
  have hN0 := en_N hPP hDD rfl
  have hP : va_P (dC, dI) vwCl [(out, .inl (kO, 1, .inr (.inl fo)))] s.heap := hPP.sub [0] rfl
  have hR0 : va_P (dC, dI) vwCl [(h, .inr (17, [.ref pal, .ref she, .ref fil, .ref nte, .ref dat, .ref vot, .ref loa, .ref nos, .ref pic, .ref spa, .int 5, .int 50, .int 1600, .int 0]))] s.heap := hPP.sub [1] rfl
  have hD0 : va_D (fun q => b0 ≤ q) [(out, .inl (kO, 1, .inr (.inl fo)))] := hDD.sub [0] (by decide) rfl
  have hDr : va_D (fun q => b0 ≤ q) [(h, .inr (17, [.ref pal, .ref she, .ref fil, .ref nte, .ref dat, .ref vot, .ref loa, .ref nos, .ref pic, .ref spa, .int 5, .int 50, .int 1600, .int 0]))] := hDD.sub [1] (by decide) rfl
  have hAb := en_A (sz := s.heap.size) hD0 hb0
  have hD := hD0.self (sz := s.heap.size)
  generalize hAe : va_A [(out, .inl (kO, 1, .inr (.inl fo)))] s.heap.size = A at hD hAb hN0 ⊢
  have hA : ∀ q : Nat, s.heap.size ≤ q → A q := fun q h => by rw [← hAe]; exact Or.inr h
  have hS : va_S A s.heap s.heap [] := va_S.rf
  have hR := hR0
  have hl := lv_entry [.ref h, .int n, .ref out] (n := 4) (Nat.le_of_ble_eq_true rfl)
  rw [lg_entry_eq]
  generalize (lg_sl [.ref h, .int n, .ref out] ++ List.replicate (4 - (lg_sl [.ref h, .int n, .ref out]).length) Slot.unset).toArray = ls at hl ⊢
  have hl : lv_has ls 4 [(0, .ref h), (1, .int n), (2, .ref out)] := hl
  have hTab := vx_table (x := yL_threads) B (hts (.codeWith yL_threads cL_threads 4 (some .int) [(0, 9, 12, 13)]) (by decide +kernel))
  refine lv_aload_n hx hb dL_threads_0 rfl (lv_at hl 2 rfl) ?_
  refine lv_iconst (v := 0) hx hb dL_threads_1 (by decide) ?_
  refine lv_aload_n hx hb dL_threads_2 rfl (lv_at hl 0 rfl) ?_
  refine lv_iload_n hx hb dL_threads_3 rfl (lv_at hl 1 rfl) ?_
  have hPc := (hP.app hR).sub (ws' := [] ++ [(h, .inr (17, [.ref pal, .ref she, .ref fil, .ref nte, .ref dat, .ref vot, .ref loa, .ref nos, .ref pic, .ref spa, .int 5, .int 50, .int 1600, .int 0]))]) [1] rfl
  have hDc := (en_DD hD hDr hN0 hAb).sub (ws' := [] ++ [(h, .inr (17, [.ref pal, .ref she, .ref fil, .ref nte, .ref dat, .ref vot, .ref loa, .ref nos, .ref pic, .ref spa, .int 5, .int 50, .int 1600, .int 0]))]) [1] (by decide) rfl
  have hKc := hK.sub (tys' := []) [] rfl
  have hFc := va_free (wc := []) hD hS hA [] rfl
  refine vx_calli (vx_runV (As := [.int n]) (rest := [.int 0, .ref out]) ⟨hx, hb, hml, hown, hts⟩ (c_X11_threads l hst dC dI b0 en s.heap.size h pal she fil nte dat vot loa nos pic spa n) (cwV 1 hts go_c_L_threads_0 rfl rfl rfl (by decide +kernel) ⟨Nat.le_of_ble_eq_true rfl, Nat.le_of_ble_eq_true rfl⟩) ⟨cP.blind, va_recv hK hR (ci := 17) (q0 := 0) rfl rfl, cP.use (en_z hb0 hS) (hE.on hAb hS) hPc hKc hDc trivial⟩ rfl rfl hl.1 rfl (lv_room (Nat.le_of_ble_eq_true rfl)) dL_threads_4 ⟨Nat.le_of_ble_eq_true rfl, Nat.le_of_ble_eq_true rfl⟩) hS (fun q _ h => hFc q h) hFc (fun q _ h => hFc q h) (fun E ce q9 u t H1 locs ht hvm hpx hBX hz1 hk1 hS hce hcv hcl => ?_) (fun r_1 u t H1 locs ht hvm hw hB hz1 hk1 hS => ?_)
  · skip
    try dsimp only at hBX
    obtain ⟨rfl, hc⟩ := hBX
    have hP1 : va_P (dC, dI) vwCl [] H1 := fun k q h => by simp at h
    have hD1 : va_D (va_A [] s.heap.size) [] := ⟨fun i j p q h => by simp at h, fun k q h => by simp at h⟩
    obtain ⟨hP, hD⟩ := va_join (wr := [(out, .inl (kO, 1, .inr (.inl fo)))]) (w1 := []) hP hD [] [0] rfl rfl (by decide) (by decide) hk1 hFc hP1 hD1
    generalize H1 = H at hP hS hce ⊢
    have hP : va_P (dC, dI) vwCl [(out, .inl (kO, 1, .inr (.inl fo)))] H := hP
    have hD : va_D A [(out, .inl (kO, 1, .inr (.inl fo)))] := hD
    have hR := en_R hR0 hN0 hS
    refine vx_catch (own := RL) (name := "java/lang/IllegalArgumentException") (E := "java/lang/IllegalArgumentException") hown [] ⟨0, 9, 12, 13⟩ [] hTab (fun _ h9 => absurd h9 List.not_mem_nil) (by decide) (by decide) (hts (.classLink RL 13 "java/lang/IllegalArgumentException") (by decide +kernel)) (va_Nw.use rfl (hE.cast (by decide))) hce hcv hcl ?_
    refine lv_astore_n (lv' := [(3, .ref q9), (0, .ref h), (1, .int n), (2, .ref out)]) hx hb dL_threads_12 rfl hl (by decide) rfl (fun ls hl => ?_)
    refine lv_iconst (v := 1) hx hb dL_threads_13 (by decide) ?_
    refine W.widen (k := 1) (n := 6) (Nat.le_of_ble_eq_true rfl) (Nat.le_of_ble_eq_true rfl) ?_
    refine vx_ret ?_
    exact W.iret (v := 1) hx hb hr (fun t ht hW => ⟨⟨1, fo, rfl, (z_c_L_threads_454 n fo hc), cB.mk ht hW (hP.sub [0] rfl) (hK.sub [] rfl) (hD.sub [0] (by decide) rfl) (trivial)⟩, hS.F ht⟩) hS.2.2 dL_threads_14
  have hP1 : va_P (dC, dI) vwCl [] H1 := fun k q h => by simp at h
  have hD1 : va_D (va_A [] s.heap.size) [] := ⟨fun i j p q h => by simp at h, fun k q h => by simp at h⟩
  try dsimp only at hw
  obtain ⟨hP, hD⟩ := va_join (wr := [(out, .inl (kO, 1, .inr (.inl fo)))]) (w1 := []) hP hD [] [0] rfl rfl (by decide) (by decide) hk1 hFc hP1 hD1
  generalize H1 = H at hP hS ⊢
  have hP : va_P (dC, dI) vwCl [(out, .inl (kO, 1, .inr (.inl fo)))] H := hP
  have hD : va_D A [(out, .inl (kO, 1, .inr (.inl fo)))] := hD
  have hR := en_R hR0 hN0 hS
  refine W.widen (k := 1) (n := 6) (Nat.le_of_ble_eq_true rfl) (Nat.le_of_ble_eq_true rfl) ?_
  obtain ⟨hw, h_2⟩ := hw
  subst r_1
  refine lv_i2l hx hb dL_threads_7 rfl ?_
  refine lv_topl (fun y_3 ey_3 => ?_)
  refine va_last hx hb hK hP hD hS 0 0 rfl rfl (vp_in_nI (by decide : 0 < 1) (by decide)) dL_threads_8 (fun H locs hP hD hS => ?_)
  generalize ef_4 : vp_updL fo (0 : Int32).toNatClampNeg y_3 = f_4 at hP hD
  have hP : va_P (dC, dI) vwCl [(out, .inl (kO, 1, .inr (.inl f_4)))] H := hP
  have hD : va_D A [(out, .inl (kO, 1, .inr (.inl f_4)))] := hD
  have hR := en_R hR0 hN0 hS
  have h_5 : f_4 0 = y_3 := by rw [← ef_4]; exact pk_uLs
  refine lv_goto (tgt := 15) hx hb dL_threads_9 (by decide) ?_
  refine lv_iconst (v := 0) hx hb dL_threads_15 (by decide) ?_
  refine W.widen (k := 1) (n := 6) (Nat.le_of_ble_eq_true rfl) (Nat.le_of_ble_eq_true rfl) ?_
  refine vx_ret ?_
  exact W.iret (v := 0) hx hb hr (fun t ht hW => ⟨⟨0, f_4, rfl, (z_c_L_threads_455 n y_3 f_4 h_2 ey_3 h_5), cB.mk ht hW (hP.sub [0] rfl) (hK.sub [] rfl) (hD.sub [0] (by decide) rfl) (trivial)⟩, hS.F ht⟩) hS.2.2 dL_threads_16
theorem z_c_L_ballot_456 (a : Int32) (b : Int32) (fo : Nat → Int64) (a_0 : ¬ (0 ≤ ixL 2 a ∧ 0 ≤ ixL 2 b ∧ ¬ ixL 2 a = ixL 2 b)) : ((1 : Int32) = 0 ∧ fo 0 = (1 : Int32).toInt64 ∧ 0 ≤ ixL 2 a ∧ 0 ≤ ixL 2 b ∧ ¬ ixL 2 a = ixL 2 b) ∨ ((1 : Int32) = 1 ∧ (¬ (0 ≤ ixL 2 a ∧ 0 ≤ ixL 2 b ∧ ¬ ixL 2 a = ixL 2 b))) := by grind
theorem z_c_L_ballot_457 (a : Int32) (b : Int32) (y_3 : Int64) (f_4 : Nat → Int64) (a_0 : 0 ≤ ixL 2 a ∧ 0 ≤ ixL 2 b ∧ ¬ ixL 2 a = ixL 2 b) (a_1 : y_3 = (1 : Int32).toInt64) (a_2 : f_4 0 = y_3) : ((0 : Int32) = 0 ∧ f_4 0 = (1 : Int32).toInt64 ∧ 0 ≤ ixL 2 a ∧ 0 ≤ ixL 2 b ∧ ¬ ixL 2 a = ixL 2 b) ∨ ((0 : Int32) = 1 ∧ (¬ (0 ≤ ixL 2 a ∧ 0 ≤ ixL 2 b ∧ ¬ ixL 2 a = ixL 2 b))) := by grind
def wo_c_L_ballot_w : List Cond := [Cond.codeWith yL_ballot cL_ballot 5 (some .int) [(0, 10, 13, 13), (0, 10, 17, 15)], Cond.classLink RL 13 "java/lang/IllegalArgumentException"]
def wo_c_L_ballot : List Cond := .codeWith yL_ballot cL_ballot 5 (some .int) [(0, 10, 13, 13), (0, 10, 17, 15)] :: (wo_c_L_ballot_w ++ (wsV RL 133 RX11 yX11_ballot wo_c_X11_ballot ++ List.nil))
theorem gw_wo_c_L_ballot : wo_c_L_ballot.all goodWord = true := gw_c (by decide +kernel) (gw_a (by decide +kernel) (gw_a (gw_a (by decide +kernel) gw_wo_c_X11_ballot) rfl))
theorem go_c_L_ballot_0 : GoodIn wo_c_L_ballot (wsV RL 133 RX11 yX11_ballot wo_c_X11_ballot) := goodIn_sub (fun _ h => List.mem_cons_of_mem _ (List.mem_append_right _ (List.mem_append_left _ h))) (gw_a (by decide +kernel) gw_wo_c_X11_ballot)
set_option maxHeartbeats 4000000 in
set_option maxRecDepth 100000 in
/-- the law: ballot -/
theorem c_L_ballot (l : Launch) (hst : l.stackTraces = false) (dC : Nat → ClassId) (dI : Nat → Nat → Nat) (b0 : Nat) (en : EnT) (sz : Nat) (h pal she fil nte dat vot loa nos pic spa : Nat) (va : Nat) (kI : ClassId) (a b : Int32) (out : Nat) (kO : ClassId) (fo : Nat → Int64) : vx_Met l yL_ballot wo_c_L_ballot ({ frames := 8, cells := 2, slots := 12, locals := 155 } : Room) (cP b0 en (dC, dI) [(kI, .int), (kO, .long)] [(vot, .inr (16, [.int 0, .ref va])), (va, .inl (kI, 9, .inl (fun _ => 0))), (out, .inl (kO, 1, .inr (.inl fo)))] [(h, .inr (17, [.ref pal, .ref she, .ref fil, .ref nte, .ref dat, .ref vot, .ref loa, .ref nos, .ref pic, .ref spa, .int 5, .int 50, .int 1600, .int 0]))] sz (fun _ => True) [.ref h, .int a, .int b, .ref out]) (va_Qi (fun (r : Int32) (u : Nat → Int64) => (r = 0 ∧ u 0 = (1 : Int32).toInt64 ∧ 0 ≤ ixL 2 a ∧ 0 ≤ ixL 2 b ∧ ¬ ixL 2 a = ixL 2 b) ∨ (r = 1 ∧ (¬ (0 ≤ ixL 2 a ∧ 0 ≤ ixL 2 b ∧ ¬ ixL 2 a = ixL 2 b)))) (fun u t => cB (dC, dI) [] [(out, .inl (kO, 1, .inr (.inl u)))] (va_A [(vot, .inr (16, [.int 0, .ref va])), (va, .inl (kI, 9, .inl (fun _ => 0))), (out, .inl (kO, 1, .inr (.inl fo)))] sz) (fun _ => True) t) (va_A [(vot, .inr (16, [.int 0, .ref va])), (va, .inl (kI, 9, .inl (fun _ => 0))), (out, .inl (kO, 1, .inr (.inl fo)))] sz)) (vx_X (fun _ : Unit => True) (fun E _ _ => (E = "none" ∧ False)) (va_A [(vot, .inr (16, [.int 0, .ref va])), (va, .inl (kI, 9, .inl (fun _ => 0))), (out, .inl (kO, 1, .inr (.inl fo)))] sz)) 2 12 (va_A [(vot, .inr (16, [.int 0, .ref va])), (va, .inl (kI, 9, .inl (fun _ => 0))), (out, .inl (kO, 1, .inr (.inl fo)))] sz) := by
  refine vx_ofWH (cc := cL_ballot) (maxL := 5) (ret := (some .int)) (hh := [(0, 10, 13, 13), (0, 10, 17, 15)]) (by decide) rfl ?_
  intro p e s m args below meth c s₁ B hml hv
  obtain ⟨rfl, hsz, hb0, hE, hPP, hK, hDD, hF0⟩ := hv
  have hx := B.exec
  have hb := B.bytes
  have hr := B.returns
  have hts := atoms_spec (ws := wo_c_L_ballot) B.pre
  have hown : s.vm.findClass RL = some m.cls := findClass_of_methodNamed B.named
  have hlocks := B.notSynchronized
  subst hsz
  have hN0 := en_N hPP hDD rfl
  have hP : va_P (dC, dI) vwCl [(vot, .inr (16, [.int 0, .ref va])), (va, .inl (kI, 9, .inl (fun _ => 0))), (out, .inl (kO, 1, .inr (.inl fo)))] s.heap := hPP.sub [0, 1, 2] rfl
  have hR0 : va_P (dC, dI) vwCl [(h, .inr (17, [.ref pal, .ref she, .ref fil, .ref nte, .ref dat, .ref vot, .ref loa, .ref nos, .ref pic, .ref spa, .int 5, .int 50, .int 1600, .int 0]))] s.heap := hPP.sub [3] rfl
  have hD0 : va_D (fun q => b0 ≤ q) [(vot, .inr (16, [.int 0, .ref va])), (va, .inl (kI, 9, .inl (fun _ => 0))), (out, .inl (kO, 1, .inr (.inl fo)))] := hDD.sub [0, 1, 2] (by decide) rfl
  have hDr : va_D (fun q => b0 ≤ q) [(h, .inr (17, [.ref pal, .ref she, .ref fil, .ref nte, .ref dat, .ref vot, .ref loa, .ref nos, .ref pic, .ref spa, .int 5, .int 50, .int 1600, .int 0]))] := hDD.sub [3] (by decide) rfl
  have hAb := en_A (sz := s.heap.size) hD0 hb0
  have hD := hD0.self (sz := s.heap.size)
  generalize hAe : va_A [(vot, .inr (16, [.int 0, .ref va])), (va, .inl (kI, 9, .inl (fun _ => 0))), (out, .inl (kO, 1, .inr (.inl fo)))] s.heap.size = A at hD hAb hN0 ⊢
  have hA : ∀ q : Nat, s.heap.size ≤ q → A q := fun q h => by rw [← hAe]; exact Or.inr h
  have hS : va_S A s.heap s.heap [] := va_S.rf
  have hR := hR0
  have hl := lv_entry [.ref h, .int a, .int b, .ref out] (n := 5) (Nat.le_of_ble_eq_true rfl)
  rw [lg_entry_eq]
  generalize (lg_sl [.ref h, .int a, .int b, .ref out] ++ List.replicate (5 - (lg_sl [.ref h, .int a, .int b, .ref out]).length) Slot.unset).toArray = ls at hl ⊢
  have hl : lv_has ls 5 [(0, .ref h), (1, .int a), (2, .int b), (3, .ref out)] := hl
  have hTab := vx_table (x := yL_ballot) B (hts (.codeWith yL_ballot cL_ballot 5 (some .int) [(0, 10, 13, 13), (0, 10, 17, 15)]) (by decide +kernel))
  refine lv_aload_n hx hb dL_ballot_0 rfl (lv_at hl 3 rfl) ?_
  refine lv_iconst (v := 0) hx hb dL_ballot_1 (by decide) ?_
  refine lv_aload_n hx hb dL_ballot_2 rfl (lv_at hl 0 rfl) ?_
  refine lv_iload_n hx hb dL_ballot_3 rfl (lv_at hl 1 rfl) ?_
  refine lv_iload_n hx hb dL_ballot_4 rfl (lv_at hl 2 rfl) ?_
  have hPc := (hP.app hR).sub (ws' := [(vot, .inr (16, [.int 0, .ref va])), (va, .inl (kI, 9, .inl (fun _ => 0)))] ++ [(h, .inr (17, [.ref pal, .ref she, .ref fil, .ref nte, .ref dat, .ref vot, .ref loa, .ref nos, .ref pic, .ref spa, .int 5, .int 50, .int 1600, .int 0]))]) [0, 1, 3] rfl
  have hDc := (en_DD hD hDr hN0 hAb).sub (ws' := [(vot, .inr (16, [.int 0, .ref va])), (va, .inl (kI, 9, .inl (fun _ => 0)))] ++ [(h, .inr (17, [.ref pal, .ref she, .ref fil, .ref nte, .ref dat, .ref vot, .ref loa, .ref nos, .ref pic, .ref spa, .int 5, .int 50, .int 1600, .int 0]))]) [0, 1, 3] (by decide) rfl
  have hKc := hK.sub (tys' := [(kI, .int)]) [0] rfl
  have hFc := va_free (wc := [(vot, .inr (16, [.int 0, .ref va])), (va, .inl (kI, 9, .inl (fun _ => 0)))]) hD hS hA [0, 1] rfl
  refine vx_calli (vx_runV (As := [.int a, .int b]) (rest := [.int 0, .ref out]) ⟨hx, hb, hml, hown, hts⟩ (c_X11_ballot l hst dC dI b0 en s.heap.size h pal she fil nte dat vot loa nos pic spa va kI a b) (cwV 2 hts go_c_L_ballot_0 rfl rfl rfl (by decide +kernel) ⟨Nat.le_of_ble_eq_true rfl, Nat.le_of_ble_eq_true rfl⟩) ⟨cP.blind, va_recv hK hR (ci := 17) (q0 := 0) rfl rfl, cP.use (en_z hb0 hS) (hE.on hAb hS) hPc hKc hDc trivial⟩ rfl rfl hl.1 rfl (lv_room (Nat.le_of_ble_eq_true rfl)) dL_ballot_5 ⟨Nat.le_of_ble_eq_true rfl, Nat.le_of_ble_eq_true rfl⟩) hS (fun q _ h => hFc q h) hFc (fun q _ h => hFc q h) (fun E ce q9 u t H1 locs ht hvm hpx hBX hz1 hk1 hS hce hcv hcl => ?_) (fun r_1 u t H1 locs ht hvm hw hB hz1 hk1 hS => ?_)
  · skip
    try dsimp only at hBX
    obtain ⟨rfl, hc⟩ := hBX
    have hP1 : va_P (dC, dI) vwCl [] H1 := fun k q h => by simp at h
    have hD1 : va_D (va_A [(vot, .inr (16, [.int 0, .ref va])), (va, .inl (kI, 9, .inl (fun _ => 0)))] s.heap.size) [] := ⟨fun i j p q h => by simp at h, fun k q h => by simp at h⟩
    obtain ⟨hP, hD⟩ := va_join (wr := [(out, .inl (kO, 1, .inr (.inl fo)))]) (w1 := []) hP hD [0, 1] [2] rfl rfl (by decide) (by decide) hk1 hFc hP1 hD1
    generalize H1 = H at hP hS hce ⊢
    have hP : va_P (dC, dI) vwCl [(out, .inl (kO, 1, .inr (.inl fo)))] H := hP
    have hD : va_D A [(out, .inl (kO, 1, .inr (.inl fo)))] := hD
    have hR := en_R hR0 hN0 hS
    refine vx_catch (own := RL) (name := "java/lang/IllegalArgumentException") (E := "java/lang/IllegalArgumentException") hown [] ⟨0, 10, 13, 13⟩ [⟨0, 10, 17, 15⟩] hTab (fun _ h9 => absurd h9 List.not_mem_nil) (by decide) (by decide) (hts (.classLink RL 13 "java/lang/IllegalArgumentException") (by decide +kernel)) (va_Nw.use rfl (hE.cast (by decide))) hce hcv hcl ?_
    refine lv_astore (lv' := [(4, .ref q9), (0, .ref h), (1, .int a), (2, .int b), (3, .ref out)]) hx hb dL_ballot_13 hl (by decide) rfl (fun ls hl => ?_)
    refine lv_iconst (v := 1) hx hb dL_ballot_15 (by decide) ?_
    refine W.widen (k := 2) (n := 12) (Nat.le_of_ble_eq_true rfl) (Nat.le_of_ble_eq_true rfl) ?_
    refine vx_ret ?_
    exact W.iret (v := 1) hx hb hr (fun t ht hW => ⟨⟨1, fo, rfl, (z_c_L_ballot_456 a b fo hc), cB.mk ht hW (hP.sub [0] rfl) (hK.sub [] rfl) (hD.sub [0] (by decide) rfl) (trivial)⟩, hS.F ht⟩) hS.2.2 dL_ballot_16
  have hP1 : va_P (dC, dI) vwCl [] H1 := fun k q h => by simp at h
  have hD1 : va_D (va_A [(vot, .inr (16, [.int 0, .ref va])), (va, .inl (kI, 9, .inl (fun _ => 0)))] s.heap.size) [] := ⟨fun i j p q h => by simp at h, fun k q h => by simp at h⟩
  try dsimp only at hw
  obtain ⟨hP, hD⟩ := va_join (wr := [(out, .inl (kO, 1, .inr (.inl fo)))]) (w1 := []) hP hD [0, 1] [2] rfl rfl (by decide) (by decide) hk1 hFc hP1 hD1
  generalize H1 = H at hP hS ⊢
  have hP : va_P (dC, dI) vwCl [(out, .inl (kO, 1, .inr (.inl fo)))] H := hP
  have hD : va_D A [(out, .inl (kO, 1, .inr (.inl fo)))] := hD
  have hR := en_R hR0 hN0 hS
  refine W.widen (k := 2) (n := 12) (Nat.le_of_ble_eq_true rfl) (Nat.le_of_ble_eq_true rfl) ?_
  obtain ⟨hw, h_2⟩ := hw
  subst r_1
  refine lv_i2l hx hb dL_ballot_8 rfl ?_
  refine lv_topl (fun y_3 ey_3 => ?_)
  refine va_last hx hb hK hP hD hS 0 1 rfl rfl (vp_in_nI (by decide : 0 < 1) (by decide)) dL_ballot_9 (fun H locs hP hD hS => ?_)
  generalize ef_4 : vp_updL fo (0 : Int32).toNatClampNeg y_3 = f_4 at hP hD
  have hP : va_P (dC, dI) vwCl [(out, .inl (kO, 1, .inr (.inl f_4)))] H := hP
  have hD : va_D A [(out, .inl (kO, 1, .inr (.inl f_4)))] := hD
  have hR := en_R hR0 hN0 hS
  have h_5 : f_4 0 = y_3 := by rw [← ef_4]; exact pk_uLs
  refine lv_goto (tgt := 21) hx hb dL_ballot_10 (by decide) ?_
  refine lv_iconst (v := 0) hx hb dL_ballot_21 (by decide) ?_
  refine W.widen (k := 2) (n := 12) (Nat.le_of_ble_eq_true rfl) (Nat.le_of_ble_eq_true rfl) ?_
  refine vx_ret ?_
  exact W.iret (v := 0) hx hb hr (fun t ht hW => ⟨⟨0, f_4, rfl, (z_c_L_ballot_457 a b y_3 f_4 h_2 ey_3 h_5), cB.mk ht hW (hP.sub [0] rfl) (hK.sub [] rfl) (hD.sub [0] (by decide) rfl) (trivial)⟩, hS.F ht⟩) hS.2.2 dL_ballot_22

def wo_c_L_winner_w : List Cond := [Cond.codeWith yL_winner cL_winner 3 (some .int) [(0, 8, 11, 37)], Cond.classLink RL 37 "java/util/NoSuchElementException"]
def wo_c_L_winner : List Cond := .codeWith yL_winner cL_winner 3 (some .int) [(0, 8, 11, 37)] :: (wo_c_L_winner_w ++ (wsV RL 137 RX11 yX11_winner wo_c_X11_winner ++ List.nil))
theorem gw_wo_c_L_winner : wo_c_L_winner.all goodWord = true := gw_c (by decide +kernel) (gw_a (by decide +kernel) (gw_a (gw_a (by decide +kernel) gw_wo_c_X11_winner) rfl))
theorem go_c_L_winner_0 : GoodIn wo_c_L_winner (wsV RL 137 RX11 yX11_winner wo_c_X11_winner) := goodIn_sub (fun _ h => List.mem_cons_of_mem _ (List.mem_append_right _ (List.mem_append_left _ h))) (gw_a (by decide +kernel) gw_wo_c_X11_winner)
set_option maxHeartbeats 4000000 in
set_option maxRecDepth 100000 in
/-- the law: winner -/
theorem c_L_winner (l : Launch) (hst : l.stackTraces = false) (dC : Nat → ClassId) (dI : Nat → Nat → Nat) (b0 : Nat) (en : EnT) (sz : Nat) (h pal she fil nte dat vot loa nos pic spa : Nat) (va : Nat) (kI : ClassId) (out : Nat) : vx_Met l yL_winner wo_c_L_winner ({ frames := 8, cells := 1, slots := 6, locals := 131 } : Room) (cP b0 en (dC, dI) [(kI, .int)] [] [(h, .inr (17, [.ref pal, .ref she, .ref fil, .ref nte, .ref dat, .ref vot, .ref loa, .ref nos, .ref pic, .ref spa, .int 5, .int 50, .int 1600, .int 0])), (vot, .inr (16, [.int 0, .ref va])), (va, .inl (kI, 9, .inl (fun _ => 0)))] sz (fun _ => True) [.ref h, .ref out]) (va_Qi (fun (r : Int32) (u : Unit) => r = 1) (fun u t => cB (dC, dI) [] [] (va_A [] sz) (fun _ => True) t) (va_A [] sz)) (vx_X (fun _ : Unit => True) (fun E _ _ => (E = "none" ∧ False)) (va_A [] sz)) 1 6 (va_A [] sz) := by
  refine vx_ofWH (cc := cL_winner) (maxL := 3) (ret := (some .int)) (hh := [(0, 8, 11, 37)]) (by decide) rfl ?_
  intro p e s m args below meth c s₁ B hml hv
  obtain ⟨rfl, hsz, hb0, hE, hPP, hK, hDD, hF0⟩ := hv
  have hx := B.exec
  have hb := B.bytes
  have hr := B.returns
  have hts := atoms_spec (ws := wo_c_L_winner) B.pre
  have hown : s.vm.findClass RL = some m.cls := findClass_of_methodNamed B.named
  have hlocks := B.notSynchronized
  subst hsz
  have hN0 := en_N hPP hDD rfl
  have hP : va_P (dC, dI) vwCl [] s.heap := hPP.sub [] rfl
  have hR0 : va_P (dC, dI) vwCl [(h, .inr (17, [.ref pal, .ref she, .ref fil, .ref nte, .ref dat, .ref vot, .ref loa, .ref nos, .ref pic, .ref spa, .int 5, .int 50, .int 1600, .int 0])), (vot, .inr (16, [.int 0, .ref va])), (va, .inl (kI, 9, .inl (fun _ => 0)))] s.heap := hPP.sub [0, 1, 2] rfl
  have hD0 : va_D (fun q => b0 ≤ q) [] := hDD.sub [] (by decide) rfl
  have hDr : va_D (fun q => b0 ≤ q) [(h, .inr (17, [.ref pal, .ref she, .ref fil, .ref nte, .ref dat, .ref vot, .ref loa, .ref nos, .ref pic, .ref spa, .int 5, .int 50, .int 1600, .int 0])), (vot, .inr (16, [.int 0, .ref va])), (va, .inl (kI, 9, .inl (fun _ => 0)))] := hDD.sub [0, 1, 2] (by decide) rfl
  have hAb := en_A (sz := s.heap.size) hD0 hb0
  have hD := hD0.self (sz := s.heap.size)
  generalize hAe : va_A [] s.heap.size = A at hD hAb hN0 ⊢
  have hA : ∀ q : Nat, s.heap.size ≤ q → A q := fun q h => by rw [← hAe]; exact Or.inr h
  have hS : va_S A s.heap s.heap [] := va_S.rf
  have hR := hR0
  have hl := lv_entry [.ref h, .ref out] (n := 3) (Nat.le_of_ble_eq_true rfl)
  rw [lg_entry_eq]
  generalize (lg_sl [.ref h, .ref out] ++ List.replicate (3 - (lg_sl [.ref h, .ref out]).length) Slot.unset).toArray = ls at hl ⊢
  have hl : lv_has ls 3 [(0, .ref h), (1, .ref out)] := hl
  have hTab := vx_table (x := yL_winner) B (hts (.codeWith yL_winner cL_winner 3 (some .int) [(0, 8, 11, 37)]) (by decide +kernel))
  refine lv_aload_n hx hb dL_winner_0 rfl (lv_at hl 1 rfl) ?_
  refine lv_iconst (v := 0) hx hb dL_winner_1 (by decide) ?_
  refine lv_aload_n hx hb dL_winner_2 rfl (lv_at hl 0 rfl) ?_
  have hPc := (hP.app hR).sub (ws' := [] ++ [(h, .inr (17, [.ref pal, .ref she, .ref fil, .ref nte, .ref dat, .ref vot, .ref loa, .ref nos, .ref pic, .ref spa, .int 5, .int 50, .int 1600, .int 0])), (vot, .inr (16, [.int 0, .ref va])), (va, .inl (kI, 9, .inl (fun _ => 0)))]) [0, 1, 2] rfl
  have hDc := (en_DD hD hDr hN0 hAb).sub (ws' := [] ++ [(h, .inr (17, [.ref pal, .ref she, .ref fil, .ref nte, .ref dat, .ref vot, .ref loa, .ref nos, .ref pic, .ref spa, .int 5, .int 50, .int 1600, .int 0])), (vot, .inr (16, [.int 0, .ref va])), (va, .inl (kI, 9, .inl (fun _ => 0)))]) [0, 1, 2] (by decide) rfl
  have hKc := hK.sub (tys' := [(kI, .int)]) [0] rfl
  have hFc := va_free (wc := []) hD hS hA [] rfl
  refine vx_calli (vx_runV (As := []) (rest := [.int 0, .ref out]) ⟨hx, hb, hml, hown, hts⟩ (c_X11_winner l hst dC dI b0 en s.heap.size h pal she fil nte dat vot loa nos pic spa va kI) (cwV 0 hts go_c_L_winner_0 rfl rfl rfl (by decide +kernel) ⟨Nat.le_of_ble_eq_true rfl, Nat.le_of_ble_eq_true rfl⟩) ⟨cP.blind, va_recv hK hR (ci := 17) (q0 := 0) rfl rfl, cP.use (en_z hb0 hS) (hE.on hAb hS) hPc hKc hDc trivial⟩ rfl rfl hl.1 rfl (lv_room (Nat.le_of_ble_eq_true rfl)) dL_winner_3 ⟨Nat.le_of_ble_eq_true rfl, Nat.le_of_ble_eq_true rfl⟩) hS (fun q _ h => hFc q h) hFc (fun q _ h => hFc q h) (fun E ce q9 u t H1 locs ht hvm hpx hBX hz1 hk1 hS hce hcv hcl => ?_) (fun r_1 u t H1 locs ht hvm hw hB hz1 hk1 hS => ?_)
  · skip
    try dsimp only at hBX
    obtain ⟨rfl, hc⟩ := hBX
    have hP1 : va_P (dC, dI) vwCl [] H1 := fun k q h => by simp at h
    have hD1 : va_D (va_A [] s.heap.size) [] := ⟨fun i j p q h => by simp at h, fun k q h => by simp at h⟩
    obtain ⟨hP, hD⟩ := va_join (wr := []) (w1 := []) hP hD [] [] rfl rfl (by decide) (by decide) hk1 hFc hP1 hD1
    generalize H1 = H at hP hS hce ⊢
    have hP : va_P (dC, dI) vwCl [] H := hP
    have hD : va_D A [] := hD
    have hR := en_R hR0 hN0 hS
    refine vx_catch (own := RL) (name := "java/util/NoSuchElementException") (E := "java/util/NoSuchElementException") hown [] ⟨0, 8, 11, 37⟩ [] hTab (fun _ h9 => absurd h9 List.not_mem_nil) (by decide) (by decide) (hts (.classLink RL 37 "java/util/NoSuchElementException") (by decide +kernel)) (va_Nw.use rfl (hE.cast (by decide))) hce hcv hcl ?_
    refine lv_astore_n (lv' := [(2, .ref q9), (0, .ref h), (1, .ref out)]) hx hb dL_winner_11 rfl hl (by decide) rfl (fun ls hl => ?_)
    refine lv_iconst (v := 1) hx hb dL_winner_12 (by decide) ?_
    refine W.widen (k := 1) (n := 6) (Nat.le_of_ble_eq_true rfl) (Nat.le_of_ble_eq_true rfl) ?_
    refine vx_ret ?_
    exact W.iret (v := 1) hx hb hr (fun t ht hW => ⟨⟨1, (), rfl, (z_c_L_clash_419 hc), cB.mk ht hW (hP.sub [] rfl) (hK.sub [] rfl) (hD.sub [] (by decide) rfl) (trivial)⟩, hS.F ht⟩) hS.2.2 dL_winner_13
  exact (show False from hw).elim
theorem z_c_L_leg_458 (a : Int32) (b : Int32) (fo : Nat → Int64) (a_0 : ¬ ((0 ≤ a ∧ a ≤ 9) ∧ (0 ≤ b ∧ b ≤ 99))) : ((1 : Int32) = 0 ∧ fo 0 = (1 : Int32).toInt64 ∧ (0 ≤ a ∧ a ≤ 9) ∧ (0 ≤ b ∧ b ≤ 99)) ∨ ((1 : Int32) = 1 ∧ (¬ ((0 ≤ a ∧ a ≤ 9) ∧ (0 ≤ b ∧ b ≤ 99)))) := by grind
theorem z_c_L_leg_459 (a : Int32) (b : Int32) (y_3 : Int64) (f_4 : Nat → Int64) (a_0 : (0 ≤ a ∧ a ≤ 9) ∧ (0 ≤ b ∧ b ≤ 99)) (a_1 : y_3 = (1 : Int32).toInt64) (a_2 : f_4 0 = y_3) : ((0 : Int32) = 0 ∧ f_4 0 = (1 : Int32).toInt64 ∧ (0 ≤ a ∧ a ≤ 9) ∧ (0 ≤ b ∧ b ≤ 99)) ∨ ((0 : Int32) = 1 ∧ (¬ ((0 ≤ a ∧ a ≤ 9) ∧ (0 ≤ b ∧ b ≤ 99)))) := by grind
def wo_c_L_leg_w : List Cond := [Cond.codeWith yL_leg cL_leg 5 (some .int) [(0, 10, 13, 13), (0, 10, 17, 15)], Cond.classLink RL 13 "java/lang/IllegalArgumentException"]
def wo_c_L_leg : List Cond := .codeWith yL_leg cL_leg 5 (some .int) [(0, 10, 13, 13), (0, 10, 17, 15)] :: (wo_c_L_leg_w ++ (wsV RL 141 RX11 yX11_leg wo_c_X11_leg ++ List.nil))
theorem gw_wo_c_L_leg : wo_c_L_leg.all goodWord = true := gw_c (by decide +kernel) (gw_a (by decide +kernel) (gw_a (gw_a (by decide +kernel) gw_wo_c_X11_leg) rfl))
theorem go_c_L_leg_0 : GoodIn wo_c_L_leg (wsV RL 141 RX11 yX11_leg wo_c_X11_leg) := goodIn_sub (fun _ h => List.mem_cons_of_mem _ (List.mem_append_right _ (List.mem_append_left _ h))) (gw_a (by decide +kernel) gw_wo_c_X11_leg)
set_option maxHeartbeats 4000000 in
set_option maxRecDepth 100000 in
/-- the law: leg -/
theorem c_L_leg (l : Launch) (hst : l.stackTraces = false) (dC : Nat → ClassId) (dI : Nat → Nat → Nat) (b0 : Nat) (en : EnT) (sz : Nat) (h pal she fil nte dat vot loa nos pic spa : Nat) (lh ld : Nat) (kI : ClassId) (a b : Int32) (out : Nat) (kO : ClassId) (fo : Nat → Int64) : vx_Met l yL_leg wo_c_L_leg ({ frames := 8, cells := 2, slots := 12, locals := 132 } : Room) (cP b0 en (dC, dI) [(kI, .int), (kO, .long)] [(loa, .inr (9, [.ref lh, .ref ld, .int 0])), (lh, .inl (kI, 8, .inl (fun _ => 0))), (ld, .inl (kI, 8, .inl (fun _ => 0))), (out, .inl (kO, 1, .inr (.inl fo)))] [(h, .inr (17, [.ref pal, .ref she, .ref fil, .ref nte, .ref dat, .ref vot, .ref loa, .ref nos, .ref pic, .ref spa, .int 5, .int 50, .int 1600, .int 0]))] sz (fun _ => True) [.ref h, .int a, .int b, .ref out]) (va_Qi (fun (r : Int32) (u : Nat → Int64) => (r = 0 ∧ u 0 = (1 : Int32).toInt64 ∧ (0 ≤ a ∧ a ≤ 9) ∧ (0 ≤ b ∧ b ≤ 99)) ∨ (r = 1 ∧ (¬ ((0 ≤ a ∧ a ≤ 9) ∧ (0 ≤ b ∧ b ≤ 99))))) (fun u t => cB (dC, dI) [] [(out, .inl (kO, 1, .inr (.inl u)))] (va_A [(loa, .inr (9, [.ref lh, .ref ld, .int 0])), (lh, .inl (kI, 8, .inl (fun _ => 0))), (ld, .inl (kI, 8, .inl (fun _ => 0))), (out, .inl (kO, 1, .inr (.inl fo)))] sz) (fun _ => True) t) (va_A [(loa, .inr (9, [.ref lh, .ref ld, .int 0])), (lh, .inl (kI, 8, .inl (fun _ => 0))), (ld, .inl (kI, 8, .inl (fun _ => 0))), (out, .inl (kO, 1, .inr (.inl fo)))] sz)) (vx_X (fun _ : Unit => True) (fun E _ _ => (E = "none" ∧ False)) (va_A [(loa, .inr (9, [.ref lh, .ref ld, .int 0])), (lh, .inl (kI, 8, .inl (fun _ => 0))), (ld, .inl (kI, 8, .inl (fun _ => 0))), (out, .inl (kO, 1, .inr (.inl fo)))] sz)) 2 12 (va_A [(loa, .inr (9, [.ref lh, .ref ld, .int 0])), (lh, .inl (kI, 8, .inl (fun _ => 0))), (ld, .inl (kI, 8, .inl (fun _ => 0))), (out, .inl (kO, 1, .inr (.inl fo)))] sz) := by
  refine vx_ofWH (cc := cL_leg) (maxL := 5) (ret := (some .int)) (hh := [(0, 10, 13, 13), (0, 10, 17, 15)]) (by decide) rfl ?_
  intro p e s m args below meth c s₁ B hml hv
  obtain ⟨rfl, hsz, hb0, hE, hPP, hK, hDD, hF0⟩ := hv
  have hx := B.exec
  have hb := B.bytes
  have hr := B.returns
  have hts := atoms_spec (ws := wo_c_L_leg) B.pre
  have hown : s.vm.findClass RL = some m.cls := findClass_of_methodNamed B.named
  have hlocks := B.notSynchronized
  subst hsz
  have hN0 := en_N hPP hDD rfl
  have hP : va_P (dC, dI) vwCl [(loa, .inr (9, [.ref lh, .ref ld, .int 0])), (lh, .inl (kI, 8, .inl (fun _ => 0))), (ld, .inl (kI, 8, .inl (fun _ => 0))), (out, .inl (kO, 1, .inr (.inl fo)))] s.heap := hPP.sub [0, 1, 2, 3] rfl
  have hR0 : va_P (dC, dI) vwCl [(h, .inr (17, [.ref pal, .ref she, .ref fil, .ref nte, .ref dat, .ref vot, .ref loa, .ref nos, .ref pic, .ref spa, .int 5, .int 50, .int 1600, .int 0]))] s.heap := hPP.sub [4] rfl
  have hD0 : va_D (fun q => b0 ≤ q) [(loa, .inr (9, [.ref lh, .ref ld, .int 0])), (lh, .inl (kI, 8, .inl (fun _ => 0))), (ld, .inl (kI, 8, .inl (fun _ => 0))), (out, .inl (kO, 1, .inr (.inl fo)))] := hDD.sub [0, 1, 2, 3] (by decide) rfl
  have hDr : va_D (fun q => b0 ≤ q) [(h, .inr (17, [.ref pal, .ref she, .ref fil, .ref nte, .ref dat, .ref vot, .ref loa, .ref nos, .ref pic, .ref spa, .int 5, .int 50, .int 1600, .int 0]))] := hDD.sub [4] (by decide) rfl
  have hAb := en_A (sz := s.heap.size) hD0 hb0
  have hD := hD0.self (sz := s.heap.size)
  generalize hAe : va_A [(loa, .inr (9, [.ref lh, .ref ld, .int 0])), (lh, .inl (kI, 8, .inl (fun _ => 0))), (ld, .inl (kI, 8, .inl (fun _ => 0))), (out, .inl (kO, 1, .inr (.inl fo)))] s.heap.size = A at hD hAb hN0 ⊢
  have hA : ∀ q : Nat, s.heap.size ≤ q → A q := fun q h => by rw [← hAe]; exact Or.inr h
  have hS : va_S A s.heap s.heap [] := va_S.rf
  have hR := hR0
  have hl := lv_entry [.ref h, .int a, .int b, .ref out] (n := 5) (Nat.le_of_ble_eq_true rfl)
  rw [lg_entry_eq]
  generalize (lg_sl [.ref h, .int a, .int b, .ref out] ++ List.replicate (5 - (lg_sl [.ref h, .int a, .int b, .ref out]).length) Slot.unset).toArray = ls at hl ⊢
  have hl : lv_has ls 5 [(0, .ref h), (1, .int a), (2, .int b), (3, .ref out)] := hl
  have hTab := vx_table (x := yL_leg) B (hts (.codeWith yL_leg cL_leg 5 (some .int) [(0, 10, 13, 13), (0, 10, 17, 15)]) (by decide +kernel))
  refine lv_aload_n hx hb dL_leg_0 rfl (lv_at hl 3 rfl) ?_
  refine lv_iconst (v := 0) hx hb dL_leg_1 (by decide) ?_
  refine lv_aload_n hx hb dL_leg_2 rfl (lv_at hl 0 rfl) ?_
  refine lv_iload_n hx hb dL_leg_3 rfl (lv_at hl 1 rfl) ?_
  refine lv_iload_n hx hb dL_leg_4 rfl (lv_at hl 2 rfl) ?_
  have hPc := (hP.app hR).sub (ws' := [(loa, .inr (9, [.ref lh, .ref ld, .int 0])), (lh, .inl (kI, 8, .inl (fun _ => 0))), (ld, .inl (kI, 8, .inl (fun _ => 0)))] ++ [(h, .inr (17, [.ref pal, .ref she, .ref fil, .ref nte, .ref dat, .ref vot, .ref loa, .ref nos, .ref pic, .ref spa, .int 5, .int 50, .int 1600, .int 0]))]) [0, 1, 2, 4] rfl
  have hDc := (en_DD hD hDr hN0 hAb).sub (ws' := [(loa, .inr (9, [.ref lh, .ref ld, .int 0])), (lh, .inl (kI, 8, .inl (fun _ => 0))), (ld, .inl (kI, 8, .inl (fun _ => 0)))] ++ [(h, .inr (17, [.ref pal, .ref she, .ref fil, .ref nte, .ref dat, .ref vot, .ref loa, .ref nos, .ref pic, .ref spa, .int 5, .int 50, .int 1600, .int 0]))]) [0, 1, 2, 4] (by decide) rfl
  have hKc := hK.sub (tys' := [(kI, .int)]) [0] rfl
  have hFc := va_free (wc := [(loa, .inr (9, [.ref lh, .ref ld, .int 0])), (lh, .inl (kI, 8, .inl (fun _ => 0))), (ld, .inl (kI, 8, .inl (fun _ => 0)))]) hD hS hA [0, 1, 2] rfl
  refine vx_calli (vx_runV (As := [.int a, .int b]) (rest := [.int 0, .ref out]) ⟨hx, hb, hml, hown, hts⟩ (c_X11_leg l hst dC dI b0 en s.heap.size h pal she fil nte dat vot loa nos pic spa lh ld kI a b) (cwV 2 hts go_c_L_leg_0 rfl rfl rfl (by decide +kernel) ⟨Nat.le_of_ble_eq_true rfl, Nat.le_of_ble_eq_true rfl⟩) ⟨cP.blind, va_recv hK hR (ci := 17) (q0 := 0) rfl rfl, cP.use (en_z hb0 hS) (hE.on hAb hS) hPc hKc hDc trivial⟩ rfl rfl hl.1 rfl (lv_room (Nat.le_of_ble_eq_true rfl)) dL_leg_5 ⟨Nat.le_of_ble_eq_true rfl, Nat.le_of_ble_eq_true rfl⟩) hS (fun q _ h => hFc q h) hFc (fun q _ h => hFc q h) (fun E ce q9 u t H1 locs ht hvm hpx hBX hz1 hk1 hS hce hcv hcl => ?_) (fun r_1 u t H1 locs ht hvm hw hB hz1 hk1 hS => ?_)
  · skip
    try dsimp only at hBX
    obtain ⟨rfl, hc⟩ := hBX
    have hP1 : va_P (dC, dI) vwCl [] H1 := fun k q h => by simp at h
    have hD1 : va_D (va_A [(loa, .inr (9, [.ref lh, .ref ld, .int 0])), (lh, .inl (kI, 8, .inl (fun _ => 0))), (ld, .inl (kI, 8, .inl (fun _ => 0)))] s.heap.size) [] := ⟨fun i j p q h => by simp at h, fun k q h => by simp at h⟩
    obtain ⟨hP, hD⟩ := va_join (wr := [(out, .inl (kO, 1, .inr (.inl fo)))]) (w1 := []) hP hD [0, 1, 2] [3] rfl rfl (by decide) (by decide) hk1 hFc hP1 hD1
    generalize H1 = H at hP hS hce ⊢
    have hP : va_P (dC, dI) vwCl [(out, .inl (kO, 1, .inr (.inl fo)))] H := hP
    have hD : va_D A [(out, .inl (kO, 1, .inr (.inl fo)))] := hD
    have hR := en_R hR0 hN0 hS
    refine vx_catch (own := RL) (name := "java/lang/IllegalArgumentException") (E := "java/lang/IllegalArgumentException") hown [] ⟨0, 10, 13, 13⟩ [⟨0, 10, 17, 15⟩] hTab (fun _ h9 => absurd h9 List.not_mem_nil) (by decide) (by decide) (hts (.classLink RL 13 "java/lang/IllegalArgumentException") (by decide +kernel)) (va_Nw.use rfl (hE.cast (by decide))) hce hcv hcl ?_
    refine lv_astore (lv' := [(4, .ref q9), (0, .ref h), (1, .int a), (2, .int b), (3, .ref out)]) hx hb dL_leg_13 hl (by decide) rfl (fun ls hl => ?_)
    refine lv_iconst (v := 1) hx hb dL_leg_15 (by decide) ?_
    refine W.widen (k := 2) (n := 12) (Nat.le_of_ble_eq_true rfl) (Nat.le_of_ble_eq_true rfl) ?_
    refine vx_ret ?_
    exact W.iret (v := 1) hx hb hr (fun t ht hW => ⟨⟨1, fo, rfl, (z_c_L_leg_458 a b fo hc), cB.mk ht hW (hP.sub [0] rfl) (hK.sub [] rfl) (hD.sub [0] (by decide) rfl) (trivial)⟩, hS.F ht⟩) hS.2.2 dL_leg_16
  have hP1 : va_P (dC, dI) vwCl [] H1 := fun k q h => by simp at h
  have hD1 : va_D (va_A [(loa, .inr (9, [.ref lh, .ref ld, .int 0])), (lh, .inl (kI, 8, .inl (fun _ => 0))), (ld, .inl (kI, 8, .inl (fun _ => 0)))] s.heap.size) [] := ⟨fun i j p q h => by simp at h, fun k q h => by simp at h⟩
  try dsimp only at hw
  obtain ⟨hP, hD⟩ := va_join (wr := [(out, .inl (kO, 1, .inr (.inl fo)))]) (w1 := []) hP hD [0, 1, 2] [3] rfl rfl (by decide) (by decide) hk1 hFc hP1 hD1
  generalize H1 = H at hP hS ⊢
  have hP : va_P (dC, dI) vwCl [(out, .inl (kO, 1, .inr (.inl fo)))] H := hP
  have hD : va_D A [(out, .inl (kO, 1, .inr (.inl fo)))] := hD
  have hR := en_R hR0 hN0 hS
  refine W.widen (k := 2) (n := 12) (Nat.le_of_ble_eq_true rfl) (Nat.le_of_ble_eq_true rfl) ?_
  obtain ⟨hw, h_2⟩ := hw
  subst r_1
  refine lv_i2l hx hb dL_leg_8 rfl ?_
  refine lv_topl (fun y_3 ey_3 => ?_)
  refine va_last hx hb hK hP hD hS 0 1 rfl rfl (vp_in_nI (by decide : 0 < 1) (by decide)) dL_leg_9 (fun H locs hP hD hS => ?_)
  generalize ef_4 : vp_updL fo (0 : Int32).toNatClampNeg y_3 = f_4 at hP hD
  have hP : va_P (dC, dI) vwCl [(out, .inl (kO, 1, .inr (.inl f_4)))] H := hP
  have hD : va_D A [(out, .inl (kO, 1, .inr (.inl f_4)))] := hD
  have hR := en_R hR0 hN0 hS
  have h_5 : f_4 0 = y_3 := by rw [← ef_4]; exact pk_uLs
  refine lv_goto (tgt := 21) hx hb dL_leg_10 (by decide) ?_
  refine lv_iconst (v := 0) hx hb dL_leg_21 (by decide) ?_
  refine W.widen (k := 2) (n := 12) (Nat.le_of_ble_eq_true rfl) (Nat.le_of_ble_eq_true rfl) ?_
  refine vx_ret ?_
  exact W.iret (v := 0) hx hb hr (fun t ht hW => ⟨⟨0, f_4, rfl, (z_c_L_leg_459 a b y_3 f_4 h_2 ey_3 h_5), cB.mk ht hW (hP.sub [0] rfl) (hK.sub [] rfl) (hD.sub [0] (by decide) rfl) (trivial)⟩, hS.F ht⟩) hS.2.2 dL_leg_22

def wo_c_L_lend_w : List Cond := [Cond.codeWith yL_lend cL_lend 3 (some .int) [(0, 8, 11, 23), (0, 8, 14, 15)], Cond.classLink RL 23 "java/lang/UnsupportedOperationException"]
def wo_c_L_lend : List Cond := .codeWith yL_lend cL_lend 3 (some .int) [(0, 8, 11, 23), (0, 8, 14, 15)] :: (wo_c_L_lend_w ++ (wsV RL 144 RX11 yX11_lend wo_c_X11_lend ++ List.nil))
theorem gw_wo_c_L_lend : wo_c_L_lend.all goodWord = true := gw_c (by decide +kernel) (gw_a (by decide +kernel) (gw_a (gw_a (by decide +kernel) gw_wo_c_X11_lend) rfl))
theorem go_c_L_lend_0 : GoodIn wo_c_L_lend (wsV RL 144 RX11 yX11_lend wo_c_X11_lend) := goodIn_sub (fun _ h => List.mem_cons_of_mem _ (List.mem_append_right _ (List.mem_append_left _ h))) (gw_a (by decide +kernel) gw_wo_c_X11_lend)
set_option maxHeartbeats 4000000 in
set_option maxRecDepth 100000 in
/-- the law: lend -/
theorem c_L_lend (l : Launch) (hst : l.stackTraces = false) (dC : Nat → ClassId) (dI : Nat → Nat → Nat) (b0 : Nat) (en : EnT) (sz : Nat) (h pal she fil nte dat vot loa nos pic spa : Nat) (st sp ll : Nat) (g : Nat → Option Nat) (cS : ClassId) (N : Nat → Prop) (lh ld : Nat) (out : Nat) (hNb : ∀ a, N a → b0 ≤ a ∧ a < sz) (hNw : ∀ a, N a → a ∉ List.map Prod.fst ([(fil, .inr (5, [.int 0, .ref en.2.2.1, .int 0]))] : va_W)) (hNr : ∀ a, N a → a ∉ List.map Prod.fst ([(h, .inr (17, [.ref pal, .ref she, .ref fil, .ref nte, .ref dat, .ref vot, .ref loa, .ref nos, .ref pic, .ref spa, .int 5, .int 50, .int 1600, .int 0])), (pic, .inr (11, [.ref st, .ref sp, .ref ll, .int 0, .int 1600])), (st, .inl (cS, 48, .inr (.inr (.inr (.inr g))))), (loa, .inr (9, [.ref lh, .ref ld, .int 0]))] : va_W)) : vx_Met l yL_lend wo_c_L_lend ({ frames := 9, cells := 5, slots := 37, locals := 153 } : Room) (cP b0 en (dC, dI) [(cS, .object "Underpaint$Stack")] [(fil, .inr (5, [.int 0, .ref en.2.2.1, .int 0]))] [(h, .inr (17, [.ref pal, .ref she, .ref fil, .ref nte, .ref dat, .ref vot, .ref loa, .ref nos, .ref pic, .ref spa, .int 5, .int 50, .int 1600, .int 0])), (pic, .inr (11, [.ref st, .ref sp, .ref ll, .int 0, .int 1600])), (st, .inl (cS, 48, .inr (.inr (.inr (.inr g))))), (loa, .inr (9, [.ref lh, .ref ld, .int 0]))] sz (FamS (dC, dI) N g) [.ref h, .ref out]) (va_Qi (fun (r : Int32) (u : Unit) => r = 1) (fun u t => cB (dC, dI) [] [] (va_A [(fil, .inr (5, [.int 0, .ref en.2.2.1, .int 0]))] sz) (fun _ => True) t) (va_A [(fil, .inr (5, [.int 0, .ref en.2.2.1, .int 0]))] sz)) (vx_X (fun _ : Unit => True) (fun E _ _ => (E = "none" ∧ False)) (va_A [(fil, .inr (5, [.int 0, .ref en.2.2.1, .int 0]))] sz)) 5 37 (va_A [(fil, .inr (5, [.int 0, .ref en.2.2.1, .int 0]))] sz) := by
  refine vx_ofWH (cc := cL_lend) (maxL := 3) (ret := (some .int)) (hh := [(0, 8, 11, 23), (0, 8, 14, 15)]) (by decide) rfl ?_
  intro p e s m args below meth c s₁ B hml hv
  obtain ⟨rfl, hsz, hb0, hE, hPP, hK, hDD, hF0⟩ := hv
  have hx := B.exec
  have hb := B.bytes
  have hr := B.returns
  have hts := atoms_spec (ws := wo_c_L_lend) B.pre
  have hown : s.vm.findClass RL = some m.cls := findClass_of_methodNamed B.named
  have hlocks := B.notSynchronized
  subst hsz
  have hN0 := en_N hPP hDD rfl
  have hP : va_P (dC, dI) vwCl [(fil, .inr (5, [.int 0, .ref en.2.2.1, .int 0]))] s.heap := hPP.sub [0] rfl
  have hR0 : va_P (dC, dI) vwCl [(h, .inr (17, [.ref pal, .ref she, .ref fil, .ref nte, .ref dat, .ref vot, .ref loa, .ref nos, .ref pic, .ref spa, .int 5, .int 50, .int 1600, .int 0])), (pic, .inr (11, [.ref st, .ref sp, .ref ll, .int 0, .int 1600])), (st, .inl (cS, 48, .inr (.inr (.inr (.inr g))))), (loa, .inr (9, [.ref lh, .ref ld, .int 0]))] s.heap := hPP.sub [1, 2, 3, 4] rfl
  have hD0 : va_D (fun q => b0 ≤ q) [(fil, .inr (5, [.int 0, .ref en.2.2.1, .int 0]))] := hDD.sub [0] (by decide) rfl
  have hDr : va_D (fun q => b0 ≤ q) [(h, .inr (17, [.ref pal, .ref she, .ref fil, .ref nte, .ref dat, .ref vot, .ref loa, .ref nos, .ref pic, .ref spa, .int 5, .int 50, .int 1600, .int 0])), (pic, .inr (11, [.ref st, .ref sp, .ref ll, .int 0, .int 1600])), (st, .inl (cS, 48, .inr (.inr (.inr (.inr g))))), (loa, .inr (9, [.ref lh, .ref ld, .int 0]))] := hDD.sub [1, 2, 3, 4] (by decide) rfl
  have hAb := en_A (sz := s.heap.size) hD0 hb0
  have hD := hD0.self (sz := s.heap.size)
  generalize hAe : va_A [(fil, .inr (5, [.int 0, .ref en.2.2.1, .int 0]))] s.heap.size = A at hD hAb hN0 ⊢
  have hA : ∀ q : Nat, s.heap.size ≤ q → A q := fun q h => by rw [← hAe]; exact Or.inr h
  have hS : va_S A s.heap s.heap [] := va_S.rf
  have hR := hR0
  have hl := lv_entry [.ref h, .ref out] (n := 3) (Nat.le_of_ble_eq_true rfl)
  rw [lg_entry_eq]
  generalize (lg_sl [.ref h, .ref out] ++ List.replicate (3 - (lg_sl [.ref h, .ref out]).length) Slot.unset).toArray = ls at hl ⊢
  have hl : lv_has ls 3 [(0, .ref h), (1, .ref out)] := hl
  have hTab := vx_table (x := yL_lend) B (hts (.codeWith yL_lend cL_lend 3 (some .int) [(0, 8, 11, 23), (0, 8, 14, 15)]) (by decide +kernel))
  have hR0b := hR0
  have hDrb := hDr
  have hN0b := hN0
  refine lv_aload_n hx hb dL_lend_0 rfl (lv_at hl 1 rfl) ?_
  refine lv_iconst (v := 0) hx hb dL_lend_1 (by decide) ?_
  refine lv_aload_n hx hb dL_lend_2 rfl (lv_at hl 0 rfl) ?_
  have hPc := (hP.app hR).sub (ws' := [(fil, .inr (5, [.int 0, .ref en.2.2.1, .int 0]))] ++ [(h, .inr (17, [.ref pal, .ref she, .ref fil, .ref nte, .ref dat, .ref vot, .ref loa, .ref nos, .ref pic, .ref spa, .int 5, .int 50, .int 1600, .int 0])), (pic, .inr (11, [.ref st, .ref sp, .ref ll, .int 0, .int 1600])), (st, .inl (cS, 48, .inr (.inr (.inr (.inr g))))), (loa, .inr (9, [.ref lh, .ref ld, .int 0]))]) [0, 1, 2, 3, 4] rfl
  have hDc := (en_DD hD hDr hN0 hAb).sub (ws' := [(fil, .inr (5, [.int 0, .ref en.2.2.1, .int 0]))] ++ [(h, .inr (17, [.ref pal, .ref she, .ref fil, .ref nte, .ref dat, .ref vot, .ref loa, .ref nos, .ref pic, .ref spa, .int 5, .int 50, .int 1600, .int 0])), (pic, .inr (11, [.ref st, .ref sp, .ref ll, .int 0, .int 1600])), (st, .inl (cS, 48, .inr (.inr (.inr (.inr g))))), (loa, .inr (9, [.ref lh, .ref ld, .int 0]))]) [0, 1, 2, 3, 4] (by decide) rfl
  have hKc := hK.sub (tys' := [(cS, .object "Underpaint$Stack")]) [0] rfl
  have hFc := va_free (wc := [(fil, .inr (5, [.int 0, .ref en.2.2.1, .int 0]))]) hD hS hA [0] rfl
  refine vx_calli (vx_runV (As := []) (rest := [.int 0, .ref out]) ⟨hx, hb, hml, hown, hts⟩ (c_X11_lend l hst dC dI b0 en s.heap.size h pal she fil nte dat vot loa nos pic spa st sp ll g cS N lh ld (fun a9 h9 => ⟨(hNb a9 h9).1, Nat.lt_of_lt_of_le (hNb a9 h9).2 hS.1⟩) (fun a9 h9 z9 => by have g1 := hNw a9 h9; have g2 := hNr a9 h9; have g3 := (hNb a9 h9).2; simp only [List.map_cons, List.map_nil, List.mem_cons, List.not_mem_nil, or_false, not_or] at g1 g2 z9 <;> omega) (fun a9 h9 z9 => by have g1 := hNw a9 h9; have g2 := hNr a9 h9; have g3 := (hNb a9 h9).2; simp only [List.map_cons, List.map_nil, List.mem_cons, List.not_mem_nil, or_false, not_or] at g1 g2 z9 <;> omega)) (cwV 0 hts go_c_L_lend_0 rfl rfl rfl (by decide +kernel) ⟨Nat.le_of_ble_eq_true rfl, Nat.le_of_ble_eq_true rfl⟩) ⟨cP.blind, va_recv hK hR (ci := 17) (q0 := 0) rfl rfl, cP.use (en_z hb0 hS) (hE.on hAb hS) hPc hKc hDc (hF0.on (fun a9 h8 h9 => by rw [← hAe]; exact vA1 h8 (hNw a9 h9)) hS)⟩ rfl rfl hl.1 rfl (lv_room (Nat.le_of_ble_eq_true rfl)) dL_lend_3 ⟨Nat.le_of_ble_eq_true rfl, Nat.le_of_ble_eq_true rfl⟩) hS (fun q _ h => hFc q h) hFc (fun q _ h => hFc q h) (fun E ce q9 u t H1 locs ht hvm hpx hBX hz1 hk1 hS hce hcv hcl => ?_) (fun r_1 u t H1 locs ht hvm hw hB hz1 hk1 hS => ?_)
  · skip
    try dsimp only at hBX
    obtain ⟨rfl, hc⟩ := hBX
    have hP1 : va_P (dC, dI) vwCl [] H1 := fun k q h => by simp at h
    have hD1 : va_D (va_A [(fil, .inr (5, [.int 0, .ref en.2.2.1, .int 0]))] s.heap.size) [] := ⟨fun i j p q h => by simp at h, fun k q h => by simp at h⟩
    obtain ⟨hP, hD⟩ := va_join (wr := []) (w1 := []) hP hD [0] [] rfl rfl (by decide) (by decide) hk1 hFc hP1 hD1
    generalize H1 = H at hP hS hce ⊢
    have hP : va_P (dC, dI) vwCl [] H := hP
    have hD : va_D A [] := hD
    have hR := en_R hR0 hN0 hS
    refine vx_catch (own := RL) (name := "java/lang/UnsupportedOperationException") (E := "java/lang/UnsupportedOperationException") hown [] ⟨0, 8, 11, 23⟩ [⟨0, 8, 14, 15⟩] hTab (fun _ h9 => absurd h9 List.not_mem_nil) (by decide) (by decide) (hts (.classLink RL 23 "java/lang/UnsupportedOperationException") (by decide +kernel)) (va_Nw.use rfl (hE.cast (by decide))) hce hcv hcl ?_
    refine lv_astore_n (lv' := [(2, .ref q9), (0, .ref h), (1, .ref out)]) hx hb dL_lend_11 rfl hl (by decide) rfl (fun ls hl => ?_)
    refine lv_iconst (v := 1) hx hb dL_lend_12 (by decide) ?_
    refine W.widen (k := 5) (n := 37) (Nat.le_of_ble_eq_true rfl) (Nat.le_of_ble_eq_true rfl) ?_
    refine vx_ret ?_
    exact W.iret (v := 1) hx hb hr (fun t ht hW => ⟨⟨1, (), rfl, (z_c_L_clash_419 hc), cB.mk ht hW (hP.sub [] rfl) (hK.sub [] rfl) (hD.sub [] (by decide) rfl) (trivial)⟩, hS.F ht⟩) hS.2.2 dL_lend_13
  exact (show False from hw).elim

set_option maxRecDepth 100000 in
theorem gw_wsX11_actAt : wsX11_actAt.all goodWord = true := by decide +kernel
def wo_c_L_actAt_w : List Cond := [Cond.codeWith yL_actAt cL_actAt 4 (some .int) [(0, 9, 12, 21)], Cond.classLink RL 21 "java/lang/IndexOutOfBoundsException"]
def wo_c_L_actAt : List Cond := .codeWith yL_actAt cL_actAt 4 (some .int) [(0, 9, 12, 21)] :: (wo_c_L_actAt_w ++ (wsV RL 147 RX11 yX11_actAt wsX11_actAt ++ List.nil))
theorem gw_wo_c_L_actAt : wo_c_L_actAt.all goodWord = true := gw_c (by decide +kernel) (gw_a (by decide +kernel) (gw_a (gw_a (by decide +kernel) gw_wsX11_actAt) rfl))
theorem go_c_L_actAt_0 : GoodIn wo_c_L_actAt (wsV RL 147 RX11 yX11_actAt wsX11_actAt) := goodIn_sub (fun _ h => List.mem_cons_of_mem _ (List.mem_append_right _ (List.mem_append_left _ h))) (gw_a (by decide +kernel) gw_wsX11_actAt)
set_option maxHeartbeats 4000000 in
set_option maxRecDepth 100000 in
/-- the law: actAt -/
theorem c_L_actAt (l : Launch) (hst : l.stackTraces = false) (dC : Nat → ClassId) (dI : Nat → Nat → Nat) (b0 : Nat) (en : EnT) (sz : Nat) (h pal she fil nte dat vot loa nos pic spa : Nat) (ed : Nat) (a : Int32) (out : Nat) : vx_Met l yL_actAt wo_c_L_actAt ({ frames := 8, cells := 1, slots := 6, locals := 141 } : Room) (cP b0 en (dC, dI) [] [] [(h, .inr (17, [.ref pal, .ref she, .ref fil, .ref nte, .ref dat, .ref vot, .ref loa, .ref nos, .ref pic, .ref spa, .int 5, .int 50, .int 1600, .int 0])), (fil, .inr (5, [.int 0, .ref ed, .int 0]))] sz (fun _ => True) [.ref h, .int a, .ref out]) (va_Qi (fun (r : Int32) (u : Unit) => r = 1) (fun u t => cB (dC, dI) [] [] (va_A [] sz) (fun _ => True) t) (va_A [] sz)) (vx_X (fun _ : Unit => True) (fun E _ _ => (E = "none" ∧ False)) (va_A [] sz)) 1 6 (va_A [] sz) := by
  refine vx_ofWH (cc := cL_actAt) (maxL := 4) (ret := (some .int)) (hh := [(0, 9, 12, 21)]) (by decide) rfl ?_
  intro p e s m args below meth c s₁ B hml hv
  obtain ⟨rfl, hsz, hb0, hE, hPP, hK, hDD, hF0⟩ := hv
  have hx := B.exec
  have hb := B.bytes
  have hr := B.returns
  have hts := atoms_spec (ws := wo_c_L_actAt) B.pre
  have hown : s.vm.findClass RL = some m.cls := findClass_of_methodNamed B.named
  have hlocks := B.notSynchronized
  subst hsz
  have hN0 := en_N hPP hDD rfl
  have hP : va_P (dC, dI) vwCl [] s.heap := hPP.sub [] rfl
  have hR0 : va_P (dC, dI) vwCl [(h, .inr (17, [.ref pal, .ref she, .ref fil, .ref nte, .ref dat, .ref vot, .ref loa, .ref nos, .ref pic, .ref spa, .int 5, .int 50, .int 1600, .int 0])), (fil, .inr (5, [.int 0, .ref ed, .int 0]))] s.heap := hPP.sub [0, 1] rfl
  have hD0 : va_D (fun q => b0 ≤ q) [] := hDD.sub [] (by decide) rfl
  have hDr : va_D (fun q => b0 ≤ q) [(h, .inr (17, [.ref pal, .ref she, .ref fil, .ref nte, .ref dat, .ref vot, .ref loa, .ref nos, .ref pic, .ref spa, .int 5, .int 50, .int 1600, .int 0])), (fil, .inr (5, [.int 0, .ref ed, .int 0]))] := hDD.sub [0, 1] (by decide) rfl
  have hAb := en_A (sz := s.heap.size) hD0 hb0
  have hD := hD0.self (sz := s.heap.size)
  generalize hAe : va_A [] s.heap.size = A at hD hAb hN0 ⊢
  have hA : ∀ q : Nat, s.heap.size ≤ q → A q := fun q h => by rw [← hAe]; exact Or.inr h
  have hS : va_S A s.heap s.heap [] := va_S.rf
  have hR := hR0
  have hl := lv_entry [.ref h, .int a, .ref out] (n := 4) (Nat.le_of_ble_eq_true rfl)
  rw [lg_entry_eq]
  generalize (lg_sl [.ref h, .int a, .ref out] ++ List.replicate (4 - (lg_sl [.ref h, .int a, .ref out]).length) Slot.unset).toArray = ls at hl ⊢
  have hl : lv_has ls 4 [(0, .ref h), (1, .int a), (2, .ref out)] := hl
  have hTab := vx_table (x := yL_actAt) B (hts (.codeWith yL_actAt cL_actAt 4 (some .int) [(0, 9, 12, 21)]) (by decide +kernel))
  refine lv_aload_n hx hb dL_actAt_0 rfl (lv_at hl 2 rfl) ?_
  refine lv_iconst (v := 0) hx hb dL_actAt_1 (by decide) ?_
  refine lv_aload_n hx hb dL_actAt_2 rfl (lv_at hl 0 rfl) ?_
  refine lv_iload_n hx hb dL_actAt_3 rfl (lv_at hl 1 rfl) ?_
  have hPc := (hP.app hR).sub (ws' := [] ++ [(h, .inr (17, [.ref pal, .ref she, .ref fil, .ref nte, .ref dat, .ref vot, .ref loa, .ref nos, .ref pic, .ref spa, .int 5, .int 50, .int 1600, .int 0])), (fil, .inr (5, [.int 0, .ref ed, .int 0]))]) [0, 1] rfl
  have hDc := (en_DD hD hDr hN0 hAb).sub (ws' := [] ++ [(h, .inr (17, [.ref pal, .ref she, .ref fil, .ref nte, .ref dat, .ref vot, .ref loa, .ref nos, .ref pic, .ref spa, .int 5, .int 50, .int 1600, .int 0])), (fil, .inr (5, [.int 0, .ref ed, .int 0]))]) [0, 1] (by decide) rfl
  have hKc := hK.sub (tys' := []) [] rfl
  have hFc := va_free (wc := []) hD hS hA [] rfl
  refine vx_calli (vx_runV (As := [.int a]) (rest := [.int 0, .ref out]) ⟨hx, hb, hml, hown, hts⟩ (c_X11_actAt l hst dC dI b0 en s.heap.size h pal she fil nte dat vot loa nos pic spa ed a) (cwV 1 hts go_c_L_actAt_0 rfl rfl rfl (by decide +kernel) ⟨Nat.le_of_ble_eq_true rfl, Nat.le_of_ble_eq_true rfl⟩) ⟨cP.blind, va_recv hK hR (ci := 17) (q0 := 0) rfl rfl, cP.use (en_z hb0 hS) (hE.on hAb hS) hPc hKc hDc trivial⟩ rfl rfl hl.1 rfl (lv_room (Nat.le_of_ble_eq_true rfl)) dL_actAt_4 ⟨Nat.le_of_ble_eq_true rfl, Nat.le_of_ble_eq_true rfl⟩) hS (fun q _ h => hFc q h) hFc (fun q _ h => hFc q h) (fun E ce q9 u t H1 locs ht hvm hpx hBX hz1 hk1 hS hce hcv hcl => ?_) (fun r_1 u t H1 locs ht hvm hw hB hz1 hk1 hS => ?_)
  · skip
    try dsimp only at hBX
    obtain ⟨rfl, hc⟩ := hBX
    have hP1 : va_P (dC, dI) vwCl [] H1 := fun k q h => by simp at h
    have hD1 : va_D (va_A [] s.heap.size) [] := ⟨fun i j p q h => by simp at h, fun k q h => by simp at h⟩
    obtain ⟨hP, hD⟩ := va_join (wr := []) (w1 := []) hP hD [] [] rfl rfl (by decide) (by decide) hk1 hFc hP1 hD1
    generalize H1 = H at hP hS hce ⊢
    have hP : va_P (dC, dI) vwCl [] H := hP
    have hD : va_D A [] := hD
    have hR := en_R hR0 hN0 hS
    refine vx_catch (own := RL) (name := "java/lang/IndexOutOfBoundsException") (E := "java/lang/IndexOutOfBoundsException") hown [] ⟨0, 9, 12, 21⟩ [] hTab (fun _ h9 => absurd h9 List.not_mem_nil) (by decide) (by decide) (hts (.classLink RL 21 "java/lang/IndexOutOfBoundsException") (by decide +kernel)) (va_Nw.use rfl (hE.cast (by decide))) hce hcv hcl ?_
    refine lv_astore_n (lv' := [(3, .ref q9), (0, .ref h), (1, .int a), (2, .ref out)]) hx hb dL_actAt_12 rfl hl (by decide) rfl (fun ls hl => ?_)
    refine lv_iconst (v := 1) hx hb dL_actAt_13 (by decide) ?_
    refine W.widen (k := 1) (n := 6) (Nat.le_of_ble_eq_true rfl) (Nat.le_of_ble_eq_true rfl) ?_
    refine vx_ret ?_
    exact W.iret (v := 1) hx hb hr (fun t ht hW => ⟨⟨1, (), rfl, (z_c_L_clash_419 hc), cB.mk ht hW (hP.sub [] rfl) (hK.sub [] rfl) (hD.sub [] (by decide) rfl) (trivial)⟩, hS.F ht⟩) hS.2.2 dL_actAt_14
  exact (show False from hw).elim

set_option maxRecDepth 100000 in
theorem gw_wsX11_takeBack : wsX11_takeBack.all goodWord = true := by decide +kernel
def wo_c_L_takeBack_w : List Cond := [Cond.codeWith yL_takeBack cL_takeBack 4 (some .int) [(0, 9, 12, 21), (0, 9, 15, 23)], Cond.classLink RL 21 "java/lang/IndexOutOfBoundsException"]
def wo_c_L_takeBack : List Cond := .codeWith yL_takeBack cL_takeBack 4 (some .int) [(0, 9, 12, 21), (0, 9, 15, 23)] :: (wo_c_L_takeBack_w ++ (wsV RL 151 RX11 yX11_takeBack wsX11_takeBack ++ List.nil))
theorem gw_wo_c_L_takeBack : wo_c_L_takeBack.all goodWord = true := gw_c (by decide +kernel) (gw_a (by decide +kernel) (gw_a (gw_a (by decide +kernel) gw_wsX11_takeBack) rfl))
theorem go_c_L_takeBack_0 : GoodIn wo_c_L_takeBack (wsV RL 151 RX11 yX11_takeBack wsX11_takeBack) := goodIn_sub (fun _ h => List.mem_cons_of_mem _ (List.mem_append_right _ (List.mem_append_left _ h))) (gw_a (by decide +kernel) gw_wsX11_takeBack)
set_option maxHeartbeats 4000000 in
set_option maxRecDepth 100000 in
/-- the law: takeBack -/
theorem c_L_takeBack (l : Launch) (hst : l.stackTraces = false) (dC : Nat → ClassId) (dI : Nat → Nat → Nat) (b0 : Nat) (en : EnT) (sz : Nat) (h pal she fil nte dat vot loa nos pic spa : Nat) (ed : Nat) (a : Int32) (out : Nat) : vx_Met l yL_takeBack wo_c_L_takeBack ({ frames := 8, cells := 1, slots := 6, locals := 142 } : Room) (cP b0 en (dC, dI) [] [] [(h, .inr (17, [.ref pal, .ref she, .ref fil, .ref nte, .ref dat, .ref vot, .ref loa, .ref nos, .ref pic, .ref spa, .int 5, .int 50, .int 1600, .int 0])), (fil, .inr (5, [.int 0, .ref ed, .int 0]))] sz (fun _ => True) [.ref h, .int a, .ref out]) (va_Qi (fun (r : Int32) (u : Unit) => r = 1) (fun u t => cB (dC, dI) [] [] (va_A [] sz) (fun _ => True) t) (va_A [] sz)) (vx_X (fun _ : Unit => True) (fun E _ _ => (E = "none" ∧ False)) (va_A [] sz)) 1 6 (va_A [] sz) := by
  refine vx_ofWH (cc := cL_takeBack) (maxL := 4) (ret := (some .int)) (hh := [(0, 9, 12, 21), (0, 9, 15, 23)]) (by decide) rfl ?_
  intro p e s m args below meth c s₁ B hml hv
  obtain ⟨rfl, hsz, hb0, hE, hPP, hK, hDD, hF0⟩ := hv
  have hx := B.exec
  have hb := B.bytes
  have hr := B.returns
  have hts := atoms_spec (ws := wo_c_L_takeBack) B.pre
  have hown : s.vm.findClass RL = some m.cls := findClass_of_methodNamed B.named
  have hlocks := B.notSynchronized
  subst hsz
  have hN0 := en_N hPP hDD rfl
  have hP : va_P (dC, dI) vwCl [] s.heap := hPP.sub [] rfl
  have hR0 : va_P (dC, dI) vwCl [(h, .inr (17, [.ref pal, .ref she, .ref fil, .ref nte, .ref dat, .ref vot, .ref loa, .ref nos, .ref pic, .ref spa, .int 5, .int 50, .int 1600, .int 0])), (fil, .inr (5, [.int 0, .ref ed, .int 0]))] s.heap := hPP.sub [0, 1] rfl
  have hD0 : va_D (fun q => b0 ≤ q) [] := hDD.sub [] (by decide) rfl
  have hDr : va_D (fun q => b0 ≤ q) [(h, .inr (17, [.ref pal, .ref she, .ref fil, .ref nte, .ref dat, .ref vot, .ref loa, .ref nos, .ref pic, .ref spa, .int 5, .int 50, .int 1600, .int 0])), (fil, .inr (5, [.int 0, .ref ed, .int 0]))] := hDD.sub [0, 1] (by decide) rfl
  have hAb := en_A (sz := s.heap.size) hD0 hb0
  have hD := hD0.self (sz := s.heap.size)
  generalize hAe : va_A [] s.heap.size = A at hD hAb hN0 ⊢
  have hA : ∀ q : Nat, s.heap.size ≤ q → A q := fun q h => by rw [← hAe]; exact Or.inr h
  have hS : va_S A s.heap s.heap [] := va_S.rf
  have hR := hR0
  have hl := lv_entry [.ref h, .int a, .ref out] (n := 4) (Nat.le_of_ble_eq_true rfl)
  rw [lg_entry_eq]
  generalize (lg_sl [.ref h, .int a, .ref out] ++ List.replicate (4 - (lg_sl [.ref h, .int a, .ref out]).length) Slot.unset).toArray = ls at hl ⊢
  have hl : lv_has ls 4 [(0, .ref h), (1, .int a), (2, .ref out)] := hl
  have hTab := vx_table (x := yL_takeBack) B (hts (.codeWith yL_takeBack cL_takeBack 4 (some .int) [(0, 9, 12, 21), (0, 9, 15, 23)]) (by decide +kernel))
  refine lv_aload_n hx hb dL_takeBack_0 rfl (lv_at hl 2 rfl) ?_
  refine lv_iconst (v := 0) hx hb dL_takeBack_1 (by decide) ?_
  refine lv_aload_n hx hb dL_takeBack_2 rfl (lv_at hl 0 rfl) ?_
  refine lv_iload_n hx hb dL_takeBack_3 rfl (lv_at hl 1 rfl) ?_
  have hPc := (hP.app hR).sub (ws' := [] ++ [(h, .inr (17, [.ref pal, .ref she, .ref fil, .ref nte, .ref dat, .ref vot, .ref loa, .ref nos, .ref pic, .ref spa, .int 5, .int 50, .int 1600, .int 0])), (fil, .inr (5, [.int 0, .ref ed, .int 0]))]) [0, 1] rfl
  have hDc := (en_DD hD hDr hN0 hAb).sub (ws' := [] ++ [(h, .inr (17, [.ref pal, .ref she, .ref fil, .ref nte, .ref dat, .ref vot, .ref loa, .ref nos, .ref pic, .ref spa, .int 5, .int 50, .int 1600, .int 0])), (fil, .inr (5, [.int 0, .ref ed, .int 0]))]) [0, 1] (by decide) rfl
  have hKc := hK.sub (tys' := []) [] rfl
  have hFc := va_free (wc := []) hD hS hA [] rfl
  refine vx_calli (vx_runV (As := [.int a]) (rest := [.int 0, .ref out]) ⟨hx, hb, hml, hown, hts⟩ (c_X11_takeBack l hst dC dI b0 en s.heap.size h pal she fil nte dat vot loa nos pic spa ed a) (cwV 1 hts go_c_L_takeBack_0 rfl rfl rfl (by decide +kernel) ⟨Nat.le_of_ble_eq_true rfl, Nat.le_of_ble_eq_true rfl⟩) ⟨cP.blind, va_recv hK hR (ci := 17) (q0 := 0) rfl rfl, cP.use (en_z hb0 hS) (hE.on hAb hS) hPc hKc hDc trivial⟩ rfl rfl hl.1 rfl (lv_room (Nat.le_of_ble_eq_true rfl)) dL_takeBack_4 ⟨Nat.le_of_ble_eq_true rfl, Nat.le_of_ble_eq_true rfl⟩) hS (fun q _ h => hFc q h) hFc (fun q _ h => hFc q h) (fun E ce q9 u t H1 locs ht hvm hpx hBX hz1 hk1 hS hce hcv hcl => ?_) (fun r_1 u t H1 locs ht hvm hw hB hz1 hk1 hS => ?_)
  · skip
    try dsimp only at hBX
    obtain ⟨rfl, hc⟩ := hBX
    have hP1 : va_P (dC, dI) vwCl [] H1 := fun k q h => by simp at h
    have hD1 : va_D (va_A [] s.heap.size) [] := ⟨fun i j p q h => by simp at h, fun k q h => by simp at h⟩
    obtain ⟨hP, hD⟩ := va_join (wr := []) (w1 := []) hP hD [] [] rfl rfl (by decide) (by decide) hk1 hFc hP1 hD1
    generalize H1 = H at hP hS hce ⊢
    have hP : va_P (dC, dI) vwCl [] H := hP
    have hD : va_D A [] := hD
    have hR := en_R hR0 hN0 hS
    refine vx_catch (own := RL) (name := "java/lang/IndexOutOfBoundsException") (E := "java/lang/IndexOutOfBoundsException") hown [] ⟨0, 9, 12, 21⟩ [⟨0, 9, 15, 23⟩] hTab (fun _ h9 => absurd h9 List.not_mem_nil) (by decide) (by decide) (hts (.classLink RL 21 "java/lang/IndexOutOfBoundsException") (by decide +kernel)) (va_Nw.use rfl (hE.cast (by decide))) hce hcv hcl ?_
    refine lv_astore_n (lv' := [(3, .ref q9), (0, .ref h), (1, .int a), (2, .ref out)]) hx hb dL_takeBack_12 rfl hl (by decide) rfl (fun ls hl => ?_)
    refine lv_iconst (v := 1) hx hb dL_takeBack_13 (by decide) ?_
    refine W.widen (k := 1) (n := 6) (Nat.le_of_ble_eq_true rfl) (Nat.le_of_ble_eq_true rfl) ?_
    refine vx_ret ?_
    exact W.iret (v := 1) hx hb hr (fun t ht hW => ⟨⟨1, (), rfl, (z_c_L_clash_419 hc), cB.mk ht hW (hP.sub [] rfl) (hK.sub [] rfl) (hD.sub [] (by decide) rfl) (trivial)⟩, hS.F ht⟩) hS.2.2 dL_takeBack_14
  exact (show False from hw).elim

def wo_c_L_meanTone_w : List Cond := [Cond.codeWith yL_meanTone cL_meanTone 3 (some .int) [(0, 7, 10, 158)], Cond.classLink RL 158 "java/lang/ArithmeticException"]
def wo_c_L_meanTone : List Cond := .codeWith yL_meanTone cL_meanTone 3 (some .int) [(0, 7, 10, 158)] :: (wo_c_L_meanTone_w ++ (wsV RL 154 RX11 yX11_meanTone wo_c_X11_meanTone ++ List.nil))
theorem gw_wo_c_L_meanTone : wo_c_L_meanTone.all goodWord = true := gw_c (by decide +kernel) (gw_a (by decide +kernel) (gw_a (gw_a (by decide +kernel) gw_wo_c_X11_meanTone) rfl))
theorem go_c_L_meanTone_0 : GoodIn wo_c_L_meanTone (wsV RL 154 RX11 yX11_meanTone wo_c_X11_meanTone) := goodIn_sub (fun _ h => List.mem_cons_of_mem _ (List.mem_append_right _ (List.mem_append_left _ h))) (gw_a (by decide +kernel) gw_wo_c_X11_meanTone)
set_option maxHeartbeats 4000000 in
set_option maxRecDepth 100000 in
/-- the law: meanTone -/
theorem c_L_meanTone (l : Launch) (hst : l.stackTraces = false) (dC : Nat → ClassId) (dI : Nat → Nat → Nat) (b0 : Nat) (en : EnT) (sz : Nat) (h pal she fil nte dat vot loa nos pic spa : Nat) (st sp ll : Nat) (g : Nat → Option Nat) (cS : ClassId) (N : Nat → Prop) (out : Nat) (hNb : ∀ a, N a → b0 ≤ a ∧ a < sz) (hNw : ∀ a, N a → a ∉ List.map Prod.fst ([] : va_W)) (hNr : ∀ a, N a → a ∉ List.map Prod.fst ([(h, .inr (17, [.ref pal, .ref she, .ref fil, .ref nte, .ref dat, .ref vot, .ref loa, .ref nos, .ref pic, .ref spa, .int 5, .int 50, .int 1600, .int 0])), (pic, .inr (11, [.ref st, .ref sp, .ref ll, .int 0, .int 1600])), (st, .inl (cS, 48, .inr (.inr (.inr (.inr g)))))] : va_W)) : vx_Met l yL_meanTone wo_c_L_meanTone ({ frames := 8, cells := 1, slots := 6, locals := 131 } : Room) (cP b0 en (dC, dI) [(cS, .object "Underpaint$Stack")] [] [(h, .inr (17, [.ref pal, .ref she, .ref fil, .ref nte, .ref dat, .ref vot, .ref loa, .ref nos, .ref pic, .ref spa, .int 5, .int 50, .int 1600, .int 0])), (pic, .inr (11, [.ref st, .ref sp, .ref ll, .int 0, .int 1600])), (st, .inl (cS, 48, .inr (.inr (.inr (.inr g)))))] sz (FamS (dC, dI) N g) [.ref h, .ref out]) (va_Qi (fun (r : Int32) (u : Unit) => r = 1) (fun u t => cB (dC, dI) [] [] (va_A [] sz) (fun _ => True) t) (va_A [] sz)) (vx_X (fun _ : Unit => True) (fun E _ _ => (E = "none" ∧ False)) (va_A [] sz)) 1 6 (va_A [] sz) := by
  refine vx_ofWH (cc := cL_meanTone) (maxL := 3) (ret := (some .int)) (hh := [(0, 7, 10, 158)]) (by decide) rfl ?_
  intro p e s m args below meth c s₁ B hml hv
  obtain ⟨rfl, hsz, hb0, hE, hPP, hK, hDD, hF0⟩ := hv
  have hx := B.exec
  have hb := B.bytes
  have hr := B.returns
  have hts := atoms_spec (ws := wo_c_L_meanTone) B.pre
  have hown : s.vm.findClass RL = some m.cls := findClass_of_methodNamed B.named
  have hlocks := B.notSynchronized
  subst hsz
  have hN0 := en_N hPP hDD rfl
  have hP : va_P (dC, dI) vwCl [] s.heap := hPP.sub [] rfl
  have hR0 : va_P (dC, dI) vwCl [(h, .inr (17, [.ref pal, .ref she, .ref fil, .ref nte, .ref dat, .ref vot, .ref loa, .ref nos, .ref pic, .ref spa, .int 5, .int 50, .int 1600, .int 0])), (pic, .inr (11, [.ref st, .ref sp, .ref ll, .int 0, .int 1600])), (st, .inl (cS, 48, .inr (.inr (.inr (.inr g)))))] s.heap := hPP.sub [0, 1, 2] rfl
  have hD0 : va_D (fun q => b0 ≤ q) [] := hDD.sub [] (by decide) rfl
  have hDr : va_D (fun q => b0 ≤ q) [(h, .inr (17, [.ref pal, .ref she, .ref fil, .ref nte, .ref dat, .ref vot, .ref loa, .ref nos, .ref pic, .ref spa, .int 5, .int 50, .int 1600, .int 0])), (pic, .inr (11, [.ref st, .ref sp, .ref ll, .int 0, .int 1600])), (st, .inl (cS, 48, .inr (.inr (.inr (.inr g)))))] := hDD.sub [0, 1, 2] (by decide) rfl
  have hAb := en_A (sz := s.heap.size) hD0 hb0
  have hD := hD0.self (sz := s.heap.size)
  generalize hAe : va_A [] s.heap.size = A at hD hAb hN0 ⊢
  have hA : ∀ q : Nat, s.heap.size ≤ q → A q := fun q h => by rw [← hAe]; exact Or.inr h
  have hS : va_S A s.heap s.heap [] := va_S.rf
  have hR := hR0
  have hl := lv_entry [.ref h, .ref out] (n := 3) (Nat.le_of_ble_eq_true rfl)
  rw [lg_entry_eq]
  generalize (lg_sl [.ref h, .ref out] ++ List.replicate (3 - (lg_sl [.ref h, .ref out]).length) Slot.unset).toArray = ls at hl ⊢
  have hl : lv_has ls 3 [(0, .ref h), (1, .ref out)] := hl
  have hTab := vx_table (x := yL_meanTone) B (hts (.codeWith yL_meanTone cL_meanTone 3 (some .int) [(0, 7, 10, 158)]) (by decide +kernel))
  have hR0b := hR0
  have hDrb := hDr
  have hN0b := hN0
  refine lv_aload_n hx hb dL_meanTone_0 rfl (lv_at hl 1 rfl) ?_
  refine lv_iconst (v := 0) hx hb dL_meanTone_1 (by decide) ?_
  refine lv_aload_n hx hb dL_meanTone_2 rfl (lv_at hl 0 rfl) ?_
  have hPc := (hP.app hR).sub (ws' := [] ++ [(h, .inr (17, [.ref pal, .ref she, .ref fil, .ref nte, .ref dat, .ref vot, .ref loa, .ref nos, .ref pic, .ref spa, .int 5, .int 50, .int 1600, .int 0])), (pic, .inr (11, [.ref st, .ref sp, .ref ll, .int 0, .int 1600])), (st, .inl (cS, 48, .inr (.inr (.inr (.inr g)))))]) [0, 1, 2] rfl
  have hDc := (en_DD hD hDr hN0 hAb).sub (ws' := [] ++ [(h, .inr (17, [.ref pal, .ref she, .ref fil, .ref nte, .ref dat, .ref vot, .ref loa, .ref nos, .ref pic, .ref spa, .int 5, .int 50, .int 1600, .int 0])), (pic, .inr (11, [.ref st, .ref sp, .ref ll, .int 0, .int 1600])), (st, .inl (cS, 48, .inr (.inr (.inr (.inr g)))))]) [0, 1, 2] (by decide) rfl
  have hKc := hK.sub (tys' := [(cS, .object "Underpaint$Stack")]) [0] rfl
  have hFc := va_free (wc := []) hD hS hA [] rfl
  refine vx_calld (vx_runV (As := []) (rest := [.int 0, .ref out]) ⟨hx, hb, hml, hown, hts⟩ (c_X11_meanTone l hst dC dI b0 en s.heap.size h pal she fil nte dat vot loa nos pic spa st sp ll g cS N (fun a9 h9 => ⟨(hNb a9 h9).1, Nat.lt_of_lt_of_le (hNb a9 h9).2 hS.1⟩) (fun a9 h9 z9 => by have g1 := hNw a9 h9; have g2 := hNr a9 h9; have g3 := (hNb a9 h9).2; simp only [List.map_cons, List.map_nil, List.mem_cons, List.not_mem_nil, or_false, not_or] at g1 g2 z9 <;> omega) (fun a9 h9 z9 => by have g1 := hNw a9 h9; have g2 := hNr a9 h9; have g3 := (hNb a9 h9).2; simp only [List.map_cons, List.map_nil, List.mem_cons, List.not_mem_nil, or_false, not_or] at g1 g2 z9 <;> omega)) (cwV 0 hts go_c_L_meanTone_0 rfl rfl rfl (by decide +kernel) ⟨Nat.le_of_ble_eq_true rfl, Nat.le_of_ble_eq_true rfl⟩) ⟨cP.blind, va_recv hK hR (ci := 17) (q0 := 0) rfl rfl, cP.use (en_z hb0 hS) (hE.on hAb hS) hPc hKc hDc (hF0.on (fun a9 h8 h9 => by rw [← hAe]; exact vA1 h8 (hNw a9 h9)) hS)⟩ rfl rfl hl.1 rfl (lv_room (Nat.le_of_ble_eq_true rfl)) dL_meanTone_3 ⟨Nat.le_of_ble_eq_true rfl, Nat.le_of_ble_eq_true rfl⟩) hS (fun q _ h => hFc q h) hFc (fun q _ h => hFc q h) (fun E ce q9 u t H1 locs ht hvm hpx hBX hz1 hk1 hS hce hcv hcl => ?_) (fun r_1 u t H1 locs ht hvm hw hB hz1 hk1 hS => ?_)
  · skip
    try dsimp only at hBX
    obtain ⟨rfl, hc⟩ := hBX
    have hP1 : va_P (dC, dI) vwCl [] H1 := fun k q h => by simp at h
    have hD1 : va_D (va_A [] s.heap.size) [] := ⟨fun i j p q h => by simp at h, fun k q h => by simp at h⟩
    obtain ⟨hP, hD⟩ := va_join (wr := []) (w1 := []) hP hD [] [] rfl rfl (by decide) (by decide) hk1 hFc hP1 hD1
    generalize H1 = H at hP hS hce ⊢
    have hP : va_P (dC, dI) vwCl [] H := hP
    have hD : va_D A [] := hD
    have hR := en_R hR0 hN0 hS
    refine vx_catch (own := RL) (name := "java/lang/ArithmeticException") (E := "java/lang/ArithmeticException") hown [] ⟨0, 7, 10, 158⟩ [] hTab (fun _ h9 => absurd h9 List.not_mem_nil) (by decide) (by decide) (hts (.classLink RL 158 "java/lang/ArithmeticException") (by decide +kernel)) (va_Nw.use rfl (hE.cast (by decide))) hce hcv hcl ?_
    refine lv_astore_n (lv' := [(2, .ref q9), (0, .ref h), (1, .ref out)]) hx hb dL_meanTone_10 rfl hl (by decide) rfl (fun ls hl => ?_)
    refine lv_iconst (v := 1) hx hb dL_meanTone_11 (by decide) ?_
    refine W.widen (k := 1) (n := 6) (Nat.le_of_ble_eq_true rfl) (Nat.le_of_ble_eq_true rfl) ?_
    refine vx_ret ?_
    exact W.iret (v := 1) hx hb hr (fun t ht hW => ⟨⟨1, (), rfl, (z_c_L_clash_419 hc), cB.mk ht hW (hP.sub [] rfl) (hK.sub [] rfl) (hD.sub [] (by decide) rfl) (trivial)⟩, hS.F ht⟩) hS.2.2 dL_meanTone_12
  exact (show False from hw).elim
theorem z_c_L_stuff_460 (c9 : Int32) (tone : Int32) (cover : Int32) (weight : Int32) (lamp : Int32) (hold : Int32) (fading : Int32) (yr : Int32) (fo : Nat → Int64) (a_0 : ¬ (0 ≤ ixL 0 c9 ∧ (0 ≤ tone ∧ tone ≤ 99) ∧ (1 ≤ cover ∧ cover ≤ 100) ∧ (0 ≤ weight ∧ weight ≤ 9) ∧ (0 ≤ lamp ∧ lamp ≤ 9) ∧ (0 ≤ hold ∧ hold ≤ 9) ∧ (0 ≤ fading ∧ fading ≤ 9) ∧ (0 ≤ yr ∧ yr ≤ 9999))) : ((1 : Int32) = 0 ∧ fo 0 = (0 : Int32).toInt64 ∧ 0 ≤ ixL 0 c9 ∧ (0 ≤ tone ∧ tone ≤ 99) ∧ (1 ≤ cover ∧ cover ≤ 100) ∧ (0 ≤ weight ∧ weight ≤ 9) ∧ (0 ≤ lamp ∧ lamp ≤ 9) ∧ (0 ≤ hold ∧ hold ≤ 9) ∧ (0 ≤ fading ∧ fading ≤ 9) ∧ (0 ≤ yr ∧ yr ≤ 9999)) ∨ ((1 : Int32) = 1 ∧ (¬ (0 ≤ ixL 0 c9 ∧ (0 ≤ tone ∧ tone ≤ 99) ∧ (1 ≤ cover ∧ cover ≤ 100) ∧ (0 ≤ weight ∧ weight ≤ 9) ∧ (0 ≤ lamp ∧ lamp ≤ 9) ∧ (0 ≤ hold ∧ hold ≤ 9) ∧ (0 ≤ fading ∧ fading ≤ 9) ∧ (0 ≤ yr ∧ yr ≤ 9999)))) := by grind
theorem z_c_L_stuff_461 (c9 : Int32) (tone : Int32) (cover : Int32) (weight : Int32) (lamp : Int32) (hold : Int32) (fading : Int32) (yr : Int32) (y_3 : Int64) (f_4 : Nat → Int64) (a_0 : 0 ≤ ixL 0 c9 ∧ (0 ≤ tone ∧ tone ≤ 99) ∧ (1 ≤ cover ∧ cover ≤ 100) ∧ (0 ≤ weight ∧ weight ≤ 9) ∧ (0 ≤ lamp ∧ lamp ≤ 9) ∧ (0 ≤ hold ∧ hold ≤ 9) ∧ (0 ≤ fading ∧ fading ≤ 9) ∧ (0 ≤ yr ∧ yr ≤ 9999)) (a_1 : y_3 = (0 : Int32).toInt64) (a_2 : f_4 0 = y_3) : ((0 : Int32) = 0 ∧ f_4 0 = (0 : Int32).toInt64 ∧ 0 ≤ ixL 0 c9 ∧ (0 ≤ tone ∧ tone ≤ 99) ∧ (1 ≤ cover ∧ cover ≤ 100) ∧ (0 ≤ weight ∧ weight ≤ 9) ∧ (0 ≤ lamp ∧ lamp ≤ 9) ∧ (0 ≤ hold ∧ hold ≤ 9) ∧ (0 ≤ fading ∧ fading ≤ 9) ∧ (0 ≤ yr ∧ yr ≤ 9999)) ∨ ((0 : Int32) = 1 ∧ (¬ (0 ≤ ixL 0 c9 ∧ (0 ≤ tone ∧ tone ≤ 99) ∧ (1 ≤ cover ∧ cover ≤ 100) ∧ (0 ≤ weight ∧ weight ≤ 9) ∧ (0 ≤ lamp ∧ lamp ≤ 9) ∧ (0 ≤ hold ∧ hold ≤ 9) ∧ (0 ≤ fading ∧ fading ≤ 9) ∧ (0 ≤ yr ∧ yr ≤ 9999)))) := by grind
def wo_c_L_stuff_w : List Cond := [Cond.codeWith yL_stuff cL_stuff 12 (some .int) [(0, 24, 27, 13), (0, 24, 31, 15)], Cond.classLink RL 13 "java/lang/IllegalArgumentException"]
def wo_c_L_stuff : List Cond := .codeWith yL_stuff cL_stuff 12 (some .int) [(0, 24, 27, 13), (0, 24, 31, 15)] :: (wo_c_L_stuff_w ++ (wsV RL 7 RX11 yX11_stuff wo_c_X11_stuff ++ List.nil))
theorem gw_wo_c_L_stuff : wo_c_L_stuff.all goodWord = true := gw_c (by decide +kernel) (gw_a (by decide +kernel) (gw_a (gw_a (by decide +kernel) gw_wo_c_X11_stuff) rfl))
theorem go_c_L_stuff_0 : GoodIn wo_c_L_stuff (wsV RL 7 RX11 yX11_stuff wo_c_X11_stuff) := goodIn_sub (fun _ h => List.mem_cons_of_mem _ (List.mem_append_right _ (List.mem_append_left _ h))) (gw_a (by decide +kernel) gw_wo_c_X11_stuff)
set_option maxHeartbeats 4000000 in
set_option maxRecDepth 100000 in
/-- the law: stuff -/
theorem c_L_stuff (l : Launch) (hst : l.stackTraces = false) (dC : Nat → ClassId) (dI : Nat → Nat → Nat) (b0 : Nat) (en : EnT) (sz : Nat) (h pal she fil nte dat vot loa nos pic spa : Nat) (c9 tone cover weight lamp hold fading yr z9 : Int32) (out : Nat) (kO : ClassId) (fo : Nat → Int64) (hnar_c9 : narrow .char (.int c9) = .int c9) (hfit_c9 : fits .char (.int c9) = true) (hnar_z9 : narrow .boolean (.int z9) = .int z9) (hfit_z9 : fits .boolean (.int z9) = true) : vx_Met l yL_stuff wo_c_L_stuff ({ frames := 8, cells := 7, slots := 51, locals := 161 } : Room) (cP b0 en (dC, dI) [(kO, .long)] [(pal, .inr (5, [.int 0, .ref en.2.2.1, .int 0])), (out, .inl (kO, 1, .inr (.inl fo)))] [(h, .inr (17, [.ref pal, .ref she, .ref fil, .ref nte, .ref dat, .ref vot, .ref loa, .ref nos, .ref pic, .ref spa, .int 5, .int 50, .int 1600, .int 0]))] sz (fun _ => True) [.ref h, .int c9, .int tone, .int cover, .int weight, .int lamp, .int hold, .int fading, .int yr, .int z9, .ref out]) (va_Qi (fun (r : Int32) (u : Nat → Int64) => (r = 0 ∧ u 0 = (0 : Int32).toInt64 ∧ 0 ≤ ixL 0 c9 ∧ (0 ≤ tone ∧ tone ≤ 99) ∧ (1 ≤ cover ∧ cover ≤ 100) ∧ (0 ≤ weight ∧ weight ≤ 9) ∧ (0 ≤ lamp ∧ lamp ≤ 9) ∧ (0 ≤ hold ∧ hold ≤ 9) ∧ (0 ≤ fading ∧ fading ≤ 9) ∧ (0 ≤ yr ∧ yr ≤ 9999)) ∨ (r = 1 ∧ (¬ (0 ≤ ixL 0 c9 ∧ (0 ≤ tone ∧ tone ≤ 99) ∧ (1 ≤ cover ∧ cover ≤ 100) ∧ (0 ≤ weight ∧ weight ≤ 9) ∧ (0 ≤ lamp ∧ lamp ≤ 9) ∧ (0 ≤ hold ∧ hold ≤ 9) ∧ (0 ≤ fading ∧ fading ≤ 9) ∧ (0 ≤ yr ∧ yr ≤ 9999))))) (fun u t => cB (dC, dI) [] [(out, .inl (kO, 1, .inr (.inl u)))] (va_A [(pal, .inr (5, [.int 0, .ref en.2.2.1, .int 0])), (out, .inl (kO, 1, .inr (.inl fo)))] sz) (fun _ => True) t) (va_A [(pal, .inr (5, [.int 0, .ref en.2.2.1, .int 0])), (out, .inl (kO, 1, .inr (.inl fo)))] sz)) (vx_X (fun _ : Unit => True) (fun E _ _ => (E = "none" ∧ False)) (va_A [(pal, .inr (5, [.int 0, .ref en.2.2.1, .int 0])), (out, .inl (kO, 1, .inr (.inl fo)))] sz)) 7 51 (va_A [(pal, .inr (5, [.int 0, .ref en.2.2.1, .int 0])), (out, .inl (kO, 1, .inr (.inl fo)))] sz) := by
  refine vx_ofWH (cc := cL_stuff) (maxL := 12) (ret := (some .int)) (hh := [(0, 24, 27, 13), (0, 24, 31, 15)]) (by decide) rfl ?_
  intro p e s m args below meth c s₁ B hml hv
  obtain ⟨rfl, hsz, hb0, hE, hPP, hK, hDD, hF0⟩ := hv
  have hx := B.exec
  have hb := B.bytes
  have hr := B.returns
  have hts := atoms_spec (ws := wo_c_L_stuff) B.pre
  have hown : s.vm.findClass RL = some m.cls := findClass_of_methodNamed B.named
  have hlocks := B.notSynchronized
  subst hsz
  have hN0 := en_N hPP hDD rfl
  have hP : va_P (dC, dI) vwCl [(pal, .inr (5, [.int 0, .ref en.2.2.1, .int 0])), (out, .inl (kO, 1, .inr (.inl fo)))] s.heap := hPP.sub [0, 1] rfl
  have hR0 : va_P (dC, dI) vwCl [(h, .inr (17, [.ref pal, .ref she, .ref fil, .ref nte, .ref dat, .ref vot, .ref loa, .ref nos, .ref pic, .ref spa, .int 5, .int 50, .int 1600, .int 0]))] s.heap := hPP.sub [2] rfl
  have hD0 : va_D (fun q => b0 ≤ q) [(pal, .inr (5, [.int 0, .ref en.2.2.1, .int 0])), (out, .inl (kO, 1, .inr (.inl fo)))] := hDD.sub [0, 1] (by decide) rfl
  have hDr : va_D (fun q => b0 ≤ q) [(h, .inr (17, [.ref pal, .ref she, .ref fil, .ref nte, .ref dat, .ref vot, .ref loa, .ref nos, .ref pic, .ref spa, .int 5, .int 50, .int 1600, .int 0]))] := hDD.sub [2] (by decide) rfl
  have hAb := en_A (sz := s.heap.size) hD0 hb0
  have hD := hD0.self (sz := s.heap.size)
  generalize hAe : va_A [(pal, .inr (5, [.int 0, .ref en.2.2.1, .int 0])), (out, .inl (kO, 1, .inr (.inl fo)))] s.heap.size = A at hD hAb hN0 ⊢
  have hA : ∀ q : Nat, s.heap.size ≤ q → A q := fun q h => by rw [← hAe]; exact Or.inr h
  have hS : va_S A s.heap s.heap [] := va_S.rf
  have hR := hR0
  have hl := lv_entry [.ref h, .int c9, .int tone, .int cover, .int weight, .int lamp, .int hold, .int fading, .int yr, .int z9, .ref out] (n := 12) (Nat.le_of_ble_eq_true rfl)
  rw [lg_entry_eq]
  generalize (lg_sl [.ref h, .int c9, .int tone, .int cover, .int weight, .int lamp, .int hold, .int fading, .int yr, .int z9, .ref out] ++ List.replicate (12 - (lg_sl [.ref h, .int c9, .int tone, .int cover, .int weight, .int lamp, .int hold, .int fading, .int yr, .int z9, .ref out]).length) Slot.unset).toArray = ls at hl ⊢
  have hl : lv_has ls 12 [(0, .ref h), (1, .int c9), (2, .int tone), (3, .int cover), (4, .int weight), (5, .int lamp), (6, .int hold), (7, .int fading), (8, .int yr), (9, .int z9), (10, .ref out)] := hl
  have hTab := vx_table (x := yL_stuff) B (hts (.codeWith yL_stuff cL_stuff 12 (some .int) [(0, 24, 27, 13), (0, 24, 31, 15)]) (by decide +kernel))
  refine lv_aload hx hb dL_stuff_0 (lv_at hl 10 rfl) ?_
  refine lv_iconst (v := 0) hx hb dL_stuff_2 (by decide) ?_
  refine lv_aload_n hx hb dL_stuff_3 rfl (lv_at hl 0 rfl) ?_
  refine lv_iload_n hx hb dL_stuff_4 rfl (lv_at hl 1 rfl) ?_
  refine lv_iload_n hx hb dL_stuff_5 rfl (lv_at hl 2 rfl) ?_
  refine lv_iload_n hx hb dL_stuff_6 rfl (lv_at hl 3 rfl) ?_
  refine lv_iload hx hb dL_stuff_7 (lv_at hl 4 rfl) ?_
  refine lv_iload hx hb dL_stuff_9 (lv_at hl 5 rfl) ?_
  refine lv_iload hx hb dL_stuff_11 (lv_at hl 6 rfl) ?_
  refine lv_iload hx hb dL_stuff_13 (lv_at hl 7 rfl) ?_
  refine lv_iload hx hb dL_stuff_15 (lv_at hl 8 rfl) ?_
  refine lv_iload hx hb dL_stuff_17 (lv_at hl 9 rfl) ?_
  have hPc := (hP.app hR).sub (ws' := [(pal, .inr (5, [.int 0, .ref en.2.2.1, .int 0]))] ++ [(h, .inr (17, [.ref pal, .ref she, .ref fil, .ref nte, .ref dat, .ref vot, .ref loa, .ref nos, .ref pic, .ref spa, .int 5, .int 50, .int 1600, .int 0]))]) [0, 2] rfl
  have hDc := (en_DD hD hDr hN0 hAb).sub (ws' := [(pal, .inr (5, [.int 0, .ref en.2.2.1, .int 0]))] ++ [(h, .inr (17, [.ref pal, .ref she, .ref fil, .ref nte, .ref dat, .ref vot, .ref loa, .ref nos, .ref pic, .ref spa, .int 5, .int 50, .int 1600, .int 0]))]) [0, 2] (by decide) rfl
  have hKc := hK.sub (tys' := []) [] rfl
  have hFc := va_free (wc := [(pal, .inr (5, [.int 0, .ref en.2.2.1, .int 0]))]) hD hS hA [0] rfl
  refine vx_calli (vx_runV (As := [.int c9, .int tone, .int cover, .int weight, .int lamp, .int hold, .int fading, .int yr, .int z9]) (rest := [.int 0, .ref out]) ⟨hx, hb, hml, hown, hts⟩ (c_X11_stuff l hst dC dI b0 en s.heap.size h pal she fil nte dat vot loa nos pic spa c9 tone cover weight lamp hold fading yr z9 hnar_c9 hfit_c9 hnar_z9 hfit_z9) (cwV 9 hts go_c_L_stuff_0 rfl rfl rfl (by decide +kernel) ⟨Nat.le_of_ble_eq_true rfl, Nat.le_of_ble_eq_true rfl⟩) ⟨cP.blind, va_recv hK hR (ci := 17) (q0 := 0) rfl rfl, cP.use (en_z hb0 hS) (hE.on hAb hS) hPc hKc hDc trivial⟩ rfl rfl hl.1 rfl (lv_room (Nat.le_of_ble_eq_true rfl)) dL_stuff_19 ⟨Nat.le_of_ble_eq_true rfl, Nat.le_of_ble_eq_true rfl⟩) hS (fun q _ h => hFc q h) hFc (fun q _ h => hFc q h) (fun E ce q9 u t H1 locs ht hvm hpx hBX hz1 hk1 hS hce hcv hcl => ?_) (fun r_1 u t H1 locs ht hvm hw hB hz1 hk1 hS => ?_)
  · skip
    try dsimp only at hBX
    obtain ⟨rfl, hc⟩ := hBX
    have hP1 : va_P (dC, dI) vwCl [] H1 := fun k q h => by simp at h
    have hD1 : va_D (va_A [(pal, .inr (5, [.int 0, .ref en.2.2.1, .int 0]))] s.heap.size) [] := ⟨fun i j p q h => by simp at h, fun k q h => by simp at h⟩
    obtain ⟨hP, hD⟩ := va_join (wr := [(out, .inl (kO, 1, .inr (.inl fo)))]) (w1 := []) hP hD [0] [1] rfl rfl (by decide) (by decide) hk1 hFc hP1 hD1
    generalize H1 = H at hP hS hce ⊢
    have hP : va_P (dC, dI) vwCl [(out, .inl (kO, 1, .inr (.inl fo)))] H := hP
    have hD : va_D A [(out, .inl (kO, 1, .inr (.inl fo)))] := hD
    have hR := en_R hR0 hN0 hS
    refine vx_catch (own := RL) (name := "java/lang/IllegalArgumentException") (E := "java/lang/IllegalArgumentException") hown [] ⟨0, 24, 27, 13⟩ [⟨0, 24, 31, 15⟩] hTab (fun _ h9 => absurd h9 List.not_mem_nil) (by decide) (by decide) (hts (.classLink RL 13 "java/lang/IllegalArgumentException") (by decide +kernel)) (va_Nw.use rfl (hE.cast (by decide))) hce hcv hcl ?_
    refine lv_astore (lv' := [(11, .ref q9), (0, .ref h), (1, .int c9), (2, .int tone), (3, .int cover), (4, .int weight), (5, .int lamp), (6, .int hold), (7, .int fading), (8, .int yr), (9, .int z9), (10, .ref out)]) hx hb dL_stuff_27 hl (by decide) rfl (fun ls hl => ?_)
    refine lv_iconst (v := 1) hx hb dL_stuff_29 (by decide) ?_
    refine W.widen (k := 7) (n := 51) (Nat.le_of_ble_eq_true rfl) (Nat.le_of_ble_eq_true rfl) ?_
    refine vx_ret ?_
    exact W.iret (v := 1) hx hb hr (fun t ht hW => ⟨⟨1, fo, rfl, (z_c_L_stuff_460 c9 tone cover weight lamp hold fading yr fo hc), cB.mk ht hW (hP.sub [0] rfl) (hK.sub [] rfl) (hD.sub [0] (by decide) rfl) (trivial)⟩, hS.F ht⟩) hS.2.2 dL_stuff_30
  have hP1 : va_P (dC, dI) vwCl [] H1 := fun k q h => by simp at h
  have hD1 : va_D (va_A [(pal, .inr (5, [.int 0, .ref en.2.2.1, .int 0]))] s.heap.size) [] := ⟨fun i j p q h => by simp at h, fun k q h => by simp at h⟩
  try dsimp only at hw
  obtain ⟨hP, hD⟩ := va_join (wr := [(out, .inl (kO, 1, .inr (.inl fo)))]) (w1 := []) hP hD [0] [1] rfl rfl (by decide) (by decide) hk1 hFc hP1 hD1
  generalize H1 = H at hP hS ⊢
  have hP : va_P (dC, dI) vwCl [(out, .inl (kO, 1, .inr (.inl fo)))] H := hP
  have hD : va_D A [(out, .inl (kO, 1, .inr (.inl fo)))] := hD
  have hR := en_R hR0 hN0 hS
  refine W.widen (k := 7) (n := 51) (Nat.le_of_ble_eq_true rfl) (Nat.le_of_ble_eq_true rfl) ?_
  obtain ⟨hw, h_2⟩ := hw
  subst r_1
  refine lv_i2l hx hb dL_stuff_22 rfl ?_
  refine lv_topl (fun y_3 ey_3 => ?_)
  refine va_last hx hb hK hP hD hS 0 0 rfl rfl (vp_in_nI (by decide : 0 < 1) (by decide)) dL_stuff_23 (fun H locs hP hD hS => ?_)
  generalize ef_4 : vp_updL fo (0 : Int32).toNatClampNeg y_3 = f_4 at hP hD
  have hP : va_P (dC, dI) vwCl [(out, .inl (kO, 1, .inr (.inl f_4)))] H := hP
  have hD : va_D A [(out, .inl (kO, 1, .inr (.inl f_4)))] := hD
  have hR := en_R hR0 hN0 hS
  have h_5 : f_4 0 = y_3 := by rw [← ef_4]; exact pk_uLs
  refine lv_goto (tgt := 35) hx hb dL_stuff_24 (by decide) ?_
  refine lv_iconst (v := 0) hx hb dL_stuff_35 (by decide) ?_
  refine W.widen (k := 7) (n := 51) (Nat.le_of_ble_eq_true rfl) (Nat.le_of_ble_eq_true rfl) ?_
  refine vx_ret ?_
  exact W.iret (v := 0) hx hb hr (fun t ht hW => ⟨⟨0, f_4, rfl, (z_c_L_stuff_461 c9 tone cover weight lamp hold fading yr y_3 f_4 h_2 ey_3 h_5), cB.mk ht hW (hP.sub [0] rfl) (hK.sub [] rfl) (hD.sub [0] (by decide) rfl) (trivial)⟩, hS.F ht⟩) hS.2.2 dL_stuff_36
