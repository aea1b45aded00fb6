theorem dL_boardAt_0 : decode cL_boardAt 0 = .ok (.aload_n 1, 1) := by decide +kernel
theorem dL_boardAt_1 : decode cL_boardAt 1 = .ok (.iconst 0, 1) := by decide +kernel
theorem dL_boardAt_2 : decode cL_boardAt 2 = .ok (.aload_n 0, 1) := by decide +kernel
theorem dL_boardAt_3 : decode cL_boardAt 3 = .ok (.invokevirtual 82, 3) := by decide +kernel
theorem dL_boardAt_11 : decode cL_boardAt 11 = .ok (.astore_n 2, 1) := by decide +kernel
theorem dL_boardAt_12 : decode cL_boardAt 12 = .ok (.iconst 1, 1) := by decide +kernel
theorem dL_boardAt_13 : decode cL_boardAt 13 = .ok (.ireturn, 1) := by decide +kernel
theorem dL_painter_0 : decode cL_painter 0 = .ok (.aload 5, 2) := by decide +kernel
theorem dL_painter_2 : decode cL_painter 2 = .ok (.iconst 0, 1) := by decide +kernel
theorem dL_painter_3 : decode cL_painter 3 = .ok (.aload_n 0, 1) := by decide +kernel
theorem dL_painter_4 : decode cL_painter 4 = .ok (.iload_n 1, 1) := by decide +kernel
theorem dL_painter_5 : decode cL_painter 5 = .ok (.iload_n 2, 1) := by decide +kernel
theorem dL_painter_6 : decode cL_painter 6 = .ok (.iload_n 3, 1) := by decide +kernel
theorem dL_painter_7 : decode cL_painter 7 = .ok (.iload 4, 2) := by decide +kernel
theorem dL_painter_9 : decode cL_painter 9 = .ok (.invokevirtual 86, 3) := by decide +kernel
theorem dL_painter_17 : decode cL_painter 17 = .ok (.astore 6, 2) := by decide +kernel
theorem dL_painter_19 : decode cL_painter 19 = .ok (.iconst 1, 1) := by decide +kernel
theorem dL_painter_20 : decode cL_painter 20 = .ok (.ireturn, 1) := by decide +kernel
theorem dL_painter_12 : decode cL_painter 12 = .ok (.i2l, 1) := by decide +kernel
theorem dL_painter_13 : decode cL_painter 13 = .ok (.lastore, 1) := by decide +kernel
theorem dL_painter_14 : decode cL_painter 14 = .ok (.goto 11, 3) := by decide +kernel
theorem dL_painter_25 : decode cL_painter 25 = .ok (.iconst 0, 1) := by decide +kernel
theorem dL_painter_26 : decode cL_painter 26 = .ok (.ireturn, 1) := by decide +kernel
theorem dL_likely_0 : decode cL_likely 0 = .ok (.aload 5, 2) := by decide +kernel
theorem dL_likely_2 : decode cL_likely 2 = .ok (.iconst 0, 1) := by decide +kernel
theorem dL_likely_3 : decode cL_likely 3 = .ok (.aload_n 0, 1) := by decide +kernel
theorem dL_likely_4 : decode cL_likely 4 = .ok (.iload_n 1, 1) := by decide +kernel
theorem dL_likely_5 : decode cL_likely 5 = .ok (.iload_n 2, 1) := by decide +kernel
theorem dL_likely_6 : decode cL_likely 6 = .ok (.iload_n 3, 1) := by decide +kernel
theorem dL_likely_7 : decode cL_likely 7 = .ok (.iload 4, 2) := by decide +kernel
theorem dL_likely_9 : decode cL_likely 9 = .ok (.invokevirtual 89, 3) := by decide +kernel
theorem dL_likely_17 : decode cL_likely 17 = .ok (.astore 6, 2) := by decide +kernel
theorem dL_likely_19 : decode cL_likely 19 = .ok (.iconst 1, 1) := by decide +kernel
theorem dL_likely_20 : decode cL_likely 20 = .ok (.ireturn, 1) := by decide +kernel
theorem dL_likely_21 : decode cL_likely 21 = .ok (.astore 6, 2) := by decide +kernel
theorem dL_likely_23 : decode cL_likely 23 = .ok (.iconst 2, 1) := by decide +kernel
theorem dL_likely_24 : decode cL_likely 24 = .ok (.ireturn, 1) := by decide +kernel
theorem dL_isSure_0 : decode cL_isSure 0 = .ok (.aload 5, 2) := by decide +kernel
theorem dL_isSure_2 : decode cL_isSure 2 = .ok (.iconst 0, 1) := by decide +kernel
theorem dL_isSure_3 : decode cL_isSure 3 = .ok (.aload_n 0, 1) := by decide +kernel
theorem dL_isSure_4 : decode cL_isSure 4 = .ok (.iload_n 1, 1) := by decide +kernel
theorem dL_isSure_5 : decode cL_isSure 5 = .ok (.iload_n 2, 1) := by decide +kernel
theorem dL_isSure_6 : decode cL_isSure 6 = .ok (.iload_n 3, 1) := by decide +kernel
theorem dL_isSure_7 : decode cL_isSure 7 = .ok (.iload 4, 2) := by decide +kernel
theorem dL_isSure_9 : decode cL_isSure 9 = .ok (.invokevirtual 92, 3) := by decide +kernel
theorem dL_isSure_24 : decode cL_isSure 24 = .ok (.astore 6, 2) := by decide +kernel
theorem dL_isSure_26 : decode cL_isSure 26 = .ok (.iconst 1, 1) := by decide +kernel
theorem dL_isSure_27 : decode cL_isSure 27 = .ok (.ireturn, 1) := by decide +kernel
theorem dL_isSure_28 : decode cL_isSure 28 = .ok (.astore 6, 2) := by decide +kernel
theorem dL_isSure_30 : decode cL_isSure 30 = .ok (.iconst 2, 1) := by decide +kernel
theorem dL_isSure_31 : decode cL_isSure 31 = .ok (.ireturn, 1) := by decide +kernel
theorem dL_scratch_0 : decode cL_scratch 0 = .ok (.aload 4, 2) := by decide +kernel
theorem dL_scratch_2 : decode cL_scratch 2 = .ok (.iconst 0, 1) := by decide +kernel
theorem dL_scratch_3 : decode cL_scratch 3 = .ok (.aload_n 0, 1) := by decide +kernel
theorem dL_scratch_4 : decode cL_scratch 4 = .ok (.iload_n 1, 1) := by decide +kernel
theorem dL_scratch_5 : decode cL_scratch 5 = .ok (.iload_n 2, 1) := by decide +kernel
theorem dL_scratch_6 : decode cL_scratch 6 = .ok (.iload_n 3, 1) := by decide +kernel
theorem dL_scratch_7 : decode cL_scratch 7 = .ok (.invokevirtual 96, 3) := by decide +kernel
theorem dL_scratch_15 : decode cL_scratch 15 = .ok (.astore 5, 2) := by decide +kernel
theorem dL_scratch_17 : decode cL_scratch 17 = .ok (.iconst 1, 1) := by decide +kernel
theorem dL_scratch_18 : decode cL_scratch 18 = .ok (.ireturn, 1) := by decide +kernel
theorem dL_scratch_19 : decode cL_scratch 19 = .ok (.astore 5, 2) := by decide +kernel
theorem dL_scratch_21 : decode cL_scratch 21 = .ok (.iconst 2, 1) := by decide +kernel
theorem dL_scratch_22 : decode cL_scratch 22 = .ok (.ireturn, 1) := by decide +kernel
theorem dL_liesOver_0 : decode cL_liesOver 0 = .ok (.aload_n 3, 1) := by decide +kernel
theorem dL_liesOver_1 : decode cL_liesOver 1 = .ok (.iconst 0, 1) := by decide +kernel
theorem dL_liesOver_2 : decode cL_liesOver 2 = .ok (.aload_n 0, 1) := by decide +kernel
theorem dL_liesOver_3 : decode cL_liesOver 3 = .ok (.iload_n 1, 1) := by decide +kernel
theorem dL_liesOver_4 : decode cL_liesOver 4 = .ok (.iload_n 2, 1) := by decide +kernel
theorem dL_liesOver_5 : decode cL_liesOver 5 = .ok (.invokevirtual 100, 3) := by decide +kernel
theorem dL_liesOver_20 : decode cL_liesOver 20 = .ok (.astore 4, 2) := by decide +kernel
theorem dL_liesOver_22 : decode cL_liesOver 22 = .ok (.iconst 1, 1) := by decide +kernel
theorem dL_liesOver_23 : decode cL_liesOver 23 = .ok (.ireturn, 1) := by decide +kernel
theorem dL_later_0 : decode cL_later 0 = .ok (.aload_n 3, 1) := by decide +kernel
theorem dL_later_1 : decode cL_later 1 = .ok (.iconst 0, 1) := by decide +kernel
theorem dL_later_2 : decode cL_later 2 = .ok (.aload_n 0, 1) := by decide +kernel
theorem dL_later_3 : decode cL_later 3 = .ok (.iload_n 1, 1) := by decide +kernel
theorem dL_later_4 : decode cL_later 4 = .ok (.iload_n 2, 1) := by decide +kernel
theorem dL_later_5 : decode cL_later 5 = .ok (.invokevirtual 103, 3) := by decide +kernel
theorem dL_later_13 : decode cL_later 13 = .ok (.astore 4, 2) := by decide +kernel
theorem dL_later_15 : decode cL_later 15 = .ok (.iconst 1, 1) := by decide +kernel
theorem dL_later_16 : decode cL_later 16 = .ok (.ireturn, 1) := by decide +kernel
theorem dL_solvent_0 : decode cL_solvent 0 = .ok (.aload_n 3, 1) := by decide +kernel
theorem dL_solvent_1 : decode cL_solvent 1 = .ok (.iconst 0, 1) := by decide +kernel
theorem dL_solvent_2 : decode cL_solvent 2 = .ok (.aload_n 0, 1) := by decide +kernel
theorem dL_solvent_3 : decode cL_solvent 3 = .ok (.iload_n 1, 1) := by decide +kernel
theorem dL_solvent_4 : decode cL_solvent 4 = .ok (.iload_n 2, 1) := by decide +kernel
theorem dL_solvent_5 : decode cL_solvent 5 = .ok (.invokevirtual 106, 3) := by decide +kernel
theorem dL_solvent_13 : decode cL_solvent 13 = .ok (.astore 4, 2) := by decide +kernel
theorem dL_solvent_15 : decode cL_solvent 15 = .ok (.iconst 1, 1) := by decide +kernel
theorem dL_solvent_16 : decode cL_solvent 16 = .ok (.ireturn, 1) := by decide +kernel
theorem dL_solvent_8 : decode cL_solvent 8 = .ok (.i2l, 1) := by decide +kernel
theorem dL_solvent_9 : decode cL_solvent 9 = .ok (.lastore, 1) := by decide +kernel
theorem dL_solvent_10 : decode cL_solvent 10 = .ok (.goto 11, 3) := by decide +kernel
theorem dL_solvent_21 : decode cL_solvent 21 = .ok (.iconst 0, 1) := by decide +kernel
theorem dL_solvent_22 : decode cL_solvent 22 = .ok (.ireturn, 1) := by decide +kernel
theorem dL_tested_0 : decode cL_tested 0 = .ok (.aload_n 2, 1) := by decide +kernel
theorem dL_tested_1 : decode cL_tested 1 = .ok (.iconst 0, 1) := by decide +kernel
theorem dL_tested_2 : decode cL_tested 2 = .ok (.aload_n 0, 1) := by decide +kernel
theorem dL_tested_3 : decode cL_tested 3 = .ok (.iload_n 1, 1) := by decide +kernel
theorem dL_tested_4 : decode cL_tested 4 = .ok (.invokevirtual 109, 3) := by decide +kernel
theorem dL_tested_12 : decode cL_tested 12 = .ok (.astore_n 3, 1) := by decide +kernel
theorem dL_tested_13 : decode cL_tested 13 = .ok (.iconst 1, 1) := by decide +kernel
theorem dL_tested_14 : decode cL_tested 14 = .ok (.ireturn, 1) := by decide +kernel
theorem dL_swab_0 : decode cL_swab 0 = .ok (.aload 5, 2) := by decide +kernel
theorem dL_swab_2 : decode cL_swab 2 = .ok (.iconst 0, 1) := by decide +kernel
theorem dL_swab_3 : decode cL_swab 3 = .ok (.aload_n 0, 1) := by decide +kernel
theorem dL_swab_4 : decode cL_swab 4 = .ok (.iload_n 1, 1) := by decide +kernel
theorem dL_swab_5 : decode cL_swab 5 = .ok (.iload_n 2, 1) := by decide +kernel
theorem dL_swab_6 : decode cL_swab 6 = .ok (.iload_n 3, 1) := by decide +kernel
theorem dL_swab_7 : decode cL_swab 7 = .ok (.iload 4, 2) := by decide +kernel
theorem dL_swab_9 : decode cL_swab 9 = .ok (.invokevirtual 112, 3) := by decide +kernel
theorem dL_swab_17 : decode cL_swab 17 = .ok (.astore 6, 2) := by decide +kernel
theorem dL_swab_19 : decode cL_swab 19 = .ok (.iconst 1, 1) := by decide +kernel
theorem dL_swab_20 : decode cL_swab 20 = .ok (.ireturn, 1) := by decide +kernel
theorem dL_fill_0 : decode cL_fill 0 = .ok (.aload 4, 2) := by decide +kernel
theorem dL_fill_2 : decode cL_fill 2 = .ok (.iconst 0, 1) := by decide +kernel
theorem dL_fill_3 : decode cL_fill 3 = .ok (.aload_n 0, 1) := by decide +kernel
theorem dL_fill_4 : decode cL_fill 4 = .ok (.iload_n 1, 1) := by decide +kernel
theorem dL_fill_5 : decode cL_fill 5 = .ok (.iload_n 2, 1) := by decide +kernel
theorem dL_fill_6 : decode cL_fill 6 = .ok (.iload_n 3, 1) := by decide +kernel
theorem dL_fill_7 : decode cL_fill 7 = .ok (.invokevirtual 115, 3) := by decide +kernel
theorem dL_fill_15 : decode cL_fill 15 = .ok (.astore 5, 2) := by decide +kernel
theorem dL_fill_17 : decode cL_fill 17 = .ok (.iconst 1, 1) := by decide +kernel
theorem dL_fill_18 : decode cL_fill 18 = .ok (.ireturn, 1) := by decide +kernel
theorem dL_retouch_0 : decode cL_retouch 0 = .ok (.aload 5, 2) := by decide +kernel
theorem dL_retouch_2 : decode cL_retouch 2 = .ok (.iconst 0, 1) := by decide +kernel
theorem dL_retouch_3 : decode cL_retouch 3 = .ok (.aload_n 0, 1) := by decide +kernel
theorem dL_retouch_4 : decode cL_retouch 4 = .ok (.iload_n 1, 1) := by decide +kernel
theorem dL_retouch_5 : decode cL_retouch 5 = .ok (.iload_n 2, 1) := by decide +kernel
theorem dL_retouch_6 : decode cL_retouch 6 = .ok (.iload_n 3, 1) := by decide +kernel
theorem dL_retouch_7 : decode cL_retouch 7 = .ok (.iload 4, 2) := by decide +kernel
theorem dL_retouch_9 : decode cL_retouch 9 = .ok (.invokevirtual 118, 3) := by decide +kernel
theorem dL_retouch_17 : decode cL_retouch 17 = .ok (.astore 6, 2) := by decide +kernel
theorem dL_retouch_19 : decode cL_retouch 19 = .ok (.iconst 1, 1) := by decide +kernel
theorem dL_retouch_20 : decode cL_retouch 20 = .ok (.ireturn, 1) := by decide +kernel

def wo_c_L_boardAt_w : List Cond := [Cond.codeWith yL_boardAt cL_boardAt 3 (some .int) [(0, 8, 11, 37)], Cond.classLink RL 37 "java/util/NoSuchElementException"]
def wo_c_L_boardAt : List Cond := .codeWith yL_boardAt cL_boardAt 3 (some .int) [(0, 8, 11, 37)] :: (wo_c_L_boardAt_w ++ (wsV RL 82 RX11 yX11_boardAt wo_c_X11_boardAt ++ List.nil))
theorem gw_wo_c_L_boardAt : wo_c_L_boardAt.all goodWord = true := gw_c (by decide +kernel) (gw_a (by decide +kernel) (gw_a (gw_a (by decide +kernel) gw_wo_c_X11_boardAt) rfl))
theorem go_c_L_boardAt_0 : GoodIn wo_c_L_boardAt (wsV RL 82 RX11 yX11_boardAt wo_c_X11_boardAt) := goodIn_sub (fun _ h => List.mem_cons_of_mem _ (List.mem_append_right _ (List.mem_append_left _ h))) (gw_a (by decide +kernel) gw_wo_c_X11_boardAt)
set_option maxHeartbeats 4000000 in
set_option maxRecDepth 100000 in
/-- the law: boardAt -/
theorem c_L_boardAt (l : Launch) (hst : l.stackTraces = false) (dC : Nat → ClassId) (dI : Nat → Nat → Nat) (b0 : Nat) (en : EnT) (sz : Nat) (h pal she fil nte dat vot loa nos pic spa : Nat) (db dm dh ds : Nat) (wb wm : Nat) (out : Nat) : vx_Met l yL_boardAt wo_c_L_boardAt ({ frames := 8, cells := 1, slots := 6, locals := 130 } : Room) (cP b0 en (dC, dI) [] [] [(h, .inr (17, [.ref pal, .ref she, .ref fil, .ref nte, .ref dat, .ref vot, .ref loa, .ref nos, .ref pic, .ref spa, .int 5, .int 50, .int 1600, .int 0])), (dat, .inr (7, [.ref db, .ref dm, .int 0, .ref dh, .ref ds])), (db, .inr (12, [.ref wb, .int 0])), (dm, .inr (12, [.ref wm, .int 0]))] sz (fun _ => True) [.ref h, .ref out]) (va_Qi (fun (r : Int32) (u : Unit) => r = 1) (fun u t => cB (dC, dI) [] [] (va_A [] sz) (fun _ => True) t) (va_A [] sz)) (vx_X (fun _ : Unit => True) (fun E _ _ => (E = "none" ∧ False)) (va_A [] sz)) 1 6 (va_A [] sz) := by
  refine vx_ofWH (cc := cL_boardAt) (maxL := 3) (ret := (some .int)) (hh := [(0, 8, 11, 37)]) (by decide) rfl ?_
  intro p e s m args below meth c s₁ B hml hv
  obtain ⟨rfl, hsz, hb0, hE, hPP, hK, hDD, hF0⟩ := hv
  have hx := B.exec
  have hb := B.bytes
  have hr := B.returns
  have hts := atoms_spec (ws := wo_c_L_boardAt) B.pre
  have hown : s.vm.findClass RL = some m.cls := findClass_of_methodNamed B.named
  have hlocks := B.notSynchronized
  subst hsz
  have hN0 := en_N hPP hDD rfl
  have hP : va_P (dC, dI) vwCl [] s.heap := hPP.sub [] rfl
  have hR0 : va_P (dC, dI) vwCl [(h, .inr (17, [.ref pal, .ref she, .ref fil, .ref nte, .ref dat, .ref vot, .ref loa, .ref nos, .ref pic, .ref spa, .int 5, .int 50, .int 1600, .int 0])), (dat, .inr (7, [.ref db, .ref dm, .int 0, .ref dh, .ref ds])), (db, .inr (12, [.ref wb, .int 0])), (dm, .inr (12, [.ref wm, .int 0]))] s.heap := hPP.sub [0, 1, 2, 3] rfl
  have hD0 : va_D (fun q => b0 ≤ q) [] := hDD.sub [] (by decide) rfl
  have hDr : va_D (fun q => b0 ≤ q) [(h, .inr (17, [.ref pal, .ref she, .ref fil, .ref nte, .ref dat, .ref vot, .ref loa, .ref nos, .ref pic, .ref spa, .int 5, .int 50, .int 1600, .int 0])), (dat, .inr (7, [.ref db, .ref dm, .int 0, .ref dh, .ref ds])), (db, .inr (12, [.ref wb, .int 0])), (dm, .inr (12, [.ref wm, .int 0]))] := hDD.sub [0, 1, 2, 3] (by decide) rfl
  have hAb := en_A (sz := s.heap.size) hD0 hb0
  have hD := hD0.self (sz := s.heap.size)
  generalize hAe : va_A [] s.heap.size = A at hD hAb hN0 ⊢
  have hA : ∀ q : Nat, s.heap.size ≤ q → A q := fun q h => by rw [← hAe]; exact Or.inr h
  have hS : va_S A s.heap s.heap [] := va_S.rf
  have hR := hR0
  have hl := lv_entry [.ref h, .ref out] (n := 3) (Nat.le_of_ble_eq_true rfl)
  rw [lg_entry_eq]
  generalize (lg_sl [.ref h, .ref out] ++ List.replicate (3 - (lg_sl [.ref h, .ref out]).length) Slot.unset).toArray = ls at hl ⊢
  have hl : lv_has ls 3 [(0, .ref h), (1, .ref out)] := hl
  have hTab := vx_table (x := yL_boardAt) B (hts (.codeWith yL_boardAt cL_boardAt 3 (some .int) [(0, 8, 11, 37)]) (by decide +kernel))
  refine lv_aload_n hx hb dL_boardAt_0 rfl (lv_at hl 1 rfl) ?_
  refine lv_iconst (v := 0) hx hb dL_boardAt_1 (by decide) ?_
  refine lv_aload_n hx hb dL_boardAt_2 rfl (lv_at hl 0 rfl) ?_
  have hPc := (hP.app hR).sub (ws' := [] ++ [(h, .inr (17, [.ref pal, .ref she, .ref fil, .ref nte, .ref dat, .ref vot, .ref loa, .ref nos, .ref pic, .ref spa, .int 5, .int 50, .int 1600, .int 0])), (dat, .inr (7, [.ref db, .ref dm, .int 0, .ref dh, .ref ds])), (db, .inr (12, [.ref wb, .int 0])), (dm, .inr (12, [.ref wm, .int 0]))]) [0, 1, 2, 3] rfl
  have hDc := (en_DD hD hDr hN0 hAb).sub (ws' := [] ++ [(h, .inr (17, [.ref pal, .ref she, .ref fil, .ref nte, .ref dat, .ref vot, .ref loa, .ref nos, .ref pic, .ref spa, .int 5, .int 50, .int 1600, .int 0])), (dat, .inr (7, [.ref db, .ref dm, .int 0, .ref dh, .ref ds])), (db, .inr (12, [.ref wb, .int 0])), (dm, .inr (12, [.ref wm, .int 0]))]) [0, 1, 2, 3] (by decide) rfl
  have hKc := hK.sub (tys' := []) [] rfl
  have hFc := va_free (wc := []) hD hS hA [] rfl
  refine vx_calli (vx_runV (As := []) (rest := [.int 0, .ref out]) ⟨hx, hb, hml, hown, hts⟩ (c_X11_boardAt l hst dC dI b0 en s.heap.size h pal she fil nte dat vot loa nos pic spa db dm dh ds wb wm) (cwV 0 hts go_c_L_boardAt_0 rfl rfl rfl (by decide +kernel) ⟨Nat.le_of_ble_eq_true rfl, Nat.le_of_ble_eq_true rfl⟩) ⟨cP.blind, va_recv hK hR (ci := 17) (q0 := 0) rfl rfl, cP.use (en_z hb0 hS) (hE.on hAb hS) hPc hKc hDc trivial⟩ rfl rfl hl.1 rfl (lv_room (Nat.le_of_ble_eq_true rfl)) dL_boardAt_3 ⟨Nat.le_of_ble_eq_true rfl, Nat.le_of_ble_eq_true rfl⟩) hS (fun q _ h => hFc q h) hFc (fun q _ h => hFc q h) (fun E ce q9 u t H1 locs ht hvm hpx hBX hz1 hk1 hS hce hcv hcl => ?_) (fun r_1 u t H1 locs ht hvm hw hB hz1 hk1 hS => ?_)
  · skip
    try dsimp only at hBX
    obtain ⟨rfl, hc⟩ := hBX
    have hP1 : va_P (dC, dI) vwCl [] H1 := fun k q h => by simp at h
    have hD1 : va_D (va_A [] s.heap.size) [] := ⟨fun i j p q h => by simp at h, fun k q h => by simp at h⟩
    obtain ⟨hP, hD⟩ := va_join (wr := []) (w1 := []) hP hD [] [] rfl rfl (by decide) (by decide) hk1 hFc hP1 hD1
    generalize H1 = H at hP hS hce ⊢
    have hP : va_P (dC, dI) vwCl [] H := hP
    have hD : va_D A [] := hD
    have hR := en_R hR0 hN0 hS
    refine vx_catch (own := RL) (name := "java/util/NoSuchElementException") (E := "java/util/NoSuchElementException") hown [] ⟨0, 8, 11, 37⟩ [] hTab (fun _ h9 => absurd h9 List.not_mem_nil) (by decide) (by decide) (hts (.classLink RL 37 "java/util/NoSuchElementException") (by decide +kernel)) (va_Nw.use rfl (hE.cast (by decide))) hce hcv hcl ?_
    refine lv_astore_n (lv' := [(2, .ref q9), (0, .ref h), (1, .ref out)]) hx hb dL_boardAt_11 rfl hl (by decide) rfl (fun ls hl => ?_)
    refine lv_iconst (v := 1) hx hb dL_boardAt_12 (by decide) ?_
    refine W.widen (k := 1) (n := 6) (Nat.le_of_ble_eq_true rfl) (Nat.le_of_ble_eq_true rfl) ?_
    refine vx_ret ?_
    exact W.iret (v := 1) hx hb hr (fun t ht hW => ⟨⟨1, (), rfl, (z_c_L_clash_419 hc), cB.mk ht hW (hP.sub [] rfl) (hK.sub [] rfl) (hD.sub [] (by decide) rfl) (trivial)⟩, hS.F ht⟩) hS.2.2 dL_boardAt_13
  exact (show False from hw).elim
theorem z_c_L_painter_446 (a : Int32) (b : Int32) (c9 : Int32) (d : Int32) (fo : Nat → Int64) (a_0 : ¬ ((0 ≤ a ∧ a ≤ 99) ∧ (0 ≤ b ∧ b ≤ 99) ∧ (0 ≤ c9 ∧ c9 ≤ 99) ∧ (0 ≤ d ∧ d ≤ 99))) : ((1 : Int32) = 0 ∧ fo 0 = (0 : Int32).toInt64 ∧ (0 ≤ a ∧ a ≤ 99) ∧ (0 ≤ b ∧ b ≤ 99) ∧ (0 ≤ c9 ∧ c9 ≤ 99) ∧ (0 ≤ d ∧ d ≤ 99)) ∨ ((1 : Int32) = 1 ∧ (¬ ((0 ≤ a ∧ a ≤ 99) ∧ (0 ≤ b ∧ b ≤ 99) ∧ (0 ≤ c9 ∧ c9 ≤ 99) ∧ (0 ≤ d ∧ d ≤ 99)))) := by grind
theorem z_c_L_painter_447 (a : Int32) (b : Int32) (c9 : Int32) (d : Int32) (y_3 : Int64) (f_4 : Nat → Int64) (a_0 : (0 ≤ a ∧ a ≤ 99) ∧ (0 ≤ b ∧ b ≤ 99) ∧ (0 ≤ c9 ∧ c9 ≤ 99) ∧ (0 ≤ d ∧ d ≤ 99)) (a_1 : y_3 = (0 : Int32).toInt64) (a_2 : f_4 0 = y_3) : ((0 : Int32) = 0 ∧ f_4 0 = (0 : Int32).toInt64 ∧ (0 ≤ a ∧ a ≤ 99) ∧ (0 ≤ b ∧ b ≤ 99) ∧ (0 ≤ c9 ∧ c9 ≤ 99) ∧ (0 ≤ d ∧ d ≤ 99)) ∨ ((0 : Int32) = 1 ∧ (¬ ((0 ≤ a ∧ a ≤ 99) ∧ (0 ≤ b ∧ b ≤ 99) ∧ (0 ≤ c9 ∧ c9 ≤ 99) ∧ (0 ≤ d ∧ d ≤ 99)))) := by grind
def wo_c_L_painter_w : List Cond := [Cond.codeWith yL_painter cL_painter 7 (some .int) [(0, 14, 17, 13), (0, 14, 21, 15)], Cond.classLink RL 13 "java/lang/IllegalArgumentException"]
def wo_c_L_painter : List Cond := .codeWith yL_painter cL_painter 7 (some .int) [(0, 14, 17, 13), (0, 14, 21, 15)] :: (wo_c_L_painter_w ++ (wsV RL 86 RX11 yX11_painter wo_c_X11_painter ++ List.nil))
theorem gw_wo_c_L_painter : wo_c_L_painter.all goodWord = true := gw_c (by decide +kernel) (gw_a (by decide +kernel) (gw_a (gw_a (by decide +kernel) gw_wo_c_X11_painter) rfl))
theorem go_c_L_painter_0 : GoodIn wo_c_L_painter (wsV RL 86 RX11 yX11_painter wo_c_X11_painter) := goodIn_sub (fun _ h => List.mem_cons_of_mem _ (List.mem_append_right _ (List.mem_append_left _ h))) (gw_a (by decide +kernel) gw_wo_c_X11_painter)
set_option maxHeartbeats 4000000 in
set_option maxRecDepth 100000 in
/-- the law: painter -/
theorem c_L_painter (l : Launch) (hst : l.stackTraces = false) (dC : Nat → ClassId) (dI : Nat → Nat → Nat) (b0 : Nat) (en : EnT) (sz : Nat) (h pal she fil nte dat vot loa nos pic spa : Nat) (db dm dh ds : Nat) (kI : ClassId) (a b c9 d : Int32) (out : Nat) (kO : ClassId) (fo : Nat → Int64) : vx_Met l yL_painter wo_c_L_painter ({ frames := 9, cells := 3, slots := 18, locals := 157 } : Room) (cP b0 en (dC, dI) [(kI, .int), (kO, .long)] [(dat, .inr (7, [.ref db, .ref dm, .int 0, .ref dh, .ref ds])), (dh, .inl (kI, 24, .inl (fun _ => 0))), (out, .inl (kO, 1, .inr (.inl fo)))] [(h, .inr (17, [.ref pal, .ref she, .ref fil, .ref nte, .ref dat, .ref vot, .ref loa, .ref nos, .ref pic, .ref spa, .int 5, .int 50, .int 1600, .int 0]))] sz (fun _ => True) [.ref h, .int a, .int b, .int c9, .int d, .ref out]) (va_Qi (fun (r : Int32) (u : Nat → Int64) => (r = 0 ∧ u 0 = (0 : Int32).toInt64 ∧ (0 ≤ a ∧ a ≤ 99) ∧ (0 ≤ b ∧ b ≤ 99) ∧ (0 ≤ c9 ∧ c9 ≤ 99) ∧ (0 ≤ d ∧ d ≤ 99)) ∨ (r = 1 ∧ (¬ ((0 ≤ a ∧ a ≤ 99) ∧ (0 ≤ b ∧ b ≤ 99) ∧ (0 ≤ c9 ∧ c9 ≤ 99) ∧ (0 ≤ d ∧ d ≤ 99))))) (fun u t => cB (dC, dI) [] [(out, .inl (kO, 1, .inr (.inl u)))] (va_A [(dat, .inr (7, [.ref db, .ref dm, .int 0, .ref dh, .ref ds])), (dh, .inl (kI, 24, .inl (fun _ => 0))), (out, .inl (kO, 1, .inr (.inl fo)))] sz) (fun _ => True) t) (va_A [(dat, .inr (7, [.ref db, .ref dm, .int 0, .ref dh, .ref ds])), (dh, .inl (kI, 24, .inl (fun _ => 0))), (out, .inl (kO, 1, .inr (.inl fo)))] sz)) (vx_X (fun _ : Unit => True) (fun E _ _ => (E = "none" ∧ False)) (va_A [(dat, .inr (7, [.ref db, .ref dm, .int 0, .ref dh, .ref ds])), (dh, .inl (kI, 24, .inl (fun _ => 0))), (out, .inl (kO, 1, .inr (.inl fo)))] sz)) 3 18 (va_A [(dat, .inr (7, [.ref db, .ref dm, .int 0, .ref dh, .ref ds])), (dh, .inl (kI, 24, .inl (fun _ => 0))), (out, .inl (kO, 1, .inr (.inl fo)))] sz) := by
  refine vx_ofWH (cc := cL_painter) (maxL := 7) (ret := (some .int)) (hh := [(0, 14, 17, 13), (0, 14, 21, 15)]) (by decide) rfl ?_
  intro p e s m args below meth c s₁ B hml hv
  obtain ⟨rfl, hsz, hb0, hE, hPP, hK, hDD, hF0⟩ := hv
  have hx := B.exec
  have hb := B.bytes
  have hr := B.returns
  have hts := atoms_spec (ws := wo_c_L_painter) B.pre
  have hown : s.vm.findClass RL = some m.cls := findClass_of_methodNamed B.named
  have hlocks := B.notSynchronized
  subst hsz
  have hN0 := en_N hPP hDD rfl
  have hP : va_P (dC, dI) vwCl [(dat, .inr (7, [.ref db, .ref dm, .int 0, .ref dh, .ref ds])), (dh, .inl (kI, 24, .inl (fun _ => 0))), (out, .inl (kO, 1, .inr (.inl fo)))] s.heap := hPP.sub [0, 1, 2] rfl
  have hR0 : va_P (dC, dI) vwCl [(h, .inr (17, [.ref pal, .ref she, .ref fil, .ref nte, .ref dat, .ref vot, .ref loa, .ref nos, .ref pic, .ref spa, .int 5, .int 50, .int 1600, .int 0]))] s.heap := hPP.sub [3] rfl
  have hD0 : va_D (fun q => b0 ≤ q) [(dat, .inr (7, [.ref db, .ref dm, .int 0, .ref dh, .ref ds])), (dh, .inl (kI, 24, .inl (fun _ => 0))), (out, .inl (kO, 1, .inr (.inl fo)))] := hDD.sub [0, 1, 2] (by decide) rfl
  have hDr : va_D (fun q => b0 ≤ q) [(h, .inr (17, [.ref pal, .ref she, .ref fil, .ref nte, .ref dat, .ref vot, .ref loa, .ref nos, .ref pic, .ref spa, .int 5, .int 50, .int 1600, .int 0]))] := hDD.sub [3] (by decide) rfl
  have hAb := en_A (sz := s.heap.size) hD0 hb0
  have hD := hD0.self (sz := s.heap.size)
  generalize hAe : va_A [(dat, .inr (7, [.ref db, .ref dm, .int 0, .ref dh, .ref ds])), (dh, .inl (kI, 24, .inl (fun _ => 0))), (out, .inl (kO, 1, .inr (.inl fo)))] s.heap.size = A at hD hAb hN0 ⊢
  have hA : ∀ q : Nat, s.heap.size ≤ q → A q := fun q h => by rw [← hAe]; exact Or.inr h
  have hS : va_S A s.heap s.heap [] := va_S.rf
  have hR := hR0
  have hl := lv_entry [.ref h, .int a, .int b, .int c9, .int d, .ref out] (n := 7) (Nat.le_of_ble_eq_true rfl)
  rw [lg_entry_eq]
  generalize (lg_sl [.ref h, .int a, .int b, .int c9, .int d, .ref out] ++ List.replicate (7 - (lg_sl [.ref h, .int a, .int b, .int c9, .int d, .ref out]).length) Slot.unset).toArray = ls at hl ⊢
  have hl : lv_has ls 7 [(0, .ref h), (1, .int a), (2, .int b), (3, .int c9), (4, .int d), (5, .ref out)] := hl
  have hTab := vx_table (x := yL_painter) B (hts (.codeWith yL_painter cL_painter 7 (some .int) [(0, 14, 17, 13), (0, 14, 21, 15)]) (by decide +kernel))
  refine lv_aload hx hb dL_painter_0 (lv_at hl 5 rfl) ?_
  refine lv_iconst (v := 0) hx hb dL_painter_2 (by decide) ?_
  refine lv_aload_n hx hb dL_painter_3 rfl (lv_at hl 0 rfl) ?_
  refine lv_iload_n hx hb dL_painter_4 rfl (lv_at hl 1 rfl) ?_
  refine lv_iload_n hx hb dL_painter_5 rfl (lv_at hl 2 rfl) ?_
  refine lv_iload_n hx hb dL_painter_6 rfl (lv_at hl 3 rfl) ?_
  refine lv_iload hx hb dL_painter_7 (lv_at hl 4 rfl) ?_
  have hPc := (hP.app hR).sub (ws' := [(dat, .inr (7, [.ref db, .ref dm, .int 0, .ref dh, .ref ds])), (dh, .inl (kI, 24, .inl (fun _ => 0)))] ++ [(h, .inr (17, [.ref pal, .ref she, .ref fil, .ref nte, .ref dat, .ref vot, .ref loa, .ref nos, .ref pic, .ref spa, .int 5, .int 50, .int 1600, .int 0]))]) [0, 1, 3] rfl
  have hDc := (en_DD hD hDr hN0 hAb).sub (ws' := [(dat, .inr (7, [.ref db, .ref dm, .int 0, .ref dh, .ref ds])), (dh, .inl (kI, 24, .inl (fun _ => 0)))] ++ [(h, .inr (17, [.ref pal, .ref she, .ref fil, .ref nte, .ref dat, .ref vot, .ref loa, .ref nos, .ref pic, .ref spa, .int 5, .int 50, .int 1600, .int 0]))]) [0, 1, 3] (by decide) rfl
  have hKc := hK.sub (tys' := [(kI, .int)]) [0] rfl
  have hFc := va_free (wc := [(dat, .inr (7, [.ref db, .ref dm, .int 0, .ref dh, .ref ds])), (dh, .inl (kI, 24, .inl (fun _ => 0)))]) hD hS hA [0, 1] rfl
  refine vx_calli (vx_runV (As := [.int a, .int b, .int c9, .int d]) (rest := [.int 0, .ref out]) ⟨hx, hb, hml, hown, hts⟩ (c_X11_painter l hst dC dI b0 en s.heap.size h pal she fil nte dat vot loa nos pic spa db dm dh ds kI a b c9 d) (cwV 4 hts go_c_L_painter_0 rfl rfl rfl (by decide +kernel) ⟨Nat.le_of_ble_eq_true rfl, Nat.le_of_ble_eq_true rfl⟩) ⟨cP.blind, va_recv hK hR (ci := 17) (q0 := 0) rfl rfl, cP.use (en_z hb0 hS) (hE.on hAb hS) hPc hKc hDc trivial⟩ rfl rfl hl.1 rfl (lv_room (Nat.le_of_ble_eq_true rfl)) dL_painter_9 ⟨Nat.le_of_ble_eq_true rfl, Nat.le_of_ble_eq_true rfl⟩) hS (fun q _ h => hFc q h) hFc (fun q _ h => hFc q h) (fun E ce q9 u t H1 locs ht hvm hpx hBX hz1 hk1 hS hce hcv hcl => ?_) (fun r_1 u t H1 locs ht hvm hw hB hz1 hk1 hS => ?_)
  · skip
    try dsimp only at hBX
    obtain ⟨rfl, hc⟩ := hBX
    have hP1 : va_P (dC, dI) vwCl [] H1 := fun k q h => by simp at h
    have hD1 : va_D (va_A [(dat, .inr (7, [.ref db, .ref dm, .int 0, .ref dh, .ref ds])), (dh, .inl (kI, 24, .inl (fun _ => 0)))] s.heap.size) [] := ⟨fun i j p q h => by simp at h, fun k q h => by simp at h⟩
    obtain ⟨hP, hD⟩ := va_join (wr := [(out, .inl (kO, 1, .inr (.inl fo)))]) (w1 := []) hP hD [0, 1] [2] rfl rfl (by decide) (by decide) hk1 hFc hP1 hD1
    generalize H1 = H at hP hS hce ⊢
    have hP : va_P (dC, dI) vwCl [(out, .inl (kO, 1, .inr (.inl fo)))] H := hP
    have hD : va_D A [(out, .inl (kO, 1, .inr (.inl fo)))] := hD
    have hR := en_R hR0 hN0 hS
    refine vx_catch (own := RL) (name := "java/lang/IllegalArgumentException") (E := "java/lang/IllegalArgumentException") hown [] ⟨0, 14, 17, 13⟩ [⟨0, 14, 21, 15⟩] hTab (fun _ h9 => absurd h9 List.not_mem_nil) (by decide) (by decide) (hts (.classLink RL 13 "java/lang/IllegalArgumentException") (by decide +kernel)) (va_Nw.use rfl (hE.cast (by decide))) hce hcv hcl ?_
    refine lv_astore (lv' := [(6, .ref q9), (0, .ref h), (1, .int a), (2, .int b), (3, .int c9), (4, .int d), (5, .ref out)]) hx hb dL_painter_17 hl (by decide) rfl (fun ls hl => ?_)
    refine lv_iconst (v := 1) hx hb dL_painter_19 (by decide) ?_
    refine W.widen (k := 3) (n := 18) (Nat.le_of_ble_eq_true rfl) (Nat.le_of_ble_eq_true rfl) ?_
    refine vx_ret ?_
    exact W.iret (v := 1) hx hb hr (fun t ht hW => ⟨⟨1, fo, rfl, (z_c_L_painter_446 a b c9 d fo hc), cB.mk ht hW (hP.sub [0] rfl) (hK.sub [] rfl) (hD.sub [0] (by decide) rfl) (trivial)⟩, hS.F ht⟩) hS.2.2 dL_painter_20
  have hP1 : va_P (dC, dI) vwCl [] H1 := fun k q h => by simp at h
  have hD1 : va_D (va_A [(dat, .inr (7, [.ref db, .ref dm, .int 0, .ref dh, .ref ds])), (dh, .inl (kI, 24, .inl (fun _ => 0)))] s.heap.size) [] := ⟨fun i j p q h => by simp at h, fun k q h => by simp at h⟩
  try dsimp only at hw
  obtain ⟨hP, hD⟩ := va_join (wr := [(out, .inl (kO, 1, .inr (.inl fo)))]) (w1 := []) hP hD [0, 1] [2] rfl rfl (by decide) (by decide) hk1 hFc hP1 hD1
  generalize H1 = H at hP hS ⊢
  have hP : va_P (dC, dI) vwCl [(out, .inl (kO, 1, .inr (.inl fo)))] H := hP
  have hD : va_D A [(out, .inl (kO, 1, .inr (.inl fo)))] := hD
  have hR := en_R hR0 hN0 hS
  refine W.widen (k := 3) (n := 18) (Nat.le_of_ble_eq_true rfl) (Nat.le_of_ble_eq_true rfl) ?_
  obtain ⟨hw, h_2⟩ := hw
  subst r_1
  refine lv_i2l hx hb dL_painter_12 rfl ?_
  refine lv_topl (fun y_3 ey_3 => ?_)
  refine va_last hx hb hK hP hD hS 0 1 rfl rfl (vp_in_nI (by decide : 0 < 1) (by decide)) dL_painter_13 (fun H locs hP hD hS => ?_)
  generalize ef_4 : vp_updL fo (0 : Int32).toNatClampNeg y_3 = f_4 at hP hD
  have hP : va_P (dC, dI) vwCl [(out, .inl (kO, 1, .inr (.inl f_4)))] H := hP
  have hD : va_D A [(out, .inl (kO, 1, .inr (.inl f_4)))] := hD
  have hR := en_R hR0 hN0 hS
  have h_5 : f_4 0 = y_3 := by rw [← ef_4]; exact pk_uLs
  refine lv_goto (tgt := 25) hx hb dL_painter_14 (by decide) ?_
  refine lv_iconst (v := 0) hx hb dL_painter_25 (by decide) ?_
  refine W.widen (k := 3) (n := 18) (Nat.le_of_ble_eq_true rfl) (Nat.le_of_ble_eq_true rfl) ?_
  refine vx_ret ?_
  exact W.iret (v := 0) hx hb hr (fun t ht hW => ⟨⟨0, f_4, rfl, (z_c_L_painter_447 a b c9 d y_3 f_4 h_2 ey_3 h_5), cB.mk ht hW (hP.sub [0] rfl) (hK.sub [] rfl) (hD.sub [0] (by decide) rfl) (trivial)⟩, hS.F ht⟩) hS.2.2 dL_painter_26
theorem z_c_L_likely_448 (a : Int32) (b : Int32) (c9 : Int32) (d : Int32) (a_0 : ¬ ((0 ≤ a ∧ a ≤ 99) ∧ (0 ≤ b ∧ b ≤ 99) ∧ (0 ≤ c9 ∧ c9 ≤ 99) ∧ (0 ≤ d ∧ d ≤ 99))) : ((1 : Int32) = 1 ∧ (¬ ((0 ≤ a ∧ a ≤ 99) ∧ (0 ≤ b ∧ b ≤ 99) ∧ (0 ≤ c9 ∧ c9 ≤ 99) ∧ (0 ≤ d ∧ d ≤ 99)))) ∨ ((1 : Int32) = 2 ∧ ((0 ≤ a ∧ a ≤ 99) ∧ (0 ≤ b ∧ b ≤ 99) ∧ (0 ≤ c9 ∧ c9 ≤ 99) ∧ (0 ≤ d ∧ d ≤ 99))) := by grind
theorem z_c_L_likely_449 (a : Int32) (b : Int32) (c9 : Int32) (d : Int32) (a_0 : (0 ≤ a ∧ a ≤ 99) ∧ (0 ≤ b ∧ b ≤ 99) ∧ (0 ≤ c9 ∧ c9 ≤ 99) ∧ (0 ≤ d ∧ d ≤ 99)) : ((2 : Int32) = 1 ∧ (¬ ((0 ≤ a ∧ a ≤ 99) ∧ (0 ≤ b ∧ b ≤ 99) ∧ (0 ≤ c9 ∧ c9 ≤ 99) ∧ (0 ≤ d ∧ d ≤ 99)))) ∨ ((2 : Int32) = 2 ∧ ((0 ≤ a ∧ a ≤ 99) ∧ (0 ≤ b ∧ b ≤ 99) ∧ (0 ≤ c9 ∧ c9 ≤ 99) ∧ (0 ≤ d ∧ d ≤ 99))) := by grind
def wo_c_L_likely_w : List Cond := [Cond.codeWith yL_likely cL_likely 7 (some .int) [(0, 14, 17, 13), (0, 14, 21, 37)], Cond.classLink RL 13 "java/lang/IllegalArgumentException", Cond.classLink RL 37 "java/util/NoSuchElementException"]
def wo_c_L_likely : List Cond := .codeWith yL_likely cL_likely 7 (some .int) [(0, 14, 17, 13), (0, 14, 21, 37)] :: (wo_c_L_likely_w ++ (wsV RL 89 RX11 yX11_likely wo_c_X11_likely ++ List.nil))
theorem gw_wo_c_L_likely : wo_c_L_likely.all goodWord = true := gw_c (by decide +kernel) (gw_a (by decide +kernel) (gw_a (gw_a (by decide +kernel) gw_wo_c_X11_likely) rfl))
theorem go_c_L_likely_0 : GoodIn wo_c_L_likely (wsV RL 89 RX11 yX11_likely wo_c_X11_likely) := goodIn_sub (fun _ h => List.mem_cons_of_mem _ (List.mem_append_right _ (List.mem_append_left _ h))) (gw_a (by decide +kernel) gw_wo_c_X11_likely)
set_option maxHeartbeats 4000000 in
set_option maxRecDepth 100000 in
/-- the law: likely -/
theorem c_L_likely (l : Launch) (hst : l.stackTraces = false) (dC : Nat → ClassId) (dI : Nat → Nat → Nat) (b0 : Nat) (en : EnT) (sz : Nat) (h pal she fil nte dat vot loa nos pic spa : Nat) (db dm dh ds : Nat) (a b c9 d : Int32) (out : Nat) : vx_Met l yL_likely wo_c_L_likely ({ frames := 9, cells := 3, slots := 18, locals := 157 } : Room) (cP b0 en (dC, dI) [] [] [(h, .inr (17, [.ref pal, .ref she, .ref fil, .ref nte, .ref dat, .ref vot, .ref loa, .ref nos, .ref pic, .ref spa, .int 5, .int 50, .int 1600, .int 0])), (dat, .inr (7, [.ref db, .ref dm, .int 0, .ref dh, .ref ds]))] sz (fun _ => True) [.ref h, .int a, .int b, .int c9, .int d, .ref out]) (va_Qi (fun (r : Int32) (u : Unit) => (r = 1 ∧ (¬ ((0 ≤ a ∧ a ≤ 99) ∧ (0 ≤ b ∧ b ≤ 99) ∧ (0 ≤ c9 ∧ c9 ≤ 99) ∧ (0 ≤ d ∧ d ≤ 99)))) ∨ (r = 2 ∧ ((0 ≤ a ∧ a ≤ 99) ∧ (0 ≤ b ∧ b ≤ 99) ∧ (0 ≤ c9 ∧ c9 ≤ 99) ∧ (0 ≤ d ∧ d ≤ 99)))) (fun u t => cB (dC, dI) [] [] (va_A [] sz) (fun _ => True) t) (va_A [] sz)) (vx_X (fun _ : Unit => True) (fun E _ _ => (E = "none" ∧ False)) (va_A [] sz)) 3 18 (va_A [] sz) := by
  refine vx_ofWH (cc := cL_likely) (maxL := 7) (ret := (some .int)) (hh := [(0, 14, 17, 13), (0, 14, 21, 37)]) (by decide) rfl ?_
  intro p e s m args below meth c s₁ B hml hv
  obtain ⟨rfl, hsz, hb0, hE, hPP, hK, hDD, hF0⟩ := hv
  have hx := B.exec
  have hb := B.bytes
  have hr := B.returns
  have hts := atoms_spec (ws := wo_c_L_likely) B.pre
  have hown : s.vm.findClass RL = some m.cls := findClass_of_methodNamed B.named
  have hlocks := B.notSynchronized
  subst hsz
  have hN0 := en_N hPP hDD rfl
  have hP : va_P (dC, dI) vwCl [] s.heap := hPP.sub [] rfl
  have hR0 : va_P (dC, dI) vwCl [(h, .inr (17, [.ref pal, .ref she, .ref fil, .ref nte, .ref dat, .ref vot, .ref loa, .ref nos, .ref pic, .ref spa, .int 5, .int 50, .int 1600, .int 0])), (dat, .inr (7, [.ref db, .ref dm, .int 0, .ref dh, .ref ds]))] s.heap := hPP.sub [0, 1] rfl
  have hD0 : va_D (fun q => b0 ≤ q) [] := hDD.sub [] (by decide) rfl
  have hDr : va_D (fun q => b0 ≤ q) [(h, .inr (17, [.ref pal, .ref she, .ref fil, .ref nte, .ref dat, .ref vot, .ref loa, .ref nos, .ref pic, .ref spa, .int 5, .int 50, .int 1600, .int 0])), (dat, .inr (7, [.ref db, .ref dm, .int 0, .ref dh, .ref ds]))] := hDD.sub [0, 1] (by decide) rfl
  have hAb := en_A (sz := s.heap.size) hD0 hb0
  have hD := hD0.self (sz := s.heap.size)
  generalize hAe : va_A [] s.heap.size = A at hD hAb hN0 ⊢
  have hA : ∀ q : Nat, s.heap.size ≤ q → A q := fun q h => by rw [← hAe]; exact Or.inr h
  have hS : va_S A s.heap s.heap [] := va_S.rf
  have hR := hR0
  have hl := lv_entry [.ref h, .int a, .int b, .int c9, .int d, .ref out] (n := 7) (Nat.le_of_ble_eq_true rfl)
  rw [lg_entry_eq]
  generalize (lg_sl [.ref h, .int a, .int b, .int c9, .int d, .ref out] ++ List.replicate (7 - (lg_sl [.ref h, .int a, .int b, .int c9, .int d, .ref out]).length) Slot.unset).toArray = ls at hl ⊢
  have hl : lv_has ls 7 [(0, .ref h), (1, .int a), (2, .int b), (3, .int c9), (4, .int d), (5, .ref out)] := hl
  have hTab := vx_table (x := yL_likely) B (hts (.codeWith yL_likely cL_likely 7 (some .int) [(0, 14, 17, 13), (0, 14, 21, 37)]) (by decide +kernel))
  refine lv_aload hx hb dL_likely_0 (lv_at hl 5 rfl) ?_
  refine lv_iconst (v := 0) hx hb dL_likely_2 (by decide) ?_
  refine lv_aload_n hx hb dL_likely_3 rfl (lv_at hl 0 rfl) ?_
  refine lv_iload_n hx hb dL_likely_4 rfl (lv_at hl 1 rfl) ?_
  refine lv_iload_n hx hb dL_likely_5 rfl (lv_at hl 2 rfl) ?_
  refine lv_iload_n hx hb dL_likely_6 rfl (lv_at hl 3 rfl) ?_
  refine lv_iload hx hb dL_likely_7 (lv_at hl 4 rfl) ?_
  have hPc := (hP.app hR).sub (ws' := [] ++ [(h, .inr (17, [.ref pal, .ref she, .ref fil, .ref nte, .ref dat, .ref vot, .ref loa, .ref nos, .ref pic, .ref spa, .int 5, .int 50, .int 1600, .int 0])), (dat, .inr (7, [.ref db, .ref dm, .int 0, .ref dh, .ref ds]))]) [0, 1] rfl
  have hDc := (en_DD hD hDr hN0 hAb).sub (ws' := [] ++ [(h, .inr (17, [.ref pal, .ref she, .ref fil, .ref nte, .ref dat, .ref vot, .ref loa, .ref nos, .ref pic, .ref spa, .int 5, .int 50, .int 1600, .int 0])), (dat, .inr (7, [.ref db, .ref dm, .int 0, .ref dh, .ref ds]))]) [0, 1] (by decide) rfl
  have hKc := hK.sub (tys' := []) [] rfl
  have hFc := va_free (wc := []) hD hS hA [] rfl
  refine vx_calli (vx_runV (As := [.int a, .int b, .int c9, .int d]) (rest := [.int 0, .ref out]) ⟨hx, hb, hml, hown, hts⟩ (c_X11_likely l hst dC dI b0 en s.heap.size h pal she fil nte dat vot loa nos pic spa db dm dh ds a b c9 d) (cwV 4 hts go_c_L_likely_0 rfl rfl rfl (by decide +kernel) ⟨Nat.le_of_ble_eq_true rfl, Nat.le_of_ble_eq_true rfl⟩) ⟨cP.blind, va_recv hK hR (ci := 17) (q0 := 0) rfl rfl, cP.use (en_z hb0 hS) (hE.on hAb hS) hPc hKc hDc trivial⟩ rfl rfl hl.1 rfl (lv_room (Nat.le_of_ble_eq_true rfl)) dL_likely_9 ⟨Nat.le_of_ble_eq_true rfl, Nat.le_of_ble_eq_true rfl⟩) hS (fun q _ h => hFc q h) hFc (fun q _ h => hFc q h) (fun E ce q9 u t H1 locs ht hvm hpx hBX hz1 hk1 hS hce hcv hcl => ?_) (fun r_1 u t H1 locs ht hvm hw hB hz1 hk1 hS => ?_)
  · skip
    try dsimp only at hBX
    rcases hBX with ⟨rfl, hc⟩ | ⟨rfl, hc⟩
    · skip
      have hP1 : va_P (dC, dI) vwCl [] H1 := fun k q h => by simp at h
      have hD1 : va_D (va_A [] s.heap.size) [] := ⟨fun i j p q h => by simp at h, fun k q h => by simp at h⟩
      obtain ⟨hP, hD⟩ := va_join (wr := []) (w1 := []) hP hD [] [] rfl rfl (by decide) (by decide) hk1 hFc hP1 hD1
      generalize H1 = H at hP hS hce ⊢
      have hP : va_P (dC, dI) vwCl [] H := hP
      have hD : va_D A [] := hD
      have hR := en_R hR0 hN0 hS
      refine vx_catch (own := RL) (name := "java/lang/IllegalArgumentException") (E := "java/lang/IllegalArgumentException") hown [] ⟨0, 14, 17, 13⟩ [⟨0, 14, 21, 37⟩] hTab (fun _ h9 => absurd h9 List.not_mem_nil) (by decide) (by decide) (hts (.classLink RL 13 "java/lang/IllegalArgumentException") (by decide +kernel)) (va_Nw.use rfl (hE.cast (by decide))) hce hcv hcl ?_
      refine lv_astore (lv' := [(6, .ref q9), (0, .ref h), (1, .int a), (2, .int b), (3, .int c9), (4, .int d), (5, .ref out)]) hx hb dL_likely_17 hl (by decide) rfl (fun ls hl => ?_)
      refine lv_iconst (v := 1) hx hb dL_likely_19 (by decide) ?_
      refine W.widen (k := 3) (n := 18) (Nat.le_of_ble_eq_true rfl) (Nat.le_of_ble_eq_true rfl) ?_
      refine vx_ret ?_
      exact W.iret (v := 1) hx hb hr (fun t ht hW => ⟨⟨1, (), rfl, (z_c_L_likely_448 a b c9 d hc), cB.mk ht hW (hP.sub [] rfl) (hK.sub [] rfl) (hD.sub [] (by decide) rfl) (trivial)⟩, hS.F ht⟩) hS.2.2 dL_likely_20
    · skip
      have hP1 : va_P (dC, dI) vwCl [] H1 := fun k q h => by simp at h
      have hD1 : va_D (va_A [] s.heap.size) [] := ⟨fun i j p q h => by simp at h, fun k q h => by simp at h⟩
      obtain ⟨hP, hD⟩ := va_join (wr := []) (w1 := []) hP hD [] [] rfl rfl (by decide) (by decide) hk1 hFc hP1 hD1
      generalize H1 = H at hP hS hce ⊢
      have hP : va_P (dC, dI) vwCl [] H := hP
      have hD : va_D A [] := hD
      have hR := en_R hR0 hN0 hS
      refine vx_catch (own := RL) (name := "java/util/NoSuchElementException") (E := "java/util/NoSuchElementException") hown [⟨0, 14, 17, 13⟩] ⟨0, 14, 21, 37⟩ [] hTab (List.forall_mem_cons.mpr ⟨Or.inr ⟨by decide, "java/lang/IllegalArgumentException", hts (.classLink RL 13 "java/lang/IllegalArgumentException") (by decide +kernel), hE.nocast (by decide) (by decide) (by decide)⟩, (fun _ h9 => absurd h9 List.not_mem_nil)⟩) (by decide) (by decide) (hts (.classLink RL 37 "java/util/NoSuchElementException") (by decide +kernel)) (va_Nw.use rfl (hE.cast (by decide))) hce hcv hcl ?_
      refine lv_astore (lv' := [(6, .ref q9), (0, .ref h), (1, .int a), (2, .int b), (3, .int c9), (4, .int d), (5, .ref out)]) hx hb dL_likely_21 hl (by decide) rfl (fun ls hl => ?_)
      refine lv_iconst (v := 2) hx hb dL_likely_23 (by decide) ?_
      refine W.widen (k := 3) (n := 18) (Nat.le_of_ble_eq_true rfl) (Nat.le_of_ble_eq_true rfl) ?_
      refine vx_ret ?_
      exact W.iret (v := 2) hx hb hr (fun t ht hW => ⟨⟨2, (), rfl, (z_c_L_likely_449 a b c9 d hc), cB.mk ht hW (hP.sub [] rfl) (hK.sub [] rfl) (hD.sub [] (by decide) rfl) (trivial)⟩, hS.F ht⟩) hS.2.2 dL_likely_24
  exact (show False from hw).elim

def wo_c_L_isSure_w : List Cond := [Cond.codeWith yL_isSure cL_isSure 7 (some .int) [(0, 21, 24, 13), (0, 21, 28, 37)], Cond.classLink RL 13 "java/lang/IllegalArgumentException", Cond.classLink RL 37 "java/util/NoSuchElementException"]
def wo_c_L_isSure : List Cond := .codeWith yL_isSure cL_isSure 7 (some .int) [(0, 21, 24, 13), (0, 21, 28, 37)] :: (wo_c_L_isSure_w ++ (wsV RL 92 RX11 yX11_isSure wo_c_X11_isSure ++ List.nil))
theorem gw_wo_c_L_isSure : wo_c_L_isSure.all goodWord = true := gw_c (by decide +kernel) (gw_a (by decide +kernel) (gw_a (gw_a (by decide +kernel) gw_wo_c_X11_isSure) rfl))
theorem go_c_L_isSure_0 : GoodIn wo_c_L_isSure (wsV RL 92 RX11 yX11_isSure wo_c_X11_isSure) := goodIn_sub (fun _ h => List.mem_cons_of_mem _ (List.mem_append_right _ (List.mem_append_left _ h))) (gw_a (by decide +kernel) gw_wo_c_X11_isSure)
set_option maxHeartbeats 4000000 in
set_option maxRecDepth 100000 in
/-- the law: isSure -/
theorem c_L_isSure (l : Launch) (hst : l.stackTraces = false) (dC : Nat → ClassId) (dI : Nat → Nat → Nat) (b0 : Nat) (en : EnT) (sz : Nat) (h pal she fil nte dat vot loa nos pic spa : Nat) (db dm dh ds : Nat) (a b c9 d : Int32) (out : Nat) : vx_Met l yL_isSure wo_c_L_isSure ({ frames := 9, cells := 3, slots := 18, locals := 157 } : Room) (cP b0 en (dC, dI) [] [] [(h, .inr (17, [.ref pal, .ref she, .ref fil, .ref nte, .ref dat, .ref vot, .ref loa, .ref nos, .ref pic, .ref spa, .int 5, .int 50, .int 1600, .int 0])), (dat, .inr (7, [.ref db, .ref dm, .int 0, .ref dh, .ref ds]))] sz (fun _ => True) [.ref h, .int a, .int b, .int c9, .int d, .ref out]) (va_Qi (fun (r : Int32) (u : Unit) => (r = 1 ∧ (¬ ((0 ≤ a ∧ a ≤ 99) ∧ (0 ≤ b ∧ b ≤ 99) ∧ (0 ≤ c9 ∧ c9 ≤ 99) ∧ (0 ≤ d ∧ d ≤ 99)))) ∨ (r = 2 ∧ ((0 ≤ a ∧ a ≤ 99) ∧ (0 ≤ b ∧ b ≤ 99) ∧ (0 ≤ c9 ∧ c9 ≤ 99) ∧ (0 ≤ d ∧ d ≤ 99)))) (fun u t => cB (dC, dI) [] [] (va_A [] sz) (fun _ => True) t) (va_A [] sz)) (vx_X (fun _ : Unit => True) (fun E _ _ => (E = "none" ∧ False)) (va_A [] sz)) 3 18 (va_A [] sz) := by
  refine vx_ofWH (cc := cL_isSure) (maxL := 7) (ret := (some .int)) (hh := [(0, 21, 24, 13), (0, 21, 28, 37)]) (by decide) rfl ?_
  intro p e s m args below meth c s₁ B hml hv
  obtain ⟨rfl, hsz, hb0, hE, hPP, hK, hDD, hF0⟩ := hv
  have hx := B.exec
  have hb := B.bytes
  have hr := B.returns
  have hts := atoms_spec (ws := wo_c_L_isSure) B.pre
  have hown : s.vm.findClass RL = some m.cls := findClass_of_methodNamed B.named
  have hlocks := B.notSynchronized
  subst hsz
  have hN0 := en_N hPP hDD rfl
  have hP : va_P (dC, dI) vwCl [] s.heap := hPP.sub [] rfl
  have hR0 : va_P (dC, dI) vwCl [(h, .inr (17, [.ref pal, .ref she, .ref fil, .ref nte, .ref dat, .ref vot, .ref loa, .ref nos, .ref pic, .ref spa, .int 5, .int 50, .int 1600, .int 0])), (dat, .inr (7, [.ref db, .ref dm, .int 0, .ref dh, .ref ds]))] s.heap := hPP.sub [0, 1] rfl
  have hD0 : va_D (fun q => b0 ≤ q) [] := hDD.sub [] (by decide) rfl
  have hDr : va_D (fun q => b0 ≤ q) [(h, .inr (17, [.ref pal, .ref she, .ref fil, .ref nte, .ref dat, .ref vot, .ref loa, .ref nos, .ref pic, .ref spa, .int 5, .int 50, .int 1600, .int 0])), (dat, .inr (7, [.ref db, .ref dm, .int 0, .ref dh, .ref ds]))] := hDD.sub [0, 1] (by decide) rfl
  have hAb := en_A (sz := s.heap.size) hD0 hb0
  have hD := hD0.self (sz := s.heap.size)
  generalize hAe : va_A [] s.heap.size = A at hD hAb hN0 ⊢
  have hA : ∀ q : Nat, s.heap.size ≤ q → A q := fun q h => by rw [← hAe]; exact Or.inr h
  have hS : va_S A s.heap s.heap [] := va_S.rf
  have hR := hR0
  have hl := lv_entry [.ref h, .int a, .int b, .int c9, .int d, .ref out] (n := 7) (Nat.le_of_ble_eq_true rfl)
  rw [lg_entry_eq]
  generalize (lg_sl [.ref h, .int a, .int b, .int c9, .int d, .ref out] ++ List.replicate (7 - (lg_sl [.ref h, .int a, .int b, .int c9, .int d, .ref out]).length) Slot.unset).toArray = ls at hl ⊢
  have hl : lv_has ls 7 [(0, .ref h), (1, .int a), (2, .int b), (3, .int c9), (4, .int d), (5, .ref out)] := hl
  have hTab := vx_table (x := yL_isSure) B (hts (.codeWith yL_isSure cL_isSure 7 (some .int) [(0, 21, 24, 13), (0, 21, 28, 37)]) (by decide +kernel))
  refine lv_aload hx hb dL_isSure_0 (lv_at hl 5 rfl) ?_
  refine lv_iconst (v := 0) hx hb dL_isSure_2 (by decide) ?_
  refine lv_aload_n hx hb dL_isSure_3 rfl (lv_at hl 0 rfl) ?_
  refine lv_iload_n hx hb dL_isSure_4 rfl (lv_at hl 1 rfl) ?_
  refine lv_iload_n hx hb dL_isSure_5 rfl (lv_at hl 2 rfl) ?_
  refine lv_iload_n hx hb dL_isSure_6 rfl (lv_at hl 3 rfl) ?_
  refine lv_iload hx hb dL_isSure_7 (lv_at hl 4 rfl) ?_
  have hPc := (hP.app hR).sub (ws' := [] ++ [(h, .inr (17, [.ref pal, .ref she, .ref fil, .ref nte, .ref dat, .ref vot, .ref loa, .ref nos, .ref pic, .ref spa, .int 5, .int 50, .int 1600, .int 0])), (dat, .inr (7, [.ref db, .ref dm, .int 0, .ref dh, .ref ds]))]) [0, 1] rfl
  have hDc := (en_DD hD hDr hN0 hAb).sub (ws' := [] ++ [(h, .inr (17, [.ref pal, .ref she, .ref fil, .ref nte, .ref dat, .ref vot, .ref loa, .ref nos, .ref pic, .ref spa, .int 5, .int 50, .int 1600, .int 0])), (dat, .inr (7, [.ref db, .ref dm, .int 0, .ref dh, .ref ds]))]) [0, 1] (by decide) rfl
  have hKc := hK.sub (tys' := []) [] rfl
  have hFc := va_free (wc := []) hD hS hA [] rfl
  refine vx_calli (vx_runV (As := [.int a, .int b, .int c9, .int d]) (rest := [.int 0, .ref out]) ⟨hx, hb, hml, hown, hts⟩ (c_X11_isSure l hst dC dI b0 en s.heap.size h pal she fil nte dat vot loa nos pic spa db dm dh ds a b c9 d) (cwV 4 hts go_c_L_isSure_0 rfl rfl rfl (by decide +kernel) ⟨Nat.le_of_ble_eq_true rfl, Nat.le_of_ble_eq_true rfl⟩) ⟨cP.blind, va_recv hK hR (ci := 17) (q0 := 0) rfl rfl, cP.use (en_z hb0 hS) (hE.on hAb hS) hPc hKc hDc trivial⟩ rfl rfl hl.1 rfl (lv_room (Nat.le_of_ble_eq_true rfl)) dL_isSure_9 ⟨Nat.le_of_ble_eq_true rfl, Nat.le_of_ble_eq_true rfl⟩) hS (fun q _ h => hFc q h) hFc (fun q _ h => hFc q h) (fun E ce q9 u t H1 locs ht hvm hpx hBX hz1 hk1 hS hce hcv hcl => ?_) (fun r_1 u t H1 locs ht hvm hw hB hz1 hk1 hS => ?_)
  · skip
    try dsimp only at hBX
    rcases hBX with ⟨rfl, hc⟩ | ⟨rfl, hc⟩
    · skip
      have hP1 : va_P (dC, dI) vwCl [] H1 := fun k q h => by simp at h
      have hD1 : va_D (va_A [] s.heap.size) [] := ⟨fun i j p q h => by simp at h, fun k q h => by simp at h⟩
      obtain ⟨hP, hD⟩ := va_join (wr := []) (w1 := []) hP hD [] [] rfl rfl (by decide) (by decide) hk1 hFc hP1 hD1
      generalize H1 = H at hP hS hce ⊢
      have hP : va_P (dC, dI) vwCl [] H := hP
      have hD : va_D A [] := hD
      have hR := en_R hR0 hN0 hS
      refine vx_catch (own := RL) (name := "java/lang/IllegalArgumentException") (E := "java/lang/IllegalArgumentException") hown [] ⟨0, 21, 24, 13⟩ [⟨0, 21, 28, 37⟩] hTab (fun _ h9 => absurd h9 List.not_mem_nil) (by decide) (by decide) (hts (.classLink RL 13 "java/lang/IllegalArgumentException") (by decide +kernel)) (va_Nw.use rfl (hE.cast (by decide))) hce hcv hcl ?_
      refine lv_astore (lv' := [(6, .ref q9), (0, .ref h), (1, .int a), (2, .int b), (3, .int c9), (4, .int d), (5, .ref out)]) hx hb dL_isSure_24 hl (by decide) rfl (fun ls hl => ?_)
      refine lv_iconst (v := 1) hx hb dL_isSure_26 (by decide) ?_
      refine W.widen (k := 3) (n := 18) (Nat.le_of_ble_eq_true rfl) (Nat.le_of_ble_eq_true rfl) ?_
      refine vx_ret ?_
      exact W.iret (v := 1) hx hb hr (fun t ht hW => ⟨⟨1, (), rfl, (z_c_L_likely_448 a b c9 d hc), cB.mk ht hW (hP.sub [] rfl) (hK.sub [] rfl) (hD.sub [] (by decide) rfl) (trivial)⟩, hS.F ht⟩) hS.2.2 dL_isSure_27
    · skip
      have hP1 : va_P (dC, dI) vwCl [] H1 := fun k q h => by simp at h
      have hD1 : va_D (va_A [] s.heap.size) [] := ⟨fun i j p q h => by simp at h, fun k q h => by simp at h⟩
      obtain ⟨hP, hD⟩ := va_join (wr := []) (w1 := []) hP hD [] [] rfl rfl (by decide) (by decide) hk1 hFc hP1 hD1
      generalize H1 = H at hP hS hce ⊢
      have hP : va_P (dC, dI) vwCl [] H := hP
      have hD : va_D A [] := hD
      have hR := en_R hR0 hN0 hS
      refine vx_catch (own := RL) (name := "java/util/NoSuchElementException") (E := "java/util/NoSuchElementException") hown [⟨0, 21, 24, 13⟩] ⟨0, 21, 28, 37⟩ [] hTab (List.forall_mem_cons.mpr ⟨Or.inr ⟨by decide, "java/lang/IllegalArgumentException", hts (.classLink RL 13 "java/lang/IllegalArgumentException") (by decide +kernel), hE.nocast (by decide) (by decide) (by decide)⟩, (fun _ h9 => absurd h9 List.not_mem_nil)⟩) (by decide) (by decide) (hts (.classLink RL 37 "java/util/NoSuchElementException") (by decide +kernel)) (va_Nw.use rfl (hE.cast (by decide))) hce hcv hcl ?_
      refine lv_astore (lv' := [(6, .ref q9), (0, .ref h), (1, .int a), (2, .int b), (3, .int c9), (4, .int d), (5, .ref out)]) hx hb dL_isSure_28 hl (by decide) rfl (fun ls hl => ?_)
      refine lv_iconst (v := 2) hx hb dL_isSure_30 (by decide) ?_
      refine W.widen (k := 3) (n := 18) (Nat.le_of_ble_eq_true rfl) (Nat.le_of_ble_eq_true rfl) ?_
      refine vx_ret ?_
      exact W.iret (v := 2) hx hb hr (fun t ht hW => ⟨⟨2, (), rfl, (z_c_L_likely_449 a b c9 d hc), cB.mk ht hW (hP.sub [] rfl) (hK.sub [] rfl) (hD.sub [] (by decide) rfl) (trivial)⟩, hS.F ht⟩) hS.2.2 dL_isSure_31
  exact (show False from hw).elim
theorem z_c_L_scratch_450 (x : Int32) (y : Int32) (de : Int32) (a_0 : ¬ (((0 ≤ x ∧ x < 8) ∧ (0 ≤ y ∧ y < 6)) ∧ (1 ≤ de ∧ de ≤ 999))) : ((1 : Int32) = 1 ∧ (¬ (((0 ≤ x ∧ x < 8) ∧ (0 ≤ y ∧ y < 6)) ∧ (1 ≤ de ∧ de ≤ 999)))) ∨ ((1 : Int32) = 2 ∧ (((0 ≤ x ∧ x < 8) ∧ (0 ≤ y ∧ y < 6)) ∧ (1 ≤ de ∧ de ≤ 999))) := by grind
theorem z_c_L_scratch_451 (x : Int32) (y : Int32) (de : Int32) (a_0 : ((0 ≤ x ∧ x < 8) ∧ (0 ≤ y ∧ y < 6)) ∧ (1 ≤ de ∧ de ≤ 999)) : ((2 : Int32) = 1 ∧ (¬ (((0 ≤ x ∧ x < 8) ∧ (0 ≤ y ∧ y < 6)) ∧ (1 ≤ de ∧ de ≤ 999)))) ∨ ((2 : Int32) = 2 ∧ (((0 ≤ x ∧ x < 8) ∧ (0 ≤ y ∧ y < 6)) ∧ (1 ≤ de ∧ de ≤ 999))) := by grind
def wo_c_L_scratch_w : List Cond := [Cond.codeWith yL_scratch cL_scratch 6 (some .int) [(0, 12, 15, 13), (0, 12, 19, 23), (0, 12, 23, 15)], Cond.classLink RL 13 "java/lang/IllegalArgumentException", Cond.classLink RL 23 "java/lang/UnsupportedOperationException"]
def wo_c_L_scratch : List Cond := .codeWith yL_scratch cL_scratch 6 (some .int) [(0, 12, 15, 13), (0, 12, 19, 23), (0, 12, 23, 15)] :: (wo_c_L_scratch_w ++ (wsV RL 96 RX11 yX11_scratch wo_c_X11_scratch ++ List.nil))
theorem gw_wo_c_L_scratch : wo_c_L_scratch.all goodWord = true := gw_c (by decide +kernel) (gw_a (by decide +kernel) (gw_a (gw_a (by decide +kernel) gw_wo_c_X11_scratch) rfl))
theorem go_c_L_scratch_0 : GoodIn wo_c_L_scratch (wsV RL 96 RX11 yX11_scratch wo_c_X11_scratch) := goodIn_sub (fun _ h => List.mem_cons_of_mem _ (List.mem_append_right _ (List.mem_append_left _ h))) (gw_a (by decide +kernel) gw_wo_c_X11_scratch)
set_option maxHeartbeats 4000000 in
set_option maxRecDepth 100000 in
/-- the law: scratch -/
theorem c_L_scratch (l : Launch) (hst : l.stackTraces = false) (dC : Nat → ClassId) (dI : Nat → Nat → Nat) (b0 : Nat) (en : EnT) (sz : Nat) (h pal she fil nte dat vot loa nos pic spa : Nat) (st sp ll : Nat) (g : Nat → Option Nat) (cS : ClassId) (N : Nat → Prop) (x y de : Int32) (out : Nat) (hNb : ∀ a, N a → b0 ≤ a ∧ a < sz) (hNw : ∀ a, N a → a ∉ List.map Prod.fst ([(fil, .inr (5, [.int 0, .ref en.2.2.1, .int 0]))] : va_W)) (hNr : ∀ a, N a → a ∉ List.map Prod.fst ([(h, .inr (17, [.ref pal, .ref she, .ref fil, .ref nte, .ref dat, .ref vot, .ref loa, .ref nos, .ref pic, .ref spa, .int 5, .int 50, .int 1600, .int 0])), (pic, .inr (11, [.ref st, .ref sp, .ref ll, .int 0, .int 1600])), (st, .inl (cS, 48, .inr (.inr (.inr (.inr g)))))] : va_W)) : vx_Met l yL_scratch wo_c_L_scratch ({ frames := 9, cells := 7, slots := 49, locals := 154 } : Room) (cP b0 en (dC, dI) [(cS, .object "Underpaint$Stack")] [(fil, .inr (5, [.int 0, .ref en.2.2.1, .int 0]))] [(h, .inr (17, [.ref pal, .ref she, .ref fil, .ref nte, .ref dat, .ref vot, .ref loa, .ref nos, .ref pic, .ref spa, .int 5, .int 50, .int 1600, .int 0])), (pic, .inr (11, [.ref st, .ref sp, .ref ll, .int 0, .int 1600])), (st, .inl (cS, 48, .inr (.inr (.inr (.inr g)))))] sz (FamS (dC, dI) N g) [.ref h, .int x, .int y, .int de, .ref out]) (va_Qi (fun (r : Int32) (u : Unit) => (r = 1 ∧ (¬ (((0 ≤ x ∧ x < 8) ∧ (0 ≤ y ∧ y < 6)) ∧ (1 ≤ de ∧ de ≤ 999)))) ∨ (r = 2 ∧ (((0 ≤ x ∧ x < 8) ∧ (0 ≤ y ∧ y < 6)) ∧ (1 ≤ de ∧ de ≤ 999)))) (fun u t => cB (dC, dI) [] [] (va_A [(fil, .inr (5, [.int 0, .ref en.2.2.1, .int 0]))] sz) (fun _ => True) t) (va_A [(fil, .inr (5, [.int 0, .ref en.2.2.1, .int 0]))] sz)) (vx_X (fun _ : Unit => True) (fun E _ _ => (E = "none" ∧ False)) (va_A [(fil, .inr (5, [.int 0, .ref en.2.2.1, .int 0]))] sz)) 7 49 (va_A [(fil, .inr (5, [.int 0, .ref en.2.2.1, .int 0]))] sz) := by
  refine vx_ofWH (cc := cL_scratch) (maxL := 6) (ret := (some .int)) (hh := [(0, 12, 15, 13), (0, 12, 19, 23), (0, 12, 23, 15)]) (by decide) rfl ?_
  intro p e s m args below meth c s₁ B hml hv
  obtain ⟨rfl, hsz, hb0, hE, hPP, hK, hDD, hF0⟩ := hv
  have hx := B.exec
  have hb := B.bytes
  have hr := B.returns
  have hts := atoms_spec (ws := wo_c_L_scratch) B.pre
  have hown : s.vm.findClass RL = some m.cls := findClass_of_methodNamed B.named
  have hlocks := B.notSynchronized
  subst hsz
  have hN0 := en_N hPP hDD rfl
  have hP : va_P (dC, dI) vwCl [(fil, .inr (5, [.int 0, .ref en.2.2.1, .int 0]))] s.heap := hPP.sub [0] rfl
  have hR0 : va_P (dC, dI) vwCl [(h, .inr (17, [.ref pal, .ref she, .ref fil, .ref nte, .ref dat, .ref vot, .ref loa, .ref nos, .ref pic, .ref spa, .int 5, .int 50, .int 1600, .int 0])), (pic, .inr (11, [.ref st, .ref sp, .ref ll, .int 0, .int 1600])), (st, .inl (cS, 48, .inr (.inr (.inr (.inr g)))))] s.heap := hPP.sub [1, 2, 3] rfl
  have hD0 : va_D (fun q => b0 ≤ q) [(fil, .inr (5, [.int 0, .ref en.2.2.1, .int 0]))] := hDD.sub [0] (by decide) rfl
  have hDr : va_D (fun q => b0 ≤ q) [(h, .inr (17, [.ref pal, .ref she, .ref fil, .ref nte, .ref dat, .ref vot, .ref loa, .ref nos, .ref pic, .ref spa, .int 5, .int 50, .int 1600, .int 0])), (pic, .inr (11, [.ref st, .ref sp, .ref ll, .int 0, .int 1600])), (st, .inl (cS, 48, .inr (.inr (.inr (.inr g)))))] := hDD.sub [1, 2, 3] (by decide) rfl
  have hAb := en_A (sz := s.heap.size) hD0 hb0
  have hD := hD0.self (sz := s.heap.size)
  generalize hAe : va_A [(fil, .inr (5, [.int 0, .ref en.2.2.1, .int 0]))] s.heap.size = A at hD hAb hN0 ⊢
  have hA : ∀ q : Nat, s.heap.size ≤ q → A q := fun q h => by rw [← hAe]; exact Or.inr h
  have hS : va_S A s.heap s.heap [] := va_S.rf
  have hR := hR0
  have hl := lv_entry [.ref h, .int x, .int y, .int de, .ref out] (n := 6) (Nat.le_of_ble_eq_true rfl)
  rw [lg_entry_eq]
  generalize (lg_sl [.ref h, .int x, .int y, .int de, .ref out] ++ List.replicate (6 - (lg_sl [.ref h, .int x, .int y, .int de, .ref out]).length) Slot.unset).toArray = ls at hl ⊢
  have hl : lv_has ls 6 [(0, .ref h), (1, .int x), (2, .int y), (3, .int de), (4, .ref out)] := hl
  have hTab := vx_table (x := yL_scratch) B (hts (.codeWith yL_scratch cL_scratch 6 (some .int) [(0, 12, 15, 13), (0, 12, 19, 23), (0, 12, 23, 15)]) (by decide +kernel))
  have hR0b := hR0
  have hDrb := hDr
  have hN0b := hN0
  refine lv_aload hx hb dL_scratch_0 (lv_at hl 4 rfl) ?_
  refine lv_iconst (v := 0) hx hb dL_scratch_2 (by decide) ?_
  refine lv_aload_n hx hb dL_scratch_3 rfl (lv_at hl 0 rfl) ?_
  refine lv_iload_n hx hb dL_scratch_4 rfl (lv_at hl 1 rfl) ?_
  refine lv_iload_n hx hb dL_scratch_5 rfl (lv_at hl 2 rfl) ?_
  refine lv_iload_n hx hb dL_scratch_6 rfl (lv_at hl 3 rfl) ?_
  have hPc := (hP.app hR).sub (ws' := [(fil, .inr (5, [.int 0, .ref en.2.2.1, .int 0]))] ++ [(h, .inr (17, [.ref pal, .ref she, .ref fil, .ref nte, .ref dat, .ref vot, .ref loa, .ref nos, .ref pic, .ref spa, .int 5, .int 50, .int 1600, .int 0])), (pic, .inr (11, [.ref st, .ref sp, .ref ll, .int 0, .int 1600])), (st, .inl (cS, 48, .inr (.inr (.inr (.inr g)))))]) [0, 1, 2, 3] rfl
  have hDc := (en_DD hD hDr hN0 hAb).sub (ws' := [(fil, .inr (5, [.int 0, .ref en.2.2.1, .int 0]))] ++ [(h, .inr (17, [.ref pal, .ref she, .ref fil, .ref nte, .ref dat, .ref vot, .ref loa, .ref nos, .ref pic, .ref spa, .int 5, .int 50, .int 1600, .int 0])), (pic, .inr (11, [.ref st, .ref sp, .ref ll, .int 0, .int 1600])), (st, .inl (cS, 48, .inr (.inr (.inr (.inr g)))))]) [0, 1, 2, 3] (by decide) rfl
  have hKc := hK.sub (tys' := [(cS, .object "Underpaint$Stack")]) [0] rfl
  have hFc := va_free (wc := [(fil, .inr (5, [.int 0, .ref en.2.2.1, .int 0]))]) hD hS hA [0] rfl
  refine vx_calli (vx_runV (As := [.int x, .int y, .int de]) (rest := [.int 0, .ref out]) ⟨hx, hb, hml, hown, hts⟩ (c_X11_scratch l hst dC dI b0 en s.heap.size h pal she fil nte dat vot loa nos pic spa st sp ll g cS N x y de (fun a9 h9 => ⟨(hNb a9 h9).1, Nat.lt_of_lt_of_le (hNb a9 h9).2 hS.1⟩) (fun a9 h9 z9 => by have g1 := hNw a9 h9; have g2 := hNr a9 h9; have g3 := (hNb a9 h9).2; simp only [List.map_cons, List.map_nil, List.mem_cons, List.not_mem_nil, or_false, not_or] at g1 g2 z9 <;> omega) (fun a9 h9 z9 => by have g1 := hNw a9 h9; have g2 := hNr a9 h9; have g3 := (hNb a9 h9).2; simp only [List.map_cons, List.map_nil, List.mem_cons, List.not_mem_nil, or_false, not_or] at g1 g2 z9 <;> omega)) (cwV 3 hts go_c_L_scratch_0 rfl rfl rfl (by decide +kernel) ⟨Nat.le_of_ble_eq_true rfl, Nat.le_of_ble_eq_true rfl⟩) ⟨cP.blind, va_recv hK hR (ci := 17) (q0 := 0) rfl rfl, cP.use (en_z hb0 hS) (hE.on hAb hS) hPc hKc hDc (hF0.on (fun a9 h8 h9 => by rw [← hAe]; exact vA1 h8 (hNw a9 h9)) hS)⟩ rfl rfl hl.1 rfl (lv_room (Nat.le_of_ble_eq_true rfl)) dL_scratch_7 ⟨Nat.le_of_ble_eq_true rfl, Nat.le_of_ble_eq_true rfl⟩) hS (fun q _ h => hFc q h) hFc (fun q _ h => hFc q h) (fun E ce q9 u t H1 locs ht hvm hpx hBX hz1 hk1 hS hce hcv hcl => ?_) (fun r_1 u t H1 locs ht hvm hw hB hz1 hk1 hS => ?_)
  · skip
    try dsimp only at hBX
    rcases hBX with ⟨rfl, hc⟩ | ⟨rfl, hc⟩
    · skip
      have hP1 : va_P (dC, dI) vwCl [] H1 := fun k q h => by simp at h
      have hD1 : va_D (va_A [(fil, .inr (5, [.int 0, .ref en.2.2.1, .int 0]))] s.heap.size) [] := ⟨fun i j p q h => by simp at h, fun k q h => by simp at h⟩
      obtain ⟨hP, hD⟩ := va_join (wr := []) (w1 := []) hP hD [0] [] rfl rfl (by decide) (by decide) hk1 hFc hP1 hD1
      generalize H1 = H at hP hS hce ⊢
      have hP : va_P (dC, dI) vwCl [] H := hP
      have hD : va_D A [] := hD
      have hR := en_R hR0 hN0 hS
      refine vx_catch (own := RL) (name := "java/lang/IllegalArgumentException") (E := "java/lang/IllegalArgumentException") hown [] ⟨0, 12, 15, 13⟩ [⟨0, 12, 19, 23⟩, ⟨0, 12, 23, 15⟩] hTab (fun _ h9 => absurd h9 List.not_mem_nil) (by decide) (by decide) (hts (.classLink RL 13 "java/lang/IllegalArgumentException") (by decide +kernel)) (va_Nw.use rfl (hE.cast (by decide))) hce hcv hcl ?_
      refine lv_astore (lv' := [(5, .ref q9), (0, .ref h), (1, .int x), (2, .int y), (3, .int de), (4, .ref out)]) hx hb dL_scratch_15 hl (by decide) rfl (fun ls hl => ?_)
      refine lv_iconst (v := 1) hx hb dL_scratch_17 (by decide) ?_
      refine W.widen (k := 7) (n := 49) (Nat.le_of_ble_eq_true rfl) (Nat.le_of_ble_eq_true rfl) ?_
      refine vx_ret ?_
      exact W.iret (v := 1) hx hb hr (fun t ht hW => ⟨⟨1, (), rfl, (z_c_L_scratch_450 x y de hc), cB.mk ht hW (hP.sub [] rfl) (hK.sub [] rfl) (hD.sub [] (by decide) rfl) (trivial)⟩, hS.F ht⟩) hS.2.2 dL_scratch_18
    · skip
      have hP1 : va_P (dC, dI) vwCl [] H1 := fun k q h => by simp at h
      have hD1 : va_D (va_A [(fil, .inr (5, [.int 0, .ref en.2.2.1, .int 0]))] s.heap.size) [] := ⟨fun i j p q h => by simp at h, fun k q h => by simp at h⟩
      obtain ⟨hP, hD⟩ := va_join (wr := []) (w1 := []) hP hD [0] [] rfl rfl (by decide) (by decide) hk1 hFc hP1 hD1
      generalize H1 = H at hP hS hce ⊢
      have hP : va_P (dC, dI) vwCl [] H := hP
      have hD : va_D A [] := hD
      have hR := en_R hR0 hN0 hS
      refine vx_catch (own := RL) (name := "java/lang/UnsupportedOperationException") (E := "java/lang/UnsupportedOperationException") hown [⟨0, 12, 15, 13⟩] ⟨0, 12, 19, 23⟩ [⟨0, 12, 23, 15⟩] hTab (List.forall_mem_cons.mpr ⟨Or.inr ⟨by decide, "java/lang/IllegalArgumentException", hts (.classLink RL 13 "java/lang/IllegalArgumentException") (by decide +kernel), hE.nocast (by decide) (by decide) (by decide)⟩, (fun _ h9 => absurd h9 List.not_mem_nil)⟩) (by decide) (by decide) (hts (.classLink RL 23 "java/lang/UnsupportedOperationException") (by decide +kernel)) (va_Nw.use rfl (hE.cast (by decide))) hce hcv hcl ?_
      refine lv_astore (lv' := [(5, .ref q9), (0, .ref h), (1, .int x), (2, .int y), (3, .int de), (4, .ref out)]) hx hb dL_scratch_19 hl (by decide) rfl (fun ls hl => ?_)
      refine lv_iconst (v := 2) hx hb dL_scratch_21 (by decide) ?_
      refine W.widen (k := 7) (n := 49) (Nat.le_of_ble_eq_true rfl) (Nat.le_of_ble_eq_true rfl) ?_
      refine vx_ret ?_
      exact W.iret (v := 2) hx hb hr (fun t ht hW => ⟨⟨2, (), rfl, (z_c_L_scratch_451 x y de hc), cB.mk ht hW (hP.sub [] rfl) (hK.sub [] rfl) (hD.sub [] (by decide) rfl) (trivial)⟩, hS.F ht⟩) hS.2.2 dL_scratch_22
  exact (show False from hw).elim

set_option maxRecDepth 100000 in
theorem gw_wsX11_liesOver : wsX11_liesOver.all goodWord = true := by decide +kernel
def wo_c_L_liesOver_w : List Cond := [Cond.codeWith yL_liesOver cL_liesOver 5 (some .int) [(0, 17, 20, 21), (0, 17, 24, 37)], Cond.classLink RL 21 "java/lang/IndexOutOfBoundsException"]
def wo_c_L_liesOver : List Cond := .codeWith yL_liesOver cL_liesOver 5 (some .int) [(0, 17, 20, 21), (0, 17, 24, 37)] :: (wo_c_L_liesOver_w ++ (wsV RL 100 RX11 yX11_liesOver wsX11_liesOver ++ List.nil))
theorem gw_wo_c_L_liesOver : wo_c_L_liesOver.all goodWord = true := gw_c (by decide +kernel) (gw_a (by decide +kernel) (gw_a (gw_a (by decide +kernel) gw_wsX11_liesOver) rfl))
theorem go_c_L_liesOver_0 : GoodIn wo_c_L_liesOver (wsV RL 100 RX11 yX11_liesOver wsX11_liesOver) := goodIn_sub (fun _ h => List.mem_cons_of_mem _ (List.mem_append_right _ (List.mem_append_left _ h))) (gw_a (by decide +kernel) gw_wsX11_liesOver)
set_option maxHeartbeats 4000000 in
set_option maxRecDepth 100000 in
/-- the law: liesOver -/
theorem c_L_liesOver (l : Launch) (hst : l.stackTraces = false) (dC : Nat → ClassId) (dI : Nat → Nat → Nat) (b0 : Nat) (en : EnT) (sz : Nat) (h pal she fil nte dat vot loa nos pic spa st sp ll : Nat) (a b : Int32) (out : Nat) : vx_Met l yL_liesOver wo_c_L_liesOver ({ frames := 8, cells := 1, slots := 6, locals := 142 } : Room) (cP b0 en (dC, dI) [] [] [(h, .inr (17, [.ref pal, .ref she, .ref fil, .ref nte, .ref dat, .ref vot, .ref loa, .ref nos, .ref pic, .ref spa, .int 5, .int 50, .int 1600, .int 0])), (pic, .inr (11, [.ref st, .ref sp, .ref ll, .int 0, .int 1600]))] sz (fun _ => True) [.ref h, .int a, .int b, .ref out]) (va_Qi (fun (r : Int32) (u : Unit) => r = 1) (fun u t => cB (dC, dI) [] [] (va_A [] sz) (fun _ => True) t) (va_A [] sz)) (vx_X (fun _ : Unit => True) (fun E _ _ => (E = "none" ∧ False)) (va_A [] sz)) 1 6 (va_A [] sz) := by
  refine vx_ofWH (cc := cL_liesOver) (maxL := 5) (ret := (some .int)) (hh := [(0, 17, 20, 21), (0, 17, 24, 37)]) (by decide) rfl ?_
  intro p e s m args below meth c s₁ B hml hv
  obtain ⟨rfl, hsz, hb0, hE, hPP, hK, hDD, hF0⟩ := hv
  have hx := B.exec
  have hb := B.bytes
  have hr := B.returns
  have hts := atoms_spec (ws := wo_c_L_liesOver) B.pre
  have hown : s.vm.findClass RL = some m.cls := findClass_of_methodNamed B.named
  have hlocks := B.notSynchronized
  subst hsz
  have hN0 := en_N hPP hDD rfl
  have hP : va_P (dC, dI) vwCl [] s.heap := hPP.sub [] rfl
  have hR0 : va_P (dC, dI) vwCl [(h, .inr (17, [.ref pal, .ref she, .ref fil, .ref nte, .ref dat, .ref vot, .ref loa, .ref nos, .ref pic, .ref spa, .int 5, .int 50, .int 1600, .int 0])), (pic, .inr (11, [.ref st, .ref sp, .ref ll, .int 0, .int 1600]))] s.heap := hPP.sub [0, 1] rfl
  have hD0 : va_D (fun q => b0 ≤ q) [] := hDD.sub [] (by decide) rfl
  have hDr : va_D (fun q => b0 ≤ q) [(h, .inr (17, [.ref pal, .ref she, .ref fil, .ref nte, .ref dat, .ref vot, .ref loa, .ref nos, .ref pic, .ref spa, .int 5, .int 50, .int 1600, .int 0])), (pic, .inr (11, [.ref st, .ref sp, .ref ll, .int 0, .int 1600]))] := hDD.sub [0, 1] (by decide) rfl
  have hAb := en_A (sz := s.heap.size) hD0 hb0
  have hD := hD0.self (sz := s.heap.size)
  generalize hAe : va_A [] s.heap.size = A at hD hAb hN0 ⊢
  have hA : ∀ q : Nat, s.heap.size ≤ q → A q := fun q h => by rw [← hAe]; exact Or.inr h
  have hS : va_S A s.heap s.heap [] := va_S.rf
  have hR := hR0
  have hl := lv_entry [.ref h, .int a, .int b, .ref out] (n := 5) (Nat.le_of_ble_eq_true rfl)
  rw [lg_entry_eq]
  generalize (lg_sl [.ref h, .int a, .int b, .ref out] ++ List.replicate (5 - (lg_sl [.ref h, .int a, .int b, .ref out]).length) Slot.unset).toArray = ls at hl ⊢
  have hl : lv_has ls 5 [(0, .ref h), (1, .int a), (2, .int b), (3, .ref out)] := hl
  have hTab := vx_table (x := yL_liesOver) B (hts (.codeWith yL_liesOver cL_liesOver 5 (some .int) [(0, 17, 20, 21), (0, 17, 24, 37)]) (by decide +kernel))
  refine lv_aload_n hx hb dL_liesOver_0 rfl (lv_at hl 3 rfl) ?_
  refine lv_iconst (v := 0) hx hb dL_liesOver_1 (by decide) ?_
  refine lv_aload_n hx hb dL_liesOver_2 rfl (lv_at hl 0 rfl) ?_
  refine lv_iload_n hx hb dL_liesOver_3 rfl (lv_at hl 1 rfl) ?_
  refine lv_iload_n hx hb dL_liesOver_4 rfl (lv_at hl 2 rfl) ?_
  have hPc := (hP.app hR).sub (ws' := [] ++ [(h, .inr (17, [.ref pal, .ref she, .ref fil, .ref nte, .ref dat, .ref vot, .ref loa, .ref nos, .ref pic, .ref spa, .int 5, .int 50, .int 1600, .int 0])), (pic, .inr (11, [.ref st, .ref sp, .ref ll, .int 0, .int 1600]))]) [0, 1] rfl
  have hDc := (en_DD hD hDr hN0 hAb).sub (ws' := [] ++ [(h, .inr (17, [.ref pal, .ref she, .ref fil, .ref nte, .ref dat, .ref vot, .ref loa, .ref nos, .ref pic, .ref spa, .int 5, .int 50, .int 1600, .int 0])), (pic, .inr (11, [.ref st, .ref sp, .ref ll, .int 0, .int 1600]))]) [0, 1] (by decide) rfl
  have hKc := hK.sub (tys' := []) [] rfl
  have hFc := va_free (wc := []) hD hS hA [] rfl
  refine vx_calli (vx_runV (As := [.int a, .int b]) (rest := [.int 0, .ref out]) ⟨hx, hb, hml, hown, hts⟩ (c_X11_liesOver l hst dC dI b0 en s.heap.size h pal she fil nte dat vot loa nos pic spa st sp ll a b) (cwV 2 hts go_c_L_liesOver_0 rfl rfl rfl (by decide +kernel) ⟨Nat.le_of_ble_eq_true rfl, Nat.le_of_ble_eq_true rfl⟩) ⟨cP.blind, va_recv hK hR (ci := 17) (q0 := 0) rfl rfl, cP.use (en_z hb0 hS) (hE.on hAb hS) hPc hKc hDc trivial⟩ rfl rfl hl.1 rfl (lv_room (Nat.le_of_ble_eq_true rfl)) dL_liesOver_5 ⟨Nat.le_of_ble_eq_true rfl, Nat.le_of_ble_eq_true rfl⟩) hS (fun q _ h => hFc q h) hFc (fun q _ h => hFc q h) (fun E ce q9 u t H1 locs ht hvm hpx hBX hz1 hk1 hS hce hcv hcl => ?_) (fun r_1 u t H1 locs ht hvm hw hB hz1 hk1 hS => ?_)
  · skip
    try dsimp only at hBX
    obtain ⟨rfl, hc⟩ := hBX
    have hP1 : va_P (dC, dI) vwCl [] H1 := fun k q h => by simp at h
    have hD1 : va_D (va_A [] s.heap.size) [] := ⟨fun i j p q h => by simp at h, fun k q h => by simp at h⟩
    obtain ⟨hP, hD⟩ := va_join (wr := []) (w1 := []) hP hD [] [] rfl rfl (by decide) (by decide) hk1 hFc hP1 hD1
    generalize H1 = H at hP hS hce ⊢
    have hP : va_P (dC, dI) vwCl [] H := hP
    have hD : va_D A [] := hD
    have hR := en_R hR0 hN0 hS
    refine vx_catch (own := RL) (name := "java/lang/IndexOutOfBoundsException") (E := "java/lang/IndexOutOfBoundsException") hown [] ⟨0, 17, 20, 21⟩ [⟨0, 17, 24, 37⟩] hTab (fun _ h9 => absurd h9 List.not_mem_nil) (by decide) (by decide) (hts (.classLink RL 21 "java/lang/IndexOutOfBoundsException") (by decide +kernel)) (va_Nw.use rfl (hE.cast (by decide))) hce hcv hcl ?_
    refine lv_astore (lv' := [(4, .ref q9), (0, .ref h), (1, .int a), (2, .int b), (3, .ref out)]) hx hb dL_liesOver_20 hl (by decide) rfl (fun ls hl => ?_)
    refine lv_iconst (v := 1) hx hb dL_liesOver_22 (by decide) ?_
    refine W.widen (k := 1) (n := 6) (Nat.le_of_ble_eq_true rfl) (Nat.le_of_ble_eq_true rfl) ?_
    refine vx_ret ?_
    exact W.iret (v := 1) hx hb hr (fun t ht hW => ⟨⟨1, (), rfl, (z_c_L_clash_419 hc), cB.mk ht hW (hP.sub [] rfl) (hK.sub [] rfl) (hD.sub [] (by decide) rfl) (trivial)⟩, hS.F ht⟩) hS.2.2 dL_liesOver_23
  exact (show False from hw).elim

set_option maxRecDepth 100000 in
theorem gw_wsX11_later : wsX11_later.all goodWord = true := by decide +kernel
def wo_c_L_later_w : List Cond := [Cond.codeWith yL_later cL_later 5 (some .int) [(0, 10, 13, 21), (0, 10, 17, 23)], Cond.classLink RL 21 "java/lang/IndexOutOfBoundsException"]
def wo_c_L_later : List Cond := .codeWith yL_later cL_later 5 (some .int) [(0, 10, 13, 21), (0, 10, 17, 23)] :: (wo_c_L_later_w ++ (wsV RL 103 RX11 yX11_later wsX11_later ++ List.nil))
theorem gw_wo_c_L_later : wo_c_L_later.all goodWord = true := gw_c (by decide +kernel) (gw_a (by decide +kernel) (gw_a (gw_a (by decide +kernel) gw_wsX11_later) rfl))
theorem go_c_L_later_0 : GoodIn wo_c_L_later (wsV RL 103 RX11 yX11_later wsX11_later) := goodIn_sub (fun _ h => List.mem_cons_of_mem _ (List.mem_append_right _ (List.mem_append_left _ h))) (gw_a (by decide +kernel) gw_wsX11_later)
set_option maxHeartbeats 4000000 in
set_option maxRecDepth 100000 in
/-- the law: later -/
theorem c_L_later (l : Launch) (hst : l.stackTraces = false) (dC : Nat → ClassId) (dI : Nat → Nat → Nat) (b0 : Nat) (en : EnT) (sz : Nat) (h pal she fil nte dat vot loa nos pic spa st sp ll : Nat) (a b : Int32) (out : Nat) : vx_Met l yL_later wo_c_L_later ({ frames := 8, cells := 1, slots := 6, locals := 144 } : Room) (cP b0 en (dC, dI) [] [] [(h, .inr (17, [.ref pal, .ref she, .ref fil, .ref nte, .ref dat, .ref vot, .ref loa, .ref nos, .ref pic, .ref spa, .int 5, .int 50, .int 1600, .int 0])), (pic, .inr (11, [.ref st, .ref sp, .ref ll, .int 0, .int 1600]))] sz (fun _ => True) [.ref h, .int a, .int b, .ref out]) (va_Qi (fun (r : Int32) (u : Unit) => r = 1) (fun u t => cB (dC, dI) [] [] (va_A [] sz) (fun _ => True) t) (va_A [] sz)) (vx_X (fun _ : Unit => True) (fun E _ _ => (E = "none" ∧ False)) (va_A [] sz)) 1 6 (va_A [] sz) := by
  refine vx_ofWH (cc := cL_later) (maxL := 5) (ret := (some .int)) (hh := [(0, 10, 13, 21), (0, 10, 17, 23)]) (by decide) rfl ?_
  intro p e s m args below meth c s₁ B hml hv
  obtain ⟨rfl, hsz, hb0, hE, hPP, hK, hDD, hF0⟩ := hv
  have hx := B.exec
  have hb := B.bytes
  have hr := B.returns
  have hts := atoms_spec (ws := wo_c_L_later) B.pre
  have hown : s.vm.findClass RL = some m.cls := findClass_of_methodNamed B.named
  have hlocks := B.notSynchronized
  subst hsz
  have hN0 := en_N hPP hDD rfl
  have hP : va_P (dC, dI) vwCl [] s.heap := hPP.sub [] rfl
  have hR0 : va_P (dC, dI) vwCl [(h, .inr (17, [.ref pal, .ref she, .ref fil, .ref nte, .ref dat, .ref vot, .ref loa, .ref nos, .ref pic, .ref spa, .int 5, .int 50, .int 1600, .int 0])), (pic, .inr (11, [.ref st, .ref sp, .ref ll, .int 0, .int 1600]))] s.heap := hPP.sub [0, 1] rfl
  have hD0 : va_D (fun q => b0 ≤ q) [] := hDD.sub [] (by decide) rfl
  have hDr : va_D (fun q => b0 ≤ q) [(h, .inr (17, [.ref pal, .ref she, .ref fil, .ref nte, .ref dat, .ref vot, .ref loa, .ref nos, .ref pic, .ref spa, .int 5, .int 50, .int 1600, .int 0])), (pic, .inr (11, [.ref st, .ref sp, .ref ll, .int 0, .int 1600]))] := hDD.sub [0, 1] (by decide) rfl
  have hAb := en_A (sz := s.heap.size) hD0 hb0
  have hD := hD0.self (sz := s.heap.size)
  generalize hAe : va_A [] s.heap.size = A at hD hAb hN0 ⊢
  have hA : ∀ q : Nat, s.heap.size ≤ q → A q := fun q h => by rw [← hAe]; exact Or.inr h
  have hS : va_S A s.heap s.heap [] := va_S.rf
  have hR := hR0
  have hl := lv_entry [.ref h, .int a, .int b, .ref out] (n := 5) (Nat.le_of_ble_eq_true rfl)
  rw [lg_entry_eq]
  generalize (lg_sl [.ref h, .int a, .int b, .ref out] ++ List.replicate (5 - (lg_sl [.ref h, .int a, .int b, .ref out]).length) Slot.unset).toArray = ls at hl ⊢
  have hl : lv_has ls 5 [(0, .ref h), (1, .int a), (2, .int b), (3, .ref out)] := hl
  have hTab := vx_table (x := yL_later) B (hts (.codeWith yL_later cL_later 5 (some .int) [(0, 10, 13, 21), (0, 10, 17, 23)]) (by decide +kernel))
  refine lv_aload_n hx hb dL_later_0 rfl (lv_at hl 3 rfl) ?_
  refine lv_iconst (v := 0) hx hb dL_later_1 (by decide) ?_
  refine lv_aload_n hx hb dL_later_2 rfl (lv_at hl 0 rfl) ?_
  refine lv_iload_n hx hb dL_later_3 rfl (lv_at hl 1 rfl) ?_
  refine lv_iload_n hx hb dL_later_4 rfl (lv_at hl 2 rfl) ?_
  have hPc := (hP.app hR).sub (ws' := [] ++ [(h, .inr (17, [.ref pal, .ref she, .ref fil, .ref nte, .ref dat, .ref vot, .ref loa, .ref nos, .ref pic, .ref spa, .int 5, .int 50, .int 1600, .int 0])), (pic, .inr (11, [.ref st, .ref sp, .ref ll, .int 0, .int 1600]))]) [0, 1] rfl
  have hDc := (en_DD hD hDr hN0 hAb).sub (ws' := [] ++ [(h, .inr (17, [.ref pal, .ref she, .ref fil, .ref nte, .ref dat, .ref vot, .ref loa, .ref nos, .ref pic, .ref spa, .int 5, .int 50, .int 1600, .int 0])), (pic, .inr (11, [.ref st, .ref sp, .ref ll, .int 0, .int 1600]))]) [0, 1] (by decide) rfl
  have hKc := hK.sub (tys' := []) [] rfl
  have hFc := va_free (wc := []) hD hS hA [] rfl
  refine vx_calli (vx_runV (As := [.int a, .int b]) (rest := [.int 0, .ref out]) ⟨hx, hb, hml, hown, hts⟩ (c_X11_later l hst dC dI b0 en s.heap.size h pal she fil nte dat vot loa nos pic spa st sp ll a b) (cwV 2 hts go_c_L_later_0 rfl rfl rfl (by decide +kernel) ⟨Nat.le_of_ble_eq_true rfl, Nat.le_of_ble_eq_true rfl⟩) ⟨cP.blind, va_recv hK hR (ci := 17) (q0 := 0) rfl rfl, cP.use (en_z hb0 hS) (hE.on hAb hS) hPc hKc hDc trivial⟩ rfl rfl hl.1 rfl (lv_room (Nat.le_of_ble_eq_true rfl)) dL_later_5 ⟨Nat.le_of_ble_eq_true rfl, Nat.le_of_ble_eq_true rfl⟩) hS (fun q _ h => hFc q h) hFc (fun q _ h => hFc q h) (fun E ce q9 u t H1 locs ht hvm hpx hBX hz1 hk1 hS hce hcv hcl => ?_) (fun r_1 u t H1 locs ht hvm hw hB hz1 hk1 hS => ?_)
  · skip
    try dsimp only at hBX
    obtain ⟨rfl, hc⟩ := hBX
    have hP1 : va_P (dC, dI) vwCl [] H1 := fun k q h => by simp at h
    have hD1 : va_D (va_A [] s.heap.size) [] := ⟨fun i j p q h => by simp at h, fun k q h => by simp at h⟩
    obtain ⟨hP, hD⟩ := va_join (wr := []) (w1 := []) hP hD [] [] rfl rfl (by decide) (by decide) hk1 hFc hP1 hD1
    generalize H1 = H at hP hS hce ⊢
    have hP : va_P (dC, dI) vwCl [] H := hP
    have hD : va_D A [] := hD
    have hR := en_R hR0 hN0 hS
    refine vx_catch (own := RL) (name := "java/lang/IndexOutOfBoundsException") (E := "java/lang/IndexOutOfBoundsException") hown [] ⟨0, 10, 13, 21⟩ [⟨0, 10, 17, 23⟩] hTab (fun _ h9 => absurd h9 List.not_mem_nil) (by decide) (by decide) (hts (.classLink RL 21 "java/lang/IndexOutOfBoundsException") (by decide +kernel)) (va_Nw.use rfl (hE.cast (by decide))) hce hcv hcl ?_
    refine lv_astore (lv' := [(4, .ref q9), (0, .ref h), (1, .int a), (2, .int b), (3, .ref out)]) hx hb dL_later_13 hl (by decide) rfl (fun ls hl => ?_)
    refine lv_iconst (v := 1) hx hb dL_later_15 (by decide) ?_
    refine W.widen (k := 1) (n := 6) (Nat.le_of_ble_eq_true rfl) (Nat.le_of_ble_eq_true rfl) ?_
    refine vx_ret ?_
    exact W.iret (v := 1) hx hb hr (fun t ht hW => ⟨⟨1, (), rfl, (z_c_L_clash_419 hc), cB.mk ht hW (hP.sub [] rfl) (hK.sub [] rfl) (hD.sub [] (by decide) rfl) (trivial)⟩, hS.F ht⟩) hS.2.2 dL_later_16
  exact (show False from hw).elim
theorem z_c_L_solvent_452 (a : Int32) (b : Int32) (fo : Nat → Int64) (a_0 : ¬ ((1 ≤ a ∧ a ≤ 9) ∧ (1 ≤ b ∧ b ≤ 20))) : ((1 : Int32) = 0 ∧ fo 0 = (0 : Int32).toInt64 ∧ (1 ≤ a ∧ a ≤ 9) ∧ (1 ≤ b ∧ b ≤ 20)) ∨ ((1 : Int32) = 1 ∧ (¬ ((1 ≤ a ∧ a ≤ 9) ∧ (1 ≤ b ∧ b ≤ 20)))) := by grind
theorem z_c_L_solvent_453 (a : Int32) (b : Int32) (y_3 : Int64) (f_4 : Nat → Int64) (a_0 : (1 ≤ a ∧ a ≤ 9) ∧ (1 ≤ b ∧ b ≤ 20)) (a_1 : y_3 = (0 : Int32).toInt64) (a_2 : f_4 0 = y_3) : ((0 : Int32) = 0 ∧ f_4 0 = (0 : Int32).toInt64 ∧ (1 ≤ a ∧ a ≤ 9) ∧ (1 ≤ b ∧ b ≤ 20)) ∨ ((0 : Int32) = 1 ∧ (¬ ((1 ≤ a ∧ a ≤ 9) ∧ (1 ≤ b ∧ b ≤ 20)))) := by grind
def wo_c_L_solvent_w : List Cond := [Cond.codeWith yL_solvent cL_solvent 5 (some .int) [(0, 10, 13, 13), (0, 10, 17, 15)], Cond.classLink RL 13 "java/lang/IllegalArgumentException"]
def wo_c_L_solvent : List Cond := .codeWith yL_solvent cL_solvent 5 (some .int) [(0, 10, 13, 13), (0, 10, 17, 15)] :: (wo_c_L_solvent_w ++ (wsV RL 106 RX11 yX11_solvent wo_c_X11_solvent ++ List.nil))
theorem gw_wo_c_L_solvent : wo_c_L_solvent.all goodWord = true := gw_c (by decide +kernel) (gw_a (by decide +kernel) (gw_a (gw_a (by decide +kernel) gw_wo_c_X11_solvent) rfl))
theorem go_c_L_solvent_0 : GoodIn wo_c_L_solvent (wsV RL 106 RX11 yX11_solvent wo_c_X11_solvent) := goodIn_sub (fun _ h => List.mem_cons_of_mem _ (List.mem_append_right _ (List.mem_append_left _ h))) (gw_a (by decide +kernel) gw_wo_c_X11_solvent)
set_option maxHeartbeats 4000000 in
set_option maxRecDepth 100000 in
/-- the law: solvent -/
theorem c_L_solvent (l : Launch) (hst : l.stackTraces = false) (dC : Nat → ClassId) (dI : Nat → Nat → Nat) (b0 : Nat) (en : EnT) (sz : Nat) (h pal she fil nte dat vot loa nos pic spa : Nat) (a b : Int32) (out : Nat) (kO : ClassId) (fo : Nat → Int64) : vx_Met l yL_solvent wo_c_L_solvent ({ frames := 8, cells := 4, slots := 25, locals := 149 } : Room) (cP b0 en (dC, dI) [(kO, .long)] [(she, .inr (5, [.int 0, .ref en.2.2.1, .int 0])), (out, .inl (kO, 1, .inr (.inl fo)))] [(h, .inr (17, [.ref pal, .ref she, .ref fil, .ref nte, .ref dat, .ref vot, .ref loa, .ref nos, .ref pic, .ref spa, .int 5, .int 50, .int 1600, .int 0]))] sz (fun _ => True) [.ref h, .int a, .int b, .ref out]) (va_Qi (fun (r : Int32) (u : Nat → Int64) => (r = 0 ∧ u 0 = (0 : Int32).toInt64 ∧ (1 ≤ a ∧ a ≤ 9) ∧ (1 ≤ b ∧ b ≤ 20)) ∨ (r = 1 ∧ (¬ ((1 ≤ a ∧ a ≤ 9) ∧ (1 ≤ b ∧ b ≤ 20))))) (fun u t => cB (dC, dI) [] [(out, .inl (kO, 1, .inr (.inl u)))] (va_A [(she, .inr (5, [.int 0, .ref en.2.2.1, .int 0])), (out, .inl (kO, 1, .inr (.inl fo)))] sz) (fun _ => True) t) (va_A [(she, .inr (5, [.int 0, .ref en.2.2.1, .int 0])), (out, .inl (kO, 1, .inr (.inl fo)))] sz)) (vx_X (fun _ : Unit => True) (fun E _ _ => (E = "none" ∧ False)) (va_A [(she, .inr (5, [.int 0, .ref en.2.2.1, .int 0])), (out, .inl (kO, 1, .inr (.inl fo)))] sz)) 4 25 (va_A [(she, .inr (5, [.int 0, .ref en.2.2.1, .int 0])), (out, .inl (kO, 1, .inr (.inl fo)))] sz) := by
  refine vx_ofWH (cc := cL_solvent) (maxL := 5) (ret := (some .int)) (hh := [(0, 10, 13, 13), (0, 10, 17, 15)]) (by decide) rfl ?_
  intro p e s m args below meth c s₁ B hml hv
  obtain ⟨rfl, hsz, hb0, hE, hPP, hK, hDD, hF0⟩ := hv
  have hx := B.exec
  have hb := B.bytes
  have hr := B.returns
  have hts := atoms_spec (ws := wo_c_L_solvent) B.pre
  have hown : s.vm.findClass RL = some m.cls := findClass_of_methodNamed B.named
  have hlocks := B.notSynchronized
  subst hsz
  have hN0 := en_N hPP hDD rfl
  have hP : va_P (dC, dI) vwCl [(she, .inr (5, [.int 0, .ref en.2.2.1, .int 0])), (out, .inl (kO, 1, .inr (.inl fo)))] s.heap := hPP.sub [0, 1] rfl
  have hR0 : va_P (dC, dI) vwCl [(h, .inr (17, [.ref pal, .ref she, .ref fil, .ref nte, .ref dat, .ref vot, .ref loa, .ref nos, .ref pic, .ref spa, .int 5, .int 50, .int 1600, .int 0]))] s.heap := hPP.sub [2] rfl
  have hD0 : va_D (fun q => b0 ≤ q) [(she, .inr (5, [.int 0, .ref en.2.2.1, .int 0])), (out, .inl (kO, 1, .inr (.inl fo)))] := hDD.sub [0, 1] (by decide) rfl
  have hDr : va_D (fun q => b0 ≤ q) [(h, .inr (17, [.ref pal, .ref she, .ref fil, .ref nte, .ref dat, .ref vot, .ref loa, .ref nos, .ref pic, .ref spa, .int 5, .int 50, .int 1600, .int 0]))] := hDD.sub [2] (by decide) rfl
  have hAb := en_A (sz := s.heap.size) hD0 hb0
  have hD := hD0.self (sz := s.heap.size)
  generalize hAe : va_A [(she, .inr (5, [.int 0, .ref en.2.2.1, .int 0])), (out, .inl (kO, 1, .inr (.inl fo)))] s.heap.size = A at hD hAb hN0 ⊢
  have hA : ∀ q : Nat, s.heap.size ≤ q → A q := fun q h => by rw [← hAe]; exact Or.inr h
  have hS : va_S A s.heap s.heap [] := va_S.rf
  have hR := hR0
  have hl := lv_entry [.ref h, .int a, .int b, .ref out] (n := 5) (Nat.le_of_ble_eq_true rfl)
  rw [lg_entry_eq]
  generalize (lg_sl [.ref h, .int a, .int b, .ref out] ++ List.replicate (5 - (lg_sl [.ref h, .int a, .int b, .ref out]).length) Slot.unset).toArray = ls at hl ⊢
  have hl : lv_has ls 5 [(0, .ref h), (1, .int a), (2, .int b), (3, .ref out)] := hl
  have hTab := vx_table (x := yL_solvent) B (hts (.codeWith yL_solvent cL_solvent 5 (some .int) [(0, 10, 13, 13), (0, 10, 17, 15)]) (by decide +kernel))
  refine lv_aload_n hx hb dL_solvent_0 rfl (lv_at hl 3 rfl) ?_
  refine lv_iconst (v := 0) hx hb dL_solvent_1 (by decide) ?_
  refine lv_aload_n hx hb dL_solvent_2 rfl (lv_at hl 0 rfl) ?_
  refine lv_iload_n hx hb dL_solvent_3 rfl (lv_at hl 1 rfl) ?_
  refine lv_iload_n hx hb dL_solvent_4 rfl (lv_at hl 2 rfl) ?_
  have hPc := (hP.app hR).sub (ws' := [(she, .inr (5, [.int 0, .ref en.2.2.1, .int 0]))] ++ [(h, .inr (17, [.ref pal, .ref she, .ref fil, .ref nte, .ref dat, .ref vot, .ref loa, .ref nos, .ref pic, .ref spa, .int 5, .int 50, .int 1600, .int 0]))]) [0, 2] rfl
  have hDc := (en_DD hD hDr hN0 hAb).sub (ws' := [(she, .inr (5, [.int 0, .ref en.2.2.1, .int 0]))] ++ [(h, .inr (17, [.ref pal, .ref she, .ref fil, .ref nte, .ref dat, .ref vot, .ref loa, .ref nos, .ref pic, .ref spa, .int 5, .int 50, .int 1600, .int 0]))]) [0, 2] (by decide) rfl
  have hKc := hK.sub (tys' := []) [] rfl
  have hFc := va_free (wc := [(she, .inr (5, [.int 0, .ref en.2.2.1, .int 0]))]) hD hS hA [0] rfl
  refine vx_calli (vx_runV (As := [.int a, .int b]) (rest := [.int 0, .ref out]) ⟨hx, hb, hml, hown, hts⟩ (c_X11_solvent l hst dC dI b0 en s.heap.size h pal she fil nte dat vot loa nos pic spa a b) (cwV 2 hts go_c_L_solvent_0 rfl rfl rfl (by decide +kernel) ⟨Nat.le_of_ble_eq_true rfl, Nat.le_of_ble_eq_true rfl⟩) ⟨cP.blind, va_recv hK hR (ci := 17) (q0 := 0) rfl rfl, cP.use (en_z hb0 hS) (hE.on hAb hS) hPc hKc hDc trivial⟩ rfl rfl hl.1 rfl (lv_room (Nat.le_of_ble_eq_true rfl)) dL_solvent_5 ⟨Nat.le_of_ble_eq_true rfl, Nat.le_of_ble_eq_true rfl⟩) hS (fun q _ h => hFc q h) hFc (fun q _ h => hFc q h) (fun E ce q9 u t H1 locs ht hvm hpx hBX hz1 hk1 hS hce hcv hcl => ?_) (fun r_1 u t H1 locs ht hvm hw hB hz1 hk1 hS => ?_)
  · skip
    try dsimp only at hBX
    obtain ⟨rfl, hc⟩ := hBX
    have hP1 : va_P (dC, dI) vwCl [] H1 := fun k q h => by simp at h
    have hD1 : va_D (va_A [(she, .inr (5, [.int 0, .ref en.2.2.1, .int 0]))] s.heap.size) [] := ⟨fun i j p q h => by simp at h, fun k q h => by simp at h⟩
    obtain ⟨hP, hD⟩ := va_join (wr := [(out, .inl (kO, 1, .inr (.inl fo)))]) (w1 := []) hP hD [0] [1] rfl rfl (by decide) (by decide) hk1 hFc hP1 hD1
    generalize H1 = H at hP hS hce ⊢
    have hP : va_P (dC, dI) vwCl [(out, .inl (kO, 1, .inr (.inl fo)))] H := hP
    have hD : va_D A [(out, .inl (kO, 1, .inr (.inl fo)))] := hD
    have hR := en_R hR0 hN0 hS
    refine vx_catch (own := RL) (name := "java/lang/IllegalArgumentException") (E := "java/lang/IllegalArgumentException") hown [] ⟨0, 10, 13, 13⟩ [⟨0, 10, 17, 15⟩] hTab (fun _ h9 => absurd h9 List.not_mem_nil) (by decide) (by decide) (hts (.classLink RL 13 "java/lang/IllegalArgumentException") (by decide +kernel)) (va_Nw.use rfl (hE.cast (by decide))) hce hcv hcl ?_
    refine lv_astore (lv' := [(4, .ref q9), (0, .ref h), (1, .int a), (2, .int b), (3, .ref out)]) hx hb dL_solvent_13 hl (by decide) rfl (fun ls hl => ?_)
    refine lv_iconst (v := 1) hx hb dL_solvent_15 (by decide) ?_
    refine W.widen (k := 4) (n := 25) (Nat.le_of_ble_eq_true rfl) (Nat.le_of_ble_eq_true rfl) ?_
    refine vx_ret ?_
    exact W.iret (v := 1) hx hb hr (fun t ht hW => ⟨⟨1, fo, rfl, (z_c_L_solvent_452 a b fo hc), cB.mk ht hW (hP.sub [0] rfl) (hK.sub [] rfl) (hD.sub [0] (by decide) rfl) (trivial)⟩, hS.F ht⟩) hS.2.2 dL_solvent_16
  have hP1 : va_P (dC, dI) vwCl [] H1 := fun k q h => by simp at h
  have hD1 : va_D (va_A [(she, .inr (5, [.int 0, .ref en.2.2.1, .int 0]))] s.heap.size) [] := ⟨fun i j p q h => by simp at h, fun k q h => by simp at h⟩
  try dsimp only at hw
  obtain ⟨hP, hD⟩ := va_join (wr := [(out, .inl (kO, 1, .inr (.inl fo)))]) (w1 := []) hP hD [0] [1] rfl rfl (by decide) (by decide) hk1 hFc hP1 hD1
  generalize H1 = H at hP hS ⊢
  have hP : va_P (dC, dI) vwCl [(out, .inl (kO, 1, .inr (.inl fo)))] H := hP
  have hD : va_D A [(out, .inl (kO, 1, .inr (.inl fo)))] := hD
  have hR := en_R hR0 hN0 hS
  refine W.widen (k := 4) (n := 25) (Nat.le_of_ble_eq_true rfl) (Nat.le_of_ble_eq_true rfl) ?_
  obtain ⟨hw, h_2⟩ := hw
  subst r_1
  refine lv_i2l hx hb dL_solvent_8 rfl ?_
  refine lv_topl (fun y_3 ey_3 => ?_)
  refine va_last hx hb hK hP hD hS 0 0 rfl rfl (vp_in_nI (by decide : 0 < 1) (by decide)) dL_solvent_9 (fun H locs hP hD hS => ?_)
  generalize ef_4 : vp_updL fo (0 : Int32).toNatClampNeg y_3 = f_4 at hP hD
  have hP : va_P (dC, dI) vwCl [(out, .inl (kO, 1, .inr (.inl f_4)))] H := hP
  have hD : va_D A [(out, .inl (kO, 1, .inr (.inl f_4)))] := hD
  have hR := en_R hR0 hN0 hS
  have h_5 : f_4 0 = y_3 := by rw [← ef_4]; exact pk_uLs
  refine lv_goto (tgt := 21) hx hb dL_solvent_10 (by decide) ?_
  refine lv_iconst (v := 0) hx hb dL_solvent_21 (by decide) ?_
  refine W.widen (k := 4) (n := 25) (Nat.le_of_ble_eq_true rfl) (Nat.le_of_ble_eq_true rfl) ?_
  refine vx_ret ?_
  exact W.iret (v := 0) hx hb hr (fun t ht hW => ⟨⟨0, f_4, rfl, (z_c_L_solvent_453 a b y_3 f_4 h_2 ey_3 h_5), cB.mk ht hW (hP.sub [0] rfl) (hK.sub [] rfl) (hD.sub [0] (by decide) rfl) (trivial)⟩, hS.F ht⟩) hS.2.2 dL_solvent_22

set_option maxRecDepth 100000 in
theorem gw_wsX11_tested : wsX11_tested.all goodWord = true := by decide +kernel
def wo_c_L_tested_w : List Cond := [Cond.codeWith yL_tested cL_tested 4 (some .int) [(0, 9, 12, 21)], Cond.classLink RL 21 "java/lang/IndexOutOfBoundsException"]
def wo_c_L_tested : List Cond := .codeWith yL_tested cL_tested 4 (some .int) [(0, 9, 12, 21)] :: (wo_c_L_tested_w ++ (wsV RL 109 RX11 yX11_tested wsX11_tested ++ List.nil))
theorem gw_wo_c_L_tested : wo_c_L_tested.all goodWord = true := gw_c (by decide +kernel) (gw_a (by decide +kernel) (gw_a (gw_a (by decide +kernel) gw_wsX11_tested) rfl))
theorem go_c_L_tested_0 : GoodIn wo_c_L_tested (wsV RL 109 RX11 yX11_tested wsX11_tested) := goodIn_sub (fun _ h => List.mem_cons_of_mem _ (List.mem_append_right _ (List.mem_append_left _ h))) (gw_a (by decide +kernel) gw_wsX11_tested)
set_option maxHeartbeats 4000000 in
set_option maxRecDepth 100000 in
/-- the law: tested -/
theorem c_L_tested (l : Launch) (hst : l.stackTraces = false) (dC : Nat → ClassId) (dI : Nat → Nat → Nat) (b0 : Nat) (en : EnT) (sz : Nat) (h pal she fil nte dat vot loa nos pic spa : Nat) (ed : Nat) (a : Int32) (out : Nat) : vx_Met l yL_tested wo_c_L_tested ({ frames := 8, cells := 1, slots := 6, locals := 141 } : Room) (cP b0 en (dC, dI) [] [] [(h, .inr (17, [.ref pal, .ref she, .ref fil, .ref nte, .ref dat, .ref vot, .ref loa, .ref nos, .ref pic, .ref spa, .int 5, .int 50, .int 1600, .int 0])), (she, .inr (5, [.int 0, .ref ed, .int 0]))] sz (fun _ => True) [.ref h, .int a, .ref out]) (va_Qi (fun (r : Int32) (u : Unit) => r = 1) (fun u t => cB (dC, dI) [] [] (va_A [] sz) (fun _ => True) t) (va_A [] sz)) (vx_X (fun _ : Unit => True) (fun E _ _ => (E = "none" ∧ False)) (va_A [] sz)) 1 6 (va_A [] sz) := by
  refine vx_ofWH (cc := cL_tested) (maxL := 4) (ret := (some .int)) (hh := [(0, 9, 12, 21)]) (by decide) rfl ?_
  intro p e s m args below meth c s₁ B hml hv
  obtain ⟨rfl, hsz, hb0, hE, hPP, hK, hDD, hF0⟩ := hv
  have hx := B.exec
  have hb := B.bytes
  have hr := B.returns
  have hts := atoms_spec (ws := wo_c_L_tested) B.pre
  have hown : s.vm.findClass RL = some m.cls := findClass_of_methodNamed B.named
  have hlocks := B.notSynchronized
  subst hsz
  have hN0 := en_N hPP hDD rfl
  have hP : va_P (dC, dI) vwCl [] s.heap := hPP.sub [] rfl
  have hR0 : va_P (dC, dI) vwCl [(h, .inr (17, [.ref pal, .ref she, .ref fil, .ref nte, .ref dat, .ref vot, .ref loa, .ref nos, .ref pic, .ref spa, .int 5, .int 50, .int 1600, .int 0])), (she, .inr (5, [.int 0, .ref ed, .int 0]))] s.heap := hPP.sub [0, 1] rfl
  have hD0 : va_D (fun q => b0 ≤ q) [] := hDD.sub [] (by decide) rfl
  have hDr : va_D (fun q => b0 ≤ q) [(h, .inr (17, [.ref pal, .ref she, .ref fil, .ref nte, .ref dat, .ref vot, .ref loa, .ref nos, .ref pic, .ref spa, .int 5, .int 50, .int 1600, .int 0])), (she, .inr (5, [.int 0, .ref ed, .int 0]))] := hDD.sub [0, 1] (by decide) rfl
  have hAb := en_A (sz := s.heap.size) hD0 hb0
  have hD := hD0.self (sz := s.heap.size)
  generalize hAe : va_A [] s.heap.size = A at hD hAb hN0 ⊢
  have hA : ∀ q : Nat, s.heap.size ≤ q → A q := fun q h => by rw [← hAe]; exact Or.inr h
  have hS : va_S A s.heap s.heap [] := va_S.rf
  have hR := hR0
  have hl := lv_entry [.ref h, .int a, .ref out] (n := 4) (Nat.le_of_ble_eq_true rfl)
  rw [lg_entry_eq]
  generalize (lg_sl [.ref h, .int a, .ref out] ++ List.replicate (4 - (lg_sl [.ref h, .int a, .ref out]).length) Slot.unset).toArray = ls at hl ⊢
  have hl : lv_has ls 4 [(0, .ref h), (1, .int a), (2, .ref out)] := hl
  have hTab := vx_table (x := yL_tested) B (hts (.codeWith yL_tested cL_tested 4 (some .int) [(0, 9, 12, 21)]) (by decide +kernel))
  refine lv_aload_n hx hb dL_tested_0 rfl (lv_at hl 2 rfl) ?_
  refine lv_iconst (v := 0) hx hb dL_tested_1 (by decide) ?_
  refine lv_aload_n hx hb dL_tested_2 rfl (lv_at hl 0 rfl) ?_
  refine lv_iload_n hx hb dL_tested_3 rfl (lv_at hl 1 rfl) ?_
  have hPc := (hP.app hR).sub (ws' := [] ++ [(h, .inr (17, [.ref pal, .ref she, .ref fil, .ref nte, .ref dat, .ref vot, .ref loa, .ref nos, .ref pic, .ref spa, .int 5, .int 50, .int 1600, .int 0])), (she, .inr (5, [.int 0, .ref ed, .int 0]))]) [0, 1] rfl
  have hDc := (en_DD hD hDr hN0 hAb).sub (ws' := [] ++ [(h, .inr (17, [.ref pal, .ref she, .ref fil, .ref nte, .ref dat, .ref vot, .ref loa, .ref nos, .ref pic, .ref spa, .int 5, .int 50, .int 1600, .int 0])), (she, .inr (5, [.int 0, .ref ed, .int 0]))]) [0, 1] (by decide) rfl
  have hKc := hK.sub (tys' := []) [] rfl
  have hFc := va_free (wc := []) hD hS hA [] rfl
  refine vx_calli (vx_runV (As := [.int a]) (rest := [.int 0, .ref out]) ⟨hx, hb, hml, hown, hts⟩ (c_X11_tested l hst dC dI b0 en s.heap.size h pal she fil nte dat vot loa nos pic spa ed a) (cwV 1 hts go_c_L_tested_0 rfl rfl rfl (by decide +kernel) ⟨Nat.le_of_ble_eq_true rfl, Nat.le_of_ble_eq_true rfl⟩) ⟨cP.blind, va_recv hK hR (ci := 17) (q0 := 0) rfl rfl, cP.use (en_z hb0 hS) (hE.on hAb hS) hPc hKc hDc trivial⟩ rfl rfl hl.1 rfl (lv_room (Nat.le_of_ble_eq_true rfl)) dL_tested_4 ⟨Nat.le_of_ble_eq_true rfl, Nat.le_of_ble_eq_true rfl⟩) hS (fun q _ h => hFc q h) hFc (fun q _ h => hFc q h) (fun E ce q9 u t H1 locs ht hvm hpx hBX hz1 hk1 hS hce hcv hcl => ?_) (fun r_1 u t H1 locs ht hvm hw hB hz1 hk1 hS => ?_)
  · skip
    try dsimp only at hBX
    obtain ⟨rfl, hc⟩ := hBX
    have hP1 : va_P (dC, dI) vwCl [] H1 := fun k q h => by simp at h
    have hD1 : va_D (va_A [] s.heap.size) [] := ⟨fun i j p q h => by simp at h, fun k q h => by simp at h⟩
    obtain ⟨hP, hD⟩ := va_join (wr := []) (w1 := []) hP hD [] [] rfl rfl (by decide) (by decide) hk1 hFc hP1 hD1
    generalize H1 = H at hP hS hce ⊢
    have hP : va_P (dC, dI) vwCl [] H := hP
    have hD : va_D A [] := hD
    have hR := en_R hR0 hN0 hS
    refine vx_catch (own := RL) (name := "java/lang/IndexOutOfBoundsException") (E := "java/lang/IndexOutOfBoundsException") hown [] ⟨0, 9, 12, 21⟩ [] hTab (fun _ h9 => absurd h9 List.not_mem_nil) (by decide) (by decide) (hts (.classLink RL 21 "java/lang/IndexOutOfBoundsException") (by decide +kernel)) (va_Nw.use rfl (hE.cast (by decide))) hce hcv hcl ?_
    refine lv_astore_n (lv' := [(3, .ref q9), (0, .ref h), (1, .int a), (2, .ref out)]) hx hb dL_tested_12 rfl hl (by decide) rfl (fun ls hl => ?_)
    refine lv_iconst (v := 1) hx hb dL_tested_13 (by decide) ?_
    refine W.widen (k := 1) (n := 6) (Nat.le_of_ble_eq_true rfl) (Nat.le_of_ble_eq_true rfl) ?_
    refine vx_ret ?_
    exact W.iret (v := 1) hx hb hr (fun t ht hW => ⟨⟨1, (), rfl, (z_c_L_clash_419 hc), cB.mk ht hW (hP.sub [] rfl) (hK.sub [] rfl) (hD.sub [] (by decide) rfl) (trivial)⟩, hS.F ht⟩) hS.2.2 dL_tested_14
  exact (show False from hw).elim

set_option maxRecDepth 100000 in
theorem gw_wsX11_swab : wsX11_swab.all goodWord = true := by decide +kernel
def wo_c_L_swab_w : List Cond := [Cond.codeWith yL_swab cL_swab 7 (some .int) [(0, 14, 17, 21), (0, 14, 21, 13), (0, 14, 25, 23), (0, 14, 29, 15)], Cond.classLink RL 21 "java/lang/IndexOutOfBoundsException"]
def wo_c_L_swab : List Cond := .codeWith yL_swab cL_swab 7 (some .int) [(0, 14, 17, 21), (0, 14, 21, 13), (0, 14, 25, 23), (0, 14, 29, 15)] :: (wo_c_L_swab_w ++ (wsV RL 112 RX11 yX11_swab wsX11_swab ++ List.nil))
theorem gw_wo_c_L_swab : wo_c_L_swab.all goodWord = true := gw_c (by decide +kernel) (gw_a (by decide +kernel) (gw_a (gw_a (by decide +kernel) gw_wsX11_swab) rfl))
theorem go_c_L_swab_0 : GoodIn wo_c_L_swab (wsV RL 112 RX11 yX11_swab wsX11_swab) := goodIn_sub (fun _ h => List.mem_cons_of_mem _ (List.mem_append_right _ (List.mem_append_left _ h))) (gw_a (by decide +kernel) gw_wsX11_swab)
set_option maxHeartbeats 4000000 in
set_option maxRecDepth 100000 in
/-- the law: swab -/
theorem c_L_swab (l : Launch) (hst : l.stackTraces = false) (dC : Nat → ClassId) (dI : Nat → Nat → Nat) (b0 : Nat) (en : EnT) (sz : Nat) (h pal she fil nte dat vot loa nos pic spa : Nat) (ed : Nat) (a b cc1 d : Int32) (out : Nat) : vx_Met l yL_swab wo_c_L_swab ({ frames := 8, cells := 1, slots := 6, locals := 147 } : Room) (cP b0 en (dC, dI) [] [] [(h, .inr (17, [.ref pal, .ref she, .ref fil, .ref nte, .ref dat, .ref vot, .ref loa, .ref nos, .ref pic, .ref spa, .int 5, .int 50, .int 1600, .int 0])), (she, .inr (5, [.int 0, .ref ed, .int 0]))] sz (fun _ => True) [.ref h, .int a, .int b, .int cc1, .int d, .ref out]) (va_Qi (fun (r : Int32) (u : Unit) => r = 1) (fun u t => cB (dC, dI) [] [] (va_A [] sz) (fun _ => True) t) (va_A [] sz)) (vx_X (fun _ : Unit => True) (fun E _ _ => (E = "none" ∧ False)) (va_A [] sz)) 1 6 (va_A [] sz) := by
  refine vx_ofWH (cc := cL_swab) (maxL := 7) (ret := (some .int)) (hh := [(0, 14, 17, 21), (0, 14, 21, 13), (0, 14, 25, 23), (0, 14, 29, 15)]) (by decide) rfl ?_
  intro p e s m args below meth c s₁ B hml hv
  obtain ⟨rfl, hsz, hb0, hE, hPP, hK, hDD, hF0⟩ := hv
  have hx := B.exec
  have hb := B.bytes
  have hr := B.returns
  have hts := atoms_spec (ws := wo_c_L_swab) B.pre
  have hown : s.vm.findClass RL = some m.cls := findClass_of_methodNamed B.named
  have hlocks := B.notSynchronized
  subst hsz
  have hN0 := en_N hPP hDD rfl
  have hP : va_P (dC, dI) vwCl [] s.heap := hPP.sub [] rfl
  have hR0 : va_P (dC, dI) vwCl [(h, .inr (17, [.ref pal, .ref she, .ref fil, .ref nte, .ref dat, .ref vot, .ref loa, .ref nos, .ref pic, .ref spa, .int 5, .int 50, .int 1600, .int 0])), (she, .inr (5, [.int 0, .ref ed, .int 0]))] s.heap := hPP.sub [0, 1] rfl
  have hD0 : va_D (fun q => b0 ≤ q) [] := hDD.sub [] (by decide) rfl
  have hDr : va_D (fun q => b0 ≤ q) [(h, .inr (17, [.ref pal, .ref she, .ref fil, .ref nte, .ref dat, .ref vot, .ref loa, .ref nos, .ref pic, .ref spa, .int 5, .int 50, .int 1600, .int 0])), (she, .inr (5, [.int 0, .ref ed, .int 0]))] := hDD.sub [0, 1] (by decide) rfl
  have hAb := en_A (sz := s.heap.size) hD0 hb0
  have hD := hD0.self (sz := s.heap.size)
  generalize hAe : va_A [] s.heap.size = A at hD hAb hN0 ⊢
  have hA : ∀ q : Nat, s.heap.size ≤ q → A q := fun q h => by rw [← hAe]; exact Or.inr h
  have hS : va_S A s.heap s.heap [] := va_S.rf
  have hR := hR0
  have hl := lv_entry [.ref h, .int a, .int b, .int cc1, .int d, .ref out] (n := 7) (Nat.le_of_ble_eq_true rfl)
  rw [lg_entry_eq]
  generalize (lg_sl [.ref h, .int a, .int b, .int cc1, .int d, .ref out] ++ List.replicate (7 - (lg_sl [.ref h, .int a, .int b, .int cc1, .int d, .ref out]).length) Slot.unset).toArray = ls at hl ⊢
  have hl : lv_has ls 7 [(0, .ref h), (1, .int a), (2, .int b), (3, .int cc1), (4, .int d), (5, .ref out)] := hl
  have hTab := vx_table (x := yL_swab) B (hts (.codeWith yL_swab cL_swab 7 (some .int) [(0, 14, 17, 21), (0, 14, 21, 13), (0, 14, 25, 23), (0, 14, 29, 15)]) (by decide +kernel))
  refine lv_aload hx hb dL_swab_0 (lv_at hl 5 rfl) ?_
  refine lv_iconst (v := 0) hx hb dL_swab_2 (by decide) ?_
  refine lv_aload_n hx hb dL_swab_3 rfl (lv_at hl 0 rfl) ?_
  refine lv_iload_n hx hb dL_swab_4 rfl (lv_at hl 1 rfl) ?_
  refine lv_iload_n hx hb dL_swab_5 rfl (lv_at hl 2 rfl) ?_
  refine lv_iload_n hx hb dL_swab_6 rfl (lv_at hl 3 rfl) ?_
  refine lv_iload hx hb dL_swab_7 (lv_at hl 4 rfl) ?_
  have hPc := (hP.app hR).sub (ws' := [] ++ [(h, .inr (17, [.ref pal, .ref she, .ref fil, .ref nte, .ref dat, .ref vot, .ref loa, .ref nos, .ref pic, .ref spa, .int 5, .int 50, .int 1600, .int 0])), (she, .inr (5, [.int 0, .ref ed, .int 0]))]) [0, 1] rfl
  have hDc := (en_DD hD hDr hN0 hAb).sub (ws' := [] ++ [(h, .inr (17, [.ref pal, .ref she, .ref fil, .ref nte, .ref dat, .ref vot, .ref loa, .ref nos, .ref pic, .ref spa, .int 5, .int 50, .int 1600, .int 0])), (she, .inr (5, [.int 0, .ref ed, .int 0]))]) [0, 1] (by decide) rfl
  have hKc := hK.sub (tys' := []) [] rfl
  have hFc := va_free (wc := []) hD hS hA [] rfl
  refine vx_calli (vx_runV (As := [.int a, .int b, .int cc1, .int d]) (rest := [.int 0, .ref out]) ⟨hx, hb, hml, hown, hts⟩ (c_X11_swab l hst dC dI b0 en s.heap.size h pal she fil nte dat vot loa nos pic spa ed a b cc1 d) (cwV 4 hts go_c_L_swab_0 rfl rfl rfl (by decide +kernel) ⟨Nat.le_of_ble_eq_true rfl, Nat.le_of_ble_eq_true rfl⟩) ⟨cP.blind, va_recv hK hR (ci := 17) (q0 := 0) rfl rfl, cP.use (en_z hb0 hS) (hE.on hAb hS) hPc hKc hDc trivial⟩ rfl rfl hl.1 rfl (lv_room (Nat.le_of_ble_eq_true rfl)) dL_swab_9 ⟨Nat.le_of_ble_eq_true rfl, Nat.le_of_ble_eq_true rfl⟩) hS (fun q _ h => hFc q h) hFc (fun q _ h => hFc q h) (fun E ce q9 u t H1 locs ht hvm hpx hBX hz1 hk1 hS hce hcv hcl => ?_) (fun r_1 u t H1 locs ht hvm hw hB hz1 hk1 hS => ?_)
  · skip
    try dsimp only at hBX
    obtain ⟨rfl, hc⟩ := hBX
    have hP1 : va_P (dC, dI) vwCl [] H1 := fun k q h => by simp at h
    have hD1 : va_D (va_A [] s.heap.size) [] := ⟨fun i j p q h => by simp at h, fun k q h => by simp at h⟩
    obtain ⟨hP, hD⟩ := va_join (wr := []) (w1 := []) hP hD [] [] rfl rfl (by decide) (by decide) hk1 hFc hP1 hD1
    generalize H1 = H at hP hS hce ⊢
    have hP : va_P (dC, dI) vwCl [] H := hP
    have hD : va_D A [] := hD
    have hR := en_R hR0 hN0 hS
    refine vx_catch (own := RL) (name := "java/lang/IndexOutOfBoundsException") (E := "java/lang/IndexOutOfBoundsException") hown [] ⟨0, 14, 17, 21⟩ [⟨0, 14, 21, 13⟩, ⟨0, 14, 25, 23⟩, ⟨0, 14, 29, 15⟩] hTab (fun _ h9 => absurd h9 List.not_mem_nil) (by decide) (by decide) (hts (.classLink RL 21 "java/lang/IndexOutOfBoundsException") (by decide +kernel)) (va_Nw.use rfl (hE.cast (by decide))) hce hcv hcl ?_
    refine lv_astore (lv' := [(6, .ref q9), (0, .ref h), (1, .int a), (2, .int b), (3, .int cc1), (4, .int d), (5, .ref out)]) hx hb dL_swab_17 hl (by decide) rfl (fun ls hl => ?_)
    refine lv_iconst (v := 1) hx hb dL_swab_19 (by decide) ?_
    refine W.widen (k := 1) (n := 6) (Nat.le_of_ble_eq_true rfl) (Nat.le_of_ble_eq_true rfl) ?_
    refine vx_ret ?_
    exact W.iret (v := 1) hx hb hr (fun t ht hW => ⟨⟨1, (), rfl, (z_c_L_clash_419 hc), cB.mk ht hW (hP.sub [] rfl) (hK.sub [] rfl) (hD.sub [] (by decide) rfl) (trivial)⟩, hS.F ht⟩) hS.2.2 dL_swab_20
  exact (show False from hw).elim

set_option maxRecDepth 100000 in
theorem gw_wsX11_fill : wsX11_fill.all goodWord = true := by decide +kernel
def wo_c_L_fill_w : List Cond := [Cond.codeWith yL_fill cL_fill 6 (some .int) [(0, 12, 15, 21), (0, 12, 19, 13), (0, 12, 23, 23), (0, 12, 27, 15)], Cond.classLink RL 21 "java/lang/IndexOutOfBoundsException"]
def wo_c_L_fill : List Cond := .codeWith yL_fill cL_fill 6 (some .int) [(0, 12, 15, 21), (0, 12, 19, 13), (0, 12, 23, 23), (0, 12, 27, 15)] :: (wo_c_L_fill_w ++ (wsV RL 115 RX11 yX11_fill wsX11_fill ++ List.nil))
theorem gw_wo_c_L_fill : wo_c_L_fill.all goodWord = true := gw_c (by decide +kernel) (gw_a (by decide +kernel) (gw_a (gw_a (by decide +kernel) gw_wsX11_fill) rfl))
theorem go_c_L_fill_0 : GoodIn wo_c_L_fill (wsV RL 115 RX11 yX11_fill wsX11_fill) := goodIn_sub (fun _ h => List.mem_cons_of_mem _ (List.mem_append_right _ (List.mem_append_left _ h))) (gw_a (by decide +kernel) gw_wsX11_fill)
set_option maxHeartbeats 4000000 in
set_option maxRecDepth 100000 in
/-- the law: fill -/
theorem c_L_fill (l : Launch) (hst : l.stackTraces = false) (dC : Nat → ClassId) (dI : Nat → Nat → Nat) (b0 : Nat) (en : EnT) (sz : Nat) (h pal she fil nte dat vot loa nos pic spa : Nat) (ed : Nat) (a b cc1 : Int32) (out : Nat) : vx_Met l yL_fill wo_c_L_fill ({ frames := 8, cells := 1, slots := 6, locals := 143 } : Room) (cP b0 en (dC, dI) [] [] [(h, .inr (17, [.ref pal, .ref she, .ref fil, .ref nte, .ref dat, .ref vot, .ref loa, .ref nos, .ref pic, .ref spa, .int 5, .int 50, .int 1600, .int 0])), (pal, .inr (5, [.int 0, .ref ed, .int 0]))] sz (fun _ => True) [.ref h, .int a, .int b, .int cc1, .ref out]) (va_Qi (fun (r : Int32) (u : Unit) => r = 1) (fun u t => cB (dC, dI) [] [] (va_A [] sz) (fun _ => True) t) (va_A [] sz)) (vx_X (fun _ : Unit => True) (fun E _ _ => (E = "none" ∧ False)) (va_A [] sz)) 1 6 (va_A [] sz) := by
  refine vx_ofWH (cc := cL_fill) (maxL := 6) (ret := (some .int)) (hh := [(0, 12, 15, 21), (0, 12, 19, 13), (0, 12, 23, 23), (0, 12, 27, 15)]) (by decide) rfl ?_
  intro p e s m args below meth c s₁ B hml hv
  obtain ⟨rfl, hsz, hb0, hE, hPP, hK, hDD, hF0⟩ := hv
  have hx := B.exec
  have hb := B.bytes
  have hr := B.returns
  have hts := atoms_spec (ws := wo_c_L_fill) B.pre
  have hown : s.vm.findClass RL = some m.cls := findClass_of_methodNamed B.named
  have hlocks := B.notSynchronized
  subst hsz
  have hN0 := en_N hPP hDD rfl
  have hP : va_P (dC, dI) vwCl [] s.heap := hPP.sub [] rfl
  have hR0 : va_P (dC, dI) vwCl [(h, .inr (17, [.ref pal, .ref she, .ref fil, .ref nte, .ref dat, .ref vot, .ref loa, .ref nos, .ref pic, .ref spa, .int 5, .int 50, .int 1600, .int 0])), (pal, .inr (5, [.int 0, .ref ed, .int 0]))] s.heap := hPP.sub [0, 1] rfl
  have hD0 : va_D (fun q => b0 ≤ q) [] := hDD.sub [] (by decide) rfl
  have hDr : va_D (fun q => b0 ≤ q) [(h, .inr (17, [.ref pal, .ref she, .ref fil, .ref nte, .ref dat, .ref vot, .ref loa, .ref nos, .ref pic, .ref spa, .int 5, .int 50, .int 1600, .int 0])), (pal, .inr (5, [.int 0, .ref ed, .int 0]))] := hDD.sub [0, 1] (by decide) rfl
  have hAb := en_A (sz := s.heap.size) hD0 hb0
  have hD := hD0.self (sz := s.heap.size)
  generalize hAe : va_A [] s.heap.size = A at hD hAb hN0 ⊢
  have hA : ∀ q : Nat, s.heap.size ≤ q → A q := fun q h => by rw [← hAe]; exact Or.inr h
  have hS : va_S A s.heap s.heap [] := va_S.rf
  have hR := hR0
  have hl := lv_entry [.ref h, .int a, .int b, .int cc1, .ref out] (n := 6) (Nat.le_of_ble_eq_true rfl)
  rw [lg_entry_eq]
  generalize (lg_sl [.ref h, .int a, .int b, .int cc1, .ref out] ++ List.replicate (6 - (lg_sl [.ref h, .int a, .int b, .int cc1, .ref out]).length) Slot.unset).toArray = ls at hl ⊢
  have hl : lv_has ls 6 [(0, .ref h), (1, .int a), (2, .int b), (3, .int cc1), (4, .ref out)] := hl
  have hTab := vx_table (x := yL_fill) B (hts (.codeWith yL_fill cL_fill 6 (some .int) [(0, 12, 15, 21), (0, 12, 19, 13), (0, 12, 23, 23), (0, 12, 27, 15)]) (by decide +kernel))
  refine lv_aload hx hb dL_fill_0 (lv_at hl 4 rfl) ?_
  refine lv_iconst (v := 0) hx hb dL_fill_2 (by decide) ?_
  refine lv_aload_n hx hb dL_fill_3 rfl (lv_at hl 0 rfl) ?_
  refine lv_iload_n hx hb dL_fill_4 rfl (lv_at hl 1 rfl) ?_
  refine lv_iload_n hx hb dL_fill_5 rfl (lv_at hl 2 rfl) ?_
  refine lv_iload_n hx hb dL_fill_6 rfl (lv_at hl 3 rfl) ?_
  have hPc := (hP.app hR).sub (ws' := [] ++ [(h, .inr (17, [.ref pal, .ref she, .ref fil, .ref nte, .ref dat, .ref vot, .ref loa, .ref nos, .ref pic, .ref spa, .int 5, .int 50, .int 1600, .int 0])), (pal, .inr (5, [.int 0, .ref ed, .int 0]))]) [0, 1] rfl
  have hDc := (en_DD hD hDr hN0 hAb).sub (ws' := [] ++ [(h, .inr (17, [.ref pal, .ref she, .ref fil, .ref nte, .ref dat, .ref vot, .ref loa, .ref nos, .ref pic, .ref spa, .int 5, .int 50, .int 1600, .int 0])), (pal, .inr (5, [.int 0, .ref ed, .int 0]))]) [0, 1] (by decide) rfl
  have hKc := hK.sub (tys' := []) [] rfl
  have hFc := va_free (wc := []) hD hS hA [] rfl
  refine vx_calli (vx_runV (As := [.int a, .int b, .int cc1]) (rest := [.int 0, .ref out]) ⟨hx, hb, hml, hown, hts⟩ (c_X11_fill l hst dC dI b0 en s.heap.size h pal she fil nte dat vot loa nos pic spa ed a b cc1) (cwV 3 hts go_c_L_fill_0 rfl rfl rfl (by decide +kernel) ⟨Nat.le_of_ble_eq_true rfl, Nat.le_of_ble_eq_true rfl⟩) ⟨cP.blind, va_recv hK hR (ci := 17) (q0 := 0) rfl rfl, cP.use (en_z hb0 hS) (hE.on hAb hS) hPc hKc hDc trivial⟩ rfl rfl hl.1 rfl (lv_room (Nat.le_of_ble_eq_true rfl)) dL_fill_7 ⟨Nat.le_of_ble_eq_true rfl, Nat.le_of_ble_eq_true rfl⟩) hS (fun q _ h => hFc q h) hFc (fun q _ h => hFc q h) (fun E ce q9 u t H1 locs ht hvm hpx hBX hz1 hk1 hS hce hcv hcl => ?_) (fun r_1 u t H1 locs ht hvm hw hB hz1 hk1 hS => ?_)
  · skip
    try dsimp only at hBX
    obtain ⟨rfl, hc⟩ := hBX
    have hP1 : va_P (dC, dI) vwCl [] H1 := fun k q h => by simp at h
    have hD1 : va_D (va_A [] s.heap.size) [] := ⟨fun i j p q h => by simp at h, fun k q h => by simp at h⟩
    obtain ⟨hP, hD⟩ := va_join (wr := []) (w1 := []) hP hD [] [] rfl rfl (by decide) (by decide) hk1 hFc hP1 hD1
    generalize H1 = H at hP hS hce ⊢
    have hP : va_P (dC, dI) vwCl [] H := hP
    have hD : va_D A [] := hD
    have hR := en_R hR0 hN0 hS
    refine vx_catch (own := RL) (name := "java/lang/IndexOutOfBoundsException") (E := "java/lang/IndexOutOfBoundsException") hown [] ⟨0, 12, 15, 21⟩ [⟨0, 12, 19, 13⟩, ⟨0, 12, 23, 23⟩, ⟨0, 12, 27, 15⟩] hTab (fun _ h9 => absurd h9 List.not_mem_nil) (by decide) (by decide) (hts (.classLink RL 21 "java/lang/IndexOutOfBoundsException") (by decide +kernel)) (va_Nw.use rfl (hE.cast (by decide))) hce hcv hcl ?_
    refine lv_astore (lv' := [(5, .ref q9), (0, .ref h), (1, .int a), (2, .int b), (3, .int cc1), (4, .ref out)]) hx hb dL_fill_15 hl (by decide) rfl (fun ls hl => ?_)
    refine lv_iconst (v := 1) hx hb dL_fill_17 (by decide) ?_
    refine W.widen (k := 1) (n := 6) (Nat.le_of_ble_eq_true rfl) (Nat.le_of_ble_eq_true rfl) ?_
    refine vx_ret ?_
    exact W.iret (v := 1) hx hb hr (fun t ht hW => ⟨⟨1, (), rfl, (z_c_L_clash_419 hc), cB.mk ht hW (hP.sub [] rfl) (hK.sub [] rfl) (hD.sub [] (by decide) rfl) (trivial)⟩, hS.F ht⟩) hS.2.2 dL_fill_18
  exact (show False from hw).elim

set_option maxRecDepth 100000 in
theorem gw_wsX11_retouch : wsX11_retouch.all goodWord = true := by decide +kernel
def wo_c_L_retouch_w : List Cond := [Cond.codeWith yL_retouch cL_retouch 7 (some .int) [(0, 14, 17, 21), (0, 14, 21, 13), (0, 14, 25, 23), (0, 14, 29, 15)], Cond.classLink RL 21 "java/lang/IndexOutOfBoundsException"]
def wo_c_L_retouch : List Cond := .codeWith yL_retouch cL_retouch 7 (some .int) [(0, 14, 17, 21), (0, 14, 21, 13), (0, 14, 25, 23), (0, 14, 29, 15)] :: (wo_c_L_retouch_w ++ (wsV RL 118 RX11 yX11_retouch wsX11_retouch ++ List.nil))
theorem gw_wo_c_L_retouch : wo_c_L_retouch.all goodWord = true := gw_c (by decide +kernel) (gw_a (by decide +kernel) (gw_a (gw_a (by decide +kernel) gw_wsX11_retouch) rfl))
theorem go_c_L_retouch_0 : GoodIn wo_c_L_retouch (wsV RL 118 RX11 yX11_retouch wsX11_retouch) := goodIn_sub (fun _ h => List.mem_cons_of_mem _ (List.mem_append_right _ (List.mem_append_left _ h))) (gw_a (by decide +kernel) gw_wsX11_retouch)
set_option maxHeartbeats 4000000 in
set_option maxRecDepth 100000 in
/-- the law: retouch -/
theorem c_L_retouch (l : Launch) (hst : l.stackTraces = false) (dC : Nat → ClassId) (dI : Nat → Nat → Nat) (b0 : Nat) (en : EnT) (sz : Nat) (h pal she fil nte dat vot loa nos pic spa : Nat) (ed : Nat) (a b cc1 d : Int32) (out : Nat) : vx_Met l yL_retouch wo_c_L_retouch ({ frames := 8, cells := 1, slots := 6, locals := 144 } : Room) (cP b0 en (dC, dI) [] [] [(h, .inr (17, [.ref pal, .ref she, .ref fil, .ref nte, .ref dat, .ref vot, .ref loa, .ref nos, .ref pic, .ref spa, .int 5, .int 50, .int 1600, .int 0])), (pal, .inr (5, [.int 0, .ref ed, .int 0]))] sz (fun _ => True) [.ref h, .int a, .int b, .int cc1, .int d, .ref out]) (va_Qi (fun (r : Int32) (u : Unit) => r = 1) (fun u t => cB (dC, dI) [] [] (va_A [] sz) (fun _ => True) t) (va_A [] sz)) (vx_X (fun _ : Unit => True) (fun E _ _ => (E = "none" ∧ False)) (va_A [] sz)) 1 6 (va_A [] sz) := by
  refine vx_ofWH (cc := cL_retouch) (maxL := 7) (ret := (some .int)) (hh := [(0, 14, 17, 21), (0, 14, 21, 13), (0, 14, 25, 23), (0, 14, 29, 15)]) (by decide) rfl ?_
  intro p e s m args below meth c s₁ B hml hv
  obtain ⟨rfl, hsz, hb0, hE, hPP, hK, hDD, hF0⟩ := hv
  have hx := B.exec
  have hb := B.bytes
  have hr := B.returns
  have hts := atoms_spec (ws := wo_c_L_retouch) B.pre
  have hown : s.vm.findClass RL = some m.cls := findClass_of_methodNamed B.named
  have hlocks := B.notSynchronized
  subst hsz
  have hN0 := en_N hPP hDD rfl
  have hP : va_P (dC, dI) vwCl [] s.heap := hPP.sub [] rfl
  have hR0 : va_P (dC, dI) vwCl [(h, .inr (17, [.ref pal, .ref she, .ref fil, .ref nte, .ref dat, .ref vot, .ref loa, .ref nos, .ref pic, .ref spa, .int 5, .int 50, .int 1600, .int 0])), (pal, .inr (5, [.int 0, .ref ed, .int 0]))] s.heap := hPP.sub [0, 1] rfl
  have hD0 : va_D (fun q => b0 ≤ q) [] := hDD.sub [] (by decide) rfl
  have hDr : va_D (fun q => b0 ≤ q) [(h, .inr (17, [.ref pal, .ref she, .ref fil, .ref nte, .ref dat, .ref vot, .ref loa, .ref nos, .ref pic, .ref spa, .int 5, .int 50, .int 1600, .int 0])), (pal, .inr (5, [.int 0, .ref ed, .int 0]))] := hDD.sub [0, 1] (by decide) rfl
  have hAb := en_A (sz := s.heap.size) hD0 hb0
  have hD := hD0.self (sz := s.heap.size)
  generalize hAe : va_A [] s.heap.size = A at hD hAb hN0 ⊢
  have hA : ∀ q : Nat, s.heap.size ≤ q → A q := fun q h => by rw [← hAe]; exact Or.inr h
  have hS : va_S A s.heap s.heap [] := va_S.rf
  have hR := hR0
  have hl := lv_entry [.ref h, .int a, .int b, .int cc1, .int d, .ref out] (n := 7) (Nat.le_of_ble_eq_true rfl)
  rw [lg_entry_eq]
  generalize (lg_sl [.ref h, .int a, .int b, .int cc1, .int d, .ref out] ++ List.replicate (7 - (lg_sl [.ref h, .int a, .int b, .int cc1, .int d, .ref out]).length) Slot.unset).toArray = ls at hl ⊢
  have hl : lv_has ls 7 [(0, .ref h), (1, .int a), (2, .int b), (3, .int cc1), (4, .int d), (5, .ref out)] := hl
  have hTab := vx_table (x := yL_retouch) B (hts (.codeWith yL_retouch cL_retouch 7 (some .int) [(0, 14, 17, 21), (0, 14, 21, 13), (0, 14, 25, 23), (0, 14, 29, 15)]) (by decide +kernel))
  refine lv_aload hx hb dL_retouch_0 (lv_at hl 5 rfl) ?_
  refine lv_iconst (v := 0) hx hb dL_retouch_2 (by decide) ?_
  refine lv_aload_n hx hb dL_retouch_3 rfl (lv_at hl 0 rfl) ?_
  refine lv_iload_n hx hb dL_retouch_4 rfl (lv_at hl 1 rfl) ?_
  refine lv_iload_n hx hb dL_retouch_5 rfl (lv_at hl 2 rfl) ?_
  refine lv_iload_n hx hb dL_retouch_6 rfl (lv_at hl 3 rfl) ?_
  refine lv_iload hx hb dL_retouch_7 (lv_at hl 4 rfl) ?_
  have hPc := (hP.app hR).sub (ws' := [] ++ [(h, .inr (17, [.ref pal, .ref she, .ref fil, .ref nte, .ref dat, .ref vot, .ref loa, .ref nos, .ref pic, .ref spa, .int 5, .int 50, .int 1600, .int 0])), (pal, .inr (5, [.int 0, .ref ed, .int 0]))]) [0, 1] rfl
  have hDc := (en_DD hD hDr hN0 hAb).sub (ws' := [] ++ [(h, .inr (17, [.ref pal, .ref she, .ref fil, .ref nte, .ref dat, .ref vot, .ref loa, .ref nos, .ref pic, .ref spa, .int 5, .int 50, .int 1600, .int 0])), (pal, .inr (5, [.int 0, .ref ed, .int 0]))]) [0, 1] (by decide) rfl
  have hKc := hK.sub (tys' := []) [] rfl
  have hFc := va_free (wc := []) hD hS hA [] rfl
  refine vx_calli (vx_runV (As := [.int a, .int b, .int cc1, .int d]) (rest := [.int 0, .ref out]) ⟨hx, hb, hml, hown, hts⟩ (c_X11_retouch l hst dC dI b0 en s.heap.size h pal she fil nte dat vot loa nos pic spa ed a b cc1 d) (cwV 4 hts go_c_L_retouch_0 rfl rfl rfl (by decide +kernel) ⟨Nat.le_of_ble_eq_true rfl, Nat.le_of_ble_eq_true rfl⟩) ⟨cP.blind, va_recv hK hR (ci := 17) (q0 := 0) rfl rfl, cP.use (en_z hb0 hS) (hE.on hAb hS) hPc hKc hDc trivial⟩ rfl rfl hl.1 rfl (lv_room (Nat.le_of_ble_eq_true rfl)) dL_retouch_9 ⟨Nat.le_of_ble_eq_true rfl, Nat.le_of_ble_eq_true rfl⟩) hS (fun q _ h => hFc q h) hFc (fun q _ h => hFc q h) (fun E ce q9 u t H1 locs ht hvm hpx hBX hz1 hk1 hS hce hcv hcl => ?_) (fun r_1 u t H1 locs ht hvm hw hB hz1 hk1 hS => ?_)
  · skip
    try dsimp only at hBX
    obtain ⟨rfl, hc⟩ := hBX
    have hP1 : va_P (dC, dI) vwCl [] H1 := fun k q h => by simp at h
    have hD1 : va_D (va_A [] s.heap.size) [] := ⟨fun i j p q h => by simp at h, fun k q h => by simp at h⟩
    obtain ⟨hP, hD⟩ := va_join (wr := []) (w1 := []) hP hD [] [] rfl rfl (by decide) (by decide) hk1 hFc hP1 hD1
    generalize H1 = H at hP hS hce ⊢
    have hP : va_P (dC, dI) vwCl [] H := hP
    have hD : va_D A [] := hD
    have hR := en_R hR0 hN0 hS
    refine vx_catch (own := RL) (name := "java/lang/IndexOutOfBoundsException") (E := "java/lang/IndexOutOfBoundsException") hown [] ⟨0, 14, 17, 21⟩ [⟨0, 14, 21, 13⟩, ⟨0, 14, 25, 23⟩, ⟨0, 14, 29, 15⟩] hTab (fun _ h9 => absurd h9 List.not_mem_nil) (by decide) (by decide) (hts (.classLink RL 21 "java/lang/IndexOutOfBoundsException") (by decide +kernel)) (va_Nw.use rfl (hE.cast (by decide))) hce hcv hcl ?_
    refine lv_astore (lv' := [(6, .ref q9), (0, .ref h), (1, .int a), (2, .int b), (3, .int cc1), (4, .int d), (5, .ref out)]) hx hb dL_retouch_17 hl (by decide) rfl (fun ls hl => ?_)
    refine lv_iconst (v := 1) hx hb dL_retouch_19 (by decide) ?_
    refine W.widen (k := 1) (n := 6) (Nat.le_of_ble_eq_true rfl) (Nat.le_of_ble_eq_true rfl) ?_
    refine vx_ret ?_
    exact W.iret (v := 1) hx hb hr (fun t ht hW => ⟨⟨1, (), rfl, (z_c_L_clash_419 hc), cB.mk ht hW (hP.sub [] rfl) (hK.sub [] rfl) (hD.sub [] (by decide) rfl) (trivial)⟩, hS.F ht⟩) hS.2.2 dL_retouch_20
  exact (show False from hw).elim
