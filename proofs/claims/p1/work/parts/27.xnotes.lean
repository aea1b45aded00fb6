theorem dX4_has_0 : decode cX4_has 0 = .ok (.aload_n 0, 1) := by decide +kernel
theorem dX4_has_1 : decode cX4_has 1 = .ok (.getfield 9, 3) := by decide +kernel
theorem dX4_has_4 : decode cX4_has 4 = .ok (.iload_n 1, 1) := by decide +kernel
theorem dX4_has_5 : decode cX4_has 5 = .ok (.bipush 48, 2) := by decide +kernel
theorem dX4_has_7 : decode cX4_has 7 = .ok (.imul, 1) := by decide +kernel
theorem dX4_has_8 : decode cX4_has 8 = .ok (.iload_n 2, 1) := by decide +kernel
theorem dX4_has_9 : decode cX4_has 9 = .ok (.iadd, 1) := by decide +kernel
theorem dX4_has_10 : decode cX4_has 10 = .ok (.baload, 1) := by decide +kernel
theorem dX4_has_11 : decode cX4_has 11 = .ok (.ireturn, 1) := by decide +kernel
theorem dX4_keep_0 : decode cX4_keep 0 = .ok (.aload_n 0, 1) := by decide +kernel
theorem dX4_keep_1 : decode cX4_keep 1 = .ok (.getfield 9, 3) := by decide +kernel
theorem dX4_keep_4 : decode cX4_keep 4 = .ok (.iload_n 1, 1) := by decide +kernel
theorem dX4_keep_5 : decode cX4_keep 5 = .ok (.bipush 48, 2) := by decide +kernel
theorem dX4_keep_7 : decode cX4_keep 7 = .ok (.imul, 1) := by decide +kernel
theorem dX4_keep_8 : decode cX4_keep 8 = .ok (.iload_n 2, 1) := by decide +kernel
theorem dX4_keep_9 : decode cX4_keep 9 = .ok (.iadd, 1) := by decide +kernel
theorem dX4_keep_10 : decode cX4_keep 10 = .ok (.iconst 1, 1) := by decide +kernel
theorem dX4_keep_11 : decode cX4_keep 11 = .ok (.bastore, 1) := by decide +kernel
theorem dX4_keep_12 : decode cX4_keep 12 = .ok (.aload_n 0, 1) := by decide +kernel
theorem dX4_keep_13 : decode cX4_keep 13 = .ok (.getfield 15, 3) := by decide +kernel
theorem dX4_keep_16 : decode cX4_keep 16 = .ok (.iload_n 1, 1) := by decide +kernel
theorem dX4_keep_17 : decode cX4_keep 17 = .ok (.bipush 48, 2) := by decide +kernel
theorem dX4_keep_19 : decode cX4_keep 19 = .ok (.imul, 1) := by decide +kernel
theorem dX4_keep_20 : decode cX4_keep 20 = .ok (.iload_n 2, 1) := by decide +kernel
theorem dX4_keep_21 : decode cX4_keep 21 = .ok (.iadd, 1) := by decide +kernel
theorem dX4_keep_22 : decode cX4_keep 22 = .ok (.iload_n 3, 1) := by decide +kernel
theorem dX4_keep_23 : decode cX4_keep 23 = .ok (.iastore, 1) := by decide +kernel
theorem dX4_keep_24 : decode cX4_keep 24 = .ok (.return_, 1) := by decide +kernel
theorem dX4_match_0 : decode cX4_match 0 = .ok (.iconst 0, 1) := by decide +kernel
theorem dX4_match_1 : decode cX4_match 1 = .ok (.istore_n 3, 1) := by decide +kernel
theorem dX4_match_2 : decode cX4_match 2 = .ok (.iload_n 3, 1) := by decide +kernel
theorem dX4_match_3 : decode cX4_match 3 = .ok (.iconst 4, 1) := by decide +kernel
theorem dX4_match_4 : decode cX4_match 4 = .ok (.if_icmp .ge 52, 3) := by decide +kernel
theorem dX4_match_7 : decode cX4_match 7 = .ok (.iload_n 3, 1) := by decide +kernel
theorem dX4_match_8 : decode cX4_match 8 = .ok (.iconst 1, 1) := by decide +kernel
theorem dX4_match_9 : decode cX4_match 9 = .ok (.if_icmp .gt 7, 3) := by decide +kernel
theorem dX4_match_12 : decode cX4_match 12 = .ok (.iconst 5, 1) := by decide +kernel
theorem dX4_match_13 : decode cX4_match 13 = .ok (.goto 4, 3) := by decide +kernel
theorem dX4_match_17 : decode cX4_match 17 = .ok (.istore 4, 2) := by decide +kernel
theorem dX4_match_19 : decode cX4_match 19 = .ok (.aload_n 0, 1) := by decide +kernel
theorem dX4_match_20 : decode cX4_match 20 = .ok (.iload_n 3, 1) := by decide +kernel
theorem dX4_match_21 : decode cX4_match 21 = .ok (.iload_n 1, 1) := by decide +kernel
theorem dX4_match_22 : decode cX4_match 22 = .ok (.invokevirtual 33, 3) := by decide +kernel
theorem dX4_match_25 : decode cX4_match 25 = .ok (.ifCond .eq 25, 3) := by decide +kernel
theorem dX4_match_50 : decode cX4_match 50 = .ok (.iinc 3 1, 3) := by decide +kernel
theorem dX4_match_53 : decode cX4_match 53 = .ok (.goto (-51), 3) := by decide +kernel
theorem dX4_match_16 : decode cX4_match 16 = .ok (.iconst 0, 1) := by decide +kernel
theorem dX4_match_56 : decode cX4_match 56 = .ok (.iconst 1, 1) := by decide +kernel
theorem dX4_match_57 : decode cX4_match 57 = .ok (.ireturn, 1) := by decide +kernel
theorem dX4_countGuesses_0 : decode cX4_countGuesses 0 = .ok (.aload_n 0, 1) := by decide +kernel
theorem dX4_countGuesses_1 : decode cX4_countGuesses 1 = .ok (.iconst 0, 1) := by decide +kernel
theorem dX4_countGuesses_2 : decode cX4_countGuesses 2 = .ok (.putfield 50, 3) := by decide +kernel
theorem dX4_countGuesses_5 : decode cX4_countGuesses 5 = .ok (.iconst 1, 1) := by decide +kernel
theorem dX4_countGuesses_6 : decode cX4_countGuesses 6 = .ok (.istore 4, 2) := by decide +kernel
theorem dX4_countGuesses_8 : decode cX4_countGuesses 8 = .ok (.iload 4, 2) := by decide +kernel
theorem dX4_countGuesses_10 : decode cX4_countGuesses 10 = .ok (.iconst 3, 1) := by decide +kernel
theorem dX4_countGuesses_11 : decode cX4_countGuesses 11 = .ok (.if_icmp .gt 55, 3) := by decide +kernel
theorem dX4_countGuesses_14 : decode cX4_countGuesses 14 = .ok (.iconst 0, 1) := by decide +kernel
theorem dX4_countGuesses_15 : decode cX4_countGuesses 15 = .ok (.istore 5, 2) := by decide +kernel
theorem dX4_countGuesses_17 : decode cX4_countGuesses 17 = .ok (.iload 5, 2) := by decide +kernel
theorem dX4_countGuesses_19 : decode cX4_countGuesses 19 = .ok (.aload_n 1, 1) := by decide +kernel
theorem dX4_countGuesses_20 : decode cX4_countGuesses 20 = .ok (.invokevirtual 54, 3) := by decide +kernel
theorem dX4_countGuesses_23 : decode cX4_countGuesses 23 = .ok (.if_icmp .ge 37, 3) := by decide +kernel
theorem dX4_countGuesses_60 : decode cX4_countGuesses 60 = .ok (.iinc 4 1, 3) := by decide +kernel
theorem dX4_countGuesses_63 : decode cX4_countGuesses 63 = .ok (.goto (-55), 3) := by decide +kernel
theorem dX4_countGuesses_66 : decode cX4_countGuesses 66 = .ok (.aload_n 0, 1) := by decide +kernel
theorem dX4_countGuesses_67 : decode cX4_countGuesses 67 = .ok (.getfield 50, 3) := by decide +kernel
theorem dX4_countGuesses_70 : decode cX4_countGuesses 70 = .ok (.ireturn, 1) := by decide +kernel
theorem dX11_note_0 : decode cX11_note 0 = .ok (.iload_n 1, 1) := by decide +kernel
theorem dX11_note_1 : decode cX11_note 1 = .ok (.iload_n 2, 1) := by decide +kernel
theorem dX11_note_2 : decode cX11_note 2 = .ok (.iload_n 3, 1) := by decide +kernel
theorem dX11_note_3 : decode cX11_note 3 = .ok (.invokestatic 212, 3) := by decide +kernel
theorem dX11_note_6 : decode cX11_note 6 = .ok (.aload_n 0, 1) := by decide +kernel
theorem dX11_note_7 : decode cX11_note 7 = .ok (.getfield 62, 3) := by decide +kernel
theorem dX11_note_10 : decode cX11_note 10 = .ok (.ldc 216, 2) := by decide +kernel
theorem dX11_note_12 : decode cX11_note 12 = .ok (.iload_n 1, 1) := by decide +kernel
theorem dX11_note_13 : decode cX11_note 13 = .ok (.invokevirtual 81, 3) := by decide +kernel
theorem dX11_note_16 : decode cX11_note 16 = .ok (.iload_n 2, 1) := by decide +kernel
theorem dX11_note_17 : decode cX11_note 17 = .ok (.iload_n 3, 1) := by decide +kernel
theorem dX11_note_18 : decode cX11_note 18 = .ok (.invokevirtual 218, 3) := by decide +kernel
theorem dX11_note_21 : decode cX11_note 21 = .ok (.istore 4, 2) := by decide +kernel
theorem dX11_note_23 : decode cX11_note 23 = .ok (.aload_n 0, 1) := by decide +kernel
theorem dX11_note_24 : decode cX11_note 24 = .ok (.getfield 25, 3) := by decide +kernel
theorem dX11_note_27 : decode cX11_note 27 = .ok (.ldc 216, 2) := by decide +kernel
theorem dX11_note_29 : decode cX11_note 29 = .ok (.iload_n 1, 1) := by decide +kernel
theorem dX11_note_30 : decode cX11_note 30 = .ok (.invokevirtual 81, 3) := by decide +kernel
theorem dX11_note_33 : decode cX11_note 33 = .ok (.iload_n 2, 1) := by decide +kernel
theorem dX11_note_34 : decode cX11_note 34 = .ok (.iload_n 3, 1) := by decide +kernel
theorem dX11_note_35 : decode cX11_note 35 = .ok (.invokestatic 222, 3) := by decide +kernel
theorem dX11_note_38 : decode cX11_note 38 = .ok (.iload 4, 2) := by decide +kernel
theorem dX11_note_40 : decode cX11_note 40 = .ok (.invokevirtual 226, 3) := by decide +kernel
theorem dX11_note_43 : decode cX11_note 43 = .ok (.iload 4, 2) := by decide +kernel
theorem dX11_note_45 : decode cX11_note 45 = .ok (.ireturn, 1) := by decide +kernel
theorem dX11_noted_0 : decode cX11_noted 0 = .ok (.iload_n 1, 1) := by decide +kernel
theorem dX11_noted_1 : decode cX11_noted 1 = .ok (.iload_n 2, 1) := by decide +kernel
theorem dX11_noted_2 : decode cX11_noted 2 = .ok (.iload_n 3, 1) := by decide +kernel
theorem dX11_noted_3 : decode cX11_noted 3 = .ok (.invokestatic 212, 3) := by decide +kernel
theorem dX11_noted_6 : decode cX11_noted 6 = .ok (.aload_n 0, 1) := by decide +kernel
theorem dX11_noted_7 : decode cX11_noted 7 = .ok (.getfield 25, 3) := by decide +kernel
theorem dX11_noted_10 : decode cX11_noted 10 = .ok (.ldc 216, 2) := by decide +kernel
theorem dX11_noted_12 : decode cX11_noted 12 = .ok (.iload_n 1, 1) := by decide +kernel
theorem dX11_noted_13 : decode cX11_noted 13 = .ok (.invokevirtual 81, 3) := by decide +kernel
theorem dX11_noted_16 : decode cX11_noted 16 = .ok (.iload_n 2, 1) := by decide +kernel
theorem dX11_noted_17 : decode cX11_noted 17 = .ok (.iload_n 3, 1) := by decide +kernel
theorem dX11_noted_18 : decode cX11_noted 18 = .ok (.invokestatic 222, 3) := by decide +kernel
theorem dX11_noted_21 : decode cX11_noted 21 = .ok (.invokevirtual 230, 3) := by decide +kernel
theorem dX11_noted_24 : decode cX11_noted 24 = .ok (.invokestatic 187, 3) := by decide +kernel
theorem dX11_guesses_0 : decode cX11_guesses 0 = .ok (.iload_n 1, 1) := by decide +kernel
theorem dX11_guesses_1 : decode cX11_guesses 1 = .ok (.iload_n 2, 1) := by decide +kernel
theorem dX11_guesses_2 : decode cX11_guesses 2 = .ok (.invokestatic 176, 3) := by decide +kernel
theorem dX11_guesses_5 : decode cX11_guesses 5 = .ok (.aload_n 0, 1) := by decide +kernel
theorem dX11_guesses_6 : decode cX11_guesses 6 = .ok (.getfield 25, 3) := by decide +kernel
theorem dX11_guesses_9 : decode cX11_guesses 9 = .ok (.aload_n 0, 1) := by decide +kernel
theorem dX11_guesses_10 : decode cX11_guesses 10 = .ok (.getfield 10, 3) := by decide +kernel
theorem dX11_guesses_13 : decode cX11_guesses 13 = .ok (.iload_n 1, 1) := by decide +kernel
theorem dX11_guesses_14 : decode cX11_guesses 14 = .ok (.iload_n 2, 1) := by decide +kernel
theorem dX11_guesses_15 : decode cX11_guesses 15 = .ok (.invokestatic 222, 3) := by decide +kernel
theorem dX11_guesses_18 : decode cX11_guesses 18 = .ok (.ldc 236, 2) := by decide +kernel
theorem dX11_guesses_20 : decode cX11_guesses 20 = .ok (.invokevirtual 237, 3) := by decide +kernel
theorem dX11_guesses_23 : decode cX11_guesses 23 = .ok (.ireturn, 1) := by decide +kernel
theorem dX11_guessAt_0 : decode cX11_guessAt 0 = .ok (.iload_n 1, 1) := by decide +kernel
theorem dX11_guessAt_1 : decode cX11_guessAt 1 = .ok (.iload_n 2, 1) := by decide +kernel
theorem dX11_guessAt_2 : decode cX11_guessAt 2 = .ok (.invokestatic 176, 3) := by decide +kernel
theorem dX11_guessAt_5 : decode cX11_guessAt 5 = .ok (.iload_n 3, 1) := by decide +kernel
theorem dX11_guessAt_6 : decode cX11_guessAt 6 = .ok (.ifCond .lt 7, 3) := by decide +kernel
theorem dX11_guessAt_13 : decode cX11_guessAt 13 = .ok (.iconst 0, 1) := by decide +kernel
theorem dX11_guessAt_14 : decode cX11_guessAt 14 = .ok (.invokestatic 187, 3) := by decide +kernel
theorem dX11_guessAt_9 : decode cX11_guessAt 9 = .ok (.iconst 1, 1) := by decide +kernel
theorem dX11_guessAt_10 : decode cX11_guessAt 10 = .ok (.goto 4, 3) := by decide +kernel
theorem dX11_guessAt_17 : decode cX11_guessAt 17 = .ok (.aload_n 0, 1) := by decide +kernel
theorem dX11_guessAt_18 : decode cX11_guessAt 18 = .ok (.getfield 25, 3) := by decide +kernel
theorem dX11_guessAt_21 : decode cX11_guessAt 21 = .ok (.aload_n 0, 1) := by decide +kernel
theorem dX11_guessAt_22 : decode cX11_guessAt 22 = .ok (.getfield 10, 3) := by decide +kernel
theorem dX11_guessAt_25 : decode cX11_guessAt 25 = .ok (.iload_n 1, 1) := by decide +kernel
theorem dX11_guessAt_26 : decode cX11_guessAt 26 = .ok (.iload_n 2, 1) := by decide +kernel
theorem dX11_guessAt_27 : decode cX11_guessAt 27 = .ok (.invokestatic 222, 3) := by decide +kernel
theorem dX11_guessAt_30 : decode cX11_guessAt 30 = .ok (.iload_n 3, 1) := by decide +kernel
theorem dX11_guessAt_31 : decode cX11_guessAt 31 = .ok (.invokevirtual 237, 3) := by decide +kernel
theorem dX11_guessAt_34 : decode cX11_guessAt 34 = .ok (.iload_n 3, 1) := by decide +kernel
theorem dX11_guessAt_35 : decode cX11_guessAt 35 = .ok (.if_icmp .le 7, 3) := by decide +kernel
theorem dX11_guessAt_42 : decode cX11_guessAt 42 = .ok (.iconst 0, 1) := by decide +kernel
theorem dX11_guessAt_43 : decode cX11_guessAt 43 = .ok (.invokestatic 187, 3) := by decide +kernel
theorem dX11_isPossible_0 : decode cX11_isPossible 0 = .ok (.iload_n 1, 1) := by decide +kernel
theorem dX11_isPossible_1 : decode cX11_isPossible 1 = .ok (.iload_n 2, 1) := by decide +kernel
theorem dX11_isPossible_2 : decode cX11_isPossible 2 = .ok (.invokestatic 176, 3) := by decide +kernel
theorem dX11_isPossible_5 : decode cX11_isPossible 5 = .ok (.aload_n 0, 1) := by decide +kernel
theorem dX11_isPossible_6 : decode cX11_isPossible 6 = .ok (.getfield 25, 3) := by decide +kernel
theorem dX11_isPossible_9 : decode cX11_isPossible 9 = .ok (.iload_n 1, 1) := by decide +kernel
theorem dX11_isPossible_10 : decode cX11_isPossible 10 = .ok (.iload_n 2, 1) := by decide +kernel
theorem dX11_isPossible_11 : decode cX11_isPossible 11 = .ok (.invokestatic 222, 3) := by decide +kernel
theorem dX11_isPossible_14 : decode cX11_isPossible 14 = .ok (.aload_n 0, 1) := by decide +kernel
theorem dX11_isPossible_15 : decode cX11_isPossible 15 = .ok (.getfield 62, 3) := by decide +kernel
theorem dX11_isPossible_18 : decode cX11_isPossible 18 = .ok (.iload_n 1, 1) := by decide +kernel
theorem dX11_isPossible_19 : decode cX11_isPossible 19 = .ok (.iload_n 2, 1) := by decide +kernel
theorem dX11_isPossible_20 : decode cX11_isPossible 20 = .ok (.invokevirtual 179, 3) := by decide +kernel
theorem dX11_isPossible_23 : decode cX11_isPossible 23 = .ok (.invokevirtual 248, 3) := by decide +kernel
theorem dX11_isPossible_26 : decode cX11_isPossible 26 = .ok (.ireturn, 1) := by decide +kernel
theorem dX11_tooYoung_0 : decode cX11_tooYoung 0 = .ok (.iload_n 1, 1) := by decide +kernel
theorem dX11_tooYoung_1 : decode cX11_tooYoung 1 = .ok (.iconst 0, 1) := by decide +kernel
theorem dX11_tooYoung_2 : decode cX11_tooYoung 2 = .ok (.sipush 9999, 3) := by decide +kernel
theorem dX11_tooYoung_5 : decode cX11_tooYoung 5 = .ok (.invokestatic 91, 3) := by decide +kernel
theorem dX11_tooYoung_8 : decode cX11_tooYoung 8 = .ok (.invokestatic 87, 3) := by decide +kernel
theorem dX11_tooYoung_11 : decode cX11_tooYoung 11 = .ok (.iconst (-1), 1) := by decide +kernel
theorem dX11_tooYoung_12 : decode cX11_tooYoung 12 = .ok (.istore_n 2, 1) := by decide +kernel
theorem dX11_tooYoung_13 : decode cX11_tooYoung 13 = .ok (.aload_n 0, 1) := by decide +kernel
theorem dX11_tooYoung_14 : decode cX11_tooYoung 14 = .ok (.getfield 10, 3) := by decide +kernel
theorem dX11_tooYoung_17 : decode cX11_tooYoung 17 = .ok (.invokevirtual 95, 3) := by decide +kernel
theorem dX11_tooYoung_20 : decode cX11_tooYoung 20 = .ok (.iconst 1, 1) := by decide +kernel
theorem dX11_tooYoung_21 : decode cX11_tooYoung 21 = .ok (.isub, 1) := by decide +kernel
theorem dX11_tooYoung_22 : decode cX11_tooYoung 22 = .ok (.istore_n 3, 1) := by decide +kernel
theorem dX11_tooYoung_23 : decode cX11_tooYoung 23 = .ok (.iload_n 3, 1) := by decide +kernel
theorem dX11_tooYoung_24 : decode cX11_tooYoung 24 = .ok (.ifCond .lt 49, 3) := by decide +kernel
theorem dX11_tooYoung_73 : decode cX11_tooYoung 73 = .ok (.iload_n 2, 1) := by decide +kernel
theorem dX11_tooYoung_74 : decode cX11_tooYoung 74 = .ok (.iconst (-1), 1) := by decide +kernel
theorem dX11_tooYoung_75 : decode cX11_tooYoung 75 = .ok (.if_icmp .eq 7, 3) := by decide +kernel
theorem dX11_tooYoung_82 : decode cX11_tooYoung 82 = .ok (.iconst 0, 1) := by decide +kernel
theorem dX11_tooYoung_83 : decode cX11_tooYoung 83 = .ok (.invokestatic 187, 3) := by decide +kernel
theorem z_c_X4_has_314 (ray : Int32) (pc : Int32) (x_1 : Int32) (x_2 : Int32) (a_0 : (0 : Int32) ≤ ray) (a_1 : (ray : Int32) < 5) (a_2 : 0 ≤ pc) (a_3 : pc < 48) (a_4 : x_1 = ray * 48) (a_5 : x_2 = x_1 + pc) : 0 ≤ x_2 := by grind
theorem z_c_X4_has_315 (ray : Int32) (pc : Int32) (x_1 : Int32) (x_2 : Int32) (a_0 : (0 : Int32) ≤ ray) (a_1 : (ray : Int32) < 5) (a_2 : 0 ≤ pc) (a_3 : pc < 48) (a_4 : x_1 = ray * 48) (a_5 : x_2 = x_1 + pc) : x_2 < 240 := by grind
theorem z_c_X4_has_316 (ray : Int32) (pc : Int32) (x_1 : Int32) (x_2 : Int32) (a_0 : (0 : Int32) ≤ ray) (a_1 : (ray : Int32) < 5) (a_2 : 0 ≤ pc) (a_3 : pc < 48) (a_4 : x_1 = ray * 48) (a_5 : x_2 = x_1 + pc) : (0 : Int32) = 0 := by grind
def wo_c_X4_has_w : List Cond := [Cond.fieldLink RX4 9 "Underpaint$Notes" "isNoted" "[Z"]
def wo_c_X4_has : List Cond := .code yX4_has cX4_has 3 (some .boolean) :: (wo_c_X4_has_w ++ (u_ws RX4 TX4 4 ++ List.nil))
theorem gw_wo_c_X4_has : wo_c_X4_has.all goodWord = true := gw_c (by decide +kernel) (gw_a (by decide +kernel) (gw_a (by decide +kernel) rfl))
set_option maxHeartbeats 4000000 in
set_option maxRecDepth 100000 in
/-- Notes.has: nothing is noted -/
theorem c_X4_has (l : Launch) (dC : Nat → ClassId) (dI : Nat → Nat → Nat) (b0 : Nat) (en : EnT) (sz : Nat) (nte nn ns ng : Nat) (kZ : ClassId) (ray pc : Int32) (hr0 : (0 : Int32) ≤ ray) (hr1 : (ray : Int32) < 5) (hp0 : 0 ≤ pc) (hp1 : pc < 48) : Met l yX4_has wo_c_X4_has ({ frames := 0, cells := 0, slots := 0, locals := 0 } : Room) (cP b0 en (dC, dI) [(kZ, .boolean)] [] [(nte, .inr (10, [.ref nn, .ref ns, .ref ng, .int 0])), (nn, .inl (kZ, 240, .inl (fun _ => 0)))] sz (fun _ => True) [.ref nte, .int ray, .int pc]) (va_Qi (fun (r : Int32) (_ : Unit) => r = 0) (fun _ _ => True) (va_A [] sz)) 0 0 (va_A [] sz) := by
  refine Met.ofW (cc := cX4_has) (maxL := 3) (ret := (some .boolean)) (by decide) rfl ?_
  intro p e s m args below meth c s₁ B hml hv
  obtain ⟨rfl, hsz, hb0, hE, hPP, hK, hDD, hF0⟩ := hv
  have hx := B.exec
  have hb := B.bytes
  have hr := B.returns
  have hts := atoms_spec (ws := wo_c_X4_has) B.pre
  have hown : s.vm.findClass RX4 = some m.cls := findClass_of_methodNamed B.named
  have hlocks := B.notSynchronized
  subst hsz
  have hN0 := en_N hPP hDD rfl
  have hP : va_P (dC, dI) vwCl [] s.heap := hPP.sub [] rfl
  have hR0 : va_P (dC, dI) vwCl [(nte, .inr (10, [.ref nn, .ref ns, .ref ng, .int 0])), (nn, .inl (kZ, 240, .inl (fun _ => 0)))] s.heap := hPP.sub [0, 1] rfl
  have hD0 : va_D (fun q => b0 ≤ q) [] := hDD.sub [] (by decide) rfl
  have hDr : va_D (fun q => b0 ≤ q) [(nte, .inr (10, [.ref nn, .ref ns, .ref ng, .int 0])), (nn, .inl (kZ, 240, .inl (fun _ => 0)))] := hDD.sub [0, 1] (by decide) rfl
  have hAb := en_A (sz := s.heap.size) hD0 hb0
  have hD := hD0.self (sz := s.heap.size)
  generalize hAe : va_A [] s.heap.size = A at hD hAb hN0 ⊢
  have hA : ∀ q : Nat, s.heap.size ≤ q → A q := fun q h => by rw [← hAe]; exact Or.inr h
  have hS : va_S A s.heap s.heap [] := va_S.rf
  have hR := hR0
  have hl := lv_entry [.ref nte, .int ray, .int pc] (n := 3) (Nat.le_of_ble_eq_true rfl)
  rw [lg_entry_eq]
  generalize (lg_sl [.ref nte, .int ray, .int pc] ++ List.replicate (3 - (lg_sl [.ref nte, .int ray, .int pc]).length) Slot.unset).toArray = ls at hl ⊢
  have hl : lv_has ls 3 [(0, .ref nte), (1, .int ray), (2, .int pc)] := hl
  refine lv_aload_n hx hb dX4_has_0 rfl (lv_at hl 0 rfl) ?_
  refine va_get (D := (dC, dI)) (ci := 10) (v := .ref nn) (C := RX4) (T := TX4) (N := 4) hx hb hts (by decide +kernel) hown hK hR 0 rfl rfl 0 (by decide) (hts (.fieldLink RX4 9 "Underpaint$Notes" "isNoted" "[Z") (by decide +kernel)) (fun _ h9 => h9) rfl dX4_has_1 ?_
  refine lv_iload_n hx hb dX4_has_4 rfl (lv_at hl 1 rfl) ?_
  refine lv_bipush (v := 48) hx hb dX4_has_5 (by decide) ?_
  refine lv_imul hx hb dX4_has_7 ?_
  refine lv_topi (fun x_1 ex_1 => ?_)
  refine lv_iload_n hx hb dX4_has_8 rfl (lv_at hl 2 rfl) ?_
  refine lv_iadd hx hb dX4_has_9 ?_
  refine lv_topi (fun x_2 ex_2 => ?_)
  refine va_zald hx hb hK hR 1 0 rfl rfl (vp_ok (n := 240) (by decide) (z_c_X4_has_314 ray pc x_1 x_2 hr0 hr1 hp0 hp1 ex_1 ex_2) (z_c_X4_has_315 ray pc x_1 x_2 hr0 hr1 hp0 hp1 ex_1 ex_2)) dX4_has_10 ?_
  refine lv_topi (fun x_3 ex_3 => ?_)
  obtain rfl : x_3 = 0 := ex_3.trans rfl
  refine W.widen (k := 0) (n := 0) (Nat.le_of_ble_eq_true rfl) (Nat.le_of_ble_eq_true rfl) ?_
  exact W.zret (v := 0) hx hb hr (by first | rfl | decide +kernel) (fun t ht hW => ⟨⟨0, (), rfl, (z_c_X4_has_316 ray pc x_1 x_2 hr0 hr1 hp0 hp1 ex_1 ex_2), trivial⟩, hS.F ht⟩) hS.2.2 dX4_has_11
theorem z_c_X4_keep_317 (ray : Int32) (pc : Int32) (x_1 : Int32) (x_2 : Int32) (x_4 : Int32) (x_5 : Int32) (a_0 : (0 : Int32) ≤ ray) (a_1 : (ray : Int32) < 5) (a_2 : 0 ≤ pc) (a_3 : pc < 48) (a_4 : x_1 = ray * 48) (a_5 : x_2 = x_1 + pc) (a_6 : x_4 = ray * 48) (a_7 : x_5 = x_4 + pc) : 0 ≤ x_5 := by grind
theorem z_c_X4_keep_318 (ray : Int32) (pc : Int32) (x_1 : Int32) (x_2 : Int32) (x_4 : Int32) (x_5 : Int32) (a_0 : (0 : Int32) ≤ ray) (a_1 : (ray : Int32) < 5) (a_2 : 0 ≤ pc) (a_3 : pc < 48) (a_4 : x_1 = ray * 48) (a_5 : x_2 = x_1 + pc) (a_6 : x_4 = ray * 48) (a_7 : x_5 = x_4 + pc) : x_5 < 240 := by grind
def wo_c_X4_keep_w : List Cond := [Cond.fieldLink RX4 9 "Underpaint$Notes" "isNoted" "[Z", Cond.fieldLink RX4 15 "Underpaint$Notes" "seen" "[I"]
def wo_c_X4_keep : List Cond := .code yX4_keep cX4_keep 4 none :: (wo_c_X4_keep_w ++ (u_ws RX4 TX4 4 ++ List.nil))
theorem gw_wo_c_X4_keep : wo_c_X4_keep.all goodWord = true := gw_c (by decide +kernel) (gw_a (by decide +kernel) (gw_a (by decide +kernel) rfl))
set_option maxHeartbeats 4000000 in
set_option maxRecDepth 100000 in
/-- Notes.keep -/
theorem c_X4_keep (l : Launch) (dC : Nat → ClassId) (dI : Nat → Nat → Nat) (b0 : Nat) (en : EnT) (sz : Nat) (nte nn ns ng : Nat) (kZ kI : ClassId) (ray pc v : Int32) (hr0 : (0 : Int32) ≤ ray) (hr1 : (ray : Int32) < 5) (hp0 : 0 ≤ pc) (hp1 : pc < 48) : Met l yX4_keep wo_c_X4_keep ({ frames := 0, cells := 0, slots := 0, locals := 0 } : Room) (cP b0 en (dC, dI) [(kZ, .boolean), (kI, .int)] [(nn, .inl (kZ, 240, .inl (fun _ => 0))), (ns, .inl (kI, 240, .inl (fun _ => 0)))] [(nte, .inr (10, [.ref nn, .ref ns, .ref ng, .int 0]))] sz (fun _ => True) [.ref nte, .int ray, .int pc, .int v]) (va_Qv (fun _ : Unit => True) (fun _ _ => True) (va_A [(nn, .inl (kZ, 240, .inl (fun _ => 0))), (ns, .inl (kI, 240, .inl (fun _ => 0)))] sz)) 0 0 (va_A [(nn, .inl (kZ, 240, .inl (fun _ => 0))), (ns, .inl (kI, 240, .inl (fun _ => 0)))] sz) := by
  refine Met.ofW (cc := cX4_keep) (maxL := 4) (ret := none) (by decide) rfl ?_
  intro p e s m args below meth c s₁ B hml hv
  obtain ⟨rfl, hsz, hb0, hE, hPP, hK, hDD, hF0⟩ := hv
  have hx := B.exec
  have hb := B.bytes
  have hr := B.returns
  have hts := atoms_spec (ws := wo_c_X4_keep) B.pre
  have hown : s.vm.findClass RX4 = some m.cls := findClass_of_methodNamed B.named
  have hlocks := B.notSynchronized
  subst hsz
  have hN0 := en_N hPP hDD rfl
  have hP : va_P (dC, dI) vwCl [(nn, .inl (kZ, 240, .inl (fun _ => 0))), (ns, .inl (kI, 240, .inl (fun _ => 0)))] s.heap := hPP.sub [0, 1] rfl
  have hR0 : va_P (dC, dI) vwCl [(nte, .inr (10, [.ref nn, .ref ns, .ref ng, .int 0]))] s.heap := hPP.sub [2] rfl
  have hD0 : va_D (fun q => b0 ≤ q) [(nn, .inl (kZ, 240, .inl (fun _ => 0))), (ns, .inl (kI, 240, .inl (fun _ => 0)))] := hDD.sub [0, 1] (by decide) rfl
  have hDr : va_D (fun q => b0 ≤ q) [(nte, .inr (10, [.ref nn, .ref ns, .ref ng, .int 0]))] := hDD.sub [2] (by decide) rfl
  have hAb := en_A (sz := s.heap.size) hD0 hb0
  have hD := hD0.self (sz := s.heap.size)
  generalize hAe : va_A [(nn, .inl (kZ, 240, .inl (fun _ => 0))), (ns, .inl (kI, 240, .inl (fun _ => 0)))] s.heap.size = A at hD hAb hN0 ⊢
  have hA : ∀ q : Nat, s.heap.size ≤ q → A q := fun q h => by rw [← hAe]; exact Or.inr h
  have hS : va_S A s.heap s.heap [] := va_S.rf
  have hR := hR0
  have hl := lv_entry [.ref nte, .int ray, .int pc, .int v] (n := 4) (Nat.le_of_ble_eq_true rfl)
  rw [lg_entry_eq]
  generalize (lg_sl [.ref nte, .int ray, .int pc, .int v] ++ List.replicate (4 - (lg_sl [.ref nte, .int ray, .int pc, .int v]).length) Slot.unset).toArray = ls at hl ⊢
  have hl : lv_has ls 4 [(0, .ref nte), (1, .int ray), (2, .int pc), (3, .int v)] := hl
  refine lv_aload_n hx hb dX4_keep_0 rfl (lv_at hl 0 rfl) ?_
  refine va_get (D := (dC, dI)) (ci := 10) (v := .ref nn) (C := RX4) (T := TX4) (N := 4) hx hb hts (by decide +kernel) hown hK hR 0 rfl rfl 0 (by decide) (hts (.fieldLink RX4 9 "Underpaint$Notes" "isNoted" "[Z") (by decide +kernel)) (fun _ h9 => h9) rfl dX4_keep_1 ?_
  refine lv_iload_n hx hb dX4_keep_4 rfl (lv_at hl 1 rfl) ?_
  refine lv_bipush (v := 48) hx hb dX4_keep_5 (by decide) ?_
  refine lv_imul hx hb dX4_keep_7 ?_
  refine lv_topi (fun x_1 ex_1 => ?_)
  refine lv_iload_n hx hb dX4_keep_8 rfl (lv_at hl 2 rfl) ?_
  refine lv_iadd hx hb dX4_keep_9 ?_
  refine lv_topi (fun x_2 ex_2 => ?_)
  refine lv_iconst (v := 1) hx hb dX4_keep_10 (by decide) ?_
  refine va_zast hx hb hK hP hD hS 0 0 rfl rfl (vp_ok (n := 240) (by decide) (z_c_X4_has_314 ray pc x_1 x_2 hr0 hr1 hp0 hp1 ex_1 ex_2) (z_c_X4_has_315 ray pc x_1 x_2 hr0 hr1 hp0 hp1 ex_1 ex_2)) dX4_keep_11 (fun H locs hP hD hS => ?_)
  generalize ef_3 : upd (fun _ => 0) x_2.toNatClampNeg (vp_nar .boolean 1) = f_3 at hP hD
  have hP : va_P (dC, dI) vwCl [(nn, .inl (kZ, 240, .inl f_3)), (ns, .inl (kI, 240, .inl (fun _ => 0)))] H := hP
  have hD : va_D A [(nn, .inl (kZ, 240, .inl f_3)), (ns, .inl (kI, 240, .inl (fun _ => 0)))] := hD
  have hR := en_R hR0 hN0 hS
  refine lv_aload_n hx hb dX4_keep_12 rfl (lv_at hl 0 rfl) ?_
  refine va_get (D := (dC, dI)) (ci := 10) (v := .ref ns) (C := RX4) (T := TX4) (N := 4) hx hb hts (by decide +kernel) hown hK hR 0 rfl rfl 1 (by decide) (hts (.fieldLink RX4 15 "Underpaint$Notes" "seen" "[I") (by decide +kernel)) (fun _ h9 => h9) rfl dX4_keep_13 ?_
  refine lv_iload_n hx hb dX4_keep_16 rfl (lv_at hl 1 rfl) ?_
  refine lv_bipush (v := 48) hx hb dX4_keep_17 (by decide) ?_
  refine lv_imul hx hb dX4_keep_19 ?_
  refine lv_topi (fun x_4 ex_4 => ?_)
  refine lv_iload_n hx hb dX4_keep_20 rfl (lv_at hl 2 rfl) ?_
  refine lv_iadd hx hb dX4_keep_21 ?_
  refine lv_topi (fun x_5 ex_5 => ?_)
  refine lv_iload_n hx hb dX4_keep_22 rfl (lv_at hl 3 rfl) ?_
  refine va_iast hx hb hK hP hD hS 1 1 rfl rfl (vp_ok (n := 240) (by decide) (z_c_X4_keep_317 ray pc x_1 x_2 x_4 x_5 hr0 hr1 hp0 hp1 ex_1 ex_2 ex_4 ex_5) (z_c_X4_keep_318 ray pc x_1 x_2 x_4 x_5 hr0 hr1 hp0 hp1 ex_1 ex_2 ex_4 ex_5)) dX4_keep_23 (fun H locs hP hD hS => ?_)
  generalize ef_6 : upd (fun _ => 0) x_5.toNatClampNeg v = f_6 at hP hD
  have hP : va_P (dC, dI) vwCl [(nn, .inl (kZ, 240, .inl f_3)), (ns, .inl (kI, 240, .inl f_6))] H := hP
  have hD : va_D A [(nn, .inl (kZ, 240, .inl f_3)), (ns, .inl (kI, 240, .inl f_6))] := hD
  have hR := en_R hR0 hN0 hS
  refine W.widen (k := 0) (n := 0) (Nat.le_of_ble_eq_true rfl) (Nat.le_of_ble_eq_true rfl) ?_
  exact W.vret hx hb hr (fun t ht hW => ⟨⟨(), rfl, trivial, trivial⟩, hS.F ht⟩) hS.2.2 dX4_keep_24
theorem z_c_X4_match_319 (pc : Int32) (a_0 : 0 ≤ pc) (a_1 : pc < 48) : (0 : Int32) ≤ 0 := by grind
theorem z_c_X4_match_320 (pc : Int32) (a_0 : 0 ≤ pc) (a_1 : pc < 48) : (0 : Int32) < 5 := by grind
theorem z_c_X4_match_321 (pc : Int32) (a_0 : 0 ≤ pc) (a_1 : pc < 48) : 0 ≤ pc := by grind
theorem z_c_X4_match_322 (pc : Int32) (a_0 : 0 ≤ pc) (a_1 : pc < 48) : pc < 48 := by grind
theorem z_c_X4_match_323 (pc : Int32) (a_0 : 0 ≤ pc) (a_1 : pc < 48) : (0 : Int32) ≤ 1 := by grind
theorem z_c_X4_match_324 (pc : Int32) (a_0 : 0 ≤ pc) (a_1 : pc < 48) : (1 : Int32) < 5 := by grind
theorem z_c_X4_match_325 (pc : Int32) (a_0 : 0 ≤ pc) (a_1 : pc < 48) : (0 : Int32) ≤ 2 := by grind
theorem z_c_X4_match_326 (pc : Int32) (a_0 : 0 ≤ pc) (a_1 : pc < 48) : (2 : Int32) < 5 := by grind
theorem z_c_X4_match_327 (pc : Int32) (a_0 : 0 ≤ pc) (a_1 : pc < 48) : (0 : Int32) ≤ 3 := by grind
theorem z_c_X4_match_328 (pc : Int32) (a_0 : 0 ≤ pc) (a_1 : pc < 48) : (3 : Int32) < 5 := by grind
def wo_c_X4_match_w : List Cond := []
def wo_c_X4_match : List Cond := .code yX4_match cX4_match 5 (some .boolean) :: (wo_c_X4_match_w ++ (wsV RX4 33 RX4 yX4_has wo_c_X4_has ++ List.nil))
theorem gw_wo_c_X4_match : wo_c_X4_match.all goodWord = true := gw_c (by decide +kernel) (gw_a (by decide +kernel) (gw_a (gw_a (by decide +kernel) gw_wo_c_X4_has) rfl))
theorem go_c_X4_match_0 : GoodIn wo_c_X4_match (wsV RX4 33 RX4 yX4_has wo_c_X4_has) := goodIn_sub (fun _ h => List.mem_cons_of_mem _ (List.mem_append_right _ (List.mem_append_left _ h))) (gw_a (by decide +kernel) gw_wo_c_X4_has)
set_option maxHeartbeats 4000000 in
set_option maxRecDepth 100000 in
/-- Notes.match: nothing is noted -/
theorem c_X4_match (l : Launch) (dC : Nat → ClassId) (dI : Nat → Nat → Nat) (b0 : Nat) (en : EnT) (sz : Nat) (nte nn ns ng a rw : Nat) (kZ : ClassId) (pc : Int32) (hp0 : 0 ≤ pc) (hp1 : pc < 48) : Met l yX4_match wo_c_X4_match ({ frames := 1, cells := 0, slots := 0, locals := 22 } : Room) (cP b0 en (dC, dI) [(kZ, .boolean)] [] [(nte, .inr (10, [.ref nn, .ref ns, .ref ng, .int 0])), (nn, .inl (kZ, 240, .inl (fun _ => 0))), (a, .inr (14, [.ref rw, .int 0, .int 0]))] sz (fun _ => True) [.ref nte, .int pc, .ref a]) (va_Qi (fun (r : Int32) (_ : Unit) => r = 1) (fun _ _ => True) (va_A [] sz)) 0 0 (va_A [] sz) := by
  refine Met.ofW (cc := cX4_match) (maxL := 5) (ret := (some .boolean)) (by decide) rfl ?_
  intro p e s m args below meth c s₁ B hml hv
  obtain ⟨rfl, hsz, hb0, hE, hPP, hK, hDD, hF0⟩ := hv
  have hx := B.exec
  have hb := B.bytes
  have hr := B.returns
  have hts := atoms_spec (ws := wo_c_X4_match) B.pre
  have hown : s.vm.findClass RX4 = some m.cls := findClass_of_methodNamed B.named
  have hlocks := B.notSynchronized
  subst hsz
  have hN0 := en_N hPP hDD rfl
  have hP : va_P (dC, dI) vwCl [] s.heap := hPP.sub [] rfl
  have hR0 : va_P (dC, dI) vwCl [(nte, .inr (10, [.ref nn, .ref ns, .ref ng, .int 0])), (nn, .inl (kZ, 240, .inl (fun _ => 0))), (a, .inr (14, [.ref rw, .int 0, .int 0]))] s.heap := hPP.sub [0, 1, 2] rfl
  have hD0 : va_D (fun q => b0 ≤ q) [] := hDD.sub [] (by decide) rfl
  have hDr : va_D (fun q => b0 ≤ q) [(nte, .inr (10, [.ref nn, .ref ns, .ref ng, .int 0])), (nn, .inl (kZ, 240, .inl (fun _ => 0))), (a, .inr (14, [.ref rw, .int 0, .int 0]))] := hDD.sub [0, 1, 2] (by decide) rfl
  have hAb := en_A (sz := s.heap.size) hD0 hb0
  have hD := hD0.self (sz := s.heap.size)
  generalize hAe : va_A [] s.heap.size = A at hD hAb hN0 ⊢
  have hA : ∀ q : Nat, s.heap.size ≤ q → A q := fun q h => by rw [← hAe]; exact Or.inr h
  have hS : va_S A s.heap s.heap [] := va_S.rf
  have hR := hR0
  have hl := lv_entry [.ref nte, .int pc, .ref a] (n := 5) (Nat.le_of_ble_eq_true rfl)
  rw [lg_entry_eq]
  generalize (lg_sl [.ref nte, .int pc, .ref a] ++ List.replicate (5 - (lg_sl [.ref nte, .int pc, .ref a]).length) Slot.unset).toArray = ls at hl ⊢
  have hl : lv_has ls 5 [(0, .ref nte), (1, .int pc), (2, .ref a)] := hl
  refine lv_iconst (v := 0) hx hb dX4_match_0 (by decide) ?_
  refine lv_istore_n (lv' := [(3, .int 0), (0, .ref nte), (1, .int pc), (2, .ref a)]) hx hb dX4_match_1 rfl hl (by decide) rfl (fun ls hl => ?_)
  refine lv_iload_n hx hb dX4_match_2 rfl (lv_at hl 0 rfl) ?_
  refine lv_iconst (v := 4) hx hb dX4_match_3 (by decide) ?_
  refine lv_icmp_ge (tgt := 56) hx hb dX4_match_4 (by decide) (fun c_1 => absurd c_1 (by decide)) (fun c_1 => ?_)
  refine lv_iload_n hx hb dX4_match_7 rfl (lv_at hl 0 rfl) ?_
  refine lv_iconst (v := 1) hx hb dX4_match_8 (by decide) ?_
  refine lv_icmp_gt (tgt := 16) hx hb dX4_match_9 (by decide) (fun c_2 => absurd c_2 (by decide)) (fun c_2 => ?_)
  refine lv_iconst (v := 5) hx hb dX4_match_12 (by decide) ?_
  refine lv_goto (tgt := 17) hx hb dX4_match_13 (by decide) ?_
  refine lv_istore (lv' := [(4, .int 5), (3, .int 0), (0, .ref nte), (1, .int pc), (2, .ref a)]) hx hb dX4_match_17 hl (by decide) rfl (fun ls hl => ?_)
  refine lv_aload_n hx hb dX4_match_19 rfl (lv_at hl 2 rfl) ?_
  refine lv_iload_n hx hb dX4_match_20 rfl (lv_at hl 1 rfl) ?_
  refine lv_iload_n hx hb dX4_match_21 rfl (lv_at hl 3 rfl) ?_
  have hPc := (hP.app hR).sub (ws' := [] ++ [(nte, .inr (10, [.ref nn, .ref ns, .ref ng, .int 0])), (nn, .inl (kZ, 240, .inl (fun _ => 0)))]) [0, 1] rfl
  have hDc := (en_DD hD hDr hN0 hAb).sub (ws' := [] ++ [(nte, .inr (10, [.ref nn, .ref ns, .ref ng, .int 0])), (nn, .inl (kZ, 240, .inl (fun _ => 0)))]) [0, 1] (by decide) rfl
  have hKc := hK.sub (tys' := [(kZ, .boolean)]) [0] rfl
  have hFc := va_free (wc := []) hD hS hA [] rfl
  refine va_calli (va_runV (As := [.int 0, .int pc]) (rest := []) ⟨hx, hb, hml, hown, hts⟩ (c_X4_has l dC dI b0 en s.heap.size nte nn ns ng kZ 0 pc (z_c_X4_match_319 pc hp0 hp1) (z_c_X4_match_320 pc hp0 hp1) (z_c_X4_match_321 pc hp0 hp1) (z_c_X4_match_322 pc hp0 hp1)) (cwV 2 hts go_c_X4_match_0 rfl rfl rfl (by decide +kernel) ⟨Nat.le_of_ble_eq_true rfl, Nat.le_of_ble_eq_true rfl⟩) ⟨cP.blind, va_recv hK hR (ci := 10) (q0 := 0) rfl rfl, cP.use (en_z hb0 hS) (hE.on hAb hS) hPc hKc hDc trivial⟩ rfl rfl hl.1 rfl (lv_room (Nat.le_of_ble_eq_true rfl)) dX4_match_22 ⟨Nat.le_of_ble_eq_true rfl, Nat.le_of_ble_eq_true rfl⟩) hS (fun q _ h => hFc q h) hFc (fun r_3 u t H1 locs ht hvm hw hB hz1 hk1 hS => ?_)
  have hP1 : va_P (dC, dI) vwCl [] H1 := fun k q h => by simp at h
  have hD1 : va_D (va_A [] s.heap.size) [] := ⟨fun i j p q h => by simp at h, fun k q h => by simp at h⟩
  try dsimp only at hw
  obtain ⟨hP, hD⟩ := va_join (wr := []) (w1 := []) hP hD [] [] rfl rfl (by decide) (by decide) hk1 hFc hP1 hD1
  generalize H1 = H at hP hS ⊢
  have hP : va_P (dC, dI) vwCl [] H := hP
  have hD : va_D A [] := hD
  have hR := en_R hR0 hN0 hS
  refine W.widen (k := 0) (n := 0) (Nat.le_of_ble_eq_true rfl) (Nat.le_of_ble_eq_true rfl) ?_
  subst r_3
  refine lv_if_eq (tgt := 50) hx hb dX4_match_25 (by decide) (fun c_4 => ?_) (fun c_4 => absurd c_4 (by decide))
  refine lv_iinc (v := 1) (lv' := [(3, .int 1), (4, .int 5), (0, .ref nte), (1, .int pc), (2, .ref a)]) hx hb dX4_match_50 hl (k := 1) rfl (by decide) (by decide) rfl (fun ls hl => ?_)
  refine lv_goto (tgt := 2) hx hb dX4_match_53 (by decide) ?_
  refine lv_iload_n hx hb dX4_match_2 rfl (lv_at hl 0 rfl) ?_
  refine lv_iconst (v := 4) hx hb dX4_match_3 (by decide) ?_
  refine lv_icmp_ge (tgt := 56) hx hb dX4_match_4 (by decide) (fun c_5 => absurd c_5 (by decide)) (fun c_5 => ?_)
  refine lv_iload_n hx hb dX4_match_7 rfl (lv_at hl 0 rfl) ?_
  refine lv_iconst (v := 1) hx hb dX4_match_8 (by decide) ?_
  refine lv_icmp_gt (tgt := 16) hx hb dX4_match_9 (by decide) (fun c_6 => absurd c_6 (by decide)) (fun c_6 => ?_)
  refine lv_iconst (v := 5) hx hb dX4_match_12 (by decide) ?_
  refine lv_goto (tgt := 17) hx hb dX4_match_13 (by decide) ?_
  refine lv_istore (lv' := [(4, .int 5), (3, .int 1), (0, .ref nte), (1, .int pc), (2, .ref a)]) hx hb dX4_match_17 hl (by decide) rfl (fun ls hl => ?_)
  refine lv_aload_n hx hb dX4_match_19 rfl (lv_at hl 2 rfl) ?_
  refine lv_iload_n hx hb dX4_match_20 rfl (lv_at hl 1 rfl) ?_
  refine lv_iload_n hx hb dX4_match_21 rfl (lv_at hl 3 rfl) ?_
  have hPc := (hP.app hR).sub (ws' := [] ++ [(nte, .inr (10, [.ref nn, .ref ns, .ref ng, .int 0])), (nn, .inl (kZ, 240, .inl (fun _ => 0)))]) [0, 1] rfl
  have hDc := (en_DD hD hDr hN0 hAb).sub (ws' := [] ++ [(nte, .inr (10, [.ref nn, .ref ns, .ref ng, .int 0])), (nn, .inl (kZ, 240, .inl (fun _ => 0)))]) [0, 1] (by decide) rfl
  have hKc := hK.sub (tys' := [(kZ, .boolean)]) [0] rfl
  have hFc := va_free (wc := []) hD hS hA [] rfl
  refine va_calli (va_runV (As := [.int 1, .int pc]) (rest := []) ⟨hx, hb, hml, hown, hts⟩ (c_X4_has l dC dI b0 en H.size nte nn ns ng kZ 1 pc (z_c_X4_match_323 pc hp0 hp1) (z_c_X4_match_324 pc hp0 hp1) (z_c_X4_match_321 pc hp0 hp1) (z_c_X4_match_322 pc hp0 hp1)) (cwV 2 hts go_c_X4_match_0 rfl rfl rfl (by decide +kernel) ⟨Nat.le_of_ble_eq_true rfl, Nat.le_of_ble_eq_true rfl⟩) ⟨cP.blind, va_recv hK hR (ci := 10) (q0 := 0) rfl rfl, cP.use (en_z hb0 hS) (hE.on hAb hS) hPc hKc hDc trivial⟩ rfl rfl hl.1 rfl (lv_room (Nat.le_of_ble_eq_true rfl)) dX4_match_22 ⟨Nat.le_of_ble_eq_true rfl, Nat.le_of_ble_eq_true rfl⟩) hS (fun q _ h => hFc q h) hFc (fun r_7 u t H1 locs ht hvm hw hB hz1 hk1 hS => ?_)
  have hP1 : va_P (dC, dI) vwCl [] H1 := fun k q h => by simp at h
  have hD1 : va_D (va_A [] H.size) [] := ⟨fun i j p q h => by simp at h, fun k q h => by simp at h⟩
  try dsimp only at hw
  obtain ⟨hP, hD⟩ := va_join (wr := []) (w1 := []) hP hD [] [] rfl rfl (by decide) (by decide) hk1 hFc hP1 hD1
  generalize H1 = H at hP hS ⊢
  have hP : va_P (dC, dI) vwCl [] H := hP
  have hD : va_D A [] := hD
  have hR := en_R hR0 hN0 hS
  refine W.widen (k := 0) (n := 0) (Nat.le_of_ble_eq_true rfl) (Nat.le_of_ble_eq_true rfl) ?_
  subst r_7
  refine lv_if_eq (tgt := 50) hx hb dX4_match_25 (by decide) (fun c_8 => ?_) (fun c_8 => absurd c_8 (by decide))
  refine lv_iinc (v := 2) (lv' := [(3, .int 2), (4, .int 5), (0, .ref nte), (1, .int pc), (2, .ref a)]) hx hb dX4_match_50 hl (k := 1) rfl (by decide) (by decide) rfl (fun ls hl => ?_)
  refine lv_goto (tgt := 2) hx hb dX4_match_53 (by decide) ?_
  refine lv_iload_n hx hb dX4_match_2 rfl (lv_at hl 0 rfl) ?_
  refine lv_iconst (v := 4) hx hb dX4_match_3 (by decide) ?_
  refine lv_icmp_ge (tgt := 56) hx hb dX4_match_4 (by decide) (fun c_9 => absurd c_9 (by decide)) (fun c_9 => ?_)
  refine lv_iload_n hx hb dX4_match_7 rfl (lv_at hl 0 rfl) ?_
  refine lv_iconst (v := 1) hx hb dX4_match_8 (by decide) ?_
  refine lv_icmp_gt (tgt := 16) hx hb dX4_match_9 (by decide) (fun c_10 => ?_) (fun c_10 => absurd c_10 (by decide))
  refine lv_iconst (v := 0) hx hb dX4_match_16 (by decide) ?_
  refine lv_istore (lv' := [(4, .int 0), (3, .int 2), (0, .ref nte), (1, .int pc), (2, .ref a)]) hx hb dX4_match_17 hl (by decide) rfl (fun ls hl => ?_)
  refine lv_aload_n hx hb dX4_match_19 rfl (lv_at hl 2 rfl) ?_
  refine lv_iload_n hx hb dX4_match_20 rfl (lv_at hl 1 rfl) ?_
  refine lv_iload_n hx hb dX4_match_21 rfl (lv_at hl 3 rfl) ?_
  have hPc := (hP.app hR).sub (ws' := [] ++ [(nte, .inr (10, [.ref nn, .ref ns, .ref ng, .int 0])), (nn, .inl (kZ, 240, .inl (fun _ => 0)))]) [0, 1] rfl
  have hDc := (en_DD hD hDr hN0 hAb).sub (ws' := [] ++ [(nte, .inr (10, [.ref nn, .ref ns, .ref ng, .int 0])), (nn, .inl (kZ, 240, .inl (fun _ => 0)))]) [0, 1] (by decide) rfl
  have hKc := hK.sub (tys' := [(kZ, .boolean)]) [0] rfl
  have hFc := va_free (wc := []) hD hS hA [] rfl
  refine va_calli (va_runV (As := [.int 2, .int pc]) (rest := []) ⟨hx, hb, hml, hown, hts⟩ (c_X4_has l dC dI b0 en H.size nte nn ns ng kZ 2 pc (z_c_X4_match_325 pc hp0 hp1) (z_c_X4_match_326 pc hp0 hp1) (z_c_X4_match_321 pc hp0 hp1) (z_c_X4_match_322 pc hp0 hp1)) (cwV 2 hts go_c_X4_match_0 rfl rfl rfl (by decide +kernel) ⟨Nat.le_of_ble_eq_true rfl, Nat.le_of_ble_eq_true rfl⟩) ⟨cP.blind, va_recv hK hR (ci := 10) (q0 := 0) rfl rfl, cP.use (en_z hb0 hS) (hE.on hAb hS) hPc hKc hDc trivial⟩ rfl rfl hl.1 rfl (lv_room (Nat.le_of_ble_eq_true rfl)) dX4_match_22 ⟨Nat.le_of_ble_eq_true rfl, Nat.le_of_ble_eq_true rfl⟩) hS (fun q _ h => hFc q h) hFc (fun r_11 u t H1 locs ht hvm hw hB hz1 hk1 hS => ?_)
  have hP1 : va_P (dC, dI) vwCl [] H1 := fun k q h => by simp at h
  have hD1 : va_D (va_A [] H.size) [] := ⟨fun i j p q h => by simp at h, fun k q h => by simp at h⟩
  try dsimp only at hw
  obtain ⟨hP, hD⟩ := va_join (wr := []) (w1 := []) hP hD [] [] rfl rfl (by decide) (by decide) hk1 hFc hP1 hD1
  generalize H1 = H at hP hS ⊢
  have hP : va_P (dC, dI) vwCl [] H := hP
  have hD : va_D A [] := hD
  have hR := en_R hR0 hN0 hS
  refine W.widen (k := 0) (n := 0) (Nat.le_of_ble_eq_true rfl) (Nat.le_of_ble_eq_true rfl) ?_
  subst r_11
  refine lv_if_eq (tgt := 50) hx hb dX4_match_25 (by decide) (fun c_12 => ?_) (fun c_12 => absurd c_12 (by decide))
  refine lv_iinc (v := 3) (lv' := [(3, .int 3), (4, .int 0), (0, .ref nte), (1, .int pc), (2, .ref a)]) hx hb dX4_match_50 hl (k := 1) rfl (by decide) (by decide) rfl (fun ls hl => ?_)
  refine lv_goto (tgt := 2) hx hb dX4_match_53 (by decide) ?_
  refine lv_iload_n hx hb dX4_match_2 rfl (lv_at hl 0 rfl) ?_
  refine lv_iconst (v := 4) hx hb dX4_match_3 (by decide) ?_
  refine lv_icmp_ge (tgt := 56) hx hb dX4_match_4 (by decide) (fun c_13 => absurd c_13 (by decide)) (fun c_13 => ?_)
  refine lv_iload_n hx hb dX4_match_7 rfl (lv_at hl 0 rfl) ?_
  refine lv_iconst (v := 1) hx hb dX4_match_8 (by decide) ?_
  refine lv_icmp_gt (tgt := 16) hx hb dX4_match_9 (by decide) (fun c_14 => ?_) (fun c_14 => absurd c_14 (by decide))
  refine lv_iconst (v := 0) hx hb dX4_match_16 (by decide) ?_
  refine lv_istore (lv' := [(4, .int 0), (3, .int 3), (0, .ref nte), (1, .int pc), (2, .ref a)]) hx hb dX4_match_17 hl (by decide) rfl (fun ls hl => ?_)
  refine lv_aload_n hx hb dX4_match_19 rfl (lv_at hl 2 rfl) ?_
  refine lv_iload_n hx hb dX4_match_20 rfl (lv_at hl 1 rfl) ?_
  refine lv_iload_n hx hb dX4_match_21 rfl (lv_at hl 3 rfl) ?_
  have hPc := (hP.app hR).sub (ws' := [] ++ [(nte, .inr (10, [.ref nn, .ref ns, .ref ng, .int 0])), (nn, .inl (kZ, 240, .inl (fun _ => 0)))]) [0, 1] rfl
  have hDc := (en_DD hD hDr hN0 hAb).sub (ws' := [] ++ [(nte, .inr (10, [.ref nn, .ref ns, .ref ng, .int 0])), (nn, .inl (kZ, 240, .inl (fun _ => 0)))]) [0, 1] (by decide) rfl
  have hKc := hK.sub (tys' := [(kZ, .boolean)]) [0] rfl
  have hFc := va_free (wc := []) hD hS hA [] rfl
  refine va_calli (va_runV (As := [.int 3, .int pc]) (rest := []) ⟨hx, hb, hml, hown, hts⟩ (c_X4_has l dC dI b0 en H.size nte nn ns ng kZ 3 pc (z_c_X4_match_327 pc hp0 hp1) (z_c_X4_match_328 pc hp0 hp1) (z_c_X4_match_321 pc hp0 hp1) (z_c_X4_match_322 pc hp0 hp1)) (cwV 2 hts go_c_X4_match_0 rfl rfl rfl (by decide +kernel) ⟨Nat.le_of_ble_eq_true rfl, Nat.le_of_ble_eq_true rfl⟩) ⟨cP.blind, va_recv hK hR (ci := 10) (q0 := 0) rfl rfl, cP.use (en_z hb0 hS) (hE.on hAb hS) hPc hKc hDc trivial⟩ rfl rfl hl.1 rfl (lv_room (Nat.le_of_ble_eq_true rfl)) dX4_match_22 ⟨Nat.le_of_ble_eq_true rfl, Nat.le_of_ble_eq_true rfl⟩) hS (fun q _ h => hFc q h) hFc (fun r_15 u t H1 locs ht hvm hw hB hz1 hk1 hS => ?_)
  have hP1 : va_P (dC, dI) vwCl [] H1 := fun k q h => by simp at h
  have hD1 : va_D (va_A [] H.size) [] := ⟨fun i j p q h => by simp at h, fun k q h => by simp at h⟩
  try dsimp only at hw
  obtain ⟨hP, hD⟩ := va_join (wr := []) (w1 := []) hP hD [] [] rfl rfl (by decide) (by decide) hk1 hFc hP1 hD1
  generalize H1 = H at hP hS ⊢
  have hP : va_P (dC, dI) vwCl [] H := hP
  have hD : va_D A [] := hD
  have hR := en_R hR0 hN0 hS
  refine W.widen (k := 0) (n := 0) (Nat.le_of_ble_eq_true rfl) (Nat.le_of_ble_eq_true rfl) ?_
  subst r_15
  refine lv_if_eq (tgt := 50) hx hb dX4_match_25 (by decide) (fun c_16 => ?_) (fun c_16 => absurd c_16 (by decide))
  refine lv_iinc (v := 4) (lv' := [(3, .int 4), (4, .int 0), (0, .ref nte), (1, .int pc), (2, .ref a)]) hx hb dX4_match_50 hl (k := 1) rfl (by decide) (by decide) rfl (fun ls hl => ?_)
  refine lv_goto (tgt := 2) hx hb dX4_match_53 (by decide) ?_
  refine lv_iload_n hx hb dX4_match_2 rfl (lv_at hl 0 rfl) ?_
  refine lv_iconst (v := 4) hx hb dX4_match_3 (by decide) ?_
  refine lv_icmp_ge (tgt := 56) hx hb dX4_match_4 (by decide) (fun c_17 => ?_) (fun c_17 => absurd c_17 (by decide))
  refine lv_iconst (v := 1) hx hb dX4_match_56 (by decide) ?_
  refine W.widen (k := 0) (n := 0) (Nat.le_of_ble_eq_true rfl) (Nat.le_of_ble_eq_true rfl) ?_
  exact W.zret (v := 1) hx hb hr (by first | rfl | decide +kernel) (fun t ht hW => ⟨⟨1, (), rfl, (z_c_X18_isAlike_98 pc hp0 hp1), trivial⟩, hS.F ht⟩) hS.2.2 dX4_match_57

def wo_c_X4_count_w : List Cond := [Cond.fieldLink RX4 50 "Underpaint$Notes" "possible" "I"]
def wo_c_X4_count : List Cond := .code yX4_countGuesses cX4_countGuesses 6 (some .int) :: (wo_c_X4_count_w ++ (u_ws RX4 TX4 4 ++ (wsV RX4 54 RJx4a65c yJx4a65c_size_8abf5 wsJx4a65c_size_8abf5 ++ List.nil)))
theorem gw_wo_c_X4_count : wo_c_X4_count.all goodWord = true := gw_c (by decide +kernel) (gw_a (by decide +kernel) (gw_a (by decide +kernel) (gw_a (gw_a (by decide +kernel) gw_wsJx4a65c_size_8abf5) rfl)))
theorem go_c_X4_count_0 : GoodIn wo_c_X4_count (wsV RX4 54 RJx4a65c yJx4a65c_size_8abf5 wsJx4a65c_size_8abf5) := goodIn_sub (fun _ h => List.mem_cons_of_mem _ (List.mem_append_right _ (List.mem_append_right _ (List.mem_append_left _ h)))) (gw_a (by decide +kernel) gw_wsJx4a65c_size_8abf5)
set_option maxHeartbeats 4000000 in
set_option maxRecDepth 100000 in
/-- Notes.countGuesses without stuffs -/
theorem c_X4_count (l : Launch) (dC : Nat → ClassId) (dI : Nat → Nat → Nat) (b0 : Nat) (en : EnT) (sz : Nat) (nte nn ns ng pal : Nat) (pc la : Int32) : Met l yX4_countGuesses wo_c_X4_count ({ frames := 1, cells := 0, slots := 0, locals := 20 } : Room) (cP b0 en (dC, dI) [] [(nte, .inr (10, [.ref nn, .ref ns, .ref ng, .int 0]))] [(pal, .inr (5, [.int 0, .ref en.2.2.1, .int 0]))] sz (fun _ => True) [.ref nte, .ref pal, .int pc, .int la]) (va_Qi (fun (r : Int32) (_ : Unit) => r = 0) (fun _ _ => True) (va_A [(nte, .inr (10, [.ref nn, .ref ns, .ref ng, .int 0]))] sz)) 0 0 (va_A [(nte, .inr (10, [.ref nn, .ref ns, .ref ng, .int 0]))] sz) := by
  refine Met.ofW (cc := cX4_countGuesses) (maxL := 6) (ret := (some .int)) (by decide) rfl ?_
  intro p e s m args below meth c s₁ B hml hv
  obtain ⟨rfl, hsz, hb0, hE, hPP, hK, hDD, hF0⟩ := hv
  have hx := B.exec
  have hb := B.bytes
  have hr := B.returns
  have hts := atoms_spec (ws := wo_c_X4_count) B.pre
  have hown : s.vm.findClass RX4 = some m.cls := findClass_of_methodNamed B.named
  have hlocks := B.notSynchronized
  subst hsz
  have hN0 := en_N hPP hDD rfl
  have hP : va_P (dC, dI) vwCl [(nte, .inr (10, [.ref nn, .ref ns, .ref ng, .int 0]))] s.heap := hPP.sub [0] rfl
  have hR0 : va_P (dC, dI) vwCl [(pal, .inr (5, [.int 0, .ref en.2.2.1, .int 0]))] s.heap := hPP.sub [1] rfl
  have hD0 : va_D (fun q => b0 ≤ q) [(nte, .inr (10, [.ref nn, .ref ns, .ref ng, .int 0]))] := hDD.sub [0] (by decide) rfl
  have hDr : va_D (fun q => b0 ≤ q) [(pal, .inr (5, [.int 0, .ref en.2.2.1, .int 0]))] := hDD.sub [1] (by decide) rfl
  have hAb := en_A (sz := s.heap.size) hD0 hb0
  have hD := hD0.self (sz := s.heap.size)
  generalize hAe : va_A [(nte, .inr (10, [.ref nn, .ref ns, .ref ng, .int 0]))] s.heap.size = A at hD hAb hN0 ⊢
  have hA : ∀ q : Nat, s.heap.size ≤ q → A q := fun q h => by rw [← hAe]; exact Or.inr h
  have hS : va_S A s.heap s.heap [] := va_S.rf
  have hR := hR0
  have hl := lv_entry [.ref nte, .ref pal, .int pc, .int la] (n := 6) (Nat.le_of_ble_eq_true rfl)
  rw [lg_entry_eq]
  generalize (lg_sl [.ref nte, .ref pal, .int pc, .int la] ++ List.replicate (6 - (lg_sl [.ref nte, .ref pal, .int pc, .int la]).length) Slot.unset).toArray = ls at hl ⊢
  have hl : lv_has ls 6 [(0, .ref nte), (1, .ref pal), (2, .int pc), (3, .int la)] := hl
  refine lv_aload_n hx hb dX4_countGuesses_0 rfl (lv_at hl 0 rfl) ?_
  refine lv_iconst (v := 0) hx hb dX4_countGuesses_1 (by decide) ?_
  refine va_put (D := (dC, dI)) (ci := 10) (v := .int 0) (ty := .int) (C := RX4) (T := TX4) (N := 4) hx hb hts (by decide +kernel) tyX4 tyX4_ok nmX4 hown hK hP hD hS 0 rfl rfl 3 (by decide) (hts (.fieldLink RX4 50 "Underpaint$Notes" "possible" "I") (by decide +kernel)) (fun _ h9 => h9) rfl (by decide +kernel) rfl rfl (Nat.le_of_ble_eq_true rfl) dX4_countGuesses_2 (fun H locs hP hD hS => ?_)
  have hP : va_P (dC, dI) vwCl [(nte, .inr (10, [.ref nn, .ref ns, .ref ng, .int 0]))] H := hP
  have hD : va_D A [(nte, .inr (10, [.ref nn, .ref ns, .ref ng, .int 0]))] := hD
  have hR := en_R hR0 hN0 hS
  refine lv_iconst (v := 1) hx hb dX4_countGuesses_5 (by decide) ?_
  refine lv_istore (lv' := [(4, .int 1), (0, .ref nte), (1, .ref pal), (2, .int pc), (3, .int la)]) hx hb dX4_countGuesses_6 hl (by decide) rfl (fun ls hl => ?_)
  refine lv_iload hx hb dX4_countGuesses_8 (lv_at hl 0 rfl) ?_
  refine lv_iconst (v := 3) hx hb dX4_countGuesses_10 (by decide) ?_
  refine lv_icmp_gt (tgt := 66) hx hb dX4_countGuesses_11 (by decide) (fun c_1 => absurd c_1 (by decide)) (fun c_1 => ?_)
  refine lv_iconst (v := 0) hx hb dX4_countGuesses_14 (by decide) ?_
  refine lv_istore (lv' := [(5, .int 0), (4, .int 1), (0, .ref nte), (1, .ref pal), (2, .int pc), (3, .int la)]) hx hb dX4_countGuesses_15 hl (by decide) rfl (fun ls hl => ?_)
  refine lv_iload hx hb dX4_countGuesses_17 (lv_at hl 0 rfl) ?_
  refine lv_aload_n hx hb dX4_countGuesses_19 rfl (lv_at hl 3 rfl) ?_
  have hPc := (hP.app hR).sub (ws' := [] ++ [(pal, .inr (5, [.int 0, .ref en.2.2.1, .int 0]))]) [1] rfl
  have hDc := (en_DD hD hDr hN0 hAb).sub (ws' := [] ++ [(pal, .inr (5, [.int 0, .ref en.2.2.1, .int 0]))]) [1] (by decide) rfl
  have hKc := hK.sub (tys' := []) [] rfl
  have hFc := va_free (wc := []) hD hS hA [] rfl
  refine va_calli (va_runV (As := []) (rest := [.int 0]) ⟨hx, hb, hml, hown, hts⟩ (c_Jx4a65c_size l dC dI b0 en H.size pal en.2.2.1 0 0) (cwV 0 hts go_c_X4_count_0 rfl rfl rfl (by decide +kernel) ⟨Nat.le_of_ble_eq_true rfl, Nat.le_of_ble_eq_true rfl⟩) ⟨cP.blind, va_recv hK hR (ci := 5) (q0 := 0) rfl rfl, cP.use (en_z hb0 hS) (hE.on hAb hS) hPc hKc hDc trivial⟩ rfl rfl hl.1 rfl (lv_room (Nat.le_of_ble_eq_true rfl)) dX4_countGuesses_20 ⟨Nat.le_of_ble_eq_true rfl, Nat.le_of_ble_eq_true rfl⟩) hS (fun q _ h => hFc q h) hFc (fun r_2 u t H1 locs ht hvm hw hB hz1 hk1 hS => ?_)
  have hP1 : va_P (dC, dI) vwCl [] H1 := fun k q h => by simp at h
  have hD1 : va_D (va_A [] H.size) [] := ⟨fun i j p q h => by simp at h, fun k q h => by simp at h⟩
  try dsimp only at hw
  obtain ⟨hP, hD⟩ := va_join (wr := [(nte, .inr (10, [.ref nn, .ref ns, .ref ng, .int 0]))]) (w1 := []) hP hD [] [0] rfl rfl (by decide) (by decide) hk1 hFc hP1 hD1
  generalize H1 = H at hP hS ⊢
  have hP : va_P (dC, dI) vwCl [(nte, .inr (10, [.ref nn, .ref ns, .ref ng, .int 0]))] H := hP
  have hD : va_D A [(nte, .inr (10, [.ref nn, .ref ns, .ref ng, .int 0]))] := hD
  have hR := en_R hR0 hN0 hS
  refine W.widen (k := 0) (n := 0) (Nat.le_of_ble_eq_true rfl) (Nat.le_of_ble_eq_true rfl) ?_
  subst r_2
  refine lv_icmp_ge (tgt := 60) hx hb dX4_countGuesses_23 (by decide) (fun c_3 => ?_) (fun c_3 => absurd c_3 (by decide))
  refine lv_iinc (v := 2) (lv' := [(4, .int 2), (5, .int 0), (0, .ref nte), (1, .ref pal), (2, .int pc), (3, .int la)]) hx hb dX4_countGuesses_60 hl (k := 1) rfl (by decide) (by decide) rfl (fun ls hl => ?_)
  refine lv_goto (tgt := 8) hx hb dX4_countGuesses_63 (by decide) ?_
  refine lv_iload hx hb dX4_countGuesses_8 (lv_at hl 0 rfl) ?_
  refine lv_iconst (v := 3) hx hb dX4_countGuesses_10 (by decide) ?_
  refine lv_icmp_gt (tgt := 66) hx hb dX4_countGuesses_11 (by decide) (fun c_4 => absurd c_4 (by decide)) (fun c_4 => ?_)
  refine lv_iconst (v := 0) hx hb dX4_countGuesses_14 (by decide) ?_
  refine lv_istore (lv' := [(5, .int 0), (4, .int 2), (0, .ref nte), (1, .ref pal), (2, .int pc), (3, .int la)]) hx hb dX4_countGuesses_15 hl (by decide) rfl (fun ls hl => ?_)
  refine lv_iload hx hb dX4_countGuesses_17 (lv_at hl 0 rfl) ?_
  refine lv_aload_n hx hb dX4_countGuesses_19 rfl (lv_at hl 3 rfl) ?_
  have hPc := (hP.app hR).sub (ws' := [] ++ [(pal, .inr (5, [.int 0, .ref en.2.2.1, .int 0]))]) [1] rfl
  have hDc := (en_DD hD hDr hN0 hAb).sub (ws' := [] ++ [(pal, .inr (5, [.int 0, .ref en.2.2.1, .int 0]))]) [1] (by decide) rfl
  have hKc := hK.sub (tys' := []) [] rfl
  have hFc := va_free (wc := []) hD hS hA [] rfl
  refine va_calli (va_runV (As := []) (rest := [.int 0]) ⟨hx, hb, hml, hown, hts⟩ (c_Jx4a65c_size l dC dI b0 en H.size pal en.2.2.1 0 0) (cwV 0 hts go_c_X4_count_0 rfl rfl rfl (by decide +kernel) ⟨Nat.le_of_ble_eq_true rfl, Nat.le_of_ble_eq_true rfl⟩) ⟨cP.blind, va_recv hK hR (ci := 5) (q0 := 0) rfl rfl, cP.use (en_z hb0 hS) (hE.on hAb hS) hPc hKc hDc trivial⟩ rfl rfl hl.1 rfl (lv_room (Nat.le_of_ble_eq_true rfl)) dX4_countGuesses_20 ⟨Nat.le_of_ble_eq_true rfl, Nat.le_of_ble_eq_true rfl⟩) hS (fun q _ h => hFc q h) hFc (fun r_5 u t H1 locs ht hvm hw hB hz1 hk1 hS => ?_)
  have hP1 : va_P (dC, dI) vwCl [] H1 := fun k q h => by simp at h
  have hD1 : va_D (va_A [] H.size) [] := ⟨fun i j p q h => by simp at h, fun k q h => by simp at h⟩
  try dsimp only at hw
  obtain ⟨hP, hD⟩ := va_join (wr := [(nte, .inr (10, [.ref nn, .ref ns, .ref ng, .int 0]))]) (w1 := []) hP hD [] [0] rfl rfl (by decide) (by decide) hk1 hFc hP1 hD1
  generalize H1 = H at hP hS ⊢
  have hP : va_P (dC, dI) vwCl [(nte, .inr (10, [.ref nn, .ref ns, .ref ng, .int 0]))] H := hP
  have hD : va_D A [(nte, .inr (10, [.ref nn, .ref ns, .ref ng, .int 0]))] := hD
  have hR := en_R hR0 hN0 hS
  refine W.widen (k := 0) (n := 0) (Nat.le_of_ble_eq_true rfl) (Nat.le_of_ble_eq_true rfl) ?_
  subst r_5
  refine lv_icmp_ge (tgt := 60) hx hb dX4_countGuesses_23 (by decide) (fun c_6 => ?_) (fun c_6 => absurd c_6 (by decide))
  refine lv_iinc (v := 3) (lv' := [(4, .int 3), (5, .int 0), (0, .ref nte), (1, .ref pal), (2, .int pc), (3, .int la)]) hx hb dX4_countGuesses_60 hl (k := 1) rfl (by decide) (by decide) rfl (fun ls hl => ?_)
  refine lv_goto (tgt := 8) hx hb dX4_countGuesses_63 (by decide) ?_
  refine lv_iload hx hb dX4_countGuesses_8 (lv_at hl 0 rfl) ?_
  refine lv_iconst (v := 3) hx hb dX4_countGuesses_10 (by decide) ?_
  refine lv_icmp_gt (tgt := 66) hx hb dX4_countGuesses_11 (by decide) (fun c_7 => absurd c_7 (by decide)) (fun c_7 => ?_)
  refine lv_iconst (v := 0) hx hb dX4_countGuesses_14 (by decide) ?_
  refine lv_istore (lv' := [(5, .int 0), (4, .int 3), (0, .ref nte), (1, .ref pal), (2, .int pc), (3, .int la)]) hx hb dX4_countGuesses_15 hl (by decide) rfl (fun ls hl => ?_)
  refine lv_iload hx hb dX4_countGuesses_17 (lv_at hl 0 rfl) ?_
  refine lv_aload_n hx hb dX4_countGuesses_19 rfl (lv_at hl 3 rfl) ?_
  have hPc := (hP.app hR).sub (ws' := [] ++ [(pal, .inr (5, [.int 0, .ref en.2.2.1, .int 0]))]) [1] rfl
  have hDc := (en_DD hD hDr hN0 hAb).sub (ws' := [] ++ [(pal, .inr (5, [.int 0, .ref en.2.2.1, .int 0]))]) [1] (by decide) rfl
  have hKc := hK.sub (tys' := []) [] rfl
  have hFc := va_free (wc := []) hD hS hA [] rfl
  refine va_calli (va_runV (As := []) (rest := [.int 0]) ⟨hx, hb, hml, hown, hts⟩ (c_Jx4a65c_size l dC dI b0 en H.size pal en.2.2.1 0 0) (cwV 0 hts go_c_X4_count_0 rfl rfl rfl (by decide +kernel) ⟨Nat.le_of_ble_eq_true rfl, Nat.le_of_ble_eq_true rfl⟩) ⟨cP.blind, va_recv hK hR (ci := 5) (q0 := 0) rfl rfl, cP.use (en_z hb0 hS) (hE.on hAb hS) hPc hKc hDc trivial⟩ rfl rfl hl.1 rfl (lv_room (Nat.le_of_ble_eq_true rfl)) dX4_countGuesses_20 ⟨Nat.le_of_ble_eq_true rfl, Nat.le_of_ble_eq_true rfl⟩) hS (fun q _ h => hFc q h) hFc (fun r_8 u t H1 locs ht hvm hw hB hz1 hk1 hS => ?_)
  have hP1 : va_P (dC, dI) vwCl [] H1 := fun k q h => by simp at h
  have hD1 : va_D (va_A [] H.size) [] := ⟨fun i j p q h => by simp at h, fun k q h => by simp at h⟩
  try dsimp only at hw
  obtain ⟨hP, hD⟩ := va_join (wr := [(nte, .inr (10, [.ref nn, .ref ns, .ref ng, .int 0]))]) (w1 := []) hP hD [] [0] rfl rfl (by decide) (by decide) hk1 hFc hP1 hD1
  generalize H1 = H at hP hS ⊢
  have hP : va_P (dC, dI) vwCl [(nte, .inr (10, [.ref nn, .ref ns, .ref ng, .int 0]))] H := hP
  have hD : va_D A [(nte, .inr (10, [.ref nn, .ref ns, .ref ng, .int 0]))] := hD
  have hR := en_R hR0 hN0 hS
  refine W.widen (k := 0) (n := 0) (Nat.le_of_ble_eq_true rfl) (Nat.le_of_ble_eq_true rfl) ?_
  subst r_8
  refine lv_icmp_ge (tgt := 60) hx hb dX4_countGuesses_23 (by decide) (fun c_9 => ?_) (fun c_9 => absurd c_9 (by decide))
  refine lv_iinc (v := 4) (lv' := [(4, .int 4), (5, .int 0), (0, .ref nte), (1, .ref pal), (2, .int pc), (3, .int la)]) hx hb dX4_countGuesses_60 hl (k := 1) rfl (by decide) (by decide) rfl (fun ls hl => ?_)
  refine lv_goto (tgt := 8) hx hb dX4_countGuesses_63 (by decide) ?_
  refine lv_iload hx hb dX4_countGuesses_8 (lv_at hl 0 rfl) ?_
  refine lv_iconst (v := 3) hx hb dX4_countGuesses_10 (by decide) ?_
  refine lv_icmp_gt (tgt := 66) hx hb dX4_countGuesses_11 (by decide) (fun c_10 => ?_) (fun c_10 => absurd c_10 (by decide))
  refine lv_aload_n hx hb dX4_countGuesses_66 rfl (lv_at hl 2 rfl) ?_
  refine va_get (D := (dC, dI)) (ci := 10) (v := .int 0) (C := RX4) (T := TX4) (N := 4) hx hb hts (by decide +kernel) hown hK hP 0 rfl rfl 3 (by decide) (hts (.fieldLink RX4 50 "Underpaint$Notes" "possible" "I") (by decide +kernel)) (fun _ h9 => h9) rfl dX4_countGuesses_67 ?_
  refine W.widen (k := 0) (n := 0) (Nat.le_of_ble_eq_true rfl) (Nat.le_of_ble_eq_true rfl) ?_
  exact W.iret (v := 0) hx hb hr (fun t ht hW => ⟨⟨0, (), rfl, (z_c_X14_lends_164), trivial⟩, hS.F ht⟩) hS.2.2 dX4_countGuesses_70
theorem z_c_X11_note_329 (ray : Int32) (x : Int32) (y : Int32) (a_0 : ¬ (0 ≤ ixL 1 ray ∧ ((0 ≤ x ∧ x < 8) ∧ (0 ≤ y ∧ y < 6)))) : ¬ (0 ≤ ixL 1 ray ∧ ((0 ≤ x ∧ x < 8) ∧ (0 ≤ y ∧ y < 6))) := by grind [ixL1]
theorem z_c_X11_note_330 (ray : Int32) (x : Int32) (y : Int32) (a_0 : 0 ≤ ixL 1 ray ∧ ((0 ≤ x ∧ x < 8) ∧ (0 ≤ y ∧ y < 6))) : 1 < 6 := by grind [ixL1]
theorem z_c_X11_note_331 (ray : Int32) (x : Int32) (y : Int32) (a_0 : 0 ≤ ixL 1 ray ∧ ((0 ≤ x ∧ x < 8) ∧ (0 ≤ y ∧ y < 6))) : (0 ≤ x ∧ x < 8) ∧ (0 ≤ y ∧ y < 6) := by grind [ixL1]
theorem z_c_X11_note_332 (ray : Int32) (x : Int32) (y : Int32) (r_4 : Int32) (a_0 : 0 ≤ ixL 1 ray ∧ ((0 ≤ x ∧ x < 8) ∧ (0 ≤ y ∧ y < 6))) (a_1 : r_4 = if (ixL 1 ray) = 0 then 50 else if (ixL 1 ray) = 2 then -1 else 0) : 1 < 6 := by grind [ixL1]
theorem z_c_X11_note_333 (ray : Int32) (x : Int32) (y : Int32) (r_4 : Int32) (a_0 : 0 ≤ ixL 1 ray ∧ ((0 ≤ x ∧ x < 8) ∧ (0 ≤ y ∧ y < 6))) (a_1 : r_4 = if (ixL 1 ray) = 0 then 50 else if (ixL 1 ray) = 2 then -1 else 0) : (0 : Int32) ≤ (ixL 1 ray) := by grind [ixL1]
theorem z_c_X11_note_334 (ray : Int32) (x : Int32) (y : Int32) (r_4 : Int32) (a_0 : 0 ≤ ixL 1 ray ∧ ((0 ≤ x ∧ x < 8) ∧ (0 ≤ y ∧ y < 6))) (a_1 : r_4 = if (ixL 1 ray) = 0 then 50 else if (ixL 1 ray) = 2 then -1 else 0) : ((ixL 1 ray) : Int32) < 5 := by grind [ixL1]
theorem z_c_X11_note_335 (ray : Int32) (x : Int32) (y : Int32) (r_4 : Int32) (a_0 : 0 ≤ ixL 1 ray ∧ ((0 ≤ x ∧ x < 8) ∧ (0 ≤ y ∧ y < 6))) (a_1 : r_4 = if (ixL 1 ray) = 0 then 50 else if (ixL 1 ray) = 2 then -1 else 0) : 0 ≤ (y * 8 + x) := by grind [ixL1]
theorem z_c_X11_note_336 (ray : Int32) (x : Int32) (y : Int32) (r_4 : Int32) (a_0 : 0 ≤ ixL 1 ray ∧ ((0 ≤ x ∧ x < 8) ∧ (0 ≤ y ∧ y < 6))) (a_1 : r_4 = if (ixL 1 ray) = 0 then 50 else if (ixL 1 ray) = 2 then -1 else 0) : (y * 8 + x) < 48 := by grind [ixL1]
theorem z_c_X11_note_337 (ray : Int32) (x : Int32) (y : Int32) (r_4 : Int32) (a_0 : 0 ≤ ixL 1 ray ∧ ((0 ≤ x ∧ x < 8) ∧ (0 ≤ y ∧ y < 6))) (a_1 : r_4 = if (ixL 1 ray) = 0 then 50 else if (ixL 1 ray) = 2 then -1 else 0) : (r_4 = if ixL 1 ray = 0 then 50 else if ixL 1 ray = 2 then -1 else 0) ∧ 0 ≤ ixL 1 ray ∧ ((0 ≤ x ∧ x < 8) ∧ (0 ≤ y ∧ y < 6)) := by grind [ixL1]
def wo_c_X11_note_w : List Cond := [Cond.fieldLink RX11 62 "Underpaint" "picture" "LUnderpaint$Picture;", Cond.fieldLink RX11 25 "Underpaint" "notes" "LUnderpaint$Notes;"]
def wo_c_X11_note : List Cond := .code yX11_note cX11_note 5 (some .int) :: (wo_c_X11_note_w ++ (u_ws RX11 TX11 14 ++ (va_wsS RX11 212 yX11_demandRayAndPlace wsX11_demandRayAndPlace ++ (wsV RX11 81 RJ0 yJ0_indexOf_0f7a4 wsJ0_indexOf_0f7a4 ++ (wsV RX11 218 RX5 yX5_see wo_c_X5_see ++ (va_wsS RX11 222 yX11_placeOf wsX11_placeOf ++ (wsV RX11 226 RX4 yX4_keep wo_c_X4_keep ++ List.nil)))))))
theorem gw_wo_c_X11_note : wo_c_X11_note.all goodWord = true := gw_c (by decide +kernel) (gw_a (by decide +kernel) (gw_a (by decide +kernel) (gw_a (gw_a (by decide +kernel) gw_wsX11_demandRayAndPlace) (gw_a (gw_a (by decide +kernel) gw_wsJ0_indexOf_0f7a4) (gw_a (gw_a (by decide +kernel) gw_wo_c_X5_see) (gw_a (gw_a (by decide +kernel) gw_wsX11_placeOf) (gw_a (gw_a (by decide +kernel) gw_wo_c_X4_keep) rfl)))))))
theorem go_c_X11_note_0 : GoodIn wo_c_X11_note (va_wsS RX11 212 yX11_demandRayAndPlace wsX11_demandRayAndPlace) := goodIn_sub (fun _ h => List.mem_cons_of_mem _ (List.mem_append_right _ (List.mem_append_right _ (List.mem_append_left _ h)))) (gw_a (by decide +kernel) gw_wsX11_demandRayAndPlace)
theorem go_c_X11_note_1 : GoodIn wo_c_X11_note (wsV RX11 81 RJ0 yJ0_indexOf_0f7a4 wsJ0_indexOf_0f7a4) := goodIn_sub (fun _ h => List.mem_cons_of_mem _ (List.mem_append_right _ (List.mem_append_right _ (List.mem_append_right _ (List.mem_append_left _ h))))) (gw_a (by decide +kernel) gw_wsJ0_indexOf_0f7a4)
theorem go_c_X11_note_2 : GoodIn wo_c_X11_note (wsV RX11 218 RX5 yX5_see wo_c_X5_see) := goodIn_sub (fun _ h => List.mem_cons_of_mem _ (List.mem_append_right _ (List.mem_append_right _ (List.mem_append_right _ (List.mem_append_right _ (List.mem_append_left _ h)))))) (gw_a (by decide +kernel) gw_wo_c_X5_see)
theorem go_c_X11_note_3 : GoodIn wo_c_X11_note (va_wsS RX11 222 yX11_placeOf wsX11_placeOf) := goodIn_sub (fun _ h => List.mem_cons_of_mem _ (List.mem_append_right _ (List.mem_append_right _ (List.mem_append_right _ (List.mem_append_right _ (List.mem_append_right _ (List.mem_append_left _ h))))))) (gw_a (by decide +kernel) gw_wsX11_placeOf)
theorem go_c_X11_note_4 : GoodIn wo_c_X11_note (wsV RX11 226 RX4 yX4_keep wo_c_X4_keep) := goodIn_sub (fun _ h => List.mem_cons_of_mem _ (List.mem_append_right _ (List.mem_append_right _ (List.mem_append_right _ (List.mem_append_right _ (List.mem_append_right _ (List.mem_append_right _ (List.mem_append_left _ h)))))))) (gw_a (by decide +kernel) gw_wo_c_X4_keep)
set_option maxHeartbeats 4000000 in
set_option maxRecDepth 100000 in
theorem c_X11_note (l : Launch) (hst : l.stackTraces = false) (dC : Nat → ClassId) (dI : Nat → Nat → Nat) (b0 : Nat) (en : EnT) (sz : Nat) (h pal she fil nte dat vot loa nos pic spa : Nat) (st sp ll : Nat) (g : Nat → Option Nat) (cS : ClassId) (N : Nat → Prop) (nn ns ng : Nat) (kZ kI : ClassId) (ray x y : Int32) (hNb : ∀ a, N a → b0 ≤ a ∧ a < sz) (hNw : ∀ a, N a → a ∉ List.map Prod.fst ([(nn, .inl (kZ, 240, .inl (fun _ => 0))), (ns, .inl (kI, 240, .inl (fun _ => 0)))] : va_W)) (hNr : ∀ a, N a → a ∉ List.map Prod.fst ([(h, .inr (17, [.ref pal, .ref she, .ref fil, .ref nte, .ref dat, .ref vot, .ref loa, .ref nos, .ref pic, .ref spa, .int 5, .int 50, .int 1600, .int 0])), (nte, .inr (10, [.ref nn, .ref ns, .ref ng, .int 0])), (pic, .inr (11, [.ref st, .ref sp, .ref ll, .int 0, .int 1600])), (st, .inl (cS, 48, .inr (.inr (.inr (.inr g)))))] : va_W)) : vx_Met l yX11_note wo_c_X11_note ({ frames := 7, cells := 1, slots := 6, locals := 153 } : Room) (cP b0 en (dC, dI) [(cS, .object "Underpaint$Stack"), (kZ, .boolean), (kI, .int)] [(nn, .inl (kZ, 240, .inl (fun _ => 0))), (ns, .inl (kI, 240, .inl (fun _ => 0)))] [(h, .inr (17, [.ref pal, .ref she, .ref fil, .ref nte, .ref dat, .ref vot, .ref loa, .ref nos, .ref pic, .ref spa, .int 5, .int 50, .int 1600, .int 0])), (nte, .inr (10, [.ref nn, .ref ns, .ref ng, .int 0])), (pic, .inr (11, [.ref st, .ref sp, .ref ll, .int 0, .int 1600])), (st, .inl (cS, 48, .inr (.inr (.inr (.inr g)))))] sz (FamS (dC, dI) N g) [.ref h, .int ray, .int x, .int y]) (va_Qi (fun (r : Int32) (_ : Unit) => (r = if ixL 1 ray = 0 then 50 else if ixL 1 ray = 2 then -1 else 0) ∧ 0 ≤ ixL 1 ray ∧ ((0 ≤ x ∧ x < 8) ∧ (0 ≤ y ∧ y < 6))) (fun _ _ => True) (va_A [(nn, .inl (kZ, 240, .inl (fun _ => 0))), (ns, .inl (kI, 240, .inl (fun _ => 0)))] sz)) (vx_X (fun _ : Unit => True) (fun E _ _ => (E = "java/lang/IllegalArgumentException" ∧ ¬ (0 ≤ ixL 1 ray ∧ ((0 ≤ x ∧ x < 8) ∧ (0 ≤ y ∧ y < 6))))) (va_A [(nn, .inl (kZ, 240, .inl (fun _ => 0))), (ns, .inl (kI, 240, .inl (fun _ => 0)))] sz)) 1 6 (va_A [(nn, .inl (kZ, 240, .inl (fun _ => 0))), (ns, .inl (kI, 240, .inl (fun _ => 0)))] sz) := by
  refine vx_ofW (cc := cX11_note) (maxL := 5) (ret := (some .int)) (by decide) rfl ?_
  intro p e s m args below meth c s₁ B hml hext hv
  obtain ⟨rfl, hsz, hb0, hE, hPP, hK, hDD, hF0⟩ := hv
  have hx := B.exec
  have hb := B.bytes
  have hr := B.returns
  have hts := atoms_spec (ws := wo_c_X11_note) B.pre
  have hown : s.vm.findClass RX11 = some m.cls := findClass_of_methodNamed B.named
  have hlocks := B.notSynchronized
  subst hsz
  have hN0 := en_N hPP hDD rfl
  have hP : va_P (dC, dI) vwCl [(nn, .inl (kZ, 240, .inl (fun _ => 0))), (ns, .inl (kI, 240, .inl (fun _ => 0)))] s.heap := hPP.sub [0, 1] rfl
  have hR0 : va_P (dC, dI) vwCl [(h, .inr (17, [.ref pal, .ref she, .ref fil, .ref nte, .ref dat, .ref vot, .ref loa, .ref nos, .ref pic, .ref spa, .int 5, .int 50, .int 1600, .int 0])), (nte, .inr (10, [.ref nn, .ref ns, .ref ng, .int 0])), (pic, .inr (11, [.ref st, .ref sp, .ref ll, .int 0, .int 1600])), (st, .inl (cS, 48, .inr (.inr (.inr (.inr g)))))] s.heap := hPP.sub [2, 3, 4, 5] rfl
  have hD0 : va_D (fun q => b0 ≤ q) [(nn, .inl (kZ, 240, .inl (fun _ => 0))), (ns, .inl (kI, 240, .inl (fun _ => 0)))] := hDD.sub [0, 1] (by decide) rfl
  have hDr : va_D (fun q => b0 ≤ q) [(h, .inr (17, [.ref pal, .ref she, .ref fil, .ref nte, .ref dat, .ref vot, .ref loa, .ref nos, .ref pic, .ref spa, .int 5, .int 50, .int 1600, .int 0])), (nte, .inr (10, [.ref nn, .ref ns, .ref ng, .int 0])), (pic, .inr (11, [.ref st, .ref sp, .ref ll, .int 0, .int 1600])), (st, .inl (cS, 48, .inr (.inr (.inr (.inr g)))))] := hDD.sub [2, 3, 4, 5] (by decide) rfl
  have hAb := en_A (sz := s.heap.size) hD0 hb0
  have hD := hD0.self (sz := s.heap.size)
  generalize hAe : va_A [(nn, .inl (kZ, 240, .inl (fun _ => 0))), (ns, .inl (kI, 240, .inl (fun _ => 0)))] s.heap.size = A at hD hAb hN0 ⊢
  have hA : ∀ q : Nat, s.heap.size ≤ q → A q := fun q h => by rw [← hAe]; exact Or.inr h
  have hS : va_S A s.heap s.heap [] := va_S.rf
  have hR := hR0
  have hl := lv_entry [.ref h, .int ray, .int x, .int y] (n := 5) (Nat.le_of_ble_eq_true rfl)
  rw [lg_entry_eq]
  generalize (lg_sl [.ref h, .int ray, .int x, .int y] ++ List.replicate (5 - (lg_sl [.ref h, .int ray, .int x, .int y]).length) Slot.unset).toArray = ls at hl ⊢
  have hl : lv_has ls 5 [(0, .ref h), (1, .int ray), (2, .int x), (3, .int y)] := hl
  have hR0b := hR0
  have hDrb := hDr
  have hN0b := hN0
  refine lv_iload_n hx hb dX11_note_0 rfl (lv_at hl 1 rfl) ?_
  refine lv_iload_n hx hb dX11_note_1 rfl (lv_at hl 2 rfl) ?_
  refine lv_iload_n hx hb dX11_note_2 rfl (lv_at hl 3 rfl) ?_
  have hPc := (hP.app hR).sub (ws' := [] ++ []) [] rfl
  have hDc := (en_DD hD hDr hN0 hAb).sub (ws' := [] ++ []) [] (by decide) rfl
  have hKc := hK.sub (tys' := []) [] rfl
  have hFc := va_free (wc := []) hD hS hA [] rfl
  refine vx_callv (vx_runS (As := [.int ray, .int x, .int y]) (rest := []) ⟨hx, hb, hml, hown, hts⟩ (c_X11_demandRayAndPlace l hst dC dI b0 en s.heap.size ray x y) (va_cwS 3 hts go_c_X11_note_0 rfl rfl rfl (by decide +kernel) ⟨Nat.le_of_ble_eq_true rfl, Nat.le_of_ble_eq_true rfl⟩) ⟨cP.blind, cP.use (en_z hb0 hS) (hE.on hAb hS) hPc hKc hDc trivial⟩ rfl rfl hl.1 rfl (lv_room (Nat.le_of_ble_eq_true rfl)) dX11_note_3 ⟨Nat.le_of_ble_eq_true rfl, Nat.le_of_ble_eq_true rfl⟩) hS (fun q _ h => hFc q h) hFc (fun q _ h => hFc q h) (fun E ce q9 u t H1 locs ht hvm hpx hBX hz1 hk1 hS hce hcv hcl => ?_) (fun u t H1 locs ht hvm hw hB hz1 hk1 hS => ?_)
  · skip
    try dsimp only at hBX
    obtain ⟨rfl, hc⟩ := hBX
    refine vx_widen (k := 1) (n := 6) (Nat.le_of_ble_eq_true rfl) (Nat.le_of_ble_eq_true rfl) ?_
    exact vx_out (fun x hx => (hext x hx).elim) hlocks hce hcv hcl (fun t ht hW => ⟨(), trivial, ⟨rfl, (z_c_X11_note_329 ray x y hc)⟩, hS.F ht⟩) hS.2.2 (Nat.le_refl _) (Nat.le_refl _)
  have hP1 : va_P (dC, dI) vwCl [] H1 := fun k q h => by simp at h
  have hD1 : va_D (va_A [] s.heap.size) [] := ⟨fun i j p q h => by simp at h, fun k q h => by simp at h⟩
  try dsimp only at hw
  obtain ⟨hP, hD⟩ := va_join (wr := [(nn, .inl (kZ, 240, .inl (fun _ => 0))), (ns, .inl (kI, 240, .inl (fun _ => 0)))]) (w1 := []) hP hD [] [0, 1] rfl rfl (by decide) (by decide) hk1 hFc hP1 hD1
  generalize H1 = H at hP hS ⊢
  have hP : va_P (dC, dI) vwCl [(nn, .inl (kZ, 240, .inl (fun _ => 0))), (ns, .inl (kI, 240, .inl (fun _ => 0)))] H := hP
  have hD : va_D A [(nn, .inl (kZ, 240, .inl (fun _ => 0))), (ns, .inl (kI, 240, .inl (fun _ => 0)))] := hD
  have hR := en_R hR0 hN0 hS
  refine W.widen (k := 1) (n := 6) (Nat.le_of_ble_eq_true rfl) (Nat.le_of_ble_eq_true rfl) ?_
  have h_2 := hw
  refine lv_aload_n hx hb dX11_note_6 rfl (lv_at hl 0 rfl) ?_
  refine va_get (D := (dC, dI)) (ci := 17) (v := .ref pic) (C := RX11) (T := TX11) (N := 14) hx hb hts (by decide +kernel) hown hK hR 0 rfl rfl 8 (by decide) (hts (.fieldLink RX11 62 "Underpaint" "picture" "LUnderpaint$Picture;") (by decide +kernel)) (fun _ h9 => h9) rfl dX11_note_7 ?_
  refine va_ldcS hx hb hown (hE.ldc (1, "Underpaint", 216, "pwhlr") (by decide +kernel)) dX11_note_10 ?_
  refine lv_iload_n hx hb dX11_note_12 rfl (lv_at hl 1 rfl) ?_
  have hPc := (hP.app hR).sub (ws' := [] ++ []) [] rfl
  have hDc := (en_DD hD hDr hN0 hAb).sub (ws' := [] ++ []) [] (by decide) rfl
  have hKc := hK.sub (tys' := []) [] rfl
  have hFc := va_free (wc := []) hD hS hA [] rfl
  refine va_calli (va_runV (As := [.int ray]) (rest := [.ref pic]) ⟨hx, hb, hml, hown, hts⟩ (c_J0_indexOf l dC dI b0 en H.size 1 ray (z_c_X11_note_330 ray x y h_2)) (cwV 1 hts go_c_X11_note_1 rfl rfl rfl (by decide +kernel) ⟨Nat.le_of_ble_eq_true rfl, Nat.le_of_ble_eq_true rfl⟩) ⟨cP.blind, (en_recv (hE.lit hAb 1 (by decide)).1 hS), cP.use (en_z hb0 hS) (hE.on hAb hS) hPc hKc hDc trivial⟩ rfl rfl hl.1 rfl (lv_room (Nat.le_of_ble_eq_true rfl)) dX11_note_13 ⟨Nat.le_of_ble_eq_true rfl, Nat.le_of_ble_eq_true rfl⟩) hS (fun q _ h => hFc q h) hFc (fun r_3 u t H1 locs ht hvm hw hB hz1 hk1 hS => ?_)
  have hP1 : va_P (dC, dI) vwCl [] H1 := fun k q h => by simp at h
  have hD1 : va_D (va_A [] H.size) [] := ⟨fun i j p q h => by simp at h, fun k q h => by simp at h⟩
  try dsimp only at hw
  obtain ⟨hP, hD⟩ := va_join (wr := [(nn, .inl (kZ, 240, .inl (fun _ => 0))), (ns, .inl (kI, 240, .inl (fun _ => 0)))]) (w1 := []) hP hD [] [0, 1] rfl rfl (by decide) (by decide) hk1 hFc hP1 hD1
  generalize H1 = H at hP hS ⊢
  have hP : va_P (dC, dI) vwCl [(nn, .inl (kZ, 240, .inl (fun _ => 0))), (ns, .inl (kI, 240, .inl (fun _ => 0)))] H := hP
  have hD : va_D A [(nn, .inl (kZ, 240, .inl (fun _ => 0))), (ns, .inl (kI, 240, .inl (fun _ => 0)))] := hD
  have hR := en_R hR0 hN0 hS
  refine W.widen (k := 1) (n := 6) (Nat.le_of_ble_eq_true rfl) (Nat.le_of_ble_eq_true rfl) ?_
  subst r_3
  refine lv_iload_n hx hb dX11_note_16 rfl (lv_at hl 2 rfl) ?_
  refine lv_iload_n hx hb dX11_note_17 rfl (lv_at hl 3 rfl) ?_
  have hPc := (hP.app hR).sub (ws' := [] ++ [(pic, .inr (11, [.ref st, .ref sp, .ref ll, .int 0, .int 1600])), (st, .inl (cS, 48, .inr (.inr (.inr (.inr g)))))]) [4, 5] rfl
  have hDc := (en_DD hD hDr hN0 hAb).sub (ws' := [] ++ [(pic, .inr (11, [.ref st, .ref sp, .ref ll, .int 0, .int 1600])), (st, .inl (cS, 48, .inr (.inr (.inr (.inr g)))))]) [4, 5] (by decide) rfl
  have hKc := hK.sub (tys' := [(cS, .object "Underpaint$Stack")]) [0] rfl
  have hFc := va_free (wc := []) hD hS hA [] rfl
  refine va_calli (va_runV (As := [.int (ixL 1 ray), .int x, .int y]) (rest := []) ⟨hx, hb, hml, hown, hts⟩ (c_X5_see l dC dI b0 en H.size pic st sp ll g cS N (ixL 1 ray) x y (z_c_X11_note_331 ray x y h_2) (fun a9 h9 => ⟨(hNb a9 h9).1, Nat.lt_of_lt_of_le (hNb a9 h9).2 hS.1⟩) (fun a9 h9 z9 => by have g1 := hNw a9 h9; have g2 := hNr a9 h9; have g3 := (hNb a9 h9).2; simp only [List.map_cons, List.map_nil, List.mem_cons, List.not_mem_nil, or_false, not_or] at g1 g2 z9 <;> omega) (fun a9 h9 z9 => by have g1 := hNw a9 h9; have g2 := hNr a9 h9; have g3 := (hNb a9 h9).2; simp only [List.map_cons, List.map_nil, List.mem_cons, List.not_mem_nil, or_false, not_or] at g1 g2 z9 <;> omega)) (cwV 3 hts go_c_X11_note_2 rfl rfl rfl (by decide +kernel) ⟨Nat.le_of_ble_eq_true rfl, Nat.le_of_ble_eq_true rfl⟩) ⟨cP.blind, va_recv hK hR (ci := 11) (q0 := 2) rfl rfl, cP.use (en_z hb0 hS) (hE.on hAb hS) hPc hKc hDc (hF0.on (fun a9 h8 h9 => by rw [← hAe]; exact vA1 h8 (hNw a9 h9)) hS)⟩ rfl rfl hl.1 rfl (lv_room (Nat.le_of_ble_eq_true rfl)) dX11_note_18 ⟨Nat.le_of_ble_eq_true rfl, Nat.le_of_ble_eq_true rfl⟩) hS (fun q _ h => hFc q h) hFc (fun r_4 u t H1 locs ht hvm hw hB hz1 hk1 hS => ?_)
  have hP1 : va_P (dC, dI) vwCl [] H1 := fun k q h => by simp at h
  have hD1 : va_D (va_A [] H.size) [] := ⟨fun i j p q h => by simp at h, fun k q h => by simp at h⟩
  try dsimp only at hw
  obtain ⟨hP, hD⟩ := va_join (wr := [(nn, .inl (kZ, 240, .inl (fun _ => 0))), (ns, .inl (kI, 240, .inl (fun _ => 0)))]) (w1 := []) hP hD [] [0, 1] rfl rfl (by decide) (by decide) hk1 hFc hP1 hD1
  generalize H1 = H at hP hS ⊢
  have hP : va_P (dC, dI) vwCl [(nn, .inl (kZ, 240, .inl (fun _ => 0))), (ns, .inl (kI, 240, .inl (fun _ => 0)))] H := hP
  have hD : va_D A [(nn, .inl (kZ, 240, .inl (fun _ => 0))), (ns, .inl (kI, 240, .inl (fun _ => 0)))] := hD
  have hR := en_R hR0 hN0 hS
  refine W.widen (k := 1) (n := 6) (Nat.le_of_ble_eq_true rfl) (Nat.le_of_ble_eq_true rfl) ?_
  have h_5 := hw
  refine lv_istore (lv' := [(4, .int r_4), (0, .ref h), (1, .int ray), (2, .int x), (3, .int y)]) hx hb dX11_note_21 hl (by decide) rfl (fun ls hl => ?_)
  refine lv_aload_n hx hb dX11_note_23 rfl (lv_at hl 1 rfl) ?_
  refine va_get (D := (dC, dI)) (ci := 17) (v := .ref nte) (C := RX11) (T := TX11) (N := 14) hx hb hts (by decide +kernel) hown hK hR 0 rfl rfl 3 (by decide) (hts (.fieldLink RX11 25 "Underpaint" "notes" "LUnderpaint$Notes;") (by decide +kernel)) (fun _ h9 => h9) rfl dX11_note_24 ?_
  refine va_ldcS hx hb hown (hE.ldc (1, "Underpaint", 216, "pwhlr") (by decide +kernel)) dX11_note_27 ?_
  refine lv_iload_n hx hb dX11_note_29 rfl (lv_at hl 2 rfl) ?_
  have hPc := (hP.app hR).sub (ws' := [] ++ []) [] rfl
  have hDc := (en_DD hD hDr hN0 hAb).sub (ws' := [] ++ []) [] (by decide) rfl
  have hKc := hK.sub (tys' := []) [] rfl
  have hFc := va_free (wc := []) hD hS hA [] rfl
  refine va_calli (va_runV (As := [.int ray]) (rest := [.ref nte]) ⟨hx, hb, hml, hown, hts⟩ (c_J0_indexOf l dC dI b0 en H.size 1 ray (z_c_X11_note_332 ray x y r_4 h_2 h_5)) (cwV 1 hts go_c_X11_note_1 rfl rfl rfl (by decide +kernel) ⟨Nat.le_of_ble_eq_true rfl, Nat.le_of_ble_eq_true rfl⟩) ⟨cP.blind, (en_recv (hE.lit hAb 1 (by decide)).1 hS), cP.use (en_z hb0 hS) (hE.on hAb hS) hPc hKc hDc trivial⟩ rfl rfl hl.1 rfl (lv_room (Nat.le_of_ble_eq_true rfl)) dX11_note_30 ⟨Nat.le_of_ble_eq_true rfl, Nat.le_of_ble_eq_true rfl⟩) hS (fun q _ h => hFc q h) hFc (fun r_6 u t H1 locs ht hvm hw hB hz1 hk1 hS => ?_)
  have hP1 : va_P (dC, dI) vwCl [] H1 := fun k q h => by simp at h
  have hD1 : va_D (va_A [] H.size) [] := ⟨fun i j p q h => by simp at h, fun k q h => by simp at h⟩
  try dsimp only at hw
  obtain ⟨hP, hD⟩ := va_join (wr := [(nn, .inl (kZ, 240, .inl (fun _ => 0))), (ns, .inl (kI, 240, .inl (fun _ => 0)))]) (w1 := []) hP hD [] [0, 1] rfl rfl (by decide) (by decide) hk1 hFc hP1 hD1
  generalize H1 = H at hP hS ⊢
  have hP : va_P (dC, dI) vwCl [(nn, .inl (kZ, 240, .inl (fun _ => 0))), (ns, .inl (kI, 240, .inl (fun _ => 0)))] H := hP
  have hD : va_D A [(nn, .inl (kZ, 240, .inl (fun _ => 0))), (ns, .inl (kI, 240, .inl (fun _ => 0)))] := hD
  have hR := en_R hR0 hN0 hS
  refine W.widen (k := 1) (n := 6) (Nat.le_of_ble_eq_true rfl) (Nat.le_of_ble_eq_true rfl) ?_
  subst r_6
  refine lv_iload_n hx hb dX11_note_33 rfl (lv_at hl 3 rfl) ?_
  refine lv_iload_n hx hb dX11_note_34 rfl (lv_at hl 4 rfl) ?_
  have hPc := (hP.app hR).sub (ws' := [] ++ []) [] rfl
  have hDc := (en_DD hD hDr hN0 hAb).sub (ws' := [] ++ []) [] (by decide) rfl
  have hKc := hK.sub (tys' := []) [] rfl
  have hFc := va_free (wc := []) hD hS hA [] rfl
  refine va_calli (va_runS (As := [.int x, .int y]) (rest := [.int (ixL 1 ray), .ref nte]) ⟨hx, hb, hml, hown, hts⟩ (c_X11_placeOf l dC dI b0 en H.size x y) (va_cwS 2 hts go_c_X11_note_3 rfl rfl rfl (by decide +kernel) ⟨Nat.le_of_ble_eq_true rfl, Nat.le_of_ble_eq_true rfl⟩) ⟨cP.blind, cP.use (en_z hb0 hS) (hE.on hAb hS) hPc hKc hDc trivial⟩ rfl rfl hl.1 rfl (lv_room (Nat.le_of_ble_eq_true rfl)) dX11_note_35 ⟨Nat.le_of_ble_eq_true rfl, Nat.le_of_ble_eq_true rfl⟩) hS (fun q _ h => hFc q h) hFc (fun r_7 u t H1 locs ht hvm hw hB hz1 hk1 hS => ?_)
  have hP1 : va_P (dC, dI) vwCl [] H1 := fun k q h => by simp at h
  have hD1 : va_D (va_A [] H.size) [] := ⟨fun i j p q h => by simp at h, fun k q h => by simp at h⟩
  try dsimp only at hw
  obtain ⟨hP, hD⟩ := va_join (wr := [(nn, .inl (kZ, 240, .inl (fun _ => 0))), (ns, .inl (kI, 240, .inl (fun _ => 0)))]) (w1 := []) hP hD [] [0, 1] rfl rfl (by decide) (by decide) hk1 hFc hP1 hD1
  generalize H1 = H at hP hS ⊢
  have hP : va_P (dC, dI) vwCl [(nn, .inl (kZ, 240, .inl (fun _ => 0))), (ns, .inl (kI, 240, .inl (fun _ => 0)))] H := hP
  have hD : va_D A [(nn, .inl (kZ, 240, .inl (fun _ => 0))), (ns, .inl (kI, 240, .inl (fun _ => 0)))] := hD
  have hR := en_R hR0 hN0 hS
  refine W.widen (k := 1) (n := 6) (Nat.le_of_ble_eq_true rfl) (Nat.le_of_ble_eq_true rfl) ?_
  subst r_7
  refine lv_iload hx hb dX11_note_38 (lv_at hl 0 rfl) ?_
  have hPc := (hP.app hR).sub (ws' := [(nn, .inl (kZ, 240, .inl (fun _ => 0))), (ns, .inl (kI, 240, .inl (fun _ => 0)))] ++ [(nte, .inr (10, [.ref nn, .ref ns, .ref ng, .int 0]))]) [0, 1, 3] rfl
  have hDc := (en_DD hD hDr hN0 hAb).sub (ws' := [(nn, .inl (kZ, 240, .inl (fun _ => 0))), (ns, .inl (kI, 240, .inl (fun _ => 0)))] ++ [(nte, .inr (10, [.ref nn, .ref ns, .ref ng, .int 0]))]) [0, 1, 3] (by decide) rfl
  have hKc := hK.sub (tys' := [(kZ, .boolean), (kI, .int)]) [1, 2] rfl
  have hFc := va_free (wc := [(nn, .inl (kZ, 240, .inl (fun _ => 0))), (ns, .inl (kI, 240, .inl (fun _ => 0)))]) hD hS hA [0, 1] rfl
  refine va_callv (va_runV (As := [.int (ixL 1 ray), .int (y * 8 + x), .int r_4]) (rest := []) ⟨hx, hb, hml, hown, hts⟩ (c_X4_keep l dC dI b0 en H.size nte nn ns ng kZ kI (ixL 1 ray) (y * 8 + x) r_4 (z_c_X11_note_333 ray x y r_4 h_2 h_5) (z_c_X11_note_334 ray x y r_4 h_2 h_5) (z_c_X11_note_335 ray x y r_4 h_2 h_5) (z_c_X11_note_336 ray x y r_4 h_2 h_5)) (cwV 3 hts go_c_X11_note_4 rfl rfl rfl (by decide +kernel) ⟨Nat.le_of_ble_eq_true rfl, Nat.le_of_ble_eq_true rfl⟩) ⟨cP.blind, va_recv hK hR (ci := 10) (q0 := 1) rfl rfl, cP.use (en_z hb0 hS) (hE.on hAb hS) hPc hKc hDc trivial⟩ rfl rfl hl.1 rfl (lv_room (Nat.le_of_ble_eq_true rfl)) dX11_note_40 ⟨Nat.le_of_ble_eq_true rfl, Nat.le_of_ble_eq_true rfl⟩) hS (fun q _ h => hFc q h) hFc (fun u t H1 locs ht hvm hw hB hz1 hk1 hS => ?_)
  have hP1 : va_P (dC, dI) vwCl [] H1 := fun k q h => by simp at h
  have hD1 : va_D (va_A [(nn, .inl (kZ, 240, .inl (fun _ => 0))), (ns, .inl (kI, 240, .inl (fun _ => 0)))] H.size) [] := ⟨fun i j p q h => by simp at h, fun k q h => by simp at h⟩
  try dsimp only at hw
  obtain ⟨hP, hD⟩ := va_join (wr := []) (w1 := []) hP hD [0, 1] [] rfl rfl (by decide) (by decide) hk1 hFc hP1 hD1
  generalize H1 = H at hP hS ⊢
  have hP : va_P (dC, dI) vwCl [] H := hP
  have hD : va_D A [] := hD
  have hR := en_R hR0 hN0 hS
  refine W.widen (k := 1) (n := 6) (Nat.le_of_ble_eq_true rfl) (Nat.le_of_ble_eq_true rfl) ?_
  refine lv_iload hx hb dX11_note_43 (lv_at hl 0 rfl) ?_
  refine W.widen (k := 1) (n := 6) (Nat.le_of_ble_eq_true rfl) (Nat.le_of_ble_eq_true rfl) ?_
  refine vx_ret ?_
  exact W.iret (v := r_4) hx hb hr (fun t ht hW => ⟨⟨r_4, (), rfl, (z_c_X11_note_337 ray x y r_4 h_2 h_5), trivial⟩, hS.F ht⟩) hS.2.2 dX11_note_45
theorem z_c_X11_noted_338 (ray : Int32) (x : Int32) (y : Int32) (a_0 : 0 ≤ ixL 1 ray ∧ ((0 ≤ x ∧ x < 8) ∧ (0 ≤ y ∧ y < 6))) : (0 : Int32) ≤ (ixL 1 ray) := by grind [ixL1]
theorem z_c_X11_noted_339 (ray : Int32) (x : Int32) (y : Int32) (a_0 : 0 ≤ ixL 1 ray ∧ ((0 ≤ x ∧ x < 8) ∧ (0 ≤ y ∧ y < 6))) : ((ixL 1 ray) : Int32) < 5 := by grind [ixL1]
theorem z_c_X11_noted_340 (ray : Int32) (x : Int32) (y : Int32) (a_0 : 0 ≤ ixL 1 ray ∧ ((0 ≤ x ∧ x < 8) ∧ (0 ≤ y ∧ y < 6))) : 0 ≤ (y * 8 + x) := by grind [ixL1]
theorem z_c_X11_noted_341 (ray : Int32) (x : Int32) (y : Int32) (a_0 : 0 ≤ ixL 1 ray ∧ ((0 ≤ x ∧ x < 8) ∧ (0 ≤ y ∧ y < 6))) : (y * 8 + x) < 48 := by grind [ixL1]
theorem z_c_X11_noted_342 (ray : Int32) (x : Int32) (y : Int32) (a_0 : 0 ≤ ixL 1 ray ∧ ((0 ≤ x ∧ x < 8) ∧ (0 ≤ y ∧ y < 6))) (a_1 : (0 : Int32) = 0) : 0 ≤ ixL 1 ray ∧ ((0 ≤ x ∧ x < 8) ∧ (0 ≤ y ∧ y < 6)) := by grind [ixL1]
def wo_c_X11_noted_w : List Cond := [Cond.fieldLink RX11 25 "Underpaint" "notes" "LUnderpaint$Notes;"]
def wo_c_X11_noted : List Cond := .code yX11_noted cX11_noted 4 (some .int) :: (wo_c_X11_noted_w ++ (u_ws RX11 TX11 14 ++ (va_wsS RX11 212 yX11_demandRayAndPlace wsX11_demandRayAndPlace ++ (wsV RX11 81 RJ0 yJ0_indexOf_0f7a4 wsJ0_indexOf_0f7a4 ++ (va_wsS RX11 222 yX11_placeOf wsX11_placeOf ++ (wsV RX11 230 RX4 yX4_has wo_c_X4_has ++ (va_wsS RX11 187 yX11_demandElement wsX11_demandElement ++ List.nil)))))))
theorem gw_wo_c_X11_noted : wo_c_X11_noted.all goodWord = true := gw_c (by decide +kernel) (gw_a (by decide +kernel) (gw_a (by decide +kernel) (gw_a (gw_a (by decide +kernel) gw_wsX11_demandRayAndPlace) (gw_a (gw_a (by decide +kernel) gw_wsJ0_indexOf_0f7a4) (gw_a (gw_a (by decide +kernel) gw_wsX11_placeOf) (gw_a (gw_a (by decide +kernel) gw_wo_c_X4_has) (gw_a (gw_a (by decide +kernel) gw_wsX11_demandElement) rfl)))))))
theorem go_c_X11_noted_0 : GoodIn wo_c_X11_noted (va_wsS RX11 212 yX11_demandRayAndPlace wsX11_demandRayAndPlace) := goodIn_sub (fun _ h => List.mem_cons_of_mem _ (List.mem_append_right _ (List.mem_append_right _ (List.mem_append_left _ h)))) (gw_a (by decide +kernel) gw_wsX11_demandRayAndPlace)
theorem go_c_X11_noted_1 : GoodIn wo_c_X11_noted (wsV RX11 81 RJ0 yJ0_indexOf_0f7a4 wsJ0_indexOf_0f7a4) := goodIn_sub (fun _ h => List.mem_cons_of_mem _ (List.mem_append_right _ (List.mem_append_right _ (List.mem_append_right _ (List.mem_append_left _ h))))) (gw_a (by decide +kernel) gw_wsJ0_indexOf_0f7a4)
theorem go_c_X11_noted_2 : GoodIn wo_c_X11_noted (va_wsS RX11 222 yX11_placeOf wsX11_placeOf) := goodIn_sub (fun _ h => List.mem_cons_of_mem _ (List.mem_append_right _ (List.mem_append_right _ (List.mem_append_right _ (List.mem_append_right _ (List.mem_append_left _ h)))))) (gw_a (by decide +kernel) gw_wsX11_placeOf)
theorem go_c_X11_noted_3 : GoodIn wo_c_X11_noted (wsV RX11 230 RX4 yX4_has wo_c_X4_has) := goodIn_sub (fun _ h => List.mem_cons_of_mem _ (List.mem_append_right _ (List.mem_append_right _ (List.mem_append_right _ (List.mem_append_right _ (List.mem_append_right _ (List.mem_append_left _ h))))))) (gw_a (by decide +kernel) gw_wo_c_X4_has)
theorem go_c_X11_noted_4 : GoodIn wo_c_X11_noted (va_wsS RX11 187 yX11_demandElement wsX11_demandElement) := goodIn_sub (fun _ h => List.mem_cons_of_mem _ (List.mem_append_right _ (List.mem_append_right _ (List.mem_append_right _ (List.mem_append_right _ (List.mem_append_right _ (List.mem_append_right _ (List.mem_append_left _ h)))))))) (gw_a (by decide +kernel) gw_wsX11_demandElement)
set_option maxHeartbeats 4000000 in
set_option maxRecDepth 100000 in
theorem c_X11_noted (l : Launch) (hst : l.stackTraces = false) (dC : Nat → ClassId) (dI : Nat → Nat → Nat) (b0 : Nat) (en : EnT) (sz : Nat) (h pal she fil nte dat vot loa nos pic spa : Nat) (nn ns ng : Nat) (kZ : ClassId) (ray x y : Int32) : vx_Met l yX11_noted wo_c_X11_noted ({ frames := 7, cells := 2, slots := 12, locals := 153 } : Room) (cP b0 en (dC, dI) [(kZ, .boolean)] [] [(h, .inr (17, [.ref pal, .ref she, .ref fil, .ref nte, .ref dat, .ref vot, .ref loa, .ref nos, .ref pic, .ref spa, .int 5, .int 50, .int 1600, .int 0])), (nte, .inr (10, [.ref nn, .ref ns, .ref ng, .int 0])), (nn, .inl (kZ, 240, .inl (fun _ => 0)))] sz (fun _ => True) [.ref h, .int ray, .int x, .int y]) (va_Qi (fun (r : Int32) (_ : Unit) => False) (fun _ _ => True) (va_A [] sz)) (vx_X (fun _ : Unit => True) (fun E _ _ => (E = "java/lang/IllegalArgumentException" ∧ ¬ (0 ≤ ixL 1 ray ∧ ((0 ≤ x ∧ x < 8) ∧ (0 ≤ y ∧ y < 6)))) ∨ (E = "java/util/NoSuchElementException" ∧ 0 ≤ ixL 1 ray ∧ ((0 ≤ x ∧ x < 8) ∧ (0 ≤ y ∧ y < 6)))) (va_A [] sz)) 2 12 (va_A [] sz) := by
  refine vx_ofW (cc := cX11_noted) (maxL := 4) (ret := (some .int)) (by decide) rfl ?_
  intro p e s m args below meth c s₁ B hml hext hv
  obtain ⟨rfl, hsz, hb0, hE, hPP, hK, hDD, hF0⟩ := hv
  have hx := B.exec
  have hb := B.bytes
  have hr := B.returns
  have hts := atoms_spec (ws := wo_c_X11_noted) B.pre
  have hown : s.vm.findClass RX11 = some m.cls := findClass_of_methodNamed B.named
  have hlocks := B.notSynchronized
  subst hsz
  have hN0 := en_N hPP hDD rfl
  have hP : va_P (dC, dI) vwCl [] s.heap := hPP.sub [] rfl
  have hR0 : va_P (dC, dI) vwCl [(h, .inr (17, [.ref pal, .ref she, .ref fil, .ref nte, .ref dat, .ref vot, .ref loa, .ref nos, .ref pic, .ref spa, .int 5, .int 50, .int 1600, .int 0])), (nte, .inr (10, [.ref nn, .ref ns, .ref ng, .int 0])), (nn, .inl (kZ, 240, .inl (fun _ => 0)))] s.heap := hPP.sub [0, 1, 2] rfl
  have hD0 : va_D (fun q => b0 ≤ q) [] := hDD.sub [] (by decide) rfl
  have hDr : va_D (fun q => b0 ≤ q) [(h, .inr (17, [.ref pal, .ref she, .ref fil, .ref nte, .ref dat, .ref vot, .ref loa, .ref nos, .ref pic, .ref spa, .int 5, .int 50, .int 1600, .int 0])), (nte, .inr (10, [.ref nn, .ref ns, .ref ng, .int 0])), (nn, .inl (kZ, 240, .inl (fun _ => 0)))] := hDD.sub [0, 1, 2] (by decide) rfl
  have hAb := en_A (sz := s.heap.size) hD0 hb0
  have hD := hD0.self (sz := s.heap.size)
  generalize hAe : va_A [] s.heap.size = A at hD hAb hN0 ⊢
  have hA : ∀ q : Nat, s.heap.size ≤ q → A q := fun q h => by rw [← hAe]; exact Or.inr h
  have hS : va_S A s.heap s.heap [] := va_S.rf
  have hR := hR0
  have hl := lv_entry [.ref h, .int ray, .int x, .int y] (n := 4) (Nat.le_of_ble_eq_true rfl)
  rw [lg_entry_eq]
  generalize (lg_sl [.ref h, .int ray, .int x, .int y] ++ List.replicate (4 - (lg_sl [.ref h, .int ray, .int x, .int y]).length) Slot.unset).toArray = ls at hl ⊢
  have hl : lv_has ls 4 [(0, .ref h), (1, .int ray), (2, .int x), (3, .int y)] := hl
  refine lv_iload_n hx hb dX11_noted_0 rfl (lv_at hl 1 rfl) ?_
  refine lv_iload_n hx hb dX11_noted_1 rfl (lv_at hl 2 rfl) ?_
  refine lv_iload_n hx hb dX11_noted_2 rfl (lv_at hl 3 rfl) ?_
  have hPc := (hP.app hR).sub (ws' := [] ++ []) [] rfl
  have hDc := (en_DD hD hDr hN0 hAb).sub (ws' := [] ++ []) [] (by decide) rfl
  have hKc := hK.sub (tys' := []) [] rfl
  have hFc := va_free (wc := []) hD hS hA [] rfl
  refine vx_callv (vx_runS (As := [.int ray, .int x, .int y]) (rest := []) ⟨hx, hb, hml, hown, hts⟩ (c_X11_demandRayAndPlace l hst dC dI b0 en s.heap.size ray x y) (va_cwS 3 hts go_c_X11_noted_0 rfl rfl rfl (by decide +kernel) ⟨Nat.le_of_ble_eq_true rfl, Nat.le_of_ble_eq_true rfl⟩) ⟨cP.blind, cP.use (en_z hb0 hS) (hE.on hAb hS) hPc hKc hDc trivial⟩ rfl rfl hl.1 rfl (lv_room (Nat.le_of_ble_eq_true rfl)) dX11_noted_3 ⟨Nat.le_of_ble_eq_true rfl, Nat.le_of_ble_eq_true rfl⟩) hS (fun q _ h => hFc q h) hFc (fun q _ h => hFc q h) (fun E ce q9 u t H1 locs ht hvm hpx hBX hz1 hk1 hS hce hcv hcl => ?_) (fun u t H1 locs ht hvm hw hB hz1 hk1 hS => ?_)
  · skip
    try dsimp only at hBX
    obtain ⟨rfl, hc⟩ := hBX
    refine vx_widen (k := 2) (n := 12) (Nat.le_of_ble_eq_true rfl) (Nat.le_of_ble_eq_true rfl) ?_
    exact vx_out (fun x hx => (hext x hx).elim) hlocks hce hcv hcl (fun t ht hW => ⟨(), trivial, Or.inl ⟨rfl, (z_c_X11_note_329 ray x y hc)⟩, hS.F ht⟩) hS.2.2 (Nat.le_refl _) (Nat.le_refl _)
  have hP1 : va_P (dC, dI) vwCl [] H1 := fun k q h => by simp at h
  have hD1 : va_D (va_A [] s.heap.size) [] := ⟨fun i j p q h => by simp at h, fun k q h => by simp at h⟩
  try dsimp only at hw
  obtain ⟨hP, hD⟩ := va_join (wr := []) (w1 := []) hP hD [] [] rfl rfl (by decide) (by decide) hk1 hFc hP1 hD1
  generalize H1 = H at hP hS ⊢
  have hP : va_P (dC, dI) vwCl [] H := hP
  have hD : va_D A [] := hD
  have hR := en_R hR0 hN0 hS
  refine W.widen (k := 1) (n := 6) (Nat.le_of_ble_eq_true rfl) (Nat.le_of_ble_eq_true rfl) ?_
  have h_2 := hw
  refine lv_aload_n hx hb dX11_noted_6 rfl (lv_at hl 0 rfl) ?_
  refine va_get (D := (dC, dI)) (ci := 17) (v := .ref nte) (C := RX11) (T := TX11) (N := 14) hx hb hts (by decide +kernel) hown hK hR 0 rfl rfl 3 (by decide) (hts (.fieldLink RX11 25 "Underpaint" "notes" "LUnderpaint$Notes;") (by decide +kernel)) (fun _ h9 => h9) rfl dX11_noted_7 ?_
  refine va_ldcS hx hb hown (hE.ldc (1, "Underpaint", 216, "pwhlr") (by decide +kernel)) dX11_noted_10 ?_
  refine lv_iload_n hx hb dX11_noted_12 rfl (lv_at hl 1 rfl) ?_
  have hPc := (hP.app hR).sub (ws' := [] ++ []) [] rfl
  have hDc := (en_DD hD hDr hN0 hAb).sub (ws' := [] ++ []) [] (by decide) rfl
  have hKc := hK.sub (tys' := []) [] rfl
  have hFc := va_free (wc := []) hD hS hA [] rfl
  refine va_calli (va_runV (As := [.int ray]) (rest := [.ref nte]) ⟨hx, hb, hml, hown, hts⟩ (c_J0_indexOf l dC dI b0 en H.size 1 ray (z_c_X11_note_330 ray x y h_2)) (cwV 1 hts go_c_X11_noted_1 rfl rfl rfl (by decide +kernel) ⟨Nat.le_of_ble_eq_true rfl, Nat.le_of_ble_eq_true rfl⟩) ⟨cP.blind, (en_recv (hE.lit hAb 1 (by decide)).1 hS), cP.use (en_z hb0 hS) (hE.on hAb hS) hPc hKc hDc trivial⟩ rfl rfl hl.1 rfl (lv_room (Nat.le_of_ble_eq_true rfl)) dX11_noted_13 ⟨Nat.le_of_ble_eq_true rfl, Nat.le_of_ble_eq_true rfl⟩) hS (fun q _ h => hFc q h) hFc (fun r_3 u t H1 locs ht hvm hw hB hz1 hk1 hS => ?_)
  have hP1 : va_P (dC, dI) vwCl [] H1 := fun k q h => by simp at h
  have hD1 : va_D (va_A [] H.size) [] := ⟨fun i j p q h => by simp at h, fun k q h => by simp at h⟩
  try dsimp only at hw
  obtain ⟨hP, hD⟩ := va_join (wr := []) (w1 := []) hP hD [] [] rfl rfl (by decide) (by decide) hk1 hFc hP1 hD1
  generalize H1 = H at hP hS ⊢
  have hP : va_P (dC, dI) vwCl [] H := hP
  have hD : va_D A [] := hD
  have hR := en_R hR0 hN0 hS
  refine W.widen (k := 1) (n := 6) (Nat.le_of_ble_eq_true rfl) (Nat.le_of_ble_eq_true rfl) ?_
  subst r_3
  refine lv_iload_n hx hb dX11_noted_16 rfl (lv_at hl 2 rfl) ?_
  refine lv_iload_n hx hb dX11_noted_17 rfl (lv_at hl 3 rfl) ?_
  have hPc := (hP.app hR).sub (ws' := [] ++ []) [] rfl
  have hDc := (en_DD hD hDr hN0 hAb).sub (ws' := [] ++ []) [] (by decide) rfl
  have hKc := hK.sub (tys' := []) [] rfl
  have hFc := va_free (wc := []) hD hS hA [] rfl
  refine va_calli (va_runS (As := [.int x, .int y]) (rest := [.int (ixL 1 ray), .ref nte]) ⟨hx, hb, hml, hown, hts⟩ (c_X11_placeOf l dC dI b0 en H.size x y) (va_cwS 2 hts go_c_X11_noted_2 rfl rfl rfl (by decide +kernel) ⟨Nat.le_of_ble_eq_true rfl, Nat.le_of_ble_eq_true rfl⟩) ⟨cP.blind, cP.use (en_z hb0 hS) (hE.on hAb hS) hPc hKc hDc trivial⟩ rfl rfl hl.1 rfl (lv_room (Nat.le_of_ble_eq_true rfl)) dX11_noted_18 ⟨Nat.le_of_ble_eq_true rfl, Nat.le_of_ble_eq_true rfl⟩) hS (fun q _ h => hFc q h) hFc (fun r_4 u t H1 locs ht hvm hw hB hz1 hk1 hS => ?_)
  have hP1 : va_P (dC, dI) vwCl [] H1 := fun k q h => by simp at h
  have hD1 : va_D (va_A [] H.size) [] := ⟨fun i j p q h => by simp at h, fun k q h => by simp at h⟩
  try dsimp only at hw
  obtain ⟨hP, hD⟩ := va_join (wr := []) (w1 := []) hP hD [] [] rfl rfl (by decide) (by decide) hk1 hFc hP1 hD1
  generalize H1 = H at hP hS ⊢
  have hP : va_P (dC, dI) vwCl [] H := hP
  have hD : va_D A [] := hD
  have hR := en_R hR0 hN0 hS
  refine W.widen (k := 1) (n := 6) (Nat.le_of_ble_eq_true rfl) (Nat.le_of_ble_eq_true rfl) ?_
  subst r_4
  have hPc := (hP.app hR).sub (ws' := [] ++ [(nte, .inr (10, [.ref nn, .ref ns, .ref ng, .int 0])), (nn, .inl (kZ, 240, .inl (fun _ => 0)))]) [1, 2] rfl
  have hDc := (en_DD hD hDr hN0 hAb).sub (ws' := [] ++ [(nte, .inr (10, [.ref nn, .ref ns, .ref ng, .int 0])), (nn, .inl (kZ, 240, .inl (fun _ => 0)))]) [1, 2] (by decide) rfl
  have hKc := hK.sub (tys' := [(kZ, .boolean)]) [0] rfl
  have hFc := va_free (wc := []) hD hS hA [] rfl
  refine va_calli (va_runV (As := [.int (ixL 1 ray), .int (y * 8 + x)]) (rest := []) ⟨hx, hb, hml, hown, hts⟩ (c_X4_has l dC dI b0 en H.size nte nn ns ng kZ (ixL 1 ray) (y * 8 + x) (z_c_X11_noted_338 ray x y h_2) (z_c_X11_noted_339 ray x y h_2) (z_c_X11_noted_340 ray x y h_2) (z_c_X11_noted_341 ray x y h_2)) (cwV 2 hts go_c_X11_noted_3 rfl rfl rfl (by decide +kernel) ⟨Nat.le_of_ble_eq_true rfl, Nat.le_of_ble_eq_true rfl⟩) ⟨cP.blind, va_recv hK hR (ci := 10) (q0 := 1) rfl rfl, cP.use (en_z hb0 hS) (hE.on hAb hS) hPc hKc hDc trivial⟩ rfl rfl hl.1 rfl (lv_room (Nat.le_of_ble_eq_true rfl)) dX11_noted_21 ⟨Nat.le_of_ble_eq_true rfl, Nat.le_of_ble_eq_true rfl⟩) hS (fun q _ h => hFc q h) hFc (fun r_5 u t H1 locs ht hvm hw hB hz1 hk1 hS => ?_)
  have hP1 : va_P (dC, dI) vwCl [] H1 := fun k q h => by simp at h
  have hD1 : va_D (va_A [] H.size) [] := ⟨fun i j p q h => by simp at h, fun k q h => by simp at h⟩
  try dsimp only at hw
  obtain ⟨hP, hD⟩ := va_join (wr := []) (w1 := []) hP hD [] [] rfl rfl (by decide) (by decide) hk1 hFc hP1 hD1
  generalize H1 = H at hP hS ⊢
  have hP : va_P (dC, dI) vwCl [] H := hP
  have hD : va_D A [] := hD
  have hR := en_R hR0 hN0 hS
  refine W.widen (k := 1) (n := 6) (Nat.le_of_ble_eq_true rfl) (Nat.le_of_ble_eq_true rfl) ?_
  subst r_5
  have hPc := (hP.app hR).sub (ws' := [] ++ []) [] rfl
  have hDc := (en_DD hD hDr hN0 hAb).sub (ws' := [] ++ []) [] (by decide) rfl
  have hKc := hK.sub (tys' := []) [] rfl
  have hFc := va_free (wc := []) hD hS hA [] rfl
  refine vx_callv (vx_runS (As := [.int 0]) (rest := []) ⟨hx, hb, hml, hown, hts⟩ (c_X11_demandElement l hst dC dI b0 en H.size 0) (va_cwS 1 hts go_c_X11_noted_4 rfl rfl rfl (by decide +kernel) ⟨Nat.le_of_ble_eq_true rfl, Nat.le_of_ble_eq_true rfl⟩) ⟨cP.blind, cP.use (en_z hb0 hS) (hE.on hAb hS) hPc hKc hDc trivial⟩ rfl rfl hl.1 rfl (lv_room (Nat.le_of_ble_eq_true rfl)) dX11_noted_24 ⟨Nat.le_of_ble_eq_true rfl, Nat.le_of_ble_eq_true rfl⟩) hS (fun q _ h => hFc q h) hFc (fun q _ h => hFc q h) (fun E ce q9 u t H1 locs ht hvm hpx hBX hz1 hk1 hS hce hcv hcl => ?_) (fun u t H1 locs ht hvm hw hB hz1 hk1 hS => ?_)
  · skip
    try dsimp only at hBX
    obtain ⟨rfl, hc⟩ := hBX
    refine vx_widen (k := 2) (n := 12) (Nat.le_of_ble_eq_true rfl) (Nat.le_of_ble_eq_true rfl) ?_
    exact vx_out (fun x hx => (hext x hx).elim) hlocks hce hcv hcl (fun t ht hW => ⟨(), trivial, Or.inr (⟨rfl, (z_c_X11_noted_342 ray x y h_2 hc)⟩), hS.F ht⟩) hS.2.2 (Nat.le_refl _) (Nat.le_refl _)
  have hP1 : va_P (dC, dI) vwCl [] H1 := fun k q h => by simp at h
  have hD1 : va_D (va_A [] H.size) [] := ⟨fun i j p q h => by simp at h, fun k q h => by simp at h⟩
  try dsimp only at hw
  obtain ⟨hP, hD⟩ := va_join (wr := []) (w1 := []) hP hD [] [] rfl rfl (by decide) (by decide) hk1 hFc hP1 hD1
  generalize H1 = H at hP hS ⊢
  have hP : va_P (dC, dI) vwCl [] H := hP
  have hD : va_D A [] := hD
  have hR := en_R hR0 hN0 hS
  refine W.widen (k := 2) (n := 12) (Nat.le_of_ble_eq_true rfl) (Nat.le_of_ble_eq_true rfl) ?_
  have h_7 := hw
  exact absurd h_7 (by decide)
theorem z_c_X11_guesses_343 (x : Int32) (y : Int32) (a_0 : ¬ ((0 ≤ x ∧ x < 8) ∧ (0 ≤ y ∧ y < 6))) : ¬ ((0 ≤ x ∧ x < 8) ∧ (0 ≤ y ∧ y < 6)) := by grind
theorem z_c_X11_guesses_344 (x : Int32) (y : Int32) (a_0 : (0 ≤ x ∧ x < 8) ∧ (0 ≤ y ∧ y < 6)) : (0 : Int32) = 0 ∧ (0 ≤ x ∧ x < 8) ∧ (0 ≤ y ∧ y < 6) := by grind
def wo_c_X11_guesses_w : List Cond := [Cond.fieldLink RX11 25 "Underpaint" "notes" "LUnderpaint$Notes;", Cond.fieldLink RX11 10 "Underpaint" "palette" "Ljava/util/ArrayList;", Cond.constant RX11 236 (1000000000)]
def wo_c_X11_guesses : List Cond := .code yX11_guesses cX11_guesses 3 (some .int) :: (wo_c_X11_guesses_w ++ (u_ws RX11 TX11 14 ++ (va_wsS RX11 176 yX11_demandPlace wsX11_demandPlace ++ (va_wsS RX11 222 yX11_placeOf wsX11_placeOf ++ (wsV RX11 237 RX4 yX4_countGuesses wo_c_X4_count ++ List.nil)))))
theorem gw_wo_c_X11_guesses : wo_c_X11_guesses.all goodWord = true := gw_c (by decide +kernel) (gw_a (by decide +kernel) (gw_a (by decide +kernel) (gw_a (gw_a (by decide +kernel) gw_wsX11_demandPlace) (gw_a (gw_a (by decide +kernel) gw_wsX11_placeOf) (gw_a (gw_a (by decide +kernel) gw_wo_c_X4_count) rfl)))))
theorem go_c_X11_guesses_0 : GoodIn wo_c_X11_guesses (va_wsS RX11 176 yX11_demandPlace wsX11_demandPlace) := goodIn_sub (fun _ h => List.mem_cons_of_mem _ (List.mem_append_right _ (List.mem_append_right _ (List.mem_append_left _ h)))) (gw_a (by decide +kernel) gw_wsX11_demandPlace)
theorem go_c_X11_guesses_1 : GoodIn wo_c_X11_guesses (va_wsS RX11 222 yX11_placeOf wsX11_placeOf) := goodIn_sub (fun _ h => List.mem_cons_of_mem _ (List.mem_append_right _ (List.mem_append_right _ (List.mem_append_right _ (List.mem_append_left _ h))))) (gw_a (by decide +kernel) gw_wsX11_placeOf)
theorem go_c_X11_guesses_2 : GoodIn wo_c_X11_guesses (wsV RX11 237 RX4 yX4_countGuesses wo_c_X4_count) := goodIn_sub (fun _ h => List.mem_cons_of_mem _ (List.mem_append_right _ (List.mem_append_right _ (List.mem_append_right _ (List.mem_append_right _ (List.mem_append_left _ h)))))) (gw_a (by decide +kernel) gw_wo_c_X4_count)
set_option maxHeartbeats 4000000 in
set_option maxRecDepth 100000 in
theorem c_X11_guesses (l : Launch) (hst : l.stackTraces = false) (dC : Nat → ClassId) (dI : Nat → Nat → Nat) (b0 : Nat) (en : EnT) (sz : Nat) (h pal she fil nte dat vot loa nos pic spa : Nat) (nn ns ng : Nat) (x y : Int32) : vx_Met l yX11_guesses wo_c_X11_guesses ({ frames := 7, cells := 1, slots := 6, locals := 111 } : Room) (cP b0 en (dC, dI) [] [(nte, .inr (10, [.ref nn, .ref ns, .ref ng, .int 0]))] [(h, .inr (17, [.ref pal, .ref she, .ref fil, .ref nte, .ref dat, .ref vot, .ref loa, .ref nos, .ref pic, .ref spa, .int 5, .int 50, .int 1600, .int 0])), (pal, .inr (5, [.int 0, .ref en.2.2.1, .int 0]))] sz (fun _ => True) [.ref h, .int x, .int y]) (va_Qi (fun (r : Int32) (_ : Unit) => r = 0 ∧ (0 ≤ x ∧ x < 8) ∧ (0 ≤ y ∧ y < 6)) (fun _ _ => True) (va_A [(nte, .inr (10, [.ref nn, .ref ns, .ref ng, .int 0]))] sz)) (vx_X (fun _ : Unit => True) (fun E _ _ => (E = "java/lang/IllegalArgumentException" ∧ ¬ ((0 ≤ x ∧ x < 8) ∧ (0 ≤ y ∧ y < 6)))) (va_A [(nte, .inr (10, [.ref nn, .ref ns, .ref ng, .int 0]))] sz)) 1 6 (va_A [(nte, .inr (10, [.ref nn, .ref ns, .ref ng, .int 0]))] sz) := by
  refine vx_ofW (cc := cX11_guesses) (maxL := 3) (ret := (some .int)) (by decide) rfl ?_
  intro p e s m args below meth c s₁ B hml hext hv
  obtain ⟨rfl, hsz, hb0, hE, hPP, hK, hDD, hF0⟩ := hv
  have hx := B.exec
  have hb := B.bytes
  have hr := B.returns
  have hts := atoms_spec (ws := wo_c_X11_guesses) B.pre
  have hown : s.vm.findClass RX11 = some m.cls := findClass_of_methodNamed B.named
  have hlocks := B.notSynchronized
  subst hsz
  have hN0 := en_N hPP hDD rfl
  have hP : va_P (dC, dI) vwCl [(nte, .inr (10, [.ref nn, .ref ns, .ref ng, .int 0]))] s.heap := hPP.sub [0] rfl
  have hR0 : va_P (dC, dI) vwCl [(h, .inr (17, [.ref pal, .ref she, .ref fil, .ref nte, .ref dat, .ref vot, .ref loa, .ref nos, .ref pic, .ref spa, .int 5, .int 50, .int 1600, .int 0])), (pal, .inr (5, [.int 0, .ref en.2.2.1, .int 0]))] s.heap := hPP.sub [1, 2] rfl
  have hD0 : va_D (fun q => b0 ≤ q) [(nte, .inr (10, [.ref nn, .ref ns, .ref ng, .int 0]))] := hDD.sub [0] (by decide) rfl
  have hDr : va_D (fun q => b0 ≤ q) [(h, .inr (17, [.ref pal, .ref she, .ref fil, .ref nte, .ref dat, .ref vot, .ref loa, .ref nos, .ref pic, .ref spa, .int 5, .int 50, .int 1600, .int 0])), (pal, .inr (5, [.int 0, .ref en.2.2.1, .int 0]))] := hDD.sub [1, 2] (by decide) rfl
  have hAb := en_A (sz := s.heap.size) hD0 hb0
  have hD := hD0.self (sz := s.heap.size)
  generalize hAe : va_A [(nte, .inr (10, [.ref nn, .ref ns, .ref ng, .int 0]))] s.heap.size = A at hD hAb hN0 ⊢
  have hA : ∀ q : Nat, s.heap.size ≤ q → A q := fun q h => by rw [← hAe]; exact Or.inr h
  have hS : va_S A s.heap s.heap [] := va_S.rf
  have hR := hR0
  have hl := lv_entry [.ref h, .int x, .int y] (n := 3) (Nat.le_of_ble_eq_true rfl)
  rw [lg_entry_eq]
  generalize (lg_sl [.ref h, .int x, .int y] ++ List.replicate (3 - (lg_sl [.ref h, .int x, .int y]).length) Slot.unset).toArray = ls at hl ⊢
  have hl : lv_has ls 3 [(0, .ref h), (1, .int x), (2, .int y)] := hl
  refine lv_iload_n hx hb dX11_guesses_0 rfl (lv_at hl 1 rfl) ?_
  refine lv_iload_n hx hb dX11_guesses_1 rfl (lv_at hl 2 rfl) ?_
  have hPc := (hP.app hR).sub (ws' := [] ++ []) [] rfl
  have hDc := (en_DD hD hDr hN0 hAb).sub (ws' := [] ++ []) [] (by decide) rfl
  have hKc := hK.sub (tys' := []) [] rfl
  have hFc := va_free (wc := []) hD hS hA [] rfl
  refine vx_callv (vx_runS (As := [.int x, .int y]) (rest := []) ⟨hx, hb, hml, hown, hts⟩ (c_X11_demandPlace l hst dC dI b0 en s.heap.size x y) (va_cwS 2 hts go_c_X11_guesses_0 rfl rfl rfl (by decide +kernel) ⟨Nat.le_of_ble_eq_true rfl, Nat.le_of_ble_eq_true rfl⟩) ⟨cP.blind, cP.use (en_z hb0 hS) (hE.on hAb hS) hPc hKc hDc trivial⟩ rfl rfl hl.1 rfl (lv_room (Nat.le_of_ble_eq_true rfl)) dX11_guesses_2 ⟨Nat.le_of_ble_eq_true rfl, Nat.le_of_ble_eq_true rfl⟩) hS (fun q _ h => hFc q h) hFc (fun q _ h => hFc q h) (fun E ce q9 u t H1 locs ht hvm hpx hBX hz1 hk1 hS hce hcv hcl => ?_) (fun u t H1 locs ht hvm hw hB hz1 hk1 hS => ?_)
  · skip
    try dsimp only at hBX
    obtain ⟨rfl, hc⟩ := hBX
    refine vx_widen (k := 1) (n := 6) (Nat.le_of_ble_eq_true rfl) (Nat.le_of_ble_eq_true rfl) ?_
    exact vx_out (fun x hx => (hext x hx).elim) hlocks hce hcv hcl (fun t ht hW => ⟨(), trivial, ⟨rfl, (z_c_X11_guesses_343 x y hc)⟩, hS.F ht⟩) hS.2.2 (Nat.le_refl _) (Nat.le_refl _)
  have hP1 : va_P (dC, dI) vwCl [] H1 := fun k q h => by simp at h
  have hD1 : va_D (va_A [] s.heap.size) [] := ⟨fun i j p q h => by simp at h, fun k q h => by simp at h⟩
  try dsimp only at hw
  obtain ⟨hP, hD⟩ := va_join (wr := [(nte, .inr (10, [.ref nn, .ref ns, .ref ng, .int 0]))]) (w1 := []) hP hD [] [0] rfl rfl (by decide) (by decide) hk1 hFc hP1 hD1
  generalize H1 = H at hP hS ⊢
  have hP : va_P (dC, dI) vwCl [(nte, .inr (10, [.ref nn, .ref ns, .ref ng, .int 0]))] H := hP
  have hD : va_D A [(nte, .inr (10, [.ref nn, .ref ns, .ref ng, .int 0]))] := hD
  have hR := en_R hR0 hN0 hS
  refine W.widen (k := 1) (n := 6) (Nat.le_of_ble_eq_true rfl) (Nat.le_of_ble_eq_true rfl) ?_
  have h_2 := hw
  refine lv_aload_n hx hb dX11_guesses_5 rfl (lv_at hl 0 rfl) ?_
  refine va_get (D := (dC, dI)) (ci := 17) (v := .ref nte) (C := RX11) (T := TX11) (N := 14) hx hb hts (by decide +kernel) hown hK hR 0 rfl rfl 3 (by decide) (hts (.fieldLink RX11 25 "Underpaint" "notes" "LUnderpaint$Notes;") (by decide +kernel)) (fun _ h9 => h9) rfl dX11_guesses_6 ?_
  refine lv_aload_n hx hb dX11_guesses_9 rfl (lv_at hl 0 rfl) ?_
  refine va_get (D := (dC, dI)) (ci := 17) (v := .ref pal) (C := RX11) (T := TX11) (N := 14) hx hb hts (by decide +kernel) hown hK hR 0 rfl rfl 0 (by decide) (hts (.fieldLink RX11 10 "Underpaint" "palette" "Ljava/util/ArrayList;") (by decide +kernel)) (fun _ h9 => h9) rfl dX11_guesses_10 ?_
  refine lv_iload_n hx hb dX11_guesses_13 rfl (lv_at hl 1 rfl) ?_
  refine lv_iload_n hx hb dX11_guesses_14 rfl (lv_at hl 2 rfl) ?_
  have hPc := (hP.app hR).sub (ws' := [] ++ []) [] rfl
  have hDc := (en_DD hD hDr hN0 hAb).sub (ws' := [] ++ []) [] (by decide) rfl
  have hKc := hK.sub (tys' := []) [] rfl
  have hFc := va_free (wc := []) hD hS hA [] rfl
  refine va_calli (va_runS (As := [.int x, .int y]) (rest := [.ref pal, .ref nte]) ⟨hx, hb, hml, hown, hts⟩ (c_X11_placeOf l dC dI b0 en H.size x y) (va_cwS 2 hts go_c_X11_guesses_1 rfl rfl rfl (by decide +kernel) ⟨Nat.le_of_ble_eq_true rfl, Nat.le_of_ble_eq_true rfl⟩) ⟨cP.blind, cP.use (en_z hb0 hS) (hE.on hAb hS) hPc hKc hDc trivial⟩ rfl rfl hl.1 rfl (lv_room (Nat.le_of_ble_eq_true rfl)) dX11_guesses_15 ⟨Nat.le_of_ble_eq_true rfl, Nat.le_of_ble_eq_true rfl⟩) hS (fun q _ h => hFc q h) hFc (fun r_3 u t H1 locs ht hvm hw hB hz1 hk1 hS => ?_)
  have hP1 : va_P (dC, dI) vwCl [] H1 := fun k q h => by simp at h
  have hD1 : va_D (va_A [] H.size) [] := ⟨fun i j p q h => by simp at h, fun k q h => by simp at h⟩
  try dsimp only at hw
  obtain ⟨hP, hD⟩ := va_join (wr := [(nte, .inr (10, [.ref nn, .ref ns, .ref ng, .int 0]))]) (w1 := []) hP hD [] [0] rfl rfl (by decide) (by decide) hk1 hFc hP1 hD1
  generalize H1 = H at hP hS ⊢
  have hP : va_P (dC, dI) vwCl [(nte, .inr (10, [.ref nn, .ref ns, .ref ng, .int 0]))] H := hP
  have hD : va_D A [(nte, .inr (10, [.ref nn, .ref ns, .ref ng, .int 0]))] := hD
  have hR := en_R hR0 hN0 hS
  refine W.widen (k := 1) (n := 6) (Nat.le_of_ble_eq_true rfl) (Nat.le_of_ble_eq_true rfl) ?_
  subst r_3
  refine lv_ldc (v := 1000000000) hx hb hown (hts (.constant RX11 236 (1000000000)) (by decide +kernel)) dX11_guesses_18 ?_
  have hPc := (hP.app hR).sub (ws' := [(nte, .inr (10, [.ref nn, .ref ns, .ref ng, .int 0]))] ++ [(pal, .inr (5, [.int 0, .ref en.2.2.1, .int 0]))]) [0, 2] rfl
  have hDc := (en_DD hD hDr hN0 hAb).sub (ws' := [(nte, .inr (10, [.ref nn, .ref ns, .ref ng, .int 0]))] ++ [(pal, .inr (5, [.int 0, .ref en.2.2.1, .int 0]))]) [0, 2] (by decide) rfl
  have hKc := hK.sub (tys' := []) [] rfl
  have hFc := va_free (wc := [(nte, .inr (10, [.ref nn, .ref ns, .ref ng, .int 0]))]) hD hS hA [0] rfl
  refine va_calli (va_runV (As := [.ref pal, .int (y * 8 + x), .int 1000000000]) (rest := []) ⟨hx, hb, hml, hown, hts⟩ (c_X4_count l dC dI b0 en H.size nte nn ns ng pal (y * 8 + x) 1000000000) (cwV 3 hts go_c_X11_guesses_2 rfl rfl rfl (by decide +kernel) ⟨Nat.le_of_ble_eq_true rfl, Nat.le_of_ble_eq_true rfl⟩) ⟨cP.blind, va_recv hK hP (ci := 10) (q0 := 0) rfl rfl, cP.use (en_z hb0 hS) (hE.on hAb hS) hPc hKc hDc trivial⟩ rfl rfl hl.1 rfl (lv_room (Nat.le_of_ble_eq_true rfl)) dX11_guesses_20 ⟨Nat.le_of_ble_eq_true rfl, Nat.le_of_ble_eq_true rfl⟩) hS (fun q _ h => hFc q h) hFc (fun r_4 u t H1 locs ht hvm hw hB hz1 hk1 hS => ?_)
  have hP1 : va_P (dC, dI) vwCl [] H1 := fun k q h => by simp at h
  have hD1 : va_D (va_A [(nte, .inr (10, [.ref nn, .ref ns, .ref ng, .int 0]))] H.size) [] := ⟨fun i j p q h => by simp at h, fun k q h => by simp at h⟩
  try dsimp only at hw
  obtain ⟨hP, hD⟩ := va_join (wr := []) (w1 := []) hP hD [0] [] rfl rfl (by decide) (by decide) hk1 hFc hP1 hD1
  generalize H1 = H at hP hS ⊢
  have hP : va_P (dC, dI) vwCl [] H := hP
  have hD : va_D A [] := hD
  have hR := en_R hR0 hN0 hS
  refine W.widen (k := 1) (n := 6) (Nat.le_of_ble_eq_true rfl) (Nat.le_of_ble_eq_true rfl) ?_
  subst r_4
  refine W.widen (k := 1) (n := 6) (Nat.le_of_ble_eq_true rfl) (Nat.le_of_ble_eq_true rfl) ?_
  refine vx_ret ?_
  exact W.iret (v := 0) hx hb hr (fun t ht hW => ⟨⟨0, (), rfl, (z_c_X11_guesses_344 x y h_2), trivial⟩, hS.F ht⟩) hS.2.2 dX11_guesses_23
theorem z_c_X11_guessAt_345 (x : Int32) (y : Int32) (n : Int32) (a_0 : (0 ≤ x ∧ x < 8) ∧ (0 ≤ y ∧ y < 6)) (a_1 : n < 0) (a_2 : (0 : Int32) = 0) : (0 ≤ x ∧ x < 8) ∧ (0 ≤ y ∧ y < 6) := by grind
theorem z_c_X11_guessAt_346 (x : Int32) (y : Int32) (n : Int32) (a_0 : (0 ≤ x ∧ x < 8) ∧ (0 ≤ y ∧ y < 6)) (a_1 : ¬ n < 0) (a_2 : ¬ (1 : Int32) = 0) (a_3 : 0 ≤ n) (a_4 : (0 : Int32) = 0) : (0 ≤ x ∧ x < 8) ∧ (0 ≤ y ∧ y < 6) := by grind
theorem z_c_X11_guessAt_347 (x : Int32) (y : Int32) (n : Int32) (a_0 : (0 ≤ x ∧ x < 8) ∧ (0 ≤ y ∧ y < 6)) (a_1 : ¬ n < 0) (a_2 : ¬ (1 : Int32) = 0) (a_3 : ¬ 0 ≤ n) : False := by grind
def wo_c_X11_guessAt_w : List Cond := [Cond.fieldLink RX11 25 "Underpaint" "notes" "LUnderpaint$Notes;", Cond.fieldLink RX11 10 "Underpaint" "palette" "Ljava/util/ArrayList;"]
def wo_c_X11_guessAt : List Cond := .code yX11_guessAt cX11_guessAt 6 (some .int) :: (wo_c_X11_guessAt_w ++ (u_ws RX11 TX11 14 ++ (va_wsS RX11 176 yX11_demandPlace wsX11_demandPlace ++ (va_wsS RX11 187 yX11_demandElement wsX11_demandElement ++ (va_wsS RX11 222 yX11_placeOf wsX11_placeOf ++ (wsV RX11 237 RX4 yX4_countGuesses wo_c_X4_count ++ List.nil))))))
theorem gw_wo_c_X11_guessAt : wo_c_X11_guessAt.all goodWord = true := gw_c (by decide +kernel) (gw_a (by decide +kernel) (gw_a (by decide +kernel) (gw_a (gw_a (by decide +kernel) gw_wsX11_demandPlace) (gw_a (gw_a (by decide +kernel) gw_wsX11_demandElement) (gw_a (gw_a (by decide +kernel) gw_wsX11_placeOf) (gw_a (gw_a (by decide +kernel) gw_wo_c_X4_count) rfl))))))
theorem go_c_X11_guessAt_0 : GoodIn wo_c_X11_guessAt (va_wsS RX11 176 yX11_demandPlace wsX11_demandPlace) := goodIn_sub (fun _ h => List.mem_cons_of_mem _ (List.mem_append_right _ (List.mem_append_right _ (List.mem_append_left _ h)))) (gw_a (by decide +kernel) gw_wsX11_demandPlace)
theorem go_c_X11_guessAt_1 : GoodIn wo_c_X11_guessAt (va_wsS RX11 187 yX11_demandElement wsX11_demandElement) := goodIn_sub (fun _ h => List.mem_cons_of_mem _ (List.mem_append_right _ (List.mem_append_right _ (List.mem_append_right _ (List.mem_append_left _ h))))) (gw_a (by decide +kernel) gw_wsX11_demandElement)
theorem go_c_X11_guessAt_2 : GoodIn wo_c_X11_guessAt (va_wsS RX11 222 yX11_placeOf wsX11_placeOf) := goodIn_sub (fun _ h => List.mem_cons_of_mem _ (List.mem_append_right _ (List.mem_append_right _ (List.mem_append_right _ (List.mem_append_right _ (List.mem_append_left _ h)))))) (gw_a (by decide +kernel) gw_wsX11_placeOf)
theorem go_c_X11_guessAt_3 : GoodIn wo_c_X11_guessAt (wsV RX11 237 RX4 yX4_countGuesses wo_c_X4_count) := goodIn_sub (fun _ h => List.mem_cons_of_mem _ (List.mem_append_right _ (List.mem_append_right _ (List.mem_append_right _ (List.mem_append_right _ (List.mem_append_right _ (List.mem_append_left _ h))))))) (gw_a (by decide +kernel) gw_wo_c_X4_count)
set_option maxHeartbeats 4000000 in
set_option maxRecDepth 100000 in
theorem c_X11_guessAt (l : Launch) (hst : l.stackTraces = false) (dC : Nat → ClassId) (dI : Nat → Nat → Nat) (b0 : Nat) (en : EnT) (sz : Nat) (h pal she fil nte dat vot loa nos pic spa : Nat) (nn ns ng : Nat) (x y n k : Int32) : vx_Met l yX11_guessAt wo_c_X11_guessAt ({ frames := 7, cells := 3, slots := 18, locals := 111 } : Room) (cP b0 en (dC, dI) [] [(nte, .inr (10, [.ref nn, .ref ns, .ref ng, .int 0]))] [(h, .inr (17, [.ref pal, .ref she, .ref fil, .ref nte, .ref dat, .ref vot, .ref loa, .ref nos, .ref pic, .ref spa, .int 5, .int 50, .int 1600, .int 0])), (pal, .inr (5, [.int 0, .ref en.2.2.1, .int 0]))] sz (fun _ => True) [.ref h, .int x, .int y, .int n, .int k]) (va_Qi (fun (r : Int32) (_ : Unit) => False) (fun _ _ => True) (va_A [(nte, .inr (10, [.ref nn, .ref ns, .ref ng, .int 0]))] sz)) (vx_X (fun _ : Unit => True) (fun E _ _ => (E = "java/lang/IllegalArgumentException" ∧ ¬ ((0 ≤ x ∧ x < 8) ∧ (0 ≤ y ∧ y < 6))) ∨ (E = "java/util/NoSuchElementException" ∧ (0 ≤ x ∧ x < 8) ∧ (0 ≤ y ∧ y < 6))) (va_A [(nte, .inr (10, [.ref nn, .ref ns, .ref ng, .int 0]))] sz)) 3 18 (va_A [(nte, .inr (10, [.ref nn, .ref ns, .ref ng, .int 0]))] sz) := by
  refine vx_ofW (cc := cX11_guessAt) (maxL := 6) (ret := (some .int)) (by decide) rfl ?_
  intro p e s m args below meth c s₁ B hml hext hv
  obtain ⟨rfl, hsz, hb0, hE, hPP, hK, hDD, hF0⟩ := hv
  have hx := B.exec
  have hb := B.bytes
  have hr := B.returns
  have hts := atoms_spec (ws := wo_c_X11_guessAt) B.pre
  have hown : s.vm.findClass RX11 = some m.cls := findClass_of_methodNamed B.named
  have hlocks := B.notSynchronized
  subst hsz
  have hN0 := en_N hPP hDD rfl
  have hP : va_P (dC, dI) vwCl [(nte, .inr (10, [.ref nn, .ref ns, .ref ng, .int 0]))] s.heap := hPP.sub [0] rfl
  have hR0 : va_P (dC, dI) vwCl [(h, .inr (17, [.ref pal, .ref she, .ref fil, .ref nte, .ref dat, .ref vot, .ref loa, .ref nos, .ref pic, .ref spa, .int 5, .int 50, .int 1600, .int 0])), (pal, .inr (5, [.int 0, .ref en.2.2.1, .int 0]))] s.heap := hPP.sub [1, 2] rfl
  have hD0 : va_D (fun q => b0 ≤ q) [(nte, .inr (10, [.ref nn, .ref ns, .ref ng, .int 0]))] := hDD.sub [0] (by decide) rfl
  have hDr : va_D (fun q => b0 ≤ q) [(h, .inr (17, [.ref pal, .ref she, .ref fil, .ref nte, .ref dat, .ref vot, .ref loa, .ref nos, .ref pic, .ref spa, .int 5, .int 50, .int 1600, .int 0])), (pal, .inr (5, [.int 0, .ref en.2.2.1, .int 0]))] := hDD.sub [1, 2] (by decide) rfl
  have hAb := en_A (sz := s.heap.size) hD0 hb0
  have hD := hD0.self (sz := s.heap.size)
  generalize hAe : va_A [(nte, .inr (10, [.ref nn, .ref ns, .ref ng, .int 0]))] s.heap.size = A at hD hAb hN0 ⊢
  have hA : ∀ q : Nat, s.heap.size ≤ q → A q := fun q h => by rw [← hAe]; exact Or.inr h
  have hS : va_S A s.heap s.heap [] := va_S.rf
  have hR := hR0
  have hl := lv_entry [.ref h, .int x, .int y, .int n, .int k] (n := 6) (Nat.le_of_ble_eq_true rfl)
  rw [lg_entry_eq]
  generalize (lg_sl [.ref h, .int x, .int y, .int n, .int k] ++ List.replicate (6 - (lg_sl [.ref h, .int x, .int y, .int n, .int k]).length) Slot.unset).toArray = ls at hl ⊢
  have hl : lv_has ls 6 [(0, .ref h), (1, .int x), (2, .int y), (3, .int n), (4, .int k)] := hl
  refine lv_iload_n hx hb dX11_guessAt_0 rfl (lv_at hl 1 rfl) ?_
  refine lv_iload_n hx hb dX11_guessAt_1 rfl (lv_at hl 2 rfl) ?_
  have hPc := (hP.app hR).sub (ws' := [] ++ []) [] rfl
  have hDc := (en_DD hD hDr hN0 hAb).sub (ws' := [] ++ []) [] (by decide) rfl
  have hKc := hK.sub (tys' := []) [] rfl
  have hFc := va_free (wc := []) hD hS hA [] rfl
  refine vx_callv (vx_runS (As := [.int x, .int y]) (rest := []) ⟨hx, hb, hml, hown, hts⟩ (c_X11_demandPlace l hst dC dI b0 en s.heap.size x y) (va_cwS 2 hts go_c_X11_guessAt_0 rfl rfl rfl (by decide +kernel) ⟨Nat.le_of_ble_eq_true rfl, Nat.le_of_ble_eq_true rfl⟩) ⟨cP.blind, cP.use (en_z hb0 hS) (hE.on hAb hS) hPc hKc hDc trivial⟩ rfl rfl hl.1 rfl (lv_room (Nat.le_of_ble_eq_true rfl)) dX11_guessAt_2 ⟨Nat.le_of_ble_eq_true rfl, Nat.le_of_ble_eq_true rfl⟩) hS (fun q _ h => hFc q h) hFc (fun q _ h => hFc q h) (fun E ce q9 u t H1 locs ht hvm hpx hBX hz1 hk1 hS hce hcv hcl => ?_) (fun u t H1 locs ht hvm hw hB hz1 hk1 hS => ?_)
  · skip
    try dsimp only at hBX
    obtain ⟨rfl, hc⟩ := hBX
    refine vx_widen (k := 3) (n := 18) (Nat.le_of_ble_eq_true rfl) (Nat.le_of_ble_eq_true rfl) ?_
    exact vx_out (fun x hx => (hext x hx).elim) hlocks hce hcv hcl (fun t ht hW => ⟨(), trivial, Or.inl ⟨rfl, (z_c_X11_guesses_343 x y hc)⟩, hS.F ht⟩) hS.2.2 (Nat.le_refl _) (Nat.le_refl _)
  have hP1 : va_P (dC, dI) vwCl [] H1 := fun k q h => by simp at h
  have hD1 : va_D (va_A [] s.heap.size) [] := ⟨fun i j p q h => by simp at h, fun k q h => by simp at h⟩
  try dsimp only at hw
  obtain ⟨hP, hD⟩ := va_join (wr := [(nte, .inr (10, [.ref nn, .ref ns, .ref ng, .int 0]))]) (w1 := []) hP hD [] [0] rfl rfl (by decide) (by decide) hk1 hFc hP1 hD1
  generalize H1 = H at hP hS ⊢
  have hP : va_P (dC, dI) vwCl [(nte, .inr (10, [.ref nn, .ref ns, .ref ng, .int 0]))] H := hP
  have hD : va_D A [(nte, .inr (10, [.ref nn, .ref ns, .ref ng, .int 0]))] := hD
  have hR := en_R hR0 hN0 hS
  refine W.widen (k := 1) (n := 6) (Nat.le_of_ble_eq_true rfl) (Nat.le_of_ble_eq_true rfl) ?_
  have h_2 := hw
  refine lv_iload_n hx hb dX11_guessAt_5 rfl (lv_at hl 3 rfl) ?_
  refine lv_if_lt (tgt := 13) hx hb dX11_guessAt_6 (by decide) (fun c_3 => ?_) (fun c_3 => ?_)
  · skip
    refine lv_iconst (v := 0) hx hb dX11_guessAt_13 (by decide) ?_
    have hPc := (hP.app hR).sub (ws' := [] ++ []) [] rfl
    have hDc := (en_DD hD hDr hN0 hAb).sub (ws' := [] ++ []) [] (by decide) rfl
    have hKc := hK.sub (tys' := []) [] rfl
    have hFc := va_free (wc := []) hD hS hA [] rfl
    refine vx_callv (vx_runS (As := [.int 0]) (rest := []) ⟨hx, hb, hml, hown, hts⟩ (c_X11_demandElement l hst dC dI b0 en H.size 0) (va_cwS 1 hts go_c_X11_guessAt_1 rfl rfl rfl (by decide +kernel) ⟨Nat.le_of_ble_eq_true rfl, Nat.le_of_ble_eq_true rfl⟩) ⟨cP.blind, cP.use (en_z hb0 hS) (hE.on hAb hS) hPc hKc hDc trivial⟩ rfl rfl hl.1 rfl (lv_room (Nat.le_of_ble_eq_true rfl)) dX11_guessAt_14 ⟨Nat.le_of_ble_eq_true rfl, Nat.le_of_ble_eq_true rfl⟩) hS (fun q _ h => hFc q h) hFc (fun q _ h => hFc q h) (fun E ce q9 u t H1 locs ht hvm hpx hBX hz1 hk1 hS hce hcv hcl => ?_) (fun u t H1 locs ht hvm hw hB hz1 hk1 hS => ?_)
    · skip
      try dsimp only at hBX
      obtain ⟨rfl, hc⟩ := hBX
      refine vx_widen (k := 3) (n := 18) (Nat.le_of_ble_eq_true rfl) (Nat.le_of_ble_eq_true rfl) ?_
      exact vx_out (fun x hx => (hext x hx).elim) hlocks hce hcv hcl (fun t ht hW => ⟨(), trivial, Or.inr (⟨rfl, (z_c_X11_guessAt_345 x y n h_2 c_3 hc)⟩), hS.F ht⟩) hS.2.2 (Nat.le_refl _) (Nat.le_refl _)
    have hP1 : va_P (dC, dI) vwCl [] H1 := fun k q h => by simp at h
    have hD1 : va_D (va_A [] H.size) [] := ⟨fun i j p q h => by simp at h, fun k q h => by simp at h⟩
    try dsimp only at hw
    obtain ⟨hP, hD⟩ := va_join (wr := [(nte, .inr (10, [.ref nn, .ref ns, .ref ng, .int 0]))]) (w1 := []) hP hD [] [0] rfl rfl (by decide) (by decide) hk1 hFc hP1 hD1
    generalize H1 = H at hP hS ⊢
    have hP : va_P (dC, dI) vwCl [(nte, .inr (10, [.ref nn, .ref ns, .ref ng, .int 0]))] H := hP
    have hD : va_D A [(nte, .inr (10, [.ref nn, .ref ns, .ref ng, .int 0]))] := hD
    have hR := en_R hR0 hN0 hS
    refine W.widen (k := 2) (n := 12) (Nat.le_of_ble_eq_true rfl) (Nat.le_of_ble_eq_true rfl) ?_
    have h_5 := hw
    exact absurd h_5 (by decide)
  · skip
    refine lv_iconst (v := 1) hx hb dX11_guessAt_9 (by decide) ?_
    refine lv_goto (tgt := 14) hx hb dX11_guessAt_10 (by decide) ?_
    have hPc := (hP.app hR).sub (ws' := [] ++ []) [] rfl
    have hDc := (en_DD hD hDr hN0 hAb).sub (ws' := [] ++ []) [] (by decide) rfl
    have hKc := hK.sub (tys' := []) [] rfl
    have hFc := va_free (wc := []) hD hS hA [] rfl
    refine vx_callv (vx_runS (As := [.int 1]) (rest := []) ⟨hx, hb, hml, hown, hts⟩ (c_X11_demandElement l hst dC dI b0 en H.size 1) (va_cwS 1 hts go_c_X11_guessAt_1 rfl rfl rfl (by decide +kernel) ⟨Nat.le_of_ble_eq_true rfl, Nat.le_of_ble_eq_true rfl⟩) ⟨cP.blind, cP.use (en_z hb0 hS) (hE.on hAb hS) hPc hKc hDc trivial⟩ rfl rfl hl.1 rfl (lv_room (Nat.le_of_ble_eq_true rfl)) dX11_guessAt_14 ⟨Nat.le_of_ble_eq_true rfl, Nat.le_of_ble_eq_true rfl⟩) hS (fun q _ h => hFc q h) hFc (fun q _ h => hFc q h) (fun E ce q9 u t H1 locs ht hvm hpx hBX hz1 hk1 hS hce hcv hcl => ?_) (fun u t H1 locs ht hvm hw hB hz1 hk1 hS => ?_)
    · skip
      try dsimp only at hBX
      obtain ⟨rfl, hc⟩ := hBX
      exact absurd hc (by decide)
    have hP1 : va_P (dC, dI) vwCl [] H1 := fun k q h => by simp at h
    have hD1 : va_D (va_A [] H.size) [] := ⟨fun i j p q h => by simp at h, fun k q h => by simp at h⟩
    try dsimp only at hw
    obtain ⟨hP, hD⟩ := va_join (wr := [(nte, .inr (10, [.ref nn, .ref ns, .ref ng, .int 0]))]) (w1 := []) hP hD [] [0] rfl rfl (by decide) (by decide) hk1 hFc hP1 hD1
    generalize H1 = H at hP hS ⊢
    have hP : va_P (dC, dI) vwCl [(nte, .inr (10, [.ref nn, .ref ns, .ref ng, .int 0]))] H := hP
    have hD : va_D A [(nte, .inr (10, [.ref nn, .ref ns, .ref ng, .int 0]))] := hD
    have hR := en_R hR0 hN0 hS
    refine W.widen (k := 2) (n := 12) (Nat.le_of_ble_eq_true rfl) (Nat.le_of_ble_eq_true rfl) ?_
    have h_7 := hw
    refine lv_aload_n hx hb dX11_guessAt_17 rfl (lv_at hl 0 rfl) ?_
    refine va_get (D := (dC, dI)) (ci := 17) (v := .ref nte) (C := RX11) (T := TX11) (N := 14) hx hb hts (by decide +kernel) hown hK hR 0 rfl rfl 3 (by decide) (hts (.fieldLink RX11 25 "Underpaint" "notes" "LUnderpaint$Notes;") (by decide +kernel)) (fun _ h9 => h9) rfl dX11_guessAt_18 ?_
    refine lv_aload_n hx hb dX11_guessAt_21 rfl (lv_at hl 0 rfl) ?_
    refine va_get (D := (dC, dI)) (ci := 17) (v := .ref pal) (C := RX11) (T := TX11) (N := 14) hx hb hts (by decide +kernel) hown hK hR 0 rfl rfl 0 (by decide) (hts (.fieldLink RX11 10 "Underpaint" "palette" "Ljava/util/ArrayList;") (by decide +kernel)) (fun _ h9 => h9) rfl dX11_guessAt_22 ?_
    refine lv_iload_n hx hb dX11_guessAt_25 rfl (lv_at hl 1 rfl) ?_
    refine lv_iload_n hx hb dX11_guessAt_26 rfl (lv_at hl 2 rfl) ?_
    have hPc := (hP.app hR).sub (ws' := [] ++ []) [] rfl
    have hDc := (en_DD hD hDr hN0 hAb).sub (ws' := [] ++ []) [] (by decide) rfl
    have hKc := hK.sub (tys' := []) [] rfl
    have hFc := va_free (wc := []) hD hS hA [] rfl
    refine va_calli (va_runS (As := [.int x, .int y]) (rest := [.ref pal, .ref nte]) ⟨hx, hb, hml, hown, hts⟩ (c_X11_placeOf l dC dI b0 en H.size x y) (va_cwS 2 hts go_c_X11_guessAt_2 rfl rfl rfl (by decide +kernel) ⟨Nat.le_of_ble_eq_true rfl, Nat.le_of_ble_eq_true rfl⟩) ⟨cP.blind, cP.use (en_z hb0 hS) (hE.on hAb hS) hPc hKc hDc trivial⟩ rfl rfl hl.1 rfl (lv_room (Nat.le_of_ble_eq_true rfl)) dX11_guessAt_27 ⟨Nat.le_of_ble_eq_true rfl, Nat.le_of_ble_eq_true rfl⟩) hS (fun q _ h => hFc q h) hFc (fun r_8 u t H1 locs ht hvm hw hB hz1 hk1 hS => ?_)
    have hP1 : va_P (dC, dI) vwCl [] H1 := fun k q h => by simp at h
    have hD1 : va_D (va_A [] H.size) [] := ⟨fun i j p q h => by simp at h, fun k q h => by simp at h⟩
    try dsimp only at hw
    obtain ⟨hP, hD⟩ := va_join (wr := [(nte, .inr (10, [.ref nn, .ref ns, .ref ng, .int 0]))]) (w1 := []) hP hD [] [0] rfl rfl (by decide) (by decide) hk1 hFc hP1 hD1
    generalize H1 = H at hP hS ⊢
    have hP : va_P (dC, dI) vwCl [(nte, .inr (10, [.ref nn, .ref ns, .ref ng, .int 0]))] H := hP
    have hD : va_D A [(nte, .inr (10, [.ref nn, .ref ns, .ref ng, .int 0]))] := hD
    have hR := en_R hR0 hN0 hS
    refine W.widen (k := 2) (n := 12) (Nat.le_of_ble_eq_true rfl) (Nat.le_of_ble_eq_true rfl) ?_
    subst r_8
    refine lv_iload_n hx hb dX11_guessAt_30 rfl (lv_at hl 3 rfl) ?_
    have hPc := (hP.app hR).sub (ws' := [(nte, .inr (10, [.ref nn, .ref ns, .ref ng, .int 0]))] ++ [(pal, .inr (5, [.int 0, .ref en.2.2.1, .int 0]))]) [0, 2] rfl
    have hDc := (en_DD hD hDr hN0 hAb).sub (ws' := [(nte, .inr (10, [.ref nn, .ref ns, .ref ng, .int 0]))] ++ [(pal, .inr (5, [.int 0, .ref en.2.2.1, .int 0]))]) [0, 2] (by decide) rfl
    have hKc := hK.sub (tys' := []) [] rfl
    have hFc := va_free (wc := [(nte, .inr (10, [.ref nn, .ref ns, .ref ng, .int 0]))]) hD hS hA [0] rfl
    refine va_calli (va_runV (As := [.ref pal, .int (y * 8 + x), .int n]) (rest := []) ⟨hx, hb, hml, hown, hts⟩ (c_X4_count l dC dI b0 en H.size nte nn ns ng pal (y * 8 + x) n) (cwV 3 hts go_c_X11_guessAt_3 rfl rfl rfl (by decide +kernel) ⟨Nat.le_of_ble_eq_true rfl, Nat.le_of_ble_eq_true rfl⟩) ⟨cP.blind, va_recv hK hP (ci := 10) (q0 := 0) rfl rfl, cP.use (en_z hb0 hS) (hE.on hAb hS) hPc hKc hDc trivial⟩ rfl rfl hl.1 rfl (lv_room (Nat.le_of_ble_eq_true rfl)) dX11_guessAt_31 ⟨Nat.le_of_ble_eq_true rfl, Nat.le_of_ble_eq_true rfl⟩) hS (fun q _ h => hFc q h) hFc (fun r_9 u t H1 locs ht hvm hw hB hz1 hk1 hS => ?_)
    have hP1 : va_P (dC, dI) vwCl [] H1 := fun k q h => by simp at h
    have hD1 : va_D (va_A [(nte, .inr (10, [.ref nn, .ref ns, .ref ng, .int 0]))] H.size) [] := ⟨fun i j p q h => by simp at h, fun k q h => by simp at h⟩
    try dsimp only at hw
    obtain ⟨hP, hD⟩ := va_join (wr := []) (w1 := []) hP hD [0] [] rfl rfl (by decide) (by decide) hk1 hFc hP1 hD1
    generalize H1 = H at hP hS ⊢
    have hP : va_P (dC, dI) vwCl [] H := hP
    have hD : va_D A [] := hD
    have hR := en_R hR0 hN0 hS
    refine W.widen (k := 2) (n := 12) (Nat.le_of_ble_eq_true rfl) (Nat.le_of_ble_eq_true rfl) ?_
    subst r_9
    refine lv_iload_n hx hb dX11_guessAt_34 rfl (lv_at hl 3 rfl) ?_
    refine lv_icmp_le (tgt := 42) hx hb dX11_guessAt_35 (by decide) (fun c_10 => ?_) (fun c_10 => ?_)
    · skip
      refine lv_iconst (v := 0) hx hb dX11_guessAt_42 (by decide) ?_
      have hPc := (hP.app hR).sub (ws' := [] ++ []) [] rfl
      have hDc := (en_DD hD hDr hN0 hAb).sub (ws' := [] ++ []) [] (by decide) rfl
      have hKc := hK.sub (tys' := []) [] rfl
      have hFc := va_free (wc := []) hD hS hA [] rfl
      refine vx_callv (vx_runS (As := [.int 0]) (rest := []) ⟨hx, hb, hml, hown, hts⟩ (c_X11_demandElement l hst dC dI b0 en H.size 0) (va_cwS 1 hts go_c_X11_guessAt_1 rfl rfl rfl (by decide +kernel) ⟨Nat.le_of_ble_eq_true rfl, Nat.le_of_ble_eq_true rfl⟩) ⟨cP.blind, cP.use (en_z hb0 hS) (hE.on hAb hS) hPc hKc hDc trivial⟩ rfl rfl hl.1 rfl (lv_room (Nat.le_of_ble_eq_true rfl)) dX11_guessAt_43 ⟨Nat.le_of_ble_eq_true rfl, Nat.le_of_ble_eq_true rfl⟩) hS (fun q _ h => hFc q h) hFc (fun q _ h => hFc q h) (fun E ce q9 u t H1 locs ht hvm hpx hBX hz1 hk1 hS hce hcv hcl => ?_) (fun u t H1 locs ht hvm hw hB hz1 hk1 hS => ?_)
      · skip
        try dsimp only at hBX
        obtain ⟨rfl, hc⟩ := hBX
        refine vx_widen (k := 3) (n := 18) (Nat.le_of_ble_eq_true rfl) (Nat.le_of_ble_eq_true rfl) ?_
        exact vx_out (fun x hx => (hext x hx).elim) hlocks hce hcv hcl (fun t ht hW => ⟨(), trivial, Or.inr (⟨rfl, (z_c_X11_guessAt_346 x y n h_2 c_3 h_7 c_10 hc)⟩), hS.F ht⟩) hS.2.2 (Nat.le_refl _) (Nat.le_refl _)
      have hP1 : va_P (dC, dI) vwCl [] H1 := fun k q h => by simp at h
      have hD1 : va_D (va_A [] H.size) [] := ⟨fun i j p q h => by simp at h, fun k q h => by simp at h⟩
      try dsimp only at hw
      obtain ⟨hP, hD⟩ := va_join (wr := []) (w1 := []) hP hD [] [] rfl rfl (by decide) (by decide) hk1 hFc hP1 hD1
      generalize H1 = H at hP hS ⊢
      have hP : va_P (dC, dI) vwCl [] H := hP
      have hD : va_D A [] := hD
      have hR := en_R hR0 hN0 hS
      refine W.widen (k := 3) (n := 18) (Nat.le_of_ble_eq_true rfl) (Nat.le_of_ble_eq_true rfl) ?_
      have h_12 := hw
      exact absurd h_12 (by decide)
    · skip
      exact absurd (z_c_X11_guessAt_347 x y n h_2 c_3 h_7 c_10) (fun z => z)
theorem z_c_X11_isPossible_348 (x : Int32) (y : Int32) (a_0 : (0 ≤ x ∧ x < 8) ∧ (0 ≤ y ∧ y < 6)) : 0 ≤ (y * 8 + x) := by grind
theorem z_c_X11_isPossible_349 (x : Int32) (y : Int32) (a_0 : (0 ≤ x ∧ x < 8) ∧ (0 ≤ y ∧ y < 6)) : (y * 8 + x) < 48 := by grind
theorem z_c_X11_isPossible_350 (x : Int32) (y : Int32) (a_0 : (0 ≤ x ∧ x < 8) ∧ (0 ≤ y ∧ y < 6)) : (1 : Int32) = 1 ∧ (0 ≤ x ∧ x < 8) ∧ (0 ≤ y ∧ y < 6) := by grind
def wo_c_X11_isPossible_w : List Cond := [Cond.fieldLink RX11 25 "Underpaint" "notes" "LUnderpaint$Notes;", Cond.fieldLink RX11 62 "Underpaint" "picture" "LUnderpaint$Picture;"]
def wo_c_X11_isPossible : List Cond := .code yX11_isPossible cX11_isPossible 3 (some .boolean) :: (wo_c_X11_isPossible_w ++ (u_ws RX11 TX11 14 ++ (va_wsS RX11 176 yX11_demandPlace wsX11_demandPlace ++ (va_wsS RX11 222 yX11_placeOf wsX11_placeOf ++ (wsV RX11 179 RX5 yX5_at wo_c_at ++ (wsV RX11 248 RX4 yX4_match wo_c_X4_match ++ List.nil))))))
theorem gw_wo_c_X11_isPossible : wo_c_X11_isPossible.all goodWord = true := gw_c (by decide +kernel) (gw_a (by decide +kernel) (gw_a (by decide +kernel) (gw_a (gw_a (by decide +kernel) gw_wsX11_demandPlace) (gw_a (gw_a (by decide +kernel) gw_wsX11_placeOf) (gw_a (gw_a (by decide +kernel) gw_wo_c_at) (gw_a (gw_a (by decide +kernel) gw_wo_c_X4_match) rfl))))))
theorem go_c_X11_isPossible_0 : GoodIn wo_c_X11_isPossible (va_wsS RX11 176 yX11_demandPlace wsX11_demandPlace) := goodIn_sub (fun _ h => List.mem_cons_of_mem _ (List.mem_append_right _ (List.mem_append_right _ (List.mem_append_left _ h)))) (gw_a (by decide +kernel) gw_wsX11_demandPlace)
theorem go_c_X11_isPossible_1 : GoodIn wo_c_X11_isPossible (va_wsS RX11 222 yX11_placeOf wsX11_placeOf) := goodIn_sub (fun _ h => List.mem_cons_of_mem _ (List.mem_append_right _ (List.mem_append_right _ (List.mem_append_right _ (List.mem_append_left _ h))))) (gw_a (by decide +kernel) gw_wsX11_placeOf)
theorem go_c_X11_isPossible_2 : GoodIn wo_c_X11_isPossible (wsV RX11 179 RX5 yX5_at wo_c_at) := goodIn_sub (fun _ h => List.mem_cons_of_mem _ (List.mem_append_right _ (List.mem_append_right _ (List.mem_append_right _ (List.mem_append_right _ (List.mem_append_left _ h)))))) (gw_a (by decide +kernel) gw_wo_c_at)
theorem go_c_X11_isPossible_3 : GoodIn wo_c_X11_isPossible (wsV RX11 248 RX4 yX4_match wo_c_X4_match) := goodIn_sub (fun _ h => List.mem_cons_of_mem _ (List.mem_append_right _ (List.mem_append_right _ (List.mem_append_right _ (List.mem_append_right _ (List.mem_append_right _ (List.mem_append_left _ h))))))) (gw_a (by decide +kernel) gw_wo_c_X4_match)
set_option maxHeartbeats 4000000 in
set_option maxRecDepth 100000 in
theorem c_X11_isPossible (l : Launch) (hst : l.stackTraces = false) (dC : Nat → ClassId) (dI : Nat → Nat → Nat) (b0 : Nat) (en : EnT) (sz : Nat) (h pal she fil nte dat vot loa nos pic spa : Nat) (st sp ll : Nat) (g : Nat → Option Nat) (cS : ClassId) (N : Nat → Prop) (nn ns ng : Nat) (kZ : ClassId) (x y : Int32) (hNb : ∀ a, N a → b0 ≤ a ∧ a < sz) (hNw : ∀ a, N a → a ∉ List.map Prod.fst ([] : va_W)) (hNr : ∀ a, N a → a ∉ List.map Prod.fst ([(h, .inr (17, [.ref pal, .ref she, .ref fil, .ref nte, .ref dat, .ref vot, .ref loa, .ref nos, .ref pic, .ref spa, .int 5, .int 50, .int 1600, .int 0])), (nte, .inr (10, [.ref nn, .ref ns, .ref ng, .int 0])), (nn, .inl (kZ, 240, .inl (fun _ => 0))), (pic, .inr (11, [.ref st, .ref sp, .ref ll, .int 0, .int 1600])), (st, .inl (cS, 48, .inr (.inr (.inr (.inr g)))))] : va_W)) : vx_Met l yX11_isPossible wo_c_X11_isPossible ({ frames := 7, cells := 1, slots := 6, locals := 111 } : Room) (cP b0 en (dC, dI) [(cS, .object "Underpaint$Stack"), (kZ, .boolean)] [] [(h, .inr (17, [.ref pal, .ref she, .ref fil, .ref nte, .ref dat, .ref vot, .ref loa, .ref nos, .ref pic, .ref spa, .int 5, .int 50, .int 1600, .int 0])), (nte, .inr (10, [.ref nn, .ref ns, .ref ng, .int 0])), (nn, .inl (kZ, 240, .inl (fun _ => 0))), (pic, .inr (11, [.ref st, .ref sp, .ref ll, .int 0, .int 1600])), (st, .inl (cS, 48, .inr (.inr (.inr (.inr g)))))] sz (FamS (dC, dI) N g) [.ref h, .int x, .int y]) (va_Qi (fun (r : Int32) (_ : Unit) => r = 1 ∧ (0 ≤ x ∧ x < 8) ∧ (0 ≤ y ∧ y < 6)) (fun _ _ => True) (va_A [] sz)) (vx_X (fun _ : Unit => True) (fun E _ _ => (E = "java/lang/IllegalArgumentException" ∧ ¬ ((0 ≤ x ∧ x < 8) ∧ (0 ≤ y ∧ y < 6)))) (va_A [] sz)) 1 6 (va_A [] sz) := by
  refine vx_ofW (cc := cX11_isPossible) (maxL := 3) (ret := (some .boolean)) (by decide) rfl ?_
  intro p e s m args below meth c s₁ B hml hext hv
  obtain ⟨rfl, hsz, hb0, hE, hPP, hK, hDD, hF0⟩ := hv
  have hx := B.exec
  have hb := B.bytes
  have hr := B.returns
  have hts := atoms_spec (ws := wo_c_X11_isPossible) B.pre
  have hown : s.vm.findClass RX11 = some m.cls := findClass_of_methodNamed B.named
  have hlocks := B.notSynchronized
  subst hsz
  have hN0 := en_N hPP hDD rfl
  have hP : va_P (dC, dI) vwCl [] s.heap := hPP.sub [] rfl
  have hR0 : va_P (dC, dI) vwCl [(h, .inr (17, [.ref pal, .ref she, .ref fil, .ref nte, .ref dat, .ref vot, .ref loa, .ref nos, .ref pic, .ref spa, .int 5, .int 50, .int 1600, .int 0])), (nte, .inr (10, [.ref nn, .ref ns, .ref ng, .int 0])), (nn, .inl (kZ, 240, .inl (fun _ => 0))), (pic, .inr (11, [.ref st, .ref sp, .ref ll, .int 0, .int 1600])), (st, .inl (cS, 48, .inr (.inr (.inr (.inr g)))))] s.heap := hPP.sub [0, 1, 2, 3, 4] rfl
  have hD0 : va_D (fun q => b0 ≤ q) [] := hDD.sub [] (by decide) rfl
  have hDr : va_D (fun q => b0 ≤ q) [(h, .inr (17, [.ref pal, .ref she, .ref fil, .ref nte, .ref dat, .ref vot, .ref loa, .ref nos, .ref pic, .ref spa, .int 5, .int 50, .int 1600, .int 0])), (nte, .inr (10, [.ref nn, .ref ns, .ref ng, .int 0])), (nn, .inl (kZ, 240, .inl (fun _ => 0))), (pic, .inr (11, [.ref st, .ref sp, .ref ll, .int 0, .int 1600])), (st, .inl (cS, 48, .inr (.inr (.inr (.inr g)))))] := hDD.sub [0, 1, 2, 3, 4] (by decide) rfl
  have hAb := en_A (sz := s.heap.size) hD0 hb0
  have hD := hD0.self (sz := s.heap.size)
  generalize hAe : va_A [] s.heap.size = A at hD hAb hN0 ⊢
  have hA : ∀ q : Nat, s.heap.size ≤ q → A q := fun q h => by rw [← hAe]; exact Or.inr h
  have hS : va_S A s.heap s.heap [] := va_S.rf
  have hR := hR0
  have hl := lv_entry [.ref h, .int x, .int y] (n := 3) (Nat.le_of_ble_eq_true rfl)
  rw [lg_entry_eq]
  generalize (lg_sl [.ref h, .int x, .int y] ++ List.replicate (3 - (lg_sl [.ref h, .int x, .int y]).length) Slot.unset).toArray = ls at hl ⊢
  have hl : lv_has ls 3 [(0, .ref h), (1, .int x), (2, .int y)] := hl
  have hR0b := hR0
  have hDrb := hDr
  have hN0b := hN0
  refine lv_iload_n hx hb dX11_isPossible_0 rfl (lv_at hl 1 rfl) ?_
  refine lv_iload_n hx hb dX11_isPossible_1 rfl (lv_at hl 2 rfl) ?_
  have hPc := (hP.app hR).sub (ws' := [] ++ []) [] rfl
  have hDc := (en_DD hD hDr hN0 hAb).sub (ws' := [] ++ []) [] (by decide) rfl
  have hKc := hK.sub (tys' := []) [] rfl
  have hFc := va_free (wc := []) hD hS hA [] rfl
  refine vx_callv (vx_runS (As := [.int x, .int y]) (rest := []) ⟨hx, hb, hml, hown, hts⟩ (c_X11_demandPlace l hst dC dI b0 en s.heap.size x y) (va_cwS 2 hts go_c_X11_isPossible_0 rfl rfl rfl (by decide +kernel) ⟨Nat.le_of_ble_eq_true rfl, Nat.le_of_ble_eq_true rfl⟩) ⟨cP.blind, cP.use (en_z hb0 hS) (hE.on hAb hS) hPc hKc hDc trivial⟩ rfl rfl hl.1 rfl (lv_room (Nat.le_of_ble_eq_true rfl)) dX11_isPossible_2 ⟨Nat.le_of_ble_eq_true rfl, Nat.le_of_ble_eq_true rfl⟩) hS (fun q _ h => hFc q h) hFc (fun q _ h => hFc q h) (fun E ce q9 u t H1 locs ht hvm hpx hBX hz1 hk1 hS hce hcv hcl => ?_) (fun u t H1 locs ht hvm hw hB hz1 hk1 hS => ?_)
  · skip
    try dsimp only at hBX
    obtain ⟨rfl, hc⟩ := hBX
    refine vx_widen (k := 1) (n := 6) (Nat.le_of_ble_eq_true rfl) (Nat.le_of_ble_eq_true rfl) ?_
    exact vx_out (fun x hx => (hext x hx).elim) hlocks hce hcv hcl (fun t ht hW => ⟨(), trivial, ⟨rfl, (z_c_X11_guesses_343 x y hc)⟩, hS.F ht⟩) hS.2.2 (Nat.le_refl _) (Nat.le_refl _)
  have hP1 : va_P (dC, dI) vwCl [] H1 := fun k q h => by simp at h
  have hD1 : va_D (va_A [] s.heap.size) [] := ⟨fun i j p q h => by simp at h, fun k q h => by simp at h⟩
  try dsimp only at hw
  obtain ⟨hP, hD⟩ := va_join (wr := []) (w1 := []) hP hD [] [] rfl rfl (by decide) (by decide) hk1 hFc hP1 hD1
  generalize H1 = H at hP hS ⊢
  have hP : va_P (dC, dI) vwCl [] H := hP
  have hD : va_D A [] := hD
  have hR := en_R hR0 hN0 hS
  refine W.widen (k := 1) (n := 6) (Nat.le_of_ble_eq_true rfl) (Nat.le_of_ble_eq_true rfl) ?_
  have h_2 := hw
  refine lv_aload_n hx hb dX11_isPossible_5 rfl (lv_at hl 0 rfl) ?_
  refine va_get (D := (dC, dI)) (ci := 17) (v := .ref nte) (C := RX11) (T := TX11) (N := 14) hx hb hts (by decide +kernel) hown hK hR 0 rfl rfl 3 (by decide) (hts (.fieldLink RX11 25 "Underpaint" "notes" "LUnderpaint$Notes;") (by decide +kernel)) (fun _ h9 => h9) rfl dX11_isPossible_6 ?_
  refine lv_iload_n hx hb dX11_isPossible_9 rfl (lv_at hl 1 rfl) ?_
  refine lv_iload_n hx hb dX11_isPossible_10 rfl (lv_at hl 2 rfl) ?_
  have hPc := (hP.app hR).sub (ws' := [] ++ []) [] rfl
  have hDc := (en_DD hD hDr hN0 hAb).sub (ws' := [] ++ []) [] (by decide) rfl
  have hKc := hK.sub (tys' := []) [] rfl
  have hFc := va_free (wc := []) hD hS hA [] rfl
  refine va_calli (va_runS (As := [.int x, .int y]) (rest := [.ref nte]) ⟨hx, hb, hml, hown, hts⟩ (c_X11_placeOf l dC dI b0 en H.size x y) (va_cwS 2 hts go_c_X11_isPossible_1 rfl rfl rfl (by decide +kernel) ⟨Nat.le_of_ble_eq_true rfl, Nat.le_of_ble_eq_true rfl⟩) ⟨cP.blind, cP.use (en_z hb0 hS) (hE.on hAb hS) hPc hKc hDc trivial⟩ rfl rfl hl.1 rfl (lv_room (Nat.le_of_ble_eq_true rfl)) dX11_isPossible_11 ⟨Nat.le_of_ble_eq_true rfl, Nat.le_of_ble_eq_true rfl⟩) hS (fun q _ h => hFc q h) hFc (fun r_3 u t H1 locs ht hvm hw hB hz1 hk1 hS => ?_)
  have hP1 : va_P (dC, dI) vwCl [] H1 := fun k q h => by simp at h
  have hD1 : va_D (va_A [] H.size) [] := ⟨fun i j p q h => by simp at h, fun k q h => by simp at h⟩
  try dsimp only at hw
  obtain ⟨hP, hD⟩ := va_join (wr := []) (w1 := []) hP hD [] [] rfl rfl (by decide) (by decide) hk1 hFc hP1 hD1
  generalize H1 = H at hP hS ⊢
  have hP : va_P (dC, dI) vwCl [] H := hP
  have hD : va_D A [] := hD
  have hR := en_R hR0 hN0 hS
  refine W.widen (k := 1) (n := 6) (Nat.le_of_ble_eq_true rfl) (Nat.le_of_ble_eq_true rfl) ?_
  subst r_3
  refine lv_aload_n hx hb dX11_isPossible_14 rfl (lv_at hl 0 rfl) ?_
  refine va_get (D := (dC, dI)) (ci := 17) (v := .ref pic) (C := RX11) (T := TX11) (N := 14) hx hb hts (by decide +kernel) hown hK hR 0 rfl rfl 8 (by decide) (hts (.fieldLink RX11 62 "Underpaint" "picture" "LUnderpaint$Picture;") (by decide +kernel)) (fun _ h9 => h9) rfl dX11_isPossible_15 ?_
  refine lv_iload_n hx hb dX11_isPossible_18 rfl (lv_at hl 1 rfl) ?_
  refine lv_iload_n hx hb dX11_isPossible_19 rfl (lv_at hl 2 rfl) ?_
  have hPc := (hP.app hR).sub (ws' := [] ++ [(pic, .inr (11, [.ref st, .ref sp, .ref ll, .int 0, .int 1600])), (st, .inl (cS, 48, .inr (.inr (.inr (.inr g)))))]) [3, 4] rfl
  have hDc := (en_DD hD hDr hN0 hAb).sub (ws' := [] ++ [(pic, .inr (11, [.ref st, .ref sp, .ref ll, .int 0, .int 1600])), (st, .inl (cS, 48, .inr (.inr (.inr (.inr g)))))]) [3, 4] (by decide) rfl
  have hKc := hK.sub (tys' := [(cS, .object "Underpaint$Stack")]) [0] rfl
  have hFc := va_free (wc := []) hD hS hA [] rfl
  refine va_callq (va_runV (As := [.int x, .int y]) (rest := [.int (y * 8 + x), .ref nte]) ⟨hx, hb, hml, hown, hts⟩ (c_at l dC dI b0 en H.size pic st sp ll x y g cS (z_c_X5_raking_257 x y h_2)) (cwV 2 hts go_c_X11_isPossible_2 rfl rfl rfl (by decide +kernel) ⟨Nat.le_of_ble_eq_true rfl, Nat.le_of_ble_eq_true rfl⟩) ⟨cP.blind, va_recv hK hR (ci := 11) (q0 := 3) rfl rfl, cP.use (en_z hb0 hS) (hE.on hAb hS) hPc hKc hDc trivial⟩ rfl rfl hl.1 rfl (lv_room (Nat.le_of_ble_eq_true rfl)) dX11_isPossible_20 ⟨Nat.le_of_ble_eq_true rfl, Nat.le_of_ble_eq_true rfl⟩) hS (fun q _ h => hFc q h) hFc (fun r_4 u t H1 locs ht hvm hw hB hz1 hk1 hS => ?_)
  have hP1 : va_P (dC, dI) vwCl [] H1 := fun k q h => by simp at h
  have hD1 : va_D (va_A [] H.size) [] := ⟨fun i j p q h => by simp at h, fun k q h => by simp at h⟩
  try dsimp only at hw
  obtain ⟨hP, hD⟩ := va_join (wr := []) (w1 := []) hP hD [] [] rfl rfl (by decide) (by decide) hk1 hFc hP1 hD1
  generalize H1 = H at hP hS ⊢
  have hP : va_P (dC, dI) vwCl [] H := hP
  have hD : va_D A [] := hD
  have hR := en_R hR0 hN0 hS
  refine W.widen (k := 1) (n := 6) (Nat.le_of_ble_eq_true rfl) (Nat.le_of_ble_eq_true rfl) ?_
  subst r_4
  obtain ⟨ap_5, rp_5, hgp_5, hup_5, hnp_5⟩ := hF0 (pidx x y) (pidx_lt (z_c_X5_raking_258 x y h_2))
  refine lv_topv (w := .ref ap_5) (by rw [hgp_5]; rfl) ?_
  have hxp_5 : ¬ A ap_5 := by rw [← hAe]; exact vA0 hup_5.lt
  have hR0 : va_P (dC, dI) vwCl [(h, .inr (17, [.ref pal, .ref she, .ref fil, .ref nte, .ref dat, .ref vot, .ref loa, .ref nos, .ref pic, .ref spa, .int 5, .int 50, .int 1600, .int 0])), (nte, .inr (10, [.ref nn, .ref ns, .ref ng, .int 0])), (nn, .inl (kZ, 240, .inl (fun _ => 0))), (pic, .inr (11, [.ref st, .ref sp, .ref ll, .int 0, .int 1600])), (st, .inl (cS, 48, .inr (.inr (.inr (.inr g))))), (ap_5, .inr (14, [.ref rp_5, .int 0, .int 0]))] s.heap := (hR0b.app (va1 hup_5))
  have hDr : va_D (fun q => b0 ≤ q) [(h, .inr (17, [.ref pal, .ref she, .ref fil, .ref nte, .ref dat, .ref vot, .ref loa, .ref nos, .ref pic, .ref spa, .int 5, .int 50, .int 1600, .int 0])), (nte, .inr (10, [.ref nn, .ref ns, .ref ng, .int 0])), (nn, .inl (kZ, 240, .inl (fun _ => 0))), (pic, .inr (11, [.ref st, .ref sp, .ref ll, .int 0, .int 1600])), (st, .inl (cS, 48, .inr (.inr (.inr (.inr g))))), (ap_5, .inr (14, [.ref rp_5, .int 0, .int 0]))] := (vD_push hDrb (hNb ap_5 hnp_5).1 (nR (hNr ap_5 hnp_5)))
  have hN0 : ∀ (k9 : Nat) (q9 : Nat × va_E), [(h, .inr (17, [.ref pal, .ref she, .ref fil, .ref nte, .ref dat, .ref vot, .ref loa, .ref nos, .ref pic, .ref spa, .int 5, .int 50, .int 1600, .int 0])), (nte, .inr (10, [.ref nn, .ref ns, .ref ng, .int 0])), (nn, .inl (kZ, 240, .inl (fun _ => 0))), (pic, .inr (11, [.ref st, .ref sp, .ref ll, .int 0, .int 1600])), (st, .inl (cS, 48, .inr (.inr (.inr (.inr g))))), (ap_5, .inr (14, [.ref rp_5, .int 0, .int 0]))][k9]? = some q9 → ¬ A q9.1 := (vN_push hN0b hxp_5)
  have hR : va_P (dC, dI) vwCl [(h, .inr (17, [.ref pal, .ref she, .ref fil, .ref nte, .ref dat, .ref vot, .ref loa, .ref nos, .ref pic, .ref spa, .int 5, .int 50, .int 1600, .int 0])), (nte, .inr (10, [.ref nn, .ref ns, .ref ng, .int 0])), (nn, .inl (kZ, 240, .inl (fun _ => 0))), (pic, .inr (11, [.ref st, .ref sp, .ref ll, .int 0, .int 1600])), (st, .inl (cS, 48, .inr (.inr (.inr (.inr g))))), (ap_5, .inr (14, [.ref rp_5, .int 0, .int 0]))] H := en_R hR0 hN0 hS
  have hPc := (hP.app hR).sub (ws' := [] ++ [(nte, .inr (10, [.ref nn, .ref ns, .ref ng, .int 0])), (nn, .inl (kZ, 240, .inl (fun _ => 0))), (ap_5, .inr (14, [.ref rp_5, .int 0, .int 0]))]) [1, 2, 5] rfl
  have hDc := (en_DD hD hDr hN0 hAb).sub (ws' := [] ++ [(nte, .inr (10, [.ref nn, .ref ns, .ref ng, .int 0])), (nn, .inl (kZ, 240, .inl (fun _ => 0))), (ap_5, .inr (14, [.ref rp_5, .int 0, .int 0]))]) [1, 2, 5] (by decide) rfl
  have hKc := hK.sub (tys' := [(kZ, .boolean)]) [1] rfl
  have hFc := va_free (wc := []) hD hS hA [] rfl
  refine va_calli (va_runV (As := [.int (y * 8 + x), .ref ap_5]) (rest := []) ⟨hx, hb, hml, hown, hts⟩ (c_X4_match l dC dI b0 en H.size nte nn ns ng ap_5 rp_5 kZ (y * 8 + x) (z_c_X11_isPossible_348 x y h_2) (z_c_X11_isPossible_349 x y h_2)) (cwV 2 hts go_c_X11_isPossible_3 rfl rfl rfl (by decide +kernel) ⟨Nat.le_of_ble_eq_true rfl, Nat.le_of_ble_eq_true rfl⟩) ⟨cP.blind, va_recv hK hR (ci := 10) (q0 := 1) rfl rfl, cP.use (en_z hb0 hS) (hE.on hAb hS) hPc hKc hDc trivial⟩ rfl rfl hl.1 rfl (lv_room (Nat.le_of_ble_eq_true rfl)) dX11_isPossible_23 ⟨Nat.le_of_ble_eq_true rfl, Nat.le_of_ble_eq_true rfl⟩) hS (fun q _ h => hFc q h) hFc (fun r_6 u t H1 locs ht hvm hw hB hz1 hk1 hS => ?_)
  have hP1 : va_P (dC, dI) vwCl [] H1 := fun k q h => by simp at h
  have hD1 : va_D (va_A [] H.size) [] := ⟨fun i j p q h => by simp at h, fun k q h => by simp at h⟩
  try dsimp only at hw
  obtain ⟨hP, hD⟩ := va_join (wr := []) (w1 := []) hP hD [] [] rfl rfl (by decide) (by decide) hk1 hFc hP1 hD1
  generalize H1 = H at hP hS ⊢
  have hP : va_P (dC, dI) vwCl [] H := hP
  have hD : va_D A [] := hD
  have hR := en_R hR0 hN0 hS
  refine W.widen (k := 1) (n := 6) (Nat.le_of_ble_eq_true rfl) (Nat.le_of_ble_eq_true rfl) ?_
  subst r_6
  refine W.widen (k := 1) (n := 6) (Nat.le_of_ble_eq_true rfl) (Nat.le_of_ble_eq_true rfl) ?_
  refine vx_ret ?_
  exact W.zret (v := 1) hx hb hr (by first | rfl | decide +kernel) (fun t ht hW => ⟨⟨1, (), rfl, (z_c_X11_isPossible_350 x y h_2), trivial⟩, hS.F ht⟩) hS.2.2 dX11_isPossible_26
theorem z_c_X11_tooYoung_351 (n : Int32) (a_0 : ¬ (0 ≤ n ∧ n ≤ 9999)) : ¬ (0 ≤ n ∧ n ≤ 9999) := by grind
theorem z_c_X11_tooYoung_352 (n : Int32) (a_0 : 0 ≤ n ∧ n ≤ 9999) (a_1 : (0 : Int32) = 0) : 0 ≤ n ∧ n ≤ 9999 := by grind
def wo_c_X11_tooYoung_w : List Cond := [Cond.fieldLink RX11 10 "Underpaint" "palette" "Ljava/util/ArrayList;"]
def wo_c_X11_tooYoung : List Cond := .code yX11_tooYoung cX11_tooYoung 5 (some .int) :: (wo_c_X11_tooYoung_w ++ (u_ws RX11 TX11 14 ++ (va_wsS RX11 91 yX11_isWithin wsX11_isWithin ++ (va_wsS RX11 87 yX11_demandArgument wsX11_demandArgument ++ (wsV RX11 95 RJx4a65c yJx4a65c_size_8abf5 wsJx4a65c_size_8abf5 ++ (va_wsS RX11 187 yX11_demandElement wsX11_demandElement ++ List.nil))))))
theorem gw_wo_c_X11_tooYoung : wo_c_X11_tooYoung.all goodWord = true := gw_c (by decide +kernel) (gw_a (by decide +kernel) (gw_a (by decide +kernel) (gw_a (gw_a (by decide +kernel) gw_wsX11_isWithin) (gw_a (gw_a (by decide +kernel) gw_wsX11_demandArgument) (gw_a (gw_a (by decide +kernel) gw_wsJx4a65c_size_8abf5) (gw_a (gw_a (by decide +kernel) gw_wsX11_demandElement) rfl))))))
theorem go_c_X11_tooYoung_0 : GoodIn wo_c_X11_tooYoung (va_wsS RX11 91 yX11_isWithin wsX11_isWithin) := goodIn_sub (fun _ h => List.mem_cons_of_mem _ (List.mem_append_right _ (List.mem_append_right _ (List.mem_append_left _ h)))) (gw_a (by decide +kernel) gw_wsX11_isWithin)
theorem go_c_X11_tooYoung_1 : GoodIn wo_c_X11_tooYoung (va_wsS RX11 87 yX11_demandArgument wsX11_demandArgument) := goodIn_sub (fun _ h => List.mem_cons_of_mem _ (List.mem_append_right _ (List.mem_append_right _ (List.mem_append_right _ (List.mem_append_left _ h))))) (gw_a (by decide +kernel) gw_wsX11_demandArgument)
theorem go_c_X11_tooYoung_2 : GoodIn wo_c_X11_tooYoung (wsV RX11 95 RJx4a65c yJx4a65c_size_8abf5 wsJx4a65c_size_8abf5) := goodIn_sub (fun _ h => List.mem_cons_of_mem _ (List.mem_append_right _ (List.mem_append_right _ (List.mem_append_right _ (List.mem_append_right _ (List.mem_append_left _ h)))))) (gw_a (by decide +kernel) gw_wsJx4a65c_size_8abf5)
theorem go_c_X11_tooYoung_3 : GoodIn wo_c_X11_tooYoung (va_wsS RX11 187 yX11_demandElement wsX11_demandElement) := goodIn_sub (fun _ h => List.mem_cons_of_mem _ (List.mem_append_right _ (List.mem_append_right _ (List.mem_append_right _ (List.mem_append_right _ (List.mem_append_right _ (List.mem_append_left _ h))))))) (gw_a (by decide +kernel) gw_wsX11_demandElement)
set_option maxHeartbeats 4000000 in
set_option maxRecDepth 100000 in
theorem c_X11_tooYoung (l : Launch) (hst : l.stackTraces = false) (dC : Nat → ClassId) (dI : Nat → Nat → Nat) (b0 : Nat) (en : EnT) (sz : Nat) (h pal she fil nte dat vot loa nos pic spa : Nat) (n : Int32) : vx_Met l yX11_tooYoung wo_c_X11_tooYoung ({ frames := 7, cells := 2, slots := 12, locals := 110 } : Room) (cP b0 en (dC, dI) [] [] [(h, .inr (17, [.ref pal, .ref she, .ref fil, .ref nte, .ref dat, .ref vot, .ref loa, .ref nos, .ref pic, .ref spa, .int 5, .int 50, .int 1600, .int 0])), (pal, .inr (5, [.int 0, .ref en.2.2.1, .int 0]))] sz (fun _ => True) [.ref h, .int n]) (va_Qi (fun (r : Int32) (_ : Unit) => False) (fun _ _ => True) (va_A [] sz)) (vx_X (fun _ : Unit => True) (fun E _ _ => (E = "java/lang/IllegalArgumentException" ∧ ¬ (0 ≤ n ∧ n ≤ 9999)) ∨ (E = "java/util/NoSuchElementException" ∧ 0 ≤ n ∧ n ≤ 9999)) (va_A [] sz)) 2 12 (va_A [] sz) := by
  refine vx_ofW (cc := cX11_tooYoung) (maxL := 5) (ret := (some .int)) (by decide) rfl ?_
  intro p e s m args below meth c s₁ B hml hext hv
  obtain ⟨rfl, hsz, hb0, hE, hPP, hK, hDD, hF0⟩ := hv
  have hx := B.exec
  have hb := B.bytes
  have hr := B.returns
  have hts := atoms_spec (ws := wo_c_X11_tooYoung) B.pre
  have hown : s.vm.findClass RX11 = some m.cls := findClass_of_methodNamed B.named
  have hlocks := B.notSynchronized
  subst hsz
  have hN0 := en_N hPP hDD rfl
  have hP : va_P (dC, dI) vwCl [] s.heap := hPP.sub [] rfl
  have hR0 : va_P (dC, dI) vwCl [(h, .inr (17, [.ref pal, .ref she, .ref fil, .ref nte, .ref dat, .ref vot, .ref loa, .ref nos, .ref pic, .ref spa, .int 5, .int 50, .int 1600, .int 0])), (pal, .inr (5, [.int 0, .ref en.2.2.1, .int 0]))] s.heap := hPP.sub [0, 1] rfl
  have hD0 : va_D (fun q => b0 ≤ q) [] := hDD.sub [] (by decide) rfl
  have hDr : va_D (fun q => b0 ≤ q) [(h, .inr (17, [.ref pal, .ref she, .ref fil, .ref nte, .ref dat, .ref vot, .ref loa, .ref nos, .ref pic, .ref spa, .int 5, .int 50, .int 1600, .int 0])), (pal, .inr (5, [.int 0, .ref en.2.2.1, .int 0]))] := hDD.sub [0, 1] (by decide) rfl
  have hAb := en_A (sz := s.heap.size) hD0 hb0
  have hD := hD0.self (sz := s.heap.size)
  generalize hAe : va_A [] s.heap.size = A at hD hAb hN0 ⊢
  have hA : ∀ q : Nat, s.heap.size ≤ q → A q := fun q h => by rw [← hAe]; exact Or.inr h
  have hS : va_S A s.heap s.heap [] := va_S.rf
  have hR := hR0
  have hl := lv_entry [.ref h, .int n] (n := 5) (Nat.le_of_ble_eq_true rfl)
  rw [lg_entry_eq]
  generalize (lg_sl [.ref h, .int n] ++ List.replicate (5 - (lg_sl [.ref h, .int n]).length) Slot.unset).toArray = ls at hl ⊢
  have hl : lv_has ls 5 [(0, .ref h), (1, .int n)] := hl
  refine lv_iload_n hx hb dX11_tooYoung_0 rfl (lv_at hl 1 rfl) ?_
  refine lv_iconst (v := 0) hx hb dX11_tooYoung_1 (by decide) ?_
  refine lv_sipush (v := 9999) hx hb dX11_tooYoung_2 (by decide) ?_
  have hPc := (hP.app hR).sub (ws' := [] ++ []) [] rfl
  have hDc := (en_DD hD hDr hN0 hAb).sub (ws' := [] ++ []) [] (by decide) rfl
  have hKc := hK.sub (tys' := []) [] rfl
  have hFc := va_free (wc := []) hD hS hA [] rfl
  refine va_calli (va_runS (As := [.int n, .int 0, .int 9999]) (rest := []) ⟨hx, hb, hml, hown, hts⟩ (c_X11_isWithin l dC dI b0 en s.heap.size n 0 9999) (va_cwS 3 hts go_c_X11_tooYoung_0 rfl rfl rfl (by decide +kernel) ⟨Nat.le_of_ble_eq_true rfl, Nat.le_of_ble_eq_true rfl⟩) ⟨cP.blind, cP.use (en_z hb0 hS) (hE.on hAb hS) hPc hKc hDc trivial⟩ rfl rfl hl.1 rfl (lv_room (Nat.le_of_ble_eq_true rfl)) dX11_tooYoung_5 ⟨Nat.le_of_ble_eq_true rfl, Nat.le_of_ble_eq_true rfl⟩) hS (fun q _ h => hFc q h) hFc (fun r_1 u t H1 locs ht hvm hw hB hz1 hk1 hS => ?_)
  have hP1 : va_P (dC, dI) vwCl [] H1 := fun k q h => by simp at h
  have hD1 : va_D (va_A [] s.heap.size) [] := ⟨fun i j p q h => by simp at h, fun k q h => by simp at h⟩
  try dsimp only at hw
  obtain ⟨hP, hD⟩ := va_join (wr := []) (w1 := []) hP hD [] [] rfl rfl (by decide) (by decide) hk1 hFc hP1 hD1
  generalize H1 = H at hP hS ⊢
  have hP : va_P (dC, dI) vwCl [] H := hP
  have hD : va_D A [] := hD
  have hR := en_R hR0 hN0 hS
  refine W.widen (k := 0) (n := 0) (Nat.le_of_ble_eq_true rfl) (Nat.le_of_ble_eq_true rfl) ?_
  have h_2 := hw
  have hPc := (hP.app hR).sub (ws' := [] ++ []) [] rfl
  have hDc := (en_DD hD hDr hN0 hAb).sub (ws' := [] ++ []) [] (by decide) rfl
  have hKc := hK.sub (tys' := []) [] rfl
  have hFc := va_free (wc := []) hD hS hA [] rfl
  refine vx_callv (vx_runS (As := [.int r_1]) (rest := []) ⟨hx, hb, hml, hown, hts⟩ (c_X11_demandArgument l hst dC dI b0 en H.size r_1) (va_cwS 1 hts go_c_X11_tooYoung_1 rfl rfl rfl (by decide +kernel) ⟨Nat.le_of_ble_eq_true rfl, Nat.le_of_ble_eq_true rfl⟩) ⟨cP.blind, cP.use (en_z hb0 hS) (hE.on hAb hS) hPc hKc hDc trivial⟩ rfl rfl hl.1 rfl (lv_room (Nat.le_of_ble_eq_true rfl)) dX11_tooYoung_8 ⟨Nat.le_of_ble_eq_true rfl, Nat.le_of_ble_eq_true rfl⟩) hS (fun q _ h => hFc q h) hFc (fun q _ h => hFc q h) (fun E ce q9 u t H1 locs ht hvm hpx hBX hz1 hk1 hS hce hcv hcl => ?_) (fun u t H1 locs ht hvm hw hB hz1 hk1 hS => ?_)
  · skip
    try dsimp only at hBX
    obtain ⟨rfl, hc⟩ := hBX
    refine vx_widen (k := 2) (n := 12) (Nat.le_of_ble_eq_true rfl) (Nat.le_of_ble_eq_true rfl) ?_
    exact vx_out (fun x hx => (hext x hx).elim) hlocks hce hcv hcl (fun t ht hW => ⟨(), trivial, Or.inl ⟨rfl, (z_c_X11_tooYoung_351 n (b_no h_2 hc))⟩, hS.F ht⟩) hS.2.2 (Nat.le_refl _) (Nat.le_refl _)
  have hP1 : va_P (dC, dI) vwCl [] H1 := fun k q h => by simp at h
  have hD1 : va_D (va_A [] H.size) [] := ⟨fun i j p q h => by simp at h, fun k q h => by simp at h⟩
  try dsimp only at hw
  obtain ⟨hP, hD⟩ := va_join (wr := []) (w1 := []) hP hD [] [] rfl rfl (by decide) (by decide) hk1 hFc hP1 hD1
  generalize H1 = H at hP hS ⊢
  have hP : va_P (dC, dI) vwCl [] H := hP
  have hD : va_D A [] := hD
  have hR := en_R hR0 hN0 hS
  refine W.widen (k := 1) (n := 6) (Nat.le_of_ble_eq_true rfl) (Nat.le_of_ble_eq_true rfl) ?_
  have h_4 := hw
  refine lv_iconst (v := (-1)) hx hb dX11_tooYoung_11 (by decide) ?_
  refine lv_istore_n (lv' := [(2, .int (-1)), (0, .ref h), (1, .int n)]) hx hb dX11_tooYoung_12 rfl hl (by decide) rfl (fun ls hl => ?_)
  refine lv_aload_n hx hb dX11_tooYoung_13 rfl (lv_at hl 1 rfl) ?_
  refine va_get (D := (dC, dI)) (ci := 17) (v := .ref pal) (C := RX11) (T := TX11) (N := 14) hx hb hts (by decide +kernel) hown hK hR 0 rfl rfl 0 (by decide) (hts (.fieldLink RX11 10 "Underpaint" "palette" "Ljava/util/ArrayList;") (by decide +kernel)) (fun _ h9 => h9) rfl dX11_tooYoung_14 ?_
  have hPc := (hP.app hR).sub (ws' := [] ++ [(pal, .inr (5, [.int 0, .ref en.2.2.1, .int 0]))]) [1] rfl
  have hDc := (en_DD hD hDr hN0 hAb).sub (ws' := [] ++ [(pal, .inr (5, [.int 0, .ref en.2.2.1, .int 0]))]) [1] (by decide) rfl
  have hKc := hK.sub (tys' := []) [] rfl
  have hFc := va_free (wc := []) hD hS hA [] rfl
  refine va_calli (va_runV (As := []) (rest := []) ⟨hx, hb, hml, hown, hts⟩ (c_Jx4a65c_size l dC dI b0 en H.size pal en.2.2.1 0 0) (cwV 0 hts go_c_X11_tooYoung_2 rfl rfl rfl (by decide +kernel) ⟨Nat.le_of_ble_eq_true rfl, Nat.le_of_ble_eq_true rfl⟩) ⟨cP.blind, va_recv hK hR (ci := 5) (q0 := 1) rfl rfl, cP.use (en_z hb0 hS) (hE.on hAb hS) hPc hKc hDc trivial⟩ rfl rfl hl.1 rfl (lv_room (Nat.le_of_ble_eq_true rfl)) dX11_tooYoung_17 ⟨Nat.le_of_ble_eq_true rfl, Nat.le_of_ble_eq_true rfl⟩) hS (fun q _ h => hFc q h) hFc (fun r_5 u t H1 locs ht hvm hw hB hz1 hk1 hS => ?_)
  have hP1 : va_P (dC, dI) vwCl [] H1 := fun k q h => by simp at h
  have hD1 : va_D (va_A [] H.size) [] := ⟨fun i j p q h => by simp at h, fun k q h => by simp at h⟩
  try dsimp only at hw
  obtain ⟨hP, hD⟩ := va_join (wr := []) (w1 := []) hP hD [] [] rfl rfl (by decide) (by decide) hk1 hFc hP1 hD1
  generalize H1 = H at hP hS ⊢
  have hP : va_P (dC, dI) vwCl [] H := hP
  have hD : va_D A [] := hD
  have hR := en_R hR0 hN0 hS
  refine W.widen (k := 1) (n := 6) (Nat.le_of_ble_eq_true rfl) (Nat.le_of_ble_eq_true rfl) ?_
  subst r_5
  refine lv_iconst (v := 1) hx hb dX11_tooYoung_20 (by decide) ?_
  refine lv_isub hx hb dX11_tooYoung_21 ?_
  refine lv_topi (fun x_6 ex_6 => ?_)
  obtain rfl : x_6 = (-1) := ex_6.trans (by decide)
  refine lv_istore_n (lv' := [(3, .int (-1)), (2, .int (-1)), (0, .ref h), (1, .int n)]) hx hb dX11_tooYoung_22 rfl hl (by decide) rfl (fun ls hl => ?_)
  refine lv_iload_n hx hb dX11_tooYoung_23 rfl (lv_at hl 0 rfl) ?_
  refine lv_if_lt (tgt := 73) hx hb dX11_tooYoung_24 (by decide) (fun c_7 => ?_) (fun c_7 => absurd c_7 (by decide))
  refine lv_iload_n hx hb dX11_tooYoung_73 rfl (lv_at hl 1 rfl) ?_
  refine lv_iconst (v := (-1)) hx hb dX11_tooYoung_74 (by decide) ?_
  refine lv_icmp_eq (tgt := 82) hx hb dX11_tooYoung_75 (by decide) (fun c_8 => ?_) (fun c_8 => absurd c_8 (by decide))
  refine lv_iconst (v := 0) hx hb dX11_tooYoung_82 (by decide) ?_
  have hPc := (hP.app hR).sub (ws' := [] ++ []) [] rfl
  have hDc := (en_DD hD hDr hN0 hAb).sub (ws' := [] ++ []) [] (by decide) rfl
  have hKc := hK.sub (tys' := []) [] rfl
  have hFc := va_free (wc := []) hD hS hA [] rfl
  refine vx_callv (vx_runS (As := [.int 0]) (rest := []) ⟨hx, hb, hml, hown, hts⟩ (c_X11_demandElement l hst dC dI b0 en H.size 0) (va_cwS 1 hts go_c_X11_tooYoung_3 rfl rfl rfl (by decide +kernel) ⟨Nat.le_of_ble_eq_true rfl, Nat.le_of_ble_eq_true rfl⟩) ⟨cP.blind, cP.use (en_z hb0 hS) (hE.on hAb hS) hPc hKc hDc trivial⟩ rfl rfl hl.1 rfl (lv_room (Nat.le_of_ble_eq_true rfl)) dX11_tooYoung_83 ⟨Nat.le_of_ble_eq_true rfl, Nat.le_of_ble_eq_true rfl⟩) hS (fun q _ h => hFc q h) hFc (fun q _ h => hFc q h) (fun E ce q9 u t H1 locs ht hvm hpx hBX hz1 hk1 hS hce hcv hcl => ?_) (fun u t H1 locs ht hvm hw hB hz1 hk1 hS => ?_)
  · skip
    try dsimp only at hBX
    obtain ⟨rfl, hc⟩ := hBX
    refine vx_widen (k := 2) (n := 12) (Nat.le_of_ble_eq_true rfl) (Nat.le_of_ble_eq_true rfl) ?_
    exact vx_out (fun x hx => (hext x hx).elim) hlocks hce hcv hcl (fun t ht hW => ⟨(), trivial, Or.inr (⟨rfl, (z_c_X11_tooYoung_352 n (b_yes h_2 h_4) hc)⟩), hS.F ht⟩) hS.2.2 (Nat.le_refl _) (Nat.le_refl _)
  have hP1 : va_P (dC, dI) vwCl [] H1 := fun k q h => by simp at h
  have hD1 : va_D (va_A [] H.size) [] := ⟨fun i j p q h => by simp at h, fun k q h => by simp at h⟩
  try dsimp only at hw
  obtain ⟨hP, hD⟩ := va_join (wr := []) (w1 := []) hP hD [] [] rfl rfl (by decide) (by decide) hk1 hFc hP1 hD1
  generalize H1 = H at hP hS ⊢
  have hP : va_P (dC, dI) vwCl [] H := hP
  have hD : va_D A [] := hD
  have hR := en_R hR0 hN0 hS
  refine W.widen (k := 2) (n := 12) (Nat.le_of_ble_eq_true rfl) (Nat.le_of_ble_eq_true rfl) ?_
  have h_10 := hw
  exact absurd h_10 (by decide)
