theorem dL_clash_0 : decode cL_clash 0 = .ok (.aload_n 3, 1) := by decide +kernel
theorem dL_clash_1 : decode cL_clash 1 = .ok (.iconst 0, 1) := by decide +kernel
theorem dL_clash_2 : decode cL_clash 2 = .ok (.aload_n 0, 1) := by decide +kernel
theorem dL_clash_3 : decode cL_clash 3 = .ok (.iload_n 1, 1) := by decide +kernel
theorem dL_clash_4 : decode cL_clash 4 = .ok (.iload_n 2, 1) := by decide +kernel
theorem dL_clash_5 : decode cL_clash 5 = .ok (.invokevirtual 17, 3) := by decide +kernel
theorem dL_clash_20 : decode cL_clash 20 = .ok (.astore 4, 2) := by decide +kernel
theorem dL_clash_22 : decode cL_clash 22 = .ok (.iconst 1, 1) := by decide +kernel
theorem dL_clash_23 : decode cL_clash 23 = .ok (.ireturn, 1) := by decide +kernel
theorem dL_lay_0 : decode cL_lay 0 = .ok (.aload 7, 2) := by decide +kernel
theorem dL_lay_2 : decode cL_lay 2 = .ok (.iconst 0, 1) := by decide +kernel
theorem dL_lay_3 : decode cL_lay 3 = .ok (.aload_n 0, 1) := by decide +kernel
theorem dL_lay_4 : decode cL_lay 4 = .ok (.iload_n 1, 1) := by decide +kernel
theorem dL_lay_5 : decode cL_lay 5 = .ok (.iload_n 2, 1) := by decide +kernel
theorem dL_lay_6 : decode cL_lay 6 = .ok (.iload_n 3, 1) := by decide +kernel
theorem dL_lay_7 : decode cL_lay 7 = .ok (.iload 4, 2) := by decide +kernel
theorem dL_lay_9 : decode cL_lay 9 = .ok (.iload 5, 2) := by decide +kernel
theorem dL_lay_11 : decode cL_lay 11 = .ok (.iload 6, 2) := by decide +kernel
theorem dL_lay_13 : decode cL_lay 13 = .ok (.invokevirtual 25, 3) := by decide +kernel
theorem dL_lay_21 : decode cL_lay 21 = .ok (.astore 8, 2) := by decide +kernel
theorem dL_lay_23 : decode cL_lay 23 = .ok (.iconst 1, 1) := by decide +kernel
theorem dL_lay_24 : decode cL_lay 24 = .ok (.ireturn, 1) := by decide +kernel
theorem dL_layers_0 : decode cL_layers 0 = .ok (.aload_n 3, 1) := by decide +kernel
theorem dL_layers_1 : decode cL_layers 1 = .ok (.iconst 0, 1) := by decide +kernel
theorem dL_layers_2 : decode cL_layers 2 = .ok (.aload_n 0, 1) := by decide +kernel
theorem dL_layers_3 : decode cL_layers 3 = .ok (.iload_n 1, 1) := by decide +kernel
theorem dL_layers_4 : decode cL_layers 4 = .ok (.iload_n 2, 1) := by decide +kernel
theorem dL_layers_5 : decode cL_layers 5 = .ok (.invokevirtual 29, 3) := by decide +kernel
theorem dL_layers_13 : decode cL_layers 13 = .ok (.astore 4, 2) := by decide +kernel
theorem dL_layers_15 : decode cL_layers 15 = .ok (.iconst 1, 1) := by decide +kernel
theorem dL_layers_16 : decode cL_layers 16 = .ok (.ireturn, 1) := by decide +kernel
theorem dL_layers_8 : decode cL_layers 8 = .ok (.i2l, 1) := by decide +kernel
theorem dL_layers_9 : decode cL_layers 9 = .ok (.lastore, 1) := by decide +kernel
theorem dL_layers_10 : decode cL_layers 10 = .ok (.goto 7, 3) := by decide +kernel
theorem dL_layers_17 : decode cL_layers 17 = .ok (.iconst 0, 1) := by decide +kernel
theorem dL_layers_18 : decode cL_layers 18 = .ok (.ireturn, 1) := by decide +kernel
theorem dL_layerAt_0 : decode cL_layerAt 0 = .ok (.aload 5, 2) := by decide +kernel
theorem dL_layerAt_2 : decode cL_layerAt 2 = .ok (.iconst 0, 1) := by decide +kernel
theorem dL_layerAt_3 : decode cL_layerAt 3 = .ok (.aload_n 0, 1) := by decide +kernel
theorem dL_layerAt_4 : decode cL_layerAt 4 = .ok (.iload_n 1, 1) := by decide +kernel
theorem dL_layerAt_5 : decode cL_layerAt 5 = .ok (.iload_n 2, 1) := by decide +kernel
theorem dL_layerAt_6 : decode cL_layerAt 6 = .ok (.iload_n 3, 1) := by decide +kernel
theorem dL_layerAt_7 : decode cL_layerAt 7 = .ok (.iload 4, 2) := by decide +kernel
theorem dL_layerAt_9 : decode cL_layerAt 9 = .ok (.invokevirtual 33, 3) := by decide +kernel
theorem dL_layerAt_17 : decode cL_layerAt 17 = .ok (.astore 6, 2) := by decide +kernel
theorem dL_layerAt_19 : decode cL_layerAt 19 = .ok (.iconst 1, 1) := by decide +kernel
theorem dL_layerAt_20 : decode cL_layerAt 20 = .ok (.ireturn, 1) := by decide +kernel
theorem dL_layerAt_21 : decode cL_layerAt 21 = .ok (.astore 6, 2) := by decide +kernel
theorem dL_layerAt_23 : decode cL_layerAt 23 = .ok (.iconst 2, 1) := by decide +kernel
theorem dL_layerAt_24 : decode cL_layerAt 24 = .ok (.ireturn, 1) := by decide +kernel
theorem dL_tired_0 : decode cL_tired 0 = .ok (.aload_n 3, 1) := by decide +kernel
theorem dL_tired_1 : decode cL_tired 1 = .ok (.iconst 0, 1) := by decide +kernel
theorem dL_tired_2 : decode cL_tired 2 = .ok (.aload_n 0, 1) := by decide +kernel
theorem dL_tired_3 : decode cL_tired 3 = .ok (.iload_n 1, 1) := by decide +kernel
theorem dL_tired_4 : decode cL_tired 4 = .ok (.iload_n 2, 1) := by decide +kernel
theorem dL_tired_5 : decode cL_tired 5 = .ok (.invokevirtual 39, 3) := by decide +kernel
theorem dL_tired_13 : decode cL_tired 13 = .ok (.astore 4, 2) := by decide +kernel
theorem dL_tired_15 : decode cL_tired 15 = .ok (.iconst 1, 1) := by decide +kernel
theorem dL_tired_16 : decode cL_tired 16 = .ok (.ireturn, 1) := by decide +kernel
theorem dL_tired_8 : decode cL_tired 8 = .ok (.i2l, 1) := by decide +kernel
theorem dL_tired_9 : decode cL_tired 9 = .ok (.lastore, 1) := by decide +kernel
theorem dL_tired_10 : decode cL_tired 10 = .ok (.goto 7, 3) := by decide +kernel
theorem dL_tired_17 : decode cL_tired 17 = .ok (.iconst 0, 1) := by decide +kernel
theorem dL_tired_18 : decode cL_tired 18 = .ok (.ireturn, 1) := by decide +kernel
theorem dL_light_0 : decode cL_light 0 = .ok (.aload_n 2, 1) := by decide +kernel
theorem dL_light_1 : decode cL_light 1 = .ok (.iconst 0, 1) := by decide +kernel
theorem dL_light_2 : decode cL_light 2 = .ok (.aload_n 0, 1) := by decide +kernel
theorem dL_light_3 : decode cL_light 3 = .ok (.iload_n 1, 1) := by decide +kernel
theorem dL_light_4 : decode cL_light 4 = .ok (.invokevirtual 42, 3) := by decide +kernel
theorem dL_light_12 : decode cL_light 12 = .ok (.astore_n 3, 1) := by decide +kernel
theorem dL_light_13 : decode cL_light 13 = .ok (.iconst 1, 1) := by decide +kernel
theorem dL_light_14 : decode cL_light 14 = .ok (.ireturn, 1) := by decide +kernel
theorem dL_light_7 : decode cL_light 7 = .ok (.i2l, 1) := by decide +kernel
theorem dL_light_8 : decode cL_light 8 = .ok (.lastore, 1) := by decide +kernel
theorem dL_light_9 : decode cL_light 9 = .ok (.goto 6, 3) := by decide +kernel
theorem dL_light_15 : decode cL_light 15 = .ok (.iconst 0, 1) := by decide +kernel
theorem dL_light_16 : decode cL_light 16 = .ok (.ireturn, 1) := by decide +kernel
theorem dL_damp_0 : decode cL_damp 0 = .ok (.aload_n 2, 1) := by decide +kernel
theorem dL_damp_1 : decode cL_damp 1 = .ok (.iconst 0, 1) := by decide +kernel
theorem dL_damp_2 : decode cL_damp 2 = .ok (.aload_n 0, 1) := by decide +kernel
theorem dL_damp_3 : decode cL_damp 3 = .ok (.iload_n 1, 1) := by decide +kernel
theorem dL_damp_4 : decode cL_damp 4 = .ok (.invokevirtual 46, 3) := by decide +kernel
theorem dL_damp_12 : decode cL_damp 12 = .ok (.astore_n 3, 1) := by decide +kernel
theorem dL_damp_13 : decode cL_damp 13 = .ok (.iconst 1, 1) := by decide +kernel
theorem dL_damp_14 : decode cL_damp 14 = .ok (.ireturn, 1) := by decide +kernel
theorem dL_damp_7 : decode cL_damp 7 = .ok (.i2l, 1) := by decide +kernel
theorem dL_damp_8 : decode cL_damp 8 = .ok (.lastore, 1) := by decide +kernel
theorem dL_damp_9 : decode cL_damp 9 = .ok (.goto 6, 3) := by decide +kernel
theorem dL_damp_15 : decode cL_damp 15 = .ok (.iconst 0, 1) := by decide +kernel
theorem dL_damp_16 : decode cL_damp 16 = .ok (.ireturn, 1) := by decide +kernel
theorem dL_pass_0 : decode cL_pass 0 = .ok (.aload_n 2, 1) := by decide +kernel
theorem dL_pass_1 : decode cL_pass 1 = .ok (.iconst 0, 1) := by decide +kernel
theorem dL_pass_2 : decode cL_pass 2 = .ok (.aload_n 0, 1) := by decide +kernel
theorem dL_pass_3 : decode cL_pass 3 = .ok (.iload_n 1, 1) := by decide +kernel
theorem dL_pass_4 : decode cL_pass 4 = .ok (.invokevirtual 49, 3) := by decide +kernel
theorem dL_pass_12 : decode cL_pass 12 = .ok (.astore_n 3, 1) := by decide +kernel
theorem dL_pass_13 : decode cL_pass 13 = .ok (.iconst 1, 1) := by decide +kernel
theorem dL_pass_14 : decode cL_pass 14 = .ok (.ireturn, 1) := by decide +kernel
theorem dL_pass_7 : decode cL_pass 7 = .ok (.i2l, 1) := by decide +kernel
theorem dL_pass_8 : decode cL_pass 8 = .ok (.lastore, 1) := by decide +kernel
theorem dL_pass_9 : decode cL_pass 9 = .ok (.goto 9, 3) := by decide +kernel
theorem dL_pass_18 : decode cL_pass 18 = .ok (.iconst 0, 1) := by decide +kernel
theorem dL_pass_19 : decode cL_pass 19 = .ok (.ireturn, 1) := by decide +kernel
theorem dL_view_0 : decode cL_view 0 = .ok (.aload 4, 2) := by decide +kernel
theorem dL_view_2 : decode cL_view 2 = .ok (.iconst 0, 1) := by decide +kernel
theorem dL_view_3 : decode cL_view 3 = .ok (.aload_n 0, 1) := by decide +kernel
theorem dL_view_4 : decode cL_view 4 = .ok (.iload_n 1, 1) := by decide +kernel
theorem dL_view_5 : decode cL_view 5 = .ok (.iload_n 2, 1) := by decide +kernel
theorem dL_view_6 : decode cL_view 6 = .ok (.iload_n 3, 1) := by decide +kernel
theorem dL_view_7 : decode cL_view 7 = .ok (.invokevirtual 52, 3) := by decide +kernel
theorem dL_view_15 : decode cL_view 15 = .ok (.astore 5, 2) := by decide +kernel
theorem dL_view_17 : decode cL_view 17 = .ok (.iconst 1, 1) := by decide +kernel
theorem dL_view_18 : decode cL_view 18 = .ok (.ireturn, 1) := by decide +kernel
theorem dL_view_10 : decode cL_view 10 = .ok (.i2l, 1) := by decide +kernel
theorem dL_view_11 : decode cL_view 11 = .ok (.lastore, 1) := by decide +kernel
theorem dL_view_12 : decode cL_view 12 = .ok (.goto 7, 3) := by decide +kernel
theorem dL_view_19 : decode cL_view 19 = .ok (.iconst 0, 1) := by decide +kernel
theorem dL_view_20 : decode cL_view 20 = .ok (.ireturn, 1) := by decide +kernel
theorem dL_note_0 : decode cL_note 0 = .ok (.aload 4, 2) := by decide +kernel
theorem dL_note_2 : decode cL_note 2 = .ok (.iconst 0, 1) := by decide +kernel
theorem dL_note_3 : decode cL_note 3 = .ok (.aload_n 0, 1) := by decide +kernel
theorem dL_note_4 : decode cL_note 4 = .ok (.iload_n 1, 1) := by decide +kernel
theorem dL_note_5 : decode cL_note 5 = .ok (.iload_n 2, 1) := by decide +kernel
theorem dL_note_6 : decode cL_note 6 = .ok (.iload_n 3, 1) := by decide +kernel
theorem dL_note_7 : decode cL_note 7 = .ok (.invokevirtual 56, 3) := by decide +kernel
theorem dL_note_15 : decode cL_note 15 = .ok (.astore 5, 2) := by decide +kernel
theorem dL_note_17 : decode cL_note 17 = .ok (.iconst 1, 1) := by decide +kernel
theorem dL_note_18 : decode cL_note 18 = .ok (.ireturn, 1) := by decide +kernel
theorem dL_note_10 : decode cL_note 10 = .ok (.i2l, 1) := by decide +kernel
theorem dL_note_11 : decode cL_note 11 = .ok (.lastore, 1) := by decide +kernel
theorem dL_note_12 : decode cL_note 12 = .ok (.goto 7, 3) := by decide +kernel
theorem dL_note_19 : decode cL_note 19 = .ok (.iconst 0, 1) := by decide +kernel
theorem dL_note_20 : decode cL_note 20 = .ok (.ireturn, 1) := by decide +kernel
theorem dL_noted_0 : decode cL_noted 0 = .ok (.aload 4, 2) := by decide +kernel
theorem dL_noted_2 : decode cL_noted 2 = .ok (.iconst 0, 1) := by decide +kernel
theorem dL_noted_3 : decode cL_noted 3 = .ok (.aload_n 0, 1) := by decide +kernel
theorem dL_noted_4 : decode cL_noted 4 = .ok (.iload_n 1, 1) := by decide +kernel
theorem dL_noted_5 : decode cL_noted 5 = .ok (.iload_n 2, 1) := by decide +kernel
theorem dL_noted_6 : decode cL_noted 6 = .ok (.iload_n 3, 1) := by decide +kernel
theorem dL_noted_7 : decode cL_noted 7 = .ok (.invokevirtual 59, 3) := by decide +kernel
theorem dL_noted_15 : decode cL_noted 15 = .ok (.astore 5, 2) := by decide +kernel
theorem dL_noted_17 : decode cL_noted 17 = .ok (.iconst 1, 1) := by decide +kernel
theorem dL_noted_18 : decode cL_noted 18 = .ok (.ireturn, 1) := by decide +kernel
theorem dL_noted_19 : decode cL_noted 19 = .ok (.astore 5, 2) := by decide +kernel
theorem dL_noted_21 : decode cL_noted 21 = .ok (.iconst 2, 1) := by decide +kernel
theorem dL_noted_22 : decode cL_noted 22 = .ok (.ireturn, 1) := by decide +kernel
theorem dL_guesses_0 : decode cL_guesses 0 = .ok (.aload_n 3, 1) := by decide +kernel
theorem dL_guesses_1 : decode cL_guesses 1 = .ok (.iconst 0, 1) := by decide +kernel
theorem dL_guesses_2 : decode cL_guesses 2 = .ok (.aload_n 0, 1) := by decide +kernel
theorem dL_guesses_3 : decode cL_guesses 3 = .ok (.iload_n 1, 1) := by decide +kernel
theorem dL_guesses_4 : decode cL_guesses 4 = .ok (.iload_n 2, 1) := by decide +kernel
theorem dL_guesses_5 : decode cL_guesses 5 = .ok (.invokevirtual 62, 3) := by decide +kernel
theorem dL_guesses_13 : decode cL_guesses 13 = .ok (.astore 4, 2) := by decide +kernel
theorem dL_guesses_15 : decode cL_guesses 15 = .ok (.iconst 1, 1) := by decide +kernel
theorem dL_guesses_16 : decode cL_guesses 16 = .ok (.ireturn, 1) := by decide +kernel
theorem dL_guesses_8 : decode cL_guesses 8 = .ok (.i2l, 1) := by decide +kernel
theorem dL_guesses_9 : decode cL_guesses 9 = .ok (.lastore, 1) := by decide +kernel
theorem dL_guesses_10 : decode cL_guesses 10 = .ok (.goto 7, 3) := by decide +kernel
theorem dL_guesses_17 : decode cL_guesses 17 = .ok (.iconst 0, 1) := by decide +kernel
theorem dL_guesses_18 : decode cL_guesses 18 = .ok (.ireturn, 1) := by decide +kernel
theorem dL_guessAt_0 : decode cL_guessAt 0 = .ok (.aload 5, 2) := by decide +kernel
theorem dL_guessAt_2 : decode cL_guessAt 2 = .ok (.iconst 0, 1) := by decide +kernel
theorem dL_guessAt_3 : decode cL_guessAt 3 = .ok (.aload_n 0, 1) := by decide +kernel
theorem dL_guessAt_4 : decode cL_guessAt 4 = .ok (.iload_n 1, 1) := by decide +kernel
theorem dL_guessAt_5 : decode cL_guessAt 5 = .ok (.iload_n 2, 1) := by decide +kernel
theorem dL_guessAt_6 : decode cL_guessAt 6 = .ok (.iload_n 3, 1) := by decide +kernel
theorem dL_guessAt_7 : decode cL_guessAt 7 = .ok (.iload 4, 2) := by decide +kernel
theorem dL_guessAt_9 : decode cL_guessAt 9 = .ok (.invokevirtual 65, 3) := by decide +kernel
theorem dL_guessAt_17 : decode cL_guessAt 17 = .ok (.astore 6, 2) := by decide +kernel
theorem dL_guessAt_19 : decode cL_guessAt 19 = .ok (.iconst 1, 1) := by decide +kernel
theorem dL_guessAt_20 : decode cL_guessAt 20 = .ok (.ireturn, 1) := by decide +kernel
theorem dL_guessAt_21 : decode cL_guessAt 21 = .ok (.astore 6, 2) := by decide +kernel
theorem dL_guessAt_23 : decode cL_guessAt 23 = .ok (.iconst 2, 1) := by decide +kernel
theorem dL_guessAt_24 : decode cL_guessAt 24 = .ok (.ireturn, 1) := by decide +kernel
theorem dL_isPossible_0 : decode cL_isPossible 0 = .ok (.aload_n 3, 1) := by decide +kernel
theorem dL_isPossible_1 : decode cL_isPossible 1 = .ok (.iconst 0, 1) := by decide +kernel
theorem dL_isPossible_2 : decode cL_isPossible 2 = .ok (.aload_n 0, 1) := by decide +kernel
theorem dL_isPossible_3 : decode cL_isPossible 3 = .ok (.iload_n 1, 1) := by decide +kernel
theorem dL_isPossible_4 : decode cL_isPossible 4 = .ok (.iload_n 2, 1) := by decide +kernel
theorem dL_isPossible_5 : decode cL_isPossible 5 = .ok (.invokevirtual 69, 3) := by decide +kernel
theorem dL_isPossible_20 : decode cL_isPossible 20 = .ok (.astore 4, 2) := by decide +kernel
theorem dL_isPossible_22 : decode cL_isPossible 22 = .ok (.iconst 1, 1) := by decide +kernel
theorem dL_isPossible_23 : decode cL_isPossible 23 = .ok (.ireturn, 1) := by decide +kernel
theorem dL_isPossible_8 : decode cL_isPossible 8 = .ok (.ifCond .eq 7, 3) := by decide +kernel
theorem dL_isPossible_11 : decode cL_isPossible 11 = .ok (.lconst 1, 1) := by decide +kernel
theorem dL_isPossible_12 : decode cL_isPossible 12 = .ok (.goto 4, 3) := by decide +kernel
theorem dL_isPossible_16 : decode cL_isPossible 16 = .ok (.lastore, 1) := by decide +kernel
theorem dL_isPossible_17 : decode cL_isPossible 17 = .ok (.goto 7, 3) := by decide +kernel
theorem dL_isPossible_24 : decode cL_isPossible 24 = .ok (.iconst 0, 1) := by decide +kernel
theorem dL_isPossible_25 : decode cL_isPossible 25 = .ok (.ireturn, 1) := by decide +kernel
theorem dL_original_0 : decode cL_original 0 = .ok (.aload_n 2, 1) := by decide +kernel
theorem dL_original_1 : decode cL_original 1 = .ok (.iconst 0, 1) := by decide +kernel
theorem dL_original_2 : decode cL_original 2 = .ok (.aload_n 0, 1) := by decide +kernel
theorem dL_original_3 : decode cL_original 3 = .ok (.iload_n 1, 1) := by decide +kernel
theorem dL_original_4 : decode cL_original 4 = .ok (.invokevirtual 72, 3) := by decide +kernel
theorem dL_original_12 : decode cL_original 12 = .ok (.astore_n 3, 1) := by decide +kernel
theorem dL_original_13 : decode cL_original 13 = .ok (.iconst 1, 1) := by decide +kernel
theorem dL_original_14 : decode cL_original 14 = .ok (.ireturn, 1) := by decide +kernel
theorem dL_original_7 : decode cL_original 7 = .ok (.i2l, 1) := by decide +kernel
theorem dL_original_8 : decode cL_original 8 = .ok (.lastore, 1) := by decide +kernel
theorem dL_original_9 : decode cL_original 9 = .ok (.goto 6, 3) := by decide +kernel
theorem dL_original_15 : decode cL_original 15 = .ok (.iconst 0, 1) := by decide +kernel
theorem dL_original_16 : decode cL_original 16 = .ok (.ireturn, 1) := by decide +kernel
theorem dL_tooYoung_0 : decode cL_tooYoung 0 = .ok (.aload_n 2, 1) := by decide +kernel
theorem dL_tooYoung_1 : decode cL_tooYoung 1 = .ok (.iconst 0, 1) := by decide +kernel
theorem dL_tooYoung_2 : decode cL_tooYoung 2 = .ok (.aload_n 0, 1) := by decide +kernel
theorem dL_tooYoung_3 : decode cL_tooYoung 3 = .ok (.iload_n 1, 1) := by decide +kernel
theorem dL_tooYoung_4 : decode cL_tooYoung 4 = .ok (.invokevirtual 75, 3) := by decide +kernel
theorem dL_tooYoung_12 : decode cL_tooYoung 12 = .ok (.astore_n 3, 1) := by decide +kernel
theorem dL_tooYoung_13 : decode cL_tooYoung 13 = .ok (.iconst 1, 1) := by decide +kernel
theorem dL_tooYoung_14 : decode cL_tooYoung 14 = .ok (.ireturn, 1) := by decide +kernel
theorem dL_tooYoung_15 : decode cL_tooYoung 15 = .ok (.astore_n 3, 1) := by decide +kernel
theorem dL_tooYoung_16 : decode cL_tooYoung 16 = .ok (.iconst 2, 1) := by decide +kernel
theorem dL_tooYoung_17 : decode cL_tooYoung 17 = .ok (.ireturn, 1) := by decide +kernel
theorem dL_ring_0 : decode cL_ring 0 = .ok (.aload_n 3, 1) := by decide +kernel
theorem dL_ring_1 : decode cL_ring 1 = .ok (.iconst 0, 1) := by decide +kernel
theorem dL_ring_2 : decode cL_ring 2 = .ok (.aload_n 0, 1) := by decide +kernel
theorem dL_ring_3 : decode cL_ring 3 = .ok (.iload_n 1, 1) := by decide +kernel
theorem dL_ring_4 : decode cL_ring 4 = .ok (.iload_n 2, 1) := by decide +kernel
theorem dL_ring_5 : decode cL_ring 5 = .ok (.invokevirtual 78, 3) := by decide +kernel
theorem dL_ring_13 : decode cL_ring 13 = .ok (.astore 4, 2) := by decide +kernel
theorem dL_ring_15 : decode cL_ring 15 = .ok (.iconst 1, 1) := by decide +kernel
theorem dL_ring_16 : decode cL_ring 16 = .ok (.ireturn, 1) := by decide +kernel
theorem dL_ring_8 : decode cL_ring 8 = .ok (.i2l, 1) := by decide +kernel
theorem dL_ring_9 : decode cL_ring 9 = .ok (.lastore, 1) := by decide +kernel
theorem dL_ring_10 : decode cL_ring 10 = .ok (.goto 11, 3) := by decide +kernel
theorem dL_ring_21 : decode cL_ring 21 = .ok (.iconst 0, 1) := by decide +kernel
theorem dL_ring_22 : decode cL_ring 22 = .ok (.ireturn, 1) := by decide +kernel
theorem z_c_L_clash_419  (a_0 : True) : (1 : Int32) = 1 := by grind
set_option maxRecDepth 100000 in
theorem gw_wsX11_clash : wsX11_clash.all goodWord = true := by decide +kernel
def wo_c_L_clash_w : List Cond := [Cond.codeWith yL_clash cL_clash 5 (some .int) [(0, 17, 20, 21), (0, 17, 24, 23)], Cond.classLink RL 21 "java/lang/IndexOutOfBoundsException"]
def wo_c_L_clash : List Cond := .codeWith yL_clash cL_clash 5 (some .int) [(0, 17, 20, 21), (0, 17, 24, 23)] :: (wo_c_L_clash_w ++ (wsV RL 17 RX11 yX11_clash wsX11_clash ++ List.nil))
theorem gw_wo_c_L_clash : wo_c_L_clash.all goodWord = true := gw_c (by decide +kernel) (gw_a (by decide +kernel) (gw_a (gw_a (by decide +kernel) gw_wsX11_clash) rfl))
theorem go_c_L_clash_0 : GoodIn wo_c_L_clash (wsV RL 17 RX11 yX11_clash wsX11_clash) := goodIn_sub (fun _ h => List.mem_cons_of_mem _ (List.mem_append_right _ (List.mem_append_left _ h))) (gw_a (by decide +kernel) gw_wsX11_clash)
set_option maxHeartbeats 4000000 in
set_option maxRecDepth 100000 in
/-- the law: clash -/
theorem c_L_clash (l : Launch) (hst : l.stackTraces = false) (dC : Nat → ClassId) (dI : Nat → Nat → Nat) (b0 : Nat) (en : EnT) (sz : Nat) (h pal she fil nte dat vot loa nos pic spa : Nat) (ed : Nat) (a b : Int32) (out : Nat) : vx_Met l yL_clash wo_c_L_clash ({ frames := 8, cells := 1, slots := 6, locals := 144 } : Room) (cP b0 en (dC, dI) [] [] [(h, .inr (17, [.ref pal, .ref she, .ref fil, .ref nte, .ref dat, .ref vot, .ref loa, .ref nos, .ref pic, .ref spa, .int 5, .int 50, .int 1600, .int 0])), (pal, .inr (5, [.int 0, .ref ed, .int 0]))] sz (fun _ => True) [.ref h, .int a, .int b, .ref out]) (va_Qi (fun (r : Int32) (u : Unit) => r = 1) (fun u t => cB (dC, dI) [] [] (va_A [] sz) (fun _ => True) t) (va_A [] sz)) (vx_X (fun _ : Unit => True) (fun E _ _ => (E = "none" ∧ False)) (va_A [] sz)) 1 6 (va_A [] sz) := by
  refine vx_ofWH (cc := cL_clash) (maxL := 5) (ret := (some .int)) (hh := [(0, 17, 20, 21), (0, 17, 24, 23)]) (by decide) rfl ?_
  intro p e s m args below meth c s₁ B hml hv
  obtain ⟨rfl, hsz, hb0, hE, hPP, hK, hDD, hF0⟩ := hv
  have hx := B.exec
  have hb := B.bytes
  have hr := B.returns
  have hts := atoms_spec (ws := wo_c_L_clash) B.pre
  have hown : s.vm.findClass RL = some m.cls := findClass_of_methodNamed B.named
  have hlocks := B.notSynchronized
  subst hsz
  have hN0 := en_N hPP hDD rfl
  have hP : va_P (dC, dI) vwCl [] s.heap := hPP.sub [] rfl
  have hR0 : va_P (dC, dI) vwCl [(h, .inr (17, [.ref pal, .ref she, .ref fil, .ref nte, .ref dat, .ref vot, .ref loa, .ref nos, .ref pic, .ref spa, .int 5, .int 50, .int 1600, .int 0])), (pal, .inr (5, [.int 0, .ref ed, .int 0]))] s.heap := hPP.sub [0, 1] rfl
  have hD0 : va_D (fun q => b0 ≤ q) [] := hDD.sub [] (by decide) rfl
  have hDr : va_D (fun q => b0 ≤ q) [(h, .inr (17, [.ref pal, .ref she, .ref fil, .ref nte, .ref dat, .ref vot, .ref loa, .ref nos, .ref pic, .ref spa, .int 5, .int 50, .int 1600, .int 0])), (pal, .inr (5, [.int 0, .ref ed, .int 0]))] := hDD.sub [0, 1] (by decide) rfl
  have hAb := en_A (sz := s.heap.size) hD0 hb0
  have hD := hD0.self (sz := s.heap.size)
  generalize hAe : va_A [] s.heap.size = A at hD hAb hN0 ⊢
  have hA : ∀ q : Nat, s.heap.size ≤ q → A q := fun q h => by rw [← hAe]; exact Or.inr h
  have hS : va_S A s.heap s.heap [] := va_S.rf
  have hR := hR0
  have hl := lv_entry [.ref h, .int a, .int b, .ref out] (n := 5) (Nat.le_of_ble_eq_true rfl)
  rw [lg_entry_eq]
  generalize (lg_sl [.ref h, .int a, .int b, .ref out] ++ List.replicate (5 - (lg_sl [.ref h, .int a, .int b, .ref out]).length) Slot.unset).toArray = ls at hl ⊢
  have hl : lv_has ls 5 [(0, .ref h), (1, .int a), (2, .int b), (3, .ref out)] := hl
  have hTab := vx_table (x := yL_clash) B (hts (.codeWith yL_clash cL_clash 5 (some .int) [(0, 17, 20, 21), (0, 17, 24, 23)]) (by decide +kernel))
  refine lv_aload_n hx hb dL_clash_0 rfl (lv_at hl 3 rfl) ?_
  refine lv_iconst (v := 0) hx hb dL_clash_1 (by decide) ?_
  refine lv_aload_n hx hb dL_clash_2 rfl (lv_at hl 0 rfl) ?_
  refine lv_iload_n hx hb dL_clash_3 rfl (lv_at hl 1 rfl) ?_
  refine lv_iload_n hx hb dL_clash_4 rfl (lv_at hl 2 rfl) ?_
  have hPc := (hP.app hR).sub (ws' := [] ++ [(h, .inr (17, [.ref pal, .ref she, .ref fil, .ref nte, .ref dat, .ref vot, .ref loa, .ref nos, .ref pic, .ref spa, .int 5, .int 50, .int 1600, .int 0])), (pal, .inr (5, [.int 0, .ref ed, .int 0]))]) [0, 1] rfl
  have hDc := (en_DD hD hDr hN0 hAb).sub (ws' := [] ++ [(h, .inr (17, [.ref pal, .ref she, .ref fil, .ref nte, .ref dat, .ref vot, .ref loa, .ref nos, .ref pic, .ref spa, .int 5, .int 50, .int 1600, .int 0])), (pal, .inr (5, [.int 0, .ref ed, .int 0]))]) [0, 1] (by decide) rfl
  have hKc := hK.sub (tys' := []) [] rfl
  have hFc := va_free (wc := []) hD hS hA [] rfl
  refine vx_calli (vx_runV (As := [.int a, .int b]) (rest := [.int 0, .ref out]) ⟨hx, hb, hml, hown, hts⟩ (c_X11_clash l hst dC dI b0 en s.heap.size h pal she fil nte dat vot loa nos pic spa ed a b) (cwV 2 hts go_c_L_clash_0 rfl rfl rfl (by decide +kernel) ⟨Nat.le_of_ble_eq_true rfl, Nat.le_of_ble_eq_true rfl⟩) ⟨cP.blind, va_recv hK hR (ci := 17) (q0 := 0) rfl rfl, cP.use (en_z hb0 hS) (hE.on hAb hS) hPc hKc hDc trivial⟩ rfl rfl hl.1 rfl (lv_room (Nat.le_of_ble_eq_true rfl)) dL_clash_5 ⟨Nat.le_of_ble_eq_true rfl, Nat.le_of_ble_eq_true rfl⟩) hS (fun q _ h => hFc q h) hFc (fun q _ h => hFc q h) (fun E ce q9 u t H1 locs ht hvm hpx hBX hz1 hk1 hS hce hcv hcl => ?_) (fun r_1 u t H1 locs ht hvm hw hB hz1 hk1 hS => ?_)
  · skip
    try dsimp only at hBX
    obtain ⟨rfl, hc⟩ := hBX
    have hP1 : va_P (dC, dI) vwCl [] H1 := fun k q h => by simp at h
    have hD1 : va_D (va_A [] s.heap.size) [] := ⟨fun i j p q h => by simp at h, fun k q h => by simp at h⟩
    obtain ⟨hP, hD⟩ := va_join (wr := []) (w1 := []) hP hD [] [] rfl rfl (by decide) (by decide) hk1 hFc hP1 hD1
    generalize H1 = H at hP hS hce ⊢
    have hP : va_P (dC, dI) vwCl [] H := hP
    have hD : va_D A [] := hD
    have hR := en_R hR0 hN0 hS
    refine vx_catch (own := RL) (name := "java/lang/IndexOutOfBoundsException") (E := "java/lang/IndexOutOfBoundsException") hown [] ⟨0, 17, 20, 21⟩ [⟨0, 17, 24, 23⟩] hTab (fun _ h9 => absurd h9 List.not_mem_nil) (by decide) (by decide) (hts (.classLink RL 21 "java/lang/IndexOutOfBoundsException") (by decide +kernel)) (va_Nw.use rfl (hE.cast (by decide))) hce hcv hcl ?_
    refine lv_astore (lv' := [(4, .ref q9), (0, .ref h), (1, .int a), (2, .int b), (3, .ref out)]) hx hb dL_clash_20 hl (by decide) rfl (fun ls hl => ?_)
    refine lv_iconst (v := 1) hx hb dL_clash_22 (by decide) ?_
    refine W.widen (k := 1) (n := 6) (Nat.le_of_ble_eq_true rfl) (Nat.le_of_ble_eq_true rfl) ?_
    refine vx_ret ?_
    exact W.iret (v := 1) hx hb hr (fun t ht hW => ⟨⟨1, (), rfl, (z_c_L_clash_419 hc), cB.mk ht hW (hP.sub [] rfl) (hK.sub [] rfl) (hD.sub [] (by decide) rfl) (trivial)⟩, hS.F ht⟩) hS.2.2 dL_clash_23
  exact (show False from hw).elim

set_option maxRecDepth 100000 in
theorem gw_wsX11_lay : wsX11_lay.all goodWord = true := by decide +kernel
def wo_c_L_lay_w : List Cond := [Cond.codeWith yL_lay cL_lay 9 (some .int) [(0, 18, 21, 21), (0, 18, 25, 13), (0, 18, 29, 23), (0, 18, 33, 15)], Cond.classLink RL 21 "java/lang/IndexOutOfBoundsException"]
def wo_c_L_lay : List Cond := .codeWith yL_lay cL_lay 9 (some .int) [(0, 18, 21, 21), (0, 18, 25, 13), (0, 18, 29, 23), (0, 18, 33, 15)] :: (wo_c_L_lay_w ++ (wsV RL 25 RX11 yX11_lay wsX11_lay ++ List.nil))
theorem gw_wo_c_L_lay : wo_c_L_lay.all goodWord = true := gw_c (by decide +kernel) (gw_a (by decide +kernel) (gw_a (gw_a (by decide +kernel) gw_wsX11_lay) rfl))
theorem go_c_L_lay_0 : GoodIn wo_c_L_lay (wsV RL 25 RX11 yX11_lay wsX11_lay) := goodIn_sub (fun _ h => List.mem_cons_of_mem _ (List.mem_append_right _ (List.mem_append_left _ h))) (gw_a (by decide +kernel) gw_wsX11_lay)
set_option maxHeartbeats 4000000 in
set_option maxRecDepth 100000 in
/-- the law: lay -/
theorem c_L_lay (l : Launch) (hst : l.stackTraces = false) (dC : Nat → ClassId) (dI : Nat → Nat → Nat) (b0 : Nat) (en : EnT) (sz : Nat) (h pal she fil nte dat vot loa nos pic spa : Nat) (ed : Nat) (a b cc1 d e1 f : Int32) (out : Nat) : vx_Met l yL_lay wo_c_L_lay ({ frames := 8, cells := 1, slots := 6, locals := 147 } : Room) (cP b0 en (dC, dI) [] [] [(h, .inr (17, [.ref pal, .ref she, .ref fil, .ref nte, .ref dat, .ref vot, .ref loa, .ref nos, .ref pic, .ref spa, .int 5, .int 50, .int 1600, .int 0])), (pal, .inr (5, [.int 0, .ref ed, .int 0]))] sz (fun _ => True) [.ref h, .int a, .int b, .int cc1, .int d, .int e1, .int f, .ref out]) (va_Qi (fun (r : Int32) (u : Unit) => r = 1) (fun u t => cB (dC, dI) [] [] (va_A [] sz) (fun _ => True) t) (va_A [] sz)) (vx_X (fun _ : Unit => True) (fun E _ _ => (E = "none" ∧ False)) (va_A [] sz)) 1 6 (va_A [] sz) := by
  refine vx_ofWH (cc := cL_lay) (maxL := 9) (ret := (some .int)) (hh := [(0, 18, 21, 21), (0, 18, 25, 13), (0, 18, 29, 23), (0, 18, 33, 15)]) (by decide) rfl ?_
  intro p e s m args below meth c s₁ B hml hv
  obtain ⟨rfl, hsz, hb0, hE, hPP, hK, hDD, hF0⟩ := hv
  have hx := B.exec
  have hb := B.bytes
  have hr := B.returns
  have hts := atoms_spec (ws := wo_c_L_lay) B.pre
  have hown : s.vm.findClass RL = some m.cls := findClass_of_methodNamed B.named
  have hlocks := B.notSynchronized
  subst hsz
  have hN0 := en_N hPP hDD rfl
  have hP : va_P (dC, dI) vwCl [] s.heap := hPP.sub [] rfl
  have hR0 : va_P (dC, dI) vwCl [(h, .inr (17, [.ref pal, .ref she, .ref fil, .ref nte, .ref dat, .ref vot, .ref loa, .ref nos, .ref pic, .ref spa, .int 5, .int 50, .int 1600, .int 0])), (pal, .inr (5, [.int 0, .ref ed, .int 0]))] s.heap := hPP.sub [0, 1] rfl
  have hD0 : va_D (fun q => b0 ≤ q) [] := hDD.sub [] (by decide) rfl
  have hDr : va_D (fun q => b0 ≤ q) [(h, .inr (17, [.ref pal, .ref she, .ref fil, .ref nte, .ref dat, .ref vot, .ref loa, .ref nos, .ref pic, .ref spa, .int 5, .int 50, .int 1600, .int 0])), (pal, .inr (5, [.int 0, .ref ed, .int 0]))] := hDD.sub [0, 1] (by decide) rfl
  have hAb := en_A (sz := s.heap.size) hD0 hb0
  have hD := hD0.self (sz := s.heap.size)
  generalize hAe : va_A [] s.heap.size = A at hD hAb hN0 ⊢
  have hA : ∀ q : Nat, s.heap.size ≤ q → A q := fun q h => by rw [← hAe]; exact Or.inr h
  have hS : va_S A s.heap s.heap [] := va_S.rf
  have hR := hR0
  have hl := lv_entry [.ref h, .int a, .int b, .int cc1, .int d, .int e1, .int f, .ref out] (n := 9) (Nat.le_of_ble_eq_true rfl)
  rw [lg_entry_eq]
  generalize (lg_sl [.ref h, .int a, .int b, .int cc1, .int d, .int e1, .int f, .ref out] ++ List.replicate (9 - (lg_sl [.ref h, .int a, .int b, .int cc1, .int d, .int e1, .int f, .ref out]).length) Slot.unset).toArray = ls at hl ⊢
  have hl : lv_has ls 9 [(0, .ref h), (1, .int a), (2, .int b), (3, .int cc1), (4, .int d), (5, .int e1), (6, .int f), (7, .ref out)] := hl
  have hTab := vx_table (x := yL_lay) B (hts (.codeWith yL_lay cL_lay 9 (some .int) [(0, 18, 21, 21), (0, 18, 25, 13), (0, 18, 29, 23), (0, 18, 33, 15)]) (by decide +kernel))
  refine lv_aload hx hb dL_lay_0 (lv_at hl 7 rfl) ?_
  refine lv_iconst (v := 0) hx hb dL_lay_2 (by decide) ?_
  refine lv_aload_n hx hb dL_lay_3 rfl (lv_at hl 0 rfl) ?_
  refine lv_iload_n hx hb dL_lay_4 rfl (lv_at hl 1 rfl) ?_
  refine lv_iload_n hx hb dL_lay_5 rfl (lv_at hl 2 rfl) ?_
  refine lv_iload_n hx hb dL_lay_6 rfl (lv_at hl 3 rfl) ?_
  refine lv_iload hx hb dL_lay_7 (lv_at hl 4 rfl) ?_
  refine lv_iload hx hb dL_lay_9 (lv_at hl 5 rfl) ?_
  refine lv_iload hx hb dL_lay_11 (lv_at hl 6 rfl) ?_
  have hPc := (hP.app hR).sub (ws' := [] ++ [(h, .inr (17, [.ref pal, .ref she, .ref fil, .ref nte, .ref dat, .ref vot, .ref loa, .ref nos, .ref pic, .ref spa, .int 5, .int 50, .int 1600, .int 0])), (pal, .inr (5, [.int 0, .ref ed, .int 0]))]) [0, 1] rfl
  have hDc := (en_DD hD hDr hN0 hAb).sub (ws' := [] ++ [(h, .inr (17, [.ref pal, .ref she, .ref fil, .ref nte, .ref dat, .ref vot, .ref loa, .ref nos, .ref pic, .ref spa, .int 5, .int 50, .int 1600, .int 0])), (pal, .inr (5, [.int 0, .ref ed, .int 0]))]) [0, 1] (by decide) rfl
  have hKc := hK.sub (tys' := []) [] rfl
  have hFc := va_free (wc := []) hD hS hA [] rfl
  refine vx_calli (vx_runV (As := [.int a, .int b, .int cc1, .int d, .int e1, .int f]) (rest := [.int 0, .ref out]) ⟨hx, hb, hml, hown, hts⟩ (c_X11_lay l hst dC dI b0 en s.heap.size h pal she fil nte dat vot loa nos pic spa ed a b cc1 d e1 f) (cwV 6 hts go_c_L_lay_0 rfl rfl rfl (by decide +kernel) ⟨Nat.le_of_ble_eq_true rfl, Nat.le_of_ble_eq_true rfl⟩) ⟨cP.blind, va_recv hK hR (ci := 17) (q0 := 0) rfl rfl, cP.use (en_z hb0 hS) (hE.on hAb hS) hPc hKc hDc trivial⟩ rfl rfl hl.1 rfl (lv_room (Nat.le_of_ble_eq_true rfl)) dL_lay_13 ⟨Nat.le_of_ble_eq_true rfl, Nat.le_of_ble_eq_true rfl⟩) hS (fun q _ h => hFc q h) hFc (fun q _ h => hFc q h) (fun E ce q9 u t H1 locs ht hvm hpx hBX hz1 hk1 hS hce hcv hcl => ?_) (fun r_1 u t H1 locs ht hvm hw hB hz1 hk1 hS => ?_)
  · skip
    try dsimp only at hBX
    obtain ⟨rfl, hc⟩ := hBX
    have hP1 : va_P (dC, dI) vwCl [] H1 := fun k q h => by simp at h
    have hD1 : va_D (va_A [] s.heap.size) [] := ⟨fun i j p q h => by simp at h, fun k q h => by simp at h⟩
    obtain ⟨hP, hD⟩ := va_join (wr := []) (w1 := []) hP hD [] [] rfl rfl (by decide) (by decide) hk1 hFc hP1 hD1
    generalize H1 = H at hP hS hce ⊢
    have hP : va_P (dC, dI) vwCl [] H := hP
    have hD : va_D A [] := hD
    have hR := en_R hR0 hN0 hS
    refine vx_catch (own := RL) (name := "java/lang/IndexOutOfBoundsException") (E := "java/lang/IndexOutOfBoundsException") hown [] ⟨0, 18, 21, 21⟩ [⟨0, 18, 25, 13⟩, ⟨0, 18, 29, 23⟩, ⟨0, 18, 33, 15⟩] hTab (fun _ h9 => absurd h9 List.not_mem_nil) (by decide) (by decide) (hts (.classLink RL 21 "java/lang/IndexOutOfBoundsException") (by decide +kernel)) (va_Nw.use rfl (hE.cast (by decide))) hce hcv hcl ?_
    refine lv_astore (lv' := [(8, .ref q9), (0, .ref h), (1, .int a), (2, .int b), (3, .int cc1), (4, .int d), (5, .int e1), (6, .int f), (7, .ref out)]) hx hb dL_lay_21 hl (by decide) rfl (fun ls hl => ?_)
    refine lv_iconst (v := 1) hx hb dL_lay_23 (by decide) ?_
    refine W.widen (k := 1) (n := 6) (Nat.le_of_ble_eq_true rfl) (Nat.le_of_ble_eq_true rfl) ?_
    refine vx_ret ?_
    exact W.iret (v := 1) hx hb hr (fun t ht hW => ⟨⟨1, (), rfl, (z_c_L_clash_419 hc), cB.mk ht hW (hP.sub [] rfl) (hK.sub [] rfl) (hD.sub [] (by decide) rfl) (trivial)⟩, hS.F ht⟩) hS.2.2 dL_lay_24
  exact (show False from hw).elim
theorem z_c_L_layers_420 (x : Int32) (y : Int32) (fo : Nat → Int64) (a_0 : ¬ ((0 ≤ x ∧ x < 8) ∧ (0 ≤ y ∧ y < 6))) : ((1 : Int32) = 0 ∧ fo 0 = (0 : Int32).toInt64 ∧ ((0 ≤ x ∧ x < 8) ∧ (0 ≤ y ∧ y < 6))) ∨ ((1 : Int32) = 1 ∧ (¬ ((0 ≤ x ∧ x < 8) ∧ (0 ≤ y ∧ y < 6)))) := by grind
theorem z_c_L_layers_421 (x : Int32) (y : Int32) (y_3 : Int64) (f_4 : Nat → Int64) (a_0 : ((0 ≤ x ∧ x < 8) ∧ (0 ≤ y ∧ y < 6))) (a_1 : y_3 = (0 : Int32).toInt64) (a_2 : f_4 0 = y_3) : ((0 : Int32) = 0 ∧ f_4 0 = (0 : Int32).toInt64 ∧ ((0 ≤ x ∧ x < 8) ∧ (0 ≤ y ∧ y < 6))) ∨ ((0 : Int32) = 1 ∧ (¬ ((0 ≤ x ∧ x < 8) ∧ (0 ≤ y ∧ y < 6)))) := by grind
set_option maxRecDepth 100000 in
theorem gw_wsX11_layers : wsX11_layers.all goodWord = true := by decide +kernel
def wo_c_L_layers_w : List Cond := [Cond.codeWith yL_layers cL_layers 5 (some .int) [(0, 10, 13, 13)], Cond.classLink RL 13 "java/lang/IllegalArgumentException"]
def wo_c_L_layers : List Cond := .codeWith yL_layers cL_layers 5 (some .int) [(0, 10, 13, 13)] :: (wo_c_L_layers_w ++ (wsV RL 29 RX11 yX11_layers wsX11_layers ++ List.nil))
theorem gw_wo_c_L_layers : wo_c_L_layers.all goodWord = true := gw_c (by decide +kernel) (gw_a (by decide +kernel) (gw_a (gw_a (by decide +kernel) gw_wsX11_layers) rfl))
theorem go_c_L_layers_0 : GoodIn wo_c_L_layers (wsV RL 29 RX11 yX11_layers wsX11_layers) := goodIn_sub (fun _ h => List.mem_cons_of_mem _ (List.mem_append_right _ (List.mem_append_left _ h))) (gw_a (by decide +kernel) gw_wsX11_layers)
set_option maxHeartbeats 4000000 in
set_option maxRecDepth 100000 in
/-- the law: layers -/
theorem c_L_layers (l : Launch) (hst : l.stackTraces = false) (dC : Nat → ClassId) (dI : Nat → Nat → Nat) (b0 : Nat) (en : EnT) (sz : Nat) (h pal she fil nte dat vot loa nos pic spa st sp ll : Nat) (g : Nat → Option Nat) (cS : ClassId) (N : Nat → Prop) (x y : Int32) (out : Nat) (kO : ClassId) (fo : Nat → Int64) (hNb : ∀ a, N a → b0 ≤ a ∧ a < sz) (hNw : ∀ a, N a → a ∉ List.map Prod.fst ([(out, .inl (kO, 1, .inr (.inl fo)))] : va_W)) (hNr : ∀ a, N a → a ∉ List.map Prod.fst ([(h, .inr (17, [.ref pal, .ref she, .ref fil, .ref nte, .ref dat, .ref vot, .ref loa, .ref nos, .ref pic, .ref spa, .int 5, .int 50, .int 1600, .int 0])), (pic, .inr (11, [.ref st, .ref sp, .ref ll, .int 0, .int 1600])), (st, .inl (cS, 48, .inr (.inr (.inr (.inr g)))))] : va_W)) : vx_Met l yL_layers wo_c_L_layers ({ frames := 9, cells := 1, slots := 6, locals := 162 } : Room) (cP b0 en (dC, dI) [(cS, .object "Underpaint$Stack"), (kO, .long)] [(out, .inl (kO, 1, .inr (.inl fo)))] [(h, .inr (17, [.ref pal, .ref she, .ref fil, .ref nte, .ref dat, .ref vot, .ref loa, .ref nos, .ref pic, .ref spa, .int 5, .int 50, .int 1600, .int 0])), (pic, .inr (11, [.ref st, .ref sp, .ref ll, .int 0, .int 1600])), (st, .inl (cS, 48, .inr (.inr (.inr (.inr g)))))] sz (FamS (dC, dI) N g) [.ref h, .int x, .int y, .ref out]) (va_Qi (fun (r : Int32) (u : Nat → Int64) => (r = 0 ∧ u 0 = (0 : Int32).toInt64 ∧ ((0 ≤ x ∧ x < 8) ∧ (0 ≤ y ∧ y < 6))) ∨ (r = 1 ∧ (¬ ((0 ≤ x ∧ x < 8) ∧ (0 ≤ y ∧ y < 6))))) (fun u t => cB (dC, dI) [] [(out, .inl (kO, 1, .inr (.inl u)))] (va_A [(out, .inl (kO, 1, .inr (.inl fo)))] sz) (fun _ => True) t) (va_A [(out, .inl (kO, 1, .inr (.inl fo)))] sz)) (vx_X (fun _ : Unit => True) (fun E _ _ => (E = "none" ∧ False)) (va_A [(out, .inl (kO, 1, .inr (.inl fo)))] sz)) 1 6 (va_A [(out, .inl (kO, 1, .inr (.inl fo)))] sz) := by
  refine vx_ofWH (cc := cL_layers) (maxL := 5) (ret := (some .int)) (hh := [(0, 10, 13, 13)]) (by decide) rfl ?_
  intro p e s m args below meth c s₁ B hml hv
  obtain ⟨rfl, hsz, hb0, hE, hPP, hK, hDD, hF0⟩ := hv
  have hx := B.exec
  have hb := B.bytes
  have hr := B.returns
  have hts := atoms_spec (ws := wo_c_L_layers) B.pre
  have hown : s.vm.findClass RL = some m.cls := findClass_of_methodNamed B.named
  have hlocks := B.notSynchronized
  subst hsz
  have hN0 := en_N hPP hDD rfl
  have hP : va_P (dC, dI) vwCl [(out, .inl (kO, 1, .inr (.inl fo)))] s.heap := hPP.sub [0] rfl
  have hR0 : va_P (dC, dI) vwCl [(h, .inr (17, [.ref pal, .ref she, .ref fil, .ref nte, .ref dat, .ref vot, .ref loa, .ref nos, .ref pic, .ref spa, .int 5, .int 50, .int 1600, .int 0])), (pic, .inr (11, [.ref st, .ref sp, .ref ll, .int 0, .int 1600])), (st, .inl (cS, 48, .inr (.inr (.inr (.inr g)))))] s.heap := hPP.sub [1, 2, 3] rfl
  have hD0 : va_D (fun q => b0 ≤ q) [(out, .inl (kO, 1, .inr (.inl fo)))] := hDD.sub [0] (by decide) rfl
  have hDr : va_D (fun q => b0 ≤ q) [(h, .inr (17, [.ref pal, .ref she, .ref fil, .ref nte, .ref dat, .ref vot, .ref loa, .ref nos, .ref pic, .ref spa, .int 5, .int 50, .int 1600, .int 0])), (pic, .inr (11, [.ref st, .ref sp, .ref ll, .int 0, .int 1600])), (st, .inl (cS, 48, .inr (.inr (.inr (.inr g)))))] := hDD.sub [1, 2, 3] (by decide) rfl
  have hAb := en_A (sz := s.heap.size) hD0 hb0
  have hD := hD0.self (sz := s.heap.size)
  generalize hAe : va_A [(out, .inl (kO, 1, .inr (.inl fo)))] s.heap.size = A at hD hAb hN0 ⊢
  have hA : ∀ q : Nat, s.heap.size ≤ q → A q := fun q h => by rw [← hAe]; exact Or.inr h
  have hS : va_S A s.heap s.heap [] := va_S.rf
  have hR := hR0
  have hl := lv_entry [.ref h, .int x, .int y, .ref out] (n := 5) (Nat.le_of_ble_eq_true rfl)
  rw [lg_entry_eq]
  generalize (lg_sl [.ref h, .int x, .int y, .ref out] ++ List.replicate (5 - (lg_sl [.ref h, .int x, .int y, .ref out]).length) Slot.unset).toArray = ls at hl ⊢
  have hl : lv_has ls 5 [(0, .ref h), (1, .int x), (2, .int y), (3, .ref out)] := hl
  have hTab := vx_table (x := yL_layers) B (hts (.codeWith yL_layers cL_layers 5 (some .int) [(0, 10, 13, 13)]) (by decide +kernel))
  have hR0b := hR0
  have hDrb := hDr
  have hN0b := hN0
  refine lv_aload_n hx hb dL_layers_0 rfl (lv_at hl 3 rfl) ?_
  refine lv_iconst (v := 0) hx hb dL_layers_1 (by decide) ?_
  refine lv_aload_n hx hb dL_layers_2 rfl (lv_at hl 0 rfl) ?_
  refine lv_iload_n hx hb dL_layers_3 rfl (lv_at hl 1 rfl) ?_
  refine lv_iload_n hx hb dL_layers_4 rfl (lv_at hl 2 rfl) ?_
  have hPc := (hP.app hR).sub (ws' := [] ++ [(h, .inr (17, [.ref pal, .ref she, .ref fil, .ref nte, .ref dat, .ref vot, .ref loa, .ref nos, .ref pic, .ref spa, .int 5, .int 50, .int 1600, .int 0])), (pic, .inr (11, [.ref st, .ref sp, .ref ll, .int 0, .int 1600])), (st, .inl (cS, 48, .inr (.inr (.inr (.inr g)))))]) [1, 2, 3] rfl
  have hDc := (en_DD hD hDr hN0 hAb).sub (ws' := [] ++ [(h, .inr (17, [.ref pal, .ref she, .ref fil, .ref nte, .ref dat, .ref vot, .ref loa, .ref nos, .ref pic, .ref spa, .int 5, .int 50, .int 1600, .int 0])), (pic, .inr (11, [.ref st, .ref sp, .ref ll, .int 0, .int 1600])), (st, .inl (cS, 48, .inr (.inr (.inr (.inr g)))))]) [1, 2, 3] (by decide) rfl
  have hKc := hK.sub (tys' := [(cS, .object "Underpaint$Stack")]) [0] rfl
  have hFc := va_free (wc := []) hD hS hA [] rfl
  refine vx_calli (vx_runV (As := [.int x, .int y]) (rest := [.int 0, .ref out]) ⟨hx, hb, hml, hown, hts⟩ (c_X11_layers l hst dC dI b0 en s.heap.size h pal she fil nte dat vot loa nos pic spa st sp ll g cS N x y) (cwV 2 hts go_c_L_layers_0 rfl rfl rfl (by decide +kernel) ⟨Nat.le_of_ble_eq_true rfl, Nat.le_of_ble_eq_true rfl⟩) ⟨cP.blind, va_recv hK hR (ci := 17) (q0 := 0) rfl rfl, cP.use (en_z hb0 hS) (hE.on hAb hS) hPc hKc hDc (hF0.on (fun a9 h8 h9 => by rw [← hAe]; exact vA1 h8 (hNw a9 h9)) hS)⟩ rfl rfl hl.1 rfl (lv_room (Nat.le_of_ble_eq_true rfl)) dL_layers_5 ⟨Nat.le_of_ble_eq_true rfl, Nat.le_of_ble_eq_true rfl⟩) hS (fun q _ h => hFc q h) hFc (fun q _ h => hFc q h) (fun E ce q9 u t H1 locs ht hvm hpx hBX hz1 hk1 hS hce hcv hcl => ?_) (fun r_1 u t H1 locs ht hvm hw hB hz1 hk1 hS => ?_)
  · skip
    try dsimp only at hBX
    obtain ⟨rfl, hc⟩ := hBX
    have hP1 : va_P (dC, dI) vwCl [] H1 := fun k q h => by simp at h
    have hD1 : va_D (va_A [] s.heap.size) [] := ⟨fun i j p q h => by simp at h, fun k q h => by simp at h⟩
    obtain ⟨hP, hD⟩ := va_join (wr := [(out, .inl (kO, 1, .inr (.inl fo)))]) (w1 := []) hP hD [] [0] rfl rfl (by decide) (by decide) hk1 hFc hP1 hD1
    generalize H1 = H at hP hS hce ⊢
    have hP : va_P (dC, dI) vwCl [(out, .inl (kO, 1, .inr (.inl fo)))] H := hP
    have hD : va_D A [(out, .inl (kO, 1, .inr (.inl fo)))] := hD
    have hR := en_R hR0 hN0 hS
    refine vx_catch (own := RL) (name := "java/lang/IllegalArgumentException") (E := "java/lang/IllegalArgumentException") hown [] ⟨0, 10, 13, 13⟩ [] hTab (fun _ h9 => absurd h9 List.not_mem_nil) (by decide) (by decide) (hts (.classLink RL 13 "java/lang/IllegalArgumentException") (by decide +kernel)) (va_Nw.use rfl (hE.cast (by decide))) hce hcv hcl ?_
    refine lv_astore (lv' := [(4, .ref q9), (0, .ref h), (1, .int x), (2, .int y), (3, .ref out)]) hx hb dL_layers_13 hl (by decide) rfl (fun ls hl => ?_)
    refine lv_iconst (v := 1) hx hb dL_layers_15 (by decide) ?_
    refine W.widen (k := 1) (n := 6) (Nat.le_of_ble_eq_true rfl) (Nat.le_of_ble_eq_true rfl) ?_
    refine vx_ret ?_
    exact W.iret (v := 1) hx hb hr (fun t ht hW => ⟨⟨1, fo, rfl, (z_c_L_layers_420 x y fo hc), cB.mk ht hW (hP.sub [0] rfl) (hK.sub [] rfl) (hD.sub [0] (by decide) rfl) (trivial)⟩, hS.F ht⟩) hS.2.2 dL_layers_16
  have hP1 : va_P (dC, dI) vwCl [] H1 := fun k q h => by simp at h
  have hD1 : va_D (va_A [] s.heap.size) [] := ⟨fun i j p q h => by simp at h, fun k q h => by simp at h⟩
  try dsimp only at hw
  obtain ⟨hP, hD⟩ := va_join (wr := [(out, .inl (kO, 1, .inr (.inl fo)))]) (w1 := []) hP hD [] [0] rfl rfl (by decide) (by decide) hk1 hFc hP1 hD1
  generalize H1 = H at hP hS ⊢
  have hP : va_P (dC, dI) vwCl [(out, .inl (kO, 1, .inr (.inl fo)))] H := hP
  have hD : va_D A [(out, .inl (kO, 1, .inr (.inl fo)))] := hD
  have hR := en_R hR0 hN0 hS
  refine W.widen (k := 1) (n := 6) (Nat.le_of_ble_eq_true rfl) (Nat.le_of_ble_eq_true rfl) ?_
  obtain ⟨hw, h_2⟩ := hw
  subst r_1
  refine lv_i2l hx hb dL_layers_8 rfl ?_
  refine lv_topl (fun y_3 ey_3 => ?_)
  refine va_last hx hb hK hP hD hS 0 1 rfl rfl (vp_in_nI (by decide : 0 < 1) (by decide)) dL_layers_9 (fun H locs hP hD hS => ?_)
  generalize ef_4 : vp_updL fo (0 : Int32).toNatClampNeg y_3 = f_4 at hP hD
  have hP : va_P (dC, dI) vwCl [(out, .inl (kO, 1, .inr (.inl f_4)))] H := hP
  have hD : va_D A [(out, .inl (kO, 1, .inr (.inl f_4)))] := hD
  have hR := en_R hR0 hN0 hS
  have h_5 : f_4 0 = y_3 := by rw [← ef_4]; exact pk_uLs
  refine lv_goto (tgt := 17) hx hb dL_layers_10 (by decide) ?_
  refine lv_iconst (v := 0) hx hb dL_layers_17 (by decide) ?_
  refine W.widen (k := 1) (n := 6) (Nat.le_of_ble_eq_true rfl) (Nat.le_of_ble_eq_true rfl) ?_
  refine vx_ret ?_
  exact W.iret (v := 0) hx hb hr (fun t ht hW => ⟨⟨0, f_4, rfl, (z_c_L_layers_421 x y y_3 f_4 h_2 ey_3 h_5), cB.mk ht hW (hP.sub [0] rfl) (hK.sub [] rfl) (hD.sub [0] (by decide) rfl) (trivial)⟩, hS.F ht⟩) hS.2.2 dL_layers_18
theorem z_c_L_layerAt_422 (x : Int32) (y : Int32) (w : Int32) (a_0 : ¬ (((0 ≤ x ∧ x < 8) ∧ (0 ≤ y ∧ y < 6)) ∧ (w = 115 ∨ w = 116 ∨ w = 121 ∨ w = 99 ∨ w = 103))) : ((1 : Int32) = 1 ∧ (¬ (((0 ≤ x ∧ x < 8) ∧ (0 ≤ y ∧ y < 6)) ∧ (w = 115 ∨ w = 116 ∨ w = 121 ∨ w = 99 ∨ w = 103)))) ∨ ((1 : Int32) = 2 ∧ (((0 ≤ x ∧ x < 8) ∧ (0 ≤ y ∧ y < 6)) ∧ (w = 115 ∨ w = 116 ∨ w = 121 ∨ w = 99 ∨ w = 103))) := by grind
theorem z_c_L_layerAt_423 (x : Int32) (y : Int32) (w : Int32) (a_0 : ((0 ≤ x ∧ x < 8) ∧ (0 ≤ y ∧ y < 6)) ∧ (w = 115 ∨ w = 116 ∨ w = 121 ∨ w = 99 ∨ w = 103)) : ((2 : Int32) = 1 ∧ (¬ (((0 ≤ x ∧ x < 8) ∧ (0 ≤ y ∧ y < 6)) ∧ (w = 115 ∨ w = 116 ∨ w = 121 ∨ w = 99 ∨ w = 103)))) ∨ ((2 : Int32) = 2 ∧ (((0 ≤ x ∧ x < 8) ∧ (0 ≤ y ∧ y < 6)) ∧ (w = 115 ∨ w = 116 ∨ w = 121 ∨ w = 99 ∨ w = 103))) := by grind
def wo_c_L_layerAt_w : List Cond := [Cond.codeWith yL_layerAt cL_layerAt 7 (some .int) [(0, 14, 17, 13), (0, 14, 21, 37)], Cond.classLink RL 13 "java/lang/IllegalArgumentException", Cond.classLink RL 37 "java/util/NoSuchElementException"]
def wo_c_L_layerAt : List Cond := .codeWith yL_layerAt cL_layerAt 7 (some .int) [(0, 14, 17, 13), (0, 14, 21, 37)] :: (wo_c_L_layerAt_w ++ (wsV RL 33 RX11 yX11_layerAt wo_c_X11_layerAt ++ List.nil))
theorem gw_wo_c_L_layerAt : wo_c_L_layerAt.all goodWord = true := gw_c (by decide +kernel) (gw_a (by decide +kernel) (gw_a (gw_a (by decide +kernel) gw_wo_c_X11_layerAt) rfl))
theorem go_c_L_layerAt_0 : GoodIn wo_c_L_layerAt (wsV RL 33 RX11 yX11_layerAt wo_c_X11_layerAt) := goodIn_sub (fun _ h => List.mem_cons_of_mem _ (List.mem_append_right _ (List.mem_append_left _ h))) (gw_a (by decide +kernel) gw_wo_c_X11_layerAt)
set_option maxHeartbeats 4000000 in
set_option maxRecDepth 100000 in
/-- the law: layerAt -/
theorem c_L_layerAt (l : Launch) (hst : l.stackTraces = false) (dC : Nat → ClassId) (dI : Nat → Nat → Nat) (b0 : Nat) (en : EnT) (sz : Nat) (h pal she fil nte dat vot loa nos pic spa : Nat) (st sp ll : Nat) (g : Nat → Option Nat) (cS : ClassId) (N : Nat → Prop) (x y k w : Int32) (out : Nat) (hNb : ∀ a, N a → b0 ≤ a ∧ a < sz) (hNw : ∀ a, N a → a ∉ List.map Prod.fst ([] : va_W)) (hNr : ∀ a, N a → a ∉ List.map Prod.fst ([(h, .inr (17, [.ref pal, .ref she, .ref fil, .ref nte, .ref dat, .ref vot, .ref loa, .ref nos, .ref pic, .ref spa, .int 5, .int 50, .int 1600, .int 0])), (pic, .inr (11, [.ref st, .ref sp, .ref ll, .int 0, .int 1600])), (st, .inl (cS, 48, .inr (.inr (.inr (.inr g)))))] : va_W)) : vx_Met l yL_layerAt wo_c_L_layerAt ({ frames := 8, cells := 3, slots := 18, locals := 136 } : Room) (cP b0 en (dC, dI) [(cS, .object "Underpaint$Stack")] [] [(h, .inr (17, [.ref pal, .ref she, .ref fil, .ref nte, .ref dat, .ref vot, .ref loa, .ref nos, .ref pic, .ref spa, .int 5, .int 50, .int 1600, .int 0])), (pic, .inr (11, [.ref st, .ref sp, .ref ll, .int 0, .int 1600])), (st, .inl (cS, 48, .inr (.inr (.inr (.inr g)))))] sz (FamS (dC, dI) N g) [.ref h, .int x, .int y, .int k, .int w, .ref out]) (va_Qi (fun (r : Int32) (u : Unit) => (r = 1 ∧ (¬ (((0 ≤ x ∧ x < 8) ∧ (0 ≤ y ∧ y < 6)) ∧ (w = 115 ∨ w = 116 ∨ w = 121 ∨ w = 99 ∨ w = 103)))) ∨ (r = 2 ∧ (((0 ≤ x ∧ x < 8) ∧ (0 ≤ y ∧ y < 6)) ∧ (w = 115 ∨ w = 116 ∨ w = 121 ∨ w = 99 ∨ w = 103)))) (fun u t => cB (dC, dI) [] [] (va_A [] sz) (fun _ => True) t) (va_A [] sz)) (vx_X (fun _ : Unit => True) (fun E _ _ => (E = "none" ∧ False)) (va_A [] sz)) 3 18 (va_A [] sz) := by
  refine vx_ofWH (cc := cL_layerAt) (maxL := 7) (ret := (some .int)) (hh := [(0, 14, 17, 13), (0, 14, 21, 37)]) (by decide) rfl ?_
  intro p e s m args below meth c s₁ B hml hv
  obtain ⟨rfl, hsz, hb0, hE, hPP, hK, hDD, hF0⟩ := hv
  have hx := B.exec
  have hb := B.bytes
  have hr := B.returns
  have hts := atoms_spec (ws := wo_c_L_layerAt) B.pre
  have hown : s.vm.findClass RL = some m.cls := findClass_of_methodNamed B.named
  have hlocks := B.notSynchronized
  subst hsz
  have hN0 := en_N hPP hDD rfl
  have hP : va_P (dC, dI) vwCl [] s.heap := hPP.sub [] rfl
  have hR0 : va_P (dC, dI) vwCl [(h, .inr (17, [.ref pal, .ref she, .ref fil, .ref nte, .ref dat, .ref vot, .ref loa, .ref nos, .ref pic, .ref spa, .int 5, .int 50, .int 1600, .int 0])), (pic, .inr (11, [.ref st, .ref sp, .ref ll, .int 0, .int 1600])), (st, .inl (cS, 48, .inr (.inr (.inr (.inr g)))))] s.heap := hPP.sub [0, 1, 2] rfl
  have hD0 : va_D (fun q => b0 ≤ q) [] := hDD.sub [] (by decide) rfl
  have hDr : va_D (fun q => b0 ≤ q) [(h, .inr (17, [.ref pal, .ref she, .ref fil, .ref nte, .ref dat, .ref vot, .ref loa, .ref nos, .ref pic, .ref spa, .int 5, .int 50, .int 1600, .int 0])), (pic, .inr (11, [.ref st, .ref sp, .ref ll, .int 0, .int 1600])), (st, .inl (cS, 48, .inr (.inr (.inr (.inr g)))))] := hDD.sub [0, 1, 2] (by decide) rfl
  have hAb := en_A (sz := s.heap.size) hD0 hb0
  have hD := hD0.self (sz := s.heap.size)
  generalize hAe : va_A [] s.heap.size = A at hD hAb hN0 ⊢
  have hA : ∀ q : Nat, s.heap.size ≤ q → A q := fun q h => by rw [← hAe]; exact Or.inr h
  have hS : va_S A s.heap s.heap [] := va_S.rf
  have hR := hR0
  have hl := lv_entry [.ref h, .int x, .int y, .int k, .int w, .ref out] (n := 7) (Nat.le_of_ble_eq_true rfl)
  rw [lg_entry_eq]
  generalize (lg_sl [.ref h, .int x, .int y, .int k, .int w, .ref out] ++ List.replicate (7 - (lg_sl [.ref h, .int x, .int y, .int k, .int w, .ref out]).length) Slot.unset).toArray = ls at hl ⊢
  have hl : lv_has ls 7 [(0, .ref h), (1, .int x), (2, .int y), (3, .int k), (4, .int w), (5, .ref out)] := hl
  have hTab := vx_table (x := yL_layerAt) B (hts (.codeWith yL_layerAt cL_layerAt 7 (some .int) [(0, 14, 17, 13), (0, 14, 21, 37)]) (by decide +kernel))
  have hR0b := hR0
  have hDrb := hDr
  have hN0b := hN0
  refine lv_aload hx hb dL_layerAt_0 (lv_at hl 5 rfl) ?_
  refine lv_iconst (v := 0) hx hb dL_layerAt_2 (by decide) ?_
  refine lv_aload_n hx hb dL_layerAt_3 rfl (lv_at hl 0 rfl) ?_
  refine lv_iload_n hx hb dL_layerAt_4 rfl (lv_at hl 1 rfl) ?_
  refine lv_iload_n hx hb dL_layerAt_5 rfl (lv_at hl 2 rfl) ?_
  refine lv_iload_n hx hb dL_layerAt_6 rfl (lv_at hl 3 rfl) ?_
  refine lv_iload hx hb dL_layerAt_7 (lv_at hl 4 rfl) ?_
  have hPc := (hP.app hR).sub (ws' := [] ++ [(h, .inr (17, [.ref pal, .ref she, .ref fil, .ref nte, .ref dat, .ref vot, .ref loa, .ref nos, .ref pic, .ref spa, .int 5, .int 50, .int 1600, .int 0])), (pic, .inr (11, [.ref st, .ref sp, .ref ll, .int 0, .int 1600])), (st, .inl (cS, 48, .inr (.inr (.inr (.inr g)))))]) [0, 1, 2] rfl
  have hDc := (en_DD hD hDr hN0 hAb).sub (ws' := [] ++ [(h, .inr (17, [.ref pal, .ref she, .ref fil, .ref nte, .ref dat, .ref vot, .ref loa, .ref nos, .ref pic, .ref spa, .int 5, .int 50, .int 1600, .int 0])), (pic, .inr (11, [.ref st, .ref sp, .ref ll, .int 0, .int 1600])), (st, .inl (cS, 48, .inr (.inr (.inr (.inr g)))))]) [0, 1, 2] (by decide) rfl
  have hKc := hK.sub (tys' := [(cS, .object "Underpaint$Stack")]) [0] rfl
  have hFc := va_free (wc := []) hD hS hA [] rfl
  refine vx_calli (vx_runV (As := [.int x, .int y, .int k, .int w]) (rest := [.int 0, .ref out]) ⟨hx, hb, hml, hown, hts⟩ (c_X11_layerAt l hst dC dI b0 en s.heap.size h pal she fil nte dat vot loa nos pic spa st sp ll g cS N x y k w (fun a9 h9 => ⟨(hNb a9 h9).1, Nat.lt_of_lt_of_le (hNb a9 h9).2 hS.1⟩) (fun a9 h9 z9 => by have g1 := hNw a9 h9; have g2 := hNr a9 h9; have g3 := (hNb a9 h9).2; simp only [List.map_cons, List.map_nil, List.mem_cons, List.not_mem_nil, or_false, not_or] at g1 g2 z9 <;> omega) (fun a9 h9 z9 => by have g1 := hNw a9 h9; have g2 := hNr a9 h9; have g3 := (hNb a9 h9).2; simp only [List.map_cons, List.map_nil, List.mem_cons, List.not_mem_nil, or_false, not_or] at g1 g2 z9 <;> omega)) (cwV 4 hts go_c_L_layerAt_0 rfl rfl rfl (by decide +kernel) ⟨Nat.le_of_ble_eq_true rfl, Nat.le_of_ble_eq_true rfl⟩) ⟨cP.blind, va_recv hK hR (ci := 17) (q0 := 0) rfl rfl, cP.use (en_z hb0 hS) (hE.on hAb hS) hPc hKc hDc (hF0.on (fun a9 h8 h9 => by rw [← hAe]; exact vA1 h8 (hNw a9 h9)) hS)⟩ rfl rfl hl.1 rfl (lv_room (Nat.le_of_ble_eq_true rfl)) dL_layerAt_9 ⟨Nat.le_of_ble_eq_true rfl, Nat.le_of_ble_eq_true rfl⟩) hS (fun q _ h => hFc q h) hFc (fun q _ h => hFc q h) (fun E ce q9 u t H1 locs ht hvm hpx hBX hz1 hk1 hS hce hcv hcl => ?_) (fun r_1 u t H1 locs ht hvm hw hB hz1 hk1 hS => ?_)
  · skip
    try dsimp only at hBX
    rcases hBX with ⟨rfl, hc⟩ | ⟨rfl, hc⟩
    · skip
      have hP1 : va_P (dC, dI) vwCl [] H1 := fun k q h => by simp at h
      have hD1 : va_D (va_A [] s.heap.size) [] := ⟨fun i j p q h => by simp at h, fun k q h => by simp at h⟩
      obtain ⟨hP, hD⟩ := va_join (wr := []) (w1 := []) hP hD [] [] rfl rfl (by decide) (by decide) hk1 hFc hP1 hD1
      generalize H1 = H at hP hS hce ⊢
      have hP : va_P (dC, dI) vwCl [] H := hP
      have hD : va_D A [] := hD
      have hR := en_R hR0 hN0 hS
      refine vx_catch (own := RL) (name := "java/lang/IllegalArgumentException") (E := "java/lang/IllegalArgumentException") hown [] ⟨0, 14, 17, 13⟩ [⟨0, 14, 21, 37⟩] hTab (fun _ h9 => absurd h9 List.not_mem_nil) (by decide) (by decide) (hts (.classLink RL 13 "java/lang/IllegalArgumentException") (by decide +kernel)) (va_Nw.use rfl (hE.cast (by decide))) hce hcv hcl ?_
      refine lv_astore (lv' := [(6, .ref q9), (0, .ref h), (1, .int x), (2, .int y), (3, .int k), (4, .int w), (5, .ref out)]) hx hb dL_layerAt_17 hl (by decide) rfl (fun ls hl => ?_)
      refine lv_iconst (v := 1) hx hb dL_layerAt_19 (by decide) ?_
      refine W.widen (k := 3) (n := 18) (Nat.le_of_ble_eq_true rfl) (Nat.le_of_ble_eq_true rfl) ?_
      refine vx_ret ?_
      exact W.iret (v := 1) hx hb hr (fun t ht hW => ⟨⟨1, (), rfl, (z_c_L_layerAt_422 x y w hc), cB.mk ht hW (hP.sub [] rfl) (hK.sub [] rfl) (hD.sub [] (by decide) rfl) (trivial)⟩, hS.F ht⟩) hS.2.2 dL_layerAt_20
    · skip
      have hP1 : va_P (dC, dI) vwCl [] H1 := fun k q h => by simp at h
      have hD1 : va_D (va_A [] s.heap.size) [] := ⟨fun i j p q h => by simp at h, fun k q h => by simp at h⟩
      obtain ⟨hP, hD⟩ := va_join (wr := []) (w1 := []) hP hD [] [] rfl rfl (by decide) (by decide) hk1 hFc hP1 hD1
      generalize H1 = H at hP hS hce ⊢
      have hP : va_P (dC, dI) vwCl [] H := hP
      have hD : va_D A [] := hD
      have hR := en_R hR0 hN0 hS
      refine vx_catch (own := RL) (name := "java/util/NoSuchElementException") (E := "java/util/NoSuchElementException") hown [⟨0, 14, 17, 13⟩] ⟨0, 14, 21, 37⟩ [] hTab (List.forall_mem_cons.mpr ⟨Or.inr ⟨by decide, "java/lang/IllegalArgumentException", hts (.classLink RL 13 "java/lang/IllegalArgumentException") (by decide +kernel), hE.nocast (by decide) (by decide) (by decide)⟩, (fun _ h9 => absurd h9 List.not_mem_nil)⟩) (by decide) (by decide) (hts (.classLink RL 37 "java/util/NoSuchElementException") (by decide +kernel)) (va_Nw.use rfl (hE.cast (by decide))) hce hcv hcl ?_
      refine lv_astore (lv' := [(6, .ref q9), (0, .ref h), (1, .int x), (2, .int y), (3, .int k), (4, .int w), (5, .ref out)]) hx hb dL_layerAt_21 hl (by decide) rfl (fun ls hl => ?_)
      refine lv_iconst (v := 2) hx hb dL_layerAt_23 (by decide) ?_
      refine W.widen (k := 3) (n := 18) (Nat.le_of_ble_eq_true rfl) (Nat.le_of_ble_eq_true rfl) ?_
      refine vx_ret ?_
      exact W.iret (v := 2) hx hb hr (fun t ht hW => ⟨⟨2, (), rfl, (z_c_L_layerAt_423 x y w hc), cB.mk ht hW (hP.sub [] rfl) (hK.sub [] rfl) (hD.sub [] (by decide) rfl) (trivial)⟩, hS.F ht⟩) hS.2.2 dL_layerAt_24
  exact (show False from hw).elim

set_option maxRecDepth 100000 in
theorem gw_wsX11_tired : wsX11_tired.all goodWord = true := by decide +kernel
def wo_c_L_tired_w : List Cond := [Cond.codeWith yL_tired cL_tired 5 (some .int) [(0, 10, 13, 13)], Cond.classLink RL 13 "java/lang/IllegalArgumentException"]
def wo_c_L_tired : List Cond := .codeWith yL_tired cL_tired 5 (some .int) [(0, 10, 13, 13)] :: (wo_c_L_tired_w ++ (wsV RL 39 RX11 yX11_tired wsX11_tired ++ List.nil))
theorem gw_wo_c_L_tired : wo_c_L_tired.all goodWord = true := gw_c (by decide +kernel) (gw_a (by decide +kernel) (gw_a (gw_a (by decide +kernel) gw_wsX11_tired) rfl))
theorem go_c_L_tired_0 : GoodIn wo_c_L_tired (wsV RL 39 RX11 yX11_tired wsX11_tired) := goodIn_sub (fun _ h => List.mem_cons_of_mem _ (List.mem_append_right _ (List.mem_append_left _ h))) (gw_a (by decide +kernel) gw_wsX11_tired)
set_option maxHeartbeats 4000000 in
set_option maxRecDepth 100000 in
/-- the law: tired -/
theorem c_L_tired (l : Launch) (hst : l.stackTraces = false) (dC : Nat → ClassId) (dI : Nat → Nat → Nat) (b0 : Nat) (en : EnT) (sz : Nat) (h pal she fil nte dat vot loa nos pic spa st sp ll : Nat) (g : Nat → Option Nat) (cS : ClassId) (N : Nat → Prop) (x y : Int32) (out : Nat) (kO : ClassId) (fo : Nat → Int64) (hNb : ∀ a, N a → b0 ≤ a ∧ a < sz) (hNw : ∀ a, N a → a ∉ List.map Prod.fst ([(out, .inl (kO, 1, .inr (.inl fo)))] : va_W)) (hNr : ∀ a, N a → a ∉ List.map Prod.fst ([(h, .inr (17, [.ref pal, .ref she, .ref fil, .ref nte, .ref dat, .ref vot, .ref loa, .ref nos, .ref pic, .ref spa, .int 5, .int 50, .int 1600, .int 0])), (pic, .inr (11, [.ref st, .ref sp, .ref ll, .int 0, .int 1600])), (st, .inl (cS, 48, .inr (.inr (.inr (.inr g)))))] : va_W)) : vx_Met l yL_tired wo_c_L_tired ({ frames := 9, cells := 1, slots := 6, locals := 162 } : Room) (cP b0 en (dC, dI) [(cS, .object "Underpaint$Stack"), (kO, .long)] [(out, .inl (kO, 1, .inr (.inl fo)))] [(h, .inr (17, [.ref pal, .ref she, .ref fil, .ref nte, .ref dat, .ref vot, .ref loa, .ref nos, .ref pic, .ref spa, .int 5, .int 50, .int 1600, .int 0])), (pic, .inr (11, [.ref st, .ref sp, .ref ll, .int 0, .int 1600])), (st, .inl (cS, 48, .inr (.inr (.inr (.inr g)))))] sz (FamS (dC, dI) N g) [.ref h, .int x, .int y, .ref out]) (va_Qi (fun (r : Int32) (u : Nat → Int64) => (r = 0 ∧ u 0 = (0 : Int32).toInt64 ∧ ((0 ≤ x ∧ x < 8) ∧ (0 ≤ y ∧ y < 6))) ∨ (r = 1 ∧ (¬ ((0 ≤ x ∧ x < 8) ∧ (0 ≤ y ∧ y < 6))))) (fun u t => cB (dC, dI) [] [(out, .inl (kO, 1, .inr (.inl u)))] (va_A [(out, .inl (kO, 1, .inr (.inl fo)))] sz) (fun _ => True) t) (va_A [(out, .inl (kO, 1, .inr (.inl fo)))] sz)) (vx_X (fun _ : Unit => True) (fun E _ _ => (E = "none" ∧ False)) (va_A [(out, .inl (kO, 1, .inr (.inl fo)))] sz)) 1 6 (va_A [(out, .inl (kO, 1, .inr (.inl fo)))] sz) := by
  refine vx_ofWH (cc := cL_tired) (maxL := 5) (ret := (some .int)) (hh := [(0, 10, 13, 13)]) (by decide) rfl ?_
  intro p e s m args below meth c s₁ B hml hv
  obtain ⟨rfl, hsz, hb0, hE, hPP, hK, hDD, hF0⟩ := hv
  have hx := B.exec
  have hb := B.bytes
  have hr := B.returns
  have hts := atoms_spec (ws := wo_c_L_tired) B.pre
  have hown : s.vm.findClass RL = some m.cls := findClass_of_methodNamed B.named
  have hlocks := B.notSynchronized
  subst hsz
  have hN0 := en_N hPP hDD rfl
  have hP : va_P (dC, dI) vwCl [(out, .inl (kO, 1, .inr (.inl fo)))] s.heap := hPP.sub [0] rfl
  have hR0 : va_P (dC, dI) vwCl [(h, .inr (17, [.ref pal, .ref she, .ref fil, .ref nte, .ref dat, .ref vot, .ref loa, .ref nos, .ref pic, .ref spa, .int 5, .int 50, .int 1600, .int 0])), (pic, .inr (11, [.ref st, .ref sp, .ref ll, .int 0, .int 1600])), (st, .inl (cS, 48, .inr (.inr (.inr (.inr g)))))] s.heap := hPP.sub [1, 2, 3] rfl
  have hD0 : va_D (fun q => b0 ≤ q) [(out, .inl (kO, 1, .inr (.inl fo)))] := hDD.sub [0] (by decide) rfl
  have hDr : va_D (fun q => b0 ≤ q) [(h, .inr (17, [.ref pal, .ref she, .ref fil, .ref nte, .ref dat, .ref vot, .ref loa, .ref nos, .ref pic, .ref spa, .int 5, .int 50, .int 1600, .int 0])), (pic, .inr (11, [.ref st, .ref sp, .ref ll, .int 0, .int 1600])), (st, .inl (cS, 48, .inr (.inr (.inr (.inr g)))))] := hDD.sub [1, 2, 3] (by decide) rfl
  have hAb := en_A (sz := s.heap.size) hD0 hb0
  have hD := hD0.self (sz := s.heap.size)
  generalize hAe : va_A [(out, .inl (kO, 1, .inr (.inl fo)))] s.heap.size = A at hD hAb hN0 ⊢
  have hA : ∀ q : Nat, s.heap.size ≤ q → A q := fun q h => by rw [← hAe]; exact Or.inr h
  have hS : va_S A s.heap s.heap [] := va_S.rf
  have hR := hR0
  have hl := lv_entry [.ref h, .int x, .int y, .ref out] (n := 5) (Nat.le_of_ble_eq_true rfl)
  rw [lg_entry_eq]
  generalize (lg_sl [.ref h, .int x, .int y, .ref out] ++ List.replicate (5 - (lg_sl [.ref h, .int x, .int y, .ref out]).length) Slot.unset).toArray = ls at hl ⊢
  have hl : lv_has ls 5 [(0, .ref h), (1, .int x), (2, .int y), (3, .ref out)] := hl
  have hTab := vx_table (x := yL_tired) B (hts (.codeWith yL_tired cL_tired 5 (some .int) [(0, 10, 13, 13)]) (by decide +kernel))
  have hR0b := hR0
  have hDrb := hDr
  have hN0b := hN0
  refine lv_aload_n hx hb dL_tired_0 rfl (lv_at hl 3 rfl) ?_
  refine lv_iconst (v := 0) hx hb dL_tired_1 (by decide) ?_
  refine lv_aload_n hx hb dL_tired_2 rfl (lv_at hl 0 rfl) ?_
  refine lv_iload_n hx hb dL_tired_3 rfl (lv_at hl 1 rfl) ?_
  refine lv_iload_n hx hb dL_tired_4 rfl (lv_at hl 2 rfl) ?_
  have hPc := (hP.app hR).sub (ws' := [] ++ [(h, .inr (17, [.ref pal, .ref she, .ref fil, .ref nte, .ref dat, .ref vot, .ref loa, .ref nos, .ref pic, .ref spa, .int 5, .int 50, .int 1600, .int 0])), (pic, .inr (11, [.ref st, .ref sp, .ref ll, .int 0, .int 1600])), (st, .inl (cS, 48, .inr (.inr (.inr (.inr g)))))]) [1, 2, 3] rfl
  have hDc := (en_DD hD hDr hN0 hAb).sub (ws' := [] ++ [(h, .inr (17, [.ref pal, .ref she, .ref fil, .ref nte, .ref dat, .ref vot, .ref loa, .ref nos, .ref pic, .ref spa, .int 5, .int 50, .int 1600, .int 0])), (pic, .inr (11, [.ref st, .ref sp, .ref ll, .int 0, .int 1600])), (st, .inl (cS, 48, .inr (.inr (.inr (.inr g)))))]) [1, 2, 3] (by decide) rfl
  have hKc := hK.sub (tys' := [(cS, .object "Underpaint$Stack")]) [0] rfl
  have hFc := va_free (wc := []) hD hS hA [] rfl
  refine vx_calli (vx_runV (As := [.int x, .int y]) (rest := [.int 0, .ref out]) ⟨hx, hb, hml, hown, hts⟩ (c_X11_tired l hst dC dI b0 en s.heap.size h pal she fil nte dat vot loa nos pic spa st sp ll g cS N x y) (cwV 2 hts go_c_L_tired_0 rfl rfl rfl (by decide +kernel) ⟨Nat.le_of_ble_eq_true rfl, Nat.le_of_ble_eq_true rfl⟩) ⟨cP.blind, va_recv hK hR (ci := 17) (q0 := 0) rfl rfl, cP.use (en_z hb0 hS) (hE.on hAb hS) hPc hKc hDc (hF0.on (fun a9 h8 h9 => by rw [← hAe]; exact vA1 h8 (hNw a9 h9)) hS)⟩ rfl rfl hl.1 rfl (lv_room (Nat.le_of_ble_eq_true rfl)) dL_tired_5 ⟨Nat.le_of_ble_eq_true rfl, Nat.le_of_ble_eq_true rfl⟩) hS (fun q _ h => hFc q h) hFc (fun q _ h => hFc q h) (fun E ce q9 u t H1 locs ht hvm hpx hBX hz1 hk1 hS hce hcv hcl => ?_) (fun r_1 u t H1 locs ht hvm hw hB hz1 hk1 hS => ?_)
  · skip
    try dsimp only at hBX
    obtain ⟨rfl, hc⟩ := hBX
    have hP1 : va_P (dC, dI) vwCl [] H1 := fun k q h => by simp at h
    have hD1 : va_D (va_A [] s.heap.size) [] := ⟨fun i j p q h => by simp at h, fun k q h => by simp at h⟩
    obtain ⟨hP, hD⟩ := va_join (wr := [(out, .inl (kO, 1, .inr (.inl fo)))]) (w1 := []) hP hD [] [0] rfl rfl (by decide) (by decide) hk1 hFc hP1 hD1
    generalize H1 = H at hP hS hce ⊢
    have hP : va_P (dC, dI) vwCl [(out, .inl (kO, 1, .inr (.inl fo)))] H := hP
    have hD : va_D A [(out, .inl (kO, 1, .inr (.inl fo)))] := hD
    have hR := en_R hR0 hN0 hS
    refine vx_catch (own := RL) (name := "java/lang/IllegalArgumentException") (E := "java/lang/IllegalArgumentException") hown [] ⟨0, 10, 13, 13⟩ [] hTab (fun _ h9 => absurd h9 List.not_mem_nil) (by decide) (by decide) (hts (.classLink RL 13 "java/lang/IllegalArgumentException") (by decide +kernel)) (va_Nw.use rfl (hE.cast (by decide))) hce hcv hcl ?_
    refine lv_astore (lv' := [(4, .ref q9), (0, .ref h), (1, .int x), (2, .int y), (3, .ref out)]) hx hb dL_tired_13 hl (by decide) rfl (fun ls hl => ?_)
    refine lv_iconst (v := 1) hx hb dL_tired_15 (by decide) ?_
    refine W.widen (k := 1) (n := 6) (Nat.le_of_ble_eq_true rfl) (Nat.le_of_ble_eq_true rfl) ?_
    refine vx_ret ?_
    exact W.iret (v := 1) hx hb hr (fun t ht hW => ⟨⟨1, fo, rfl, (z_c_L_layers_420 x y fo hc), cB.mk ht hW (hP.sub [0] rfl) (hK.sub [] rfl) (hD.sub [0] (by decide) rfl) (trivial)⟩, hS.F ht⟩) hS.2.2 dL_tired_16
  have hP1 : va_P (dC, dI) vwCl [] H1 := fun k q h => by simp at h
  have hD1 : va_D (va_A [] s.heap.size) [] := ⟨fun i j p q h => by simp at h, fun k q h => by simp at h⟩
  try dsimp only at hw
  obtain ⟨hP, hD⟩ := va_join (wr := [(out, .inl (kO, 1, .inr (.inl fo)))]) (w1 := []) hP hD [] [0] rfl rfl (by decide) (by decide) hk1 hFc hP1 hD1
  generalize H1 = H at hP hS ⊢
  have hP : va_P (dC, dI) vwCl [(out, .inl (kO, 1, .inr (.inl fo)))] H := hP
  have hD : va_D A [(out, .inl (kO, 1, .inr (.inl fo)))] := hD
  have hR := en_R hR0 hN0 hS
  refine W.widen (k := 1) (n := 6) (Nat.le_of_ble_eq_true rfl) (Nat.le_of_ble_eq_true rfl) ?_
  obtain ⟨hw, h_2⟩ := hw
  subst r_1
  refine lv_i2l hx hb dL_tired_8 rfl ?_
  refine lv_topl (fun y_3 ey_3 => ?_)
  refine va_last hx hb hK hP hD hS 0 1 rfl rfl (vp_in_nI (by decide : 0 < 1) (by decide)) dL_tired_9 (fun H locs hP hD hS => ?_)
  generalize ef_4 : vp_updL fo (0 : Int32).toNatClampNeg y_3 = f_4 at hP hD
  have hP : va_P (dC, dI) vwCl [(out, .inl (kO, 1, .inr (.inl f_4)))] H := hP
  have hD : va_D A [(out, .inl (kO, 1, .inr (.inl f_4)))] := hD
  have hR := en_R hR0 hN0 hS
  have h_5 : f_4 0 = y_3 := by rw [← ef_4]; exact pk_uLs
  refine lv_goto (tgt := 17) hx hb dL_tired_10 (by decide) ?_
  refine lv_iconst (v := 0) hx hb dL_tired_17 (by decide) ?_
  refine W.widen (k := 1) (n := 6) (Nat.le_of_ble_eq_true rfl) (Nat.le_of_ble_eq_true rfl) ?_
  refine vx_ret ?_
  exact W.iret (v := 0) hx hb hr (fun t ht hW => ⟨⟨0, f_4, rfl, (z_c_L_layers_421 x y y_3 f_4 h_2 ey_3 h_5), cB.mk ht hW (hP.sub [0] rfl) (hK.sub [] rfl) (hD.sub [0] (by decide) rfl) (trivial)⟩, hS.F ht⟩) hS.2.2 dL_tired_18
theorem z_c_L_light_424 (n : Int32) (fo : Nat → Int64) (a_0 : ¬ (0 ≤ n ∧ n ≤ 9)) : ((1 : Int32) = 0 ∧ fo 0 = (5 : Int32).toInt64 ∧ 0 ≤ n ∧ n ≤ 9) ∨ ((1 : Int32) = 1 ∧ (¬ (0 ≤ n ∧ n ≤ 9))) := by grind
theorem z_c_L_light_425 (n : Int32) (y_3 : Int64) (f_4 : Nat → Int64) (a_0 : 0 ≤ n ∧ n ≤ 9) (a_1 : y_3 = (5 : Int32).toInt64) (a_2 : f_4 0 = y_3) : ((0 : Int32) = 0 ∧ f_4 0 = (5 : Int32).toInt64 ∧ 0 ≤ n ∧ n ≤ 9) ∨ ((0 : Int32) = 1 ∧ (¬ (0 ≤ n ∧ n ≤ 9))) := by grind
set_option maxRecDepth 100000 in
theorem gw_wsX11_light : wsX11_light.all goodWord = true := by decide +kernel
def wo_c_L_light_w : List Cond := [Cond.codeWith yL_light cL_light 4 (some .int) [(0, 9, 12, 13)], Cond.classLink RL 13 "java/lang/IllegalArgumentException"]
def wo_c_L_light : List Cond := .codeWith yL_light cL_light 4 (some .int) [(0, 9, 12, 13)] :: (wo_c_L_light_w ++ (wsV RL 42 RX11 yX11_light wsX11_light ++ List.nil))
theorem gw_wo_c_L_light : wo_c_L_light.all goodWord = true := gw_c (by decide +kernel) (gw_a (by decide +kernel) (gw_a (gw_a (by decide +kernel) gw_wsX11_light) rfl))
theorem go_c_L_light_0 : GoodIn wo_c_L_light (wsV RL 42 RX11 yX11_light wsX11_light) := goodIn_sub (fun _ h => List.mem_cons_of_mem _ (List.mem_append_right _ (List.mem_append_left _ h))) (gw_a (by decide +kernel) gw_wsX11_light)
set_option maxHeartbeats 4000000 in
set_option maxRecDepth 100000 in
/-- the law: light -/
theorem c_L_light (l : Launch) (hst : l.stackTraces = false) (dC : Nat → ClassId) (dI : Nat → Nat → Nat) (b0 : Nat) (en : EnT) (sz : Nat) (h pal she fil nte dat vot loa nos pic spa : Nat) (n : Int32) (out : Nat) (kO : ClassId) (fo : Nat → Int64) : vx_Met l yL_light wo_c_L_light ({ frames := 9, cells := 1, slots := 6, locals := 162 } : Room) (cP b0 en (dC, dI) [(kO, .long)] [(h, .inr (17, [.ref pal, .ref she, .ref fil, .ref nte, .ref dat, .ref vot, .ref loa, .ref nos, .ref pic, .ref spa, .int 5, .int 50, .int 1600, .int 0])), (out, .inl (kO, 1, .inr (.inl fo)))] [] sz (fun _ => True) [.ref h, .int n, .ref out]) (va_Qi (fun (r : Int32) (u : Nat → Int64) => (r = 0 ∧ u 0 = (5 : Int32).toInt64 ∧ 0 ≤ n ∧ n ≤ 9) ∨ (r = 1 ∧ (¬ (0 ≤ n ∧ n ≤ 9)))) (fun u t => cB (dC, dI) [] [(out, .inl (kO, 1, .inr (.inl u)))] (va_A [(h, .inr (17, [.ref pal, .ref she, .ref fil, .ref nte, .ref dat, .ref vot, .ref loa, .ref nos, .ref pic, .ref spa, .int 5, .int 50, .int 1600, .int 0])), (out, .inl (kO, 1, .inr (.inl fo)))] sz) (fun _ => True) t) (va_A [(h, .inr (17, [.ref pal, .ref she, .ref fil, .ref nte, .ref dat, .ref vot, .ref loa, .ref nos, .ref pic, .ref spa, .int 5, .int 50, .int 1600, .int 0])), (out, .inl (kO, 1, .inr (.inl fo)))] sz)) (vx_X (fun _ : Unit => True) (fun E _ _ => (E = "none" ∧ False)) (va_A [(h, .inr (17, [.ref pal, .ref she, .ref fil, .ref nte, .ref dat, .ref vot, .ref loa, .ref nos, .ref pic, .ref spa, .int 5, .int 50, .int 1600, .int 0])), (out, .inl (kO, 1, .inr (.inl fo)))] sz)) 1 6 (va_A [(h, .inr (17, [.ref pal, .ref she, .ref fil, .ref nte, .ref dat, .ref vot, .ref loa, .ref nos, .ref pic, .ref spa, .int 5, .int 50, .int 1600, .int 0])), (out, .inl (kO, 1, .inr (.inl fo)))] sz) := by
  refine vx_ofWH (cc := cL_light) (maxL := 4) (ret := (some .int)) (hh := [(0, 9, 12, 13)]) (by decide) rfl ?_
  intro p e s m args below meth c s₁ B hml hv
  obtain ⟨rfl, hsz, hb0, hE, hPP, hK, hDD, hF0⟩ := hv
  have hx := B.exec
  have hb := B.bytes
  have hr := B.returns
  have hts := atoms_spec (ws := wo_c_L_light) B.pre
  have hown : s.vm.findClass RL = some m.cls := findClass_of_methodNamed B.named
  have hlocks := B.notSynchronized
  subst hsz
  have hN0 := en_N hPP hDD rfl
  have hP : va_P (dC, dI) vwCl [(h, .inr (17, [.ref pal, .ref she, .ref fil, .ref nte, .ref dat, .ref vot, .ref loa, .ref nos, .ref pic, .ref spa, .int 5, .int 50, .int 1600, .int 0])), (out, .inl (kO, 1, .inr (.inl fo)))] s.heap := hPP.sub [0, 1] rfl
  have hR0 : va_P (dC, dI) vwCl [] s.heap := hPP.sub [] rfl
  have hD0 : va_D (fun q => b0 ≤ q) [(h, .inr (17, [.ref pal, .ref she, .ref fil, .ref nte, .ref dat, .ref vot, .ref loa, .ref nos, .ref pic, .ref spa, .int 5, .int 50, .int 1600, .int 0])), (out, .inl (kO, 1, .inr (.inl fo)))] := hDD.sub [0, 1] (by decide) rfl
  have hDr : va_D (fun q => b0 ≤ q) [] := hDD.sub [] (by decide) rfl
  have hAb := en_A (sz := s.heap.size) hD0 hb0
  have hD := hD0.self (sz := s.heap.size)
  generalize hAe : va_A [(h, .inr (17, [.ref pal, .ref she, .ref fil, .ref nte, .ref dat, .ref vot, .ref loa, .ref nos, .ref pic, .ref spa, .int 5, .int 50, .int 1600, .int 0])), (out, .inl (kO, 1, .inr (.inl fo)))] s.heap.size = A at hD hAb hN0 ⊢
  have hA : ∀ q : Nat, s.heap.size ≤ q → A q := fun q h => by rw [← hAe]; exact Or.inr h
  have hS : va_S A s.heap s.heap [] := va_S.rf
  have hR := hR0
  have hl := lv_entry [.ref h, .int n, .ref out] (n := 4) (Nat.le_of_ble_eq_true rfl)
  rw [lg_entry_eq]
  generalize (lg_sl [.ref h, .int n, .ref out] ++ List.replicate (4 - (lg_sl [.ref h, .int n, .ref out]).length) Slot.unset).toArray = ls at hl ⊢
  have hl : lv_has ls 4 [(0, .ref h), (1, .int n), (2, .ref out)] := hl
  have hTab := vx_table (x := yL_light) B (hts (.codeWith yL_light cL_light 4 (some .int) [(0, 9, 12, 13)]) (by decide +kernel))
  refine lv_aload_n hx hb dL_light_0 rfl (lv_at hl 2 rfl) ?_
  refine lv_iconst (v := 0) hx hb dL_light_1 (by decide) ?_
  refine lv_aload_n hx hb dL_light_2 rfl (lv_at hl 0 rfl) ?_
  refine lv_iload_n hx hb dL_light_3 rfl (lv_at hl 1 rfl) ?_
  have hPc := (hP.app hR).sub (ws' := [(h, .inr (17, [.ref pal, .ref she, .ref fil, .ref nte, .ref dat, .ref vot, .ref loa, .ref nos, .ref pic, .ref spa, .int 5, .int 50, .int 1600, .int 0]))] ++ []) [0] rfl
  have hDc := (en_DD hD hDr hN0 hAb).sub (ws' := [(h, .inr (17, [.ref pal, .ref she, .ref fil, .ref nte, .ref dat, .ref vot, .ref loa, .ref nos, .ref pic, .ref spa, .int 5, .int 50, .int 1600, .int 0]))] ++ []) [0] (by decide) rfl
  have hKc := hK.sub (tys' := []) [] rfl
  have hFc := va_free (wc := [(h, .inr (17, [.ref pal, .ref she, .ref fil, .ref nte, .ref dat, .ref vot, .ref loa, .ref nos, .ref pic, .ref spa, .int 5, .int 50, .int 1600, .int 0]))]) hD hS hA [0] rfl
  refine vx_calli (vx_runV (As := [.int n]) (rest := [.int 0, .ref out]) ⟨hx, hb, hml, hown, hts⟩ (c_X11_light l hst dC dI b0 en s.heap.size h pal she fil nte dat vot loa nos pic spa n) (cwV 1 hts go_c_L_light_0 rfl rfl rfl (by decide +kernel) ⟨Nat.le_of_ble_eq_true rfl, Nat.le_of_ble_eq_true rfl⟩) ⟨cP.blind, va_recv hK hP (ci := 17) (q0 := 0) rfl rfl, cP.use (en_z hb0 hS) (hE.on hAb hS) hPc hKc hDc trivial⟩ rfl rfl hl.1 rfl (lv_room (Nat.le_of_ble_eq_true rfl)) dL_light_4 ⟨Nat.le_of_ble_eq_true rfl, Nat.le_of_ble_eq_true rfl⟩) hS (fun q _ h => hFc q h) hFc (fun q _ h => hFc q h) (fun E ce q9 u t H1 locs ht hvm hpx hBX hz1 hk1 hS hce hcv hcl => ?_) (fun r_1 u t H1 locs ht hvm hw hB hz1 hk1 hS => ?_)
  · skip
    try dsimp only at hBX
    obtain ⟨rfl, hc⟩ := hBX
    have hP1 : va_P (dC, dI) vwCl [] H1 := fun k q h => by simp at h
    have hD1 : va_D (va_A [(h, .inr (17, [.ref pal, .ref she, .ref fil, .ref nte, .ref dat, .ref vot, .ref loa, .ref nos, .ref pic, .ref spa, .int 5, .int 50, .int 1600, .int 0]))] s.heap.size) [] := ⟨fun i j p q h => by simp at h, fun k q h => by simp at h⟩
    obtain ⟨hP, hD⟩ := va_join (wr := [(out, .inl (kO, 1, .inr (.inl fo)))]) (w1 := []) hP hD [0] [1] rfl rfl (by decide) (by decide) hk1 hFc hP1 hD1
    generalize H1 = H at hP hS hce ⊢
    have hP : va_P (dC, dI) vwCl [(out, .inl (kO, 1, .inr (.inl fo)))] H := hP
    have hD : va_D A [(out, .inl (kO, 1, .inr (.inl fo)))] := hD
    have hR : va_P (dC, dI) vwCl [] H := fun k q h => by simp at h
    refine vx_catch (own := RL) (name := "java/lang/IllegalArgumentException") (E := "java/lang/IllegalArgumentException") hown [] ⟨0, 9, 12, 13⟩ [] hTab (fun _ h9 => absurd h9 List.not_mem_nil) (by decide) (by decide) (hts (.classLink RL 13 "java/lang/IllegalArgumentException") (by decide +kernel)) (va_Nw.use rfl (hE.cast (by decide))) hce hcv hcl ?_
    refine lv_astore_n (lv' := [(3, .ref q9), (0, .ref h), (1, .int n), (2, .ref out)]) hx hb dL_light_12 rfl hl (by decide) rfl (fun ls hl => ?_)
    refine lv_iconst (v := 1) hx hb dL_light_13 (by decide) ?_
    refine W.widen (k := 1) (n := 6) (Nat.le_of_ble_eq_true rfl) (Nat.le_of_ble_eq_true rfl) ?_
    refine vx_ret ?_
    exact W.iret (v := 1) hx hb hr (fun t ht hW => ⟨⟨1, fo, rfl, (z_c_L_light_424 n fo hc), cB.mk ht hW (hP.sub [0] rfl) (hK.sub [] rfl) (hD.sub [0] (by decide) rfl) (trivial)⟩, hS.F ht⟩) hS.2.2 dL_light_14
  have hP1 : va_P (dC, dI) vwCl [] H1 := fun k q h => by simp at h
  have hD1 : va_D (va_A [(h, .inr (17, [.ref pal, .ref she, .ref fil, .ref nte, .ref dat, .ref vot, .ref loa, .ref nos, .ref pic, .ref spa, .int 5, .int 50, .int 1600, .int 0]))] s.heap.size) [] := ⟨fun i j p q h => by simp at h, fun k q h => by simp at h⟩
  try dsimp only at hw
  obtain ⟨hP, hD⟩ := va_join (wr := [(out, .inl (kO, 1, .inr (.inl fo)))]) (w1 := []) hP hD [0] [1] rfl rfl (by decide) (by decide) hk1 hFc hP1 hD1
  generalize H1 = H at hP hS ⊢
  have hP : va_P (dC, dI) vwCl [(out, .inl (kO, 1, .inr (.inl fo)))] H := hP
  have hD : va_D A [(out, .inl (kO, 1, .inr (.inl fo)))] := hD
  have hR : va_P (dC, dI) vwCl [] H := fun k q h => by simp at h
  refine W.widen (k := 1) (n := 6) (Nat.le_of_ble_eq_true rfl) (Nat.le_of_ble_eq_true rfl) ?_
  obtain ⟨hw, h_2⟩ := hw
  subst r_1
  refine lv_i2l hx hb dL_light_7 rfl ?_
  refine lv_topl (fun y_3 ey_3 => ?_)
  refine va_last hx hb hK hP hD hS 0 0 rfl rfl (vp_in_nI (by decide : 0 < 1) (by decide)) dL_light_8 (fun H locs hP hD hS => ?_)
  generalize ef_4 : vp_updL fo (0 : Int32).toNatClampNeg y_3 = f_4 at hP hD
  have hP : va_P (dC, dI) vwCl [(out, .inl (kO, 1, .inr (.inl f_4)))] H := hP
  have hD : va_D A [(out, .inl (kO, 1, .inr (.inl f_4)))] := hD
  have hR : va_P (dC, dI) vwCl [] H := fun k q h => by simp at h
  have h_5 : f_4 0 = y_3 := by rw [← ef_4]; exact pk_uLs
  refine lv_goto (tgt := 15) hx hb dL_light_9 (by decide) ?_
  refine lv_iconst (v := 0) hx hb dL_light_15 (by decide) ?_
  refine W.widen (k := 1) (n := 6) (Nat.le_of_ble_eq_true rfl) (Nat.le_of_ble_eq_true rfl) ?_
  refine vx_ret ?_
  exact W.iret (v := 0) hx hb hr (fun t ht hW => ⟨⟨0, f_4, rfl, (z_c_L_light_425 n y_3 f_4 h_2 ey_3 h_5), cB.mk ht hW (hP.sub [0] rfl) (hK.sub [] rfl) (hD.sub [0] (by decide) rfl) (trivial)⟩, hS.F ht⟩) hS.2.2 dL_light_16
theorem z_c_L_damp_426 (n : Int32) (fo : Nat → Int64) (a_0 : ¬ (0 ≤ n ∧ n ≤ 99)) : ((1 : Int32) = 0 ∧ fo 0 = (50 : Int32).toInt64 ∧ 0 ≤ n ∧ n ≤ 99) ∨ ((1 : Int32) = 1 ∧ (¬ (0 ≤ n ∧ n ≤ 99))) := by grind
theorem z_c_L_damp_427 (n : Int32) (y_3 : Int64) (f_4 : Nat → Int64) (a_0 : 0 ≤ n ∧ n ≤ 99) (a_1 : y_3 = (50 : Int32).toInt64) (a_2 : f_4 0 = y_3) : ((0 : Int32) = 0 ∧ f_4 0 = (50 : Int32).toInt64 ∧ 0 ≤ n ∧ n ≤ 99) ∨ ((0 : Int32) = 1 ∧ (¬ (0 ≤ n ∧ n ≤ 99))) := by grind
set_option maxRecDepth 100000 in
theorem gw_wsX11_damp : wsX11_damp.all goodWord = true := by decide +kernel
def wo_c_L_damp_w : List Cond := [Cond.codeWith yL_damp cL_damp 4 (some .int) [(0, 9, 12, 13)], Cond.classLink RL 13 "java/lang/IllegalArgumentException"]
def wo_c_L_damp : List Cond := .codeWith yL_damp cL_damp 4 (some .int) [(0, 9, 12, 13)] :: (wo_c_L_damp_w ++ (wsV RL 46 RX11 yX11_damp wsX11_damp ++ List.nil))
theorem gw_wo_c_L_damp : wo_c_L_damp.all goodWord = true := gw_c (by decide +kernel) (gw_a (by decide +kernel) (gw_a (gw_a (by decide +kernel) gw_wsX11_damp) rfl))
theorem go_c_L_damp_0 : GoodIn wo_c_L_damp (wsV RL 46 RX11 yX11_damp wsX11_damp) := goodIn_sub (fun _ h => List.mem_cons_of_mem _ (List.mem_append_right _ (List.mem_append_left _ h))) (gw_a (by decide +kernel) gw_wsX11_damp)
set_option maxHeartbeats 4000000 in
set_option maxRecDepth 100000 in
/-- the law: damp -/
theorem c_L_damp (l : Launch) (hst : l.stackTraces = false) (dC : Nat → ClassId) (dI : Nat → Nat → Nat) (b0 : Nat) (en : EnT) (sz : Nat) (h pal she fil nte dat vot loa nos pic spa : Nat) (n : Int32) (out : Nat) (kO : ClassId) (fo : Nat → Int64) : vx_Met l yL_damp wo_c_L_damp ({ frames := 9, cells := 1, slots := 6, locals := 162 } : Room) (cP b0 en (dC, dI) [(kO, .long)] [(h, .inr (17, [.ref pal, .ref she, .ref fil, .ref nte, .ref dat, .ref vot, .ref loa, .ref nos, .ref pic, .ref spa, .int 5, .int 50, .int 1600, .int 0])), (out, .inl (kO, 1, .inr (.inl fo)))] [] sz (fun _ => True) [.ref h, .int n, .ref out]) (va_Qi (fun (r : Int32) (u : Nat → Int64) => (r = 0 ∧ u 0 = (50 : Int32).toInt64 ∧ 0 ≤ n ∧ n ≤ 99) ∨ (r = 1 ∧ (¬ (0 ≤ n ∧ n ≤ 99)))) (fun u t => cB (dC, dI) [] [(out, .inl (kO, 1, .inr (.inl u)))] (va_A [(h, .inr (17, [.ref pal, .ref she, .ref fil, .ref nte, .ref dat, .ref vot, .ref loa, .ref nos, .ref pic, .ref spa, .int 5, .int 50, .int 1600, .int 0])), (out, .inl (kO, 1, .inr (.inl fo)))] sz) (fun _ => True) t) (va_A [(h, .inr (17, [.ref pal, .ref she, .ref fil, .ref nte, .ref dat, .ref vot, .ref loa, .ref nos, .ref pic, .ref spa, .int 5, .int 50, .int 1600, .int 0])), (out, .inl (kO, 1, .inr (.inl fo)))] sz)) (vx_X (fun _ : Unit => True) (fun E _ _ => (E = "none" ∧ False)) (va_A [(h, .inr (17, [.ref pal, .ref she, .ref fil, .ref nte, .ref dat, .ref vot, .ref loa, .ref nos, .ref pic, .ref spa, .int 5, .int 50, .int 1600, .int 0])), (out, .inl (kO, 1, .inr (.inl fo)))] sz)) 1 6 (va_A [(h, .inr (17, [.ref pal, .ref she, .ref fil, .ref nte, .ref dat, .ref vot, .ref loa, .ref nos, .ref pic, .ref spa, .int 5, .int 50, .int 1600, .int 0])), (out, .inl (kO, 1, .inr (.inl fo)))] sz) := by
  refine vx_ofWH (cc := cL_damp) (maxL := 4) (ret := (some .int)) (hh := [(0, 9, 12, 13)]) (by decide) rfl ?_
  intro p e s m args below meth c s₁ B hml hv
  obtain ⟨rfl, hsz, hb0, hE, hPP, hK, hDD, hF0⟩ := hv
  have hx := B.exec
  have hb := B.bytes
  have hr := B.returns
  have hts := atoms_spec (ws := wo_c_L_damp) B.pre
  have hown : s.vm.findClass RL = some m.cls := findClass_of_methodNamed B.named
  have hlocks := B.notSynchronized
  subst hsz
  have hN0 := en_N hPP hDD rfl
  have hP : va_P (dC, dI) vwCl [(h, .inr (17, [.ref pal, .ref she, .ref fil, .ref nte, .ref dat, .ref vot, .ref loa, .ref nos, .ref pic, .ref spa, .int 5, .int 50, .int 1600, .int 0])), (out, .inl (kO, 1, .inr (.inl fo)))] s.heap := hPP.sub [0, 1] rfl
  have hR0 : va_P (dC, dI) vwCl [] s.heap := hPP.sub [] rfl
  have hD0 : va_D (fun q => b0 ≤ q) [(h, .inr (17, [.ref pal, .ref she, .ref fil, .ref nte, .ref dat, .ref vot, .ref loa, .ref nos, .ref pic, .ref spa, .int 5, .int 50, .int 1600, .int 0])), (out, .inl (kO, 1, .inr (.inl fo)))] := hDD.sub [0, 1] (by decide) rfl
  have hDr : va_D (fun q => b0 ≤ q) [] := hDD.sub [] (by decide) rfl
  have hAb := en_A (sz := s.heap.size) hD0 hb0
  have hD := hD0.self (sz := s.heap.size)
  generalize hAe : va_A [(h, .inr (17, [.ref pal, .ref she, .ref fil, .ref nte, .ref dat, .ref vot, .ref loa, .ref nos, .ref pic, .ref spa, .int 5, .int 50, .int 1600, .int 0])), (out, .inl (kO, 1, .inr (.inl fo)))] s.heap.size = A at hD hAb hN0 ⊢
  have hA : ∀ q : Nat, s.heap.size ≤ q → A q := fun q h => by rw [← hAe]; exact Or.inr h
  have hS : va_S A s.heap s.heap [] := va_S.rf
  have hR := hR0
  have hl := lv_entry [.ref h, .int n, .ref out] (n := 4) (Nat.le_of_ble_eq_true rfl)
  rw [lg_entry_eq]
  generalize (lg_sl [.ref h, .int n, .ref out] ++ List.replicate (4 - (lg_sl [.ref h, .int n, .ref out]).length) Slot.unset).toArray = ls at hl ⊢
  have hl : lv_has ls 4 [(0, .ref h), (1, .int n), (2, .ref out)] := hl
  have hTab := vx_table (x := yL_damp) B (hts (.codeWith yL_damp cL_damp 4 (some .int) [(0, 9, 12, 13)]) (by decide +kernel))
  refine lv_aload_n hx hb dL_damp_0 rfl (lv_at hl 2 rfl) ?_
  refine lv_iconst (v := 0) hx hb dL_damp_1 (by decide) ?_
  refine lv_aload_n hx hb dL_damp_2 rfl (lv_at hl 0 rfl) ?_
  refine lv_iload_n hx hb dL_damp_3 rfl (lv_at hl 1 rfl) ?_
  have hPc := (hP.app hR).sub (ws' := [(h, .inr (17, [.ref pal, .ref she, .ref fil, .ref nte, .ref dat, .ref vot, .ref loa, .ref nos, .ref pic, .ref spa, .int 5, .int 50, .int 1600, .int 0]))] ++ []) [0] rfl
  have hDc := (en_DD hD hDr hN0 hAb).sub (ws' := [(h, .inr (17, [.ref pal, .ref she, .ref fil, .ref nte, .ref dat, .ref vot, .ref loa, .ref nos, .ref pic, .ref spa, .int 5, .int 50, .int 1600, .int 0]))] ++ []) [0] (by decide) rfl
  have hKc := hK.sub (tys' := []) [] rfl
  have hFc := va_free (wc := [(h, .inr (17, [.ref pal, .ref she, .ref fil, .ref nte, .ref dat, .ref vot, .ref loa, .ref nos, .ref pic, .ref spa, .int 5, .int 50, .int 1600, .int 0]))]) hD hS hA [0] rfl
  refine vx_calli (vx_runV (As := [.int n]) (rest := [.int 0, .ref out]) ⟨hx, hb, hml, hown, hts⟩ (c_X11_damp l hst dC dI b0 en s.heap.size h pal she fil nte dat vot loa nos pic spa n) (cwV 1 hts go_c_L_damp_0 rfl rfl rfl (by decide +kernel) ⟨Nat.le_of_ble_eq_true rfl, Nat.le_of_ble_eq_true rfl⟩) ⟨cP.blind, va_recv hK hP (ci := 17) (q0 := 0) rfl rfl, cP.use (en_z hb0 hS) (hE.on hAb hS) hPc hKc hDc trivial⟩ rfl rfl hl.1 rfl (lv_room (Nat.le_of_ble_eq_true rfl)) dL_damp_4 ⟨Nat.le_of_ble_eq_true rfl, Nat.le_of_ble_eq_true rfl⟩) hS (fun q _ h => hFc q h) hFc (fun q _ h => hFc q h) (fun E ce q9 u t H1 locs ht hvm hpx hBX hz1 hk1 hS hce hcv hcl => ?_) (fun r_1 u t H1 locs ht hvm hw hB hz1 hk1 hS => ?_)
  · skip
    try dsimp only at hBX
    obtain ⟨rfl, hc⟩ := hBX
    have hP1 : va_P (dC, dI) vwCl [] H1 := fun k q h => by simp at h
    have hD1 : va_D (va_A [(h, .inr (17, [.ref pal, .ref she, .ref fil, .ref nte, .ref dat, .ref vot, .ref loa, .ref nos, .ref pic, .ref spa, .int 5, .int 50, .int 1600, .int 0]))] s.heap.size) [] := ⟨fun i j p q h => by simp at h, fun k q h => by simp at h⟩
    obtain ⟨hP, hD⟩ := va_join (wr := [(out, .inl (kO, 1, .inr (.inl fo)))]) (w1 := []) hP hD [0] [1] rfl rfl (by decide) (by decide) hk1 hFc hP1 hD1
    generalize H1 = H at hP hS hce ⊢
    have hP : va_P (dC, dI) vwCl [(out, .inl (kO, 1, .inr (.inl fo)))] H := hP
    have hD : va_D A [(out, .inl (kO, 1, .inr (.inl fo)))] := hD
    have hR : va_P (dC, dI) vwCl [] H := fun k q h => by simp at h
    refine vx_catch (own := RL) (name := "java/lang/IllegalArgumentException") (E := "java/lang/IllegalArgumentException") hown [] ⟨0, 9, 12, 13⟩ [] hTab (fun _ h9 => absurd h9 List.not_mem_nil) (by decide) (by decide) (hts (.classLink RL 13 "java/lang/IllegalArgumentException") (by decide +kernel)) (va_Nw.use rfl (hE.cast (by decide))) hce hcv hcl ?_
    refine lv_astore_n (lv' := [(3, .ref q9), (0, .ref h), (1, .int n), (2, .ref out)]) hx hb dL_damp_12 rfl hl (by decide) rfl (fun ls hl => ?_)
    refine lv_iconst (v := 1) hx hb dL_damp_13 (by decide) ?_
    refine W.widen (k := 1) (n := 6) (Nat.le_of_ble_eq_true rfl) (Nat.le_of_ble_eq_true rfl) ?_
    refine vx_ret ?_
    exact W.iret (v := 1) hx hb hr (fun t ht hW => ⟨⟨1, fo, rfl, (z_c_L_damp_426 n fo hc), cB.mk ht hW (hP.sub [0] rfl) (hK.sub [] rfl) (hD.sub [0] (by decide) rfl) (trivial)⟩, hS.F ht⟩) hS.2.2 dL_damp_14
  have hP1 : va_P (dC, dI) vwCl [] H1 := fun k q h => by simp at h
  have hD1 : va_D (va_A [(h, .inr (17, [.ref pal, .ref she, .ref fil, .ref nte, .ref dat, .ref vot, .ref loa, .ref nos, .ref pic, .ref spa, .int 5, .int 50, .int 1600, .int 0]))] s.heap.size) [] := ⟨fun i j p q h => by simp at h, fun k q h => by simp at h⟩
  try dsimp only at hw
  obtain ⟨hP, hD⟩ := va_join (wr := [(out, .inl (kO, 1, .inr (.inl fo)))]) (w1 := []) hP hD [0] [1] rfl rfl (by decide) (by decide) hk1 hFc hP1 hD1
  generalize H1 = H at hP hS ⊢
  have hP : va_P (dC, dI) vwCl [(out, .inl (kO, 1, .inr (.inl fo)))] H := hP
  have hD : va_D A [(out, .inl (kO, 1, .inr (.inl fo)))] := hD
  have hR : va_P (dC, dI) vwCl [] H := fun k q h => by simp at h
  refine W.widen (k := 1) (n := 6) (Nat.le_of_ble_eq_true rfl) (Nat.le_of_ble_eq_true rfl) ?_
  obtain ⟨hw, h_2⟩ := hw
  subst r_1
  refine lv_i2l hx hb dL_damp_7 rfl ?_
  refine lv_topl (fun y_3 ey_3 => ?_)
  refine va_last hx hb hK hP hD hS 0 0 rfl rfl (vp_in_nI (by decide : 0 < 1) (by decide)) dL_damp_8 (fun H locs hP hD hS => ?_)
  generalize ef_4 : vp_updL fo (0 : Int32).toNatClampNeg y_3 = f_4 at hP hD
  have hP : va_P (dC, dI) vwCl [(out, .inl (kO, 1, .inr (.inl f_4)))] H := hP
  have hD : va_D A [(out, .inl (kO, 1, .inr (.inl f_4)))] := hD
  have hR : va_P (dC, dI) vwCl [] H := fun k q h => by simp at h
  have h_5 : f_4 0 = y_3 := by rw [← ef_4]; exact pk_uLs
  refine lv_goto (tgt := 15) hx hb dL_damp_9 (by decide) ?_
  refine lv_iconst (v := 0) hx hb dL_damp_15 (by decide) ?_
  refine W.widen (k := 1) (n := 6) (Nat.le_of_ble_eq_true rfl) (Nat.le_of_ble_eq_true rfl) ?_
  refine vx_ret ?_
  exact W.iret (v := 0) hx hb hr (fun t ht hW => ⟨⟨0, f_4, rfl, (z_c_L_damp_427 n y_3 f_4 h_2 ey_3 h_5), cB.mk ht hW (hP.sub [0] rfl) (hK.sub [] rfl) (hD.sub [0] (by decide) rfl) (trivial)⟩, hS.F ht⟩) hS.2.2 dL_damp_16
theorem z_c_L_pass_428 (n : Int32) (fo : Nat → Int64) (a_0 : ¬ (1 ≤ n ∧ n ≤ 50)) : ((1 : Int32) = 0 ∧ fo 0 = (1600 + n : Int32).toInt64 ∧ (1 ≤ n ∧ n ≤ 50)) ∨ ((1 : Int32) = 1 ∧ (¬ (1 ≤ n ∧ n ≤ 50))) := by grind
theorem z_c_L_pass_429 (n : Int32) (y_3 : Int64) (f_4 : Nat → Int64) (a_0 : (1 ≤ n ∧ n ≤ 50)) (a_1 : y_3 = ((1600 + n) : Int32).toInt64) (a_2 : f_4 0 = y_3) : ((0 : Int32) = 0 ∧ f_4 0 = (1600 + n : Int32).toInt64 ∧ (1 ≤ n ∧ n ≤ 50)) ∨ ((0 : Int32) = 1 ∧ (¬ (1 ≤ n ∧ n ≤ 50))) := by grind
def wo_c_L_pass_w : List Cond := [Cond.codeWith yL_pass cL_pass 4 (some .int) [(0, 9, 12, 13), (0, 9, 15, 15)], Cond.classLink RL 13 "java/lang/IllegalArgumentException"]
def wo_c_L_pass : List Cond := .codeWith yL_pass cL_pass 4 (some .int) [(0, 9, 12, 13), (0, 9, 15, 15)] :: (wo_c_L_pass_w ++ (wsV RL 49 RX11 yX11_pass wo_c_X11_pass ++ List.nil))
theorem gw_wo_c_L_pass : wo_c_L_pass.all goodWord = true := gw_c (by decide +kernel) (gw_a (by decide +kernel) (gw_a (gw_a (by decide +kernel) gw_wo_c_X11_pass) rfl))
theorem go_c_L_pass_0 : GoodIn wo_c_L_pass (wsV RL 49 RX11 yX11_pass wo_c_X11_pass) := goodIn_sub (fun _ h => List.mem_cons_of_mem _ (List.mem_append_right _ (List.mem_append_left _ h))) (gw_a (by decide +kernel) gw_wo_c_X11_pass)
set_option maxHeartbeats 4000000 in
set_option maxRecDepth 100000 in
/-- the law: pass -/
theorem c_L_pass (l : Launch) (hst : l.stackTraces = false) (dC : Nat → ClassId) (dI : Nat → Nat → Nat) (b0 : Nat) (en : EnT) (sz : Nat) (h pal she fil nte dat vot loa nos pic spa : Nat) (st sp ll : Nat) (g : Nat → Option Nat) (cS : ClassId) (N : Nat → Prop) (n : Int32) (out : Nat) (kO : ClassId) (fo : Nat → Int64) (hNb : ∀ a, N a → b0 ≤ a ∧ a < sz) (hNw : ∀ a, N a → a ∉ List.map Prod.fst ([(fil, .inr (5, [.int 0, .ref en.2.2.1, .int 0])), (pic, .inr (11, [.ref st, .ref sp, .ref ll, .int 0, .int 1600])), (out, .inl (kO, 1, .inr (.inl fo)))] : va_W)) (hNr : ∀ a, N a → a ∉ List.map Prod.fst ([(h, .inr (17, [.ref pal, .ref she, .ref fil, .ref nte, .ref dat, .ref vot, .ref loa, .ref nos, .ref pic, .ref spa, .int 5, .int 50, .int 1600, .int 0])), (st, .inl (cS, 48, .inr (.inr (.inr (.inr g)))))] : va_W)) : vx_Met l yL_pass wo_c_L_pass ({ frames := 9, cells := 8, slots := 59, locals := 170 } : Room) (cP b0 en (dC, dI) [(cS, .object "Underpaint$Stack"), (kO, .long)] [(fil, .inr (5, [.int 0, .ref en.2.2.1, .int 0])), (pic, .inr (11, [.ref st, .ref sp, .ref ll, .int 0, .int 1600])), (out, .inl (kO, 1, .inr (.inl fo)))] [(h, .inr (17, [.ref pal, .ref she, .ref fil, .ref nte, .ref dat, .ref vot, .ref loa, .ref nos, .ref pic, .ref spa, .int 5, .int 50, .int 1600, .int 0])), (st, .inl (cS, 48, .inr (.inr (.inr (.inr g)))))] sz (FamS (dC, dI) N g) [.ref h, .int n, .ref out]) (va_Qi (fun (r : Int32) (u : Nat → Int64) => (r = 0 ∧ u 0 = (1600 + n : Int32).toInt64 ∧ (1 ≤ n ∧ n ≤ 50)) ∨ (r = 1 ∧ (¬ (1 ≤ n ∧ n ≤ 50)))) (fun u t => cB (dC, dI) [] [(out, .inl (kO, 1, .inr (.inl u)))] (va_A [(fil, .inr (5, [.int 0, .ref en.2.2.1, .int 0])), (pic, .inr (11, [.ref st, .ref sp, .ref ll, .int 0, .int 1600])), (out, .inl (kO, 1, .inr (.inl fo)))] sz) (fun _ => True) t) (va_A [(fil, .inr (5, [.int 0, .ref en.2.2.1, .int 0])), (pic, .inr (11, [.ref st, .ref sp, .ref ll, .int 0, .int 1600])), (out, .inl (kO, 1, .inr (.inl fo)))] sz)) (vx_X (fun _ : Unit => True) (fun E _ _ => (E = "none" ∧ False)) (va_A [(fil, .inr (5, [.int 0, .ref en.2.2.1, .int 0])), (pic, .inr (11, [.ref st, .ref sp, .ref ll, .int 0, .int 1600])), (out, .inl (kO, 1, .inr (.inl fo)))] sz)) 8 59 (va_A [(fil, .inr (5, [.int 0, .ref en.2.2.1, .int 0])), (pic, .inr (11, [.ref st, .ref sp, .ref ll, .int 0, .int 1600])), (out, .inl (kO, 1, .inr (.inl fo)))] sz) := by
  refine vx_ofWH (cc := cL_pass) (maxL := 4) (ret := (some .int)) (hh := [(0, 9, 12, 13), (0, 9, 15, 15)]) (by decide) rfl ?_
  intro p e s m args below meth c s₁ B hml hv
  obtain ⟨rfl, hsz, hb0, hE, hPP, hK, hDD, hF0⟩ := hv
  have hx := B.exec
  have hb := B.bytes
  have hr := B.returns
  have hts := atoms_spec (ws := wo_c_L_pass) B.pre
  have hown : s.vm.findClass RL = some m.cls := findClass_of_methodNamed B.named
  have hlocks := B.notSynchronized
  subst hsz
  have hN0 := en_N hPP hDD rfl
  have hP : va_P (dC, dI) vwCl [(fil, .inr (5, [.int 0, .ref en.2.2.1, .int 0])), (pic, .inr (11, [.ref st, .ref sp, .ref ll, .int 0, .int 1600])), (out, .inl (kO, 1, .inr (.inl fo)))] s.heap := hPP.sub [0, 1, 2] rfl
  have hR0 : va_P (dC, dI) vwCl [(h, .inr (17, [.ref pal, .ref she, .ref fil, .ref nte, .ref dat, .ref vot, .ref loa, .ref nos, .ref pic, .ref spa, .int 5, .int 50, .int 1600, .int 0])), (st, .inl (cS, 48, .inr (.inr (.inr (.inr g)))))] s.heap := hPP.sub [3, 4] rfl
  have hD0 : va_D (fun q => b0 ≤ q) [(fil, .inr (5, [.int 0, .ref en.2.2.1, .int 0])), (pic, .inr (11, [.ref st, .ref sp, .ref ll, .int 0, .int 1600])), (out, .inl (kO, 1, .inr (.inl fo)))] := hDD.sub [0, 1, 2] (by decide) rfl
  have hDr : va_D (fun q => b0 ≤ q) [(h, .inr (17, [.ref pal, .ref she, .ref fil, .ref nte, .ref dat, .ref vot, .ref loa, .ref nos, .ref pic, .ref spa, .int 5, .int 50, .int 1600, .int 0])), (st, .inl (cS, 48, .inr (.inr (.inr (.inr g)))))] := hDD.sub [3, 4] (by decide) rfl
  have hAb := en_A (sz := s.heap.size) hD0 hb0
  have hD := hD0.self (sz := s.heap.size)
  generalize hAe : va_A [(fil, .inr (5, [.int 0, .ref en.2.2.1, .int 0])), (pic, .inr (11, [.ref st, .ref sp, .ref ll, .int 0, .int 1600])), (out, .inl (kO, 1, .inr (.inl fo)))] s.heap.size = A at hD hAb hN0 ⊢
  have hA : ∀ q : Nat, s.heap.size ≤ q → A q := fun q h => by rw [← hAe]; exact Or.inr h
  have hS : va_S A s.heap s.heap [] := va_S.rf
  have hR := hR0
  have hl := lv_entry [.ref h, .int n, .ref out] (n := 4) (Nat.le_of_ble_eq_true rfl)
  rw [lg_entry_eq]
  generalize (lg_sl [.ref h, .int n, .ref out] ++ List.replicate (4 - (lg_sl [.ref h, .int n, .ref out]).length) Slot.unset).toArray = ls at hl ⊢
  have hl : lv_has ls 4 [(0, .ref h), (1, .int n), (2, .ref out)] := hl
  have hTab := vx_table (x := yL_pass) B (hts (.codeWith yL_pass cL_pass 4 (some .int) [(0, 9, 12, 13), (0, 9, 15, 15)]) (by decide +kernel))
  have hR0b := hR0
  have hDrb := hDr
  have hN0b := hN0
  refine lv_aload_n hx hb dL_pass_0 rfl (lv_at hl 2 rfl) ?_
  refine lv_iconst (v := 0) hx hb dL_pass_1 (by decide) ?_
  refine lv_aload_n hx hb dL_pass_2 rfl (lv_at hl 0 rfl) ?_
  refine lv_iload_n hx hb dL_pass_3 rfl (lv_at hl 1 rfl) ?_
  have hPc := (hP.app hR).sub (ws' := [(fil, .inr (5, [.int 0, .ref en.2.2.1, .int 0])), (pic, .inr (11, [.ref st, .ref sp, .ref ll, .int 0, .int 1600]))] ++ [(h, .inr (17, [.ref pal, .ref she, .ref fil, .ref nte, .ref dat, .ref vot, .ref loa, .ref nos, .ref pic, .ref spa, .int 5, .int 50, .int 1600, .int 0])), (st, .inl (cS, 48, .inr (.inr (.inr (.inr g)))))]) [0, 1, 3, 4] rfl
  have hDc := (en_DD hD hDr hN0 hAb).sub (ws' := [(fil, .inr (5, [.int 0, .ref en.2.2.1, .int 0])), (pic, .inr (11, [.ref st, .ref sp, .ref ll, .int 0, .int 1600]))] ++ [(h, .inr (17, [.ref pal, .ref she, .ref fil, .ref nte, .ref dat, .ref vot, .ref loa, .ref nos, .ref pic, .ref spa, .int 5, .int 50, .int 1600, .int 0])), (st, .inl (cS, 48, .inr (.inr (.inr (.inr g)))))]) [0, 1, 3, 4] (by decide) rfl
  have hKc := hK.sub (tys' := [(cS, .object "Underpaint$Stack")]) [0] rfl
  have hFc := va_free (wc := [(fil, .inr (5, [.int 0, .ref en.2.2.1, .int 0])), (pic, .inr (11, [.ref st, .ref sp, .ref ll, .int 0, .int 1600]))]) hD hS hA [0, 1] rfl
  refine vx_calli (vx_runV (As := [.int n]) (rest := [.int 0, .ref out]) ⟨hx, hb, hml, hown, hts⟩ (c_X11_pass l hst dC dI b0 en s.heap.size h pal she fil nte dat vot loa nos pic spa st sp ll g cS N n (fun a9 h9 => ⟨(hNb a9 h9).1, Nat.lt_of_lt_of_le (hNb a9 h9).2 hS.1⟩) (fun a9 h9 z9 => by have g1 := hNw a9 h9; have g2 := hNr a9 h9; have g3 := (hNb a9 h9).2; simp only [List.map_cons, List.map_nil, List.mem_cons, List.not_mem_nil, or_false, not_or] at g1 g2 z9 <;> omega) (fun a9 h9 z9 => by have g1 := hNw a9 h9; have g2 := hNr a9 h9; have g3 := (hNb a9 h9).2; simp only [List.map_cons, List.map_nil, List.mem_cons, List.not_mem_nil, or_false, not_or] at g1 g2 z9 <;> omega)) (cwV 1 hts go_c_L_pass_0 rfl rfl rfl (by decide +kernel) ⟨Nat.le_of_ble_eq_true rfl, Nat.le_of_ble_eq_true rfl⟩) ⟨cP.blind, va_recv hK hR (ci := 17) (q0 := 0) rfl rfl, cP.use (en_z hb0 hS) (hE.on hAb hS) hPc hKc hDc (hF0.on (fun a9 h8 h9 => by rw [← hAe]; exact vA1 h8 (hNw a9 h9)) hS)⟩ rfl rfl hl.1 rfl (lv_room (Nat.le_of_ble_eq_true rfl)) dL_pass_4 ⟨Nat.le_of_ble_eq_true rfl, Nat.le_of_ble_eq_true rfl⟩) hS (fun q _ h => hFc q h) hFc (fun q _ h => hFc q h) (fun E ce q9 u t H1 locs ht hvm hpx hBX hz1 hk1 hS hce hcv hcl => ?_) (fun r_1 u t H1 locs ht hvm hw hB hz1 hk1 hS => ?_)
  · skip
    try dsimp only at hBX
    obtain ⟨rfl, hc⟩ := hBX
    have hP1 : va_P (dC, dI) vwCl [] H1 := fun k q h => by simp at h
    have hD1 : va_D (va_A [(fil, .inr (5, [.int 0, .ref en.2.2.1, .int 0])), (pic, .inr (11, [.ref st, .ref sp, .ref ll, .int 0, .int 1600]))] s.heap.size) [] := ⟨fun i j p q h => by simp at h, fun k q h => by simp at h⟩
    obtain ⟨hP, hD⟩ := va_join (wr := [(out, .inl (kO, 1, .inr (.inl fo)))]) (w1 := []) hP hD [0, 1] [2] rfl rfl (by decide) (by decide) hk1 hFc hP1 hD1
    generalize H1 = H at hP hS hce ⊢
    have hP : va_P (dC, dI) vwCl [(out, .inl (kO, 1, .inr (.inl fo)))] H := hP
    have hD : va_D A [(out, .inl (kO, 1, .inr (.inl fo)))] := hD
    have hR := en_R hR0 hN0 hS
    refine vx_catch (own := RL) (name := "java/lang/IllegalArgumentException") (E := "java/lang/IllegalArgumentException") hown [] ⟨0, 9, 12, 13⟩ [⟨0, 9, 15, 15⟩] hTab (fun _ h9 => absurd h9 List.not_mem_nil) (by decide) (by decide) (hts (.classLink RL 13 "java/lang/IllegalArgumentException") (by decide +kernel)) (va_Nw.use rfl (hE.cast (by decide))) hce hcv hcl ?_
    refine lv_astore_n (lv' := [(3, .ref q9), (0, .ref h), (1, .int n), (2, .ref out)]) hx hb dL_pass_12 rfl hl (by decide) rfl (fun ls hl => ?_)
    refine lv_iconst (v := 1) hx hb dL_pass_13 (by decide) ?_
    refine W.widen (k := 8) (n := 59) (Nat.le_of_ble_eq_true rfl) (Nat.le_of_ble_eq_true rfl) ?_
    refine vx_ret ?_
    exact W.iret (v := 1) hx hb hr (fun t ht hW => ⟨⟨1, fo, rfl, (z_c_L_pass_428 n fo hc), cB.mk ht hW (hP.sub [0] rfl) (hK.sub [] rfl) (hD.sub [0] (by decide) rfl) (trivial)⟩, hS.F ht⟩) hS.2.2 dL_pass_14
  have hP1 : va_P (dC, dI) vwCl [] H1 := fun k q h => by simp at h
  have hD1 : va_D (va_A [(fil, .inr (5, [.int 0, .ref en.2.2.1, .int 0])), (pic, .inr (11, [.ref st, .ref sp, .ref ll, .int 0, .int 1600]))] s.heap.size) [] := ⟨fun i j p q h => by simp at h, fun k q h => by simp at h⟩
  try dsimp only at hw
  obtain ⟨hP, hD⟩ := va_join (wr := [(out, .inl (kO, 1, .inr (.inl fo)))]) (w1 := []) hP hD [0, 1] [2] rfl rfl (by decide) (by decide) hk1 hFc hP1 hD1
  generalize H1 = H at hP hS ⊢
  have hP : va_P (dC, dI) vwCl [(out, .inl (kO, 1, .inr (.inl fo)))] H := hP
  have hD : va_D A [(out, .inl (kO, 1, .inr (.inl fo)))] := hD
  have hR := en_R hR0 hN0 hS
  refine W.widen (k := 8) (n := 59) (Nat.le_of_ble_eq_true rfl) (Nat.le_of_ble_eq_true rfl) ?_
  obtain ⟨hw, h_2⟩ := hw
  subst r_1
  refine lv_i2l hx hb dL_pass_7 rfl ?_
  refine lv_topl (fun y_3 ey_3 => ?_)
  refine va_last hx hb hK hP hD hS 0 1 rfl rfl (vp_in_nI (by decide : 0 < 1) (by decide)) dL_pass_8 (fun H locs hP hD hS => ?_)
  generalize ef_4 : vp_updL fo (0 : Int32).toNatClampNeg y_3 = f_4 at hP hD
  have hP : va_P (dC, dI) vwCl [(out, .inl (kO, 1, .inr (.inl f_4)))] H := hP
  have hD : va_D A [(out, .inl (kO, 1, .inr (.inl f_4)))] := hD
  have hR := en_R hR0 hN0 hS
  have h_5 : f_4 0 = y_3 := by rw [← ef_4]; exact pk_uLs
  refine lv_goto (tgt := 18) hx hb dL_pass_9 (by decide) ?_
  refine lv_iconst (v := 0) hx hb dL_pass_18 (by decide) ?_
  refine W.widen (k := 8) (n := 59) (Nat.le_of_ble_eq_true rfl) (Nat.le_of_ble_eq_true rfl) ?_
  refine vx_ret ?_
  exact W.iret (v := 0) hx hb hr (fun t ht hW => ⟨⟨0, f_4, rfl, (z_c_L_pass_429 n y_3 f_4 h_2 ey_3 h_5), cB.mk ht hW (hP.sub [0] rfl) (hK.sub [] rfl) (hD.sub [0] (by decide) rfl) (trivial)⟩, hS.F ht⟩) hS.2.2 dL_pass_19
theorem z_c_L_view_430 (ray : Int32) (x : Int32) (y : Int32) (fo : Nat → Int64) (a_0 : ¬ (0 ≤ ixL 1 ray ∧ ((0 ≤ x ∧ x < 8) ∧ (0 ≤ y ∧ y < 6)))) : ((1 : Int32) = 0 ∧ fo 0 = (if ixL 1 ray = 0 then 50 else if ixL 1 ray = 2 then -1 else 0 : Int32).toInt64 ∧ 0 ≤ ixL 1 ray ∧ ((0 ≤ x ∧ x < 8) ∧ (0 ≤ y ∧ y < 6))) ∨ ((1 : Int32) = 1 ∧ (¬ (0 ≤ ixL 1 ray ∧ ((0 ≤ x ∧ x < 8) ∧ (0 ≤ y ∧ y < 6))))) := by grind
theorem z_c_L_view_431 (ray : Int32) (x : Int32) (y : Int32) (r_1 : Int32) (y_3 : Int64) (f_4 : Nat → Int64) (a_0 : (r_1 = if ixL 1 ray = 0 then 50 else if ixL 1 ray = 2 then -1 else 0) ∧ 0 ≤ ixL 1 ray ∧ ((0 ≤ x ∧ x < 8) ∧ (0 ≤ y ∧ y < 6))) (a_1 : y_3 = (r_1 : Int32).toInt64) (a_2 : f_4 0 = y_3) : ((0 : Int32) = 0 ∧ f_4 0 = (if ixL 1 ray = 0 then 50 else if ixL 1 ray = 2 then -1 else 0 : Int32).toInt64 ∧ 0 ≤ ixL 1 ray ∧ ((0 ≤ x ∧ x < 8) ∧ (0 ≤ y ∧ y < 6))) ∨ ((0 : Int32) = 1 ∧ (¬ (0 ≤ ixL 1 ray ∧ ((0 ≤ x ∧ x < 8) ∧ (0 ≤ y ∧ y < 6))))) := by grind
def wo_c_L_view_w : List Cond := [Cond.codeWith yL_view cL_view 6 (some .int) [(0, 12, 15, 13)], Cond.classLink RL 13 "java/lang/IllegalArgumentException"]
def wo_c_L_view : List Cond := .codeWith yL_view cL_view 6 (some .int) [(0, 12, 15, 13)] :: (wo_c_L_view_w ++ (wsV RL 52 RX11 yX11_view wo_c_X11_view ++ List.nil))
theorem gw_wo_c_L_view : wo_c_L_view.all goodWord = true := gw_c (by decide +kernel) (gw_a (by decide +kernel) (gw_a (gw_a (by decide +kernel) gw_wo_c_X11_view) rfl))
theorem go_c_L_view_0 : GoodIn wo_c_L_view (wsV RL 52 RX11 yX11_view wo_c_X11_view) := goodIn_sub (fun _ h => List.mem_cons_of_mem _ (List.mem_append_right _ (List.mem_append_left _ h))) (gw_a (by decide +kernel) gw_wo_c_X11_view)
set_option maxHeartbeats 4000000 in
set_option maxRecDepth 100000 in
/-- the law: view -/
theorem c_L_view (l : Launch) (hst : l.stackTraces = false) (dC : Nat → ClassId) (dI : Nat → Nat → Nat) (b0 : Nat) (en : EnT) (sz : Nat) (h pal she fil nte dat vot loa nos pic spa : Nat) (st sp ll : Nat) (g : Nat → Option Nat) (cS : ClassId) (N : Nat → Prop) (ray x y : Int32) (out : Nat) (kO : ClassId) (fo : Nat → Int64) (hNb : ∀ a, N a → b0 ≤ a ∧ a < sz) (hNw : ∀ a, N a → a ∉ List.map Prod.fst ([(out, .inl (kO, 1, .inr (.inl fo)))] : va_W)) (hNr : ∀ a, N a → a ∉ List.map Prod.fst ([(h, .inr (17, [.ref pal, .ref she, .ref fil, .ref nte, .ref dat, .ref vot, .ref loa, .ref nos, .ref pic, .ref spa, .int 5, .int 50, .int 1600, .int 0])), (pic, .inr (11, [.ref st, .ref sp, .ref ll, .int 0, .int 1600])), (st, .inl (cS, 48, .inr (.inr (.inr (.inr g)))))] : va_W)) : vx_Met l yL_view wo_c_L_view ({ frames := 8, cells := 1, slots := 6, locals := 176 } : Room) (cP b0 en (dC, dI) [(cS, .object "Underpaint$Stack"), (kO, .long)] [(out, .inl (kO, 1, .inr (.inl fo)))] [(h, .inr (17, [.ref pal, .ref she, .ref fil, .ref nte, .ref dat, .ref vot, .ref loa, .ref nos, .ref pic, .ref spa, .int 5, .int 50, .int 1600, .int 0])), (pic, .inr (11, [.ref st, .ref sp, .ref ll, .int 0, .int 1600])), (st, .inl (cS, 48, .inr (.inr (.inr (.inr g)))))] sz (FamS (dC, dI) N g) [.ref h, .int ray, .int x, .int y, .ref out]) (va_Qi (fun (r : Int32) (u : Nat → Int64) => (r = 0 ∧ u 0 = (if ixL 1 ray = 0 then 50 else if ixL 1 ray = 2 then -1 else 0 : Int32).toInt64 ∧ 0 ≤ ixL 1 ray ∧ ((0 ≤ x ∧ x < 8) ∧ (0 ≤ y ∧ y < 6))) ∨ (r = 1 ∧ (¬ (0 ≤ ixL 1 ray ∧ ((0 ≤ x ∧ x < 8) ∧ (0 ≤ y ∧ y < 6)))))) (fun u t => cB (dC, dI) [] [(out, .inl (kO, 1, .inr (.inl u)))] (va_A [(out, .inl (kO, 1, .inr (.inl fo)))] sz) (fun _ => True) t) (va_A [(out, .inl (kO, 1, .inr (.inl fo)))] sz)) (vx_X (fun _ : Unit => True) (fun E _ _ => (E = "none" ∧ False)) (va_A [(out, .inl (kO, 1, .inr (.inl fo)))] sz)) 1 6 (va_A [(out, .inl (kO, 1, .inr (.inl fo)))] sz) := by
  refine vx_ofWH (cc := cL_view) (maxL := 6) (ret := (some .int)) (hh := [(0, 12, 15, 13)]) (by decide) rfl ?_
  intro p e s m args below meth c s₁ B hml hv
  obtain ⟨rfl, hsz, hb0, hE, hPP, hK, hDD, hF0⟩ := hv
  have hx := B.exec
  have hb := B.bytes
  have hr := B.returns
  have hts := atoms_spec (ws := wo_c_L_view) B.pre
  have hown : s.vm.findClass RL = some m.cls := findClass_of_methodNamed B.named
  have hlocks := B.notSynchronized
  subst hsz
  have hN0 := en_N hPP hDD rfl
  have hP : va_P (dC, dI) vwCl [(out, .inl (kO, 1, .inr (.inl fo)))] s.heap := hPP.sub [0] rfl
  have hR0 : va_P (dC, dI) vwCl [(h, .inr (17, [.ref pal, .ref she, .ref fil, .ref nte, .ref dat, .ref vot, .ref loa, .ref nos, .ref pic, .ref spa, .int 5, .int 50, .int 1600, .int 0])), (pic, .inr (11, [.ref st, .ref sp, .ref ll, .int 0, .int 1600])), (st, .inl (cS, 48, .inr (.inr (.inr (.inr g)))))] s.heap := hPP.sub [1, 2, 3] rfl
  have hD0 : va_D (fun q => b0 ≤ q) [(out, .inl (kO, 1, .inr (.inl fo)))] := hDD.sub [0] (by decide) rfl
  have hDr : va_D (fun q => b0 ≤ q) [(h, .inr (17, [.ref pal, .ref she, .ref fil, .ref nte, .ref dat, .ref vot, .ref loa, .ref nos, .ref pic, .ref spa, .int 5, .int 50, .int 1600, .int 0])), (pic, .inr (11, [.ref st, .ref sp, .ref ll, .int 0, .int 1600])), (st, .inl (cS, 48, .inr (.inr (.inr (.inr g)))))] := hDD.sub [1, 2, 3] (by decide) rfl
  have hAb := en_A (sz := s.heap.size) hD0 hb0
  have hD := hD0.self (sz := s.heap.size)
  generalize hAe : va_A [(out, .inl (kO, 1, .inr (.inl fo)))] s.heap.size = A at hD hAb hN0 ⊢
  have hA : ∀ q : Nat, s.heap.size ≤ q → A q := fun q h => by rw [← hAe]; exact Or.inr h
  have hS : va_S A s.heap s.heap [] := va_S.rf
  have hR := hR0
  have hl := lv_entry [.ref h, .int ray, .int x, .int y, .ref out] (n := 6) (Nat.le_of_ble_eq_true rfl)
  rw [lg_entry_eq]
  generalize (lg_sl [.ref h, .int ray, .int x, .int y, .ref out] ++ List.replicate (6 - (lg_sl [.ref h, .int ray, .int x, .int y, .ref out]).length) Slot.unset).toArray = ls at hl ⊢
  have hl : lv_has ls 6 [(0, .ref h), (1, .int ray), (2, .int x), (3, .int y), (4, .ref out)] := hl
  have hTab := vx_table (x := yL_view) B (hts (.codeWith yL_view cL_view 6 (some .int) [(0, 12, 15, 13)]) (by decide +kernel))
  have hR0b := hR0
  have hDrb := hDr
  have hN0b := hN0
  refine lv_aload hx hb dL_view_0 (lv_at hl 4 rfl) ?_
  refine lv_iconst (v := 0) hx hb dL_view_2 (by decide) ?_
  refine lv_aload_n hx hb dL_view_3 rfl (lv_at hl 0 rfl) ?_
  refine lv_iload_n hx hb dL_view_4 rfl (lv_at hl 1 rfl) ?_
  refine lv_iload_n hx hb dL_view_5 rfl (lv_at hl 2 rfl) ?_
  refine lv_iload_n hx hb dL_view_6 rfl (lv_at hl 3 rfl) ?_
  have hPc := (hP.app hR).sub (ws' := [] ++ [(h, .inr (17, [.ref pal, .ref she, .ref fil, .ref nte, .ref dat, .ref vot, .ref loa, .ref nos, .ref pic, .ref spa, .int 5, .int 50, .int 1600, .int 0])), (pic, .inr (11, [.ref st, .ref sp, .ref ll, .int 0, .int 1600])), (st, .inl (cS, 48, .inr (.inr (.inr (.inr g)))))]) [1, 2, 3] rfl
  have hDc := (en_DD hD hDr hN0 hAb).sub (ws' := [] ++ [(h, .inr (17, [.ref pal, .ref she, .ref fil, .ref nte, .ref dat, .ref vot, .ref loa, .ref nos, .ref pic, .ref spa, .int 5, .int 50, .int 1600, .int 0])), (pic, .inr (11, [.ref st, .ref sp, .ref ll, .int 0, .int 1600])), (st, .inl (cS, 48, .inr (.inr (.inr (.inr g)))))]) [1, 2, 3] (by decide) rfl
  have hKc := hK.sub (tys' := [(cS, .object "Underpaint$Stack")]) [0] rfl
  have hFc := va_free (wc := []) hD hS hA [] rfl
  refine vx_calli (vx_runV (As := [.int ray, .int x, .int y]) (rest := [.int 0, .ref out]) ⟨hx, hb, hml, hown, hts⟩ (c_X11_view l hst dC dI b0 en s.heap.size h pal she fil nte dat vot loa nos pic spa st sp ll g cS N ray x y (fun a9 h9 => ⟨(hNb a9 h9).1, Nat.lt_of_lt_of_le (hNb a9 h9).2 hS.1⟩) (fun a9 h9 z9 => by have g1 := hNw a9 h9; have g2 := hNr a9 h9; have g3 := (hNb a9 h9).2; simp only [List.map_cons, List.map_nil, List.mem_cons, List.not_mem_nil, or_false, not_or] at g1 g2 z9 <;> omega) (fun a9 h9 z9 => by have g1 := hNw a9 h9; have g2 := hNr a9 h9; have g3 := (hNb a9 h9).2; simp only [List.map_cons, List.map_nil, List.mem_cons, List.not_mem_nil, or_false, not_or] at g1 g2 z9 <;> omega)) (cwV 3 hts go_c_L_view_0 rfl rfl rfl (by decide +kernel) ⟨Nat.le_of_ble_eq_true rfl, Nat.le_of_ble_eq_true rfl⟩) ⟨cP.blind, va_recv hK hR (ci := 17) (q0 := 0) rfl rfl, cP.use (en_z hb0 hS) (hE.on hAb hS) hPc hKc hDc (hF0.on (fun a9 h8 h9 => by rw [← hAe]; exact vA1 h8 (hNw a9 h9)) hS)⟩ rfl rfl hl.1 rfl (lv_room (Nat.le_of_ble_eq_true rfl)) dL_view_7 ⟨Nat.le_of_ble_eq_true rfl, Nat.le_of_ble_eq_true rfl⟩) hS (fun q _ h => hFc q h) hFc (fun q _ h => hFc q h) (fun E ce q9 u t H1 locs ht hvm hpx hBX hz1 hk1 hS hce hcv hcl => ?_) (fun r_1 u t H1 locs ht hvm hw hB hz1 hk1 hS => ?_)
  · skip
    try dsimp only at hBX
    obtain ⟨rfl, hc⟩ := hBX
    have hP1 : va_P (dC, dI) vwCl [] H1 := fun k q h => by simp at h
    have hD1 : va_D (va_A [] s.heap.size) [] := ⟨fun i j p q h => by simp at h, fun k q h => by simp at h⟩
    obtain ⟨hP, hD⟩ := va_join (wr := [(out, .inl (kO, 1, .inr (.inl fo)))]) (w1 := []) hP hD [] [0] rfl rfl (by decide) (by decide) hk1 hFc hP1 hD1
    generalize H1 = H at hP hS hce ⊢
    have hP : va_P (dC, dI) vwCl [(out, .inl (kO, 1, .inr (.inl fo)))] H := hP
    have hD : va_D A [(out, .inl (kO, 1, .inr (.inl fo)))] := hD
    have hR := en_R hR0 hN0 hS
    refine vx_catch (own := RL) (name := "java/lang/IllegalArgumentException") (E := "java/lang/IllegalArgumentException") hown [] ⟨0, 12, 15, 13⟩ [] hTab (fun _ h9 => absurd h9 List.not_mem_nil) (by decide) (by decide) (hts (.classLink RL 13 "java/lang/IllegalArgumentException") (by decide +kernel)) (va_Nw.use rfl (hE.cast (by decide))) hce hcv hcl ?_
    refine lv_astore (lv' := [(5, .ref q9), (0, .ref h), (1, .int ray), (2, .int x), (3, .int y), (4, .ref out)]) hx hb dL_view_15 hl (by decide) rfl (fun ls hl => ?_)
    refine lv_iconst (v := 1) hx hb dL_view_17 (by decide) ?_
    refine W.widen (k := 1) (n := 6) (Nat.le_of_ble_eq_true rfl) (Nat.le_of_ble_eq_true rfl) ?_
    refine vx_ret ?_
    exact W.iret (v := 1) hx hb hr (fun t ht hW => ⟨⟨1, fo, rfl, (z_c_L_view_430 ray x y fo hc), cB.mk ht hW (hP.sub [0] rfl) (hK.sub [] rfl) (hD.sub [0] (by decide) rfl) (trivial)⟩, hS.F ht⟩) hS.2.2 dL_view_18
  have hP1 : va_P (dC, dI) vwCl [] H1 := fun k q h => by simp at h
  have hD1 : va_D (va_A [] s.heap.size) [] := ⟨fun i j p q h => by simp at h, fun k q h => by simp at h⟩
  try dsimp only at hw
  obtain ⟨hP, hD⟩ := va_join (wr := [(out, .inl (kO, 1, .inr (.inl fo)))]) (w1 := []) hP hD [] [0] rfl rfl (by decide) (by decide) hk1 hFc hP1 hD1
  generalize H1 = H at hP hS ⊢
  have hP : va_P (dC, dI) vwCl [(out, .inl (kO, 1, .inr (.inl fo)))] H := hP
  have hD : va_D A [(out, .inl (kO, 1, .inr (.inl fo)))] := hD
  have hR := en_R hR0 hN0 hS
  refine W.widen (k := 1) (n := 6) (Nat.le_of_ble_eq_true rfl) (Nat.le_of_ble_eq_true rfl) ?_
  have h_2 := hw
  refine lv_i2l hx hb dL_view_10 rfl ?_
  refine lv_topl (fun y_3 ey_3 => ?_)
  refine va_last hx hb hK hP hD hS 0 1 rfl rfl (vp_in_nI (by decide : 0 < 1) (by decide)) dL_view_11 (fun H locs hP hD hS => ?_)
  generalize ef_4 : vp_updL fo (0 : Int32).toNatClampNeg y_3 = f_4 at hP hD
  have hP : va_P (dC, dI) vwCl [(out, .inl (kO, 1, .inr (.inl f_4)))] H := hP
  have hD : va_D A [(out, .inl (kO, 1, .inr (.inl f_4)))] := hD
  have hR := en_R hR0 hN0 hS
  have h_5 : f_4 0 = y_3 := by rw [← ef_4]; exact pk_uLs
  refine lv_goto (tgt := 19) hx hb dL_view_12 (by decide) ?_
  refine lv_iconst (v := 0) hx hb dL_view_19 (by decide) ?_
  refine W.widen (k := 1) (n := 6) (Nat.le_of_ble_eq_true rfl) (Nat.le_of_ble_eq_true rfl) ?_
  refine vx_ret ?_
  exact W.iret (v := 0) hx hb hr (fun t ht hW => ⟨⟨0, f_4, rfl, (z_c_L_view_431 ray x y r_1 y_3 f_4 h_2 ey_3 h_5), cB.mk ht hW (hP.sub [0] rfl) (hK.sub [] rfl) (hD.sub [0] (by decide) rfl) (trivial)⟩, hS.F ht⟩) hS.2.2 dL_view_20

def wo_c_L_note_w : List Cond := [Cond.codeWith yL_note cL_note 6 (some .int) [(0, 12, 15, 13)], Cond.classLink RL 13 "java/lang/IllegalArgumentException"]
def wo_c_L_note : List Cond := .codeWith yL_note cL_note 6 (some .int) [(0, 12, 15, 13)] :: (wo_c_L_note_w ++ (wsV RL 56 RX11 yX11_note wo_c_X11_note ++ List.nil))
theorem gw_wo_c_L_note : wo_c_L_note.all goodWord = true := gw_c (by decide +kernel) (gw_a (by decide +kernel) (gw_a (gw_a (by decide +kernel) gw_wo_c_X11_note) rfl))
theorem go_c_L_note_0 : GoodIn wo_c_L_note (wsV RL 56 RX11 yX11_note wo_c_X11_note) := goodIn_sub (fun _ h => List.mem_cons_of_mem _ (List.mem_append_right _ (List.mem_append_left _ h))) (gw_a (by decide +kernel) gw_wo_c_X11_note)
set_option maxHeartbeats 4000000 in
set_option maxRecDepth 100000 in
/-- the law: note -/
theorem c_L_note (l : Launch) (hst : l.stackTraces = false) (dC : Nat → ClassId) (dI : Nat → Nat → Nat) (b0 : Nat) (en : EnT) (sz : Nat) (h pal she fil nte dat vot loa nos pic spa : Nat) (st sp ll : Nat) (g : Nat → Option Nat) (cS : ClassId) (N : Nat → Prop) (nn ns ng : Nat) (kZ kI : ClassId) (ray x y : Int32) (out : Nat) (kO : ClassId) (fo : Nat → Int64) (hNb : ∀ a, N a → b0 ≤ a ∧ a < sz) (hNw : ∀ a, N a → a ∉ List.map Prod.fst ([(nn, .inl (kZ, 240, .inl (fun _ => 0))), (ns, .inl (kI, 240, .inl (fun _ => 0))), (out, .inl (kO, 1, .inr (.inl fo)))] : va_W)) (hNr : ∀ a, N a → a ∉ List.map Prod.fst ([(h, .inr (17, [.ref pal, .ref she, .ref fil, .ref nte, .ref dat, .ref vot, .ref loa, .ref nos, .ref pic, .ref spa, .int 5, .int 50, .int 1600, .int 0])), (nte, .inr (10, [.ref nn, .ref ns, .ref ng, .int 0])), (pic, .inr (11, [.ref st, .ref sp, .ref ll, .int 0, .int 1600])), (st, .inl (cS, 48, .inr (.inr (.inr (.inr g)))))] : va_W)) : vx_Met l yL_note wo_c_L_note ({ frames := 8, cells := 1, slots := 6, locals := 177 } : Room) (cP b0 en (dC, dI) [(cS, .object "Underpaint$Stack"), (kZ, .boolean), (kI, .int), (kO, .long)] [(nn, .inl (kZ, 240, .inl (fun _ => 0))), (ns, .inl (kI, 240, .inl (fun _ => 0))), (out, .inl (kO, 1, .inr (.inl fo)))] [(h, .inr (17, [.ref pal, .ref she, .ref fil, .ref nte, .ref dat, .ref vot, .ref loa, .ref nos, .ref pic, .ref spa, .int 5, .int 50, .int 1600, .int 0])), (nte, .inr (10, [.ref nn, .ref ns, .ref ng, .int 0])), (pic, .inr (11, [.ref st, .ref sp, .ref ll, .int 0, .int 1600])), (st, .inl (cS, 48, .inr (.inr (.inr (.inr g)))))] sz (FamS (dC, dI) N g) [.ref h, .int ray, .int x, .int y, .ref out]) (va_Qi (fun (r : Int32) (u : Nat → Int64) => (r = 0 ∧ u 0 = (if ixL 1 ray = 0 then 50 else if ixL 1 ray = 2 then -1 else 0 : Int32).toInt64 ∧ 0 ≤ ixL 1 ray ∧ ((0 ≤ x ∧ x < 8) ∧ (0 ≤ y ∧ y < 6))) ∨ (r = 1 ∧ (¬ (0 ≤ ixL 1 ray ∧ ((0 ≤ x ∧ x < 8) ∧ (0 ≤ y ∧ y < 6)))))) (fun u t => cB (dC, dI) [] [(out, .inl (kO, 1, .inr (.inl u)))] (va_A [(nn, .inl (kZ, 240, .inl (fun _ => 0))), (ns, .inl (kI, 240, .inl (fun _ => 0))), (out, .inl (kO, 1, .inr (.inl fo)))] sz) (fun _ => True) t) (va_A [(nn, .inl (kZ, 240, .inl (fun _ => 0))), (ns, .inl (kI, 240, .inl (fun _ => 0))), (out, .inl (kO, 1, .inr (.inl fo)))] sz)) (vx_X (fun _ : Unit => True) (fun E _ _ => (E = "none" ∧ False)) (va_A [(nn, .inl (kZ, 240, .inl (fun _ => 0))), (ns, .inl (kI, 240, .inl (fun _ => 0))), (out, .inl (kO, 1, .inr (.inl fo)))] sz)) 1 6 (va_A [(nn, .inl (kZ, 240, .inl (fun _ => 0))), (ns, .inl (kI, 240, .inl (fun _ => 0))), (out, .inl (kO, 1, .inr (.inl fo)))] sz) := by
  refine vx_ofWH (cc := cL_note) (maxL := 6) (ret := (some .int)) (hh := [(0, 12, 15, 13)]) (by decide) rfl ?_
  intro p e s m args below meth c s₁ B hml hv
  obtain ⟨rfl, hsz, hb0, hE, hPP, hK, hDD, hF0⟩ := hv
  have hx := B.exec
  have hb := B.bytes
  have hr := B.returns
  have hts := atoms_spec (ws := wo_c_L_note) B.pre
  have hown : s.vm.findClass RL = some m.cls := findClass_of_methodNamed B.named
  have hlocks := B.notSynchronized
  subst hsz
  have hN0 := en_N hPP hDD rfl
  have hP : va_P (dC, dI) vwCl [(nn, .inl (kZ, 240, .inl (fun _ => 0))), (ns, .inl (kI, 240, .inl (fun _ => 0))), (out, .inl (kO, 1, .inr (.inl fo)))] s.heap := hPP.sub [0, 1, 2] rfl
  have hR0 : va_P (dC, dI) vwCl [(h, .inr (17, [.ref pal, .ref she, .ref fil, .ref nte, .ref dat, .ref vot, .ref loa, .ref nos, .ref pic, .ref spa, .int 5, .int 50, .int 1600, .int 0])), (nte, .inr (10, [.ref nn, .ref ns, .ref ng, .int 0])), (pic, .inr (11, [.ref st, .ref sp, .ref ll, .int 0, .int 1600])), (st, .inl (cS, 48, .inr (.inr (.inr (.inr g)))))] s.heap := hPP.sub [3, 4, 5, 6] rfl
  have hD0 : va_D (fun q => b0 ≤ q) [(nn, .inl (kZ, 240, .inl (fun _ => 0))), (ns, .inl (kI, 240, .inl (fun _ => 0))), (out, .inl (kO, 1, .inr (.inl fo)))] := hDD.sub [0, 1, 2] (by decide) rfl
  have hDr : va_D (fun q => b0 ≤ q) [(h, .inr (17, [.ref pal, .ref she, .ref fil, .ref nte, .ref dat, .ref vot, .ref loa, .ref nos, .ref pic, .ref spa, .int 5, .int 50, .int 1600, .int 0])), (nte, .inr (10, [.ref nn, .ref ns, .ref ng, .int 0])), (pic, .inr (11, [.ref st, .ref sp, .ref ll, .int 0, .int 1600])), (st, .inl (cS, 48, .inr (.inr (.inr (.inr g)))))] := hDD.sub [3, 4, 5, 6] (by decide) rfl
  have hAb := en_A (sz := s.heap.size) hD0 hb0
  have hD := hD0.self (sz := s.heap.size)
  generalize hAe : va_A [(nn, .inl (kZ, 240, .inl (fun _ => 0))), (ns, .inl (kI, 240, .inl (fun _ => 0))), (out, .inl (kO, 1, .inr (.inl fo)))] s.heap.size = A at hD hAb hN0 ⊢
  have hA : ∀ q : Nat, s.heap.size ≤ q → A q := fun q h => by rw [← hAe]; exact Or.inr h
  have hS : va_S A s.heap s.heap [] := va_S.rf
  have hR := hR0
  have hl := lv_entry [.ref h, .int ray, .int x, .int y, .ref out] (n := 6) (Nat.le_of_ble_eq_true rfl)
  rw [lg_entry_eq]
  generalize (lg_sl [.ref h, .int ray, .int x, .int y, .ref out] ++ List.replicate (6 - (lg_sl [.ref h, .int ray, .int x, .int y, .ref out]).length) Slot.unset).toArray = ls at hl ⊢
  have hl : lv_has ls 6 [(0, .ref h), (1, .int ray), (2, .int x), (3, .int y), (4, .ref out)] := hl
  have hTab := vx_table (x := yL_note) B (hts (.codeWith yL_note cL_note 6 (some .int) [(0, 12, 15, 13)]) (by decide +kernel))
  have hR0b := hR0
  have hDrb := hDr
  have hN0b := hN0
  refine lv_aload hx hb dL_note_0 (lv_at hl 4 rfl) ?_
  refine lv_iconst (v := 0) hx hb dL_note_2 (by decide) ?_
  refine lv_aload_n hx hb dL_note_3 rfl (lv_at hl 0 rfl) ?_
  refine lv_iload_n hx hb dL_note_4 rfl (lv_at hl 1 rfl) ?_
  refine lv_iload_n hx hb dL_note_5 rfl (lv_at hl 2 rfl) ?_
  refine lv_iload_n hx hb dL_note_6 rfl (lv_at hl 3 rfl) ?_
  have hPc := (hP.app hR).sub (ws' := [(nn, .inl (kZ, 240, .inl (fun _ => 0))), (ns, .inl (kI, 240, .inl (fun _ => 0)))] ++ [(h, .inr (17, [.ref pal, .ref she, .ref fil, .ref nte, .ref dat, .ref vot, .ref loa, .ref nos, .ref pic, .ref spa, .int 5, .int 50, .int 1600, .int 0])), (nte, .inr (10, [.ref nn, .ref ns, .ref ng, .int 0])), (pic, .inr (11, [.ref st, .ref sp, .ref ll, .int 0, .int 1600])), (st, .inl (cS, 48, .inr (.inr (.inr (.inr g)))))]) [0, 1, 3, 4, 5, 6] rfl
  have hDc := (en_DD hD hDr hN0 hAb).sub (ws' := [(nn, .inl (kZ, 240, .inl (fun _ => 0))), (ns, .inl (kI, 240, .inl (fun _ => 0)))] ++ [(h, .inr (17, [.ref pal, .ref she, .ref fil, .ref nte, .ref dat, .ref vot, .ref loa, .ref nos, .ref pic, .ref spa, .int 5, .int 50, .int 1600, .int 0])), (nte, .inr (10, [.ref nn, .ref ns, .ref ng, .int 0])), (pic, .inr (11, [.ref st, .ref sp, .ref ll, .int 0, .int 1600])), (st, .inl (cS, 48, .inr (.inr (.inr (.inr g)))))]) [0, 1, 3, 4, 5, 6] (by decide) rfl
  have hKc := hK.sub (tys' := [(cS, .object "Underpaint$Stack"), (kZ, .boolean), (kI, .int)]) [0, 1, 2] rfl
  have hFc := va_free (wc := [(nn, .inl (kZ, 240, .inl (fun _ => 0))), (ns, .inl (kI, 240, .inl (fun _ => 0)))]) hD hS hA [0, 1] rfl
  refine vx_calli (vx_runV (As := [.int ray, .int x, .int y]) (rest := [.int 0, .ref out]) ⟨hx, hb, hml, hown, hts⟩ (c_X11_note l hst dC dI b0 en s.heap.size h pal she fil nte dat vot loa nos pic spa st sp ll g cS N nn ns ng kZ kI ray x y (fun a9 h9 => ⟨(hNb a9 h9).1, Nat.lt_of_lt_of_le (hNb a9 h9).2 hS.1⟩) (fun a9 h9 z9 => by have g1 := hNw a9 h9; have g2 := hNr a9 h9; have g3 := (hNb a9 h9).2; simp only [List.map_cons, List.map_nil, List.mem_cons, List.not_mem_nil, or_false, not_or] at g1 g2 z9 <;> omega) (fun a9 h9 z9 => by have g1 := hNw a9 h9; have g2 := hNr a9 h9; have g3 := (hNb a9 h9).2; simp only [List.map_cons, List.map_nil, List.mem_cons, List.not_mem_nil, or_false, not_or] at g1 g2 z9 <;> omega)) (cwV 3 hts go_c_L_note_0 rfl rfl rfl (by decide +kernel) ⟨Nat.le_of_ble_eq_true rfl, Nat.le_of_ble_eq_true rfl⟩) ⟨cP.blind, va_recv hK hR (ci := 17) (q0 := 0) rfl rfl, cP.use (en_z hb0 hS) (hE.on hAb hS) hPc hKc hDc (hF0.on (fun a9 h8 h9 => by rw [← hAe]; exact vA1 h8 (hNw a9 h9)) hS)⟩ rfl rfl hl.1 rfl (lv_room (Nat.le_of_ble_eq_true rfl)) dL_note_7 ⟨Nat.le_of_ble_eq_true rfl, Nat.le_of_ble_eq_true rfl⟩) hS (fun q _ h => hFc q h) hFc (fun q _ h => hFc q h) (fun E ce q9 u t H1 locs ht hvm hpx hBX hz1 hk1 hS hce hcv hcl => ?_) (fun r_1 u t H1 locs ht hvm hw hB hz1 hk1 hS => ?_)
  · skip
    try dsimp only at hBX
    obtain ⟨rfl, hc⟩ := hBX
    have hP1 : va_P (dC, dI) vwCl [] H1 := fun k q h => by simp at h
    have hD1 : va_D (va_A [(nn, .inl (kZ, 240, .inl (fun _ => 0))), (ns, .inl (kI, 240, .inl (fun _ => 0)))] s.heap.size) [] := ⟨fun i j p q h => by simp at h, fun k q h => by simp at h⟩
    obtain ⟨hP, hD⟩ := va_join (wr := [(out, .inl (kO, 1, .inr (.inl fo)))]) (w1 := []) hP hD [0, 1] [2] rfl rfl (by decide) (by decide) hk1 hFc hP1 hD1
    generalize H1 = H at hP hS hce ⊢
    have hP : va_P (dC, dI) vwCl [(out, .inl (kO, 1, .inr (.inl fo)))] H := hP
    have hD : va_D A [(out, .inl (kO, 1, .inr (.inl fo)))] := hD
    have hR := en_R hR0 hN0 hS
    refine vx_catch (own := RL) (name := "java/lang/IllegalArgumentException") (E := "java/lang/IllegalArgumentException") hown [] ⟨0, 12, 15, 13⟩ [] hTab (fun _ h9 => absurd h9 List.not_mem_nil) (by decide) (by decide) (hts (.classLink RL 13 "java/lang/IllegalArgumentException") (by decide +kernel)) (va_Nw.use rfl (hE.cast (by decide))) hce hcv hcl ?_
    refine lv_astore (lv' := [(5, .ref q9), (0, .ref h), (1, .int ray), (2, .int x), (3, .int y), (4, .ref out)]) hx hb dL_note_15 hl (by decide) rfl (fun ls hl => ?_)
    refine lv_iconst (v := 1) hx hb dL_note_17 (by decide) ?_
    refine W.widen (k := 1) (n := 6) (Nat.le_of_ble_eq_true rfl) (Nat.le_of_ble_eq_true rfl) ?_
    refine vx_ret ?_
    exact W.iret (v := 1) hx hb hr (fun t ht hW => ⟨⟨1, fo, rfl, (z_c_L_view_430 ray x y fo hc), cB.mk ht hW (hP.sub [0] rfl) (hK.sub [] rfl) (hD.sub [0] (by decide) rfl) (trivial)⟩, hS.F ht⟩) hS.2.2 dL_note_18
  have hP1 : va_P (dC, dI) vwCl [] H1 := fun k q h => by simp at h
  have hD1 : va_D (va_A [(nn, .inl (kZ, 240, .inl (fun _ => 0))), (ns, .inl (kI, 240, .inl (fun _ => 0)))] s.heap.size) [] := ⟨fun i j p q h => by simp at h, fun k q h => by simp at h⟩
  try dsimp only at hw
  obtain ⟨hP, hD⟩ := va_join (wr := [(out, .inl (kO, 1, .inr (.inl fo)))]) (w1 := []) hP hD [0, 1] [2] rfl rfl (by decide) (by decide) hk1 hFc hP1 hD1
  generalize H1 = H at hP hS ⊢
  have hP : va_P (dC, dI) vwCl [(out, .inl (kO, 1, .inr (.inl fo)))] H := hP
  have hD : va_D A [(out, .inl (kO, 1, .inr (.inl fo)))] := hD
  have hR := en_R hR0 hN0 hS
  refine W.widen (k := 1) (n := 6) (Nat.le_of_ble_eq_true rfl) (Nat.le_of_ble_eq_true rfl) ?_
  have h_2 := hw
  refine lv_i2l hx hb dL_note_10 rfl ?_
  refine lv_topl (fun y_3 ey_3 => ?_)
  refine va_last hx hb hK hP hD hS 0 3 rfl rfl (vp_in_nI (by decide : 0 < 1) (by decide)) dL_note_11 (fun H locs hP hD hS => ?_)
  generalize ef_4 : vp_updL fo (0 : Int32).toNatClampNeg y_3 = f_4 at hP hD
  have hP : va_P (dC, dI) vwCl [(out, .inl (kO, 1, .inr (.inl f_4)))] H := hP
  have hD : va_D A [(out, .inl (kO, 1, .inr (.inl f_4)))] := hD
  have hR := en_R hR0 hN0 hS
  have h_5 : f_4 0 = y_3 := by rw [← ef_4]; exact pk_uLs
  refine lv_goto (tgt := 19) hx hb dL_note_12 (by decide) ?_
  refine lv_iconst (v := 0) hx hb dL_note_19 (by decide) ?_
  refine W.widen (k := 1) (n := 6) (Nat.le_of_ble_eq_true rfl) (Nat.le_of_ble_eq_true rfl) ?_
  refine vx_ret ?_
  exact W.iret (v := 0) hx hb hr (fun t ht hW => ⟨⟨0, f_4, rfl, (z_c_L_view_431 ray x y r_1 y_3 f_4 h_2 ey_3 h_5), cB.mk ht hW (hP.sub [0] rfl) (hK.sub [] rfl) (hD.sub [0] (by decide) rfl) (trivial)⟩, hS.F ht⟩) hS.2.2 dL_note_20
theorem z_c_L_noted_432 (ray : Int32) (x : Int32) (y : Int32) (a_0 : ¬ (0 ≤ ixL 1 ray ∧ ((0 ≤ x ∧ x < 8) ∧ (0 ≤ y ∧ y < 6)))) : ((1 : Int32) = 1 ∧ (¬ (0 ≤ ixL 1 ray ∧ ((0 ≤ x ∧ x < 8) ∧ (0 ≤ y ∧ y < 6))))) ∨ ((1 : Int32) = 2 ∧ (0 ≤ ixL 1 ray ∧ ((0 ≤ x ∧ x < 8) ∧ (0 ≤ y ∧ y < 6)))) := by grind
theorem z_c_L_noted_433 (ray : Int32) (x : Int32) (y : Int32) (a_0 : 0 ≤ ixL 1 ray ∧ ((0 ≤ x ∧ x < 8) ∧ (0 ≤ y ∧ y < 6))) : ((2 : Int32) = 1 ∧ (¬ (0 ≤ ixL 1 ray ∧ ((0 ≤ x ∧ x < 8) ∧ (0 ≤ y ∧ y < 6))))) ∨ ((2 : Int32) = 2 ∧ (0 ≤ ixL 1 ray ∧ ((0 ≤ x ∧ x < 8) ∧ (0 ≤ y ∧ y < 6)))) := by grind
def wo_c_L_noted_w : List Cond := [Cond.codeWith yL_noted cL_noted 6 (some .int) [(0, 12, 15, 13), (0, 12, 19, 37)], Cond.classLink RL 13 "java/lang/IllegalArgumentException", Cond.classLink RL 37 "java/util/NoSuchElementException"]
def wo_c_L_noted : List Cond := .codeWith yL_noted cL_noted 6 (some .int) [(0, 12, 15, 13), (0, 12, 19, 37)] :: (wo_c_L_noted_w ++ (wsV RL 59 RX11 yX11_noted wo_c_X11_noted ++ List.nil))
theorem gw_wo_c_L_noted : wo_c_L_noted.all goodWord = true := gw_c (by decide +kernel) (gw_a (by decide +kernel) (gw_a (gw_a (by decide +kernel) gw_wo_c_X11_noted) rfl))
theorem go_c_L_noted_0 : GoodIn wo_c_L_noted (wsV RL 59 RX11 yX11_noted wo_c_X11_noted) := goodIn_sub (fun _ h => List.mem_cons_of_mem _ (List.mem_append_right _ (List.mem_append_left _ h))) (gw_a (by decide +kernel) gw_wo_c_X11_noted)
set_option maxHeartbeats 4000000 in
set_option maxRecDepth 100000 in
/-- the law: noted -/
theorem c_L_noted (l : Launch) (hst : l.stackTraces = false) (dC : Nat → ClassId) (dI : Nat → Nat → Nat) (b0 : Nat) (en : EnT) (sz : Nat) (h pal she fil nte dat vot loa nos pic spa : Nat) (nn ns ng : Nat) (kZ : ClassId) (ray x y : Int32) (out : Nat) : vx_Met l yL_noted wo_c_L_noted ({ frames := 8, cells := 2, slots := 12, locals := 176 } : Room) (cP b0 en (dC, dI) [(kZ, .boolean)] [] [(h, .inr (17, [.ref pal, .ref she, .ref fil, .ref nte, .ref dat, .ref vot, .ref loa, .ref nos, .ref pic, .ref spa, .int 5, .int 50, .int 1600, .int 0])), (nte, .inr (10, [.ref nn, .ref ns, .ref ng, .int 0])), (nn, .inl (kZ, 240, .inl (fun _ => 0)))] sz (fun _ => True) [.ref h, .int ray, .int x, .int y, .ref out]) (va_Qi (fun (r : Int32) (u : Unit) => (r = 1 ∧ (¬ (0 ≤ ixL 1 ray ∧ ((0 ≤ x ∧ x < 8) ∧ (0 ≤ y ∧ y < 6))))) ∨ (r = 2 ∧ (0 ≤ ixL 1 ray ∧ ((0 ≤ x ∧ x < 8) ∧ (0 ≤ y ∧ y < 6))))) (fun u t => cB (dC, dI) [] [] (va_A [] sz) (fun _ => True) t) (va_A [] sz)) (vx_X (fun _ : Unit => True) (fun E _ _ => (E = "none" ∧ False)) (va_A [] sz)) 2 12 (va_A [] sz) := by
  refine vx_ofWH (cc := cL_noted) (maxL := 6) (ret := (some .int)) (hh := [(0, 12, 15, 13), (0, 12, 19, 37)]) (by decide) rfl ?_
  intro p e s m args below meth c s₁ B hml hv
  obtain ⟨rfl, hsz, hb0, hE, hPP, hK, hDD, hF0⟩ := hv
  have hx := B.exec
  have hb := B.bytes
  have hr := B.returns
  have hts := atoms_spec (ws := wo_c_L_noted) B.pre
  have hown : s.vm.findClass RL = some m.cls := findClass_of_methodNamed B.named
  have hlocks := B.notSynchronized
  subst hsz
  have hN0 := en_N hPP hDD rfl
  have hP : va_P (dC, dI) vwCl [] s.heap := hPP.sub [] rfl
  have hR0 : va_P (dC, dI) vwCl [(h, .inr (17, [.ref pal, .ref she, .ref fil, .ref nte, .ref dat, .ref vot, .ref loa, .ref nos, .ref pic, .ref spa, .int 5, .int 50, .int 1600, .int 0])), (nte, .inr (10, [.ref nn, .ref ns, .ref ng, .int 0])), (nn, .inl (kZ, 240, .inl (fun _ => 0)))] s.heap := hPP.sub [0, 1, 2] rfl
  have hD0 : va_D (fun q => b0 ≤ q) [] := hDD.sub [] (by decide) rfl
  have hDr : va_D (fun q => b0 ≤ q) [(h, .inr (17, [.ref pal, .ref she, .ref fil, .ref nte, .ref dat, .ref vot, .ref loa, .ref nos, .ref pic, .ref spa, .int 5, .int 50, .int 1600, .int 0])), (nte, .inr (10, [.ref nn, .ref ns, .ref ng, .int 0])), (nn, .inl (kZ, 240, .inl (fun _ => 0)))] := hDD.sub [0, 1, 2] (by decide) rfl
  have hAb := en_A (sz := s.heap.size) hD0 hb0
  have hD := hD0.self (sz := s.heap.size)
  generalize hAe : va_A [] s.heap.size = A at hD hAb hN0 ⊢
  have hA : ∀ q : Nat, s.heap.size ≤ q → A q := fun q h => by rw [← hAe]; exact Or.inr h
  have hS : va_S A s.heap s.heap [] := va_S.rf
  have hR := hR0
  have hl := lv_entry [.ref h, .int ray, .int x, .int y, .ref out] (n := 6) (Nat.le_of_ble_eq_true rfl)
  rw [lg_entry_eq]
  generalize (lg_sl [.ref h, .int ray, .int x, .int y, .ref out] ++ List.replicate (6 - (lg_sl [.ref h, .int ray, .int x, .int y, .ref out]).length) Slot.unset).toArray = ls at hl ⊢
  have hl : lv_has ls 6 [(0, .ref h), (1, .int ray), (2, .int x), (3, .int y), (4, .ref out)] := hl
  have hTab := vx_table (x := yL_noted) B (hts (.codeWith yL_noted cL_noted 6 (some .int) [(0, 12, 15, 13), (0, 12, 19, 37)]) (by decide +kernel))
  refine lv_aload hx hb dL_noted_0 (lv_at hl 4 rfl) ?_
  refine lv_iconst (v := 0) hx hb dL_noted_2 (by decide) ?_
  refine lv_aload_n hx hb dL_noted_3 rfl (lv_at hl 0 rfl) ?_
  refine lv_iload_n hx hb dL_noted_4 rfl (lv_at hl 1 rfl) ?_
  refine lv_iload_n hx hb dL_noted_5 rfl (lv_at hl 2 rfl) ?_
  refine lv_iload_n hx hb dL_noted_6 rfl (lv_at hl 3 rfl) ?_
  have hPc := (hP.app hR).sub (ws' := [] ++ [(h, .inr (17, [.ref pal, .ref she, .ref fil, .ref nte, .ref dat, .ref vot, .ref loa, .ref nos, .ref pic, .ref spa, .int 5, .int 50, .int 1600, .int 0])), (nte, .inr (10, [.ref nn, .ref ns, .ref ng, .int 0])), (nn, .inl (kZ, 240, .inl (fun _ => 0)))]) [0, 1, 2] rfl
  have hDc := (en_DD hD hDr hN0 hAb).sub (ws' := [] ++ [(h, .inr (17, [.ref pal, .ref she, .ref fil, .ref nte, .ref dat, .ref vot, .ref loa, .ref nos, .ref pic, .ref spa, .int 5, .int 50, .int 1600, .int 0])), (nte, .inr (10, [.ref nn, .ref ns, .ref ng, .int 0])), (nn, .inl (kZ, 240, .inl (fun _ => 0)))]) [0, 1, 2] (by decide) rfl
  have hKc := hK.sub (tys' := [(kZ, .boolean)]) [0] rfl
  have hFc := va_free (wc := []) hD hS hA [] rfl
  refine vx_calli (vx_runV (As := [.int ray, .int x, .int y]) (rest := [.int 0, .ref out]) ⟨hx, hb, hml, hown, hts⟩ (c_X11_noted l hst dC dI b0 en s.heap.size h pal she fil nte dat vot loa nos pic spa nn ns ng kZ ray x y) (cwV 3 hts go_c_L_noted_0 rfl rfl rfl (by decide +kernel) ⟨Nat.le_of_ble_eq_true rfl, Nat.le_of_ble_eq_true rfl⟩) ⟨cP.blind, va_recv hK hR (ci := 17) (q0 := 0) rfl rfl, cP.use (en_z hb0 hS) (hE.on hAb hS) hPc hKc hDc trivial⟩ rfl rfl hl.1 rfl (lv_room (Nat.le_of_ble_eq_true rfl)) dL_noted_7 ⟨Nat.le_of_ble_eq_true rfl, Nat.le_of_ble_eq_true rfl⟩) hS (fun q _ h => hFc q h) hFc (fun q _ h => hFc q h) (fun E ce q9 u t H1 locs ht hvm hpx hBX hz1 hk1 hS hce hcv hcl => ?_) (fun r_1 u t H1 locs ht hvm hw hB hz1 hk1 hS => ?_)
  · skip
    try dsimp only at hBX
    rcases hBX with ⟨rfl, hc⟩ | ⟨rfl, hc⟩
    · skip
      have hP1 : va_P (dC, dI) vwCl [] H1 := fun k q h => by simp at h
      have hD1 : va_D (va_A [] s.heap.size) [] := ⟨fun i j p q h => by simp at h, fun k q h => by simp at h⟩
      obtain ⟨hP, hD⟩ := va_join (wr := []) (w1 := []) hP hD [] [] rfl rfl (by decide) (by decide) hk1 hFc hP1 hD1
      generalize H1 = H at hP hS hce ⊢
      have hP : va_P (dC, dI) vwCl [] H := hP
      have hD : va_D A [] := hD
      have hR := en_R hR0 hN0 hS
      refine vx_catch (own := RL) (name := "java/lang/IllegalArgumentException") (E := "java/lang/IllegalArgumentException") hown [] ⟨0, 12, 15, 13⟩ [⟨0, 12, 19, 37⟩] hTab (fun _ h9 => absurd h9 List.not_mem_nil) (by decide) (by decide) (hts (.classLink RL 13 "java/lang/IllegalArgumentException") (by decide +kernel)) (va_Nw.use rfl (hE.cast (by decide))) hce hcv hcl ?_
      refine lv_astore (lv' := [(5, .ref q9), (0, .ref h), (1, .int ray), (2, .int x), (3, .int y), (4, .ref out)]) hx hb dL_noted_15 hl (by decide) rfl (fun ls hl => ?_)
      refine lv_iconst (v := 1) hx hb dL_noted_17 (by decide) ?_
      refine W.widen (k := 2) (n := 12) (Nat.le_of_ble_eq_true rfl) (Nat.le_of_ble_eq_true rfl) ?_
      refine vx_ret ?_
      exact W.iret (v := 1) hx hb hr (fun t ht hW => ⟨⟨1, (), rfl, (z_c_L_noted_432 ray x y hc), cB.mk ht hW (hP.sub [] rfl) (hK.sub [] rfl) (hD.sub [] (by decide) rfl) (trivial)⟩, hS.F ht⟩) hS.2.2 dL_noted_18
    · skip
      have hP1 : va_P (dC, dI) vwCl [] H1 := fun k q h => by simp at h
      have hD1 : va_D (va_A [] s.heap.size) [] := ⟨fun i j p q h => by simp at h, fun k q h => by simp at h⟩
      obtain ⟨hP, hD⟩ := va_join (wr := []) (w1 := []) hP hD [] [] rfl rfl (by decide) (by decide) hk1 hFc hP1 hD1
      generalize H1 = H at hP hS hce ⊢
      have hP : va_P (dC, dI) vwCl [] H := hP
      have hD : va_D A [] := hD
      have hR := en_R hR0 hN0 hS
      refine vx_catch (own := RL) (name := "java/util/NoSuchElementException") (E := "java/util/NoSuchElementException") hown [⟨0, 12, 15, 13⟩] ⟨0, 12, 19, 37⟩ [] hTab (List.forall_mem_cons.mpr ⟨Or.inr ⟨by decide, "java/lang/IllegalArgumentException", hts (.classLink RL 13 "java/lang/IllegalArgumentException") (by decide +kernel), hE.nocast (by decide) (by decide) (by decide)⟩, (fun _ h9 => absurd h9 List.not_mem_nil)⟩) (by decide) (by decide) (hts (.classLink RL 37 "java/util/NoSuchElementException") (by decide +kernel)) (va_Nw.use rfl (hE.cast (by decide))) hce hcv hcl ?_
      refine lv_astore (lv' := [(5, .ref q9), (0, .ref h), (1, .int ray), (2, .int x), (3, .int y), (4, .ref out)]) hx hb dL_noted_19 hl (by decide) rfl (fun ls hl => ?_)
      refine lv_iconst (v := 2) hx hb dL_noted_21 (by decide) ?_
      refine W.widen (k := 2) (n := 12) (Nat.le_of_ble_eq_true rfl) (Nat.le_of_ble_eq_true rfl) ?_
      refine vx_ret ?_
      exact W.iret (v := 2) hx hb hr (fun t ht hW => ⟨⟨2, (), rfl, (z_c_L_noted_433 ray x y hc), cB.mk ht hW (hP.sub [] rfl) (hK.sub [] rfl) (hD.sub [] (by decide) rfl) (trivial)⟩, hS.F ht⟩) hS.2.2 dL_noted_22
  exact (show False from hw).elim
theorem z_c_L_guesses_434 (x : Int32) (y : Int32) (fo : Nat → Int64) (a_0 : ¬ ((0 ≤ x ∧ x < 8) ∧ (0 ≤ y ∧ y < 6))) : ((1 : Int32) = 0 ∧ fo 0 = (0 : Int32).toInt64 ∧ (0 ≤ x ∧ x < 8) ∧ (0 ≤ y ∧ y < 6)) ∨ ((1 : Int32) = 1 ∧ (¬ ((0 ≤ x ∧ x < 8) ∧ (0 ≤ y ∧ y < 6)))) := by grind
theorem z_c_L_guesses_435 (x : Int32) (y : Int32) (y_3 : Int64) (f_4 : Nat → Int64) (a_0 : (0 ≤ x ∧ x < 8) ∧ (0 ≤ y ∧ y < 6)) (a_1 : y_3 = (0 : Int32).toInt64) (a_2 : f_4 0 = y_3) : ((0 : Int32) = 0 ∧ f_4 0 = (0 : Int32).toInt64 ∧ (0 ≤ x ∧ x < 8) ∧ (0 ≤ y ∧ y < 6)) ∨ ((0 : Int32) = 1 ∧ (¬ ((0 ≤ x ∧ x < 8) ∧ (0 ≤ y ∧ y < 6)))) := by grind
def wo_c_L_guesses_w : List Cond := [Cond.codeWith yL_guesses cL_guesses 5 (some .int) [(0, 10, 13, 13)], Cond.classLink RL 13 "java/lang/IllegalArgumentException"]
def wo_c_L_guesses : List Cond := .codeWith yL_guesses cL_guesses 5 (some .int) [(0, 10, 13, 13)] :: (wo_c_L_guesses_w ++ (wsV RL 62 RX11 yX11_guesses wo_c_X11_guesses ++ List.nil))
theorem gw_wo_c_L_guesses : wo_c_L_guesses.all goodWord = true := gw_c (by decide +kernel) (gw_a (by decide +kernel) (gw_a (gw_a (by decide +kernel) gw_wo_c_X11_guesses) rfl))
theorem go_c_L_guesses_0 : GoodIn wo_c_L_guesses (wsV RL 62 RX11 yX11_guesses wo_c_X11_guesses) := goodIn_sub (fun _ h => List.mem_cons_of_mem _ (List.mem_append_right _ (List.mem_append_left _ h))) (gw_a (by decide +kernel) gw_wo_c_X11_guesses)
set_option maxHeartbeats 4000000 in
set_option maxRecDepth 100000 in
/-- the law: guesses -/
theorem c_L_guesses (l : Launch) (hst : l.stackTraces = false) (dC : Nat → ClassId) (dI : Nat → Nat → Nat) (b0 : Nat) (en : EnT) (sz : Nat) (h pal she fil nte dat vot loa nos pic spa : Nat) (nn ns ng : Nat) (x y : Int32) (out : Nat) (kO : ClassId) (fo : Nat → Int64) : vx_Met l yL_guesses wo_c_L_guesses ({ frames := 8, cells := 1, slots := 6, locals := 133 } : Room) (cP b0 en (dC, dI) [(kO, .long)] [(nte, .inr (10, [.ref nn, .ref ns, .ref ng, .int 0])), (out, .inl (kO, 1, .inr (.inl fo)))] [(h, .inr (17, [.ref pal, .ref she, .ref fil, .ref nte, .ref dat, .ref vot, .ref loa, .ref nos, .ref pic, .ref spa, .int 5, .int 50, .int 1600, .int 0])), (pal, .inr (5, [.int 0, .ref en.2.2.1, .int 0]))] sz (fun _ => True) [.ref h, .int x, .int y, .ref out]) (va_Qi (fun (r : Int32) (u : Nat → Int64) => (r = 0 ∧ u 0 = (0 : Int32).toInt64 ∧ (0 ≤ x ∧ x < 8) ∧ (0 ≤ y ∧ y < 6)) ∨ (r = 1 ∧ (¬ ((0 ≤ x ∧ x < 8) ∧ (0 ≤ y ∧ y < 6))))) (fun u t => cB (dC, dI) [] [(out, .inl (kO, 1, .inr (.inl u)))] (va_A [(nte, .inr (10, [.ref nn, .ref ns, .ref ng, .int 0])), (out, .inl (kO, 1, .inr (.inl fo)))] sz) (fun _ => True) t) (va_A [(nte, .inr (10, [.ref nn, .ref ns, .ref ng, .int 0])), (out, .inl (kO, 1, .inr (.inl fo)))] sz)) (vx_X (fun _ : Unit => True) (fun E _ _ => (E = "none" ∧ False)) (va_A [(nte, .inr (10, [.ref nn, .ref ns, .ref ng, .int 0])), (out, .inl (kO, 1, .inr (.inl fo)))] sz)) 1 6 (va_A [(nte, .inr (10, [.ref nn, .ref ns, .ref ng, .int 0])), (out, .inl (kO, 1, .inr (.inl fo)))] sz) := by
  refine vx_ofWH (cc := cL_guesses) (maxL := 5) (ret := (some .int)) (hh := [(0, 10, 13, 13)]) (by decide) rfl ?_
  intro p e s m args below meth c s₁ B hml hv
  obtain ⟨rfl, hsz, hb0, hE, hPP, hK, hDD, hF0⟩ := hv
  have hx := B.exec
  have hb := B.bytes
  have hr := B.returns
  have hts := atoms_spec (ws := wo_c_L_guesses) B.pre
  have hown : s.vm.findClass RL = some m.cls := findClass_of_methodNamed B.named
  have hlocks := B.notSynchronized
  subst hsz
  have hN0 := en_N hPP hDD rfl
  have hP : va_P (dC, dI) vwCl [(nte, .inr (10, [.ref nn, .ref ns, .ref ng, .int 0])), (out, .inl (kO, 1, .inr (.inl fo)))] s.heap := hPP.sub [0, 1] rfl
  have hR0 : va_P (dC, dI) vwCl [(h, .inr (17, [.ref pal, .ref she, .ref fil, .ref nte, .ref dat, .ref vot, .ref loa, .ref nos, .ref pic, .ref spa, .int 5, .int 50, .int 1600, .int 0])), (pal, .inr (5, [.int 0, .ref en.2.2.1, .int 0]))] s.heap := hPP.sub [2, 3] rfl
  have hD0 : va_D (fun q => b0 ≤ q) [(nte, .inr (10, [.ref nn, .ref ns, .ref ng, .int 0])), (out, .inl (kO, 1, .inr (.inl fo)))] := hDD.sub [0, 1] (by decide) rfl
  have hDr : va_D (fun q => b0 ≤ q) [(h, .inr (17, [.ref pal, .ref she, .ref fil, .ref nte, .ref dat, .ref vot, .ref loa, .ref nos, .ref pic, .ref spa, .int 5, .int 50, .int 1600, .int 0])), (pal, .inr (5, [.int 0, .ref en.2.2.1, .int 0]))] := hDD.sub [2, 3] (by decide) rfl
  have hAb := en_A (sz := s.heap.size) hD0 hb0
  have hD := hD0.self (sz := s.heap.size)
  generalize hAe : va_A [(nte, .inr (10, [.ref nn, .ref ns, .ref ng, .int 0])), (out, .inl (kO, 1, .inr (.inl fo)))] s.heap.size = A at hD hAb hN0 ⊢
  have hA : ∀ q : Nat, s.heap.size ≤ q → A q := fun q h => by rw [← hAe]; exact Or.inr h
  have hS : va_S A s.heap s.heap [] := va_S.rf
  have hR := hR0
  have hl := lv_entry [.ref h, .int x, .int y, .ref out] (n := 5) (Nat.le_of_ble_eq_true rfl)
  rw [lg_entry_eq]
  generalize (lg_sl [.ref h, .int x, .int y, .ref out] ++ List.replicate (5 - (lg_sl [.ref h, .int x, .int y, .ref out]).length) Slot.unset).toArray = ls at hl ⊢
  have hl : lv_has ls 5 [(0, .ref h), (1, .int x), (2, .int y), (3, .ref out)] := hl
  have hTab := vx_table (x := yL_guesses) B (hts (.codeWith yL_guesses cL_guesses 5 (some .int) [(0, 10, 13, 13)]) (by decide +kernel))
  refine lv_aload_n hx hb dL_guesses_0 rfl (lv_at hl 3 rfl) ?_
  refine lv_iconst (v := 0) hx hb dL_guesses_1 (by decide) ?_
  refine lv_aload_n hx hb dL_guesses_2 rfl (lv_at hl 0 rfl) ?_
  refine lv_iload_n hx hb dL_guesses_3 rfl (lv_at hl 1 rfl) ?_
  refine lv_iload_n hx hb dL_guesses_4 rfl (lv_at hl 2 rfl) ?_
  have hPc := (hP.app hR).sub (ws' := [(nte, .inr (10, [.ref nn, .ref ns, .ref ng, .int 0]))] ++ [(h, .inr (17, [.ref pal, .ref she, .ref fil, .ref nte, .ref dat, .ref vot, .ref loa, .ref nos, .ref pic, .ref spa, .int 5, .int 50, .int 1600, .int 0])), (pal, .inr (5, [.int 0, .ref en.2.2.1, .int 0]))]) [0, 2, 3] rfl
  have hDc := (en_DD hD hDr hN0 hAb).sub (ws' := [(nte, .inr (10, [.ref nn, .ref ns, .ref ng, .int 0]))] ++ [(h, .inr (17, [.ref pal, .ref she, .ref fil, .ref nte, .ref dat, .ref vot, .ref loa, .ref nos, .ref pic, .ref spa, .int 5, .int 50, .int 1600, .int 0])), (pal, .inr (5, [.int 0, .ref en.2.2.1, .int 0]))]) [0, 2, 3] (by decide) rfl
  have hKc := hK.sub (tys' := []) [] rfl
  have hFc := va_free (wc := [(nte, .inr (10, [.ref nn, .ref ns, .ref ng, .int 0]))]) hD hS hA [0] rfl
  refine vx_calli (vx_runV (As := [.int x, .int y]) (rest := [.int 0, .ref out]) ⟨hx, hb, hml, hown, hts⟩ (c_X11_guesses l hst dC dI b0 en s.heap.size h pal she fil nte dat vot loa nos pic spa nn ns ng x y) (cwV 2 hts go_c_L_guesses_0 rfl rfl rfl (by decide +kernel) ⟨Nat.le_of_ble_eq_true rfl, Nat.le_of_ble_eq_true rfl⟩) ⟨cP.blind, va_recv hK hR (ci := 17) (q0 := 0) rfl rfl, cP.use (en_z hb0 hS) (hE.on hAb hS) hPc hKc hDc trivial⟩ rfl rfl hl.1 rfl (lv_room (Nat.le_of_ble_eq_true rfl)) dL_guesses_5 ⟨Nat.le_of_ble_eq_true rfl, Nat.le_of_ble_eq_true rfl⟩) hS (fun q _ h => hFc q h) hFc (fun q _ h => hFc q h) (fun E ce q9 u t H1 locs ht hvm hpx hBX hz1 hk1 hS hce hcv hcl => ?_) (fun r_1 u t H1 locs ht hvm hw hB hz1 hk1 hS => ?_)
  · skip
    try dsimp only at hBX
    obtain ⟨rfl, hc⟩ := hBX
    have hP1 : va_P (dC, dI) vwCl [] H1 := fun k q h => by simp at h
    have hD1 : va_D (va_A [(nte, .inr (10, [.ref nn, .ref ns, .ref ng, .int 0]))] s.heap.size) [] := ⟨fun i j p q h => by simp at h, fun k q h => by simp at h⟩
    obtain ⟨hP, hD⟩ := va_join (wr := [(out, .inl (kO, 1, .inr (.inl fo)))]) (w1 := []) hP hD [0] [1] rfl rfl (by decide) (by decide) hk1 hFc hP1 hD1
    generalize H1 = H at hP hS hce ⊢
    have hP : va_P (dC, dI) vwCl [(out, .inl (kO, 1, .inr (.inl fo)))] H := hP
    have hD : va_D A [(out, .inl (kO, 1, .inr (.inl fo)))] := hD
    have hR := en_R hR0 hN0 hS
    refine vx_catch (own := RL) (name := "java/lang/IllegalArgumentException") (E := "java/lang/IllegalArgumentException") hown [] ⟨0, 10, 13, 13⟩ [] hTab (fun _ h9 => absurd h9 List.not_mem_nil) (by decide) (by decide) (hts (.classLink RL 13 "java/lang/IllegalArgumentException") (by decide +kernel)) (va_Nw.use rfl (hE.cast (by decide))) hce hcv hcl ?_
    refine lv_astore (lv' := [(4, .ref q9), (0, .ref h), (1, .int x), (2, .int y), (3, .ref out)]) hx hb dL_guesses_13 hl (by decide) rfl (fun ls hl => ?_)
    refine lv_iconst (v := 1) hx hb dL_guesses_15 (by decide) ?_
    refine W.widen (k := 1) (n := 6) (Nat.le_of_ble_eq_true rfl) (Nat.le_of_ble_eq_true rfl) ?_
    refine vx_ret ?_
    exact W.iret (v := 1) hx hb hr (fun t ht hW => ⟨⟨1, fo, rfl, (z_c_L_guesses_434 x y fo hc), cB.mk ht hW (hP.sub [0] rfl) (hK.sub [] rfl) (hD.sub [0] (by decide) rfl) (trivial)⟩, hS.F ht⟩) hS.2.2 dL_guesses_16
  have hP1 : va_P (dC, dI) vwCl [] H1 := fun k q h => by simp at h
  have hD1 : va_D (va_A [(nte, .inr (10, [.ref nn, .ref ns, .ref ng, .int 0]))] s.heap.size) [] := ⟨fun i j p q h => by simp at h, fun k q h => by simp at h⟩
  try dsimp only at hw
  obtain ⟨hP, hD⟩ := va_join (wr := [(out, .inl (kO, 1, .inr (.inl fo)))]) (w1 := []) hP hD [0] [1] rfl rfl (by decide) (by decide) hk1 hFc hP1 hD1
  generalize H1 = H at hP hS ⊢
  have hP : va_P (dC, dI) vwCl [(out, .inl (kO, 1, .inr (.inl fo)))] H := hP
  have hD : va_D A [(out, .inl (kO, 1, .inr (.inl fo)))] := hD
  have hR := en_R hR0 hN0 hS
  refine W.widen (k := 1) (n := 6) (Nat.le_of_ble_eq_true rfl) (Nat.le_of_ble_eq_true rfl) ?_
  obtain ⟨hw, h_2⟩ := hw
  subst r_1
  refine lv_i2l hx hb dL_guesses_8 rfl ?_
  refine lv_topl (fun y_3 ey_3 => ?_)
  refine va_last hx hb hK hP hD hS 0 0 rfl rfl (vp_in_nI (by decide : 0 < 1) (by decide)) dL_guesses_9 (fun H locs hP hD hS => ?_)
  generalize ef_4 : vp_updL fo (0 : Int32).toNatClampNeg y_3 = f_4 at hP hD
  have hP : va_P (dC, dI) vwCl [(out, .inl (kO, 1, .inr (.inl f_4)))] H := hP
  have hD : va_D A [(out, .inl (kO, 1, .inr (.inl f_4)))] := hD
  have hR := en_R hR0 hN0 hS
  have h_5 : f_4 0 = y_3 := by rw [← ef_4]; exact pk_uLs
  refine lv_goto (tgt := 17) hx hb dL_guesses_10 (by decide) ?_
  refine lv_iconst (v := 0) hx hb dL_guesses_17 (by decide) ?_
  refine W.widen (k := 1) (n := 6) (Nat.le_of_ble_eq_true rfl) (Nat.le_of_ble_eq_true rfl) ?_
  refine vx_ret ?_
  exact W.iret (v := 0) hx hb hr (fun t ht hW => ⟨⟨0, f_4, rfl, (z_c_L_guesses_435 x y y_3 f_4 h_2 ey_3 h_5), cB.mk ht hW (hP.sub [0] rfl) (hK.sub [] rfl) (hD.sub [0] (by decide) rfl) (trivial)⟩, hS.F ht⟩) hS.2.2 dL_guesses_18
theorem z_c_L_guessAt_436 (x : Int32) (y : Int32) (a_0 : ¬ ((0 ≤ x ∧ x < 8) ∧ (0 ≤ y ∧ y < 6))) : ((1 : Int32) = 1 ∧ (¬ ((0 ≤ x ∧ x < 8) ∧ (0 ≤ y ∧ y < 6)))) ∨ ((1 : Int32) = 2 ∧ ((0 ≤ x ∧ x < 8) ∧ (0 ≤ y ∧ y < 6))) := by grind
theorem z_c_L_guessAt_437 (x : Int32) (y : Int32) (a_0 : (0 ≤ x ∧ x < 8) ∧ (0 ≤ y ∧ y < 6)) : ((2 : Int32) = 1 ∧ (¬ ((0 ≤ x ∧ x < 8) ∧ (0 ≤ y ∧ y < 6)))) ∨ ((2 : Int32) = 2 ∧ ((0 ≤ x ∧ x < 8) ∧ (0 ≤ y ∧ y < 6))) := by grind
def wo_c_L_guessAt_w : List Cond := [Cond.codeWith yL_guessAt cL_guessAt 7 (some .int) [(0, 14, 17, 13), (0, 14, 21, 37)], Cond.classLink RL 13 "java/lang/IllegalArgumentException", Cond.classLink RL 37 "java/util/NoSuchElementException"]
def wo_c_L_guessAt : List Cond := .codeWith yL_guessAt cL_guessAt 7 (some .int) [(0, 14, 17, 13), (0, 14, 21, 37)] :: (wo_c_L_guessAt_w ++ (wsV RL 65 RX11 yX11_guessAt wo_c_X11_guessAt ++ List.nil))
theorem gw_wo_c_L_guessAt : wo_c_L_guessAt.all goodWord = true := gw_c (by decide +kernel) (gw_a (by decide +kernel) (gw_a (gw_a (by decide +kernel) gw_wo_c_X11_guessAt) rfl))
theorem go_c_L_guessAt_0 : GoodIn wo_c_L_guessAt (wsV RL 65 RX11 yX11_guessAt wo_c_X11_guessAt) := goodIn_sub (fun _ h => List.mem_cons_of_mem _ (List.mem_append_right _ (List.mem_append_left _ h))) (gw_a (by decide +kernel) gw_wo_c_X11_guessAt)
set_option maxHeartbeats 4000000 in
set_option maxRecDepth 100000 in
/-- the law: guessAt -/
theorem c_L_guessAt (l : Launch) (hst : l.stackTraces = false) (dC : Nat → ClassId) (dI : Nat → Nat → Nat) (b0 : Nat) (en : EnT) (sz : Nat) (h pal she fil nte dat vot loa nos pic spa : Nat) (nn ns ng : Nat) (x y n k : Int32) (out : Nat) : vx_Met l yL_guessAt wo_c_L_guessAt ({ frames := 8, cells := 3, slots := 18, locals := 136 } : Room) (cP b0 en (dC, dI) [] [(nte, .inr (10, [.ref nn, .ref ns, .ref ng, .int 0]))] [(h, .inr (17, [.ref pal, .ref she, .ref fil, .ref nte, .ref dat, .ref vot, .ref loa, .ref nos, .ref pic, .ref spa, .int 5, .int 50, .int 1600, .int 0])), (pal, .inr (5, [.int 0, .ref en.2.2.1, .int 0]))] sz (fun _ => True) [.ref h, .int x, .int y, .int n, .int k, .ref out]) (va_Qi (fun (r : Int32) (u : Unit) => (r = 1 ∧ (¬ ((0 ≤ x ∧ x < 8) ∧ (0 ≤ y ∧ y < 6)))) ∨ (r = 2 ∧ ((0 ≤ x ∧ x < 8) ∧ (0 ≤ y ∧ y < 6)))) (fun u t => cB (dC, dI) [] [] (va_A [(nte, .inr (10, [.ref nn, .ref ns, .ref ng, .int 0]))] sz) (fun _ => True) t) (va_A [(nte, .inr (10, [.ref nn, .ref ns, .ref ng, .int 0]))] sz)) (vx_X (fun _ : Unit => True) (fun E _ _ => (E = "none" ∧ False)) (va_A [(nte, .inr (10, [.ref nn, .ref ns, .ref ng, .int 0]))] sz)) 3 18 (va_A [(nte, .inr (10, [.ref nn, .ref ns, .ref ng, .int 0]))] sz) := by
  refine vx_ofWH (cc := cL_guessAt) (maxL := 7) (ret := (some .int)) (hh := [(0, 14, 17, 13), (0, 14, 21, 37)]) (by decide) rfl ?_
  intro p e s m args below meth c s₁ B hml hv
  obtain ⟨rfl, hsz, hb0, hE, hPP, hK, hDD, hF0⟩ := hv
  have hx := B.exec
  have hb := B.bytes
  have hr := B.returns
  have hts := atoms_spec (ws := wo_c_L_guessAt) B.pre
  have hown : s.vm.findClass RL = some m.cls := findClass_of_methodNamed B.named
  have hlocks := B.notSynchronized
  subst hsz
  have hN0 := en_N hPP hDD rfl
  have hP : va_P (dC, dI) vwCl [(nte, .inr (10, [.ref nn, .ref ns, .ref ng, .int 0]))] s.heap := hPP.sub [0] rfl
  have hR0 : va_P (dC, dI) vwCl [(h, .inr (17, [.ref pal, .ref she, .ref fil, .ref nte, .ref dat, .ref vot, .ref loa, .ref nos, .ref pic, .ref spa, .int 5, .int 50, .int 1600, .int 0])), (pal, .inr (5, [.int 0, .ref en.2.2.1, .int 0]))] s.heap := hPP.sub [1, 2] rfl
  have hD0 : va_D (fun q => b0 ≤ q) [(nte, .inr (10, [.ref nn, .ref ns, .ref ng, .int 0]))] := hDD.sub [0] (by decide) rfl
  have hDr : va_D (fun q => b0 ≤ q) [(h, .inr (17, [.ref pal, .ref she, .ref fil, .ref nte, .ref dat, .ref vot, .ref loa, .ref nos, .ref pic, .ref spa, .int 5, .int 50, .int 1600, .int 0])), (pal, .inr (5, [.int 0, .ref en.2.2.1, .int 0]))] := hDD.sub [1, 2] (by decide) rfl
  have hAb := en_A (sz := s.heap.size) hD0 hb0
  have hD := hD0.self (sz := s.heap.size)
  generalize hAe : va_A [(nte, .inr (10, [.ref nn, .ref ns, .ref ng, .int 0]))] s.heap.size = A at hD hAb hN0 ⊢
  have hA : ∀ q : Nat, s.heap.size ≤ q → A q := fun q h => by rw [← hAe]; exact Or.inr h
  have hS : va_S A s.heap s.heap [] := va_S.rf
  have hR := hR0
  have hl := lv_entry [.ref h, .int x, .int y, .int n, .int k, .ref out] (n := 7) (Nat.le_of_ble_eq_true rfl)
  rw [lg_entry_eq]
  generalize (lg_sl [.ref h, .int x, .int y, .int n, .int k, .ref out] ++ List.replicate (7 - (lg_sl [.ref h, .int x, .int y, .int n, .int k, .ref out]).length) Slot.unset).toArray = ls at hl ⊢
  have hl : lv_has ls 7 [(0, .ref h), (1, .int x), (2, .int y), (3, .int n), (4, .int k), (5, .ref out)] := hl
  have hTab := vx_table (x := yL_guessAt) B (hts (.codeWith yL_guessAt cL_guessAt 7 (some .int) [(0, 14, 17, 13), (0, 14, 21, 37)]) (by decide +kernel))
  refine lv_aload hx hb dL_guessAt_0 (lv_at hl 5 rfl) ?_
  refine lv_iconst (v := 0) hx hb dL_guessAt_2 (by decide) ?_
  refine lv_aload_n hx hb dL_guessAt_3 rfl (lv_at hl 0 rfl) ?_
  refine lv_iload_n hx hb dL_guessAt_4 rfl (lv_at hl 1 rfl) ?_
  refine lv_iload_n hx hb dL_guessAt_5 rfl (lv_at hl 2 rfl) ?_
  refine lv_iload_n hx hb dL_guessAt_6 rfl (lv_at hl 3 rfl) ?_
  refine lv_iload hx hb dL_guessAt_7 (lv_at hl 4 rfl) ?_
  have hPc := (hP.app hR).sub (ws' := [(nte, .inr (10, [.ref nn, .ref ns, .ref ng, .int 0]))] ++ [(h, .inr (17, [.ref pal, .ref she, .ref fil, .ref nte, .ref dat, .ref vot, .ref loa, .ref nos, .ref pic, .ref spa, .int 5, .int 50, .int 1600, .int 0])), (pal, .inr (5, [.int 0, .ref en.2.2.1, .int 0]))]) [0, 1, 2] rfl
  have hDc := (en_DD hD hDr hN0 hAb).sub (ws' := [(nte, .inr (10, [.ref nn, .ref ns, .ref ng, .int 0]))] ++ [(h, .inr (17, [.ref pal, .ref she, .ref fil, .ref nte, .ref dat, .ref vot, .ref loa, .ref nos, .ref pic, .ref spa, .int 5, .int 50, .int 1600, .int 0])), (pal, .inr (5, [.int 0, .ref en.2.2.1, .int 0]))]) [0, 1, 2] (by decide) rfl
  have hKc := hK.sub (tys' := []) [] rfl
  have hFc := va_free (wc := [(nte, .inr (10, [.ref nn, .ref ns, .ref ng, .int 0]))]) hD hS hA [0] rfl
  refine vx_calli (vx_runV (As := [.int x, .int y, .int n, .int k]) (rest := [.int 0, .ref out]) ⟨hx, hb, hml, hown, hts⟩ (c_X11_guessAt l hst dC dI b0 en s.heap.size h pal she fil nte dat vot loa nos pic spa nn ns ng x y n k) (cwV 4 hts go_c_L_guessAt_0 rfl rfl rfl (by decide +kernel) ⟨Nat.le_of_ble_eq_true rfl, Nat.le_of_ble_eq_true rfl⟩) ⟨cP.blind, va_recv hK hR (ci := 17) (q0 := 0) rfl rfl, cP.use (en_z hb0 hS) (hE.on hAb hS) hPc hKc hDc trivial⟩ rfl rfl hl.1 rfl (lv_room (Nat.le_of_ble_eq_true rfl)) dL_guessAt_9 ⟨Nat.le_of_ble_eq_true rfl, Nat.le_of_ble_eq_true rfl⟩) hS (fun q _ h => hFc q h) hFc (fun q _ h => hFc q h) (fun E ce q9 u t H1 locs ht hvm hpx hBX hz1 hk1 hS hce hcv hcl => ?_) (fun r_1 u t H1 locs ht hvm hw hB hz1 hk1 hS => ?_)
  · skip
    try dsimp only at hBX
    rcases hBX with ⟨rfl, hc⟩ | ⟨rfl, hc⟩
    · skip
      have hP1 : va_P (dC, dI) vwCl [] H1 := fun k q h => by simp at h
      have hD1 : va_D (va_A [(nte, .inr (10, [.ref nn, .ref ns, .ref ng, .int 0]))] s.heap.size) [] := ⟨fun i j p q h => by simp at h, fun k q h => by simp at h⟩
      obtain ⟨hP, hD⟩ := va_join (wr := []) (w1 := []) hP hD [0] [] rfl rfl (by decide) (by decide) hk1 hFc hP1 hD1
      generalize H1 = H at hP hS hce ⊢
      have hP : va_P (dC, dI) vwCl [] H := hP
      have hD : va_D A [] := hD
      have hR := en_R hR0 hN0 hS
      refine vx_catch (own := RL) (name := "java/lang/IllegalArgumentException") (E := "java/lang/IllegalArgumentException") hown [] ⟨0, 14, 17, 13⟩ [⟨0, 14, 21, 37⟩] hTab (fun _ h9 => absurd h9 List.not_mem_nil) (by decide) (by decide) (hts (.classLink RL 13 "java/lang/IllegalArgumentException") (by decide +kernel)) (va_Nw.use rfl (hE.cast (by decide))) hce hcv hcl ?_
      refine lv_astore (lv' := [(6, .ref q9), (0, .ref h), (1, .int x), (2, .int y), (3, .int n), (4, .int k), (5, .ref out)]) hx hb dL_guessAt_17 hl (by decide) rfl (fun ls hl => ?_)
      refine lv_iconst (v := 1) hx hb dL_guessAt_19 (by decide) ?_
      refine W.widen (k := 3) (n := 18) (Nat.le_of_ble_eq_true rfl) (Nat.le_of_ble_eq_true rfl) ?_
      refine vx_ret ?_
      exact W.iret (v := 1) hx hb hr (fun t ht hW => ⟨⟨1, (), rfl, (z_c_L_guessAt_436 x y hc), cB.mk ht hW (hP.sub [] rfl) (hK.sub [] rfl) (hD.sub [] (by decide) rfl) (trivial)⟩, hS.F ht⟩) hS.2.2 dL_guessAt_20
    · skip
      have hP1 : va_P (dC, dI) vwCl [] H1 := fun k q h => by simp at h
      have hD1 : va_D (va_A [(nte, .inr (10, [.ref nn, .ref ns, .ref ng, .int 0]))] s.heap.size) [] := ⟨fun i j p q h => by simp at h, fun k q h => by simp at h⟩
      obtain ⟨hP, hD⟩ := va_join (wr := []) (w1 := []) hP hD [0] [] rfl rfl (by decide) (by decide) hk1 hFc hP1 hD1
      generalize H1 = H at hP hS hce ⊢
      have hP : va_P (dC, dI) vwCl [] H := hP
      have hD : va_D A [] := hD
      have hR := en_R hR0 hN0 hS
      refine vx_catch (own := RL) (name := "java/util/NoSuchElementException") (E := "java/util/NoSuchElementException") hown [⟨0, 14, 17, 13⟩] ⟨0, 14, 21, 37⟩ [] hTab (List.forall_mem_cons.mpr ⟨Or.inr ⟨by decide, "java/lang/IllegalArgumentException", hts (.classLink RL 13 "java/lang/IllegalArgumentException") (by decide +kernel), hE.nocast (by decide) (by decide) (by decide)⟩, (fun _ h9 => absurd h9 List.not_mem_nil)⟩) (by decide) (by decide) (hts (.classLink RL 37 "java/util/NoSuchElementException") (by decide +kernel)) (va_Nw.use rfl (hE.cast (by decide))) hce hcv hcl ?_
      refine lv_astore (lv' := [(6, .ref q9), (0, .ref h), (1, .int x), (2, .int y), (3, .int n), (4, .int k), (5, .ref out)]) hx hb dL_guessAt_21 hl (by decide) rfl (fun ls hl => ?_)
      refine lv_iconst (v := 2) hx hb dL_guessAt_23 (by decide) ?_
      refine W.widen (k := 3) (n := 18) (Nat.le_of_ble_eq_true rfl) (Nat.le_of_ble_eq_true rfl) ?_
      refine vx_ret ?_
      exact W.iret (v := 2) hx hb hr (fun t ht hW => ⟨⟨2, (), rfl, (z_c_L_guessAt_437 x y hc), cB.mk ht hW (hP.sub [] rfl) (hK.sub [] rfl) (hD.sub [] (by decide) rfl) (trivial)⟩, hS.F ht⟩) hS.2.2 dL_guessAt_24
  exact (show False from hw).elim
theorem z_c_L_isPossible_438 (x : Int32) (y : Int32) (fo : Nat → Int64) (a_0 : ¬ ((0 ≤ x ∧ x < 8) ∧ (0 ≤ y ∧ y < 6))) : ((1 : Int32) = 0 ∧ fo 0 = (1 : Int32).toInt64 ∧ (0 ≤ x ∧ x < 8) ∧ (0 ≤ y ∧ y < 6)) ∨ ((1 : Int32) = 1 ∧ (¬ ((0 ≤ x ∧ x < 8) ∧ (0 ≤ y ∧ y < 6)))) := by grind
theorem z_c_L_isPossible_439 (x : Int32) (y : Int32) (f_4 : Nat → Int64) (a_0 : (0 ≤ x ∧ x < 8) ∧ (0 ≤ y ∧ y < 6)) (a_1 : f_4 0 = ((1 : Int32).toInt64)) : ((0 : Int32) = 0 ∧ f_4 0 = (1 : Int32).toInt64 ∧ (0 ≤ x ∧ x < 8) ∧ (0 ≤ y ∧ y < 6)) ∨ ((0 : Int32) = 1 ∧ (¬ ((0 ≤ x ∧ x < 8) ∧ (0 ≤ y ∧ y < 6)))) := by grind
def wo_c_L_isPossible_w : List Cond := [Cond.codeWith yL_isPossible cL_isPossible 5 (some .int) [(0, 17, 20, 13)], Cond.classLink RL 13 "java/lang/IllegalArgumentException"]
def wo_c_L_isPossible : List Cond := .codeWith yL_isPossible cL_isPossible 5 (some .int) [(0, 17, 20, 13)] :: (wo_c_L_isPossible_w ++ (wsV RL 69 RX11 yX11_isPossible wo_c_X11_isPossible ++ List.nil))
theorem gw_wo_c_L_isPossible : wo_c_L_isPossible.all goodWord = true := gw_c (by decide +kernel) (gw_a (by decide +kernel) (gw_a (gw_a (by decide +kernel) gw_wo_c_X11_isPossible) rfl))
theorem go_c_L_isPossible_0 : GoodIn wo_c_L_isPossible (wsV RL 69 RX11 yX11_isPossible wo_c_X11_isPossible) := goodIn_sub (fun _ h => List.mem_cons_of_mem _ (List.mem_append_right _ (List.mem_append_left _ h))) (gw_a (by decide +kernel) gw_wo_c_X11_isPossible)
set_option maxHeartbeats 4000000 in
set_option maxRecDepth 100000 in
/-- the law: isPossible -/
theorem c_L_isPossible (l : Launch) (hst : l.stackTraces = false) (dC : Nat → ClassId) (dI : Nat → Nat → Nat) (b0 : Nat) (en : EnT) (sz : Nat) (h pal she fil nte dat vot loa nos pic spa : Nat) (st sp ll : Nat) (g : Nat → Option Nat) (cS : ClassId) (N : Nat → Prop) (nn ns ng : Nat) (kZ : ClassId) (x y : Int32) (out : Nat) (kO : ClassId) (fo : Nat → Int64) (hNb : ∀ a, N a → b0 ≤ a ∧ a < sz) (hNw : ∀ a, N a → a ∉ List.map Prod.fst ([(out, .inl (kO, 1, .inr (.inl fo)))] : va_W)) (hNr : ∀ a, N a → a ∉ List.map Prod.fst ([(h, .inr (17, [.ref pal, .ref she, .ref fil, .ref nte, .ref dat, .ref vot, .ref loa, .ref nos, .ref pic, .ref spa, .int 5, .int 50, .int 1600, .int 0])), (nte, .inr (10, [.ref nn, .ref ns, .ref ng, .int 0])), (nn, .inl (kZ, 240, .inl (fun _ => 0))), (pic, .inr (11, [.ref st, .ref sp, .ref ll, .int 0, .int 1600])), (st, .inl (cS, 48, .inr (.inr (.inr (.inr g)))))] : va_W)) : vx_Met l yL_isPossible wo_c_L_isPossible ({ frames := 8, cells := 1, slots := 6, locals := 133 } : Room) (cP b0 en (dC, dI) [(cS, .object "Underpaint$Stack"), (kZ, .boolean), (kO, .long)] [(out, .inl (kO, 1, .inr (.inl fo)))] [(h, .inr (17, [.ref pal, .ref she, .ref fil, .ref nte, .ref dat, .ref vot, .ref loa, .ref nos, .ref pic, .ref spa, .int 5, .int 50, .int 1600, .int 0])), (nte, .inr (10, [.ref nn, .ref ns, .ref ng, .int 0])), (nn, .inl (kZ, 240, .inl (fun _ => 0))), (pic, .inr (11, [.ref st, .ref sp, .ref ll, .int 0, .int 1600])), (st, .inl (cS, 48, .inr (.inr (.inr (.inr g)))))] sz (FamS (dC, dI) N g) [.ref h, .int x, .int y, .ref out]) (va_Qi (fun (r : Int32) (u : Nat → Int64) => (r = 0 ∧ u 0 = (1 : Int32).toInt64 ∧ (0 ≤ x ∧ x < 8) ∧ (0 ≤ y ∧ y < 6)) ∨ (r = 1 ∧ (¬ ((0 ≤ x ∧ x < 8) ∧ (0 ≤ y ∧ y < 6))))) (fun u t => cB (dC, dI) [] [(out, .inl (kO, 1, .inr (.inl u)))] (va_A [(out, .inl (kO, 1, .inr (.inl fo)))] sz) (fun _ => True) t) (va_A [(out, .inl (kO, 1, .inr (.inl fo)))] sz)) (vx_X (fun _ : Unit => True) (fun E _ _ => (E = "none" ∧ False)) (va_A [(out, .inl (kO, 1, .inr (.inl fo)))] sz)) 1 6 (va_A [(out, .inl (kO, 1, .inr (.inl fo)))] sz) := by
  refine vx_ofWH (cc := cL_isPossible) (maxL := 5) (ret := (some .int)) (hh := [(0, 17, 20, 13)]) (by decide) rfl ?_
  intro p e s m args below meth c s₁ B hml hv
  obtain ⟨rfl, hsz, hb0, hE, hPP, hK, hDD, hF0⟩ := hv
  have hx := B.exec
  have hb := B.bytes
  have hr := B.returns
  have hts := atoms_spec (ws := wo_c_L_isPossible) B.pre
  have hown : s.vm.findClass RL = some m.cls := findClass_of_methodNamed B.named
  have hlocks := B.notSynchronized
  subst hsz
  have hN0 := en_N hPP hDD rfl
  have hP : va_P (dC, dI) vwCl [(out, .inl (kO, 1, .inr (.inl fo)))] s.heap := hPP.sub [0] rfl
  have hR0 : va_P (dC, dI) vwCl [(h, .inr (17, [.ref pal, .ref she, .ref fil, .ref nte, .ref dat, .ref vot, .ref loa, .ref nos, .ref pic, .ref spa, .int 5, .int 50, .int 1600, .int 0])), (nte, .inr (10, [.ref nn, .ref ns, .ref ng, .int 0])), (nn, .inl (kZ, 240, .inl (fun _ => 0))), (pic, .inr (11, [.ref st, .ref sp, .ref ll, .int 0, .int 1600])), (st, .inl (cS, 48, .inr (.inr (.inr (.inr g)))))] s.heap := hPP.sub [1, 2, 3, 4, 5] rfl
  have hD0 : va_D (fun q => b0 ≤ q) [(out, .inl (kO, 1, .inr (.inl fo)))] := hDD.sub [0] (by decide) rfl
  have hDr : va_D (fun q => b0 ≤ q) [(h, .inr (17, [.ref pal, .ref she, .ref fil, .ref nte, .ref dat, .ref vot, .ref loa, .ref nos, .ref pic, .ref spa, .int 5, .int 50, .int 1600, .int 0])), (nte, .inr (10, [.ref nn, .ref ns, .ref ng, .int 0])), (nn, .inl (kZ, 240, .inl (fun _ => 0))), (pic, .inr (11, [.ref st, .ref sp, .ref ll, .int 0, .int 1600])), (st, .inl (cS, 48, .inr (.inr (.inr (.inr g)))))] := hDD.sub [1, 2, 3, 4, 5] (by decide) rfl
  have hAb := en_A (sz := s.heap.size) hD0 hb0
  have hD := hD0.self (sz := s.heap.size)
  generalize hAe : va_A [(out, .inl (kO, 1, .inr (.inl fo)))] s.heap.size = A at hD hAb hN0 ⊢
  have hA : ∀ q : Nat, s.heap.size ≤ q → A q := fun q h => by rw [← hAe]; exact Or.inr h
  have hS : va_S A s.heap s.heap [] := va_S.rf
  have hR := hR0
  have hl := lv_entry [.ref h, .int x, .int y, .ref out] (n := 5) (Nat.le_of_ble_eq_true rfl)
  rw [lg_entry_eq]
  generalize (lg_sl [.ref h, .int x, .int y, .ref out] ++ List.replicate (5 - (lg_sl [.ref h, .int x, .int y, .ref out]).length) Slot.unset).toArray = ls at hl ⊢
  have hl : lv_has ls 5 [(0, .ref h), (1, .int x), (2, .int y), (3, .ref out)] := hl
  have hTab := vx_table (x := yL_isPossible) B (hts (.codeWith yL_isPossible cL_isPossible 5 (some .int) [(0, 17, 20, 13)]) (by decide +kernel))
  have hR0b := hR0
  have hDrb := hDr
  have hN0b := hN0
  refine lv_aload_n hx hb dL_isPossible_0 rfl (lv_at hl 3 rfl) ?_
  refine lv_iconst (v := 0) hx hb dL_isPossible_1 (by decide) ?_
  refine lv_aload_n hx hb dL_isPossible_2 rfl (lv_at hl 0 rfl) ?_
  refine lv_iload_n hx hb dL_isPossible_3 rfl (lv_at hl 1 rfl) ?_
  refine lv_iload_n hx hb dL_isPossible_4 rfl (lv_at hl 2 rfl) ?_
  have hPc := (hP.app hR).sub (ws' := [] ++ [(h, .inr (17, [.ref pal, .ref she, .ref fil, .ref nte, .ref dat, .ref vot, .ref loa, .ref nos, .ref pic, .ref spa, .int 5, .int 50, .int 1600, .int 0])), (nte, .inr (10, [.ref nn, .ref ns, .ref ng, .int 0])), (nn, .inl (kZ, 240, .inl (fun _ => 0))), (pic, .inr (11, [.ref st, .ref sp, .ref ll, .int 0, .int 1600])), (st, .inl (cS, 48, .inr (.inr (.inr (.inr g)))))]) [1, 2, 3, 4, 5] rfl
  have hDc := (en_DD hD hDr hN0 hAb).sub (ws' := [] ++ [(h, .inr (17, [.ref pal, .ref she, .ref fil, .ref nte, .ref dat, .ref vot, .ref loa, .ref nos, .ref pic, .ref spa, .int 5, .int 50, .int 1600, .int 0])), (nte, .inr (10, [.ref nn, .ref ns, .ref ng, .int 0])), (nn, .inl (kZ, 240, .inl (fun _ => 0))), (pic, .inr (11, [.ref st, .ref sp, .ref ll, .int 0, .int 1600])), (st, .inl (cS, 48, .inr (.inr (.inr (.inr g)))))]) [1, 2, 3, 4, 5] (by decide) rfl
  have hKc := hK.sub (tys' := [(cS, .object "Underpaint$Stack"), (kZ, .boolean)]) [0, 1] rfl
  have hFc := va_free (wc := []) hD hS hA [] rfl
  refine vx_calli (vx_runV (As := [.int x, .int y]) (rest := [.int 0, .ref out]) ⟨hx, hb, hml, hown, hts⟩ (c_X11_isPossible l hst dC dI b0 en s.heap.size h pal she fil nte dat vot loa nos pic spa st sp ll g cS N nn ns ng kZ x y (fun a9 h9 => ⟨(hNb a9 h9).1, Nat.lt_of_lt_of_le (hNb a9 h9).2 hS.1⟩) (fun a9 h9 z9 => by have g1 := hNw a9 h9; have g2 := hNr a9 h9; have g3 := (hNb a9 h9).2; simp only [List.map_cons, List.map_nil, List.mem_cons, List.not_mem_nil, or_false, not_or] at g1 g2 z9 <;> omega) (fun a9 h9 z9 => by have g1 := hNw a9 h9; have g2 := hNr a9 h9; have g3 := (hNb a9 h9).2; simp only [List.map_cons, List.map_nil, List.mem_cons, List.not_mem_nil, or_false, not_or] at g1 g2 z9 <;> omega)) (cwV 2 hts go_c_L_isPossible_0 rfl rfl rfl (by decide +kernel) ⟨Nat.le_of_ble_eq_true rfl, Nat.le_of_ble_eq_true rfl⟩) ⟨cP.blind, va_recv hK hR (ci := 17) (q0 := 0) rfl rfl, cP.use (en_z hb0 hS) (hE.on hAb hS) hPc hKc hDc (hF0.on (fun a9 h8 h9 => by rw [← hAe]; exact vA1 h8 (hNw a9 h9)) hS)⟩ rfl rfl hl.1 rfl (lv_room (Nat.le_of_ble_eq_true rfl)) dL_isPossible_5 ⟨Nat.le_of_ble_eq_true rfl, Nat.le_of_ble_eq_true rfl⟩) hS (fun q _ h => hFc q h) hFc (fun q _ h => hFc q h) (fun E ce q9 u t H1 locs ht hvm hpx hBX hz1 hk1 hS hce hcv hcl => ?_) (fun r_1 u t H1 locs ht hvm hw hB hz1 hk1 hS => ?_)
  · skip
    try dsimp only at hBX
    obtain ⟨rfl, hc⟩ := hBX
    have hP1 : va_P (dC, dI) vwCl [] H1 := fun k q h => by simp at h
    have hD1 : va_D (va_A [] s.heap.size) [] := ⟨fun i j p q h => by simp at h, fun k q h => by simp at h⟩
    obtain ⟨hP, hD⟩ := va_join (wr := [(out, .inl (kO, 1, .inr (.inl fo)))]) (w1 := []) hP hD [] [0] rfl rfl (by decide) (by decide) hk1 hFc hP1 hD1
    generalize H1 = H at hP hS hce ⊢
    have hP : va_P (dC, dI) vwCl [(out, .inl (kO, 1, .inr (.inl fo)))] H := hP
    have hD : va_D A [(out, .inl (kO, 1, .inr (.inl fo)))] := hD
    have hR := en_R hR0 hN0 hS
    refine vx_catch (own := RL) (name := "java/lang/IllegalArgumentException") (E := "java/lang/IllegalArgumentException") hown [] ⟨0, 17, 20, 13⟩ [] hTab (fun _ h9 => absurd h9 List.not_mem_nil) (by decide) (by decide) (hts (.classLink RL 13 "java/lang/IllegalArgumentException") (by decide +kernel)) (va_Nw.use rfl (hE.cast (by decide))) hce hcv hcl ?_
    refine lv_astore (lv' := [(4, .ref q9), (0, .ref h), (1, .int x), (2, .int y), (3, .ref out)]) hx hb dL_isPossible_20 hl (by decide) rfl (fun ls hl => ?_)
    refine lv_iconst (v := 1) hx hb dL_isPossible_22 (by decide) ?_
    refine W.widen (k := 1) (n := 6) (Nat.le_of_ble_eq_true rfl) (Nat.le_of_ble_eq_true rfl) ?_
    refine vx_ret ?_
    exact W.iret (v := 1) hx hb hr (fun t ht hW => ⟨⟨1, fo, rfl, (z_c_L_isPossible_438 x y fo hc), cB.mk ht hW (hP.sub [0] rfl) (hK.sub [] rfl) (hD.sub [0] (by decide) rfl) (trivial)⟩, hS.F ht⟩) hS.2.2 dL_isPossible_23
  have hP1 : va_P (dC, dI) vwCl [] H1 := fun k q h => by simp at h
  have hD1 : va_D (va_A [] s.heap.size) [] := ⟨fun i j p q h => by simp at h, fun k q h => by simp at h⟩
  try dsimp only at hw
  obtain ⟨hP, hD⟩ := va_join (wr := [(out, .inl (kO, 1, .inr (.inl fo)))]) (w1 := []) hP hD [] [0] rfl rfl (by decide) (by decide) hk1 hFc hP1 hD1
  generalize H1 = H at hP hS ⊢
  have hP : va_P (dC, dI) vwCl [(out, .inl (kO, 1, .inr (.inl fo)))] H := hP
  have hD : va_D A [(out, .inl (kO, 1, .inr (.inl fo)))] := hD
  have hR := en_R hR0 hN0 hS
  refine W.widen (k := 1) (n := 6) (Nat.le_of_ble_eq_true rfl) (Nat.le_of_ble_eq_true rfl) ?_
  obtain ⟨hw, h_2⟩ := hw
  subst r_1
  refine lv_if_eq (tgt := 15) hx hb dL_isPossible_8 (by decide) (fun c_3 => absurd c_3 (by decide)) (fun c_3 => ?_)
  refine lv_lconst (v := 1) hx hb dL_isPossible_11 (by decide) ?_
  refine lv_topv (w := .long ((1 : Int32).toInt64)) rfl ?_
  refine lv_goto (tgt := 16) hx hb dL_isPossible_12 (by decide) ?_
  refine va_last hx hb hK hP hD hS 0 2 rfl rfl (vp_in_nI (by decide : 0 < 1) (by decide)) dL_isPossible_16 (fun H locs hP hD hS => ?_)
  generalize ef_4 : vp_updL fo (0 : Int32).toNatClampNeg ((1 : Int32).toInt64) = f_4 at hP hD
  have hP : va_P (dC, dI) vwCl [(out, .inl (kO, 1, .inr (.inl f_4)))] H := hP
  have hD : va_D A [(out, .inl (kO, 1, .inr (.inl f_4)))] := hD
  have hR := en_R hR0 hN0 hS
  have h_5 : f_4 0 = ((1 : Int32).toInt64) := by rw [← ef_4]; exact pk_uLs
  refine lv_goto (tgt := 24) hx hb dL_isPossible_17 (by decide) ?_
  refine lv_iconst (v := 0) hx hb dL_isPossible_24 (by decide) ?_
  refine W.widen (k := 1) (n := 6) (Nat.le_of_ble_eq_true rfl) (Nat.le_of_ble_eq_true rfl) ?_
  refine vx_ret ?_
  exact W.iret (v := 0) hx hb hr (fun t ht hW => ⟨⟨0, f_4, rfl, (z_c_L_isPossible_439 x y f_4 h_2 h_5), cB.mk ht hW (hP.sub [0] rfl) (hK.sub [] rfl) (hD.sub [0] (by decide) rfl) (trivial)⟩, hS.F ht⟩) hS.2.2 dL_isPossible_25
theorem z_c_L_original_440 (n : Int32) (fo : Nat → Int64) (a_0 : ¬ (0 ≤ n ∧ n ≤ 9999)) : ((1 : Int32) = 0 ∧ fo 0 = (1600 : Int32).toInt64 ∧ 0 ≤ n ∧ n ≤ 9999) ∨ ((1 : Int32) = 1 ∧ (¬ (0 ≤ n ∧ n ≤ 9999))) := by grind
theorem z_c_L_original_441 (n : Int32) (y_3 : Int64) (f_4 : Nat → Int64) (a_0 : 0 ≤ n ∧ n ≤ 9999) (a_1 : y_3 = (1600 : Int32).toInt64) (a_2 : f_4 0 = y_3) : ((0 : Int32) = 0 ∧ f_4 0 = (1600 : Int32).toInt64 ∧ 0 ≤ n ∧ n ≤ 9999) ∨ ((0 : Int32) = 1 ∧ (¬ (0 ≤ n ∧ n ≤ 9999))) := by grind
set_option maxRecDepth 100000 in
theorem gw_wsX11_original : wsX11_original.all goodWord = true := by decide +kernel
def wo_c_L_original_w : List Cond := [Cond.codeWith yL_original cL_original 4 (some .int) [(0, 9, 12, 13)], Cond.classLink RL 13 "java/lang/IllegalArgumentException"]
def wo_c_L_original : List Cond := .codeWith yL_original cL_original 4 (some .int) [(0, 9, 12, 13)] :: (wo_c_L_original_w ++ (wsV RL 72 RX11 yX11_original wsX11_original ++ List.nil))
theorem gw_wo_c_L_original : wo_c_L_original.all goodWord = true := gw_c (by decide +kernel) (gw_a (by decide +kernel) (gw_a (gw_a (by decide +kernel) gw_wsX11_original) rfl))
theorem go_c_L_original_0 : GoodIn wo_c_L_original (wsV RL 72 RX11 yX11_original wsX11_original) := goodIn_sub (fun _ h => List.mem_cons_of_mem _ (List.mem_append_right _ (List.mem_append_left _ h))) (gw_a (by decide +kernel) gw_wsX11_original)
set_option maxHeartbeats 4000000 in
set_option maxRecDepth 100000 in
/-- the law: original -/
theorem c_L_original (l : Launch) (hst : l.stackTraces = false) (dC : Nat → ClassId) (dI : Nat → Nat → Nat) (b0 : Nat) (en : EnT) (sz : Nat) (h pal she fil nte dat vot loa nos pic spa : Nat) (n : Int32) (out : Nat) (kO : ClassId) (fo : Nat → Int64) : vx_Met l yL_original wo_c_L_original ({ frames := 9, cells := 1, slots := 6, locals := 162 } : Room) (cP b0 en (dC, dI) [(kO, .long)] [(h, .inr (17, [.ref pal, .ref she, .ref fil, .ref nte, .ref dat, .ref vot, .ref loa, .ref nos, .ref pic, .ref spa, .int 5, .int 50, .int 1600, .int 0])), (out, .inl (kO, 1, .inr (.inl fo)))] [] sz (fun _ => True) [.ref h, .int n, .ref out]) (va_Qi (fun (r : Int32) (u : Nat → Int64) => (r = 0 ∧ u 0 = (1600 : Int32).toInt64 ∧ 0 ≤ n ∧ n ≤ 9999) ∨ (r = 1 ∧ (¬ (0 ≤ n ∧ n ≤ 9999)))) (fun u t => cB (dC, dI) [] [(out, .inl (kO, 1, .inr (.inl u)))] (va_A [(h, .inr (17, [.ref pal, .ref she, .ref fil, .ref nte, .ref dat, .ref vot, .ref loa, .ref nos, .ref pic, .ref spa, .int 5, .int 50, .int 1600, .int 0])), (out, .inl (kO, 1, .inr (.inl fo)))] sz) (fun _ => True) t) (va_A [(h, .inr (17, [.ref pal, .ref she, .ref fil, .ref nte, .ref dat, .ref vot, .ref loa, .ref nos, .ref pic, .ref spa, .int 5, .int 50, .int 1600, .int 0])), (out, .inl (kO, 1, .inr (.inl fo)))] sz)) (vx_X (fun _ : Unit => True) (fun E _ _ => (E = "none" ∧ False)) (va_A [(h, .inr (17, [.ref pal, .ref she, .ref fil, .ref nte, .ref dat, .ref vot, .ref loa, .ref nos, .ref pic, .ref spa, .int 5, .int 50, .int 1600, .int 0])), (out, .inl (kO, 1, .inr (.inl fo)))] sz)) 1 6 (va_A [(h, .inr (17, [.ref pal, .ref she, .ref fil, .ref nte, .ref dat, .ref vot, .ref loa, .ref nos, .ref pic, .ref spa, .int 5, .int 50, .int 1600, .int 0])), (out, .inl (kO, 1, .inr (.inl fo)))] sz) := by
  refine vx_ofWH (cc := cL_original) (maxL := 4) (ret := (some .int)) (hh := [(0, 9, 12, 13)]) (by decide) rfl ?_
  intro p e s m args below meth c s₁ B hml hv
  obtain ⟨rfl, hsz, hb0, hE, hPP, hK, hDD, hF0⟩ := hv
  have hx := B.exec
  have hb := B.bytes
  have hr := B.returns
  have hts := atoms_spec (ws := wo_c_L_original) B.pre
  have hown : s.vm.findClass RL = some m.cls := findClass_of_methodNamed B.named
  have hlocks := B.notSynchronized
  subst hsz
  have hN0 := en_N hPP hDD rfl
  have hP : va_P (dC, dI) vwCl [(h, .inr (17, [.ref pal, .ref she, .ref fil, .ref nte, .ref dat, .ref vot, .ref loa, .ref nos, .ref pic, .ref spa, .int 5, .int 50, .int 1600, .int 0])), (out, .inl (kO, 1, .inr (.inl fo)))] s.heap := hPP.sub [0, 1] rfl
  have hR0 : va_P (dC, dI) vwCl [] s.heap := hPP.sub [] rfl
  have hD0 : va_D (fun q => b0 ≤ q) [(h, .inr (17, [.ref pal, .ref she, .ref fil, .ref nte, .ref dat, .ref vot, .ref loa, .ref nos, .ref pic, .ref spa, .int 5, .int 50, .int 1600, .int 0])), (out, .inl (kO, 1, .inr (.inl fo)))] := hDD.sub [0, 1] (by decide) rfl
  have hDr : va_D (fun q => b0 ≤ q) [] := hDD.sub [] (by decide) rfl
  have hAb := en_A (sz := s.heap.size) hD0 hb0
  have hD := hD0.self (sz := s.heap.size)
  generalize hAe : va_A [(h, .inr (17, [.ref pal, .ref she, .ref fil, .ref nte, .ref dat, .ref vot, .ref loa, .ref nos, .ref pic, .ref spa, .int 5, .int 50, .int 1600, .int 0])), (out, .inl (kO, 1, .inr (.inl fo)))] s.heap.size = A at hD hAb hN0 ⊢
  have hA : ∀ q : Nat, s.heap.size ≤ q → A q := fun q h => by rw [← hAe]; exact Or.inr h
  have hS : va_S A s.heap s.heap [] := va_S.rf
  have hR := hR0
  have hl := lv_entry [.ref h, .int n, .ref out] (n := 4) (Nat.le_of_ble_eq_true rfl)
  rw [lg_entry_eq]
  generalize (lg_sl [.ref h, .int n, .ref out] ++ List.replicate (4 - (lg_sl [.ref h, .int n, .ref out]).length) Slot.unset).toArray = ls at hl ⊢
  have hl : lv_has ls 4 [(0, .ref h), (1, .int n), (2, .ref out)] := hl
  have hTab := vx_table (x := yL_original) B (hts (.codeWith yL_original cL_original 4 (some .int) [(0, 9, 12, 13)]) (by decide +kernel))
  refine lv_aload_n hx hb dL_original_0 rfl (lv_at hl 2 rfl) ?_
  refine lv_iconst (v := 0) hx hb dL_original_1 (by decide) ?_
  refine lv_aload_n hx hb dL_original_2 rfl (lv_at hl 0 rfl) ?_
  refine lv_iload_n hx hb dL_original_3 rfl (lv_at hl 1 rfl) ?_
  have hPc := (hP.app hR).sub (ws' := [(h, .inr (17, [.ref pal, .ref she, .ref fil, .ref nte, .ref dat, .ref vot, .ref loa, .ref nos, .ref pic, .ref spa, .int 5, .int 50, .int 1600, .int 0]))] ++ []) [0] rfl
  have hDc := (en_DD hD hDr hN0 hAb).sub (ws' := [(h, .inr (17, [.ref pal, .ref she, .ref fil, .ref nte, .ref dat, .ref vot, .ref loa, .ref nos, .ref pic, .ref spa, .int 5, .int 50, .int 1600, .int 0]))] ++ []) [0] (by decide) rfl
  have hKc := hK.sub (tys' := []) [] rfl
  have hFc := va_free (wc := [(h, .inr (17, [.ref pal, .ref she, .ref fil, .ref nte, .ref dat, .ref vot, .ref loa, .ref nos, .ref pic, .ref spa, .int 5, .int 50, .int 1600, .int 0]))]) hD hS hA [0] rfl
  refine vx_calli (vx_runV (As := [.int n]) (rest := [.int 0, .ref out]) ⟨hx, hb, hml, hown, hts⟩ (c_X11_original l hst dC dI b0 en s.heap.size h pal she fil nte dat vot loa nos pic spa n) (cwV 1 hts go_c_L_original_0 rfl rfl rfl (by decide +kernel) ⟨Nat.le_of_ble_eq_true rfl, Nat.le_of_ble_eq_true rfl⟩) ⟨cP.blind, va_recv hK hP (ci := 17) (q0 := 0) rfl rfl, cP.use (en_z hb0 hS) (hE.on hAb hS) hPc hKc hDc trivial⟩ rfl rfl hl.1 rfl (lv_room (Nat.le_of_ble_eq_true rfl)) dL_original_4 ⟨Nat.le_of_ble_eq_true rfl, Nat.le_of_ble_eq_true rfl⟩) hS (fun q _ h => hFc q h) hFc (fun q _ h => hFc q h) (fun E ce q9 u t H1 locs ht hvm hpx hBX hz1 hk1 hS hce hcv hcl => ?_) (fun r_1 u t H1 locs ht hvm hw hB hz1 hk1 hS => ?_)
  · skip
    try dsimp only at hBX
    obtain ⟨rfl, hc⟩ := hBX
    have hP1 : va_P (dC, dI) vwCl [] H1 := fun k q h => by simp at h
    have hD1 : va_D (va_A [(h, .inr (17, [.ref pal, .ref she, .ref fil, .ref nte, .ref dat, .ref vot, .ref loa, .ref nos, .ref pic, .ref spa, .int 5, .int 50, .int 1600, .int 0]))] s.heap.size) [] := ⟨fun i j p q h => by simp at h, fun k q h => by simp at h⟩
    obtain ⟨hP, hD⟩ := va_join (wr := [(out, .inl (kO, 1, .inr (.inl fo)))]) (w1 := []) hP hD [0] [1] rfl rfl (by decide) (by decide) hk1 hFc hP1 hD1
    generalize H1 = H at hP hS hce ⊢
    have hP : va_P (dC, dI) vwCl [(out, .inl (kO, 1, .inr (.inl fo)))] H := hP
    have hD : va_D A [(out, .inl (kO, 1, .inr (.inl fo)))] := hD
    have hR : va_P (dC, dI) vwCl [] H := fun k q h => by simp at h
    refine vx_catch (own := RL) (name := "java/lang/IllegalArgumentException") (E := "java/lang/IllegalArgumentException") hown [] ⟨0, 9, 12, 13⟩ [] hTab (fun _ h9 => absurd h9 List.not_mem_nil) (by decide) (by decide) (hts (.classLink RL 13 "java/lang/IllegalArgumentException") (by decide +kernel)) (va_Nw.use rfl (hE.cast (by decide))) hce hcv hcl ?_
    refine lv_astore_n (lv' := [(3, .ref q9), (0, .ref h), (1, .int n), (2, .ref out)]) hx hb dL_original_12 rfl hl (by decide) rfl (fun ls hl => ?_)
    refine lv_iconst (v := 1) hx hb dL_original_13 (by decide) ?_
    refine W.widen (k := 1) (n := 6) (Nat.le_of_ble_eq_true rfl) (Nat.le_of_ble_eq_true rfl) ?_
    refine vx_ret ?_
    exact W.iret (v := 1) hx hb hr (fun t ht hW => ⟨⟨1, fo, rfl, (z_c_L_original_440 n fo hc), cB.mk ht hW (hP.sub [0] rfl) (hK.sub [] rfl) (hD.sub [0] (by decide) rfl) (trivial)⟩, hS.F ht⟩) hS.2.2 dL_original_14
  have hP1 : va_P (dC, dI) vwCl [] H1 := fun k q h => by simp at h
  have hD1 : va_D (va_A [(h, .inr (17, [.ref pal, .ref she, .ref fil, .ref nte, .ref dat, .ref vot, .ref loa, .ref nos, .ref pic, .ref spa, .int 5, .int 50, .int 1600, .int 0]))] s.heap.size) [] := ⟨fun i j p q h => by simp at h, fun k q h => by simp at h⟩
  try dsimp only at hw
  obtain ⟨hP, hD⟩ := va_join (wr := [(out, .inl (kO, 1, .inr (.inl fo)))]) (w1 := []) hP hD [0] [1] rfl rfl (by decide) (by decide) hk1 hFc hP1 hD1
  generalize H1 = H at hP hS ⊢
  have hP : va_P (dC, dI) vwCl [(out, .inl (kO, 1, .inr (.inl fo)))] H := hP
  have hD : va_D A [(out, .inl (kO, 1, .inr (.inl fo)))] := hD
  have hR : va_P (dC, dI) vwCl [] H := fun k q h => by simp at h
  refine W.widen (k := 1) (n := 6) (Nat.le_of_ble_eq_true rfl) (Nat.le_of_ble_eq_true rfl) ?_
  obtain ⟨hw, h_2⟩ := hw
  subst r_1
  refine lv_i2l hx hb dL_original_7 rfl ?_
  refine lv_topl (fun y_3 ey_3 => ?_)
  refine va_last hx hb hK hP hD hS 0 0 rfl rfl (vp_in_nI (by decide : 0 < 1) (by decide)) dL_original_8 (fun H locs hP hD hS => ?_)
  generalize ef_4 : vp_updL fo (0 : Int32).toNatClampNeg y_3 = f_4 at hP hD
  have hP : va_P (dC, dI) vwCl [(out, .inl (kO, 1, .inr (.inl f_4)))] H := hP
  have hD : va_D A [(out, .inl (kO, 1, .inr (.inl f_4)))] := hD
  have hR : va_P (dC, dI) vwCl [] H := fun k q h => by simp at h
  have h_5 : f_4 0 = y_3 := by rw [← ef_4]; exact pk_uLs
  refine lv_goto (tgt := 15) hx hb dL_original_9 (by decide) ?_
  refine lv_iconst (v := 0) hx hb dL_original_15 (by decide) ?_
  refine W.widen (k := 1) (n := 6) (Nat.le_of_ble_eq_true rfl) (Nat.le_of_ble_eq_true rfl) ?_
  refine vx_ret ?_
  exact W.iret (v := 0) hx hb hr (fun t ht hW => ⟨⟨0, f_4, rfl, (z_c_L_original_441 n y_3 f_4 h_2 ey_3 h_5), cB.mk ht hW (hP.sub [0] rfl) (hK.sub [] rfl) (hD.sub [0] (by decide) rfl) (trivial)⟩, hS.F ht⟩) hS.2.2 dL_original_16
theorem z_c_L_tooYoung_442 (n : Int32) (a_0 : ¬ (0 ≤ n ∧ n ≤ 9999)) : ((1 : Int32) = 1 ∧ (¬ (0 ≤ n ∧ n ≤ 9999))) ∨ ((1 : Int32) = 2 ∧ (0 ≤ n ∧ n ≤ 9999)) := by grind
theorem z_c_L_tooYoung_443 (n : Int32) (a_0 : 0 ≤ n ∧ n ≤ 9999) : ((2 : Int32) = 1 ∧ (¬ (0 ≤ n ∧ n ≤ 9999))) ∨ ((2 : Int32) = 2 ∧ (0 ≤ n ∧ n ≤ 9999)) := by grind
def wo_c_L_tooYoung_w : List Cond := [Cond.codeWith yL_tooYoung cL_tooYoung 4 (some .int) [(0, 9, 12, 13), (0, 9, 15, 37)], Cond.classLink RL 13 "java/lang/IllegalArgumentException", Cond.classLink RL 37 "java/util/NoSuchElementException"]
def wo_c_L_tooYoung : List Cond := .codeWith yL_tooYoung cL_tooYoung 4 (some .int) [(0, 9, 12, 13), (0, 9, 15, 37)] :: (wo_c_L_tooYoung_w ++ (wsV RL 75 RX11 yX11_tooYoung wo_c_X11_tooYoung ++ List.nil))
theorem gw_wo_c_L_tooYoung : wo_c_L_tooYoung.all goodWord = true := gw_c (by decide +kernel) (gw_a (by decide +kernel) (gw_a (gw_a (by decide +kernel) gw_wo_c_X11_tooYoung) rfl))
theorem go_c_L_tooYoung_0 : GoodIn wo_c_L_tooYoung (wsV RL 75 RX11 yX11_tooYoung wo_c_X11_tooYoung) := goodIn_sub (fun _ h => List.mem_cons_of_mem _ (List.mem_append_right _ (List.mem_append_left _ h))) (gw_a (by decide +kernel) gw_wo_c_X11_tooYoung)
set_option maxHeartbeats 4000000 in
set_option maxRecDepth 100000 in
/-- the law: tooYoung -/
theorem c_L_tooYoung (l : Launch) (hst : l.stackTraces = false) (dC : Nat → ClassId) (dI : Nat → Nat → Nat) (b0 : Nat) (en : EnT) (sz : Nat) (h pal she fil nte dat vot loa nos pic spa : Nat) (n : Int32) (out : Nat) : vx_Met l yL_tooYoung wo_c_L_tooYoung ({ frames := 8, cells := 2, slots := 12, locals := 134 } : Room) (cP b0 en (dC, dI) [] [] [(h, .inr (17, [.ref pal, .ref she, .ref fil, .ref nte, .ref dat, .ref vot, .ref loa, .ref nos, .ref pic, .ref spa, .int 5, .int 50, .int 1600, .int 0])), (pal, .inr (5, [.int 0, .ref en.2.2.1, .int 0]))] sz (fun _ => True) [.ref h, .int n, .ref out]) (va_Qi (fun (r : Int32) (u : Unit) => (r = 1 ∧ (¬ (0 ≤ n ∧ n ≤ 9999))) ∨ (r = 2 ∧ (0 ≤ n ∧ n ≤ 9999))) (fun u t => cB (dC, dI) [] [] (va_A [] sz) (fun _ => True) t) (va_A [] sz)) (vx_X (fun _ : Unit => True) (fun E _ _ => (E = "none" ∧ False)) (va_A [] sz)) 2 12 (va_A [] sz) := by
  refine vx_ofWH (cc := cL_tooYoung) (maxL := 4) (ret := (some .int)) (hh := [(0, 9, 12, 13), (0, 9, 15, 37)]) (by decide) rfl ?_
  intro p e s m args below meth c s₁ B hml hv
  obtain ⟨rfl, hsz, hb0, hE, hPP, hK, hDD, hF0⟩ := hv
  have hx := B.exec
  have hb := B.bytes
  have hr := B.returns
  have hts := atoms_spec (ws := wo_c_L_tooYoung) B.pre
  have hown : s.vm.findClass RL = some m.cls := findClass_of_methodNamed B.named
  have hlocks := B.notSynchronized
  subst hsz
  have hN0 := en_N hPP hDD rfl
  have hP : va_P (dC, dI) vwCl [] s.heap := hPP.sub [] rfl
  have hR0 : va_P (dC, dI) vwCl [(h, .inr (17, [.ref pal, .ref she, .ref fil, .ref nte, .ref dat, .ref vot, .ref loa, .ref nos, .ref pic, .ref spa, .int 5, .int 50, .int 1600, .int 0])), (pal, .inr (5, [.int 0, .ref en.2.2.1, .int 0]))] s.heap := hPP.sub [0, 1] rfl
  have hD0 : va_D (fun q => b0 ≤ q) [] := hDD.sub [] (by decide) rfl
  have hDr : va_D (fun q => b0 ≤ q) [(h, .inr (17, [.ref pal, .ref she, .ref fil, .ref nte, .ref dat, .ref vot, .ref loa, .ref nos, .ref pic, .ref spa, .int 5, .int 50, .int 1600, .int 0])), (pal, .inr (5, [.int 0, .ref en.2.2.1, .int 0]))] := hDD.sub [0, 1] (by decide) rfl
  have hAb := en_A (sz := s.heap.size) hD0 hb0
  have hD := hD0.self (sz := s.heap.size)
  generalize hAe : va_A [] s.heap.size = A at hD hAb hN0 ⊢
  have hA : ∀ q : Nat, s.heap.size ≤ q → A q := fun q h => by rw [← hAe]; exact Or.inr h
  have hS : va_S A s.heap s.heap [] := va_S.rf
  have hR := hR0
  have hl := lv_entry [.ref h, .int n, .ref out] (n := 4) (Nat.le_of_ble_eq_true rfl)
  rw [lg_entry_eq]
  generalize (lg_sl [.ref h, .int n, .ref out] ++ List.replicate (4 - (lg_sl [.ref h, .int n, .ref out]).length) Slot.unset).toArray = ls at hl ⊢
  have hl : lv_has ls 4 [(0, .ref h), (1, .int n), (2, .ref out)] := hl
  have hTab := vx_table (x := yL_tooYoung) B (hts (.codeWith yL_tooYoung cL_tooYoung 4 (some .int) [(0, 9, 12, 13), (0, 9, 15, 37)]) (by decide +kernel))
  refine lv_aload_n hx hb dL_tooYoung_0 rfl (lv_at hl 2 rfl) ?_
  refine lv_iconst (v := 0) hx hb dL_tooYoung_1 (by decide) ?_
  refine lv_aload_n hx hb dL_tooYoung_2 rfl (lv_at hl 0 rfl) ?_
  refine lv_iload_n hx hb dL_tooYoung_3 rfl (lv_at hl 1 rfl) ?_
  have hPc := (hP.app hR).sub (ws' := [] ++ [(h, .inr (17, [.ref pal, .ref she, .ref fil, .ref nte, .ref dat, .ref vot, .ref loa, .ref nos, .ref pic, .ref spa, .int 5, .int 50, .int 1600, .int 0])), (pal, .inr (5, [.int 0, .ref en.2.2.1, .int 0]))]) [0, 1] rfl
  have hDc := (en_DD hD hDr hN0 hAb).sub (ws' := [] ++ [(h, .inr (17, [.ref pal, .ref she, .ref fil, .ref nte, .ref dat, .ref vot, .ref loa, .ref nos, .ref pic, .ref spa, .int 5, .int 50, .int 1600, .int 0])), (pal, .inr (5, [.int 0, .ref en.2.2.1, .int 0]))]) [0, 1] (by decide) rfl
  have hKc := hK.sub (tys' := []) [] rfl
  have hFc := va_free (wc := []) hD hS hA [] rfl
  refine vx_calli (vx_runV (As := [.int n]) (rest := [.int 0, .ref out]) ⟨hx, hb, hml, hown, hts⟩ (c_X11_tooYoung l hst dC dI b0 en s.heap.size h pal she fil nte dat vot loa nos pic spa n) (cwV 1 hts go_c_L_tooYoung_0 rfl rfl rfl (by decide +kernel) ⟨Nat.le_of_ble_eq_true rfl, Nat.le_of_ble_eq_true rfl⟩) ⟨cP.blind, va_recv hK hR (ci := 17) (q0 := 0) rfl rfl, cP.use (en_z hb0 hS) (hE.on hAb hS) hPc hKc hDc trivial⟩ rfl rfl hl.1 rfl (lv_room (Nat.le_of_ble_eq_true rfl)) dL_tooYoung_4 ⟨Nat.le_of_ble_eq_true rfl, Nat.le_of_ble_eq_true rfl⟩) hS (fun q _ h => hFc q h) hFc (fun q _ h => hFc q h) (fun E ce q9 u t H1 locs ht hvm hpx hBX hz1 hk1 hS hce hcv hcl => ?_) (fun r_1 u t H1 locs ht hvm hw hB hz1 hk1 hS => ?_)
  · skip
    try dsimp only at hBX
    rcases hBX with ⟨rfl, hc⟩ | ⟨rfl, hc⟩
    · skip
      have hP1 : va_P (dC, dI) vwCl [] H1 := fun k q h => by simp at h
      have hD1 : va_D (va_A [] s.heap.size) [] := ⟨fun i j p q h => by simp at h, fun k q h => by simp at h⟩
      obtain ⟨hP, hD⟩ := va_join (wr := []) (w1 := []) hP hD [] [] rfl rfl (by decide) (by decide) hk1 hFc hP1 hD1
      generalize H1 = H at hP hS hce ⊢
      have hP : va_P (dC, dI) vwCl [] H := hP
      have hD : va_D A [] := hD
      have hR := en_R hR0 hN0 hS
      refine vx_catch (own := RL) (name := "java/lang/IllegalArgumentException") (E := "java/lang/IllegalArgumentException") hown [] ⟨0, 9, 12, 13⟩ [⟨0, 9, 15, 37⟩] hTab (fun _ h9 => absurd h9 List.not_mem_nil) (by decide) (by decide) (hts (.classLink RL 13 "java/lang/IllegalArgumentException") (by decide +kernel)) (va_Nw.use rfl (hE.cast (by decide))) hce hcv hcl ?_
      refine lv_astore_n (lv' := [(3, .ref q9), (0, .ref h), (1, .int n), (2, .ref out)]) hx hb dL_tooYoung_12 rfl hl (by decide) rfl (fun ls hl => ?_)
      refine lv_iconst (v := 1) hx hb dL_tooYoung_13 (by decide) ?_
      refine W.widen (k := 2) (n := 12) (Nat.le_of_ble_eq_true rfl) (Nat.le_of_ble_eq_true rfl) ?_
      refine vx_ret ?_
      exact W.iret (v := 1) hx hb hr (fun t ht hW => ⟨⟨1, (), rfl, (z_c_L_tooYoung_442 n hc), cB.mk ht hW (hP.sub [] rfl) (hK.sub [] rfl) (hD.sub [] (by decide) rfl) (trivial)⟩, hS.F ht⟩) hS.2.2 dL_tooYoung_14
    · skip
      have hP1 : va_P (dC, dI) vwCl [] H1 := fun k q h => by simp at h
      have hD1 : va_D (va_A [] s.heap.size) [] := ⟨fun i j p q h => by simp at h, fun k q h => by simp at h⟩
      obtain ⟨hP, hD⟩ := va_join (wr := []) (w1 := []) hP hD [] [] rfl rfl (by decide) (by decide) hk1 hFc hP1 hD1
      generalize H1 = H at hP hS hce ⊢
      have hP : va_P (dC, dI) vwCl [] H := hP
      have hD : va_D A [] := hD
      have hR := en_R hR0 hN0 hS
      refine vx_catch (own := RL) (name := "java/util/NoSuchElementException") (E := "java/util/NoSuchElementException") hown [⟨0, 9, 12, 13⟩] ⟨0, 9, 15, 37⟩ [] hTab (List.forall_mem_cons.mpr ⟨Or.inr ⟨by decide, "java/lang/IllegalArgumentException", hts (.classLink RL 13 "java/lang/IllegalArgumentException") (by decide +kernel), hE.nocast (by decide) (by decide) (by decide)⟩, (fun _ h9 => absurd h9 List.not_mem_nil)⟩) (by decide) (by decide) (hts (.classLink RL 37 "java/util/NoSuchElementException") (by decide +kernel)) (va_Nw.use rfl (hE.cast (by decide))) hce hcv hcl ?_
      refine lv_astore_n (lv' := [(3, .ref q9), (0, .ref h), (1, .int n), (2, .ref out)]) hx hb dL_tooYoung_15 rfl hl (by decide) rfl (fun ls hl => ?_)
      refine lv_iconst (v := 2) hx hb dL_tooYoung_16 (by decide) ?_
      refine W.widen (k := 2) (n := 12) (Nat.le_of_ble_eq_true rfl) (Nat.le_of_ble_eq_true rfl) ?_
      refine vx_ret ?_
      exact W.iret (v := 2) hx hb hr (fun t ht hW => ⟨⟨2, (), rfl, (z_c_L_tooYoung_443 n hc), cB.mk ht hW (hP.sub [] rfl) (hK.sub [] rfl) (hD.sub [] (by decide) rfl) (trivial)⟩, hS.F ht⟩) hS.2.2 dL_tooYoung_17
  exact (show False from hw).elim
theorem z_c_L_ring_444 (w : Int32) (fo : Nat → Int64) (a_0 : ¬ (1 ≤ w ∧ w ≤ 99)) : ((1 : Int32) = 0 ∧ fo 0 = (1 : Int32).toInt64 ∧ (1 ≤ w ∧ w ≤ 99)) ∨ ((1 : Int32) = 1 ∧ (¬ (1 ≤ w ∧ w ≤ 99))) := by grind
theorem z_c_L_ring_445 (w : Int32) (y_3 : Int64) (f_4 : Nat → Int64) (a_0 : (1 ≤ w ∧ w ≤ 99)) (a_1 : y_3 = (1 : Int32).toInt64) (a_2 : f_4 0 = y_3) : ((0 : Int32) = 0 ∧ f_4 0 = (1 : Int32).toInt64 ∧ (1 ≤ w ∧ w ≤ 99)) ∨ ((0 : Int32) = 1 ∧ (¬ (1 ≤ w ∧ w ≤ 99))) := by grind
def wo_c_L_ring_w : List Cond := [Cond.codeWith yL_ring cL_ring 5 (some .int) [(0, 10, 13, 13), (0, 10, 17, 15)], Cond.classLink RL 13 "java/lang/IllegalArgumentException"]
def wo_c_L_ring : List Cond := .codeWith yL_ring cL_ring 5 (some .int) [(0, 10, 13, 13), (0, 10, 17, 15)] :: (wo_c_L_ring_w ++ (wsV RL 78 RX11 yX11_ring wo_c_X11_ring ++ List.nil))
theorem gw_wo_c_L_ring : wo_c_L_ring.all goodWord = true := gw_c (by decide +kernel) (gw_a (by decide +kernel) (gw_a (gw_a (by decide +kernel) gw_wo_c_X11_ring) rfl))
theorem go_c_L_ring_0 : GoodIn wo_c_L_ring (wsV RL 78 RX11 yX11_ring wo_c_X11_ring) := goodIn_sub (fun _ h => List.mem_cons_of_mem _ (List.mem_append_right _ (List.mem_append_left _ h))) (gw_a (by decide +kernel) gw_wo_c_X11_ring)
set_option maxHeartbeats 4000000 in
set_option maxRecDepth 100000 in
/-- the law: ring -/
theorem c_L_ring (l : Launch) (hst : l.stackTraces = false) (dC : Nat → ClassId) (dI : Nat → Nat → Nat) (b0 : Nat) (en : EnT) (sz : Nat) (h pal she fil nte dat vot loa nos pic spa : Nat) (db dm dh ds : Nat) (wb wm : Nat) (kI : ClassId) (w z : Int32) (out : Nat) (kO : ClassId) (fo : Nat → Int64) : vx_Met l yL_ring wo_c_L_ring ({ frames := 8, cells := 2, slots := 12, locals := 133 } : Room) (cP b0 en (dC, dI) [(kI, .int), (kO, .long)] [(db, .inr (12, [.ref wb, .int 0])), (dm, .inr (12, [.ref wm, .int 0])), (wb, .inl (kI, 20, .inl (fun _ => 0))), (wm, .inl (kI, 60, .inl (fun _ => 0))), (out, .inl (kO, 1, .inr (.inl fo)))] [(h, .inr (17, [.ref pal, .ref she, .ref fil, .ref nte, .ref dat, .ref vot, .ref loa, .ref nos, .ref pic, .ref spa, .int 5, .int 50, .int 1600, .int 0])), (dat, .inr (7, [.ref db, .ref dm, .int 0, .ref dh, .ref ds]))] sz (fun _ => True) [.ref h, .int w, .int z, .ref out]) (va_Qi (fun (r : Int32) (u : Nat → Int64) => (r = 0 ∧ u 0 = (1 : Int32).toInt64 ∧ (1 ≤ w ∧ w ≤ 99)) ∨ (r = 1 ∧ (¬ (1 ≤ w ∧ w ≤ 99)))) (fun u t => cB (dC, dI) [] [(out, .inl (kO, 1, .inr (.inl u)))] (va_A [(db, .inr (12, [.ref wb, .int 0])), (dm, .inr (12, [.ref wm, .int 0])), (wb, .inl (kI, 20, .inl (fun _ => 0))), (wm, .inl (kI, 60, .inl (fun _ => 0))), (out, .inl (kO, 1, .inr (.inl fo)))] sz) (fun _ => True) t) (va_A [(db, .inr (12, [.ref wb, .int 0])), (dm, .inr (12, [.ref wm, .int 0])), (wb, .inl (kI, 20, .inl (fun _ => 0))), (wm, .inl (kI, 60, .inl (fun _ => 0))), (out, .inl (kO, 1, .inr (.inl fo)))] sz)) (vx_X (fun _ : Unit => True) (fun E _ _ => (E = "none" ∧ False)) (va_A [(db, .inr (12, [.ref wb, .int 0])), (dm, .inr (12, [.ref wm, .int 0])), (wb, .inl (kI, 20, .inl (fun _ => 0))), (wm, .inl (kI, 60, .inl (fun _ => 0))), (out, .inl (kO, 1, .inr (.inl fo)))] sz)) 2 12 (va_A [(db, .inr (12, [.ref wb, .int 0])), (dm, .inr (12, [.ref wm, .int 0])), (wb, .inl (kI, 20, .inl (fun _ => 0))), (wm, .inl (kI, 60, .inl (fun _ => 0))), (out, .inl (kO, 1, .inr (.inl fo)))] sz) := by
  refine vx_ofWH (cc := cL_ring) (maxL := 5) (ret := (some .int)) (hh := [(0, 10, 13, 13), (0, 10, 17, 15)]) (by decide) rfl ?_
  intro p e s m args below meth c s₁ B hml hv
  obtain ⟨rfl, hsz, hb0, hE, hPP, hK, hDD, hF0⟩ := hv
  have hx := B.exec
  have hb := B.bytes
  have hr := B.returns
  have hts := atoms_spec (ws := wo_c_L_ring) B.pre
  have hown : s.vm.findClass RL = some m.cls := findClass_of_methodNamed B.named
  have hlocks := B.notSynchronized
  subst hsz
  have hN0 := en_N hPP hDD rfl
  have hP : va_P (dC, dI) vwCl [(db, .inr (12, [.ref wb, .int 0])), (dm, .inr (12, [.ref wm, .int 0])), (wb, .inl (kI, 20, .inl (fun _ => 0))), (wm, .inl (kI, 60, .inl (fun _ => 0))), (out, .inl (kO, 1, .inr (.inl fo)))] s.heap := hPP.sub [0, 1, 2, 3, 4] rfl
  have hR0 : va_P (dC, dI) vwCl [(h, .inr (17, [.ref pal, .ref she, .ref fil, .ref nte, .ref dat, .ref vot, .ref loa, .ref nos, .ref pic, .ref spa, .int 5, .int 50, .int 1600, .int 0])), (dat, .inr (7, [.ref db, .ref dm, .int 0, .ref dh, .ref ds]))] s.heap := hPP.sub [5, 6] rfl
  have hD0 : va_D (fun q => b0 ≤ q) [(db, .inr (12, [.ref wb, .int 0])), (dm, .inr (12, [.ref wm, .int 0])), (wb, .inl (kI, 20, .inl (fun _ => 0))), (wm, .inl (kI, 60, .inl (fun _ => 0))), (out, .inl (kO, 1, .inr (.inl fo)))] := hDD.sub [0, 1, 2, 3, 4] (by decide) rfl
  have hDr : va_D (fun q => b0 ≤ q) [(h, .inr (17, [.ref pal, .ref she, .ref fil, .ref nte, .ref dat, .ref vot, .ref loa, .ref nos, .ref pic, .ref spa, .int 5, .int 50, .int 1600, .int 0])), (dat, .inr (7, [.ref db, .ref dm, .int 0, .ref dh, .ref ds]))] := hDD.sub [5, 6] (by decide) rfl
  have hAb := en_A (sz := s.heap.size) hD0 hb0
  have hD := hD0.self (sz := s.heap.size)
  generalize hAe : va_A [(db, .inr (12, [.ref wb, .int 0])), (dm, .inr (12, [.ref wm, .int 0])), (wb, .inl (kI, 20, .inl (fun _ => 0))), (wm, .inl (kI, 60, .inl (fun _ => 0))), (out, .inl (kO, 1, .inr (.inl fo)))] s.heap.size = A at hD hAb hN0 ⊢
  have hA : ∀ q : Nat, s.heap.size ≤ q → A q := fun q h => by rw [← hAe]; exact Or.inr h
  have hS : va_S A s.heap s.heap [] := va_S.rf
  have hR := hR0
  have hl := lv_entry [.ref h, .int w, .int z, .ref out] (n := 5) (Nat.le_of_ble_eq_true rfl)
  rw [lg_entry_eq]
  generalize (lg_sl [.ref h, .int w, .int z, .ref out] ++ List.replicate (5 - (lg_sl [.ref h, .int w, .int z, .ref out]).length) Slot.unset).toArray = ls at hl ⊢
  have hl : lv_has ls 5 [(0, .ref h), (1, .int w), (2, .int z), (3, .ref out)] := hl
  have hTab := vx_table (x := yL_ring) B (hts (.codeWith yL_ring cL_ring 5 (some .int) [(0, 10, 13, 13), (0, 10, 17, 15)]) (by decide +kernel))
  refine lv_aload_n hx hb dL_ring_0 rfl (lv_at hl 3 rfl) ?_
  refine lv_iconst (v := 0) hx hb dL_ring_1 (by decide) ?_
  refine lv_aload_n hx hb dL_ring_2 rfl (lv_at hl 0 rfl) ?_
  refine lv_iload_n hx hb dL_ring_3 rfl (lv_at hl 1 rfl) ?_
  refine lv_iload_n hx hb dL_ring_4 rfl (lv_at hl 2 rfl) ?_
  have hPc := (hP.app hR).sub (ws' := [(db, .inr (12, [.ref wb, .int 0])), (dm, .inr (12, [.ref wm, .int 0])), (wb, .inl (kI, 20, .inl (fun _ => 0))), (wm, .inl (kI, 60, .inl (fun _ => 0)))] ++ [(h, .inr (17, [.ref pal, .ref she, .ref fil, .ref nte, .ref dat, .ref vot, .ref loa, .ref nos, .ref pic, .ref spa, .int 5, .int 50, .int 1600, .int 0])), (dat, .inr (7, [.ref db, .ref dm, .int 0, .ref dh, .ref ds]))]) [0, 1, 2, 3, 5, 6] rfl
  have hDc := (en_DD hD hDr hN0 hAb).sub (ws' := [(db, .inr (12, [.ref wb, .int 0])), (dm, .inr (12, [.ref wm, .int 0])), (wb, .inl (kI, 20, .inl (fun _ => 0))), (wm, .inl (kI, 60, .inl (fun _ => 0)))] ++ [(h, .inr (17, [.ref pal, .ref she, .ref fil, .ref nte, .ref dat, .ref vot, .ref loa, .ref nos, .ref pic, .ref spa, .int 5, .int 50, .int 1600, .int 0])), (dat, .inr (7, [.ref db, .ref dm, .int 0, .ref dh, .ref ds]))]) [0, 1, 2, 3, 5, 6] (by decide) rfl
  have hKc := hK.sub (tys' := [(kI, .int)]) [0] rfl
  have hFc := va_free (wc := [(db, .inr (12, [.ref wb, .int 0])), (dm, .inr (12, [.ref wm, .int 0])), (wb, .inl (kI, 20, .inl (fun _ => 0))), (wm, .inl (kI, 60, .inl (fun _ => 0)))]) hD hS hA [0, 1, 2, 3] rfl
  refine vx_calli (vx_runV (As := [.int w, .int z]) (rest := [.int 0, .ref out]) ⟨hx, hb, hml, hown, hts⟩ (c_X11_ring l hst dC dI b0 en s.heap.size h pal she fil nte dat vot loa nos pic spa db dm dh ds wb wm kI w z) (cwV 2 hts go_c_L_ring_0 rfl rfl rfl (by decide +kernel) ⟨Nat.le_of_ble_eq_true rfl, Nat.le_of_ble_eq_true rfl⟩) ⟨cP.blind, va_recv hK hR (ci := 17) (q0 := 0) rfl rfl, cP.use (en_z hb0 hS) (hE.on hAb hS) hPc hKc hDc trivial⟩ rfl rfl hl.1 rfl (lv_room (Nat.le_of_ble_eq_true rfl)) dL_ring_5 ⟨Nat.le_of_ble_eq_true rfl, Nat.le_of_ble_eq_true rfl⟩) hS (fun q _ h => hFc q h) hFc (fun q _ h => hFc q h) (fun E ce q9 u t H1 locs ht hvm hpx hBX hz1 hk1 hS hce hcv hcl => ?_) (fun r_1 u t H1 locs ht hvm hw hB hz1 hk1 hS => ?_)
  · skip
    try dsimp only at hBX
    obtain ⟨rfl, hc⟩ := hBX
    have hP1 : va_P (dC, dI) vwCl [] H1 := fun k q h => by simp at h
    have hD1 : va_D (va_A [(db, .inr (12, [.ref wb, .int 0])), (dm, .inr (12, [.ref wm, .int 0])), (wb, .inl (kI, 20, .inl (fun _ => 0))), (wm, .inl (kI, 60, .inl (fun _ => 0)))] s.heap.size) [] := ⟨fun i j p q h => by simp at h, fun k q h => by simp at h⟩
    obtain ⟨hP, hD⟩ := va_join (wr := [(out, .inl (kO, 1, .inr (.inl fo)))]) (w1 := []) hP hD [0, 1, 2, 3] [4] rfl rfl (by decide) (by decide) hk1 hFc hP1 hD1
    generalize H1 = H at hP hS hce ⊢
    have hP : va_P (dC, dI) vwCl [(out, .inl (kO, 1, .inr (.inl fo)))] H := hP
    have hD : va_D A [(out, .inl (kO, 1, .inr (.inl fo)))] := hD
    have hR := en_R hR0 hN0 hS
    refine vx_catch (own := RL) (name := "java/lang/IllegalArgumentException") (E := "java/lang/IllegalArgumentException") hown [] ⟨0, 10, 13, 13⟩ [⟨0, 10, 17, 15⟩] hTab (fun _ h9 => absurd h9 List.not_mem_nil) (by decide) (by decide) (hts (.classLink RL 13 "java/lang/IllegalArgumentException") (by decide +kernel)) (va_Nw.use rfl (hE.cast (by decide))) hce hcv hcl ?_
    refine lv_astore (lv' := [(4, .ref q9), (0, .ref h), (1, .int w), (2, .int z), (3, .ref out)]) hx hb dL_ring_13 hl (by decide) rfl (fun ls hl => ?_)
    refine lv_iconst (v := 1) hx hb dL_ring_15 (by decide) ?_
    refine W.widen (k := 2) (n := 12) (Nat.le_of_ble_eq_true rfl) (Nat.le_of_ble_eq_true rfl) ?_
    refine vx_ret ?_
    exact W.iret (v := 1) hx hb hr (fun t ht hW => ⟨⟨1, fo, rfl, (z_c_L_ring_444 w fo hc), cB.mk ht hW (hP.sub [0] rfl) (hK.sub [] rfl) (hD.sub [0] (by decide) rfl) (trivial)⟩, hS.F ht⟩) hS.2.2 dL_ring_16
  have hP1 : va_P (dC, dI) vwCl [] H1 := fun k q h => by simp at h
  have hD1 : va_D (va_A [(db, .inr (12, [.ref wb, .int 0])), (dm, .inr (12, [.ref wm, .int 0])), (wb, .inl (kI, 20, .inl (fun _ => 0))), (wm, .inl (kI, 60, .inl (fun _ => 0)))] s.heap.size) [] := ⟨fun i j p q h => by simp at h, fun k q h => by simp at h⟩
  try dsimp only at hw
  obtain ⟨hP, hD⟩ := va_join (wr := [(out, .inl (kO, 1, .inr (.inl fo)))]) (w1 := []) hP hD [0, 1, 2, 3] [4] rfl rfl (by decide) (by decide) hk1 hFc hP1 hD1
  generalize H1 = H at hP hS ⊢
  have hP : va_P (dC, dI) vwCl [(out, .inl (kO, 1, .inr (.inl fo)))] H := hP
  have hD : va_D A [(out, .inl (kO, 1, .inr (.inl fo)))] := hD
  have hR := en_R hR0 hN0 hS
  refine W.widen (k := 2) (n := 12) (Nat.le_of_ble_eq_true rfl) (Nat.le_of_ble_eq_true rfl) ?_
  obtain ⟨hw, h_2⟩ := hw
  subst r_1
  refine lv_i2l hx hb dL_ring_8 rfl ?_
  refine lv_topl (fun y_3 ey_3 => ?_)
  refine va_last hx hb hK hP hD hS 0 1 rfl rfl (vp_in_nI (by decide : 0 < 1) (by decide)) dL_ring_9 (fun H locs hP hD hS => ?_)
  generalize ef_4 : vp_updL fo (0 : Int32).toNatClampNeg y_3 = f_4 at hP hD
  have hP : va_P (dC, dI) vwCl [(out, .inl (kO, 1, .inr (.inl f_4)))] H := hP
  have hD : va_D A [(out, .inl (kO, 1, .inr (.inl f_4)))] := hD
  have hR := en_R hR0 hN0 hS
  have h_5 : f_4 0 = y_3 := by rw [← ef_4]; exact pk_uLs
  refine lv_goto (tgt := 21) hx hb dL_ring_10 (by decide) ?_
  refine lv_iconst (v := 0) hx hb dL_ring_21 (by decide) ?_
  refine W.widen (k := 2) (n := 12) (Nat.le_of_ble_eq_true rfl) (Nat.le_of_ble_eq_true rfl) ?_
  refine vx_ret ?_
  exact W.iret (v := 0) hx hb hr (fun t ht hW => ⟨⟨0, f_4, rfl, (z_c_L_ring_445 w y_3 f_4 h_2 ey_3 h_5), cB.mk ht hW (hP.sub [0] rfl) (hK.sub [] rfl) (hD.sub [0] (by decide) rfl) (trivial)⟩, hS.F ht⟩) hS.2.2 dL_ring_22
