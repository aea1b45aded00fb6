/-! what the law's start gives: the environment of the calls, with b0 the size of the heap where the law begins -/
def st_G : List Cond := flatC (Jvm.Cond.and given_1 narrow_1)
theorem st_eq {args : Array Value} {s : State} {t u : Term} {a : Nat} {nm : String} (h : (Cond.eq t u).before args s = true) (hx : (Cond.exactly u nm).before args s = true) (ht : t.eval args s none [] s = some (.ref a)) : u.eval args s none [] s = some (.ref a) := by
  obtain ⟨a2, c, cA, kA, q1, -⟩ := Cond.exactly_spec (args := args) (first := s) (o := none) (s := s) (idx := []) (t := u) (cls := nm) hx
  simp only [Cond.before, Cond.holds, Cond.value, ht, q1] at h
  have h2 : a = a2 := by simpa using h
  rw [h2]; exact q1
theorem st_ref {args : Array Value} {s : State} {u : Term} {nm : String} (hx : (Cond.exactly u nm).before args s = true) : ∃ a : Nat, u.eval args s none [] s = some (.ref a) := by
  obtain ⟨a2, c, cA, kA, q1, -⟩ := Cond.exactly_spec (args := args) (first := s) (o := none) (s := s) (idx := []) (t := u) (cls := nm) hx
  exact ⟨a2, q1⟩
theorem st_lit {args : Array Value} {s : State} {own : String} {k : Nat} {bs : List Int32} {A : Nat → Prop} (hA : ∀ a : Nat, a < s.heap.size → ¬ A a) (hn : bs.length < 2 ^ 31) (h1 : (Cond.exactly (.string own k) "java/lang/String").before args s = true) (h2 : (Cond.eq (.field (.string own k) "java/lang/String" "coder" "B") (.int 0)).before args s = true) (h3 : (Cond.arrayOf (.field (.string own k) "java/lang/String" "value" "[B") .byte).before args s = true) (h4 : (Cond.eq (.length (.field (.string own k) "java/lang/String" "value" "[B")) (.int (Int32.ofNat bs.length))).before args s = true) (h5 : ∀ j : Nat, j < bs.length → (Cond.eq (.elem (.field (.string own k) "java/lang/String" "value" "[B") (.int (Int32.ofNat j))) (.int (bs.getD j 0))).before args s = true) :
    ∃ a t : Nat, (Term.string own k).eval args s none [] s = some (.ref a) ∧ va_O "java/lang/String" a A s s.heap ∧ va_OF "java/lang/String" "coder" "B" (.int 0) a A s s.heap ∧ va_OF "java/lang/String" "value" "[B" (.ref t) a A s s.heap ∧ va_T .byte t bs.length (fun j => .int (bs.getD j 0)) A s s.heap := by
  obtain ⟨a, ha⟩ := st_ref h1
  obtain ⟨t, ht, hT⟩ := va_Tof (f := fun j => .int (bs.getD j 0)) hn h3 (va_eqt h4) (fun j hj => va_eqt (h5 j hj)) hA
  exact ⟨a, t, ha, va_Oof h1 ha hA, vk_OFof ha (va_eqt h2) hA, vk_OFof ha ht hA, hT⟩
def st_E : Nat → String × Nat := fun i => ([("Underpaint", 79), ("Underpaint", 216), ("Underpaint", 369), ("UnderpaintModel", 146), ("UnderpaintModel", 187), ("UnderpaintModel", 306)] : List (String × Nat)).getD i ("", 0)
def st_L (i : Nat) : List Cond := [Cond.exactly (.string (st_E i).1 (st_E i).2) "java/lang/String", .eq (.field (.string (st_E i).1 (st_E i).2) "java/lang/String" "coder" "B") (.int 0), .arrayOf (.field (.string (st_E i).1 (st_E i).2) "java/lang/String" "value" "[B") .byte, .eq (.length (.field (.string (st_E i).1 (st_E i).2) "java/lang/String" "value" "[B")) (.int (Int32.ofNat (en_B.getD i []).length))] ++ (List.range (en_B.getD i []).length).map (fun j => .eq (.elem (.field (.string (st_E i).1 (st_E i).2) "java/lang/String" "value" "[B") (.int (Int32.ofNat j))) (.int ((en_B.getD i []).getD j 0)))
theorem st_L0 : ∀ w ∈ st_L 0, w ∈ st_G := by decide +kernel
theorem st_L1 : ∀ w ∈ st_L 1, w ∈ st_G := by decide +kernel
theorem st_L2 : ∀ w ∈ st_L 2, w ∈ st_G := by decide +kernel
theorem st_L3 : ∀ w ∈ st_L 3, w ∈ st_G := by decide +kernel
theorem st_L4 : ∀ w ∈ st_L 4, w ∈ st_G := by decide +kernel
theorem st_L5 : ∀ w ∈ st_L 5, w ∈ st_G := by decide +kernel
theorem st_Lr : ∀ i : Nat, i < 6 → ∀ w ∈ st_L i, w ∈ st_G
  | 0, _ => st_L0
  | 1, _ => st_L1
  | 2, _ => st_L2
  | 3, _ => st_L3
  | 4, _ => st_L4
  | 5, _ => st_L5
  | n + 6, h => absurd h (by omega)
theorem st_lits {args : Array Value} {s : State} {A : Nat → Prop} (hA : ∀ a : Nat, a < s.heap.size → ¬ A a) (hs : ∀ c ∈ st_G, c.before args s = true) : ∃ f g : Nat → Nat, ∀ i : Nat, i < 6 → (Term.string (st_E i).1 (st_E i).2).eval args s none [] s = some (.ref (f i)) ∧ va_O "java/lang/String" (f i) A s s.heap ∧ va_OF "java/lang/String" "coder" "B" (.int 0) (f i) A s s.heap ∧ va_OF "java/lang/String" "value" "[B" (.ref (g i)) (f i) A s s.heap ∧ va_T .byte (g i) (en_B.getD i []).length (fun j => .int ((en_B.getD i []).getD j 0)) A s s.heap := by
  have h : ∀ i : Nat, ∃ q : Nat × Nat, i < 6 → (Term.string (st_E i).1 (st_E i).2).eval args s none [] s = some (.ref q.1) ∧ va_O "java/lang/String" q.1 A s s.heap ∧ va_OF "java/lang/String" "coder" "B" (.int 0) q.1 A s s.heap ∧ va_OF "java/lang/String" "value" "[B" (.ref q.2) q.1 A s s.heap ∧ va_T .byte q.2 (en_B.getD i []).length (fun j => .int ((en_B.getD i []).getD j 0)) A s s.heap := by
    intro i
    by_cases hi : i < 6
    · have hm := st_Lr i hi
      have hL : ∀ w ∈ st_L i, w.before args s = true := fun w hw => hs w (hm w hw)
      obtain ⟨a, t, q⟩ := st_lit (own := (st_E i).1) (k := (st_E i).2) (bs := en_B.getD i []) hA (by have := en_len i hi; omega) (hL _ (List.mem_append_left _ List.mem_cons_self)) (hL _ (List.mem_append_left _ (List.mem_cons_of_mem _ List.mem_cons_self))) (hL _ (List.mem_append_left _ (List.mem_cons_of_mem _ (List.mem_cons_of_mem _ List.mem_cons_self)))) (hL _ (List.mem_append_left _ (List.mem_cons_of_mem _ (List.mem_cons_of_mem _ (List.mem_cons_of_mem _ List.mem_cons_self))))) (fun j hj => hL _ (List.mem_append_right _ (List.mem_map.mpr ⟨j, List.mem_range.mpr hj, rfl⟩)))
      exact ⟨(a, t), fun _ => q⟩
    · exact ⟨(0, 0), fun z => absurd z hi⟩
  exact ⟨fun i => (Classical.choose (h i)).1, fun i => (Classical.choose (h i)).2, fun i hi => Classical.choose_spec (h i) hi⟩
def st_W1 : List Cond := en_X.map (fun E => Cond.castable E E) ++ en_T.map (fun q => Cond.stringRef RX11 q.1 q.2) ++ en_J.map (fun q => Cond.stringRef q.2.1 q.2.2.1 q.2.2.2) ++ en_D.map (fun n => Cond.declares (Bundle.initS n)) ++ en_AR.map (fun C => Cond.arrayOver (.object C)) ++ en_O.map (fun C => Cond.castable C "java/lang/Object")
def st_W2 : List Cond := en_F.map (fun q => Cond.fieldLinkNest q.1 q.2.1 q.2.2.1 q.2.2.2.1 q.2.2.2.2.1 q.2.2.2.2.2)
def st_W3 : List Cond := en_M.map (fun q => Cond.methodLinkNest q.1 q.2.1 q.2.2.1 q.2.2.2)
def st_W4 : List Cond := en_I.flatMap (fun q => [Cond.declares q.2.1, .interfaceMethod q.2.1.cls q.2.1.cls q.2.1.name q.2.1.desc, .publicMethod q.2.2, .unhidden q.1 q.2.1.name q.2.1.desc, .castable q.1 q.2.1.cls])
def st_S : List (String × String × String) := [("java/lang/Throwable", "UNASSIGNED_STACK", "[Ljava/lang/StackTraceElement;"), ("java/lang/Throwable", "SUPPRESSED_SENTINEL", "Ljava/util/List;"), ("java/lang/String", "COMPACT_STRINGS", "Z"), ("java/util/ArrayList", "DEFAULTCAPACITY_EMPTY_ELEMENTDATA", "[Ljava/lang/Object;"), ("Underpaint", "SIDE_X", "[I"), ("Underpaint", "SIDE_Y", "[I"), ("java/lang/Integer$IntegerCache", "high", "I"), ("java/lang/Integer$IntegerCache", "cache", "[Ljava/lang/Integer;"), ("jdk/internal/util/Preconditions", "SIOOBE_FORMATTER", "Ljava/util/function/BiFunction;")]
def st_W5 : List Cond := st_S.flatMap (fun q => [Cond.laysStatic q.1 q.2.1 q.2.2, .initialized q.1]) ++ [Cond.declares ⟨"java/lang/Object", "getClass", "()Ljava/lang/Class;"⟩]
theorem st_W1_in : ∀ w ∈ st_W1, w ∈ lw_tbl := by decide +kernel
theorem st_W2_in : ∀ w ∈ st_W2, w ∈ lw_tbl := by decide +kernel
theorem st_W3_in : ∀ w ∈ st_W3, w ∈ lw_tbl := by decide +kernel
theorem st_W4_in : ∀ w ∈ st_W4, w ∈ lw_tbl := by decide +kernel
theorem st_W5_in : ∀ w ∈ st_W5, w ∈ lw_tbl := by decide +kernel
def st_N : List Cond := (en_X.flatMap (fun E => (en_X.filter (fun F => F ≠ E)).map (fun F => Cond.not (.castable E F))))
theorem st_N_in : ∀ w ∈ st_N, w ∈ st_G := by decide +kernel
def st_V : List Cond := [Cond.eq (.static "java/lang/String" "COMPACT_STRINGS" "Z") (.int 1), .arrayOf (.static "java/util/ArrayList" "DEFAULTCAPACITY_EMPTY_ELEMENTDATA" "[Ljava/lang/Object;") (.object "java/lang/Object"), .eq (.length (.static "java/util/ArrayList" "DEFAULTCAPACITY_EMPTY_ELEMENTDATA" "[Ljava/lang/Object;")) (.int (Int32.ofNat 0)), .exactly (.static "java/util/ArrayList" "DEFAULTCAPACITY_EMPTY_ELEMENTDATA" "[Ljava/lang/Object;") "[Ljava/lang/Object;", .arrayOf (.static "Underpaint" "SIDE_X" "[I") .int, .eq (.length (.static "Underpaint" "SIDE_X" "[I")) (.int (Int32.ofNat 4)), .eq (.elem (.static "Underpaint" "SIDE_X" "[I") (.int (Int32.ofNat 0))) (.int (en_SX.getD 0 0)), .eq (.elem (.static "Underpaint" "SIDE_X" "[I") (.int (Int32.ofNat 1))) (.int (en_SX.getD 1 0)), .eq (.elem (.static "Underpaint" "SIDE_X" "[I") (.int (Int32.ofNat 2))) (.int (en_SX.getD 2 0)), .eq (.elem (.static "Underpaint" "SIDE_X" "[I") (.int (Int32.ofNat 3))) (.int (en_SX.getD 3 0)), .arrayOf (.static "Underpaint" "SIDE_Y" "[I") .int, .eq (.length (.static "Underpaint" "SIDE_Y" "[I")) (.int (Int32.ofNat 4)), .eq (.elem (.static "Underpaint" "SIDE_Y" "[I") (.int (Int32.ofNat 0))) (.int (en_SY.getD 0 0)), .eq (.elem (.static "Underpaint" "SIDE_Y" "[I") (.int (Int32.ofNat 1))) (.int (en_SY.getD 1 0)), .eq (.elem (.static "Underpaint" "SIDE_Y" "[I") (.int (Int32.ofNat 2))) (.int (en_SY.getD 2 0)), .eq (.elem (.static "Underpaint" "SIDE_Y" "[I") (.int (Int32.ofNat 3))) (.int (en_SY.getD 3 0)), .eq (.static "java/lang/Integer$IntegerCache" "high" "I") (.int 127), .arrayOf (.static "java/lang/Integer$IntegerCache" "cache" "[Ljava/lang/Integer;") (.object "java/lang/Integer"), .eq (.length (.static "java/lang/Integer$IntegerCache" "cache" "[Ljava/lang/Integer;")) (.int (Int32.ofNat 256)), .all (.static "java/lang/Integer$IntegerCache" "cache" "[Ljava/lang/Integer;") (.and (.exactly (.elem (.static "java/lang/Integer$IntegerCache" "cache" "[Ljava/lang/Integer;") (.index 0)) "java/lang/Integer") (.eq (.field (.elem (.static "java/lang/Integer$IntegerCache" "cache" "[Ljava/lang/Integer;") (.index 0)) "java/lang/Integer" "value" "I") (.sub (.index 0) (.int 128)))), .isRef (.static "java/lang/Throwable" "UNASSIGNED_STACK" "[Ljava/lang/StackTraceElement;"), .isRef (.static "java/lang/Throwable" "SUPPRESSED_SENTINEL" "Ljava/util/List;"), .isRef (.static "jdk/internal/util/Preconditions" "SIOOBE_FORMATTER" "Ljava/util/function/BiFunction;")]
theorem st_V_in : ∀ w ∈ st_V, w ∈ st_G := by decide +kernel
def st_P : List Cond := [Cond.eq (.string "Underpaint" 79) (.string "UnderpaintModel" 80), .exactly (.string "UnderpaintModel" 80) "java/lang/String", Cond.eq (.string "Underpaint" 216) (.string "UnderpaintModel" 177), .exactly (.string "UnderpaintModel" 177) "java/lang/String", Cond.eq (.string "Underpaint" 369) (.string "UnderpaintModel" 301), .exactly (.string "UnderpaintModel" 301) "java/lang/String"]
theorem st_P_in : ∀ w ∈ st_P, w ∈ st_G := by decide +kernel
theorem st_T_in : ∀ w ∈ en_T.map (fun q => Cond.exactly (.string RX11 q.1) "java/lang/String"), w ∈ st_G := by decide +kernel
theorem vb_C.congr {f g : Nat → Nat} {A : Nat → Prop} {U : State} {H : Heap} (e : ∀ k : Nat, k < 256 → g k = f k) (h : vb_C f A U H) : vb_C g A U H := ⟨fun k hk => by rw [e k hk]; exact h.1 k hk, fun k hk => by have := h.2 k hk; rw [e k hk]; exact this⟩
theorem va_T.congr {ty : FieldType} {t N : Nat} {f g : Nat → Value} {A : Nat → Prop} {U : State} {H : Heap} (e : ∀ k : Nat, k < N → g k = f k) (h : va_T ty t N f A U H) : va_T ty t N g A U H := by
  obtain ⟨c, h1, h2, h3, h4, h5, h6, h7⟩ := h
  exact ⟨c, h1, h2, h3, h4, h5, fun j hj => by rw [e j hj]; exact h6 j hj, h7⟩
def st_o (a b c m : Nat) (ad : Nat → Nat) : Nat → Nat := fun n => if n = 0 then a else if n = 1 then b else if n = 2 then c else if n = 259 then m else ad (n - 3)
theorem st_o3 {a b c m : Nat} {ad : Nat → Nat} (k : Nat) (hk : k < 256) : st_o a b c m ad (3 + k) = ad k := by
  unfold st_o
  rw [if_neg (by omega), if_neg (by omega), if_neg (by omega), if_neg (by omega), show 3 + k - 3 = k by omega]
theorem start_env {args : Array Value} {s : State} (hts : ∀ w ∈ lw_tbl, w.before args s = true) (hgv : (Jvm.Cond.and given_1 narrow_1).before args s = true) (hmi : (Cond.isRef (.mirror "[Ljava/lang/Object;")).before args s = true) : ∃ en : EnT, EN s.heap.size en s s.heap := by
  have hs : ∀ c ∈ st_G, c.before args s = true := flat_of_before _ hgv
  have hA : ∀ a : Nat, a < s.heap.size → ¬ (fun q : Nat => s.heap.size ≤ q) a := fun a h => Nat.not_le.mpr h
  have h1 : ∀ w ∈ st_W1, w.before args s = true := fun w hw => hts w (st_W1_in w hw)
  have h2 : ∀ w ∈ st_W2, w.before args s = true := fun w hw => hts w (st_W2_in w hw)
  have h3 : ∀ w ∈ st_W3, w.before args s = true := fun w hw => hts w (st_W3_in w hw)
  have h4 : ∀ w ∈ st_W4, w.before args s = true := fun w hw => hts w (st_W4_in w hw)
  have h5 : ∀ w ∈ st_W5, w.before args s = true := fun w hw => hts w (st_W5_in w hw)
  have hv : ∀ w ∈ st_V, w.before args s = true := fun w hw => hs w (st_V_in w hw)
  have hp : ∀ w ∈ st_P, w.before args s = true := fun w hw => hs w (st_P_in w hw)
  obtain ⟨f, g, hfg⟩ := st_lits hA hs
  have z0 := vx_Zqof (A := fun q => s.heap.size ≤ q) (h5 _ (List.mem_of_getElem? (i := 0) rfl)) (h5 _ (List.mem_of_getElem? (i := 1) rfl)) (hv _ (List.mem_of_getElem? (i := 20) rfl)) hA
  have z1 := vx_Zqof (A := fun q => s.heap.size ≤ q) (h5 _ (List.mem_of_getElem? (i := 2) rfl)) (h5 _ (List.mem_of_getElem? (i := 3) rfl)) (hv _ (List.mem_of_getElem? (i := 21) rfl)) hA
  have z2 := va_Zof (A := fun q => s.heap.size ≤ q) (h5 _ (List.mem_of_getElem? (i := 4) rfl)) (h5 _ (List.mem_of_getElem? (i := 5) rfl)) (va_eqt (hv _ (List.mem_of_getElem? (i := 0) rfl))) hA
  obtain ⟨ea, eev, eeT⟩ := va_Tof (A := fun q => s.heap.size ≤ q) (N := 0) (f := fun _ => .null) (by decide) (hv _ (List.mem_of_getElem? (i := 1) rfl)) (va_eqt (hv _ (List.mem_of_getElem? (i := 2) rfl))) (fun j hj => absurd hj (Nat.not_lt_zero j)) hA
  have z3 := va_Zof (A := fun q => s.heap.size ≤ q) (h5 _ (List.mem_of_getElem? (i := 6) rfl)) (h5 _ (List.mem_of_getElem? (i := 7) rfl)) eev hA
  have eeO := va_Oof (A := fun q => s.heap.size ≤ q) (hv _ (List.mem_of_getElem? (i := 3) rfl)) eev hA
  obtain ⟨sx, sxv, sxT⟩ := va_Tof (A := fun q => s.heap.size ≤ q) (N := 4) (f := fun j => .int (en_SX.getD j 0)) (by decide) (hv _ (List.mem_of_getElem? (i := 4) rfl)) (va_eqt (hv _ (List.mem_of_getElem? (i := 5) rfl))) (fun j hj => by rcases j with _ | _ | _ | _ | j <;> first | exact va_eqt (hv _ (List.mem_of_getElem? (i := 6) rfl)) | exact va_eqt (hv _ (List.mem_of_getElem? (i := 7) rfl)) | exact va_eqt (hv _ (List.mem_of_getElem? (i := 8) rfl)) | exact va_eqt (hv _ (List.mem_of_getElem? (i := 9) rfl)) | omega) hA
  have zx := va_Zof (A := fun q => s.heap.size ≤ q) (h5 _ (List.mem_of_getElem? (i := 8) rfl)) (h5 _ (List.mem_of_getElem? (i := 9) rfl)) sxv hA
  obtain ⟨sy, syv, syT⟩ := va_Tof (A := fun q => s.heap.size ≤ q) (N := 4) (f := fun j => .int (en_SY.getD j 0)) (by decide) (hv _ (List.mem_of_getElem? (i := 10) rfl)) (va_eqt (hv _ (List.mem_of_getElem? (i := 11) rfl))) (fun j hj => by rcases j with _ | _ | _ | _ | j <;> first | exact va_eqt (hv _ (List.mem_of_getElem? (i := 12) rfl)) | exact va_eqt (hv _ (List.mem_of_getElem? (i := 13) rfl)) | exact va_eqt (hv _ (List.mem_of_getElem? (i := 14) rfl)) | exact va_eqt (hv _ (List.mem_of_getElem? (i := 15) rfl)) | omega) hA
  have zy := va_Zof (A := fun q => s.heap.size ≤ q) (h5 _ (List.mem_of_getElem? (i := 10) rfl)) (h5 _ (List.mem_of_getElem? (i := 11) rfl)) syv hA
  have z6 := va_Zof (A := fun q => s.heap.size ≤ q) (h5 _ (List.mem_of_getElem? (i := 12) rfl)) (h5 _ (List.mem_of_getElem? (i := 13) rfl)) (va_eqt (hv _ (List.mem_of_getElem? (i := 16) rfl))) hA
  obtain ⟨ad, adC, adE⟩ := vb_Cof (A := fun q => s.heap.size ≤ q) (st := (.static "java/lang/Integer$IntegerCache" "cache" "[Ljava/lang/Integer;")) rfl (va_eqt (hv _ (List.mem_of_getElem? (i := 18) rfl))) (hv _ (List.mem_of_getElem? (i := 19) rfl)) hA
  obtain ⟨ic, icv, icT⟩ := va_Tof (A := fun q => s.heap.size ≤ q) (N := 256) (f := fun j => .ref (ad j)) (by decide) (hv _ (List.mem_of_getElem? (i := 17) rfl)) (va_eqt (hv _ (List.mem_of_getElem? (i := 18) rfl))) adE hA
  have z7 := va_Zof (A := fun q => s.heap.size ≤ q) (h5 _ (List.mem_of_getElem? (i := 14) rfl)) (h5 _ (List.mem_of_getElem? (i := 15) rfl)) icv hA
  have z8 := va_Zqof (A := fun q => s.heap.size ≤ q) (h5 _ (List.mem_of_getElem? (i := 16) rfl)) (h5 _ (List.mem_of_getElem? (i := 17) rfl)) (hv _ (List.mem_of_getElem? (i := 22) rfl)) hA
  obtain ⟨mi, hmir⟩ := va_Mi.of hmi
  have e0 := (hfg 0 (by decide)).1
  have e1 := (hfg 1 (by decide)).1
  have e2 := (hfg 2 (by decide)).1
  have k0 := st_eq (hp _ (List.mem_of_getElem? (i := 0) rfl)) (hp _ (List.mem_of_getElem? (i := 1) rfl)) e0
  have k1 := st_eq (hp _ (List.mem_of_getElem? (i := 2) rfl)) (hp _ (List.mem_of_getElem? (i := 3) rfl)) e1
  have k2 := st_eq (hp _ (List.mem_of_getElem? (i := 4) rfl)) (hp _ (List.mem_of_getElem? (i := 5) rfl)) e2
  refine ⟨(f, g, ea, st_o sx sy ic mi ad), ⟨fun i hi => (hfg i hi).2, z0, z1, z2, z3, eeT, zx, sxT, zy, syT, z6, z7, icT.congr (fun k hk => congrArg Value.ref (st_o3 k hk)), adC.congr (fun k hk => st_o3 k hk), z8, eeO⟩, ?_⟩
  refine ⟨fun E hE => ?_, fun E hE F hF n => ?_, fun k hk => ?_, fun q hq => ?_, fun q hq => ?_, fun q hq => ?_, fun n hn => ?_, fun q hq => ?_, fun C hC => ?_, fun C hC => ?_, ?_, hmir⟩
  · exact va_Nw.of rfl (h1 _ (by unfold st_W1; simp only [List.append_assoc]; exact List.mem_append_left _ (List.mem_map.mpr ⟨E, hE, rfl⟩)))
  · exact va_Nc.of (hs _ (st_N_in _ (List.mem_flatMap.mpr ⟨E, hE, List.mem_map.mpr ⟨F, List.mem_filter.mpr ⟨hF, by simpa using fun z => n z.symm⟩, rfl⟩⟩)))
  · have hw : (Cond.stringRef RX11 k.1 k.2).before args s = true := h1 _ (by unfold st_W1; simp only [List.append_assoc]; exact List.mem_append_right _ (List.mem_append_left _ (List.mem_map.mpr ⟨k, hk, rfl⟩)))
    obtain ⟨a, ha⟩ := st_ref (hs _ (st_T_in _ (List.mem_map.mpr ⟨k, hk, rfl⟩)))
    exact ⟨a, vk_R.of hw ha⟩
  · have hw : (Cond.stringRef q.2.1 q.2.2.1 q.2.2.2).before args s = true := h1 _ (by unfold st_W1; simp only [List.append_assoc]; exact List.mem_append_right _ (List.mem_append_right _ (List.mem_append_left _ (List.mem_map.mpr ⟨q, hq, rfl⟩))))
    refine vk_R.of hw ?_
    simp only [en_J, List.mem_cons, List.not_mem_nil, or_false] at hq
    rcases hq with rfl | rfl | rfl | rfl | rfl | rfl | rfl | rfl | rfl
    · exact e0
    · exact k0
    · exact e1
    · exact k1
    · exact e2
    · exact k2
    · exact (hfg 3 (by decide)).1
    · exact (hfg 4 (by decide)).1
    · exact (hfg 5 (by decide)).1
  · exact va_Nw.of rfl (h2 _ (List.mem_map.mpr ⟨q, hq, rfl⟩))
  · exact va_Nw.of rfl (h3 _ (List.mem_map.mpr ⟨q, hq, rfl⟩))
  · exact va_Nw.of rfl (h1 _ (by unfold st_W1; simp only [List.append_assoc]; exact List.mem_append_right _ (List.mem_append_right _ (List.mem_append_right _ (List.mem_append_left _ (List.mem_map.mpr ⟨n, hn, rfl⟩))))))
  · have hw : ∀ w ∈ [Cond.declares q.2.1, .interfaceMethod q.2.1.cls q.2.1.cls q.2.1.name q.2.1.desc, .publicMethod q.2.2, .unhidden q.1 q.2.1.name q.2.1.desc, .castable q.1 q.2.1.cls], w.before args s = true := fun w hw => h4 w (List.mem_flatMap.mpr ⟨q, hq, hw⟩)
    exact va_Fw.of (hw _ (List.mem_of_getElem? (i := 0) rfl)) (hw _ (List.mem_of_getElem? (i := 1) rfl)) (hw _ (List.mem_of_getElem? (i := 2) rfl)) (hw _ (List.mem_of_getElem? (i := 3) rfl)) (hw _ (List.mem_of_getElem? (i := 4) rfl))
  · exact va_AO.of (h1 _ (by unfold st_W1; simp only [List.append_assoc]; exact List.mem_append_right _ (List.mem_append_right _ (List.mem_append_right _ (List.mem_append_right _ (List.mem_append_left _ (List.mem_map.mpr ⟨C, hC, rfl⟩)))))))
  · exact va_Nw.of rfl (h1 _ (by unfold st_W1; simp only [List.append_assoc]; exact List.mem_append_right _ (List.mem_append_right _ (List.mem_append_right _ (List.mem_append_right _ (List.mem_append_right _ (List.mem_map.mpr ⟨C, hC, rfl⟩)))))))
  · exact va_Dc.of (h5 _ (List.mem_of_getElem? (i := 18) rfl))
