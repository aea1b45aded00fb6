/-! THE ENVIRONMENT OF A CALL: what every contract asks of the state beside its own cells: the statics of Throwable, the casts of the exceptions, the texts of the messages, the links among nest mates, the literals, the one empty array of all lists. b0: the size of the heap where the law began; all these lie below it. en: where the literals and their bytes lie, the empty array, and (0, 1, 2) the arrays of the sides and of the small Integers, from 3 on these -/
abbrev EnT : Type := (Nat → Nat) × (Nat → Nat) × Nat × (Nat → Nat)
def en_X : List String := ["java/lang/IllegalArgumentException", "java/lang/IllegalStateException", "java/lang/IndexOutOfBoundsException", "java/lang/UnsupportedOperationException", "java/util/NoSuchElementException", "java/lang/ArithmeticException"]
def en_D : List String := ["java/lang/RuntimeException", "java/lang/Exception", "java/lang/Throwable"]
def en_T : List (Nat × String) := [(453, "out of range, or of no such kind"), (458, "no such place"), (460, "no such ray or place"), (464, "no such number"), (469, "there is none"), (474, "this cannot be done"), (479, "there is no room for more"), (484, "no place has a layer")]
def en_F : List (String × Nat × String × String × String × String) := [("Underpaint$Picture", 55, "Underpaint", "SIDE_X", "[I", "Underpaint"), ("Underpaint$Picture", 58, "Underpaint", "SIDE_Y", "[I", "Underpaint"), ("UnderpaintModel", 137, "UnderpaintModel$Picture", "at", "[LUnderpaintModel$Place;", "UnderpaintModel"), ("UnderpaintModel", 141, "UnderpaintModel$Place", "layers", "Ljava/util/List;", "UnderpaintModel"), ("UnderpaintModel", 154, "UnderpaintModel$Layer", "of", "LUnderpaintModel$Stuff;", "UnderpaintModel"), ("UnderpaintModel", 158, "UnderpaintModel$Stuff", "number", "I", "UnderpaintModel"), ("UnderpaintModel", 161, "UnderpaintModel$Layer", "thickness", "I", "UnderpaintModel"), ("UnderpaintModel", 164, "UnderpaintModel$Layer", "year", "I", "UnderpaintModel"), ("UnderpaintModel", 167, "UnderpaintModel$Layer", "tone", "I", "UnderpaintModel"), ("UnderpaintModel", 170, "UnderpaintModel$Layer", "yellow", "I", "UnderpaintModel"), ("UnderpaintModel", 173, "UnderpaintModel$Place", "tired", "I", "UnderpaintModel"), ("UnderpaintModel", 176, "UnderpaintModel$Picture", "year", "I", "UnderpaintModel"), ("UnderpaintModel", 196, "UnderpaintModel$Stuff", "tone", "I", "UnderpaintModel"), ("UnderpaintModel", 200, "UnderpaintModel$Stuff", "kind", "C", "UnderpaintModel"), ("UnderpaintModel", 237, "UnderpaintModel$Stuff", "year", "I", "UnderpaintModel"), ("UnderpaintModel", 256, "UnderpaintModel$Picture", "scratches", "Ljava/util/List;", "UnderpaintModel"), ("UnderpaintModel", 264, "UnderpaintModel$Scratch", "place", "I", "UnderpaintModel"), ("UnderpaintModel", 267, "UnderpaintModel$Scratch", "left", "I", "UnderpaintModel"), ("UnderpaintModel", 277, "UnderpaintModel$Picture", "wasGlaze", "Z", "UnderpaintModel"), ("UnderpaintModel", 291, "UnderpaintModel$Stuff", "lamp", "I", "UnderpaintModel"), ("UnderpaintModel", 326, "UnderpaintModel$Act", "what", "C", "UnderpaintModel"), ("UnderpaintModel$Picture", 44, "UnderpaintModel$Place", "tired", "I", "UnderpaintModel"), ("UnderpaintModel$Picture", 47, "UnderpaintModel$Place", "layers", "Ljava/util/List;", "UnderpaintModel"), ("UnderpaintModel$Picture", 66, "UnderpaintModel$Layer", "of", "LUnderpaintModel$Stuff;", "UnderpaintModel"), ("UnderpaintModel$Picture", 70, "UnderpaintModel$Layer", "thickness", "I", "UnderpaintModel"), ("UnderpaintModel$Picture", 73, "UnderpaintModel$Layer", "year", "I", "UnderpaintModel"), ("UnderpaintModel$Picture", 74, "UnderpaintModel$Layer", "tone", "I", "UnderpaintModel"), ("UnderpaintModel$Picture", 80, "UnderpaintModel$Layer", "yellow", "I", "UnderpaintModel"), ("UnderpaintModel$Picture", 124, "UnderpaintModel$Stuff", "kind", "C", "UnderpaintModel"), ("UnderpaintModel$Picture", 135, "UnderpaintModel$Stuff", "fading", "I", "UnderpaintModel"), ("UnderpaintModel$Picture", 144, "UnderpaintModel", "clashes", "[Z", "UnderpaintModel"), ("UnderpaintModel$Picture", 148, "UnderpaintModel$Stuff", "number", "I", "UnderpaintModel"), ("UnderpaintModel$Picture", 151, "UnderpaintModel$Stuff", "hold", "I", "UnderpaintModel"), ("UnderpaintModel$Picture", 161, "UnderpaintModel$Act", "n", "[I", "UnderpaintModel"), ("UnderpaintModel$Picture", 167, "UnderpaintModel$Act", "what", "C", "UnderpaintModel"), ("UnderpaintModel$Picture", 170, "UnderpaintModel", "stuffs", "Ljava/util/List;", "UnderpaintModel"), ("UnderpaintModel$Picture", 200, "UnderpaintModel$Stuff", "tone", "I", "UnderpaintModel"), ("UnderpaintModel$Picture", 206, "UnderpaintModel$Place", "number", "I", "UnderpaintModel"), ("UnderpaintModel$Place", 40, "UnderpaintModel$Layer", "thickness", "I", "UnderpaintModel"), ("UnderpaintModel$Place", 66, "UnderpaintModel$Layer", "of", "LUnderpaintModel$Stuff;", "UnderpaintModel"), ("UnderpaintModel$Place", 70, "UnderpaintModel$Stuff", "kind", "C", "UnderpaintModel"), ("UnderpaintModel$Place", 76, "UnderpaintModel$Stuff", "cover", "I", "UnderpaintModel"), ("UnderpaintModel$Place", 79, "UnderpaintModel$Layer", "yellow", "I", "UnderpaintModel"), ("UnderpaintModel$Place", 82, "UnderpaintModel$Layer", "tone", "I", "UnderpaintModel"), ("UnderpaintModel$Place", 88, "UnderpaintModel$Stuff", "weight", "I", "UnderpaintModel"), ("UnderpaintModel$Place", 91, "UnderpaintModel$Stuff", "isThrough", "Z", "UnderpaintModel"), ("UnderpaintModel$Place", 95, "UnderpaintModel$Stuff", "number", "I", "UnderpaintModel"), ("UnderpaintModel$Place", 100, "UnderpaintModel$Stuff", "lamp", "I", "UnderpaintModel"), ("java/util/ArrayList$Itr", 28, "java/util/ArrayList", "size", "I", "java/util/ArrayList")]
def en_M : List (String × Nat × MethodName × String) := [("Underpaint", 24, ⟨"Underpaint$Notes", "<init>", "()V"⟩, "Underpaint"), ("Underpaint", 31, ⟨"Underpaint$Dates", "<init>", "()V"⟩, "Underpaint"), ("Underpaint", 38, ⟨"Underpaint$Votes", "<init>", "()V"⟩, "Underpaint"), ("Underpaint", 45, ⟨"Underpaint$Loan", "<init>", "()V"⟩, "Underpaint"), ("Underpaint$Act", 9, ⟨"Underpaint$Loan", "<init>", "()V"⟩, "Underpaint"), ("Underpaint$Picture", 36, ⟨"Underpaint", "placeOf", "(II)I"⟩, "Underpaint"), ("Underpaint$Picture", 61, ⟨"Underpaint", "isPlace", "(II)Z"⟩, "Underpaint"), ("UnderpaintModel$Picture", 87, ⟨"UnderpaintModel", "in", "(III)Z"⟩, "UnderpaintModel")]
def en_J : List (Nat × String × Nat × String) := [(0, "Underpaint", 79, "sgdpzvfrx"), (0, "UnderpaintModel", 80, "sgdpzvfrx"), (1, "Underpaint", 216, "pwhlr"), (1, "UnderpaintModel", 177, "pwhlr"), (2, "Underpaint", 369, "leh"), (2, "UnderpaintModel", 301, "leh"), (3, "UnderpaintModel", 146, "sty"), (4, "UnderpaintModel", 187, "pwhl"), (5, "UnderpaintModel", 306, "")]
def en_B : List (List Int32) := [[115, 103, 100, 112, 122, 118, 102, 114, 120], [112, 119, 104, 108, 114], [108, 101, 104], [115, 116, 121], [112, 119, 104, 108], []]
def en_I : List (String × MethodName × MethodName) := [("java/util/ArrayList", ⟨"java/util/List", "size", "()I"⟩, ⟨"java/util/ArrayList", "size", "()I"⟩), ("java/util/ArrayList", ⟨"java/util/List", "add", "(Ljava/lang/Object;)Z"⟩, ⟨"java/util/ArrayList", "add", "(Ljava/lang/Object;)Z"⟩), ("java/util/ArrayList", ⟨"java/util/List", "isEmpty", "()Z"⟩, ⟨"java/util/ArrayList", "isEmpty", "()Z"⟩), ("java/util/ArrayList", ⟨"java/util/List", "addAll", "(Ljava/util/Collection;)Z"⟩, ⟨"java/util/ArrayList", "addAll", "(Ljava/util/Collection;)Z"⟩), ("java/util/ArrayList", ⟨"java/util/Collection", "toArray", "()[Ljava/lang/Object;"⟩, ⟨"java/util/ArrayList", "toArray", "()[Ljava/lang/Object;"⟩), ("java/util/ArrayList", ⟨"java/util/List", "iterator", "()Ljava/util/Iterator;"⟩, ⟨"java/util/ArrayList", "iterator", "()Ljava/util/Iterator;"⟩), ("java/util/ArrayList$Itr", ⟨"java/util/Iterator", "hasNext", "()Z"⟩, ⟨"java/util/ArrayList$Itr", "hasNext", "()Z"⟩), ("java/util/ArrayList$Itr", ⟨"java/util/Iterator", "next", "()Ljava/lang/Object;"⟩, ⟨"java/util/ArrayList$Itr", "next", "()Ljava/lang/Object;"⟩), ("java/util/ArrayList", ⟨"java/util/List", "get", "(I)Ljava/lang/Object;"⟩, ⟨"java/util/ArrayList", "get", "(I)Ljava/lang/Object;"⟩), ("java/util/ArrayList", ⟨"java/util/List", "remove", "(I)Ljava/lang/Object;"⟩, ⟨"java/util/ArrayList", "remove", "(I)Ljava/lang/Object;"⟩), ("java/util/ArrayList", ⟨"java/util/List", "clear", "()V"⟩, ⟨"java/util/ArrayList", "clear", "()V"⟩)]
def en_AR : List String := ["java/lang/Object", "UnderpaintModel$Place", "UnderpaintModel$Layer", "Underpaint$Stack", "Underpaint$Layer"]
def en_O : List String := ["Underpaint$Stuff", "Underpaint$Solvent", "Underpaint$Act", "UnderpaintModel$Stuff", "UnderpaintModel$Act", "java/lang/Integer", "java/lang/String", "[I"]
def en_SX : List Int32 := [1, -1, 0, 0]
def en_SY : List Int32 := [0, 0, 1, -1]
/-- a literal: a String of Latin-1 letters, at (en.1 i), its bytes at (en.2.1 i) -/
def EL (b0 : Nat) (en : EnT) (U : State) (H : Heap) : Prop := ∀ i : Nat, i < 6 → va_O "java/lang/String" (en.1 i) (fun q => b0 ≤ q) U H ∧ va_OF "java/lang/String" "coder" "B" (.int 0) (en.1 i) (fun q => b0 ≤ q) U H ∧ va_OF "java/lang/String" "value" "[B" (.ref (en.2.1 i)) (en.1 i) (fun q => b0 ≤ q) U H ∧ va_T .byte (en.2.1 i) (en_B.getD i []).length (fun j => .int ((en_B.getD i []).getD j 0)) (fun q => b0 ≤ q) U H
/-- what lies in the heap -/
def EH (b0 : Nat) (en : EnT) (U : State) (H : Heap) : Prop :=
  EL b0 en U H ∧ vx_Zq Bundle.tN "UNASSIGNED_STACK" Bundle.steD (fun q => b0 ≤ q) U H ∧ vx_Zq Bundle.tN "SUPPRESSED_SENTINEL" Bundle.listD (fun q => b0 ≤ q) U H ∧ va_Z "java/lang/String" "COMPACT_STRINGS" "Z" (.int 1) (fun q => b0 ≤ q) U H ∧ va_Z "java/util/ArrayList" "DEFAULTCAPACITY_EMPTY_ELEMENTDATA" "[Ljava/lang/Object;" (.ref en.2.2.1) (fun q => b0 ≤ q) U H ∧ va_T (.object "java/lang/Object") en.2.2.1 0 (fun _ => .null) (fun q => b0 ≤ q) U H ∧ va_Z "Underpaint" "SIDE_X" "[I" (.ref (en.2.2.2 0)) (fun q => b0 ≤ q) U H ∧ va_T .int (en.2.2.2 0) 4 (fun j => .int (en_SX.getD j 0)) (fun q => b0 ≤ q) U H ∧ va_Z "Underpaint" "SIDE_Y" "[I" (.ref (en.2.2.2 1)) (fun q => b0 ≤ q) U H ∧ va_T .int (en.2.2.2 1) 4 (fun j => .int (en_SY.getD j 0)) (fun q => b0 ≤ q) U H ∧ va_Z "java/lang/Integer$IntegerCache" "high" "I" (.int 127) (fun q => b0 ≤ q) U H ∧ va_Z "java/lang/Integer$IntegerCache" "cache" "[Ljava/lang/Integer;" (.ref (en.2.2.2 2)) (fun q => b0 ≤ q) U H ∧ va_T (.object "java/lang/Integer") (en.2.2.2 2) 256 (fun j => .ref (en.2.2.2 (3 + j))) (fun q => b0 ≤ q) U H ∧ vb_C (fun k => en.2.2.2 (3 + k)) (fun q => b0 ≤ q) U H ∧ va_Zq "jdk/internal/util/Preconditions" "SIOOBE_FORMATTER" "Ljava/util/function/BiFunction;" (fun q => b0 ≤ q) U H ∧ va_O "[Ljava/lang/Object;" en.2.2.1 (fun q => b0 ≤ q) U H
/-- what the tables say -/
def ES (en : EnT) (U : State) : Prop :=
  (∀ E ∈ en_X, va_Nw (.castable E E) U) ∧ (∀ E ∈ en_X, ∀ F ∈ en_X, E ≠ F → va_Nc E F U) ∧ (∀ k ∈ en_T, ∃ sa : Nat, vk_R RX11 k.1 k.2 sa U) ∧ (∀ q ∈ en_J, vk_R q.2.1 q.2.2.1 q.2.2.2 (en.1 q.1) U) ∧
  (∀ q ∈ en_F, va_Nw (.fieldLinkNest q.1 q.2.1 q.2.2.1 q.2.2.2.1 q.2.2.2.2.1 q.2.2.2.2.2) U) ∧ (∀ q ∈ en_M, va_Nw (.methodLinkNest q.1 q.2.1 q.2.2.1 q.2.2.2) U) ∧ (∀ n ∈ en_D, va_Nw (.declares (Bundle.initS n)) U) ∧ (∀ q ∈ en_I, va_Fw q.1 q.2.1 q.2.2 U) ∧ (∀ C ∈ en_AR, va_AO C U) ∧ (∀ C ∈ en_O, va_Nw (.castable C "java/lang/Object") U) ∧ va_Dc U ∧ va_Mi "[Ljava/lang/Object;" (en.2.2.2 259) U
def EN (b0 : Nat) (en : EnT) (U : State) (H : Heap) : Prop := EH b0 en U H ∧ ES en U
theorem en_I_ok : ∀ q ∈ en_I, q.2.1.cls ≠ "java/lang/invoke/MethodHandle" ∧ q.2.1.cls ≠ "java/lang/invoke/VarHandle" := by decide +kernel
theorem EL.moved {b0 : Nat} {en : EnT} {u U : State} {H : Heap} (hv : u.vm.Alike U.vm) (h : EL b0 en u H) : EL b0 en U H := fun i hi => ⟨va_O.moved hv (h i hi).1, va_OF.moved hv (h i hi).2.1, va_OF.moved hv (h i hi).2.2.1, va_T.moved hv (h i hi).2.2.2⟩
theorem EL.kept {b0 : Nat} {en : EnT} {U : State} {H H1 : Heap} (hq : ∀ a : Nat, a < H.size → ¬ b0 ≤ a → H1[a]? = H[a]?) (h : EL b0 en U H) : EL b0 en U H1 := fun i hi => ⟨va_O.kept (h i hi).1 hq, va_OF.kept (h i hi).2.1 hq, va_OF.kept (h i hi).2.2.1 hq, va_T.kept (h i hi).2.2.2 hq⟩
theorem EH.moved {b0 : Nat} {en : EnT} {u U : State} {H : Heap} (hv : u.vm.Alike U.vm) (h : EH b0 en u H) : EH b0 en U H := by
  obtain ⟨q, q0, q1, q2, q3, q4, q5, q6, q7, q8, q9, q10, q11, q12, q13, q14⟩ := h
  exact ⟨q.moved hv, vx_Zq.moved hv q0, vx_Zq.moved hv q1, va_Z.moved hv q2, va_Z.moved hv q3, va_T.moved hv q4, va_Z.moved hv q5, va_T.moved hv q6, va_Z.moved hv q7, va_T.moved hv q8, va_Z.moved hv q9, va_Z.moved hv q10, va_T.moved hv q11, vb_C.moved hv q12, va_Zq.moved hv q13, va_O.moved hv q14⟩
theorem EH.kept {b0 : Nat} {en : EnT} {U : State} {H H1 : Heap} (hq : ∀ a : Nat, a < H.size → ¬ b0 ≤ a → H1[a]? = H[a]?) (h : EH b0 en U H) : EH b0 en U H1 := by
  obtain ⟨q, q0, q1, q2, q3, q4, q5, q6, q7, q8, q9, q10, q11, q12, q13, q14⟩ := h
  exact ⟨q.kept hq, vx_Zq.kept q0 hq, vx_Zq.kept q1 hq, va_Z.kept q2 hq, va_Z.kept q3 hq, va_T.kept q4 hq, va_Z.kept q5 hq, va_T.kept q6 hq, va_Z.kept q7 hq, va_T.kept q8 hq, va_Z.kept q9 hq, va_Z.kept q10 hq, va_T.kept q11 hq, vb_C.kept q12 hq, va_Zq.kept q13 hq, va_O.kept q14 hq⟩
theorem EN.same {b0 : Nat} {en : EnT} {u U : State} {H : Heap} (hv : u.vm = U.vm) (h : EN b0 en u H) : EN b0 en U H := by
  have ha : u.vm.Alike U.vm := by rw [hv]; exact Vm.Alike.refl U.vm
  obtain ⟨h0, h7, h8, h9, h10, h11, h12, h13, h14, h15, h16, h17, h18⟩ := h
  exact ⟨h0.moved ha, fun E hE => va_Nw.same rfl hv (h7 E hE), fun E hE F hF n => va_Nc.moved ha (h8 E hE F hF n), fun k hk => by obtain ⟨sa, q⟩ := h9 k hk; exact ⟨sa, vk_R.same hv.symm q⟩, fun q hq => vk_R.same hv.symm (h10 q hq), fun q hq => va_Nw.same rfl hv (h11 q hq), fun q hq => va_Nw.same rfl hv (h12 q hq), fun n hn => va_Nw.same rfl hv (h13 n hn), fun q hq => va_Fw.moved (en_I_ok q hq) ha (h14 q hq), fun C hC => va_AO.moved ha (h15 C hC), fun C hC => va_Nw.same rfl hv (h16 C hC), va_Dc.moved ha h17, va_Mi.moved ha h18⟩
theorem EN.warm {b0 : Nat} {en : EnT} {s U : State} {H : Heap} (hW : s.WarmedH U.vm) (h : EN b0 en s H) : EN b0 en U H := by
  have ha := hW.alike
  obtain ⟨h0, h7, h8, h9, h10, h11, h12, h13, h14, h15, h16, h17, h18⟩ := h
  exact ⟨h0.moved ha, fun E hE => va_Nw.warmC hW (h7 E hE), fun E hE F hF n => va_Nc.moved ha (h8 E hE F hF n), fun k hk => by obtain ⟨sa, q⟩ := h9 k hk; exact ⟨sa, vk_R.warm hW q⟩, fun q hq => vk_R.warm hW (h10 q hq), fun q hq => va_Nw.warmF hW (h11 q hq), fun q hq => va_Nw.warmM hW (h12 q hq), fun n hn => va_Nw.warmD hW (h13 n hn), fun q hq => va_Fw.moved (en_I_ok q hq) ha (h14 q hq), fun C hC => va_AO.moved ha (h15 C hC), fun C hC => va_Nw.warmC hW (h16 C hC), va_Dc.moved ha h17, va_Mi.moved ha h18⟩
theorem EN.kept {b0 : Nat} {en : EnT} {U : State} {H H1 : Heap} (hq : ∀ a : Nat, a < H.size → ¬ b0 ≤ a → H1[a]? = H[a]?) (h : EN b0 en U H) : EN b0 en U H1 := ⟨h.1.kept hq, h.2⟩
/-- from a method's start to where it stands -/
theorem EN.on {b0 : Nat} {en : EnT} {A : Nat → Prop} {s : State} {H : Heap} {locs : List Loc} (h : EN b0 en s s.heap) (hA : ∀ q, A q → b0 ≤ q) (hS : va_S A s.heap H locs) : EN b0 en s H :=
  h.kept (fun a h1 h2 => hS.2.1 a h1 (fun h3 => h2 (hA a h3)))
section ENX
variable {b0 : Nat} {en : EnT} {U : State} {H : Heap}
theorem EN.lit {A : Nat → Prop} (h : EN b0 en U H) (hA : ∀ q, A q → b0 ≤ q) (i : Nat) (hi : i < 6) : va_O "java/lang/String" (en.1 i) A U H ∧ va_OF "java/lang/String" "coder" "B" (.int 0) (en.1 i) A U H ∧ va_OF "java/lang/String" "value" "[B" (.ref (en.2.1 i)) (en.1 i) A U H ∧ va_T .byte (en.2.1 i) (en_B.getD i []).length (fun j => .int ((en_B.getD i []).getD j 0)) A U H := by
  obtain ⟨h1, h2, h3, h4⟩ := h.1.1 i hi
  exact ⟨va_O.narrow h1 hA, va_OF.narrow h2 hA, va_OF.narrow h3 hA, va_T.narrow h4 hA⟩
theorem EN.zq1 {A : Nat → Prop} (h : EN b0 en U H) (hA : ∀ q, A q → b0 ≤ q) : vx_Zq Bundle.tN "UNASSIGNED_STACK" Bundle.steD A U H := vx_Zq.narrow (h.1.2.1) hA
theorem EN.zq2 {A : Nat → Prop} (h : EN b0 en U H) (hA : ∀ q, A q → b0 ≤ q) : vx_Zq Bundle.tN "SUPPRESSED_SENTINEL" Bundle.listD A U H := vx_Zq.narrow (h.1.2.2.1) hA
theorem EN.cs {A : Nat → Prop} (h : EN b0 en U H) (hA : ∀ q, A q → b0 ≤ q) : va_Z "java/lang/String" "COMPACT_STRINGS" "Z" (.int 1) A U H := va_Z.narrow (h.1.2.2.2.1) hA
theorem EN.ee {A : Nat → Prop} (h : EN b0 en U H) (hA : ∀ q, A q → b0 ≤ q) : va_Z "java/util/ArrayList" "DEFAULTCAPACITY_EMPTY_ELEMENTDATA" "[Ljava/lang/Object;" (.ref en.2.2.1) A U H := va_Z.narrow (h.1.2.2.2.2.1) hA
theorem EN.ea {A : Nat → Prop} (h : EN b0 en U H) (hA : ∀ q, A q → b0 ≤ q) : va_T (.object "java/lang/Object") en.2.2.1 0 (fun _ => .null) A U H := va_T.narrow (h.1.2.2.2.2.2.1) hA
theorem EN.sx {A : Nat → Prop} (h : EN b0 en U H) (hA : ∀ q, A q → b0 ≤ q) : va_Z "Underpaint" "SIDE_X" "[I" (.ref (en.2.2.2 0)) A U H := va_Z.narrow (h.1.2.2.2.2.2.2.1) hA
theorem EN.sxa {A : Nat → Prop} (h : EN b0 en U H) (hA : ∀ q, A q → b0 ≤ q) : va_T .int (en.2.2.2 0) 4 (fun j => .int (en_SX.getD j 0)) A U H := va_T.narrow (h.1.2.2.2.2.2.2.2.1) hA
theorem EN.sy {A : Nat → Prop} (h : EN b0 en U H) (hA : ∀ q, A q → b0 ≤ q) : va_Z "Underpaint" "SIDE_Y" "[I" (.ref (en.2.2.2 1)) A U H := va_Z.narrow (h.1.2.2.2.2.2.2.2.2.1) hA
theorem EN.sya {A : Nat → Prop} (h : EN b0 en U H) (hA : ∀ q, A q → b0 ≤ q) : va_T .int (en.2.2.2 1) 4 (fun j => .int (en_SY.getD j 0)) A U H := va_T.narrow (h.1.2.2.2.2.2.2.2.2.2.1) hA
theorem EN.ih {A : Nat → Prop} (h : EN b0 en U H) (hA : ∀ q, A q → b0 ≤ q) : va_Z "java/lang/Integer$IntegerCache" "high" "I" (.int 127) A U H := va_Z.narrow (h.1.2.2.2.2.2.2.2.2.2.2.1) hA
theorem EN.ic {A : Nat → Prop} (h : EN b0 en U H) (hA : ∀ q, A q → b0 ≤ q) : va_Z "java/lang/Integer$IntegerCache" "cache" "[Ljava/lang/Integer;" (.ref (en.2.2.2 2)) A U H := va_Z.narrow (h.1.2.2.2.2.2.2.2.2.2.2.2.1) hA
theorem EN.ica {A : Nat → Prop} (h : EN b0 en U H) (hA : ∀ q, A q → b0 ≤ q) : va_T (.object "java/lang/Integer") (en.2.2.2 2) 256 (fun j => .ref (en.2.2.2 (3 + j))) A U H := va_T.narrow (h.1.2.2.2.2.2.2.2.2.2.2.2.2.1) hA
theorem EN.io {A : Nat → Prop} (h : EN b0 en U H) (hA : ∀ q, A q → b0 ≤ q) : vb_C (fun k => en.2.2.2 (3 + k)) A U H := vb_C.narrow (h.1.2.2.2.2.2.2.2.2.2.2.2.2.2.1) hA
theorem EN.so {A : Nat → Prop} (h : EN b0 en U H) (hA : ∀ q, A q → b0 ≤ q) : va_Zq "jdk/internal/util/Preconditions" "SIOOBE_FORMATTER" "Ljava/util/function/BiFunction;" A U H := va_Zq.narrow (h.1.2.2.2.2.2.2.2.2.2.2.2.2.2.2.1) hA
theorem EN.eo {A : Nat → Prop} (h : EN b0 en U H) (hA : ∀ q, A q → b0 ≤ q) : va_O "[Ljava/lang/Object;" en.2.2.1 A U H := va_O.narrow (h.1.2.2.2.2.2.2.2.2.2.2.2.2.2.2.2) hA
theorem EN.cast (h : EN b0 en U H) {E : String} (hE : E ∈ en_X) : va_Nw (.castable E E) U := h.2.1 E hE
theorem EN.nocast (h : EN b0 en U H) {E F : String} (hE : E ∈ en_X) (hF : F ∈ en_X) (n : E ≠ F) : va_Nc E F U := h.2.2.1 E hE F hF n
theorem EN.text (h : EN b0 en U H) (k : Nat × String) (hk : k ∈ en_T) : ∃ sa : Nat, vk_R RX11 k.1 k.2 sa U := h.2.2.2.1 k hk
theorem EN.ldc (h : EN b0 en U H) (q : Nat × String × Nat × String) (hq : q ∈ en_J) : vk_R q.2.1 q.2.2.1 q.2.2.2 (en.1 q.1) U := h.2.2.2.2.1 q hq
theorem EN.nf (h : EN b0 en U H) (q : String × Nat × String × String × String × String) (hq : q ∈ en_F) : va_Nw (.fieldLinkNest q.1 q.2.1 q.2.2.1 q.2.2.2.1 q.2.2.2.2.1 q.2.2.2.2.2) U := h.2.2.2.2.2.1 q hq
theorem EN.nm (h : EN b0 en U H) (q : String × Nat × MethodName × String) (hq : q ∈ en_M) : va_Nw (.methodLinkNest q.1 q.2.1 q.2.2.1 q.2.2.2) U := h.2.2.2.2.2.2.1 q hq
theorem EN.dec (h : EN b0 en U H) {n : String} (hn : n ∈ en_D) : va_Nw (.declares (Bundle.initS n)) U := h.2.2.2.2.2.2.2.1 n hn
theorem EN.face (h : EN b0 en U H) (q : String × MethodName × MethodName) (hq : q ∈ en_I) : va_Fw q.1 q.2.1 q.2.2 U := h.2.2.2.2.2.2.2.2.1 q hq
theorem EN.arr (h : EN b0 en U H) {C : String} (hC : C ∈ en_AR) : va_AO C U := h.2.2.2.2.2.2.2.2.2.1 C hC
theorem EN.obj (h : EN b0 en U H) {C : String} (hC : C ∈ en_O) : va_Nw (.castable C "java/lang/Object") U := h.2.2.2.2.2.2.2.2.2.2.1 C hC
theorem EN.dc (h : EN b0 en U H) : va_Dc U := h.2.2.2.2.2.2.2.2.2.2.2.1
theorem EN.mir (h : EN b0 en U H) : va_Mi "[Ljava/lang/Object;" (en.2.2.2 259) U := h.2.2.2.2.2.2.2.2.2.2.2.2
end ENX
theorem en_A {ws : va_W} {sz b0 : Nat} (hD : va_D (fun q => b0 ≤ q) ws) (hb : b0 ≤ sz) : ∀ q, va_A ws sz q → b0 ≤ q := by
  intro q h
  rcases h with ⟨k, e, h⟩ | h
  · exact hD.2 k (q, e) h
  · exact Nat.le_trans hb h
theorem en_A0 {sz b0 : Nat} (hb : b0 ≤ sz) : ∀ q, va_A [] sz q → b0 ≤ q := by
  intro q h
  rcases h with ⟨k, e, h⟩ | h
  · simp at h
  · exact Nat.le_trans hb h
/-! the start of a method: its cells that it may write (ws) and those that it only reads (rs), all apart; what the heap holds beside (F) -/
def cP (b0 : Nat) (en : EnT) (D : va_G) (tys : List (ClassId × FieldType)) (ws rs : va_W) (sz : Nat) (F : Heap → Prop) (av : List Value) : Array Value → State → Prop :=
  va_Pc av (fun U => U.heap.size = sz ∧ b0 ≤ sz ∧ EN b0 en U U.heap ∧ va_P D vwCl (ws ++ rs) U.heap ∧ va_K D vwCl tys U ∧ va_D (fun q => b0 ≤ q) (ws ++ rs) ∧ F U.heap)
theorem cP.blind {b0 : Nat} {en : EnT} {D : va_G} {tys : List (ClassId × FieldType)} {ws rs : va_W} {sz : Nat} {F : Heap → Prop} {av : List Value} : FrameBlind (cP b0 en D tys ws rs sz F av) := fun a U g mk q => by
  obtain ⟨h0, h1, h2, h3, h4, h5, h6, h7⟩ := q
  exact ⟨h0, h1, h2, EN.same (u := U) (U := U.calling g mk a) rfl h3, h4, va_K.moved (u := U) (U := U.calling g mk a) (Vm.Alike.refl U.vm) h5, h6, h7⟩
theorem cP.use {b0 : Nat} {en : EnT} {D : va_G} {tys : List (ClassId × FieldType)} {ws rs : va_W} {F : Heap → Prop} {av : List Value} {s : State} {H : Heap} (hz : b0 ≤ H.size) (hE : EN b0 en s H) (hP : va_P D vwCl (ws ++ rs) H) (hK : va_K D vwCl tys s) (hD : va_D (fun q => b0 ≤ q) (ws ++ rs)) (hF : F H) :
    ∀ U : State, U.heap = H → s.WarmedH U.vm → cP b0 en D tys ws rs H.size F av av.toArray U := by
  intro U hU hW
  refine ⟨rfl, by rw [hU], hz, ?_, ?_, va_K.moved hW.alike hK, hD, ?_⟩
  · rw [hU]; exact EN.warm hW hE
  · rw [hU]; exact hP
  · rw [hU]; exact hF
/-- the end: the cells that are handed on, and what the heap holds beside -/
def cB (D : va_G) (tys : List (ClassId × FieldType)) (ws : va_W) (A : Nat → Prop) (F : Heap → Prop) (t : State) : Prop := va_P D vwCl ws t.heap ∧ va_K D vwCl tys t ∧ va_D A ws ∧ F t.heap
theorem cB.mk {D : va_G} {tys : List (ClassId × FieldType)} {ws : va_W} {A : Nat → Prop} {F : Heap → Prop} {s t : State} {H : Heap} (ht : t.heap = H) (hW : s.WarmedH t.vm) (hP : va_P D vwCl ws H) (hK : va_K D vwCl tys s) (hD : va_D A ws) (hF : F H) : cB D tys ws A F t := by
  subst ht
  exact ⟨hP, va_K.moved hW.alike hK, hD, hF⟩
/-- apart, all together -/
theorem en_DD {A : Nat → Prop} {b0 : Nat} {ws rs : va_W} (hD : va_D A ws) (hR : va_D (fun q => b0 ≤ q) rs) (hN : ∀ (k : Nat) (q : Nat × va_E), rs[k]? = some q → ¬ A q.1) (hA : ∀ q, A q → b0 ≤ q) : va_D (fun q => b0 ≤ q) (ws ++ rs) := by
  refine va_D.app (hD.weaken (fun _ q _ h => hA q.1 h)) hR (fun i j p q h1 h2 e => ?_)
  exact hN j q h2 (e ▸ hD.2 i p h1)
/-- the read-only cells aren't among those that may be written -/
theorem en_N {B : Nat → Prop} {D : va_G} {ws rs : va_W} {H : Heap} {sz : Nat} (hP : va_P D vwCl (ws ++ rs) H) (hD : va_D B (ws ++ rs)) (hz : H.size = sz) : ∀ (k : Nat) (q : Nat × va_E), rs[k]? = some q → ¬ va_A ws sz q.1 := by
  intro k q hk h
  have hq : (ws ++ rs)[ws.length + k]? = some q := by rw [List.getElem?_append_right (by omega)]; simpa using hk
  rcases h with ⟨j, e, h⟩ | h
  · have hj : j < ws.length := (List.getElem?_eq_some_iff.mp h).1
    have h2 : (ws ++ rs)[j]? = some (q.1, e) := by rw [List.getElem?_append_left hj]; exact h
    have := hD.1 _ _ _ _ hq h2 rfl
    omega
  · have := (hP _ q hq).lt
    omega
theorem en_R {A : Nat → Prop} {D : va_G} {rs : va_W} {H0 H : Heap} {locs : List Loc} (h : va_P D vwCl rs H0) (hN : ∀ (k : Nat) (q : Nat × va_E), rs[k]? = some q → ¬ A q.1) (hS : va_S A H0 H locs) : va_P D vwCl rs H :=
  h.kept (fun k q hk => hS.2.1 q.1 (h k q hk).lt (hN k q hk))
theorem en_z {A : Nat → Prop} {b0 : Nat} {H0 H : Heap} {locs : List Loc} (h : b0 ≤ H0.size) (hS : va_S A H0 H locs) : b0 ≤ H.size := Nat.le_trans h hS.1
theorem b_no {c : Prop} [Decidable c] {r : Int32} (h : r = if c then 1 else 0) (z : r = 0) : ¬ c := fun y => by rw [h, if_pos y] at z; exact absurd z (by decide)
theorem b_yes {c : Prop} [Decidable c] {r : Int32} (h : r = if c then 1 else 0) (z : ¬ r = 0) : c := Decidable.by_contra (fun y => z (by rw [h, if_neg y]))
theorem b_any (i : Int32) : i < 0 ∨ (0 : Int32) ≤ i := by
  rcases Int32.lt_or_le i 0 with h | h
  · exact Or.inl h
  · exact Or.inr h
/-! a picture's places: 48 stacks without layers, not tired; N: what is known of their addresses -/
def FamS (D : va_G) (N : Nat → Prop) (g : Nat → Option Nat) (H : Heap) : Prop := ∀ i : Nat, i < 48 → ∃ a rw : Nat, g i = some a ∧ va_at D vwCl (a, .inr (14, [.ref rw, .int 0, .int 0])) H ∧ N a
theorem FamS.on {D : va_G} {N A : Nat → Prop} {g : Nat → Option Nat} {H0 H : Heap} {locs : List Loc} (h : FamS D N g H0) (hN : ∀ a, a < H0.size → N a → ¬ A a) (hS : va_S A H0 H locs) : FamS D N g H := fun i hi => by
  obtain ⟨a, rw, h1, h2, h3⟩ := h i hi
  exact ⟨a, rw, h1, h2.kept (hS.2.1 a h2.lt (hN a h2.lt h3)), h3⟩
theorem FamS.mono {D : va_G} {N N' : Nat → Prop} {g : Nat → Option Nat} {H : Heap} (h : FamS D N g H) (hN : ∀ a, N a → N' a) : FamS D N' g H := fun i hi => by
  obtain ⟨a, rw, h1, h2, h3⟩ := h i hi
  exact ⟨a, rw, h1, h2, hN a h3⟩
theorem va1 {D : va_G} {cl : List vw_C} {q : Nat × va_E} {H : Heap} (h : va_at D cl q H) : va_P D cl [q] H := fun k r hk => by
  match k, hk with
  | 0, hk => cases hk; exact h
  | k + 1, hk => simp at hk
theorem vA0 {sz a : Nat} (h : a < sz) : ¬ va_A [] sz a := fun z => by
  rcases z with ⟨k, e, z⟩ | z
  · simp at z
  · omega
theorem W.gen {p : Program} {l : Launch} {e : Env} {R : Room} {s : State} {m : MethodId} {args : Array Value} {below : List Frame} {meth : Method} {c : Code} {H : Heap} {locs : List Loc} {cells slots : Nat} {Q : State → Prop} {g : JFrame} (h : ∀ Q' : State → Prop, Q' = Q → W p l e R s m args below meth c H locs cells slots Q' g) : W p l e R s m args below meth c H locs cells slots Q g := h Q rfl
theorem en_recv {E : String} {t : Nat} {A : Nat → Prop} {s : State} {H : Heap} {locs : List Loc} (h : va_O E t A s s.heap) (hS : va_S A s.heap H locs) : ∃ cell : Cell, H[t]? = some cell ∧ cell.vm.isStatics = false ∧ s.vm.findClass E = some cell.cls := by
  obtain ⟨cell, h1, h2, h3, -⟩ := h.kept (fun a h1 h2 => hS.2.1 a h1 h2)
  exact ⟨cell, h1, h2, h3⟩
/-- indexOf on what is left of a literal, from place k on -/
def ixF (c : Int32) : List Int32 → Nat → Int32
  | [], _ => -1
  | b :: l, k => if b = c then nI k else ixF c l (k + 1)
def ixL (i : Nat) (c : Int32) : Int32 := ixF c (en_B.getD i []) 0
theorem ixF_out {c : Int32} : ∀ (l : List Int32) (k : Nat), (∀ b ∈ l, ¬ b = c) → ixF c l k = -1 := by
  intro l
  induction l with
  | nil => intro k _; rfl
  | cons b l ih => intro k h; rw [ixF, if_neg (h b List.mem_cons_self)]; exact ih (k + 1) (fun x hx => h x (List.mem_cons_of_mem _ hx))
theorem en_len : ∀ i, i < 6 → (en_B.getD i []).length < 10 := by decide
theorem en_byt : ∀ i, i < 6 → ∀ b ∈ en_B.getD i [], b.toInt8.toInt32 = b ∧ 0 ≤ b ∧ b ≤ 127 := by decide
/-- among the letters of a literal: the byte is the char's if the letter is the char -/
theorem en_b8 {b c : Int32} (hb : 0 ≤ b ∧ b ≤ 127) (h0 : 0 ≤ c) (h1 : c ≤ 255) : b = c.toInt8.toInt32 ↔ b = c := by
  obtain ⟨j, hj, rfl⟩ := nI_of2 (M := 255) (n := 255) (by decide) (Int32.not_lt.mpr h0) h1
  obtain ⟨k, hk, rfl⟩ := nI_of2 (M := 127) (n := 127) (by decide) (Int32.not_lt.mpr hb.1) hb.2
  exact (by decide +kernel : ∀ k : Fin 128, ∀ j : Fin 256, nI k.val = (nI j.val).toInt8.toInt32 ↔ nI k.val = nI j.val) ⟨k, by omega⟩ ⟨j, by omega⟩
theorem dropC {a l : List Int32} {b : Int32} {k : Nat} (e : a.drop k = b :: l) : k < a.length ∧ a.getD k 0 = b ∧ a.drop (k + 1) = l ∧ b ∈ a := by
  have hk : k < a.length := by
    rcases Nat.lt_or_ge k a.length with h | h
    · exact h
    · rw [List.drop_eq_nil_of_le h] at e; cases e
  have h1 := List.drop_eq_getElem_cons hk
  rw [e] at h1
  injection h1 with h2 h3
  refine ⟨hk, ?_, h3.symm, ?_⟩
  · rw [List.getD_eq_getElem?_getD, List.getElem?_eq_getElem hk, h2]; rfl
  · rw [h2]; exact List.getElem_mem hk
theorem pl_ix {x y : Int32} (h : (0 ≤ x ∧ x < 8) ∧ (0 ≤ y ∧ y < 6)) : ∃ i : Nat, i < 48 ∧ y * 8 + x = nI i := by
  obtain ⟨⟨h1, h2⟩, h3, h4⟩ := h
  obtain ⟨j, hj, rfl⟩ := nI_of (x := x) (Int32.not_lt.mpr h1)
  obtain ⟨k, hk, rfl⟩ := nI_of (x := y) (Int32.not_lt.mpr h3)
  have h2 : nI j < nI 8 := h2
  have h4 : nI k < nI 6 := h4
  rw [nI_ltI hj (by decide)] at h2
  rw [nI_ltI hk (by decide)] at h4
  refine ⟨k * 8 + j, by omega, ?_⟩
  rw [show (8 : Int32) = nI 8 from rfl, pk_mul, nI_add]
theorem pl_in {i : Nat} {v : Int32} (hi : i < 48) (h : v = nI i) : vp_in v 48 := by rw [h]; exact vp_in_nI hi (by decide)
theorem pl_cl {i : Nat} {v : Int32} (hi : i < 48) (h : v = nI i) : v.toNatClampNeg = i := by rw [h]; exact nI_clamp (by omega)
