theorem dX18_init_0 : decode cX18_init 0 = .ok (.aload_n 0, 1) := by decide +kernel
theorem dX18_init_1 : decode cX18_init 1 = .ok (.invokespecial 1, 3) := by decide +kernel
theorem dX18_init_4 : decode cX18_init 4 = .ok (.aload_n 0, 1) := by decide +kernel
theorem dX18_init_5 : decode cX18_init 5 = .ok (.new 7, 3) := by decide +kernel
theorem dX18_init_8 : decode cX18_init 8 = .ok (.dup, 1) := by decide +kernel
theorem dX18_init_9 : decode cX18_init 9 = .ok (.invokespecial 9, 3) := by decide +kernel
theorem dX18_init_12 : decode cX18_init 12 = .ok (.putfield 10, 3) := by decide +kernel
theorem dX18_init_15 : decode cX18_init 15 = .ok (.aload_n 0, 1) := by decide +kernel
theorem dX18_init_16 : decode cX18_init 16 = .ok (.sipush 144, 3) := by decide +kernel
theorem dX18_init_19 : decode cX18_init 19 = .ok (.newarray .boolean, 2) := by decide +kernel
theorem dX18_init_21 : decode cX18_init 21 = .ok (.putfield 16, 3) := by decide +kernel
theorem dX18_init_24 : decode cX18_init 24 = .ok (.aload_n 0, 1) := by decide +kernel
theorem dX18_init_25 : decode cX18_init 25 = .ok (.new 20, 3) := by decide +kernel
theorem dX18_init_28 : decode cX18_init 28 = .ok (.dup, 1) := by decide +kernel
theorem dX18_init_29 : decode cX18_init 29 = .ok (.aload_n 0, 1) := by decide +kernel
theorem dX18_init_30 : decode cX18_init 30 = .ok (.invokespecial 22, 3) := by decide +kernel
theorem dX18_init_33 : decode cX18_init 33 = .ok (.putfield 25, 3) := by decide +kernel
theorem dX18_init_36 : decode cX18_init 36 = .ok (.aload_n 0, 1) := by decide +kernel
theorem dX18_init_37 : decode cX18_init 37 = .ok (.new 7, 3) := by decide +kernel
theorem dX18_init_40 : decode cX18_init 40 = .ok (.dup, 1) := by decide +kernel
theorem dX18_init_41 : decode cX18_init 41 = .ok (.invokespecial 9, 3) := by decide +kernel
theorem dX18_init_44 : decode cX18_init 44 = .ok (.putfield 29, 3) := by decide +kernel
theorem dX18_init_47 : decode cX18_init 47 = .ok (.aload_n 0, 1) := by decide +kernel
theorem dX18_init_48 : decode cX18_init 48 = .ok (.iconst 5, 1) := by decide +kernel
theorem dX18_init_49 : decode cX18_init 49 = .ok (.putfield 32, 3) := by decide +kernel
theorem dX18_init_52 : decode cX18_init 52 = .ok (.aload_n 0, 1) := by decide +kernel
theorem dX18_init_53 : decode cX18_init 53 = .ok (.bipush 50, 2) := by decide +kernel
theorem dX18_init_55 : decode cX18_init 55 = .ok (.putfield 36, 3) := by decide +kernel
theorem dX18_init_58 : decode cX18_init 58 = .ok (.aload_n 0, 1) := by decide +kernel
theorem dX18_init_59 : decode cX18_init 59 = .ok (.sipush 240, 3) := by decide +kernel
theorem dX18_init_62 : decode cX18_init 62 = .ok (.newarray .int, 2) := by decide +kernel
theorem dX18_init_64 : decode cX18_init 64 = .ok (.putfield 39, 3) := by decide +kernel
theorem dX18_init_67 : decode cX18_init 67 = .ok (.aload_n 0, 1) := by decide +kernel
theorem dX18_init_68 : decode cX18_init 68 = .ok (.sipush 240, 3) := by decide +kernel
theorem dX18_init_71 : decode cX18_init 71 = .ok (.newarray .boolean, 2) := by decide +kernel
theorem dX18_init_73 : decode cX18_init 73 = .ok (.putfield 43, 3) := by decide +kernel
theorem dX18_init_76 : decode cX18_init 76 = .ok (.aload_n 0, 1) := by decide +kernel
theorem dX18_init_77 : decode cX18_init 77 = .ok (.sipush 1600, 3) := by decide +kernel
theorem dX18_init_80 : decode cX18_init 80 = .ok (.putfield 46, 3) := by decide +kernel
theorem dX18_init_83 : decode cX18_init 83 = .ok (.aload_n 0, 1) := by decide +kernel
theorem dX18_init_84 : decode cX18_init 84 = .ok (.new 7, 3) := by decide +kernel
theorem dX18_init_87 : decode cX18_init 87 = .ok (.dup, 1) := by decide +kernel
theorem dX18_init_88 : decode cX18_init 88 = .ok (.invokespecial 9, 3) := by decide +kernel
theorem dX18_init_91 : decode cX18_init 91 = .ok (.putfield 49, 3) := by decide +kernel
theorem dX18_init_94 : decode cX18_init 94 = .ok (.aload_n 0, 1) := by decide +kernel
theorem dX18_init_95 : decode cX18_init 95 = .ok (.new 7, 3) := by decide +kernel
theorem dX18_init_98 : decode cX18_init 98 = .ok (.dup, 1) := by decide +kernel
theorem dX18_init_99 : decode cX18_init 99 = .ok (.invokespecial 9, 3) := by decide +kernel
theorem dX18_init_102 : decode cX18_init 102 = .ok (.putfield 52, 3) := by decide +kernel
theorem dX18_init_105 : decode cX18_init 105 = .ok (.aload_n 0, 1) := by decide +kernel
theorem dX18_init_106 : decode cX18_init 106 = .ok (.new 7, 3) := by decide +kernel
theorem dX18_init_109 : decode cX18_init 109 = .ok (.dup, 1) := by decide +kernel
theorem dX18_init_110 : decode cX18_init 110 = .ok (.invokespecial 9, 3) := by decide +kernel
theorem dX18_init_113 : decode cX18_init 113 = .ok (.putfield 55, 3) := by decide +kernel
theorem dX18_init_116 : decode cX18_init 116 = .ok (.aload_n 0, 1) := by decide +kernel
theorem dX18_init_117 : decode cX18_init 117 = .ok (.new 7, 3) := by decide +kernel
theorem dX18_init_120 : decode cX18_init 120 = .ok (.dup, 1) := by decide +kernel
theorem dX18_init_121 : decode cX18_init 121 = .ok (.invokespecial 9, 3) := by decide +kernel
theorem dX18_init_124 : decode cX18_init 124 = .ok (.putfield 58, 3) := by decide +kernel
theorem dX18_init_127 : decode cX18_init 127 = .ok (.aload_n 0, 1) := by decide +kernel
theorem dX18_init_128 : decode cX18_init 128 = .ok (.new 7, 3) := by decide +kernel
theorem dX18_init_131 : decode cX18_init 131 = .ok (.dup, 1) := by decide +kernel
theorem dX18_init_132 : decode cX18_init 132 = .ok (.invokespecial 9, 3) := by decide +kernel
theorem dX18_init_135 : decode cX18_init 135 = .ok (.putfield 61, 3) := by decide +kernel
theorem dX18_init_138 : decode cX18_init 138 = .ok (.aload_n 0, 1) := by decide +kernel
theorem dX18_init_139 : decode cX18_init 139 = .ok (.new 7, 3) := by decide +kernel
theorem dX18_init_142 : decode cX18_init 142 = .ok (.dup, 1) := by decide +kernel
theorem dX18_init_143 : decode cX18_init 143 = .ok (.invokespecial 9, 3) := by decide +kernel
theorem dX18_init_146 : decode cX18_init 146 = .ok (.putfield 64, 3) := by decide +kernel
theorem dX18_init_149 : decode cX18_init 149 = .ok (.return_, 1) := by decide +kernel
theorem FamP.newc {D : va_G} {c0 ea q : Nat} {L : List Nat} {g : Nat → Option Nat} {H H1 : Heap} (h : FamP D (vN c0 L) ea g H) (hoq : ∀ x : Nat, x < H.size → H1[x]? = H[x]?) (hoz : q = H.size) : FamP D (vN c0 (q :: L)) ea g H1 := fun i hi => by
  obtain ⟨a, l, h1, h2, h3, h4, h5, h6⟩ := h i hi
  have l2 := h2.lt
  have l3 := h3.lt
  exact ⟨a, l, h1, h2.kept (hoq a l2), h3.kept (hoq l l3), ⟨h4.1, fun z => (List.mem_cons.mp z).elim (fun e => by dsimp only at l2 l3; omega) h4.2⟩, ⟨h5.1, fun z => (List.mem_cons.mp z).elim (fun e => by dsimp only at l2 l3; omega) h5.2⟩, h6⟩
theorem nsub {L L' : List Nat} (is : List Nat) (h : is.filterMap (fun i => L[i]?) = L') : ∀ a ∈ L', a ∈ L := fun a ha => by
  rw [← h] at ha
  obtain ⟨i, -, hi⟩ := List.mem_filterMap.mp ha
  exact List.mem_of_getElem? hi
theorem nin0 {a : Nat} : a ∉ ([] : List Nat) := List.not_mem_nil
theorem nin1 {a x : Nat} {L : List Nat} (h : a ≠ x) (k : a ∉ L) : a ∉ x :: L := fun z => (List.mem_cons.mp z).elim h k
theorem nix {a x : Nat} {L : List Nat} (j : Nat) (h : a ∉ L) (hx : L[j]? = some x) : a ≠ x := fun e => h (e ▸ List.mem_of_getElem? hx)
theorem FamP.more {D : va_G} {c0 ea : Nat} {L X : List Nat} {g : Nat → Option Nat} {H : Heap} (h : FamP D (vN c0 L) ea g H) (hX : ∀ x ∈ X, H.size ≤ x) : FamP D (vN c0 (X ++ L)) ea g H := fun i hi => by
  obtain ⟨a, l, h1, h2, h3, h4, h5, h6⟩ := h i hi
  have l2 := h2.lt
  have l3 := h3.lt
  exact ⟨a, l, h1, h2, h3, ⟨h4.1, fun z => (List.mem_append.mp z).elim (fun e => by have := hX a e; dsimp only at l2 l3; omega) h4.2⟩, ⟨h5.1, fun z => (List.mem_append.mp z).elim (fun e => by have := hX l e; dsimp only at l2 l3; omega) h5.2⟩, h6⟩
theorem FamS.more {D : va_G} {c0 : Nat} {L X : List Nat} {g : Nat → Option Nat} {H : Heap} (h : FamS D (vN c0 L) g H) (hX : ∀ x ∈ X, H.size ≤ x) : FamS D (vN c0 (X ++ L)) g H := fun i hi => by
  obtain ⟨a, rw, h1, h2, h3⟩ := h i hi
  have l2 := h2.lt
  exact ⟨a, rw, h1, h2, ⟨h3.1, fun z => (List.mem_append.mp z).elim (fun e => by have := hX a e; dsimp only at l2; omega) h3.2⟩⟩
theorem FamS.newc {D : va_G} {c0 q : Nat} {L : List Nat} {g : Nat → Option Nat} {H H1 : Heap} (h : FamS D (vN c0 L) g H) (hoq : ∀ x : Nat, x < H.size → H1[x]? = H[x]?) (hoz : q = H.size) : FamS D (vN c0 (q :: L)) g H1 := fun i hi => by
  obtain ⟨a, rw, h1, h2, h3⟩ := h i hi
  have l2 := h2.lt
  exact ⟨a, rw, h1, h2.kept (hoq a l2), ⟨h3.1, fun z => (List.mem_cons.mp z).elim (fun e => by dsimp only at l2; omega) h3.2⟩⟩

set_option maxRecDepth 100000 in
theorem gw_wsX14_init : wsX14_init.all goodWord = true := by decide +kernel
set_option maxRecDepth 100000 in
theorem gw_wsJx4a65c_init_da8c8 : wsJx4a65c_init_da8c8.all goodWord = true := by decide +kernel
def wo_c_X18_init_w : List Cond := [Cond.methodLink RX18 1 objectInit, Cond.instanceMethod objectInit, Cond.code objectInit ⟨#[0xb1]⟩ 1 none, Cond.classLink RX18 7 RJx4a65c, Cond.instantiable RJx4a65c 3, Cond.initialized RJx4a65c, Cond.methodLink RX18 9 yJx4a65c_init_da8c8, Cond.instanceMethod yJx4a65c_init_da8c8, Cond.fieldLink RX18 10 "UnderpaintModel" "stuffs" "Ljava/util/List;", Cond.arrayClass .boolean, Cond.fieldLink RX18 16 "UnderpaintModel" "clashes" "[Z", Cond.classLink RX18 20 RX14, Cond.instantiable RX14 6, Cond.initialized RX14, Cond.methodLink RX18 22 yX14_init, Cond.instanceMethod yX14_init, Cond.fieldLink RX18 25 "UnderpaintModel" "picture" "LUnderpaintModel$Picture;", Cond.fieldLink RX18 29 "UnderpaintModel" "acts" "Ljava/util/List;", Cond.fieldLink RX18 32 "UnderpaintModel" "light" "I", Cond.fieldLink RX18 36 "UnderpaintModel" "damp" "I", Cond.arrayClass .int, Cond.fieldLink RX18 39 "UnderpaintModel" "notes" "[I", Cond.fieldLink RX18 43 "UnderpaintModel" "isNoted" "[Z", Cond.fieldLink RX18 46 "UnderpaintModel" "original" "I", Cond.fieldLink RX18 49 "UnderpaintModel" "board" "Ljava/util/List;", Cond.fieldLink RX18 52 "UnderpaintModel" "master" "Ljava/util/List;", Cond.fieldLink RX18 55 "UnderpaintModel" "painters" "Ljava/util/List;", Cond.fieldLink RX18 58 "UnderpaintModel" "solvents" "Ljava/util/List;", Cond.fieldLink RX18 61 "UnderpaintModel" "ballots" "Ljava/util/List;", Cond.fieldLink RX18 64 "UnderpaintModel" "legs" "Ljava/util/List;"]
def wo_c_X18_init : List Cond := .code yX18_init cX18_init 1 none :: (wo_c_X18_init_w ++ (u_ws RJx4a65c TJx4a65c 3 ++ (u_ws RX18 TX18 17 ++ (u_ws RX14 TX14 6 ++ (wsJx4a65c_init_da8c8 ++ (wsX14_init ++ List.nil))))))
theorem gw_wo_c_X18_init : wo_c_X18_init.all goodWord = true := gw_c (by decide +kernel) (gw_a (by decide +kernel) (gw_a (by decide +kernel) (gw_a (by decide +kernel) (gw_a (by decide +kernel) (gw_a gw_wsJx4a65c_init_da8c8 (gw_a gw_wsX14_init rfl))))))
theorem go_c_X18_init_0 : GoodIn wo_c_X18_init (wsJx4a65c_init_da8c8) := goodIn_sub (fun _ h => List.mem_cons_of_mem _ (List.mem_append_right _ (List.mem_append_right _ (List.mem_append_right _ (List.mem_append_right _ (List.mem_append_left _ h)))))) gw_wsJx4a65c_init_da8c8
theorem go_c_X18_init_1 : GoodIn wo_c_X18_init (wsX14_init) := goodIn_sub (fun _ h => List.mem_cons_of_mem _ (List.mem_append_right _ (List.mem_append_right _ (List.mem_append_right _ (List.mem_append_right _ (List.mem_append_right _ (List.mem_append_left _ h))))))) gw_wsX14_init
set_option maxHeartbeats 40000000 in
set_option maxRecDepth 100000 in
/-- UnderpaintModel() -/
theorem c_X18_init (l : Launch) (dC : Nat → ClassId) (dI : Nat → Nat → Nat) (b0 : Nat) (en : EnT) (sz : Nat) (mm : Nat) : Met l yX18_init wo_c_X18_init ({ frames := 6, cells := 110, slots := 993, locals := 133 } : Room) (cP b0 en (dC, dI) [] [(mm, .inr (24, [.int 0, .null, .null, .null, .null, .int 0, .int 0, .null, .null, .int 0, .null, .null, .null, .null, .int 0, .null, .null]))] [] sz (fun _ => True) [.ref mm]) (va_Qv (fun u : Nat × Nat × Nat × Nat × Nat × Nat × Nat × Nat × Nat × Nat × Nat × Nat × Nat × Nat × ClassId × ClassId × ClassId × ClassId × (Nat → Option Nat) => True) (fun u t => cB (dC, dI) [(u.2.2.2.2.2.2.2.2.2.2.2.2.2.2.1, .boolean), (u.2.2.2.2.2.2.2.2.2.2.2.2.2.2.2.1, .object "UnderpaintModel$Place"), (u.2.2.2.2.2.2.2.2.2.2.2.2.2.2.2.2.1, .int), (u.2.2.2.2.2.2.2.2.2.2.2.2.2.2.2.2.2.1, .boolean)] [(mm, .inr (24, [.int 0, .ref u.1, .ref u.2.1, .ref u.2.2.1, .ref u.2.2.2.1, .int 5, .int 50, .ref u.2.2.2.2.1, .ref u.2.2.2.2.2.1, .int 1600, .ref u.2.2.2.2.2.2.1, .ref u.2.2.2.2.2.2.2.1, .ref u.2.2.2.2.2.2.2.2.1, .ref u.2.2.2.2.2.2.2.2.2.1, .int 0, .ref u.2.2.2.2.2.2.2.2.2.2.1, .ref u.2.2.2.2.2.2.2.2.2.2.2.1])), (u.1, .inr (5, [.int 0, .ref en.2.2.1, .int 0])), (u.2.1, .inl (u.2.2.2.2.2.2.2.2.2.2.2.2.2.2.1, 144, .inl (fun _ => 0))), (u.2.2.1, .inr (20, [.ref u.2.2.2.2.2.2.2.2.2.2.2.2.1, .ref u.2.2.2.2.2.2.2.2.2.2.2.2.2.1, .int 1600, .int 0, .int 0, .ref mm])), (u.2.2.2.2.2.2.2.2.2.2.2.2.1, .inl (u.2.2.2.2.2.2.2.2.2.2.2.2.2.2.2.1, 48, .inr (.inr (.inr (.inr u.2.2.2.2.2.2.2.2.2.2.2.2.2.2.2.2.2.2))))), (u.2.2.2.2.2.2.2.2.2.2.2.2.2.1, .inr (5, [.int 0, .ref en.2.2.1, .int 0])), (u.2.2.2.1, .inr (5, [.int 0, .ref en.2.2.1, .int 0])), (u.2.2.2.2.1, .inl (u.2.2.2.2.2.2.2.2.2.2.2.2.2.2.2.2.1, 240, .inl (fun _ => 0))), (u.2.2.2.2.2.1, .inl (u.2.2.2.2.2.2.2.2.2.2.2.2.2.2.2.2.2.1, 240, .inl (fun _ => 0))), (u.2.2.2.2.2.2.1, .inr (5, [.int 0, .ref en.2.2.1, .int 0])), (u.2.2.2.2.2.2.2.1, .inr (5, [.int 0, .ref en.2.2.1, .int 0])), (u.2.2.2.2.2.2.2.2.1, .inr (5, [.int 0, .ref en.2.2.1, .int 0])), (u.2.2.2.2.2.2.2.2.2.1, .inr (5, [.int 0, .ref en.2.2.1, .int 0])), (u.2.2.2.2.2.2.2.2.2.2.1, .inr (5, [.int 0, .ref en.2.2.1, .int 0])), (u.2.2.2.2.2.2.2.2.2.2.2.1, .inr (5, [.int 0, .ref en.2.2.1, .int 0]))] (va_A [(mm, .inr (24, [.int 0, .null, .null, .null, .null, .int 0, .int 0, .null, .null, .int 0, .null, .null, .null, .null, .int 0, .null, .null]))] sz) (FamP (dC, dI) (vN sz [u.2.2.1, u.2.2.2.2.2.2.2.2.2.2.2.2.1, u.2.2.2.2.2.2.2.2.2.2.2.2.2.1, u.2.2.2.1, u.2.2.2.2.1, u.2.2.2.2.2.1, u.2.2.2.2.2.2.1, u.2.2.2.2.2.2.2.1, u.2.2.2.2.2.2.2.2.1, u.2.2.2.2.2.2.2.2.2.1, u.2.2.2.2.2.2.2.2.2.2.1, u.2.2.2.2.2.2.2.2.2.2.2.1]) en.2.2.1 u.2.2.2.2.2.2.2.2.2.2.2.2.2.2.2.2.2.2) t) (va_A [(mm, .inr (24, [.int 0, .null, .null, .null, .null, .int 0, .int 0, .null, .null, .int 0, .null, .null, .null, .null, .int 0, .null, .null]))] sz)) 110 993 (va_A [(mm, .inr (24, [.int 0, .null, .null, .null, .null, .int 0, .int 0, .null, .null, .int 0, .null, .null, .null, .null, .int 0, .null, .null]))] sz) := by
  refine Met.ofW (cc := cX18_init) (maxL := 1) (ret := none) (by decide) rfl ?_
  intro p e s m args below meth c s₁ B hml hv
  obtain ⟨rfl, hsz, hb0, hE, hPP, hK, hDD, hF0⟩ := hv
  have hx := B.exec
  have hb := B.bytes
  have hr := B.returns
  have hts := atoms_spec (ws := wo_c_X18_init) B.pre
  have hown : s.vm.findClass RX18 = some m.cls := findClass_of_methodNamed B.named
  have hlocks := B.notSynchronized
  have hin : meth.name = "<init>" := (name_of_methodNamed B.named B.method).1
  subst hsz
  have hN0 := en_N hPP hDD rfl
  have hP : va_P (dC, dI) vwCl [(mm, .inr (24, [.int 0, .null, .null, .null, .null, .int 0, .int 0, .null, .null, .int 0, .null, .null, .null, .null, .int 0, .null, .null]))] s.heap := hPP.sub [0] rfl
  have hR0 : va_P (dC, dI) vwCl [] s.heap := hPP.sub [] rfl
  have hD0 : va_D (fun q => b0 ≤ q) [(mm, .inr (24, [.int 0, .null, .null, .null, .null, .int 0, .int 0, .null, .null, .int 0, .null, .null, .null, .null, .int 0, .null, .null]))] := hDD.sub [0] (by decide) rfl
  have hDr : va_D (fun q => b0 ≤ q) [] := hDD.sub [] (by decide) rfl
  have hAb := en_A (sz := s.heap.size) hD0 hb0
  have hD := hD0.self (sz := s.heap.size)
  generalize hAe : va_A [(mm, .inr (24, [.int 0, .null, .null, .null, .null, .int 0, .int 0, .null, .null, .int 0, .null, .null, .null, .null, .int 0, .null, .null]))] s.heap.size = A at hD hAb hN0 ⊢
  have hA : ∀ q : Nat, s.heap.size ≤ q → A q := fun q h => by rw [← hAe]; exact Or.inr h
  have hS : va_S A s.heap s.heap [] := va_S.rf
  have hR := hR0
  have hl := lv_entry [.ref mm] (n := 1) (Nat.le_of_ble_eq_true rfl)
  rw [lg_entry_eq]
  generalize (lg_sl [.ref mm] ++ List.replicate (1 - (lg_sl [.ref mm]).length) Slot.unset).toArray = ls at hl ⊢
  have hl : lv_has ls 1 [(0, .ref mm)] := hl
  have hAc := hA
  have hlt_mm : mm < s.heap.size := (hPP 0 _ rfl).lt
  refine lv_aload_n hx hb dX18_init_0 rfl (lv_at hl 0 rfl) ?_
  refine W.objInit hx hb hown (hts (.methodLink RX18 1 objectInit) (by decide +kernel)) (hts (.instanceMethod objectInit) (by decide +kernel)) (hts (.code objectInit ⟨#[0xb1]⟩ 1 none) (by decide +kernel)) rfl (by rw [hml]; exact hl.1) rfl dX18_init_1 (Nat.le_of_ble_eq_true rfl) (Nat.le_of_ble_eq_true rfl) ?_
  refine lv_aload_n hx hb dX18_init_4 rfl (lv_at hl 0 rfl) ?_
  have hz9 := hS.1
  refine va_newX (ci := 5) (fs := [.int 0, .null, .int 0]) (C := RJx4a65c) (T := TJx4a65c) (N := 3) hx hb hts (by decide +kernel) tyJx4a65c tyJx4a65c_ok hown (hts (.classLink RX18 7 RJx4a65c) (by decide +kernel)) (hts (.instantiable RJx4a65c 3) (by decide +kernel)) (hts (.initialized RJx4a65c) (by decide +kernel)) hK hP hD hS hA rfl (fun j hj => by rcases (show j = 0 ∨ j = 1 ∨ j = 2 by omega) with rfl | rfl | rfl <;> rfl) (Nat.le_of_ble_eq_true rfl) (Nat.le_of_ble_eq_true rfl) dX18_init_5 (fun q_1 H hP hD hS hoq hoz => ?_)
  have hP : va_P (dC, dI) vwCl [(mm, .inr (24, [.int 0, .null, .null, .null, .null, .int 0, .int 0, .null, .null, .int 0, .null, .null, .null, .null, .int 0, .null, .null])), (q_1, .inr (5, [.int 0, .null, .int 0]))] H := hP
  have hD : va_D A [(mm, .inr (24, [.int 0, .null, .null, .null, .null, .int 0, .int 0, .null, .null, .int 0, .null, .null, .null, .null, .int 0, .null, .null])), (q_1, .inr (5, [.int 0, .null, .int 0]))] := hD
  have hR : va_P (dC, dI) vwCl [] H := fun k q h => by simp at h
  refine W.widen (k := 1) (n := 3) (Nat.le_of_ble_eq_true rfl) (Nat.le_of_ble_eq_true rfl) ?_
  have hgz_q_1 : s.heap.size ≤ q_1 := by rw [hoz]; exact hz9
  have hoz_q_1 := hoz
  refine lv_dup hx hb dX18_init_8 rfl ?_
  have hPc := (hP.app hR).sub (ws' := [(q_1, .inr (5, [.int 0, .null, .int 0]))] ++ []) [1] rfl
  have hDc := (en_DD hD hDr hN0 hAb).sub (ws' := [(q_1, .inr (5, [.int 0, .null, .int 0]))] ++ []) [1] (by decide) rfl
  have hKc := hK.sub (tys' := []) [] rfl
  have hFc := va_free (wc := [(q_1, .inr (5, [.int 0, .null, .int 0]))]) hD hS hA [1] rfl
  refine va_callv (va_runI (As := []) (rest := [.ref q_1, .ref mm]) ⟨hx, hb, hml, hown, hts⟩ (c_AList l dC dI b0 en H.size q_1) (cwI 0 hts go_c_X18_init_0 rfl rfl rfl (hts (.initialized RJx4a65c) (by decide +kernel)) (hts (.methodLink RX18 9 yJx4a65c_init_da8c8) (by decide +kernel)) (hts (.instanceMethod yJx4a65c_init_da8c8) (by decide +kernel)) rfl (by decide +kernel) ⟨Nat.le_of_ble_eq_true rfl, Nat.le_of_ble_eq_true rfl⟩) ⟨cP.blind, cP.use (en_z hb0 hS) (hE.on hAb hS) hPc hKc hDc trivial⟩ rfl rfl hl.1 rfl (lv_room (Nat.le_of_ble_eq_true rfl)) dX18_init_9 ⟨Nat.le_of_ble_eq_true rfl, Nat.le_of_ble_eq_true rfl⟩) hS (fun q _ h => hFc q h) hFc (fun u t H1 locs ht hvm hw hB hz1 hk1 hS => ?_)
  obtain ⟨hP1, hK1, hD1, hF1⟩ := hB
  rw [ht] at hP1
  try rw [ht] at hF1
  have hK1 := va_K.moved hvm.symm hK1
  try dsimp only at hw
  obtain ⟨hP, hD⟩ := va_join (wr := [(mm, .inr (24, [.int 0, .null, .null, .null, .null, .int 0, .int 0, .null, .null, .int 0, .null, .null, .null, .null, .int 0, .null, .null]))]) (w1 := [(q_1, .inr (5, [.int 0, .ref en.2.2.1, .int 0]))]) hP hD [1] [0] rfl rfl (by decide) (by decide) hk1 hFc hP1 hD1
  skip
  generalize H1 = H at hP hS ⊢
  have hP : va_P (dC, dI) vwCl [(mm, .inr (24, [.int 0, .null, .null, .null, .null, .int 0, .int 0, .null, .null, .int 0, .null, .null, .null, .null, .int 0, .null, .null])), (q_1, .inr (5, [.int 0, .ref en.2.2.1, .int 0]))] H := hP
  have hD : va_D A [(mm, .inr (24, [.int 0, .null, .null, .null, .null, .int 0, .int 0, .null, .null, .int 0, .null, .null, .null, .null, .int 0, .null, .null])), (q_1, .inr (5, [.int 0, .ref en.2.2.1, .int 0]))] := hD
  have hR : va_P (dC, dI) vwCl [] H := fun k q h => by simp at h
  refine W.widen (k := 1) (n := 3) (Nat.le_of_ble_eq_true rfl) (Nat.le_of_ble_eq_true rfl) ?_
  refine va_putF (D := (dC, dI)) (ci := 24) (v := .ref q_1) (ty := .object "java/util/List") (C := RX18) (T := TX18) (N := 17) hx hb hts (by decide +kernel) tyX18 tyX18_ok nmX18 hown hK hP hD hS 0 rfl rfl 1 (by decide) (hts (.fieldLink RX18 10 "UnderpaintModel" "stuffs" "Ljava/util/List;") (by decide +kernel)) (fun _ h9 => h9) rfl hin rfl (by decide +kernel) rfl rfl (Nat.le_of_ble_eq_true rfl) dX18_init_12 (fun H locs hP hD hS => ?_)
  have hP : va_P (dC, dI) vwCl [(mm, .inr (24, [.int 0, .ref q_1, .null, .null, .null, .int 0, .int 0, .null, .null, .int 0, .null, .null, .null, .null, .int 0, .null, .null])), (q_1, .inr (5, [.int 0, .ref en.2.2.1, .int 0]))] H := hP
  have hD : va_D A [(mm, .inr (24, [.int 0, .ref q_1, .null, .null, .null, .int 0, .int 0, .null, .null, .int 0, .null, .null, .null, .null, .int 0, .null, .null])), (q_1, .inr (5, [.int 0, .ref en.2.2.1, .int 0]))] := hD
  have hR : va_P (dC, dI) vwCl [] H := fun k q h => by simp at h
  refine lv_aload_n hx hb dX18_init_15 rfl (lv_at hl 0 rfl) ?_
  refine lv_sipush (v := 144) hx hb dX18_init_16 (by decide) ?_
  have hz9 := hS.1
  refine va_newaX (atype := .boolean) (a0 := (144, .inl (fun _ => 0))) hx hb (hts (.arrayClass .boolean) (by decide +kernel)) rfl hK hP hD hS hA (fun _ => rfl) (by decide) (by decide) (by decide) (Nat.le_of_ble_eq_true rfl) (Nat.le_of_ble_eq_true rfl) dX18_init_19 (fun q_3 k_4 H hK hP hD hS hoq hoz => ?_)
  have hP : va_P (dC, dI) vwCl [(mm, .inr (24, [.int 0, .ref q_1, .null, .null, .null, .int 0, .int 0, .null, .null, .int 0, .null, .null, .null, .null, .int 0, .null, .null])), (q_1, .inr (5, [.int 0, .ref en.2.2.1, .int 0])), (q_3, .inl (k_4, 144, .inl (fun _ => 0)))] H := hP
  have hD : va_D A [(mm, .inr (24, [.int 0, .ref q_1, .null, .null, .null, .int 0, .int 0, .null, .null, .int 0, .null, .null, .null, .null, .int 0, .null, .null])), (q_1, .inr (5, [.int 0, .ref en.2.2.1, .int 0])), (q_3, .inl (k_4, 144, .inl (fun _ => 0)))] := hD
  have hR : va_P (dC, dI) vwCl [] H := fun k q h => by simp at h
  refine W.widen (k := 2) (n := 147) (Nat.le_of_ble_eq_true rfl) (Nat.le_of_ble_eq_true rfl) ?_
  have hgz_q_3 : s.heap.size ≤ q_3 := by rw [hoz]; exact hz9
  have hoz_q_3 := hoz
  refine va_putF (D := (dC, dI)) (ci := 24) (v := .ref q_3) (ty := .array (.boolean)) (C := RX18) (T := TX18) (N := 17) hx hb hts (by decide +kernel) tyX18 tyX18_ok nmX18 hown hK hP hD hS 0 rfl rfl 2 (by decide) (hts (.fieldLink RX18 16 "UnderpaintModel" "clashes" "[Z") (by decide +kernel)) (fun _ h9 => h9) rfl hin rfl (by decide +kernel) rfl rfl (Nat.le_of_ble_eq_true rfl) dX18_init_21 (fun H locs hP hD hS => ?_)
  have hP : va_P (dC, dI) vwCl [(mm, .inr (24, [.int 0, .ref q_1, .ref q_3, .null, .null, .int 0, .int 0, .null, .null, .int 0, .null, .null, .null, .null, .int 0, .null, .null])), (q_1, .inr (5, [.int 0, .ref en.2.2.1, .int 0])), (q_3, .inl (k_4, 144, .inl (fun _ => 0)))] H := hP
  have hD : va_D A [(mm, .inr (24, [.int 0, .ref q_1, .ref q_3, .null, .null, .int 0, .int 0, .null, .null, .int 0, .null, .null, .null, .null, .int 0, .null, .null])), (q_1, .inr (5, [.int 0, .ref en.2.2.1, .int 0])), (q_3, .inl (k_4, 144, .inl (fun _ => 0)))] := hD
  have hR : va_P (dC, dI) vwCl [] H := fun k q h => by simp at h
  refine lv_aload_n hx hb dX18_init_24 rfl (lv_at hl 0 rfl) ?_
  have hz9 := hS.1
  refine va_newX (ci := 20) (fs := [.null, .null, .int 0, .int 0, .int 0, .null]) (C := RX14) (T := TX14) (N := 6) hx hb hts (by decide +kernel) tyX14 tyX14_ok hown (hts (.classLink RX18 20 RX14) (by decide +kernel)) (hts (.instantiable RX14 6) (by decide +kernel)) (hts (.initialized RX14) (by decide +kernel)) hK hP hD hS hA rfl (fun j hj => by rcases (show j = 0 ∨ j = 1 ∨ j = 2 ∨ j = 3 ∨ j = 4 ∨ j = 5 by omega) with rfl | rfl | rfl | rfl | rfl | rfl <;> rfl) (Nat.le_of_ble_eq_true rfl) (Nat.le_of_ble_eq_true rfl) dX18_init_25 (fun q_5 H hP hD hS hoq hoz => ?_)
  have hP : va_P (dC, dI) vwCl [(mm, .inr (24, [.int 0, .ref q_1, .ref q_3, .null, .null, .int 0, .int 0, .null, .null, .int 0, .null, .null, .null, .null, .int 0, .null, .null])), (q_1, .inr (5, [.int 0, .ref en.2.2.1, .int 0])), (q_3, .inl (k_4, 144, .inl (fun _ => 0))), (q_5, .inr (20, [.null, .null, .int 0, .int 0, .int 0, .null]))] H := hP
  have hD : va_D A [(mm, .inr (24, [.int 0, .ref q_1, .ref q_3, .null, .null, .int 0, .int 0, .null, .null, .int 0, .null, .null, .null, .null, .int 0, .null, .null])), (q_1, .inr (5, [.int 0, .ref en.2.2.1, .int 0])), (q_3, .inl (k_4, 144, .inl (fun _ => 0))), (q_5, .inr (20, [.null, .null, .int 0, .int 0, .int 0, .null]))] := hD
  have hR : va_P (dC, dI) vwCl [] H := fun k q h => by simp at h
  refine W.widen (k := 3) (n := 153) (Nat.le_of_ble_eq_true rfl) (Nat.le_of_ble_eq_true rfl) ?_
  have hgz_q_5 : s.heap.size ≤ q_5 := by rw [hoz]; exact hz9
  have hoz_q_5 := hoz
  refine lv_dup hx hb dX18_init_28 rfl ?_
  refine lv_aload_n hx hb dX18_init_29 rfl (lv_at hl 0 rfl) ?_
  have hS9 := hS; have hP9 := hP
  have hPc := (hP.app hR).sub (ws' := [(q_5, .inr (20, [.null, .null, .int 0, .int 0, .int 0, .null]))] ++ []) [3] rfl
  have hDc := (en_DD hD hDr hN0 hAb).sub (ws' := [(q_5, .inr (20, [.null, .null, .int 0, .int 0, .int 0, .null]))] ++ []) [3] (by decide) rfl
  have hKc := hK.sub (tys' := []) [] rfl
  have hFc := va_free (wc := [(q_5, .inr (20, [.null, .null, .int 0, .int 0, .int 0, .null]))]) hD hS hA [3] rfl
  refine va_callv (va_runI (As := [.ref mm]) (rest := [.ref q_5, .ref mm]) ⟨hx, hb, hml, hown, hts⟩ (c_X14_init l dC dI b0 en H.size q_5 mm) (cwI 1 hts go_c_X18_init_1 rfl rfl rfl (hts (.initialized RX14) (by decide +kernel)) (hts (.methodLink RX18 22 yX14_init) (by decide +kernel)) (hts (.instanceMethod yX14_init) (by decide +kernel)) rfl (by decide +kernel) ⟨Nat.le_of_ble_eq_true rfl, Nat.le_of_ble_eq_true rfl⟩) ⟨cP.blind, cP.use (en_z hb0 hS) (hE.on hAb hS) hPc hKc hDc trivial⟩ rfl rfl hl.1 rfl (lv_room (Nat.le_of_ble_eq_true rfl)) dX18_init_30 ⟨Nat.le_of_ble_eq_true rfl, Nat.le_of_ble_eq_true rfl⟩) hS (fun q _ h => hFc q h) hFc (fun ⟨ap_7, scr_8, kP_9, g_10⟩ t H1 locs ht hvm hw hB hz1 hk1 hS => ?_)
  obtain ⟨hP1, hK1, hD1, hF1⟩ := hB
  rw [ht] at hP1
  try rw [ht] at hF1
  have hK1 := va_K.moved hvm.symm hK1
  try dsimp only at hw
  obtain ⟨hP, hD⟩ := va_join (wr := [(mm, .inr (24, [.int 0, .ref q_1, .ref q_3, .null, .null, .int 0, .int 0, .null, .null, .int 0, .null, .null, .null, .null, .int 0, .null, .null])), (q_1, .inr (5, [.int 0, .ref en.2.2.1, .int 0])), (q_3, .inl (k_4, 144, .inl (fun _ => 0)))]) (w1 := [(q_5, .inr (20, [.ref ap_7, .ref scr_8, .int 1600, .int 0, .int 0, .ref mm])), (ap_7, .inl (kP_9, 48, .inr (.inr (.inr (.inr g_10))))), (scr_8, .inr (5, [.int 0, .ref en.2.2.1, .int 0]))]) hP hD [3] [0, 1, 2] rfl rfl (by decide) (by decide) hk1 hFc hP1 hD1
  have hK := hK.app hK1
  have hlo_mm : mm < H.size := (hP9 0 _ rfl).lt
  have hlo_q_1 : q_1 < H.size := (hP9 1 _ rfl).lt
  have hlo_q_3 : q_3 < H.size := (hP9 2 _ rfl).lt
  have hG : FamP (dC, dI) (vN s.heap.size [q_5, ap_7, scr_8, mm, q_1, q_3]) en.2.2.1 g_10 H1 := FamP.mono hF1 (fun a9 h9 => ⟨Nat.le_trans hS9.1 h9.1, fun z9 => by have g1 := h9.1; have g2 := h9.2; simp only [List.mem_cons, List.not_mem_nil, or_false, not_or] at z9 g2; omega⟩)
  skip
  skip
  skip
  have hgz_ap_7 : s.heap.size ≤ ap_7 := Nat.le_trans hS9.1 (vGeN hD1 1 rfl (by simp only [List.map_cons, List.map_nil, List.mem_cons, List.not_mem_nil, or_false, not_or, not_false_eq_true]; exact vAp hD1 1 0 rfl rfl (by decide)))
  have hgz_scr_8 : s.heap.size ≤ scr_8 := Nat.le_trans hS9.1 (vGeN hD1 2 rfl (by simp only [List.map_cons, List.map_nil, List.mem_cons, List.not_mem_nil, or_false, not_or, not_false_eq_true]; exact vAp hD1 2 0 rfl rfl (by decide)))
  generalize H1 = H at hP hS hG ⊢
  have hP : va_P (dC, dI) vwCl [(mm, .inr (24, [.int 0, .ref q_1, .ref q_3, .null, .null, .int 0, .int 0, .null, .null, .int 0, .null, .null, .null, .null, .int 0, .null, .null])), (q_1, .inr (5, [.int 0, .ref en.2.2.1, .int 0])), (q_3, .inl (k_4, 144, .inl (fun _ => 0))), (q_5, .inr (20, [.ref ap_7, .ref scr_8, .int 1600, .int 0, .int 0, .ref mm])), (ap_7, .inl (kP_9, 48, .inr (.inr (.inr (.inr g_10))))), (scr_8, .inr (5, [.int 0, .ref en.2.2.1, .int 0]))] H := hP
  have hD : va_D A [(mm, .inr (24, [.int 0, .ref q_1, .ref q_3, .null, .null, .int 0, .int 0, .null, .null, .int 0, .null, .null, .null, .null, .int 0, .null, .null])), (q_1, .inr (5, [.int 0, .ref en.2.2.1, .int 0])), (q_3, .inl (k_4, 144, .inl (fun _ => 0))), (q_5, .inr (20, [.ref ap_7, .ref scr_8, .int 1600, .int 0, .int 0, .ref mm])), (ap_7, .inl (kP_9, 48, .inr (.inr (.inr (.inr g_10))))), (scr_8, .inr (5, [.int 0, .ref en.2.2.1, .int 0]))] := hD
  have hR : va_P (dC, dI) vwCl [] H := fun k q h => by simp at h
  refine W.widen (k := 101) (n := 492) (Nat.le_of_ble_eq_true rfl) (Nat.le_of_ble_eq_true rfl) ?_
  refine va_putX (D := (dC, dI)) (ci := 24) (v := .ref q_5) (ty := .object "UnderpaintModel$Picture") (C := RX18) (T := TX18) (N := 17) hx hb hts (by decide +kernel) tyX18 tyX18_ok nmX18 hown hK hP hD hS 0 rfl rfl 3 (by decide) (hts (.fieldLink RX18 25 "UnderpaintModel" "picture" "LUnderpaintModel$Picture;") (by decide +kernel)) (fun _ h9 => h9) rfl (by decide +kernel) rfl rfl (Nat.le_of_ble_eq_true rfl) dX18_init_33 (fun H locs hP hD hS hoq => ?_)
  have hG := hG.via (fun q9 h9 n9 => hoq q9 (fun e9 => n9.2 (by rw [e9]; simp only [List.mem_cons, List.not_mem_nil, or_false, true_or, or_true])))
  have hP : va_P (dC, dI) vwCl [(mm, .inr (24, [.int 0, .ref q_1, .ref q_3, .ref q_5, .null, .int 0, .int 0, .null, .null, .int 0, .null, .null, .null, .null, .int 0, .null, .null])), (q_1, .inr (5, [.int 0, .ref en.2.2.1, .int 0])), (q_3, .inl (k_4, 144, .inl (fun _ => 0))), (q_5, .inr (20, [.ref ap_7, .ref scr_8, .int 1600, .int 0, .int 0, .ref mm])), (ap_7, .inl (kP_9, 48, .inr (.inr (.inr (.inr g_10))))), (scr_8, .inr (5, [.int 0, .ref en.2.2.1, .int 0]))] H := hP
  have hD : va_D A [(mm, .inr (24, [.int 0, .ref q_1, .ref q_3, .ref q_5, .null, .int 0, .int 0, .null, .null, .int 0, .null, .null, .null, .null, .int 0, .null, .null])), (q_1, .inr (5, [.int 0, .ref en.2.2.1, .int 0])), (q_3, .inl (k_4, 144, .inl (fun _ => 0))), (q_5, .inr (20, [.ref ap_7, .ref scr_8, .int 1600, .int 0, .int 0, .ref mm])), (ap_7, .inl (kP_9, 48, .inr (.inr (.inr (.inr g_10))))), (scr_8, .inr (5, [.int 0, .ref en.2.2.1, .int 0]))] := hD
  have hR : va_P (dC, dI) vwCl [] H := fun k q h => by simp at h
  refine lv_aload_n hx hb dX18_init_36 rfl (lv_at hl 0 rfl) ?_
  have hz9 := hS.1
  refine va_newX (ci := 5) (fs := [.int 0, .null, .int 0]) (C := RJx4a65c) (T := TJx4a65c) (N := 3) hx hb hts (by decide +kernel) tyJx4a65c tyJx4a65c_ok hown (hts (.classLink RX18 7 RJx4a65c) (by decide +kernel)) (hts (.instantiable RJx4a65c 3) (by decide +kernel)) (hts (.initialized RJx4a65c) (by decide +kernel)) hK hP hD hS hA rfl (fun j hj => by rcases (show j = 0 ∨ j = 1 ∨ j = 2 by omega) with rfl | rfl | rfl <;> rfl) (Nat.le_of_ble_eq_true rfl) (Nat.le_of_ble_eq_true rfl) dX18_init_37 (fun q_12 H hP hD hS hoq hoz => ?_)
  have hG := FamP.newc hG hoq hoz
  have hP : va_P (dC, dI) vwCl [(mm, .inr (24, [.int 0, .ref q_1, .ref q_3, .ref q_5, .null, .int 0, .int 0, .null, .null, .int 0, .null, .null, .null, .null, .int 0, .null, .null])), (q_1, .inr (5, [.int 0, .ref en.2.2.1, .int 0])), (q_3, .inl (k_4, 144, .inl (fun _ => 0))), (q_5, .inr (20, [.ref ap_7, .ref scr_8, .int 1600, .int 0, .int 0, .ref mm])), (ap_7, .inl (kP_9, 48, .inr (.inr (.inr (.inr g_10))))), (scr_8, .inr (5, [.int 0, .ref en.2.2.1, .int 0])), (q_12, .inr (5, [.int 0, .null, .int 0]))] H := hP
  have hD : va_D A [(mm, .inr (24, [.int 0, .ref q_1, .ref q_3, .ref q_5, .null, .int 0, .int 0, .null, .null, .int 0, .null, .null, .null, .null, .int 0, .null, .null])), (q_1, .inr (5, [.int 0, .ref en.2.2.1, .int 0])), (q_3, .inl (k_4, 144, .inl (fun _ => 0))), (q_5, .inr (20, [.ref ap_7, .ref scr_8, .int 1600, .int 0, .int 0, .ref mm])), (ap_7, .inl (kP_9, 48, .inr (.inr (.inr (.inr g_10))))), (scr_8, .inr (5, [.int 0, .ref en.2.2.1, .int 0])), (q_12, .inr (5, [.int 0, .null, .int 0]))] := hD
  have hR : va_P (dC, dI) vwCl [] H := fun k q h => by simp at h
  refine W.widen (k := 102) (n := 495) (Nat.le_of_ble_eq_true rfl) (Nat.le_of_ble_eq_true rfl) ?_
  have hgz_q_12 : s.heap.size ≤ q_12 := by rw [hoz]; exact hz9
  have hoz_q_12 := hoz
  refine lv_dup hx hb dX18_init_40 rfl ?_
  have hPc := (hP.app hR).sub (ws' := [(q_12, .inr (5, [.int 0, .null, .int 0]))] ++ []) [6] rfl
  have hDc := (en_DD hD hDr hN0 hAb).sub (ws' := [(q_12, .inr (5, [.int 0, .null, .int 0]))] ++ []) [6] (by decide) rfl
  have hKc := hK.sub (tys' := []) [] rfl
  have hFc := va_free (wc := [(q_12, .inr (5, [.int 0, .null, .int 0]))]) hD hS hA [6] rfl
  refine va_callv (va_runI (As := []) (rest := [.ref q_12, .ref mm]) ⟨hx, hb, hml, hown, hts⟩ (c_AList l dC dI b0 en H.size q_12) (cwI 0 hts go_c_X18_init_0 rfl rfl rfl (hts (.initialized RJx4a65c) (by decide +kernel)) (hts (.methodLink RX18 9 yJx4a65c_init_da8c8) (by decide +kernel)) (hts (.instanceMethod yJx4a65c_init_da8c8) (by decide +kernel)) rfl (by decide +kernel) ⟨Nat.le_of_ble_eq_true rfl, Nat.le_of_ble_eq_true rfl⟩) ⟨cP.blind, cP.use (en_z hb0 hS) (hE.on hAb hS) hPc hKc hDc trivial⟩ rfl rfl hl.1 rfl (lv_room (Nat.le_of_ble_eq_true rfl)) dX18_init_41 ⟨Nat.le_of_ble_eq_true rfl, Nat.le_of_ble_eq_true rfl⟩) hS (fun q _ h => hFc q h) hFc (fun u t H1 locs ht hvm hw hB hz1 hk1 hS => ?_)
  obtain ⟨hP1, hK1, hD1, hF1⟩ := hB
  rw [ht] at hP1
  try rw [ht] at hF1
  have hK1 := va_K.moved hvm.symm hK1
  try dsimp only at hw
  obtain ⟨hP, hD⟩ := va_join (wr := [(mm, .inr (24, [.int 0, .ref q_1, .ref q_3, .ref q_5, .null, .int 0, .int 0, .null, .null, .int 0, .null, .null, .null, .null, .int 0, .null, .null])), (q_1, .inr (5, [.int 0, .ref en.2.2.1, .int 0])), (q_3, .inl (k_4, 144, .inl (fun _ => 0))), (q_5, .inr (20, [.ref ap_7, .ref scr_8, .int 1600, .int 0, .int 0, .ref mm])), (ap_7, .inl (kP_9, 48, .inr (.inr (.inr (.inr g_10))))), (scr_8, .inr (5, [.int 0, .ref en.2.2.1, .int 0]))]) (w1 := [(q_12, .inr (5, [.int 0, .ref en.2.2.1, .int 0]))]) hP hD [6] [0, 1, 2, 3, 4, 5] rfl rfl (by decide) (by decide) hk1 hFc hP1 hD1
  have hG := hG.via (fun q9 h9 n9 => hk1 q9 h9 (vA1 h9 (nin1 (nix 0 n9.2 rfl) nin0)))
  skip
  generalize H1 = H at hP hS hG ⊢
  have hP : va_P (dC, dI) vwCl [(mm, .inr (24, [.int 0, .ref q_1, .ref q_3, .ref q_5, .null, .int 0, .int 0, .null, .null, .int 0, .null, .null, .null, .null, .int 0, .null, .null])), (q_1, .inr (5, [.int 0, .ref en.2.2.1, .int 0])), (q_3, .inl (k_4, 144, .inl (fun _ => 0))), (q_5, .inr (20, [.ref ap_7, .ref scr_8, .int 1600, .int 0, .int 0, .ref mm])), (ap_7, .inl (kP_9, 48, .inr (.inr (.inr (.inr g_10))))), (scr_8, .inr (5, [.int 0, .ref en.2.2.1, .int 0])), (q_12, .inr (5, [.int 0, .ref en.2.2.1, .int 0]))] H := hP
  have hD : va_D A [(mm, .inr (24, [.int 0, .ref q_1, .ref q_3, .ref q_5, .null, .int 0, .int 0, .null, .null, .int 0, .null, .null, .null, .null, .int 0, .null, .null])), (q_1, .inr (5, [.int 0, .ref en.2.2.1, .int 0])), (q_3, .inl (k_4, 144, .inl (fun _ => 0))), (q_5, .inr (20, [.ref ap_7, .ref scr_8, .int 1600, .int 0, .int 0, .ref mm])), (ap_7, .inl (kP_9, 48, .inr (.inr (.inr (.inr g_10))))), (scr_8, .inr (5, [.int 0, .ref en.2.2.1, .int 0])), (q_12, .inr (5, [.int 0, .ref en.2.2.1, .int 0]))] := hD
  have hR : va_P (dC, dI) vwCl [] H := fun k q h => by simp at h
  refine W.widen (k := 102) (n := 495) (Nat.le_of_ble_eq_true rfl) (Nat.le_of_ble_eq_true rfl) ?_
  refine va_putX (D := (dC, dI)) (ci := 24) (v := .ref q_12) (ty := .object "java/util/List") (C := RX18) (T := TX18) (N := 17) hx hb hts (by decide +kernel) tyX18 tyX18_ok nmX18 hown hK hP hD hS 0 rfl rfl 4 (by decide) (hts (.fieldLink RX18 29 "UnderpaintModel" "acts" "Ljava/util/List;") (by decide +kernel)) (fun _ h9 => h9) rfl (by decide +kernel) rfl rfl (Nat.le_of_ble_eq_true rfl) dX18_init_44 (fun H locs hP hD hS hoq => ?_)
  have hG := hG.via (fun q9 h9 n9 => hoq q9 (fun e9 => n9.2 (by rw [e9]; simp only [List.mem_cons, List.not_mem_nil, or_false, true_or, or_true])))
  have hP : va_P (dC, dI) vwCl [(mm, .inr (24, [.int 0, .ref q_1, .ref q_3, .ref q_5, .ref q_12, .int 0, .int 0, .null, .null, .int 0, .null, .null, .null, .null, .int 0, .null, .null])), (q_1, .inr (5, [.int 0, .ref en.2.2.1, .int 0])), (q_3, .inl (k_4, 144, .inl (fun _ => 0))), (q_5, .inr (20, [.ref ap_7, .ref scr_8, .int 1600, .int 0, .int 0, .ref mm])), (ap_7, .inl (kP_9, 48, .inr (.inr (.inr (.inr g_10))))), (scr_8, .inr (5, [.int 0, .ref en.2.2.1, .int 0])), (q_12, .inr (5, [.int 0, .ref en.2.2.1, .int 0]))] H := hP
  have hD : va_D A [(mm, .inr (24, [.int 0, .ref q_1, .ref q_3, .ref q_5, .ref q_12, .int 0, .int 0, .null, .null, .int 0, .null, .null, .null, .null, .int 0, .null, .null])), (q_1, .inr (5, [.int 0, .ref en.2.2.1, .int 0])), (q_3, .inl (k_4, 144, .inl (fun _ => 0))), (q_5, .inr (20, [.ref ap_7, .ref scr_8, .int 1600, .int 0, .int 0, .ref mm])), (ap_7, .inl (kP_9, 48, .inr (.inr (.inr (.inr g_10))))), (scr_8, .inr (5, [.int 0, .ref en.2.2.1, .int 0])), (q_12, .inr (5, [.int 0, .ref en.2.2.1, .int 0]))] := hD
  have hR : va_P (dC, dI) vwCl [] H := fun k q h => by simp at h
  refine lv_aload_n hx hb dX18_init_47 rfl (lv_at hl 0 rfl) ?_
  refine lv_iconst (v := 5) hx hb dX18_init_48 (by decide) ?_
  refine va_putX (D := (dC, dI)) (ci := 24) (v := .int 5) (ty := .int) (C := RX18) (T := TX18) (N := 17) hx hb hts (by decide +kernel) tyX18 tyX18_ok nmX18 hown hK hP hD hS 0 rfl rfl 5 (by decide) (hts (.fieldLink RX18 32 "UnderpaintModel" "light" "I") (by decide +kernel)) (fun _ h9 => h9) rfl (by decide +kernel) rfl rfl (Nat.le_of_ble_eq_true rfl) dX18_init_49 (fun H locs hP hD hS hoq => ?_)
  have hG := hG.via (fun q9 h9 n9 => hoq q9 (fun e9 => n9.2 (by rw [e9]; simp only [List.mem_cons, List.not_mem_nil, or_false, true_or, or_true])))
  have hP : va_P (dC, dI) vwCl [(mm, .inr (24, [.int 0, .ref q_1, .ref q_3, .ref q_5, .ref q_12, .int 5, .int 0, .null, .null, .int 0, .null, .null, .null, .null, .int 0, .null, .null])), (q_1, .inr (5, [.int 0, .ref en.2.2.1, .int 0])), (q_3, .inl (k_4, 144, .inl (fun _ => 0))), (q_5, .inr (20, [.ref ap_7, .ref scr_8, .int 1600, .int 0, .int 0, .ref mm])), (ap_7, .inl (kP_9, 48, .inr (.inr (.inr (.inr g_10))))), (scr_8, .inr (5, [.int 0, .ref en.2.2.1, .int 0])), (q_12, .inr (5, [.int 0, .ref en.2.2.1, .int 0]))] H := hP
  have hD : va_D A [(mm, .inr (24, [.int 0, .ref q_1, .ref q_3, .ref q_5, .ref q_12, .int 5, .int 0, .null, .null, .int 0, .null, .null, .null, .null, .int 0, .null, .null])), (q_1, .inr (5, [.int 0, .ref en.2.2.1, .int 0])), (q_3, .inl (k_4, 144, .inl (fun _ => 0))), (q_5, .inr (20, [.ref ap_7, .ref scr_8, .int 1600, .int 0, .int 0, .ref mm])), (ap_7, .inl (kP_9, 48, .inr (.inr (.inr (.inr g_10))))), (scr_8, .inr (5, [.int 0, .ref en.2.2.1, .int 0])), (q_12, .inr (5, [.int 0, .ref en.2.2.1, .int 0]))] := hD
  have hR : va_P (dC, dI) vwCl [] H := fun k q h => by simp at h
  refine lv_aload_n hx hb dX18_init_52 rfl (lv_at hl 0 rfl) ?_
  refine lv_bipush (v := 50) hx hb dX18_init_53 (by decide) ?_
  refine va_putX (D := (dC, dI)) (ci := 24) (v := .int 50) (ty := .int) (C := RX18) (T := TX18) (N := 17) hx hb hts (by decide +kernel) tyX18 tyX18_ok nmX18 hown hK hP hD hS 0 rfl rfl 6 (by decide) (hts (.fieldLink RX18 36 "UnderpaintModel" "damp" "I") (by decide +kernel)) (fun _ h9 => h9) rfl (by decide +kernel) rfl rfl (Nat.le_of_ble_eq_true rfl) dX18_init_55 (fun H locs hP hD hS hoq => ?_)
  have hG := hG.via (fun q9 h9 n9 => hoq q9 (fun e9 => n9.2 (by rw [e9]; simp only [List.mem_cons, List.not_mem_nil, or_false, true_or, or_true])))
  have hP : va_P (dC, dI) vwCl [(mm, .inr (24, [.int 0, .ref q_1, .ref q_3, .ref q_5, .ref q_12, .int 5, .int 50, .null, .null, .int 0, .null, .null, .null, .null, .int 0, .null, .null])), (q_1, .inr (5, [.int 0, .ref en.2.2.1, .int 0])), (q_3, .inl (k_4, 144, .inl (fun _ => 0))), (q_5, .inr (20, [.ref ap_7, .ref scr_8, .int 1600, .int 0, .int 0, .ref mm])), (ap_7, .inl (kP_9, 48, .inr (.inr (.inr (.inr g_10))))), (scr_8, .inr (5, [.int 0, .ref en.2.2.1, .int 0])), (q_12, .inr (5, [.int 0, .ref en.2.2.1, .int 0]))] H := hP
  have hD : va_D A [(mm, .inr (24, [.int 0, .ref q_1, .ref q_3, .ref q_5, .ref q_12, .int 5, .int 50, .null, .null, .int 0, .null, .null, .null, .null, .int 0, .null, .null])), (q_1, .inr (5, [.int 0, .ref en.2.2.1, .int 0])), (q_3, .inl (k_4, 144, .inl (fun _ => 0))), (q_5, .inr (20, [.ref ap_7, .ref scr_8, .int 1600, .int 0, .int 0, .ref mm])), (ap_7, .inl (kP_9, 48, .inr (.inr (.inr (.inr g_10))))), (scr_8, .inr (5, [.int 0, .ref en.2.2.1, .int 0])), (q_12, .inr (5, [.int 0, .ref en.2.2.1, .int 0]))] := hD
  have hR : va_P (dC, dI) vwCl [] H := fun k q h => by simp at h
  refine lv_aload_n hx hb dX18_init_58 rfl (lv_at hl 0 rfl) ?_
  refine lv_sipush (v := 240) hx hb dX18_init_59 (by decide) ?_
  have hz9 := hS.1
  refine va_newaX (atype := .int) (a0 := (240, .inl (fun _ => 0))) hx hb (hts (.arrayClass .int) (by decide +kernel)) rfl hK hP hD hS hA (fun _ => rfl) (by decide) (by decide) (by decide) (Nat.le_of_ble_eq_true rfl) (Nat.le_of_ble_eq_true rfl) dX18_init_62 (fun q_14 k_15 H hK hP hD hS hoq hoz => ?_)
  have hG := FamP.newc hG hoq hoz
  have hP : va_P (dC, dI) vwCl [(mm, .inr (24, [.int 0, .ref q_1, .ref q_3, .ref q_5, .ref q_12, .int 5, .int 50, .null, .null, .int 0, .null, .null, .null, .null, .int 0, .null, .null])), (q_1, .inr (5, [.int 0, .ref en.2.2.1, .int 0])), (q_3, .inl (k_4, 144, .inl (fun _ => 0))), (q_5, .inr (20, [.ref ap_7, .ref scr_8, .int 1600, .int 0, .int 0, .ref mm])), (ap_7, .inl (kP_9, 48, .inr (.inr (.inr (.inr g_10))))), (scr_8, .inr (5, [.int 0, .ref en.2.2.1, .int 0])), (q_12, .inr (5, [.int 0, .ref en.2.2.1, .int 0])), (q_14, .inl (k_15, 240, .inl (fun _ => 0)))] H := hP
  have hD : va_D A [(mm, .inr (24, [.int 0, .ref q_1, .ref q_3, .ref q_5, .ref q_12, .int 5, .int 50, .null, .null, .int 0, .null, .null, .null, .null, .int 0, .null, .null])), (q_1, .inr (5, [.int 0, .ref en.2.2.1, .int 0])), (q_3, .inl (k_4, 144, .inl (fun _ => 0))), (q_5, .inr (20, [.ref ap_7, .ref scr_8, .int 1600, .int 0, .int 0, .ref mm])), (ap_7, .inl (kP_9, 48, .inr (.inr (.inr (.inr g_10))))), (scr_8, .inr (5, [.int 0, .ref en.2.2.1, .int 0])), (q_12, .inr (5, [.int 0, .ref en.2.2.1, .int 0])), (q_14, .inl (k_15, 240, .inl (fun _ => 0)))] := hD
  have hR : va_P (dC, dI) vwCl [] H := fun k q h => by simp at h
  refine W.widen (k := 103) (n := 735) (Nat.le_of_ble_eq_true rfl) (Nat.le_of_ble_eq_true rfl) ?_
  have hgz_q_14 : s.heap.size ≤ q_14 := by rw [hoz]; exact hz9
  have hoz_q_14 := hoz
  refine va_putFX (D := (dC, dI)) (ci := 24) (v := .ref q_14) (ty := .array (.int)) (C := RX18) (T := TX18) (N := 17) hx hb hts (by decide +kernel) tyX18 tyX18_ok nmX18 hown hK hP hD hS 0 rfl rfl 7 (by decide) (hts (.fieldLink RX18 39 "UnderpaintModel" "notes" "[I") (by decide +kernel)) (fun _ h9 => h9) rfl hin rfl (by decide +kernel) rfl rfl (Nat.le_of_ble_eq_true rfl) dX18_init_64 (fun H locs hP hD hS hoq => ?_)
  have hG := hG.via (fun q9 h9 n9 => hoq q9 (fun e9 => n9.2 (by rw [e9]; simp only [List.mem_cons, List.not_mem_nil, or_false, true_or, or_true])))
  have hP : va_P (dC, dI) vwCl [(mm, .inr (24, [.int 0, .ref q_1, .ref q_3, .ref q_5, .ref q_12, .int 5, .int 50, .ref q_14, .null, .int 0, .null, .null, .null, .null, .int 0, .null, .null])), (q_1, .inr (5, [.int 0, .ref en.2.2.1, .int 0])), (q_3, .inl (k_4, 144, .inl (fun _ => 0))), (q_5, .inr (20, [.ref ap_7, .ref scr_8, .int 1600, .int 0, .int 0, .ref mm])), (ap_7, .inl (kP_9, 48, .inr (.inr (.inr (.inr g_10))))), (scr_8, .inr (5, [.int 0, .ref en.2.2.1, .int 0])), (q_12, .inr (5, [.int 0, .ref en.2.2.1, .int 0])), (q_14, .inl (k_15, 240, .inl (fun _ => 0)))] H := hP
  have hD : va_D A [(mm, .inr (24, [.int 0, .ref q_1, .ref q_3, .ref q_5, .ref q_12, .int 5, .int 50, .ref q_14, .null, .int 0, .null, .null, .null, .null, .int 0, .null, .null])), (q_1, .inr (5, [.int 0, .ref en.2.2.1, .int 0])), (q_3, .inl (k_4, 144, .inl (fun _ => 0))), (q_5, .inr (20, [.ref ap_7, .ref scr_8, .int 1600, .int 0, .int 0, .ref mm])), (ap_7, .inl (kP_9, 48, .inr (.inr (.inr (.inr g_10))))), (scr_8, .inr (5, [.int 0, .ref en.2.2.1, .int 0])), (q_12, .inr (5, [.int 0, .ref en.2.2.1, .int 0])), (q_14, .inl (k_15, 240, .inl (fun _ => 0)))] := hD
  have hR : va_P (dC, dI) vwCl [] H := fun k q h => by simp at h
  refine lv_aload_n hx hb dX18_init_67 rfl (lv_at hl 0 rfl) ?_
  refine lv_sipush (v := 240) hx hb dX18_init_68 (by decide) ?_
  have hz9 := hS.1
  refine va_newaX (atype := .boolean) (a0 := (240, .inl (fun _ => 0))) hx hb (hts (.arrayClass .boolean) (by decide +kernel)) rfl hK hP hD hS hA (fun _ => rfl) (by decide) (by decide) (by decide) (Nat.le_of_ble_eq_true rfl) (Nat.le_of_ble_eq_true rfl) dX18_init_71 (fun q_16 k_17 H hK hP hD hS hoq hoz => ?_)
  have hG := FamP.newc hG hoq hoz
  have hP : va_P (dC, dI) vwCl [(mm, .inr (24, [.int 0, .ref q_1, .ref q_3, .ref q_5, .ref q_12, .int 5, .int 50, .ref q_14, .null, .int 0, .null, .null, .null, .null, .int 0, .null, .null])), (q_1, .inr (5, [.int 0, .ref en.2.2.1, .int 0])), (q_3, .inl (k_4, 144, .inl (fun _ => 0))), (q_5, .inr (20, [.ref ap_7, .ref scr_8, .int 1600, .int 0, .int 0, .ref mm])), (ap_7, .inl (kP_9, 48, .inr (.inr (.inr (.inr g_10))))), (scr_8, .inr (5, [.int 0, .ref en.2.2.1, .int 0])), (q_12, .inr (5, [.int 0, .ref en.2.2.1, .int 0])), (q_14, .inl (k_15, 240, .inl (fun _ => 0))), (q_16, .inl (k_17, 240, .inl (fun _ => 0)))] H := hP
  have hD : va_D A [(mm, .inr (24, [.int 0, .ref q_1, .ref q_3, .ref q_5, .ref q_12, .int 5, .int 50, .ref q_14, .null, .int 0, .null, .null, .null, .null, .int 0, .null, .null])), (q_1, .inr (5, [.int 0, .ref en.2.2.1, .int 0])), (q_3, .inl (k_4, 144, .inl (fun _ => 0))), (q_5, .inr (20, [.ref ap_7, .ref scr_8, .int 1600, .int 0, .int 0, .ref mm])), (ap_7, .inl (kP_9, 48, .inr (.inr (.inr (.inr g_10))))), (scr_8, .inr (5, [.int 0, .ref en.2.2.1, .int 0])), (q_12, .inr (5, [.int 0, .ref en.2.2.1, .int 0])), (q_14, .inl (k_15, 240, .inl (fun _ => 0))), (q_16, .inl (k_17, 240, .inl (fun _ => 0)))] := hD
  have hR : va_P (dC, dI) vwCl [] H := fun k q h => by simp at h
  refine W.widen (k := 104) (n := 975) (Nat.le_of_ble_eq_true rfl) (Nat.le_of_ble_eq_true rfl) ?_
  have hgz_q_16 : s.heap.size ≤ q_16 := by rw [hoz]; exact hz9
  have hoz_q_16 := hoz
  refine va_putFX (D := (dC, dI)) (ci := 24) (v := .ref q_16) (ty := .array (.boolean)) (C := RX18) (T := TX18) (N := 17) hx hb hts (by decide +kernel) tyX18 tyX18_ok nmX18 hown hK hP hD hS 0 rfl rfl 8 (by decide) (hts (.fieldLink RX18 43 "UnderpaintModel" "isNoted" "[Z") (by decide +kernel)) (fun _ h9 => h9) rfl hin rfl (by decide +kernel) rfl rfl (Nat.le_of_ble_eq_true rfl) dX18_init_73 (fun H locs hP hD hS hoq => ?_)
  have hG := hG.via (fun q9 h9 n9 => hoq q9 (fun e9 => n9.2 (by rw [e9]; simp only [List.mem_cons, List.not_mem_nil, or_false, true_or, or_true])))
  have hP : va_P (dC, dI) vwCl [(mm, .inr (24, [.int 0, .ref q_1, .ref q_3, .ref q_5, .ref q_12, .int 5, .int 50, .ref q_14, .ref q_16, .int 0, .null, .null, .null, .null, .int 0, .null, .null])), (q_1, .inr (5, [.int 0, .ref en.2.2.1, .int 0])), (q_3, .inl (k_4, 144, .inl (fun _ => 0))), (q_5, .inr (20, [.ref ap_7, .ref scr_8, .int 1600, .int 0, .int 0, .ref mm])), (ap_7, .inl (kP_9, 48, .inr (.inr (.inr (.inr g_10))))), (scr_8, .inr (5, [.int 0, .ref en.2.2.1, .int 0])), (q_12, .inr (5, [.int 0, .ref en.2.2.1, .int 0])), (q_14, .inl (k_15, 240, .inl (fun _ => 0))), (q_16, .inl (k_17, 240, .inl (fun _ => 0)))] H := hP
  have hD : va_D A [(mm, .inr (24, [.int 0, .ref q_1, .ref q_3, .ref q_5, .ref q_12, .int 5, .int 50, .ref q_14, .ref q_16, .int 0, .null, .null, .null, .null, .int 0, .null, .null])), (q_1, .inr (5, [.int 0, .ref en.2.2.1, .int 0])), (q_3, .inl (k_4, 144, .inl (fun _ => 0))), (q_5, .inr (20, [.ref ap_7, .ref scr_8, .int 1600, .int 0, .int 0, .ref mm])), (ap_7, .inl (kP_9, 48, .inr (.inr (.inr (.inr g_10))))), (scr_8, .inr (5, [.int 0, .ref en.2.2.1, .int 0])), (q_12, .inr (5, [.int 0, .ref en.2.2.1, .int 0])), (q_14, .inl (k_15, 240, .inl (fun _ => 0))), (q_16, .inl (k_17, 240, .inl (fun _ => 0)))] := hD
  have hR : va_P (dC, dI) vwCl [] H := fun k q h => by simp at h
  refine lv_aload_n hx hb dX18_init_76 rfl (lv_at hl 0 rfl) ?_
  refine lv_sipush (v := 1600) hx hb dX18_init_77 (by decide) ?_
  refine va_putX (D := (dC, dI)) (ci := 24) (v := .int 1600) (ty := .int) (C := RX18) (T := TX18) (N := 17) hx hb hts (by decide +kernel) tyX18 tyX18_ok nmX18 hown hK hP hD hS 0 rfl rfl 9 (by decide) (hts (.fieldLink RX18 46 "UnderpaintModel" "original" "I") (by decide +kernel)) (fun _ h9 => h9) rfl (by decide +kernel) rfl rfl (Nat.le_of_ble_eq_true rfl) dX18_init_80 (fun H locs hP hD hS hoq => ?_)
  have hG := hG.via (fun q9 h9 n9 => hoq q9 (fun e9 => n9.2 (by rw [e9]; simp only [List.mem_cons, List.not_mem_nil, or_false, true_or, or_true])))
  have hP : va_P (dC, dI) vwCl [(mm, .inr (24, [.int 0, .ref q_1, .ref q_3, .ref q_5, .ref q_12, .int 5, .int 50, .ref q_14, .ref q_16, .int 1600, .null, .null, .null, .null, .int 0, .null, .null])), (q_1, .inr (5, [.int 0, .ref en.2.2.1, .int 0])), (q_3, .inl (k_4, 144, .inl (fun _ => 0))), (q_5, .inr (20, [.ref ap_7, .ref scr_8, .int 1600, .int 0, .int 0, .ref mm])), (ap_7, .inl (kP_9, 48, .inr (.inr (.inr (.inr g_10))))), (scr_8, .inr (5, [.int 0, .ref en.2.2.1, .int 0])), (q_12, .inr (5, [.int 0, .ref en.2.2.1, .int 0])), (q_14, .inl (k_15, 240, .inl (fun _ => 0))), (q_16, .inl (k_17, 240, .inl (fun _ => 0)))] H := hP
  have hD : va_D A [(mm, .inr (24, [.int 0, .ref q_1, .ref q_3, .ref q_5, .ref q_12, .int 5, .int 50, .ref q_14, .ref q_16, .int 1600, .null, .null, .null, .null, .int 0, .null, .null])), (q_1, .inr (5, [.int 0, .ref en.2.2.1, .int 0])), (q_3, .inl (k_4, 144, .inl (fun _ => 0))), (q_5, .inr (20, [.ref ap_7, .ref scr_8, .int 1600, .int 0, .int 0, .ref mm])), (ap_7, .inl (kP_9, 48, .inr (.inr (.inr (.inr g_10))))), (scr_8, .inr (5, [.int 0, .ref en.2.2.1, .int 0])), (q_12, .inr (5, [.int 0, .ref en.2.2.1, .int 0])), (q_14, .inl (k_15, 240, .inl (fun _ => 0))), (q_16, .inl (k_17, 240, .inl (fun _ => 0)))] := hD
  have hR : va_P (dC, dI) vwCl [] H := fun k q h => by simp at h
  refine lv_aload_n hx hb dX18_init_83 rfl (lv_at hl 0 rfl) ?_
  have hz9 := hS.1
  refine va_newX (ci := 5) (fs := [.int 0, .null, .int 0]) (C := RJx4a65c) (T := TJx4a65c) (N := 3) hx hb hts (by decide +kernel) tyJx4a65c tyJx4a65c_ok hown (hts (.classLink RX18 7 RJx4a65c) (by decide +kernel)) (hts (.instantiable RJx4a65c 3) (by decide +kernel)) (hts (.initialized RJx4a65c) (by decide +kernel)) hK hP hD hS hA rfl (fun j hj => by rcases (show j = 0 ∨ j = 1 ∨ j = 2 by omega) with rfl | rfl | rfl <;> rfl) (Nat.le_of_ble_eq_true rfl) (Nat.le_of_ble_eq_true rfl) dX18_init_84 (fun q_18 H hP hD hS hoq hoz => ?_)
  have hG := FamP.newc hG hoq hoz
  have hP : va_P (dC, dI) vwCl [(mm, .inr (24, [.int 0, .ref q_1, .ref q_3, .ref q_5, .ref q_12, .int 5, .int 50, .ref q_14, .ref q_16, .int 1600, .null, .null, .null, .null, .int 0, .null, .null])), (q_1, .inr (5, [.int 0, .ref en.2.2.1, .int 0])), (q_3, .inl (k_4, 144, .inl (fun _ => 0))), (q_5, .inr (20, [.ref ap_7, .ref scr_8, .int 1600, .int 0, .int 0, .ref mm])), (ap_7, .inl (kP_9, 48, .inr (.inr (.inr (.inr g_10))))), (scr_8, .inr (5, [.int 0, .ref en.2.2.1, .int 0])), (q_12, .inr (5, [.int 0, .ref en.2.2.1, .int 0])), (q_14, .inl (k_15, 240, .inl (fun _ => 0))), (q_16, .inl (k_17, 240, .inl (fun _ => 0))), (q_18, .inr (5, [.int 0, .null, .int 0]))] H := hP
  have hD : va_D A [(mm, .inr (24, [.int 0, .ref q_1, .ref q_3, .ref q_5, .ref q_12, .int 5, .int 50, .ref q_14, .ref q_16, .int 1600, .null, .null, .null, .null, .int 0, .null, .null])), (q_1, .inr (5, [.int 0, .ref en.2.2.1, .int 0])), (q_3, .inl (k_4, 144, .inl (fun _ => 0))), (q_5, .inr (20, [.ref ap_7, .ref scr_8, .int 1600, .int 0, .int 0, .ref mm])), (ap_7, .inl (kP_9, 48, .inr (.inr (.inr (.inr g_10))))), (scr_8, .inr (5, [.int 0, .ref en.2.2.1, .int 0])), (q_12, .inr (5, [.int 0, .ref en.2.2.1, .int 0])), (q_14, .inl (k_15, 240, .inl (fun _ => 0))), (q_16, .inl (k_17, 240, .inl (fun _ => 0))), (q_18, .inr (5, [.int 0, .null, .int 0]))] := hD
  have hR : va_P (dC, dI) vwCl [] H := fun k q h => by simp at h
  refine W.widen (k := 105) (n := 978) (Nat.le_of_ble_eq_true rfl) (Nat.le_of_ble_eq_true rfl) ?_
  have hgz_q_18 : s.heap.size ≤ q_18 := by rw [hoz]; exact hz9
  have hoz_q_18 := hoz
  refine lv_dup hx hb dX18_init_87 rfl ?_
  have hPc := (hP.app hR).sub (ws' := [(q_18, .inr (5, [.int 0, .null, .int 0]))] ++ []) [9] rfl
  have hDc := (en_DD hD hDr hN0 hAb).sub (ws' := [(q_18, .inr (5, [.int 0, .null, .int 0]))] ++ []) [9] (by decide) rfl
  have hKc := hK.sub (tys' := []) [] rfl
  have hFc := va_free (wc := [(q_18, .inr (5, [.int 0, .null, .int 0]))]) hD hS hA [9] rfl
  refine va_callv (va_runI (As := []) (rest := [.ref q_18, .ref mm]) ⟨hx, hb, hml, hown, hts⟩ (c_AList l dC dI b0 en H.size q_18) (cwI 0 hts go_c_X18_init_0 rfl rfl rfl (hts (.initialized RJx4a65c) (by decide +kernel)) (hts (.methodLink RX18 9 yJx4a65c_init_da8c8) (by decide +kernel)) (hts (.instanceMethod yJx4a65c_init_da8c8) (by decide +kernel)) rfl (by decide +kernel) ⟨Nat.le_of_ble_eq_true rfl, Nat.le_of_ble_eq_true rfl⟩) ⟨cP.blind, cP.use (en_z hb0 hS) (hE.on hAb hS) hPc hKc hDc trivial⟩ rfl rfl hl.1 rfl (lv_room (Nat.le_of_ble_eq_true rfl)) dX18_init_88 ⟨Nat.le_of_ble_eq_true rfl, Nat.le_of_ble_eq_true rfl⟩) hS (fun q _ h => hFc q h) hFc (fun u t H1 locs ht hvm hw hB hz1 hk1 hS => ?_)
  obtain ⟨hP1, hK1, hD1, hF1⟩ := hB
  rw [ht] at hP1
  try rw [ht] at hF1
  have hK1 := va_K.moved hvm.symm hK1
  try dsimp only at hw
  obtain ⟨hP, hD⟩ := va_join (wr := [(mm, .inr (24, [.int 0, .ref q_1, .ref q_3, .ref q_5, .ref q_12, .int 5, .int 50, .ref q_14, .ref q_16, .int 1600, .null, .null, .null, .null, .int 0, .null, .null])), (q_1, .inr (5, [.int 0, .ref en.2.2.1, .int 0])), (q_3, .inl (k_4, 144, .inl (fun _ => 0))), (q_5, .inr (20, [.ref ap_7, .ref scr_8, .int 1600, .int 0, .int 0, .ref mm])), (ap_7, .inl (kP_9, 48, .inr (.inr (.inr (.inr g_10))))), (scr_8, .inr (5, [.int 0, .ref en.2.2.1, .int 0])), (q_12, .inr (5, [.int 0, .ref en.2.2.1, .int 0])), (q_14, .inl (k_15, 240, .inl (fun _ => 0))), (q_16, .inl (k_17, 240, .inl (fun _ => 0)))]) (w1 := [(q_18, .inr (5, [.int 0, .ref en.2.2.1, .int 0]))]) hP hD [9] [0, 1, 2, 3, 4, 5, 6, 7, 8] rfl rfl (by decide) (by decide) hk1 hFc hP1 hD1
  have hG := hG.via (fun q9 h9 n9 => hk1 q9 h9 (vA1 h9 (nin1 (nix 0 n9.2 rfl) nin0)))
  skip
  generalize H1 = H at hP hS hG ⊢
  have hP : va_P (dC, dI) vwCl [(mm, .inr (24, [.int 0, .ref q_1, .ref q_3, .ref q_5, .ref q_12, .int 5, .int 50, .ref q_14, .ref q_16, .int 1600, .null, .null, .null, .null, .int 0, .null, .null])), (q_1, .inr (5, [.int 0, .ref en.2.2.1, .int 0])), (q_3, .inl (k_4, 144, .inl (fun _ => 0))), (q_5, .inr (20, [.ref ap_7, .ref scr_8, .int 1600, .int 0, .int 0, .ref mm])), (ap_7, .inl (kP_9, 48, .inr (.inr (.inr (.inr g_10))))), (scr_8, .inr (5, [.int 0, .ref en.2.2.1, .int 0])), (q_12, .inr (5, [.int 0, .ref en.2.2.1, .int 0])), (q_14, .inl (k_15, 240, .inl (fun _ => 0))), (q_16, .inl (k_17, 240, .inl (fun _ => 0))), (q_18, .inr (5, [.int 0, .ref en.2.2.1, .int 0]))] H := hP
  have hD : va_D A [(mm, .inr (24, [.int 0, .ref q_1, .ref q_3, .ref q_5, .ref q_12, .int 5, .int 50, .ref q_14, .ref q_16, .int 1600, .null, .null, .null, .null, .int 0, .null, .null])), (q_1, .inr (5, [.int 0, .ref en.2.2.1, .int 0])), (q_3, .inl (k_4, 144, .inl (fun _ => 0))), (q_5, .inr (20, [.ref ap_7, .ref scr_8, .int 1600, .int 0, .int 0, .ref mm])), (ap_7, .inl (kP_9, 48, .inr (.inr (.inr (.inr g_10))))), (scr_8, .inr (5, [.int 0, .ref en.2.2.1, .int 0])), (q_12, .inr (5, [.int 0, .ref en.2.2.1, .int 0])), (q_14, .inl (k_15, 240, .inl (fun _ => 0))), (q_16, .inl (k_17, 240, .inl (fun _ => 0))), (q_18, .inr (5, [.int 0, .ref en.2.2.1, .int 0]))] := hD
  have hR : va_P (dC, dI) vwCl [] H := fun k q h => by simp at h
  refine W.widen (k := 105) (n := 978) (Nat.le_of_ble_eq_true rfl) (Nat.le_of_ble_eq_true rfl) ?_
  refine va_putFX (D := (dC, dI)) (ci := 24) (v := .ref q_18) (ty := .object "java/util/List") (C := RX18) (T := TX18) (N := 17) hx hb hts (by decide +kernel) tyX18 tyX18_ok nmX18 hown hK hP hD hS 0 rfl rfl 10 (by decide) (hts (.fieldLink RX18 49 "UnderpaintModel" "board" "Ljava/util/List;") (by decide +kernel)) (fun _ h9 => h9) rfl hin rfl (by decide +kernel) rfl rfl (Nat.le_of_ble_eq_true rfl) dX18_init_91 (fun H locs hP hD hS hoq => ?_)
  have hG := hG.via (fun q9 h9 n9 => hoq q9 (fun e9 => n9.2 (by rw [e9]; simp only [List.mem_cons, List.not_mem_nil, or_false, true_or, or_true])))
  have hP : va_P (dC, dI) vwCl [(mm, .inr (24, [.int 0, .ref q_1, .ref q_3, .ref q_5, .ref q_12, .int 5, .int 50, .ref q_14, .ref q_16, .int 1600, .ref q_18, .null, .null, .null, .int 0, .null, .null])), (q_1, .inr (5, [.int 0, .ref en.2.2.1, .int 0])), (q_3, .inl (k_4, 144, .inl (fun _ => 0))), (q_5, .inr (20, [.ref ap_7, .ref scr_8, .int 1600, .int 0, .int 0, .ref mm])), (ap_7, .inl (kP_9, 48, .inr (.inr (.inr (.inr g_10))))), (scr_8, .inr (5, [.int 0, .ref en.2.2.1, .int 0])), (q_12, .inr (5, [.int 0, .ref en.2.2.1, .int 0])), (q_14, .inl (k_15, 240, .inl (fun _ => 0))), (q_16, .inl (k_17, 240, .inl (fun _ => 0))), (q_18, .inr (5, [.int 0, .ref en.2.2.1, .int 0]))] H := hP
  have hD : va_D A [(mm, .inr (24, [.int 0, .ref q_1, .ref q_3, .ref q_5, .ref q_12, .int 5, .int 50, .ref q_14, .ref q_16, .int 1600, .ref q_18, .null, .null, .null, .int 0, .null, .null])), (q_1, .inr (5, [.int 0, .ref en.2.2.1, .int 0])), (q_3, .inl (k_4, 144, .inl (fun _ => 0))), (q_5, .inr (20, [.ref ap_7, .ref scr_8, .int 1600, .int 0, .int 0, .ref mm])), (ap_7, .inl (kP_9, 48, .inr (.inr (.inr (.inr g_10))))), (scr_8, .inr (5, [.int 0, .ref en.2.2.1, .int 0])), (q_12, .inr (5, [.int 0, .ref en.2.2.1, .int 0])), (q_14, .inl (k_15, 240, .inl (fun _ => 0))), (q_16, .inl (k_17, 240, .inl (fun _ => 0))), (q_18, .inr (5, [.int 0, .ref en.2.2.1, .int 0]))] := hD
  have hR : va_P (dC, dI) vwCl [] H := fun k q h => by simp at h
  refine lv_aload_n hx hb dX18_init_94 rfl (lv_at hl 0 rfl) ?_
  have hz9 := hS.1
  refine va_newX (ci := 5) (fs := [.int 0, .null, .int 0]) (C := RJx4a65c) (T := TJx4a65c) (N := 3) hx hb hts (by decide +kernel) tyJx4a65c tyJx4a65c_ok hown (hts (.classLink RX18 7 RJx4a65c) (by decide +kernel)) (hts (.instantiable RJx4a65c 3) (by decide +kernel)) (hts (.initialized RJx4a65c) (by decide +kernel)) hK hP hD hS hA rfl (fun j hj => by rcases (show j = 0 ∨ j = 1 ∨ j = 2 by omega) with rfl | rfl | rfl <;> rfl) (Nat.le_of_ble_eq_true rfl) (Nat.le_of_ble_eq_true rfl) dX18_init_95 (fun q_20 H hP hD hS hoq hoz => ?_)
  have hG := FamP.newc hG hoq hoz
  have hP : va_P (dC, dI) vwCl [(mm, .inr (24, [.int 0, .ref q_1, .ref q_3, .ref q_5, .ref q_12, .int 5, .int 50, .ref q_14, .ref q_16, .int 1600, .ref q_18, .null, .null, .null, .int 0, .null, .null])), (q_1, .inr (5, [.int 0, .ref en.2.2.1, .int 0])), (q_3, .inl (k_4, 144, .inl (fun _ => 0))), (q_5, .inr (20, [.ref ap_7, .ref scr_8, .int 1600, .int 0, .int 0, .ref mm])), (ap_7, .inl (kP_9, 48, .inr (.inr (.inr (.inr g_10))))), (scr_8, .inr (5, [.int 0, .ref en.2.2.1, .int 0])), (q_12, .inr (5, [.int 0, .ref en.2.2.1, .int 0])), (q_14, .inl (k_15, 240, .inl (fun _ => 0))), (q_16, .inl (k_17, 240, .inl (fun _ => 0))), (q_18, .inr (5, [.int 0, .ref en.2.2.1, .int 0])), (q_20, .inr (5, [.int 0, .null, .int 0]))] H := hP
  have hD : va_D A [(mm, .inr (24, [.int 0, .ref q_1, .ref q_3, .ref q_5, .ref q_12, .int 5, .int 50, .ref q_14, .ref q_16, .int 1600, .ref q_18, .null, .null, .null, .int 0, .null, .null])), (q_1, .inr (5, [.int 0, .ref en.2.2.1, .int 0])), (q_3, .inl (k_4, 144, .inl (fun _ => 0))), (q_5, .inr (20, [.ref ap_7, .ref scr_8, .int 1600, .int 0, .int 0, .ref mm])), (ap_7, .inl (kP_9, 48, .inr (.inr (.inr (.inr g_10))))), (scr_8, .inr (5, [.int 0, .ref en.2.2.1, .int 0])), (q_12, .inr (5, [.int 0, .ref en.2.2.1, .int 0])), (q_14, .inl (k_15, 240, .inl (fun _ => 0))), (q_16, .inl (k_17, 240, .inl (fun _ => 0))), (q_18, .inr (5, [.int 0, .ref en.2.2.1, .int 0])), (q_20, .inr (5, [.int 0, .null, .int 0]))] := hD
  have hR : va_P (dC, dI) vwCl [] H := fun k q h => by simp at h
  refine W.widen (k := 106) (n := 981) (Nat.le_of_ble_eq_true rfl) (Nat.le_of_ble_eq_true rfl) ?_
  have hgz_q_20 : s.heap.size ≤ q_20 := by rw [hoz]; exact hz9
  have hoz_q_20 := hoz
  refine lv_dup hx hb dX18_init_98 rfl ?_
  have hPc := (hP.app hR).sub (ws' := [(q_20, .inr (5, [.int 0, .null, .int 0]))] ++ []) [10] rfl
  have hDc := (en_DD hD hDr hN0 hAb).sub (ws' := [(q_20, .inr (5, [.int 0, .null, .int 0]))] ++ []) [10] (by decide) rfl
  have hKc := hK.sub (tys' := []) [] rfl
  have hFc := va_free (wc := [(q_20, .inr (5, [.int 0, .null, .int 0]))]) hD hS hA [10] rfl
  refine va_callv (va_runI (As := []) (rest := [.ref q_20, .ref mm]) ⟨hx, hb, hml, hown, hts⟩ (c_AList l dC dI b0 en H.size q_20) (cwI 0 hts go_c_X18_init_0 rfl rfl rfl (hts (.initialized RJx4a65c) (by decide +kernel)) (hts (.methodLink RX18 9 yJx4a65c_init_da8c8) (by decide +kernel)) (hts (.instanceMethod yJx4a65c_init_da8c8) (by decide +kernel)) rfl (by decide +kernel) ⟨Nat.le_of_ble_eq_true rfl, Nat.le_of_ble_eq_true rfl⟩) ⟨cP.blind, cP.use (en_z hb0 hS) (hE.on hAb hS) hPc hKc hDc trivial⟩ rfl rfl hl.1 rfl (lv_room (Nat.le_of_ble_eq_true rfl)) dX18_init_99 ⟨Nat.le_of_ble_eq_true rfl, Nat.le_of_ble_eq_true rfl⟩) hS (fun q _ h => hFc q h) hFc (fun u t H1 locs ht hvm hw hB hz1 hk1 hS => ?_)
  obtain ⟨hP1, hK1, hD1, hF1⟩ := hB
  rw [ht] at hP1
  try rw [ht] at hF1
  have hK1 := va_K.moved hvm.symm hK1
  try dsimp only at hw
  obtain ⟨hP, hD⟩ := va_join (wr := [(mm, .inr (24, [.int 0, .ref q_1, .ref q_3, .ref q_5, .ref q_12, .int 5, .int 50, .ref q_14, .ref q_16, .int 1600, .ref q_18, .null, .null, .null, .int 0, .null, .null])), (q_1, .inr (5, [.int 0, .ref en.2.2.1, .int 0])), (q_3, .inl (k_4, 144, .inl (fun _ => 0))), (q_5, .inr (20, [.ref ap_7, .ref scr_8, .int 1600, .int 0, .int 0, .ref mm])), (ap_7, .inl (kP_9, 48, .inr (.inr (.inr (.inr g_10))))), (scr_8, .inr (5, [.int 0, .ref en.2.2.1, .int 0])), (q_12, .inr (5, [.int 0, .ref en.2.2.1, .int 0])), (q_14, .inl (k_15, 240, .inl (fun _ => 0))), (q_16, .inl (k_17, 240, .inl (fun _ => 0))), (q_18, .inr (5, [.int 0, .ref en.2.2.1, .int 0]))]) (w1 := [(q_20, .inr (5, [.int 0, .ref en.2.2.1, .int 0]))]) hP hD [10] [0, 1, 2, 3, 4, 5, 6, 7, 8, 9] rfl rfl (by decide) (by decide) hk1 hFc hP1 hD1
  have hG := hG.via (fun q9 h9 n9 => hk1 q9 h9 (vA1 h9 (nin1 (nix 0 n9.2 rfl) nin0)))
  skip
  generalize H1 = H at hP hS hG ⊢
  have hP : va_P (dC, dI) vwCl [(mm, .inr (24, [.int 0, .ref q_1, .ref q_3, .ref q_5, .ref q_12, .int 5, .int 50, .ref q_14, .ref q_16, .int 1600, .ref q_18, .null, .null, .null, .int 0, .null, .null])), (q_1, .inr (5, [.int 0, .ref en.2.2.1, .int 0])), (q_3, .inl (k_4, 144, .inl (fun _ => 0))), (q_5, .inr (20, [.ref ap_7, .ref scr_8, .int 1600, .int 0, .int 0, .ref mm])), (ap_7, .inl (kP_9, 48, .inr (.inr (.inr (.inr g_10))))), (scr_8, .inr (5, [.int 0, .ref en.2.2.1, .int 0])), (q_12, .inr (5, [.int 0, .ref en.2.2.1, .int 0])), (q_14, .inl (k_15, 240, .inl (fun _ => 0))), (q_16, .inl (k_17, 240, .inl (fun _ => 0))), (q_18, .inr (5, [.int 0, .ref en.2.2.1, .int 0])), (q_20, .inr (5, [.int 0, .ref en.2.2.1, .int 0]))] H := hP
  have hD : va_D A [(mm, .inr (24, [.int 0, .ref q_1, .ref q_3, .ref q_5, .ref q_12, .int 5, .int 50, .ref q_14, .ref q_16, .int 1600, .ref q_18, .null, .null, .null, .int 0, .null, .null])), (q_1, .inr (5, [.int 0, .ref en.2.2.1, .int 0])), (q_3, .inl (k_4, 144, .inl (fun _ => 0))), (q_5, .inr (20, [.ref ap_7, .ref scr_8, .int 1600, .int 0, .int 0, .ref mm])), (ap_7, .inl (kP_9, 48, .inr (.inr (.inr (.inr g_10))))), (scr_8, .inr (5, [.int 0, .ref en.2.2.1, .int 0])), (q_12, .inr (5, [.int 0, .ref en.2.2.1, .int 0])), (q_14, .inl (k_15, 240, .inl (fun _ => 0))), (q_16, .inl (k_17, 240, .inl (fun _ => 0))), (q_18, .inr (5, [.int 0, .ref en.2.2.1, .int 0])), (q_20, .inr (5, [.int 0, .ref en.2.2.1, .int 0]))] := hD
  have hR : va_P (dC, dI) vwCl [] H := fun k q h => by simp at h
  refine W.widen (k := 106) (n := 981) (Nat.le_of_ble_eq_true rfl) (Nat.le_of_ble_eq_true rfl) ?_
  refine va_putFX (D := (dC, dI)) (ci := 24) (v := .ref q_20) (ty := .object "java/util/List") (C := RX18) (T := TX18) (N := 17) hx hb hts (by decide +kernel) tyX18 tyX18_ok nmX18 hown hK hP hD hS 0 rfl rfl 11 (by decide) (hts (.fieldLink RX18 52 "UnderpaintModel" "master" "Ljava/util/List;") (by decide +kernel)) (fun _ h9 => h9) rfl hin rfl (by decide +kernel) rfl rfl (Nat.le_of_ble_eq_true rfl) dX18_init_102 (fun H locs hP hD hS hoq => ?_)
  have hG := hG.via (fun q9 h9 n9 => hoq q9 (fun e9 => n9.2 (by rw [e9]; simp only [List.mem_cons, List.not_mem_nil, or_false, true_or, or_true])))
  have hP : va_P (dC, dI) vwCl [(mm, .inr (24, [.int 0, .ref q_1, .ref q_3, .ref q_5, .ref q_12, .int 5, .int 50, .ref q_14, .ref q_16, .int 1600, .ref q_18, .ref q_20, .null, .null, .int 0, .null, .null])), (q_1, .inr (5, [.int 0, .ref en.2.2.1, .int 0])), (q_3, .inl (k_4, 144, .inl (fun _ => 0))), (q_5, .inr (20, [.ref ap_7, .ref scr_8, .int 1600, .int 0, .int 0, .ref mm])), (ap_7, .inl (kP_9, 48, .inr (.inr (.inr (.inr g_10))))), (scr_8, .inr (5, [.int 0, .ref en.2.2.1, .int 0])), (q_12, .inr (5, [.int 0, .ref en.2.2.1, .int 0])), (q_14, .inl (k_15, 240, .inl (fun _ => 0))), (q_16, .inl (k_17, 240, .inl (fun _ => 0))), (q_18, .inr (5, [.int 0, .ref en.2.2.1, .int 0])), (q_20, .inr (5, [.int 0, .ref en.2.2.1, .int 0]))] H := hP
  have hD : va_D A [(mm, .inr (24, [.int 0, .ref q_1, .ref q_3, .ref q_5, .ref q_12, .int 5, .int 50, .ref q_14, .ref q_16, .int 1600, .ref q_18, .ref q_20, .null, .null, .int 0, .null, .null])), (q_1, .inr (5, [.int 0, .ref en.2.2.1, .int 0])), (q_3, .inl (k_4, 144, .inl (fun _ => 0))), (q_5, .inr (20, [.ref ap_7, .ref scr_8, .int 1600, .int 0, .int 0, .ref mm])), (ap_7, .inl (kP_9, 48, .inr (.inr (.inr (.inr g_10))))), (scr_8, .inr (5, [.int 0, .ref en.2.2.1, .int 0])), (q_12, .inr (5, [.int 0, .ref en.2.2.1, .int 0])), (q_14, .inl (k_15, 240, .inl (fun _ => 0))), (q_16, .inl (k_17, 240, .inl (fun _ => 0))), (q_18, .inr (5, [.int 0, .ref en.2.2.1, .int 0])), (q_20, .inr (5, [.int 0, .ref en.2.2.1, .int 0]))] := hD
  have hR : va_P (dC, dI) vwCl [] H := fun k q h => by simp at h
  refine lv_aload_n hx hb dX18_init_105 rfl (lv_at hl 0 rfl) ?_
  have hz9 := hS.1
  refine va_newX (ci := 5) (fs := [.int 0, .null, .int 0]) (C := RJx4a65c) (T := TJx4a65c) (N := 3) hx hb hts (by decide +kernel) tyJx4a65c tyJx4a65c_ok hown (hts (.classLink RX18 7 RJx4a65c) (by decide +kernel)) (hts (.instantiable RJx4a65c 3) (by decide +kernel)) (hts (.initialized RJx4a65c) (by decide +kernel)) hK hP hD hS hA rfl (fun j hj => by rcases (show j = 0 ∨ j = 1 ∨ j = 2 by omega) with rfl | rfl | rfl <;> rfl) (Nat.le_of_ble_eq_true rfl) (Nat.le_of_ble_eq_true rfl) dX18_init_106 (fun q_22 H hP hD hS hoq hoz => ?_)
  have hG := FamP.newc hG hoq hoz
  have hP : va_P (dC, dI) vwCl [(mm, .inr (24, [.int 0, .ref q_1, .ref q_3, .ref q_5, .ref q_12, .int 5, .int 50, .ref q_14, .ref q_16, .int 1600, .ref q_18, .ref q_20, .null, .null, .int 0, .null, .null])), (q_1, .inr (5, [.int 0, .ref en.2.2.1, .int 0])), (q_3, .inl (k_4, 144, .inl (fun _ => 0))), (q_5, .inr (20, [.ref ap_7, .ref scr_8, .int 1600, .int 0, .int 0, .ref mm])), (ap_7, .inl (kP_9, 48, .inr (.inr (.inr (.inr g_10))))), (scr_8, .inr (5, [.int 0, .ref en.2.2.1, .int 0])), (q_12, .inr (5, [.int 0, .ref en.2.2.1, .int 0])), (q_14, .inl (k_15, 240, .inl (fun _ => 0))), (q_16, .inl (k_17, 240, .inl (fun _ => 0))), (q_18, .inr (5, [.int 0, .ref en.2.2.1, .int 0])), (q_20, .inr (5, [.int 0, .ref en.2.2.1, .int 0])), (q_22, .inr (5, [.int 0, .null, .int 0]))] H := hP
  have hD : va_D A [(mm, .inr (24, [.int 0, .ref q_1, .ref q_3, .ref q_5, .ref q_12, .int 5, .int 50, .ref q_14, .ref q_16, .int 1600, .ref q_18, .ref q_20, .null, .null, .int 0, .null, .null])), (q_1, .inr (5, [.int 0, .ref en.2.2.1, .int 0])), (q_3, .inl (k_4, 144, .inl (fun _ => 0))), (q_5, .inr (20, [.ref ap_7, .ref scr_8, .int 1600, .int 0, .int 0, .ref mm])), (ap_7, .inl (kP_9, 48, .inr (.inr (.inr (.inr g_10))))), (scr_8, .inr (5, [.int 0, .ref en.2.2.1, .int 0])), (q_12, .inr (5, [.int 0, .ref en.2.2.1, .int 0])), (q_14, .inl (k_15, 240, .inl (fun _ => 0))), (q_16, .inl (k_17, 240, .inl (fun _ => 0))), (q_18, .inr (5, [.int 0, .ref en.2.2.1, .int 0])), (q_20, .inr (5, [.int 0, .ref en.2.2.1, .int 0])), (q_22, .inr (5, [.int 0, .null, .int 0]))] := hD
  have hR : va_P (dC, dI) vwCl [] H := fun k q h => by simp at h
  refine W.widen (k := 107) (n := 984) (Nat.le_of_ble_eq_true rfl) (Nat.le_of_ble_eq_true rfl) ?_
  have hgz_q_22 : s.heap.size ≤ q_22 := by rw [hoz]; exact hz9
  have hoz_q_22 := hoz
  refine lv_dup hx hb dX18_init_109 rfl ?_
  have hPc := (hP.app hR).sub (ws' := [(q_22, .inr (5, [.int 0, .null, .int 0]))] ++ []) [11] rfl
  have hDc := (en_DD hD hDr hN0 hAb).sub (ws' := [(q_22, .inr (5, [.int 0, .null, .int 0]))] ++ []) [11] (by decide) rfl
  have hKc := hK.sub (tys' := []) [] rfl
  have hFc := va_free (wc := [(q_22, .inr (5, [.int 0, .null, .int 0]))]) hD hS hA [11] rfl
  refine va_callv (va_runI (As := []) (rest := [.ref q_22, .ref mm]) ⟨hx, hb, hml, hown, hts⟩ (c_AList l dC dI b0 en H.size q_22) (cwI 0 hts go_c_X18_init_0 rfl rfl rfl (hts (.initialized RJx4a65c) (by decide +kernel)) (hts (.methodLink RX18 9 yJx4a65c_init_da8c8) (by decide +kernel)) (hts (.instanceMethod yJx4a65c_init_da8c8) (by decide +kernel)) rfl (by decide +kernel) ⟨Nat.le_of_ble_eq_true rfl, Nat.le_of_ble_eq_true rfl⟩) ⟨cP.blind, cP.use (en_z hb0 hS) (hE.on hAb hS) hPc hKc hDc trivial⟩ rfl rfl hl.1 rfl (lv_room (Nat.le_of_ble_eq_true rfl)) dX18_init_110 ⟨Nat.le_of_ble_eq_true rfl, Nat.le_of_ble_eq_true rfl⟩) hS (fun q _ h => hFc q h) hFc (fun u t H1 locs ht hvm hw hB hz1 hk1 hS => ?_)
  obtain ⟨hP1, hK1, hD1, hF1⟩ := hB
  rw [ht] at hP1
  try rw [ht] at hF1
  have hK1 := va_K.moved hvm.symm hK1
  try dsimp only at hw
  obtain ⟨hP, hD⟩ := va_join (wr := [(mm, .inr (24, [.int 0, .ref q_1, .ref q_3, .ref q_5, .ref q_12, .int 5, .int 50, .ref q_14, .ref q_16, .int 1600, .ref q_18, .ref q_20, .null, .null, .int 0, .null, .null])), (q_1, .inr (5, [.int 0, .ref en.2.2.1, .int 0])), (q_3, .inl (k_4, 144, .inl (fun _ => 0))), (q_5, .inr (20, [.ref ap_7, .ref scr_8, .int 1600, .int 0, .int 0, .ref mm])), (ap_7, .inl (kP_9, 48, .inr (.inr (.inr (.inr g_10))))), (scr_8, .inr (5, [.int 0, .ref en.2.2.1, .int 0])), (q_12, .inr (5, [.int 0, .ref en.2.2.1, .int 0])), (q_14, .inl (k_15, 240, .inl (fun _ => 0))), (q_16, .inl (k_17, 240, .inl (fun _ => 0))), (q_18, .inr (5, [.int 0, .ref en.2.2.1, .int 0])), (q_20, .inr (5, [.int 0, .ref en.2.2.1, .int 0]))]) (w1 := [(q_22, .inr (5, [.int 0, .ref en.2.2.1, .int 0]))]) hP hD [11] [0, 1, 2, 3, 4, 5, 6, 7, 8, 9, 10] rfl rfl (by decide) (by decide) hk1 hFc hP1 hD1
  have hG := hG.via (fun q9 h9 n9 => hk1 q9 h9 (vA1 h9 (nin1 (nix 0 n9.2 rfl) nin0)))
  skip
  generalize H1 = H at hP hS hG ⊢
  have hP : va_P (dC, dI) vwCl [(mm, .inr (24, [.int 0, .ref q_1, .ref q_3, .ref q_5, .ref q_12, .int 5, .int 50, .ref q_14, .ref q_16, .int 1600, .ref q_18, .ref q_20, .null, .null, .int 0, .null, .null])), (q_1, .inr (5, [.int 0, .ref en.2.2.1, .int 0])), (q_3, .inl (k_4, 144, .inl (fun _ => 0))), (q_5, .inr (20, [.ref ap_7, .ref scr_8, .int 1600, .int 0, .int 0, .ref mm])), (ap_7, .inl (kP_9, 48, .inr (.inr (.inr (.inr g_10))))), (scr_8, .inr (5, [.int 0, .ref en.2.2.1, .int 0])), (q_12, .inr (5, [.int 0, .ref en.2.2.1, .int 0])), (q_14, .inl (k_15, 240, .inl (fun _ => 0))), (q_16, .inl (k_17, 240, .inl (fun _ => 0))), (q_18, .inr (5, [.int 0, .ref en.2.2.1, .int 0])), (q_20, .inr (5, [.int 0, .ref en.2.2.1, .int 0])), (q_22, .inr (5, [.int 0, .ref en.2.2.1, .int 0]))] H := hP
  have hD : va_D A [(mm, .inr (24, [.int 0, .ref q_1, .ref q_3, .ref q_5, .ref q_12, .int 5, .int 50, .ref q_14, .ref q_16, .int 1600, .ref q_18, .ref q_20, .null, .null, .int 0, .null, .null])), (q_1, .inr (5, [.int 0, .ref en.2.2.1, .int 0])), (q_3, .inl (k_4, 144, .inl (fun _ => 0))), (q_5, .inr (20, [.ref ap_7, .ref scr_8, .int 1600, .int 0, .int 0, .ref mm])), (ap_7, .inl (kP_9, 48, .inr (.inr (.inr (.inr g_10))))), (scr_8, .inr (5, [.int 0, .ref en.2.2.1, .int 0])), (q_12, .inr (5, [.int 0, .ref en.2.2.1, .int 0])), (q_14, .inl (k_15, 240, .inl (fun _ => 0))), (q_16, .inl (k_17, 240, .inl (fun _ => 0))), (q_18, .inr (5, [.int 0, .ref en.2.2.1, .int 0])), (q_20, .inr (5, [.int 0, .ref en.2.2.1, .int 0])), (q_22, .inr (5, [.int 0, .ref en.2.2.1, .int 0]))] := hD
  have hR : va_P (dC, dI) vwCl [] H := fun k q h => by simp at h
  refine W.widen (k := 107) (n := 984) (Nat.le_of_ble_eq_true rfl) (Nat.le_of_ble_eq_true rfl) ?_
  refine va_putFX (D := (dC, dI)) (ci := 24) (v := .ref q_22) (ty := .object "java/util/List") (C := RX18) (T := TX18) (N := 17) hx hb hts (by decide +kernel) tyX18 tyX18_ok nmX18 hown hK hP hD hS 0 rfl rfl 12 (by decide) (hts (.fieldLink RX18 55 "UnderpaintModel" "painters" "Ljava/util/List;") (by decide +kernel)) (fun _ h9 => h9) rfl hin rfl (by decide +kernel) rfl rfl (Nat.le_of_ble_eq_true rfl) dX18_init_113 (fun H locs hP hD hS hoq => ?_)
  have hG := hG.via (fun q9 h9 n9 => hoq q9 (fun e9 => n9.2 (by rw [e9]; simp only [List.mem_cons, List.not_mem_nil, or_false, true_or, or_true])))
  have hP : va_P (dC, dI) vwCl [(mm, .inr (24, [.int 0, .ref q_1, .ref q_3, .ref q_5, .ref q_12, .int 5, .int 50, .ref q_14, .ref q_16, .int 1600, .ref q_18, .ref q_20, .ref q_22, .null, .int 0, .null, .null])), (q_1, .inr (5, [.int 0, .ref en.2.2.1, .int 0])), (q_3, .inl (k_4, 144, .inl (fun _ => 0))), (q_5, .inr (20, [.ref ap_7, .ref scr_8, .int 1600, .int 0, .int 0, .ref mm])), (ap_7, .inl (kP_9, 48, .inr (.inr (.inr (.inr g_10))))), (scr_8, .inr (5, [.int 0, .ref en.2.2.1, .int 0])), (q_12, .inr (5, [.int 0, .ref en.2.2.1, .int 0])), (q_14, .inl (k_15, 240, .inl (fun _ => 0))), (q_16, .inl (k_17, 240, .inl (fun _ => 0))), (q_18, .inr (5, [.int 0, .ref en.2.2.1, .int 0])), (q_20, .inr (5, [.int 0, .ref en.2.2.1, .int 0])), (q_22, .inr (5, [.int 0, .ref en.2.2.1, .int 0]))] H := hP
  have hD : va_D A [(mm, .inr (24, [.int 0, .ref q_1, .ref q_3, .ref q_5, .ref q_12, .int 5, .int 50, .ref q_14, .ref q_16, .int 1600, .ref q_18, .ref q_20, .ref q_22, .null, .int 0, .null, .null])), (q_1, .inr (5, [.int 0, .ref en.2.2.1, .int 0])), (q_3, .inl (k_4, 144, .inl (fun _ => 0))), (q_5, .inr (20, [.ref ap_7, .ref scr_8, .int 1600, .int 0, .int 0, .ref mm])), (ap_7, .inl (kP_9, 48, .inr (.inr (.inr (.inr g_10))))), (scr_8, .inr (5, [.int 0, .ref en.2.2.1, .int 0])), (q_12, .inr (5, [.int 0, .ref en.2.2.1, .int 0])), (q_14, .inl (k_15, 240, .inl (fun _ => 0))), (q_16, .inl (k_17, 240, .inl (fun _ => 0))), (q_18, .inr (5, [.int 0, .ref en.2.2.1, .int 0])), (q_20, .inr (5, [.int 0, .ref en.2.2.1, .int 0])), (q_22, .inr (5, [.int 0, .ref en.2.2.1, .int 0]))] := hD
  have hR : va_P (dC, dI) vwCl [] H := fun k q h => by simp at h
  refine lv_aload_n hx hb dX18_init_116 rfl (lv_at hl 0 rfl) ?_
  have hz9 := hS.1
  refine va_newX (ci := 5) (fs := [.int 0, .null, .int 0]) (C := RJx4a65c) (T := TJx4a65c) (N := 3) hx hb hts (by decide +kernel) tyJx4a65c tyJx4a65c_ok hown (hts (.classLink RX18 7 RJx4a65c) (by decide +kernel)) (hts (.instantiable RJx4a65c 3) (by decide +kernel)) (hts (.initialized RJx4a65c) (by decide +kernel)) hK hP hD hS hA rfl (fun j hj => by rcases (show j = 0 ∨ j = 1 ∨ j = 2 by omega) with rfl | rfl | rfl <;> rfl) (Nat.le_of_ble_eq_true rfl) (Nat.le_of_ble_eq_true rfl) dX18_init_117 (fun q_24 H hP hD hS hoq hoz => ?_)
  have hG := FamP.newc hG hoq hoz
  have hP : va_P (dC, dI) vwCl [(mm, .inr (24, [.int 0, .ref q_1, .ref q_3, .ref q_5, .ref q_12, .int 5, .int 50, .ref q_14, .ref q_16, .int 1600, .ref q_18, .ref q_20, .ref q_22, .null, .int 0, .null, .null])), (q_1, .inr (5, [.int 0, .ref en.2.2.1, .int 0])), (q_3, .inl (k_4, 144, .inl (fun _ => 0))), (q_5, .inr (20, [.ref ap_7, .ref scr_8, .int 1600, .int 0, .int 0, .ref mm])), (ap_7, .inl (kP_9, 48, .inr (.inr (.inr (.inr g_10))))), (scr_8, .inr (5, [.int 0, .ref en.2.2.1, .int 0])), (q_12, .inr (5, [.int 0, .ref en.2.2.1, .int 0])), (q_14, .inl (k_15, 240, .inl (fun _ => 0))), (q_16, .inl (k_17, 240, .inl (fun _ => 0))), (q_18, .inr (5, [.int 0, .ref en.2.2.1, .int 0])), (q_20, .inr (5, [.int 0, .ref en.2.2.1, .int 0])), (q_22, .inr (5, [.int 0, .ref en.2.2.1, .int 0])), (q_24, .inr (5, [.int 0, .null, .int 0]))] H := hP
  have hD : va_D A [(mm, .inr (24, [.int 0, .ref q_1, .ref q_3, .ref q_5, .ref q_12, .int 5, .int 50, .ref q_14, .ref q_16, .int 1600, .ref q_18, .ref q_20, .ref q_22, .null, .int 0, .null, .null])), (q_1, .inr (5, [.int 0, .ref en.2.2.1, .int 0])), (q_3, .inl (k_4, 144, .inl (fun _ => 0))), (q_5, .inr (20, [.ref ap_7, .ref scr_8, .int 1600, .int 0, .int 0, .ref mm])), (ap_7, .inl (kP_9, 48, .inr (.inr (.inr (.inr g_10))))), (scr_8, .inr (5, [.int 0, .ref en.2.2.1, .int 0])), (q_12, .inr (5, [.int 0, .ref en.2.2.1, .int 0])), (q_14, .inl (k_15, 240, .inl (fun _ => 0))), (q_16, .inl (k_17, 240, .inl (fun _ => 0))), (q_18, .inr (5, [.int 0, .ref en.2.2.1, .int 0])), (q_20, .inr (5, [.int 0, .ref en.2.2.1, .int 0])), (q_22, .inr (5, [.int 0, .ref en.2.2.1, .int 0])), (q_24, .inr (5, [.int 0, .null, .int 0]))] := hD
  have hR : va_P (dC, dI) vwCl [] H := fun k q h => by simp at h
  refine W.widen (k := 108) (n := 987) (Nat.le_of_ble_eq_true rfl) (Nat.le_of_ble_eq_true rfl) ?_
  have hgz_q_24 : s.heap.size ≤ q_24 := by rw [hoz]; exact hz9
  have hoz_q_24 := hoz
  refine lv_dup hx hb dX18_init_120 rfl ?_
  have hPc := (hP.app hR).sub (ws' := [(q_24, .inr (5, [.int 0, .null, .int 0]))] ++ []) [12] rfl
  have hDc := (en_DD hD hDr hN0 hAb).sub (ws' := [(q_24, .inr (5, [.int 0, .null, .int 0]))] ++ []) [12] (by decide) rfl
  have hKc := hK.sub (tys' := []) [] rfl
  have hFc := va_free (wc := [(q_24, .inr (5, [.int 0, .null, .int 0]))]) hD hS hA [12] rfl
  refine va_callv (va_runI (As := []) (rest := [.ref q_24, .ref mm]) ⟨hx, hb, hml, hown, hts⟩ (c_AList l dC dI b0 en H.size q_24) (cwI 0 hts go_c_X18_init_0 rfl rfl rfl (hts (.initialized RJx4a65c) (by decide +kernel)) (hts (.methodLink RX18 9 yJx4a65c_init_da8c8) (by decide +kernel)) (hts (.instanceMethod yJx4a65c_init_da8c8) (by decide +kernel)) rfl (by decide +kernel) ⟨Nat.le_of_ble_eq_true rfl, Nat.le_of_ble_eq_true rfl⟩) ⟨cP.blind, cP.use (en_z hb0 hS) (hE.on hAb hS) hPc hKc hDc trivial⟩ rfl rfl hl.1 rfl (lv_room (Nat.le_of_ble_eq_true rfl)) dX18_init_121 ⟨Nat.le_of_ble_eq_true rfl, Nat.le_of_ble_eq_true rfl⟩) hS (fun q _ h => hFc q h) hFc (fun u t H1 locs ht hvm hw hB hz1 hk1 hS => ?_)
  obtain ⟨hP1, hK1, hD1, hF1⟩ := hB
  rw [ht] at hP1
  try rw [ht] at hF1
  have hK1 := va_K.moved hvm.symm hK1
  try dsimp only at hw
  obtain ⟨hP, hD⟩ := va_join (wr := [(mm, .inr (24, [.int 0, .ref q_1, .ref q_3, .ref q_5, .ref q_12, .int 5, .int 50, .ref q_14, .ref q_16, .int 1600, .ref q_18, .ref q_20, .ref q_22, .null, .int 0, .null, .null])), (q_1, .inr (5, [.int 0, .ref en.2.2.1, .int 0])), (q_3, .inl (k_4, 144, .inl (fun _ => 0))), (q_5, .inr (20, [.ref ap_7, .ref scr_8, .int 1600, .int 0, .int 0, .ref mm])), (ap_7, .inl (kP_9, 48, .inr (.inr (.inr (.inr g_10))))), (scr_8, .inr (5, [.int 0, .ref en.2.2.1, .int 0])), (q_12, .inr (5, [.int 0, .ref en.2.2.1, .int 0])), (q_14, .inl (k_15, 240, .inl (fun _ => 0))), (q_16, .inl (k_17, 240, .inl (fun _ => 0))), (q_18, .inr (5, [.int 0, .ref en.2.2.1, .int 0])), (q_20, .inr (5, [.int 0, .ref en.2.2.1, .int 0])), (q_22, .inr (5, [.int 0, .ref en.2.2.1, .int 0]))]) (w1 := [(q_24, .inr (5, [.int 0, .ref en.2.2.1, .int 0]))]) hP hD [12] [0, 1, 2, 3, 4, 5, 6, 7, 8, 9, 10, 11] rfl rfl (by decide) (by decide) hk1 hFc hP1 hD1
  have hG := hG.via (fun q9 h9 n9 => hk1 q9 h9 (vA1 h9 (nin1 (nix 0 n9.2 rfl) nin0)))
  skip
  generalize H1 = H at hP hS hG ⊢
  have hP : va_P (dC, dI) vwCl [(mm, .inr (24, [.int 0, .ref q_1, .ref q_3, .ref q_5, .ref q_12, .int 5, .int 50, .ref q_14, .ref q_16, .int 1600, .ref q_18, .ref q_20, .ref q_22, .null, .int 0, .null, .null])), (q_1, .inr (5, [.int 0, .ref en.2.2.1, .int 0])), (q_3, .inl (k_4, 144, .inl (fun _ => 0))), (q_5, .inr (20, [.ref ap_7, .ref scr_8, .int 1600, .int 0, .int 0, .ref mm])), (ap_7, .inl (kP_9, 48, .inr (.inr (.inr (.inr g_10))))), (scr_8, .inr (5, [.int 0, .ref en.2.2.1, .int 0])), (q_12, .inr (5, [.int 0, .ref en.2.2.1, .int 0])), (q_14, .inl (k_15, 240, .inl (fun _ => 0))), (q_16, .inl (k_17, 240, .inl (fun _ => 0))), (q_18, .inr (5, [.int 0, .ref en.2.2.1, .int 0])), (q_20, .inr (5, [.int 0, .ref en.2.2.1, .int 0])), (q_22, .inr (5, [.int 0, .ref en.2.2.1, .int 0])), (q_24, .inr (5, [.int 0, .ref en.2.2.1, .int 0]))] H := hP
  have hD : va_D A [(mm, .inr (24, [.int 0, .ref q_1, .ref q_3, .ref q_5, .ref q_12, .int 5, .int 50, .ref q_14, .ref q_16, .int 1600, .ref q_18, .ref q_20, .ref q_22, .null, .int 0, .null, .null])), (q_1, .inr (5, [.int 0, .ref en.2.2.1, .int 0])), (q_3, .inl (k_4, 144, .inl (fun _ => 0))), (q_5, .inr (20, [.ref ap_7, .ref scr_8, .int 1600, .int 0, .int 0, .ref mm])), (ap_7, .inl (kP_9, 48, .inr (.inr (.inr (.inr g_10))))), (scr_8, .inr (5, [.int 0, .ref en.2.2.1, .int 0])), (q_12, .inr (5, [.int 0, .ref en.2.2.1, .int 0])), (q_14, .inl (k_15, 240, .inl (fun _ => 0))), (q_16, .inl (k_17, 240, .inl (fun _ => 0))), (q_18, .inr (5, [.int 0, .ref en.2.2.1, .int 0])), (q_20, .inr (5, [.int 0, .ref en.2.2.1, .int 0])), (q_22, .inr (5, [.int 0, .ref en.2.2.1, .int 0])), (q_24, .inr (5, [.int 0, .ref en.2.2.1, .int 0]))] := hD
  have hR : va_P (dC, dI) vwCl [] H := fun k q h => by simp at h
  refine W.widen (k := 108) (n := 987) (Nat.le_of_ble_eq_true rfl) (Nat.le_of_ble_eq_true rfl) ?_
  refine va_putFX (D := (dC, dI)) (ci := 24) (v := .ref q_24) (ty := .object "java/util/List") (C := RX18) (T := TX18) (N := 17) hx hb hts (by decide +kernel) tyX18 tyX18_ok nmX18 hown hK hP hD hS 0 rfl rfl 13 (by decide) (hts (.fieldLink RX18 58 "UnderpaintModel" "solvents" "Ljava/util/List;") (by decide +kernel)) (fun _ h9 => h9) rfl hin rfl (by decide +kernel) rfl rfl (Nat.le_of_ble_eq_true rfl) dX18_init_124 (fun H locs hP hD hS hoq => ?_)
  have hG := hG.via (fun q9 h9 n9 => hoq q9 (fun e9 => n9.2 (by rw [e9]; simp only [List.mem_cons, List.not_mem_nil, or_false, true_or, or_true])))
  have hP : va_P (dC, dI) vwCl [(mm, .inr (24, [.int 0, .ref q_1, .ref q_3, .ref q_5, .ref q_12, .int 5, .int 50, .ref q_14, .ref q_16, .int 1600, .ref q_18, .ref q_20, .ref q_22, .ref q_24, .int 0, .null, .null])), (q_1, .inr (5, [.int 0, .ref en.2.2.1, .int 0])), (q_3, .inl (k_4, 144, .inl (fun _ => 0))), (q_5, .inr (20, [.ref ap_7, .ref scr_8, .int 1600, .int 0, .int 0, .ref mm])), (ap_7, .inl (kP_9, 48, .inr (.inr (.inr (.inr g_10))))), (scr_8, .inr (5, [.int 0, .ref en.2.2.1, .int 0])), (q_12, .inr (5, [.int 0, .ref en.2.2.1, .int 0])), (q_14, .inl (k_15, 240, .inl (fun _ => 0))), (q_16, .inl (k_17, 240, .inl (fun _ => 0))), (q_18, .inr (5, [.int 0, .ref en.2.2.1, .int 0])), (q_20, .inr (5, [.int 0, .ref en.2.2.1, .int 0])), (q_22, .inr (5, [.int 0, .ref en.2.2.1, .int 0])), (q_24, .inr (5, [.int 0, .ref en.2.2.1, .int 0]))] H := hP
  have hD : va_D A [(mm, .inr (24, [.int 0, .ref q_1, .ref q_3, .ref q_5, .ref q_12, .int 5, .int 50, .ref q_14, .ref q_16, .int 1600, .ref q_18, .ref q_20, .ref q_22, .ref q_24, .int 0, .null, .null])), (q_1, .inr (5, [.int 0, .ref en.2.2.1, .int 0])), (q_3, .inl (k_4, 144, .inl (fun _ => 0))), (q_5, .inr (20, [.ref ap_7, .ref scr_8, .int 1600, .int 0, .int 0, .ref mm])), (ap_7, .inl (kP_9, 48, .inr (.inr (.inr (.inr g_10))))), (scr_8, .inr (5, [.int 0, .ref en.2.2.1, .int 0])), (q_12, .inr (5, [.int 0, .ref en.2.2.1, .int 0])), (q_14, .inl (k_15, 240, .inl (fun _ => 0))), (q_16, .inl (k_17, 240, .inl (fun _ => 0))), (q_18, .inr (5, [.int 0, .ref en.2.2.1, .int 0])), (q_20, .inr (5, [.int 0, .ref en.2.2.1, .int 0])), (q_22, .inr (5, [.int 0, .ref en.2.2.1, .int 0])), (q_24, .inr (5, [.int 0, .ref en.2.2.1, .int 0]))] := hD
  have hR : va_P (dC, dI) vwCl [] H := fun k q h => by simp at h
  refine lv_aload_n hx hb dX18_init_127 rfl (lv_at hl 0 rfl) ?_
  have hz9 := hS.1
  refine va_newX (ci := 5) (fs := [.int 0, .null, .int 0]) (C := RJx4a65c) (T := TJx4a65c) (N := 3) hx hb hts (by decide +kernel) tyJx4a65c tyJx4a65c_ok hown (hts (.classLink RX18 7 RJx4a65c) (by decide +kernel)) (hts (.instantiable RJx4a65c 3) (by decide +kernel)) (hts (.initialized RJx4a65c) (by decide +kernel)) hK hP hD hS hA rfl (fun j hj => by rcases (show j = 0 ∨ j = 1 ∨ j = 2 by omega) with rfl | rfl | rfl <;> rfl) (Nat.le_of_ble_eq_true rfl) (Nat.le_of_ble_eq_true rfl) dX18_init_128 (fun q_26 H hP hD hS hoq hoz => ?_)
  have hG := FamP.newc hG hoq hoz
  have hP : va_P (dC, dI) vwCl [(mm, .inr (24, [.int 0, .ref q_1, .ref q_3, .ref q_5, .ref q_12, .int 5, .int 50, .ref q_14, .ref q_16, .int 1600, .ref q_18, .ref q_20, .ref q_22, .ref q_24, .int 0, .null, .null])), (q_1, .inr (5, [.int 0, .ref en.2.2.1, .int 0])), (q_3, .inl (k_4, 144, .inl (fun _ => 0))), (q_5, .inr (20, [.ref ap_7, .ref scr_8, .int 1600, .int 0, .int 0, .ref mm])), (ap_7, .inl (kP_9, 48, .inr (.inr (.inr (.inr g_10))))), (scr_8, .inr (5, [.int 0, .ref en.2.2.1, .int 0])), (q_12, .inr (5, [.int 0, .ref en.2.2.1, .int 0])), (q_14, .inl (k_15, 240, .inl (fun _ => 0))), (q_16, .inl (k_17, 240, .inl (fun _ => 0))), (q_18, .inr (5, [.int 0, .ref en.2.2.1, .int 0])), (q_20, .inr (5, [.int 0, .ref en.2.2.1, .int 0])), (q_22, .inr (5, [.int 0, .ref en.2.2.1, .int 0])), (q_24, .inr (5, [.int 0, .ref en.2.2.1, .int 0])), (q_26, .inr (5, [.int 0, .null, .int 0]))] H := hP
  have hD : va_D A [(mm, .inr (24, [.int 0, .ref q_1, .ref q_3, .ref q_5, .ref q_12, .int 5, .int 50, .ref q_14, .ref q_16, .int 1600, .ref q_18, .ref q_20, .ref q_22, .ref q_24, .int 0, .null, .null])), (q_1, .inr (5, [.int 0, .ref en.2.2.1, .int 0])), (q_3, .inl (k_4, 144, .inl (fun _ => 0))), (q_5, .inr (20, [.ref ap_7, .ref scr_8, .int 1600, .int 0, .int 0, .ref mm])), (ap_7, .inl (kP_9, 48, .inr (.inr (.inr (.inr g_10))))), (scr_8, .inr (5, [.int 0, .ref en.2.2.1, .int 0])), (q_12, .inr (5, [.int 0, .ref en.2.2.1, .int 0])), (q_14, .inl (k_15, 240, .inl (fun _ => 0))), (q_16, .inl (k_17, 240, .inl (fun _ => 0))), (q_18, .inr (5, [.int 0, .ref en.2.2.1, .int 0])), (q_20, .inr (5, [.int 0, .ref en.2.2.1, .int 0])), (q_22, .inr (5, [.int 0, .ref en.2.2.1, .int 0])), (q_24, .inr (5, [.int 0, .ref en.2.2.1, .int 0])), (q_26, .inr (5, [.int 0, .null, .int 0]))] := hD
  have hR : va_P (dC, dI) vwCl [] H := fun k q h => by simp at h
  refine W.widen (k := 109) (n := 990) (Nat.le_of_ble_eq_true rfl) (Nat.le_of_ble_eq_true rfl) ?_
  have hgz_q_26 : s.heap.size ≤ q_26 := by rw [hoz]; exact hz9
  have hoz_q_26 := hoz
  refine lv_dup hx hb dX18_init_131 rfl ?_
  have hPc := (hP.app hR).sub (ws' := [(q_26, .inr (5, [.int 0, .null, .int 0]))] ++ []) [13] rfl
  have hDc := (en_DD hD hDr hN0 hAb).sub (ws' := [(q_26, .inr (5, [.int 0, .null, .int 0]))] ++ []) [13] (by decide) rfl
  have hKc := hK.sub (tys' := []) [] rfl
  have hFc := va_free (wc := [(q_26, .inr (5, [.int 0, .null, .int 0]))]) hD hS hA [13] rfl
  refine va_callv (va_runI (As := []) (rest := [.ref q_26, .ref mm]) ⟨hx, hb, hml, hown, hts⟩ (c_AList l dC dI b0 en H.size q_26) (cwI 0 hts go_c_X18_init_0 rfl rfl rfl (hts (.initialized RJx4a65c) (by decide +kernel)) (hts (.methodLink RX18 9 yJx4a65c_init_da8c8) (by decide +kernel)) (hts (.instanceMethod yJx4a65c_init_da8c8) (by decide +kernel)) rfl (by decide +kernel) ⟨Nat.le_of_ble_eq_true rfl, Nat.le_of_ble_eq_true rfl⟩) ⟨cP.blind, cP.use (en_z hb0 hS) (hE.on hAb hS) hPc hKc hDc trivial⟩ rfl rfl hl.1 rfl (lv_room (Nat.le_of_ble_eq_true rfl)) dX18_init_132 ⟨Nat.le_of_ble_eq_true rfl, Nat.le_of_ble_eq_true rfl⟩) hS (fun q _ h => hFc q h) hFc (fun u t H1 locs ht hvm hw hB hz1 hk1 hS => ?_)
  obtain ⟨hP1, hK1, hD1, hF1⟩ := hB
  rw [ht] at hP1
  try rw [ht] at hF1
  have hK1 := va_K.moved hvm.symm hK1
  try dsimp only at hw
  obtain ⟨hP, hD⟩ := va_join (wr := [(mm, .inr (24, [.int 0, .ref q_1, .ref q_3, .ref q_5, .ref q_12, .int 5, .int 50, .ref q_14, .ref q_16, .int 1600, .ref q_18, .ref q_20, .ref q_22, .ref q_24, .int 0, .null, .null])), (q_1, .inr (5, [.int 0, .ref en.2.2.1, .int 0])), (q_3, .inl (k_4, 144, .inl (fun _ => 0))), (q_5, .inr (20, [.ref ap_7, .ref scr_8, .int 1600, .int 0, .int 0, .ref mm])), (ap_7, .inl (kP_9, 48, .inr (.inr (.inr (.inr g_10))))), (scr_8, .inr (5, [.int 0, .ref en.2.2.1, .int 0])), (q_12, .inr (5, [.int 0, .ref en.2.2.1, .int 0])), (q_14, .inl (k_15, 240, .inl (fun _ => 0))), (q_16, .inl (k_17, 240, .inl (fun _ => 0))), (q_18, .inr (5, [.int 0, .ref en.2.2.1, .int 0])), (q_20, .inr (5, [.int 0, .ref en.2.2.1, .int 0])), (q_22, .inr (5, [.int 0, .ref en.2.2.1, .int 0])), (q_24, .inr (5, [.int 0, .ref en.2.2.1, .int 0]))]) (w1 := [(q_26, .inr (5, [.int 0, .ref en.2.2.1, .int 0]))]) hP hD [13] [0, 1, 2, 3, 4, 5, 6, 7, 8, 9, 10, 11, 12] rfl rfl (by decide) (by decide) hk1 hFc hP1 hD1
  have hG := hG.via (fun q9 h9 n9 => hk1 q9 h9 (vA1 h9 (nin1 (nix 0 n9.2 rfl) nin0)))
  skip
  generalize H1 = H at hP hS hG ⊢
  have hP : va_P (dC, dI) vwCl [(mm, .inr (24, [.int 0, .ref q_1, .ref q_3, .ref q_5, .ref q_12, .int 5, .int 50, .ref q_14, .ref q_16, .int 1600, .ref q_18, .ref q_20, .ref q_22, .ref q_24, .int 0, .null, .null])), (q_1, .inr (5, [.int 0, .ref en.2.2.1, .int 0])), (q_3, .inl (k_4, 144, .inl (fun _ => 0))), (q_5, .inr (20, [.ref ap_7, .ref scr_8, .int 1600, .int 0, .int 0, .ref mm])), (ap_7, .inl (kP_9, 48, .inr (.inr (.inr (.inr g_10))))), (scr_8, .inr (5, [.int 0, .ref en.2.2.1, .int 0])), (q_12, .inr (5, [.int 0, .ref en.2.2.1, .int 0])), (q_14, .inl (k_15, 240, .inl (fun _ => 0))), (q_16, .inl (k_17, 240, .inl (fun _ => 0))), (q_18, .inr (5, [.int 0, .ref en.2.2.1, .int 0])), (q_20, .inr (5, [.int 0, .ref en.2.2.1, .int 0])), (q_22, .inr (5, [.int 0, .ref en.2.2.1, .int 0])), (q_24, .inr (5, [.int 0, .ref en.2.2.1, .int 0])), (q_26, .inr (5, [.int 0, .ref en.2.2.1, .int 0]))] H := hP
  have hD : va_D A [(mm, .inr (24, [.int 0, .ref q_1, .ref q_3, .ref q_5, .ref q_12, .int 5, .int 50, .ref q_14, .ref q_16, .int 1600, .ref q_18, .ref q_20, .ref q_22, .ref q_24, .int 0, .null, .null])), (q_1, .inr (5, [.int 0, .ref en.2.2.1, .int 0])), (q_3, .inl (k_4, 144, .inl (fun _ => 0))), (q_5, .inr (20, [.ref ap_7, .ref scr_8, .int 1600, .int 0, .int 0, .ref mm])), (ap_7, .inl (kP_9, 48, .inr (.inr (.inr (.inr g_10))))), (scr_8, .inr (5, [.int 0, .ref en.2.2.1, .int 0])), (q_12, .inr (5, [.int 0, .ref en.2.2.1, .int 0])), (q_14, .inl (k_15, 240, .inl (fun _ => 0))), (q_16, .inl (k_17, 240, .inl (fun _ => 0))), (q_18, .inr (5, [.int 0, .ref en.2.2.1, .int 0])), (q_20, .inr (5, [.int 0, .ref en.2.2.1, .int 0])), (q_22, .inr (5, [.int 0, .ref en.2.2.1, .int 0])), (q_24, .inr (5, [.int 0, .ref en.2.2.1, .int 0])), (q_26, .inr (5, [.int 0, .ref en.2.2.1, .int 0]))] := hD
  have hR : va_P (dC, dI) vwCl [] H := fun k q h => by simp at h
  refine W.widen (k := 109) (n := 990) (Nat.le_of_ble_eq_true rfl) (Nat.le_of_ble_eq_true rfl) ?_
  refine va_putFX (D := (dC, dI)) (ci := 24) (v := .ref q_26) (ty := .object "java/util/List") (C := RX18) (T := TX18) (N := 17) hx hb hts (by decide +kernel) tyX18 tyX18_ok nmX18 hown hK hP hD hS 0 rfl rfl 15 (by decide) (hts (.fieldLink RX18 61 "UnderpaintModel" "ballots" "Ljava/util/List;") (by decide +kernel)) (fun _ h9 => h9) rfl hin rfl (by decide +kernel) rfl rfl (Nat.le_of_ble_eq_true rfl) dX18_init_135 (fun H locs hP hD hS hoq => ?_)
  have hG := hG.via (fun q9 h9 n9 => hoq q9 (fun e9 => n9.2 (by rw [e9]; simp only [List.mem_cons, List.not_mem_nil, or_false, true_or, or_true])))
  have hP : va_P (dC, dI) vwCl [(mm, .inr (24, [.int 0, .ref q_1, .ref q_3, .ref q_5, .ref q_12, .int 5, .int 50, .ref q_14, .ref q_16, .int 1600, .ref q_18, .ref q_20, .ref q_22, .ref q_24, .int 0, .ref q_26, .null])), (q_1, .inr (5, [.int 0, .ref en.2.2.1, .int 0])), (q_3, .inl (k_4, 144, .inl (fun _ => 0))), (q_5, .inr (20, [.ref ap_7, .ref scr_8, .int 1600, .int 0, .int 0, .ref mm])), (ap_7, .inl (kP_9, 48, .inr (.inr (.inr (.inr g_10))))), (scr_8, .inr (5, [.int 0, .ref en.2.2.1, .int 0])), (q_12, .inr (5, [.int 0, .ref en.2.2.1, .int 0])), (q_14, .inl (k_15, 240, .inl (fun _ => 0))), (q_16, .inl (k_17, 240, .inl (fun _ => 0))), (q_18, .inr (5, [.int 0, .ref en.2.2.1, .int 0])), (q_20, .inr (5, [.int 0, .ref en.2.2.1, .int 0])), (q_22, .inr (5, [.int 0, .ref en.2.2.1, .int 0])), (q_24, .inr (5, [.int 0, .ref en.2.2.1, .int 0])), (q_26, .inr (5, [.int 0, .ref en.2.2.1, .int 0]))] H := hP
  have hD : va_D A [(mm, .inr (24, [.int 0, .ref q_1, .ref q_3, .ref q_5, .ref q_12, .int 5, .int 50, .ref q_14, .ref q_16, .int 1600, .ref q_18, .ref q_20, .ref q_22, .ref q_24, .int 0, .ref q_26, .null])), (q_1, .inr (5, [.int 0, .ref en.2.2.1, .int 0])), (q_3, .inl (k_4, 144, .inl (fun _ => 0))), (q_5, .inr (20, [.ref ap_7, .ref scr_8, .int 1600, .int 0, .int 0, .ref mm])), (ap_7, .inl (kP_9, 48, .inr (.inr (.inr (.inr g_10))))), (scr_8, .inr (5, [.int 0, .ref en.2.2.1, .int 0])), (q_12, .inr (5, [.int 0, .ref en.2.2.1, .int 0])), (q_14, .inl (k_15, 240, .inl (fun _ => 0))), (q_16, .inl (k_17, 240, .inl (fun _ => 0))), (q_18, .inr (5, [.int 0, .ref en.2.2.1, .int 0])), (q_20, .inr (5, [.int 0, .ref en.2.2.1, .int 0])), (q_22, .inr (5, [.int 0, .ref en.2.2.1, .int 0])), (q_24, .inr (5, [.int 0, .ref en.2.2.1, .int 0])), (q_26, .inr (5, [.int 0, .ref en.2.2.1, .int 0]))] := hD
  have hR : va_P (dC, dI) vwCl [] H := fun k q h => by simp at h
  refine lv_aload_n hx hb dX18_init_138 rfl (lv_at hl 0 rfl) ?_
  have hz9 := hS.1
  refine va_newX (ci := 5) (fs := [.int 0, .null, .int 0]) (C := RJx4a65c) (T := TJx4a65c) (N := 3) hx hb hts (by decide +kernel) tyJx4a65c tyJx4a65c_ok hown (hts (.classLink RX18 7 RJx4a65c) (by decide +kernel)) (hts (.instantiable RJx4a65c 3) (by decide +kernel)) (hts (.initialized RJx4a65c) (by decide +kernel)) hK hP hD hS hA rfl (fun j hj => by rcases (show j = 0 ∨ j = 1 ∨ j = 2 by omega) with rfl | rfl | rfl <;> rfl) (Nat.le_of_ble_eq_true rfl) (Nat.le_of_ble_eq_true rfl) dX18_init_139 (fun q_28 H hP hD hS hoq hoz => ?_)
  have hG := FamP.newc hG hoq hoz
  have hP : va_P (dC, dI) vwCl [(mm, .inr (24, [.int 0, .ref q_1, .ref q_3, .ref q_5, .ref q_12, .int 5, .int 50, .ref q_14, .ref q_16, .int 1600, .ref q_18, .ref q_20, .ref q_22, .ref q_24, .int 0, .ref q_26, .null])), (q_1, .inr (5, [.int 0, .ref en.2.2.1, .int 0])), (q_3, .inl (k_4, 144, .inl (fun _ => 0))), (q_5, .inr (20, [.ref ap_7, .ref scr_8, .int 1600, .int 0, .int 0, .ref mm])), (ap_7, .inl (kP_9, 48, .inr (.inr (.inr (.inr g_10))))), (scr_8, .inr (5, [.int 0, .ref en.2.2.1, .int 0])), (q_12, .inr (5, [.int 0, .ref en.2.2.1, .int 0])), (q_14, .inl (k_15, 240, .inl (fun _ => 0))), (q_16, .inl (k_17, 240, .inl (fun _ => 0))), (q_18, .inr (5, [.int 0, .ref en.2.2.1, .int 0])), (q_20, .inr (5, [.int 0, .ref en.2.2.1, .int 0])), (q_22, .inr (5, [.int 0, .ref en.2.2.1, .int 0])), (q_24, .inr (5, [.int 0, .ref en.2.2.1, .int 0])), (q_26, .inr (5, [.int 0, .ref en.2.2.1, .int 0])), (q_28, .inr (5, [.int 0, .null, .int 0]))] H := hP
  have hD : va_D A [(mm, .inr (24, [.int 0, .ref q_1, .ref q_3, .ref q_5, .ref q_12, .int 5, .int 50, .ref q_14, .ref q_16, .int 1600, .ref q_18, .ref q_20, .ref q_22, .ref q_24, .int 0, .ref q_26, .null])), (q_1, .inr (5, [.int 0, .ref en.2.2.1, .int 0])), (q_3, .inl (k_4, 144, .inl (fun _ => 0))), (q_5, .inr (20, [.ref ap_7, .ref scr_8, .int 1600, .int 0, .int 0, .ref mm])), (ap_7, .inl (kP_9, 48, .inr (.inr (.inr (.inr g_10))))), (scr_8, .inr (5, [.int 0, .ref en.2.2.1, .int 0])), (q_12, .inr (5, [.int 0, .ref en.2.2.1, .int 0])), (q_14, .inl (k_15, 240, .inl (fun _ => 0))), (q_16, .inl (k_17, 240, .inl (fun _ => 0))), (q_18, .inr (5, [.int 0, .ref en.2.2.1, .int 0])), (q_20, .inr (5, [.int 0, .ref en.2.2.1, .int 0])), (q_22, .inr (5, [.int 0, .ref en.2.2.1, .int 0])), (q_24, .inr (5, [.int 0, .ref en.2.2.1, .int 0])), (q_26, .inr (5, [.int 0, .ref en.2.2.1, .int 0])), (q_28, .inr (5, [.int 0, .null, .int 0]))] := hD
  have hR : va_P (dC, dI) vwCl [] H := fun k q h => by simp at h
  refine W.widen (k := 110) (n := 993) (Nat.le_of_ble_eq_true rfl) (Nat.le_of_ble_eq_true rfl) ?_
  have hgz_q_28 : s.heap.size ≤ q_28 := by rw [hoz]; exact hz9
  have hoz_q_28 := hoz
  refine lv_dup hx hb dX18_init_142 rfl ?_
  have hPc := (hP.app hR).sub (ws' := [(q_28, .inr (5, [.int 0, .null, .int 0]))] ++ []) [14] rfl
  have hDc := (en_DD hD hDr hN0 hAb).sub (ws' := [(q_28, .inr (5, [.int 0, .null, .int 0]))] ++ []) [14] (by decide) rfl
  have hKc := hK.sub (tys' := []) [] rfl
  have hFc := va_free (wc := [(q_28, .inr (5, [.int 0, .null, .int 0]))]) hD hS hA [14] rfl
  refine va_callv (va_runI (As := []) (rest := [.ref q_28, .ref mm]) ⟨hx, hb, hml, hown, hts⟩ (c_AList l dC dI b0 en H.size q_28) (cwI 0 hts go_c_X18_init_0 rfl rfl rfl (hts (.initialized RJx4a65c) (by decide +kernel)) (hts (.methodLink RX18 9 yJx4a65c_init_da8c8) (by decide +kernel)) (hts (.instanceMethod yJx4a65c_init_da8c8) (by decide +kernel)) rfl (by decide +kernel) ⟨Nat.le_of_ble_eq_true rfl, Nat.le_of_ble_eq_true rfl⟩) ⟨cP.blind, cP.use (en_z hb0 hS) (hE.on hAb hS) hPc hKc hDc trivial⟩ rfl rfl hl.1 rfl (lv_room (Nat.le_of_ble_eq_true rfl)) dX18_init_143 ⟨Nat.le_of_ble_eq_true rfl, Nat.le_of_ble_eq_true rfl⟩) hS (fun q _ h => hFc q h) hFc (fun u t H1 locs ht hvm hw hB hz1 hk1 hS => ?_)
  obtain ⟨hP1, hK1, hD1, hF1⟩ := hB
  rw [ht] at hP1
  try rw [ht] at hF1
  have hK1 := va_K.moved hvm.symm hK1
  try dsimp only at hw
  obtain ⟨hP, hD⟩ := va_join (wr := [(mm, .inr (24, [.int 0, .ref q_1, .ref q_3, .ref q_5, .ref q_12, .int 5, .int 50, .ref q_14, .ref q_16, .int 1600, .ref q_18, .ref q_20, .ref q_22, .ref q_24, .int 0, .ref q_26, .null])), (q_1, .inr (5, [.int 0, .ref en.2.2.1, .int 0])), (q_3, .inl (k_4, 144, .inl (fun _ => 0))), (q_5, .inr (20, [.ref ap_7, .ref scr_8, .int 1600, .int 0, .int 0, .ref mm])), (ap_7, .inl (kP_9, 48, .inr (.inr (.inr (.inr g_10))))), (scr_8, .inr (5, [.int 0, .ref en.2.2.1, .int 0])), (q_12, .inr (5, [.int 0, .ref en.2.2.1, .int 0])), (q_14, .inl (k_15, 240, .inl (fun _ => 0))), (q_16, .inl (k_17, 240, .inl (fun _ => 0))), (q_18, .inr (5, [.int 0, .ref en.2.2.1, .int 0])), (q_20, .inr (5, [.int 0, .ref en.2.2.1, .int 0])), (q_22, .inr (5, [.int 0, .ref en.2.2.1, .int 0])), (q_24, .inr (5, [.int 0, .ref en.2.2.1, .int 0])), (q_26, .inr (5, [.int 0, .ref en.2.2.1, .int 0]))]) (w1 := [(q_28, .inr (5, [.int 0, .ref en.2.2.1, .int 0]))]) hP hD [14] [0, 1, 2, 3, 4, 5, 6, 7, 8, 9, 10, 11, 12, 13] rfl rfl (by decide) (by decide) hk1 hFc hP1 hD1
  have hG := hG.via (fun q9 h9 n9 => hk1 q9 h9 (vA1 h9 (nin1 (nix 0 n9.2 rfl) nin0)))
  skip
  generalize H1 = H at hP hS hG ⊢
  have hP : va_P (dC, dI) vwCl [(mm, .inr (24, [.int 0, .ref q_1, .ref q_3, .ref q_5, .ref q_12, .int 5, .int 50, .ref q_14, .ref q_16, .int 1600, .ref q_18, .ref q_20, .ref q_22, .ref q_24, .int 0, .ref q_26, .null])), (q_1, .inr (5, [.int 0, .ref en.2.2.1, .int 0])), (q_3, .inl (k_4, 144, .inl (fun _ => 0))), (q_5, .inr (20, [.ref ap_7, .ref scr_8, .int 1600, .int 0, .int 0, .ref mm])), (ap_7, .inl (kP_9, 48, .inr (.inr (.inr (.inr g_10))))), (scr_8, .inr (5, [.int 0, .ref en.2.2.1, .int 0])), (q_12, .inr (5, [.int 0, .ref en.2.2.1, .int 0])), (q_14, .inl (k_15, 240, .inl (fun _ => 0))), (q_16, .inl (k_17, 240, .inl (fun _ => 0))), (q_18, .inr (5, [.int 0, .ref en.2.2.1, .int 0])), (q_20, .inr (5, [.int 0, .ref en.2.2.1, .int 0])), (q_22, .inr (5, [.int 0, .ref en.2.2.1, .int 0])), (q_24, .inr (5, [.int 0, .ref en.2.2.1, .int 0])), (q_26, .inr (5, [.int 0, .ref en.2.2.1, .int 0])), (q_28, .inr (5, [.int 0, .ref en.2.2.1, .int 0]))] H := hP
  have hD : va_D A [(mm, .inr (24, [.int 0, .ref q_1, .ref q_3, .ref q_5, .ref q_12, .int 5, .int 50, .ref q_14, .ref q_16, .int 1600, .ref q_18, .ref q_20, .ref q_22, .ref q_24, .int 0, .ref q_26, .null])), (q_1, .inr (5, [.int 0, .ref en.2.2.1, .int 0])), (q_3, .inl (k_4, 144, .inl (fun _ => 0))), (q_5, .inr (20, [.ref ap_7, .ref scr_8, .int 1600, .int 0, .int 0, .ref mm])), (ap_7, .inl (kP_9, 48, .inr (.inr (.inr (.inr g_10))))), (scr_8, .inr (5, [.int 0, .ref en.2.2.1, .int 0])), (q_12, .inr (5, [.int 0, .ref en.2.2.1, .int 0])), (q_14, .inl (k_15, 240, .inl (fun _ => 0))), (q_16, .inl (k_17, 240, .inl (fun _ => 0))), (q_18, .inr (5, [.int 0, .ref en.2.2.1, .int 0])), (q_20, .inr (5, [.int 0, .ref en.2.2.1, .int 0])), (q_22, .inr (5, [.int 0, .ref en.2.2.1, .int 0])), (q_24, .inr (5, [.int 0, .ref en.2.2.1, .int 0])), (q_26, .inr (5, [.int 0, .ref en.2.2.1, .int 0])), (q_28, .inr (5, [.int 0, .ref en.2.2.1, .int 0]))] := hD
  have hR : va_P (dC, dI) vwCl [] H := fun k q h => by simp at h
  refine W.widen (k := 110) (n := 993) (Nat.le_of_ble_eq_true rfl) (Nat.le_of_ble_eq_true rfl) ?_
  refine va_putFX (D := (dC, dI)) (ci := 24) (v := .ref q_28) (ty := .object "java/util/List") (C := RX18) (T := TX18) (N := 17) hx hb hts (by decide +kernel) tyX18 tyX18_ok nmX18 hown hK hP hD hS 0 rfl rfl 16 (by decide) (hts (.fieldLink RX18 64 "UnderpaintModel" "legs" "Ljava/util/List;") (by decide +kernel)) (fun _ h9 => h9) rfl hin rfl (by decide +kernel) rfl rfl (Nat.le_of_ble_eq_true rfl) dX18_init_146 (fun H locs hP hD hS hoq => ?_)
  have hG := hG.via (fun q9 h9 n9 => hoq q9 (fun e9 => n9.2 (by rw [e9]; simp only [List.mem_cons, List.not_mem_nil, or_false, true_or, or_true])))
  have hP : va_P (dC, dI) vwCl [(mm, .inr (24, [.int 0, .ref q_1, .ref q_3, .ref q_5, .ref q_12, .int 5, .int 50, .ref q_14, .ref q_16, .int 1600, .ref q_18, .ref q_20, .ref q_22, .ref q_24, .int 0, .ref q_26, .ref q_28])), (q_1, .inr (5, [.int 0, .ref en.2.2.1, .int 0])), (q_3, .inl (k_4, 144, .inl (fun _ => 0))), (q_5, .inr (20, [.ref ap_7, .ref scr_8, .int 1600, .int 0, .int 0, .ref mm])), (ap_7, .inl (kP_9, 48, .inr (.inr (.inr (.inr g_10))))), (scr_8, .inr (5, [.int 0, .ref en.2.2.1, .int 0])), (q_12, .inr (5, [.int 0, .ref en.2.2.1, .int 0])), (q_14, .inl (k_15, 240, .inl (fun _ => 0))), (q_16, .inl (k_17, 240, .inl (fun _ => 0))), (q_18, .inr (5, [.int 0, .ref en.2.2.1, .int 0])), (q_20, .inr (5, [.int 0, .ref en.2.2.1, .int 0])), (q_22, .inr (5, [.int 0, .ref en.2.2.1, .int 0])), (q_24, .inr (5, [.int 0, .ref en.2.2.1, .int 0])), (q_26, .inr (5, [.int 0, .ref en.2.2.1, .int 0])), (q_28, .inr (5, [.int 0, .ref en.2.2.1, .int 0]))] H := hP
  have hD : va_D A [(mm, .inr (24, [.int 0, .ref q_1, .ref q_3, .ref q_5, .ref q_12, .int 5, .int 50, .ref q_14, .ref q_16, .int 1600, .ref q_18, .ref q_20, .ref q_22, .ref q_24, .int 0, .ref q_26, .ref q_28])), (q_1, .inr (5, [.int 0, .ref en.2.2.1, .int 0])), (q_3, .inl (k_4, 144, .inl (fun _ => 0))), (q_5, .inr (20, [.ref ap_7, .ref scr_8, .int 1600, .int 0, .int 0, .ref mm])), (ap_7, .inl (kP_9, 48, .inr (.inr (.inr (.inr g_10))))), (scr_8, .inr (5, [.int 0, .ref en.2.2.1, .int 0])), (q_12, .inr (5, [.int 0, .ref en.2.2.1, .int 0])), (q_14, .inl (k_15, 240, .inl (fun _ => 0))), (q_16, .inl (k_17, 240, .inl (fun _ => 0))), (q_18, .inr (5, [.int 0, .ref en.2.2.1, .int 0])), (q_20, .inr (5, [.int 0, .ref en.2.2.1, .int 0])), (q_22, .inr (5, [.int 0, .ref en.2.2.1, .int 0])), (q_24, .inr (5, [.int 0, .ref en.2.2.1, .int 0])), (q_26, .inr (5, [.int 0, .ref en.2.2.1, .int 0])), (q_28, .inr (5, [.int 0, .ref en.2.2.1, .int 0]))] := hD
  have hR : va_P (dC, dI) vwCl [] H := fun k q h => by simp at h
  refine W.widen (k := 110) (n := 993) (Nat.le_of_ble_eq_true rfl) (Nat.le_of_ble_eq_true rfl) ?_
  exact W.vret hx hb hr (fun t ht hW => ⟨⟨⟨q_1, q_3, q_5, q_12, q_14, q_16, q_18, q_20, q_22, q_24, q_26, q_28, ap_7, scr_8, k_4, kP_9, k_15, k_17, g_10⟩, rfl, trivial, cB.mk ht hW (hP.sub [0, 1, 2, 3, 4, 5, 6, 7, 8, 9, 10, 11, 12, 13, 14] rfl) (hK.sub [0, 1, 2, 3] rfl) (hD.sub [0, 1, 2, 3, 4, 5, 6, 7, 8, 9, 10, 11, 12, 13, 14] (by decide) rfl) ((hG.mono (fun a9 h9 => ⟨h9.1, fun z9 => h9.2 (nsub [9, 10, 11, 8, 7, 6, 5, 4, 3, 2, 1, 0] rfl a9 z9)⟩)))⟩, hS.F ht⟩) hS.2.2 dX18_init_149
