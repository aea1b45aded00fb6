/-! a new reference's places: 48, each with its number, a list without elements, not tired -/
def FamP (D : va_G) (N : Nat → Prop) (ea : Nat) (g : Nat → Option Nat) (H : Heap) : Prop := ∀ i : Nat, i < 48 → ∃ a l : Nat, g i = some a ∧ va_at D vwCl (a, .inr (21, [.int (nI i), .ref l, .int 0])) H ∧ va_at D vwCl (l, .inr (5, [.int 0, .ref ea, .int 0])) H ∧ N a ∧ N l ∧ a ≠ l
theorem FamP.on {D : va_G} {N A : Nat → Prop} {ea : Nat} {g : Nat → Option Nat} {H0 H : Heap} {locs : List Loc} (h : FamP D N ea g H0) (hN : ∀ a, a < H0.size → N a → ¬ A a) (hS : va_S A H0 H locs) : FamP D N ea g H := fun i hi => by
  obtain ⟨a, l, h1, h2, h3, h4, h5, h6⟩ := h i hi
  exact ⟨a, l, h1, h2.kept (hS.2.1 a h2.lt (hN a h2.lt h4)), h3.kept (hS.2.1 l h3.lt (hN l h3.lt h5)), h4, h5, h6⟩
theorem FamP.mono {D : va_G} {N N' : Nat → Prop} {ea : Nat} {g : Nat → Option Nat} {H : Heap} (h : FamP D N ea g H) (hN : ∀ a, N a → N' a) : FamP D N' ea g H := fun i hi => by
  obtain ⟨a, l, h1, h2, h3, h4, h5, h6⟩ := h i hi
  exact ⟨a, l, h1, h2, h3, hN a h4, hN l h5, h6⟩
theorem lv_topv {p : Program} {l : Launch} {e : Env} {R : Room} {s : State} {m : MethodId} {args : Array Value} {below : List Frame} {meth : Method} {c : Code} {H : Heap} {locs : List Loc} {cells slots : Nat} {Q : State → Prop} {pc : Nat} {ls : Array Slot} {v w : Value} {rest : List Value} (h : v = w) (kk : W p l e R s m args below meth c H locs cells slots Q (F0 m pc ls (w :: rest))) : W p l e R s m args below meth c H locs cells slots Q (F0 m pc ls (v :: rest)) := by rw [h]; exact kk
theorem ix48 {z : Int32} (h0 : 0 ≤ z) (h1 : z < 48) : ∃ i : Nat, i < 48 ∧ z = nI i := by
  obtain ⟨j, hj, rfl⟩ := nI_of (x := z) (Int32.not_lt.mpr h0)
  have h1 : nI j < nI 48 := h1
  rw [nI_ltI hj (by decide)] at h1
  exact ⟨j, h1, rfl⟩
theorem nI_lk {k n : Nat} (h : k < n) (hn : n ≤ 1000) : nI k < nI n := nI_lt h (by omega)
/-- not among the cells that a method may write, and older than its start -/
theorem cMem {ws : va_W} {k : Nat} {q : Nat × va_E} (h : ws[k]? = some q) : q.1 ∈ ws.map Prod.fst := List.mem_map.mpr ⟨q, List.mem_of_getElem? h, rfl⟩
theorem vA1 {ws : va_W} {sz a : Nat} (h : a < sz) (hn : a ∉ ws.map Prod.fst) : ¬ va_A ws sz a := fun z => by
  rcases z with ⟨k, e, z⟩ | z
  · exact hn (cMem z)
  · omega
theorem nR {rs : va_W} {a : Nat} (hn : a ∉ rs.map Prod.fst) : ∀ (k : Nat) (q : Nat × va_E), rs[k]? = some q → q.1 ≠ a := fun _ _ hk e => hn (e ▸ cMem hk)
theorem pushC {rs : va_W} {x : Nat × va_E} {k : Nat} {q : Nat × va_E} (h : (rs ++ [x])[k]? = some q) : rs[k]? = some q ∨ q = x := by
  rcases Nat.lt_or_ge k rs.length with h1 | h1
  · rw [List.getElem?_append_left h1] at h; exact Or.inl h
  · rw [List.getElem?_append_right h1] at h
    rcases h2 : k - rs.length with _ | n
    · rw [h2] at h; exact Or.inr (Option.some.inj h).symm
    · rw [h2] at h; simp at h
theorem vR_push {rs : va_W} {a b : Nat} {e : va_E} (h : ∀ (k : Nat) (q : Nat × va_E), rs[k]? = some q → q.1 ≠ b) (hne : a ≠ b) : ∀ (k : Nat) (q : Nat × va_E), (rs ++ [(a, e)])[k]? = some q → q.1 ≠ b := fun k q hk => by
  rcases pushC hk with h1 | h1
  · exact h k q h1
  · rw [h1]; exact hne
theorem vN_push {rs : va_W} {a : Nat} {e : va_E} {A : Nat → Prop} (h : ∀ (k : Nat) (q : Nat × va_E), rs[k]? = some q → ¬ A q.1) (ha : ¬ A a) : ∀ (k : Nat) (q : Nat × va_E), (rs ++ [(a, e)])[k]? = some q → ¬ A q.1 := fun k q hk => by
  rcases pushC hk with h1 | h1
  · exact h k q h1
  · rw [h1]; exact ha
theorem vD_push {rs : va_W} {a : Nat} {e : va_E} {B : Nat → Prop} (h : va_D B rs) (ha : B a) (hn : ∀ (k : Nat) (q : Nat × va_E), rs[k]? = some q → q.1 ≠ a) : va_D B (rs ++ [(a, e)]) := by
  refine va_D.app h ⟨fun i j p q hp hq _ => ?_, fun k q hk => ?_⟩ (fun i j x y hx hy hxy => ?_)
  · rcases i with _ | i <;> rcases j with _ | j <;> simp at hp hq ⊢
  · rcases k with _ | k
    · simp at hk; rw [← hk]; exact ha
    · simp at hk
  · rcases j with _ | j
    · simp at hy; exact hn i x hx (by rw [hxy, ← hy])
    · simp at hy
theorem castAsg {C E : String} {s : State} (h : va_Nw (.castable C E) s) : ∀ comp c0 : ClassId, s.vm.findClass E = some comp → s.vm.findClass C = some c0 → s.vm.assignable c0 comp = true := by
  intro comp c0 h1 h2
  obtain ⟨a, b, f1, f2, f3⟩ := Cond.castable_spec (va_Nw.use (A := #[]) rfl h)
  cases f1.symm.trans h2
  cases f2.symm.trans h1
  exact f3
theorem anyInt {E : String} {t : Nat} {A : Nat → Prop} {s : State} {H : Heap} {locs : List Loc} (h : va_O E t A s s.heap) (hS : va_S A s.heap H locs) (hc : va_Nw (.castable E "java/lang/Object") s) : va_Any "java/lang/Object" s H t := by
  obtain ⟨cell, h1, h2, h3⟩ := en_recv h hS
  obtain ⟨kC, hkC, -⟩ := Vm.findClass_spec h3
  exact ⟨cell, h1, h2, ⟨kC, hkC⟩, fun comp hc2 => castAsg hc comp _ hc2 h3⟩
theorem anyArr {s : State} {H : Heap} {D : va_G} {cl : List vw_C} {tys : List (ClassId × FieldType)} {ws : va_W} {a q0 t0 : Nat} {cA : ClassId} {x : vp_A} (hK : va_K D cl tys s) (hP : va_P D cl ws H) (ha : ws[q0]? = some (a, .inl (cA, x))) (ht : tys[t0]? = some (cA, .int)) (hc : va_Nw (.castable "[I" "java/lang/Object") s) : va_Any "java/lang/Object" s H a := by
  have h1 : H[a]? = some (vp_cell cA x) := hP q0 _ ha
  have h2 : (vp_cell cA x).cls = cA := by obtain ⟨n, f | f | f | f | f⟩ := x <;> rfl
  have h4 : (vp_cell cA x).vm.isStatics = false := by obtain ⟨n, f | f | f | f | f⟩ := x <;> rfl
  have h3 : s.vm.findClass "[I" = some cA := (hK.2 t0 _ ht).2
  obtain ⟨kC, hkC, -⟩ := Vm.findClass_spec h3
  exact ⟨_, h1, h4, ⟨kC, by rw [h2]; exact hkC⟩, fun comp hc2 => by rw [h2]; exact castAsg hc comp _ hc2 h3⟩
theorem anyObj {s : State} {H : Heap} {D : va_G} {tys : List (ClassId × FieldType)} {ws : va_W} {a q0 ci : Nat} {fs : List Value} {r : vw_C} (hK : va_K D vwCl tys s) (hP : va_P D vwCl ws H) (he : ws[q0]? = some (a, .inr (ci, fs))) (hc : vwCl[ci]? = some r) (h : va_Nw (.castable r.1 "java/lang/Object") s) : va_Any "java/lang/Object" s H a := va_rAny hK hP he hc (castAsg h)
/-- an element of an array of references that the environment holds -/
theorem va_tq {p : Program} {l : Launch} {e : Env} {R : Room} {s : State} {m : MethodId} {args : Array Value} {below : List Frame} {meth : Method} {c : Code} {H : Heap} {locs : List Loc} {cells slots : Nat} {Q : State → Prop} {cc : ByteArray} {pc : Nat} {ls : Array Slot} {rest : List Value} {A : Nat → Prop} {t N : Nat} {f : Nat → Value} {C : String} (hexec : p.tables.exec = Jvm.exec) (hb : c.code = cc) (hT : va_T (.object C) t N f A s s.heap) (hS : va_S A s.heap H locs) {i : Int32} (hin : vp_in i N) {v : Nat} (hv : f i.toNatClampNeg = .ref v) (hdg : decode cc pc = .ok (.aaload, 1))
    (kk : W p l e R s m args below meth c H locs cells slots Q (F0 m (pc + 1) ls (.ref v :: rest))) : W p l e R s m args below meth c H locs cells slots Q (F0 m pc ls (.int i :: .ref t :: rest)) := by
  obtain ⟨cell, h1, h2, h3, h4, h5, h6, h7⟩ := hT
  have hlt : i.toNatClampNeg < N := Nat.not_le.mp fun q => hin (Or.inr q)
  have hin' : ¬ (i < 0 ∨ cell.slots.size ≤ i.toNatClampNeg) := by
    intro q
    rcases q with q | q
    · exact hin (Or.inl q)
    · omega
  have h1' : H[t]? = some cell := by rw [hS.2.1 t (Array.getElem?_eq_some_iff.mp h1).1 h7]; exact h1
  exact W.aald (v := .ref v) (ty := .object C) hexec hb h1' h2 rfl h3 hin' (by rw [h6 _ hlt, hv]) rfl rfl hdg kk
theorem ixL0 (c : Int32) : ixL 0 c = if 115 = c then 0 else if 103 = c then 1 else if 100 = c then 2 else if 112 = c then 3 else if 122 = c then 4 else if 118 = c then 5 else if 102 = c then 6 else if 114 = c then 7 else if 120 = c then 8 else -1 := rfl
theorem ixL1 (c : Int32) : ixL 1 c = if 112 = c then 0 else if 119 = c then 1 else if 104 = c then 2 else if 108 = c then 3 else if 114 = c then 4 else -1 := rfl
theorem ixL2 (c : Int32) : ixL 2 c = if 108 = c then 0 else if 101 = c then 1 else if 104 = c then 2 else -1 := rfl
theorem ixL3 (c : Int32) : ixL 3 c = if 115 = c then 0 else if 116 = c then 1 else if 121 = c then 2 else -1 := rfl
theorem ixL4 (c : Int32) : ixL 4 c = if 112 = c then 0 else if 119 = c then 1 else if 104 = c then 2 else if 108 = c then 3 else -1 := rfl
theorem vp_ok {z : Int32} {n : Nat} (hn : n < 2 ^ 31) (h0 : 0 ≤ z) (h1 : z < nI n) : vp_in z n := by
  obtain ⟨j, hj, rfl⟩ := nI_of (x := z) (Int32.not_lt.mpr h0)
  rw [nI_ltI hj hn] at h1
  exact vp_in_nI h1 hn
/-- the number of a small Integer among the JDK's -/
def nC (v : Int32) : Nat := (v + 128).toNatClampNeg
def chk : Nat → Int64
  | 0 => 7
  | k + 1 => 31 * chk k + (0 : Int32).toInt64
theorem nC_ok (v w : Int32) (h0 : 0 ≤ v) (h1 : v ≤ 127) (e : w = v + 128) : 0 ≤ w ∧ w < 256 := by grind
theorem nC_lt {v : Int32} (h0 : 0 ≤ v) (h1 : v ≤ 127) : nC v < 256 := by
  have h := nC_ok v _ h0 h1 rfl
  obtain ⟨j, hj, e⟩ := nI_of (x := v + 128) (Int32.not_lt.mpr h.1)
  have h2 : nI j < nI 256 := by rw [← e]; exact h.2
  rw [nI_ltI hj (by decide)] at h2
  unfold nC
  rw [e, nI_clamp hj]
  exact h2
