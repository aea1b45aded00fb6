/-! a new reference's places: 48, each with its number, a list without elements, not tired -/
def FamP (D : va_G) (N : Nat → Prop) (ea : Nat) (g : Nat → Option Nat) (H : Heap) : Prop := ∀ i : Nat, i < 48 → ∃ a l : Nat, g i = some a ∧ va_at D vwCl (a, .inr (21, [.int (nI i), .ref l, .int 0])) H ∧ va_at D vwCl (l, .inr (5, [.int 0, .ref ea, .int 0])) H ∧ N a ∧ N l
theorem FamP.on {D : va_G} {N A : Nat → Prop} {ea : Nat} {g : Nat → Option Nat} {H0 H : Heap} {locs : List Loc} (h : FamP D N ea g H0) (hN : ∀ a, a < H0.size → N a → ¬ A a) (hS : va_S A H0 H locs) : FamP D N ea g H := fun i hi => by
  obtain ⟨a, l, h1, h2, h3, h4, h5⟩ := h i hi
  exact ⟨a, l, h1, h2.kept (hS.2.1 a h2.lt (hN a h2.lt h4)), h3.kept (hS.2.1 l h3.lt (hN l h3.lt h5)), h4, h5⟩
theorem FamP.mono {D : va_G} {N N' : Nat → Prop} {ea : Nat} {g : Nat → Option Nat} {H : Heap} (h : FamP D N ea g H) (hN : ∀ a, N a → N' a) : FamP D N' ea g H := fun i hi => by
  obtain ⟨a, l, h1, h2, h3, h4, h5⟩ := h i hi
  exact ⟨a, l, h1, h2, h3, hN a h4, hN l h5⟩
theorem lv_topv {p : Program} {l : Launch} {e : Env} {R : Room} {s : State} {m : MethodId} {args : Array Value} {below : List Frame} {meth : Method} {c : Code} {H : Heap} {locs : List Loc} {cells slots : Nat} {Q : State → Prop} {pc : Nat} {ls : Array Slot} {v w : Value} {rest : List Value} (h : v = w) (kk : W p l e R s m args below meth c H locs cells slots Q (F0 m pc ls (w :: rest))) : W p l e R s m args below meth c H locs cells slots Q (F0 m pc ls (v :: rest)) := by rw [h]; exact kk
theorem ix48 {z : Int32} (h0 : 0 ≤ z) (h1 : z < 48) : ∃ i : Nat, i < 48 ∧ z = nI i := by
  obtain ⟨j, hj, rfl⟩ := nI_of (x := z) (Int32.not_lt.mpr h0)
  have h1 : nI j < nI 48 := h1
  rw [nI_ltI hj (by decide)] at h1
  exact ⟨j, h1, rfl⟩
theorem nI_lk {k n : Nat} (h : k < n) (hn : n ≤ 1000) : nI k < nI n := nI_lt h (by omega)
/-- not among the cells that a method may write, and older than its start -/
theorem vA1 {ws : va_W} {sz a : Nat} (h : a < sz) (hn : ∀ (k : Nat) (q : Nat × va_E), ws[k]? = some q → q.1 ≠ a) : ¬ va_A ws sz a := fun z => by
  rcases z with ⟨k, e, z⟩ | z
  · exact hn k _ z rfl
  · omega
theorem test_48 (x y x_1 x_2 : Int32) (h : (0 ≤ x ∧ x < 8) ∧ (0 ≤ y ∧ y < 6)) (e1 : x_1 = 8 * y) (e2 : x_2 = x_1 + x) : 0 ≤ x_2 ∧ x_2 < 48 := by grind
