/-! writes that change nothing, and writes that say what they leave; a family of cells that is carried on -/
theorem setSlot_same {c : Cell} {i : Nat} {v : Value} (h : c.slots[i]? = some v) : c.setSlot i v = c := by
  have e : c.slots.setIfInBounds i v = c.slots := by
    apply Array.ext_getElem?
    intro j
    rw [Array.getElem?_setIfInBounds]
    split
    · next hj => subst hj; rw [if_pos (Array.getElem?_eq_some_iff.mp h).1, h]
    · rfl
  show ({ c with slots := c.slots.setIfInBounds i v } : Cell) = c
  rw [e]
section PUTS
variable {p : Program} {l : Launch} {e : Env} {R : Room} {s : State} {m : MethodId} {args : Array Value} {below : List Frame} {meth : Method} {c : Code} {H : Heap} {locs : List Loc} {cells slots : Nat} {Q : State → Prop}
variable {cc : ByteArray} {pc : Nat} {ls : Array Slot} {rest : List Value} {D : va_G} {cl : List vw_C} {A : Nat → Prop} {a : Nat} {tys : List (ClassId × FieldType)} {ws : va_W} {H0 : Heap}
/-- the value that the field holds already: the heap is as it was -/
theorem va_putS (hexec : p.tables.exec = Jvm.exec) (hb : c.code = cc) {own ref C : String} {T : u_T} {N ci index : Nat} {Ts : List Cond} (hts : ∀ w ∈ Ts, w.before args s = true) (hin : ∀ w ∈ u_ws C T N, w ∈ Ts) (hown : s.vm.findClass own = some m.cls) (hK : va_K D cl tys s) {fs : List Value} (hq : va_at D cl (a, .inr (ci, fs)) H) (hAa : A a) (hS0 : va_S A H0 H locs) (hc : cl[ci]? = some (C, T, N)) (k : Nat) (hk : k < N) (hlink : (Cond.fieldLink own index ref (T k).2.1 (T k).2.2.1).before args s = true) (hsame : ∀ x, s.fieldFound? (T k).1 (T k).2.1 (T k).2.2.1 = some x → s.fieldFound? ref (T k).2.1 (T k).2.2.1 = some x) (hfin : (T k).2.2.2 = false) {ty : FieldType} {v : Value} (hv : fs[k]? = some v) (hd : parseFieldDescriptor (T k).2.2.1 = some ty) (hn : narrow ty v = v) (hfit : fits ty v = true)
    (hdg : decode cc pc = .ok (.putfield index, 3)) (kk : ∀ locs1 : List Loc, va_S A H0 H locs1 → W p l e R s m args below meth c H locs1 cells slots Q (F0 m (pc + 3) ls rest)) : W p l e R s m args below meth c H locs cells slots Q (F0 m pc ls (v :: .ref a :: rest)) := by
  obtain ⟨r, h1, cell, q1, q2, q3, q4⟩ := hq
  have hr : r = (C, T, N) := Option.some.inj (h1.symm.trans hc)
  subst hr
  obtain ⟨hS, hfc, kC, hkC, hkind⟩ := hK.1 ci _ hc
  obtain ⟨cf, kf, fi, f, hi, hsl⟩ := hS k hk
  have hlay := hts _ (hin _ (u_in_lay hk))
  unfold u_lay at hlay
  rw [if_neg (by rw [hfin]; decide)] at hlay
  have hst := (u_facts hfc hkC (u_lays hts hin hk) hi).1
  have h6 := u_store hfc hkC hkind hlay hi hd hn hfit
  have hv2 : cell.slots[f.slot]? = some v := by
    rw [hsl, q4 k hk]
    show some ((vp_V fs) k) = some v
    unfold vp_V
    rw [List.getD_eq_getElem?_getD, hv]
    rfl
  refine W.putK hexec hb (f := f) ⟨hown, hlink, ⟨_, _, _, hsame _ hi⟩, hst⟩ (by rw [q2]; exact h6) q1 q3 (by rw [hsl]; exact k2_hasslot (q4 k hk)) rfl rfl hdg fun H' e1 e2 e3 => ?_
  have hH : H' = H := by
    apply Array.ext_getElem?
    intro j
    by_cases hj : j = a
    · subst hj; rw [e1, setSlot_same hv2]; exact q1.symm
    · exact e3 j hj
  have hS1 := hS0.put (k := f.slot) e2 e3 hAa
  rw [hH] at hS1 ⊢
  exact kk _ hS1
/-- .. of a nest mate -/
theorem va_putSN (hexec : p.tables.exec = Jvm.exec) (hb : c.code = cc) {own ref C host : String} {T : u_T} {N ci index : Nat} {Ts : List Cond} (hts : ∀ w ∈ Ts, w.before args s = true) (hin : ∀ w ∈ u_ws C T N, w ∈ Ts) (hown : s.vm.findClass own = some m.cls) (hK : va_K D cl tys s) {fs : List Value} (hq : va_at D cl (a, .inr (ci, fs)) H) (hAa : A a) (hS0 : va_S A H0 H locs) (hc : cl[ci]? = some (C, T, N)) (k : Nat) (hk : k < N) (hlink : (Cond.fieldLinkNest own index ref (T k).2.1 (T k).2.2.1 host).before args s = true) (hsame : ∀ x, s.fieldFound? (T k).1 (T k).2.1 (T k).2.2.1 = some x → s.fieldFound? ref (T k).2.1 (T k).2.2.1 = some x) (hfin : (T k).2.2.2 = false) {ty : FieldType} {v : Value} (hv : fs[k]? = some v) (hd : parseFieldDescriptor (T k).2.2.1 = some ty) (hn : narrow ty v = v) (hfit : fits ty v = true)
    (hdg : decode cc pc = .ok (.putfield index, 3)) (kk : ∀ locs1 : List Loc, va_S A H0 H locs1 → W p l e R s m args below meth c H locs1 cells slots Q (F0 m (pc + 3) ls rest)) : W p l e R s m args below meth c H locs cells slots Q (F0 m pc ls (v :: .ref a :: rest)) := by
  obtain ⟨r, h1, cell, q1, q2, q3, q4⟩ := hq
  have hr : r = (C, T, N) := Option.some.inj (h1.symm.trans hc)
  subst hr
  obtain ⟨hS, hfc, kC, hkC, hkind⟩ := hK.1 ci _ hc
  obtain ⟨cf, kf, fi, f, hi, hsl⟩ := hS k hk
  have hlay := hts _ (hin _ (u_in_lay hk))
  unfold u_lay at hlay
  rw [if_neg (by rw [hfin]; decide)] at hlay
  have hst := (u_facts hfc hkC (u_lays hts hin hk) hi).1
  have h6 := u_store hfc hkC hkind hlay hi hd hn hfit
  have hv2 : cell.slots[f.slot]? = some v := by
    rw [hsl, q4 k hk]
    show some ((vp_V fs) k) = some v
    unfold vp_V
    rw [List.getD_eq_getElem?_getD, hv]
    rfl
  refine va_WputK hexec hb (f := f) hown hlink (hsame _ hi) hst (by rw [q2]; exact h6) q1 q3 (by rw [hsl]; exact k2_hasslot (q4 k hk)) rfl rfl hdg fun H' e1 e2 e3 => ?_
  have hH : H' = H := by
    apply Array.ext_getElem?
    intro j
    by_cases hj : j = a
    · subst hj; rw [e1, setSlot_same hv2]; exact q1.symm
    · exact e3 j hj
  have hS1 := hS0.put (k := f.slot) e2 e3 hAa
  rw [hH] at hS1 ⊢
  exact kk _ hS1
/-- a write to a field; what lies at other addresses is left -/
theorem va_putX (hexec : p.tables.exec = Jvm.exec) (hb : c.code = cc) {own ref C : String} {T : u_T} {N ci index : Nat} {Ts : List Cond} (hts : ∀ w ∈ Ts, w.before args s = true) (hin : ∀ w ∈ u_ws C T N, w ∈ Ts) (ty0 : Nat → FieldType) (hty : ∀ k, k < N → parseFieldDescriptor (T k).2.2.1 = some (ty0 k)) (hnm : ∀ a, a < N → ∀ b, b < N → a ≠ b → (T a).2.1 ≠ (T b).2.1) (hown : s.vm.findClass own = some m.cls) (hK : va_K D cl tys s) (hP : va_P D cl ws H) (hD : va_D A ws) (hS0 : va_S A H0 H locs) (q0 : Nat) {fs : List Value} (he : ws[q0]? = some (a, .inr (ci, fs))) (hc : cl[ci]? = some (C, T, N)) (k : Nat) (hk : k < N) (hlink : (Cond.fieldLink own index ref (T k).2.1 (T k).2.2.1).before args s = true) (hsame : ∀ x, s.fieldFound? (T k).1 (T k).2.1 (T k).2.2.1 = some x → s.fieldFound? ref (T k).2.1 (T k).2.2.1 = some x) (hfin : (T k).2.2.2 = false) {ty : FieldType} {v : Value} (hd : parseFieldDescriptor (T k).2.2.1 = some ty) (hn : narrow ty v = v) (hfit : fits ty v = true) (hl : k < fs.length)
    (hdg : decode cc pc = .ok (.putfield index, 3)) (kk : ∀ (H1 : Heap) (locs1 : List Loc), va_P D cl (ws.set q0 (a, .inr (ci, fs.set k v))) H1 → va_D A (ws.set q0 (a, .inr (ci, fs.set k v))) → va_S A H0 H1 locs1 → (∀ q, q ≠ a → H1[q]? = H[q]?) → W p l e R s m args below meth c H1 locs1 cells slots Q (F0 m (pc + 3) ls rest)) : W p l e R s m args below meth c H locs cells slots Q (F0 m pc ls (v :: .ref a :: rest)) := by
  have hap := va_apart (own := own) hts hin ty0 hty hnm hK hc
  obtain ⟨r, h1, cell, q1, q2, q3, q4⟩ := hP q0 _ he
  have hr : r = (C, T, N) := Option.some.inj (h1.symm.trans hc)
  subst hr
  obtain ⟨hS, hfc, kC, hkC, hkind⟩ := hK.1 ci _ hc
  obtain ⟨cf, kf, fi, f, hi, hsl⟩ := hS k hk
  have hlay := hts _ (hin _ (u_in_lay hk))
  unfold u_lay at hlay
  rw [if_neg (by rw [hfin]; decide)] at hlay
  have hst := (u_facts hfc hkC (u_lays hts hin hk) hi).1
  have h6 := u_store hfc hkC hkind hlay hi hd hn hfit
  refine W.putK hexec hb (f := f) ⟨hown, hlink, ⟨_, _, _, hsame _ hi⟩, hst⟩ (by rw [q2]; exact h6) q1 q3 (by rw [hsl]; exact k2_hasslot (q4 k hk)) rfl rfl hdg fun H' e1 e2 e3 => ?_
  rw [hsl] at e1 ⊢
  exact kk H' _ (hP.set hD he ⟨_, hc, t_OB.to (V := updV (vp_V fs) k v) ⟨_, e1, q2, q3, t_set q4 hap hk v⟩ (fun j _ => vp_updV_set hl v j)⟩ e3) (hD.set he) (hS0.put e2 e3 (hD.2 q0 _ he)) e3
/-- 'new'; what lay in the heap is left -/
theorem va_newX {c0 : Code} (hexec : p.tables.exec = Jvm.exec) (hb : c0.code = cc) {own C : String} {T : u_T} {N ci index : Nat} {Ts : List Cond} (hts : ∀ w ∈ Ts, w.before args s = true) (hin : ∀ w ∈ u_ws C T N, w ∈ Ts) (ty : Nat → FieldType) (hty : ∀ k, k < N → parseFieldDescriptor (T k).2.2.1 = some (ty k)) (hown : s.vm.findClass own = some m.cls) (hcl : (Cond.classLink own index C).before args s = true) (hinst : (Cond.instantiable C N).before args s = true) (hini : (Cond.initialized C).before args s = true)
    (hK : va_K D cl tys s) (hP : va_P D cl ws H) (hD : va_D A ws) (hS : va_S A H0 H locs) (hA : ∀ q, H0.size ≤ q → A q) (hc : cl[ci]? = some (C, T, N)) {fs : List Value} (hfs : ∀ j, j < N → defaultValue (ty j) = vp_V fs j) (hcells : cells + 1 ≤ R.cells) (hslots : slots + N ≤ R.slots) (hdg : decode cc pc = .ok (.new index, 3))
    (kk : ∀ (q : Nat) (H1 : Heap), va_P D cl (ws ++ [(q, .inr (ci, fs))]) H1 → va_D A (ws ++ [(q, .inr (ci, fs))]) → va_S A H0 H1 locs → (∀ x, x < H.size → H1[x]? = H[x]?) → q = H.size →
      W p l e R s m args below meth c0 H1 locs (cells + 1) (slots + N) Q (F0 m (pc + 3) ls (.ref q :: rest))) : W p l e R s m args below meth c0 H locs cells slots Q (F0 m pc ls rest) := by
  have hKn := hK.1 ci _ hc
  refine W.newcK hexec hb hown hcl hinst hini rfl hdg hcells hslots hKn.2.1 rfl fun H1 kC hkC e1 z1 o1 => ?_
  have hk : ∀ (k : Nat) (x : Nat × va_E), ws[k]? = some x → H1[x.1]? = H[x.1]? := fun k x hx => o1 x.1 ((hP k x hx).lt)
  refine kk H.size H1 ((hP.kept hk).app (fun k x hx => ?_)) (hD.push hP rfl (hA _ hS.1)) ⟨Nat.le_trans hS.1 (by omega), fun x h1 h2 => (o1 x (Nat.lt_of_lt_of_le h1 hS.1)).trans (hS.2.1 x h1 h2), hS.2.2⟩ o1 rfl
  have hz : k < 1 := (List.getElem?_eq_some_iff.mp hx).1
  rw [show k = 0 by omega] at hx
  cases hx
  exact ⟨_, hc, (u_born ty hts hin hKn hkC e1 hty).to hfs⟩
/-- a reference into an array of an object's class; what lies at other addresses is left -/
theorem va_astqX (hexec : p.tables.exec = Jvm.exec) (hb : c.code = cc) (hK : va_K D cl tys s) (hP : va_P D cl ws H) (hD : va_D A ws) (hS : va_S A H0 H locs) (q0 t0 qk ci : Nat) {cA : ClassId} {r : vw_C} {n v : Nat} {vs : List Value} {f : Nat → Option Nat} (ha : ws[q0]? = some (a, .inl (cA, n, .inr (.inr (.inr (.inr f)))))) (ht : tys[t0]? = some (cA, .object r.1)) (hv : ws[qk]? = some (v, .inr (ci, vs))) (hc : cl[ci]? = some r) {i : Int32} (hin : vp_in i n) (hdg : decode cc pc = .ok (.aastore, 1))
    (kk : ∀ (H1 : Heap) (locs1 : List Loc), va_P D cl (ws.set q0 (a, .inl (cA, n, .inr (.inr (.inr (.inr (va_up f i.toNatClampNeg (some v)))))))) H1 → va_D A (ws.set q0 (a, .inl (cA, n, .inr (.inr (.inr (.inr (va_up f i.toNatClampNeg (some v)))))))) → va_S A H0 H1 locs1 → (∀ q, q ≠ a → H1[q]? = H[q]?) → W p l e R s m args below meth c H1 locs1 cells slots Q (F0 m (pc + 1) ls rest)) : W p l e R s m args below meth c H locs cells slots Q (F0 m pc ls (.ref v :: .int i :: .ref a :: rest)) := by
  have hlt : i.toNatClampNeg < n := Nat.not_le.mp fun q => hin (Or.inr q)
  have h0 : ¬ i < 0 := fun q => hin (Or.inl q)
  obtain ⟨r', hr', cellV, g1, g2, g3, -⟩ := hP qk _ hv
  have hcls := (hK.1 ci r hc).2
  obtain ⟨kA, comp, k1, k2, k3, -⟩ := (hK.2 t0 _ ht).2
  have hcomp : comp = D.1 ci := Option.some.inj (k3.symm.trans hcls.1)
  subst hcomp
  obtain ⟨kC, hkC, -⟩ := hcls.2
  refine W.aast hexec hb (hP q0 _ ha) (fun q h => by cases h) (fun h => by cases h) k1 k2 rfl hkC ⟨h0, by show _ < (arrV _ _ _).slots.size; rw [arrV_size]; exact hlt⟩ g1 (fun q h => by rw [g3] at h; cases h) (by rw [g2]; exact hkC) (by rw [g2]; exact va_assign hcls) rfl rfl hdg fun H1 e z oq => ?_
  refine kk H1 _ (hP.set hD ha ?_ oq) (hD.set ha) (hS.put z oq (hD.2 q0 _ ha)) oq
  show H1[a]? = some (vp_cell _ _)
  rw [e]
  rw [vp_cell_q, vp_cell_q, arrV_store]
  congr 2
  funext q
  by_cases hq : q = i.toNatClampNeg
  · subst hq; simp [va_up, updV, va_rf]
  · simp [va_up, updV, hq]
/-- a text by a wide index -/
theorem va_ldcSW (hexec : p.tables.exec = Jvm.exec) (hb : c.code = cc) {own tx : String} {index q : Nat} (hown : s.vm.findClass own = some m.cls) (hZ : vk_R own index tx q s) (hdg : decode cc pc = .ok (.ldc_w index, 3))
    (k : W p l e R s m args below meth c H locs cells slots Q (F0 m (pc + 3) ls (.ref q :: rest))) : W p l e R s m args below meth c H locs cells slots Q (F0 m pc ls rest) := by
  intro T hT X
  obtain ⟨t, a1, b1⟩ := k T hT X
  exact ⟨t, X.ldcStringW hexec hown (text := tx) (a := q) hZ.1 hZ.2 (g := F0 m pc ls rest) rfl (by rw [hb]; exact hdg) t a1, b1⟩
end PUTS
/-- all that lay in the heap lies there still -/
def hq_ (H H1 : Heap) : Prop := ∀ q : Nat, q < H.size → H1[q]? = H[q]?
theorem hq_.rf {H : Heap} : hq_ H H := fun _ _ => rfl
theorem hq_.le {H H1 : Heap} (h : hq_ H H1) : H.size ≤ H1.size := by
  rcases Nat.lt_or_ge H1.size H.size with g | g
  · have h1 := h H1.size g
    rw [Array.getElem?_eq_none (Nat.le_refl _), Array.getElem?_eq_getElem g] at h1
    cases h1
  · exact g
theorem hq_.tr {H H1 H2 : Heap} (h : hq_ H H1) (g : hq_ H1 H2) : hq_ H H2 := fun q hq => (g q (Nat.lt_of_lt_of_le hq h.le)).trans (h q hq)
theorem hq_.of {H H1 : Heap} {ws : va_W} (hk : ∀ q : Nat, q < H.size → ¬ va_A [] H.size q → H1[q]? = H[q]?) : hq_ H H1 := fun q h => hk q h (vA0 h)
theorem va_at.hq {D : va_G} {cl : List vw_C} {q : Nat × va_E} {H H1 : Heap} (h : va_at D cl q H) (g : hq_ H H1) : va_at D cl q H1 := h.kept (g _ h.lt)
theorem va_P.hq {D : va_G} {cl : List vw_C} {ws : va_W} {H H1 : Heap} (h : va_P D cl ws H) (g : hq_ H H1) : va_P D cl ws H1 := h.kept (fun k q hk => g _ (h k q hk).lt)
theorem FamP.via {D : va_G} {N : Nat → Prop} {ea : Nat} {g : Nat → Option Nat} {H H1 : Heap} (h : FamP D N ea g H) (hk : ∀ q, q < H.size → N q → H1[q]? = H[q]?) : FamP D N ea g H1 := fun i hi => by
  obtain ⟨a, l, h1, h2, h3, h4, h5, h6⟩ := h i hi
  exact ⟨a, l, h1, h2.kept (hk a h2.lt h4), h3.kept (hk l h3.lt h5), h4, h5, h6⟩
theorem FamP.hq {D : va_G} {N : Nat → Prop} {ea : Nat} {g : Nat → Option Nat} {H H1 : Heap} (h : FamP D N ea g H) (k : hq_ H H1) : FamP D N ea g H1 := h.via (fun q hq _ => k q hq)
theorem FamS.via {D : va_G} {N : Nat → Prop} {g : Nat → Option Nat} {H H1 : Heap} (h : FamS D N g H) (hk : ∀ q, q < H.size → N q → H1[q]? = H[q]?) : FamS D N g H1 := fun i hi => by
  obtain ⟨a, rw, h1, h2, h3⟩ := h i hi
  exact ⟨a, rw, h1, h2.kept (hk a h2.lt h3), h3⟩
theorem FamS.hq {D : va_G} {N : Nat → Prop} {g : Nat → Option Nat} {H H1 : Heap} (h : FamS D N g H) (k : hq_ H H1) : FamS D N g H1 := h.via (fun q hq _ => k q hq)
/-- what a method may change that works on what was made since the size c0 -/
def vC (c0 : Nat) : Nat → Prop := fun q => c0 ≤ q
/-- where a family lies: not below c0, and not at L -/
def vN (c0 : Nat) (L : List Nat) : Nat → Prop := fun q => c0 ≤ q ∧ q ∉ L
theorem vW0 {c0 : Nat} : ∀ (k : Nat) (q : Nat × va_E), ([] : va_W)[k]? = some q → c0 ≤ q.1 := fun k q h => by simp at h
theorem vW1 {c0 a : Nat} {e : va_E} {ws : va_W} (h : c0 ≤ a) (t : ∀ (k : Nat) (q : Nat × va_E), ws[k]? = some q → c0 ≤ q.1) : ∀ (k : Nat) (q : Nat × va_E), ((a, e) :: ws)[k]? = some q → c0 ≤ q.1 := fun k q hk => by
  cases k with
  | zero => cases hk; exact h
  | succ k => exact t k q hk
theorem vL0 {c0 : Nat} : ∀ (k : Nat) (q : Nat × va_E), ([] : va_W)[k]? = some q → q.1 < c0 := fun k q h => by simp at h
theorem vL1 {c0 a : Nat} {e : va_E} {ws : va_W} (h : a < c0) (t : ∀ (k : Nat) (q : Nat × va_E), ws[k]? = some q → q.1 < c0) : ∀ (k : Nat) (q : Nat × va_E), ((a, e) :: ws)[k]? = some q → q.1 < c0 := fun k q hk => by
  cases k with
  | zero => cases hk; exact h
  | succ k => exact t k q hk
theorem vGe {sz : Nat} {w1 : va_W} (h : va_D (va_A [] sz) w1) (k : Nat) {q : Nat × va_E} (hk : w1[k]? = some q) : sz ≤ q.1 := by
  rcases h.2 k q hk with ⟨j, e, z⟩ | z
  · simp at z
  · exact z
/-- cells that lie below c0, behind a call that changes what lies from c0 on -/
theorem vC_kept {D : va_G} {cl : List vw_C} {ws : va_W} {c0 : Nat} {H H1 : Heap} (hP : va_P D cl ws H) (hl : ∀ (k : Nat) (q : Nat × va_E), ws[k]? = some q → q.1 < c0) (hk : ∀ q : Nat, q < H.size → ¬ vC c0 q → H1[q]? = H[q]?) : va_P D cl ws H1 := hP.kept (fun k q h => hk q.1 (hP k q h).lt (Nat.not_le.mpr (hl k q h)))
theorem vC_app {A : Nat → Prop} {ws w1 : va_W} {c0 : Nat} (hD : va_D A ws) (hl : ∀ (k : Nat) (q : Nat × va_E), ws[k]? = some q → q.1 < c0) (hD1 : va_D (vC c0) w1) (hA : ∀ q, c0 ≤ q → A q) : va_D A (ws ++ w1) :=
  hD.app (hD1.weaken (fun _ q _ h => hA q.1 h)) (fun i j x y hx hy hxy => by
    have h1 := hl i x hx
    have h2 : c0 ≤ y.1 := hD1.2 j y hy
    omega)
/-- the first k places of a new reference -/
def FamPk (k : Nat) (D : va_G) (N : Nat → Prop) (ea : Nat) (g : Nat → Option Nat) (H : Heap) : Prop := ∀ i : Nat, i < k → ∃ a l : Nat, g i = some a ∧ va_at D vwCl (a, .inr (21, [.int (nI i), .ref l, .int 0])) H ∧ va_at D vwCl (l, .inr (5, [.int 0, .ref ea, .int 0])) H ∧ N a ∧ N l ∧ a ≠ l
theorem FamPk.via {k : Nat} {D : va_G} {N : Nat → Prop} {ea : Nat} {g : Nat → Option Nat} {H H1 : Heap} (h : FamPk k D N ea g H) (hk : ∀ q, q < H.size → N q → H1[q]? = H[q]?) : FamPk k D N ea g H1 := fun i hi => by
  obtain ⟨a, l, h1, h2, h3, h4, h5, h6⟩ := h i hi
  exact ⟨a, l, h1, h2.kept (hk a h2.lt h4), h3.kept (hk l h3.lt h5), h4, h5, h6⟩
theorem FamPk.lt {k : Nat} {D : va_G} {N : Nat → Prop} {ea : Nat} {g : Nat → Option Nat} {H : Heap} (h : FamPk k D N ea g H) : FamPk k D (fun q => N q ∧ q < H.size) ea g H := fun i hi => by
  obtain ⟨a, l, h1, h2, h3, h4, h5, h6⟩ := h i hi
  exact ⟨a, l, h1, h2, h3, ⟨h4, h2.lt⟩, ⟨h5, h3.lt⟩, h6⟩
theorem FamPk.push {k : Nat} {D : va_G} {N : Nat → Prop} {ea z : Nat} {g g' : Nat → Option Nat} {H : Heap} (h : FamPk k D (fun q => N q ∧ q < z) ea g H) {a l : Nat} (hg : va_up g k (some a) = g') (ha : va_at D vwCl (a, .inr (21, [.int (nI k), .ref l, .int 0])) H) (hl : va_at D vwCl (l, .inr (5, [.int 0, .ref ea, .int 0])) H) (na : N a) (nl : N l) (hal : a ≠ l) : FamPk (k + 1) D N ea g' H := fun i hi => by
  subst hg
  rcases Nat.lt_or_ge i k with hik | hik
  · obtain ⟨a', l', h1, h2, h3, h4, h5, h6⟩ := h i hik
    exact ⟨a', l', by simp only [va_up]; rw [if_neg (by omega)]; exact h1, h2, h3, h4.1, h5.1, h6⟩
  · obtain rfl : i = k := by omega
    exact ⟨a, l, by simp [va_up], ha, hl, na, nl, hal⟩
def FamSk (k : Nat) (D : va_G) (N : Nat → Prop) (g : Nat → Option Nat) (H : Heap) : Prop := ∀ i : Nat, i < k → ∃ a rw : Nat, g i = some a ∧ va_at D vwCl (a, .inr (14, [.ref rw, .int 0, .int 0])) H ∧ N a
theorem FamSk.via {k : Nat} {D : va_G} {N : Nat → Prop} {g : Nat → Option Nat} {H H1 : Heap} (h : FamSk k D N g H) (hk : ∀ q, q < H.size → N q → H1[q]? = H[q]?) : FamSk k D N g H1 := fun i hi => by
  obtain ⟨a, rw, h1, h2, h3⟩ := h i hi
  exact ⟨a, rw, h1, h2.kept (hk a h2.lt h3), h3⟩
theorem FamSk.lt {k : Nat} {D : va_G} {N : Nat → Prop} {g : Nat → Option Nat} {H : Heap} (h : FamSk k D N g H) : FamSk k D (fun q => N q ∧ q < H.size) g H := fun i hi => by
  obtain ⟨a, rw, h1, h2, h3⟩ := h i hi
  exact ⟨a, rw, h1, h2, h3, h2.lt⟩
theorem FamSk.push {k : Nat} {D : va_G} {N : Nat → Prop} {z : Nat} {g g' : Nat → Option Nat} {H : Heap} (h : FamSk k D (fun q => N q ∧ q < z) g H) {a rw : Nat} (hg : va_up g k (some a) = g') (ha : va_at D vwCl (a, .inr (14, [.ref rw, .int 0, .int 0])) H) (na : N a) : FamSk (k + 1) D N g' H := fun i hi => by
  subst hg
  rcases Nat.lt_or_ge i k with hik | hik
  · obtain ⟨a', rw', h1, h2, h3⟩ := h i hik
    exact ⟨a', rw', by simp only [va_up]; rw [if_neg (by omega)]; exact h1, h2, h3.1⟩
  · obtain rfl : i = k := by omega
    exact ⟨a, rw, by simp [va_up], ha, na⟩
theorem vAp {A : Nat → Prop} {ws : va_W} (hD : va_D A ws) (i j : Nat) {p q : Nat × va_E} (hi : ws[i]? = some p) (hj : ws[j]? = some q) (h : i ≠ j) : p.1 ≠ q.1 := fun e => h (hD.1 i j p q hi hj e)
theorem vAge {a sz q : Nat} {e : va_E} (h : va_A [(a, e)] sz q) (hn : q ≠ a) : sz ≤ q := by
  rcases h with ⟨k, e', h⟩ | h
  · cases k with
    | zero => simp at h; exact absurd h.1.symm hn
    | succ k => simp at h
  · exact h
