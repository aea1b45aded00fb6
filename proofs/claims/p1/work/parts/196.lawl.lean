/-! numbers and families for the law's own body -/
theorem lw_cmp0 {x : Int32} {a b : Int64} (e : x = lg_cmp a b) : x = 0 ↔ a = b := by
  subst e
  unfold lg_cmp
  by_cases h1 : a > b
  · rw [if_pos h1]
    exact ⟨fun z => absurd z (by decide), fun z => by subst z; exact (Int64.lt_irrefl h1).elim⟩
  · rw [if_neg h1]
    by_cases h2 : a = b
    · rw [if_pos h2]; exact ⟨fun _ => h2, fun _ => rfl⟩
    · rw [if_neg h2]; exact ⟨fun z => absurd z (by decide), fun z => absurd z h2⟩
theorem lw_char {v c : Int32} (h : (v.toUInt32 % 65536).toInt32 = c) : narrow .char (.int c) = .int c := by
  subst h
  show Value.int ((v.toUInt32 % 65536).toInt32.toUInt32.toUInt16.toUInt32.toInt32) = _
  have e1 : (v.toUInt32 % 65536).toInt32.toUInt32 = v.toUInt32 % 65536 := by simp
  rw [e1]
  have e2 : (v.toUInt32 % 65536).toUInt16.toUInt32 = v.toUInt32 % 65536 := by
    apply UInt32.toNat_inj.mp
    simp
  rw [e2]
theorem lw_charf {v c : Int32} (h : (v.toUInt32 % 65536).toInt32 = c) : fits .char (.int c) = true := by
  have := fits_narrow_char c
  rw [lw_char h] at this
  exact this
theorem lw_ix3 (w : Int32) : 0 ≤ ixL 3 w ↔ (w = 115 ∨ w = 116 ∨ w = 121) := by
  rw [ixL3]
  by_cases h1 : 115 = w
  · rw [if_pos h1]; exact ⟨fun _ => Or.inl h1.symm, fun _ => by decide⟩
  · rw [if_neg h1]
    by_cases h2 : 116 = w
    · rw [if_pos h2]; exact ⟨fun _ => Or.inr (Or.inl h2.symm), fun _ => by decide⟩
    · rw [if_neg h2]
      by_cases h3 : 121 = w
      · rw [if_pos h3]; exact ⟨fun _ => Or.inr (Or.inr h3.symm), fun _ => by decide⟩
      · rw [if_neg h3]; exact ⟨fun z => absurd z (by decide), fun z => by rcases z with z | z | z <;> simp_all⟩
theorem lw_ix1 (w : Int32) : (ixL 1 w = 0 ↔ w = 112) ∧ (ixL 1 w = 2 ↔ w = 104) := by
  rw [ixL1]
  by_cases h1 : 112 = w
  · rw [if_pos h1]; subst h1; exact ⟨⟨fun _ => rfl, fun _ => rfl⟩, ⟨fun z => absurd z (by decide), fun z => absurd z (by decide)⟩⟩
  · rw [if_neg h1]
    by_cases h2 : 119 = w
    · rw [if_pos h2]; subst h2; exact ⟨⟨fun z => absurd z (by decide), fun z => absurd z (by decide)⟩, ⟨fun z => absurd z (by decide), fun z => absurd z (by decide)⟩⟩
    · rw [if_neg h2]
      by_cases h3 : 104 = w
      · rw [if_pos h3]; subst h3; exact ⟨⟨fun z => absurd z (by decide), fun z => absurd z (by decide)⟩, ⟨fun _ => rfl, fun _ => rfl⟩⟩
      · rw [if_neg h3]
        have n1 : ¬ w = 112 := fun z => h1 z.symm
        have n3 : ¬ w = 104 := fun z => h3 z.symm
        by_cases h4 : 108 = w
        · rw [if_pos h4]; exact ⟨⟨fun z => absurd z (by decide), fun z => absurd z n1⟩, ⟨fun z => absurd z (by decide), fun z => absurd z n3⟩⟩
        · rw [if_neg h4]
          by_cases h5 : 114 = w
          · rw [if_pos h5]; exact ⟨⟨fun z => absurd z (by decide), fun z => absurd z n1⟩, ⟨fun z => absurd z (by decide), fun z => absurd z n3⟩⟩
          · rw [if_neg h5]; exact ⟨⟨fun z => absurd z (by decide), fun z => absurd z n1⟩, ⟨fun z => absurd z (by decide), fun z => absurd z n3⟩⟩
theorem lw_ix2c (a : Int32) (h : 0 ≤ ixL 2 a) : (a = 108 ∧ ixL 2 a = 0) ∨ (a = 101 ∧ ixL 2 a = 1) ∨ (a = 104 ∧ ixL 2 a = 2) := by
  rw [ixL2] at h ⊢
  by_cases h1 : 108 = a
  · rw [if_pos h1]; exact Or.inl ⟨h1.symm, rfl⟩
  · rw [if_neg h1] at h ⊢
    by_cases h2 : 101 = a
    · rw [if_pos h2]; exact Or.inr (Or.inl ⟨h2.symm, rfl⟩)
    · rw [if_neg h2] at h ⊢
      by_cases h3 : 104 = a
      · rw [if_pos h3]; exact Or.inr (Or.inr ⟨h3.symm, rfl⟩)
      · rw [if_neg h3] at h; exact absurd h (by decide)
theorem lw_ix2 (a b : Int32) : 0 ≤ ixL 2 a ∧ 0 ≤ ixL 2 b → (ixL 2 a = ixL 2 b ↔ a = b) := fun ⟨ha, hb⟩ => by
  refine ⟨fun h => ?_, fun h => by rw [h]⟩
  rcases lw_ix2c a ha with ⟨e1, e2⟩ | ⟨e1, e2⟩ | ⟨e1, e2⟩ <;> rcases lw_ix2c b hb with ⟨k1, k2⟩ | ⟨k1, k2⟩ | ⟨k1, k2⟩ <;> first | exact e1.trans k1.symm | (rw [e2, k2] at h; exact absurd h (by decide))
theorem lw_swo {x : Int32} (h : ¬ (0 ≤ x ∧ x ≤ 48)) : x.toInt < 0 ∨ 48 < x.toInt := by
  by_cases h1 : 0 ≤ x
  · refine Or.inr ?_
    have h2 : ¬ x ≤ 48 := fun z => h ⟨h1, z⟩
    have h3 := Int32.not_le.mp h2
    have h4 := Int32.lt_iff_toInt_lt.mp h3
    have e : (48 : Int32).toInt = 48 := by decide
    rw [e] at h4
    exact h4
  · refine Or.inl ?_
    have h3 := Int32.not_le.mp h1
    have h4 := Int32.lt_iff_toInt_lt.mp h3
    have e : (0 : Int32).toInt = 0 := by decide
    rw [e] at h4
    exact h4
theorem lw_swi {x : Int32} (h : 0 ≤ x ∧ x ≤ 48) : ∃ n : Nat, n ≤ 48 ∧ x = nI n := nI_of2 (M := 48) (n := 48) (by decide) (Int32.not_lt.mpr h.1) h.2
theorem lw_len : ∀ L : Nat, L < 10 → Int32.ofNat L - 10 < 0 := by decide
/-- from c0 on, below z, none of L -/
def vM (c0 : Nat) (L : List Nat) (z : Nat) : Nat → Prop := fun a => (c0 ≤ a ∧ a ∉ L) ∧ a < z
theorem FamS.at8 {D : va_G} {c0 c1 q : Nat} {L : List Nat} {g : Nat → Option Nat} {H H1 : Heap} (h : FamS D (vN c1 L) g H) (hc : c0 ≤ c1) (hoq : ∀ x : Nat, x < H.size → H1[x]? = H[x]?) (hoz : q = H.size) : FamS D (vM c0 L q) g H1 := fun i hi => by
  obtain ⟨a, rw, h1, h2, h3⟩ := h i hi
  have l2 := h2.lt
  exact ⟨a, rw, h1, h2.kept (hoq a l2), ⟨Nat.le_trans hc h3.1, h3.2⟩, by rw [hoz]; exact l2⟩
theorem FamP.ub {D : va_G} {c0 ea : Nat} {L : List Nat} {g : Nat → Option Nat} {H : Heap} (h : FamP D (vN c0 L) ea g H) : FamP D (vM c0 L H.size) ea g H := fun i hi => by
  obtain ⟨a, l, h1, h2, h3, h4, h5, h6⟩ := h i hi
  have l2 := h2.lt
  have l3 := h3.lt
  exact ⟨a, l, h1, h2, h3, ⟨⟨h4.1, h4.2⟩, l2⟩, ⟨⟨h5.1, h5.2⟩, l3⟩, h6⟩
