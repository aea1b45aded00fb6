/-! a torn cloth: the reference's table and the class's two counts of bits give one answer -/
theorem nI_and (a b : Nat) : nI a &&& nI b = nI (a &&& b) := by
  apply Int32.toBitVec_inj.mp
  simp [nI, BitVec.ofNat_and]
theorem nI_addO (a b : Nat) : nI a + nI b = nI (a + b) := (Int32.ofNat_add a b).symm
theorem nI_subO {a b : Nat} (h : b ≤ a) : nI a - nI b = nI (a - b) := (Int32.ofNat_sub a b h).symm
theorem nI_ushr (a : Nat) (h : a < 2 ^ 32) (k : Nat) (hk : k < 32) : ((nI a).toUInt32 >>> (UInt32.ofNat k)).toInt32 = nI (a >>> k) := by
  apply Int32.toBitVec_inj.mp
  apply BitVec.eq_of_toNat_eq
  simp [nI]
  rw [Nat.mod_eq_of_lt h]
  rw [Nat.mod_eq_of_lt (show a >>> k < 4294967296 from Nat.lt_of_le_of_lt (Nat.shiftRight_le a k) h)]
  rw [Nat.mod_eq_of_lt hk]
theorem ush_nI {a k : Nat} {y : Int32} (h : a < 2 ^ 32) (hk : k < 32) (hy : y.toUInt32 &&& Int32.toUInt32 31 = UInt32.ofNat k) : ush (nI a) y = nI (a >>> k) := by
  unfold ush
  rw [hy]
  exact nI_ushr a h k hk
/-- how many bits, in numbers without an end -/
def bcnN (v : Nat) : Nat :=
  let a := v - ((v >>> 1) &&& 1431655765)
  let b := (a &&& 858993459) + ((a >>> 2) &&& 858993459)
  let c := (b + (b >>> 4)) &&& 252645135
  let d := c + (c >>> 8)
  let e := d + (d >>> 16)
  e &&& 63
theorem bcn_nI {v : Nat} (hv : v < 65536) : bcn (nI v) = nI (bcnN v) := by
  have h0 : (v >>> 1) &&& 1431655765 ≤ v := Nat.le_trans Nat.and_le_left (Nat.shiftRight_le v 1)
  unfold bcn bcnN
  dsimp only
  have e1 : ush (nI v) 1 = nI (v >>> 1) := ush_nI (by omega) (by decide) (by decide)
  have e2 : (1431655765 : Int32) = nI 1431655765 := by decide
  have e3 : (858993459 : Int32) = nI 858993459 := by decide
  have e4 : (252645135 : Int32) = nI 252645135 := by decide
  have e5 : (63 : Int32) = nI 63 := by decide
  rw [e1, e2, nI_and, nI_subO h0]
  generalize ha : v - (v >>> 1 &&& 1431655765) = a
  have la : a < 65536 := by omega
  have e6 : ush (nI a) 2 = nI (a >>> 2) := ush_nI (by omega) (by decide) (by decide)
  rw [e6, e3, nI_and, nI_and, nI_addO]
  have lb : (a &&& 858993459) + (a >>> 2 &&& 858993459) ≤ 2 * a := by
    have := Nat.and_le_left (n := a) (m := 858993459)
    have h2 := Nat.and_le_left (n := a >>> 2) (m := 858993459)
    have := Nat.shiftRight_le a 2
    omega
  generalize (a &&& 858993459) + (a >>> 2 &&& 858993459) = b at lb ⊢
  have e7 : ush (nI b) 4 = nI (b >>> 4) := ush_nI (by omega) (by decide) (by decide)
  rw [e7, e4, nI_addO, nI_and]
  have lc : (b + b >>> 4) &&& 252645135 ≤ 2 * b := by
    have := Nat.and_le_left (n := b + b >>> 4) (m := 252645135)
    have := Nat.shiftRight_le b 4
    omega
  generalize (b + b >>> 4) &&& 252645135 = c at lc ⊢
  have e8 : ush (nI c) 8 = nI (c >>> 8) := ush_nI (by omega) (by decide) (by decide)
  rw [e8, nI_addO]
  have ld : c + c >>> 8 ≤ 2 * c := by
    have := Nat.shiftRight_le c 8
    omega
  generalize c + c >>> 8 = d at ld ⊢
  have e9 : ush (nI d) 16 = nI (d >>> 16) := ush_nI (by omega) (by decide) (by decide)
  rw [e9, nI_addO, e5, nI_and]
def tgo : Nat → Nat → Nat → Nat → Nat
  | 0, _, s, _ => s
  | k + 1, v, s, r => match v % 2 with
    | 0 => tgo k (v / 2) (s + (2 * r - 1)) 0
    | _ + 1 => tgo k (v / 2) s (r + 1)
theorem tgo_tst (v : Nat) : ∀ k i : Nat, tgo k (v / 2 ^ i) (tst v i).1 (tst v i).2 = (tst v (i + k)).1 := by
  intro k
  induction k with
  | zero => intro i; rfl
  | succ k ih =>
    intro i
    have hb : v.testBit i = decide (v / 2 ^ i % 2 = 1) := Nat.testBit_eq_decide_div_mod_eq
    have hd : v / 2 ^ i / 2 = v / 2 ^ (i + 1) := by rw [Nat.div_div_eq_div_mul, Nat.pow_succ]
    have hs : i + (k + 1) = (i + 1) + k := by omega
    rw [hs, ← ih (i + 1), ← hd]
    show tgo (k + 1) _ _ _ = tgo k _ (if v.testBit i then _ else _ : Nat × Nat).1 (if v.testBit i then _ else _ : Nat × Nat).2
    rcases Nat.mod_two_eq_zero_or_one (v / 2 ^ i) with h | h
    · rw [hb, h]; simp [tgo, h]
    · rw [hb, h]; simp [tgo, h]
def thck (h : Nat) : Bool := (List.range 256).all fun g => (List.range 16).all fun l => Nat.beq (tgo 17 (4096 * h + 16 * g + l) 0 0) (bcnN (4096 * h + 16 * g + l) + bcnN ((4096 * h + 16 * g + l) &&& ((4096 * h + 16 * g + l) >>> 1)))
theorem thck_0 : thck 0 = true := by decide +kernel
theorem thck_1 : thck 1 = true := by decide +kernel
theorem thck_2 : thck 2 = true := by decide +kernel
theorem thck_3 : thck 3 = true := by decide +kernel
theorem thck_4 : thck 4 = true := by decide +kernel
theorem thck_5 : thck 5 = true := by decide +kernel
theorem thck_6 : thck 6 = true := by decide +kernel
theorem thck_7 : thck 7 = true := by decide +kernel
theorem thck_8 : thck 8 = true := by decide +kernel
theorem thck_9 : thck 9 = true := by decide +kernel
theorem thck_10 : thck 10 = true := by decide +kernel
theorem thck_11 : thck 11 = true := by decide +kernel
theorem thck_12 : thck 12 = true := by decide +kernel
theorem thck_13 : thck 13 = true := by decide +kernel
theorem thck_14 : thck 14 = true := by decide +kernel
theorem thck_15 : thck 15 = true := by decide +kernel
theorem thck_all : ∀ h : Nat, h < 16 → thck h = true
  | 0, _ => thck_0
  | 1, _ => thck_1
  | 2, _ => thck_2
  | 3, _ => thck_3
  | 4, _ => thck_4
  | 5, _ => thck_5
  | 6, _ => thck_6
  | 7, _ => thck_7
  | 8, _ => thck_8
  | 9, _ => thck_9
  | 10, _ => thck_10
  | 11, _ => thck_11
  | 12, _ => thck_12
  | 13, _ => thck_13
  | 14, _ => thck_14
  | 15, _ => thck_15
  | n + 16, h => absurd h (by omega)
theorem thck_ok {v : Nat} (hv : v < 65536) : tgo 17 v 0 0 = bcnN v + bcnN (v &&& (v >>> 1)) := by
  have h1 := thck_all (v / 4096) (by omega)
  unfold thck at h1
  have h2 := List.all_eq_true.mp h1 (v % 4096 / 16) (List.mem_range.mpr (by omega))
  have h3 := List.all_eq_true.mp h2 (v % 16) (List.mem_range.mpr (by omega))
  have e : 4096 * (v / 4096) + 16 * (v % 4096 / 16) + v % 16 = v := by omega
  rw [e] at h3
  exact Nat.eq_of_beq_eq_true h3
theorem thRC {n : Int32} (h : 0 ≤ n ∧ n ≤ 65535) : thR n = thC n := by
  obtain ⟨v, hv, rfl⟩ := thr_cu h
  have h2 : nI v >>> (1 &&& 31) = nI (v >>> 1) := by
    rw [Nat.shiftRight_eq_div_pow]
    exact pk_shrN (by omega) _ 1 (by decide +kernel)
  have l : v &&& (v >>> 1) ≤ v := Nat.and_le_left
  unfold thR thC
  rw [nI_clamp (by omega), h2, nI_and, bcn_nI (by omega), bcn_nI (by omega), nI_addO, ← thck_ok (by omega)]
  have := tgo_tst v 17 0
  rw [Nat.pow_zero, Nat.div_one] at this
  rw [Nat.zero_add] at this
  rw [← this]
  rfl
