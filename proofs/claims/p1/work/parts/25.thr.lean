theorem dX18_threads_0 : decode cX18_threads 0 = .ok (.aload_n 0, 1) := by decide +kernel
theorem dX18_threads_1 : decode cX18_threads 1 = .ok (.iconst 0, 1) := by decide +kernel
theorem dX18_threads_2 : decode cX18_threads 2 = .ok (.putfield 67, 3) := by decide +kernel
theorem dX18_threads_5 : decode cX18_threads 5 = .ok (.iload_n 1, 1) := by decide +kernel
theorem dX18_threads_6 : decode cX18_threads 6 = .ok (.iconst 0, 1) := by decide +kernel
theorem dX18_threads_7 : decode cX18_threads 7 = .ok (.ldc_w 300, 3) := by decide +kernel
set_option maxRecDepth 20000 in
theorem ggX18_threads_X18_in : GoodIn wsX18_threads wsX18_in := goodIn_r _ [12] (by decide +kernel) (by decide +kernel)
set_option maxRecDepth 20000 in
theorem gX18_threads_X18_in : GoodIn wsX18_threads (va_wsS RX18 70 yX18_in wsX18_in) := goodIn_app (goodIn_of _ (by decide +kernel)) ggX18_threads_X18_in
theorem dX18_threads_10 : decode cX18_threads 10 = .ok (.invokestatic 70, 3) := by decide +kernel
theorem dX18_threads_13 : decode cX18_threads 13 = .ok (.ifCond .ne 9, 3) := by decide +kernel
theorem dX18_threads_22 : decode cX18_threads 22 = .ok (.bipush 17, 2) := by decide +kernel
theorem dX18_threads_24 : decode cX18_threads 24 = .ok (.newarray .int, 2) := by decide +kernel
theorem dX18_threads_26 : decode cX18_threads 26 = .ok (.astore_n 2, 1) := by decide +kernel
theorem dX18_threads_27 : decode cX18_threads 27 = .ok (.iconst 1, 1) := by decide +kernel
theorem dX18_threads_28 : decode cX18_threads 28 = .ok (.istore_n 3, 1) := by decide +kernel
theorem dX18_threads_29 : decode cX18_threads 29 = .ok (.iload_n 3, 1) := by decide +kernel
theorem dX18_threads_30 : decode cX18_threads 30 = .ok (.bipush 17, 2) := by decide +kernel
theorem dX18_threads_32 : decode cX18_threads 32 = .ok (.if_icmp .ge 85, 3) := by decide +kernel
theorem dX18_threads_117 : decode cX18_threads 117 = .ok (.iconst 0, 1) := by decide +kernel
theorem dX18_threads_118 : decode cX18_threads 118 = .ok (.istore_n 3, 1) := by decide +kernel
theorem dX18_threads_119 : decode cX18_threads 119 = .ok (.iconst 0, 1) := by decide +kernel
theorem dX18_threads_120 : decode cX18_threads 120 = .ok (.istore 4, 2) := by decide +kernel
theorem dX18_threads_122 : decode cX18_threads 122 = .ok (.iconst 0, 1) := by decide +kernel
theorem dX18_threads_123 : decode cX18_threads 123 = .ok (.istore 5, 2) := by decide +kernel
theorem dX18_threads_125 : decode cX18_threads 125 = .ok (.iload 5, 2) := by decide +kernel
theorem dX18_threads_127 : decode cX18_threads 127 = .ok (.bipush 17, 2) := by decide +kernel
theorem dX18_threads_129 : decode cX18_threads 129 = .ok (.if_icmp .ge 57, 3) := by decide +kernel
theorem dX18_threads_186 : decode cX18_threads 186 = .ok (.iload_n 3, 1) := by decide +kernel
theorem dX18_threads_187 : decode cX18_threads 187 = .ok (.ireturn, 1) := by decide +kernel
theorem dX18_threads_132 : decode cX18_threads 132 = .ok (.iload_n 1, 1) := by decide +kernel
theorem dX18_threads_133 : decode cX18_threads 133 = .ok (.iload 5, 2) := by decide +kernel
theorem dX18_threads_135 : decode cX18_threads 135 = .ok (.ishr, 1) := by decide +kernel
theorem dX18_threads_136 : decode cX18_threads 136 = .ok (.iconst 1, 1) := by decide +kernel
theorem dX18_threads_137 : decode cX18_threads 137 = .ok (.iand, 1) := by decide +kernel
theorem dX18_threads_138 : decode cX18_threads 138 = .ok (.iconst 1, 1) := by decide +kernel
theorem dX18_threads_139 : decode cX18_threads 139 = .ok (.if_icmp .ne 7, 3) := by decide +kernel
theorem dX18_threads_146 : decode cX18_threads 146 = .ok (.iconst 0, 1) := by decide +kernel
theorem dX18_threads_147 : decode cX18_threads 147 = .ok (.istore 6, 2) := by decide +kernel
theorem dX18_threads_149 : decode cX18_threads 149 = .ok (.iload_n 3, 1) := by decide +kernel
theorem dX18_threads_150 : decode cX18_threads 150 = .ok (.iload 6, 2) := by decide +kernel
theorem dX18_threads_152 : decode cX18_threads 152 = .ok (.ifCond .eq 7, 3) := by decide +kernel
theorem dX18_threads_159 : decode cX18_threads 159 = .ok (.aload_n 2, 1) := by decide +kernel
theorem dX18_threads_160 : decode cX18_threads 160 = .ok (.iload 4, 2) := by decide +kernel
theorem dX18_threads_162 : decode cX18_threads 162 = .ok (.iaload, 1) := by decide +kernel
theorem dX18_threads_163 : decode cX18_threads 163 = .ok (.iadd, 1) := by decide +kernel
theorem dX18_threads_164 : decode cX18_threads 164 = .ok (.istore_n 3, 1) := by decide +kernel
theorem dX18_threads_165 : decode cX18_threads 165 = .ok (.iload 6, 2) := by decide +kernel
theorem dX18_threads_167 : decode cX18_threads 167 = .ok (.ifCond .eq 10, 3) := by decide +kernel
theorem dX18_threads_177 : decode cX18_threads 177 = .ok (.iconst 0, 1) := by decide +kernel
theorem dX18_threads_178 : decode cX18_threads 178 = .ok (.istore 4, 2) := by decide +kernel
theorem dX18_threads_180 : decode cX18_threads 180 = .ok (.iinc 5 1, 3) := by decide +kernel
theorem dX18_threads_183 : decode cX18_threads 183 = .ok (.goto (-58), 3) := by decide +kernel
theorem dX18_threads_142 : decode cX18_threads 142 = .ok (.iconst 1, 1) := by decide +kernel
theorem dX18_threads_143 : decode cX18_threads 143 = .ok (.goto 4, 3) := by decide +kernel
theorem dX18_threads_155 : decode cX18_threads 155 = .ok (.iconst 0, 1) := by decide +kernel
theorem dX18_threads_156 : decode cX18_threads 156 = .ok (.goto 7, 3) := by decide +kernel
theorem dX18_threads_170 : decode cX18_threads 170 = .ok (.iload 4, 2) := by decide +kernel
theorem dX18_threads_172 : decode cX18_threads 172 = .ok (.iconst 1, 1) := by decide +kernel
theorem dX18_threads_173 : decode cX18_threads 173 = .ok (.iadd, 1) := by decide +kernel
theorem dX18_threads_174 : decode cX18_threads 174 = .ok (.goto 4, 3) := by decide +kernel
theorem dX18_threads_35 : decode cX18_threads 35 = .ok (.aload_n 2, 1) := by decide +kernel
theorem dX18_threads_36 : decode cX18_threads 36 = .ok (.iload_n 3, 1) := by decide +kernel
theorem dX18_threads_37 : decode cX18_threads 37 = .ok (.ldc 242, 2) := by decide +kernel
theorem dX18_threads_39 : decode cX18_threads 39 = .ok (.iastore, 1) := by decide +kernel
theorem dX18_threads_40 : decode cX18_threads 40 = .ok (.iconst 0, 1) := by decide +kernel
theorem dX18_threads_41 : decode cX18_threads 41 = .ok (.istore 4, 2) := by decide +kernel
theorem dX18_threads_43 : decode cX18_threads 43 = .ok (.iload 4, 2) := by decide +kernel
theorem dX18_threads_45 : decode cX18_threads 45 = .ok (.iload_n 3, 1) := by decide +kernel
theorem dX18_threads_46 : decode cX18_threads 46 = .ok (.if_icmp .ge 65, 3) := by decide +kernel
theorem dX18_threads_111 : decode cX18_threads 111 = .ok (.iinc 3 1, 3) := by decide +kernel
theorem dX18_threads_114 : decode cX18_threads 114 = .ok (.goto (-85), 3) := by decide +kernel
theorem dX18_threads_49 : decode cX18_threads 49 = .ok (.iload 4, 2) := by decide +kernel
theorem dX18_threads_51 : decode cX18_threads 51 = .ok (.ifCond .le 7, 3) := by decide +kernel
theorem dX18_threads_58 : decode cX18_threads 58 = .ok (.iconst 0, 1) := by decide +kernel
theorem dX18_threads_59 : decode cX18_threads 59 = .ok (.iload 4, 2) := by decide +kernel
theorem dX18_threads_61 : decode cX18_threads 61 = .ok (.iload_n 3, 1) := by decide +kernel
theorem dX18_threads_62 : decode cX18_threads 62 = .ok (.iconst 1, 1) := by decide +kernel
theorem dX18_threads_63 : decode cX18_threads 63 = .ok (.isub, 1) := by decide +kernel
theorem dX18_threads_64 : decode cX18_threads 64 = .ok (.if_icmp .ge 7, 3) := by decide +kernel
theorem dX18_threads_71 : decode cX18_threads 71 = .ok (.iconst 0, 1) := by decide +kernel
theorem dX18_threads_72 : decode cX18_threads 72 = .ok (.iadd, 1) := by decide +kernel
theorem dX18_threads_73 : decode cX18_threads 73 = .ok (.istore 5, 2) := by decide +kernel
theorem dX18_threads_75 : decode cX18_threads 75 = .ok (.aload_n 2, 1) := by decide +kernel
theorem dX18_threads_76 : decode cX18_threads 76 = .ok (.iload_n 3, 1) := by decide +kernel
theorem dX18_threads_77 : decode cX18_threads 77 = .ok (.aload_n 2, 1) := by decide +kernel
theorem dX18_threads_78 : decode cX18_threads 78 = .ok (.iload_n 3, 1) := by decide +kernel
theorem dX18_threads_79 : decode cX18_threads 79 = .ok (.iaload, 1) := by decide +kernel
theorem dX18_threads_80 : decode cX18_threads 80 = .ok (.iconst 1, 1) := by decide +kernel
theorem dX18_threads_81 : decode cX18_threads 81 = .ok (.iload 5, 2) := by decide +kernel
theorem dX18_threads_83 : decode cX18_threads 83 = .ok (.iload 5, 2) := by decide +kernel
theorem dX18_threads_85 : decode cX18_threads 85 = .ok (.imul, 1) := by decide +kernel
theorem dX18_threads_86 : decode cX18_threads 86 = .ok (.iadd, 1) := by decide +kernel
theorem dX18_threads_87 : decode cX18_threads 87 = .ok (.aload_n 2, 1) := by decide +kernel
theorem dX18_threads_88 : decode cX18_threads 88 = .ok (.iload 4, 2) := by decide +kernel
theorem dX18_threads_90 : decode cX18_threads 90 = .ok (.iaload, 1) := by decide +kernel
theorem dX18_threads_91 : decode cX18_threads 91 = .ok (.iadd, 1) := by decide +kernel
theorem dX18_threads_92 : decode cX18_threads 92 = .ok (.aload_n 2, 1) := by decide +kernel
theorem dX18_threads_93 : decode cX18_threads 93 = .ok (.iload_n 3, 1) := by decide +kernel
theorem dX18_threads_94 : decode cX18_threads 94 = .ok (.iconst 1, 1) := by decide +kernel
theorem dX18_threads_95 : decode cX18_threads 95 = .ok (.isub, 1) := by decide +kernel
theorem dX18_threads_96 : decode cX18_threads 96 = .ok (.iload 4, 2) := by decide +kernel
theorem dX18_threads_98 : decode cX18_threads 98 = .ok (.isub, 1) := by decide +kernel
theorem dX18_threads_99 : decode cX18_threads 99 = .ok (.iaload, 1) := by decide +kernel
theorem dX18_threads_100 : decode cX18_threads 100 = .ok (.iadd, 1) := by decide +kernel
theorem dX18_threads_101 : decode cX18_threads 101 = .ok (.invokestatic 238, 3) := by decide +kernel
theorem dX18_threads_104 : decode cX18_threads 104 = .ok (.iastore, 1) := by decide +kernel
theorem dX18_threads_105 : decode cX18_threads 105 = .ok (.iinc 4 1, 3) := by decide +kernel
theorem dX18_threads_108 : decode cX18_threads 108 = .ok (.goto (-65), 3) := by decide +kernel
theorem dX18_threads_67 : decode cX18_threads 67 = .ok (.iconst 1, 1) := by decide +kernel
theorem dX18_threads_68 : decode cX18_threads 68 = .ok (.goto 4, 3) := by decide +kernel
theorem dX18_threads_54 : decode cX18_threads 54 = .ok (.iconst 1, 1) := by decide +kernel
theorem dX18_threads_55 : decode cX18_threads 55 = .ok (.goto 4, 3) := by decide +kernel
theorem dX18_threads_16 : decode cX18_threads 16 = .ok (.aload_n 0, 1) := by decide +kernel
theorem dX18_threads_17 : decode cX18_threads 17 = .ok (.iconst 1, 1) := by decide +kernel
set_option maxRecDepth 20000 in
theorem ggX18_threads_X18_fails : GoodIn wsX18_threads wsX18_fails := goodIn_r _ [16, 1, 17, 18, 19, 20, 21, 22, 23, 24, 25, 26, 27, 28, 29, 30, 31, 32, 33] (by decide +kernel) (by decide +kernel)
set_option maxRecDepth 20000 in
theorem gX18_threads_X18_fails : GoodIn wsX18_threads (wsV RX18 88 RX18 yX18_fails wsX18_fails) := goodIn_app (goodIn_of _ (by decide +kernel)) ggX18_threads_X18_fails
theorem dX18_threads_18 : decode cX18_threads 18 = .ok (.invokevirtual 88, 3) := by decide +kernel
theorem dX18_threads_21 : decode cX18_threads 21 = .ok (.ireturn, 1) := by decide +kernel
/-- the least minutes of a gap of j threads -/
def lf (j : Nat) : Int32 := nI (2 * j - 1)
def tb0 (n j : Nat) : Int32 := if j < n then lf j else 0
def tb (n k j : Nat) : Int32 := if j < n then lf j else if j = n then (if k = 0 then 2147483647 else lf n) else 0
def cst (n k : Nat) : Int32 := if n = 1 then 1 else if k = 0 ∨ k = n - 1 then 2 else 5
theorem thr_0 : ∀ j : Nat, j < 17 → (0 : Int32) = tb0 1 j := fun j h => (by decide : ∀ j : Fin 17, (0 : Int32) = tb0 1 j.val) ⟨j, h⟩
theorem thr_in {n : Nat} {f f1 : Nat → Int32} (hn : n < 17) (h : ∀ j : Nat, j < 17 → f j = tb0 n j) (e : upd f (nI n).toNatClampNeg 2147483647 = f1) : ∀ j : Nat, j < 17 → f1 j = tb n 0 j := by
  intro j hj
  rw [← e, nI_clamp (by omega)]
  unfold upd tb
  by_cases h1 : j = n
  · subst h1; simp
  · rw [if_neg h1, h j hj, if_neg h1]; rfl
theorem thr_out {n : Nat} {f : Nat → Int32} (hn : 1 ≤ n) (h : ∀ j : Nat, j < 17 → f j = tb n n j) : ∀ j : Nat, j < 17 → f j = tb0 (n + 1) j := by
  intro j hj
  rw [h j hj]
  unfold tb tb0
  by_cases h1 : j < n
  · rw [if_pos h1, if_pos (by omega)]
  · rw [if_neg h1]
    by_cases h2 : j = n
    · subst h2; rw [if_pos rfl, if_neg (by omega), if_pos (by omega)]
    · rw [if_neg h2, if_neg (by omega)]
theorem thr_cF : ∀ n : Fin 17, ∀ k : Fin 17, k.val < n.val → cst n.val k.val = 1 + ((if nI k.val ≤ 0 then 0 else 1) + (if nI n.val - 1 ≤ nI k.val then 0 else 1)) * ((if nI k.val ≤ 0 then 0 else 1) + (if nI n.val - 1 ≤ nI k.val then 0 else 1)) := by decide +kernel
theorem thr_c {n k : Nat} {xa : Int32} (hn : n < 17) (hk : k < n) (ea : xa = nI n - 1) : cst n k = 1 + ((if nI k ≤ 0 then 0 else 1) + (if xa ≤ nI k then 0 else 1)) * ((if nI k ≤ 0 then 0 else 1) + (if xa ≤ nI k then 0 else 1)) := by
  subst ea; exact thr_cF ⟨n, hn⟩ ⟨k, by omega⟩ hk
theorem thr_mF : ∀ n : Fin 17, ∀ k : Fin 17, k.val < n.val → (if cst n.val k.val + lf k.val + lf (n.val - 1 - k.val) < (if k.val = 0 then 2147483647 else lf n.val) then cst n.val k.val + lf k.val + lf (n.val - 1 - k.val) else (if k.val = 0 then 2147483647 else lf n.val)) = lf n.val := by decide +kernel
theorem thr_ix {n k : Nat} {x y : Int32} (hn : n < 17) (hk : k < n) (ex : x = nI n - 1) (ey : y = x - nI k) : ∃ d : Nat, d = n - 1 - k ∧ y = nI d := by
  refine ⟨_, rfl, ?_⟩
  subst ex ey
  exact (by decide +kernel : ∀ n : Fin 17, ∀ k : Fin 17, k.val < n.val → nI n.val - 1 - nI k.val = nI (n.val - 1 - k.val)) ⟨n, hn⟩ ⟨k, by omega⟩ hk
theorem thr_step {n k d : Nat} {f f1 : Nat → Int32} {c x4 x5 x6 x7 x8 z : Int32} (hn : n < 17) (hk : k < n) (hd : d = n - 1 - k) (h : ∀ j : Nat, j < 17 → f j = tb n k j) (hc : cst n k = c) (e4 : x4 = f n) (e5 : x5 = f k) (e6 : x6 = c + x5) (e7 : x7 = f d) (e8 : x8 = x6 + x7) (ez : z = if x8 < x4 then x8 else x4) (e : upd f (nI n).toNatClampNeg z = f1) : ∀ j : Nat, j < 17 → f1 j = tb n (k + 1) j := by
  intro j hj
  rw [← e, nI_clamp (by omega)]
  unfold upd
  by_cases h1 : j = n
  · rw [if_pos h1]
    have g4 : f n = if k = 0 then 2147483647 else lf n := by rw [h n hn]; unfold tb; rw [if_neg (by omega), if_pos rfl]
    have g5 : f k = lf k := by rw [h k (by omega)]; unfold tb; rw [if_pos hk]
    have g7 : f d = lf d := by rw [h d (by omega)]; unfold tb; rw [if_pos (by omega)]
    have m := thr_mF ⟨n, hn⟩ ⟨k, by omega⟩ hk
    simp only at m
    rw [ez, e8, e6, e7, e5, e4, g4, g5, g7, ← hc, hd, m, h1]
    unfold tb
    rw [if_neg (by omega), if_pos rfl, if_neg (by omega)]
  · rw [if_neg h1, h j hj]
    unfold tb
    by_cases h2 : j < n
    · rw [if_pos h2, if_pos h2]
    · rw [if_neg h2, if_neg h2, if_neg h1, if_neg h1]
/-- minutes so far, and how many threads are cut in a row up to here -/
def tst (cu : Nat) : Nat → Nat × Nat
  | 0 => (0, 0)
  | k + 1 => if cu.testBit k then ((tst cu k).1, (tst cu k).2 + 1) else ((tst cu k).1 + (2 * (tst cu k).2 - 1), 0)
theorem tst_le (cu : Nat) : ∀ k : Nat, (tst cu k).2 ≤ k := by
  intro k
  induction k with
  | zero => exact Nat.le_refl _
  | succ k ih => unfold tst; split <;> simp <;> omega
theorem thr_bit {cu k : Nat} {x1 x2 : Int32} (hcu : cu ≤ 65535) (hk : k < 17) (e1 : x1 = nI cu >>> (nI k &&& 31)) (e2 : x2 = x1 &&& 1) : x2 = 1 ↔ cu.testBit k = true := by
  subst e2 e1
  have h2 : nI cu >>> (nI k &&& 31) = nI (cu / 2 ^ k) := pk_shrN (by omega) _ k ((by decide +kernel : ∀ k : Fin 17, ((nI k.val &&& 31).toBitVec.smod 32).toNat = k.val) ⟨k, hk⟩)
  have h3 : nI (cu / 2 ^ k) &&& 1 = nI (cu / 2 ^ k % 2 ^ 1) := pk_andN (Nat.lt_of_le_of_lt (Nat.div_le_self _ _) (by omega)) 1 (by decide)
  rw [h2, h3, show (1 : Int32) = nI 1 from rfl, nI_eq (Nat.lt_of_lt_of_le (Nat.mod_lt _ (by decide)) (by decide)) (by decide), Nat.testBit_eq_decide_div_mod_eq]
  simp
theorem thr_t {cu k s r : Nat} (h : (s, r) = tst cu k) (hb : cu.testBit k = true) : (s, r + 1) = tst cu (k + 1) := by
  unfold tst; rw [if_pos hb, ← h]
theorem thr_f {cu k s r : Nat} (h : (s, r) = tst cu k) (hb : ¬ cu.testBit k = true) : (s + (2 * r - 1), 0) = tst cu (k + 1) := by
  unfold tst; rw [if_neg hb, ← h]
def thR (n : Int32) : Int32 := nI (tst n.toNatClampNeg 17).1
theorem thr_cu {n : Int32} (h : 0 ≤ n ∧ n ≤ 65535) : ∃ cu : Nat, cu ≤ 65535 ∧ n = nI cu := nI_of2 (M := 65535) (n := 65535) (by decide) (Int32.not_lt.mpr h.1) h.2
theorem z_c_X18_threads_221 (n : Int32) (a_0 : 0 ≤ n ∧ n ≤ 65535) : 0 ≤ n ∧ n ≤ 65535 := by grind
theorem z_c_X18_threads_222 (n : Int32) (a_0 : ¬ (0 ≤ n ∧ n ≤ 65535)) : ((1 : Int32) = 0 ∧ (0 : Int32) = thR n ∧ (0 ≤ n ∧ n ≤ 65535)) ∨ ((1 : Int32) = 1 ∧ ¬ (0 ≤ n ∧ n ≤ 65535)) := by grind
set_option maxHeartbeats 4000000 in
set_option maxRecDepth 100000 in
theorem c_X18_threads (l : Launch) (dC : Nat → ClassId) (dI : Nat → Nat → Nat) (b0 : Nat) (en : EnT) (sz : Nat) (mm stu cla pic act nts isn boa mas pai sol bal leg : Nat) (n : Int32) : Met l yX18_threads wsX18_threads ({ frames := 1, cells := 1, slots := 17, locals := 40 } : Room) (cP b0 en (dC, dI) [] [(mm, .inr (24, [.int 0, .ref stu, .ref cla, .ref pic, .ref act, .int 5, .int 50, .ref nts, .ref isn, .int 1600, .ref boa, .ref mas, .ref pai, .ref sol, .int 0, .ref bal, .ref leg]))] [] sz (fun _ => True) [.ref mm, .int n]) (va_Qi (fun (r : Int32) (u : Int32 × List Value) => (u.1 = 0 ∧ r = thR n ∧ (0 ≤ n ∧ n ≤ 65535)) ∨ (u.1 = 1 ∧ ¬ (0 ≤ n ∧ n ≤ 65535))) (fun u t => cB (dC, dI) [] [(mm, .inr (24, .int u.1 :: u.2))] (va_A [(mm, .inr (24, [.int 0, .ref stu, .ref cla, .ref pic, .ref act, .int 5, .int 50, .ref nts, .ref isn, .int 1600, .ref boa, .ref mas, .ref pai, .ref sol, .int 0, .ref bal, .ref leg]))] sz) (fun _ => True) t) (va_A [(mm, .inr (24, [.int 0, .ref stu, .ref cla, .ref pic, .ref act, .int 5, .int 50, .ref nts, .ref isn, .int 1600, .ref boa, .ref mas, .ref pai, .ref sol, .int 0, .ref bal, .ref leg]))] sz)) 1 17 (va_A [(mm, .inr (24, [.int 0, .ref stu, .ref cla, .ref pic, .ref act, .int 5, .int 50, .ref nts, .ref isn, .int 1600, .ref boa, .ref mas, .ref pai, .ref sol, .int 0, .ref bal, .ref leg]))] sz) := by
  refine Met.ofW (cc := cX18_threads) (maxL := 7) (ret := (some .int)) (by decide) rfl ?_
  intro p e s m args below meth c s₁ B hml hv
  obtain ⟨rfl, hsz, hb0, hE, hPP, hK, hDD, hF0⟩ := hv
  have hx := B.exec
  have hb := B.bytes
  have hr := B.returns
  have hts := atoms_spec (ws := wsX18_threads) B.pre
  have hown : s.vm.findClass RX18 = some m.cls := findClass_of_methodNamed B.named
  have hlocks := B.notSynchronized
  subst hsz
  have hN0 := en_N hPP hDD rfl
  have hP : va_P (dC, dI) vwCl [(mm, .inr (24, [.int 0, .ref stu, .ref cla, .ref pic, .ref act, .int 5, .int 50, .ref nts, .ref isn, .int 1600, .ref boa, .ref mas, .ref pai, .ref sol, .int 0, .ref bal, .ref leg]))] s.heap := hPP.sub [0] rfl
  have hR0 : va_P (dC, dI) vwCl [] s.heap := hPP.sub [] rfl
  have hD0 : va_D (fun q => b0 ≤ q) [(mm, .inr (24, [.int 0, .ref stu, .ref cla, .ref pic, .ref act, .int 5, .int 50, .ref nts, .ref isn, .int 1600, .ref boa, .ref mas, .ref pai, .ref sol, .int 0, .ref bal, .ref leg]))] := hDD.sub [0] (by decide) rfl
  have hDr : va_D (fun q => b0 ≤ q) [] := hDD.sub [] (by decide) rfl
  have hAb := en_A (sz := s.heap.size) hD0 hb0
  have hD := hD0.self (sz := s.heap.size)
  generalize hAe : va_A [(mm, .inr (24, [.int 0, .ref stu, .ref cla, .ref pic, .ref act, .int 5, .int 50, .ref nts, .ref isn, .int 1600, .ref boa, .ref mas, .ref pai, .ref sol, .int 0, .ref bal, .ref leg]))] s.heap.size = A at hD hAb hN0 ⊢
  have hA : ∀ q : Nat, s.heap.size ≤ q → A q := fun q h => by rw [← hAe]; exact Or.inr h
  have hS : va_S A s.heap s.heap [] := va_S.rf
  have hR := hR0
  have hl := lv_entry [.ref mm, .int n] (n := 7) (Nat.le_of_ble_eq_true rfl)
  rw [lg_entry_eq]
  generalize (lg_sl [.ref mm, .int n] ++ List.replicate (7 - (lg_sl [.ref mm, .int n]).length) Slot.unset).toArray = ls at hl ⊢
  have hl : lv_has ls 7 [(0, .ref mm), (1, .int n)] := hl
  refine W.gen (fun Q hQ => ?_)
  refine lv_aload_n hx hb dX18_threads_0 rfl (lv_at hl 0 rfl) ?_
  refine lv_iconst (v := 0) hx hb dX18_threads_1 (by decide) ?_
  refine va_put (D := (dC, dI)) (ci := 24) (v := .int 0) (ty := .int) (C := RX18) (T := TX18) (N := 17) hx hb hts (by decide +kernel) tyX18 tyX18_ok nmX18 hown hK hP hD hS 0 rfl rfl 0 (by decide) (hts (.fieldLink RX18 67 "UnderpaintModel" "code" "I") (by decide +kernel)) (fun _ h9 => h9) rfl (by decide +kernel) rfl rfl (Nat.le_of_ble_eq_true rfl) dX18_threads_2 (fun H locs hP hD hS => ?_)
  have hP : va_P (dC, dI) vwCl [(mm, .inr (24, [.int 0, .ref stu, .ref cla, .ref pic, .ref act, .int 5, .int 50, .ref nts, .ref isn, .int 1600, .ref boa, .ref mas, .ref pai, .ref sol, .int 0, .ref bal, .ref leg]))] H := hP
  have hD : va_D A [(mm, .inr (24, [.int 0, .ref stu, .ref cla, .ref pic, .ref act, .int 5, .int 50, .ref nts, .ref isn, .int 1600, .ref boa, .ref mas, .ref pai, .ref sol, .int 0, .ref bal, .ref leg]))] := hD
  have hR : va_P (dC, dI) vwCl [] H := fun k q h => by simp at h
  refine lv_iload_n hx hb dX18_threads_5 rfl (lv_at hl 1 rfl) ?_
  refine lv_iconst (v := 0) hx hb dX18_threads_6 (by decide) ?_
  refine lv_ldcw (v := 65535) hx hb hown (hts (.constant RX18 300 (65535)) (by decide +kernel)) dX18_threads_7 ?_
  have hPc := (hP.app hR).sub (ws' := [] ++ []) [] rfl
  have hDc := (en_DD hD hDr hN0 hAb).sub (ws' := [] ++ []) [] (by decide) rfl
  have hKc := hK.sub (tys' := []) [] rfl
  have hFc := va_free (wc := []) hD hS hA [] rfl
  refine va_calli (va_runS (As := [.int n, .int 0, .int 65535]) (rest := []) ⟨hx, hb, hml, hown, hts⟩ (c_X18_in l dC dI b0 en H.size n 0 65535) (va_cwS 3 hts gX18_threads_X18_in rfl rfl rfl (by decide +kernel) ⟨Nat.le_of_ble_eq_true rfl, Nat.le_of_ble_eq_true rfl⟩) ⟨cP.blind, cP.use (en_z hb0 hS) (hE.on hAb hS) hPc hKc hDc trivial⟩ rfl rfl hl.1 rfl (lv_room (Nat.le_of_ble_eq_true rfl)) dX18_threads_10 ⟨Nat.le_of_ble_eq_true rfl, Nat.le_of_ble_eq_true rfl⟩) hS (fun q _ h => hFc q h) hFc (fun r_1 u t H1 locs ht hvm hw hB hz1 hk1 hS => ?_)
  have hP1 : va_P (dC, dI) vwCl [] H1 := fun k q h => by simp at h
  have hD1 : va_D (va_A [] H.size) [] := ⟨fun i j p q h => by simp at h, fun k q h => by simp at h⟩
  try dsimp only at hw
  obtain ⟨hP, hD⟩ := va_join (wr := [(mm, .inr (24, [.int 0, .ref stu, .ref cla, .ref pic, .ref act, .int 5, .int 50, .ref nts, .ref isn, .int 1600, .ref boa, .ref mas, .ref pai, .ref sol, .int 0, .ref bal, .ref leg]))]) (w1 := []) hP hD [] [0] rfl rfl (by decide) (by decide) hk1 hFc hP1 hD1
  generalize H1 = H at hP hS ⊢
  have hP : va_P (dC, dI) vwCl [(mm, .inr (24, [.int 0, .ref stu, .ref cla, .ref pic, .ref act, .int 5, .int 50, .ref nts, .ref isn, .int 1600, .ref boa, .ref mas, .ref pai, .ref sol, .int 0, .ref bal, .ref leg]))] H := hP
  have hD : va_D A [(mm, .inr (24, [.int 0, .ref stu, .ref cla, .ref pic, .ref act, .int 5, .int 50, .ref nts, .ref isn, .int 1600, .ref boa, .ref mas, .ref pai, .ref sol, .int 0, .ref bal, .ref leg]))] := hD
  have hR : va_P (dC, dI) vwCl [] H := fun k q h => by simp at h
  refine W.widen (k := 0) (n := 0) (Nat.le_of_ble_eq_true rfl) (Nat.le_of_ble_eq_true rfl) ?_
  have h_2 := hw
  refine lv_if_ne (tgt := 22) hx hb dX18_threads_13 (by decide) (fun c_3 => ?_) (fun c_3 => ?_)
  · skip
    obtain ⟨cu, hcu, hcn⟩ : ∃ cu : Nat, cu ≤ 65535 ∧ n = nI cu := thr_cu (z_c_X18_threads_221 n (b_yes h_2 c_3))
    subst hcn
    have hl : lv_has ls 7 [(0, .ref mm), (1, .int (nI cu))] := hl
    refine lv_bipush (v := 17) hx hb dX18_threads_22 (by decide) ?_
    refine va_newa (atype := .int) (a0 := (17, .inl (fun _ => 0))) hx hb (hts (.arrayClass .int) (by decide +kernel)) rfl hK hP hD hS hA (fun _ => rfl) (by decide) (by decide) (by decide) (Nat.le_of_ble_eq_true rfl) (Nat.le_of_ble_eq_true rfl) dX18_threads_24 (fun q_4 k_5 H hK hP hD hS => ?_)
    have hP : va_P (dC, dI) vwCl [(mm, .inr (24, [.int 0, .ref stu, .ref cla, .ref pic, .ref act, .int 5, .int 50, .ref nts, .ref isn, .int 1600, .ref boa, .ref mas, .ref pai, .ref sol, .int 0, .ref bal, .ref leg])), (q_4, .inl (k_5, 17, .inl (fun _ => 0)))] H := hP
    have hD : va_D A [(mm, .inr (24, [.int 0, .ref stu, .ref cla, .ref pic, .ref act, .int 5, .int 50, .ref nts, .ref isn, .int 1600, .ref boa, .ref mas, .ref pai, .ref sol, .int 0, .ref bal, .ref leg])), (q_4, .inl (k_5, 17, .inl (fun _ => 0)))] := hD
    have hR : va_P (dC, dI) vwCl [] H := fun k q h => by simp at h
    refine W.widen (k := 1) (n := 17) (Nat.le_of_ble_eq_true rfl) (Nat.le_of_ble_eq_true rfl) ?_
    refine lv_astore_n (lv' := [(2, .ref q_4), (0, .ref mm), (1, .int (nI cu))]) hx hb dX18_threads_26 rfl hl (by decide) rfl (fun ls hl => ?_)
    refine lv_iconst (v := 1) hx hb dX18_threads_27 (by decide) ?_
    refine lv_istore_n (lv' := [(3, .int 1), (2, .ref q_4), (0, .ref mm), (1, .int (nI cu))]) hx hb dX18_threads_28 rfl hl (by decide) rfl (fun ls hl => ?_)
    have loop_29 : ∀ (n_7 k_6 : Nat), n_7 + k_6 = 17 → ∀ fk : Nat → Int32, (1 ≤ k_6 ∧ ∀ j : Nat, j < 17 → fk j = tb0 k_6 j) → ∀ (H : Heap) (locs : List Loc), va_P (dC, dI) vwCl [(mm, .inr (24, [.int 0, .ref stu, .ref cla, .ref pic, .ref act, .int 5, .int 50, .ref nts, .ref isn, .int 1600, .ref boa, .ref mas, .ref pai, .ref sol, .int 0, .ref bal, .ref leg])), (q_4, .inl (k_5, 17, .inl fk))] H → va_D A [(mm, .inr (24, [.int 0, .ref stu, .ref cla, .ref pic, .ref act, .int 5, .int 50, .ref nts, .ref isn, .int 1600, .ref boa, .ref mas, .ref pai, .ref sol, .int 0, .ref bal, .ref leg])), (q_4, .inl (k_5, 17, .inl fk))] → va_S A s.heap H locs → ∀ ls : Array Slot, lv_has ls 7 [(3, .int (nI k_6)), (2, .ref q_4), (0, .ref mm), (1, .int (nI cu))] → W p l e (headSpec wsX18_threads ({ frames := 1, cells := 1, slots := 17, locals := 40 } : Room)).room s m #[.ref mm, .int (nI cu)] below meth c H locs 1 17 Q (F0 m 29 ls []) := by
      intro n_7
      induction n_7 with
      | zero =>
        intro k_6 hk_8 fk h_9 H locs hP hD hS ls hl
        have ek_6 : k_6 = 17 := by omega
        subst ek_6
        have hl : lv_has ls 7 [(3, .int 17), (2, .ref q_4), (0, .ref mm), (1, .int (nI cu))] := hl
        have hR : va_P (dC, dI) vwCl [] H := fun k q h => by simp at h
        have hI_29 := h_9
        have hL17 : ∀ r : Nat, r < 17 → fk r = nI (2 * r - 1) := fun r hr => (hI_29.2 r hr).trans (by unfold tb0; rw [if_pos hr]; rfl)
        refine lv_iload_n hx hb dX18_threads_29 rfl (lv_at hl 0 rfl) ?_
        refine lv_bipush (v := 17) hx hb dX18_threads_30 (by decide) ?_
        refine lv_icmp_ge (tgt := 117) hx hb dX18_threads_32 (by decide) (fun c_10 => ?_) (fun c_10 => absurd c_10 (by decide))
        refine lv_iconst (v := 0) hx hb dX18_threads_117 (by decide) ?_
        refine lv_istore_n (lv' := [(3, .int 0), (2, .ref q_4), (0, .ref mm), (1, .int (nI cu))]) hx hb dX18_threads_118 rfl hl (by decide) rfl (fun ls hl => ?_)
        refine lv_iconst (v := 0) hx hb dX18_threads_119 (by decide) ?_
        refine lv_istore (lv' := [(4, .int 0), (3, .int 0), (2, .ref q_4), (0, .ref mm), (1, .int (nI cu))]) hx hb dX18_threads_120 hl (by decide) rfl (fun ls hl => ?_)
        refine lv_iconst (v := 0) hx hb dX18_threads_122 (by decide) ?_
        refine lv_istore (lv' := [(5, .int 0), (4, .int 0), (3, .int 0), (2, .ref q_4), (0, .ref mm), (1, .int (nI cu))]) hx hb dX18_threads_123 hl (by decide) rfl (fun ls hl => ?_)
        have loop_125 : ∀ (n_12 k_11 : Nat), n_12 + k_11 = 17 → ∀ s9 : Nat, ∀ r9 : Nat, ((s9, r9) = tst cu k_11) → ∀ (H : Heap) (locs : List Loc), va_P (dC, dI) vwCl [(mm, .inr (24, [.int 0, .ref stu, .ref cla, .ref pic, .ref act, .int 5, .int 50, .ref nts, .ref isn, .int 1600, .ref boa, .ref mas, .ref pai, .ref sol, .int 0, .ref bal, .ref leg])), (q_4, .inl (k_5, 17, .inl fk))] H → va_D A [(mm, .inr (24, [.int 0, .ref stu, .ref cla, .ref pic, .ref act, .int 5, .int 50, .ref nts, .ref isn, .int 1600, .ref boa, .ref mas, .ref pai, .ref sol, .int 0, .ref bal, .ref leg])), (q_4, .inl (k_5, 17, .inl fk))] → va_S A s.heap H locs → ∀ ls : Array Slot, lv_has ls 7 [(5, .int (nI k_11)), (4, .int (nI r9)), (3, .int (nI s9)), (2, .ref q_4), (0, .ref mm), (1, .int (nI cu))] → W p l e (headSpec wsX18_threads ({ frames := 1, cells := 1, slots := 17, locals := 40 } : Room)).room s m #[.ref mm, .int (nI cu)] below meth c H locs 1 17 Q (F0 m 125 ls []) := by
          intro n_12
          induction n_12 with
          | zero =>
            intro k_11 hk_13 s9 r9 h_14 H locs hP hD hS ls hl
            have ek_11 : k_11 = 17 := by omega
            subst ek_11
            have hl : lv_has ls 7 [(5, .int 17), (4, .int (nI r9)), (3, .int (nI s9)), (2, .ref q_4), (0, .ref mm), (1, .int (nI cu))] := hl
            have hR : va_P (dC, dI) vwCl [] H := fun k q h => by simp at h
            have hI_125 := h_14
            refine lv_iload hx hb dX18_threads_125 (lv_at hl 0 rfl) ?_
            refine lv_bipush (v := 17) hx hb dX18_threads_127 (by decide) ?_
            refine lv_icmp_ge (tgt := 186) hx hb dX18_threads_129 (by decide) (fun c_15 => ?_) (fun c_15 => absurd c_15 (by decide))
            refine lv_iload_n hx hb dX18_threads_186 rfl (lv_at hl 2 rfl) ?_
            subst hQ
            refine W.widen (k := 1) (n := 17) (Nat.le_of_ble_eq_true rfl) (Nat.le_of_ble_eq_true rfl) ?_
            exact W.iret (v := (nI s9)) hx hb hr (fun t ht hW => ⟨⟨(nI s9), ⟨0, [.ref stu, .ref cla, .ref pic, .ref act, .int 5, .int 50, .ref nts, .ref isn, .int 1600, .ref boa, .ref mas, .ref pai, .ref sol, .int 0, .ref bal, .ref leg]⟩, rfl, (Or.inl ⟨rfl, by unfold thR; rw [nI_clamp (by omega), ← hI_125], nI_le (Nat.zero_le _) (by omega), nI_le (b := 65535) hcu (by decide)⟩), cB.mk ht hW (hP.sub [0] rfl) (hK.sub [] rfl) (hD.sub [0] (by decide) rfl) (trivial)⟩, hS.F ht⟩) hS.2.2 dX18_threads_187
          | succ n_12 ih =>
            intro k_11 hk_13 s9 r9 h_14 H locs hP hD hS ls hl
            have hk_16 : k_11 < 17 := by omega
            have hb_17 : 0 ≤ nI k_11 ∧ nI k_11 < 17 := ⟨nI_le (Nat.zero_le _) (by omega), nI_lk hk_16 (by decide)⟩
            have hn_18 := nI_1 k_11
            have hI_125 := h_14
            have hR : va_P (dC, dI) vwCl [] H := fun k q h => by simp at h
            refine lv_iload hx hb dX18_threads_125 (lv_at hl 0 rfl) ?_
            refine lv_bipush (v := 17) hx hb dX18_threads_127 (by decide) ?_
            refine lv_icmp_ge (tgt := 186) hx hb dX18_threads_129 (by decide) (fun c_19 => ?_) (fun c_19 => ?_)
            · skip
              first | exact absurd c_19 (nI_ge hk_16 (by decide)) | exact absurd (nI_lk hk_16 (by decide)) c_19
            · skip
              refine lv_iload_n hx hb dX18_threads_132 rfl (lv_at hl 5 rfl) ?_
              refine lv_iload hx hb dX18_threads_133 (lv_at hl 0 rfl) ?_
              refine lv_ishr hx hb dX18_threads_135 ?_
              refine lv_topi (fun x_20 ex_20 => ?_)
              refine lv_iconst (v := 1) hx hb dX18_threads_136 (by decide) ?_
              refine lv_iand hx hb dX18_threads_137 ?_
              refine lv_topi (fun x_21 ex_21 => ?_)
              refine lv_iconst (v := 1) hx hb dX18_threads_138 (by decide) ?_
              refine lv_icmp_ne (tgt := 146) hx hb dX18_threads_139 (by decide) (fun c_22 => ?_) (fun c_22 => ?_)
              · skip
                refine lv_iconst (v := 0) hx hb dX18_threads_146 (by decide) ?_
                refine lv_istore (lv' := [(6, .int 0), (5, .int (nI k_11)), (4, .int (nI r9)), (3, .int (nI s9)), (2, .ref q_4), (0, .ref mm), (1, .int (nI cu))]) hx hb dX18_threads_147 hl (by decide) rfl (fun ls hl => ?_)
                refine lv_iload_n hx hb dX18_threads_149 rfl (lv_at hl 3 rfl) ?_
                refine lv_iload hx hb dX18_threads_150 (lv_at hl 0 rfl) ?_
                refine lv_if_eq (tgt := 159) hx hb dX18_threads_152 (by decide) (fun c_23 => ?_) (fun c_23 => absurd c_23 (by decide))
                refine lv_aload_n hx hb dX18_threads_159 rfl (lv_at hl 4 rfl) ?_
                refine lv_iload hx hb dX18_threads_160 (lv_at hl 2 rfl) ?_
                refine va_iald hx hb hK hP 1 0 rfl rfl (vp_in_nI (by have := tst_le cu k_11; rw [← hI_125] at this; simp only at this; omega) (by decide)) dX18_threads_162 ?_
                refine lv_topi (fun x_24 ex_24 => ?_)
                refine lv_iadd hx hb dX18_threads_163 ?_
                refine lv_topi (fun x_25 ex_25 => ?_)
                refine lv_istore_n (lv' := [(3, .int x_25), (6, .int 0), (5, .int (nI k_11)), (4, .int (nI r9)), (2, .ref q_4), (0, .ref mm), (1, .int (nI cu))]) hx hb dX18_threads_164 rfl hl (by decide) rfl (fun ls hl => ?_)
                refine lv_iload hx hb dX18_threads_165 (lv_at hl 1 rfl) ?_
                refine lv_if_eq (tgt := 177) hx hb dX18_threads_167 (by decide) (fun c_26 => ?_) (fun c_26 => absurd c_26 (by decide))
                refine lv_iconst (v := 0) hx hb dX18_threads_177 (by decide) ?_
                refine lv_istore (lv' := [(4, .int 0), (3, .int x_25), (6, .int 0), (5, .int (nI k_11)), (2, .ref q_4), (0, .ref mm), (1, .int (nI cu))]) hx hb dX18_threads_178 hl (by decide) rfl (fun ls hl => ?_)
                obtain rfl : x_25 = nI (s9 + (2 * r9 - 1)) := ex_25.trans (by rw [ex_24, nI_clamp (n := r9) (by have := tst_le cu k_11; rw [← hI_125] at this; simp only at this; omega), hL17 r9 (by have := tst_le cu k_11; rw [← hI_125] at this; simp only at this; omega)]; exact nI_add _ _)
                have hl : lv_has ls 7 [(4, .int 0), (3, .int (nI (s9 + (2 * r9 - 1)))), (6, .int 0), (5, .int (nI k_11)), (2, .ref q_4), (0, .ref mm), (1, .int (nI cu))] := hl
                obtain ⟨x_27, ex_27⟩ : ∃ y : Int32, y = (nI k_11) + 1 := ⟨_, rfl⟩
                refine lv_iinc (v := x_27) (lv' := [(5, .int x_27), (4, .int 0), (3, .int (nI (s9 + (2 * r9 - 1)))), (6, .int 0), (2, .ref q_4), (0, .ref mm), (1, .int (nI cu))]) hx hb dX18_threads_180 hl (k := 3) rfl (by rw [ex_27]; rfl) (by decide) rfl (fun ls hl => ?_)
                have hy : x_27 = nI (k_11 + 1) := by rw [ex_27]; exact nI_1 k_11
                subst hy
                refine lv_goto (tgt := 125) hx hb dX18_threads_183 (by decide) ?_
                exact ih (k_11 + 1) (by omega) (s9 + (2 * r9 - 1)) 0 (thr_f hI_125 (fun z9 => c_22 ((thr_bit hcu (by omega) ex_20 ex_21).mpr z9))) _ _ hP hD hS _ (lv_sub hl [0, 1, 2, 4, 5, 6] rfl)
              · skip
                refine lv_iconst (v := 1) hx hb dX18_threads_142 (by decide) ?_
                refine lv_goto (tgt := 147) hx hb dX18_threads_143 (by decide) ?_
                refine lv_istore (lv' := [(6, .int 1), (5, .int (nI k_11)), (4, .int (nI r9)), (3, .int (nI s9)), (2, .ref q_4), (0, .ref mm), (1, .int (nI cu))]) hx hb dX18_threads_147 hl (by decide) rfl (fun ls hl => ?_)
                refine lv_iload_n hx hb dX18_threads_149 rfl (lv_at hl 3 rfl) ?_
                refine lv_iload hx hb dX18_threads_150 (lv_at hl 0 rfl) ?_
                refine lv_if_eq (tgt := 159) hx hb dX18_threads_152 (by decide) (fun c_28 => absurd c_28 (by decide)) (fun c_28 => ?_)
                refine lv_iconst (v := 0) hx hb dX18_threads_155 (by decide) ?_
                refine lv_goto (tgt := 163) hx hb dX18_threads_156 (by decide) ?_
                refine lv_iadd hx hb dX18_threads_163 ?_
                refine lv_topi (fun x_29 ex_29 => ?_)
                refine lv_istore_n (lv' := [(3, .int x_29), (6, .int 1), (5, .int (nI k_11)), (4, .int (nI r9)), (2, .ref q_4), (0, .ref mm), (1, .int (nI cu))]) hx hb dX18_threads_164 rfl hl (by decide) rfl (fun ls hl => ?_)
                refine lv_iload hx hb dX18_threads_165 (lv_at hl 1 rfl) ?_
                refine lv_if_eq (tgt := 177) hx hb dX18_threads_167 (by decide) (fun c_30 => absurd c_30 (by decide)) (fun c_30 => ?_)
                refine lv_iload hx hb dX18_threads_170 (lv_at hl 3 rfl) ?_
                refine lv_iconst (v := 1) hx hb dX18_threads_172 (by decide) ?_
                refine lv_iadd hx hb dX18_threads_173 ?_
                refine lv_topi (fun x_31 ex_31 => ?_)
                refine lv_goto (tgt := 178) hx hb dX18_threads_174 (by decide) ?_
                refine lv_istore (lv' := [(4, .int x_31), (3, .int x_29), (6, .int 1), (5, .int (nI k_11)), (2, .ref q_4), (0, .ref mm), (1, .int (nI cu))]) hx hb dX18_threads_178 hl (by decide) rfl (fun ls hl => ?_)
                obtain rfl : x_29 = nI (s9) := ex_29.trans (Int32.add_zero _)
                obtain rfl : x_31 = nI (r9 + 1) := ex_31.trans (nI_1 r9)
                have hl : lv_has ls 7 [(4, .int (nI (r9 + 1))), (3, .int (nI (s9))), (6, .int 1), (5, .int (nI k_11)), (2, .ref q_4), (0, .ref mm), (1, .int (nI cu))] := hl
                obtain ⟨x_32, ex_32⟩ : ∃ y : Int32, y = (nI k_11) + 1 := ⟨_, rfl⟩
                refine lv_iinc (v := x_32) (lv' := [(5, .int x_32), (4, .int (nI (r9 + 1))), (3, .int (nI (s9))), (6, .int 1), (2, .ref q_4), (0, .ref mm), (1, .int (nI cu))]) hx hb dX18_threads_180 hl (k := 3) rfl (by rw [ex_32]; rfl) (by decide) rfl (fun ls hl => ?_)
                have hy : x_32 = nI (k_11 + 1) := by rw [ex_32]; exact nI_1 k_11
                subst hy
                refine lv_goto (tgt := 125) hx hb dX18_threads_183 (by decide) ?_
                exact ih (k_11 + 1) (by omega) (s9) (r9 + 1) (thr_t hI_125 ((thr_bit hcu (by omega) ex_20 ex_21).mp c_22)) _ _ hP hD hS _ (lv_sub hl [0, 1, 2, 4, 5, 6] rfl)
        exact loop_125 17 0 rfl 0 0 rfl _ _ hP hD hS ls (lv_sub hl [0, 1, 2, 3, 4, 5] rfl)
      | succ n_7 ih =>
        intro k_6 hk_8 fk h_9 H locs hP hD hS ls hl
        have hk_33 : k_6 < 17 := by omega
        have hb_34 : 0 ≤ nI k_6 ∧ nI k_6 < 17 := ⟨nI_le (Nat.zero_le _) (by omega), nI_lk hk_33 (by decide)⟩
        have hn_35 := nI_1 k_6
        have hI_29 := h_9
        have hR : va_P (dC, dI) vwCl [] H := fun k q h => by simp at h
        refine lv_iload_n hx hb dX18_threads_29 rfl (lv_at hl 0 rfl) ?_
        refine lv_bipush (v := 17) hx hb dX18_threads_30 (by decide) ?_
        refine lv_icmp_ge (tgt := 117) hx hb dX18_threads_32 (by decide) (fun c_36 => ?_) (fun c_36 => ?_)
        · skip
          first | exact absurd c_36 (nI_ge hk_33 (by decide)) | exact absurd (nI_lk hk_33 (by decide)) c_36
        · skip
          refine lv_aload_n hx hb dX18_threads_35 rfl (lv_at hl 1 rfl) ?_
          refine lv_iload_n hx hb dX18_threads_36 rfl (lv_at hl 0 rfl) ?_
          refine lv_ldc (v := 2147483647) hx hb hown (hts (.constant RX18 242 (2147483647)) (by decide +kernel)) dX18_threads_37 ?_
          refine va_iast hx hb hK hP hD hS 1 0 rfl rfl (vp_in_nI (by omega) (by decide)) dX18_threads_39 (fun H locs hP hD hS => ?_)
          generalize ef_37 : upd fk (nI k_6).toNatClampNeg 2147483647 = f_37 at hP hD
          have hP : va_P (dC, dI) vwCl [(mm, .inr (24, [.int 0, .ref stu, .ref cla, .ref pic, .ref act, .int 5, .int 50, .ref nts, .ref isn, .int 1600, .ref boa, .ref mas, .ref pai, .ref sol, .int 0, .ref bal, .ref leg])), (q_4, .inl (k_5, 17, .inl f_37))] H := hP
          have hD : va_D A [(mm, .inr (24, [.int 0, .ref stu, .ref cla, .ref pic, .ref act, .int 5, .int 50, .ref nts, .ref isn, .int 1600, .ref boa, .ref mas, .ref pai, .ref sol, .int 0, .ref bal, .ref leg])), (q_4, .inl (k_5, 17, .inl f_37))] := hD
          have hR : va_P (dC, dI) vwCl [] H := fun k q h => by simp at h
          refine lv_iconst (v := 0) hx hb dX18_threads_40 (by decide) ?_
          refine lv_istore (lv' := [(4, .int 0), (3, .int (nI k_6)), (2, .ref q_4), (0, .ref mm), (1, .int (nI cu))]) hx hb dX18_threads_41 hl (by decide) rfl (fun ls hl => ?_)
          have loop_43 : ∀ (n_39 k_38 : Nat), n_39 + k_38 = k_6 → ∀ fi : Nat → Int32, (∀ j : Nat, j < 17 → fi j = tb k_6 k_38 j) → ∀ (H : Heap) (locs : List Loc), va_P (dC, dI) vwCl [(mm, .inr (24, [.int 0, .ref stu, .ref cla, .ref pic, .ref act, .int 5, .int 50, .ref nts, .ref isn, .int 1600, .ref boa, .ref mas, .ref pai, .ref sol, .int 0, .ref bal, .ref leg])), (q_4, .inl (k_5, 17, .inl fi))] H → va_D A [(mm, .inr (24, [.int 0, .ref stu, .ref cla, .ref pic, .ref act, .int 5, .int 50, .ref nts, .ref isn, .int 1600, .ref boa, .ref mas, .ref pai, .ref sol, .int 0, .ref bal, .ref leg])), (q_4, .inl (k_5, 17, .inl fi))] → va_S A s.heap H locs → ∀ ls : Array Slot, lv_has ls 7 [(4, .int (nI k_38)), (3, .int (nI k_6)), (2, .ref q_4), (0, .ref mm), (1, .int (nI cu))] → W p l e (headSpec wsX18_threads ({ frames := 1, cells := 1, slots := 17, locals := 40 } : Room)).room s m #[.ref mm, .int (nI cu)] below meth c H locs 1 17 Q (F0 m 43 ls []) := by
            intro n_39
            induction n_39 with
            | zero =>
              intro k_38 hk_40 fi h_41 H locs hP hD hS ls hl
              have ek_38 : k_6 = k_38 := by omega
              subst ek_38
              have hl : lv_has ls 7 [(4, .int (nI k_6)), (3, .int (nI k_6)), (2, .ref q_4), (0, .ref mm), (1, .int (nI cu))] := hl
              have hR : va_P (dC, dI) vwCl [] H := fun k q h => by simp at h
              have hI_43 := h_41
              refine lv_iload hx hb dX18_threads_43 (lv_at hl 0 rfl) ?_
              refine lv_iload_n hx hb dX18_threads_45 rfl (lv_at hl 1 rfl) ?_
              refine lv_icmp_ge (tgt := 111) hx hb dX18_threads_46 (by decide) (fun c_42 => ?_) (fun c_42 => ?_)
              · skip
                obtain ⟨x_43, ex_43⟩ : ∃ y : Int32, y = (nI k_6) + 1 := ⟨_, rfl⟩
                refine lv_iinc (v := x_43) (lv' := [(3, .int x_43), (4, .int (nI k_6)), (2, .ref q_4), (0, .ref mm), (1, .int (nI cu))]) hx hb dX18_threads_111 hl (k := 1) rfl (by rw [ex_43]; rfl) (by decide) rfl (fun ls hl => ?_)
                have hy : x_43 = nI (k_6 + 1) := by rw [ex_43]; exact nI_1 k_6
                subst hy
                refine lv_goto (tgt := 29) hx hb dX18_threads_114 (by decide) ?_
                exact ih (k_6 + 1) (by omega) fi (⟨by omega, thr_out (by omega) hI_43⟩) _ _ hP hD hS _ (lv_sub hl [0, 2, 3, 4] rfl)
              · skip
                exact absurd (Int32.le_refl _) c_42
            | succ n_39 ih =>
              intro k_38 hk_40 fi h_41 H locs hP hD hS ls hl
              have hk_44 : k_38 < k_6 := by omega
              have hb_45 : 0 ≤ nI k_38 ∧ nI k_38 < nI k_6 := ⟨nI_le (Nat.zero_le _) (by omega), nI_lt hk_44 (by omega)⟩
              have hn_46 := nI_1 k_38
              have hI_43 := h_41
              have hR : va_P (dC, dI) vwCl [] H := fun k q h => by simp at h
              refine lv_iload hx hb dX18_threads_43 (lv_at hl 0 rfl) ?_
              refine lv_iload_n hx hb dX18_threads_45 rfl (lv_at hl 1 rfl) ?_
              refine lv_icmp_ge (tgt := 111) hx hb dX18_threads_46 (by decide) (fun c_47 => ?_) (fun c_47 => ?_)
              · skip
                exact absurd c_47 (nI_ge hk_44 (by omega))
              · skip
                refine lv_iload hx hb dX18_threads_49 (lv_at hl 0 rfl) ?_
                refine lv_if_le (tgt := 58) hx hb dX18_threads_51 (by decide) (fun c_48 => ?_) (fun c_48 => ?_)
                · skip
                  refine lv_iconst (v := 0) hx hb dX18_threads_58 (by decide) ?_
                  refine lv_iload hx hb dX18_threads_59 (lv_at hl 0 rfl) ?_
                  refine lv_iload_n hx hb dX18_threads_61 rfl (lv_at hl 1 rfl) ?_
                  refine lv_iconst (v := 1) hx hb dX18_threads_62 (by decide) ?_
                  refine lv_isub hx hb dX18_threads_63 ?_
                  refine lv_topi (fun x_49 ex_49 => ?_)
                  refine lv_icmp_ge (tgt := 71) hx hb dX18_threads_64 (by decide) (fun c_50 => ?_) (fun c_50 => ?_)
                  · skip
                    refine lv_iconst (v := 0) hx hb dX18_threads_71 (by decide) ?_
                    refine lv_iadd hx hb dX18_threads_72 ?_
                    refine lv_topi (fun x_51 ex_51 => ?_)
                    obtain rfl : x_51 = 0 := ex_51.trans (by decide)
                    refine lv_istore (lv' := [(5, .int 0), (4, .int (nI k_38)), (3, .int (nI k_6)), (2, .ref q_4), (0, .ref mm), (1, .int (nI cu))]) hx hb dX18_threads_73 hl (by decide) rfl (fun ls hl => ?_)
                    refine lv_aload_n hx hb dX18_threads_75 rfl (lv_at hl 3 rfl) ?_
                    refine lv_iload_n hx hb dX18_threads_76 rfl (lv_at hl 2 rfl) ?_
                    refine lv_aload_n hx hb dX18_threads_77 rfl (lv_at hl 3 rfl) ?_
                    refine lv_iload_n hx hb dX18_threads_78 rfl (lv_at hl 2 rfl) ?_
                    refine va_iald hx hb hK hP 1 0 rfl rfl (vp_in_nI (by omega) (by decide)) dX18_threads_79 ?_
                    refine lv_topi (fun x_52 ex_52 => ?_)
                    refine lv_iconst (v := 1) hx hb dX18_threads_80 (by decide) ?_
                    refine lv_iload hx hb dX18_threads_81 (lv_at hl 0 rfl) ?_
                    refine lv_iload hx hb dX18_threads_83 (lv_at hl 0 rfl) ?_
                    refine lv_imul hx hb dX18_threads_85 ?_
                    refine lv_topi (fun x_53 ex_53 => ?_)
                    obtain rfl : x_53 = 0 := ex_53.trans (by decide)
                    refine lv_iadd hx hb dX18_threads_86 ?_
                    refine lv_topi (fun x_54 ex_54 => ?_)
                    obtain rfl : x_54 = 1 := ex_54.trans (by decide)
                    refine lv_aload_n hx hb dX18_threads_87 rfl (lv_at hl 3 rfl) ?_
                    refine lv_iload hx hb dX18_threads_88 (lv_at hl 1 rfl) ?_
                    refine va_iald hx hb hK hP 1 0 rfl rfl (vp_in_nI (by omega) (by decide)) dX18_threads_90 ?_
                    refine lv_topi (fun x_55 ex_55 => ?_)
                    refine lv_iadd hx hb dX18_threads_91 ?_
                    refine lv_topi (fun x_56 ex_56 => ?_)
                    refine lv_aload_n hx hb dX18_threads_92 rfl (lv_at hl 3 rfl) ?_
                    refine lv_iload_n hx hb dX18_threads_93 rfl (lv_at hl 2 rfl) ?_
                    refine lv_iconst (v := 1) hx hb dX18_threads_94 (by decide) ?_
                    refine lv_isub hx hb dX18_threads_95 ?_
                    refine lv_topi (fun x_57 ex_57 => ?_)
                    refine lv_iload hx hb dX18_threads_96 (lv_at hl 1 rfl) ?_
                    refine lv_isub hx hb dX18_threads_98 ?_
                    refine lv_topi (fun x_58 ex_58 => ?_)
                    obtain ⟨d_59, hd_d_59, ed_59⟩ := thr_ix (n := k_6) (k := k_38) (by omega) (by omega) ex_57 ex_58
                    subst ed_59
                    refine va_iald hx hb hK hP 1 0 rfl rfl (vp_in_nI (by omega) (by decide)) dX18_threads_99 ?_
                    refine lv_topi (fun x_60 ex_60 => ?_)
                    refine lv_iadd hx hb dX18_threads_100 ?_
                    refine lv_topi (fun x_61 ex_61 => ?_)
                    refine va_mmin hx hb (hml.trans hl.1.symm) hown (hts (.methodLink RX18 238 Lib.Math.min.name) (by decide +kernel)) (hts (.static Lib.Math.min.name) (by decide +kernel)) (hts (.initialized "java/lang/Math") (by decide +kernel)) (hts (.code Lib.Math.min.name Lib.Math.min.code 2 (some .int)) (by decide +kernel)) (Nat.le_of_ble_eq_true rfl) (Nat.le_of_ble_eq_true rfl) (Nat.le_of_ble_eq_true rfl) (Nat.le_of_ble_eq_true rfl) dX18_threads_101 ?_
                    refine lv_topi (fun x_62 ex_62 => ?_)
                    refine va_iast hx hb hK hP hD hS 1 0 rfl rfl (vp_in_nI (by omega) (by decide)) dX18_threads_104 (fun H locs hP hD hS => ?_)
                    generalize ef_63 : upd fi (nI k_6).toNatClampNeg x_62 = f_63 at hP hD
                    have hP : va_P (dC, dI) vwCl [(mm, .inr (24, [.int 0, .ref stu, .ref cla, .ref pic, .ref act, .int 5, .int 50, .ref nts, .ref isn, .int 1600, .ref boa, .ref mas, .ref pai, .ref sol, .int 0, .ref bal, .ref leg])), (q_4, .inl (k_5, 17, .inl f_63))] H := hP
                    have hD : va_D A [(mm, .inr (24, [.int 0, .ref stu, .ref cla, .ref pic, .ref act, .int 5, .int 50, .ref nts, .ref isn, .int 1600, .ref boa, .ref mas, .ref pai, .ref sol, .int 0, .ref bal, .ref leg])), (q_4, .inl (k_5, 17, .inl f_63))] := hD
                    have hR : va_P (dC, dI) vwCl [] H := fun k q h => by simp at h
                    obtain ⟨x_64, ex_64⟩ : ∃ y : Int32, y = (nI k_38) + 1 := ⟨_, rfl⟩
                    refine lv_iinc (v := x_64) (lv' := [(4, .int x_64), (5, .int 0), (3, .int (nI k_6)), (2, .ref q_4), (0, .ref mm), (1, .int (nI cu))]) hx hb dX18_threads_105 hl (k := 1) rfl (by rw [ex_64]; rfl) (by decide) rfl (fun ls hl => ?_)
                    have hy : x_64 = nI (k_38 + 1) := by rw [ex_64]; exact nI_1 k_38
                    subst hy
                    refine lv_goto (tgt := 43) hx hb dX18_threads_108 (by decide) ?_
                    exact ih (k_38 + 1) (by omega) f_63 (thr_step (by omega) (by omega) hd_d_59 hI_43 ((thr_c (by omega) (by omega) ex_49).trans (by rw [if_pos c_48, if_pos c_50]; rfl)) (ex_52.trans (by rw [nI_clamp (by omega)])) (ex_55.trans (by rw [nI_clamp (by omega)])) ex_56 (ex_60.trans (by rw [nI_clamp (by omega)])) ex_61 ex_62 ef_63) _ _ hP hD hS _ (lv_sub hl [0, 2, 3, 4, 5] rfl)
                  · skip
                    refine lv_iconst (v := 1) hx hb dX18_threads_67 (by decide) ?_
                    refine lv_goto (tgt := 72) hx hb dX18_threads_68 (by decide) ?_
                    refine lv_iadd hx hb dX18_threads_72 ?_
                    refine lv_topi (fun x_65 ex_65 => ?_)
                    obtain rfl : x_65 = 1 := ex_65.trans (by decide)
                    refine lv_istore (lv' := [(5, .int 1), (4, .int (nI k_38)), (3, .int (nI k_6)), (2, .ref q_4), (0, .ref mm), (1, .int (nI cu))]) hx hb dX18_threads_73 hl (by decide) rfl (fun ls hl => ?_)
                    refine lv_aload_n hx hb dX18_threads_75 rfl (lv_at hl 3 rfl) ?_
                    refine lv_iload_n hx hb dX18_threads_76 rfl (lv_at hl 2 rfl) ?_
                    refine lv_aload_n hx hb dX18_threads_77 rfl (lv_at hl 3 rfl) ?_
                    refine lv_iload_n hx hb dX18_threads_78 rfl (lv_at hl 2 rfl) ?_
                    refine va_iald hx hb hK hP 1 0 rfl rfl (vp_in_nI (by omega) (by decide)) dX18_threads_79 ?_
                    refine lv_topi (fun x_66 ex_66 => ?_)
                    refine lv_iconst (v := 1) hx hb dX18_threads_80 (by decide) ?_
                    refine lv_iload hx hb dX18_threads_81 (lv_at hl 0 rfl) ?_
                    refine lv_iload hx hb dX18_threads_83 (lv_at hl 0 rfl) ?_
                    refine lv_imul hx hb dX18_threads_85 ?_
                    refine lv_topi (fun x_67 ex_67 => ?_)
                    obtain rfl : x_67 = 1 := ex_67.trans (by decide)
                    refine lv_iadd hx hb dX18_threads_86 ?_
                    refine lv_topi (fun x_68 ex_68 => ?_)
                    obtain rfl : x_68 = 2 := ex_68.trans (by decide)
                    refine lv_aload_n hx hb dX18_threads_87 rfl (lv_at hl 3 rfl) ?_
                    refine lv_iload hx hb dX18_threads_88 (lv_at hl 1 rfl) ?_
                    refine va_iald hx hb hK hP 1 0 rfl rfl (vp_in_nI (by omega) (by decide)) dX18_threads_90 ?_
                    refine lv_topi (fun x_69 ex_69 => ?_)
                    refine lv_iadd hx hb dX18_threads_91 ?_
                    refine lv_topi (fun x_70 ex_70 => ?_)
                    refine lv_aload_n hx hb dX18_threads_92 rfl (lv_at hl 3 rfl) ?_
                    refine lv_iload_n hx hb dX18_threads_93 rfl (lv_at hl 2 rfl) ?_
                    refine lv_iconst (v := 1) hx hb dX18_threads_94 (by decide) ?_
                    refine lv_isub hx hb dX18_threads_95 ?_
                    refine lv_topi (fun x_71 ex_71 => ?_)
                    refine lv_iload hx hb dX18_threads_96 (lv_at hl 1 rfl) ?_
                    refine lv_isub hx hb dX18_threads_98 ?_
                    refine lv_topi (fun x_72 ex_72 => ?_)
                    obtain ⟨d_73, hd_d_73, ed_73⟩ := thr_ix (n := k_6) (k := k_38) (by omega) (by omega) ex_71 ex_72
                    subst ed_73
                    refine va_iald hx hb hK hP 1 0 rfl rfl (vp_in_nI (by omega) (by decide)) dX18_threads_99 ?_
                    refine lv_topi (fun x_74 ex_74 => ?_)
                    refine lv_iadd hx hb dX18_threads_100 ?_
                    refine lv_topi (fun x_75 ex_75 => ?_)
                    refine va_mmin hx hb (hml.trans hl.1.symm) hown (hts (.methodLink RX18 238 Lib.Math.min.name) (by decide +kernel)) (hts (.static Lib.Math.min.name) (by decide +kernel)) (hts (.initialized "java/lang/Math") (by decide +kernel)) (hts (.code Lib.Math.min.name Lib.Math.min.code 2 (some .int)) (by decide +kernel)) (Nat.le_of_ble_eq_true rfl) (Nat.le_of_ble_eq_true rfl) (Nat.le_of_ble_eq_true rfl) (Nat.le_of_ble_eq_true rfl) dX18_threads_101 ?_
                    refine lv_topi (fun x_76 ex_76 => ?_)
                    refine va_iast hx hb hK hP hD hS 1 0 rfl rfl (vp_in_nI (by omega) (by decide)) dX18_threads_104 (fun H locs hP hD hS => ?_)
                    generalize ef_77 : upd fi (nI k_6).toNatClampNeg x_76 = f_77 at hP hD
                    have hP : va_P (dC, dI) vwCl [(mm, .inr (24, [.int 0, .ref stu, .ref cla, .ref pic, .ref act, .int 5, .int 50, .ref nts, .ref isn, .int 1600, .ref boa, .ref mas, .ref pai, .ref sol, .int 0, .ref bal, .ref leg])), (q_4, .inl (k_5, 17, .inl f_77))] H := hP
                    have hD : va_D A [(mm, .inr (24, [.int 0, .ref stu, .ref cla, .ref pic, .ref act, .int 5, .int 50, .ref nts, .ref isn, .int 1600, .ref boa, .ref mas, .ref pai, .ref sol, .int 0, .ref bal, .ref leg])), (q_4, .inl (k_5, 17, .inl f_77))] := hD
                    have hR : va_P (dC, dI) vwCl [] H := fun k q h => by simp at h
                    obtain ⟨x_78, ex_78⟩ : ∃ y : Int32, y = (nI k_38) + 1 := ⟨_, rfl⟩
                    refine lv_iinc (v := x_78) (lv' := [(4, .int x_78), (5, .int 1), (3, .int (nI k_6)), (2, .ref q_4), (0, .ref mm), (1, .int (nI cu))]) hx hb dX18_threads_105 hl (k := 1) rfl (by rw [ex_78]; rfl) (by decide) rfl (fun ls hl => ?_)
                    have hy : x_78 = nI (k_38 + 1) := by rw [ex_78]; exact nI_1 k_38
                    subst hy
                    refine lv_goto (tgt := 43) hx hb dX18_threads_108 (by decide) ?_
                    exact ih (k_38 + 1) (by omega) f_77 (thr_step (by omega) (by omega) hd_d_73 hI_43 ((thr_c (by omega) (by omega) ex_49).trans (by rw [if_pos c_48, if_neg c_50]; rfl)) (ex_66.trans (by rw [nI_clamp (by omega)])) (ex_69.trans (by rw [nI_clamp (by omega)])) ex_70 (ex_74.trans (by rw [nI_clamp (by omega)])) ex_75 ex_76 ef_77) _ _ hP hD hS _ (lv_sub hl [0, 2, 3, 4, 5] rfl)
                · skip
                  refine lv_iconst (v := 1) hx hb dX18_threads_54 (by decide) ?_
                  refine lv_goto (tgt := 59) hx hb dX18_threads_55 (by decide) ?_
                  refine lv_iload hx hb dX18_threads_59 (lv_at hl 0 rfl) ?_
                  refine lv_iload_n hx hb dX18_threads_61 rfl (lv_at hl 1 rfl) ?_
                  refine lv_iconst (v := 1) hx hb dX18_threads_62 (by decide) ?_
                  refine lv_isub hx hb dX18_threads_63 ?_
                  refine lv_topi (fun x_79 ex_79 => ?_)
                  refine lv_icmp_ge (tgt := 71) hx hb dX18_threads_64 (by decide) (fun c_80 => ?_) (fun c_80 => ?_)
                  · skip
                    refine lv_iconst (v := 0) hx hb dX18_threads_71 (by decide) ?_
                    refine lv_iadd hx hb dX18_threads_72 ?_
                    refine lv_topi (fun x_81 ex_81 => ?_)
                    obtain rfl : x_81 = 1 := ex_81.trans (by decide)
                    refine lv_istore (lv' := [(5, .int 1), (4, .int (nI k_38)), (3, .int (nI k_6)), (2, .ref q_4), (0, .ref mm), (1, .int (nI cu))]) hx hb dX18_threads_73 hl (by decide) rfl (fun ls hl => ?_)
                    refine lv_aload_n hx hb dX18_threads_75 rfl (lv_at hl 3 rfl) ?_
                    refine lv_iload_n hx hb dX18_threads_76 rfl (lv_at hl 2 rfl) ?_
                    refine lv_aload_n hx hb dX18_threads_77 rfl (lv_at hl 3 rfl) ?_
                    refine lv_iload_n hx hb dX18_threads_78 rfl (lv_at hl 2 rfl) ?_
                    refine va_iald hx hb hK hP 1 0 rfl rfl (vp_in_nI (by omega) (by decide)) dX18_threads_79 ?_
                    refine lv_topi (fun x_82 ex_82 => ?_)
                    refine lv_iconst (v := 1) hx hb dX18_threads_80 (by decide) ?_
                    refine lv_iload hx hb dX18_threads_81 (lv_at hl 0 rfl) ?_
                    refine lv_iload hx hb dX18_threads_83 (lv_at hl 0 rfl) ?_
                    refine lv_imul hx hb dX18_threads_85 ?_
                    refine lv_topi (fun x_83 ex_83 => ?_)
                    obtain rfl : x_83 = 1 := ex_83.trans (by decide)
                    refine lv_iadd hx hb dX18_threads_86 ?_
                    refine lv_topi (fun x_84 ex_84 => ?_)
                    obtain rfl : x_84 = 2 := ex_84.trans (by decide)
                    refine lv_aload_n hx hb dX18_threads_87 rfl (lv_at hl 3 rfl) ?_
                    refine lv_iload hx hb dX18_threads_88 (lv_at hl 1 rfl) ?_
                    refine va_iald hx hb hK hP 1 0 rfl rfl (vp_in_nI (by omega) (by decide)) dX18_threads_90 ?_
                    refine lv_topi (fun x_85 ex_85 => ?_)
                    refine lv_iadd hx hb dX18_threads_91 ?_
                    refine lv_topi (fun x_86 ex_86 => ?_)
                    refine lv_aload_n hx hb dX18_threads_92 rfl (lv_at hl 3 rfl) ?_
                    refine lv_iload_n hx hb dX18_threads_93 rfl (lv_at hl 2 rfl) ?_
                    refine lv_iconst (v := 1) hx hb dX18_threads_94 (by decide) ?_
                    refine lv_isub hx hb dX18_threads_95 ?_
                    refine lv_topi (fun x_87 ex_87 => ?_)
                    refine lv_iload hx hb dX18_threads_96 (lv_at hl 1 rfl) ?_
                    refine lv_isub hx hb dX18_threads_98 ?_
                    refine lv_topi (fun x_88 ex_88 => ?_)
                    obtain ⟨d_89, hd_d_89, ed_89⟩ := thr_ix (n := k_6) (k := k_38) (by omega) (by omega) ex_87 ex_88
                    subst ed_89
                    refine va_iald hx hb hK hP 1 0 rfl rfl (vp_in_nI (by omega) (by decide)) dX18_threads_99 ?_
                    refine lv_topi (fun x_90 ex_90 => ?_)
                    refine lv_iadd hx hb dX18_threads_100 ?_
                    refine lv_topi (fun x_91 ex_91 => ?_)
                    refine va_mmin hx hb (hml.trans hl.1.symm) hown (hts (.methodLink RX18 238 Lib.Math.min.name) (by decide +kernel)) (hts (.static Lib.Math.min.name) (by decide +kernel)) (hts (.initialized "java/lang/Math") (by decide +kernel)) (hts (.code Lib.Math.min.name Lib.Math.min.code 2 (some .int)) (by decide +kernel)) (Nat.le_of_ble_eq_true rfl) (Nat.le_of_ble_eq_true rfl) (Nat.le_of_ble_eq_true rfl) (Nat.le_of_ble_eq_true rfl) dX18_threads_101 ?_
                    refine lv_topi (fun x_92 ex_92 => ?_)
                    refine va_iast hx hb hK hP hD hS 1 0 rfl rfl (vp_in_nI (by omega) (by decide)) dX18_threads_104 (fun H locs hP hD hS => ?_)
                    generalize ef_93 : upd fi (nI k_6).toNatClampNeg x_92 = f_93 at hP hD
                    have hP : va_P (dC, dI) vwCl [(mm, .inr (24, [.int 0, .ref stu, .ref cla, .ref pic, .ref act, .int 5, .int 50, .ref nts, .ref isn, .int 1600, .ref boa, .ref mas, .ref pai, .ref sol, .int 0, .ref bal, .ref leg])), (q_4, .inl (k_5, 17, .inl f_93))] H := hP
                    have hD : va_D A [(mm, .inr (24, [.int 0, .ref stu, .ref cla, .ref pic, .ref act, .int 5, .int 50, .ref nts, .ref isn, .int 1600, .ref boa, .ref mas, .ref pai, .ref sol, .int 0, .ref bal, .ref leg])), (q_4, .inl (k_5, 17, .inl f_93))] := hD
                    have hR : va_P (dC, dI) vwCl [] H := fun k q h => by simp at h
                    obtain ⟨x_94, ex_94⟩ : ∃ y : Int32, y = (nI k_38) + 1 := ⟨_, rfl⟩
                    refine lv_iinc (v := x_94) (lv' := [(4, .int x_94), (5, .int 1), (3, .int (nI k_6)), (2, .ref q_4), (0, .ref mm), (1, .int (nI cu))]) hx hb dX18_threads_105 hl (k := 1) rfl (by rw [ex_94]; rfl) (by decide) rfl (fun ls hl => ?_)
                    have hy : x_94 = nI (k_38 + 1) := by rw [ex_94]; exact nI_1 k_38
                    subst hy
                    refine lv_goto (tgt := 43) hx hb dX18_threads_108 (by decide) ?_
                    exact ih (k_38 + 1) (by omega) f_93 (thr_step (by omega) (by omega) hd_d_89 hI_43 ((thr_c (by omega) (by omega) ex_79).trans (by rw [if_neg c_48, if_pos c_80]; rfl)) (ex_82.trans (by rw [nI_clamp (by omega)])) (ex_85.trans (by rw [nI_clamp (by omega)])) ex_86 (ex_90.trans (by rw [nI_clamp (by omega)])) ex_91 ex_92 ef_93) _ _ hP hD hS _ (lv_sub hl [0, 2, 3, 4, 5] rfl)
                  · skip
                    refine lv_iconst (v := 1) hx hb dX18_threads_67 (by decide) ?_
                    refine lv_goto (tgt := 72) hx hb dX18_threads_68 (by decide) ?_
                    refine lv_iadd hx hb dX18_threads_72 ?_
                    refine lv_topi (fun x_95 ex_95 => ?_)
                    obtain rfl : x_95 = 2 := ex_95.trans (by decide)
                    refine lv_istore (lv' := [(5, .int 2), (4, .int (nI k_38)), (3, .int (nI k_6)), (2, .ref q_4), (0, .ref mm), (1, .int (nI cu))]) hx hb dX18_threads_73 hl (by decide) rfl (fun ls hl => ?_)
                    refine lv_aload_n hx hb dX18_threads_75 rfl (lv_at hl 3 rfl) ?_
                    refine lv_iload_n hx hb dX18_threads_76 rfl (lv_at hl 2 rfl) ?_
                    refine lv_aload_n hx hb dX18_threads_77 rfl (lv_at hl 3 rfl) ?_
                    refine lv_iload_n hx hb dX18_threads_78 rfl (lv_at hl 2 rfl) ?_
                    refine va_iald hx hb hK hP 1 0 rfl rfl (vp_in_nI (by omega) (by decide)) dX18_threads_79 ?_
                    refine lv_topi (fun x_96 ex_96 => ?_)
                    refine lv_iconst (v := 1) hx hb dX18_threads_80 (by decide) ?_
                    refine lv_iload hx hb dX18_threads_81 (lv_at hl 0 rfl) ?_
                    refine lv_iload hx hb dX18_threads_83 (lv_at hl 0 rfl) ?_
                    refine lv_imul hx hb dX18_threads_85 ?_
                    refine lv_topi (fun x_97 ex_97 => ?_)
                    obtain rfl : x_97 = 4 := ex_97.trans (by decide)
                    refine lv_iadd hx hb dX18_threads_86 ?_
                    refine lv_topi (fun x_98 ex_98 => ?_)
                    obtain rfl : x_98 = 5 := ex_98.trans (by decide)
                    refine lv_aload_n hx hb dX18_threads_87 rfl (lv_at hl 3 rfl) ?_
                    refine lv_iload hx hb dX18_threads_88 (lv_at hl 1 rfl) ?_
                    refine va_iald hx hb hK hP 1 0 rfl rfl (vp_in_nI (by omega) (by decide)) dX18_threads_90 ?_
                    refine lv_topi (fun x_99 ex_99 => ?_)
                    refine lv_iadd hx hb dX18_threads_91 ?_
                    refine lv_topi (fun x_100 ex_100 => ?_)
                    refine lv_aload_n hx hb dX18_threads_92 rfl (lv_at hl 3 rfl) ?_
                    refine lv_iload_n hx hb dX18_threads_93 rfl (lv_at hl 2 rfl) ?_
                    refine lv_iconst (v := 1) hx hb dX18_threads_94 (by decide) ?_
                    refine lv_isub hx hb dX18_threads_95 ?_
                    refine lv_topi (fun x_101 ex_101 => ?_)
                    refine lv_iload hx hb dX18_threads_96 (lv_at hl 1 rfl) ?_
                    refine lv_isub hx hb dX18_threads_98 ?_
                    refine lv_topi (fun x_102 ex_102 => ?_)
                    obtain ⟨d_103, hd_d_103, ed_103⟩ := thr_ix (n := k_6) (k := k_38) (by omega) (by omega) ex_101 ex_102
                    subst ed_103
                    refine va_iald hx hb hK hP 1 0 rfl rfl (vp_in_nI (by omega) (by decide)) dX18_threads_99 ?_
                    refine lv_topi (fun x_104 ex_104 => ?_)
                    refine lv_iadd hx hb dX18_threads_100 ?_
                    refine lv_topi (fun x_105 ex_105 => ?_)
                    refine va_mmin hx hb (hml.trans hl.1.symm) hown (hts (.methodLink RX18 238 Lib.Math.min.name) (by decide +kernel)) (hts (.static Lib.Math.min.name) (by decide +kernel)) (hts (.initialized "java/lang/Math") (by decide +kernel)) (hts (.code Lib.Math.min.name Lib.Math.min.code 2 (some .int)) (by decide +kernel)) (Nat.le_of_ble_eq_true rfl) (Nat.le_of_ble_eq_true rfl) (Nat.le_of_ble_eq_true rfl) (Nat.le_of_ble_eq_true rfl) dX18_threads_101 ?_
                    refine lv_topi (fun x_106 ex_106 => ?_)
                    refine va_iast hx hb hK hP hD hS 1 0 rfl rfl (vp_in_nI (by omega) (by decide)) dX18_threads_104 (fun H locs hP hD hS => ?_)
                    generalize ef_107 : upd fi (nI k_6).toNatClampNeg x_106 = f_107 at hP hD
                    have hP : va_P (dC, dI) vwCl [(mm, .inr (24, [.int 0, .ref stu, .ref cla, .ref pic, .ref act, .int 5, .int 50, .ref nts, .ref isn, .int 1600, .ref boa, .ref mas, .ref pai, .ref sol, .int 0, .ref bal, .ref leg])), (q_4, .inl (k_5, 17, .inl f_107))] H := hP
                    have hD : va_D A [(mm, .inr (24, [.int 0, .ref stu, .ref cla, .ref pic, .ref act, .int 5, .int 50, .ref nts, .ref isn, .int 1600, .ref boa, .ref mas, .ref pai, .ref sol, .int 0, .ref bal, .ref leg])), (q_4, .inl (k_5, 17, .inl f_107))] := hD
                    have hR : va_P (dC, dI) vwCl [] H := fun k q h => by simp at h
                    obtain ⟨x_108, ex_108⟩ : ∃ y : Int32, y = (nI k_38) + 1 := ⟨_, rfl⟩
                    refine lv_iinc (v := x_108) (lv' := [(4, .int x_108), (5, .int 2), (3, .int (nI k_6)), (2, .ref q_4), (0, .ref mm), (1, .int (nI cu))]) hx hb dX18_threads_105 hl (k := 1) rfl (by rw [ex_108]; rfl) (by decide) rfl (fun ls hl => ?_)
                    have hy : x_108 = nI (k_38 + 1) := by rw [ex_108]; exact nI_1 k_38
                    subst hy
                    refine lv_goto (tgt := 43) hx hb dX18_threads_108 (by decide) ?_
                    exact ih (k_38 + 1) (by omega) f_107 (thr_step (by omega) (by omega) hd_d_103 hI_43 ((thr_c (by omega) (by omega) ex_79).trans (by rw [if_neg c_48, if_neg c_80]; rfl)) (ex_96.trans (by rw [nI_clamp (by omega)])) (ex_99.trans (by rw [nI_clamp (by omega)])) ex_100 (ex_104.trans (by rw [nI_clamp (by omega)])) ex_105 ex_106 ef_107) _ _ hP hD hS _ (lv_sub hl [0, 2, 3, 4, 5] rfl)
          exact loop_43 k_6 0 rfl f_37 (thr_in (by omega) hI_29.2 ef_37) _ _ hP hD hS ls (lv_sub hl [0, 1, 2, 3, 4] rfl)
    exact loop_29 16 1 rfl (fun _ => 0) ⟨by decide, thr_0⟩ _ _ hP hD hS ls (lv_sub hl [0, 1, 2, 3] rfl)
  · skip
    refine lv_aload_n hx hb dX18_threads_16 rfl (lv_at hl 0 rfl) ?_
    refine lv_iconst (v := 1) hx hb dX18_threads_17 (by decide) ?_
    have hPc := (hP.app hR).sub (ws' := [(mm, .inr (24, .int 0 :: ([.ref stu, .ref cla, .ref pic, .ref act, .int 5, .int 50, .ref nts, .ref isn, .int 1600, .ref boa, .ref mas, .ref pai, .ref sol, .int 0, .ref bal, .ref leg])))] ++ []) [0] rfl
    have hDc := (en_DD hD hDr hN0 hAb).sub (ws' := [(mm, .inr (24, .int 0 :: ([.ref stu, .ref cla, .ref pic, .ref act, .int 5, .int 50, .ref nts, .ref isn, .int 1600, .ref boa, .ref mas, .ref pai, .ref sol, .int 0, .ref bal, .ref leg])))] ++ []) [0] (by decide) rfl
    have hKc := hK.sub (tys' := []) [] rfl
    have hFc := va_free (wc := [(mm, .inr (24, .int 0 :: ([.ref stu, .ref cla, .ref pic, .ref act, .int 5, .int 50, .ref nts, .ref isn, .int 1600, .ref boa, .ref mas, .ref pai, .ref sol, .int 0, .ref bal, .ref leg])))]) hD hS hA [0] rfl
    refine va_calli (va_runV (As := [.int 1]) (rest := []) ⟨hx, hb, hml, hown, hts⟩ (c_X18_fails l dC dI b0 en H.size mm 0 1 ([.ref stu, .ref cla, .ref pic, .ref act, .int 5, .int 50, .ref nts, .ref isn, .int 1600, .ref boa, .ref mas, .ref pai, .ref sol, .int 0, .ref bal, .ref leg])) (cwV 1 hts gX18_threads_X18_fails rfl rfl rfl (by decide +kernel) ⟨Nat.le_of_ble_eq_true rfl, Nat.le_of_ble_eq_true rfl⟩) ⟨cP.blind, va_recv hK hP (ci := 24) (q0 := 0) rfl rfl, cP.use (en_z hb0 hS) (hE.on hAb hS) hPc hKc hDc trivial⟩ rfl rfl hl.1 rfl (lv_room (Nat.le_of_ble_eq_true rfl)) dX18_threads_18 ⟨Nat.le_of_ble_eq_true rfl, Nat.le_of_ble_eq_true rfl⟩) hS (fun q _ h => hFc q h) hFc (fun r_109 u t H1 locs ht hvm hw hB hz1 hk1 hS => ?_)
    obtain ⟨hP1, hK1, hD1, hF1⟩ := hB
    rw [ht] at hP1
    try rw [ht] at hF1
    have hK1 := va_K.moved hvm.symm hK1
    try dsimp only at hw
    obtain ⟨hP, hD⟩ := va_join (wr := []) (w1 := [(mm, .inr (24, [.int 1, .ref stu, .ref cla, .ref pic, .ref act, .int 5, .int 50, .ref nts, .ref isn, .int 1600, .ref boa, .ref mas, .ref pai, .ref sol, .int 0, .ref bal, .ref leg]))]) hP hD [0] [] rfl rfl (by decide) (by decide) hk1 hFc hP1 hD1
    generalize H1 = H at hP hS ⊢
    have hP : va_P (dC, dI) vwCl [(mm, .inr (24, [.int 1, .ref stu, .ref cla, .ref pic, .ref act, .int 5, .int 50, .ref nts, .ref isn, .int 1600, .ref boa, .ref mas, .ref pai, .ref sol, .int 0, .ref bal, .ref leg]))] H := hP
    have hD : va_D A [(mm, .inr (24, [.int 1, .ref stu, .ref cla, .ref pic, .ref act, .int 5, .int 50, .ref nts, .ref isn, .int 1600, .ref boa, .ref mas, .ref pai, .ref sol, .int 0, .ref bal, .ref leg]))] := hD
    have hR : va_P (dC, dI) vwCl [] H := fun k q h => by simp at h
    refine W.widen (k := 0) (n := 0) (Nat.le_of_ble_eq_true rfl) (Nat.le_of_ble_eq_true rfl) ?_
    subst r_109
    subst hQ
    refine W.widen (k := 1) (n := 17) (Nat.le_of_ble_eq_true rfl) (Nat.le_of_ble_eq_true rfl) ?_
    exact W.iret (v := 0) hx hb hr (fun t ht hW => ⟨⟨0, ⟨1, [.ref stu, .ref cla, .ref pic, .ref act, .int 5, .int 50, .ref nts, .ref isn, .int 1600, .ref boa, .ref mas, .ref pai, .ref sol, .int 0, .ref bal, .ref leg]⟩, rfl, (z_c_X18_threads_222 n (b_no h_2 c_3)), cB.mk ht hW (hP.sub [0] rfl) (hK.sub [] rfl) (hD.sub [0] (by decide) rfl) (trivial)⟩, hS.F ht⟩) hS.2.2 dX18_threads_21
