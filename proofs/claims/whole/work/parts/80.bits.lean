/-! bits: counts, masks -/
/-- how many of the first n have it -/
def tqC (p : Nat → Bool) : Nat → Nat
  | 0 => 0
  | n + 1 => tqC p n + (if p n = true then 1 else 0)
/-- the number whose bits are these -/
def tqB (p : Nat → Bool) : Nat → Nat
  | 0 => 0
  | n + 1 => tqB p n + (if p n = true then 2 ^ n else 0)
theorem tqC_ext {p q : Nat → Bool} : ∀ {n : Nat}, (∀ i, i < n → p i = q i) → tqC p n = tqC q n
  | 0, _ => rfl
  | n + 1, h => by
    show tqC p n + _ = tqC q n + _
    rw [tqC_ext (n := n) (fun i hi => h i (by omega)), h n (by omega)]
theorem tqB_ext {p q : Nat → Bool} : ∀ {n : Nat}, (∀ i, i < n → p i = q i) → tqB p n = tqB q n
  | 0, _ => rfl
  | n + 1, h => by
    show tqB p n + _ = tqB q n + _
    rw [tqB_ext (n := n) (fun i hi => h i (by omega)), h n (by omega)]
theorem tqC_le {p : Nat → Bool} : ∀ n : Nat, tqC p n ≤ n
  | 0 => Nat.le_refl _
  | n + 1 => by
    have := tqC_le (p := p) n
    show tqC p n + _ ≤ n + 1
    split <;> omega
theorem tqC_add {p : Nat → Bool} {a : Nat} : ∀ b : Nat, tqC p (a + b) = tqC p a + tqC (fun i => p (a + i)) b
  | 0 => rfl
  | b + 1 => by
    show tqC p (a + b) + _ = tqC p a + (tqC (fun i => p (a + i)) b + _)
    rw [tqC_add b, Nat.add_assoc]
    rfl
theorem tqB_lt {p : Nat → Bool} : ∀ n : Nat, tqB p n < 2 ^ n
  | 0 => Nat.zero_lt_one
  | n + 1 => by
    have := tqB_lt (p := p) n
    show tqB p n + _ < _
    rw [Nat.pow_succ]
    split <;> omega
theorem tqB_tb {p : Nat → Bool} : ∀ {n i : Nat}, (tqB p n).testBit i = (decide (i < n) && p i)
  | 0, i => by
    show Nat.testBit 0 i = _
    simp
  | n + 1, i => by
    have h0 := tqB_lt (p := p) n
    have e : tqB p (n + 1) = 2 ^ n * (if p n = true then 1 else 0) + tqB p n := by
      show tqB p n + _ = _
      split
      · rw [Nat.mul_one, Nat.add_comm]
      · rw [Nat.mul_zero, Nat.add_comm]
    rw [e, Nat.testBit_two_pow_mul_add _ h0]
    by_cases c : i < n
    · rw [if_pos c, tqB_tb]
      simp [c, show i < n + 1 by omega]
    · rw [if_neg c]
      by_cases c2 : i = n
      · subst c2
        rw [Nat.sub_self]
        cases hp : p i <;> simp
      · have h1 : ¬ i < n + 1 := by omega
        obtain ⟨z, hz⟩ : ∃ z, i - n = z + 1 := ⟨i - n - 1, by omega⟩
        rw [hz]
        simp only [h1, decide_false, Bool.false_and]
        cases p n <;> simp [Nat.testBit_succ]
theorem nI_inj32 {a b : Nat} (ha : a < 2 ^ 32) (hb : b < 2 ^ 32) (h : nI a = nI b) : a = b := by
  have h1 := congrArg (fun x : Int32 => x.toBitVec.toNat) h
  have h2 : (BitVec.ofNat 32 a).toNat = (BitVec.ofNat 32 b).toNat := h1
  rw [BitVec.toNat_ofNat, BitVec.toNat_ofNat, Nat.mod_eq_of_lt ha, Nat.mod_eq_of_lt hb] at h2
  exact h2
theorem nI_bv (a : Nat) : (nI a).toBitVec = BitVec.ofNat 32 a := rfl
theorem nI_and (a b : Nat) : nI a &&& nI b = nI (a &&& b) := by
  apply Int32.toBitVec.inj
  rw [Int32.toBitVec_and, nI_bv, nI_bv, nI_bv]
  apply BitVec.eq_of_getLsbD_eq
  intro i hi
  simp [BitVec.getLsbD_and, BitVec.getLsbD_ofNat, Nat.testBit_and, hi]
theorem nI_or (a b : Nat) : nI a ||| nI b = nI (a ||| b) := by
  apply Int32.toBitVec.inj
  rw [Int32.toBitVec_or, nI_bv, nI_bv, nI_bv]
  apply BitVec.eq_of_getLsbD_eq
  intro i hi
  simp [BitVec.getLsbD_or, BitVec.getLsbD_ofNat, Nat.testBit_or, hi]
/-- a shift to the right, without its sign -/
theorem nI_ushr {a k : Nat} (ha : a < 2 ^ 32) (hk : k < 32) : ((nI a).toUInt32 >>> ((nI k).toUInt32 &&& Int32.toUInt32 31)).toInt32 = nI (a / 2 ^ k) := by
  have e1 : (nI k).toUInt32 &&& Int32.toUInt32 31 = UInt32.ofNat k := by
    apply UInt32.toNat.inj
    rw [UInt32.toNat_and]
    show (BitVec.ofNat 32 k).toNat &&& 31 = (BitVec.ofNat 32 k).toNat
    rw [BitVec.toNat_ofNat, Nat.mod_eq_of_lt (by omega), show (31 : Nat) = 2 ^ 5 - 1 by decide, Nat.and_two_pow_sub_one_eq_mod, Nat.mod_eq_of_lt (by omega)]
  rw [e1]
  apply Int32.toBitVec.inj
  apply BitVec.eq_of_toNat_eq
  show ((nI a).toUInt32 >>> UInt32.ofNat k).toNat = (BitVec.ofNat 32 (a / 2 ^ k)).toNat
  rw [UInt32.toNat_shiftRight]
  show (BitVec.ofNat 32 a).toNat >>> ((BitVec.ofNat 32 k).toNat % 32) = _
  rw [BitVec.toNat_ofNat, BitVec.toNat_ofNat, BitVec.toNat_ofNat, Nat.mod_eq_of_lt ha, Nat.mod_eq_of_lt (show k < 2 ^ 32 by omega), Nat.mod_eq_of_lt hk, Nat.shiftRight_eq_div_pow, Nat.mod_eq_of_lt (Nat.lt_of_le_of_lt (Nat.div_le_self _ _) ha)]
theorem nI_shl {k : Nat} (hk : k < 32) : (1 : Int32) <<< (nI k &&& 31) = nI (2 ^ k) := by
  have : ∀ k : Fin 32, (1 : Int32) <<< (nI k.val &&& 31) = nI (2 ^ k.val) := by decide +kernel
  exact this ⟨k, hk⟩
theorem nI_any (x : Int32) : x = nI x.toBitVec.toNat := by
  apply Int32.toBitVec.inj
  apply BitVec.eq_of_toNat_eq
  show _ = (BitVec.ofNat 32 (x.toBitVec.toNat)).toNat
  rw [BitVec.toNat_ofNat, Nat.mod_eq_of_lt x.toBitVec.isLt]
/-! the count of a word's bits, as Integer.bitCount has it -/
theorem tq_and {p u q w : Nat} (hp : p < 256) (hu : u < 256) : (p + 256 * q) &&& (u + 256 * w) = (p &&& u) + 256 * (q &&& w) := by
  have h3 : p &&& u < 2 ^ 8 := Nat.and_lt_two_pow _ hu
  rw [show p + 256 * q = 2 ^ 8 * q + p by omega, show u + 256 * w = 2 ^ 8 * w + u by omega, show (p &&& u) + 256 * (q &&& w) = 2 ^ 8 * (q &&& w) + (p &&& u) by omega]
  apply Nat.eq_of_testBit_eq
  intro i
  rw [Nat.testBit_and, Nat.testBit_two_pow_mul_add _ (show p < 2 ^ 8 from hp), Nat.testBit_two_pow_mul_add _ (show u < 2 ^ 8 from hu), Nat.testBit_two_pow_mul_add _ h3]
  split
  · rw [Nat.testBit_and]
  · rw [Nat.testBit_and]
def tw1 (x M : Nat) : Nat := x - (x / 2 &&& M)
def tw2 (x M : Nat) : Nat := (x &&& M) + (x / 4 &&& M)
def tw3 (x M : Nat) : Nat := (x + x / 16) &&& M
theorem tw1_le {x M : Nat} : x / 2 &&& M ≤ x := Nat.le_trans Nat.and_le_left (Nat.div_le_self _ _)
theorem tw1_b : ∀ (a : Fin 256) (e : Fin 2), (a.val / 2 + 128 * e.val) &&& 85 = a.val / 2 &&& 85 := by decide +kernel
theorem tw2_b : ∀ (a : Fin 256) (e : Fin 4), (a.val / 4 + 64 * e.val) &&& 51 = a.val / 4 &&& 51 := by decide +kernel
theorem tw1_s {a r M : Nat} (ha : a < 256) : tw1 (a + 256 * r) (85 + 256 * M) = tw1 a 85 + 256 * tw1 r M := by
  unfold tw1
  rw [show (a + 256 * r) / 2 = (a / 2 + 128 * (r % 2)) + 256 * (r / 2) by omega, tq_and (by omega) (by decide)]
  have := tw1_b ⟨a, ha⟩ ⟨r % 2, by omega⟩
  dsimp only at this
  rw [this]
  have h1 := tw1_le (x := a) (M := 85)
  have h2 := tw1_le (x := r) (M := M)
  omega
theorem tw2_s {a r M : Nat} (ha : a < 256) : tw2 (a + 256 * r) (51 + 256 * M) = tw2 a 51 + 256 * tw2 r M := by
  unfold tw2
  rw [show (a + 256 * r) / 4 = (a / 4 + 64 * (r % 4)) + 256 * (r / 4) by omega, tq_and ha (by decide), tq_and (by omega) (by decide)]
  have := tw2_b ⟨a, ha⟩ ⟨r % 4, by omega⟩
  dsimp only at this
  rw [this]
  omega
theorem tw3_s {a r M : Nat} (ha : a ≤ 102) (hr : r % 16 ≤ 4) : tw3 (a + 256 * r) (15 + 256 * M) = tw3 a 15 + 256 * tw3 r M := by
  unfold tw3
  rw [show a + 256 * r + (a + 256 * r) / 16 = (a + a / 16 + 16 * (r % 16)) + 256 * (r + r / 16) by omega, tq_and (by omega) (by decide)]
  rw [show (15 : Nat) = 2 ^ 4 - 1 by decide, Nat.and_two_pow_sub_one_eq_mod, Nat.and_two_pow_sub_one_eq_mod]
  omega
theorem tw_b : ∀ a : Fin 256, tw1 a.val 85 < 256 ∧ tw2 (tw1 a.val 85) 51 ≤ 102 ∧ tw2 (tw1 a.val 85) 51 % 16 ≤ 4 ∧ tw3 (tw2 (tw1 a.val 85) 51) 15 = tqC (Nat.testBit a.val) 8 := by decide +kernel
theorem tqC_byte {a r n : Nat} (ha : a < 256) : tqC (Nat.testBit (a + 256 * r)) (8 + n) = tqC (Nat.testBit a) 8 + tqC (Nat.testBit r) n := by
  rw [tqC_add, tqC_ext (q := Nat.testBit a) (n := 8), tqC_ext (q := Nat.testBit r) (n := n)]
  · intro i _
    rw [show a + 256 * r = 2 ^ 8 * r + a by omega, Nat.testBit_two_pow_mul_add _ (show a < 2 ^ 8 from ha), if_neg (by omega), show 8 + i - 8 = i by omega]
  · intro i hi
    rw [show a + 256 * r = 2 ^ 8 * r + a by omega, Nat.testBit_two_pow_mul_add _ (show a < 2 ^ 8 from ha), if_pos hi]
theorem tw_all {x : Nat} (hx : x < 2 ^ 32) : ∃ p0 p1 p2 p3 : Nat, p0 ≤ 8 ∧ p1 ≤ 8 ∧ p2 ≤ 8 ∧ p3 ≤ 8 ∧ tw3 (tw2 (tw1 x 1431655765) 858993459) 252645135 = p0 + 256 * (p1 + 256 * (p2 + 256 * p3)) ∧ tqC (Nat.testBit x) 32 = p0 + (p1 + (p2 + p3)) := by
  obtain ⟨a, b, c, d, ha, hb, hc, hd, rfl⟩ : ∃ a b c d : Nat, a < 256 ∧ b < 256 ∧ c < 256 ∧ d < 256 ∧ x = a + 256 * (b + 256 * (c + 256 * d)) := ⟨x % 256, x / 256 % 256, x / 65536 % 256, x / 16777216, by omega, by omega, by omega, by omega, by omega⟩
  have a1 := tw_b ⟨a, ha⟩
  have b1 := tw_b ⟨b, hb⟩
  have c1 := tw_b ⟨c, hc⟩
  have d1 := tw_b ⟨d, hd⟩
  dsimp only at a1 b1 c1 d1
  refine ⟨tqC (Nat.testBit a) 8, tqC (Nat.testBit b) 8, tqC (Nat.testBit c) 8, tqC (Nat.testBit d) 8, tqC_le 8, tqC_le 8, tqC_le 8, tqC_le 8, ?_, ?_⟩
  · rw [show (1431655765 : Nat) = 85 + 256 * (85 + 256 * (85 + 256 * 85)) by decide, show (858993459 : Nat) = 51 + 256 * (51 + 256 * (51 + 256 * 51)) by decide, show (252645135 : Nat) = 15 + 256 * (15 + 256 * (15 + 256 * 15)) by decide]
    rw [tw1_s ha, tw1_s hb, tw1_s hc, tw2_s a1.1, tw2_s b1.1, tw2_s c1.1]
    rw [tw3_s a1.2.1 (by omega), tw3_s b1.2.1 (by omega), tw3_s c1.2.1 (by omega), a1.2.2.2, b1.2.2.2, c1.2.2.2, d1.2.2.2]
  · rw [show (32 : Nat) = 8 + (8 + (8 + 8)) by decide, tqC_byte ha, tqC_byte hb, tqC_byte hc]
theorem tw_end {p0 p1 p2 p3 : Nat} (h0 : p0 ≤ 8) (h1 : p1 ≤ 8) (h2 : p2 ≤ 8) (h3 : p3 ≤ 8) {y z : Nat} (hy : y = p0 + 256 * (p1 + 256 * (p2 + 256 * p3))) (hz : z = y + y / 256) : (z + z / 65536) % 64 = p0 + (p1 + (p2 + p3)) ∧ y < 2 ^ 32 ∧ z < 2 ^ 32 := by
  have e1 : z = (p0 + p1) + 256 * (p1 + p2) + 65536 * (p2 + p3) + 16777216 * p3 := by omega
  have e2 : z / 65536 = (p2 + p3) + 256 * p3 := by omega
  omega
/-- the bits of a word, counted -/
theorem tq_count {x : Nat} (hx : x < 2 ^ 32) {u1 u2 u3 u4 u5 : Int32}
    (q1 : u1 = nI x - (((nI x).toUInt32 >>> ((1 : Int32).toUInt32 &&& Int32.toUInt32 31)).toInt32 &&& (1431655765 : Int32)))
    (q2 : u2 = (u1 &&& (858993459 : Int32)) + ((u1.toUInt32 >>> ((2 : Int32).toUInt32 &&& Int32.toUInt32 31)).toInt32 &&& (858993459 : Int32)))
    (q3 : u3 = (u2 + (u2.toUInt32 >>> ((4 : Int32).toUInt32 &&& Int32.toUInt32 31)).toInt32) &&& (252645135 : Int32))
    (q4 : u4 = u3 + (u3.toUInt32 >>> ((8 : Int32).toUInt32 &&& Int32.toUInt32 31)).toInt32)
    (q5 : u5 = u4 + (u4.toUInt32 >>> ((16 : Int32).toUInt32 &&& Int32.toUInt32 31)).toInt32) : (u5 &&& (63 : Int32)) = nI (tqC (Nat.testBit x) 32) := by
  obtain ⟨p0, p1, p2, p3, h0, h1, h2, h3, e1, e2⟩ := tw_all hx
  have z1 : tw1 x 1431655765 < 2 ^ 32 := by unfold tw1; omega
  have z2 : tw2 (tw1 x 1431655765) 858993459 < 2 ^ 32 := by
    have g1 : tw1 x 1431655765 &&& 858993459 ≤ 858993459 := Nat.and_le_right
    have g2 : tw1 x 1431655765 / 4 &&& 858993459 ≤ 858993459 := Nat.and_le_right
    unfold tw2; omega
  obtain ⟨g1, g2, g3⟩ := tw_end h0 h1 h2 h3 e1 rfl
  have f1 : u1 = nI (tw1 x 1431655765) := by
    rw [q1, show (1 : Int32) = nI 1 from rfl, show (1431655765 : Int32) = nI 1431655765 from rfl, nI_ushr hx (by decide), nI_and, q_nsub tw1_le]
    rfl
  have f2 : u2 = nI (tw2 (tw1 x 1431655765) 858993459) := by
    rw [q2, f1, show (2 : Int32) = nI 2 from rfl, show (858993459 : Int32) = nI 858993459 from rfl, nI_ushr z1 (by decide), nI_and, nI_and, nI_add]
    rfl
  have f3 : u3 = nI (tw3 (tw2 (tw1 x 1431655765) 858993459) 252645135) := by
    rw [q3, f2, show (4 : Int32) = nI 4 from rfl, show (252645135 : Int32) = nI 252645135 from rfl, nI_ushr z2 (by decide), nI_add, nI_and]
    rfl
  have f4 : u4 = nI (tw3 (tw2 (tw1 x 1431655765) 858993459) 252645135 + tw3 (tw2 (tw1 x 1431655765) 858993459) 252645135 / 256) := by
    rw [q4, f3, show (8 : Int32) = nI 8 from rfl, nI_ushr g2 (by decide), nI_add]
  have f5 : u5 = nI (tw3 (tw2 (tw1 x 1431655765) 858993459) 252645135 + tw3 (tw2 (tw1 x 1431655765) 858993459) 252645135 / 256 + (tw3 (tw2 (tw1 x 1431655765) 858993459) 252645135 + tw3 (tw2 (tw1 x 1431655765) 858993459) 252645135 / 256) / 65536) := by
    rw [q5, f4, show (16 : Int32) = nI 16 from rfl, nI_ushr g3 (by decide), nI_add]
  rw [f5, show (63 : Int32) = nI 63 from rfl, nI_and, show (63 : Nat) = 2 ^ 6 - 1 by decide, Nat.and_two_pow_sub_one_eq_mod, show (2 ^ 6 : Nat) = 64 by decide, g1, e2]
theorem tqC_tb {p : Nat → Bool} {v : Nat} (hv : v ≤ 32) : tqC (Nat.testBit (tqB p v)) 32 = tqC p v := by
  have e : 32 = v + (32 - v) := by omega
  rw [e, tqC_add, tqC_ext (q := p) (n := v), tqC_ext (q := fun _ => false) (n := 32 - v)]
  · have : ∀ n : Nat, tqC (fun _ => false) n = 0 := fun n => by
      induction n with
      | zero => rfl
      | succ n ih => show tqC _ n + _ = 0; rw [ih]; rfl
    rw [this, Nat.add_zero]
  · intro i _
    rw [tqB_tb, decide_eq_false (by omega)]; rfl
  · intro i hi
    rw [tqB_tb]; simp [hi]
theorem tqB_low {p : Nat → Bool} {v : Nat} (hv : v < 32) : nI (tqB p 32) &&& (nI (2 ^ v) - nI 1) = nI (tqB p v) := by
  rw [q_nsub (Nat.one_le_two_pow), nI_and, Nat.and_two_pow_sub_one_eq_mod]
  congr 1
  apply Nat.eq_of_testBit_eq
  intro i
  rw [Nat.testBit_mod_two_pow, tqB_tb, tqB_tb]
  by_cases c : i < v
  · simp [c, show i < 32 by omega]
  · simp [c]
theorem tqB_one {v : Nat} (hv : v < 32) : 2 ^ v = tqB (fun u => decide (u = v)) 32 := by
  apply Nat.eq_of_testBit_eq
  intro i
  rw [tqB_tb, Nat.testBit_two_pow]
  by_cases c : v = i
  · subst c; simp [hv]
  · rw [decide_eq_false c, decide_eq_false (fun e : i = v => c e.symm), Bool.and_false]
theorem tqB_and {p q : Nat → Bool} : nI (tqB p 32) &&& nI (tqB q 32) = nI (tqB (fun u => p u && q u) 32) := by
  rw [nI_and]
  congr 1
  apply Nat.eq_of_testBit_eq
  intro i
  rw [Nat.testBit_and, tqB_tb, tqB_tb, tqB_tb]
  by_cases c : i < 32 <;> simp [c]
theorem tqB_or {p q : Nat → Bool} : nI (tqB p 32) ||| nI (tqB q 32) = nI (tqB (fun u => p u || q u) 32) := by
  rw [nI_or]
  congr 1
  apply Nat.eq_of_testBit_eq
  intro i
  rw [Nat.testBit_or, tqB_tb, tqB_tb, tqB_tb]
  by_cases c : i < 32 <;> simp [c]
theorem tqB_not {q : Nat → Bool} : nI (tqB q 32) ^^^ (-1) = nI (tqB (fun u => !q u) 32) := by
  apply Int32.toBitVec.inj
  rw [Int32.toBitVec_xor, nI_bv, nI_bv]
  apply BitVec.eq_of_getLsbD_eq
  intro i hi
  have e : (-1 : Int32).toBitVec = BitVec.allOnes 32 := by decide
  rw [e, BitVec.getLsbD_xor, BitVec.getLsbD_ofNat, BitVec.getLsbD_ofNat, tqB_tb, tqB_tb, BitVec.getLsbD_allOnes]
  simp [hi]
theorem tqB_zero {p : Nat → Bool} : nI (tqB p 32) = 0 ↔ ∀ u, u < 32 → p u = false := by
  constructor
  · intro h u hu
    have := nI_inj32 (b := 0) (tqB_lt 32) (by decide) (h.trans nI_0.symm)
    have h2 := tqB_tb (p := p) (n := 32) (i := u)
    rw [this] at h2
    simp [hu] at h2
    exact h2
  · intro h
    rw [tqB_ext (q := fun _ => false) h]
    decide
/-- is the bit there -/
theorem tqB_has {p : Nat → Bool} {v : Nat} (hv : v < 32) : nI (tqB p 32) &&& nI (2 ^ v) = 0 ↔ p v = false := by
  rw [tqB_one hv, tqB_and, tqB_zero]
  constructor
  · intro h
    have := h v hv
    simpa using this
  · intro h u hu
    by_cases c : u = v
    · subst c; simp [h]
    · simp [c]
theorem tqB_inj {p q : Nat → Bool} (h : nI (tqB p 32) = nI (tqB q 32)) {u : Nat} (hu : u < 32) : p u = q u := by
  have h1 := nI_inj32 (tqB_lt 32) (tqB_lt 32) h
  have h2 := tqB_tb (p := p) (n := 32) (i := u)
  rw [h1, tqB_tb] at h2
  simpa [hu] using h2.symm
