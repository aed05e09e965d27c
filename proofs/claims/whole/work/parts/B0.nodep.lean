/-! the reference's order of hashed keys: the heap with its count, its row 'ordered', its rows 'parts' -/
def qFnd (pa : Nat → Nat) (b : Nat) : Nat → Option Nat
  | 0 => none
  | n + 1 => if pa n = b then some n else qFnd pa b n
theorem qFnd_at {pa : Nat → Nat} (inj : ∀ i j, i < 8 → j < 8 → pa i = pa j → i = j) {d : Nat} (hd : d < 8) : ∀ {n : Nat}, n ≤ 8 → d < n → qFnd pa (pa d) n = some d
  | 0, _, h => absurd h (Nat.not_lt_zero _)
  | n + 1, hn, h => by
    show (if pa n = pa d then some n else qFnd pa (pa d) n) = some d
    by_cases c : pa n = pa d
    · rw [if_pos c, inj n d (by omega) hd c]
    · rw [if_neg c]
      have : n ≠ d := fun z => c (by rw [z])
      exact qFnd_at inj hd (by omega) (by omega)
theorem qFnd_no {pa : Nat → Nat} {b : Nat} : ∀ {n : Nat}, (∀ d, d < n → b ≠ pa d) → qFnd pa b n = none
  | 0, _ => rfl
  | n + 1, h => by
    show (if pa n = b then some n else qFnd pa b n) = none
    rw [if_neg (fun z => h n (by omega) z.symm)]
    exact qFnd_no (fun d hd => h d (by omega))
theorem qFnd_lt {pa : Nat → Nat} {b d : Nat} : ∀ {n : Nat}, qFnd pa b n = some d → d < n ∧ b = pa d
  | 0, h => by cases h
  | n + 1, h => by
    have h : (if pa n = b then some n else qFnd pa b n) = some d := h
    split at h
    · rename_i c
      cases h
      exact ⟨by omega, c.symm⟩
    · have := qFnd_lt h
      exact ⟨by omega, this.2⟩
def qNh (cy : Nat → ClassId) (h : qH) (y od : Nat) (pa : Nat → Nat) (Y : Int32 → va_E) (ct : Nat) (O : Nat → Int32) (Q : Nat → Nat → Int32) : qH := fun b => if b = y then some (Y (nI ct)) else if b = od then some (.inl (cy 0, 1000, .inl O)) else match qFnd pa b 8 with
  | some d => some (.inl (cy 0, 1000, .inl (Q d)))
  | none => h b
/-- the cells lie apart -/
def qNd9 (y od : Nat) (pa : Nat → Nat) : Prop := od ≠ y ∧ (∀ d, d < 8 → pa d ≠ y ∧ pa d ≠ od) ∧ ∀ i j, i < 8 → j < 8 → pa i = pa j → i = j
def qNo9 (y od : Nat) (pa : Nat → Nat) (b : Nat) : Prop := b ≠ y ∧ b ≠ od ∧ ∀ d, d < 8 → b ≠ pa d
section QNH
variable {cy : Nat → ClassId} {h : qH} {y od : Nat} {pa : Nat → Nat} {Y : Int32 → va_E} {ct : Nat} {O : Nat → Int32} {Q : Nat → Nat → Int32}
theorem qNh_y : qNh cy h y od pa Y ct O Q y = some (Y (nI ct)) := if_pos rfl
theorem qNh_od (n : qNd9 y od pa) : qNh cy h y od pa Y ct O Q od = some (.inl (cy 0, 1000, .inl O)) := by
  unfold qNh
  rw [if_neg n.1, if_pos rfl]
theorem qNh_pa (n : qNd9 y od pa) {d : Nat} (hd : d < 8) : qNh cy h y od pa Y ct O Q (pa d) = some (.inl (cy 0, 1000, .inl (Q d))) := by
  unfold qNh
  rw [if_neg (n.2.1 d hd).1, if_neg (n.2.1 d hd).2, qFnd_at n.2.2 hd (Nat.le_refl _) hd]
theorem qNh_o {b : Nat} (n : qNo9 y od pa b) : qNh cy h y od pa Y ct O Q b = h b := by
  unfold qNh
  rw [if_neg n.1, if_neg n.2.1, qFnd_no n.2.2]
theorem qNh_sy {c : Nat} : qs (qNh cy h y od pa Y ct O Q) y (Y (nI c)) = qNh cy h y od pa Y c O Q := by
  funext b
  by_cases e : b = y
  · subst e; rw [qs_self, qNh_y]
  · rw [qs_ne e]; unfold qNh; rw [if_neg e, if_neg e]
theorem qNh_so (n : qNd9 y od pa) {O' : Nat → Int32} : qs (qNh cy h y od pa Y ct O Q) od (.inl (cy 0, 1000, .inl O')) = qNh cy h y od pa Y ct O' Q := by
  funext b
  by_cases e : b = od
  · subst e; rw [qs_self, qNh_od n]
  · rw [qs_ne e]; unfold qNh; rw [if_neg e, if_neg e]
theorem qNh_sp (n : qNd9 y od pa) {d : Nat} (hd : d < 8) {q : Nat → Int32} : qs (qNh cy h y od pa Y ct O Q) (pa d) (.inl (cy 0, 1000, .inl q)) = qNh cy h y od pa Y ct O (qU Q d q) := by
  funext b
  by_cases e : b = pa d
  · subst e; rw [qs_self, qNh_pa n hd, qU_at]
  · rw [qs_ne e]; unfold qNh
    by_cases e1 : b = y
    · rw [if_pos e1, if_pos e1]
    · rw [if_neg e1, if_neg e1]
      by_cases e2 : b = od
      · rw [if_pos e2, if_pos e2]
      · rw [if_neg e2, if_neg e2]
        cases hf : qFnd pa b 8 with
        | none => rfl
        | some d' =>
          have := qFnd_lt hf
          have hn : d' ≠ d := fun z => e (by rw [this.2, z])
          show some _ = some _
          rw [qU_ne hn]
theorem qNh_same (n : qNd9 y od pa) (h1 : h y = some (Y (nI ct))) (h2 : h od = some (.inl (cy 0, 1000, .inl O))) (h3 : ∀ d, d < 8 → h (pa d) = some (.inl (cy 0, 1000, .inl (Q d)))) : qNh cy h y od pa Y ct O Q = h := by
  funext b
  by_cases e1 : b = y
  · subst e1; rw [qNh_y, h1]
  · by_cases e2 : b = od
    · subst e2; rw [qNh_od n, h2]
    · by_cases e3 : ∃ d, d < 8 ∧ b = pa d
      · obtain ⟨d, hd, rfl⟩ := e3
        rw [qNh_pa n hd, h3 d hd]
      · exact qNh_o ⟨e1, e2, fun d hd z => e3 ⟨d, hd, z⟩⟩
end QNH
/-- the mask of a grain -/
def qMk (gr : Int32) : Int32 := if gr = 0 then -1 else if gr = 1 then 255 else 0
theorem qMk_h {gr : Int32} {k : Int64} : qHsh gr k = k.toInt32 &&& qMk gr := by
  unfold qHsh qMk
  split
  · exact Int32.and_neg_one.symm
  · split
    · rfl
    · exact Int32.and_zero.symm
theorem num6 {m : Int32} {k : Int64} : ((k.toInt32 &&& m).toUInt32 >>> ((nI 30).toUInt32 &&& Int32.toUInt32 31)).toInt32 = nI (thN m 6 k) := by
  rw [show k.toInt32 &&& m = nI (thH m k) from nI_any _, nI_ushr thH_lt (by decide)]
  unfold thN
  have := thH_lt (m := m) (k := k)
  rw [show (32 : Nat) ^ 6 = 2 ^ 30 by decide, Nat.mod_eq_of_lt (show thH m k / 2 ^ 30 < 32 by omega)]
theorem numd {m : Int32} {k : Int64} {d : Nat} (hd : d < 6) : ((k.toInt32 &&& m).toUInt32 >>> ((nI (5 * d)).toUInt32 &&& Int32.toUInt32 31)).toInt32 &&& nI 31 = nI (thN m d k) := by
  rw [show k.toInt32 &&& m = nI (thH m k) from nI_any _, nI_ushr thH_lt (by omega), nI_and, show (31 : Nat) = 2 ^ 5 - 1 by decide, Nat.and_two_pow_sub_one_eq_mod, Nat.pow_mul]
  rfl
theorem tqB_shr {p : Nat → Bool} {v : Nat} (hv : v < 32) : ((nI (tqB p 32) >>> (nI v &&& 31)) &&& nI 1) = 0 ↔ p v = false := by
  have e1 : nI v &&& 31 = nI v := by
    rw [show (31 : Int32) = nI 31 from rfl, nI_and, show (31 : Nat) = 2 ^ 5 - 1 by decide, Nat.and_two_pow_sub_one_eq_mod, Nat.mod_eq_of_lt (by omega)]
  have e2 : ((nI v).toBitVec.smod 32) = BitVec.ofNat 32 v := by
    have : ∀ k : Fin 32, ((nI k.val).toBitVec.smod 32) = BitVec.ofNat 32 k.val := by decide +kernel
    exact this ⟨v, hv⟩
  have e3 : (nI (tqB p 32) >>> (nI v &&& 31)) &&& nI 1 = if p v = true then nI 1 else nI 0 := by
    rw [e1]
    apply Int32.toBitVec.inj
    rw [Int32.toBitVec_and, Int32.toBitVec_shiftRight, e2, nI_bv, nI_bv]
    apply BitVec.eq_of_getLsbD_eq
    intro i hi
    rw [BitVec.getLsbD_and, BitVec.sshiftRight_eq', BitVec.getLsbD_sshiftRight, BitVec.toNat_ofNat, Nat.mod_eq_of_lt (show v < 2 ^ 32 by omega)]
    by_cases c : i = 0
    · subst c
      simp only [BitVec.getLsbD_ofNat, tqB_tb]
      cases hp : p v
      · simp [hv, hp, nI_bv]
      · simp [hv, hp, nI_bv]
    · have h1 : (BitVec.ofNat 32 1).getLsbD i = false := by
        rw [BitVec.getLsbD_ofNat]
        rw [show (1 : Nat) = 2 ^ 0 by decide, Nat.testBit_two_pow, decide_eq_false (fun z : 0 = i => c z.symm), Bool.and_false]
      rw [h1, Bool.and_false]
      cases hp : p v
      · simp [nI_bv]
      · simp [nI_bv, h1]
  rw [e3]
  cases hp : p v
  · simp [nI_0]
  · simp
    decide
theorem lN_i32 {n : Nat} : (lN n).toInt32 = nI n := by
  apply Int32.toBitVec.inj
  show ((lN n).toBitVec).signExtend 32 = BitVec.ofNat 32 n
  rw [BitVec.signExtend_eq_setWidth_of_le _ (by decide)]
  show (BitVec.ofNat 64 n).setWidth 32 = BitVec.ofNat 32 n
  apply BitVec.eq_of_toNat_eq
  rw [BitVec.toNat_setWidth, BitVec.toNat_ofNat, BitVec.toNat_ofNat, Nat.mod_mod_of_dvd _ (by decide)]
/-- an index, as the rows have it -/
def ix9 (p : Int64 × Int64) : Int32 := p.2.toInt32
def qPourI (O : Nat → Int32) (s : Nat) (vs : List Int32) : Nat → Int32 := fun j => if s ≤ j ∧ j < s + vs.length then vs.getD (j - s) 0 else O j
theorem qPourI_nil {O : Nat → Int32} {s : Nat} : qPourI O s [] = O := by
  funext j
  unfold qPourI
  rw [if_neg (by simp)]
theorem qPourI_1 {O : Nat → Int32} {s n : Nat} {A : List Int32} {v : Int32} (hn : n = s + A.length) : upd (qPourI O s A) n v = qPourI O s (A ++ [v]) := by
  subst hn
  funext j
  unfold upd qPourI
  rw [List.length_append, List.length_singleton]
  by_cases c : j = s + A.length
  · subst c
    rw [if_pos rfl, if_pos (by omega), List.getD_eq_getElem?_getD, List.getElem?_append_right (by omega), show s + A.length - s - A.length = 0 by omega]
    rfl
  · rw [if_neg c]
    by_cases c2 : s ≤ j ∧ j < s + A.length
    · rw [if_pos c2, if_pos (by omega), List.getD_eq_getElem?_getD, List.getD_eq_getElem?_getD, List.getElem?_append_left (by omega)]
    · rw [if_neg c2, if_neg (by omega)]
theorem qPourI_2 {O : Nat → Int32} {s n : Nat} {A B : List Int32} (hn : n = s + A.length) : qPourI (qPourI O s A) n B = qPourI O s (A ++ B) := by
  subst hn
  funext j
  unfold qPourI
  try dsimp only
  rw [List.length_append]
  by_cases c1 : s ≤ j ∧ j < s + (A.length + B.length)
  · rw [if_pos c1]
    by_cases c2 : s + A.length ≤ j ∧ j < s + A.length + B.length
    · rw [if_pos c2, List.getD_eq_getElem?_getD, List.getD_eq_getElem?_getD, List.getElem?_append_right (by omega), show j - s - A.length = j - (s + A.length) by omega]
    · rw [if_neg c2, if_pos (by omega), List.getD_eq_getElem?_getD, List.getD_eq_getElem?_getD, List.getElem?_append_left (by omega)]
  · rw [if_neg c1, if_neg (by omega), if_neg (by omega)]
/-- laid in one by one: the same sorted list -/
def thQ (L : qKV) : qKV := L.foldl (fun A p => xSi A p.1 p.2) []
theorem thQ_all : ∀ (L A : qKV), qUp A → (L.foldl (fun A p => xSi A p.1 p.2) A).Perm (L ++ A) ∧ qUp (L.foldl (fun A p => xSi A p.1 p.2) A)
  | [], A, h => ⟨List.Perm.refl _, h⟩
  | p :: L, A, h => by
    obtain ⟨h1, h2⟩ := thQ_all L (xSi A p.1 p.2) (xSi_up h)
    refine ⟨h1.trans ?_, h2⟩
    refine (List.Perm.append_left L (xSi_perm (A := A) (k := p.1) (v := p.2))).trans ?_
    exact List.perm_middle
theorem thQ_perm {L : qKV} : (thQ L).Perm L := by
  have := (thQ_all L [] List.Pairwise.nil).1
  rw [List.append_nil] at this
  exact this
theorem thQ_up {L : qKV} : qUp (thQ L) := (thQ_all L [] List.Pairwise.nil).2
theorem thQ_len {L : qKV} : (thQ L).length = L.length := thQ_perm.length_eq
theorem thQ_O {L : qKV} (h : qNo L) : thQ L = thO L := qUp_uni thQ_up (thO_up L) (qNo_perm thQ_perm.symm h) (thQ_perm.trans (thO_perm L).symm)
theorem thQ_s {L : qKV} {i : Nat} {p : Int64 × Int64} (h : L[i]? = some p) : thQ (L.take (i + 1)) = xSi (thQ (L.take i)) p.1 p.2 := by
  unfold thQ
  rw [List.take_succ, h]
  simp only [Option.toList_some]
  rw [List.foldl_append]
  rfl
theorem xSi_pl {K : qKV} (hu : qUp K) {j : Nat} {k x : Int64} (hj : j ≤ K.length) (h1 : j = 0 ∨ ∀ p, K[j - 1]? = some p → p.1.toInt ≤ k.toInt) (h2 : ∀ q p, j ≤ q → K[q]? = some p → k.toInt < p.1.toInt) : xSi K k x = K.take j ++ (k, x) :: K.drop j := by
  have hT : ∀ p ∈ K.take j, p.1.toInt ≤ k.toInt := fun p hp => by
    obtain ⟨i, hi, rfl⟩ := List.mem_iff_getElem.mp hp
    rw [List.length_take] at hi
    rw [List.getElem_take]
    rcases h1 with c | h1
    · omega
    · have g := h1 _ (List.getElem?_eq_getElem (show j - 1 < K.length by omega))
      rcases Nat.lt_or_eq_of_le (show i ≤ j - 1 by omega) with c | c
      · have := List.pairwise_iff_getElem.mp hu i (j - 1) (by omega) (by omega) c
        omega
      · subst c; exact g
  have hD : ∀ p ∈ K.drop j, k.toInt < p.1.toInt := fun p hp => by
    obtain ⟨i, hi, rfl⟩ := List.mem_iff_getElem.mp hp
    rw [List.length_drop] at hi
    rw [List.getElem_drop]
    exact h2 (j + i) _ (by omega) (List.getElem?_eq_getElem (by omega))
  unfold xSi
  have e1 : K.filter (fun p => decide (p.1.toInt ≤ k.toInt)) = K.take j := by
    conv => lhs; rw [← List.take_append_drop j K]
    rw [List.filter_append, List.filter_eq_self.mpr (fun x hx => decide_eq_true (hT x hx)), List.filter_eq_nil_iff.mpr (fun x hx => by have := hD x hx; simp; omega), List.append_nil]
  have e2 : K.filter (fun p => decide (k.toInt < p.1.toInt)) = K.drop j := by
    conv => lhs; rw [← List.take_append_drop j K]
    rw [List.filter_append, List.filter_eq_self.mpr (fun x hx => decide_eq_true (hD x hx)), List.filter_eq_nil_iff.mpr (fun x hx => by have := hT x hx; simp; omega), List.nil_append]
  rw [e1, e2]
theorem thK_take {m : Int32} {d v : Nat} {L : qKV} {i : Nat} {p : Int64 × Int64} (h : L[i]? = some p) : thK m d v (L.take (i + 1)) = thK m d v (L.take i) ++ (if thN m d p.1 = v then [p] else []) := by
  unfold thK
  rw [List.take_succ, h]
  simp only [Option.toList_some]
  rw [List.filter_append, List.filter_cons, List.filter_nil]
  congr 1
  by_cases c : thN m d p.1 = v
  · rw [if_pos (decide_eq_true c), if_pos c]
  · rw [if_neg (by rw [decide_eq_true_iff]; exact c), if_neg c]
