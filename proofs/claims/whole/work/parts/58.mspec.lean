/-! what the calls do, as lists -/
def xV (kd : Int32) (v : Int64) : Int64 := if kd = 1 ∨ kd = 3 then v else 0
theorem qLs_def {kd : Int32} {f g : Nat → Int64} {n : Nat} : qLs kd f g n = (List.range n).map (fun j => (f j, xV kd (g j))) := rfl
theorem qLs_get2 {kd : Int32} {f g : Nat → Int64} {n j : Nat} (h : j < n) : (qLs kd f g n)[j]? = some (f j, xV kd (g j)) := qLs_get h
theorem qLs_no {kd : Int32} {f g : Nat → Int64} {n j : Nat} (h : n ≤ j) : (qLs kd f g n)[j]? = none := List.getElem?_eq_none (by rw [qLs_len]; exact h)
/-- a list that is a row's -/
theorem qLs_eq {kd : Int32} {f g : Nat → Int64} {n : Nat} {L : qKV} (h1 : L.length = n) (h2 : ∀ j, j < n → L[j]? = some (f j, xV kd (g j))) : qLs kd f g n = L := by
  refine List.ext_getElem? fun j => ?_
  by_cases c : j < n
  · rw [qLs_get2 c, h2 j c]
  · rw [qLs_no (by omega), List.getElem?_eq_none (by omega)]
theorem qLs_ins {kd : Int32} {f g : Nat → Int64} {n p : Nat} {k v : Int64} (hp : p ≤ n) : qLs kd (vp_updL (qSh f p n) p k) (vp_updL (qSh g p n) p v) (n + 1) = (qLs kd f g n).take p ++ (k, xV kd v) :: (qLs kd f g n).drop p := by
  refine qLs_eq ?_ (fun j hj => ?_)
  · rw [List.length_append, List.length_cons, List.length_take, List.length_drop, qLs_len]; omega
  · unfold vp_updL
    by_cases c : j = p
    · subst c
      rw [if_pos rfl, if_pos rfl, List.getElem?_append_right (by rw [List.length_take, qLs_len]; omega), List.length_take, qLs_len, show j - min j n = 0 by omega]
      rfl
    · rw [if_neg c, if_neg c]
      by_cases c2 : j < p
      · rw [List.getElem?_append_left (by rw [List.length_take, qLs_len]; omega), List.getElem?_take_of_lt c2, qLs_get2 (by omega)]
        unfold qSh
        rw [if_neg (by omega), if_neg (by omega)]
      · rw [List.getElem?_append_right (by rw [List.length_take, qLs_len]; omega), List.length_take, qLs_len, show j - min p n = (j - p - 1) + 1 by omega, List.getElem?_cons_succ, List.getElem?_drop, show p + (j - p - 1) = j - 1 by omega, qLs_get2 (by omega)]
        unfold qSh
        rw [if_pos (by omega), if_pos (by omega)]
theorem qLs_rem {kd : Int32} {f g : Nat → Int64} {n p : Nat} (hp : p + 1 ≤ n) : qLs kd (qSd f p (n - 1)) (qSd g p (n - 1)) (n - 1) = (qLs kd f g n).eraseIdx p := by
  refine qLs_eq ?_ (fun j hj => ?_)
  · rw [List.length_eraseIdx, qLs_len, if_pos (by omega)]
  · rw [List.getElem?_eraseIdx]
    unfold qSd
    by_cases c : j < p
    · rw [if_pos c, qLs_get2 (by omega), if_neg (by omega), if_neg (by omega)]
    · rw [if_neg c, qLs_get2 (by omega), if_pos (by omega), if_pos (by omega)]
theorem qLs_set {kd : Int32} {f g : Nat → Int64} {n p : Nat} {v : Int64} (hp : p < n) : qLs kd f (vp_updL g p v) n = (qLs kd f g n).set p (f p, xV kd v) := by
  refine qLs_eq (by rw [List.length_set, qLs_len]) (fun j hj => ?_)
  rw [List.getElem?_set]
  unfold vp_updL
  by_cases c : j = p
  · subst c; rw [if_pos rfl, if_pos rfl, if_pos (by rw [qLs_len]; exact hp)]
  · rw [if_neg c, if_neg (fun e => c e.symm), qLs_get2 hj]
theorem qLs_setk {kd : Int32} {f g : Nat → Int64} {n p : Nat} {v : Int64} (hp : p < n) : qLs kd (vp_updL f p v) g n = (qLs kd f g n).set p (v, xV kd (g p)) := by
  refine qLs_eq (by rw [List.length_set, qLs_len]) (fun j hj => ?_)
  rw [List.getElem?_set]
  unfold vp_updL
  by_cases c : j = p
  · subst c; rw [if_pos rfl, if_pos rfl, if_pos (by rw [qLs_len]; exact hp)]
  · rw [if_neg c, if_neg (fun e => c e.symm), qLs_get2 hj]
/-- is the key there -/
def xHas (L : qKV) (k : Int64) : Bool := L.any (fun p => p.1 == k)
theorem xHas_t {kd : Int32} {f g : Nat → Int64} {n j : Nat} {k : Int64} (hj : j < n) (e : f j = k) : xHas (qLs kd f g n) k = true := by
  refine List.any_eq_true.mpr ⟨(f j, xV kd (g j)), ?_, by simp [e]⟩
  exact List.mem_of_getElem? (qLs_get2 hj)
theorem xHas_f {kd : Int32} {f g : Nat → Int64} {n : Nat} {k : Int64} (e : ∀ q, q < n → f q ≠ k) : xHas (qLs kd f g n) k = false := by
  refine List.any_eq_false.mpr fun p hp => ?_
  obtain ⟨j, hj, rfl⟩ := List.mem_map.mp hp
  simpa using e j (List.mem_range.mp hj)
/-- the keys differ from each other -/
def qNo (L : qKV) : Prop := L.Pairwise (fun p q => p.1 ≠ q.1)
theorem qNo_row {kd : Int32} {f g : Nat → Int64} {n i j : Nat} (h : qNo (qLs kd f g n)) (hi : i < n) (hj : j < n) (e : f i = f j) : i = j := by
  have key : ∀ a b : Nat, a < b → b < n → f a ≠ f b := fun a b hab hb => by
    have ha : a < (qLs kd f g n).length := by rw [qLs_len]; omega
    have hb' : b < (qLs kd f g n).length := by rw [qLs_len]; omega
    have := List.pairwise_iff_getElem.mp h a b ha hb' hab
    have e1 : (qLs kd f g n)[a] = (f a, xV kd (g a)) := (List.getElem?_eq_some_iff.mp (qLs_get2 (by omega))).2
    have e2 : (qLs kd f g n)[b] = (f b, xV kd (g b)) := (List.getElem?_eq_some_iff.mp (qLs_get2 hb)).2
    rw [e1, e2] at this
    exact this
  rcases Nat.lt_trichotomy i j with c | c | c
  · exact absurd e (key i j c hj)
  · exact c
  · exact absurd e.symm (key j i c hi)
/-- with the key's value laid anew -/
def xRe (L : qKV) (k v : Int64) : qKV := L.map (fun p => if p.1 = k then (k, v) else p)
theorem qLs_re {kd : Int32} {f g : Nat → Int64} {n j : Nat} {k v : Int64} (hn : qNo (qLs kd f g n)) (hj : j < n) (e : f j = k) : qLs kd f (vp_updL g j v) n = xRe (qLs kd f g n) k (xV kd v) := by
  refine qLs_eq (by unfold xRe; rw [List.length_map, qLs_len]) (fun q hq => ?_)
  unfold xRe vp_updL
  rw [List.getElem?_map, qLs_get2 hq, Option.map_some]
  by_cases c : q = j
  · subst c; rw [if_pos rfl, if_pos e, e]
  · rw [if_neg c, if_neg (fun z => c (qNo_row hn hq hj (by rw [e]; exact z)))]
/-- a key laid in where the order wants it -/
def xSi (L : qKV) (k v : Int64) : qKV := L.filter (fun p => decide (p.1.toInt ≤ k.toInt)) ++ (k, v) :: L.filter (fun p => decide (k.toInt < p.1.toInt))
/-- the keys don't fall -/
def qUp (L : qKV) : Prop := L.Pairwise (fun p q => p.1.toInt ≤ q.1.toInt)
theorem qUp_row {kd : Int32} {f g : Nat → Int64} {n i j : Nat} (h : qUp (qLs kd f g n)) (hij : i ≤ j) (hj : j < n) : (f i).toInt ≤ (f j).toInt := by
  rcases Nat.lt_or_eq_of_le hij with c | rfl
  · have ha : i < (qLs kd f g n).length := by rw [qLs_len]; omega
    have hb' : j < (qLs kd f g n).length := by rw [qLs_len]; omega
    have := List.pairwise_iff_getElem.mp h i j ha hb' c
    have e1 : (qLs kd f g n)[i] = (f i, xV kd (g i)) := (List.getElem?_eq_some_iff.mp (qLs_get2 (by omega))).2
    have e2 : (qLs kd f g n)[j] = (f j, xV kd (g j)) := (List.getElem?_eq_some_iff.mp (qLs_get2 hj)).2
    rw [e1, e2] at this
    exact this
  · exact Int.le_refl _
theorem xSi_row {kd : Int32} {f g : Nat → Int64} {n p : Nat} {k v : Int64} (hu : qUp (qLs kd f g n)) (hp : p ≤ n) (h1 : p = 0 ∨ ¬ k.toInt < (f (p - 1)).toInt) (h2 : ∀ q, p ≤ q → q < n → k.toInt < (f q).toInt) : (qLs kd f g n).take p ++ (k, v) :: (qLs kd f g n).drop p = xSi (qLs kd f g n) k v := by
  have hT : ∀ x ∈ (qLs kd f g n).take p, x.1.toInt ≤ k.toInt := fun x hx => by
    obtain ⟨j, hj, rfl⟩ := List.mem_iff_getElem.mp hx
    rw [List.length_take, qLs_len] at hj
    rw [List.getElem_take]
    have e1 : (qLs kd f g n)[j]'(by rw [qLs_len]; omega) = (f j, xV kd (g j)) := (List.getElem?_eq_some_iff.mp (qLs_get2 (by omega))).2
    rw [e1]
    have := qUp_row hu (show j ≤ p - 1 by omega) (by omega)
    show (f j).toInt ≤ k.toInt
    omega
  have hD : ∀ x ∈ (qLs kd f g n).drop p, k.toInt < x.1.toInt := fun x hx => by
    obtain ⟨j, hj, rfl⟩ := List.mem_iff_getElem.mp hx
    rw [List.length_drop, qLs_len] at hj
    rw [List.getElem_drop]
    have e1 : (qLs kd f g n)[p + j]'(by rw [qLs_len]; omega) = (f (p + j), xV kd (g (p + j))) := (List.getElem?_eq_some_iff.mp (qLs_get2 (by omega))).2
    rw [e1]
    exact h2 (p + j) (by omega) (by omega)
  unfold xSi
  have e1 : (qLs kd f g n).filter (fun p => decide (p.1.toInt ≤ k.toInt)) = (qLs kd f g n).take p := by
    conv => lhs; rw [← List.take_append_drop p (qLs kd f g n)]
    rw [List.filter_append, List.filter_eq_self.mpr (fun x hx => decide_eq_true (hT x hx)), List.filter_eq_nil_iff.mpr (fun x hx => by have := hD x hx; simp; omega), List.append_nil]
  have e2 : (qLs kd f g n).filter (fun p => decide (k.toInt < p.1.toInt)) = (qLs kd f g n).drop p := by
    conv => lhs; rw [← List.take_append_drop p (qLs kd f g n)]
    rw [List.filter_append, List.filter_eq_self.mpr (fun x hx => decide_eq_true (hD x hx)), List.filter_eq_nil_iff.mpr (fun x hx => by have := hT x hx; simp; omega), List.nil_append]
  rw [e1, e2]
/-- what put makes of a list -/
def xPut (kd : Int32) (each : Bool) (L : qKV) (k v : Int64) : qKV := if each = false ∧ xHas L k = true then xRe L k v else if kd = 3 ∨ kd = 5 then xSi L k v else L ++ [(k, v)]
/-- what the lists of a kind keep -/
def qOk (kd : Int32) (L : qKV) : Prop := (kd = 3 ∨ kd = 5 → qUp L) ∧ (kd = 1 ∨ kd = 2 ∨ kd = 3 → qNo L) ∧ kd ∈ [(-1 : Int32), 0, 1, 2, 3, 4, 5, 6]
/-- how many keys have this hash -/
def xAl (gr : Int32) (L : qKV) (k : Int64) : Nat := (L.filter (fun p => decide (qHsh gr p.1 = qHsh gr k))).length
theorem xAl_row {gr kd : Int32} {f g : Nat → Int64} {k : Int64} : ∀ n : Nat, qCt (fun q => decide (qHsh gr (f q) = qHsh gr k)) n = xAl gr (qLs kd f g n) k
  | 0 => rfl
  | n + 1 => by
    have ih := xAl_row (gr := gr) (kd := kd) (f := f) (g := g) (k := k) n
    unfold xAl at ih ⊢
    have e : qLs kd f g (n + 1) = qLs kd f g n ++ [(f n, xV kd (g n))] := by
      rw [qLs_def, List.range_succ, List.map_append]; rfl
    rw [e, List.filter_append, List.length_append, ← ih]
    show qCt _ n + _ = _
    by_cases c : qHsh gr (f n) = qHsh gr k
    · simp [c]
    · simp [c]
theorem bHo_10 {kd : Int32} (h : kd ∈ [(-1 : Int32), 0, 1, 2, 3, 4, 5, 6]) (e : bHo kd 10 = true) : kd = 1 ∨ kd = 3 := by
  simp only [List.mem_cons, List.not_mem_nil, or_false] at h
  rcases h with rfl | rfl | rfl | rfl | rfl | rfl | rfl | rfl <;> revert e <;> decide
theorem bHo_14 {kd : Int32} (h : kd ∈ [(-1 : Int32), 0, 1, 2, 3, 4, 5, 6]) (e : bHo kd 14 = true) : kd = 1 ∨ kd = 2 ∨ kd = 3 := by
  simp only [List.mem_cons, List.not_mem_nil, or_false] at h
  rcases h with rfl | rfl | rfl | rfl | rfl | rfl | rfl | rfl <;> revert e <;> decide
theorem bHo_1 {kd : Int32} (h : kd ∈ [(-1 : Int32), 0, 1, 2, 3, 4, 5, 6]) (e : bHo kd 1 = true) : kd = 0 := by
  simp only [List.mem_cons, List.not_mem_nil, or_false] at h
  rcases h with rfl | rfl | rfl | rfl | rfl | rfl | rfl | rfl <;> revert e <;> decide
theorem bHo_8 {kd : Int32} (h : kd ∈ [(-1 : Int32), 0, 1, 2, 3, 4, 5, 6]) (e : bHo kd 8 = true) : kd = 3 := by
  simp only [List.mem_cons, List.not_mem_nil, or_false] at h
  rcases h with rfl | rfl | rfl | rfl | rfl | rfl | rfl | rfl <;> revert e <;> decide
theorem bHo_4 {kd : Int32} (h : kd ∈ [(-1 : Int32), 0, 1, 2, 3, 4, 5, 6]) (e : bHo kd 4 = true) : kd = 2 := by
  simp only [List.mem_cons, List.not_mem_nil, or_false] at h
  rcases h with rfl | rfl | rfl | rfl | rfl | rfl | rfl | rfl <;> revert e <;> decide
/-- a key's value -/
def xLook (L : qKV) (k : Int64) : Int64 := ((L.find? (fun p => p.1 == k)).map (fun p => p.2)).getD 0
theorem qfind_at {L : qKV} {k : Int64} : ∀ {j : Nat} {p : Int64 × Int64}, L[j]? = some p → p.1 = k → (∀ q, q < j → ∀ p, L[q]? = some p → p.1 ≠ k) → L.find? (fun p => p.1 == k) = some p := by
  induction L with
  | nil => intro j p h; cases h
  | cons a L ih =>
    intro j p h e m
    cases j with
    | zero =>
      cases h
      rw [List.find?_cons, show (a.1 == k) = true from by simp [e]]
    | succ j =>
      have n0 : a.1 ≠ k := m 0 (by omega) a rfl
      rw [List.find?_cons, show (a.1 == k) = false from by simp [n0]]
      exact ih h e (fun q hq p hp => m (q + 1) (by omega) p hp)
theorem xLook_row {kd : Int32} {f g : Nat → Int64} {n j : Nat} {k : Int64} (hj : j < n) (e : f j = k) (m : ∀ q, q < j → f q ≠ k) : xLook (qLs kd f g n) k = xV kd (g j) := by
  unfold xLook
  rw [qfind_at (qLs_get2 hj) e (fun q hq p hp => by rw [qLs_get2 (by omega)] at hp; cases hp; exact m q hq)]
  rfl
theorem qerase_f {kd : Int32} {f g : Nat → Int64} {n j : Nat} {k : Int64} (hn : qNo (qLs kd f g n)) (hj : j < n) (e : f j = k) : (qLs kd f g n).eraseIdx j = (qLs kd f g n).filter (fun p => decide (p.1 ≠ k)) := by
  rw [List.eraseIdx_eq_take_drop_succ]
  conv => rhs; rw [← List.take_append_drop j (qLs kd f g n)]
  rw [List.filter_append]
  have hT : ∀ x ∈ (qLs kd f g n).take j, x.1 ≠ k := fun x hx => by
    obtain ⟨q, hq, rfl⟩ := List.mem_iff_getElem.mp hx
    rw [List.length_take, qLs_len] at hq
    rw [List.getElem_take]
    have e1 : (qLs kd f g n)[q]'(by rw [qLs_len]; omega) = (f q, xV kd (g q)) := (List.getElem?_eq_some_iff.mp (qLs_get2 (by omega))).2
    rw [e1]
    intro z
    have := qNo_row hn (show q < n by omega) hj (show f q = f j by rw [e]; exact z)
    omega
  have hD : ∀ x ∈ (qLs kd f g n).drop (j + 1), x.1 ≠ k := fun x hx => by
    obtain ⟨q, hq, rfl⟩ := List.mem_iff_getElem.mp hx
    rw [List.length_drop, qLs_len] at hq
    rw [List.getElem_drop]
    have e1 : (qLs kd f g n)[j + 1 + q]'(by rw [qLs_len]; omega) = (f (j + 1 + q), xV kd (g (j + 1 + q))) := (List.getElem?_eq_some_iff.mp (qLs_get2 (by omega))).2
    rw [e1]
    intro z
    have := qNo_row hn (show j + 1 + q < n by omega) hj (show f (j + 1 + q) = f j by rw [e]; exact z)
    omega
  have eD : (qLs kd f g n).drop j = (f j, xV kd (g j)) :: (qLs kd f g n).drop (j + 1) := by
    rw [List.drop_eq_getElem_cons (by rw [qLs_len]; exact hj)]
    congr 1
    exact (List.getElem?_eq_some_iff.mp (qLs_get2 hj)).2
  rw [eD, List.filter_cons, if_neg (by simp [e]), List.filter_eq_self.mpr (fun x hx => decide_eq_true (hT x hx)), List.filter_eq_self.mpr (fun x hx => decide_eq_true (hD x hx))]
theorem qnot_f {kd : Int32} {f g : Nat → Int64} {n : Nat} {k : Int64} (m : ∀ q, q < n → f q ≠ k) : (qLs kd f g n).filter (fun p => decide (p.1 ≠ k)) = qLs kd f g n := List.filter_eq_self.mpr (fun x hx => by
  obtain ⟨q, hq, rfl⟩ := List.mem_map.mp hx
  exact decide_eq_true (m q (List.mem_range.mp hq)))
def bIx (x : Int32) (n : Nat) : Bool := decide (¬ x < 0 ∧ x.toNatClampNeg < n)
