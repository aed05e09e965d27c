/-! Branch by keys: what is sorted, and its cuts -/
def qSo (L : qKV) : Prop := L.Pairwise (fun p q => p.1.toInt < q.1.toInt)
def qLo (L : qKV) (k : Int64) : qKV := L.filter (fun p => decide (p.1.toInt < k.toInt))
def qAb (L : qKV) (k : Int64) (z : Int32) : qKV := L.filter (fun p => decide (k.toInt < p.1.toInt ∨ (p.1 = k ∧ ¬ z = 0)))
theorem qSo.node {A B : qKV} {p : Int64 × Int64} (h : qSo (A ++ p :: B)) : qSo A ∧ qSo B ∧ (∀ x ∈ A, x.1.toInt < p.1.toInt) ∧ (∀ y ∈ B, p.1.toInt < y.1.toInt) := by
  obtain ⟨h1, h2, h3⟩ := List.pairwise_append.mp h
  obtain ⟨h4, h5⟩ := List.pairwise_cons.mp h2
  exact ⟨h1, h5, fun x hx => h3 x hx p (List.mem_cons_self ..), h4⟩
theorem qSo.mk {A B : qKV} {p : Int64 × Int64} (h1 : qSo A) (h2 : qSo B) (h3 : ∀ x ∈ A, x.1.toInt < p.1.toInt) (h4 : ∀ y ∈ B, p.1.toInt < y.1.toInt) : qSo (A ++ p :: B) := by
  refine List.pairwise_append.mpr ⟨h1, List.pairwise_cons.mpr ⟨h4, h2⟩, fun x hx y hy => ?_⟩
  rcases List.mem_cons.mp hy with rfl | hy
  · exact h3 x hx
  · exact Int.lt_trans (h3 x hx) (h4 y hy)
theorem qSo.nil : qSo [] := List.Pairwise.nil
theorem qSo.lo {L : qKV} {k : Int64} (h : qSo L) : qSo (qLo L k) := List.Pairwise.filter _ h
theorem qSo.ab {L : qKV} {k : Int64} {z : Int32} (h : qSo L) : qSo (qAb L k z) := List.Pairwise.filter _ h
theorem qLo_len {L : qKV} {k : Int64} : (qLo L k).length ≤ L.length := List.length_filter_le _ _
theorem qAb_len {L : qKV} {k : Int64} {z : Int32} : (qAb L k z).length ≤ L.length := List.length_filter_le _ _
theorem qLo_nil {k : Int64} : qLo [] k = [] := rfl
theorem qAb_nil {k : Int64} {z : Int32} : qAb [] k z = [] := rfl
theorem qLo_all {L : qKV} {k : Int64} (h : ∀ x ∈ L, x.1.toInt < k.toInt) : qLo L k = L := List.filter_eq_self.mpr (fun x hx => decide_eq_true (h x hx))
theorem qLo_none {L : qKV} {k : Int64} (h : ∀ x ∈ L, k.toInt ≤ x.1.toInt) : qLo L k = [] := List.filter_eq_nil_iff.mpr (fun x hx => by have := h x hx; simp; omega)
theorem qAb_all {L : qKV} {k : Int64} {z : Int32} (h : ∀ x ∈ L, k.toInt < x.1.toInt) : qAb L k z = L := List.filter_eq_self.mpr (fun x hx => decide_eq_true (Or.inl (h x hx)))
theorem qAb_none {L : qKV} {k : Int64} {z : Int32} (h : ∀ x ∈ L, x.1.toInt < k.toInt) : qAb L k z = [] := List.filter_eq_nil_iff.mpr (fun x hx => by
  have := h x hx
  simp only [decide_eq_true_eq, not_or, not_and]
  exact ⟨by omega, fun e => by rw [e] at this; omega⟩)
theorem qLo_ge {A B : qKV} {p : Int64 × Int64} {k : Int64} (h : qSo (A ++ p :: B)) (c : k.toInt ≤ p.1.toInt) : qLo (A ++ p :: B) k = qLo A k := by
  obtain ⟨-, -, -, h4⟩ := h.node
  show (A ++ p :: B).filter _ = _
  rw [List.filter_append]
  have e : (p :: B).filter (fun p => decide (p.1.toInt < k.toInt)) = [] := qLo_none (fun x hx => by
    rcases List.mem_cons.mp hx with rfl | hx
    · exact c
    · have := h4 x hx; omega)
  rw [e, List.append_nil]
  rfl
theorem qLo_lt {A B : qKV} {p : Int64 × Int64} {k : Int64} (h : qSo (A ++ p :: B)) (c : p.1.toInt < k.toInt) : qLo (A ++ p :: B) k = A ++ p :: qLo B k := by
  obtain ⟨-, -, h3, -⟩ := h.node
  show (A ++ p :: B).filter _ = _
  rw [List.filter_append, List.filter_cons, if_pos (decide_eq_true c)]
  have e : A.filter (fun p => decide (p.1.toInt < k.toInt)) = A := qLo_all (fun x hx => by have := h3 x hx; omega)
  rw [e]
  rfl
theorem qAb_ge {A B : qKV} {p : Int64 × Int64} {k : Int64} {z : Int32} (h : qSo (A ++ p :: B)) (c : k.toInt < p.1.toInt ∨ (p.1 = k ∧ ¬ z = 0)) : qAb (A ++ p :: B) k z = qAb A k z ++ p :: B := by
  obtain ⟨-, -, -, h4⟩ := h.node
  have c2 : k.toInt ≤ p.1.toInt := by
    rcases c with c | c
    · omega
    · rw [c.1]; omega
  show (A ++ p :: B).filter _ = _
  rw [List.filter_append, List.filter_cons, if_pos (decide_eq_true c)]
  have e : B.filter (fun p => decide (k.toInt < p.1.toInt ∨ (p.1 = k ∧ ¬ z = 0))) = B := qAb_all (fun x hx => by have := h4 x hx; omega)
  rw [e]
  rfl
theorem qAb_lt {A B : qKV} {p : Int64 × Int64} {k : Int64} {z : Int32} (h : qSo (A ++ p :: B)) (c : ¬ (k.toInt < p.1.toInt ∨ (p.1 = k ∧ ¬ z = 0))) : qAb (A ++ p :: B) k z = qAb B k z := by
  obtain ⟨-, -, h3, -⟩ := h.node
  show (A ++ p :: B).filter _ = _
  rw [List.filter_append, List.filter_cons, if_neg (by simpa using c)]
  have e : A.filter (fun p => decide (k.toInt < p.1.toInt ∨ (p.1 = k ∧ ¬ z = 0))) = [] := qAb_none (fun x hx => by have := h3 x hx; omega)
  rw [e, List.nil_append]
  rfl
/-- k laid in with v -/
def qIns (L : qKV) (k v : Int64) : qKV := qLo L k ++ (k, v) :: qAb L k 0
theorem qAb_0 {L : qKV} {k : Int64} : qAb L k 0 = L.filter (fun p => decide (k.toInt < p.1.toInt)) := List.filter_congr (fun x _ => by simp)
theorem qIns_nil {k v : Int64} : qIns [] k v = [(k, v)] := rfl
theorem qIns_l {A B : qKV} {p : Int64 × Int64} {k v : Int64} (h : qSo (A ++ p :: B)) (c : k.toInt < p.1.toInt) : qIns (A ++ p :: B) k v = qIns A k v ++ p :: B := by
  unfold qIns
  rw [qLo_ge h (by omega), qAb_ge h (Or.inl c), List.append_assoc, List.cons_append]
theorem qIns_r {A B : qKV} {p : Int64 × Int64} {k v : Int64} (h : qSo (A ++ p :: B)) (c : p.1.toInt < k.toInt) : qIns (A ++ p :: B) k v = A ++ p :: qIns B k v := by
  unfold qIns
  rw [qLo_lt h c, qAb_lt h (fun q => q.elim (fun q => by omega) (fun q => absurd rfl q.2)), List.append_assoc, List.cons_append]
theorem qIns_m {A B : qKV} {p : Int64 × Int64} {k v : Int64} (h : qSo (A ++ p :: B)) (c : k.toInt = p.1.toInt) : qIns (A ++ p :: B) k v = A ++ (k, v) :: B := by
  obtain ⟨-, -, h3, h4⟩ := h.node
  unfold qIns
  rw [qLo_ge h (by omega), qAb_lt h (fun q => q.elim (fun q => by omega) (fun q => absurd rfl q.2)), qLo_all (fun x hx => by have := h3 x hx; omega), qAb_all (fun x hx => by have := h4 x hx; omega)]
theorem qIns_so {L : qKV} {k v : Int64} (h : qSo L) : qSo (qIns L k v) := by
  refine qSo.mk h.lo h.ab (fun x hx => ?_) (fun x hx => ?_)
  · exact of_decide_eq_true (List.mem_filter.mp hx).2
  · rw [qAb_0] at hx
    exact of_decide_eq_true (List.mem_filter.mp hx).2
theorem qIns_len {L : qKV} {k v : Int64} (h : qSo L) : (qIns L k v).length ≤ L.length + 1 := by
  unfold qIns
  rw [List.length_append, List.length_cons, qAb_0]
  have : ∀ L : qKV, (qLo L k).length + (L.filter (fun p => decide (k.toInt < p.1.toInt))).length ≤ L.length := fun L => by
    induction L with
    | nil => exact Nat.le_refl _
    | cons a L ih =>
      show ((a :: L).filter _).length + _ ≤ _
      by_cases c : a.1.toInt < k.toInt
      · rw [List.filter_cons, if_pos (decide_eq_true c), List.filter_cons, if_neg (by simp; omega), List.length_cons, List.length_cons]
        have : (qLo L k).length = (L.filter (fun p => decide (p.1.toInt < k.toInt))).length := rfl
        omega
      · rw [List.filter_cons, if_neg (by simpa using c), List.length_cons]
        have : (qLo L k).length = (L.filter (fun p => decide (p.1.toInt < k.toInt))).length := rfl
        by_cases c2 : k.toInt < a.1.toInt
        · rw [List.filter_cons, if_pos (decide_eq_true c2), List.length_cons]
          omega
        · rw [List.filter_cons, if_neg (by simpa using c2)]
          omega
  have := this L
  omega
/-- the Branch of a key; null where there is none -/
def qWi (h : qH) (L : qKV) (k : Int64) (r : Option Nat) : Prop := (∃ (a : Nat) (v : Int64) (x y z w : Value), r = some a ∧ h a = some (.inr (0, [x, .long k, .long v, y, z, w])) ∧ (k, v) ∈ L) ∨ (r = none ∧ ∀ p ∈ L, p.1 ≠ k)
theorem qWi.nil {h : qH} {k : Int64} : qWi h [] k none := Or.inr ⟨rfl, fun p hp => by cases hp⟩
theorem qWi.here {h : qH} {A B : qKV} {a : Nat} {k v : Int64} {x y z w : Value} (f : h a = some (.inr (0, [x, .long k, .long v, y, z, w]))) : qWi h (A ++ (k, v) :: B) k (some a) := Or.inl ⟨a, v, x, y, z, w, rfl, f, by simp⟩
theorem qWi.left {h : qH} {A B : qKV} {p : Int64 × Int64} {k : Int64} {r : Option Nat} (hs : qSo (A ++ p :: B)) (c : k.toInt < p.1.toInt) (g : qWi h A k r) : qWi h (A ++ p :: B) k r := by
  obtain ⟨-, -, h3, h4⟩ := hs.node
  rcases g with ⟨a, v, x, y, z, w, e, f, m⟩ | ⟨e, g⟩
  · exact Or.inl ⟨a, v, x, y, z, w, e, f, List.mem_append_left _ m⟩
  · refine Or.inr ⟨e, fun q hq => ?_⟩
    rcases List.mem_append.mp hq with hq | hq
    · exact g q hq
    · rcases List.mem_cons.mp hq with rfl | hq
      · intro e; rw [e] at c; omega
      · intro e; have := h4 q hq; rw [e] at this; omega
theorem qWi.right {h : qH} {A B : qKV} {p : Int64 × Int64} {k : Int64} {r : Option Nat} (hs : qSo (A ++ p :: B)) (c : p.1.toInt < k.toInt) (g : qWi h B k r) : qWi h (A ++ p :: B) k r := by
  obtain ⟨-, -, h3, h4⟩ := hs.node
  rcases g with ⟨a, v, x, y, z, w, e, f, m⟩ | ⟨e, g⟩
  · exact Or.inl ⟨a, v, x, y, z, w, e, f, List.mem_append_right _ (List.mem_cons_of_mem _ m)⟩
  · refine Or.inr ⟨e, fun q hq => ?_⟩
    rcases List.mem_append.mp hq with hq | hq
    · intro e; have := h3 q hq; rw [e] at this; omega
    · rcases List.mem_cons.mp hq with rfl | hq
      · intro e; rw [e] at c; omega
      · exact g q hq
/-- R is the union of O and W; W wins -/
def qUn (O W R : qKV) : Prop := qSo R ∧ (∀ e, e ∈ R ↔ e ∈ W ∨ (e ∈ O ∧ ∀ w ∈ W, w.1 ≠ e.1)) ∧ R.length ≤ O.length + W.length
theorem qUn.nilO {W : qKV} (h : qSo W) : qUn [] W W := ⟨h, fun e => by simp, by simp⟩
theorem qUn.nilW {O : qKV} (h : qSo O) : qUn O [] O := ⟨h, fun e => by simp, by simp⟩
theorem qmem_lo {L : qKV} {k : Int64} {e : Int64 × Int64} : e ∈ qLo L k ↔ e ∈ L ∧ e.1.toInt < k.toInt := by
  unfold qLo
  rw [List.mem_filter, decide_eq_true_eq]
theorem qmem_ab {L : qKV} {k : Int64} {e : Int64 × Int64} : e ∈ qAb L k 0 ↔ e ∈ L ∧ k.toInt < e.1.toInt := by
  rw [qAb_0, List.mem_filter, decide_eq_true_eq]
theorem qcut_len {L : qKV} {k : Int64} : (qLo L k).length + (qAb L k 0).length ≤ L.length := by
  rw [qAb_0]
  induction L with
  | nil => exact Nat.le_refl _
  | cons a L ih =>
    have e1 : (qLo L k).length = (L.filter (fun p => decide (p.1.toInt < k.toInt))).length := rfl
    show ((a :: L).filter _).length + _ ≤ _
    by_cases c : a.1.toInt < k.toInt
    · rw [List.filter_cons, if_pos (decide_eq_true c), List.filter_cons, if_neg (by simp; omega), List.length_cons, List.length_cons]
      omega
    · rw [List.filter_cons, if_neg (by simpa using c), List.length_cons]
      by_cases c2 : k.toInt < a.1.toInt
      · rw [List.filter_cons, if_pos (decide_eq_true c2), List.length_cons]
        omega
      · rw [List.filter_cons, if_neg (by simpa using c2)]
        omega
theorem qUn.node {O A B R1 R2 : qKV} {k v : Int64} (hW : qSo (A ++ (k, v) :: B)) (h1 : qUn (qLo O k) A R1) (h2 : qUn (qAb O k 0) B R2) : qUn O (A ++ (k, v) :: B) (R1 ++ (k, v) :: R2) := by
  obtain ⟨s1, m1, l1⟩ := h1
  obtain ⟨s2, m2, l2⟩ := h2
  obtain ⟨-, -, w3, w4⟩ := hW.node
  have b1 : ∀ x ∈ R1, x.1.toInt < k.toInt := fun x hx => by
    rcases (m1 x).mp hx with q | q
    · exact w3 x q
    · exact (qmem_lo.mp q.1).2
  have b2 : ∀ x ∈ R2, k.toInt < x.1.toInt := fun x hx => by
    rcases (m2 x).mp hx with q | q
    · exact w4 x q
    · exact (qmem_ab.mp q.1).2
  refine ⟨qSo.mk s1 s2 b1 b2, fun e => ?_, ?_⟩
  · simp only [List.mem_append, List.mem_cons]
    constructor
    · rintro (q | q | q)
      · rcases (m1 e).mp q with z | z
        · exact Or.inl (Or.inl z)
        · obtain ⟨z1, z2⟩ := qmem_lo.mp z.1
          refine Or.inr ⟨z1, fun w hw => ?_⟩
          rcases hw with hw | hw | hw
          · exact z.2 w hw
          · rw [hw]; intro q; rw [← q] at z2; exact absurd z2 (Int.lt_irrefl _)
          · intro q; have := w4 w hw; rw [q] at this; exact absurd z2 (by have : k.toInt < e.1.toInt := this; omega)
      · exact Or.inl (Or.inr (Or.inl q))
      · rcases (m2 e).mp q with z | z
        · exact Or.inl (Or.inr (Or.inr z))
        · obtain ⟨z1, z2⟩ := qmem_ab.mp z.1
          refine Or.inr ⟨z1, fun w hw => ?_⟩
          rcases hw with hw | hw | hw
          · intro q; have := w3 w hw; rw [q] at this; exact absurd z2 (by have : e.1.toInt < k.toInt := this; omega)
          · rw [hw]; intro q; rw [← q] at z2; exact absurd z2 (Int.lt_irrefl _)
          · exact z.2 w hw
    · rintro ((q | q | q) | ⟨q, z⟩)
      · exact Or.inl ((m1 e).mpr (Or.inl q))
      · exact Or.inr (Or.inl q)
      · exact Or.inr (Or.inr ((m2 e).mpr (Or.inl q)))
      · have nk : e.1 ≠ k := fun y => z (k, v) (Or.inr (Or.inl rfl)) y.symm
        have nk2 : e.1.toInt ≠ k.toInt := fun y => nk (Int64.toInt_inj.mp y)
        by_cases c : e.1.toInt < k.toInt
        · exact Or.inl ((m1 e).mpr (Or.inr ⟨qmem_lo.mpr ⟨q, c⟩, fun w hw => z w (Or.inl hw)⟩))
        · exact Or.inr (Or.inr ((m2 e).mpr (Or.inr ⟨qmem_ab.mpr ⟨q, by omega⟩, fun w hw => z w (Or.inr (Or.inr hw))⟩)))
  · have := qcut_len (L := O) (k := k)
    simp only [List.length_append, List.length_cons]
    omega
/-- how many keys of O are in W -/
def qCom (O W : qKV) : Nat := (O.filter (fun p => W.any (fun q => q.1 == p.1))).length
theorem qCom_app {A B W : qKV} {p : Int64 × Int64} : qCom (A ++ p :: B) W = (if W.any (fun q => q.1 == p.1) then 1 else 0) + qCom A W + qCom B W := by
  unfold qCom
  rw [List.filter_append, List.length_append]
  by_cases c : W.any (fun q => q.1 == p.1) = true
  · rw [List.filter_cons, if_pos c, if_pos c, List.length_cons]
    omega
  · rw [List.filter_cons, if_neg c, if_neg c]
    omega
theorem qCom_le {O W : qKV} : qCom O W ≤ O.length := List.length_filter_le _ _
/-- does p come for near, and which of them -/
def qFit (k : Int64) (way : Nat) (p : Int64 × Int64) : Bool := if way = 0 then decide (p.1.toInt < k.toInt) else if way = 1 then decide (p.1.toInt ≤ k.toInt) else if way = 2 then decide (k.toInt ≤ p.1.toInt) else decide (k.toInt < p.1.toInt)
def qBest (k : Int64) (way : Nat) (L : qKV) : Option (Int64 × Int64) := if way < 2 then (L.filter (qFit k way)).getLast? else (L.filter (qFit k way)).head?
theorem qBest_nil {k : Int64} {way : Nat} : qBest k way [] = none := by
  unfold qBest
  split <;> rfl
theorem qBest_up {k : Int64} {way : Nat} {A B : qKV} {p : Int64 × Int64} (hw : way < 2) (c : qFit k way p = true) : qBest k way (A ++ p :: B) = (qBest k way B).or (some p) := by
  unfold qBest
  rw [if_pos hw, if_pos hw, List.filter_append, List.filter_cons, if_pos c, List.getLast?_append, List.getLast?_cons]
  cases (B.filter (qFit k way)).getLast? <;> rfl
theorem qBest_up0 {k : Int64} {way : Nat} {A B : qKV} {p : Int64 × Int64} (hw : way < 2) (hs : qSo (A ++ p :: B)) (c : qFit k way p = false) : qBest k way (A ++ p :: B) = qBest k way A := by
  obtain ⟨-, -, -, h4⟩ := hs.node
  unfold qBest
  rw [if_pos hw, if_pos hw, List.filter_append, List.filter_cons, if_neg (by rw [c]; decide)]
  have e : B.filter (qFit k way) = [] := List.filter_eq_nil_iff.mpr (fun x hx => by
    have := h4 x hx
    unfold qFit at c ⊢
    rcases (show way = 0 ∨ way = 1 by omega) with rfl | rfl
    · simp at c ⊢; omega
    · simp at c ⊢; omega)
  rw [e, List.append_nil]
theorem qBest_dn {k : Int64} {way : Nat} {A B : qKV} {p : Int64 × Int64} (hw : ¬ way < 2) (c : qFit k way p = true) : qBest k way (A ++ p :: B) = (qBest k way A).or (some p) := by
  unfold qBest
  rw [if_neg hw, if_neg hw, List.filter_append, List.filter_cons, if_pos c, List.head?_append]
  rfl
theorem qBest_dn0 {k : Int64} {way : Nat} {A B : qKV} {p : Int64 × Int64} (hw : ¬ way < 2) (h3 : way < 4) (hs : qSo (A ++ p :: B)) (c : qFit k way p = false) : qBest k way (A ++ p :: B) = qBest k way B := by
  obtain ⟨-, -, h4, -⟩ := hs.node
  unfold qBest
  rw [if_neg hw, if_neg hw, List.filter_append, List.filter_cons, if_neg (by rw [c]; decide)]
  have e : A.filter (qFit k way) = [] := List.filter_eq_nil_iff.mpr (fun x hx => by
    have := h4 x hx
    unfold qFit at c ⊢
    rcases (show way = 2 ∨ way = 3 by omega) with rfl | rfl
    · simp at c ⊢; omega
    · simp at c ⊢; omega)
  rw [e, List.nil_append]
/-- r is the Branch of that pair, or null -/
def qNd (h : qH) (r : Option Nat) (o : Option (Int64 × Int64)) : Prop := (r = none ∧ o = none) ∨ ∃ (a : Nat) (k v : Int64) (x y z w : Value), r = some a ∧ o = some (k, v) ∧ h a = some (.inr (0, [x, .long k, .long v, y, z, w]))
