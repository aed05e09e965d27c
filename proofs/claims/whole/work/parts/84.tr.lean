/-! MAP, SET: the nodes in the heap. Im: what is never changed again; e: the edit that goes on; X: what it may change -/
def thNo (d ow kb nb n ka va na : Nat) : va_E := .inr (3, [.int (nI d), .int (nI ow), .int (nI kb), .int (nI nb), .int (nI n), .ref ka, .ref va, .ref na])
def thJ (cy : Nat → ClassId) (K : List Int64) : va_E := .inl (cy 1, K.length, .inr (.inl (fun j => K.getD j 0)))
def thA (cy : Nat → ClassId) (n : Nat) (C : Nat → Nat) : va_E := .inl (cy 4, n, .inr (.inr (.inr (.inr (fun j => some (C j))))))
def thNd (cy : Nat → ClassId) (h : qH) (Im : Nat → Prop) (e : Nat) (Ok : Nat → Prop) (m : Int32) (r a : Nat) (L : qKV) (n : Nat) (X : Nat → Prop) (ow ka va na : Nat) (C : Nat → Nat) : Prop :=
  h a = some (thNo (7 - r) ow (trKb m r L) (trNb m r L) n ka va na) ∧ h ka = some (thJ cy ((trK m r L).map Prod.fst)) ∧ h va = some (thJ cy ((trK m r L).map Prod.snd)) ∧ h na = some (thA cy (trM m r L).length C) ∧ Im ka ∧ ow < 2 ^ 31 ∧
  ((ow = e ∧ X a ∧ (trK m r L ≠ [] → X va) ∧ (trK m r L = [] → Im va) ∧ (trM m r L ≠ [] → X na) ∧ (trM m r L = [] → Im na)) ∨ (Ok ow ∧ Im a ∧ Im va ∧ Im na))
/-- a node's nodes keep to themselves -/
def thXs (n a va na : Nat) (X : Nat → Prop) (Xs : Nat → Nat → Prop) : Prop := (∀ j, j < n → ∀ b, Xs j b → X b ∧ b ≠ a ∧ b ≠ va ∧ b ≠ na) ∧ ∀ i j, i < n → j < n → i ≠ j → ∀ b, Xs i b → ¬ Xs j b
def qTr (cy : Nat → ClassId) (h : qH) (Im : Nat → Prop) (e : Nat) (Ok : Nat → Prop) (m : Int32) : Nat → Nat → qKV → (Nat → Prop) → Prop
  | 0, a, L, X => ∃ (ow ka va na : Nat) (C : Nat → Nat), thNd cy h Im e Ok m 0 a L L.length X ow ka va na C
  | r + 1, a, L, X => ∃ (ow ka va na : Nat) (C : Nat → Nat) (Xs : Nat → Nat → Prop), thNd cy h Im e Ok m (r + 1) a L L.length X ow ka va na C ∧ thXs (trM m (r + 1) L).length a va na X Xs ∧ ∀ j v, (trM m (r + 1) L)[j]? = some v → qTr cy h Im e Ok m r (C j) (thK m (6 - r) v L) (Xs j)
section QTR
variable {cy : Nat → ClassId} {h h' : qH} {Im Im' : Nat → Prop} {e : Nat} {Ok Ok' : Nat → Prop} {m : Int32}
theorem qTr.inv {r a : Nat} {L : qKV} {X : Nat → Prop} (t : qTr cy h Im e Ok m r a L X) : ∃ (ow ka va na : Nat) (C : Nat → Nat) (Xs : Nat → Nat → Prop), thNd cy h Im e Ok m r a L L.length X ow ka va na C ∧ thXs (trM m r L).length a va na X Xs ∧ ∀ j v, (trM m r L)[j]? = some v → ∃ r', r = r' + 1 ∧ qTr cy h Im e Ok m r' (C j) (thK m (6 - r') v L) (Xs j) := by
  cases r with
  | zero =>
    obtain ⟨ow, ka, va, na, C, g⟩ := t
    exact ⟨ow, ka, va, na, C, fun _ _ => False, g, ⟨fun j _ b z => z.elim, fun i j _ _ _ b z => z.elim⟩, fun j v z => by cases z⟩
  | succ r =>
    obtain ⟨ow, ka, va, na, C, Xs, g, x, k⟩ := t
    exact ⟨ow, ka, va, na, C, Xs, g, x, fun j v z => ⟨r, rfl, k j v z⟩⟩
theorem qTr.mk {r a : Nat} {L : qKV} {X : Nat → Prop} {ow ka va na : Nat} {C : Nat → Nat} {Xs : Nat → Nat → Prop} (g : thNd cy h Im e Ok m r a L L.length X ow ka va na C) (x : thXs (trM m r L).length a va na X Xs) (k : ∀ j v, (trM m r L)[j]? = some v → ∃ r', r = r' + 1 ∧ qTr cy h Im e Ok m r' (C j) (thK m (6 - r') v L) (Xs j)) : qTr cy h Im e Ok m r a L X := by
  cases r with
  | zero => exact ⟨ow, ka, va, na, C, g⟩
  | succ r =>
    refine ⟨ow, ka, va, na, C, Xs, g, x, fun j v z => ?_⟩
    obtain ⟨r', e, t⟩ := k j v z
    cases e
    exact t
/-- where its cells are kept the node is kept -/
theorem thNd.keep {r a n : Nat} {L : qKV} {X : Nat → Prop} {ow ka va na : Nat} {C : Nat → Nat} (g : thNd cy h Im e Ok m r a L n X ow ka va na C) (k : ∀ b o, h b = some o → Im b ∨ X b → h' b = some o) (ki : ∀ b, Im b → Im' b) : thNd cy h' Im' e Ok m r a L n X ow ka va na C := by
  obtain ⟨g1, g2, g3, g4, g5, g6, g7⟩ := g
  have ga : Im a ∨ X a := by
    rcases g7 with ⟨-, x, -⟩ | ⟨-, x, -⟩
    · exact Or.inr x
    · exact Or.inl x
  have gv : Im va ∨ X va := by
    rcases g7 with ⟨-, -, x, y, -, -⟩ | ⟨-, -, x, -⟩
    · by_cases z : trK m r L = []
      · exact Or.inl (y z)
      · exact Or.inr (x z)
    · exact Or.inl x
  have gn : Im na ∨ X na := by
    rcases g7 with ⟨-, -, -, -, x, y⟩ | ⟨-, -, -, x⟩
    · by_cases z : trM m r L = []
      · exact Or.inl (y z)
      · exact Or.inr (x z)
    · exact Or.inl x
  refine ⟨k _ _ g1 ga, k _ _ g2 (Or.inl g5), k _ _ g3 gv, k _ _ g4 gn, ki _ g5, g6, ?_⟩
  rcases g7 with ⟨y1, y2, y3, y4, y5, y6⟩ | ⟨y1, y2, y3, y4⟩
  · exact Or.inl ⟨y1, y2, y3, fun z => ki _ (y4 z), y5, fun z => ki _ (y6 z)⟩
  · exact Or.inr ⟨y1, ki _ y2, ki _ y3, ki _ y4⟩
theorem qTr.keep : ∀ {r a : Nat} {L : qKV} {X : Nat → Prop}, qTr cy h Im e Ok m r a L X → (∀ b o, h b = some o → Im b ∨ X b → h' b = some o) → (∀ b, Im b → Im' b) → qTr cy h' Im' e Ok m r a L X
  | 0, a, L, X, t, k, ki => by
    obtain ⟨ow, ka, va, na, C, g⟩ := t
    exact ⟨ow, ka, va, na, C, g.keep k ki⟩
  | r + 1, a, L, X, t, k, ki => by
    obtain ⟨ow, ka, va, na, C, Xs, g, x, q⟩ := t
    refine ⟨ow, ka, va, na, C, Xs, g.keep k ki, x, fun j v z => (q j v z).keep (fun b o hb hx => k b o hb ?_) ki⟩
    rcases hx with hx | hx
    · exact Or.inl hx
    · exact Or.inr (x.1 j (List.getElem?_eq_some_iff.mp z).1 b hx).1
theorem thNd.monoX {r a n : Nat} {L : qKV} {X X' : Nat → Prop} {ow ka va na : Nat} {C : Nat → Nat} (g : thNd cy h Im e Ok m r a L n X ow ka va na C) (k : ∀ b, X b → X' b) : thNd cy h Im e Ok m r a L n X' ow ka va na C := by
  obtain ⟨g1, g2, g3, g4, g5, g6, g7⟩ := g
  refine ⟨g1, g2, g3, g4, g5, g6, ?_⟩
  rcases g7 with ⟨y1, y2, y3, y4, y5, y6⟩ | y
  · exact Or.inl ⟨y1, k _ y2, fun z => k _ (y3 z), y4, fun z => k _ (y5 z), y6⟩
  · exact Or.inr y
theorem qTr.monoX {r a : Nat} {L : qKV} {X X' : Nat → Prop} (t : qTr cy h Im e Ok m r a L X) (k : ∀ b, X b → X' b) : qTr cy h Im e Ok m r a L X' := by
  obtain ⟨ow, ka, va, na, C, Xs, g, x, q⟩ := t.inv
  exact qTr.mk (g.monoX k) ⟨fun j hj b z => ⟨k _ (x.1 j hj b z).1, (x.1 j hj b z).2⟩, x.2⟩ q
/-- an edit has ended: what it made is never changed again -/
theorem qTr.ends : ∀ {r a : Nat} {L : qKV} {X : Nat → Prop}, qTr cy h Im e Ok m r a L X → ∀ {e' : Nat}, (∀ b, Im b → Im' b) → (∀ b, X b → Im' b) → (∀ o, Ok o → Ok' o) → ((∃ b, X b) → Ok' e) → qTr cy h Im' e' Ok' m r a L (fun _ => False)
  | r, a, L, X, t, e', k1, k2, k3, k4 => by
    have key : ∀ {ow ka va na : Nat} {C : Nat → Nat}, thNd cy h Im e Ok m r a L L.length X ow ka va na C → thNd cy h Im' e' Ok' m r a L L.length (fun _ => False) ow ka va na C := fun g => by
      obtain ⟨g1, g2, g3, g4, g5, g6, g7⟩ := g
      refine ⟨g1, g2, g3, g4, k1 _ g5, g6, Or.inr ?_⟩
      rcases g7 with ⟨y1, y2, y3, y4, y5, y6⟩ | ⟨y1, y2, y3, y4⟩
      · refine ⟨y1 ▸ k4 ⟨_, y2⟩, k2 _ y2, ?_, ?_⟩
        · by_cases z : trK m r L = []
          · exact k1 _ (y4 z)
          · exact k2 _ (y3 z)
        · by_cases z : trM m r L = []
          · exact k1 _ (y6 z)
          · exact k2 _ (y5 z)
      · exact ⟨k3 _ y1, k1 _ y2, k1 _ y3, k1 _ y4⟩
    cases r with
    | zero =>
      obtain ⟨ow, ka, va, na, C, g⟩ := t
      exact ⟨ow, ka, va, na, C, key g⟩
    | succ r =>
      obtain ⟨ow, ka, va, na, C, Xs, g, x, q⟩ := t
      refine ⟨ow, ka, va, na, C, fun _ _ => False, key g, ⟨fun j _ b z => z.elim, fun i j _ _ _ b z => z.elim⟩, fun j v z => ?_⟩
      have hj := (List.getElem?_eq_some_iff.mp z).1
      exact (q j v z).ends k1 (fun b hb => k2 b (x.1 j hj b hb).1) k3 (fun ⟨b, hb⟩ => k4 ⟨b, (x.1 j hj b hb).1⟩)
theorem qTr.fi {r a : Nat} {L : qKV} {X : Nat → Prop} (t : qTr cy h Im e Ok m r a L X) : qFi h 3 4 (some a) (nI L.length) := by
  obtain ⟨ow, ka, va, na, C, Xs, g, -, -⟩ := t.inv
  exact Or.inr ⟨a, _, rfl, g.1, rfl⟩
end QTR
theorem thB_s {m : Int32} {r : Nat} {k : Int64} (hr : r + 1 ≤ 7) : thB m (7 - (r + 1)) k = 2 ^ thN m (6 - r) k := by
  unfold thB
  rw [if_pos (by omega), show 7 - (r + 1) = 6 - r by omega]
theorem thB_0 {m : Int32} {k : Int64} : thB m (7 - 0) k = 0 := rfl
/-- where a key's way ends -/
def thHm (m : Int32) (k : Int64) : Nat → qKV → Nat × qKV
  | 0, L => (0, L)
  | r + 1, L => if thM m (6 - r) L (thN m (6 - r) k) = true then thHm m k r (thK m (6 - r) (thN m (6 - r) k) L) else (r + 1, L)
/-- a MAP's or SET's root: null where it is empty -/
def qRt (cy : Nat → ClassId) (h : qH) (Im : Nat → Prop) (e : Nat) (Ok : Nat → Prop) (m : Int32) (x : Option Nat) (L : qKV) (X : Nat → Prop) : Prop := (x = none ∧ L = []) ∨ ∃ a, x = some a ∧ L ≠ [] ∧ qTr cy h Im e Ok m 7 a L X
theorem thHm_le {m : Int32} {k : Int64} : ∀ (r : Nat) (L : qKV), (thHm m k r L).1 ≤ r
  | 0, L => Nat.le_refl _
  | r + 1, L => by
    show (if thM m (6 - r) L (thN m (6 - r) k) = true then thHm m k r (thK m (6 - r) (thN m (6 - r) k) L) else (r + 1, L)).1 ≤ r + 1
    split
    · have := thHm_le (m := m) (k := k) r (thK m (6 - r) (thN m (6 - r) k) L); omega
    · exact Nat.le_refl _
theorem thHm_mem {m : Int32} {k : Int64} : ∀ (r : Nat) (L : qKV) (p : Int64 × Int64), p ∈ (thHm m k r L).2 → p ∈ L
  | 0, L, p, h => h
  | r + 1, L, p, h => by
    have h : p ∈ (if thM m (6 - r) L (thN m (6 - r) k) = true then thHm m k r (thK m (6 - r) (thN m (6 - r) k) L) else (r + 1, L)).2 := h
    split at h
    · exact (thK_mem.mp (thHm_mem r _ p h)).1
    · exact h
theorem thHm_no {m : Int32} {k : Int64} : ∀ (r : Nat) (L : qKV), qNo L → qNo (thHm m k r L).2
  | 0, L, h => h
  | r + 1, L, h => by
    show qNo (if thM m (6 - r) L (thN m (6 - r) k) = true then thHm m k r (thK m (6 - r) (thN m (6 - r) k) L) else (r + 1, L)).2
    split
    · exact thHm_no r _ (qNo_k h)
    · exact h
/-- keys of the same hash have the same numbers -/
theorem thN_same {m : Int32} {d : Nat} {k k' : Int64} (h : thH m k = thH m k') : thN m d k = thN m d k' := by unfold thN; rw [h]
/-- at the way's end: no node for the key below -/
theorem thHm_end {m : Int32} {k : Int64} : ∀ (r : Nat) (L : qKV) (r' : Nat), (thHm m k r L).1 = r' + 1 → thM m (6 - r') (thHm m k r L).2 (thN m (6 - r') k) = false
  | 0, L, r', h => by cases h
  | r + 1, L, r', h => by
    have h : (if thM m (6 - r) L (thN m (6 - r) k) = true then thHm m k r (thK m (6 - r) (thN m (6 - r) k) L) else (r + 1, L)).1 = r' + 1 := h
    show thM m (6 - r') (if thM m (6 - r) L (thN m (6 - r) k) = true then thHm m k r (thK m (6 - r) (thN m (6 - r) k) L) else (r + 1, L)).2 (thN m (6 - r') k) = false
    by_cases c : thM m (6 - r) L (thN m (6 - r) k) = true
    · rw [if_pos c] at h ⊢
      exact thHm_end r _ r' h
    · rw [if_neg c] at h ⊢
      cases h
      exact Bool.not_eq_true _ ▸ c
/-- what has the key's hash is there -/
theorem thHm_al {m : Int32} {k : Int64} : ∀ (r : Nat) (L : qKV), L.filter (fun p => decide (thH m p.1 = thH m k)) = (thHm m k r L).2.filter (fun p => decide (thH m p.1 = thH m k))
  | 0, L => rfl
  | r + 1, L => by
    show _ = (if thM m (6 - r) L (thN m (6 - r) k) = true then thHm m k r (thK m (6 - r) (thN m (6 - r) k) L) else (r + 1, L)).2.filter _
    split
    · rw [← thHm_al r]
      unfold thK
      rw [List.filter_filter]
      refine List.filter_congr fun p _ => ?_
      by_cases c : thH m p.1 = thH m k
      · simp [c, thN_same (d := 6 - r) c]
      · simp [c]
    · rfl
theorem thHm_has {m : Int32} {k : Int64} : ∀ (r : Nat) (L : qKV) (p : Int64 × Int64), p.1 = k → (p ∈ L ↔ p ∈ (thHm m k r L).2)
  | 0, L, p, _ => Iff.rfl
  | r + 1, L, p, e => by
    show _ ↔ p ∈ (if thM m (6 - r) L (thN m (6 - r) k) = true then thHm m k r (thK m (6 - r) (thN m (6 - r) k) L) else (r + 1, L)).2
    split
    · rw [← thHm_has r _ p e, thK_mem, e]
      exact ⟨fun h => ⟨h, rfl⟩, fun h => h.1⟩
    · exact Iff.rfl
/-- in the last node a key stands in it or nowhere -/
theorem thEnd_has {m : Int32} {k : Int64} {r : Nat} {L : qKV} (he : ∀ r', r = r' + 1 → thM m (6 - r') L (thN m (6 - r') k) = false) (p : Int64 × Int64) (e : p.1 = k) : p ∈ L ↔ p ∈ trK m r L := by
  cases r with
  | zero => exact (thO_perm L).mem_iff.symm
  | succ r =>
    rw [trK_mem]
    constructor
    · intro hp
      refine ⟨hp, ?_⟩
      have h1 := he r rfl
      unfold thM at h1
      have h1 := of_decide_eq_false h1
      have h2 : p ∈ thK m (6 - r) (thN m (6 - r) k) L := thK_mem.mpr ⟨hp, by rw [e]⟩
      have h3 := List.length_pos_of_mem h2
      unfold thS
      rw [e]
      exact decide_eq_true (by omega)
    · exact fun h => h.1
theorem thEnd_al {m : Int32} {k : Int64} {r : Nat} {L : qKV} (he : ∀ r', r = r' + 1 → thM m (6 - r') L (thN m (6 - r') k) = false) : ((trK m r L).filter (fun p => decide (thH m p.1 = thH m k))).length = (L.filter (fun p => decide (thH m p.1 = thH m k))).length := by
  cases r with
  | zero => exact (List.Perm.filter _ (thO_perm L)).length_eq
  | succ r =>
    show (((List.range 32).flatMap (thF m (6 - r) L)).filter _).length = _
    have e1 : L.filter (fun p => decide (thH m p.1 = thH m k)) = (thK m (6 - r) (thN m (6 - r) k) L).filter (fun p => decide (thH m p.1 = thH m k)) := by
      unfold thK
      rw [List.filter_filter]
      refine List.filter_congr fun p _ => ?_
      by_cases c : thH m p.1 = thH m k
      · simp [c, thN_same (d := 6 - r) c]
      · simp [c]
    have e2 : ∀ u, u ≠ thN m (6 - r) k → (thF m (6 - r) L u).filter (fun p => decide (thH m p.1 = thH m k)) = [] := fun u hu => by
      refine List.filter_eq_nil_iff.mpr fun p hp => ?_
      unfold thF at hp
      split at hp
      · have := (thK_mem.mp hp).2
        have h9 : ¬ thH m p.1 = thH m k := fun z => hu (by rw [← this]; exact thN_same z)
        simp [h9]
      · cases hp
    have e3 : ∀ l : List Nat, (∀ u ∈ l, u ≠ thN m (6 - r) k) → (l.flatMap (thF m (6 - r) L)).filter (fun p => decide (thH m p.1 = thH m k)) = [] := fun l hl => by
      induction l with
      | nil => rfl
      | cons u l ih =>
        rw [List.flatMap_cons, List.filter_append, e2 u (hl u List.mem_cons_self), ih (fun w hw => hl w (List.mem_cons_of_mem _ hw))]
        rfl
    rw [thCut (v := thN m (6 - r) k) thN_lt, List.filter_append, List.filter_append, e3 _ (fun u hu e => by have := List.mem_range.mp hu; omega), e3 _ (fun u hu e => ?_), List.nil_append, List.append_nil, e1]
    · have h1 := he r rfl
      unfold thM at h1
      have h1 := of_decide_eq_false h1
      unfold thF thS
      by_cases c : (thK m (6 - r) (thN m (6 - r) k) L).length = 1
      · rw [if_pos (decide_eq_true c)]
      · rw [if_neg (by rw [decide_eq_true_iff]; exact c), show thK m (6 - r) (thN m (6 - r) k) L = [] from List.eq_nil_of_length_eq_zero (by omega)]
    · subst e
      obtain ⟨i, hi, e⟩ := List.mem_iff_getElem.mp hu
      rw [List.getElem_drop, List.getElem_range] at e
      omega
