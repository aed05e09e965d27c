/-! a node's nodes after an edit -/
def thXi (Xs : Nat → Nat → Prop) (p : Nat) (X1 : Nat → Prop) : Nat → Nat → Prop := fun j => if j < p then Xs j else if j = p then X1 else Xs (j - 1)
def thXe (Xs : Nat → Nat → Prop) (p : Nat) : Nat → Nat → Prop := fun j => if j < p then Xs j else Xs (j + 1)
def thXu (Xs : Nat → Nat → Prop) (p : Nat) (X1 : Nat → Prop) : Nat → Nat → Prop := fun j => if j = p then X1 else Xs j
theorem idx_in {P Q : List Nat} {v u j : Nat} (h : (P ++ v :: Q)[j]? = some u) : (j < P.length ∧ (P ++ Q)[j]? = some u) ∨ (j = P.length ∧ u = v) ∨ (P.length < j ∧ (P ++ Q)[j - 1]? = some u) := by
  rcases Nat.lt_trichotomy j P.length with c | c | c
  · left
    rw [List.getElem?_append_left c] at h ⊢
    exact ⟨c, h⟩
  · right; left
    subst c
    rw [List.getElem?_append_right (Nat.le_refl _), Nat.sub_self] at h
    cases h
    exact ⟨rfl, rfl⟩
  · right; right
    refine ⟨c, ?_⟩
    rw [List.getElem?_append_right (by omega)] at h ⊢
    rw [show j - P.length = (j - 1 - P.length) + 1 by omega, List.getElem?_cons_succ] at h
    exact h
theorem idx_er {P Q : List Nat} {v u j : Nat} (h : (P ++ Q)[j]? = some u) : (j < P.length ∧ (P ++ v :: Q)[j]? = some u) ∨ (P.length ≤ j ∧ (P ++ v :: Q)[j + 1]? = some u) := by
  by_cases c : j < P.length
  · left
    rw [List.getElem?_append_left c] at h ⊢
    exact ⟨c, h⟩
  · right
    refine ⟨by omega, ?_⟩
    rw [List.getElem?_append_right (by omega)] at h ⊢
    rw [show j + 1 - P.length = (j - P.length) + 1 by omega, List.getElem?_cons_succ]
    exact h
section KIDS
variable {cy : Nat → ClassId} {h : qH} {Im : Nat → Prop} {e : Nat} {Ok : Nat → Prop} {m : Int32} {r : Nat} {L L' : qKV} {C : Nat → Nat} {Xs : Nat → Nat → Prop} {X1 : Nat → Prop} {b v : Nat} {P Q : List Nat}
theorem kids_in (e1 : trM m (r + 1) L = P ++ Q) (e2 : trM m (r + 1) L' = P ++ v :: Q) (hk : ∀ j u, (trM m (r + 1) L)[j]? = some u → qTr cy h Im e Ok m r (C j) (thK m (6 - r) u L') (Xs j)) (T : qTr cy h Im e Ok m r b (thK m (6 - r) v L') X1) : ∀ j u, (trM m (r + 1) L')[j]? = some u → qTr cy h Im e Ok m r (thCi C P.length b j) (thK m (6 - r) u L') (thXi Xs P.length X1 j) := by
  intro j u hj
  rw [e2] at hj
  rw [e1] at hk
  unfold thCi thXi
  rcases idx_in hj with ⟨c, g⟩ | ⟨c, g⟩ | ⟨c, g⟩
  · rw [if_pos c, if_pos c]; exact hk j u g
  · rw [if_neg (by omega), if_pos c, if_neg (by omega), if_pos c, g]; exact T
  · rw [if_neg (by omega), if_neg (by omega), if_neg (by omega), if_neg (by omega)]; exact hk (j - 1) u g
theorem kids_er (e1 : trM m (r + 1) L = P ++ v :: Q) (e2 : trM m (r + 1) L' = P ++ Q) (hk : ∀ j u, (trM m (r + 1) L)[j]? = some u → j ≠ P.length → qTr cy h Im e Ok m r (C j) (thK m (6 - r) u L') (Xs j)) : ∀ j u, (trM m (r + 1) L')[j]? = some u → qTr cy h Im e Ok m r (thCe C P.length j) (thK m (6 - r) u L') (thXe Xs P.length j) := by
  intro j u hj
  rw [e2] at hj
  rw [e1] at hk
  unfold thCe thXe
  rcases idx_er (v := v) hj with ⟨c, g⟩ | ⟨c, g⟩
  · rw [if_pos c, if_pos c]; exact hk j u g (by omega)
  · rw [if_neg (by omega), if_neg (by omega)]; exact hk (j + 1) u g (by omega)
theorem kids_up (e1 : trM m (r + 1) L = P ++ v :: Q) (e2 : trM m (r + 1) L' = P ++ v :: Q) (hk : ∀ j u, (trM m (r + 1) L)[j]? = some u → j ≠ P.length → qTr cy h Im e Ok m r (C j) (thK m (6 - r) u L') (Xs j)) (T : qTr cy h Im e Ok m r b (thK m (6 - r) v L') X1) : ∀ j u, (trM m (r + 1) L')[j]? = some u → qTr cy h Im e Ok m r (qU C P.length b j) (thK m (6 - r) u L') (thXu Xs P.length X1 j) := by
  intro j u hj
  rw [e2] at hj
  rw [e1] at hk
  unfold qU thXu
  by_cases c : j = P.length
  · rw [if_pos c, if_pos c]
    subst c
    rw [List.getElem?_append_right (Nat.le_refl _), Nat.sub_self] at hj
    cases hj
    exact T
  · rw [if_neg c, if_neg c]; exact hk j u hj c
end KIDS
theorem thXs.ins {n a va na va' na' p : Nat} {X X' X1 : Nat → Prop} {Xs : Nat → Nat → Prop} (x : thXs n a va na X Xs) (hp : p ≤ n) (k : ∀ b, X b → X' b ∧ b ≠ va' ∧ b ≠ na' ∨ (b = a ∨ b = va ∨ b = na)) (k1 : ∀ b, X1 b → (X' b ∧ b ≠ a ∧ b ≠ va' ∧ b ≠ na') ∧ ¬ X b) : thXs (n + 1) a va' na' X' (thXi Xs p X1) := by
  have g : ∀ j, j < n → ∀ b, Xs j b → X' b ∧ b ≠ a ∧ b ≠ va' ∧ b ≠ na' := fun j hj b z => by
    obtain ⟨z1, z2, z3, z4⟩ := x.1 j hj b z
    rcases k b z1 with q | q | q | q
    · exact ⟨q.1, z2, q.2⟩
    · exact absurd q z2
    · exact absurd q z3
    · exact absurd q z4
  have no : ∀ j, j < n → ∀ b, Xs j b → ¬ X1 b := fun j hj b z z1 => (k1 b z1).2 (x.1 j hj b z).1
  refine ⟨fun j hj b z => ?_, fun i j hi hj ij b zi zj => ?_⟩
  · unfold thXi at z
    split at z
    · exact g j (by omega) b z
    · split at z
      · exact (k1 b z).1
      · exact g (j - 1) (by omega) b z
  · unfold thXi at zi zj
    split at zi
    · split at zj
      · exact x.2 i j (by omega) (by omega) ij b zi zj
      · split at zj
        · exact no i (by omega) b zi zj
        · exact x.2 i (j - 1) (by omega) (by omega) (by omega) b zi zj
    · split at zi
      · split at zj
        · exact no j (by omega) b zj zi
        · split at zj
          · omega
          · exact no (j - 1) (by omega) b zj zi
      · split at zj
        · exact x.2 (i - 1) j (by omega) (by omega) (by omega) b zi zj
        · split at zj
          · exact no (i - 1) (by omega) b zi zj
          · exact x.2 (i - 1) (j - 1) (by omega) (by omega) (by omega) b zi zj
theorem thXs.del {n a va na va' na' p : Nat} {X X' : Nat → Prop} {Xs : Nat → Nat → Prop} (x : thXs n a va na X Xs) (hp : p < n) (k : ∀ b, X b → X' b ∧ b ≠ va' ∧ b ≠ na' ∨ (b = a ∨ b = va ∨ b = na)) : thXs (n - 1) a va' na' X' (thXe Xs p) := by
  have g : ∀ j, j < n → ∀ b, Xs j b → X' b ∧ b ≠ a ∧ b ≠ va' ∧ b ≠ na' := fun j hj b z => by
    obtain ⟨z1, z2, z3, z4⟩ := x.1 j hj b z
    rcases k b z1 with q | q | q | q
    · exact ⟨q.1, z2, q.2⟩
    · exact absurd q z2
    · exact absurd q z3
    · exact absurd q z4
  refine ⟨fun j hj b z => ?_, fun i j hi hj ij b zi zj => ?_⟩
  · unfold thXe at z
    split at z
    · exact g j (by omega) b z
    · exact g (j + 1) (by omega) b z
  · unfold thXe at zi zj
    split at zi
    · split at zj
      · exact x.2 i j (by omega) (by omega) ij b zi zj
      · exact x.2 i (j + 1) (by omega) (by omega) (by omega) b zi zj
    · split at zj
      · exact x.2 (i + 1) j (by omega) (by omega) (by omega) b zi zj
      · exact x.2 (i + 1) (j + 1) (by omega) (by omega) (by omega) b zi zj
theorem thXs.upd {n a va na p : Nat} {X X' X1 : Nat → Prop} {Xs : Nat → Nat → Prop} (x : thXs n a va na X Xs) (k : ∀ b, X b → X' b) (k1 : ∀ b, X1 b → (X' b ∧ b ≠ a ∧ b ≠ va ∧ b ≠ na) ∧ ∀ j, j < n → j ≠ p → ¬ Xs j b) : thXs n a va na X' (thXu Xs p X1) := by
  refine ⟨fun j hj b z => ?_, fun i j hi hj ij b zi zj => ?_⟩
  · unfold thXu at z
    split at z
    · exact (k1 b z).1
    · exact ⟨k _ (x.1 j hj b z).1, (x.1 j hj b z).2⟩
  · unfold thXu at zi zj
    split at zi
    · split at zj
      · omega
      · exact (k1 b zi).2 j hj (by assumption) zj
    · split at zj
      · exact (k1 b zj).2 i hi (by assumption) zi
      · exact x.2 i j hi hj ij b zi zj
theorem qTr.root {cy : Nat → ClassId} {h : qH} {Im : Nat → Prop} {e : Nat} {Ok : Nat → Prop} {m : Int32} {r a : Nat} {L : qKV} {X : Nat → Prop} (t : qTr cy h Im e Ok m r a L X) : (Im a ∨ X a) ∧ ∃ fs, h a = some (.inr (3, fs)) := by
  obtain ⟨ow, ka, va, na, C, Xs, g, -, -⟩ := t.inv
  refine ⟨?_, _, g.1⟩
  rcases g.2.2.2.2.2.2 with ⟨-, y, -⟩ | ⟨-, y, -⟩
  · exact Or.inr y
  · exact Or.inl y
/-- an owned node: its cells may be changed -/
theorem qOw.own {cy : Nat → ClassId} {h : qH} {Im : Nat → Prop} {e : Nat} {Ok : Nat → Prop} {m : Int32} {r a n : Nat} {L : qKV} {X : Nat → Prop} {ka va na : Nat} {C : Nat → Nat} {Xs : Nat → Nat → Prop} (w : qOw cy h Im e Ok m r a L n X ka va na C Xs) (ne : ¬ Ok e) : X a ∧ (trK m r L ≠ [] → X va) ∧ (trK m r L = [] → Im va) ∧ (trM m r L ≠ [] → X na) ∧ (trM m r L = [] → Im na) := by
  rcases w.1.2.2.2.2.2.2 with ⟨-, y⟩ | ⟨y, -⟩
  · exact y
  · exact absurd y ne
theorem qOw.child {cy : Nat → ClassId} {h : qH} {Im : Nat → Prop} {e : Nat} {Ok : Nat → Prop} {m : Int32} {r a n : Nat} {L : qKV} {X : Nat → Prop} {ka va na : Nat} {C : Nat → Nat} {Xs : Nat → Nat → Prop} (w : qOw cy h Im e Ok m r a L n X ka va na C Xs) (ne : ¬ Ok e) (hE : qEd cy h Im X) {j : Nat} (hj : j < (trM m r L).length) : C j ≠ a ∧ ∃ fs, h (C j) = some (.inr (3, fs)) := by
  obtain ⟨r', rfl, t⟩ := w.2.2 j _ (List.getElem?_eq_getElem hj)
  obtain ⟨h1, h2⟩ := t.root
  refine ⟨fun z => ?_, h2⟩
  rcases h1 with q | q
  · exact hE.1 a (w.own ne).1 (z ▸ q)
  · exact (w.2.1.1 j hj _ q).2.1 z
