/-! Branch: what its reads and cuts say of the list -/
theorem qBrF.k0 {h h' : qH} (k : ∀ a fs, h a = some (.inr (0, fs)) → (.inr (0, fs) : va_E) ≠ qBk → h' a = some (.inr (0, fs))) : ∀ {f : Nat} {n : Nat} {r : Option Nat} {L : qKV}, qBrF h f n r L → qBrF h' f n r L
  | 0, _, _, _, hb => hb
  | f + 1, n, r, L, hb => by
    rcases hb with hb | ⟨a, l, k1, v, r2, i, j, A, B, h1, h2, h3, h4, h5, h6⟩
    · exact Or.inl hb
    · refine Or.inr ⟨a, l, k1, v, r2, i, j, A, B, h1, k _ _ h2 (fun e => ?_), h3.k0 k, h4.k0 k, h5, h6⟩
      exact qbk_ne (h := h) (a := a) h2 (Nat.zero_lt_of_lt h6.1) h6.2.2.2.2.2 (by rw [h2, e]) rfl
theorem qBr.k0 {h h' : qH} {n : Nat} {r : Option Nat} {L : qKV} (hb : qBr h n r L) (k : ∀ a fs, h a = some (.inr (0, fs)) → (.inr (0, fs) : va_E) ≠ qBk → h' a = some (.inr (0, fs))) : qBr h' n r L := by
  obtain ⟨f, hb⟩ := hb
  exact ⟨f, hb.k0 k⟩
theorem qBr.setl {h : qH} {n : Nat} {r : Option Nat} {L : qKV} (hb : qBr h n r L) {b : Nat} {x x' : ClassId × vp_A} (e : h b = some (.inl x)) : qBr (qs h b (.inl x')) n r L := hb.k0 (fun a fs z _ => by rw [qs_ne (fun q => by subst q; rw [e] at z; cases z)]; exact z)
theorem qBr.seto {h : qH} {n : Nat} {r : Option Nat} {L : qKV} (hb : qBr h n r L) {b ci : Nat} {fs2 : List Value} {o : va_E} (e : h b = some (.inr (ci, fs2))) (hc : ci ≠ 0) : qBr (qs h b o) n r L := hb.k0 (fun a fs z _ => by rw [qs_ne (fun q => by subst q; rw [e] at z; cases z; exact hc rfl)]; exact z)
/-- the Branch at place i; null where there is none -/
def qAt (h : qH) (L : qKV) (i : Int32) (r : Option Nat) : Prop := (∃ (j a : Nat) (k v : Int64) (x y z w : Value), i = nI j ∧ L[j]? = some (k, v) ∧ r = some a ∧ h a = some (.inr (0, [x, .long k, .long v, y, z, w]))) ∨ (r = none ∧ (i < 0 ∨ ∃ j : Nat, i = nI j ∧ L.length ≤ j ∧ j < 2 ^ 31))
theorem qAt.nil {h : qH} {i : Int32} : qAt h [] i none := by
  refine Or.inr ⟨rfl, ?_⟩
  by_cases c : i < 0
  · exact Or.inl c
  · obtain ⟨j, hj, e⟩ := nI_of c
    exact Or.inr ⟨j, e, Nat.zero_le _, hj⟩
theorem qAt.here {h : qH} {A B : qKV} {a : Nat} {k v : Int64} {x y z w : Value} (f : h a = some (.inr (0, [x, .long k, .long v, y, z, w]))) : qAt h (A ++ (k, v) :: B) (nI A.length) (some a) :=
  Or.inl ⟨A.length, a, k, v, x, y, z, w, rfl, by simp, rfl, f⟩
theorem qAt.left {h : qH} {A B : qKV} {p : Int64 × Int64} {q : Int32} {r : Option Nat} (hA : A.length < 2 ^ 31) (hq : ¬ nI A.length ≤ q) (g : qAt h A q r) : qAt h (A ++ p :: B) q r := by
  rcases g with ⟨j, a, k, v, x, y, z, w, rfl, e, rfl, f⟩ | ⟨rfl, g⟩
  · refine Or.inl ⟨j, a, k, v, x, y, z, w, rfl, ?_, rfl, f⟩
    rw [List.getElem?_append_left (List.getElem?_eq_some_iff.mp e).1]
    exact e
  · rcases g with g | ⟨j, rfl, h1, h2⟩
    · exact Or.inr ⟨rfl, Or.inl g⟩
    · exact absurd ((nI_leI hA h2).mpr h1) hq
theorem qAt.right {h : qH} {A B : qKV} {p : Int64 × Int64} {Q : Nat} {r : Option Nat} (hB : A.length + B.length + 1 < 2 ^ 31) (hq : A.length < Q) (hQ : Q < 2 ^ 31) (g : qAt h B (nI (Q - (A.length + 1))) r) : qAt h (A ++ p :: B) (nI Q) r := by
  rcases g with ⟨j, a, k, v, x, y, z, w, e1, e, rfl, f⟩ | ⟨rfl, g⟩
  · have hj := (List.getElem?_eq_some_iff.mp e).1
    have e2 := (nI_eq (by omega) (by omega)).mp e1
    refine Or.inl ⟨Q, a, k, v, x, y, z, w, rfl, ?_, rfl, f⟩
    rw [List.getElem?_append_right (by omega), show Q - A.length = j + 1 by omega]
    exact e
  · rcases g with g | ⟨j, e1, h1, h2⟩
    · exact absurd g (nI_pos (by omega))
    · have e2 := (nI_eq (by omega) h2).mp e1
      refine Or.inr ⟨rfl, Or.inr ⟨Q, rfl, ?_, hQ⟩⟩
      rw [List.length_append, List.length_cons]
      omega
theorem qtk_z {A : qKV} {q : Nat} (h : q = 0) : A.take q = [] := by subst h; rfl
theorem qtk_all {A : qKV} {q : Nat} (h : A.length ≤ q) : A.take q = A := List.take_of_length_le h
theorem qtk_l {A B : qKV} {q : Nat} (h : q ≤ A.length) : (A ++ B).take q = A.take q := List.take_append_of_le_length h
theorem qtk_r {A B : qKV} {p : Int64 × Int64} {q : Nat} (h : A.length < q) : (A ++ p :: B).take q = A ++ p :: B.take (q - A.length - 1) := by
  rw [List.take_append, List.take_of_length_le (by omega), show q - A.length = (q - A.length - 1) + 1 by omega]
  rfl
theorem qdp_z {A : qKV} {q : Nat} (h : q = 0) : A.drop q = A := by subst h; rfl
theorem qdp_all {A : qKV} {q : Nat} (h : A.length ≤ q) : A.drop q = [] := List.drop_of_length_le h
theorem qdp_l {A B : qKV} {q : Nat} (h : q ≤ A.length) : (A ++ B).drop q = A.drop q ++ B := List.drop_append_of_le_length h
theorem qdp_r {A B : qKV} {p : Int64 × Int64} {q : Nat} (h : A.length < q) : (A ++ p :: B).drop q = B.drop (q - A.length - 1) := by
  rw [List.drop_append, List.drop_of_length_le (by omega), show q - A.length = (q - A.length - 1) + 1 by omega]
  rfl
/-- what a cut makes, at most -/
def qTc : Nat → Nat
  | 0 => 0
  | n + 1 => qTc n + (1 + 3 * n)
theorem qTc_mono {a b : Nat} (h : a ≤ b) : qTc a ≤ qTc b := by
  obtain ⟨d, rfl⟩ := Nat.exists_eq_add_of_le h
  clear h
  induction d with
  | zero => exact Nat.le_refl _
  | succ d ih => exact Nat.le_trans ih (Nat.le_add_right _ _)
theorem qTc_step {j n : Nat} (h : j < n) : qTc j + (1 + 3 * (n - 1)) ≤ qTc n := by
  cases n with
  | zero => omega
  | succ n =>
    show _ ≤ qTc n + (1 + 3 * n)
    have := qTc_mono (show j ≤ n by omega)
    omega
theorem qset_l {A B : qKV} {p : Int64 × Int64} {q : Nat} (h : q < A.length) : (A ++ B).set q p = A.set q p ++ B := List.set_append_left q p h
theorem qset_r {A B : qKV} {p e : Int64 × Int64} {q : Nat} (h : A.length < q) : (A ++ e :: B).set q p = A ++ e :: B.set (q - A.length - 1) p := by
  rw [List.set_append_right q p (by omega), show q - A.length = (q - A.length - 1) + 1 by omega]
  rfl
theorem qset_m {A B : qKV} {p e : Int64 × Int64} {q : Nat} (h : q = A.length) : (A ++ e :: B).set q p = A ++ p :: B := by
  subst h
  rw [List.set_append_right _ _ (Nat.le_refl _), Nat.sub_self]
  rfl
theorem qget_l {A B : qKV} {q : Nat} (h : q < A.length) : (A ++ B)[q]? = A[q]? := List.getElem?_append_left h
theorem qget_r {A B : qKV} {e : Int64 × Int64} {q : Nat} (h : A.length < q) : (A ++ e :: B)[q]? = B[q - A.length - 1]? := by
  rw [List.getElem?_append_right (by omega), show q - A.length = (q - A.length - 1) + 1 by omega]
  rfl
theorem qget_m {A B : qKV} {e : Int64 × Int64} {q : Nat} (h : q = A.length) : (A ++ e :: B)[q]? = some e := by
  subst h
  simp
/-- a row, from s on laid over by vs -/
def qPour (f : Nat → Int64) (s : Nat) (vs : List Int64) : Nat → Int64 := fun j => if s ≤ j ∧ j < s + vs.length then vs.getD (j - s) 0 else f j
theorem qPour_nil {f : Nat → Int64} {s : Nat} : qPour f s [] = f := by
  funext j
  exact if_neg (fun h => by have := h.2; simp at this; omega)
theorem qPour_app {f : Nat → Int64} {s : Nat} {A B : List Int64} {v : Int64} : qPour (vp_updL (qPour f s A) (s + A.length) v) (s + A.length + 1) B = qPour f s (A ++ v :: B) := by
  funext j
  unfold qPour vp_updL
  dsimp only
  rw [List.length_append, List.length_cons]
  by_cases c1 : s ≤ j ∧ j < s + (A.length + (B.length + 1))
  · rw [if_pos c1]
    by_cases c2 : s + A.length + 1 ≤ j ∧ j < s + A.length + 1 + B.length
    · rw [if_pos c2, List.getD_eq_getElem?_getD, List.getD_eq_getElem?_getD, List.getElem?_append_right (by omega), show j - s - A.length = (j - (s + A.length + 1)) + 1 by omega]
      rfl
    · rw [if_neg c2]
      by_cases c3 : j = s + A.length
      · rw [if_pos c3, List.getD_eq_getElem?_getD, List.getElem?_append_right (by omega), show j - s - A.length = 0 by omega]
        rfl
      · rw [if_neg c3, if_pos (by omega), List.getD_eq_getElem?_getD, List.getD_eq_getElem?_getD, List.getElem?_append_left (by omega)]
  · rw [if_neg c1, if_neg (by omega), if_neg (by omega), if_neg (by omega)]
/-- the height of a row's tree -/
def qLg : Nat → Nat → Nat
  | 0, _ => 0
  | d + 1, m => if m = 0 then 0 else qLg d (m / 2) + 1
theorem qLg_le : ∀ (d m : Nat), qLg d m ≤ d
  | 0, _ => Nat.le_refl _
  | d + 1, m => by
    unfold qLg
    split
    · omega
    · have := qLg_le d (m / 2)
      omega
theorem qLg_mono : ∀ (d : Nat) {a b : Nat}, a ≤ b → qLg d a ≤ qLg d b
  | 0, _, _, _ => Nat.le_refl _
  | d + 1, a, b, h => by
    unfold qLg
    split
    · omega
    · rw [if_neg (by omega)]
      have := qLg_mono d (show a / 2 ≤ b / 2 by omega)
      omega
theorem qLg_near : ∀ (d m : Nat), qLg d (m + 1) ≤ qLg d m + 1
  | 0, _ => by unfold qLg; omega
  | d + 1, m => by
    unfold qLg
    rw [if_neg (by omega)]
    split
    · rename_i e
      subst e
      have : ∀ d, qLg d ((0 + 1) / 2) = 0 := fun d => by cases d <;> rfl
      rw [this]
      omega
    · have := qLg_near d (m / 2)
      have := qLg_mono d (show (m + 1) / 2 ≤ m / 2 + 1 by omega)
      omega
