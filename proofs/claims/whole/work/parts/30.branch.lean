/-! Branch: a balanced tree, by its height and its list (keys with values, from left to right) -/
theorem q_nsub {a b : Nat} (h : b ≤ a) : nI a - nI b = nI (a - b) := by
  have e : nI a = nI (a - b) + nI b := by rw [nI_add]; congr 1; omega
  rw [e, Int32.add_sub_cancel]
section QROWSN
variable {p : Program} {l : Launch} {e : Env} {R : Room} {s : State} {m : MethodId} {args : Array Value} {below : List Frame} {meth : Method} {c : Code} {H : Heap} {locs : List Loc} {cells slots : Nat} {Q : State → Prop}
variable {cc : ByteArray} {pc : Nat} {ls : Array Slot} {rest : List Value} {x y : Nat}
theorem q_iaddN (hexec : p.tables.exec = Jvm.exec) (hb : c.code = cc) (hdg : decode cc pc = .ok (.iadd, 1)) (k : W p l e R s m args below meth c H locs cells slots Q (F0 m (pc + 1) ls (.int (nI (x + y)) :: rest))) : W p l e R s m args below meth c H locs cells slots Q (F0 m pc ls (.int (nI y) :: .int (nI x) :: rest)) :=
  lv_iadd hexec hb hdg (by rw [nI_add]; exact k)
theorem q_isubN (hexec : p.tables.exec = Jvm.exec) (hb : c.code = cc) (hdg : decode cc pc = .ok (.isub, 1)) (hyx : y ≤ x) (k : W p l e R s m args below meth c H locs cells slots Q (F0 m (pc + 1) ls (.int (nI (x - y)) :: rest))) : W p l e R s m args below meth c H locs cells slots Q (F0 m pc ls (.int (nI y) :: .int (nI x) :: rest)) :=
  lv_isub hexec hb hdg (by rw [q_nsub hyx]; exact k)
end QROWSN
abbrev qKV := List (Int64 × Int64)
/-- a Branch that is not yet laid -/
def qBk : va_E := .inr (0, [.null, .long 0, .long 0, .null, .int 0, .int 0])
/-- all is kept but such -/
def qKp (h h' : qH) : Prop := ∀ a o, h a = some o → o ≠ qBk → h' a = some o
theorem qKp.of {h h' : qH} (k : qle h h') : qKp h h' := fun a o e _ => k a o e
def qBrF (h : qH) : Nat → Nat → Option Nat → qKV → Prop
  | 0, n, r, L => n = 0 ∧ r = none ∧ L = []
  | f + 1, n, r, L => (n = 0 ∧ r = none ∧ L = []) ∨ ∃ (a : Nat) (l : Option Nat) (k v : Int64) (r2 : Option Nat) (i j : Nat) (A B : qKV), r = some a ∧ h a = some (.inr (0, [va_rf l, .long k, .long v, va_rf r2, .int (nI n), .int (nI (A.length + 1 + B.length))])) ∧ qBrF h f i l A ∧ qBrF h f j r2 B ∧ L = A ++ (k, v) :: B ∧ (i < n ∧ j < n ∧ (n = i + 1 ∨ n = j + 1) ∧ i ≤ j + 1 ∧ j ≤ i + 1 ∧ n < 2 ^ 31)
theorem qBrF.up {h : qH} : ∀ {f : Nat} {n : Nat} {r : Option Nat} {L : qKV}, qBrF h f n r L → qBrF h (f + 1) n r L
  | 0, _, _, _, hb => Or.inl hb
  | f + 1, n, r, L, hb => by
    rcases hb with hb | ⟨a, l, k, v, r2, i, j, A, B, h1, h2, h3, h4, h5, h6⟩
    · exact Or.inl hb
    · exact Or.inr ⟨a, l, k, v, r2, i, j, A, B, h1, h2, h3.up, h4.up, h5, h6⟩
theorem qBrF.ups {h : qH} {f n : Nat} {r : Option Nat} {L : qKV} (hb : qBrF h f n r L) : ∀ d : Nat, qBrF h (f + d) n r L
  | 0 => hb
  | d + 1 => (hb.ups d).up
def qBr (h : qH) (n : Nat) (r : Option Nat) (L : qKV) : Prop := ∃ f, qBrF h f n r L
theorem qBr.nil {h : qH} : qBr h 0 none [] := ⟨0, rfl, rfl, rfl⟩
theorem qBr.inv {h : qH} {n : Nat} {r : Option Nat} {L : qKV} (hb : qBr h n r L) : (n = 0 ∧ r = none ∧ L = []) ∨ ∃ (a : Nat) (l : Option Nat) (k v : Int64) (r2 : Option Nat) (i j : Nat) (A B : qKV), r = some a ∧ h a = some (.inr (0, [va_rf l, .long k, .long v, va_rf r2, .int (nI n), .int (nI (A.length + 1 + B.length))])) ∧ qBr h i l A ∧ qBr h j r2 B ∧ L = A ++ (k, v) :: B ∧ (i < n ∧ j < n ∧ (n = i + 1 ∨ n = j + 1) ∧ i ≤ j + 1 ∧ j ≤ i + 1 ∧ n < 2 ^ 31) := by
  obtain ⟨f, hb⟩ := hb
  cases f with
  | zero => exact Or.inl hb
  | succ f =>
    rcases hb with hb | ⟨a, l, k, v, r2, i, j, A, B, h1, h2, h3, h4, h5, h6⟩
    · exact Or.inl hb
    · exact Or.inr ⟨a, l, k, v, r2, i, j, A, B, h1, h2, ⟨f, h3⟩, ⟨f, h4⟩, h5, h6⟩
theorem qBr.mk {h : qH} {a : Nat} {l : Option Nat} {k v : Int64} {r2 : Option Nat} {n i j : Nat} {A B : qKV} (h2 : h a = some (.inr (0, [va_rf l, .long k, .long v, va_rf r2, .int (nI n), .int (nI (A.length + 1 + B.length))]))) (hA : qBr h i l A) (hB : qBr h j r2 B) (h6 : i < n ∧ j < n ∧ (n = i + 1 ∨ n = j + 1) ∧ i ≤ j + 1 ∧ j ≤ i + 1 ∧ n < 2 ^ 31) : qBr h n (some a) (A ++ (k, v) :: B) := by
  obtain ⟨f, hA⟩ := hA
  obtain ⟨g, hB⟩ := hB
  refine ⟨f + g + 1, Or.inr ⟨a, l, k, v, r2, i, j, A, B, rfl, h2, hA.ups g, ?_, rfl, h6⟩⟩
  rw [Nat.add_comm f g]
  exact hB.ups f
theorem qbk_ne {h : qH} {a b n : Nat} {x y z w u : Value} (hb : h b = some (.inr (0, [x, y, z, w, .int (nI n), u]))) (h0 : 0 < n) (hn : n < 2 ^ 31) (ha : h a = some qBk) : b ≠ a := fun e => by
  subst e
  have := Option.some.inj (hb.symm.trans ha)
  unfold qBk at this
  simp only [Sum.inr.injEq, Prod.mk.injEq, List.cons.injEq, Value.int.injEq] at this
  exact nI_ne0 h0 hn this.2.2.2.2.2.1
theorem qBrF.kp {h h' : qH} (k : qKp h h') : ∀ {f : Nat} {n : Nat} {r : Option Nat} {L : qKV}, qBrF h f n r L → qBrF h' f n r L
  | 0, _, _, _, hb => hb
  | f + 1, n, r, L, hb => by
    rcases hb with hb | ⟨a, l, k1, v, r2, i, j, A, B, h1, h2, h3, h4, h5, h6⟩
    · exact Or.inl hb
    · refine Or.inr ⟨a, l, k1, v, r2, i, j, A, B, h1, k _ _ h2 (fun e => ?_), h3.kp k, h4.kp k, h5, h6⟩
      exact qbk_ne (h := h) (a := a) h2 (Nat.zero_lt_of_lt h6.1) h6.2.2.2.2.2 (by rw [h2, e]) rfl
theorem qBr.kp {h h' : qH} {n : Nat} {r : Option Nat} {L : qKV} (hb : qBr h n r L) (k : qKp h h') : qBr h' n r L := by
  obtain ⟨f, hb⟩ := hb
  exact ⟨f, hb.kp k⟩
theorem qBr.le {h h' : qH} {n : Nat} {r : Option Nat} {L : qKV} (hb : qBr h n r L) (k : qle h h') : qBr h' n r L := hb.kp (.of k)
theorem qBr.fiH {h : qH} {n : Nat} {r : Option Nat} {L : qKV} (hb : qBr h n r L) : qFi h 0 4 r (nI n) := by
  rcases hb.inv with ⟨rfl, rfl, rfl⟩ | ⟨a, l, k, v, r2, i, j, A, B, h1, h2, h3, h4, h5, h6⟩
  · exact Or.inl ⟨rfl, rfl⟩
  · exact Or.inr ⟨a, _, h1, h2, rfl⟩
theorem qBr.fiS {h : qH} {n : Nat} {r : Option Nat} {L : qKV} (hb : qBr h n r L) : qFi h 0 5 r (nI L.length) := by
  rcases hb.inv with ⟨rfl, rfl, rfl⟩ | ⟨a, l, k, v, r2, i, j, A, B, h1, h2, h3, h4, rfl, h6⟩
  · exact Or.inl ⟨rfl, rfl⟩
  · refine Or.inr ⟨a, _, h1, h2, ?_⟩
    rw [List.length_append, List.length_cons, show A.length + (B.length + 1) = A.length + 1 + B.length by omega]
    rfl
/-- the fewest that a height holds -/
def qFb : Nat → Nat
  | 0 => 0
  | 1 => 1
  | n + 2 => qFb (n + 1) + qFb n + 1
theorem qFb_up : ∀ n : Nat, qFb n ≤ qFb (n + 1)
  | 0 => by decide
  | 1 => by decide
  | n + 2 => by
    show qFb (n + 1) + qFb n + 1 ≤ qFb (n + 2) + qFb (n + 1) + 1
    have h1 := qFb_up n
    have h2 : qFb (n + 1) ≤ qFb (n + 2) := qFb_up (n + 1)
    omega
theorem qFb_mono {a b : Nat} (h : a ≤ b) : qFb a ≤ qFb b := by
  obtain ⟨d, rfl⟩ := Nat.exists_eq_add_of_le h
  clear h
  induction d with
  | zero => exact Nat.le_refl _
  | succ d ih => exact Nat.le_trans ih (qFb_up (a + d))
theorem qBrF.fb {h : qH} : ∀ {f : Nat} {n : Nat} {r : Option Nat} {L : qKV}, qBrF h f n r L → qFb n ≤ L.length ∧ n ≤ L.length
  | 0, n, r, L, hb => by
    obtain ⟨rfl, rfl, rfl⟩ := hb
    exact ⟨Nat.le_refl _, Nat.le_refl _⟩
  | f + 1, n, r, L, hb => by
    rcases hb with ⟨rfl, rfl, rfl⟩ | ⟨a, l, k1, v, r2, i, j, A, B, h1, h2, h3, h4, rfl, h6⟩
    · exact ⟨Nat.le_refl _, Nat.le_refl _⟩
    · have a1 := h3.fb
      have a2 := h4.fb
      rw [List.length_append, List.length_cons]
      refine ⟨?_, by omega⟩
      obtain ⟨g1, g2, g3, g4, g5, -⟩ := h6
      cases n with
      | zero => omega
      | succ n =>
        cases n with
        | zero => show 1 ≤ _; omega
        | succ n =>
          show qFb (n + 1) + qFb n + 1 ≤ _
          rcases g3 with g3 | g3
          · have e1 : i = n + 1 := by omega
            have e2 := qFb_mono (show n ≤ j by omega)
            rw [e1] at a1
            omega
          · have e1 : j = n + 1 := by omega
            have e2 := qFb_mono (show n ≤ i by omega)
            rw [e1] at a2
            omega
theorem qBr.len {h : qH} {n : Nat} {r : Option Nat} {L : qKV} (hb : qBr h n r L) : n ≤ L.length := by
  obtain ⟨f, hb⟩ := hb
  exact hb.fb.2
theorem qBr.ht {h : qH} {n : Nat} {r : Option Nat} {L : qKV} (hb : qBr h n r L) {M N : Nat} (hL : L.length ≤ N) (hM : N < qFb (M + 1)) : n ≤ M := by
  obtain ⟨f, hb⟩ := hb
  refine Nat.le_of_not_lt fun q => ?_
  have := qFb_mono (show M + 1 ≤ n from q)
  have := hb.fb.1
  omega
theorem qBr.h8 {h : qH} {n : Nat} {r : Option Nat} {L : qKV} (hb : qBr h n r L) (hL : L.length ≤ 64) : n ≤ 8 := hb.ht hL (by decide)
theorem qBr.h14 {h : qH} {n : Nat} {r : Option Nat} {L : qKV} (hb : qBr h n r L) (hL : L.length ≤ 1000) : n ≤ 14 := hb.ht hL (by decide)
theorem qnode_eq {h : qH} {a p q n m : Nat} {x y z w : Value} (h1 : p = n) (h2 : q = m) : qs h a (.inr (0, [x, y, z, w, .int (nI p), .int (nI q)])) = qs h a (.inr (0, [x, y, z, w, .int (nI n), .int (nI m)])) := by
  subst h1; subst h2; rfl
