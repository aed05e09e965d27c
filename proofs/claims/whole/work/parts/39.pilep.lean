/-! Pile: a heap, by its right edge's length and its values (in pour's order) -/
def qPk : va_E := .inr (4, [.long 0, .null, .null, .int 0])
def qKq (h h' : qH) : Prop := ∀ a o, h a = some o → o ≠ qPk → h' a = some o
def qPiF (h : qH) : Nat → Nat → Option Nat → List Int64 → Prop
  | 0, s, r, M => s = 0 ∧ r = none ∧ M = []
  | f + 1, s, r, M => (s = 0 ∧ r = none ∧ M = []) ∨ ∃ (a : Nat) (v : Int64) (l r2 : Option Nat) (t u : Nat) (A B : List Int64), r = some a ∧ h a = some (.inr (4, [.long v, va_rf l, va_rf r2, .int (nI (A.length + B.length + 1))])) ∧ qPiF h f t r2 A ∧ qPiF h f u l B ∧ M = v :: (A ++ B) ∧ (s = t + 1 ∧ A.length ≤ B.length ∧ A.length + B.length + 1 < 2 ^ 31) ∧ (∀ x ∈ A ++ B, v.toInt ≤ x.toInt)
theorem qPiF.up {h : qH} : ∀ {f : Nat} {s : Nat} {r : Option Nat} {M : List Int64}, qPiF h f s r M → qPiF h (f + 1) s r M
  | 0, _, _, _, hb => Or.inl hb
  | f + 1, s, r, M, hb => by
    rcases hb with hb | ⟨a, v, l, r2, t, u, A, B, h1, h2, h3, h4, h5, h6⟩
    · exact Or.inl hb
    · exact Or.inr ⟨a, v, l, r2, t, u, A, B, h1, h2, h3.up, h4.up, h5, h6⟩
theorem qPiF.ups {h : qH} {f s : Nat} {r : Option Nat} {M : List Int64} (hb : qPiF h f s r M) : ∀ d : Nat, qPiF h (f + d) s r M
  | 0 => hb
  | d + 1 => (hb.ups d).up
def qPi (h : qH) (s : Nat) (r : Option Nat) (M : List Int64) : Prop := ∃ f, qPiF h f s r M
theorem qPi.nil {h : qH} : qPi h 0 none [] := ⟨0, rfl, rfl, rfl⟩
theorem qPi.inv {h : qH} {s : Nat} {r : Option Nat} {M : List Int64} (hb : qPi h s r M) : (s = 0 ∧ r = none ∧ M = []) ∨ ∃ (a : Nat) (v : Int64) (l r2 : Option Nat) (t u : Nat) (A B : List Int64), r = some a ∧ h a = some (.inr (4, [.long v, va_rf l, va_rf r2, .int (nI (A.length + B.length + 1))])) ∧ qPi h t r2 A ∧ qPi h u l B ∧ M = v :: (A ++ B) ∧ (s = t + 1 ∧ A.length ≤ B.length ∧ A.length + B.length + 1 < 2 ^ 31) ∧ (∀ x ∈ A ++ B, v.toInt ≤ x.toInt) := by
  obtain ⟨f, hb⟩ := hb
  cases f with
  | zero => exact Or.inl hb
  | succ f =>
    rcases hb with hb | ⟨a, v, l, r2, t, u, A, B, h1, h2, h3, h4, h5, h6⟩
    · exact Or.inl hb
    · exact Or.inr ⟨a, v, l, r2, t, u, A, B, h1, h2, ⟨f, h3⟩, ⟨f, h4⟩, h5, h6⟩
theorem qPi.mk {h : qH} {a : Nat} {v : Int64} {l r2 : Option Nat} {t u n : Nat} {A B : List Int64} (h2 : h a = some (.inr (4, [.long v, va_rf l, va_rf r2, .int (nI n)]))) (hA : qPi h t r2 A) (hB : qPi h u l B) (hn : n = A.length + B.length + 1) (h6 : A.length ≤ B.length ∧ A.length + B.length + 1 < 2 ^ 31) (h7 : ∀ x ∈ A ++ B, v.toInt ≤ x.toInt) : qPi h (t + 1) (some a) (v :: (A ++ B)) := by
  subst hn
  obtain ⟨f, hA⟩ := hA
  obtain ⟨g, hB⟩ := hB
  refine ⟨f + g + 1, Or.inr ⟨a, v, l, r2, t, u, A, B, rfl, h2, hA.ups g, ?_, rfl, ⟨rfl, h6⟩, h7⟩⟩
  rw [Nat.add_comm f g]
  exact hB.ups f
theorem qpk_ne {h : qH} {a b n : Nat} {x y z : Value} (hb : h b = some (.inr (4, [x, y, z, .int (nI n)]))) (h0 : 0 < n) (hn : n < 2 ^ 31) (ha : h a = some qPk) : b ≠ a := fun e => by
  subst e
  have := Option.some.inj (hb.symm.trans ha)
  unfold qPk at this
  simp only [Sum.inr.injEq, Prod.mk.injEq, List.cons.injEq, Value.int.injEq] at this
  exact nI_ne0 h0 hn this.2.2.2.2.1
theorem qPiF.k0 {h h' : qH} (k : ∀ a fs, h a = some (.inr (4, fs)) → (.inr (4, fs) : va_E) ≠ qPk → h' a = some (.inr (4, fs))) : ∀ {f : Nat} {s : Nat} {r : Option Nat} {M : List Int64}, qPiF h f s r M → qPiF h' f s r M
  | 0, _, _, _, hb => hb
  | f + 1, s, r, M, hb => by
    rcases hb with hb | ⟨a, v, l, r2, t, u, A, B, h1, h2, h3, h4, h5, h6, h7⟩
    · exact Or.inl hb
    · refine Or.inr ⟨a, v, l, r2, t, u, A, B, h1, k _ _ h2 (fun e => ?_), h3.k0 k, h4.k0 k, h5, h6, h7⟩
      exact qpk_ne (h := h) (a := a) h2 (by omega) h6.2.2 (by rw [h2, e]) rfl
theorem qPi.k0 {h h' : qH} {s : Nat} {r : Option Nat} {M : List Int64} (hb : qPi h s r M) (k : ∀ a fs, h a = some (.inr (4, fs)) → (.inr (4, fs) : va_E) ≠ qPk → h' a = some (.inr (4, fs))) : qPi h' s r M := by
  obtain ⟨f, hb⟩ := hb
  exact ⟨f, hb.k0 k⟩
theorem qPi.kp {h h' : qH} {s : Nat} {r : Option Nat} {M : List Int64} (hb : qPi h s r M) (k : qKq h h') : qPi h' s r M := hb.k0 (fun a fs e n => k a _ e n)
theorem qPi.le {h h' : qH} {s : Nat} {r : Option Nat} {M : List Int64} (hb : qPi h s r M) (k : qle h h') : qPi h' s r M := hb.k0 (fun a fs e _ => k a _ e)
theorem qPi.setl {h : qH} {s : Nat} {r : Option Nat} {M : List Int64} (hb : qPi h s r M) {b : Nat} {x x' : ClassId × vp_A} (e : h b = some (.inl x)) : qPi (qs h b (.inl x')) s r M := hb.k0 (fun a fs z _ => by rw [qs_ne (fun q => by subst q; rw [e] at z; cases z)]; exact z)
theorem qPi.seto {h : qH} {s : Nat} {r : Option Nat} {M : List Int64} (hb : qPi h s r M) {b ci : Nat} {fs2 : List Value} {o : va_E} (e : h b = some (.inr (ci, fs2))) (hc : ci ≠ 4) : qPi (qs h b o) s r M := hb.k0 (fun a fs z _ => by rw [qs_ne (fun q => by subst q; rw [e] at z; cases z; exact hc rfl)]; exact z)
theorem qPi.fiS {h : qH} {s : Nat} {r : Option Nat} {M : List Int64} (hb : qPi h s r M) : qFi h 4 3 r (nI M.length) := by
  rcases hb.inv with ⟨rfl, rfl, rfl⟩ | ⟨a, v, l, r2, t, u, A, B, h1, h2, h3, h4, rfl, h6, h7⟩
  · exact Or.inl ⟨rfl, rfl⟩
  · refine Or.inr ⟨a, _, h1, h2, ?_⟩
    rw [List.length_cons, List.length_append]
    rfl
/-- its right edge is short -/
theorem qPiF.sp {h : qH} : ∀ {f : Nat} {s : Nat} {r : Option Nat} {M : List Int64}, qPiF h f s r M → 2 ^ s ≤ M.length + 1 ∧ s ≤ M.length
  | 0, s, r, M, hb => by
    obtain ⟨rfl, rfl, rfl⟩ := hb
    exact ⟨Nat.le_refl _, Nat.le_refl _⟩
  | f + 1, s, r, M, hb => by
    rcases hb with ⟨rfl, rfl, rfl⟩ | ⟨a, v, l, r2, t, u, A, B, h1, h2, h3, h4, rfl, ⟨rfl, h6, -⟩, h7⟩
    · exact ⟨Nat.le_refl _, Nat.le_refl _⟩
    · have := h3.sp
      rw [List.length_cons, List.length_append, Nat.pow_succ]
      omega
theorem qPi.sp {h : qH} {s : Nat} {r : Option Nat} {M : List Int64} (hb : qPi h s r M) {N d : Nat} (hM : M.length ≤ N) (hd : N + 1 < 2 ^ (d + 1)) : s ≤ d := by
  obtain ⟨f, hb⟩ := hb
  have h1 := hb.sp.1
  refine Nat.le_of_not_lt fun q => ?_
  have := Nat.pow_le_pow_right (n := 2) (by decide) (show d + 1 ≤ s from q)
  omega
theorem qPi.s9 {h : qH} {s : Nat} {r : Option Nat} {M : List Int64} (hb : qPi h s r M) (hM : M.length ≤ 1000) : s ≤ 9 := hb.sp hM (by decide)
theorem qPi.len {h : qH} {s : Nat} {r : Option Nat} {M : List Int64} (hb : qPi h s r M) : s ≤ M.length := by
  obtain ⟨f, hb⟩ := hb
  exact hb.sp.2
