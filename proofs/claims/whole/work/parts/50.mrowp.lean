/-! the reference's rows: an object with two rows of 1001 numbers -/
def qJr (cy : Nat → ClassId) (f : Nat → Int64) : va_E := .inl (cy 1, 1001, .inr (.inl f))
def qRb (ka va : Nat) (kd n sm dp rw : Int32) : va_E := .inr (7, [.ref ka, .ref va, .int kd, .int n, .int sm, .int dp, .int rw])
def qRh (cy : Nat → ClassId) (h : qH) (a ka va : Nat) (kd n sm dp rw : Int32) (f g : Nat → Int64) : qH := qs (qs (qs h ka (qJr cy f)) va (qJr cy g)) a (qRb ka va kd n sm dp rw)
def qRw (cy : Nat → ClassId) (h : qH) (a ka va : Nat) (kd n sm dp rw : Int32) (f g : Nat → Int64) : Prop := ka ≠ va ∧ ka ≠ a ∧ va ≠ a ∧ h a = some (qRb ka va kd n sm dp rw) ∧ h ka = some (qJr cy f) ∧ h va = some (qJr cy g)
section QRW
variable {cy : Nat → ClassId} {h : qH} {a ka va : Nat} {kd n sm dp rw kd2 n2 sm2 dp2 rw2 : Int32} {f g f2 g2 : Nat → Int64}
theorem qRw.new (r : qRw cy h a ka va kd n sm dp rw f g) : qRw cy (qRh cy h a ka va kd2 n2 sm2 dp2 rw2 f2 g2) a ka va kd2 n2 sm2 dp2 rw2 f2 g2 := by
  obtain ⟨r1, r2, r3, -⟩ := r
  refine ⟨r1, r2, r3, qs_self, ?_, ?_⟩
  · unfold qRh; rw [qs_ne r2, qs_ne r1, qs_self]
  · unfold qRh; rw [qs_ne r3, qs_self]
theorem qRw.same (r : qRw cy h a ka va kd n sm dp rw f g) : qRh cy h a ka va kd n sm dp rw f g = h := by
  obtain ⟨r1, r2, r3, r4, r5, r6⟩ := r
  unfold qRh
  rw [qs_same r5, qs_same r6, qs_same r4]
theorem qRh_o {b : Nat} (h1 : b ≠ a) (h2 : b ≠ ka) (h3 : b ≠ va) : qRh cy h a ka va kd n sm dp rw f g b = h b := by
  unfold qRh
  rw [qs_ne h1, qs_ne h3, qs_ne h2]
theorem qs_swap {h : qH} {a b : Nat} {o p : va_E} (e : a ≠ b) : qs (qs h a o) b p = qs (qs h b p) a o := by
  funext c
  by_cases h1 : c = a
  · subst h1; rw [qs_ne e, qs_self, qs_self]
  · by_cases h2 : c = b
    · subst h2; rw [qs_self, qs_ne h1, qs_self]
    · rw [qs_ne h2, qs_ne h1, qs_ne h1, qs_ne h2]
theorem qRw.setk (r : qRw cy h a ka va kd n sm dp rw f g) {kd n sm dp rw : Int32} {f g : Nat → Int64} : qs (qRh cy h a ka va kd n sm dp rw f g) ka (.inl (cy 1, 1001, .inr (.inl f2))) = qRh cy h a ka va kd n sm dp rw f2 g := by
  obtain ⟨r1, r2, r3, -⟩ := r
  show qs (qs (qs (qs h ka (qJr cy f)) va (qJr cy g)) a _) ka (qJr cy f2) = _
  rw [qs_swap (Ne.symm r2), qs_swap (Ne.symm r1), qs_qs]
  rfl
theorem qRw.setv (r : qRw cy h a ka va kd n sm dp rw f g) {kd n sm dp rw : Int32} {f g : Nat → Int64} : qs (qRh cy h a ka va kd n sm dp rw f g) va (.inl (cy 1, 1001, .inr (.inl g2))) = qRh cy h a ka va kd n sm dp rw f g2 := by
  obtain ⟨r1, r2, r3, -⟩ := r
  show qs (qs (qs (qs h ka (qJr cy f)) va (qJr cy g)) a _) va (qJr cy g2) = _
  rw [qs_swap (Ne.symm r3), qs_qs]
  rfl
theorem qRh_seta {kd n sm dp rw : Int32} {f g : Nat → Int64} : qs (qRh cy h a ka va kd n sm dp rw f g) a (.inr (7, [.ref ka, .ref va, .int kd2, .int n2, .int sm2, .int dp2, .int rw2])) = qRh cy h a ka va kd2 n2 sm2 dp2 rw2 f g := qs_qs
theorem qRw.again (r : qRw cy h a ka va kd n sm dp rw f g) {kd n sm dp rw : Int32} {f g : Nat → Int64} : qRh cy (qRh cy h a ka va kd n sm dp rw f g) a ka va kd2 n2 sm2 dp2 rw2 f2 g2 = qRh cy h a ka va kd2 n2 sm2 dp2 rw2 f2 g2 := by
  obtain ⟨r1, r2, r3, -⟩ := r
  funext b
  by_cases h1 : b = a
  · subst h1; exact qs_self.trans qs_self.symm
  · by_cases h2 : b = va
    · subst h2
      unfold qRh
      rw [qs_ne h1, qs_self, qs_ne h1, qs_self]
    · by_cases h3 : b = ka
      · subst h3
        unfold qRh
        rw [qs_ne h1, qs_ne h2, qs_self, qs_ne h1, qs_ne h2, qs_self]
      · rw [qRh_o h1 h3 h2, qRh_o h1 h3 h2, qRh_o h1 h3 h2]
end QRW
/-- a row's end pushed back by one: what lies from i + 1 to n came from the place before -/
def qSh (f : Nat → Int64) (i n : Nat) : Nat → Int64 := fun j => if i < j ∧ j ≤ n then f (j - 1) else f j
theorem qSh_0 {f : Nat → Int64} {n : Nat} : qSh f n n = f := funext fun j => if_neg (by omega)
theorem qSh_at {f : Nat → Int64} {i n : Nat} : qSh f i n i = f i := if_neg (by omega)
theorem qSh_pr {f : Nat → Int64} {i n : Nat} : qSh f (i + 1) n i = f i := if_neg (by omega)
theorem qSh_step {f : Nat → Int64} {i n : Nat} (h : i < n) : vp_updL (qSh f (i + 1) n) (i + 1) (qSh f (i + 1) n i) = qSh f i n := by
  funext j
  unfold vp_updL
  rw [qSh_pr]
  unfold qSh
  by_cases c : j = i + 1
  · subst c; rw [if_pos rfl, if_pos (by omega)]; rfl
  · rw [if_neg c]
    by_cases c2 : i + 1 < j ∧ j ≤ n
    · rw [if_pos c2, if_pos (by omega)]
    · rw [if_neg c2, if_neg (by omega)]
/-- a row's end drawn forward by one, from p on up to i -/
def qSd (f : Nat → Int64) (p i : Nat) : Nat → Int64 := fun j => if p ≤ j ∧ j < i then f (j + 1) else f j
theorem qSd_0 {f : Nat → Int64} {p i : Nat} (h : i ≤ p) : qSd f p i = f := funext fun j => if_neg (by omega)
theorem qSd_step {f : Nat → Int64} {p i : Nat} (h : p ≤ i) : vp_updL (qSd f p i) i (qSd f p i (i + 1)) = qSd f p (i + 1) := by
  funext j
  unfold vp_updL
  unfold qSd
  rw [if_neg (show ¬ (p ≤ i + 1 ∧ i + 1 < i) by omega)]
  by_cases c : j = i
  · subst c; rw [if_pos rfl, if_pos (by omega)]
  · rw [if_neg c]
    by_cases c2 : p ≤ j ∧ j < i
    · rw [if_pos c2, if_pos (by omega)]
    · rw [if_neg c2, if_neg (by omega)]
/-- a row's first n out of another -/
def qCp (s f : Nat → Int64) (n : Nat) : Nat → Int64 := fun j => if j < n then s j else f j
theorem qCp_0 {s f : Nat → Int64} : qCp s f 0 = f := funext fun j => if_neg (by omega)
theorem qCp_step {s f : Nat → Int64} {n : Nat} : vp_updL (qCp s f n) n (s n) = qCp s f (n + 1) := by
  funext j
  unfold vp_updL qCp
  by_cases c : j = n
  · subst c; rw [if_pos rfl, if_pos (by omega)]
  · rw [if_neg c]
    by_cases c2 : j < n
    · rw [if_pos c2, if_pos (by omega)]
    · rw [if_neg c2, if_neg (by omega)]
/-- the hash -/
def qHsh (gr : Int32) (k : Int64) : Int32 := if gr = 0 then k.toInt32 else if gr = 1 then k.toInt32 &&& 255 else 0
/-- how many of the first n are so -/
def qCt (P : Nat → Bool) : Nat → Nat
  | 0 => 0
  | n + 1 => qCt P n + (if P n = true then 1 else 0)
theorem qCt_le {P : Nat → Bool} : ∀ n : Nat, qCt P n ≤ n
  | 0 => Nat.le_refl _
  | n + 1 => by
    show qCt P n + (if P n = true then 1 else 0) ≤ n + 1
    have := qCt_le (P := P) n
    split <;> omega
theorem q_decN (i : Nat) : nI (i + 1) + Int32.ofInt (-1) = nI i := by
  have e : Int32.ofInt (-1) = -(1 : Int32) := by decide
  rw [e, ← Int32.sub_eq_add_neg, nI_pred]
