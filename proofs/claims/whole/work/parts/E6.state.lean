/-! the component's state stands for the slots S, the builders (slots 24 to 27) and the world of the streams -/
theorem qTr.cut {cy : Nat → ClassId} {h : qH} {Im : Nat → Prop} {e : Nat} {Ok : Nat → Prop} {m : Int32} {N : Nat → Prop} (hN : ∀ b o, h b = some o → (∀ ci fs, o = .inr (ci, fs) → ci = 3) → N b) : ∀ {r a : Nat} {L : qKV} {X : Nat → Prop}, qTr cy h Im e Ok m r a L X → qTr cy h (fun b => Im b ∧ N b) e Ok m r a L (fun b => X b ∧ N b)
  | r, a, L, X, t => by
    have key : ∀ {ow ka va na : Nat} {C : Nat → Nat}, thNd cy h Im e Ok m r a L L.length X ow ka va na C → thNd cy h (fun b => Im b ∧ N b) e Ok m r a L L.length (fun b => X b ∧ N b) ow ka va na C := fun g => by
      obtain ⟨g1, g2, g3, g4, g5, g6, g7⟩ := g
      have n1 := hN _ _ g1 (fun ci fs z => by unfold thNo at z; simp at z; exact z.1.symm)
      have n2 := hN _ _ g2 (fun ci fs z => by unfold thJ at z; simp at z)
      have n3 := hN _ _ g3 (fun ci fs z => by unfold thJ at z; simp at z)
      have n4 := hN _ _ g4 (fun ci fs z => by unfold thA at z; simp at z)
      refine ⟨g1, g2, g3, g4, ⟨g5, n2⟩, g6, ?_⟩
      rcases g7 with ⟨y1, y2, y3, y4, y5, y6⟩ | ⟨y1, y2, y3, y4⟩
      · exact Or.inl ⟨y1, ⟨y2, n1⟩, fun z => ⟨y3 z, n3⟩, fun z => ⟨y4 z, n3⟩, fun z => ⟨y5 z, n4⟩, fun z => ⟨y6 z, n4⟩⟩
      · exact Or.inr ⟨y1, ⟨y2, n1⟩, ⟨y3, n3⟩, ⟨y4, n4⟩⟩
    cases r with
    | zero =>
      obtain ⟨ow, ka, va, na, C, g⟩ := t
      exact ⟨ow, ka, va, na, C, key g⟩
    | succ r =>
      obtain ⟨ow, ka, va, na, C, Xs, g, x, q⟩ := t
      exact ⟨ow, ka, va, na, C, fun j b => Xs j b ∧ N b, key g, ⟨fun j hj b z => ⟨⟨(x.1 j hj b z.1).1, z.2⟩, (x.1 j hj b z.1).2⟩, fun i j hi hj n b z y => x.2 i j hi hj n b z.1 y.1⟩, fun j v z => (q j v z).cut hN⟩
/-- what a MAP or a SET keeps in its nodes -/
def zSv (s : qSlot) : qKV := if s.1 = 2 then s.2.1.map (fun p => (p.1, 1)) else s.2.1
/-- what a Held's parts stand for -/
def zV (cy : Nat → ClassId) (h : qH) (Im Ok : Nat → Prop) (mk : Int32) (g : Nat → Nat) (s : qSlot) (x1 x2 x3 x4 : Option Nat) (dv : Int32) : Prop :=
  ((s.1 = 0 ∨ s.1 = 4) ∧ x2 = none ∧ x3 = none ∧ x4 = none ∧ dv = 0 ∧ ∃ n, qBr h n x1 (s.2.1.map (fun p => (0, p.1)))) ∨
  (s.1 = 3 ∧ x2 = none ∧ x3 = none ∧ x4 = none ∧ dv = 0 ∧ ∃ n, qBr h n x1 s.2.1) ∨
  (s.1 = 5 ∧ x1 = none ∧ x2 = none ∧ x4 = none ∧ dv = 0 ∧ ∃ n M, qPi h n x3 M ∧ M.Perm (s.2.1.map Prod.fst)) ∨
  ((s.1 = 1 ∨ s.1 = 2) ∧ x1 = none ∧ x3 = none ∧ x4 = none ∧ dv = 0 ∧ qRt cy h Im 0 Ok mk x2 (zSv s) (fun _ => False)) ∨
  (s.1 = 6 ∧ x1 = none ∧ x2 = none ∧ x3 = none ∧ x4 = zO g s.2.2.1 ∧ dv = nI s.2.2.2)
def zHd (cy : Nat → ClassId) (h : qH) (Im Ok : Nat → Prop) (mk : Int32) (g : Nat → Nat) (s : qSlot) (a : Nat) : Prop := ∃ (x1 x2 x3 x4 : Option Nat) (dv : Int32), h a = some (.inr (2, [.int s.1, va_rf x1, va_rf x2, va_rf x3, va_rf x4, .int dv])) ∧ zV cy h Im Ok mk g s x1 x2 x3 x4 dv
/-- a slot -/
def zSl (cy : Nat → ClassId) (h : qH) (Im Ok : Nat → Prop) (mk : Int32) (g : Nat → Nat) (r : Option Nat) (s : qSlot) : Prop := (r = none ∧ s.1 = -1) ∨ ∃ a, r = some a ∧ ¬ s.1 = -1 ∧ zHd cy h Im Ok mk g s a
/-- a builder; e: its edit -/
def zBu (cy : Nat → ClassId) (h : qH) (Im Ok : Nat → Prop) (mk : Int32) (s : qSlot) (b r e : Nat) (X : Nat → Prop) : Prop := ∃ (op kd ln ed : Int32) (rt : Option Nat) (f : Nat → Int64), h b = some (.inr (1, [.ref r, .int op, .int kd, .int ln, va_rf rt, .int ed])) ∧ h r = some (.inl (cy 1, 1000, .inr (.inl f))) ∧
  ((s.1 = -1 ∧ op = 0 ∧ ∀ q, ¬ X q) ∨ (op = 1 ∧ kd = s.1 ∧ ed = nI e ∧ ((s.1 = 0 ∧ ln = nI s.2.1.length ∧ (∀ j, j < s.2.1.length → s.2.1[j]? = some (f j, 0)) ∧ ∀ q, ¬ X q) ∨ ((s.1 = 1 ∨ s.1 = 2) ∧ ln = nI 0 ∧ qRt cy h Im e Ok mk rt (zSv s) X))))
/-- the edits that have ended -/
def zOk (E : Nat) (eb : Nat → Nat) (S : Nat → qSlot) (o : Nat) : Prop := o ≤ E ∧ ∀ b, b < 4 → ((S (24 + b)).1 = 1 ∨ (S (24 + b)).1 = 2) → o ≠ eb b
/-- the arrays -/
def zAr (cy : Nat → ClassId) (h : qH) (sl bl kr vr : Nat) (fs : Nat → Option Nat) (bd : Nat → Nat) : Prop := h sl = some (.inl (cy 3, 24, .inr (.inr (.inr (.inr fs))))) ∧ (∃ q, h bl = some (.inl (cy 2, 4, .inr (.inr (.inr (.inr q))))) ∧ ∀ b, b < 4 → q b = some (bd b)) ∧ (∃ f, h kr = some (.inl (cy 1, 1000, .inr (.inl f)))) ∧ ∃ f, h vr = some (.inl (cy 1, 1000, .inr (.inl f)))
/-- cells of nodes -/
def zNc (Im : Nat → Prop) (Xb : Nat → Nat → Prop) (q : Nat) : Prop := Im q ∨ ∃ b, b < 4 ∧ Xb b q
/-- what lies apart -/
def zSp (cy : Nat → ClassId) (h : qH) (x sl bl kr vr E : Nat) (bd br eb : Nat → Nat) (Im : Nat → Prop) (Xb : Nat → Nat → Prop) (S : Nat → qSlot) : Prop :=
  (kr ≠ vr ∧ sl ≠ bl ∧ (∀ b, b < 4 → br b ≠ kr ∧ br b ≠ vr) ∧ ∀ b c, b < 4 → c < 4 → (br b = br c → b = c) ∧ (bd b = bd c → b = c)) ∧
  (∀ q, zNc Im Xb q → q ≠ x ∧ q ≠ sl ∧ q ≠ bl ∧ q ≠ kr ∧ q ≠ vr ∧ (∀ b, b < 4 → q ≠ bd b ∧ q ≠ br b) ∧ ∀ ci fs, h q = some (.inr (ci, fs)) → ci = 3) ∧
  (∀ b c, b < 4 → c < 4 → b ≠ c → ∀ q, Xb b q → ¬ Xb c q) ∧ (∀ b, b < 4 → qEd cy h Im (Xb b)) ∧
  (∀ b, b < 4 → ((S (24 + b)).1 = 1 ∨ (S (24 + b)).1 = 2) → eb b ≤ E ∧ ∀ c, c < 4 → ((S (24 + c)).1 = 1 ∨ (S (24 + c)).1 = 2) → eb b = eb c → b = c) ∧ E < 1000
def zQ (cy : Nat → ClassId) (h : qH) (x : Nat) (mk : Int32) (sl bl kr vr E : Nat) (fs : Nat → Option Nat) (bd br eb : Nat → Nat) (Im : Nat → Prop) (Xb : Nat → Nat → Prop) (g : Nat → Nat) (S : Nat → qSlot) (W : qWo) : Prop :=
  zW h x mk sl bl kr vr (nI E) g (xRs S) W ∧ zAr cy h sl bl kr vr fs bd ∧ (∀ i, i < 24 → zSl cy h Im (zOk E eb S) mk g (fs i) (S i)) ∧ (∀ b, b < 4 → zBu cy h Im (zOk E eb S) mk (S (24 + b)) (bd b) (br b) (eb b) (Xb b)) ∧ zSp cy h x sl bl kr vr E bd br eb Im Xb S
/-- what a call of the component may change -/
def zOw (h : qH) (x sl kr vr : Nat) (bd br : Nat → Nat) (Xb : Nat → Nat → Prop) (q : Nat) : Prop := q = x ∨ q = sl ∨ q = kr ∨ q = vr ∨ (∃ b, b < 4 ∧ (q = bd b ∨ q = br b ∨ Xb b q)) ∨ ∃ fs, h q = some (.inr (5, fs))
def zFr (h h' : qH) (x sl kr vr : Nat) (bd br : Nat → Nat) (Xb : Nat → Nat → Prop) : Prop := (∀ q o, h q = some o → ¬ zOw h x sl kr vr bd br Xb q → h' q = some o) ∧ ∀ q, h' q = none → h q = none
section ZQ
variable {cy : Nat → ClassId} {h h' : qH} {x sl bl kr vr E : Nat} {mk : Int32} {fs : Nat → Option Nat} {bd br eb : Nat → Nat} {Im : Nat → Prop} {Xb : Nat → Nat → Prop} {g g' : Nat → Nat} {S : Nat → qSlot} {W W' : qWo} {Ok : Nat → Prop}
theorem qRt.keep {e : Nat} {r : Option Nat} {L : qKV} {X : Nat → Prop} (t : qRt cy h Im e Ok mk r L X) (k : ∀ b o, h b = some o → Im b ∨ X b → h' b = some o) : qRt cy h' Im e Ok mk r L X := by
  rcases t with z | ⟨a, z1, z2, z3⟩
  · exact Or.inl z
  · exact Or.inr ⟨a, z1, z2, z3.keep k (fun _ z => z)⟩
/-- a Held where all that it rests on is kept -/
theorem zV.keep {s : qSlot} {x1 x2 x3 x4 : Option Nat} {dv : Int32} (z : zV cy h Im Ok mk g s x1 x2 x3 x4 dv) (k0 : ∀ b fs, h b = some (.inr (0, fs)) → h' b = some (.inr (0, fs))) (k4 : ∀ b fs, h b = some (.inr (4, fs)) → h' b = some (.inr (4, fs))) (ki : ∀ b o, h b = some o → Im b → h' b = some o) (eg : s.1 = 6 → zO g' s.2.2.1 = zO g s.2.2.1) : zV cy h' Im Ok mk g' s x1 x2 x3 x4 dv := by
  rcases z with ⟨z1, z2, z3, z4, z5, n, z6⟩ | ⟨z1, z2, z3, z4, z5, n, z6⟩ | ⟨z1, z2, z3, z4, z5, n, M, z6, z7⟩ | ⟨z1, z2, z3, z4, z5, z6⟩ | ⟨z1, z2, z3, z4, z5, z6⟩
  · exact Or.inl ⟨z1, z2, z3, z4, z5, n, z6.k0 (fun b fs e _ => k0 b fs e)⟩
  · exact Or.inr (Or.inl ⟨z1, z2, z3, z4, z5, n, z6.k0 (fun b fs e _ => k0 b fs e)⟩)
  · exact Or.inr (Or.inr (Or.inl ⟨z1, z2, z3, z4, z5, n, M, z6.k0 (fun b fs e _ => k4 b fs e), z7⟩))
  · exact Or.inr (Or.inr (Or.inr (Or.inl ⟨z1, z2, z3, z4, z5, z6.keep (fun b o e y => ki b o e (y.resolve_right id))⟩)))
  · exact Or.inr (Or.inr (Or.inr (Or.inr ⟨z1, z2, z3, z4, z5.trans (eg z1).symm, z6⟩)))
theorem zSl.keep {r : Option Nat} {s : qSlot} (z : zSl cy h Im Ok mk g r s) (k : ∀ b ci fs, h b = some (.inr (ci, fs)) → ci = 0 ∨ ci = 2 ∨ ci = 4 → h' b = some (.inr (ci, fs))) (ki : ∀ b o, h b = some o → Im b → h' b = some o) (eg : s.1 = 6 → zO g' s.2.2.1 = zO g s.2.2.1) : zSl cy h' Im Ok mk g' r s := by
  rcases z with z | ⟨a, z1, z2, x1, x2, x3, x4, dv, z3, z4⟩
  · exact Or.inl z
  · exact Or.inr ⟨a, z1, z2, x1, x2, x3, x4, dv, k _ _ _ z3 (Or.inr (Or.inl rfl)), z4.keep (fun b fs e => k b _ fs e (Or.inl rfl)) (fun b fs e => k b _ fs e (Or.inr (Or.inr rfl))) ki eg⟩
theorem zBu.keep {s : qSlot} {b r e : Nat} {X : Nat → Prop} (z : zBu cy h Im Ok mk s b r e X) (k1 : ∀ o, h b = some o → h' b = some o) (k2 : ∀ o, h r = some o → h' r = some o) (ki : ∀ q o, h q = some o → Im q ∨ X q → h' q = some o) : zBu cy h' Im Ok mk s b r e X := by
  obtain ⟨op, kd, ln, ed, rt, f, z1, z2, z3⟩ := z
  refine ⟨op, kd, ln, ed, rt, f, k1 _ z1, k2 _ z2, z3.imp id (fun ⟨y1, y2, y3, y4⟩ => ⟨y1, y2, y3, y4.imp id (fun ⟨w1, w2, w3⟩ => ⟨w1, w2, w3.keep ki⟩)⟩)⟩
/-- all is kept -/
theorem zQ.le (q : zQ cy h x mk sl bl kr vr E fs bd br eb Im Xb g S W) {Bd sk Rn : Nat} {dp : Nat → Nat} (i : qWv Bd sk Rn dp W) (k : qle h h') (k2 : ∀ b, h' b = none → h b = none) : zQ cy h' x mk sl bl kr vr E fs bd br eb Im Xb g S W := by
  obtain ⟨q1, ⟨a1, ⟨q9, a2, a3⟩, ⟨f1, a4⟩, f2, a5⟩, q3, q4, s1, s2, s3, s4, s5⟩ := q
  obtain ⟨o, a, kk⟩ := W
  refine ⟨⟨k _ _ q1.1, zG.keep i q1.2 (fun b fs e _ => k _ _ e) (fun b fs e => k _ _ e) (fun _ _ => rfl)⟩, ⟨k _ _ a1, ⟨q9, k _ _ a2, a3⟩, ⟨f1, k _ _ a4⟩, f2, k _ _ a5⟩, fun j hj => (q3 j hj).keep (fun b ci fs e _ => k _ _ e) (fun b o e _ => k _ _ e) (fun _ => rfl), fun b hb => (q4 b hb).keep (fun o e => k _ _ e) (fun o e => k _ _ e) (fun q o e _ => k _ _ e), s1, fun q hq => ?_, s3, fun b hb => ?_, s5⟩
  · obtain ⟨t1, t2, t3, t4, t5, t6, t7⟩ := s2 q hq
    refine ⟨t1, t2, t3, t4, t5, t6, fun ci fs e => ?_⟩
    obtain ⟨o9, ho9⟩ : ∃ o9, h q = some o9 := by
      rcases hq with z | ⟨b, hb, z⟩
      · exact (s4 0 (by decide)).2.1 q (Or.inl z)
      · exact (s4 b hb).2.1 q (Or.inr z)
    have := k _ _ ho9
    rw [e] at this
    cases this
    exact t7 ci fs ho9
  · obtain ⟨t1, t2, t3, t4⟩ := s4 b hb
    exact ⟨t1, fun q hq => by obtain ⟨o9, ho9⟩ := t2 q hq; exact ⟨o9, k _ _ ho9⟩, k _ _ t3, t4⟩
end ZQ
