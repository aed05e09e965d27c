/-- cells of the reference -/
def JRf (h : qH) (y : Nat) (A : Nat → Prop) (ra rk rv pa : Nat → Nat) (o : qYf) (ad : Nat → Nat) (Rn : Nat) (z : Nat) : Prop := z = y ∨ (A z ∧ ∃ x, h z = some x) ∨ (∃ i, i < 29 ∧ (z = ra i ∨ z = rk i ∨ z = rv i)) ∨ z = o.1 ∨ z = o.2.1 ∨ z = o.2.2.2.1 ∨ z = o.2.2.2.2.1 ∨ z = o.2.2.2.2.2.1 ∨ (∃ d, d < 8 ∧ z = pa d) ∨ ∃ i, i < Rn ∧ z = ad i
/-- arrays of the component -/
def JCl (sl bl kr vr : Nat) (br : Nat → Nat) (Im : Nat → Prop) (Xb : Nat → Nat → Prop) (z : Nat) : Prop := z = sl ∨ z = bl ∨ z = kr ∨ z = vr ∨ (∃ b, b < 4 ∧ z = br b) ∨ zNc Im Xb z
section JJ
variable {cy : Nat → ClassId} {h h' : qH} {x sl bl kr vr E : Nat} {mk : Int32} {fs : Nat → Option Nat} {bd br eb : Nat → Nat} {Im : Nat → Prop} {Xb : Nat → Nat → Prop} {g : Nat → Nat} {S Sc : Nat → qSlot} {W Wc : qWo}
variable {y : Nat} {A : Nat → Prop} {ra rk rv pa : Nat → Nat} {o : qYf} {a : qWd} {k : qKd} {Rn : Nat} {R : Nat → List Int64} {ad : Nat → Nat}
theorem qRF.keepR (q : qRF cy h y A ra rk rv pa o a k S Rn R ad) (kp : ∀ z v, h z = some v → JRf h y A ra rk rv pa o ad Rn z → h' z = some v) : qRF cy h' y A ra rk rv pa o a k S Rn R ad := by
  obtain ⟨q1, q2, q3, q4, ⟨⟨f, z1, z2⟩, z3, z4, z5⟩, q6⟩ := q
  obtain ⟨fi, re, rc, rs, so, ot, cn, la, hy⟩ := q1.yo2
  refine ⟨q1.upd hy (kp _ _ hy (Or.inl rfl)) (fun b v hA hb _ => kp _ _ hb (Or.inr (Or.inl ⟨hA, _, hb⟩))), q2, q3.keepA (y := y) hy (fun b v hb _ hor => kp _ _ hb ?_), q4.keepP (fun b v hb hor => kp _ _ hb ?_), ⟨⟨f, kp _ _ z1 (Or.inr (Or.inr (Or.inr (Or.inr (Or.inr (Or.inr (Or.inr (Or.inl rfl)))))))), z2⟩, z3, fun i hi => ⟨kp _ _ (z4 i hi).1 ?_, (z4 i hi).2⟩, z5⟩, q6⟩
  · rcases hor with e | e | e
    · exact Or.inr (Or.inr (Or.inr (Or.inl e)))
    · exact Or.inr (Or.inr (Or.inr (Or.inr (Or.inl e))))
    · exact Or.inr (Or.inr (Or.inl e))
  · rcases hor with e | e | e
    · exact Or.inr (Or.inr (Or.inr (Or.inr (Or.inr (Or.inr (Or.inl e))))))
    · exact Or.inr (Or.inr (Or.inr (Or.inr (Or.inr (Or.inl e)))))
    · exact Or.inr (Or.inr (Or.inr (Or.inr (Or.inr (Or.inr (Or.inr (Or.inr (Or.inl e))))))))
  · exact Or.inr (Or.inr (Or.inr (Or.inr (Or.inr (Or.inr (Or.inr (Or.inr (Or.inr (⟨i, hi, rfl⟩)))))))))
/-- the component's state where its cells are kept -/
theorem zQ.keepR (q : zQ cy h x mk sl bl kr vr E fs bd br eb Im Xb g S W) {Bd sk Rn : Nat} {dp : Nat → Nat} (i : qWv Bd sk Rn dp W) (ko : ∀ z ci fv, h z = some (.inr (ci, fv)) → ci ≤ 6 → h' z = some (.inr (ci, fv))) (ka : ∀ z v, h z = some v → JCl sl bl kr vr br Im Xb z → h' z = some v) : zQ cy h' x mk sl bl kr vr E fs bd br eb Im Xb g S W := by
  obtain ⟨q1, ⟨a1, ⟨q9, a2, a3⟩, ⟨f1, a4⟩, f2, a5⟩, q3, q4, s1, s2, s3, s4, s5⟩ := q
  obtain ⟨o, a, kk⟩ := W
  have kn : ∀ z v, h z = some v → zNc Im Xb z → h' z = some v := fun z v e y => ka z v e (Or.inr (Or.inr (Or.inr (Or.inr (Or.inr y)))))
  refine ⟨⟨ko _ _ _ q1.1 (by decide), zG.keep i q1.2 (fun b fs e _ => ko _ _ _ e (by decide)) (fun b fs e => ko _ _ _ e (by decide)) (fun _ _ => rfl)⟩, ⟨ka _ _ a1 (Or.inl rfl), ⟨q9, ka _ _ a2 (Or.inr (Or.inl rfl)), a3⟩, ⟨f1, ka _ _ a4 (Or.inr (Or.inr (Or.inl rfl)))⟩, f2, ka _ _ a5 (Or.inr (Or.inr (Or.inr (Or.inl rfl))))⟩, fun j hj => (q3 j hj).keep (fun b ci fs e y => ko _ _ _ e (by rcases y with rfl | rfl | rfl <;> decide)) (fun b o e y => kn _ _ e (Or.inl y)) (fun _ => rfl), fun b hb => ?_, s1, fun q hq => ?_, s3, fun b hb => ?_, s5⟩
  · obtain ⟨op, kd, ln, ed, rt, f, b1, b2, -⟩ := q4 b hb
    exact (q4 b hb).keep (fun o e => by rw [b1] at e; cases e; exact ko _ _ _ b1 (by decide)) (fun o e => ka _ _ e (Or.inr (Or.inr (Or.inr (Or.inr (Or.inl ⟨b, hb, rfl⟩)))))) (fun q o e y => kn _ _ e (y.imp id (fun z => ⟨b, hb, z⟩)))
  · obtain ⟨t1, t2, t3, t4, t5, t6, t7⟩ := s2 q hq
    refine ⟨t1, t2, t3, t4, t5, t6, fun ci fs e => ?_⟩
    obtain ⟨o9, ho9⟩ : ∃ o9, h q = some o9 := by
      rcases hq with z | ⟨b, hb, z⟩
      · exact (s4 0 (by decide)).2.1 q (Or.inl z)
      · exact (s4 b hb).2.1 q (Or.inr z)
    have := kn _ _ ho9 hq
    rw [e] at this
    cases this
    exact t7 ci fs ho9
  · obtain ⟨t1, t2, t3, t4⟩ := s4 b hb
    exact ⟨t1, fun q hq => by obtain ⟨o9, ho9⟩ := t2 q hq; exact ⟨o9, kn _ _ ho9 (hq.imp id (fun z => ⟨b, hb, z⟩))⟩, kn _ _ t3 (Or.inl t4), t4⟩
theorem zQ.dom (q : zQ cy h x mk sl bl kr vr E fs bd br eb Im Xb g S W) {z : Nat} (hz : JCl sl bl kr vr br Im Xb z) : ∃ v, h z = some v := by
  obtain ⟨q1, ⟨a1, ⟨q9, a2, a3⟩, ⟨f1, a4⟩, f2, a5⟩, q3, q4, s1, s2, s3, s4, s5⟩ := q
  rcases hz with rfl | rfl | rfl | rfl | ⟨b, hb, rfl⟩ | y | ⟨b, hb, y⟩
  · exact ⟨_, a1⟩
  · exact ⟨_, a2⟩
  · exact ⟨_, a4⟩
  · exact ⟨_, a5⟩
  · obtain ⟨op, kd, ln, ed, rt, f, b1, b2, -⟩ := q4 b hb; exact ⟨_, b2⟩
  · exact (s4 0 (by decide)).2.1 z (Or.inl y)
  · exact (s4 b hb).2.1 z (Or.inr y)
theorem qRF.dom (q : qRF cy h y A ra rk rv pa o a k S Rn R ad) {z : Nat} (hz : JRf h y A ra rk rv pa o ad Rn z) : ∃ v, h z = some v := by
  obtain ⟨q1, q2, q3, q4, ⟨⟨f, z1, z2⟩, z3, z4, z5⟩, q6⟩ := q
  obtain ⟨fi, re, rc, rs, so, ot, cn, la, hy⟩ := q1.yo2
  rcases hz with rfl | ⟨-, e⟩ | ⟨i, hi, e⟩ | rfl | rfl | rfl | rfl | rfl | ⟨d, hd, rfl⟩ | ⟨i, hi, rfl⟩
  · exact ⟨_, hy⟩
  · exact e
  · obtain ⟨kd, n, sm, dp, rw, f, g, r1, r2, r3, r4, r5, r6⟩ := q3.rowAt hi
    rcases e with rfl | rfl | rfl
    · exact ⟨_, r4⟩
    · exact ⟨_, r5⟩
    · exact ⟨_, r6⟩
  · exact ⟨_, q3.1⟩
  · exact ⟨_, q3.2.1⟩
  · exact ⟨_, q4.2.1.choose_spec⟩
  · exact ⟨_, q4.1⟩
  · exact ⟨_, z1⟩
  · exact ⟨_, q4.2.2.1.choose_spec d hd⟩
  · exact ⟨_, (z4 i hi).1⟩
/-- the reference's objects are of numbers 7 and 8 -/
theorem qRF.cls (q : qRF cy h y A ra rk rv pa o a k S Rn R ad) (hA : ∀ z ci fv, A z → ¬ h z = some (.inr (ci, fv))) {z : Nat} (hz : JRf h y A ra rk rv pa o ad Rn z) {ci : Nat} {fv : List Value} (e : h z = some (.inr (ci, fv))) : 7 ≤ ci := by
  obtain ⟨q1, q2, q3, q4, ⟨⟨f, z1, z2⟩, z3, z4, z5⟩, q6⟩ := q
  obtain ⟨fi, re, rc, rs, so, ot, cn, la, hy⟩ := q1.yo2
  rcases hz with rfl | ⟨e1, -⟩ | ⟨i, hi, e1⟩ | rfl | rfl | rfl | rfl | rfl | ⟨d, hd, rfl⟩ | ⟨i, hi, rfl⟩
  · rw [hy] at e; unfold qYo at e; simp at e; omega
  · exact absurd e (hA z ci fv e1)
  · obtain ⟨kd, n, sm, dp, rw, f, g, r1, r2, r3, r4, r5, r6⟩ := q3.rowAt hi
    rcases e1 with rfl | rfl | rfl
    · rw [r4] at e; unfold qRb at e; simp at e; omega
    · rw [r5] at e; unfold qJr at e; cases e
    · rw [r6] at e; unfold qJr at e; cases e
  · rw [q3.1] at e; cases e
  · rw [q3.2.1] at e; cases e
  · rw [q4.2.1.choose_spec] at e; cases e
  · rw [q4.1] at e; cases e
  · rw [z1] at e; cases e
  · rw [q4.2.2.1.choose_spec d hd] at e; cases e
  · rw [(z4 i hi).1] at e; cases e
end JJ
