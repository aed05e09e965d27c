/-! the whole of the reference: its object, its slots, its order's rows, its streams -/
/-- the stream rows lie apart from all else -/
def qAp (A : Nat → Prop) (ms mb od pt : Nat) (ra rk rv pa : Nat → Nat) : Prop := ∀ b, A b → b ≠ ms ∧ b ≠ mb ∧ (∀ i, i < 29 → qOf (ra i) (rk i) (rv i) b) ∧ b ≠ od ∧ b ≠ pt ∧ ∀ d, d < 8 → b ≠ pa d
def qRF (cy : Nat → ClassId) (h : qH) (y : Nat) (A : Nat → Prop) (ra rk rv pa : Nat → Nat) (o : qYf) (a : qWd) (k : qKd) (S : Nat → qSlot) (Rn : Nat) (R : Nat → List Int64) (ad : Nat → Nat) : Prop := qSy cy h y A o a k ∧ ¬ A y ∧ qMR cy h o.1 o.2.1 o.2.2.1 ra rk rv S ∧ qOd cy h o.2.2.2.1 o.2.2.2.2.1 pa ∧ qRz cy h A o.2.2.2.2.2.1 Rn R ad ∧ qAp A o.1 o.2.1 o.2.2.2.1 o.2.2.2.2.1 ra rk rv pa
/-- what any call of the reference leaves alone -/
def qFR (h h' : qH) (y od : Nat) (ra rk rv pa : Nat → Nat) (A A' : Nat → Prop) : Prop := (∀ b x, h b = some x → b ≠ y → (∀ i, i < 29 → qOf (ra i) (rk i) (rv i) b) → b ≠ od → (∀ d, d < 8 → b ≠ pa d) → ¬ A b → h' b = some x) ∧ (∀ b, A b → A' b) ∧ ∀ b, A' b → A b ∨ ∀ x, ¬ h b = some x
/-- the addresses that the object holds have stayed -/
def qSame (o o' : qYf) : Prop := o'.1 = o.1 ∧ o'.2.1 = o.2.1 ∧ o'.2.2.1 = o.2.2.1 ∧ o'.2.2.2.1 = o.2.2.2.1 ∧ o'.2.2.2.2.1 = o.2.2.2.2.1 ∧ o'.2.2.2.2.2.1 = o.2.2.2.2.2.1
section QRF
variable {cy : Nat → ClassId} {h h' : qH} {y : Nat} {A A' : Nat → Prop} {ra rk rv pa : Nat → Nat} {o o' : qYf} {a a' : qWd} {k k' : qKd} {S S' : Nat → qSlot} {Rn : Nat} {R : Nat → List Int64} {ad : Nat → Nat} {ms mb mw od pt : Nat}
theorem qMR.keepA {fs : List Value} (m : qMR cy h ms mb mw ra rk rv S) (hy : h y = some (.inr (8, fs))) (kp : ∀ b x, h b = some x → b ≠ y → (b = ms ∨ b = mb ∨ ∃ i, i < 29 ∧ (b = ra i ∨ b = rk i ∨ b = rv i)) → h' b = some x) : qMR cy h' ms mb mw ra rk rv S := by
  obtain ⟨m1, m2, m3, m4, m5, kd9, sm9, dp9, rw9, n9, f9, g9, m6⟩ := m
  have kr : ∀ {i : Nat} {kd n sm dp rw : Int32} {f g : Nat → Int64}, i < 29 → qRw cy h (ra i) (rk i) (rv i) kd n sm dp rw f g → qRw cy h' (ra i) (rk i) (rv i) kd n sm dp rw f g := fun hi r =>
    r.keep2 (fun b x hb hx => kp b x hx (r.ney hy hb) (Or.inr (Or.inr ⟨_, hi, hb⟩)))
  refine ⟨kp _ _ m1 (qne_arr (cy := cy) m1 hy) (Or.inl rfl), kp _ _ m2 (qne_arr (cy := cy) m2 hy) (Or.inr (Or.inl rfl)), m3, m4, fun j hj => ?_, kd9, sm9, dp9, rw9, n9, f9, g9, kr (by omega) m6⟩
  obtain ⟨n, rw_, f, g, r, q1, q2⟩ := m5 j hj
  exact ⟨n, rw_, f, g, kr (by omega) r, q1, q2⟩
theorem qMR.rowAt (m : qMR cy h ms mb mw ra rk rv S) {i : Nat} (hi : i < 29) : ∃ (kd n sm dp rw : Int32) (f g : Nat → Int64), qRw cy h (ra i) (rk i) (rv i) kd n sm dp rw f g := by
  by_cases c : i < 28
  · obtain ⟨n, rw_, f, g, r, -, -⟩ := m.2.2.2.2.1 i c
    exact ⟨_, _, _, _, _, _, _, r⟩
  · obtain ⟨-, -, -, -, -, kd9, sm9, dp9, rw9, n9, f9, g9, m6⟩ := m
    rw [show i = 28 by omega]
    exact ⟨_, _, _, _, _, _, _, m6⟩
theorem qMR.of (m : qMR cy h ms mb mw ra rk rv S) {b : Nat} {x : ClassId × vp_A} (hb : h b = some (.inl x)) (hx : (∃ O, x.2.2 = .inl O) ∨ ∃ q, x.2.2 = .inr (.inr (.inr (.inr q)))) : ∀ i, i < 29 → qOf (ra i) (rk i) (rv i) b := fun i hi => by
  obtain ⟨_, _, _, _, _, _, _, r⟩ := m.rowAt hi
  exact r.of hb hx
theorem qMR.ofL (m : qMR cy h ms mb mw ra rk rv S) {b n : Nat} {f : Nat → Int64} (hb : h b = some (.inl (cy 1, n, .inr (.inl f)))) (hn : n ≤ 1000) : ∀ i, i < 29 → qOf (ra i) (rk i) (rv i) b := fun i hi => by
  obtain ⟨_, _, _, _, _, _, _, -, -, -, r4, r5, r6⟩ := m.rowAt hi
  unfold qRb at r4
  unfold qJr at r5 r6
  refine ⟨fun q => ?_, fun q => ?_, fun q => ?_⟩
  · rw [q, r4] at hb; cases hb
  · rw [q, r5] at hb; simp at hb; omega
  · rw [q, r6] at hb; simp at hb; omega
/-- the object is set anew, the stream rows are kept -/
theorem qSy.upd {fi re rc rs so ot cn la : Nat} {cs ce : Int32} (s : qSy cy h y A o a k) (hy : h y = some (qYo o fi re rc rs so ot cn la cs ce)) (hy' : h' y = some (qYo o' fi re rc rs so ot cn la cs ce)) (fr : ∀ b x, A b → h b = some x → b ≠ y → h' b = some x) : qSy cy h' y A o' a k := by
  obtain ⟨fi2, re2, rc2, rs2, so2, ot2, cn2, la2, F, Rt, Rc, Rs, So, Ot, Cn, La, hY, ⟨h1, h2, h3, h4, h5, h6, h7, h8⟩, hg, hk, hz, hd, he, ⟨A1, A2, A3, A4, A5, A6, A7, A8⟩, hb⟩ := s
  have e := hY.symm.trans hy
  unfold qYo at e hY hy'
  simp only [Option.some.injEq, Sum.inr.injEq, Prod.mk.injEq, List.cons.injEq, Value.ref.injEq, Value.int.injEq, true_and, and_true] at e
  obtain ⟨e1, e2, e3, e4, e5, e6, e7, e8, e9, e10⟩ := e
  subst e1 e2 e4 e5 e6 e7 e8 e9
  have nY : ∀ {b : Nat} {x : ClassId × vp_A}, h b = some (.inl x) → b ≠ y := fun hb => qne_arr (cy := cy) hb hY
  refine ⟨fi2, re2, rc2, rs2, so2, ot2, cn2, la2, F, Rt, Rc, Rs, So, Ot, Cn, La, ?_, ⟨fr _ _ A1 h1 (nY h1), fr _ _ A2 h2 (nY h2), fr _ _ A3 h3 (nY h3), fr _ _ A4 h4 (nY h4), fr _ _ A5 h5 (nY h5), fr _ _ A6 h6 (nY h6), fr _ _ A7 h7 (nY h7), fr _ _ A8 h8 (nY h8)⟩, hg, hk, hz, hd, he, ⟨A1, A2, A3, A4, A5, A6, A7, A8⟩, hb⟩
  unfold qYo
  rw [hy', ← e3, ← e10]
theorem qOd.keepP (o : qOd cy h od pt pa) (kp : ∀ b x, h b = some (.inl x) → (b = pt ∨ b = od ∨ ∃ d, d < 8 ∧ b = pa d) → h' b = some (.inl x)) : qOd cy h' od pt pa := by
  obtain ⟨h1, ⟨O, h2⟩, ⟨Q, h3⟩, h4, h5⟩ := o
  exact ⟨kp _ _ h1 (Or.inl rfl), ⟨O, kp _ _ h2 (Or.inr (Or.inl rfl))⟩, ⟨Q, fun d hd => kp _ _ (h3 d hd) (Or.inr (Or.inr ⟨d, hd, rfl⟩))⟩, h4, h5⟩
theorem qSy.yo (s : qSy cy h y A o a k) : ∃ fs, h y = some (.inr (8, fs)) := by
  obtain ⟨fi2, re2, rc2, rs2, so2, ot2, cn2, la2, F, Rt, Rc, Rs, So, Ot, Cn, La, hY, -⟩ := s
  exact ⟨_, hY⟩
/-- a step of the streams -/
theorem qRF.str (q : qRF cy h y A ra rk rv pa o a k S Rn R ad) (hs : qSy cy h' y A' o' a' k') (hf : qFy h h' y A A') (nA' : ¬ A' y) (e : qSame o o') : qRF cy h' y A' ra rk rv pa o' a' k' S Rn R ad ∧ qFR h h' y o.2.2.2.1 ra rk rv pa A A' := by
  obtain ⟨q1, q2, q3, q4, q5, q6⟩ := q
  obtain ⟨fs, hy⟩ := q1.yo
  obtain ⟨e1, e2, e3, e4, e5, e6⟩ := e
  unfold qRF
  rw [e1, e2, e3, e4, e5, e6]
  have nw : ∀ {b c : Nat} {x : va_E}, h c = some x → (∀ x, ¬ h b = some x) → b ≠ c := fun hc hb z => hb _ (z ▸ hc)
  refine ⟨⟨hs, nA', q3.keepA hy (fun b x hb ny hw => hf.1 b x hb ny (fun z => ?_)), q4.keepP (fun b x hb hx => hf.1 b _ hb (qne_arr (cy := cy) hb hy) (fun z => ?_)), q5.keep hf hy, fun b hb => ?_⟩, fun b x hb ny _ _ _ nA => hf.1 b x hb ny nA, hf.2⟩
  · obtain ⟨z1, z2, z3, -⟩ := q6 b z
    rcases hw with w | w | ⟨i, hi, w⟩
    · exact z1 w
    · exact z2 w
    · obtain ⟨n1, n2, n3⟩ := z3 i hi
      rcases w with w | w | w
      · exact n1 w
      · exact n2 w
      · exact n3 w
  · obtain ⟨-, -, -, z4, z5, z6⟩ := q6 b z
    rcases hx with w | w | ⟨d, hd, w⟩
    · exact z5 w
    · exact z4 w
    · exact z6 d hd w
  · rcases hf.2.2 b hb with z | z
    · exact q6 b z
    · obtain ⟨p1, ⟨O, p2⟩, ⟨Q, p3⟩, -, -⟩ := q4
      refine ⟨nw q3.1 z, nw q3.2.1 z, fun i hi => ?_, nw p2 z, nw p1 z, fun d hd => nw (p3 d hd) z⟩
      obtain ⟨_, _, _, _, _, _, _, -, -, -, r4, r5, r6⟩ := q3.rowAt hi
      exact ⟨nw r4 z, nw r5 z, nw r6 z⟩
/-- a step of the slots, or one that finds the order -/
theorem qRF.row {fi re rc rs so ot cn la : Nat} {cs ce : Int32} (q : qRF cy h y A ra rk rv pa o a k S Rn R ad) (hy : h y = some (qYo o fi re rc rs so ot cn la cs ce)) (hy' : h' y = some (qYo o' fi re rc rs so ot cn la cs ce)) (hm : qMR cy h' o.1 o.2.1 o.2.2.1 ra rk rv S') (ho : qOd cy h' o.2.2.2.1 o.2.2.2.2.1 pa) (hf : qFo h h' y o.2.2.2.1 ra rk rv pa) (e : qSame o o') : qRF cy h' y A ra rk rv pa o' a k S' Rn R ad ∧ qFR h h' y o.2.2.2.1 ra rk rv pa A A := by
  obtain ⟨q1, q2, q3, q4, q5, q6⟩ := q
  have hy0 : ∃ fs, h y = some (.inr (8, fs)) := q1.yo
  obtain ⟨fs, hy0⟩ := hy0
  obtain ⟨e1, e2, e3, e4, e5, e6⟩ := e
  unfold qRF
  rw [e1, e2, e3, e4, e5, e6]
  have nod : ∀ {b : Nat} {z : ClassId × vp_A}, h b = some (.inl z) → (∀ O, z.2.2 ≠ .inl O) → b ≠ o.2.2.2.1 ∧ ∀ d, d < 8 → b ≠ pa d := fun hb hz => by
    have := q4.no hy0 hb (Or.inl ⟨_, rfl, hz⟩)
    exact ⟨this.2.1, this.2.2⟩
  refine ⟨⟨q1.upd hy hy' (fun b x hA hb ny => ?_), q2, hm, ho, ?_, q6⟩, fun b x hb ny h1 h2 h3 _ => hf b x hb ny h1 h2 h3, fun b z => z, fun b z => Or.inl z⟩
  · obtain ⟨-, -, z3, z4, -, z6⟩ := q6 b hA
    exact hf b x hb ny z3 z4 z6
  · obtain ⟨⟨f, r1, r2⟩, r3, r4, r5⟩ := q5
    refine ⟨⟨f, ?_, r2⟩, r3, fun i hi => ?_, r5⟩
    · have n := nod r1 (fun O z => by cases z)
      exact hf _ _ r1 (qne_arr (cy := cy) r1 hy0) (q3.of r1 (Or.inr ⟨_, rfl⟩)) n.1 n.2
    · obtain ⟨a1, a2, a3⟩ := r4 i hi
      have n := nod a1 (fun O z => by cases z)
      exact ⟨hf _ _ a1 (qne_arr (cy := cy) a1 hy0) (q3.ofL a1 a3) n.1 n.2, a2, a3⟩
/-- the frame of the calls that only know slots -/
theorem qRF.rowM {fi re rc rs so ot cn la : Nat} {cs ce : Int32} (q : qRF cy h y A ra rk rv pa o a k S Rn R ad) (hy : h y = some (qYo o fi re rc rs so ot cn la cs ce)) (hy' : h' y = some (qYo o' fi re rc rs so ot cn la cs ce)) (hm : qMR cy h' o.1 o.2.1 o.2.2.1 ra rk rv S') (hf : qFm h h' y ra rk rv) (e : qSame o o') : qRF cy h' y A ra rk rv pa o' a k S' Rn R ad ∧ qFR h h' y o.2.2.2.1 ra rk rv pa A A := by
  have hy0 : ∃ fs, h y = some (.inr (8, fs)) := q.1.yo
  obtain ⟨fs, hy0⟩ := hy0
  refine q.row hy hy' hm ?_ (fun b x hb n1 n2 _ _ => hf b x hb n1 n2) e
  exact q.2.2.2.1.keep (fun b x hb hx => hf b _ hb (qne_arr (cy := cy) hb hy0) (q.2.2.1.of hb hx))
end QRF
