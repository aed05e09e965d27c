/-! steps of the component's state -/
section ZQ2
variable {cy : Nat → ClassId} {h h' h1 h2 : qH} {x sl bl kr vr E E' : Nat} {mk : Int32} {fs fs' : Nat → Option Nat} {bd br eb : Nat → Nat} {Im Im' : Nat → Prop} {Xb Xb' : Nat → Nat → Prop} {g g' : Nat → Nat} {S S' : Nat → qSlot} {W W' : qWo} {Ok Ok' : Nat → Prop}
theorem qTr.ok {m : Int32} {e : Nat} (k : ∀ o, Ok o → Ok' o) (ki : ∀ b, Im b → Im' b) : ∀ {r a : Nat} {L : qKV} {X : Nat → Prop}, qTr cy h Im e Ok m r a L X → qTr cy h Im' e Ok' m r a L X
  | r, a, L, X, t => by
    have key : ∀ {ow ka va na : Nat} {C : Nat → Nat}, thNd cy h Im e Ok m r a L L.length X ow ka va na C → thNd cy h Im' e Ok' m r a L L.length X ow ka va na C := fun g => by
      obtain ⟨g1, g2, g3, g4, g5, g6, g7⟩ := g
      refine ⟨g1, g2, g3, g4, ki _ g5, g6, ?_⟩
      rcases g7 with ⟨y1, y2, y3, y4, y5, y6⟩ | ⟨y1, y2, y3, y4⟩
      · exact Or.inl ⟨y1, y2, y3, fun z => ki _ (y4 z), y5, fun z => ki _ (y6 z)⟩
      · exact Or.inr ⟨k _ y1, ki _ y2, ki _ y3, ki _ y4⟩
    cases r with
    | zero =>
      obtain ⟨ow, ka, va, na, C, g⟩ := t
      exact ⟨ow, ka, va, na, C, key g⟩
    | succ r =>
      obtain ⟨ow, ka, va, na, C, Xs, g, x, q⟩ := t
      exact ⟨ow, ka, va, na, C, Xs, key g, x, fun j v z => (q j v z).ok k ki⟩
theorem qRt.ok {m : Int32} {e : Nat} {r : Option Nat} {L : qKV} {X : Nat → Prop} (t : qRt cy h Im e Ok m r L X) (k : ∀ o, Ok o → Ok' o) (ki : ∀ b, Im b → Im' b) : qRt cy h Im' e Ok' m r L X := by
  rcases t with z | ⟨a, z1, z2, z3⟩
  · exact Or.inl z
  · exact Or.inr ⟨a, z1, z2, z3.ok k ki⟩
theorem qRt.ends {m : Int32} {e e' : Nat} {r : Option Nat} {L : qKV} {X : Nat → Prop} (t : qRt cy h Im e Ok m r L X) (k1 : ∀ b, Im b → Im' b) (k2 : ∀ b, X b → Im' b) (k3 : ∀ o, Ok o → Ok' o) (k4 : (∃ b, X b) → Ok' e) : qRt cy h Im' e' Ok' m r L (fun _ => False) := by
  rcases t with z | ⟨a, z1, z2, z3⟩
  · exact Or.inl z
  · exact Or.inr ⟨a, z1, z2, z3.ends k1 k2 k3 k4⟩
theorem qRt.fi {m : Int32} {e : Nat} {r : Option Nat} {L : qKV} {X : Nat → Prop} (t : qRt cy h Im e Ok m r L X) : qFi h 3 4 r (nI L.length) := by
  rcases t with ⟨z1, z2⟩ | ⟨a, z1, z2, z3⟩
  · subst z1 z2; exact Or.inl ⟨rfl, rfl⟩
  · subst z1; exact z3.fi
theorem zV.ok {s : qSlot} {x1 x2 x3 x4 : Option Nat} {dv : Int32} (z : zV cy h Im Ok mk g s x1 x2 x3 x4 dv) (k : ∀ o, Ok o → Ok' o) (ki : ∀ b, Im b → Im' b) : zV cy h Im' Ok' mk g s x1 x2 x3 x4 dv := by
  rcases z with z | z | z | ⟨z1, z2, z3, z4, z5, z6⟩ | z
  · exact Or.inl z
  · exact Or.inr (Or.inl z)
  · exact Or.inr (Or.inr (Or.inl z))
  · exact Or.inr (Or.inr (Or.inr (Or.inl ⟨z1, z2, z3, z4, z5, z6.ok k ki⟩)))
  · exact Or.inr (Or.inr (Or.inr (Or.inr z)))
theorem zHd.ok {s : qSlot} {a : Nat} (z : zHd cy h Im Ok mk g s a) (k : ∀ o, Ok o → Ok' o) (ki : ∀ b, Im b → Im' b) : zHd cy h Im' Ok' mk g s a := by
  obtain ⟨x1, x2, x3, x4, dv, z1, z2⟩ := z
  exact ⟨x1, x2, x3, x4, dv, z1, z2.ok k ki⟩
theorem zSl.ok {r : Option Nat} {s : qSlot} (z : zSl cy h Im Ok mk g r s) (k : ∀ o, Ok o → Ok' o) (ki : ∀ b, Im b → Im' b) : zSl cy h Im' Ok' mk g r s := z.imp id (fun ⟨a, z1, z2, z3⟩ => ⟨a, z1, z2, z3.ok k ki⟩)
theorem zBu.ok {s : qSlot} {b r e : Nat} {X : Nat → Prop} (z : zBu cy h Im Ok mk s b r e X) (k : ∀ o, Ok o → Ok' o) (ki : ∀ b, Im b → Im' b) : zBu cy h Im' Ok' mk s b r e X := by
  obtain ⟨op, kd, ln, ed, rt, f, z1, z2, z3⟩ := z
  exact ⟨op, kd, ln, ed, rt, f, z1, z2, z3.imp id (fun ⟨y1, y2, y3, y4⟩ => ⟨y1, y2, y3, y4.imp id (fun ⟨w1, w2, w3⟩ => ⟨w1, w2, w3.ok k ki⟩)⟩)⟩
/-- the amount that a Held answers -/
def zAm (s : qSlot) : Nat := if s.1 = 6 then 0 else s.2.1.length
theorem zSv_len {s : qSlot} : (zSv s).length = s.2.1.length := by unfold zSv; split <;> simp
theorem zV.size {s : qSlot} {x1 x2 x3 x4 : Option Nat} {dv : Int32} (z : zV cy h Im Ok mk g s x1 x2 x3 x4 dv) : ∃ t1 t2 t3 : Int32, qFi h 0 5 x1 t1 ∧ qFi h 3 4 x2 t2 ∧ qFi h 4 3 x3 t3 ∧ nI (zAm s) = t1 + t2 + t3 := by
  have n0 : ∀ {c f : Nat}, qFi h c f none 0 := Or.inl ⟨rfl, rfl⟩
  unfold zAm
  rcases z with ⟨z1, z2, z3, z4, z5, n, z6⟩ | ⟨z1, z2, z3, z4, z5, n, z6⟩ | ⟨z1, z2, z3, z4, z5, n, M, z6, z7⟩ | ⟨z1, z2, z3, z4, z5, z6⟩ | ⟨z1, z2, z3, z4, z5, z6⟩
  · subst z2 z3
    rw [if_neg (by rcases z1 with z | z <;> rw [z] <;> decide)]
    exact ⟨_, 0, 0, z6.fiS, n0, n0, by rw [List.length_map]; simp⟩
  · subst z2 z3
    rw [if_neg (by rw [z1]; decide)]
    exact ⟨_, 0, 0, z6.fiS, n0, n0, by simp⟩
  · subst z2 z3
    rw [if_neg (by rw [z1]; decide)]
    exact ⟨0, 0, _, n0, n0, z6.fiS, by rw [z7.length_eq, List.length_map]; simp⟩
  · subst z2 z3
    rw [if_neg (by rcases z1 with z | z <;> rw [z] <;> decide)]
    exact ⟨0, _, 0, n0, z6.fi, n0, by rw [zSv_len]; simp⟩
  · subst z2 z3 z4
    rw [if_pos z1]
    exact ⟨0, 0, 0, n0, n0, n0, by decide⟩
theorem zHd.hd {s : qSlot} {a : Nat} {x1 x2 x3 x4 : Option Nat} {dv : Int32} (e : h a = some (.inr (2, [.int s.1, va_rf x1, va_rf x2, va_rf x3, va_rf x4, .int dv]))) (z : zV cy h Im Ok mk g s x1 x2 x3 x4 dv) : qHd h a s.1 x1 x2 x3 x4 dv (nI (zAm s)) := ⟨e, z.size⟩
theorem zOk.up (hE : E ≤ E') (es : ∀ b, b < 4 → (S' (24 + b)).1 = (S (24 + b)).1) : ∀ o, zOk E eb S o → zOk E' eb S' o := fun o z => ⟨by have := z.1; omega, fun b hb y => z.2 b hb (by rw [← es b hb]; exact y)⟩
/-- a step that leaves the builders and the nodes alone -/
theorem zQ.gen (q : zQ cy h x mk sl bl kr vr E fs bd br eb Im Xb g S W) (hw : zW h' x mk sl bl kr vr (nI E') g' (xRs S') W') (ha : zAr cy h' sl bl kr vr fs' bd) (hE : E ≤ E') (hE9 : E' < 1000) (es : ∀ b, b < 4 → S' (24 + b) = S (24 + b))
    (kc : ∀ q ci fv, h q = some (.inr (ci, fv)) → ci ≠ 5 → ci ≠ 6 → h' q = some (.inr (ci, fv))) (kb : ∀ b, b < 4 → ∀ o, h (br b) = some o → h' (br b) = some o) (kn : ∀ q o, h q = some o → zNc Im Xb q → h' q = some o)
    (hs : ∀ i, i < 24 → (S' i = S i ∧ fs' i = fs i ∧ ((S i).1 = 6 → zO g' (S i).2.2.1 = zO g (S i).2.2.1)) ∨ zSl cy h' Im (zOk E' eb S') mk g' (fs' i) (S' i)) : zQ cy h' x mk sl bl kr vr E' fs' bd br eb Im Xb g' S' W' := by
  obtain ⟨q1, q2, q3, q4, s1, s2, s3, s4, s5, s6⟩ := q
  have up := zOk.up (eb := eb) (S := S) (S' := S') hE (fun b hb => by rw [es b hb])
  have dm : ∀ {z : Nat}, zNc Im Xb z → ∃ o, h z = some o := fun {z} hz => by
    rcases hz with y | ⟨b, hb, y⟩
    · exact (s4 0 (by decide)).2.1 z (Or.inl y)
    · exact (s4 b hb).2.1 z (Or.inr y)
  refine ⟨hw, ha, fun i hi => ?_, fun b hb => ?_, s1, fun z hz => ?_, s3, fun b hb => ?_, fun b hb y => ?_, hE9⟩
  · rcases hs i hi with ⟨e1, e2, e3⟩ | z
    · rw [e1, e2]
      exact ((q3 i hi).keep (fun b ci fv e y => kc b ci fv e (by rcases y with rfl | rfl | rfl <;> decide) (by rcases y with rfl | rfl | rfl <;> decide)) (fun b o e y => kn b o e (Or.inl y)) e3).ok up (fun _ z => z)
    · exact z
  · rw [es b hb]
    refine ((q4 b hb).keep (fun o e => ?_) (kb b hb) (fun z o e y => kn z o e (y.imp id (fun w => ⟨b, hb, w⟩)))).ok up (fun _ z => z)
    obtain ⟨op, kd, ln, ed, rt, f, z1, -⟩ := q4 b hb
    rw [z1] at e
    cases e
    exact kc _ _ _ z1 (by decide) (by decide)
  · obtain ⟨t1, t2, t3, t4, t5, t6, t7⟩ := s2 z hz
    refine ⟨t1, t2, t3, t4, t5, t6, fun ci fv e => ?_⟩
    obtain ⟨o9, ho9⟩ := dm hz
    have := kn z o9 ho9 hz
    rw [e] at this
    cases this
    exact t7 ci fv ho9
  · obtain ⟨t1, t2, t3, t4⟩ := s4 b hb
    exact ⟨t1, fun z hz => by obtain ⟨o9, ho9⟩ := t2 z hz; exact ⟨o9, kn z o9 ho9 (hz.imp id (fun w => ⟨b, hb, w⟩))⟩, kn _ _ t3 (Or.inl t4), t4⟩
  · rw [es b hb] at y
    obtain ⟨y1, y2⟩ := s5 b hb y
    exact ⟨by omega, fun c hc w => y2 c hc (by rw [es c hc] at w; exact w)⟩
/-- what a step keeps, of that which isn't the component's to change -/
theorem zFr.rf : zFr h h x sl kr vr bd br Xb := ⟨fun _ _ e _ => e, fun _ z => z⟩
theorem zFr.le (k : qle h h') (k2 : ∀ b, h' b = none → h b = none) : zFr h h' x sl kr vr bd br Xb := ⟨fun _ _ e _ => k _ _ e, k2⟩
theorem zFr.tr (f : zFr h h1 x sl kr vr bd br Xb) (f2 : zFr h1 h2 x sl kr vr bd br Xb') (hX : ∀ b, b < 4 → ∀ q, Xb' b q → Xb b q ∨ h q = none) : zFr h h2 x sl kr vr bd br Xb := by
  refine ⟨fun q o e n => f2.1 q o (f.1 q o e n) (fun z => n ?_), fun q z => f.2 q (f2.2 q z)⟩
  rcases z with z | z | z | z | ⟨b, hb, z⟩ | ⟨fv, z⟩
  · exact Or.inl z
  · exact Or.inr (Or.inl z)
  · exact Or.inr (Or.inr (Or.inl z))
  · exact Or.inr (Or.inr (Or.inr (Or.inl z)))
  · refine Or.inr (Or.inr (Or.inr (Or.inr (Or.inl ⟨b, hb, ?_⟩))))
    rcases z with z | z | z
    · exact Or.inl z
    · exact Or.inr (Or.inl z)
    · rcases hX b hb q z with y | y
      · exact Or.inr (Or.inr y)
      · rw [y] at e; cases e
  · rw [f.1 q o e n] at z
    exact Or.inr (Or.inr (Or.inr (Or.inr (Or.inr ⟨fv, e.trans z⟩))))
theorem zFr.trs (f : zFr h h1 x sl kr vr bd br Xb) (f2 : zFr h1 h2 x sl kr vr bd br Xb) : zFr h h2 x sl kr vr bd br Xb := f.tr f2 (fun _ _ _ z => Or.inl z)
theorem zH.fr (f : zH h h' x) : zFr h h' x sl kr vr bd br Xb := ⟨fun q o e n => f.1 q o e (fun z => n (Or.inl z)) (fun fv z => n (Or.inr (Or.inr (Or.inr (Or.inr (Or.inr ⟨fv, by rw [e, z]⟩)))))), f.2.2⟩
theorem zFr.set {q : Nat} {o o' : va_E} (hq : h q = some o) (hw : q = x ∨ q = sl ∨ q = kr ∨ q = vr) : zFr h (qs h q o') x sl kr vr bd br Xb := by
  refine ⟨fun b o2 e n => (qs_ne (fun z => n ?_)).trans e, fun b z => ?_⟩
  · subst z
    rcases hw with w | w | w | w
    · exact Or.inl w
    · exact Or.inr (Or.inl w)
    · exact Or.inr (Or.inr (Or.inl w))
    · exact Or.inr (Or.inr (Or.inr (Or.inl w)))
  · by_cases c : b = q
    · rw [c, qs_self] at z; cases z
    · rw [qs_ne c] at z; exact z
theorem qle_dom {q : Nat} {o : va_E} (hq : h q = none) : ∀ b, qs h q o b = none → h b = none := fun b z => by
  by_cases c : b = q
  · rw [c]; exact hq
  · rw [qs_ne c] at z; exact z
/-- a Held is laid into slot i -/
theorem zQ.put (q : zQ cy h x mk sl bl kr vr E fs bd br eb Im Xb g S W) {Bd sk Rn : Nat} {dp : Nat → Nat} (iv : qWv Bd sk Rn dp W) {i a : Nat} (hi : i < 24) {s : qSlot} (hk : ¬ s.1 = -1) (z : zHd cy h Im (zOk E eb S) mk g s a) : zQ cy (qs h sl (.inl (cy 3, 24, .inr (.inr (.inr (.inr (va_up fs i (some a)))))))) x mk sl bl kr vr E (va_up fs i (some a)) bd br eb Im Xb g (qU S i s) W := by
  have q0 := q
  obtain ⟨q1, ⟨a1, ⟨q9, a2, a3⟩, ⟨f1, a4⟩, f2, a5⟩, q3, q4, s1, s2, s3, s4, s5, s6⟩ := q
  have ob : ∀ {b ci : Nat} {fv : List Value} {o : va_E}, h b = some (.inr (ci, fv)) → qs h sl o b = some (.inr (ci, fv)) := fun {b ci fv o} e => (qs_ne (fun y => by rw [y, a1] at e; cases e)).trans e
  have nl : ∀ {b : Nat} {f : Nat → Int64} {o : va_E}, h b = some (.inl (cy 1, 1000, .inr (.inl f))) → qs h sl o b = some (.inl (cy 1, 1000, .inr (.inl f))) := fun {b f o} e => (qs_ne (fun y => by rw [y, a1] at e; simp at e)).trans e
  have eR : xRs (qU S i s) = xRs S := xRs_qU hi
  obtain ⟨o, a9, k9⟩ := W
  refine q0.gen ⟨ob q1.1, ?_⟩ ⟨qs_self, ⟨q9, (qs_ne (fun y => s1.2.1 y.symm)).trans a2, a3⟩, ⟨f1, nl a4⟩, f2, nl a5⟩ (Nat.le_refl _) s6 (fun b hb => qU_ne (by omega)) (fun b ci fv e _ _ => ob e) (fun b hb o e => ?_) (fun b o e y => (qs_ne (s2 b y).2.1).trans e) (fun j hj => ?_)
  · rw [eR]
    exact zG.keep iv q1.2 (fun b fv e _ => ob e) (fun b fv e => ob e) (fun _ _ => rfl)
  · obtain ⟨op, kd, ln, ed, rt, f, -, y2, -⟩ := q4 b hb
    rw [y2] at e
    cases e
    exact nl y2
  · by_cases c : j = i
    · subst c
      refine Or.inr (Or.inr ⟨a, if_pos rfl, by rw [qU_at]; exact hk, ?_⟩)
      rw [qU_at]
      obtain ⟨x1, x2, x3, x4, dv, z1, z2⟩ := z
      exact ⟨x1, x2, x3, x4, dv, ob z1, (z2.keep (fun b fv e => ob e) (fun b fv e => ob e) (fun b o e y => (qs_ne (s2 b (Or.inl y)).2.1).trans e) (fun _ => rfl)).ok (zOk.up (Nat.le_refl _) (fun b hb => by rw [qU_ne (by omega)])) (fun _ y => y)⟩
    · exact Or.inl ⟨qU_ne c, if_neg c, fun _ => rfl⟩
/-- a step of the streams (or of the trove's own numbers) -/
theorem zQ.str (q : zQ cy h x mk sl bl kr vr E fs bd br eb Im Xb g S W) (hw : zW h' x mk sl bl kr vr (nI E) g' (xRs S) W') (hH : zH h h' x) {n : Nat} (eg : ∀ s, s < n → g' s = g s) (hst : ∀ i, i < 24 → (S i).1 = 6 → (S i).2.2.1 < n) : zQ cy h' x mk sl bl kr vr E fs bd br eb Im Xb g' S W' := by
  have q0 := q
  obtain ⟨q1, ⟨a1, ⟨q9, a2, a3⟩, ⟨f1, a4⟩, f2, a5⟩, q3, q4, s1, s2, s3, s4, s5, s6⟩ := q
  have ka : ∀ {b : Nat} {y : ClassId × vp_A}, h b = some (.inl y) → h' b = some (.inl y) := fun {b y} e => hH.1 b _ e (fun z => by rw [z, q1.1] at e; cases e) (fun fv z => by cases z)
  refine q0.gen hw ⟨ka a1, ⟨q9, ka a2, a3⟩, ⟨f1, ka a4⟩, f2, ka a5⟩ (Nat.le_refl _) s6 (fun _ _ => rfl) (fun b ci fv e c5 c6 => hH.1 b _ e (fun z => by rw [z, q1.1] at e; simp at e; exact c6 e.1.symm) (fun fv2 z => by simp at z; exact c5 z.1)) (fun b hb o e => ?_) (fun b o e y => hH.1 b o e (s2 b y).1 (fun fv z => absurd ((s2 b y).2.2.2.2.2.2 5 fv (by rw [e, z])) (by decide))) (fun j hj => Or.inl ⟨rfl, rfl, fun y => zO_cg eg (hst j hj y)⟩)
  obtain ⟨op, kd, ln, ed, rt, f, -, y2, -⟩ := q4 b hb
  rw [y2] at e
  cases e
  exact ka y2
end ZQ2
