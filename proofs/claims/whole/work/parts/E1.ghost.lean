/-! the streams of the component: one object for each cons of the reference's world; g says which -/
def zO (g : Nat → Nat) (s : Nat) : Option Nat := if s = 0 then none else some (g s)
theorem zO_z {g : Nat → Nat} : zO g 0 = none := if_pos rfl
theorem zO_s {g : Nat → Nat} {s : Nat} (h : ¬ s = 0) : zO g s = some (g s) := if_neg h
theorem zO_cg {g g' : Nat → Nat} {s n : Nat} (e : ∀ s, s < n → g' s = g s) (h : s < n) : zO g' s = zO g s := by
  unfold zO; rw [e s h]
/-- an object stands for a cell's recipe -/
def zR (h : qH) (g : Nat → Nat) (R : Nat → List Int64) (fst : Int64) (rc rs so ot : Nat) (cn la : Int64) (way cod : Int32) (cc : Int64) (num : Int32) (src beh row : Option Nat) (dn : Int32) (rst : Option Nat) : Prop :=
  (rc = 0 ∧ dn = 1 ∧ rst = zO g rs) ∨ (dn = 0 ∧ ((rc = 1 ∧ way = 1 ∧ cod = nI ot ∧ cc = cn ∧ fst = la ∧ src = none) ∨
   (rc = 2 ∧ way = 2 ∧ src = none ∧ num = nI (ot - 1) ∧ 1 ≤ ot ∧ ∃ n, qBr h n row ((R so).map (fun v => (0, v)))) ∨
   (rc = 3 ∧ way = 3 ∧ cod = nI ot ∧ cc = cn ∧ src = some (g so) ∧ ¬ so = 0) ∨
   (rc = 4 ∧ way = 4 ∧ cod = nI ot ∧ cc = cn ∧ src = some (g so) ∧ ¬ so = 0) ∨
   (rc = 5 ∧ way = 5 ∧ num = nI (ot + 1) ∧ src = some (g so) ∧ ¬ so = 0) ∨
   (rc = 6 ∧ way = 6 ∧ src = some (g so) ∧ beh = zO g ot ∧ ¬ so = 0)))
/-- Branches are kept -/
def zB (h h' : qH) : Prop := ∀ b fs, h b = some (.inr (0, fs)) → (.inr (0, fs) : va_E) ≠ qBk → h' b = some (.inr (0, fs))
theorem zR.keep {h h' : qH} {g g' : Nat → Nat} {R R' : Nat → List Int64} {fst : Int64} {rc rs so ot n : Nat} {cn la : Int64} {way cod : Int32} {cc : Int64} {num : Int32} {src beh row : Option Nat} {dn : Int32} {rst : Option Nat} (z : zR h g R fst rc rs so ot cn la way cod cc num src beh row dn rst) (hb : zB h h') (eg : ∀ s, s < n → g' s = g s) (h1 : rc = 0 → rs < n) (h2 : 3 ≤ rc → so < n) (h3 : rc = 6 → ot < n) (eR : rc = 2 → R' so = R so) : zR h' g' R' fst rc rs so ot cn la way cod cc num src beh row dn rst := by
  rcases z with ⟨z1, z2, z3⟩ | ⟨z1, z⟩
  · exact Or.inl ⟨z1, z2, by rw [z3, zO_cg eg (h1 z1)]⟩
  · refine Or.inr ⟨z1, ?_⟩
    rcases z with z | ⟨y1, y2, y3, y4, y5, m, y6⟩ | ⟨y1, y2, y3, y4, y5, y6⟩ | ⟨y1, y2, y3, y4, y5, y6⟩ | ⟨y1, y2, y3, y4, y5⟩ | ⟨y1, y2, y3, y4, y5⟩
    · exact Or.inl z
    · exact Or.inr (Or.inl ⟨y1, y2, y3, y4, y5, m, by rw [eR y1]; exact y6.k0 hb⟩)
    · exact Or.inr (Or.inr (Or.inl ⟨y1, y2, y3, y4, by rw [eg _ (h2 (by omega))]; exact y5, y6⟩))
    · exact Or.inr (Or.inr (Or.inr (Or.inl ⟨y1, y2, y3, y4, by rw [eg _ (h2 (by omega))]; exact y5, y6⟩)))
    · exact Or.inr (Or.inr (Or.inr (Or.inr (Or.inl ⟨y1, y2, y3, by rw [eg _ (h2 (by omega))]; exact y4, y5⟩))))
    · exact Or.inr (Or.inr (Or.inr (Or.inr (Or.inr ⟨y1, y2, by rw [eg _ (h2 (by omega))]; exact y3, by rw [y4, zO_cg eg (h3 y1)], y5⟩))))
/-- the object of cons s -/
def zS (h : qH) (g : Nat → Nat) (R : Nat → List Int64) (a : qWd) (k : qKd) (s : Nat) : Prop := ∃ (way cod : Int32) (cc : Int64) (num : Int32) (src beh row : Option Nat) (dn : Int32) (rst : Option Nat), h (g s) = some (.inr (5, [.long (a.2.2.1 s), .int way, .int cod, .long cc, .int num, va_rf src, va_rf beh, va_rf row, .int dn, va_rf rst])) ∧ zR h g R (a.2.2.1 s) (k.2.2.1 s) (k.2.2.2.1 s) (k.2.2.2.2.1 s) (k.2.2.2.2.2.1 s) (k.2.2.2.2.2.2.1 s) (k.2.2.2.2.2.2.2 s) way cod cc num src beh row dn rst
def zG (h : qH) (g : Nat → Nat) (R : Nat → List Int64) (a : qWd) (k : qKd) : Prop := (∀ s, 1 ≤ s → s < a.1 → zS h g R a k s) ∧ ∀ s t, 1 ≤ s → s < a.1 → 1 ≤ t → t < a.1 → g s = g t → s = t
/-- what a step of the streams leaves alone: all but the trove itself and the streams -/
def zF (h h' : qH) (x : Nat) : Prop := ∀ b o, h b = some o → b ≠ x → (∀ fs, o ≠ .inr (5, fs)) → h' b = some o
theorem zF.rf {h : qH} {x : Nat} : zF h h x := fun _ _ e _ _ => e
/-- streams stay what they are, but for what is known of their rests -/
def zT (h h' : qH) : Prop := ∀ b (x1 x2 x3 x4 x5 x6 x7 x8 : Value) (d : Int32) (r : Value), h b = some (.inr (5, [x1, x2, x3, x4, x5, x6, x7, x8, .int d, r])) → ∃ (d' : Int32) (r' : Value), h' b = some (.inr (5, [x1, x2, x3, x4, x5, x6, x7, x8, .int d', r']))
section ZG
variable {Bd sl Rn : Nat} {dp : Nat → Nat} {o : qYf} {a : qWd} {k : qKd} {h h' : qH} {g g' : Nat → Nat} {R R' : Nat → List Int64} {x q : Nat}
theorem zB.new {e : va_E} (hq : h q = none) : zB h (qs h q e) := fun b fs hb _ => (qs_ne (fun z => by rw [z, hq] at hb; cases hb)).trans hb
theorem zB.set {ci : Nat} {fs2 : List Value} {e : va_E} (hq : h q = some (.inr (ci, fs2))) (hc : ci ≠ 0) : zB h (qs h q e) := fun b fs hb _ => (qs_ne (fun z => by rw [z, hq] at hb; simp at hb; exact hc hb.1)).trans hb
theorem zB.rf : zB h h := fun _ _ e _ => e
theorem zF.b {fs : List Value} (f : zF h h' x) (hx : h x = some (.inr (6, fs))) : zB h h' := fun b gs hb _ => f b _ hb (fun z => by rw [z, hx] at hb; simp at hb) (fun gs2 z => by simp at z)
/-- all is kept that the streams rest on -/
theorem zG.keep (i : qWv Bd sl Rn dp (o, a, k)) (z : zG h g R a k) (hb : zB h h') (h5 : ∀ b fs, h b = some (.inr (5, fs)) → h' b = some (.inr (5, fs))) (eR : ∀ r, r < Rn → R' r = R r) : zG h' g R' a k := by
  refine ⟨fun s h1 h2 => ?_, z.2⟩
  obtain ⟨way, cod, cc, num, src, beh, row, dn, rst, e, r⟩ := z.1 s h1 h2
  obtain ⟨i1, i2, -, i4, i5, -, -, -, i9⟩ := i.k s h2
  exact ⟨way, cod, cc, num, src, beh, row, dn, rst, h5 _ _ e, r.keep hb (fun _ _ => rfl) (fun z => (i2 z).1) (fun z => (i5 z).1) (fun z => (i9 z).1) (fun z => eR _ (i4 z).1)⟩
/-- a new stream for a new cons -/
theorem zG.new (i : qWv Bd sl Rn dp (o, a, k)) (z : zG h g R a k) (hq : h q = none) {x0 : Int64} {rr rc rs so ot : Nat} {cn la : Int64} {k' : qKd} (hk : k'.2.2.1 = qU k.2.2.1 a.1 rc ∧ k'.2.2.2.1 = qU k.2.2.2.1 a.1 rs ∧ k'.2.2.2.2.1 = qU k.2.2.2.2.1 a.1 so ∧ k'.2.2.2.2.2.1 = qU k.2.2.2.2.2.1 a.1 ot ∧ k'.2.2.2.2.2.2.1 = qU k.2.2.2.2.2.2.1 a.1 cn ∧ k'.2.2.2.2.2.2.2 = qU k.2.2.2.2.2.2.2 a.1 la)
    {way cod : Int32} {cc : Int64} {num : Int32} {src beh row : Option Nat} {dn : Int32} {rst : Option Nat} (hr : zR h (qU g a.1 q) R x0 rc rs so ot cn la way cod cc num src beh row dn rst) : zG (qs h q (.inr (5, [.long x0, .int way, .int cod, .long cc, .int num, va_rf src, va_rf beh, va_rf row, .int dn, va_rf rst]))) (qU g a.1 q) R (xCons a x0 rr) k' := by
  obtain ⟨k1, k2, k3, k4, k5, k6⟩ := hk
  have eg : ∀ s, s < a.1 → qU g a.1 q s = g s := fun s hs => qU_ne (by omega)
  have ng : ∀ s, 1 ≤ s → s < a.1 → g s ≠ q := fun s h1 h2 e => by
    obtain ⟨_, _, _, _, _, _, _, _, _, e2, -⟩ := z.1 s h1 h2
    rw [e, hq] at e2; cases e2
  refine ⟨fun s h1 h2 => ?_, fun s t h1 h2 h3 h4 e => ?_⟩
  · have h2 : s < a.1 + 1 := h2
    by_cases c : s = a.1
    · subst c
      refine ⟨way, cod, cc, num, src, beh, row, dn, rst, ?_, ?_⟩
      · rw [qU_at, qs_self]
        show _ = some (Sum.inr (5, [Value.long (qU a.2.2.1 a.1 x0 a.1), _, _, _, _, _, _, _, _, _]))
        rw [qU_at]
      · rw [k1, k2, k3, k4, k5, k6, qU_at, qU_at, qU_at, qU_at, qU_at, qU_at]
        show zR _ _ _ (qU a.2.2.1 a.1 x0 a.1) _ _ _ _ _ _ _ _ _ _ _ _ _ _ _
        rw [qU_at]
        exact hr.keep (n := (rs + so + ot + 1)) (zB.new hq) (fun _ _ => rfl) (fun _ => by omega) (fun _ => by omega) (fun _ => by omega) (fun _ => rfl)
    · obtain ⟨w2, c2, cc2, n2, s2, b2, r2, d2, t2, e, r⟩ := z.1 s h1 (by omega)
      obtain ⟨i1, i2, -, i4, i5, -, -, -, i9⟩ := i.k s (show s < a.1 by omega)
      refine ⟨w2, c2, cc2, n2, s2, b2, r2, d2, t2, ?_, ?_⟩
      · rw [eg s (by omega), qs_ne (ng s h1 (by omega)), e]
        show _ = some (Sum.inr (5, [Value.long (qU a.2.2.1 a.1 x0 s), _, _, _, _, _, _, _, _, _]))
        rw [qU_ne c]
      · rw [k1, k2, k3, k4, k5, k6, qU_ne c, qU_ne c, qU_ne c, qU_ne c, qU_ne c, qU_ne c]
        show zR _ _ _ (qU a.2.2.1 a.1 x0 s) _ _ _ _ _ _ _ _ _ _ _ _ _ _ _
        rw [qU_ne c]
        exact r.keep (zB.new hq) eg (fun z => (i2 z).1) (fun z => (i5 z).1) (fun z => (i9 z).1) (fun _ => rfl)
  · have h2 : s < a.1 + 1 := h2
    have h4 : t < a.1 + 1 := h4
    by_cases c : s = a.1
    · by_cases c2 : t = a.1
      · omega
      · rw [c, qU_at, eg t (by omega)] at e
        exact absurd e.symm (ng t h3 (by omega))
    · by_cases c2 : t = a.1
      · rw [c2, qU_at, eg s (by omega)] at e
        exact absurd e (ng s h1 (by omega))
      · rw [eg s (by omega), eg t (by omega)] at e
        exact z.2 s t h1 (by omega) h3 (by omega) e
/-- a stream's rest is known now -/
theorem zG.fin (i : qWv Bd sl Rn dp (o, a, k)) (z : zG h g R a k) {c s : Nat} (hc : 1 ≤ c) (hc2 : c < a.1) {way cod : Int32} {cc : Int64} {num : Int32} {src beh row : Option Nat} {d : Int32} {r : Value} (hh : h (g c) = some (.inr (5, [.long (a.2.2.1 c), .int way, .int cod, .long cc, .int num, va_rf src, va_rf beh, va_rf row, .int d, r]))) : zG (qs h (g c) (.inr (5, [.long (a.2.2.1 c), .int way, .int cod, .long cc, .int num, va_rf src, va_rf beh, va_rf row, .int 1, va_rf (zO g s)]))) g R a (xSetC k c s) := by
  have hB := zB.set (e := (.inr (5, [.long (a.2.2.1 c), .int way, .int cod, .long cc, .int num, va_rf src, va_rf beh, va_rf row, .int 1, va_rf (zO g s)]) : va_E)) hh (by decide)
  refine ⟨fun t h1 h2 => ?_, z.2⟩
  by_cases e : t = c
  · subst e
    refine ⟨way, cod, cc, num, src, beh, row, 1, zO g s, qs_self, Or.inl ⟨?_, rfl, ?_⟩⟩
    · show qU k.2.2.1 t 0 t = 0
      rw [qU_at]
    · show _ = zO g (qU k.2.2.2.1 t s t)
      rw [qU_at]
  · obtain ⟨w2, c2, cc2, n2, s2, b2, r2, d2, t2, e', r⟩ := z.1 t h1 h2
    obtain ⟨i1, i2, -, i4, i5, -, -, -, i9⟩ := i.k t h2
    refine ⟨w2, c2, cc2, n2, s2, b2, r2, d2, t2, (qs_ne (fun q => e (z.2 t c h1 h2 hc hc2 q))).trans e', ?_⟩
    show zR _ _ _ _ (qU k.2.2.1 c 0 t) (qU k.2.2.2.1 c s t) _ _ _ _ _ _ _ _ _ _ _ _ _
    rw [qU_ne e, qU_ne e]
    exact r.keep hB (fun _ _ => rfl) (fun z => (i2 z).1) (fun z => (i5 z).1) (fun z => (i9 z).1) (fun _ => rfl)
end ZG
/-- the trove with its streams -/
def zW (h : qH) (x : Nat) (mk : Int32) (sl bl kr vr : Nat) (ed : Int32) (g : Nat → Nat) (R : Nat → List Int64) (W : qWo) : Prop := h x = some (.inr (6, [.int mk, .ref sl, .ref bl, .ref kr, .ref vr, .int (oCq W.1), .int (oMq W.1), .int ed])) ∧ zG h g R W.2.1 W.2.2
/-- the heap is a later one, and nothing else has changed -/
def zH (h h' : qH) (x : Nat) : Prop := zF h h' x ∧ zT h h' ∧ ∀ b, h' b = none → h b = none
theorem zH.rf {h : qH} {x : Nat} : zH h h x := ⟨zF.rf, fun b _ _ _ _ _ _ _ _ d r e => ⟨d, r, e⟩, fun _ z => z⟩
theorem zH.tr {h h1 h2 : qH} {x : Nat} (f : zH h h1 x) (g : zH h1 h2 x) : zH h h2 x := ⟨fun b o hb n1 n2 => g.1 b o (f.1 b o hb n1 n2) n1 n2, fun b _ _ _ _ _ _ _ _ d r hb => by obtain ⟨d1, r1, e⟩ := f.2.1 b _ _ _ _ _ _ _ _ d r hb; exact g.2.1 b _ _ _ _ _ _ _ _ d1 r1 e, fun b z => f.2.2 b (g.2.2 b z)⟩
theorem zH.new {h : qH} {x q : Nat} {e : va_E} (hq : h q = none) : zH h (qs h q e) x := ⟨fun b o hb _ _ => (qs_ne (fun z => by rw [z, hq] at hb; cases hb)).trans hb, fun b _ _ _ _ _ _ _ _ d r hb => ⟨d, r, (qs_ne (fun z => by rw [z, hq] at hb; cases hb)).trans hb⟩, fun b z => by
  by_cases c : b = q
  · rw [c]; exact hq
  · rw [qs_ne c] at z; exact z⟩
theorem zH.setx {h : qH} {x : Nat} {fs fs' : List Value} (hx : h x = some (.inr (6, fs))) : zH h (qs h x (.inr (6, fs'))) x := ⟨fun b o hb n1 _ => (qs_ne n1).trans hb, fun b _ _ _ _ _ _ _ _ d r hb => ⟨d, r, (qs_ne (fun z => by rw [z, hx] at hb; simp at hb)).trans hb⟩, fun b z => by
  by_cases c : b = x
  · rw [c, qs_self] at z; cases z
  · rw [qs_ne c] at z; exact z⟩
theorem zH.set5 {h : qH} {x q : Nat} {x1 x2 x3 x4 x5 x6 x7 x8 r r' : Value} {d d' : Int32} (hq : h q = some (.inr (5, [x1, x2, x3, x4, x5, x6, x7, x8, .int d, r]))) : zH h (qs h q (.inr (5, [x1, x2, x3, x4, x5, x6, x7, x8, .int d', r']))) x := ⟨fun b o hb _ n2 => (qs_ne (fun z => by rw [z, hq] at hb; exact n2 _ (Option.some.inj hb).symm)).trans hb, fun b _ _ _ _ _ _ _ _ d2 r2 hb => by
  by_cases c : b = q
  · rw [c, hq] at hb
    simp only [Option.some.injEq, Sum.inr.injEq, Prod.mk.injEq, List.cons.injEq, true_and, and_true] at hb
    obtain ⟨rfl, rfl, rfl, rfl, rfl, rfl, rfl, rfl, -, -⟩ := hb
    rw [c, qs_self]; exact ⟨_, _, rfl⟩
  · exact ⟨d2, r2, (qs_ne c).trans hb⟩, fun b z => by
  by_cases c : b = q
  · rw [c, qs_self] at z; cases z
  · rw [qs_ne c] at z; exact z⟩
section ZW
variable {Bd sk Rn : Nat} {dp : Nat → Nat} {o o' : qYf} {a : qWd} {k : qKd} {h : qH} {g : Nat → Nat} {R : Nat → List Int64} {x q sl bl kr vr : Nat} {mk ed : Int32}
theorem zW.setx (z : zW h x mk sl bl kr vr ed g R (o, a, k)) (i : qWv Bd sk Rn dp (o, a, k)) : zW (qs h x (.inr (6, [.int mk, .ref sl, .ref bl, .ref kr, .ref vr, .int (oCq o'), .int (oMq o'), .int ed]))) x mk sl bl kr vr ed g R (o', a, k) := by
  refine ⟨qs_self, zG.keep i z.2 (zB.set z.1 (by decide)) (fun b fs hb => (qs_ne (fun e => ?_)).trans hb) (fun _ _ => rfl)⟩
  rw [e, z.1] at hb
  simp at hb
theorem zW.obj (z : zW h x mk sl bl kr vr ed g R (o, a, k)) (e1 : oCq o' = oCq o) (e2 : oMq o' = oMq o) : zW h x mk sl bl kr vr ed g R (o', a, k) := ⟨by show h x = some (Sum.inr (6, [_, _, _, _, _, Value.int (oCq o'), Value.int (oMq o'), _])); rw [e1, e2]; exact z.1, z.2⟩
theorem zW.new (z : zW h x mk sl bl kr vr ed g R (o, a, k)) (i : qWv Bd sk Rn dp (o, a, k)) (hq : h q = none) {x0 : Int64} {rr rc rs so ot : Nat} {cn la : Int64} {k' : qKd} (hk : k'.2.2.1 = qU k.2.2.1 a.1 rc ∧ k'.2.2.2.1 = qU k.2.2.2.1 a.1 rs ∧ k'.2.2.2.2.1 = qU k.2.2.2.2.1 a.1 so ∧ k'.2.2.2.2.2.1 = qU k.2.2.2.2.2.1 a.1 ot ∧ k'.2.2.2.2.2.2.1 = qU k.2.2.2.2.2.2.1 a.1 cn ∧ k'.2.2.2.2.2.2.2 = qU k.2.2.2.2.2.2.2 a.1 la)
    {way cod : Int32} {cc : Int64} {num : Int32} {src beh row : Option Nat} {dn : Int32} {rst : Option Nat} (hr : zR h (qU g a.1 q) R x0 rc rs so ot cn la way cod cc num src beh row dn rst) : zW (qs h q (.inr (5, [.long x0, .int way, .int cod, .long cc, .int num, va_rf src, va_rf beh, va_rf row, .int dn, va_rf rst]))) x mk sl bl kr vr ed (qU g a.1 q) R (o, xCons a x0 rr, k') :=
  ⟨(qs_ne (fun e => by have := z.1; rw [e, hq] at this; cases this)).trans z.1, zG.new i z.2 hq hk hr⟩
theorem xCell_u (i : qWv Bd sk Rn dp (o, a, k)) {kd s t : Nat} {c y : Int64} : (xCell k kd s t c y).2.2.1 = qU k.2.2.1 a.1 kd ∧ (xCell k kd s t c y).2.2.2.1 = qU k.2.2.2.1 a.1 0 ∧ (xCell k kd s t c y).2.2.2.2.1 = qU k.2.2.2.2.1 a.1 s ∧ (xCell k kd s t c y).2.2.2.2.2.1 = qU k.2.2.2.2.2.1 a.1 t ∧ (xCell k kd s t c y).2.2.2.2.2.2.1 = qU k.2.2.2.2.2.2.1 a.1 c ∧ (xCell k kd s t c y).2.2.2.2.2.2.2 = qU k.2.2.2.2.2.2.2 a.1 y := by
  have e : a.1 = k.1 := i.n
  rw [e]
  exact ⟨rfl, rfl, rfl, rfl, rfl, rfl⟩
theorem xRdy_u (i : qWv Bd sk Rn dp (o, a, k)) {s : Nat} : (xRdy k s).2.2.1 = qU k.2.2.1 a.1 0 ∧ (xRdy k s).2.2.2.1 = qU k.2.2.2.1 a.1 s ∧ (xRdy k s).2.2.2.2.1 = qU k.2.2.2.2.1 a.1 0 ∧ (xRdy k s).2.2.2.2.2.1 = qU k.2.2.2.2.2.1 a.1 0 ∧ (xRdy k s).2.2.2.2.2.2.1 = qU k.2.2.2.2.2.2.1 a.1 0 ∧ (xRdy k s).2.2.2.2.2.2.2 = qU k.2.2.2.2.2.2.2 a.1 0 := by
  have e : a.1 = k.1 := i.n
  rw [e]
  exact ⟨rfl, funext fun j => by show qU (qU k.2.2.2.1 k.1 0) k.1 s j = qU k.2.2.2.1 k.1 s j; unfold qU; split <;> rfl, rfl, rfl, rfl, rfl⟩
theorem zW.fin (z : zW h x mk sl bl kr vr ed g R (o, a, k)) (i : qWv Bd sk Rn dp (o, a, k)) {c s : Nat} (hc : 1 ≤ c) (hc2 : c < a.1) {way cod : Int32} {cc : Int64} {num : Int32} {src beh row : Option Nat} {d : Int32} {r : Value} (hh : h (g c) = some (.inr (5, [.long (a.2.2.1 c), .int way, .int cod, .long cc, .int num, va_rf src, va_rf beh, va_rf row, .int d, r]))) : zW (qs h (g c) (.inr (5, [.long (a.2.2.1 c), .int way, .int cod, .long cc, .int num, va_rf src, va_rf beh, va_rf row, .int 1, va_rf (zO g s)]))) x mk sl bl kr vr ed g R (o, a, xSetC k c s) :=
  ⟨(qs_ne (fun e => by have := z.1; rw [e, hh] at this; simp at this)).trans z.1, zG.fin i z.2 hc hc2 hh⟩
end ZW
/-- a step of the streams, as the component's calls end it -/
def zP (h : qH) (x : Nat) (mk : Int32) (sl bl kr vr : Nat) (ed : Int32) (g : Nat → Nat) (R : Nat → List Int64) (n : Nat) (X : Nat × qWo) (v : Option Value) (h' : qH) : Prop := oFq X.2.1 = 0 ∧ ∃ g', (∀ s, s < n → g' s = g s) ∧ v = some (va_rf (zO g' X.1)) ∧ zW h' x mk sl bl kr vr ed g' R X.2 ∧ zH h h' x
def zE (h : qH) (x : Nat) (mk : Int32) (sl bl kr vr : Nat) (ed : Int32) (g : Nat → Nat) (R : Nat → List Int64) (n : Nat) (X : Nat × qWo) (E : String) (h' : qH) : Prop := ((E = "java/lang/ArithmeticException" ∧ oFq X.2.1 = 1) ∨ (E = "java/lang/IndexOutOfBoundsException" ∧ oFq X.2.1 = 2)) ∧ ∃ g', (∀ s, s < n → g' s = g s) ∧ zW h' x mk sl bl kr vr ed g' R X.2 ∧ zH h h' x
