/-! the reference's streams: its conses and cells, as pure lists of numbers -/
theorem qC.mono {l : Launch} {D : va_G} {cy : Nat → ClassId} {N0 : Nat} {y : MethodName} {cc : ByteArray} {nL : Nat} {ret : Option FieldType} {fr lo mc ms : Nat} {av : List Value} {h : qH} {Post Post2 : Option Value → qH → Prop} {Exc Exc2 : String → qH → Prop}
    (hM : qC l D cy N0 y cc nL ret fr lo mc ms av h Post Exc) (hp : ∀ v h', Post v h' → Post2 v h') (hx : ∀ E h', Exc E h' → Exc2 E h') : qC l D cy N0 y cc nL ret fr lo mc ms av h Post2 Exc2 := fun hst =>
  MetFree.imp (hM hst) (fun a s o t hq => by
    rcases hq with ⟨⟨v, h', e1, p1, p2, p3⟩, L⟩ | ⟨q, e, hT⟩
    · exact Or.inl ⟨⟨v, h', e1, hp v h' p1, p2, p3⟩, L⟩
    · obtain ⟨E, ce, L, ⟨h', x1, x2, x3⟩, rest⟩ := hT
      exact Or.inr ⟨q, e, E, ce, L, ⟨h', hx E h' x1, x2, x3⟩, rest⟩)
/-- how many conses, the rows' length, the firsts, the rests -/
abbrev qWd := Nat × Nat × (Nat → Int64) × (Nat → Nat)
/-- how many cells, the rows' length, recipes, results, sources, others, constants, lasts -/
abbrev qKd := Nat × Nat × (Nat → Nat) × (Nat → Nat) × (Nat → Nat) × (Nat → Nat) × (Nat → Int64) × (Nat → Int64)
def xCons (a : qWd) (x : Int64) (r : Nat) : qWd := (a.1 + 1, if a.1 = a.2.1 then 2 * a.2.1 else a.2.1, qU a.2.2.1 a.1 x, qU a.2.2.2 a.1 r)
def xCell (k : qKd) (kd s t : Nat) (c x : Int64) : qKd := (k.1 + 1, if k.1 = k.2.1 then 2 * k.2.1 else k.2.1, qU k.2.2.1 k.1 kd, qU k.2.2.2.1 k.1 0, qU k.2.2.2.2.1 k.1 s, qU k.2.2.2.2.2.1 k.1 t, qU k.2.2.2.2.2.2.1 k.1 c, qU k.2.2.2.2.2.2.2 k.1 x)
/-- the object's other fields -/
abbrev qYf := Nat × Nat × Nat × Nat × Nat × Nat × Int32 × Int32 × Int32 × Int32 × Int32 × Int32 × Int32
def qYo (o : qYf) (fi re rc rs so ot cn la : Nat) (cs ce : Int32) : va_E := .inr (8, [.ref o.1, .ref o.2.1, .ref o.2.2.1, .int o.2.2.2.2.2.2.1, .int o.2.2.2.2.2.2.2.1, .int o.2.2.2.2.2.2.2.2.1, .int o.2.2.2.2.2.2.2.2.2.1, .ref o.2.2.2.1, .ref o.2.2.2.2.1, .int o.2.2.2.2.2.2.2.2.2.2.1, .int o.2.2.2.2.2.2.2.2.2.2.2.1, .ref fi, .ref re, .int cs, .ref rc, .ref rs, .ref so, .ref ot, .ref cn, .ref la, .int ce, .ref o.2.2.2.2.2.1, .int o.2.2.2.2.2.2.2.2.2.2.2.2])
/-- the object and its stream rows stand for a and k; A holds the rows' addresses -/
def qSy (cy : Nat → ClassId) (h : qH) (y : Nat) (A : Nat → Prop) (o : qYf) (a : qWd) (k : qKd) : Prop := ∃ (fi re rc rs so ot cn la : Nat) (F : Nat → Int64) (Rt Rc Rs So Ot : Nat → Int32) (Cn La : Nat → Int64),
  h y = some (qYo o fi re rc rs so ot cn la (nI a.1) (nI k.1)) ∧
  (h fi = some (.inl (cy 1, a.2.1, .inr (.inl F))) ∧ h re = some (.inl (cy 0, a.2.1, .inl Rt)) ∧ h rc = some (.inl (cy 0, k.2.1, .inl Rc)) ∧ h rs = some (.inl (cy 0, k.2.1, .inl Rs)) ∧ h so = some (.inl (cy 0, k.2.1, .inl So)) ∧ h ot = some (.inl (cy 0, k.2.1, .inl Ot)) ∧ h cn = some (.inl (cy 1, k.2.1, .inr (.inl Cn))) ∧ h la = some (.inl (cy 1, k.2.1, .inr (.inl La)))) ∧
  (∀ j, j < a.1 → F j = a.2.2.1 j ∧ Rt j = nI (a.2.2.2 j)) ∧
  (∀ j, j < k.1 → Rc j = nI (k.2.2.1 j) ∧ Rs j = nI (k.2.2.2.1 j) ∧ So j = nI (k.2.2.2.2.1 j) ∧ Ot j = nI (k.2.2.2.2.2.1 j) ∧ Cn j = k.2.2.2.2.2.2.1 j ∧ La j = k.2.2.2.2.2.2.2 j) ∧
  (∀ j, k.1 ≤ j → j < k.2.1 → Rs j = 0) ∧
  (rc ≠ rs ∧ rc ≠ so ∧ rc ≠ ot ∧ rs ≠ so ∧ rs ≠ ot ∧ so ≠ ot ∧ cn ≠ la) ∧ (re ≠ rc ∧ re ≠ rs ∧ re ≠ so ∧ re ≠ ot ∧ fi ≠ cn ∧ fi ≠ la) ∧
  (A fi ∧ A re ∧ A rc ∧ A rs ∧ A so ∧ A ot ∧ A cn ∧ A la) ∧ (a.1 ≤ a.2.1 ∧ 1 ≤ a.2.1 ∧ a.2.1 ≤ 100000 ∧ k.1 ≤ k.2.1 ∧ 1 ≤ k.2.1 ∧ k.2.1 ≤ 100000)
/-- what may have changed: the object, the rows; A has grown by new addresses alone -/
def qFy (h h' : qH) (y : Nat) (A A' : Nat → Prop) : Prop := (∀ b o, h b = some o → b ≠ y → ¬ A b → h' b = some o) ∧ (∀ b, A b → A' b) ∧ (∀ b, A' b → A b ∨ ∀ o, ¬ h b = some o)
theorem qFy.rf {h : qH} {y : Nat} {A : Nat → Prop} : qFy h h y A A := ⟨fun _ _ e _ _ => e, fun _ z => z, fun _ z => Or.inl z⟩
theorem qFy.tr {h h1 h2 : qH} {y : Nat} {A A1 A2 : Nat → Prop} (a : qFy h h1 y A A1) (b : qFy h1 h2 y A1 A2) (hy : ¬ A2 y) : qFy h h2 y A A2 := by
  obtain ⟨a1, a2, a3⟩ := a
  obtain ⟨b1, b2, b3⟩ := b
  refine ⟨fun c o hc n1 n2 => b1 c o (a1 c o hc n1 n2) n1 (fun z => ?_), fun c z => b2 c (a2 c z), fun c z => ?_⟩
  · rcases a3 c z with q | q
    · exact n2 q
    · exact q o hc
  · rcases b3 c z with q | q
    · exact a3 c q
    · by_cases z1 : A c
      · exact Or.inl z1
      · exact Or.inr (fun o ho => q o (a1 c o ho (fun e => hy (e ▸ z)) z1))
