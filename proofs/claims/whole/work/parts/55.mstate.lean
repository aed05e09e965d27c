/-! the reference's state: 24 slots (0 to 23), 4 builders (24 to 27), its work row (28) -/
/-- kind (-1: none), what it holds, the stream's number, the depth -/
abbrev qSlot := Int32 × qKV × Nat × Nat
/-- the first n of a row, with their values where the kind has any -/
def qLs (kd : Int32) (f g : Nat → Int64) (n : Nat) : qKV := (List.range n).map (fun j => (f j, if kd = 1 ∨ kd = 3 then g j else 0))
theorem qLs_len {kd : Int32} {f g : Nat → Int64} {n : Nat} : (qLs kd f g n).length = n := by
  unfold qLs; rw [List.length_map, List.length_range]
def qOf (a ka va b : Nat) : Prop := b ≠ a ∧ b ≠ ka ∧ b ≠ va
def qMd (ra rk rv : Nat → Nat) : Prop := ∀ i j, i < 29 → j < 29 → (ra i = ra j → i = j) ∧ (rk i = rk j → i = j) ∧ (rv i = rv j → i = j) ∧ rk i ≠ rv j
/-- a row's number of a row of numbers: none (-1), or that of a row that holds its keys; these rows are kept as slots 1000 on, their count as slot 999 -/
def xRo (S : Nat → qSlot) (i : Nat) (rw : Int32) (L : qKV) : Prop := rw = -1 ∨ (i < 24 ∧ ∃ r, rw = nI r ∧ r < (S 999).2.2.1 ∧ (S (1000 + r)).2.1 = L)
theorem xRo.mv {S : Nat → qSlot} {i j : Nat} {rw : Int32} {L : qKV} (hi : i < 24) (h : xRo S j rw L) : xRo S i rw L := h.imp id (fun z => ⟨hi, z.2⟩)
theorem xRo.bl {S S' : Nat → qSlot} {i j : Nat} {rw : Int32} {L L' : qKV} (hj : 24 ≤ j) (h : xRo S j rw L) : xRo S' i rw L' := Or.inl (h.elim id (fun z => absurd z.1 (by omega)))
/-- a row stands for a slot -/
def qRA (cy : Nat → ClassId) (h : qH) (a ka va : Nat) (s : qSlot) (K : Int32 → qKV → Prop) : Prop := ∃ (n : Nat) (rw : Int32) (f g : Nat → Int64), qRw cy h a ka va s.1 (nI n) (nI s.2.2.1) (nI s.2.2.2) rw f g ∧ n ≤ 1000 ∧ s.2.1 = qLs s.1 f g n ∧ K rw s.2.1
def qMR (cy : Nat → ClassId) (h : qH) (ms mb mw : Nat) (ra rk rv : Nat → Nat) (S : Nat → qSlot) : Prop := h ms = some (.inl (cy 5, 24, .inr (.inr (.inr (.inr (fun i => some (ra i))))))) ∧ h mb = some (.inl (cy 5, 4, .inr (.inr (.inr (.inr (fun i => some (ra (24 + i)))))))) ∧ mw = ra 28 ∧ qMd ra rk rv ∧ (∀ i, i < 28 → qRA cy h (ra i) (rk i) (rv i) (S i) (xRo S i)) ∧ ∃ (kd sm dp rw : Int32) (n : Nat) (f g : Nat → Int64), qRw cy h (ra 28) (rk 28) (rv 28) kd (nI n) sm dp rw f g
section QMR
variable {cy : Nat → ClassId} {h h' : qH} {ms mb mw : Nat} {ra rk rv : Nat → Nat} {S : Nat → qSlot}
/-- two rows of the reference lie apart -/
theorem qRw.apart {a ka va a2 ka2 va2 : Nat} {kd n sm dp rw kd2 n2 sm2 dp2 rw2 : Int32} {f g f2 g2 : Nat → Int64} (r : qRw cy h a ka va kd n sm dp rw f g) (r2 : qRw cy h a2 ka2 va2 kd2 n2 sm2 dp2 rw2 f2 g2) (e : a ≠ a2 ∧ ka ≠ ka2 ∧ va ≠ va2 ∧ ka ≠ va2 ∧ ka2 ≠ va) : qOf a2 ka2 va2 a ∧ qOf a2 ka2 va2 ka ∧ qOf a2 ka2 va2 va := by
  obtain ⟨-, -, -, h1, h2, h3⟩ := r
  obtain ⟨-, -, -, g1, g2, g3⟩ := r2
  obtain ⟨e1, e2, e3, e4, e5⟩ := e
  refine ⟨⟨e1, fun q => ?_, fun q => ?_⟩, ⟨fun q => ?_, e2, e4⟩, ⟨fun q => ?_, fun q => e5 q.symm, e3⟩⟩
  · subst q; have := h1.symm.trans g2; unfold qRb qJr at this; cases this
  · subst q; have := h1.symm.trans g3; unfold qRb qJr at this; cases this
  · subst q; have := h2.symm.trans g1; unfold qRb qJr at this; cases this
  · subst q; have := h3.symm.trans g1; unfold qRb qJr at this; cases this
theorem qMd.two (d : qMd ra rk rv) {i j : Nat} (hi : i < 29) (hj : j < 29) (n : i ≠ j) : ra i ≠ ra j ∧ rk i ≠ rk j ∧ rv i ≠ rv j ∧ rk i ≠ rv j ∧ rk j ≠ rv i := by
  obtain ⟨a, b, c, e⟩ := d i j hi hj
  exact ⟨fun q => n (a q), fun q => n (b q), fun q => n (c q), e, (d j i hj hi).2.2.2⟩
theorem qRw.keep {a ka va : Nat} {kd n sm dp rw : Int32} {f g : Nat → Int64} (r : qRw cy h a ka va kd n sm dp rw f g) (k : ∀ b, b = a ∨ b = ka ∨ b = va → h' b = h b) : qRw cy h' a ka va kd n sm dp rw f g := by
  obtain ⟨r1, r2, r3, r4, r5, r6⟩ := r
  exact ⟨r1, r2, r3, by rw [k a (Or.inl rfl)]; exact r4, by rw [k ka (Or.inr (Or.inl rfl))]; exact r5, by rw [k va (Or.inr (Or.inr rfl))]; exact r6⟩
/-- nothing of the rows has changed -/
theorem qMR.keep (m : qMR cy h ms mb mw ra rk rv S) (k0 : h' ms = h ms) (k1 : h' mb = h mb) (k : ∀ i, i < 29 → ∀ b, b = ra i ∨ b = rk i ∨ b = rv i → h' b = h b) : qMR cy h' ms mb mw ra rk rv S := by
  obtain ⟨m1, m2, m3, m4, m5, kd, sm, dp, rw_, n, f, g, m6⟩ := m
  refine ⟨by rw [k0]; exact m1, by rw [k1]; exact m2, m3, m4, fun i hi => ?_, kd, sm, dp, rw_, n, f, g, m6.keep (k 28 (by omega))⟩
  obtain ⟨n, rw_, f, g, r, q1, q2⟩ := m5 i hi
  exact ⟨n, rw_, f, g, r.keep (k i (by omega)), q1, q2⟩
/-- a slot or a builder has changed (and the work row) -/
def qU {α : Type} (f : Nat → α) (i : Nat) (x : α) : Nat → α := fun j => if j = i then x else f j
theorem qU_at {α : Type} {f : Nat → α} {i : Nat} {x : α} : qU f i x i = x := if_pos rfl
theorem qU_ne {α : Type} {f : Nat → α} {i j : Nat} {x : α} (h : j ≠ i) : qU f i x j = f j := if_neg h
theorem xRo.qU {S : Nat → qSlot} {i k : Nat} {rw : Int32} {L : qKV} {s : qSlot} (hk : k < 28) (h : xRo S i rw L) : xRo (qU S k s) i rw L := h.imp id (fun ⟨z, r, e1, e2, e3⟩ => ⟨z, r, e1, by rw [qU_ne (by omega)]; exact e2, by rw [qU_ne (by omega)]; exact e3⟩)
theorem qRA.qU {S : Nat → qSlot} {i k a ka va : Nat} {s t : qSlot} (hk : k < 28) (m : qRA cy h a ka va t (xRo S i)) : qRA cy h a ka va t (xRo (qU S k s) i) := by
  obtain ⟨n, rw_, f, g, r, q1, q2, q3⟩ := m
  exact ⟨n, rw_, f, g, r, q1, q2, q3.qU hk⟩
theorem qMR.set (m : qMR cy h ms mb mw ra rk rv S) {i : Nat} (hi : i < 28) {s : qSlot} (hs : qRA cy h' (ra i) (rk i) (rv i) s (xRo S i)) (k0 : h' ms = h ms) (k1 : h' mb = h mb) (k : ∀ j, j < 28 → j ≠ i → ∀ b, b = ra j ∨ b = rk j ∨ b = rv j → h' b = h b) {kd sm dp rw : Int32} {n : Nat} {f g : Nat → Int64} (hw : qRw cy h' (ra 28) (rk 28) (rv 28) kd (nI n) sm dp rw f g) : qMR cy h' ms mb mw ra rk rv (qU S i s) := by
  obtain ⟨m1, m2, m3, m4, m5, -⟩ := m
  refine ⟨by rw [k0]; exact m1, by rw [k1]; exact m2, m3, m4, fun j hj => ?_, kd, sm, dp, rw, n, f, g, hw⟩
  by_cases e : j = i
  · subst e; rw [qU_at]; exact hs.qU hi
  · rw [qU_ne e]
    obtain ⟨n, rw_, f, g, r, q1, q2⟩ := m5 j hj
    exact ⟨n, rw_, f, g, r.keep (k j hj e), q1, q2.1, q2.2.qU hi⟩
end QMR
theorem qLs_get {kd : Int32} {f g : Nat → Int64} {n j : Nat} (h : j < n) : (qLs kd f g n)[j]? = some (f j, if kd = 1 ∨ kd = 3 then g j else 0) := by
  unfold qLs
  rw [List.getElem?_map, List.getElem?_range h]
  rfl
theorem qLs_ext {kd : Int32} {f g f2 g2 : Nat → Int64} {n : Nat} (h : ∀ j, j < n → f j = f2 j ∧ (kd = 1 ∨ kd = 3 → g j = g2 j)) : qLs kd f g n = qLs kd f2 g2 n := by
  unfold qLs
  refine List.map_congr_left fun j hj => ?_
  have := h j (List.mem_range.mp hj)
  rw [this.1]
  by_cases c : kd = 1 ∨ kd = 3
  · rw [if_pos c, if_pos c, this.2 c]
  · rw [if_neg c, if_neg c]
/-- a copy holds the same -/
theorem qLs_cp {kd : Int32} {f g f2 g2 : Nat → Int64} {n : Nat} : qLs kd (qCp f f2 n) (qCp g g2 n) n = qLs kd f g n := qLs_ext (fun j hj => ⟨if_pos hj, fun _ => if_pos hj⟩)
