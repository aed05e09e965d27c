def bSl (x : Int32) : Bool := decide (¬ x < 0 ∧ x ≤ 23)
def bB3 (x : Int32) : Bool := decide (¬ x < 0 ∧ x ≤ 3)
def bIn (x k : Int32) : Bool := decide (¬ x < 0 ∧ x ≤ k)
/-- the kind is one of these -/
def bHo (kd ks : Int32) : Bool := decide (0 ≤ kd ∧ ((ks >>> (kd &&& 31)) &&& 1) = 1)
theorem bSl_t {x : Int32} (h : qSl x) : bSl x = true := decide_eq_true h
theorem bSl_f {x : Int32} (h : ¬ qSl x) : bSl x = false := decide_eq_false h
theorem bIn_t {x k : Int32} (h : qIn x k) : bIn x k = true := decide_eq_true h
theorem bIn_f {x k : Int32} (h : ¬ qIn x k) : bIn x k = false := decide_eq_false h
theorem bB3_t {x : Int32} (h : qIn x 3) : bB3 x = true := decide_eq_true h
theorem bB3_f {x : Int32} (h : ¬ qIn x 3) : bB3 x = false := decide_eq_false h
theorem bHo_t {kd ks : Int32} (h1 : 0 ≤ kd) (h2 : ((ks >>> (kd &&& 31)) &&& 1) = 1) : bHo kd ks = true := decide_eq_true ⟨h1, h2⟩
theorem bHo_f1 {kd ks : Int32} (h1 : kd < 0) : bHo kd ks = false := decide_eq_false (fun h => q32_no h1 h.1)
theorem bHo_f2 {kd ks : Int32} (h2 : ¬ ((ks >>> (kd &&& 31)) &&& 1) = 1) : bHo kd ks = false := decide_eq_false (fun h => h2 h.2)
section QROWS7
variable {p : Program} {l : Launch} {e : Env} {fr lo mc ms : Nat} {s : State} {m : MethodId} {args : Array Value} {below : List Frame} {meth : Method} {c : Code} {H : Heap} {locs : List Loc} {cells slots : Nat} {Q : State → Prop}
variable {own nm : String} {cc : ByteArray} {nL : Nat} {ret : Option FieldType} {D : va_G} {cy : Nat → ClassId} {N0 : Nat} {tb : List ExceptionTableEntry} {h : qH} {pc : Nat} {ls : Array Slot} {rest : List Value}
theorem q_aaldR (C : qX p l s m args meth c own cc nL ret nm D cy N0 tb) (hP : qP D N0 h H) {a n t0 j b : Nat} {f : Nat → Option Nat} (hf : h a = some (.inl (cy t0, n, .inr (.inr (.inr (.inr f)))))) {Cn : String} (ht : (qT cy)[t0]? = some (cy t0, .object Cn)) (hj : j < n) (hn : n < 2 ^ 31) (hb0 : f j = some b) (hdg : decode cc pc = .ok (.aaload, 1))
    (kk : W p l e (qR fr lo mc ms) s m args below meth c H locs cells slots Q (F0 m (pc + 1) ls (.ref b :: rest))) : W p l e (qR fr lo mc ms) s m args below meth c H locs cells slots Q (F0 m pc ls (.int (nI j) :: .ref a :: rest)) :=
  q_aaldN C hP hf ht hj hn hdg (by rw [hb0]; exact kk)
end QROWS7
/-- what a call of the reference leaves alone -/
def qFm (h h' : qH) (y : Nat) (ra rk rv : Nat → Nat) : Prop := ∀ b o, h b = some o → b ≠ y → (∀ i, i < 29 → qOf (ra i) (rk i) (rv i) b) → h' b = some o
section QMR2
variable {cy : Nat → ClassId} {h h' : qH} {ms mb mw y : Nat} {ra rk rv : Nat → Nat} {S : Nat → qSlot}
theorem qRw.keep2 {a ka va : Nat} {kd n sm dp rw : Int32} {f g : Nat → Int64} (r : qRw cy h a ka va kd n sm dp rw f g) (k : ∀ b o, b = a ∨ b = ka ∨ b = va → h b = some o → h' b = some o) : qRw cy h' a ka va kd n sm dp rw f g := by
  obtain ⟨r1, r2, r3, r4, r5, r6⟩ := r
  exact ⟨r1, r2, r3, k _ _ (Or.inl rfl) r4, k _ _ (Or.inr (Or.inl rfl)) r5, k _ _ (Or.inr (Or.inr rfl)) r6⟩
theorem qRw.ney {a ka va : Nat} {kd n sm dp rw : Int32} {f g : Nat → Int64} {fs : List Value} (r : qRw cy h a ka va kd n sm dp rw f g) (hy : h y = some (.inr (8, fs))) {b : Nat} (hb : b = a ∨ b = ka ∨ b = va) : b ≠ y := fun q => by
  subst q
  obtain ⟨-, -, -, r4, r5, r6⟩ := r
  unfold qRb at r4
  unfold qJr at r5 r6
  rcases hb with q | q | q
  · rw [q, r4] at hy; cases hy
  · rw [q, r5] at hy; cases hy
  · rw [q, r6] at hy; cases hy
/-- at a call's end: row i stands for s, the work row for something, all else is as it was -/
theorem qMR.fin (m : qMR cy h ms mb mw ra rk rv S) {fs : List Value} (hy : h y = some (.inr (8, fs))) {i : Nat} (hi : i < 28) {s : qSlot} (hs : qRA cy h' (ra i) (rk i) (rv i) s (xRo S i)) {kd sm dp rw : Int32} {n : Nat} {f g : Nat → Int64} (hw : qRw cy h' (ra 28) (rk 28) (rv 28) kd (nI n) sm dp rw f g)
    (fr : ∀ b o, h b = some o → b ≠ y → qOf (ra 28) (rk 28) (rv 28) b → qOf (ra i) (rk i) (rv i) b → h' b = some o) : qMR cy h' ms mb mw ra rk rv (qU S i s) ∧ qFm h h' y ra rk rv := by
  refine ⟨?_, fun b o hb n1 n2 => fr b o hb n1 (n2 28 (by omega)) (n2 i (by omega))⟩
  obtain ⟨m1, m2, m3, m4, m5, kd9, sm9, dp9, rw9, n9, f9, g9, m6⟩ := m
  obtain ⟨ni, rwi, fi, gi, ri, -, -⟩ := m5 i hi
  have arr : ∀ {b N : Nat} {t : Nat} {q : Nat → Option Nat}, N ≠ 1001 → h b = some (.inl (cy t, N, .inr (.inr (.inr (.inr q))))) → h' b = some (.inl (cy t, N, .inr (.inr (.inr (.inr q))))) := fun {b N t q} hN e => by
    have no : ∀ {a ka va : Nat} {kd n sm dp rw : Int32} {f g : Nat → Int64}, qRw cy h a ka va kd n sm dp rw f g → qOf a ka va b := fun r => by
      obtain ⟨-, -, -, r4, r5, r6⟩ := r
      unfold qRb at r4
      unfold qJr at r5 r6
      refine ⟨fun q => ?_, fun q => ?_, fun q => ?_⟩
      · rw [q, r4] at e; cases e
      · rw [q, r5] at e; simp at e
      · rw [q, r6] at e; simp at e
    exact fr b _ e (fun q => by rw [q, hy] at e; cases e) (no m6) (no ri)
  refine ⟨arr (by decide) m1, arr (by decide) m2, m3, m4, fun j hj => ?_, kd, sm, dp, rw, n, f, g, hw⟩
  by_cases e : j = i
  · subst e; rw [qU_at]; exact hs.qU hi
  · rw [qU_ne e]
    obtain ⟨n, rw_, f, g, r, q1, q2⟩ := m5 j hj
    obtain ⟨a1, a2, a3⟩ := r.apart m6 (m4.two (by omega) (by omega) (by omega))
    obtain ⟨b1, b2, b3⟩ := r.apart ri (m4.two (by omega) (by omega) e)
    refine ⟨n, rw_, f, g, r.keep2 (fun b o hb ho => fr b o ho (r.ney hy hb) ?_ ?_), q1, q2.1, q2.2.qU hi⟩
    · rcases hb with q | q | q
      · rw [q]; exact a1
      · rw [q]; exact a2
      · rw [q]; exact a3
    · rcases hb with q | q | q
      · rw [q]; exact b1
      · rw [q]; exact b2
      · rw [q]; exact b3
/-- only the object itself, and perhaps the work row, have changed -/
theorem qMR.fin0 (m : qMR cy h ms mb mw ra rk rv S) {fs : List Value} (hy : h y = some (.inr (8, fs))) {kd sm dp rw : Int32} {n : Nat} {f g : Nat → Int64} (hw : qRw cy h' (ra 28) (rk 28) (rv 28) kd (nI n) sm dp rw f g)
    (fr : ∀ b o, h b = some o → b ≠ y → qOf (ra 28) (rk 28) (rv 28) b → h' b = some o) : qMR cy h' ms mb mw ra rk rv S ∧ qFm h h' y ra rk rv := by
  refine ⟨?_, fun b o hb n1 n2 => fr b o hb n1 (n2 28 (by omega))⟩
  obtain ⟨m1, m2, m3, m4, m5, kd9, sm9, dp9, rw9, n9, f9, g9, m6⟩ := m
  have arr : ∀ {b N : Nat} {t : Nat} {q : Nat → Option Nat}, N ≠ 1001 → h b = some (.inl (cy t, N, .inr (.inr (.inr (.inr q))))) → h' b = some (.inl (cy t, N, .inr (.inr (.inr (.inr q))))) := fun {b N t q} hN e => by
    have no : ∀ {a ka va : Nat} {kd n sm dp rw : Int32} {f g : Nat → Int64}, qRw cy h a ka va kd n sm dp rw f g → qOf a ka va b := fun r => by
      obtain ⟨-, -, -, r4, r5, r6⟩ := r
      unfold qRb at r4
      unfold qJr at r5 r6
      refine ⟨fun q => ?_, fun q => ?_, fun q => ?_⟩
      · rw [q, r4] at e; cases e
      · rw [q, r5] at e; simp at e
      · rw [q, r6] at e; simp at e
    exact fr b _ e (fun q => by rw [q, hy] at e; cases e) (no m6)
  refine ⟨arr (by decide) m1, arr (by decide) m2, m3, m4, fun j hj => ?_, kd, sm, dp, rw, n, f, g, hw⟩
  obtain ⟨n, rw_, f, g, r, q1, q2⟩ := m5 j hj
  obtain ⟨a1, a2, a3⟩ := r.apart m6 (m4.two (by omega) (by omega) (by omega))
  refine ⟨n, rw_, f, g, r.keep2 (fun b o hb ho => fr b o ho (r.ney hy hb) ?_), q1, q2⟩
  rcases hb with q | q | q
  · rw [q]; exact a1
  · rw [q]; exact a2
  · rw [q]; exact a3
end QMR2
