theorem qRt.le {cy : Nat → ClassId} {h h' : qH} {Im Ok : Nat → Prop} {e : Nat} {mk : Int32} {r : Option Nat} {L : qKV} {X : Nat → Prop} (t : qRt cy h Im e Ok mk r L X) (k : qle h h') : qRt cy h' Im e Ok mk r L X := t.keep (fun b o e _ => k b o e)
theorem qRt.go {cy : Nat → ClassId} {h : qH} {Im Ok : Nat → Prop} {e e' : Nat} {mk : Int32} {r : Option Nat} {L : qKV} (t : qRt cy h Im e Ok mk r L (fun _ => False)) : qRt cy h Im e' Ok mk r L (fun _ => False) := t.ends (fun _ z => z) (fun _ z => z.elim) (fun _ z => z) (fun ⟨_, z⟩ => z.elim)
section ZED
variable {cy : Nat → ClassId} {h h' h1 h2 : qH} {x sl bl kr vr E E' : Nat} {mk : Int32} {fs fs' : Nat → Option Nat} {bd br eb : Nat → Nat} {Im Im2 Im3 X2 : Nat → Prop} {Xb : Nat → Nat → Prop} {g g' : Nat → Nat} {S S' : Nat → qSlot} {W W' : qWo} {Ok : Nat → Prop}
/-- the number of edits goes up -/
theorem zQ.up (q : zQ cy h x mk sl bl kr vr E fs bd br eb Im Xb g S W) {Bd sk Rn : Nat} {dp : Nat → Nat} (iv : qWv Bd sk Rn dp W) (hE : E + 1 < 1000) : zQ cy (qs h x (.inr (6, [.int mk, .ref sl, .ref bl, .ref kr, .ref vr, .int (oCq W.1), .int (oMq W.1), .int (nI (E + 1))]))) x mk sl bl kr vr (E + 1) fs bd br eb Im Xb g S W := by
  have q0 := q
  obtain ⟨q1, ⟨a1, ⟨q9, a2, a3⟩, ⟨f1, a4⟩, f2, a5⟩, q3, q4, s1, s2, s3, s4, s5, s6⟩ := q
  obtain ⟨o, a, kk⟩ := W
  have ka : ∀ {b : Nat} {y : ClassId × vp_A} {o : va_E}, h b = some (.inl y) → qs h x o b = some (.inl y) := fun {b y o} e => (qs_ne (fun z => by rw [z, q1.1] at e; cases e)).trans e
  have ko : ∀ {b ci : Nat} {fv : List Value} {o : va_E}, h b = some (.inr (ci, fv)) → ci ≠ 6 → qs h x o b = some (.inr (ci, fv)) := fun {b ci fv o} e c => (qs_ne (fun z => by rw [z, q1.1] at e; simp at e; exact c e.1.symm)).trans e
  refine q0.gen ⟨qs_self, zG.keep iv q1.2 (fun b fs e _ => ko e (by decide)) (fun b fs e => ko e (by decide)) (fun _ _ => rfl)⟩ ⟨ka a1, ⟨q9, ka a2, a3⟩, ⟨f1, ka a4⟩, f2, ka a5⟩ (Nat.le_succ _) hE (fun _ _ => rfl) (fun b ci fv e _ c => ko e c) (fun b hb o e => ?_) (fun b o e y => (qs_ne (s2 b y).1).trans e) (fun j hj => Or.inl ⟨rfl, rfl, fun _ => rfl⟩)
  obtain ⟨op, kd, ln, ed, rt, f, -, y2, -⟩ := q4 b hb
  rw [y2] at e
  cases e
  exact ka y2
theorem zV.up {s : qSlot} {x1 x2 x3 x4 : Option Nat} {dv : Int32} {fv : List Value} {o : va_E} (z : zV cy h Im Ok mk g s x1 x2 x3 x4 dv) (hx : h x = some (.inr (6, fv))) (hi : ∀ b, Im b → b ≠ x) : zV cy (qs h x o) Im Ok mk g s x1 x2 x3 x4 dv := z.keep (fun b fs e => (qs_ne (fun y => by rw [y, hx] at e; simp at e)).trans e) (fun b fs e => (qs_ne (fun y => by rw [y, hx] at e; simp at e)).trans e) (fun b o e y => (qs_ne (hi b y)).trans e) (fun _ => rfl)
/-- more cells are for good -/
theorem zQ.im (q : zQ cy h x mk sl bl kr vr E fs bd br eb Im Xb g S W) (i1 : ∀ b, Im b → Im3 b) (i2 : ∀ b, Im3 b → Im b ∨ (h1 b = none ∧ (∃ o, h b = some o) ∧ ∀ ci fv, h b = some (.inr (ci, fv)) → ci = 3)) (kx : ∀ b, h1 b = none → b ≠ x ∧ b ≠ sl ∧ b ≠ bl ∧ b ≠ kr ∧ b ≠ vr ∧ (∀ c, c < 4 → b ≠ bd c ∧ b ≠ br c) ∧ ∀ c, c < 4 → ¬ Xb c b) : zQ cy h x mk sl bl kr vr E fs bd br eb Im3 Xb g S W := by
  obtain ⟨q1, q2, q3, q4, s1, s2, s3, s4, s5, s6⟩ := q
  refine ⟨q1, q2, fun i hi => (q3 i hi).ok (fun _ z => z) i1, fun b hb => (q4 b hb).ok (fun _ z => z) i1, s1, fun b hb => ?_, s3, fun b hb => ?_, s5, s6⟩
  · rcases hb with y | ⟨c, hc, y⟩
    · rcases i2 b y with w | ⟨w1, w2, w3⟩
      · exact s2 b (Or.inl w)
      · obtain ⟨k1, k2, k3, k4, k5, k6, -⟩ := kx b w1
        exact ⟨k1, k2, k3, k4, k5, k6, w3⟩
    · exact s2 b (Or.inr ⟨c, hc, y⟩)
  · obtain ⟨t1, t2, t3, t4⟩ := s4 b hb
    refine ⟨fun z hz hi => ?_, fun z hz => ?_, t3, i1 _ t4⟩
    · rcases i2 z hi with w | ⟨w1, -⟩
      · exact t1 z hz w
      · exact (kx z w1).2.2.2.2.2.2 b hb hz
    · rcases hz with y | y
      · rcases i2 z y with w | ⟨-, w, -⟩
        · exact t2 z (Or.inl w)
        · exact w
      · exact t2 z (Or.inr y)
theorem zQ.kx (q : zQ cy h x mk sl bl kr vr E fs bd br eb Im Xb g S W) : ∀ b, h b = none → b ≠ x ∧ b ≠ sl ∧ b ≠ bl ∧ b ≠ kr ∧ b ≠ vr ∧ (∀ c, c < 4 → b ≠ bd c ∧ b ≠ br c) ∧ ∀ c, c < 4 → ¬ Xb c b := fun b hb => by
  obtain ⟨q1, ⟨a1, ⟨q9, a2, a3⟩, ⟨f1, a4⟩, f2, a5⟩, q3, q4, s1, s2, s3, s4, s5, s6⟩ := q
  have n : ∀ {c : Nat} {o : va_E}, h c = some o → b ≠ c := fun {c o} e z => by rw [z, e] at hb; cases hb
  refine ⟨n q1.1, n a1, n a2, n a4, n a5, fun c hc => ?_, fun c hc y => ?_⟩
  · obtain ⟨op, kd, ln, ed, rt, f, y1, y2, -⟩ := q4 c hc
    exact ⟨n y1, n y2⟩
  · obtain ⟨o, e⟩ := (s4 c hc).2.1 b (Or.inr y)
    rw [e] at hb
    cases hb
theorem qTr.endcut {r a : Nat} {L : qKV} {e e' : Nat} {Ok' : Nat → Prop} {N : Nat → Prop} (hN : ∀ b o, h b = some o → (∀ ci fs, o = .inr (ci, fs) → ci = 3) → N b) (t : qTr cy h Im2 e Ok mk r a L X2) (k3 : ∀ o, Ok o → Ok' o) (k4 : (∃ b, X2 b) → Ok' e) : qTr cy h (fun b => (Im2 b ∨ X2 b) ∧ N b) e' Ok' mk r a L (fun _ => False) :=
  ((t.ends (Im' := fun b => Im2 b ∨ X2 b) (e' := e') (fun _ z => Or.inl z) (fun _ z => Or.inr z) k3 k4).cut hN).monoX (fun _ z => z.1)
/-- an edit has ended -/
theorem zQ.edit (q : zQ cy h1 x mk sl bl kr vr (E + 1) fs bd br eb Im Xb g S W) {Bd sk Rn : Nat} {dp : Nat → Nat} (iv : qWv Bd sk Rn dp W) (heb : ∀ b, b < 4 → ((S (24 + b)).1 = 1 ∨ (S (24 + b)).1 = 2) → eb b ≤ E) {x2 : Option Nat} {L2 : qKV} (hR : qRt cy h2 Im2 (E + 1) (zOk E eb S) mk x2 L2 X2) (hE : qEd cy h2 Im2 X2) (hC : qCh h1 Im (fun _ => False) h2 Im2 X2) : ∃ Im3 : Nat → Prop, zQ cy h2 x mk sl bl kr vr (E + 1) fs bd br eb Im3 Xb g S W ∧ qRt cy h2 Im3 0 (zOk (E + 1) eb S) mk x2 L2 (fun _ => False) ∧ (∀ b, Im b → Im3 b) ∧ ∀ b, Im3 b → Im b ∨ h1 b = none := by
  have hle : qle h1 h2 := fun b o e => hC.1 b o e (fun z => z)
  have i2 : ∀ b, (Im2 b ∨ X2 b) → Im b ∨ h1 b = none := fun b z => z.elim (hC.2.2.1 b) (fun y => (hC.2.2.2.1 b y).elim (fun z => z.elim) Or.inr)
  refine ⟨fun b => (Im2 b ∨ X2 b) ∧ ∀ ci fv, h2 b = some (.inr (ci, fv)) → ci = 3, (q.le iv hle hle.dom).im (h1 := h1) (fun b hb => ⟨Or.inl (hC.2.1 b hb), ?_⟩) (fun b hb => ?_) q.kx, ?_, fun b hb => ⟨Or.inl (hC.2.1 b hb), ?_⟩, fun b hb => i2 b hb.1⟩
  · exact ((q.le iv hle hle.dom).2.2.2.2.2.1 b (Or.inl hb)).2.2.2.2.2.2
  · rcases i2 b hb.1 with w | w
    · exact Or.inl w
    · exact Or.inr ⟨w, hE.2.1 b hb.1, hb.2⟩
  · have k3 : ∀ o, zOk E eb S o → zOk (E + 1) eb S o := zOk.up (Nat.le_succ _) (fun _ _ => rfl)
    have k4 : zOk (E + 1) eb S (E + 1) := ⟨Nat.le_refl _, fun b hb y z => by have := heb b hb y; omega⟩
    rcases hR with z | ⟨a, z1, z2, z3⟩
    · exact Or.inl z
    · exact Or.inr ⟨a, z1, z2, z3.endcut (fun b o e n ci fv y => n ci fv (Option.some.inj (e.symm.trans y))) k3 (fun _ => k4)⟩
  · exact ((q.le iv hle hle.dom).2.2.2.2.2.1 b (Or.inl hb)).2.2.2.2.2.2
theorem zQ.po1 (q : zQ cy h' x mk sl bl kr vr (E + 1) fs' bd br eb Im3 Xb g' S' W') (f : zFr h h' x sl kr vr bd br Xb) (hi : ∀ b, Im3 b → Im b ∨ h b = none) : zPo cy h x mk sl bl kr vr E bd br Im Xb S' W' h' := ⟨E + 1, fs', eb, Im3, Xb, g', Nat.le_refl _, q, f, fun _ _ _ z => Or.inl z, fun b z => (hi b z).imp Or.inl id⟩
end ZED
theorem zOk_no {E : Nat} {eb : Nat → Nat} {S : Nat → qSlot} : ¬ zOk E eb S (E + 1) := fun z => absurd z.1 (by omega)
theorem zfilt {L : qKV} {gr mk : Int32} {k : Int64} (h : qMk gr = mk) : (L.filter (fun p => decide (thH mk p.1 = thH mk k))).length = xAl gr L k := by
  subst h
  unfold xAl
  congr 2
  funext p
  rw [qMk_h, qMk_h]
  exact decide_eq_decide.mpr thH_eq.symm
theorem zSv_al {s : qSlot} {gr : Int32} {k : Int64} : xAl gr (zSv s) k = xAl gr s.2.1 k := by
  unfold zSv
  split
  · unfold xAl; rw [List.filter_map, List.length_map]; rfl
  · rfl
theorem xAl_re {gr : Int32} {L : qKV} {k v : Int64} : ∀ {k2 : Int64}, xAl gr (xRe L k v) k2 = xAl gr L k2 := fun {k2} => by
  unfold xAl xRe
  rw [List.filter_map, List.length_map]
  congr 2
  funext p
  show decide (qHsh gr (if p.1 = k then (k, v) else p).1 = qHsh gr k2) = _
  by_cases c : p.1 = k
  · rw [if_pos c]; show decide (qHsh gr k = _) = _; rw [c]
  · rw [if_neg c]
theorem xAl_app {gr : Int32} {L : qKV} {k v : Int64} : xAl gr (L ++ [(k, v)]) k = xAl gr L k + 1 := by
  unfold xAl
  rw [List.filter_append, List.length_append]
  simp
/-- what a put does to a MAP or a SET -/
theorem zSv_put {s : qSlot} {k v : Int64} (hk : s.1 = 1 ∨ s.1 = 2) (w : Int64) (hw : w = if s.1 = 2 then 1 else v) : zSv (s.1, xPut s.1 false s.2.1 k v, s.2.2) = thP (zSv s) k w := by
  have n35 : ¬ (s.1 = 3 ∨ s.1 = 5) := by rcases hk with e | e <;> rw [e] <;> decide
  unfold xPut thP
  rw [zSv_has]
  by_cases c : xHas s.2.1 k = true
  · rw [if_pos ⟨rfl, c⟩, if_pos c]
    unfold zSv
    show (if s.1 = 2 then _ else _) = _
    by_cases c2 : s.1 = 2
    · rw [if_pos c2, if_pos c2, hw, if_pos c2]
      unfold xRe
      rw [List.map_map, List.map_map]
      refine List.map_congr_left (fun p _ => ?_)
      show ((if p.1 = k then (k, v) else p).1, (1 : Int64)) = if p.1 = k then (k, 1) else (p.1, 1)
      by_cases c3 : p.1 = k
      · rw [if_pos c3, if_pos c3]
      · rw [if_neg c3, if_neg c3]
    · rw [if_neg c2, if_neg c2, hw, if_neg c2]
  · rw [if_neg (fun z => c z.2), if_neg n35, if_neg c]
    unfold zSv
    show (if s.1 = 2 then _ else _) = _
    by_cases c2 : s.1 = 2
    · rw [if_pos c2, if_pos c2, hw, if_pos c2, List.map_append]; rfl
    · rw [if_neg c2, if_neg c2, hw, if_neg c2]
theorem zSv_out {s : qSlot} {k : Int64} : zSv (s.1, s.2.1.filter (fun p => decide (p.1 ≠ k)), s.2.2) = thD (zSv s) k := by
  unfold zSv thD
  show (if s.1 = 2 then _ else _) = _
  by_cases c2 : s.1 = 2
  · rw [if_pos c2, if_pos c2, List.filter_map]; rfl
  · rw [if_neg c2, if_neg c2]
/-- whether there is room for one more key -/
theorem zroom {kd gr : Int32} {L : qKV} {k v : Int64} (hk : kd = 1 ∨ kd = 2) (hL : L.length ≤ 1000) (hA : ∀ k, xAl gr L k ≤ 16) : (xHas L k = true ∨ (L.length + 1 ≤ 1000 ∧ xAl gr L k + 1 ≤ 16)) ↔ ¬ (1000 < (xPut kd false L k v).length ∨ (16 < xAl gr (xPut kd false L k v) k ∧ (kd = 1 ∨ kd = 2))) := by
  have n35 : ¬ (kd = 3 ∨ kd = 5) := by rcases hk with e | e <;> rw [e] <;> decide
  unfold xPut
  by_cases c : xHas L k = true
  · rw [if_pos ⟨rfl, c⟩, xAl_re]
    unfold xRe
    rw [List.length_map]
    exact ⟨fun _ z => by have := hA k; rcases z with z | z <;> omega, fun _ => Or.inl c⟩
  · rw [if_neg (fun z => c z.2), if_neg n35, xAl_app, List.length_append]
    show _ ↔ ¬ (1000 < L.length + 1 ∨ _)
    exact ⟨fun z y => z.elim c (fun z => by rcases y with y | y <;> omega), fun z => Or.inr ⟨by omega, by have : ¬ (16 < xAl gr L k + 1 ∧ (kd = 1 ∨ kd = 2)) := fun y => z (Or.inr y); have : ¬ 16 < xAl gr L k + 1 := fun y => this ⟨y, hk⟩; omega⟩⟩
theorem qIns_put {k v : Int64} : ∀ {L : qKV}, qSo L → qIns L k v = xPut 3 false L k v
  | [], _ => rfl
  | p :: B, hs => by
    have hs2 := List.pairwise_cons.mp hs
    have np : ∀ {q : Int64 × Int64}, k.toInt < q.1.toInt → q.1 ≠ k := fun {q} z e => by rw [e] at z; omega
    unfold xPut
    by_cases c1 : k.toInt < p.1.toInt
    · have hx : xHas (p :: B) k = false := xHas_no.mpr (fun q hq => np (by
        rcases List.mem_cons.mp hq with e | e
        · rw [e]; exact c1
        · have := hs2.1 q e; omega))
      rw [if_neg (fun z => by rw [hx] at z; cases z.2), if_pos (Or.inl rfl)]
      have e1 := qIns_l (A := []) (B := B) (p := p) (k := k) (v := v) hs c1
      rw [show ([] : qKV) ++ p :: B = p :: B from rfl] at e1
      rw [e1, qIns_nil]
      unfold xSi
      have f1 : (p :: B).filter (fun q => decide (q.1.toInt ≤ k.toInt)) = [] := List.filter_eq_nil_iff.mpr (fun q hq z => by
        have z := of_decide_eq_true z
        rcases List.mem_cons.mp hq with e | e
        · rw [e] at z; omega
        · have := hs2.1 q e; omega)
      have f2 : (p :: B).filter (fun q => decide (k.toInt < q.1.toInt)) = p :: B := List.filter_eq_self.mpr (fun q hq => decide_eq_true (by
        rcases List.mem_cons.mp hq with e | e
        · rw [e]; exact c1
        · have := hs2.1 q e; omega))
      rw [f1, f2]
      rfl
    · by_cases c2 : k.toInt = p.1.toInt
      · have e2 : p.1 = k := Int64.toInt_inj.mp c2.symm
        have e1 := qIns_m (A := []) (B := B) (p := p) (k := k) (v := v) hs c2
        rw [show ([] : qKV) ++ p :: B = p :: B from rfl] at e1
        rw [e1, if_pos ⟨rfl, xHas_yes.mpr ⟨p, List.mem_cons_self .., e2⟩⟩]
        unfold xRe
        rw [List.map_cons, if_pos e2]
        show (k, v) :: B = _
        congr 1
        have : B.map (fun p => if p.1 = k then (k, v) else p) = B.map id := List.map_congr_left (fun q hq => if_neg (fun z => by have := hs2.1 q hq; rw [z, ← c2] at this; omega))
        rw [this, List.map_id]
      · have c3 : p.1.toInt < k.toInt := by omega
        have n3 : p.1 ≠ k := fun e => by rw [e] at c3; omega
        have e1 := qIns_r (A := []) (B := B) (p := p) (k := k) (v := v) hs c3
        rw [show ([] : qKV) ++ p :: B = p :: B from rfl] at e1
        rw [e1, qIns_put hs2.2, show xHas (p :: B) k = xHas B k from by unfold xHas; rw [List.any_cons, beq_eq_false_iff_ne.mpr n3]; rfl]
        unfold xPut
        by_cases c4 : xHas B k = true
        · rw [if_pos ⟨rfl, c4⟩, if_pos ⟨rfl, c4⟩]
          unfold xRe
          rw [List.map_cons, if_neg n3]
          rfl
        · have hc4 : ¬ (false = false ∧ xHas B k = true) := fun z => c4 z.2
          rw [if_neg hc4, if_pos (Or.inl rfl), if_neg hc4]
          unfold xSi
          rw [List.filter_cons_of_pos (by exact decide_eq_true (by omega)), List.filter_cons_of_neg (by intro z; have := of_decide_eq_true z; omega)]
          rfl
theorem aMs64 : aMs 64 7 ≤ 1500 := by decide
theorem rMs64 : rMs 64 7 ≤ 3000 := by decide
theorem dX6_withHashed_0 : decode cX6_withHashed 0 = .ok (.aload_n 1, 1) := by decide +kernel
theorem dX6_withHashed_1 : decode cX6_withHashed 1 = .ok (.aload_n 0, 1) := by decide +kernel
theorem dX6_withHashed_2 : decode cX6_withHashed 2 = .ok (.getfield 34, 3) := by decide +kernel
theorem dX6_withHashed_5 : decode cX6_withHashed 5 = .ok (.lload_n 3, 1) := by decide +kernel
theorem dX6_withHashed_6 : decode cX6_withHashed 6 = .ok (.invokestatic 246, 3) := by decide +kernel
theorem dX6_withHashed_9 : decode cX6_withHashed 9 = .ok (.ifCond .ne 26, 3) := by decide +kernel
theorem dX6_withHashed_12 : decode cX6_withHashed 12 = .ok (.aload_n 1, 1) := by decide +kernel
theorem dX6_withHashed_13 : decode cX6_withHashed 13 = .ok (.invokestatic 407, 3) := by decide +kernel
theorem dX6_withHashed_16 : decode cX6_withHashed 16 = .ok (.iconst 1, 1) := by decide +kernel
theorem dX6_withHashed_17 : decode cX6_withHashed 17 = .ok (.iadd, 1) := by decide +kernel
theorem dX6_withHashed_18 : decode cX6_withHashed 18 = .ok (.invokestatic 81, 3) := by decide +kernel
theorem dX6_withHashed_21 : decode cX6_withHashed 21 = .ok (.aload_n 1, 1) := by decide +kernel
theorem dX6_withHashed_22 : decode cX6_withHashed 22 = .ok (.aload_n 0, 1) := by decide +kernel
theorem dX6_withHashed_23 : decode cX6_withHashed 23 = .ok (.getfield 34, 3) := by decide +kernel
theorem dX6_withHashed_26 : decode cX6_withHashed 26 = .ok (.lload_n 3, 1) := by decide +kernel
theorem dX6_withHashed_27 : decode cX6_withHashed 27 = .ok (.invokestatic 410, 3) := by decide +kernel
theorem dX6_withHashed_30 : decode cX6_withHashed 30 = .ok (.iconst 1, 1) := by decide +kernel
theorem dX6_withHashed_31 : decode cX6_withHashed 31 = .ok (.iadd, 1) := by decide +kernel
theorem dX6_withHashed_32 : decode cX6_withHashed 32 = .ok (.invokestatic 414, 3) := by decide +kernel
theorem dX6_withHashed_35 : decode cX6_withHashed 35 = .ok (.aload_n 1, 1) := by decide +kernel
theorem dX6_withHashed_36 : decode cX6_withHashed 36 = .ok (.iload_n 2, 1) := by decide +kernel
theorem dX6_withHashed_37 : decode cX6_withHashed 37 = .ok (.aload_n 0, 1) := by decide +kernel
theorem dX6_withHashed_38 : decode cX6_withHashed 38 = .ok (.getfield 34, 3) := by decide +kernel
theorem dX6_withHashed_41 : decode cX6_withHashed 41 = .ok (.lload_n 3, 1) := by decide +kernel
theorem dX6_withHashed_42 : decode cX6_withHashed 42 = .ok (.lload 5, 2) := by decide +kernel
theorem dX6_withHashed_44 : decode cX6_withHashed 44 = .ok (.invokestatic 417, 3) := by decide +kernel
theorem dX6_withHashed_47 : decode cX6_withHashed 47 = .ok (.areturn, 1) := by decide +kernel
set_option maxRecDepth 100000 in
set_option maxHeartbeats 4000000 in
theorem z_withHashed (l : Launch) (D : va_G) (cy : Nat → ClassId) (N0 : Nat) (h : qH) (Im : Nat → Prop) (e9 : Nat) (Ok : Nat → Prop) (m9 : Int32) (xr : Option Nat) (L : qKV) (X : Nat → Prop) (tx sl bl kr vr : Nat) (ca mv ed : Int32) (k xv : Int64) (N : Nat) (hR : qRt cy h Im e9 Ok m9 xr L X) (hT : h tx = some (.inr (6, [.int m9, .ref sl, .ref bl, .ref kr, .ref vr, .int ca, .int mv, .int ed]))) (hE : qEd cy h Im X) (hO : ¬ Ok e9) (he9 : e9 < 2 ^ 31) (hN : L.length ≤ N) (hN9 : N ≤ 1000) (hno : qNo L) : qC l D cy N0 yX6_withHashed cX6_withHashed 7 (some (.object RX3)) 28 1800 53 (aMs N 7 + 40) [.ref tx, va_rf xr, .int (nI e9), .long k, .long xv] h (fun v h' => (xHas L k = true ∨ (L.length + 1 ≤ 1000 ∧ (L.filter (fun p => decide (thH m9 p.1 = thH m9 k))).length + 1 ≤ 16)) ∧ ∃ (x2 : Option Nat) (X2 Im2 : Nat → Prop), v = some (va_rf x2) ∧ qRt cy h' Im2 e9 Ok m9 x2 (thP L k xv) X2 ∧ qEd cy h' Im2 X2 ∧ qCh h Im X h' Im2 X2) (fun E h' => E = "java/lang/IndexOutOfBoundsException" ∧ h = h' ∧ xHas L k = false ∧ (1000 < L.length + 1 ∨ 16 < (L.filter (fun p => decide (thH m9 p.1 = thH m9 k))).length + 1)) := by
  refine q_ofW (by decide) (by simp [lg_sl, q_catrf, q_cati, q_catl, q_cata, q_catn]) ?_
  intro p e s m below meth c ls C hP hl
  have hx := C.1
  have hb := C.2.1
  have hS : va_S (qA N0) s.heap s.heap [] := va_S.rf
  have hl : lv_has ls 7 [(0, .ref tx), (1, va_rf xr), (2, .int (nI e9)), (3, .long k), (5, .long xv)] := by simpa [lv_args, q_catrf, q_cati, q_catl, q_cata, q_catn] using hl
  refine q_aload_n hx hb dX6_withHashed_0 rfl (lv_at hl 1 rfl) ?_
  refine lv_aload_n hx hb dX6_withHashed_1 rfl (lv_at hl 0 rfl) ?_
  refine q_get C hP hT rfl inX6 0 (by decide) g68 rfl dX6_withHashed_2 ?_
  refine lv_lload_n hx hb dX6_withHashed_5 rfl (lv_at hl 3 rfl) ?_
  refine q_callS (rest := []) C (c_X3_holds l D cy N0 h Im e9 Ok m9 xr L X k hR (by omega)) kX3_holds g293 g294 hP hS (by first | decide | omega) hl.1 rfl (by decide) (by first | decide | omega) dX6_withHashed_6 (fun q ce E h' H1 locs1 hE => hE.elim) (fun v hh1 H locs hq hP hS => ?_)
  obtain ⟨rfl, rfl⟩ := hq
  by_cases hx9 : xHas L k = true
  · rw [if_pos hx9]
    refine lv_if_ne (tgt := 35) hx hb dX6_withHashed_9 (by decide) (fun c9 => ?_) (fun c9 => ?_)
    · replace c9 : ¬ 1 = 0 := fun zq => c9 ((nI_eq (a := 1) (b := 0) (by omega) (by omega)).mpr zq)
      refine q_aload_n hx hb dX6_withHashed_35 rfl (lv_at hl 1 rfl) ?_
      refine lv_iload_n hx hb dX6_withHashed_36 rfl (lv_at hl 2 rfl) ?_
      refine lv_aload_n hx hb dX6_withHashed_37 rfl (lv_at hl 0 rfl) ?_
      refine q_get C hP hT rfl inX6 0 (by decide) g68 rfl dX6_withHashed_38 ?_
      refine lv_lload_n hx hb dX6_withHashed_41 rfl (lv_at hl 3 rfl) ?_
      refine lv_lload hx hb dX6_withHashed_42 (lv_at hl 4 rfl) ?_
      refine q_callS (rest := []) C (c_X3_added l D cy N0 h Im e9 Ok m9 xr L X k xv N hR hE hO he9 hN (by omega) hno) kX3_added g350 g351 hP hS (by first | decide | omega) hl.1 rfl (by decide) (by first | decide | omega) dX6_withHashed_44 (fun q ce E h' H1 locs1 hE => hE.elim) (fun v hh2 H locs hq hP hS => ?_)
      obtain ⟨x2, X2, Im2, rfl, hR2, hE2, hC2⟩ := hq
      exact q_aret C (Or.inl ⟨_, rfl⟩) hP hS ⟨Or.inl hx9, x2, X2, Im2, rfl, hR2, hE2, hC2⟩ (by omega) dX6_withHashed_47
    · replace c9 : 1 = 0 := (nI_eq (a := 1) (b := 0) (by omega) (by omega)).mp c9
      exfalso; omega
  · rw [if_neg hx9]
    replace hx9 : xHas L k = false := by rw [← Bool.not_eq_true]; exact hx9
    refine lv_if_ne (tgt := 35) hx hb dX6_withHashed_9 (by decide) (fun c9 => ?_) (fun c9 => ?_)
    · replace c9 : ¬ 0 = 0 := fun zq => c9 ((nI_eq (a := 0) (b := 0) (by omega) (by omega)).mpr zq)
      exfalso; omega
    · replace c9 : 0 = 0 := (nI_eq (a := 0) (b := 0) (by omega) (by omega)).mp c9
      refine q_aload_n hx hb dX6_withHashed_12 rfl (lv_at hl 1 rfl) ?_
      refine q_callS (rest := []) C (c_X3_totalOf l D cy N0 h xr (nI L.length) hR.fi) kX3_totalOf g323 g230 hP hS (by first | decide | omega) hl.1 rfl (by decide) (by first | decide | omega) dX6_withHashed_13 (fun q ce E h' H1 locs1 hE => hE.elim) (fun v hh3 H locs hq hP hS => ?_)
      obtain ⟨rfl, rfl⟩ := hq
      refine lv_iconst (v := nI 1) hx hb dX6_withHashed_16 (by decide) ?_
      refine q_iaddN hx hb dX6_withHashed_17 ?_
      refine q_callS (rest := []) C (c_X6_needRoom l D cy N0 h (nI (L.length + 1))) kX6_needRoom g324 g325 hP hS (by first | decide | omega) hl.1 rfl (by decide) (by first | decide | omega) dX6_withHashed_18 (fun q ce E h' H1 locs1 hE hP hS hc1 hc2 hc3 => by obtain ⟨rfl, rfl, hn9⟩ := hE; replace hn9 : ¬ L.length + 1 ≤ 1000 := fun z => hn9 ((nI_leI (a := L.length + 1) (b := 1000) (by omega) (by omega)).mpr z); exact q_out C hP hS hc1 hc2 hc3 ⟨rfl, rfl, hx9, Or.inl (by omega)⟩ (by omega)) (fun v hh4 H locs hq hP hS => ?_)
      obtain ⟨rfl, rfl, hr1000⟩ := hq
      replace hr1000 := (nI_leI (a := L.length + 1) (b := 1000) (by omega) (by omega)).mp hr1000
      refine q_aload_n hx hb dX6_withHashed_21 rfl (lv_at hl 1 rfl) ?_
      refine lv_aload_n hx hb dX6_withHashed_22 rfl (lv_at hl 0 rfl) ?_
      refine q_get C hP hT rfl inX6 0 (by decide) g68 rfl dX6_withHashed_23 ?_
      refine lv_lload_n hx hb dX6_withHashed_26 rfl (lv_at hl 3 rfl) ?_
      have hal : (L.filter (fun p => decide (thH m9 p.1 = thH m9 k))).length ≤ L.length := List.length_filter_le ..
      obtain ⟨al, eal⟩ : ∃ z, (L.filter (fun p => decide (thH m9 p.1 = thH m9 k))).length = z := ⟨_, rfl⟩
      refine q_callS (rest := []) C (c_X3_alikeKeys l D cy N0 h Im e9 Ok m9 xr L X k hR (by omega)) kX3_alikeKeys g343 g344 hP hS (by first | decide | omega) hl.1 rfl (by decide) (by first | decide | omega) dX6_withHashed_27 (fun q ce E h' H1 locs1 hE => hE.elim) (fun v hh5 H locs hq hP hS => ?_)
      obtain ⟨rfl, rfl⟩ := hq
      rw [eal]
      rw [eal] at hal
      refine lv_iconst (v := nI 1) hx hb dX6_withHashed_30 (by decide) ?_
      refine q_iaddN hx hb dX6_withHashed_31 ?_
      refine q_callS (rest := []) C (c_X6_needFewAlike l D cy N0 h (nI (al + 1))) kX6_needFewAlike g346 g347 hP hS (by first | decide | omega) hl.1 rfl (by decide) (by first | decide | omega) dX6_withHashed_32 (fun q ce E h' H1 locs1 hE hP hS hc1 hc2 hc3 => by obtain ⟨rfl, rfl, hn9⟩ := hE; replace hn9 : ¬ al + 1 ≤ 16 := fun z => hn9 ((nI_leI (a := al + 1) (b := 16) (by omega) (by omega)).mpr z); exact q_out C hP hS hc1 hc2 hc3 ⟨rfl, rfl, hx9, Or.inr (by omega)⟩ (by omega)) (fun v hh6 H locs hq hP hS => ?_)
      obtain ⟨rfl, rfl, hr16⟩ := hq
      replace hr16 := (nI_leI (a := al + 1) (b := 16) (by omega) (by omega)).mp hr16
      refine q_aload_n hx hb dX6_withHashed_35 rfl (lv_at hl 1 rfl) ?_
      refine lv_iload_n hx hb dX6_withHashed_36 rfl (lv_at hl 2 rfl) ?_
      refine lv_aload_n hx hb dX6_withHashed_37 rfl (lv_at hl 0 rfl) ?_
      refine q_get C hP hT rfl inX6 0 (by decide) g68 rfl dX6_withHashed_38 ?_
      refine lv_lload_n hx hb dX6_withHashed_41 rfl (lv_at hl 3 rfl) ?_
      refine lv_lload hx hb dX6_withHashed_42 (lv_at hl 4 rfl) ?_
      refine q_callS (rest := []) C (c_X3_added l D cy N0 h Im e9 Ok m9 xr L X k xv N hR hE hO he9 hN (by omega) hno) kX3_added g350 g351 hP hS (by first | decide | omega) hl.1 rfl (by decide) (by first | decide | omega) dX6_withHashed_44 (fun q ce E h' H1 locs1 hE => hE.elim) (fun v hh7 H locs hq hP hS => ?_)
      obtain ⟨x2, X2, Im2, rfl, hR2, hE2, hC2⟩ := hq
      exact q_aret C (Or.inl ⟨_, rfl⟩) hP hS ⟨Or.inr ⟨by omega, by omega⟩, x2, X2, Im2, rfl, hR2, hE2, hC2⟩ (by omega) dX6_withHashed_47
