theorem qnI_any (v : Int32) : ∃ r : Nat, v = nI r := ⟨v.toBitVec.toNat, by
  apply Int32.toBitVec.inj
  apply BitVec.eq_of_toNat_eq
  show _ = (BitVec.ofNat 32 (v.toBitVec.toNat)).toNat
  rw [BitVec.toNat_ofNat, Nat.mod_eq_of_lt v.toBitVec.isLt]⟩
theorem qne_arr {cy : Nat → ClassId} {h : qH} {b y : Nat} {x : ClassId × vp_A} {fs : List Value} (hb : h b = some (.inl x)) (hy : h y = some (.inr (8, fs))) : b ≠ y := fun q => by rw [q, hy] at hb; cases hb
theorem qne_il {cy : Nat → ClassId} {h : qH} {b c n m : Nat} {f : Nat → Int32} {g : Nat → Int64} (hb : h b = some (.inl (cy 0, n, .inl f))) (hc : h c = some (.inl (cy 1, m, .inr (.inl g)))) : b ≠ c := fun q => by rw [q, hc] at hb; simp at hb
theorem qne_new {h : qH} {b c : Nat} {o : va_E} (hb : h b = some o) (hc : ∀ o, ¬ h c = some o) : c ≠ b := fun q => hc o (q ▸ hb)
theorem qne_or {h : qH} {b c d : Nat} {o : va_E} (hb : h b = some o) (hc : c = d ∨ ∀ o, ¬ h c = some o) (hd : d ≠ b) : c ≠ b := by
  rcases hc with q | q
  · rw [q]; exact hd
  · exact qne_new hb q
set_option maxHeartbeats 4000000 in
/-- cons, on the whole -/
theorem w_cons (l : Launch) (D : va_G) (cy : Nat → ClassId) (N0 : Nat) (h : qH) (y : Nat) (A : Nat → Prop) (o : qYf) (a : qWd) (k : qKd) (x0 : Int64) (r0 : Nat) (hS : qSy cy h y A o a k) (hCL : a.2.1 ≤ 50000) :
    qC l D cy N0 yX8_cons cX8_cons 4 (some .int) 1 22 (if a.1 = a.2.1 then 2 else 0) (if a.1 = a.2.1 then 4 * a.2.1 else 0) [.ref y, .long x0, .int (nI r0)] h (fun v h' => v = some (.int (nI a.1)) ∧ ∃ A', qSy cy h' y A' o (xCons a x0 r0) k ∧ qFy h h' y A A') (fun E h' => False) := by
  obtain ⟨ms, mb, mw, od, pt, ro, gr, cd, ca, mv, ct, fau, rn⟩ := o
  obtain ⟨nc, CL, Fa, Ra⟩ := a
  obtain ⟨fi, re, rc, rs, so, ot, cn, la, F, Rt, Rc, Rs, So, Ot, Cn, La, hY, ⟨h1, h2, h3, h4, h5, h6, h7, h8⟩, hg, hk, hz, hd, ⟨d1, d2, d3, d4, d5, d6⟩, ⟨A1, A2, A3, A4, A5, A6, A7, A8⟩, b1, b2, b3, b4⟩ := hS
  dsimp only at hY h1 h2 hg b1 b2 b3 hCL ⊢
  refine (c_X8_cons l D cy N0 h y ms mb mw od pt fi re rc rs so ot cn la ro gr cd ca mv ct fau (nI k.1) rn nc CL F Rt x0 (nI r0) hY h1 h2 ⟨b1, b2, b3⟩).mono ?_ (fun E h' z => z)
  rintro v h' ⟨rfl, f2, r2, C2, eC, G, Q, g1, g2, g3, g4, g5, g6, g7, g8, g9, fr⟩
  have nY : ∀ {b : Nat} {x : ClassId × vp_A}, h b = some (.inl x) → b ≠ y := fun hb => qne_arr (cy := cy) hb hY
  have ki : ∀ {b n : Nat} {f : Nat → Int32}, h b = some (.inl (cy 0, n, .inl f)) → re ≠ b → h' b = some (.inl (cy 0, n, .inl f)) := fun hb n1 => fr _ _ hb (nY hb) (qne_il hb h1) (fun q => n1 q.symm)
  have kl : ∀ {b n : Nat} {f : Nat → Int64}, h b = some (.inl (cy 1, n, .inr (.inl f))) → fi ≠ b → h' b = some (.inl (cy 1, n, .inr (.inl f))) := fun hb n1 => fr _ _ hb (nY hb) (fun q => n1 q.symm) (fun q => qne_il h2 hb q.symm)
  have hC2 : nc + 1 ≤ C2 ∧ C2 ≤ 100000 := by rw [eC]; split <;> omega
  refine ⟨rfl, fun b => A b ∨ b = f2 ∨ b = r2, ⟨f2, r2, rc, rs, so, ot, cn, la, G, Q, Rc, Rs, So, Ot, Cn, La, g1, ⟨?_, ?_, ki h3 d1, ki h4 d2, ki h5 d3, ki h6 d4, kl h7 d5, kl h8 d6⟩, fun j hj => ?_, hk, hz, hd, ⟨qne_or h3 g9 d1, qne_or h4 g9 d2, qne_or h5 g9 d3, qne_or h6 g9 d4, qne_or h7 g8 d5, qne_or h8 g8 d6⟩, ⟨Or.inr (Or.inl rfl), Or.inr (Or.inr rfl), Or.inl A3, Or.inl A4, Or.inl A5, Or.inl A6, Or.inl A7, Or.inl A8⟩, ?_⟩, ?_⟩
  · show h' f2 = some (.inl (cy 1, if nc = CL then 2 * CL else CL, .inr (.inl G))); rw [← eC]; exact g2
  · show h' r2 = some (.inl (cy 0, if nc = CL then 2 * CL else CL, .inl Q)); rw [← eC]; exact g3
  · show G j = qU Fa nc x0 j ∧ Q j = nI (qU Ra nc r0 j)
    have hj : j < nc + 1 := hj
    by_cases c : j = nc
    · subst c; rw [qU_at, qU_at]; exact ⟨g5, g7⟩
    · rw [qU_ne c, qU_ne c, g4 j (by omega), g6 j (by omega)]; exact hg j (by omega)
  · show nc + 1 ≤ (if nc = CL then 2 * CL else CL) ∧ 1 ≤ (if nc = CL then 2 * CL else CL) ∧ (if nc = CL then 2 * CL else CL) ≤ 100000 ∧ _
    rw [← eC]
    exact ⟨hC2.1, by omega, hC2.2, b4⟩
  · refine ⟨fun b o hb n1 n2 => fr b o hb n1 (fun q => n2 (q ▸ A1)) (fun q => n2 (q ▸ A2)), fun b z => Or.inl z, fun b z => ?_⟩
    rcases z with z | z | z
    · exact Or.inl z
    · rcases g8 with q | q
      · exact Or.inl (by rw [z, q]; exact A1)
      · exact Or.inr (by rw [z]; exact q)
    · rcases g9 with q | q
      · exact Or.inl (by rw [z, q]; exact A2)
      · exact Or.inr (by rw [z]; exact q)
set_option maxHeartbeats 4000000 in
/-- cell, on the whole -/
theorem w_cell (l : Launch) (D : va_G) (cy : Nat → ClassId) (N0 : Nat) (h : qH) (y : Nat) (A : Nat → Prop) (o : qYf) (a : qWd) (k : qKd) (k0 s0 t0 : Nat) (c0 x0 : Int64) (hS : qSy cy h y A o a k) (hKL : k.2.1 ≤ 50000) :
    qC l D cy N0 yX8_cell cX8_cell 8 (some .int) 1 22 (if k.1 = k.2.1 then 6 else 0) (if k.1 = k.2.1 then 12 * k.2.1 else 0) [.ref y, .int (nI k0), .int (nI s0), .int (nI t0), .long c0, .long x0] h (fun v h' => v = some (.int (nI k.1)) ∧ ∃ A', qSy cy h' y A' o a (xCell k k0 s0 t0 c0 x0) ∧ qFy h h' y A A') (fun E h' => False) := by
  obtain ⟨ms, mb, mw, od, pt, ro, gr, cd, ca, mv, ct, fau, rn⟩ := o
  obtain ⟨nk, KL, ka, kb, kc, kd, ke, kf⟩ := k
  obtain ⟨fi, re, rc, rs, so, ot, cn, la, F, Rt, Rc, Rs, So, Ot, Cn, La, hY, ⟨h1, h2, h3, h4, h5, h6, h7, h8⟩, hg, hk, hz, hd, ⟨d1, d2, d3, d4, d5, d6⟩, ⟨A1, A2, A3, A4, A5, A6, A7, A8⟩, b1, b2, b3, b4, b5, b6⟩ := hS
  dsimp only at hY h3 h4 h5 h6 h7 h8 hk hz b4 b5 b6 hKL ⊢
  refine (c_X8_cell l D cy N0 h y ms mb mw od pt fi re rc rs so ot cn la ro gr cd ca mv ct fau (nI a.1) rn nk KL Rc Rs So Ot Cn La (nI k0) (nI s0) (nI t0) c0 x0 hY h3 h4 h5 h6 h7 h8 hd ⟨b4, b5, b6⟩).mono ?_ (fun E h' z => z)
  rintro v h' ⟨rfl, rc2, rs2, so2, ot2, cn2, la2, K2, eK, Rc2, Rs2, So2, Ot2, Cn2, La2, g1, ⟨e1, e2, e3, e4, e5, e6⟩, ⟨⟨q1, q2⟩, ⟨q3, q3z⟩, ⟨q4, q5⟩, ⟨q6, q7⟩, ⟨q8, q9⟩, ⟨q10, q11⟩⟩, ⟨w1, w2, w3, w4, w5, w6⟩, hd', fr⟩
  have nY : ∀ {b : Nat} {x : ClassId × vp_A}, h b = some (.inl x) → b ≠ y := fun hb => qne_arr (cy := cy) hb hY
  have kfi : h' fi = some (.inl (cy 1, a.2.1, .inr (.inl F))) := fr _ _ h1 (nY h1) (fun q => qne_il h3 h1 q.symm) (fun q => qne_il h4 h1 q.symm) (fun q => qne_il h5 h1 q.symm) (fun q => qne_il h6 h1 q.symm) d5 d6
  have kre : h' re = some (.inl (cy 0, a.2.1, .inl Rt)) := fr _ _ h2 (nY h2) d1 d2 d3 d4 (qne_il h2 h7) (qne_il h2 h8)
  have hK2 : nk + 1 ≤ K2 ∧ K2 ≤ 100000 := by rw [eK]; split <;> omega
  have er9 : Rs2 nk = nI 0 := by
    by_cases c : nk < KL
    · rw [q3 nk c]; exact hz nk (Nat.le_refl _) c
    · exact q3z nk (by omega) (by omega)
  refine ⟨rfl, fun b => A b ∨ b = rc2 ∨ b = rs2 ∨ b = so2 ∨ b = ot2 ∨ b = cn2 ∨ b = la2, ⟨fi, re, rc2, rs2, so2, ot2, cn2, la2, F, Rt, Rc2, Rs2, So2, Ot2, Cn2, La2, g1, ⟨kfi, kre, ?_, ?_, ?_, ?_, ?_, ?_⟩, hg, fun j hj => ?_, fun j h9 h10 => ?_, hd', ⟨(qne_or h2 w1 (Ne.symm d1)).symm, (qne_or h2 w2 (Ne.symm d2)).symm, (qne_or h2 w3 (Ne.symm d3)).symm, (qne_or h2 w4 (Ne.symm d4)).symm, (qne_or h1 w5 (Ne.symm d5)).symm, (qne_or h1 w6 (Ne.symm d6)).symm⟩, ⟨Or.inl A1, Or.inl A2, by simp, by simp, by simp, by simp, by simp, by simp⟩, ?_⟩, ?_⟩
  · show h' rc2 = some (.inl (cy 0, if nk = KL then 2 * KL else KL, .inl Rc2)); rw [← eK]; exact e1
  · show h' rs2 = some (.inl (cy 0, if nk = KL then 2 * KL else KL, .inl Rs2)); rw [← eK]; exact e2
  · show h' so2 = some (.inl (cy 0, if nk = KL then 2 * KL else KL, .inl So2)); rw [← eK]; exact e3
  · show h' ot2 = some (.inl (cy 0, if nk = KL then 2 * KL else KL, .inl Ot2)); rw [← eK]; exact e4
  · show h' cn2 = some (.inl (cy 1, if nk = KL then 2 * KL else KL, .inr (.inl Cn2))); rw [← eK]; exact e5
  · show h' la2 = some (.inl (cy 1, if nk = KL then 2 * KL else KL, .inr (.inl La2))); rw [← eK]; exact e6
  · have hj : j < nk + 1 := hj
    show Rc2 j = nI (qU ka nk k0 j) ∧ Rs2 j = nI (qU kb nk 0 j) ∧ So2 j = nI (qU kc nk s0 j) ∧ Ot2 j = nI (qU kd nk t0 j) ∧ Cn2 j = qU ke nk c0 j ∧ La2 j = qU kf nk x0 j
    by_cases c : j = nk
    · subst c
      simp only [qU_at]
      exact ⟨q2, er9, q5, q7, q9, q11⟩
    · simp only [qU_ne c]
      obtain ⟨z1, z2, z3, z4, z5, z6⟩ := hk j (by omega)
      have hj2 : j < nk := by omega
      exact ⟨(q1 j hj2).trans z1, (q3 j (by omega)).trans z2, (q4 j hj2).trans z3, (q6 j hj2).trans z4, (q8 j hj2).trans z5, (q10 j hj2).trans z6⟩
  · have h9 : nk + 1 ≤ j := h9
    have h10 : j < (if nk = KL then 2 * KL else KL) := h10
    rw [← eK] at h10
    by_cases c : j < KL
    · rw [q3 j c]; exact hz j (by omega) c
    · exact q3z j (by omega) h10
  · show a.1 ≤ a.2.1 ∧ 1 ≤ a.2.1 ∧ a.2.1 ≤ 100000 ∧ nk + 1 ≤ (if nk = KL then 2 * KL else KL) ∧ 1 ≤ (if nk = KL then 2 * KL else KL) ∧ (if nk = KL then 2 * KL else KL) ≤ 100000
    rw [← eK]
    exact ⟨b1, b2, b3, hK2.1, by omega, hK2.2⟩
  · refine ⟨fun b o hb n1 n2 => fr b o hb n1 (fun q => n2 (q ▸ A3)) (fun q => n2 (q ▸ A4)) (fun q => n2 (q ▸ A5)) (fun q => n2 (q ▸ A6)) (fun q => n2 (q ▸ A7)) (fun q => n2 (q ▸ A8)), fun b z => Or.inl z, fun b z => ?_⟩
    have key : ∀ {c d : Nat}, A d → (c = d ∨ ∀ o, ¬ h c = some o) → b = c → A b ∨ ∀ o, ¬ h b = some o := fun hA hc e => by
      rcases hc with q | q
      · exact Or.inl (by rw [e, q]; exact hA)
      · exact Or.inr (by rw [e]; exact q)
    rcases z with z | z | z | z | z | z | z
    · exact Or.inl z
    · exact key A3 w1 z
    · exact key A4 w2 z
    · exact key A5 w3 z
    · exact key A6 w4 z
    · exact key A7 w5 z
    · exact key A8 w6 z
