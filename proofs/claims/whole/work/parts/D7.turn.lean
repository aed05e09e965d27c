/-- the rows of numbers, as the state keeps them -/
def xRs (S : Nat → qSlot) : Nat → List Int64 := fun r => (S (1000 + r)).2.1.map Prod.fst
/-- slot j's keys laid down as a row of numbers -/
def xTl (S : Nat → qSlot) (j : Nat) : Nat → qSlot := qU (qU S (1000 + (S 999).2.2.1) (S j)) 999 ((S 999).1, (S 999).2.1, (S 999).2.2.1 + 1, (S 999).2.2.2)
theorem xTl_lo {S : Nat → qSlot} {j i : Nat} (hi : i < 999) : xTl S j i = S i := by
  unfold xTl; rw [qU_ne (by omega), qU_ne (by omega)]
theorem xTl_n {S : Nat → qSlot} {j : Nat} : (xTl S j 999).2.2.1 = (S 999).2.2.1 + 1 := by
  unfold xTl; rw [qU_at]
theorem xTl_new {S : Nat → qSlot} {j : Nat} : xTl S j (1000 + (S 999).2.2.1) = S j := by
  unfold xTl; rw [qU_ne (by omega), qU_at]
theorem xTl_old {S : Nat → qSlot} {j r : Nat} (hr : r < (S 999).2.2.1) : xTl S j (1000 + r) = S (1000 + r) := by
  unfold xTl; rw [qU_ne (by omega), qU_ne (by omega)]
theorem xRo.tl {S : Nat → qSlot} {i j : Nat} {rw : Int32} {L : qKV} (h : xRo S i rw L) : xRo (xTl S j) i rw L := h.imp id (fun ⟨z, r, e1, e2, e3⟩ => ⟨z, r, e1, by rw [xTl_n]; omega, by rw [xTl_old e2]; exact e3⟩)
theorem xRo.new {S : Nat → qSlot} {j : Nat} (hj : j < 24) : xRo (xTl S j) j (nI (S 999).2.2.1) (S j).2.1 := Or.inr ⟨hj, _, rfl, by rw [xTl_n]; omega, by rw [xTl_new]⟩
theorem xRs_tl {S : Nat → qSlot} {j : Nat} : ∀ r, r < (S 999).2.2.1 + 1 → xRs (xTl S j) r = qU (xRs S) (S 999).2.2.1 ((S j).2.1.map Prod.fst) r := fun r hr => by
  unfold xRs
  by_cases c : r = (S 999).2.2.1
  · subst c; rw [qU_at, xTl_new]
  · rw [qU_ne c, xTl_old (by omega)]
def xTuL (gr kd : Int32) (L : qKV) : qKV := if kd = 3 then L.map (fun p => (p.2, 0)) else if kd = 2 then (thT (qMk gr) 7 L).map (fun p => (p.1, 0)) else (thT (qMk gr) 7 L).map (fun p => (p.2, 0))
/-- turn; S1: the state with the row of numbers, rr its number (of a sequence) -/
def xr_turn (S S1 : Nat → qSlot) (rr : Nat) (W : qWo) (i j : Nat) : Int32 × (Nat → qSlot) × qWo :=
  if (S j).1 = 0 then (0, qU S1 i (6, [], (xRow (xRs S1) W rr 0).1, 0), (xRow (xRs S1) W rr 0).2) else
  if 20000 < (oMq W.1).toNatClampNeg + (S j).2.1.length then (3, S, W) else (0, qU S i (0, xTuL W.1.2.2.2.2.2.2.1 (S j).1 (S j).2.1, 0, 0), oMv W.1 (oMq W.1 + nI (S j).2.1.length), W.2)
def xs_turn (S S1 : Nat → qSlot) (rr : Nat) (W : qWo) (p0 p1 : Int32) : Int32 × (Nat → qSlot) × qWo := if bSl p0 = false ∨ bSl p1 = false then (1, S, W) else if bHo (S p1.toNatClampNeg).1 15 = false then (2, S, W) else xr_turn S S1 rr W p0.toNatClampNeg p1.toNatClampNeg
/-- is a row of numbers needed -/
def xTq (S : Nat → qSlot) (p0 p1 : Int32) : Bool := bSl p0 && bSl p1 && decide ((S p1.toNatClampNeg).1 = 0)
/-- the row that turn takes -/
def xTok (S : Nat → qSlot) (p0 p1 : Int32) (S1 : Nat → qSlot) (rr : Nat) : Prop := if xTq S p0 p1 = true then (S1 = S ∨ S1 = xTl S p1.toNatClampNeg) ∧ rr < (S1 999).2.2.1 ∧ xRs S1 rr = (S p1.toNatClampNeg).2.1.map Prod.fst else S1 = S
def oRn (o : qYf) (x : Int32) : qYf := (o.1, o.2.1, o.2.2.1, o.2.2.2.1, o.2.2.2.2.1, o.2.2.2.2.2.1, o.2.2.2.2.2.2.1, o.2.2.2.2.2.2.2.1, o.2.2.2.2.2.2.2.2.1, o.2.2.2.2.2.2.2.2.2.1, o.2.2.2.2.2.2.2.2.2.2.1, o.2.2.2.2.2.2.2.2.2.2.2.1, x)
theorem bHo_15 {kd : Int32} (h : kd ∈ [(-1 : Int32), 0, 1, 2, 3, 4, 5, 6]) (e : bHo kd 15 = true) (n : ¬ kd = 0) : kd = 1 ∨ kd = 2 ∨ kd = 3 := by
  simp only [List.mem_cons, List.not_mem_nil, or_false] at h
  rcases h with rfl | rfl | rfl | rfl | rfl | rfl | rfl | rfl <;> revert e n <;> decide
/-- what turn leaves alone -/
def qFT (h h' : qH) (y od ro : Nat) (ra rk rv pa : Nat → Nat) (A A' : Nat → Prop) : Prop := (∀ b x, h b = some x → b ≠ y → (∀ i, i < 29 → qOf (ra i) (rk i) (rv i) b) → b ≠ od → b ≠ ro → (∀ d, d < 8 → b ≠ pa d) → ¬ A b → h' b = some x) ∧ ∀ b, A' b → A b ∨ ∀ x, ¬ h b = some x
theorem qFR.ft {h h' : qH} {y od ro : Nat} {ra rk rv pa : Nat → Nat} {A A' : Nat → Prop} (f : qFR h h' y od ra rk rv pa A A') : qFT h h' y od ro ra rk rv pa A A' := ⟨fun b x h1 h2 h3 h4 _ h6 h7 => f.1 b x h1 h2 h3 h4 h6 h7, f.2.2⟩
/-- of the stream rows' addresses only those that are in the heap count -/
theorem qRF.shr {cy : Nat → ClassId} {h : qH} {y : Nat} {A : Nat → Prop} {ra rk rv pa : Nat → Nat} {o : qYf} {a : qWd} {k : qKd} {S : Nat → qSlot} {Rn : Nat} {R : Nat → List Int64} {ad : Nat → Nat} (Q : qRF cy h y A ra rk rv pa o a k S Rn R ad) : qRF cy h y (fun b => A b ∧ ∃ x, h b = some x) ra rk rv pa o a k S Rn R ad := by
  obtain ⟨q1, q2, q3, q4, ⟨r1, r2, r3, r4⟩, q6⟩ := Q
  obtain ⟨fi2, re2, rc2, rs2, so2, ot2, cn2, la2, F, Rt, Rc, Rs, So, Ot, Cn, La, hY, ⟨h1, h2, h3, h4, h5, h6, h7, h8⟩, hg, hk, hz, hd, he, ⟨A1, A2, A3, A4, A5, A6, A7, A8⟩, hb⟩ := q1
  exact ⟨⟨fi2, re2, rc2, rs2, so2, ot2, cn2, la2, F, Rt, Rc, Rs, So, Ot, Cn, La, hY, ⟨h1, h2, h3, h4, h5, h6, h7, h8⟩, hg, hk, hz, hd, he, ⟨⟨A1, _, h1⟩, ⟨A2, _, h2⟩, ⟨A3, _, h3⟩, ⟨A4, _, h4⟩, ⟨A5, _, h5⟩, ⟨A6, _, h6⟩, ⟨A7, _, h7⟩, ⟨A8, _, h8⟩⟩, hb⟩, fun z => q2 z.1, q3, q4, ⟨r1, fun z => r2 z.1, fun i hi => ⟨(r3 i hi).1, fun z => (r3 i hi).2.1 z.1, (r3 i hi).2.2⟩, r4⟩, fun b z => q6 b z.1⟩
theorem qRz.cong {cy : Nat → ClassId} {h : qH} {A : Nat → Prop} {ro Rn : Nat} {R R' : Nat → List Int64} {ad : Nat → Nat} (r : qRz cy h A ro Rn R ad) (e : ∀ i, i < Rn → R' i = R i) : qRz cy h A ro Rn R' ad := by
  obtain ⟨r1, r2, r3, r4⟩ := r
  exact ⟨r1, r2, fun i hi => by rw [e i hi]; exact r3 i hi, r4⟩
theorem qMapD {L : qKV} {kd : Int32} {f g : Nat → Int64} {n : Nat} (e : L = qLs kd f g n) : (fun j => (L.map Prod.fst).getD j 0) = qGr f 0 n := by
  funext j
  unfold qGr
  rw [e, List.getD_eq_getElem?_getD, List.getElem?_map]
  by_cases c : j < n
  · rw [qLs_get2 c, if_pos c]; rfl
  · rw [qLs_no (by omega), if_neg c]; rfl
section QEXT
variable {cy : Nat → ClassId} {h h' : qH} {y : Nat} {A : Nat → Prop} {ra rk rv pa : Nat → Nat} {o : qYf} {a : qWd} {k : qKd} {S : Nat → qSlot} {Rn : Nat} {R : Nat → List Int64} {ad : Nat → Nat}
/-- a row of numbers has been laid down for slot j -/
theorem qRF.ext {fi re rc rs so ot cn la j q nj : Nat} {cs ce : Int32} {o' : qYf} {Fj Gj : Nat → Int64} {fro : Nat → Option Nat} (Q : qRF cy h y A ra rk rv pa o a k S (S 999).2.2.1 (xRs S) ad) (hy : h y = some (qYo o fi re rc rs so ot cn la cs ce)) (hj : j < 24) (hAd : ∀ b, A b → ∃ x, h b = some x)
    (hro : h o.2.2.2.2.2.1 = some (.inl (cy 7, 4100, .inr (.inr (.inr (.inr fro)))))) (hfro : ∀ i, i < (S 999).2.2.1 → fro i = some (ad i)) (hlt : (S 999).2.2.1 < 4100)
    (hnj : nj ≤ 1000) (hL : (S j).2.1 = qLs (S j).1 Fj Gj nj)
    (hy' : h' y = some (qYo o' fi re rc rs so ot cn la cs ce)) (es : qSame o o') (hq0 : h q = none) (hro' : h' o.2.2.2.2.2.1 = some (.inl (cy 7, 4100, .inr (.inr (.inr (.inr (va_up fro (S 999).2.2.1 (some q)))))))) (hq : h' q = some (.inl (cy 1, nj, .inr (.inl (qGr Fj 0 nj)))))
    (hRj : qRw cy h' (ra j) (rk j) (rv j) (S j).1 (nI nj) (nI (S j).2.2.1) (nI (S j).2.2.2) (nI (S 999).2.2.1) Fj Gj) {kw nw sw dw rw : Int32} {fw gw : Nat → Int64} {mw : Nat} (hRw : qRw cy h' (ra 28) (rk 28) (rv 28) kw (nI mw) sw dw rw fw gw)
    (fr : ∀ b x, h b = some x → b ≠ y → qOf (ra 28) (rk 28) (rv 28) b → b ≠ o.2.2.2.2.2.1 → b ≠ ra j → h' b = some x) : qRF cy h' y A ra rk rv pa o' a k (xTl S j) ((xTl S j) 999).2.2.1 (xRs (xTl S j)) (qU ad (S 999).2.2.1 q) ∧ qFT h h' y o.2.2.2.1 o.2.2.2.2.2.1 ra rk rv pa A A := by
  obtain ⟨q1, q2, q3, q4, q5, q6⟩ := Q
  have hy0 : ∃ fs, h y = some (.inr (8, fs)) := q1.yo
  obtain ⟨fs, hy0⟩ := hy0
  obtain ⟨m1, m2, m3, m4, m5, kd9, sm9, dp9, rw9, n9, f9, g9, m6⟩ := id q3
  have nro : ∀ {b : Nat} {x : va_E}, h b = some x → (∀ f, x ≠ .inl (cy 7, 4100, .inr (.inr (.inr (.inr f))))) → b ≠ o.2.2.2.2.2.1 := fun hb hx z => by rw [z, hro] at hb; exact hx _ (Option.some.inj hb).symm
  have nraj : ∀ {b : Nat} {z : ClassId × vp_A}, h b = some (.inl z) → b ≠ ra j := fun hb z => by
    obtain ⟨_, _, _, _, _, _, _, -, -, -, r4, r5, r6⟩ := q3.rowAt (show j < 29 by omega)
    rw [z, r4] at hb
    cases hb
  have hroA : h o.2.2.2.2.2.1 = some (.inl (cy 7, 4100, .inr (.inr (.inr (.inr fro))))) := hro
  have nAro : ¬ A o.2.2.2.2.2.1 := q5.2.1
  have wA : ∀ {b : Nat} {x : va_E}, A b → h b = some x → b ≠ y → h' b = some x := fun {b x} hA hb ny => by
    obtain ⟨z1, z2, z3, z4, z5, z6⟩ := q6 b hA
    exact fr b x hb ny (z3 28 (by omega)) (fun z => nAro (z ▸ hA)) (z3 j (by omega)).1
  obtain ⟨e1, e2, e3, e4, e5, e6⟩ := es
  unfold qRF
  rw [e1, e2, e3, e4, e5, e6]
  refine ⟨⟨?_, q2, ?_, ?_, ?_, q6⟩, fun b x hb ny h1 _ h5 _ _ => fr b x hb ny (h1 28 (by omega)) h5 (h1 j (by omega)).1, fun b z => Or.inl z⟩
  · exact q1.upd hy hy' (fun b x hA hb ny => wA hA hb ny)
  · have ka : ∀ {b n t : Nat} {f : Nat → Option Nat}, n ≠ 4100 → h b = some (.inl (cy t, n, .inr (.inr (.inr (.inr f))))) → h' b = some (.inl (cy t, n, .inr (.inr (.inr (.inr f))))) := fun {b n t f} hn hb =>
      fr b _ hb (qne_arr (cy := cy) hb hy0) (q3.of hb (Or.inr ⟨_, rfl⟩) 28 (by omega)) (nro hb (fun f z => hn (by simp at z; exact z.2.1))) (nraj hb)
    refine ⟨ka (by decide) m1, ka (by decide) m2, m3, m4, fun i hi => ?_, _, _, _, _, _, _, _, hRw⟩
    rw [xTl_lo (by omega)]
    by_cases e : i = j
    · subst e
      exact ⟨nj, _, Fj, Gj, hRj, hnj, hL, xRo.new hj⟩
    · obtain ⟨n, rw_, f, g, r, u1, u2, u3⟩ := m5 i hi
      obtain ⟨a1, a2, a3⟩ := r.apart m6 (m4.two (by omega) (by omega) (by omega))
      have e4 := r.2.2.2.1
      have e5 := r.2.2.2.2.1
      have e6 := r.2.2.2.2.2
      unfold qRb at e4
      unfold qJr at e5 e6
      refine ⟨n, rw_, f, g, ⟨r.1, r.2.1, r.2.2.1, fr _ _ r.2.2.2.1 (r.ney hy0 (Or.inl rfl)) a1 (nro e4 (fun f z => by cases z)) ((m4.two (by omega) (by omega) e).1), fr _ _ r.2.2.2.2.1 (r.ney hy0 (Or.inr (Or.inl rfl))) a2 (nro e5 (fun f z => by simp at z)) (nraj e5), fr _ _ r.2.2.2.2.2 (r.ney hy0 (Or.inr (Or.inr rfl))) a3 (nro e6 (fun f z => by simp at z)) (nraj e6)⟩, u1, u2, u3.tl⟩
  · refine q4.keepP (fun b x hb hx => fr b _ hb (qne_arr (cy := cy) hb hy0) ?_ ?_ (nraj hb))
    · obtain ⟨p1, ⟨O, p2⟩, ⟨Q9, p3⟩, -, -⟩ := q4
      rcases hx with w | w | ⟨d, hd, w⟩
      · rw [w]; exact q3.of p1 (Or.inr ⟨_, rfl⟩) 28 (by omega)
      · rw [w]; exact q3.of p2 (Or.inl ⟨_, rfl⟩) 28 (by omega)
      · rw [w]; exact q3.of (p3 d hd) (Or.inl ⟨_, rfl⟩) 28 (by omega)
    · obtain ⟨p1, ⟨O, p2⟩, ⟨Q9, p3⟩, -, -⟩ := q4
      rcases hx with w | w | ⟨d, hd, w⟩
      · rw [w]; exact nro p1 (fun f z => by simp at z)
      · rw [w]; exact nro p2 (fun f z => by simp at z)
      · rw [w]; exact nro (p3 d hd) (fun f z => by simp at z)
  · rw [xTl_n]
    obtain ⟨-, r2, r3, r4⟩ := q5
    refine ⟨⟨_, hro', fun i hi => ?_⟩, r2, fun i hi => ?_, by omega⟩
    · unfold va_up
      by_cases c : i = (S 999).2.2.1
      · subst c; rw [qU_at, if_pos rfl]
      · rw [if_neg c, qU_ne c]; exact hfro i (by omega)
    · rw [xRs_tl i hi]
      by_cases c : i = (S 999).2.2.1
      · subst c
        rw [qU_at, qU_at]
        refine ⟨?_, fun z => ?_, ?_⟩
        · rw [hq, List.length_map, hL, qLs_len, qMapD rfl]
        · obtain ⟨x, hx⟩ := hAd q z
          rw [hq0] at hx; cases hx
        · rw [List.length_map, hL, qLs_len]; exact hnj
      · rw [qU_ne c, qU_ne c]
        obtain ⟨a1, a2, a3⟩ := r3 i (by omega)
        exact ⟨fr _ _ a1 (qne_arr (cy := cy) a1 hy0) (q3.ofL a1 a3 28 (by omega)) (nro a1 (fun f z => by simp at z)) (nraj a1), a2, a3⟩
end QEXT
theorem qFT.tr9 {cy : Nat → ClassId} {h h1 h2 : qH} {y Rn : Nat} {A A1 A2 : Nat → Prop} {ra rk rv pa : Nat → Nat} {o : qYf} {a : qWd} {k : qKd} {S : Nat → qSlot} {R : Nat → List Int64} {ad : Nat → Nat} {od ro : Nat} (f : qFT h h1 y od ro ra rk rv pa A A1) (q : qRF cy h1 y A1 ra rk rv pa o a k S Rn R ad) (eo : o.2.2.2.1 = od) (er : o.2.2.2.2.2.1 = ro) (g : qFT h1 h2 y od ro ra rk rv pa A1 A2) : qFT h h2 y od ro ra rk rv pa A A2 := by
  subst eo
  subst er
  obtain ⟨f1, f3⟩ := f
  obtain ⟨g1, g3⟩ := g
  obtain ⟨q1, q2, q3, q4, q5, q6⟩ := q
  obtain ⟨fs, hy⟩ := q1.yo
  obtain ⟨p1, ⟨O, p2⟩, ⟨Q, p3⟩, -, -⟩ := q4
  obtain ⟨⟨fr9, p7, -⟩, -, -, -⟩ := q5
  refine ⟨fun b x hb n1 n2 n3 n6 n4 n5 => g1 b x (f1 b x hb n1 n2 n3 n6 n4 n5) n1 n2 n3 n6 n4 (fun z => ?_), fun b z => ?_⟩
  · rcases f3 b z with w | w
    · exact n5 w
    · exact w x hb
  · rcases g3 b z with w | w
    · exact f3 b w
    · by_cases c : A b
      · exact Or.inl c
      · refine Or.inr (fun x hx => ?_)
        have c1 : b ≠ y := fun e => w _ (e ▸ hy)
        have c2 : ∀ i, i < 29 → qOf (ra i) (rk i) (rv i) b := fun i hi => by
          obtain ⟨_, _, _, _, _, _, _, -, -, -, r4, r5, r6⟩ := q3.rowAt hi
          exact ⟨fun e => w _ (e ▸ r4), fun e => w _ (e ▸ r5), fun e => w _ (e ▸ r6)⟩
        exact w x (f1 b x hx c1 c2 (fun e => w _ (e ▸ p2)) (fun e => w _ (e ▸ p7)) (fun d hd e => w _ (e ▸ p3 d hd)) c)
theorem qFT.sub {h h' : qH} {y od ro : Nat} {ra rk rv pa : Nat → Nat} {A A0 A' : Nat → Prop} (f : qFT h h' y od ro ra rk rv pa A0 A') (s : ∀ b, A0 b → A b) : qFT h h' y od ro ra rk rv pa A A' := ⟨fun b x h1 h2 h3 h4 h5 h6 h7 => f.1 b x h1 h2 h3 h4 h5 h6 (fun z => h7 (s b z)), fun b z => (f.2 b z).imp (s b) id⟩
theorem qWv.rows {Bd sl Rn : Nat} {dp : Nat → Nat} {W : qWo} (i : qWv Bd sl Rn dp W) : qWv Bd sl (Rn + 1) dp W := by
  obtain ⟨h1, h2, h3, h4, h5, h6, h7, h8⟩ := i
  refine ⟨h1, h2, h3, h4, h5, h6, fun c hc => ?_, h8⟩
  obtain ⟨g1, g2, g3, g4, g5⟩ := h7 c hc
  exact ⟨g1, g2, g3, fun z => ⟨by have := (g4 z).1; omega, (g4 z).2⟩, g5⟩
theorem xRow_o {R : Nat → List Int64} {W : qWo} {row i : Nat} : (xRow R W row i).2.1 = W.1 := by
  unfold xRow; split <;> rfl
/-- the conses after a turn -/
def xTa (S : Nat → qSlot) (a : qWd) (k : qKd) (p0 p1 : Int32) : qWd := if xTq S p0 p1 = true ∧ ¬ (S p1.toNatClampNeg).2.1.length = 0 then xCons a ((((S p1.toNatClampNeg).2.1.map Prod.fst)).getD 0 0) k.1 else a
theorem xTa_P {S : Nat → qSlot} {o : qYf} {a : qWd} {k : qKd} {p0 p1 : Int32} {R : Nat → List Int64} {row : Nat} (h1 : (bSl p0 && bSl p1) = true) (h2 : (S p1.toNatClampNeg).1 = 0) (h3 : R row = (S p1.toNatClampNeg).2.1.map Prod.fst) : qP1 (xTa S a k p0 p1) = qP1 (xRow R (o, a, k) row 0).2.2.1 ∧ qP2 (xTa S a k p0 p1) = qP2 (xRow R (o, a, k) row 0).2.2.1 := by
  have e : xTa S a k p0 p1 = (xRow R (o, a, k) row 0).2.2.1 := by
    unfold xTa xRow xTq
    rw [h3, List.length_map, h1, decide_eq_true h2]
    by_cases c : (S p1.toNatClampNeg).2.1.length = 0
    · rw [if_neg (fun z => z.2 c), if_pos (by omega)]
    · rw [if_pos ⟨rfl, c⟩, if_neg (by omega)]
  rw [e]
  exact ⟨rfl, rfl⟩
theorem xRow_w {R : Nat → List Int64} {o o' : qYf} {a : qWd} {k : qKd} {row i : Nat} : xRow R (o, a, k) row i = ((xRow R (o', a, k) row i).1, o, (xRow R (o', a, k) row i).2.2) := by
  unfold xRow; split <;> rfl
theorem xRs_qU {S : Nat → qSlot} {i : Nat} {s : qSlot} (hi : i < 24) : xRs (qU S i s) = xRs S := funext fun r => by unfold xRs; rw [qU_ne (by omega)]
theorem qRF.cg {cy : Nat → ClassId} {h : qH} {y : Nat} {A : Nat → Prop} {ra rk rv pa : Nat → Nat} {o : qYf} {a : qWd} {k : qKd} {S S' : Nat → qSlot} {ad : Nat → Nat} (Q : qRF cy h y A ra rk rv pa o a k S' (S 999).2.2.1 (xRs S) ad) (e1 : S' 999 = S 999) (e2 : xRs S' = xRs S) : qRF cy h y A ra rk rv pa o a k S' (S' 999).2.2.1 (xRs S') ad := by rw [e1, e2]; exact Q
theorem dX8_turn_43 : decode cX8_turn 43 = .ok (.aload_n 0, 1) := by decide +kernel
theorem dX8_turn_44 : decode cX8_turn 44 = .ok (.getfield 9, 3) := by decide +kernel
theorem dX8_turn_47 : decode cX8_turn 47 = .ok (.iload_n 2, 1) := by decide +kernel
theorem dX8_turn_48 : decode cX8_turn 48 = .ok (.aaload, 1) := by decide +kernel
theorem dX8_turn_49 : decode cX8_turn 49 = .ok (.astore_n 3, 1) := by decide +kernel
theorem dX8_turn_50 : decode cX8_turn 50 = .ok (.aload_n 3, 1) := by decide +kernel
theorem dX8_turn_51 : decode cX8_turn 51 = .ok (.getfield 75, 3) := by decide +kernel
theorem dX8_turn_54 : decode cX8_turn 54 = .ok (.ifCond .ne 129, 3) := by decide +kernel
theorem dX8_turn_57 : decode cX8_turn 57 = .ok (.aload_n 3, 1) := by decide +kernel
theorem dX8_turn_58 : decode cX8_turn 58 = .ok (.getfield 87, 3) := by decide +kernel
theorem dX8_turn_61 : decode cX8_turn 61 = .ok (.ifCond .ge 73, 3) := by decide +kernel
theorem dX8_turn_64 : decode cX8_turn 64 = .ok (.aload_n 0, 1) := by decide +kernel
theorem dX8_turn_65 : decode cX8_turn 65 = .ok (.getfield 65, 3) := by decide +kernel
theorem dX8_turn_68 : decode cX8_turn 68 = .ok (.aload_n 0, 1) := by decide +kernel
theorem dX8_turn_69 : decode cX8_turn 69 = .ok (.getfield 219, 3) := by decide +kernel
theorem dX8_turn_72 : decode cX8_turn 72 = .ok (.aload_n 3, 1) := by decide +kernel
theorem dX8_turn_73 : decode cX8_turn 73 = .ok (.getfield 78, 3) := by decide +kernel
theorem dX8_turn_76 : decode cX8_turn 76 = .ok (.newarray .long, 2) := by decide +kernel
theorem dX8_turn_78 : decode cX8_turn 78 = .ok (.aastore, 1) := by decide +kernel
theorem dX8_turn_79 : decode cX8_turn 79 = .ok (.iconst 0, 1) := by decide +kernel
theorem dX8_turn_80 : decode cX8_turn 80 = .ok (.istore 4, 2) := by decide +kernel
theorem dX8_turn_82 : decode cX8_turn 82 = .ok (.iload 4, 2) := by decide +kernel
theorem dX8_turn_84 : decode cX8_turn 84 = .ok (.aload_n 3, 1) := by decide +kernel
theorem dX8_turn_85 : decode cX8_turn 85 = .ok (.getfield 78, 3) := by decide +kernel
theorem dX8_turn_88 : decode cX8_turn 88 = .ok (.if_icmp .ge 28, 3) := by decide +kernel
theorem dX8_turn_91 : decode cX8_turn 91 = .ok (.aload_n 0, 1) := by decide +kernel
theorem dX8_turn_92 : decode cX8_turn 92 = .ok (.getfield 65, 3) := by decide +kernel
theorem dX8_turn_95 : decode cX8_turn 95 = .ok (.aload_n 0, 1) := by decide +kernel
theorem dX8_turn_96 : decode cX8_turn 96 = .ok (.getfield 219, 3) := by decide +kernel
theorem dX8_turn_99 : decode cX8_turn 99 = .ok (.aaload, 1) := by decide +kernel
theorem dX8_turn_100 : decode cX8_turn 100 = .ok (.iload 4, 2) := by decide +kernel
theorem dX8_turn_102 : decode cX8_turn 102 = .ok (.aload_n 3, 1) := by decide +kernel
theorem dX8_turn_103 : decode cX8_turn 103 = .ok (.getfield 90, 3) := by decide +kernel
theorem dX8_turn_106 : decode cX8_turn 106 = .ok (.iload 4, 2) := by decide +kernel
theorem dX8_turn_108 : decode cX8_turn 108 = .ok (.laload, 1) := by decide +kernel
theorem dX8_turn_109 : decode cX8_turn 109 = .ok (.lastore, 1) := by decide +kernel
theorem dX8_turn_110 : decode cX8_turn 110 = .ok (.iinc 4 1, 3) := by decide +kernel
theorem dX8_turn_113 : decode cX8_turn 113 = .ok (.goto (-31), 3) := by decide +kernel
theorem dX8_turn_116 : decode cX8_turn 116 = .ok (.aload_n 3, 1) := by decide +kernel
theorem dX8_turn_117 : decode cX8_turn 117 = .ok (.aload_n 0, 1) := by decide +kernel
theorem dX8_turn_118 : decode cX8_turn 118 = .ok (.getfield 219, 3) := by decide +kernel
theorem dX8_turn_121 : decode cX8_turn 121 = .ok (.putfield 87, 3) := by decide +kernel
theorem dX8_turn_124 : decode cX8_turn 124 = .ok (.aload_n 0, 1) := by decide +kernel
theorem dX8_turn_125 : decode cX8_turn 125 = .ok (.dup, 1) := by decide +kernel
theorem dX8_turn_126 : decode cX8_turn 126 = .ok (.getfield 219, 3) := by decide +kernel
theorem dX8_turn_129 : decode cX8_turn 129 = .ok (.iconst 1, 1) := by decide +kernel
theorem dX8_turn_130 : decode cX8_turn 130 = .ok (.iadd, 1) := by decide +kernel
theorem dX8_turn_131 : decode cX8_turn 131 = .ok (.putfield 219, 3) := by decide +kernel
theorem dX8_turn_134 : decode cX8_turn 134 = .ok (.aload_n 0, 1) := by decide +kernel
theorem dX8_turn_135 : decode cX8_turn 135 = .ok (.getfield 19, 3) := by decide +kernel
theorem dX8_turn_138 : decode cX8_turn 138 = .ok (.bipush 6, 2) := by decide +kernel
theorem dX8_turn_140 : decode cX8_turn 140 = .ok (.putfield 75, 3) := by decide +kernel
theorem dX8_turn_143 : decode cX8_turn 143 = .ok (.aload_n 0, 1) := by decide +kernel
theorem dX8_turn_144 : decode cX8_turn 144 = .ok (.getfield 19, 3) := by decide +kernel
theorem dX8_turn_147 : decode cX8_turn 147 = .ok (.iconst 0, 1) := by decide +kernel
theorem dX8_turn_148 : decode cX8_turn 148 = .ok (.putfield 78, 3) := by decide +kernel
theorem dX8_turn_151 : decode cX8_turn 151 = .ok (.aload_n 0, 1) := by decide +kernel
theorem dX8_turn_152 : decode cX8_turn 152 = .ok (.getfield 19, 3) := by decide +kernel
theorem dX8_turn_155 : decode cX8_turn 155 = .ok (.iconst 0, 1) := by decide +kernel
theorem dX8_turn_156 : decode cX8_turn 156 = .ok (.putfield 84, 3) := by decide +kernel
theorem dX8_turn_159 : decode cX8_turn 159 = .ok (.aload_n 0, 1) := by decide +kernel
theorem dX8_turn_160 : decode cX8_turn 160 = .ok (.getfield 19, 3) := by decide +kernel
theorem dX8_turn_163 : decode cX8_turn 163 = .ok (.aload_n 0, 1) := by decide +kernel
theorem dX8_turn_164 : decode cX8_turn 164 = .ok (.aload_n 3, 1) := by decide +kernel
theorem dX8_turn_165 : decode cX8_turn 165 = .ok (.getfield 87, 3) := by decide +kernel
theorem dX8_turn_168 : decode cX8_turn 168 = .ok (.iconst 0, 1) := by decide +kernel
theorem dX8_turn_169 : decode cX8_turn 169 = .ok (.invokevirtual 202, 3) := by decide +kernel
theorem dX8_turn_172 : decode cX8_turn 172 = .ok (.putfield 81, 3) := by decide +kernel
theorem dX8_turn_175 : decode cX8_turn 175 = .ok (.aload_n 0, 1) := by decide +kernel
theorem dX8_turn_176 : decode cX8_turn 176 = .ok (.iload_n 1, 1) := by decide +kernel
theorem dX8_turn_177 : decode cX8_turn 177 = .ok (.iconst 0, 1) := by decide +kernel
theorem dX8_turn_178 : decode cX8_turn 178 = .ok (.invokevirtual 135, 3) := by decide +kernel
theorem dX8_turn_181 : decode cX8_turn 181 = .ok (.pop, 1) := by decide +kernel
theorem dX8_turn_182 : decode cX8_turn 182 = .ok (.return_, 1) := by decide +kernel
theorem dX8_turn_183 : decode cX8_turn 183 = .ok (.aload_n 0, 1) := by decide +kernel
theorem dX8_turn_184 : decode cX8_turn 184 = .ok (.aload_n 0, 1) := by decide +kernel
theorem dX8_turn_185 : decode cX8_turn 185 = .ok (.iconst 0, 1) := by decide +kernel
theorem dX8_turn_186 : decode cX8_turn 186 = .ok (.aload_n 3, 1) := by decide +kernel
theorem dX8_turn_187 : decode cX8_turn 187 = .ok (.getfield 78, 3) := by decide +kernel
theorem dX8_turn_190 : decode cX8_turn 190 = .ok (.invokevirtual 165, 3) := by decide +kernel
theorem dX8_turn_193 : decode cX8_turn 193 = .ok (.iconst 3, 1) := by decide +kernel
theorem dX8_turn_194 : decode cX8_turn 194 = .ok (.invokevirtual 100, 3) := by decide +kernel
theorem dX8_turn_197 : decode cX8_turn 197 = .ok (.ifCond .ne 4, 3) := by decide +kernel
theorem dX8_turn_200 : decode cX8_turn 200 = .ok (.return_, 1) := by decide +kernel
theorem dX8_turn_201 : decode cX8_turn 201 = .ok (.aload_n 3, 1) := by decide +kernel
theorem dX8_turn_202 : decode cX8_turn 202 = .ok (.getfield 78, 3) := by decide +kernel
theorem dX8_turn_205 : decode cX8_turn 205 = .ok (.istore 4, 2) := by decide +kernel
theorem dX8_turn_207 : decode cX8_turn 207 = .ok (.aload_n 3, 1) := by decide +kernel
theorem dX8_turn_208 : decode cX8_turn 208 = .ok (.getfield 75, 3) := by decide +kernel
theorem dX8_turn_211 : decode cX8_turn 211 = .ok (.iconst 3, 1) := by decide +kernel
theorem dX8_turn_212 : decode cX8_turn 212 = .ok (.if_icmp .eq 8, 3) := by decide +kernel
theorem dX8_turn_215 : decode cX8_turn 215 = .ok (.aload_n 0, 1) := by decide +kernel
theorem dX8_turn_216 : decode cX8_turn 216 = .ok (.aload_n 3, 1) := by decide +kernel
theorem dX8_turn_217 : decode cX8_turn 217 = .ok (.invokevirtual 151, 3) := by decide +kernel
theorem dX8_turn_220 : decode cX8_turn 220 = .ok (.aload_n 0, 1) := by decide +kernel
theorem dX8_turn_221 : decode cX8_turn 221 = .ok (.getfield 19, 3) := by decide +kernel
theorem dX8_turn_224 : decode cX8_turn 224 = .ok (.iconst 0, 1) := by decide +kernel
theorem dX8_turn_225 : decode cX8_turn 225 = .ok (.putfield 75, 3) := by decide +kernel
theorem dX8_turn_228 : decode cX8_turn 228 = .ok (.aload_n 0, 1) := by decide +kernel
theorem dX8_turn_229 : decode cX8_turn 229 = .ok (.getfield 19, 3) := by decide +kernel
theorem dX8_turn_232 : decode cX8_turn 232 = .ok (.aload_n 3, 1) := by decide +kernel
theorem dX8_turn_233 : decode cX8_turn 233 = .ok (.getfield 78, 3) := by decide +kernel
theorem dX8_turn_236 : decode cX8_turn 236 = .ok (.putfield 78, 3) := by decide +kernel
theorem dX8_turn_239 : decode cX8_turn 239 = .ok (.aload_n 0, 1) := by decide +kernel
theorem dX8_turn_240 : decode cX8_turn 240 = .ok (.getfield 19, 3) := by decide +kernel
theorem dX8_turn_243 : decode cX8_turn 243 = .ok (.iconst 0, 1) := by decide +kernel
theorem dX8_turn_244 : decode cX8_turn 244 = .ok (.putfield 81, 3) := by decide +kernel
theorem dX8_turn_247 : decode cX8_turn 247 = .ok (.aload_n 0, 1) := by decide +kernel
theorem dX8_turn_248 : decode cX8_turn 248 = .ok (.getfield 19, 3) := by decide +kernel
theorem dX8_turn_251 : decode cX8_turn 251 = .ok (.iconst 0, 1) := by decide +kernel
theorem dX8_turn_252 : decode cX8_turn 252 = .ok (.putfield 84, 3) := by decide +kernel
theorem dX8_turn_255 : decode cX8_turn 255 = .ok (.iconst 0, 1) := by decide +kernel
theorem dX8_turn_256 : decode cX8_turn 256 = .ok (.istore 5, 2) := by decide +kernel
theorem dX8_turn_258 : decode cX8_turn 258 = .ok (.iload 5, 2) := by decide +kernel
theorem dX8_turn_260 : decode cX8_turn 260 = .ok (.aload_n 3, 1) := by decide +kernel
theorem dX8_turn_261 : decode cX8_turn 261 = .ok (.getfield 78, 3) := by decide +kernel
theorem dX8_turn_264 : decode cX8_turn 264 = .ok (.if_icmp .ge 66, 3) := by decide +kernel
theorem dX8_turn_267 : decode cX8_turn 267 = .ok (.aload_n 3, 1) := by decide +kernel
theorem dX8_turn_268 : decode cX8_turn 268 = .ok (.getfield 75, 3) := by decide +kernel
theorem dX8_turn_271 : decode cX8_turn 271 = .ok (.iconst 3, 1) := by decide +kernel
theorem dX8_turn_272 : decode cX8_turn 272 = .ok (.if_icmp .ne 8, 3) := by decide +kernel
theorem dX8_turn_275 : decode cX8_turn 275 = .ok (.iload 5, 2) := by decide +kernel
theorem dX8_turn_277 : decode cX8_turn 277 = .ok (.goto 10, 3) := by decide +kernel
theorem dX8_turn_280 : decode cX8_turn 280 = .ok (.aload_n 0, 1) := by decide +kernel
theorem dX8_turn_281 : decode cX8_turn 281 = .ok (.getfield 23, 3) := by decide +kernel
theorem dX8_turn_284 : decode cX8_turn 284 = .ok (.iload 5, 2) := by decide +kernel
theorem dX8_turn_286 : decode cX8_turn 286 = .ok (.iaload, 1) := by decide +kernel
theorem dX8_turn_287 : decode cX8_turn 287 = .ok (.istore 6, 2) := by decide +kernel
theorem dX8_turn_289 : decode cX8_turn 289 = .ok (.aload_n 0, 1) := by decide +kernel
theorem dX8_turn_290 : decode cX8_turn 290 = .ok (.getfield 19, 3) := by decide +kernel
theorem dX8_turn_293 : decode cX8_turn 293 = .ok (.getfield 90, 3) := by decide +kernel
theorem dX8_turn_296 : decode cX8_turn 296 = .ok (.iload 5, 2) := by decide +kernel
theorem dX8_turn_298 : decode cX8_turn 298 = .ok (.aload_n 3, 1) := by decide +kernel
theorem dX8_turn_299 : decode cX8_turn 299 = .ok (.getfield 75, 3) := by decide +kernel
theorem dX8_turn_302 : decode cX8_turn 302 = .ok (.iconst 2, 1) := by decide +kernel
theorem dX8_turn_303 : decode cX8_turn 303 = .ok (.if_icmp .ne 13, 3) := by decide +kernel
theorem dX8_turn_306 : decode cX8_turn 306 = .ok (.aload_n 3, 1) := by decide +kernel
theorem dX8_turn_307 : decode cX8_turn 307 = .ok (.getfield 90, 3) := by decide +kernel
theorem dX8_turn_310 : decode cX8_turn 310 = .ok (.iload 6, 2) := by decide +kernel
theorem dX8_turn_312 : decode cX8_turn 312 = .ok (.laload, 1) := by decide +kernel
theorem dX8_turn_313 : decode cX8_turn 313 = .ok (.goto 10, 3) := by decide +kernel
theorem dX8_turn_316 : decode cX8_turn 316 = .ok (.aload_n 3, 1) := by decide +kernel
theorem dX8_turn_317 : decode cX8_turn 317 = .ok (.getfield 93, 3) := by decide +kernel
theorem dX8_turn_320 : decode cX8_turn 320 = .ok (.iload 6, 2) := by decide +kernel
theorem dX8_turn_322 : decode cX8_turn 322 = .ok (.laload, 1) := by decide +kernel
theorem dX8_turn_323 : decode cX8_turn 323 = .ok (.lastore, 1) := by decide +kernel
theorem dX8_turn_324 : decode cX8_turn 324 = .ok (.iinc 5 1, 3) := by decide +kernel
theorem dX8_turn_327 : decode cX8_turn 327 = .ok (.goto (-69), 3) := by decide +kernel
theorem dX8_turn_330 : decode cX8_turn 330 = .ok (.aload_n 0, 1) := by decide +kernel
theorem dX8_turn_331 : decode cX8_turn 331 = .ok (.iload_n 1, 1) := by decide +kernel
theorem dX8_turn_332 : decode cX8_turn 332 = .ok (.iload 4, 2) := by decide +kernel
theorem dX8_turn_334 : decode cX8_turn 334 = .ok (.invokevirtual 135, 3) := by decide +kernel
theorem dX8_turn_337 : decode cX8_turn 337 = .ok (.pop, 1) := by decide +kernel
theorem dX8_turn_338 : decode cX8_turn 338 = .ok (.return_, 1) := by decide +kernel
set_option maxRecDepth 100000 in
set_option maxHeartbeats 4000000 in
theorem w_turn (l : Launch) (D : va_G) (cy : Nat → ClassId) (N0 : Nat) (h : qH) (y ms mb mw od pt fi re rc rs so ot cn la ro : Nat) (gr cd ca mv ct fau cs ce rn : Int32) (ra rk rv : Nat → Nat) (S : Nat → qSlot) (pa : Nat → Nat) (A : Nat → Prop) (a : qWd) (k : qKd) (ad : Nat → Nat) (Bd sl d dc : Nat) (dp : Nat → Nat) (F : qWo → Nat → Nat × qWo) (p0 p1 : Int32) (X : qWd) (hY : h y = some (.inr (8, [.ref ms, .ref mb, .ref mw, .int gr, .int cd, .int ca, .int mv, .ref od, .ref pt, .int ct, .int fau, .ref fi, .ref re, .int cs, .ref rc, .ref rs, .ref so, .ref ot, .ref cn, .ref la, .int ce, .ref ro, .int rn]))) (hQ : qRF cy h y A ra rk rv pa (ms, mb, mw, od, pt, ro, gr, cd, ca, mv, ct, fau, rn) a k S (S 999).2.2.1 (xRs S) ad) (hI : ∀ i, i < 28 → qOk (S i).1 (S i).2.1) (hV : qWv Bd sl (S 999).2.2.1 dp ((ms, mb, mw, od, pt, ro, gr, cd, ca, mv, ct, fau, rn), a, k)) (hB : Bd ≤ 4000) (hRl : (S 999).2.2.1 < 4100) (hrn : rn = nI (S 999).2.2.1) (hX : xTa S a k p0 p1 = X) : qC l D cy N0 yX8_turn cX8_turn 7 none 16 1000 (qP1 X - qP1 a + 1) (qP2 X - qP2 a + 1000) [.ref y, .int p0, .int p1] h (fun v h' => v = none ∧ ∃ A' S1 ad' rr, xTok S p0 p1 S1 rr ∧ (∃ ct', qRF cy h' y A' ra rk rv pa (oRn (oCt (oCd (xs_turn S S1 rr ((ms, mb, mw, od, pt, ro, gr, cd, ca, mv, ct, fau, rn), a, k) p0 p1).2.2.1 (xs_turn S S1 rr ((ms, mb, mw, od, pt, ro, gr, cd, ca, mv, ct, fau, rn), a, k) p0 p1).1) ct') (nI (S1 999).2.2.1)) (xs_turn S S1 rr ((ms, mb, mw, od, pt, ro, gr, cd, ca, mv, ct, fau, rn), a, k) p0 p1).2.2.2.1 (xs_turn S S1 rr ((ms, mb, mw, od, pt, ro, gr, cd, ca, mv, ct, fau, rn), a, k) p0 p1).2.2.2.2 (xs_turn S S1 rr ((ms, mb, mw, od, pt, ro, gr, cd, ca, mv, ct, fau, rn), a, k) p0 p1).2.1 ((xs_turn S S1 rr ((ms, mb, mw, od, pt, ro, gr, cd, ca, mv, ct, fau, rn), a, k) p0 p1).2.1 999).2.2.1 (xRs (xs_turn S S1 rr ((ms, mb, mw, od, pt, ro, gr, cd, ca, mv, ct, fau, rn), a, k) p0 p1).2.1) ad') ∧ qFT h h' y od ro ra rk rv pa A A' ∧ ∀ i, (i < (S 999).2.2.1 ∧ ad' i = ad i) ∨ h (ad' i) = none ∨ (S1 999).2.2.1 ≤ i) (fun E h' => False) := by
  refine q_ofW (by decide) (by exact Nat.le_of_ble_eq_true rfl) ?_
  intro p e s m below meth c ls C hP hl
  have hx := C.1
  have hb := C.2.1
  have hS : va_S (qA N0) s.heap s.heap [] := va_S.rf
  have hl : lv_has ls 7 [(0, .ref y), (1, .int p0), (2, .int p1)] := hl
  obtain ⟨A0, eA0⟩ : ∃ z : Nat → Prop, z = fun b => A b ∧ ∃ x, h b = some x := ⟨_, rfl⟩
  have hQ0 := hQ
  replace hQ := hQ.shr
  rw [← eA0] at hQ
  have hAd : ∀ b, A0 b → ∃ x, h b = some x := by rw [eA0]; exact fun b z => z.2
  have hA0 : ∀ b, A0 b → A b := by rw [eA0]; exact fun b z => z.1
  clear eA0
  have hM : qMR cy h ms mb mw ra rk rv S := hQ.2.2.1
  obtain ⟨m0, em0, hm0, hbd0⟩ := id hV.m
  replace em0 : mv = nI m0 := em0
  subst em0
  have ecm : (nI m0).toNatClampNeg = m0 := nI_clamp (by omega)
  dsimp only at hbd0
  subst hrn
  have hY0 := hY
  obtain ⟨hms, hmb, hmw, hmd, hrs, kdw, smw, dpw, rww, nw, fw, gw, hRw⟩ := id hM
  subst hmw
  have fr : ∀ b o, h b = some o → b ≠ y → qOf (ra 28) (rk 28) (rv 28) b → h b = some o := fun b o hb _ _ => hb
  have faw := hRw.2.2.2.1
  have fkw := hRw.2.2.2.2.1
  have fvw := hRw.2.2.2.2.2
  unfold qRb at faw
  unfold qJr at fkw fvw
  refine lv_aload_n hx hb dX8_turn_0 rfl (lv_at hl 0 rfl) ?_
  refine lv_iload_n hx hb dX8_turn_1 rfl (lv_at hl 1 rfl) ?_
  refine q_callS (rest := [.ref y]) C (c_X8_isSlot l D cy N0 h p0) kX8_isSlot g1246 g1247 hP hS (by first | decide | omega) hl.1 rfl (by simp [q_catrf, q_cati, q_catl, q_cata, q_catn]) (by first | decide | omega) dX8_turn_2 (fun q ce E h' H1 locs1 hE => hE.elim) (fun v hh1 H locs hq hP hS => ?_)
  obtain ⟨rfl, ⟨rfl, sl9⟩ | ⟨rfl, sl9⟩⟩ := hq
  · obtain ⟨i, hi, rfl⟩ := sl9.of
    have ebi : bSl (nI i) = true := bSl_t sl9
    have eci : (nI i).toNatClampNeg = i := nI_clamp (by omega)
    refine lv_if_eq (tgt := 19) hx hb dX8_turn_5 (by decide) (fun c5 => ?_) (fun c5 => ?_)
    · replace c5 : 1 = 0 := (nI_eq (a := 1) (b := 0) (by omega) (by omega)).mp c5
      exfalso; omega
    · replace c5 : ¬ 1 = 0 := fun zq => c5 ((nI_eq (a := 1) (b := 0) (by omega) (by omega)).mpr zq)
      refine lv_iload_n hx hb dX8_turn_8 rfl (lv_at hl 2 rfl) ?_
      refine q_callS (rest := [.ref y]) C (c_X8_isSlot l D cy N0 h p1) kX8_isSlot g1246 g1247 hP hS (by first | decide | omega) hl.1 rfl (by simp [q_catrf, q_cati, q_catl, q_cata, q_catn]) (by first | decide | omega) dX8_turn_9 (fun q ce E h' H1 locs1 hE => hE.elim) (fun v hh2 H locs hq hP hS => ?_)
      obtain ⟨rfl, ⟨rfl, sl9⟩ | ⟨rfl, sl9⟩⟩ := hq
      · obtain ⟨j, hj, rfl⟩ := sl9.of
        have ebj : bSl (nI j) = true := bSl_t sl9
        have ecj : (nI j).toNatClampNeg = j := nI_clamp (by omega)
        refine lv_if_eq (tgt := 19) hx hb dX8_turn_12 (by decide) (fun c12 => ?_) (fun c12 => ?_)
        · replace c12 : 1 = 0 := (nI_eq (a := 1) (b := 0) (by omega) (by omega)).mp c12
          exfalso; omega
        · replace c12 : ¬ 1 = 0 := fun zq => c12 ((nI_eq (a := 1) (b := 0) (by omega) (by omega)).mpr zq)
          refine lv_iconst (v := nI 1) hx hb dX8_turn_15 (by decide) ?_
          refine lv_goto (tgt := 20) hx hb dX8_turn_16 (by decide) ?_
          refine lv_iconst (v := nI 1) hx hb dX8_turn_20 (by decide) ?_
          refine q_callV (rest := []) C (c_X8_good1 l D cy N0 h y ms mb (ra 28) od pt fi re rc rs so ot cn la ro gr cd ca (nI m0) ct fau cs ce (nI (S 999).2.2.1) (nI 1) hY) kX8_good g1249 g1251 rfl gp41 g4 hP hS hY (by first | decide | omega) hl.1 rfl (by decide) (by first | decide | omega) dX8_turn_21 (fun q ce E h' H1 locs1 hE => hE.elim) (fun v hh3 H locs hq hP hS => ?_)
          obtain ⟨rfl, rfl⟩ := hq
          replace hP : qP D N0 (qs h y (.inr (8, [.ref ms, .ref mb, .ref (ra 28), .int gr, .int 0, .int ca, .int (nI m0), .ref od, .ref pt, .int ct, .int fau, .ref fi, .ref re, .int cs, .ref rc, .ref rs, .ref so, .ref ot, .ref cn, .ref la, .int ce, .ref ro, .int (nI (S 999).2.2.1)]))) H := hP
          obtain ⟨hv1, ehv1⟩ : ∃ z : qH, z = qs h y (.inr (8, [.ref ms, .ref mb, .ref (ra 28), .int gr, .int 0, .int ca, .int (nI m0), .ref od, .ref pt, .int ct, .int fau, .ref fi, .ref re, .int cs, .ref rc, .ref rs, .ref so, .ref ot, .ref cn, .ref la, .int ce, .ref ro, .int (nI (S 999).2.2.1)])) := ⟨_, rfl⟩
          rw [← ehv1] at hP
          have khv1 : ∀ b o, b ≠ y → h b = some o → hv1 b = some o := by rw [ehv1]; exact fun b o nb hb => (qs_ne nb).trans hb
          replace hms := khv1 _ _ (fun q => by subst q; have := hms.symm.trans hY; first | cases this | simp at this) hms
          replace hmb := khv1 _ _ (fun q => by subst q; have := hmb.symm.trans hY; first | cases this | simp at this) hmb
          replace faw := khv1 _ _ (fun q => by have z9 := faw; rw [q] at z9; have := z9.symm.trans hY; first | cases this | simp at this) faw
          replace fkw := khv1 _ _ (fun q => by have z9 := fkw; rw [q] at z9; have := z9.symm.trans hY; first | cases this | simp at this) fkw
          replace fvw := khv1 _ _ (fun q => by have z9 := fvw; rw [q] at z9; have := z9.symm.trans hY; first | cases this | simp at this) fvw
          replace hY : hv1 y = some (.inr (8, [.ref ms, .ref mb, .ref (ra 28), .int gr, .int 0, .int ca, .int (nI m0), .ref od, .ref pt, .int ct, .int fau, .ref fi, .ref re, .int cs, .ref rc, .ref rs, .ref so, .ref ot, .ref cn, .ref la, .int ce, .ref ro, .int (nI (S 999).2.2.1)])) := by rw [ehv1]; exact qs_self
          clear ehv1
          replace fr := fun b o hb n1 n2 => khv1 b o n1 (fr b o hb n1 n2)
          refine lv_if_eq (tgt := 42) hx hb dX8_turn_24 (by decide) (fun c24 => ?_) (fun c24 => ?_)
          · replace c24 : 1 = 0 := (nI_eq (a := 1) (b := 0) (by omega) (by omega)).mp c24
            exfalso; omega
          · replace c24 : ¬ 1 = 0 := fun zq => c24 ((nI_eq (a := 1) (b := 0) (by omega) (by omega)).mpr zq)
            refine lv_aload_n hx hb dX8_turn_27 rfl (lv_at hl 0 rfl) ?_
            refine lv_aload_n hx hb dX8_turn_28 rfl (lv_at hl 0 rfl) ?_
            refine lv_iload_n hx hb dX8_turn_29 rfl (lv_at hl 2 rfl) ?_
            refine lv_bipush (v := nI 15) hx hb dX8_turn_30 (by decide) ?_
            obtain ⟨nj, rwj, Fj, Gj, hRj, hnj, hLj, hKj⟩ := hrs j (by omega)
            have apj := hRj.apart hRw (hmd.two (i := j) (j := 28) (by omega) (by omega) (by omega))
            replace hRj := hRj.keep2 (fun b o hb ho => fr b o ho (hRj.ney hY0 hb) (hb.elim (fun q => q ▸ apj.1) (fun hb => hb.elim (fun q => q ▸ apj.2.1) (fun q => q ▸ apj.2.2))))
            have faj := hRj.2.2.2.1
            have fkj := hRj.2.2.2.2.1
            have fvj := hRj.2.2.2.2.2
            unfold qRb at faj
            unfold qJr at fkj fvj
            refine q_callV (rest := [.ref y]) C (c_X8_holds l D cy N0 hv1 y ms ra rk rv j 15 _ _ _ _ _ _ _ _ hY rfl hms ⟨hRj.1, hRj.2.1, hRj.2.2.1, faj, fkj, fvj⟩ (by omega)) kX8_holds g1264 g1266 rfl gp42 g4 hP hS hY (by first | decide | omega) hl.1 rfl (by simp [q_catrf, q_cati, q_catl, q_cata, q_catn]) (by first | decide | omega) dX8_turn_32 (fun q ce E h' H1 locs1 hE => hE.elim) (fun v hh4 H locs hq hP hS => ?_)
            obtain ⟨rfl, rfl⟩ := hq
            cases hoj : bHo (S j).1 15 with
            | false =>
              refine lv_iconst (v := nI 2) hx hb dX8_turn_35 (by decide) ?_
              refine q_callV (rest := []) C (c_X8_good0 l D cy N0 hv1 y ms mb (ra 28) od pt fi re rc rs so ot cn la ro gr 0 ca (nI m0) ct fau cs ce (nI (S 999).2.2.1) (nI 2) hY) kX8_good g1249 g1251 rfl gp41 g4 hP hS hY (by first | decide | omega) hl.1 rfl (by decide) (by first | decide | omega) dX8_turn_36 (fun q ce E h' H1 locs1 hE => hE.elim) (fun v hh5 H locs hq hP hS => ?_)
              obtain ⟨rfl, rfl⟩ := hq
              replace hP : qP D N0 (qs hv1 y (.inr (8, [.ref ms, .ref mb, .ref (ra 28), .int gr, .int (nI 2), .int ca, .int (nI m0), .ref od, .ref pt, .int ct, .int fau, .ref fi, .ref re, .int cs, .ref rc, .ref rs, .ref so, .ref ot, .ref cn, .ref la, .int ce, .ref ro, .int (nI (S 999).2.2.1)]))) H := hP
              obtain ⟨hv2, ehv2⟩ : ∃ z : qH, z = qs hv1 y (.inr (8, [.ref ms, .ref mb, .ref (ra 28), .int gr, .int (nI 2), .int ca, .int (nI m0), .ref od, .ref pt, .int ct, .int fau, .ref fi, .ref re, .int cs, .ref rc, .ref rs, .ref so, .ref ot, .ref cn, .ref la, .int ce, .ref ro, .int (nI (S 999).2.2.1)])) := ⟨_, rfl⟩
              rw [← ehv2] at hP
              have khv2 : ∀ b o, b ≠ y → hv1 b = some o → hv2 b = some o := by rw [ehv2]; exact fun b o nb hb => (qs_ne nb).trans hb
              replace hms := khv2 _ _ (fun q => by subst q; have := hms.symm.trans hY; first | cases this | simp at this) hms
              replace hmb := khv2 _ _ (fun q => by subst q; have := hmb.symm.trans hY; first | cases this | simp at this) hmb
              replace faw := khv2 _ _ (fun q => by have z9 := faw; rw [q] at z9; have := z9.symm.trans hY; first | cases this | simp at this) faw
              replace fkw := khv2 _ _ (fun q => by have z9 := fkw; rw [q] at z9; have := z9.symm.trans hY; first | cases this | simp at this) fkw
              replace fvw := khv2 _ _ (fun q => by have z9 := fvw; rw [q] at z9; have := z9.symm.trans hY; first | cases this | simp at this) fvw
              replace faj := khv2 _ _ (fun q => by have z9 := faj; rw [q] at z9; have := z9.symm.trans hY; first | cases this | simp at this) faj
              replace fkj := khv2 _ _ (fun q => by have z9 := fkj; rw [q] at z9; have := z9.symm.trans hY; first | cases this | simp at this) fkj
              replace fvj := khv2 _ _ (fun q => by have z9 := fvj; rw [q] at z9; have := z9.symm.trans hY; first | cases this | simp at this) fvj
              replace hY : hv2 y = some (.inr (8, [.ref ms, .ref mb, .ref (ra 28), .int gr, .int (nI 2), .int ca, .int (nI m0), .ref od, .ref pt, .int ct, .int fau, .ref fi, .ref re, .int cs, .ref rc, .ref rs, .ref so, .ref ot, .ref cn, .ref la, .int ce, .ref ro, .int (nI (S 999).2.2.1)])) := by rw [ehv2]; exact qs_self
              clear ehv2
              replace fr := fun b o hb n1 n2 => khv2 b o n1 (fr b o hb n1 n2)
              refine lv_if_ne (tgt := 43) hx hb dX8_turn_39 (by decide) (fun c39 => ?_) (fun c39 => ?_)
              · replace c39 : ¬ 0 = 0 := fun zq => c39 ((nI_eq (a := 0) (b := 0) (by omega) (by omega)).mpr zq)
                exfalso; omega
              · replace c39 : 0 = 0 := (nI_eq (a := 0) (b := 0) (by omega) (by omega)).mp c39
                have eX : xs_turn S S 0 ((ms, mb, ra 28, od, pt, ro, gr, cd, ca, nI m0, ct, fau, nI (S 999).2.2.1), a, k) (nI i) (nI j) = (2, S, (ms, mb, ra 28, od, pt, ro, gr, cd, ca, nI m0, ct, fau, nI (S 999).2.2.1), a, k) := by unfold xs_turn; rw [if_neg (by rw [ebi, ebj]; decide), ecj, if_pos hoj]
                obtain ⟨m8, f8⟩ := hM.fin0 hY0 (h' := hv2) ⟨hRw.1, hRw.2.1, hRw.2.2.1, faw, fkw, fvw⟩ fr
                obtain ⟨q8, r8⟩ := hQ.rowM (o' := oCd (ms, mb, ra 28, od, pt, ro, gr, cd, ca, nI m0, ct, fau, nI (S 999).2.2.1) 2) hY0 hY m8 f8 ⟨rfl, rfl, rfl, rfl, rfl, rfl⟩
                exact q_vret C hP hS ⟨rfl, A0, S, ad, 0, (show xTok S (nI i) (nI j) S 0 by unfold xTok; rw [if_neg (by unfold xTq; rw [ecj, decide_eq_false (fun z => by rw [z] at hoj; exact absurd hoj (by decide)), Bool.and_false]; decide)]), by rw [eX]; exact ⟨ct, q8⟩, (r8.ft).sub hA0, fun i9 => if e9 : i9 < (S 999).2.2.1 then Or.inl ⟨e9, rfl⟩ else Or.inr (Or.inr (Nat.le_of_not_lt e9))⟩ (by omega) dX8_turn_42
            | true =>
              refine lv_iconst (v := nI 2) hx hb dX8_turn_35 (by decide) ?_
              refine q_callV (rest := []) C (c_X8_good1 l D cy N0 hv1 y ms mb (ra 28) od pt fi re rc rs so ot cn la ro gr 0 ca (nI m0) ct fau cs ce (nI (S 999).2.2.1) (nI 2) hY) kX8_good g1249 g1251 rfl gp41 g4 hP hS hY (by first | decide | omega) hl.1 rfl (by decide) (by first | decide | omega) dX8_turn_36 (fun q ce E h' H1 locs1 hE => hE.elim) (fun v hh6 H locs hq hP hS => ?_)
              obtain ⟨rfl, rfl⟩ := hq
              replace hP : qP D N0 (qs hv1 y (.inr (8, [.ref ms, .ref mb, .ref (ra 28), .int gr, .int 0, .int ca, .int (nI m0), .ref od, .ref pt, .int ct, .int fau, .ref fi, .ref re, .int cs, .ref rc, .ref rs, .ref so, .ref ot, .ref cn, .ref la, .int ce, .ref ro, .int (nI (S 999).2.2.1)]))) H := hP
              obtain ⟨hv3, ehv3⟩ : ∃ z : qH, z = qs hv1 y (.inr (8, [.ref ms, .ref mb, .ref (ra 28), .int gr, .int 0, .int ca, .int (nI m0), .ref od, .ref pt, .int ct, .int fau, .ref fi, .ref re, .int cs, .ref rc, .ref rs, .ref so, .ref ot, .ref cn, .ref la, .int ce, .ref ro, .int (nI (S 999).2.2.1)])) := ⟨_, rfl⟩
              rw [← ehv3] at hP
              have khv3 : ∀ b o, b ≠ y → hv1 b = some o → hv3 b = some o := by rw [ehv3]; exact fun b o nb hb => (qs_ne nb).trans hb
              replace hms := khv3 _ _ (fun q => by subst q; have := hms.symm.trans hY; first | cases this | simp at this) hms
              replace hmb := khv3 _ _ (fun q => by subst q; have := hmb.symm.trans hY; first | cases this | simp at this) hmb
              replace faw := khv3 _ _ (fun q => by have z9 := faw; rw [q] at z9; have := z9.symm.trans hY; first | cases this | simp at this) faw
              replace fkw := khv3 _ _ (fun q => by have z9 := fkw; rw [q] at z9; have := z9.symm.trans hY; first | cases this | simp at this) fkw
              replace fvw := khv3 _ _ (fun q => by have z9 := fvw; rw [q] at z9; have := z9.symm.trans hY; first | cases this | simp at this) fvw
              replace faj := khv3 _ _ (fun q => by have z9 := faj; rw [q] at z9; have := z9.symm.trans hY; first | cases this | simp at this) faj
              replace fkj := khv3 _ _ (fun q => by have z9 := fkj; rw [q] at z9; have := z9.symm.trans hY; first | cases this | simp at this) fkj
              replace fvj := khv3 _ _ (fun q => by have z9 := fvj; rw [q] at z9; have := z9.symm.trans hY; first | cases this | simp at this) fvj
              replace hY : hv3 y = some (.inr (8, [.ref ms, .ref mb, .ref (ra 28), .int gr, .int 0, .int ca, .int (nI m0), .ref od, .ref pt, .int ct, .int fau, .ref fi, .ref re, .int cs, .ref rc, .ref rs, .ref so, .ref ot, .ref cn, .ref la, .int ce, .ref ro, .int (nI (S 999).2.2.1)])) := by rw [ehv3]; exact qs_self
              clear ehv3
              replace fr := fun b o hb n1 n2 => khv3 b o n1 (fr b o hb n1 n2)
              refine lv_if_ne (tgt := 43) hx hb dX8_turn_39 (by decide) (fun c39 => ?_) (fun c39 => ?_)
              · replace c39 : ¬ 1 = 0 := fun zq => c39 ((nI_eq (a := 1) (b := 0) (by omega) (by omega)).mpr zq)
                refine lv_aload_n hx hb dX8_turn_43 rfl (lv_at hl 0 rfl) ?_
                refine q_get C hP hY rfl inX8 0 (by decide) g1167 rfl dX8_turn_44 ?_
                refine lv_iload_n hx hb dX8_turn_47 rfl (lv_at hl 2 rfl) ?_
                refine q_aaldR C hP hms rfl (by omega) (by omega) rfl dX8_turn_48 ?_
                refine lv_astore_n (lv' := [(3, .ref (ra j)), (0, .ref y), (1, .int (nI i)), (2, .int (nI j))]) hx hb dX8_turn_49 rfl hl (by decide) rfl (fun ls hl => ?_)
                have hlen : (S j).2.1.length = nj := by rw [hLj, qLs_len]
                rcases hKj with erw | ⟨-, rr, erw, hrr, eLr⟩
                · subst erw
                  refine lv_aload_n hx hb dX8_turn_50 rfl (lv_at hl 0 rfl) ?_
                  refine q_get C hP faj rfl inX7 2 (by decide) g1142 rfl dX8_turn_51 ?_
                  refine lv_if_ne (tgt := 183) hx hb dX8_turn_54 (by decide) (fun c54 => ?_) (fun c54 => ?_)
                  · refine lv_aload_n hx hb dX8_turn_183 rfl (lv_at hl 1 rfl) ?_
                    refine lv_aload_n hx hb dX8_turn_184 rfl (lv_at hl 1 rfl) ?_
                    refine lv_iconst (v := nI 0) hx hb dX8_turn_185 (by decide) ?_
                    refine lv_aload_n hx hb dX8_turn_186 rfl (lv_at hl 0 rfl) ?_
                    refine q_get C hP faj rfl inX7 3 (by decide) g1143 rfl dX8_turn_187 ?_
                    refine q_callV (rest := [.ref y]) C (c_X8_fits l D cy N0 hv3 y m0 0 nj _ hY rfl (by omega) (by omega)) kX8_fits g1413 g1415 rfl gp61 g4 hP hS hY (by first | decide | omega) hl.1 rfl (by simp [q_catrf, q_cati, q_catl, q_cata, q_catn]) (by first | decide | omega) dX8_turn_190 (fun q ce E h' H1 locs1 hE => hE.elim) (fun v hh7 H locs hq hP hS => ?_)
                    obtain ⟨rfl, rfl⟩ := hq
                    by_cases cf : 0 ≤ 1000 ∧ m0 + nj ≤ 20000
                    · rw [if_pos cf]
                      refine lv_iconst (v := nI 3) hx hb dX8_turn_193 (by decide) ?_
                      refine q_callV (rest := []) C (c_X8_good1 l D cy N0 hv3 y ms mb (ra 28) od pt fi re rc rs so ot cn la ro gr 0 ca (nI m0) ct fau cs ce (nI (S 999).2.2.1) (nI 3) hY) kX8_good g1249 g1251 rfl gp41 g4 hP hS hY (by first | decide | omega) hl.1 rfl (by decide) (by first | decide | omega) dX8_turn_194 (fun q ce E h' H1 locs1 hE => hE.elim) (fun v hh8 H locs hq hP hS => ?_)
                      obtain ⟨rfl, rfl⟩ := hq
                      replace hP : qP D N0 (qs hv3 y (.inr (8, [.ref ms, .ref mb, .ref (ra 28), .int gr, .int 0, .int ca, .int (nI m0), .ref od, .ref pt, .int ct, .int fau, .ref fi, .ref re, .int cs, .ref rc, .ref rs, .ref so, .ref ot, .ref cn, .ref la, .int ce, .ref ro, .int (nI (S 999).2.2.1)]))) H := hP
                      obtain ⟨hv4, ehv4⟩ : ∃ z : qH, z = qs hv3 y (.inr (8, [.ref ms, .ref mb, .ref (ra 28), .int gr, .int 0, .int ca, .int (nI m0), .ref od, .ref pt, .int ct, .int fau, .ref fi, .ref re, .int cs, .ref rc, .ref rs, .ref so, .ref ot, .ref cn, .ref la, .int ce, .ref ro, .int (nI (S 999).2.2.1)])) := ⟨_, rfl⟩
                      rw [← ehv4] at hP
                      have khv4 : ∀ b o, b ≠ y → hv3 b = some o → hv4 b = some o := by rw [ehv4]; exact fun b o nb hb => (qs_ne nb).trans hb
                      replace hms := khv4 _ _ (fun q => by subst q; have := hms.symm.trans hY; first | cases this | simp at this) hms
                      replace hmb := khv4 _ _ (fun q => by subst q; have := hmb.symm.trans hY; first | cases this | simp at this) hmb
                      replace faw := khv4 _ _ (fun q => by have z9 := faw; rw [q] at z9; have := z9.symm.trans hY; first | cases this | simp at this) faw
                      replace fkw := khv4 _ _ (fun q => by have z9 := fkw; rw [q] at z9; have := z9.symm.trans hY; first | cases this | simp at this) fkw
                      replace fvw := khv4 _ _ (fun q => by have z9 := fvw; rw [q] at z9; have := z9.symm.trans hY; first | cases this | simp at this) fvw
                      replace faj := khv4 _ _ (fun q => by have z9 := faj; rw [q] at z9; have := z9.symm.trans hY; first | cases this | simp at this) faj
                      replace fkj := khv4 _ _ (fun q => by have z9 := fkj; rw [q] at z9; have := z9.symm.trans hY; first | cases this | simp at this) fkj
                      replace fvj := khv4 _ _ (fun q => by have z9 := fvj; rw [q] at z9; have := z9.symm.trans hY; first | cases this | simp at this) fvj
                      replace hY : hv4 y = some (.inr (8, [.ref ms, .ref mb, .ref (ra 28), .int gr, .int 0, .int ca, .int (nI m0), .ref od, .ref pt, .int ct, .int fau, .ref fi, .ref re, .int cs, .ref rc, .ref rs, .ref so, .ref ot, .ref cn, .ref la, .int ce, .ref ro, .int (nI (S 999).2.2.1)])) := by rw [ehv4]; exact qs_self
                      clear ehv4
                      replace fr := fun b o hb n1 n2 => khv4 b o n1 (fr b o hb n1 n2)
                      refine lv_if_ne (tgt := 201) hx hb dX8_turn_197 (by decide) (fun c197 => ?_) (fun c197 => ?_)
                      · replace c197 : ¬ 1 = 0 := fun zq => c197 ((nI_eq (a := 1) (b := 0) (by omega) (by omega)).mpr zq)
                        have hk3 := bHo_15 (hI j (by omega)).2.2 hoj c54
                        rcases hk3 with hk | hk | hk
                        · refine lv_aload_n hx hb dX8_turn_201 rfl (lv_at hl 0 rfl) ?_
                          refine q_get C hP faj rfl inX7 3 (by decide) g1143 rfl dX8_turn_202 ?_
                          refine lv_istore (lv' := [(4, .int (nI nj)), (3, .ref (ra j)), (0, .ref y), (1, .int (nI i)), (2, .int (nI j))]) hx hb dX8_turn_205 hl (by decide) rfl (fun ls hl => ?_)
                          refine lv_aload_n hx hb dX8_turn_207 rfl (lv_at hl 1 rfl) ?_
                          refine q_get C hP faj rfl inX7 2 (by decide) g1142 rfl dX8_turn_208 ?_
                          refine lv_iconst (v := 3) hx hb dX8_turn_211 (by decide) ?_
                          refine lv_icmp_eq (tgt := 220) hx hb dX8_turn_212 (by decide) (fun c => absurd c (fun z => absurd (hk.symm.trans z) (by decide))) (fun _ => ?_)
                          refine lv_aload_n hx hb dX8_turn_215 rfl (lv_at hl 2 rfl) ?_
                          refine lv_aload_n hx hb dX8_turn_216 rfl (lv_at hl 1 rfl) ?_
                          obtain ⟨m8, f8⟩ := hM.fin0 hY0 (h' := hv4) ⟨hRw.1, hRw.2.1, hRw.2.2.1, faw, fkw, fvw⟩ fr
                          obtain ⟨q8, r8⟩ := hQ.rowM (o' := (oCd (ms, mb, ra 28, od, pt, ro, gr, cd, ca, nI m0, ct, fau, nI (S 999).2.2.1) 0)) hY0 hY m8 f8 ⟨rfl, rfl, rfl, rfl, rfl, rfl⟩
                          have hq8 : qNo (qIx Fj nj) := qIx_no hnj (hLj ▸ (hI j (by omega)).2.1 (Or.inl hk))
                          have hY8 := hY
                          have na_ms := q8.2.2.2.1.no hY hms (Or.inl ⟨_, rfl, fun O z => by cases z⟩)
                          have na_mb := q8.2.2.2.1.no hY hmb (Or.inl ⟨_, rfl, fun O z => by cases z⟩)
                          have na_ra28 := q8.2.2.2.1.no hY faw (Or.inr ⟨_, rfl⟩)
                          have na_rk28 := q8.2.2.2.1.no hY fkw (Or.inl ⟨_, rfl, fun O z => by cases z⟩)
                          have na_rv28 := q8.2.2.2.1.no hY fvw (Or.inl ⟨_, rfl, fun O z => by cases z⟩)
                          have na_raj := q8.2.2.2.1.no hY faj (Or.inr ⟨_, rfl⟩)
                          have na_rkj := q8.2.2.2.1.no hY fkj (Or.inl ⟨_, rfl, fun O z => by cases z⟩)
                          have na_rvj := q8.2.2.2.1.no hY fvj (Or.inl ⟨_, rfl, fun O z => by cases z⟩)
                          refine q_callV (rest := []) C (c_X8_order l D cy N0 hv4 y ms mb (ra 28) od pt fi re rc rs so ot cn la ro gr 0 ca (nI m0) ct fau cs ce (nI (S 999).2.2.1) pa (ra j) (rk j) (rv j) ((S j).1) (nI (S j).2.2.1) (nI (S j).2.2.2) (-1) nj Fj Gj hY q8.2.2.2.1 ⟨hRj.1, hRj.2.1, hRj.2.2.1, faj, fkj, fvj⟩ hnj hq8) kX8_order g1367 g1369 rfl gp59 g4 hP hS hY (by first | decide | omega) hl.1 rfl (by decide) (by first | decide | omega) dX8_turn_217 (fun q ce E h' H1 locs1 hE => hE.elim) (fun v hh9 H locs hq hP hS => ?_)
                          obtain ⟨rfl, hY7, ⟨O7, ho7⟩, hd7, fr7⟩ := hq
                          replace hms := fr7 _ _ hms na_ms.1 na_ms.2.1 na_ms.2.2
                          replace hmb := fr7 _ _ hmb na_mb.1 na_mb.2.1 na_mb.2.2
                          replace faw := fr7 _ _ faw na_ra28.1 na_ra28.2.1 na_ra28.2.2
                          replace fkw := fr7 _ _ fkw na_rk28.1 na_rk28.2.1 na_rk28.2.2
                          replace fvw := fr7 _ _ fvw na_rv28.1 na_rv28.2.1 na_rv28.2.2
                          replace faj := fr7 _ _ faj na_raj.1 na_raj.2.1 na_raj.2.2
                          replace fkj := fr7 _ _ fkj na_rkj.1 na_rkj.2.1 na_rkj.2.2
                          replace fvj := fr7 _ _ fvj na_rvj.1 na_rvj.2.1 na_rvj.2.2
                          obtain ⟨q7, r7⟩ := q8.row (o' := oCt (oCd (ms, mb, ra 28, od, pt, ro, gr, cd, ca, nI m0, ct, fau, nI (S 999).2.2.1) 0) (nI nj)) hY8 hY7 (m8.keepO hY8 q8.2.2.2.1 fr7) hd7 (fun b x hb n1 _ n3 n4 => fr7 b x hb n1 n3 n4) ⟨rfl, rfl, rfl, rfl, rfl, rfl⟩
                          have rt7 := r8.tr q8 rfl r7
                          replace hY := hY7
                          have hY0 := hY
                          have hM := q7.2.2.1
                          have hrs := hM.2.2.2.2.1
                          replace hRw : qRw cy hh9 (ra 28) (rk 28) (rv 28) kdw (nI nw) smw dpw rww fw gw := ⟨hRw.1, hRw.2.1, hRw.2.2.1, faw, fkw, fvw⟩
                          replace fr : ∀ b o, hh9 b = some o → b ≠ y → qOf (ra 28) (rk 28) (rv 28) b → hh9 b = some o := fun b o hb _ _ => hb
                          refine lv_aload_n hx hb dX8_turn_220 rfl (lv_at hl 2 rfl) ?_
                          refine q_get C hP hY rfl inX8 2 (by decide) g1169 rfl dX8_turn_221 ?_
                          refine lv_iconst (v := nI 0) hx hb dX8_turn_224 (by decide) ?_
                          refine q_put C hP hS faw rfl inX7 tyX7 tyX7_ok nmX7 2 (by decide) g1142 rfl rfl rfl (Nat.le_of_ble_eq_true rfl) dX8_turn_225 (fun H locs hP hS => ?_)
                          replace hP : qP D N0 (qs hh9 (ra 28) (.inr (7, [.ref (rk 28), .ref (rv 28), .int (nI 0), .int (nI nw), .int smw, .int dpw, .int rww]))) H := hP
                          obtain ⟨hv5, ehv5⟩ : ∃ z : qH, z = qs hh9 (ra 28) (.inr (7, [.ref (rk 28), .ref (rv 28), .int (nI 0), .int (nI nw), .int smw, .int dpw, .int rww])) := ⟨_, rfl⟩
                          rw [← ehv5] at hP
                          have khv5 : ∀ b o, b ≠ (ra 28) → hh9 b = some o → hv5 b = some o := by rw [ehv5]; exact fun b o nb hb => (qs_ne nb).trans hb
                          replace hY := khv5 _ _ (fun q => by have z9 := hY; rw [q] at z9; have := z9.symm.trans faw; first | cases this | simp at this) hY
                          replace hms := khv5 _ _ (fun q => by have z9 := hms; rw [q] at z9; have := z9.symm.trans faw; first | cases this | simp at this) hms
                          replace hmb := khv5 _ _ (fun q => by have z9 := hmb; rw [q] at z9; have := z9.symm.trans faw; first | cases this | simp at this) hmb
                          replace fkw := khv5 _ _ (fun q => by have z9 := fkw; rw [q] at z9; have := z9.symm.trans faw; first | cases this | simp at this) fkw
                          replace fvw := khv5 _ _ (fun q => by have z9 := fvw; rw [q] at z9; have := z9.symm.trans faw; first | cases this | simp at this) fvw
                          replace faj := khv5 _ _ apj.1.1 faj
                          replace fkj := khv5 _ _ apj.2.1.1 fkj
                          replace fvj := khv5 _ _ apj.2.2.1 fvj
                          replace ho7 := khv5 _ _ (fun q => by have z9 := ho7; rw [q] at z9; have := z9.symm.trans faw; first | cases this | simp at this) ho7
                          replace faw : hv5 (ra 28) = some (.inr (7, [.ref (rk 28), .ref (rv 28), .int (nI 0), .int (nI nw), .int smw, .int dpw, .int rww])) := by rw [ehv5]; exact qs_self
                          clear ehv5
                          replace fr := fun b o hb n1 n2 => khv5 b o n2.1 (fr b o hb n1 n2)
                          refine lv_aload_n hx hb dX8_turn_228 rfl (lv_at hl 2 rfl) ?_
                          refine q_get C hP hY rfl inX8 2 (by decide) g1169 rfl dX8_turn_229 ?_
                          refine lv_aload_n hx hb dX8_turn_232 rfl (lv_at hl 1 rfl) ?_
                          refine q_get C hP faj rfl inX7 3 (by decide) g1143 rfl dX8_turn_233 ?_
                          refine q_put C hP hS faw rfl inX7 tyX7 tyX7_ok nmX7 3 (by decide) g1143 rfl rfl rfl (Nat.le_of_ble_eq_true rfl) dX8_turn_236 (fun H locs hP hS => ?_)
                          replace hP : qP D N0 (qs hv5 (ra 28) (.inr (7, [.ref (rk 28), .ref (rv 28), .int (nI 0), .int (nI nj), .int smw, .int dpw, .int rww]))) H := hP
                          obtain ⟨hv6, ehv6⟩ : ∃ z : qH, z = qs hv5 (ra 28) (.inr (7, [.ref (rk 28), .ref (rv 28), .int (nI 0), .int (nI nj), .int smw, .int dpw, .int rww])) := ⟨_, rfl⟩
                          rw [← ehv6] at hP
                          have khv6 : ∀ b o, b ≠ (ra 28) → hv5 b = some o → hv6 b = some o := by rw [ehv6]; exact fun b o nb hb => (qs_ne nb).trans hb
                          replace hY := khv6 _ _ (fun q => by have z9 := hY; rw [q] at z9; have := z9.symm.trans faw; first | cases this | simp at this) hY
                          replace hms := khv6 _ _ (fun q => by have z9 := hms; rw [q] at z9; have := z9.symm.trans faw; first | cases this | simp at this) hms
                          replace hmb := khv6 _ _ (fun q => by have z9 := hmb; rw [q] at z9; have := z9.symm.trans faw; first | cases this | simp at this) hmb
                          replace fkw := khv6 _ _ (fun q => by have z9 := fkw; rw [q] at z9; have := z9.symm.trans faw; first | cases this | simp at this) fkw
                          replace fvw := khv6 _ _ (fun q => by have z9 := fvw; rw [q] at z9; have := z9.symm.trans faw; first | cases this | simp at this) fvw
                          replace faj := khv6 _ _ apj.1.1 faj
                          replace fkj := khv6 _ _ apj.2.1.1 fkj
                          replace fvj := khv6 _ _ apj.2.2.1 fvj
                          replace ho7 := khv6 _ _ (fun q => by have z9 := ho7; rw [q] at z9; have := z9.symm.trans faw; first | cases this | simp at this) ho7
                          replace faw : hv6 (ra 28) = some (.inr (7, [.ref (rk 28), .ref (rv 28), .int (nI 0), .int (nI nj), .int smw, .int dpw, .int rww])) := by rw [ehv6]; exact qs_self
                          clear ehv6
                          replace fr := fun b o hb n1 n2 => khv6 b o n2.1 (fr b o hb n1 n2)
                          refine lv_aload_n hx hb dX8_turn_239 rfl (lv_at hl 2 rfl) ?_
                          refine q_get C hP hY rfl inX8 2 (by decide) g1169 rfl dX8_turn_240 ?_
                          refine lv_iconst (v := nI 0) hx hb dX8_turn_243 (by decide) ?_
                          refine q_put C hP hS faw rfl inX7 tyX7 tyX7_ok nmX7 4 (by decide) g1144 rfl rfl rfl (Nat.le_of_ble_eq_true rfl) dX8_turn_244 (fun H locs hP hS => ?_)
                          replace hP : qP D N0 (qs hv6 (ra 28) (.inr (7, [.ref (rk 28), .ref (rv 28), .int (nI 0), .int (nI nj), .int (nI 0), .int dpw, .int rww]))) H := hP
                          obtain ⟨hv7, ehv7⟩ : ∃ z : qH, z = qs hv6 (ra 28) (.inr (7, [.ref (rk 28), .ref (rv 28), .int (nI 0), .int (nI nj), .int (nI 0), .int dpw, .int rww])) := ⟨_, rfl⟩
                          rw [← ehv7] at hP
                          have khv7 : ∀ b o, b ≠ (ra 28) → hv6 b = some o → hv7 b = some o := by rw [ehv7]; exact fun b o nb hb => (qs_ne nb).trans hb
                          replace hY := khv7 _ _ (fun q => by have z9 := hY; rw [q] at z9; have := z9.symm.trans faw; first | cases this | simp at this) hY
                          replace hms := khv7 _ _ (fun q => by have z9 := hms; rw [q] at z9; have := z9.symm.trans faw; first | cases this | simp at this) hms
                          replace hmb := khv7 _ _ (fun q => by have z9 := hmb; rw [q] at z9; have := z9.symm.trans faw; first | cases this | simp at this) hmb
                          replace fkw := khv7 _ _ (fun q => by have z9 := fkw; rw [q] at z9; have := z9.symm.trans faw; first | cases this | simp at this) fkw
                          replace fvw := khv7 _ _ (fun q => by have z9 := fvw; rw [q] at z9; have := z9.symm.trans faw; first | cases this | simp at this) fvw
                          replace faj := khv7 _ _ apj.1.1 faj
                          replace fkj := khv7 _ _ apj.2.1.1 fkj
                          replace fvj := khv7 _ _ apj.2.2.1 fvj
                          replace ho7 := khv7 _ _ (fun q => by have z9 := ho7; rw [q] at z9; have := z9.symm.trans faw; first | cases this | simp at this) ho7
                          replace faw : hv7 (ra 28) = some (.inr (7, [.ref (rk 28), .ref (rv 28), .int (nI 0), .int (nI nj), .int (nI 0), .int dpw, .int rww])) := by rw [ehv7]; exact qs_self
                          clear ehv7
                          replace fr := fun b o hb n1 n2 => khv7 b o n2.1 (fr b o hb n1 n2)
                          refine lv_aload_n hx hb dX8_turn_247 rfl (lv_at hl 2 rfl) ?_
                          refine q_get C hP hY rfl inX8 2 (by decide) g1169 rfl dX8_turn_248 ?_
                          refine lv_iconst (v := nI 0) hx hb dX8_turn_251 (by decide) ?_
                          refine q_put C hP hS faw rfl inX7 tyX7 tyX7_ok nmX7 5 (by decide) g1145 rfl rfl rfl (Nat.le_of_ble_eq_true rfl) dX8_turn_252 (fun H locs hP hS => ?_)
                          replace hP : qP D N0 (qs hv7 (ra 28) (.inr (7, [.ref (rk 28), .ref (rv 28), .int (nI 0), .int (nI nj), .int (nI 0), .int (nI 0), .int rww]))) H := hP
                          obtain ⟨hv8, ehv8⟩ : ∃ z : qH, z = qs hv7 (ra 28) (.inr (7, [.ref (rk 28), .ref (rv 28), .int (nI 0), .int (nI nj), .int (nI 0), .int (nI 0), .int rww])) := ⟨_, rfl⟩
                          rw [← ehv8] at hP
                          have khv8 : ∀ b o, b ≠ (ra 28) → hv7 b = some o → hv8 b = some o := by rw [ehv8]; exact fun b o nb hb => (qs_ne nb).trans hb
                          replace hY := khv8 _ _ (fun q => by have z9 := hY; rw [q] at z9; have := z9.symm.trans faw; first | cases this | simp at this) hY
                          replace hms := khv8 _ _ (fun q => by have z9 := hms; rw [q] at z9; have := z9.symm.trans faw; first | cases this | simp at this) hms
                          replace hmb := khv8 _ _ (fun q => by have z9 := hmb; rw [q] at z9; have := z9.symm.trans faw; first | cases this | simp at this) hmb
                          replace fkw := khv8 _ _ (fun q => by have z9 := fkw; rw [q] at z9; have := z9.symm.trans faw; first | cases this | simp at this) fkw
                          replace fvw := khv8 _ _ (fun q => by have z9 := fvw; rw [q] at z9; have := z9.symm.trans faw; first | cases this | simp at this) fvw
                          replace faj := khv8 _ _ apj.1.1 faj
                          replace fkj := khv8 _ _ apj.2.1.1 fkj
                          replace fvj := khv8 _ _ apj.2.2.1 fvj
                          replace ho7 := khv8 _ _ (fun q => by have z9 := ho7; rw [q] at z9; have := z9.symm.trans faw; first | cases this | simp at this) ho7
                          replace faw : hv8 (ra 28) = some (.inr (7, [.ref (rk 28), .ref (rv 28), .int (nI 0), .int (nI nj), .int (nI 0), .int (nI 0), .int rww])) := by rw [ehv8]; exact qs_self
                          clear ehv8
                          replace fr := fun b o hb n1 n2 => khv8 b o n2.1 (fr b o hb n1 n2)
                          refine lv_iconst (v := nI 0) hx hb dX8_turn_255 (by decide) ?_
                          refine lv_istore (lv' := [(5, .int (nI 0)), (4, .int (nI nj)), (3, .ref (ra j)), (0, .ref y), (1, .int (nI i)), (2, .int (nI j))]) hx hb dX8_turn_256 hl (by decide) rfl (fun ls hl => ?_)
                          have hTl : (xTuL gr (S j).1 (S j).2.1).length = nj := by unfold xTuL; rw [if_neg (fun z => absurd (hk.symm.trans z) (by decide)), if_neg (fun z => absurd (hk.symm.trans z) (by decide)), List.length_map, thT_len, hlen]
                          refine (?_ : ∀ (t : Nat) (H : Heap) (locs : List Loc) (ls : Array Slot) (hv0 : qH) (fW : Nat → Int64) (ii : Nat), nj - ii < t → hv0 y = some (.inr (8, [.ref ms, .ref mb, .ref (ra 28), .int gr, .int 0, .int ca, .int (nI m0), .ref od, .ref pt, .int (nI nj), .int fau, .ref fi, .ref re, .int cs, .ref rc, .ref rs, .ref so, .ref ot, .ref cn, .ref la, .int ce, .ref ro, .int (nI (S 999).2.2.1)])) → hv0 ms = some (.inl (cy 5, 24, .inr (.inr (.inr (.inr (fun i => some (ra i))))))) → hv0 mb = some (.inl (cy 5, 4, .inr (.inr (.inr (.inr (fun i => some (ra (24 + i)))))))) → hv0 (ra 28) = some (.inr (7, [.ref (rk 28), .ref (rv 28), .int (nI 0), .int (nI nj), .int (nI 0), .int (nI 0), .int rww])) → hv0 (rk 28) = some (.inl (cy 1, 1001, .inr (.inl fW))) → hv0 (rv 28) = some (.inl (cy 1, 1001, .inr (.inl gw))) → hv0 (ra j) = some (.inr (7, [.ref (rk j), .ref (rv j), .int (S j).1, .int (nI nj), .int (nI (S j).2.2.1), .int (nI (S j).2.2.2), .int (-1)])) → hv0 (rk j) = some (.inl (cy 1, 1001, .inr (.inl Fj))) → hv0 (rv j) = some (.inl (cy 1, 1001, .inr (.inl Gj))) → hv0 od = some (.inl (cy 0, 1000, .inl (qPourI O7 0 ((thT (qMk gr) 7 (qIx Fj nj)).map ix9)))) → (∀ b o, hh9 b = some o → b ≠ y → qOf (ra 28) (rk 28) (rv 28) b → hv0 b = some o) → (∀ q9, q9 < ii → (xTuL gr (S j).1 (S j).2.1)[q9]? = some (fW q9, 0)) → ii ≤ nj → lv_has ls 7 [(5, .int (nI ii)), (4, .int (nI nj)), (3, .ref (ra j)), (0, .ref y), (1, .int (nI i))] → qP D N0 hv0 H → va_S (qA N0) s.heap H locs → W p l e _ s m _ below meth c H locs 0 0 _ (F0 m 258 ls [])) _ H locs ls hv8 fw 0 (Nat.lt_succ_self _) hY hms hmb faw fkw fvw faj fkj fvj ho7 fr (fun q9 z => absurd z (Nat.not_lt_zero _)) (Nat.zero_le _) (lv_sub hl [0, 1, 2, 3, 4] rfl) hP hS
                          clear hl hP hS
                          intro t
                          induction t with
                          | zero => intro H locs ls hv0 fW ii ht; exact absurd ht (Nat.not_lt_zero _)
                          | succ t ihl =>
                            intro H locs ls hv0 fW ii ht hY hms hmb faw fkw fvw faj fkj fvj ho7 fr hfW hii hl hP hS
                            refine lv_iload hx hb dX8_turn_258 (lv_at hl 0 rfl) ?_
                            refine lv_aload_n hx hb dX8_turn_260 rfl (lv_at hl 2 rfl) ?_
                            refine q_get C hP faj rfl inX7 3 (by decide) g1143 rfl dX8_turn_261 ?_
                            refine lv_icmp_ge (tgt := 330) hx hb dX8_turn_264 (by decide) (fun c264 => ?_) (fun c264 => ?_)
                            · replace c264 : nj ≤ ii := (nI_leI (a := nj) (b := ii) (by omega) (by omega)).mp c264
                              have eii : ii = nj := by omega
                              have lw : qLs (nI 0) fW gw nj = xTuL gr (S j).1 (S j).2.1 := qLs_eq hTl (fun q9 hq9 => hfW q9 (by omega))
                              refine lv_aload_n hx hb dX8_turn_330 rfl (lv_at hl 3 rfl) ?_
                              refine lv_iload_n hx hb dX8_turn_331 rfl (lv_at hl 4 rfl) ?_
                              refine lv_iload hx hb dX8_turn_332 (lv_at hl 1 rfl) ?_
                              obtain ⟨ni, rwi, Fi, Gi, hRi, hni, hLi, hKi⟩ := hrs i (by omega)
                              have api := hRi.apart hRw (hmd.two (i := i) (j := 28) (by omega) (by omega) (by omega))
                              replace hRi := hRi.keep2 (fun b o hb ho => fr b o ho (hRi.ney hY0 hb) (hb.elim (fun q => q ▸ api.1) (fun hb => hb.elim (fun q => q ▸ api.2.1) (fun q => q ▸ api.2.2))))
                              have fai := hRi.2.2.2.1
                              have fki := hRi.2.2.2.2.1
                              have fvi := hRi.2.2.2.2.2
                              unfold qRb at fai
                              unfold qJr at fki fvi
                              refine q_callV (rest := []) C (c_X8_done l D cy N0 hv0 y ms mb od pt fi re rc rs so ot cn la ro gr 0 ca (nI m0) (nI nj) fau cs ce (nI (S 999).2.2.1) ra rk rv i (nI nj) (nI 0) (nI 0) (nI 0) rww nj fW gw (S i).1 (nI (S i).2.2.1) (nI (S i).2.2.2) rwi ni Fi Gi hY hms hmd ⟨hRw.1, hRw.2.1, hRw.2.2.1, faw, fkw, fvw⟩ ⟨hRi.1, hRi.2.1, hRi.2.2.1, fai, fki, fvi⟩ (by omega) (by omega)) kX8_done g1293 g1295 rfl gp45 g4 hP hS hY (by first | decide | omega) hl.1 rfl (by decide) (by first | decide | omega) dX8_turn_334 (fun q ce E h' H1 locs1 hE => hE.elim) (fun v hh10 H locs hq hP hS => ?_)
                              obtain ⟨rfl, hY9, hw9, hi9, fr9⟩ := hq
                              replace fr := fun b o hb n1 n2 n3 => fr9 b o (fr b o hb n1 n2) n1 n2 n3
                              rw [nI_add] at hY9
                              refine lv_pop hx hb dX8_turn_337 rfl ?_
                              obtain ⟨m9, f9⟩ := hM.fin hY0 (i := i) (by omega) (s := (0, (xTuL gr (S j).1 (S j).2.1), 0, 0)) ⟨nj, _, _, _, hi9, by omega, by rw [qLs_cp]; exact lw.symm, Or.inl rfl⟩ hw9 fr
                              obtain ⟨q9, r9⟩ := q7.rowM (o' := oCd (oMv (oCt (ms, mb, ra 28, od, pt, ro, gr, cd, ca, nI m0, ct, fau, nI (S 999).2.2.1) (nI nj)) (nI (m0 + nj))) 0) hY0 hY9 m9 f9 ⟨rfl, rfl, rfl, rfl, rfl, rfl⟩
                              have eX : xs_turn S S 0 ((ms, mb, ra 28, od, pt, ro, gr, cd, ca, nI m0, ct, fau, nI (S 999).2.2.1), a, k) (nI i) (nI j) = (0, qU S i (0, (xTuL gr (S j).1 (S j).2.1), 0, 0), oMv (ms, mb, ra 28, od, pt, ro, gr, cd, ca, nI m0, ct, fau, nI (S 999).2.2.1) (nI (m0 + nj)), a, k) := by unfold xs_turn; rw [if_neg (by rw [ebi, ebj]; decide), ecj, if_neg (by rw [hoj]; decide), eci]; unfold xr_turn; rw [if_neg c54, show oMq (ms, mb, ra 28, od, pt, ro, gr, cd, ca, nI m0, ct, fau, nI (S 999).2.2.1) = nI m0 from rfl, ecm, hlen, if_neg (by omega), nI_add]
                              have q9b := q9.cg (S := S) (qU_ne (by omega)) (xRs_qU (by omega))
                              exact q_vret C hP hS ⟨rfl, A0, S, ad, 0, (show xTok S (nI i) (nI j) S 0 by unfold xTok; rw [if_neg (by unfold xTq; rw [ecj, decide_eq_false c54, Bool.and_false]; decide)]), by rw [eX]; exact ⟨nI nj, q9b⟩, ((rt7.tr q7 rfl r9).ft).sub hA0, fun i9 => if e9 : i9 < (S 999).2.2.1 then Or.inl ⟨e9, rfl⟩ else Or.inr (Or.inr (Nat.le_of_not_lt e9))⟩ (by omega) dX8_turn_338
                            · replace c264 : ¬ nj ≤ ii := fun zq => c264 ((nI_leI (a := nj) (b := ii) (by omega) (by omega)).mpr zq)
                              refine lv_aload_n hx hb dX8_turn_267 rfl (lv_at hl 2 rfl) ?_
                              refine q_get C hP faj rfl inX7 2 (by decide) g1142 rfl dX8_turn_268 ?_
                              refine lv_iconst (v := 3) hx hb dX8_turn_271 (by decide) ?_
                              refine lv_icmp_ne (tgt := 280) hx hb dX8_turn_272 (by decide) (fun _ => ?_) (fun c => absurd c (fun z => absurd (hk.symm.trans z) (by decide)))
                              refine lv_aload_n hx hb dX8_turn_280 rfl (lv_at hl 3 rfl) ?_
                              refine q_get C hP hY rfl inX8 7 (by decide) g1174 rfl dX8_turn_281 ?_
                              refine lv_iload hx hb dX8_turn_284 (lv_at hl 0 rfl) ?_
                              refine q_ialdN C hP ho7 (by omega) (by omega) dX8_turn_286 ?_
                              obtain ⟨j9, hj9, ej9, eT9⟩ := qIx_or (kd := (S j).1) (m := qMk gr) (f := Fj) (g := Gj) (O := O7) hnj (show ii < nj by omega)
                              rw [ej9]
                              refine lv_istore (lv' := [(6, .int (nI j9)), (5, .int (nI ii)), (4, .int (nI nj)), (3, .ref (ra j)), (0, .ref y), (1, .int (nI i))]) hx hb dX8_turn_287 hl (by decide) rfl (fun ls hl => ?_)
                              refine lv_aload_n hx hb dX8_turn_289 rfl (lv_at hl 4 rfl) ?_
                              refine q_get C hP hY rfl inX8 2 (by decide) g1169 rfl dX8_turn_290 ?_
                              refine q_get C hP faw rfl inX7 0 (by decide) g1138 rfl dX8_turn_293 ?_
                              refine lv_iload hx hb dX8_turn_296 (lv_at hl 1 rfl) ?_
                              refine lv_aload_n hx hb dX8_turn_298 rfl (lv_at hl 3 rfl) ?_
                              refine q_get C hP faj rfl inX7 2 (by decide) g1142 rfl dX8_turn_299 ?_
                              refine lv_iconst (v := 2) hx hb dX8_turn_302 (by decide) ?_
                              refine lv_icmp_ne (tgt := 316) hx hb dX8_turn_303 (by decide) (fun _ => ?_) (fun c => absurd c (fun z => absurd (hk.symm.trans z) (by decide)))
                              refine lv_aload_n hx hb dX8_turn_316 rfl (lv_at hl 3 rfl) ?_
                              refine q_get C hP faj rfl inX7 1 (by decide) g1140 rfl dX8_turn_317 ?_
                              refine lv_iload hx hb dX8_turn_320 (lv_at hl 0 rfl) ?_
                              refine q_laldN C hP fvj (by omega) (by omega) dX8_turn_322 ?_
                              refine q_lastN C hP hS fkw (by omega) (by omega) dX8_turn_323 (fun H locs hP hS => ?_)
                              obtain ⟨hv9, ehv9⟩ : ∃ z : qH, z = qs hv0 (rk 28) (.inl (cy 1, 1001, .inr (.inl (vp_updL fW ii (Gj j9))))) := ⟨_, rfl⟩
                              rw [← ehv9] at hP
                              have khv9 : ∀ b o, b ≠ (rk 28) → hv0 b = some o → hv9 b = some o := by rw [ehv9]; exact fun b o nb hb => (qs_ne nb).trans hb
                              replace hY := khv9 _ _ (fun q => by have z9 := hY; rw [q] at z9; have := z9.symm.trans fkw; first | cases this | simp at this) hY
                              replace hms := khv9 _ _ (fun q => by have z9 := hms; rw [q] at z9; have := z9.symm.trans fkw; first | cases this | simp at this) hms
                              replace hmb := khv9 _ _ (fun q => by have z9 := hmb; rw [q] at z9; have := z9.symm.trans fkw; first | cases this | simp at this) hmb
                              replace faw := khv9 _ _ (fun q => by have z9 := faw; rw [q] at z9; have := z9.symm.trans fkw; first | cases this | simp at this) faw
                              replace fvw := khv9 _ _ hRw.1.symm fvw
                              replace faj := khv9 _ _ apj.1.2.1 faj
                              replace fkj := khv9 _ _ apj.2.1.2.1 fkj
                              replace fvj := khv9 _ _ apj.2.2.2.1 fvj
                              replace ho7 := khv9 _ _ (fun q => by have z9 := ho7; rw [q] at z9; have := z9.symm.trans fkw; first | cases this | simp at this) ho7
                              replace fkw : hv9 (rk 28) = some (.inl (cy 1, 1001, .inr (.inl (vp_updL fW ii (Gj j9))))) := by rw [ehv9]; exact qs_self
                              clear ehv9
                              replace fr := fun b o hb n1 n2 => khv9 b o n2.2.1 (fr b o hb n1 n2)
                              refine lv_iinc (v := nI (ii + 1)) (lv' := [(5, .int (nI (ii + 1))), (6, .int (nI j9)), (4, .int (nI nj)), (3, .ref (ra j)), (0, .ref y), (1, .int (nI i))]) hx hb dX8_turn_324 hl (k := 1) rfl (nI_1 ii) (by decide) rfl (fun ls hl => ?_)
                              refine lv_goto (tgt := 258) hx hb dX8_turn_327 (by decide) ?_
                              have eT : (xTuL gr (S j).1 (S j).2.1)[ii]? = some (Gj j9, 0) := by unfold xTuL; rw [if_neg (fun z => absurd (hk.symm.trans z) (by decide)), if_neg (fun z => absurd (hk.symm.trans z) (by decide)), List.getElem?_map, hLj, eT9, xV, if_pos (Or.inl hk)]; rfl
                              exact ihl H locs ls hv9 _ (ii + 1) (by omega) hY hms hmb faw fkw fvw faj fkj fvj ho7 fr (fun q9 z => if e : q9 = ii then by (subst e; rw [vp_updL, if_pos rfl]; exact eT) else by (rw [vp_updL, if_neg e]; exact hfW q9 (by omega))) (by omega) (lv_sub hl [0, 2, 3, 4, 5] rfl) hP hS
                        · refine lv_aload_n hx hb dX8_turn_201 rfl (lv_at hl 0 rfl) ?_
                          refine q_get C hP faj rfl inX7 3 (by decide) g1143 rfl dX8_turn_202 ?_
                          refine lv_istore (lv' := [(4, .int (nI nj)), (3, .ref (ra j)), (0, .ref y), (1, .int (nI i)), (2, .int (nI j))]) hx hb dX8_turn_205 hl (by decide) rfl (fun ls hl => ?_)
                          refine lv_aload_n hx hb dX8_turn_207 rfl (lv_at hl 1 rfl) ?_
                          refine q_get C hP faj rfl inX7 2 (by decide) g1142 rfl dX8_turn_208 ?_
                          refine lv_iconst (v := 3) hx hb dX8_turn_211 (by decide) ?_
                          refine lv_icmp_eq (tgt := 220) hx hb dX8_turn_212 (by decide) (fun c => absurd c (fun z => absurd (hk.symm.trans z) (by decide))) (fun _ => ?_)
                          refine lv_aload_n hx hb dX8_turn_215 rfl (lv_at hl 2 rfl) ?_
                          refine lv_aload_n hx hb dX8_turn_216 rfl (lv_at hl 1 rfl) ?_
                          obtain ⟨m8, f8⟩ := hM.fin0 hY0 (h' := hv4) ⟨hRw.1, hRw.2.1, hRw.2.2.1, faw, fkw, fvw⟩ fr
                          obtain ⟨q8, r8⟩ := hQ.rowM (o' := (oCd (ms, mb, ra 28, od, pt, ro, gr, cd, ca, nI m0, ct, fau, nI (S 999).2.2.1) 0)) hY0 hY m8 f8 ⟨rfl, rfl, rfl, rfl, rfl, rfl⟩
                          have hq8 : qNo (qIx Fj nj) := qIx_no hnj (hLj ▸ (hI j (by omega)).2.1 (Or.inr (Or.inl hk)))
                          have hY8 := hY
                          have na_ms := q8.2.2.2.1.no hY hms (Or.inl ⟨_, rfl, fun O z => by cases z⟩)
                          have na_mb := q8.2.2.2.1.no hY hmb (Or.inl ⟨_, rfl, fun O z => by cases z⟩)
                          have na_ra28 := q8.2.2.2.1.no hY faw (Or.inr ⟨_, rfl⟩)
                          have na_rk28 := q8.2.2.2.1.no hY fkw (Or.inl ⟨_, rfl, fun O z => by cases z⟩)
                          have na_rv28 := q8.2.2.2.1.no hY fvw (Or.inl ⟨_, rfl, fun O z => by cases z⟩)
                          have na_raj := q8.2.2.2.1.no hY faj (Or.inr ⟨_, rfl⟩)
                          have na_rkj := q8.2.2.2.1.no hY fkj (Or.inl ⟨_, rfl, fun O z => by cases z⟩)
                          have na_rvj := q8.2.2.2.1.no hY fvj (Or.inl ⟨_, rfl, fun O z => by cases z⟩)
                          refine q_callV (rest := []) C (c_X8_order l D cy N0 hv4 y ms mb (ra 28) od pt fi re rc rs so ot cn la ro gr 0 ca (nI m0) ct fau cs ce (nI (S 999).2.2.1) pa (ra j) (rk j) (rv j) ((S j).1) (nI (S j).2.2.1) (nI (S j).2.2.2) (-1) nj Fj Gj hY q8.2.2.2.1 ⟨hRj.1, hRj.2.1, hRj.2.2.1, faj, fkj, fvj⟩ hnj hq8) kX8_order g1367 g1369 rfl gp59 g4 hP hS hY (by first | decide | omega) hl.1 rfl (by decide) (by first | decide | omega) dX8_turn_217 (fun q ce E h' H1 locs1 hE => hE.elim) (fun v hh11 H locs hq hP hS => ?_)
                          obtain ⟨rfl, hY7, ⟨O7, ho7⟩, hd7, fr7⟩ := hq
                          replace hms := fr7 _ _ hms na_ms.1 na_ms.2.1 na_ms.2.2
                          replace hmb := fr7 _ _ hmb na_mb.1 na_mb.2.1 na_mb.2.2
                          replace faw := fr7 _ _ faw na_ra28.1 na_ra28.2.1 na_ra28.2.2
                          replace fkw := fr7 _ _ fkw na_rk28.1 na_rk28.2.1 na_rk28.2.2
                          replace fvw := fr7 _ _ fvw na_rv28.1 na_rv28.2.1 na_rv28.2.2
                          replace faj := fr7 _ _ faj na_raj.1 na_raj.2.1 na_raj.2.2
                          replace fkj := fr7 _ _ fkj na_rkj.1 na_rkj.2.1 na_rkj.2.2
                          replace fvj := fr7 _ _ fvj na_rvj.1 na_rvj.2.1 na_rvj.2.2
                          obtain ⟨q7, r7⟩ := q8.row (o' := oCt (oCd (ms, mb, ra 28, od, pt, ro, gr, cd, ca, nI m0, ct, fau, nI (S 999).2.2.1) 0) (nI nj)) hY8 hY7 (m8.keepO hY8 q8.2.2.2.1 fr7) hd7 (fun b x hb n1 _ n3 n4 => fr7 b x hb n1 n3 n4) ⟨rfl, rfl, rfl, rfl, rfl, rfl⟩
                          have rt7 := r8.tr q8 rfl r7
                          replace hY := hY7
                          have hY0 := hY
                          have hM := q7.2.2.1
                          have hrs := hM.2.2.2.2.1
                          replace hRw : qRw cy hh11 (ra 28) (rk 28) (rv 28) kdw (nI nw) smw dpw rww fw gw := ⟨hRw.1, hRw.2.1, hRw.2.2.1, faw, fkw, fvw⟩
                          replace fr : ∀ b o, hh11 b = some o → b ≠ y → qOf (ra 28) (rk 28) (rv 28) b → hh11 b = some o := fun b o hb _ _ => hb
                          refine lv_aload_n hx hb dX8_turn_220 rfl (lv_at hl 2 rfl) ?_
                          refine q_get C hP hY rfl inX8 2 (by decide) g1169 rfl dX8_turn_221 ?_
                          refine lv_iconst (v := nI 0) hx hb dX8_turn_224 (by decide) ?_
                          refine q_put C hP hS faw rfl inX7 tyX7 tyX7_ok nmX7 2 (by decide) g1142 rfl rfl rfl (Nat.le_of_ble_eq_true rfl) dX8_turn_225 (fun H locs hP hS => ?_)
                          replace hP : qP D N0 (qs hh11 (ra 28) (.inr (7, [.ref (rk 28), .ref (rv 28), .int (nI 0), .int (nI nw), .int smw, .int dpw, .int rww]))) H := hP
                          obtain ⟨hv10, ehv10⟩ : ∃ z : qH, z = qs hh11 (ra 28) (.inr (7, [.ref (rk 28), .ref (rv 28), .int (nI 0), .int (nI nw), .int smw, .int dpw, .int rww])) := ⟨_, rfl⟩
                          rw [← ehv10] at hP
                          have khv10 : ∀ b o, b ≠ (ra 28) → hh11 b = some o → hv10 b = some o := by rw [ehv10]; exact fun b o nb hb => (qs_ne nb).trans hb
                          replace hY := khv10 _ _ (fun q => by have z9 := hY; rw [q] at z9; have := z9.symm.trans faw; first | cases this | simp at this) hY
                          replace hms := khv10 _ _ (fun q => by have z9 := hms; rw [q] at z9; have := z9.symm.trans faw; first | cases this | simp at this) hms
                          replace hmb := khv10 _ _ (fun q => by have z9 := hmb; rw [q] at z9; have := z9.symm.trans faw; first | cases this | simp at this) hmb
                          replace fkw := khv10 _ _ (fun q => by have z9 := fkw; rw [q] at z9; have := z9.symm.trans faw; first | cases this | simp at this) fkw
                          replace fvw := khv10 _ _ (fun q => by have z9 := fvw; rw [q] at z9; have := z9.symm.trans faw; first | cases this | simp at this) fvw
                          replace faj := khv10 _ _ apj.1.1 faj
                          replace fkj := khv10 _ _ apj.2.1.1 fkj
                          replace fvj := khv10 _ _ apj.2.2.1 fvj
                          replace ho7 := khv10 _ _ (fun q => by have z9 := ho7; rw [q] at z9; have := z9.symm.trans faw; first | cases this | simp at this) ho7
                          replace faw : hv10 (ra 28) = some (.inr (7, [.ref (rk 28), .ref (rv 28), .int (nI 0), .int (nI nw), .int smw, .int dpw, .int rww])) := by rw [ehv10]; exact qs_self
                          clear ehv10
                          replace fr := fun b o hb n1 n2 => khv10 b o n2.1 (fr b o hb n1 n2)
                          refine lv_aload_n hx hb dX8_turn_228 rfl (lv_at hl 2 rfl) ?_
                          refine q_get C hP hY rfl inX8 2 (by decide) g1169 rfl dX8_turn_229 ?_
                          refine lv_aload_n hx hb dX8_turn_232 rfl (lv_at hl 1 rfl) ?_
                          refine q_get C hP faj rfl inX7 3 (by decide) g1143 rfl dX8_turn_233 ?_
                          refine q_put C hP hS faw rfl inX7 tyX7 tyX7_ok nmX7 3 (by decide) g1143 rfl rfl rfl (Nat.le_of_ble_eq_true rfl) dX8_turn_236 (fun H locs hP hS => ?_)
                          replace hP : qP D N0 (qs hv10 (ra 28) (.inr (7, [.ref (rk 28), .ref (rv 28), .int (nI 0), .int (nI nj), .int smw, .int dpw, .int rww]))) H := hP
                          obtain ⟨hv11, ehv11⟩ : ∃ z : qH, z = qs hv10 (ra 28) (.inr (7, [.ref (rk 28), .ref (rv 28), .int (nI 0), .int (nI nj), .int smw, .int dpw, .int rww])) := ⟨_, rfl⟩
                          rw [← ehv11] at hP
                          have khv11 : ∀ b o, b ≠ (ra 28) → hv10 b = some o → hv11 b = some o := by rw [ehv11]; exact fun b o nb hb => (qs_ne nb).trans hb
                          replace hY := khv11 _ _ (fun q => by have z9 := hY; rw [q] at z9; have := z9.symm.trans faw; first | cases this | simp at this) hY
                          replace hms := khv11 _ _ (fun q => by have z9 := hms; rw [q] at z9; have := z9.symm.trans faw; first | cases this | simp at this) hms
                          replace hmb := khv11 _ _ (fun q => by have z9 := hmb; rw [q] at z9; have := z9.symm.trans faw; first | cases this | simp at this) hmb
                          replace fkw := khv11 _ _ (fun q => by have z9 := fkw; rw [q] at z9; have := z9.symm.trans faw; first | cases this | simp at this) fkw
                          replace fvw := khv11 _ _ (fun q => by have z9 := fvw; rw [q] at z9; have := z9.symm.trans faw; first | cases this | simp at this) fvw
                          replace faj := khv11 _ _ apj.1.1 faj
                          replace fkj := khv11 _ _ apj.2.1.1 fkj
                          replace fvj := khv11 _ _ apj.2.2.1 fvj
                          replace ho7 := khv11 _ _ (fun q => by have z9 := ho7; rw [q] at z9; have := z9.symm.trans faw; first | cases this | simp at this) ho7
                          replace faw : hv11 (ra 28) = some (.inr (7, [.ref (rk 28), .ref (rv 28), .int (nI 0), .int (nI nj), .int smw, .int dpw, .int rww])) := by rw [ehv11]; exact qs_self
                          clear ehv11
                          replace fr := fun b o hb n1 n2 => khv11 b o n2.1 (fr b o hb n1 n2)
                          refine lv_aload_n hx hb dX8_turn_239 rfl (lv_at hl 2 rfl) ?_
                          refine q_get C hP hY rfl inX8 2 (by decide) g1169 rfl dX8_turn_240 ?_
                          refine lv_iconst (v := nI 0) hx hb dX8_turn_243 (by decide) ?_
                          refine q_put C hP hS faw rfl inX7 tyX7 tyX7_ok nmX7 4 (by decide) g1144 rfl rfl rfl (Nat.le_of_ble_eq_true rfl) dX8_turn_244 (fun H locs hP hS => ?_)
                          replace hP : qP D N0 (qs hv11 (ra 28) (.inr (7, [.ref (rk 28), .ref (rv 28), .int (nI 0), .int (nI nj), .int (nI 0), .int dpw, .int rww]))) H := hP
                          obtain ⟨hv12, ehv12⟩ : ∃ z : qH, z = qs hv11 (ra 28) (.inr (7, [.ref (rk 28), .ref (rv 28), .int (nI 0), .int (nI nj), .int (nI 0), .int dpw, .int rww])) := ⟨_, rfl⟩
                          rw [← ehv12] at hP
                          have khv12 : ∀ b o, b ≠ (ra 28) → hv11 b = some o → hv12 b = some o := by rw [ehv12]; exact fun b o nb hb => (qs_ne nb).trans hb
                          replace hY := khv12 _ _ (fun q => by have z9 := hY; rw [q] at z9; have := z9.symm.trans faw; first | cases this | simp at this) hY
                          replace hms := khv12 _ _ (fun q => by have z9 := hms; rw [q] at z9; have := z9.symm.trans faw; first | cases this | simp at this) hms
                          replace hmb := khv12 _ _ (fun q => by have z9 := hmb; rw [q] at z9; have := z9.symm.trans faw; first | cases this | simp at this) hmb
                          replace fkw := khv12 _ _ (fun q => by have z9 := fkw; rw [q] at z9; have := z9.symm.trans faw; first | cases this | simp at this) fkw
                          replace fvw := khv12 _ _ (fun q => by have z9 := fvw; rw [q] at z9; have := z9.symm.trans faw; first | cases this | simp at this) fvw
                          replace faj := khv12 _ _ apj.1.1 faj
                          replace fkj := khv12 _ _ apj.2.1.1 fkj
                          replace fvj := khv12 _ _ apj.2.2.1 fvj
                          replace ho7 := khv12 _ _ (fun q => by have z9 := ho7; rw [q] at z9; have := z9.symm.trans faw; first | cases this | simp at this) ho7
                          replace faw : hv12 (ra 28) = some (.inr (7, [.ref (rk 28), .ref (rv 28), .int (nI 0), .int (nI nj), .int (nI 0), .int dpw, .int rww])) := by rw [ehv12]; exact qs_self
                          clear ehv12
                          replace fr := fun b o hb n1 n2 => khv12 b o n2.1 (fr b o hb n1 n2)
                          refine lv_aload_n hx hb dX8_turn_247 rfl (lv_at hl 2 rfl) ?_
                          refine q_get C hP hY rfl inX8 2 (by decide) g1169 rfl dX8_turn_248 ?_
                          refine lv_iconst (v := nI 0) hx hb dX8_turn_251 (by decide) ?_
                          refine q_put C hP hS faw rfl inX7 tyX7 tyX7_ok nmX7 5 (by decide) g1145 rfl rfl rfl (Nat.le_of_ble_eq_true rfl) dX8_turn_252 (fun H locs hP hS => ?_)
                          replace hP : qP D N0 (qs hv12 (ra 28) (.inr (7, [.ref (rk 28), .ref (rv 28), .int (nI 0), .int (nI nj), .int (nI 0), .int (nI 0), .int rww]))) H := hP
                          obtain ⟨hv13, ehv13⟩ : ∃ z : qH, z = qs hv12 (ra 28) (.inr (7, [.ref (rk 28), .ref (rv 28), .int (nI 0), .int (nI nj), .int (nI 0), .int (nI 0), .int rww])) := ⟨_, rfl⟩
                          rw [← ehv13] at hP
                          have khv13 : ∀ b o, b ≠ (ra 28) → hv12 b = some o → hv13 b = some o := by rw [ehv13]; exact fun b o nb hb => (qs_ne nb).trans hb
                          replace hY := khv13 _ _ (fun q => by have z9 := hY; rw [q] at z9; have := z9.symm.trans faw; first | cases this | simp at this) hY
                          replace hms := khv13 _ _ (fun q => by have z9 := hms; rw [q] at z9; have := z9.symm.trans faw; first | cases this | simp at this) hms
                          replace hmb := khv13 _ _ (fun q => by have z9 := hmb; rw [q] at z9; have := z9.symm.trans faw; first | cases this | simp at this) hmb
                          replace fkw := khv13 _ _ (fun q => by have z9 := fkw; rw [q] at z9; have := z9.symm.trans faw; first | cases this | simp at this) fkw
                          replace fvw := khv13 _ _ (fun q => by have z9 := fvw; rw [q] at z9; have := z9.symm.trans faw; first | cases this | simp at this) fvw
                          replace faj := khv13 _ _ apj.1.1 faj
                          replace fkj := khv13 _ _ apj.2.1.1 fkj
                          replace fvj := khv13 _ _ apj.2.2.1 fvj
                          replace ho7 := khv13 _ _ (fun q => by have z9 := ho7; rw [q] at z9; have := z9.symm.trans faw; first | cases this | simp at this) ho7
                          replace faw : hv13 (ra 28) = some (.inr (7, [.ref (rk 28), .ref (rv 28), .int (nI 0), .int (nI nj), .int (nI 0), .int (nI 0), .int rww])) := by rw [ehv13]; exact qs_self
                          clear ehv13
                          replace fr := fun b o hb n1 n2 => khv13 b o n2.1 (fr b o hb n1 n2)
                          refine lv_iconst (v := nI 0) hx hb dX8_turn_255 (by decide) ?_
                          refine lv_istore (lv' := [(5, .int (nI 0)), (4, .int (nI nj)), (3, .ref (ra j)), (0, .ref y), (1, .int (nI i)), (2, .int (nI j))]) hx hb dX8_turn_256 hl (by decide) rfl (fun ls hl => ?_)
                          have hTl : (xTuL gr (S j).1 (S j).2.1).length = nj := by unfold xTuL; rw [if_neg (fun z => absurd (hk.symm.trans z) (by decide)), if_pos hk, List.length_map, thT_len, hlen]
                          refine (?_ : ∀ (t : Nat) (H : Heap) (locs : List Loc) (ls : Array Slot) (hv0 : qH) (fW : Nat → Int64) (ii : Nat), nj - ii < t → hv0 y = some (.inr (8, [.ref ms, .ref mb, .ref (ra 28), .int gr, .int 0, .int ca, .int (nI m0), .ref od, .ref pt, .int (nI nj), .int fau, .ref fi, .ref re, .int cs, .ref rc, .ref rs, .ref so, .ref ot, .ref cn, .ref la, .int ce, .ref ro, .int (nI (S 999).2.2.1)])) → hv0 ms = some (.inl (cy 5, 24, .inr (.inr (.inr (.inr (fun i => some (ra i))))))) → hv0 mb = some (.inl (cy 5, 4, .inr (.inr (.inr (.inr (fun i => some (ra (24 + i)))))))) → hv0 (ra 28) = some (.inr (7, [.ref (rk 28), .ref (rv 28), .int (nI 0), .int (nI nj), .int (nI 0), .int (nI 0), .int rww])) → hv0 (rk 28) = some (.inl (cy 1, 1001, .inr (.inl fW))) → hv0 (rv 28) = some (.inl (cy 1, 1001, .inr (.inl gw))) → hv0 (ra j) = some (.inr (7, [.ref (rk j), .ref (rv j), .int (S j).1, .int (nI nj), .int (nI (S j).2.2.1), .int (nI (S j).2.2.2), .int (-1)])) → hv0 (rk j) = some (.inl (cy 1, 1001, .inr (.inl Fj))) → hv0 (rv j) = some (.inl (cy 1, 1001, .inr (.inl Gj))) → hv0 od = some (.inl (cy 0, 1000, .inl (qPourI O7 0 ((thT (qMk gr) 7 (qIx Fj nj)).map ix9)))) → (∀ b o, hh11 b = some o → b ≠ y → qOf (ra 28) (rk 28) (rv 28) b → hv0 b = some o) → (∀ q9, q9 < ii → (xTuL gr (S j).1 (S j).2.1)[q9]? = some (fW q9, 0)) → ii ≤ nj → lv_has ls 7 [(5, .int (nI ii)), (4, .int (nI nj)), (3, .ref (ra j)), (0, .ref y), (1, .int (nI i))] → qP D N0 hv0 H → va_S (qA N0) s.heap H locs → W p l e _ s m _ below meth c H locs 0 0 _ (F0 m 258 ls [])) _ H locs ls hv13 fw 0 (Nat.lt_succ_self _) hY hms hmb faw fkw fvw faj fkj fvj ho7 fr (fun q9 z => absurd z (Nat.not_lt_zero _)) (Nat.zero_le _) (lv_sub hl [0, 1, 2, 3, 4] rfl) hP hS
                          clear hl hP hS
                          intro t
                          induction t with
                          | zero => intro H locs ls hv0 fW ii ht; exact absurd ht (Nat.not_lt_zero _)
                          | succ t ihl =>
                            intro H locs ls hv0 fW ii ht hY hms hmb faw fkw fvw faj fkj fvj ho7 fr hfW hii hl hP hS
                            refine lv_iload hx hb dX8_turn_258 (lv_at hl 0 rfl) ?_
                            refine lv_aload_n hx hb dX8_turn_260 rfl (lv_at hl 2 rfl) ?_
                            refine q_get C hP faj rfl inX7 3 (by decide) g1143 rfl dX8_turn_261 ?_
                            refine lv_icmp_ge (tgt := 330) hx hb dX8_turn_264 (by decide) (fun c264 => ?_) (fun c264 => ?_)
                            · replace c264 : nj ≤ ii := (nI_leI (a := nj) (b := ii) (by omega) (by omega)).mp c264
                              have eii : ii = nj := by omega
                              have lw : qLs (nI 0) fW gw nj = xTuL gr (S j).1 (S j).2.1 := qLs_eq hTl (fun q9 hq9 => hfW q9 (by omega))
                              refine lv_aload_n hx hb dX8_turn_330 rfl (lv_at hl 3 rfl) ?_
                              refine lv_iload_n hx hb dX8_turn_331 rfl (lv_at hl 4 rfl) ?_
                              refine lv_iload hx hb dX8_turn_332 (lv_at hl 1 rfl) ?_
                              obtain ⟨ni, rwi, Fi, Gi, hRi, hni, hLi, hKi⟩ := hrs i (by omega)
                              have api := hRi.apart hRw (hmd.two (i := i) (j := 28) (by omega) (by omega) (by omega))
                              replace hRi := hRi.keep2 (fun b o hb ho => fr b o ho (hRi.ney hY0 hb) (hb.elim (fun q => q ▸ api.1) (fun hb => hb.elim (fun q => q ▸ api.2.1) (fun q => q ▸ api.2.2))))
                              have fai := hRi.2.2.2.1
                              have fki := hRi.2.2.2.2.1
                              have fvi := hRi.2.2.2.2.2
                              unfold qRb at fai
                              unfold qJr at fki fvi
                              refine q_callV (rest := []) C (c_X8_done l D cy N0 hv0 y ms mb od pt fi re rc rs so ot cn la ro gr 0 ca (nI m0) (nI nj) fau cs ce (nI (S 999).2.2.1) ra rk rv i (nI nj) (nI 0) (nI 0) (nI 0) rww nj fW gw (S i).1 (nI (S i).2.2.1) (nI (S i).2.2.2) rwi ni Fi Gi hY hms hmd ⟨hRw.1, hRw.2.1, hRw.2.2.1, faw, fkw, fvw⟩ ⟨hRi.1, hRi.2.1, hRi.2.2.1, fai, fki, fvi⟩ (by omega) (by omega)) kX8_done g1293 g1295 rfl gp45 g4 hP hS hY (by first | decide | omega) hl.1 rfl (by decide) (by first | decide | omega) dX8_turn_334 (fun q ce E h' H1 locs1 hE => hE.elim) (fun v hh12 H locs hq hP hS => ?_)
                              obtain ⟨rfl, hY9, hw9, hi9, fr9⟩ := hq
                              replace fr := fun b o hb n1 n2 n3 => fr9 b o (fr b o hb n1 n2) n1 n2 n3
                              rw [nI_add] at hY9
                              refine lv_pop hx hb dX8_turn_337 rfl ?_
                              obtain ⟨m9, f9⟩ := hM.fin hY0 (i := i) (by omega) (s := (0, (xTuL gr (S j).1 (S j).2.1), 0, 0)) ⟨nj, _, _, _, hi9, by omega, by rw [qLs_cp]; exact lw.symm, Or.inl rfl⟩ hw9 fr
                              obtain ⟨q9, r9⟩ := q7.rowM (o' := oCd (oMv (oCt (ms, mb, ra 28, od, pt, ro, gr, cd, ca, nI m0, ct, fau, nI (S 999).2.2.1) (nI nj)) (nI (m0 + nj))) 0) hY0 hY9 m9 f9 ⟨rfl, rfl, rfl, rfl, rfl, rfl⟩
                              have eX : xs_turn S S 0 ((ms, mb, ra 28, od, pt, ro, gr, cd, ca, nI m0, ct, fau, nI (S 999).2.2.1), a, k) (nI i) (nI j) = (0, qU S i (0, (xTuL gr (S j).1 (S j).2.1), 0, 0), oMv (ms, mb, ra 28, od, pt, ro, gr, cd, ca, nI m0, ct, fau, nI (S 999).2.2.1) (nI (m0 + nj)), a, k) := by unfold xs_turn; rw [if_neg (by rw [ebi, ebj]; decide), ecj, if_neg (by rw [hoj]; decide), eci]; unfold xr_turn; rw [if_neg c54, show oMq (ms, mb, ra 28, od, pt, ro, gr, cd, ca, nI m0, ct, fau, nI (S 999).2.2.1) = nI m0 from rfl, ecm, hlen, if_neg (by omega), nI_add]
                              have q9b := q9.cg (S := S) (qU_ne (by omega)) (xRs_qU (by omega))
                              exact q_vret C hP hS ⟨rfl, A0, S, ad, 0, (show xTok S (nI i) (nI j) S 0 by unfold xTok; rw [if_neg (by unfold xTq; rw [ecj, decide_eq_false c54, Bool.and_false]; decide)]), by rw [eX]; exact ⟨nI nj, q9b⟩, ((rt7.tr q7 rfl r9).ft).sub hA0, fun i9 => if e9 : i9 < (S 999).2.2.1 then Or.inl ⟨e9, rfl⟩ else Or.inr (Or.inr (Nat.le_of_not_lt e9))⟩ (by omega) dX8_turn_338
                            · replace c264 : ¬ nj ≤ ii := fun zq => c264 ((nI_leI (a := nj) (b := ii) (by omega) (by omega)).mpr zq)
                              refine lv_aload_n hx hb dX8_turn_267 rfl (lv_at hl 2 rfl) ?_
                              refine q_get C hP faj rfl inX7 2 (by decide) g1142 rfl dX8_turn_268 ?_
                              refine lv_iconst (v := 3) hx hb dX8_turn_271 (by decide) ?_
                              refine lv_icmp_ne (tgt := 280) hx hb dX8_turn_272 (by decide) (fun _ => ?_) (fun c => absurd c (fun z => absurd (hk.symm.trans z) (by decide)))
                              refine lv_aload_n hx hb dX8_turn_280 rfl (lv_at hl 3 rfl) ?_
                              refine q_get C hP hY rfl inX8 7 (by decide) g1174 rfl dX8_turn_281 ?_
                              refine lv_iload hx hb dX8_turn_284 (lv_at hl 0 rfl) ?_
                              refine q_ialdN C hP ho7 (by omega) (by omega) dX8_turn_286 ?_
                              obtain ⟨j9, hj9, ej9, eT9⟩ := qIx_or (kd := (S j).1) (m := qMk gr) (f := Fj) (g := Gj) (O := O7) hnj (show ii < nj by omega)
                              rw [ej9]
                              refine lv_istore (lv' := [(6, .int (nI j9)), (5, .int (nI ii)), (4, .int (nI nj)), (3, .ref (ra j)), (0, .ref y), (1, .int (nI i))]) hx hb dX8_turn_287 hl (by decide) rfl (fun ls hl => ?_)
                              refine lv_aload_n hx hb dX8_turn_289 rfl (lv_at hl 4 rfl) ?_
                              refine q_get C hP hY rfl inX8 2 (by decide) g1169 rfl dX8_turn_290 ?_
                              refine q_get C hP faw rfl inX7 0 (by decide) g1138 rfl dX8_turn_293 ?_
                              refine lv_iload hx hb dX8_turn_296 (lv_at hl 1 rfl) ?_
                              refine lv_aload_n hx hb dX8_turn_298 rfl (lv_at hl 3 rfl) ?_
                              refine q_get C hP faj rfl inX7 2 (by decide) g1142 rfl dX8_turn_299 ?_
                              refine lv_iconst (v := 2) hx hb dX8_turn_302 (by decide) ?_
                              refine lv_icmp_ne (tgt := 316) hx hb dX8_turn_303 (by decide) (fun c => absurd hk c) (fun _ => ?_)
                              refine lv_aload_n hx hb dX8_turn_306 rfl (lv_at hl 3 rfl) ?_
                              refine q_get C hP faj rfl inX7 0 (by decide) g1138 rfl dX8_turn_307 ?_
                              refine lv_iload hx hb dX8_turn_310 (lv_at hl 0 rfl) ?_
                              refine q_laldN C hP fkj (by omega) (by omega) dX8_turn_312 ?_
                              refine lv_goto (tgt := 323) hx hb dX8_turn_313 (by decide) ?_
                              refine q_lastN C hP hS fkw (by omega) (by omega) dX8_turn_323 (fun H locs hP hS => ?_)
                              obtain ⟨hv14, ehv14⟩ : ∃ z : qH, z = qs hv0 (rk 28) (.inl (cy 1, 1001, .inr (.inl (vp_updL fW ii (Fj j9))))) := ⟨_, rfl⟩
                              rw [← ehv14] at hP
                              have khv14 : ∀ b o, b ≠ (rk 28) → hv0 b = some o → hv14 b = some o := by rw [ehv14]; exact fun b o nb hb => (qs_ne nb).trans hb
                              replace hY := khv14 _ _ (fun q => by have z9 := hY; rw [q] at z9; have := z9.symm.trans fkw; first | cases this | simp at this) hY
                              replace hms := khv14 _ _ (fun q => by have z9 := hms; rw [q] at z9; have := z9.symm.trans fkw; first | cases this | simp at this) hms
                              replace hmb := khv14 _ _ (fun q => by have z9 := hmb; rw [q] at z9; have := z9.symm.trans fkw; first | cases this | simp at this) hmb
                              replace faw := khv14 _ _ (fun q => by have z9 := faw; rw [q] at z9; have := z9.symm.trans fkw; first | cases this | simp at this) faw
                              replace fvw := khv14 _ _ hRw.1.symm fvw
                              replace faj := khv14 _ _ apj.1.2.1 faj
                              replace fkj := khv14 _ _ apj.2.1.2.1 fkj
                              replace fvj := khv14 _ _ apj.2.2.2.1 fvj
                              replace ho7 := khv14 _ _ (fun q => by have z9 := ho7; rw [q] at z9; have := z9.symm.trans fkw; first | cases this | simp at this) ho7
                              replace fkw : hv14 (rk 28) = some (.inl (cy 1, 1001, .inr (.inl (vp_updL fW ii (Fj j9))))) := by rw [ehv14]; exact qs_self
                              clear ehv14
                              replace fr := fun b o hb n1 n2 => khv14 b o n2.2.1 (fr b o hb n1 n2)
                              refine lv_iinc (v := nI (ii + 1)) (lv' := [(5, .int (nI (ii + 1))), (6, .int (nI j9)), (4, .int (nI nj)), (3, .ref (ra j)), (0, .ref y), (1, .int (nI i))]) hx hb dX8_turn_324 hl (k := 1) rfl (nI_1 ii) (by decide) rfl (fun ls hl => ?_)
                              refine lv_goto (tgt := 258) hx hb dX8_turn_327 (by decide) ?_
                              have eT : (xTuL gr (S j).1 (S j).2.1)[ii]? = some (Fj j9, 0) := by unfold xTuL; rw [if_neg (fun z => absurd (hk.symm.trans z) (by decide)), if_pos hk, List.getElem?_map, hLj, eT9]; rfl
                              exact ihl H locs ls hv14 _ (ii + 1) (by omega) hY hms hmb faw fkw fvw faj fkj fvj ho7 fr (fun q9 z => if e : q9 = ii then by (subst e; rw [vp_updL, if_pos rfl]; exact eT) else by (rw [vp_updL, if_neg e]; exact hfW q9 (by omega))) (by omega) (lv_sub hl [0, 2, 3, 4, 5] rfl) hP hS
                        · refine lv_aload_n hx hb dX8_turn_201 rfl (lv_at hl 0 rfl) ?_
                          refine q_get C hP faj rfl inX7 3 (by decide) g1143 rfl dX8_turn_202 ?_
                          refine lv_istore (lv' := [(4, .int (nI nj)), (3, .ref (ra j)), (0, .ref y), (1, .int (nI i)), (2, .int (nI j))]) hx hb dX8_turn_205 hl (by decide) rfl (fun ls hl => ?_)
                          refine lv_aload_n hx hb dX8_turn_207 rfl (lv_at hl 1 rfl) ?_
                          refine q_get C hP faj rfl inX7 2 (by decide) g1142 rfl dX8_turn_208 ?_
                          refine lv_iconst (v := 3) hx hb dX8_turn_211 (by decide) ?_
                          refine lv_icmp_eq (tgt := 220) hx hb dX8_turn_212 (by decide) (fun _ => ?_) (fun c => absurd hk c)
                          refine lv_aload_n hx hb dX8_turn_220 rfl (lv_at hl 2 rfl) ?_
                          refine q_get C hP hY rfl inX8 2 (by decide) g1169 rfl dX8_turn_221 ?_
                          refine lv_iconst (v := nI 0) hx hb dX8_turn_224 (by decide) ?_
                          refine q_put C hP hS faw rfl inX7 tyX7 tyX7_ok nmX7 2 (by decide) g1142 rfl rfl rfl (Nat.le_of_ble_eq_true rfl) dX8_turn_225 (fun H locs hP hS => ?_)
                          replace hP : qP D N0 (qs hv4 (ra 28) (.inr (7, [.ref (rk 28), .ref (rv 28), .int (nI 0), .int (nI nw), .int smw, .int dpw, .int rww]))) H := hP
                          obtain ⟨hv15, ehv15⟩ : ∃ z : qH, z = qs hv4 (ra 28) (.inr (7, [.ref (rk 28), .ref (rv 28), .int (nI 0), .int (nI nw), .int smw, .int dpw, .int rww])) := ⟨_, rfl⟩
                          rw [← ehv15] at hP
                          have khv15 : ∀ b o, b ≠ (ra 28) → hv4 b = some o → hv15 b = some o := by rw [ehv15]; exact fun b o nb hb => (qs_ne nb).trans hb
                          replace hY := khv15 _ _ (fun q => by have z9 := hY; rw [q] at z9; have := z9.symm.trans faw; first | cases this | simp at this) hY
                          replace hms := khv15 _ _ (fun q => by have z9 := hms; rw [q] at z9; have := z9.symm.trans faw; first | cases this | simp at this) hms
                          replace hmb := khv15 _ _ (fun q => by have z9 := hmb; rw [q] at z9; have := z9.symm.trans faw; first | cases this | simp at this) hmb
                          replace fkw := khv15 _ _ (fun q => by have z9 := fkw; rw [q] at z9; have := z9.symm.trans faw; first | cases this | simp at this) fkw
                          replace fvw := khv15 _ _ (fun q => by have z9 := fvw; rw [q] at z9; have := z9.symm.trans faw; first | cases this | simp at this) fvw
                          replace faj := khv15 _ _ apj.1.1 faj
                          replace fkj := khv15 _ _ apj.2.1.1 fkj
                          replace fvj := khv15 _ _ apj.2.2.1 fvj
                          replace faw : hv15 (ra 28) = some (.inr (7, [.ref (rk 28), .ref (rv 28), .int (nI 0), .int (nI nw), .int smw, .int dpw, .int rww])) := by rw [ehv15]; exact qs_self
                          clear ehv15
                          replace fr := fun b o hb n1 n2 => khv15 b o n2.1 (fr b o hb n1 n2)
                          refine lv_aload_n hx hb dX8_turn_228 rfl (lv_at hl 2 rfl) ?_
                          refine q_get C hP hY rfl inX8 2 (by decide) g1169 rfl dX8_turn_229 ?_
                          refine lv_aload_n hx hb dX8_turn_232 rfl (lv_at hl 1 rfl) ?_
                          refine q_get C hP faj rfl inX7 3 (by decide) g1143 rfl dX8_turn_233 ?_
                          refine q_put C hP hS faw rfl inX7 tyX7 tyX7_ok nmX7 3 (by decide) g1143 rfl rfl rfl (Nat.le_of_ble_eq_true rfl) dX8_turn_236 (fun H locs hP hS => ?_)
                          replace hP : qP D N0 (qs hv15 (ra 28) (.inr (7, [.ref (rk 28), .ref (rv 28), .int (nI 0), .int (nI nj), .int smw, .int dpw, .int rww]))) H := hP
                          obtain ⟨hv16, ehv16⟩ : ∃ z : qH, z = qs hv15 (ra 28) (.inr (7, [.ref (rk 28), .ref (rv 28), .int (nI 0), .int (nI nj), .int smw, .int dpw, .int rww])) := ⟨_, rfl⟩
                          rw [← ehv16] at hP
                          have khv16 : ∀ b o, b ≠ (ra 28) → hv15 b = some o → hv16 b = some o := by rw [ehv16]; exact fun b o nb hb => (qs_ne nb).trans hb
                          replace hY := khv16 _ _ (fun q => by have z9 := hY; rw [q] at z9; have := z9.symm.trans faw; first | cases this | simp at this) hY
                          replace hms := khv16 _ _ (fun q => by have z9 := hms; rw [q] at z9; have := z9.symm.trans faw; first | cases this | simp at this) hms
                          replace hmb := khv16 _ _ (fun q => by have z9 := hmb; rw [q] at z9; have := z9.symm.trans faw; first | cases this | simp at this) hmb
                          replace fkw := khv16 _ _ (fun q => by have z9 := fkw; rw [q] at z9; have := z9.symm.trans faw; first | cases this | simp at this) fkw
                          replace fvw := khv16 _ _ (fun q => by have z9 := fvw; rw [q] at z9; have := z9.symm.trans faw; first | cases this | simp at this) fvw
                          replace faj := khv16 _ _ apj.1.1 faj
                          replace fkj := khv16 _ _ apj.2.1.1 fkj
                          replace fvj := khv16 _ _ apj.2.2.1 fvj
                          replace faw : hv16 (ra 28) = some (.inr (7, [.ref (rk 28), .ref (rv 28), .int (nI 0), .int (nI nj), .int smw, .int dpw, .int rww])) := by rw [ehv16]; exact qs_self
                          clear ehv16
                          replace fr := fun b o hb n1 n2 => khv16 b o n2.1 (fr b o hb n1 n2)
                          refine lv_aload_n hx hb dX8_turn_239 rfl (lv_at hl 2 rfl) ?_
                          refine q_get C hP hY rfl inX8 2 (by decide) g1169 rfl dX8_turn_240 ?_
                          refine lv_iconst (v := nI 0) hx hb dX8_turn_243 (by decide) ?_
                          refine q_put C hP hS faw rfl inX7 tyX7 tyX7_ok nmX7 4 (by decide) g1144 rfl rfl rfl (Nat.le_of_ble_eq_true rfl) dX8_turn_244 (fun H locs hP hS => ?_)
                          replace hP : qP D N0 (qs hv16 (ra 28) (.inr (7, [.ref (rk 28), .ref (rv 28), .int (nI 0), .int (nI nj), .int (nI 0), .int dpw, .int rww]))) H := hP
                          obtain ⟨hv17, ehv17⟩ : ∃ z : qH, z = qs hv16 (ra 28) (.inr (7, [.ref (rk 28), .ref (rv 28), .int (nI 0), .int (nI nj), .int (nI 0), .int dpw, .int rww])) := ⟨_, rfl⟩
                          rw [← ehv17] at hP
                          have khv17 : ∀ b o, b ≠ (ra 28) → hv16 b = some o → hv17 b = some o := by rw [ehv17]; exact fun b o nb hb => (qs_ne nb).trans hb
                          replace hY := khv17 _ _ (fun q => by have z9 := hY; rw [q] at z9; have := z9.symm.trans faw; first | cases this | simp at this) hY
                          replace hms := khv17 _ _ (fun q => by have z9 := hms; rw [q] at z9; have := z9.symm.trans faw; first | cases this | simp at this) hms
                          replace hmb := khv17 _ _ (fun q => by have z9 := hmb; rw [q] at z9; have := z9.symm.trans faw; first | cases this | simp at this) hmb
                          replace fkw := khv17 _ _ (fun q => by have z9 := fkw; rw [q] at z9; have := z9.symm.trans faw; first | cases this | simp at this) fkw
                          replace fvw := khv17 _ _ (fun q => by have z9 := fvw; rw [q] at z9; have := z9.symm.trans faw; first | cases this | simp at this) fvw
                          replace faj := khv17 _ _ apj.1.1 faj
                          replace fkj := khv17 _ _ apj.2.1.1 fkj
                          replace fvj := khv17 _ _ apj.2.2.1 fvj
                          replace faw : hv17 (ra 28) = some (.inr (7, [.ref (rk 28), .ref (rv 28), .int (nI 0), .int (nI nj), .int (nI 0), .int dpw, .int rww])) := by rw [ehv17]; exact qs_self
                          clear ehv17
                          replace fr := fun b o hb n1 n2 => khv17 b o n2.1 (fr b o hb n1 n2)
                          refine lv_aload_n hx hb dX8_turn_247 rfl (lv_at hl 2 rfl) ?_
                          refine q_get C hP hY rfl inX8 2 (by decide) g1169 rfl dX8_turn_248 ?_
                          refine lv_iconst (v := nI 0) hx hb dX8_turn_251 (by decide) ?_
                          refine q_put C hP hS faw rfl inX7 tyX7 tyX7_ok nmX7 5 (by decide) g1145 rfl rfl rfl (Nat.le_of_ble_eq_true rfl) dX8_turn_252 (fun H locs hP hS => ?_)
                          replace hP : qP D N0 (qs hv17 (ra 28) (.inr (7, [.ref (rk 28), .ref (rv 28), .int (nI 0), .int (nI nj), .int (nI 0), .int (nI 0), .int rww]))) H := hP
                          obtain ⟨hv18, ehv18⟩ : ∃ z : qH, z = qs hv17 (ra 28) (.inr (7, [.ref (rk 28), .ref (rv 28), .int (nI 0), .int (nI nj), .int (nI 0), .int (nI 0), .int rww])) := ⟨_, rfl⟩
                          rw [← ehv18] at hP
                          have khv18 : ∀ b o, b ≠ (ra 28) → hv17 b = some o → hv18 b = some o := by rw [ehv18]; exact fun b o nb hb => (qs_ne nb).trans hb
                          replace hY := khv18 _ _ (fun q => by have z9 := hY; rw [q] at z9; have := z9.symm.trans faw; first | cases this | simp at this) hY
                          replace hms := khv18 _ _ (fun q => by have z9 := hms; rw [q] at z9; have := z9.symm.trans faw; first | cases this | simp at this) hms
                          replace hmb := khv18 _ _ (fun q => by have z9 := hmb; rw [q] at z9; have := z9.symm.trans faw; first | cases this | simp at this) hmb
                          replace fkw := khv18 _ _ (fun q => by have z9 := fkw; rw [q] at z9; have := z9.symm.trans faw; first | cases this | simp at this) fkw
                          replace fvw := khv18 _ _ (fun q => by have z9 := fvw; rw [q] at z9; have := z9.symm.trans faw; first | cases this | simp at this) fvw
                          replace faj := khv18 _ _ apj.1.1 faj
                          replace fkj := khv18 _ _ apj.2.1.1 fkj
                          replace fvj := khv18 _ _ apj.2.2.1 fvj
                          replace faw : hv18 (ra 28) = some (.inr (7, [.ref (rk 28), .ref (rv 28), .int (nI 0), .int (nI nj), .int (nI 0), .int (nI 0), .int rww])) := by rw [ehv18]; exact qs_self
                          clear ehv18
                          replace fr := fun b o hb n1 n2 => khv18 b o n2.1 (fr b o hb n1 n2)
                          refine lv_iconst (v := nI 0) hx hb dX8_turn_255 (by decide) ?_
                          refine lv_istore (lv' := [(5, .int (nI 0)), (4, .int (nI nj)), (3, .ref (ra j)), (0, .ref y), (1, .int (nI i)), (2, .int (nI j))]) hx hb dX8_turn_256 hl (by decide) rfl (fun ls hl => ?_)
                          have hTl : (xTuL gr (S j).1 (S j).2.1).length = nj := by unfold xTuL; rw [if_pos hk, List.length_map, hlen]
                          refine (?_ : ∀ (t : Nat) (H : Heap) (locs : List Loc) (ls : Array Slot) (hv0 : qH) (fW : Nat → Int64) (ii : Nat), nj - ii < t → hv0 y = some (.inr (8, [.ref ms, .ref mb, .ref (ra 28), .int gr, .int 0, .int ca, .int (nI m0), .ref od, .ref pt, .int ct, .int fau, .ref fi, .ref re, .int cs, .ref rc, .ref rs, .ref so, .ref ot, .ref cn, .ref la, .int ce, .ref ro, .int (nI (S 999).2.2.1)])) → hv0 ms = some (.inl (cy 5, 24, .inr (.inr (.inr (.inr (fun i => some (ra i))))))) → hv0 mb = some (.inl (cy 5, 4, .inr (.inr (.inr (.inr (fun i => some (ra (24 + i)))))))) → hv0 (ra 28) = some (.inr (7, [.ref (rk 28), .ref (rv 28), .int (nI 0), .int (nI nj), .int (nI 0), .int (nI 0), .int rww])) → hv0 (rk 28) = some (.inl (cy 1, 1001, .inr (.inl fW))) → hv0 (rv 28) = some (.inl (cy 1, 1001, .inr (.inl gw))) → hv0 (ra j) = some (.inr (7, [.ref (rk j), .ref (rv j), .int (S j).1, .int (nI nj), .int (nI (S j).2.2.1), .int (nI (S j).2.2.2), .int (-1)])) → hv0 (rk j) = some (.inl (cy 1, 1001, .inr (.inl Fj))) → hv0 (rv j) = some (.inl (cy 1, 1001, .inr (.inl Gj))) → (∀ b o, h b = some o → b ≠ y → qOf (ra 28) (rk 28) (rv 28) b → hv0 b = some o) → (∀ q9, q9 < ii → (xTuL gr (S j).1 (S j).2.1)[q9]? = some (fW q9, 0)) → ii ≤ nj → lv_has ls 7 [(5, .int (nI ii)), (4, .int (nI nj)), (3, .ref (ra j)), (0, .ref y), (1, .int (nI i))] → qP D N0 hv0 H → va_S (qA N0) s.heap H locs → W p l e _ s m _ below meth c H locs 0 0 _ (F0 m 258 ls [])) _ H locs ls hv18 fw 0 (Nat.lt_succ_self _) hY hms hmb faw fkw fvw faj fkj fvj fr (fun q9 z => absurd z (Nat.not_lt_zero _)) (Nat.zero_le _) (lv_sub hl [0, 1, 2, 3, 4] rfl) hP hS
                          clear hl hP hS
                          intro t
                          induction t with
                          | zero => intro H locs ls hv0 fW ii ht; exact absurd ht (Nat.not_lt_zero _)
                          | succ t ihl =>
                            intro H locs ls hv0 fW ii ht hY hms hmb faw fkw fvw faj fkj fvj fr hfW hii hl hP hS
                            refine lv_iload hx hb dX8_turn_258 (lv_at hl 0 rfl) ?_
                            refine lv_aload_n hx hb dX8_turn_260 rfl (lv_at hl 2 rfl) ?_
                            refine q_get C hP faj rfl inX7 3 (by decide) g1143 rfl dX8_turn_261 ?_
                            refine lv_icmp_ge (tgt := 330) hx hb dX8_turn_264 (by decide) (fun c264 => ?_) (fun c264 => ?_)
                            · replace c264 : nj ≤ ii := (nI_leI (a := nj) (b := ii) (by omega) (by omega)).mp c264
                              have eii : ii = nj := by omega
                              have lw : qLs (nI 0) fW gw nj = xTuL gr (S j).1 (S j).2.1 := qLs_eq hTl (fun q9 hq9 => hfW q9 (by omega))
                              refine lv_aload_n hx hb dX8_turn_330 rfl (lv_at hl 3 rfl) ?_
                              refine lv_iload_n hx hb dX8_turn_331 rfl (lv_at hl 4 rfl) ?_
                              refine lv_iload hx hb dX8_turn_332 (lv_at hl 1 rfl) ?_
                              obtain ⟨ni, rwi, Fi, Gi, hRi, hni, hLi, hKi⟩ := hrs i (by omega)
                              have api := hRi.apart hRw (hmd.two (i := i) (j := 28) (by omega) (by omega) (by omega))
                              replace hRi := hRi.keep2 (fun b o hb ho => fr b o ho (hRi.ney hY0 hb) (hb.elim (fun q => q ▸ api.1) (fun hb => hb.elim (fun q => q ▸ api.2.1) (fun q => q ▸ api.2.2))))
                              have fai := hRi.2.2.2.1
                              have fki := hRi.2.2.2.2.1
                              have fvi := hRi.2.2.2.2.2
                              unfold qRb at fai
                              unfold qJr at fki fvi
                              refine q_callV (rest := []) C (c_X8_done l D cy N0 hv0 y ms mb od pt fi re rc rs so ot cn la ro gr 0 ca (nI m0) ct fau cs ce (nI (S 999).2.2.1) ra rk rv i (nI nj) (nI 0) (nI 0) (nI 0) rww nj fW gw (S i).1 (nI (S i).2.2.1) (nI (S i).2.2.2) rwi ni Fi Gi hY hms hmd ⟨hRw.1, hRw.2.1, hRw.2.2.1, faw, fkw, fvw⟩ ⟨hRi.1, hRi.2.1, hRi.2.2.1, fai, fki, fvi⟩ (by omega) (by omega)) kX8_done g1293 g1295 rfl gp45 g4 hP hS hY (by first | decide | omega) hl.1 rfl (by decide) (by first | decide | omega) dX8_turn_334 (fun q ce E h' H1 locs1 hE => hE.elim) (fun v hh13 H locs hq hP hS => ?_)
                              obtain ⟨rfl, hY9, hw9, hi9, fr9⟩ := hq
                              replace fr := fun b o hb n1 n2 n3 => fr9 b o (fr b o hb n1 n2) n1 n2 n3
                              rw [nI_add] at hY9
                              refine lv_pop hx hb dX8_turn_337 rfl ?_
                              obtain ⟨m9, f9⟩ := hM.fin hY0 (i := i) (by omega) (s := (0, (xTuL gr (S j).1 (S j).2.1), 0, 0)) ⟨nj, _, _, _, hi9, by omega, by rw [qLs_cp]; exact lw.symm, Or.inl rfl⟩ hw9 fr
                              obtain ⟨q9, r9⟩ := hQ.rowM (o' := oCd (oMv (ms, mb, ra 28, od, pt, ro, gr, cd, ca, nI m0, ct, fau, nI (S 999).2.2.1) (nI (m0 + nj))) 0) hY0 hY9 m9 f9 ⟨rfl, rfl, rfl, rfl, rfl, rfl⟩
                              have eX : xs_turn S S 0 ((ms, mb, ra 28, od, pt, ro, gr, cd, ca, nI m0, ct, fau, nI (S 999).2.2.1), a, k) (nI i) (nI j) = (0, qU S i (0, (xTuL gr (S j).1 (S j).2.1), 0, 0), oMv (ms, mb, ra 28, od, pt, ro, gr, cd, ca, nI m0, ct, fau, nI (S 999).2.2.1) (nI (m0 + nj)), a, k) := by unfold xs_turn; rw [if_neg (by rw [ebi, ebj]; decide), ecj, if_neg (by rw [hoj]; decide), eci]; unfold xr_turn; rw [if_neg c54, show oMq (ms, mb, ra 28, od, pt, ro, gr, cd, ca, nI m0, ct, fau, nI (S 999).2.2.1) = nI m0 from rfl, ecm, hlen, if_neg (by omega), nI_add]
                              have q9b := q9.cg (S := S) (qU_ne (by omega)) (xRs_qU (by omega))
                              exact q_vret C hP hS ⟨rfl, A0, S, ad, 0, (show xTok S (nI i) (nI j) S 0 by unfold xTok; rw [if_neg (by unfold xTq; rw [ecj, decide_eq_false c54, Bool.and_false]; decide)]), by rw [eX]; exact ⟨ct, q9b⟩, (r9.ft).sub hA0, fun i9 => if e9 : i9 < (S 999).2.2.1 then Or.inl ⟨e9, rfl⟩ else Or.inr (Or.inr (Nat.le_of_not_lt e9))⟩ (by omega) dX8_turn_338
                            · replace c264 : ¬ nj ≤ ii := fun zq => c264 ((nI_leI (a := nj) (b := ii) (by omega) (by omega)).mpr zq)
                              refine lv_aload_n hx hb dX8_turn_267 rfl (lv_at hl 2 rfl) ?_
                              refine q_get C hP faj rfl inX7 2 (by decide) g1142 rfl dX8_turn_268 ?_
                              refine lv_iconst (v := 3) hx hb dX8_turn_271 (by decide) ?_
                              refine lv_icmp_ne (tgt := 280) hx hb dX8_turn_272 (by decide) (fun c => absurd hk c) (fun _ => ?_)
                              refine lv_iload hx hb dX8_turn_275 (lv_at hl 0 rfl) ?_
                              refine lv_goto (tgt := 287) hx hb dX8_turn_277 (by decide) ?_
                              refine lv_istore (lv' := [(6, .int (nI ii)), (5, .int (nI ii)), (4, .int (nI nj)), (3, .ref (ra j)), (0, .ref y), (1, .int (nI i))]) hx hb dX8_turn_287 hl (by decide) rfl (fun ls hl => ?_)
                              refine lv_aload_n hx hb dX8_turn_289 rfl (lv_at hl 4 rfl) ?_
                              refine q_get C hP hY rfl inX8 2 (by decide) g1169 rfl dX8_turn_290 ?_
                              refine q_get C hP faw rfl inX7 0 (by decide) g1138 rfl dX8_turn_293 ?_
                              refine lv_iload hx hb dX8_turn_296 (lv_at hl 1 rfl) ?_
                              refine lv_aload_n hx hb dX8_turn_298 rfl (lv_at hl 3 rfl) ?_
                              refine q_get C hP faj rfl inX7 2 (by decide) g1142 rfl dX8_turn_299 ?_
                              refine lv_iconst (v := 2) hx hb dX8_turn_302 (by decide) ?_
                              refine lv_icmp_ne (tgt := 316) hx hb dX8_turn_303 (by decide) (fun _ => ?_) (fun c => absurd c (fun z => absurd (hk.symm.trans z) (by decide)))
                              refine lv_aload_n hx hb dX8_turn_316 rfl (lv_at hl 3 rfl) ?_
                              refine q_get C hP faj rfl inX7 1 (by decide) g1140 rfl dX8_turn_317 ?_
                              refine lv_iload hx hb dX8_turn_320 (lv_at hl 0 rfl) ?_
                              refine q_laldN C hP fvj (by omega) (by omega) dX8_turn_322 ?_
                              refine q_lastN C hP hS fkw (by omega) (by omega) dX8_turn_323 (fun H locs hP hS => ?_)
                              obtain ⟨hv19, ehv19⟩ : ∃ z : qH, z = qs hv0 (rk 28) (.inl (cy 1, 1001, .inr (.inl (vp_updL fW ii (Gj ii))))) := ⟨_, rfl⟩
                              rw [← ehv19] at hP
                              have khv19 : ∀ b o, b ≠ (rk 28) → hv0 b = some o → hv19 b = some o := by rw [ehv19]; exact fun b o nb hb => (qs_ne nb).trans hb
                              replace hY := khv19 _ _ (fun q => by have z9 := hY; rw [q] at z9; have := z9.symm.trans fkw; first | cases this | simp at this) hY
                              replace hms := khv19 _ _ (fun q => by have z9 := hms; rw [q] at z9; have := z9.symm.trans fkw; first | cases this | simp at this) hms
                              replace hmb := khv19 _ _ (fun q => by have z9 := hmb; rw [q] at z9; have := z9.symm.trans fkw; first | cases this | simp at this) hmb
                              replace faw := khv19 _ _ (fun q => by have z9 := faw; rw [q] at z9; have := z9.symm.trans fkw; first | cases this | simp at this) faw
                              replace fvw := khv19 _ _ hRw.1.symm fvw
                              replace faj := khv19 _ _ apj.1.2.1 faj
                              replace fkj := khv19 _ _ apj.2.1.2.1 fkj
                              replace fvj := khv19 _ _ apj.2.2.2.1 fvj
                              replace fkw : hv19 (rk 28) = some (.inl (cy 1, 1001, .inr (.inl (vp_updL fW ii (Gj ii))))) := by rw [ehv19]; exact qs_self
                              clear ehv19
                              replace fr := fun b o hb n1 n2 => khv19 b o n2.2.1 (fr b o hb n1 n2)
                              refine lv_iinc (v := nI (ii + 1)) (lv' := [(5, .int (nI (ii + 1))), (6, .int (nI ii)), (4, .int (nI nj)), (3, .ref (ra j)), (0, .ref y), (1, .int (nI i))]) hx hb dX8_turn_324 hl (k := 1) rfl (nI_1 ii) (by decide) rfl (fun ls hl => ?_)
                              refine lv_goto (tgt := 258) hx hb dX8_turn_327 (by decide) ?_
                              have eT : (xTuL gr (S j).1 (S j).2.1)[ii]? = some (Gj ii, 0) := by unfold xTuL; rw [if_pos hk, List.getElem?_map, hLj, qLs_get2 (by omega), xV, if_pos (Or.inr hk)]; rfl
                              exact ihl H locs ls hv19 _ (ii + 1) (by omega) hY hms hmb faw fkw fvw faj fkj fvj fr (fun q9 z => if e : q9 = ii then by (subst e; rw [vp_updL, if_pos rfl]; exact eT) else by (rw [vp_updL, if_neg e]; exact hfW q9 (by omega))) (by omega) (lv_sub hl [0, 2, 3, 4, 5] rfl) hP hS
                      · replace c197 : 1 = 0 := (nI_eq (a := 1) (b := 0) (by omega) (by omega)).mp c197
                        exfalso; omega
                    · rw [if_neg cf]
                      refine lv_iconst (v := nI 3) hx hb dX8_turn_193 (by decide) ?_
                      refine q_callV (rest := []) C (c_X8_good0 l D cy N0 hv3 y ms mb (ra 28) od pt fi re rc rs so ot cn la ro gr 0 ca (nI m0) ct fau cs ce (nI (S 999).2.2.1) (nI 3) hY) kX8_good g1249 g1251 rfl gp41 g4 hP hS hY (by first | decide | omega) hl.1 rfl (by decide) (by first | decide | omega) dX8_turn_194 (fun q ce E h' H1 locs1 hE => hE.elim) (fun v hh14 H locs hq hP hS => ?_)
                      obtain ⟨rfl, rfl⟩ := hq
                      replace hP : qP D N0 (qs hv3 y (.inr (8, [.ref ms, .ref mb, .ref (ra 28), .int gr, .int (nI 3), .int ca, .int (nI m0), .ref od, .ref pt, .int ct, .int fau, .ref fi, .ref re, .int cs, .ref rc, .ref rs, .ref so, .ref ot, .ref cn, .ref la, .int ce, .ref ro, .int (nI (S 999).2.2.1)]))) H := hP
                      obtain ⟨hv20, ehv20⟩ : ∃ z : qH, z = qs hv3 y (.inr (8, [.ref ms, .ref mb, .ref (ra 28), .int gr, .int (nI 3), .int ca, .int (nI m0), .ref od, .ref pt, .int ct, .int fau, .ref fi, .ref re, .int cs, .ref rc, .ref rs, .ref so, .ref ot, .ref cn, .ref la, .int ce, .ref ro, .int (nI (S 999).2.2.1)])) := ⟨_, rfl⟩
                      rw [← ehv20] at hP
                      have khv20 : ∀ b o, b ≠ y → hv3 b = some o → hv20 b = some o := by rw [ehv20]; exact fun b o nb hb => (qs_ne nb).trans hb
                      replace hms := khv20 _ _ (fun q => by subst q; have := hms.symm.trans hY; first | cases this | simp at this) hms
                      replace hmb := khv20 _ _ (fun q => by subst q; have := hmb.symm.trans hY; first | cases this | simp at this) hmb
                      replace faw := khv20 _ _ (fun q => by have z9 := faw; rw [q] at z9; have := z9.symm.trans hY; first | cases this | simp at this) faw
                      replace fkw := khv20 _ _ (fun q => by have z9 := fkw; rw [q] at z9; have := z9.symm.trans hY; first | cases this | simp at this) fkw
                      replace fvw := khv20 _ _ (fun q => by have z9 := fvw; rw [q] at z9; have := z9.symm.trans hY; first | cases this | simp at this) fvw
                      replace faj := khv20 _ _ (fun q => by have z9 := faj; rw [q] at z9; have := z9.symm.trans hY; first | cases this | simp at this) faj
                      replace fkj := khv20 _ _ (fun q => by have z9 := fkj; rw [q] at z9; have := z9.symm.trans hY; first | cases this | simp at this) fkj
                      replace fvj := khv20 _ _ (fun q => by have z9 := fvj; rw [q] at z9; have := z9.symm.trans hY; first | cases this | simp at this) fvj
                      replace hY : hv20 y = some (.inr (8, [.ref ms, .ref mb, .ref (ra 28), .int gr, .int (nI 3), .int ca, .int (nI m0), .ref od, .ref pt, .int ct, .int fau, .ref fi, .ref re, .int cs, .ref rc, .ref rs, .ref so, .ref ot, .ref cn, .ref la, .int ce, .ref ro, .int (nI (S 999).2.2.1)])) := by rw [ehv20]; exact qs_self
                      clear ehv20
                      replace fr := fun b o hb n1 n2 => khv20 b o n1 (fr b o hb n1 n2)
                      refine lv_if_ne (tgt := 201) hx hb dX8_turn_197 (by decide) (fun c197 => ?_) (fun c197 => ?_)
                      · replace c197 : ¬ 0 = 0 := fun zq => c197 ((nI_eq (a := 0) (b := 0) (by omega) (by omega)).mpr zq)
                        exfalso; omega
                      · replace c197 : 0 = 0 := (nI_eq (a := 0) (b := 0) (by omega) (by omega)).mp c197
                        have eX : xs_turn S S 0 ((ms, mb, ra 28, od, pt, ro, gr, cd, ca, nI m0, ct, fau, nI (S 999).2.2.1), a, k) (nI i) (nI j) = (3, S, (ms, mb, ra 28, od, pt, ro, gr, cd, ca, nI m0, ct, fau, nI (S 999).2.2.1), a, k) := by unfold xs_turn; rw [if_neg (by rw [ebi, ebj]; decide), ecj, if_neg (by rw [hoj]; decide), eci]; unfold xr_turn; rw [if_neg c54, show oMq (ms, mb, ra 28, od, pt, ro, gr, cd, ca, nI m0, ct, fau, nI (S 999).2.2.1) = nI m0 from rfl, ecm, hlen, if_pos (by omega)]
                        obtain ⟨m8, f8⟩ := hM.fin0 hY0 (h' := hv20) ⟨hRw.1, hRw.2.1, hRw.2.2.1, faw, fkw, fvw⟩ fr
                        obtain ⟨q8, r8⟩ := hQ.rowM (o' := oCd (ms, mb, ra 28, od, pt, ro, gr, cd, ca, nI m0, ct, fau, nI (S 999).2.2.1) 3) hY0 hY m8 f8 ⟨rfl, rfl, rfl, rfl, rfl, rfl⟩
                        exact q_vret C hP hS ⟨rfl, A0, S, ad, 0, (show xTok S (nI i) (nI j) S 0 by unfold xTok; rw [if_neg (by unfold xTq; rw [ecj, decide_eq_false c54, Bool.and_false]; decide)]), by rw [eX]; exact ⟨ct, q8⟩, (r8.ft).sub hA0, fun i9 => if e9 : i9 < (S 999).2.2.1 then Or.inl ⟨e9, rfl⟩ else Or.inr (Or.inr (Nat.le_of_not_lt e9))⟩ (by omega) dX8_turn_200
                  · refine lv_aload_n hx hb dX8_turn_57 rfl (lv_at hl 0 rfl) ?_
                    refine q_get C hP faj rfl inX7 6 (by decide) g1147 rfl dX8_turn_58 ?_
                    refine lv_if_ge (tgt := 134) hx hb dX8_turn_61 (by decide) (fun c => absurd c (by decide)) (fun _ => ?_)
                    obtain ⟨⟨fro, hro, hfro⟩, nAro, hrow9, hRn9⟩ := id hQ.2.2.2.2.1
                    replace hro : h ro = some (.inl (cy 7, 4100, .inr (.inr (.inr (.inr fro))))) := hro
                    have nro28 := hM.of hro (Or.inr ⟨_, rfl⟩)
                    have hro1 := fr _ _ hro (qne_arr (cy := cy) hro hY0) (nro28 28 (by omega))
                    replace fr : ∀ b o, h b = some o → b ≠ y → qOf (ra 28) (rk 28) (rv 28) b → b ≠ ro → b ≠ ra j → hv3 b = some o := fun b o hb n1 n2 _ _ => fr b o hb n1 n2
                    refine lv_aload_n hx hb dX8_turn_64 rfl (lv_at hl 1 rfl) ?_
                    refine q_get C hP hY rfl inX8 21 (by decide) g1188 rfl dX8_turn_65 ?_
                    refine lv_aload_n hx hb dX8_turn_68 rfl (lv_at hl 1 rfl) ?_
                    refine q_get C hP hY rfl inX8 22 (by decide) g1189 rfl dX8_turn_69 ?_
                    refine lv_aload_n hx hb dX8_turn_72 rfl (lv_at hl 0 rfl) ?_
                    refine q_get C hP faj rfl inX7 3 (by decide) g1143 rfl dX8_turn_73 ?_
                    refine q_newaJN (N := nj) C g67 hP hS (nI_pos (by omega)) (nI_clamp (by omega)) (by omega) (by omega) (by omega) dX8_turn_76 (fun q76 H nN76 eq76 hP hS => ?_)
                    have hh76 := eq76
                    obtain ⟨hv21, ehv21⟩ : ∃ z : qH, z = qs hv3 q76 (.inl (cy 1, nj, .inr (.inl (fun _ => 0)))) := ⟨_, rfl⟩
                    rw [← ehv21] at hP
                    have khv21 : ∀ b o, hv3 b = some o → hv21 b = some o := by rw [ehv21]; exact fun b o hb => (qs_ne (fun z9 => by rw [z9, eq76] at hb; cases hb)).trans hb
                    have nq_y : y ≠ q76 := fun z9 => by have z8 := hY; rw [z9, eq76] at z8; cases z8
                    replace hY := khv21 _ _ hY
                    have nq_ms : ms ≠ q76 := fun z9 => by have z8 := hms; rw [z9, eq76] at z8; cases z8
                    replace hms := khv21 _ _ hms
                    have nq_mb : mb ≠ q76 := fun z9 => by have z8 := hmb; rw [z9, eq76] at z8; cases z8
                    replace hmb := khv21 _ _ hmb
                    have nq_ra28 : (ra 28) ≠ q76 := fun z9 => by have z8 := faw; rw [z9, eq76] at z8; cases z8
                    replace faw := khv21 _ _ faw
                    have nq_rk28 : (rk 28) ≠ q76 := fun z9 => by have z8 := fkw; rw [z9, eq76] at z8; cases z8
                    replace fkw := khv21 _ _ fkw
                    have nq_rv28 : (rv 28) ≠ q76 := fun z9 => by have z8 := fvw; rw [z9, eq76] at z8; cases z8
                    replace fvw := khv21 _ _ fvw
                    have nq_raj : (ra j) ≠ q76 := fun z9 => by have z8 := faj; rw [z9, eq76] at z8; cases z8
                    replace faj := khv21 _ _ faj
                    have nq_rkj : (rk j) ≠ q76 := fun z9 => by have z8 := fkj; rw [z9, eq76] at z8; cases z8
                    replace fkj := khv21 _ _ fkj
                    have nq_rvj : (rv j) ≠ q76 := fun z9 => by have z8 := fvj; rw [z9, eq76] at z8; cases z8
                    replace fvj := khv21 _ _ fvj
                    have nq_ro : ro ≠ q76 := fun z9 => by have z8 := hro1; rw [z9, eq76] at z8; cases z8
                    replace hro1 := khv21 _ _ hro1
                    have hq0 : h q76 = none := by
                      cases hz : h q76 with
                      | none => rfl
                      | some o9 => exact absurd (fr q76 o9 hz nq_y.symm ⟨nq_ra28.symm, nq_rk28.symm, nq_rv28.symm⟩ nq_ro.symm nq_raj.symm) (by rw [eq76]; exact fun z => by cases z)
                    replace fr := fun b o hb n1 n2 n3 n4 => khv21 b o (fr b o hb n1 n2 n3 n4)
                    have fq76 : hv21 q76 = some (.inl (cy 1, nj, .inr (.inl (fun _ => 0)))) := by rw [ehv21]; exact qs_self
                    clear ehv21
                    refine q_aastA C hP hS hro1 fq76 nN76 (show (S 999).2.2.1 < 4100 by omega) (by omega) dX8_turn_78 (fun H locs hP hS => ?_)
                    obtain ⟨hv22, ehv22⟩ : ∃ z : qH, z = qs hv21 ro (.inl (cy 7, 4100, .inr (.inr (.inr (.inr (va_up fro (S 999).2.2.1 (some q76))))))) := ⟨_, rfl⟩
                    rw [← ehv22] at hP
                    have khv22 : ∀ b o, b ≠ ro → hv21 b = some o → hv22 b = some o := by rw [ehv22]; exact fun b o nb hb => (qs_ne nb).trans hb
                    replace hY := khv22 _ _ (fun q => by subst q; have := hY.symm.trans hro1; first | cases this | simp at this) hY
                    replace hms := khv22 _ _ (fun z9 => by rw [z9] at hms; have := hms.symm.trans hro1; simp at this) hms
                    replace hmb := khv22 _ _ (fun z9 => by rw [z9] at hmb; have := hmb.symm.trans hro1; simp at this) hmb
                    replace faw := khv22 _ _ (fun q => by have z9 := faw; rw [q] at z9; have := z9.symm.trans hro1; first | cases this | simp at this) faw
                    replace fkw := khv22 _ _ (fun q => by have z9 := fkw; rw [q] at z9; have := z9.symm.trans hro1; first | cases this | simp at this) fkw
                    replace fvw := khv22 _ _ (fun q => by have z9 := fvw; rw [q] at z9; have := z9.symm.trans hro1; first | cases this | simp at this) fvw
                    replace faj := khv22 _ _ (fun q => by have z9 := faj; rw [q] at z9; have := z9.symm.trans hro1; first | cases this | simp at this) faj
                    replace fkj := khv22 _ _ (fun q => by have z9 := fkj; rw [q] at z9; have := z9.symm.trans hro1; first | cases this | simp at this) fkj
                    replace fvj := khv22 _ _ (fun q => by have z9 := fvj; rw [q] at z9; have := z9.symm.trans hro1; first | cases this | simp at this) fvj
                    replace fq76 := khv22 _ _ (fun q => by subst q; have := fq76.symm.trans hro1; first | cases this | simp at this) fq76
                    replace hro1 : hv22 ro = some (.inl (cy 7, 4100, .inr (.inr (.inr (.inr (va_up fro (S 999).2.2.1 (some q76))))))) := by rw [ehv22]; exact qs_self
                    clear ehv22
                    replace fr := fun b o hb n1 n2 n3 n4 => khv22 b o n3 (fr b o hb n1 n2 n3 n4)
                    refine lv_iconst (v := nI 0) hx hb dX8_turn_79 (by decide) ?_
                    refine lv_istore (lv' := [(4, .int (nI 0)), (3, .ref (ra j)), (0, .ref y), (1, .int (nI i)), (2, .int (nI j))]) hx hb dX8_turn_80 hl (by decide) rfl (fun ls hl => ?_)
                    refine (?_ : ∀ (t : Nat) (H : Heap) (locs : List Loc) (ls : Array Slot) (hv0 : qH) (ii : Nat), nj - ii < t → hv0 y = some (.inr (8, [.ref ms, .ref mb, .ref (ra 28), .int gr, .int 0, .int ca, .int (nI m0), .ref od, .ref pt, .int ct, .int fau, .ref fi, .ref re, .int cs, .ref rc, .ref rs, .ref so, .ref ot, .ref cn, .ref la, .int ce, .ref ro, .int (nI (S 999).2.2.1)])) → hv0 ms = some (.inl (cy 5, 24, .inr (.inr (.inr (.inr (fun i => some (ra i))))))) → hv0 mb = some (.inl (cy 5, 4, .inr (.inr (.inr (.inr (fun i => some (ra (24 + i)))))))) → hv0 (ra 28) = some (.inr (7, [.ref (rk 28), .ref (rv 28), .int kdw, .int (nI nw), .int smw, .int dpw, .int rww])) → hv0 (rk 28) = some (.inl (cy 1, 1001, .inr (.inl fw))) → hv0 (rv 28) = some (.inl (cy 1, 1001, .inr (.inl gw))) → hv0 (ra j) = some (.inr (7, [.ref (rk j), .ref (rv j), .int (S j).1, .int (nI nj), .int (nI (S j).2.2.1), .int (nI (S j).2.2.2), .int (-1)])) → hv0 (rk j) = some (.inl (cy 1, 1001, .inr (.inl Fj))) → hv0 (rv j) = some (.inl (cy 1, 1001, .inr (.inl Gj))) → hv0 ro = some (.inl (cy 7, 4100, .inr (.inr (.inr (.inr (va_up fro (S 999).2.2.1 (some q76))))))) → hv0 q76 = some (.inl (cy 1, nj, .inr (.inl (qGr Fj 0 ii)))) → (∀ b o, h b = some o → b ≠ y → qOf (ra 28) (rk 28) (rv 28) b → b ≠ ro → b ≠ ra j → hv0 b = some o) → ii ≤ nj → lv_has ls 7 [(4, .int (nI ii)), (3, .ref (ra j)), (0, .ref y), (1, .int (nI i))] → qP D N0 hv0 H → va_S (qA N0) s.heap H locs → W p l e _ s m _ below meth c H locs (0 + 1) (0 + nj) _ (F0 m 82 ls [])) _ H locs ls hv22 0 (Nat.lt_succ_self _) hY hms hmb faw fkw fvw faj fkj fvj hro1 (by rw [qGr_0]; exact fq76) fr (Nat.zero_le _) (lv_sub hl [0, 1, 2, 3] rfl) hP hS
                    clear hl hP hS
                    intro t
                    induction t with
                    | zero => intro H locs ls hv0 ii ht; exact absurd ht (Nat.not_lt_zero _)
                    | succ t ihl =>
                      intro H locs ls hv0 ii ht hY hms hmb faw fkw fvw faj fkj fvj hro1 fq76 fr hii hl hP hS
                      refine lv_iload hx hb dX8_turn_82 (lv_at hl 0 rfl) ?_
                      refine lv_aload_n hx hb dX8_turn_84 rfl (lv_at hl 1 rfl) ?_
                      refine q_get C hP faj rfl inX7 3 (by decide) g1143 rfl dX8_turn_85 ?_
                      refine lv_icmp_ge (tgt := 116) hx hb dX8_turn_88 (by decide) (fun c88 => ?_) (fun c88 => ?_)
                      · replace c88 : nj ≤ ii := (nI_leI (a := nj) (b := ii) (by omega) (by omega)).mp c88
                        have eii : ii = nj := by omega
                        rw [eii] at fq76
                        clear ihl
                        refine lv_aload_n hx hb dX8_turn_116 rfl (lv_at hl 1 rfl) ?_
                        refine lv_aload_n hx hb dX8_turn_117 rfl (lv_at hl 2 rfl) ?_
                        refine q_get C hP hY rfl inX8 22 (by decide) g1189 rfl dX8_turn_118 ?_
                        refine q_put C hP hS faj rfl inX7 tyX7 tyX7_ok nmX7 6 (by decide) g1147 rfl rfl rfl (Nat.le_of_ble_eq_true rfl) dX8_turn_121 (fun H locs hP hS => ?_)
                        replace hP : qP D N0 (qs hv0 (ra j) (.inr (7, [.ref (rk j), .ref (rv j), .int (S j).1, .int (nI nj), .int (nI (S j).2.2.1), .int (nI (S j).2.2.2), .int (nI (S 999).2.2.1)]))) H := hP
                        obtain ⟨hv23, ehv23⟩ : ∃ z : qH, z = qs hv0 (ra j) (.inr (7, [.ref (rk j), .ref (rv j), .int (S j).1, .int (nI nj), .int (nI (S j).2.2.1), .int (nI (S j).2.2.2), .int (nI (S 999).2.2.1)])) := ⟨_, rfl⟩
                        rw [← ehv23] at hP
                        have khv23 : ∀ b o, b ≠ (ra j) → hv0 b = some o → hv23 b = some o := by rw [ehv23]; exact fun b o nb hb => (qs_ne nb).trans hb
                        replace hY := khv23 _ _ (fun q => by have z9 := hY; rw [q] at z9; have := z9.symm.trans faj; first | cases this | simp at this) hY
                        replace hms := khv23 _ _ (fun q => by have z9 := hms; rw [q] at z9; have := z9.symm.trans faj; first | cases this | simp at this) hms
                        replace hmb := khv23 _ _ (fun q => by have z9 := hmb; rw [q] at z9; have := z9.symm.trans faj; first | cases this | simp at this) hmb
                        replace faw := khv23 _ _ (Ne.symm apj.1.1) faw
                        replace fkw := khv23 _ _ (fun q => by have z9 := fkw; rw [q] at z9; have := z9.symm.trans faj; first | cases this | simp at this) fkw
                        replace fvw := khv23 _ _ (fun q => by have z9 := fvw; rw [q] at z9; have := z9.symm.trans faj; first | cases this | simp at this) fvw
                        replace fkj := khv23 _ _ (fun q => by have z9 := fkj; rw [q] at z9; have := z9.symm.trans faj; first | cases this | simp at this) fkj
                        replace fvj := khv23 _ _ (fun q => by have z9 := fvj; rw [q] at z9; have := z9.symm.trans faj; first | cases this | simp at this) fvj
                        replace hro1 := khv23 _ _ (fun q => by have z9 := hro1; rw [q] at z9; have := z9.symm.trans faj; first | cases this | simp at this) hro1
                        replace fq76 := khv23 _ _ (fun q => by have z9 := fq76; rw [q] at z9; have := z9.symm.trans faj; first | cases this | simp at this) fq76
                        replace faj : hv23 (ra j) = some (.inr (7, [.ref (rk j), .ref (rv j), .int (S j).1, .int (nI nj), .int (nI (S j).2.2.1), .int (nI (S j).2.2.2), .int (nI (S 999).2.2.1)])) := by rw [ehv23]; exact qs_self
                        clear ehv23
                        replace fr := fun b o hb n1 n2 n3 n4 => khv23 b o n4 (fr b o hb n1 n2 n3 n4)
                        refine lv_aload_n hx hb dX8_turn_124 rfl (lv_at hl 2 rfl) ?_
                        refine lv_dup hx hb dX8_turn_125 rfl ?_
                        refine q_get C hP hY rfl inX8 22 (by decide) g1189 rfl dX8_turn_126 ?_
                        refine lv_iconst (v := nI 1) hx hb dX8_turn_129 (by decide) ?_
                        refine q_iaddN hx hb dX8_turn_130 ?_
                        refine q_put C hP hS hY rfl inX8 tyX8 tyX8_ok nmX8 22 (by decide) g1189 rfl rfl rfl (Nat.le_of_ble_eq_true rfl) dX8_turn_131 (fun H locs hP hS => ?_)
                        replace hP : qP D N0 (qs hv23 y (.inr (8, [.ref ms, .ref mb, .ref (ra 28), .int gr, .int 0, .int ca, .int (nI m0), .ref od, .ref pt, .int ct, .int fau, .ref fi, .ref re, .int cs, .ref rc, .ref rs, .ref so, .ref ot, .ref cn, .ref la, .int ce, .ref ro, .int (nI ((S 999).2.2.1 + 1))]))) H := hP
                        obtain ⟨hv24, ehv24⟩ : ∃ z : qH, z = qs hv23 y (.inr (8, [.ref ms, .ref mb, .ref (ra 28), .int gr, .int 0, .int ca, .int (nI m0), .ref od, .ref pt, .int ct, .int fau, .ref fi, .ref re, .int cs, .ref rc, .ref rs, .ref so, .ref ot, .ref cn, .ref la, .int ce, .ref ro, .int (nI ((S 999).2.2.1 + 1))])) := ⟨_, rfl⟩
                        rw [← ehv24] at hP
                        have khv24 : ∀ b o, b ≠ y → hv23 b = some o → hv24 b = some o := by rw [ehv24]; exact fun b o nb hb => (qs_ne nb).trans hb
                        replace hms := khv24 _ _ (fun q => by subst q; have := hms.symm.trans hY; first | cases this | simp at this) hms
                        replace hmb := khv24 _ _ (fun q => by subst q; have := hmb.symm.trans hY; first | cases this | simp at this) hmb
                        replace faw := khv24 _ _ (fun q => by have z9 := faw; rw [q] at z9; have := z9.symm.trans hY; first | cases this | simp at this) faw
                        replace fkw := khv24 _ _ (fun q => by have z9 := fkw; rw [q] at z9; have := z9.symm.trans hY; first | cases this | simp at this) fkw
                        replace fvw := khv24 _ _ (fun q => by have z9 := fvw; rw [q] at z9; have := z9.symm.trans hY; first | cases this | simp at this) fvw
                        replace faj := khv24 _ _ (fun q => by have z9 := faj; rw [q] at z9; have := z9.symm.trans hY; first | cases this | simp at this) faj
                        replace fkj := khv24 _ _ (fun q => by have z9 := fkj; rw [q] at z9; have := z9.symm.trans hY; first | cases this | simp at this) fkj
                        replace fvj := khv24 _ _ (fun q => by have z9 := fvj; rw [q] at z9; have := z9.symm.trans hY; first | cases this | simp at this) fvj
                        replace hro1 := khv24 _ _ (fun q => by subst q; have := hro1.symm.trans hY; first | cases this | simp at this) hro1
                        replace fq76 := khv24 _ _ (fun q => by subst q; have := fq76.symm.trans hY; first | cases this | simp at this) fq76
                        replace hY : hv24 y = some (.inr (8, [.ref ms, .ref mb, .ref (ra 28), .int gr, .int 0, .int ca, .int (nI m0), .ref od, .ref pt, .int ct, .int fau, .ref fi, .ref re, .int cs, .ref rc, .ref rs, .ref so, .ref ot, .ref cn, .ref la, .int ce, .ref ro, .int (nI ((S 999).2.2.1 + 1))])) := by rw [ehv24]; exact qs_self
                        clear ehv24
                        replace fr := fun b o hb n1 n2 n3 n4 => khv24 b o n1 (fr b o hb n1 n2 n3 n4)
                        obtain ⟨q8, r8⟩ := hQ.ext (nw := 0) (o' := oCd (oRn (ms, mb, ra 28, od, pt, ro, gr, cd, ca, nI m0, ct, fau, nI (S 999).2.2.1) (nI ((S 999).2.2.1 + 1))) 0) hY0 hj hAd hro hfro (by omega) (by omega) hLj hY ⟨rfl, rfl, rfl, rfl, rfl, rfl⟩ hq0 hro1 fq76 ⟨hRj.1, hRj.2.1, hRj.2.2.1, faj, fkj, fvj⟩ ⟨hRw.1, hRw.2.1, hRw.2.2.1, faw, fkw, fvw⟩ fr
                        have hR1 : ((xTl S j) 999).2.2.1 = (S 999).2.2.1 + 1 := xTl_n
                        have hV9 : qWv Bd sl ((S 999).2.2.1 + 1) dp ((ms, mb, ra 28, od, pt, ro, gr, cd, ca, nI m0, ct, fau, nI (S 999).2.2.1), a, k) := hV.rows
                        have htok : xTok S (nI i) (nI j) (xTl S j) (S 999).2.2.1 := by unfold xTok; rw [if_pos (by unfold xTq; rw [ebi, ebj, ecj]; exact decide_eq_true c54)]; rw [ecj, xTl_n]; exact ⟨Or.inr rfl, by omega, by rw [xRs_tl _ (by omega), qU_at]⟩
                        have hrl : xRs (xTl S j) (S 999).2.2.1 = (S j).2.1.map Prod.fst := by rw [xRs_tl _ (by omega), qU_at]
                        have hY1 := hY
                        replace hY0 := hY
                        replace hM : qMR cy hv24 ms mb (ra 28) ra rk rv (xTl S j) := q8.2.2.1
                        replace hrs := hM.2.2.2.2.1
                        replace hrs : ∀ i, i < 28 → qRA cy hv24 (ra i) (rk i) (rv i) (S i) (xRo (xTl S j) i) := fun i hi => by have z := hrs i hi; rw [xTl_lo (by omega)] at z; exact z
                        replace hRw : qRw cy hv24 (ra 28) (rk 28) (rv 28) kdw (nI nw) smw dpw rww fw gw := ⟨hRw.1, hRw.2.1, hRw.2.2.1, faw, fkw, fvw⟩
                        replace fr : ∀ b o, hv24 b = some o → b ≠ y → qOf (ra 28) (rk 28) (rv 28) b → hv24 b = some o := fun b o hb _ _ => hb
                        refine lv_aload_n hx hb dX8_turn_134 rfl (lv_at hl 2 rfl) ?_
                        refine q_get C hP hY rfl inX8 2 (by decide) g1169 rfl dX8_turn_135 ?_
                        refine lv_bipush (v := nI 6) hx hb dX8_turn_138 (by decide) ?_
                        refine q_put C hP hS faw rfl inX7 tyX7 tyX7_ok nmX7 2 (by decide) g1142 rfl rfl rfl (Nat.le_of_ble_eq_true rfl) dX8_turn_140 (fun H locs hP hS => ?_)
                        replace hP : qP D N0 (qs hv24 (ra 28) (.inr (7, [.ref (rk 28), .ref (rv 28), .int (nI 6), .int (nI nw), .int smw, .int dpw, .int rww]))) H := hP
                        obtain ⟨hv25, ehv25⟩ : ∃ z : qH, z = qs hv24 (ra 28) (.inr (7, [.ref (rk 28), .ref (rv 28), .int (nI 6), .int (nI nw), .int smw, .int dpw, .int rww])) := ⟨_, rfl⟩
                        rw [← ehv25] at hP
                        have khv25 : ∀ b o, b ≠ (ra 28) → hv24 b = some o → hv25 b = some o := by rw [ehv25]; exact fun b o nb hb => (qs_ne nb).trans hb
                        replace hY := khv25 _ _ (fun q => by have z9 := hY; rw [q] at z9; have := z9.symm.trans faw; first | cases this | simp at this) hY
                        replace hms := khv25 _ _ (fun q => by have z9 := hms; rw [q] at z9; have := z9.symm.trans faw; first | cases this | simp at this) hms
                        replace hmb := khv25 _ _ (fun q => by have z9 := hmb; rw [q] at z9; have := z9.symm.trans faw; first | cases this | simp at this) hmb
                        replace fkw := khv25 _ _ (fun q => by have z9 := fkw; rw [q] at z9; have := z9.symm.trans faw; first | cases this | simp at this) fkw
                        replace fvw := khv25 _ _ (fun q => by have z9 := fvw; rw [q] at z9; have := z9.symm.trans faw; first | cases this | simp at this) fvw
                        replace faj := khv25 _ _ apj.1.1 faj
                        replace fkj := khv25 _ _ apj.2.1.1 fkj
                        replace fvj := khv25 _ _ apj.2.2.1 fvj
                        replace faw : hv25 (ra 28) = some (.inr (7, [.ref (rk 28), .ref (rv 28), .int (nI 6), .int (nI nw), .int smw, .int dpw, .int rww])) := by rw [ehv25]; exact qs_self
                        clear ehv25
                        replace fr := fun b o hb n1 n2 => khv25 b o n2.1 (fr b o hb n1 n2)
                        refine lv_aload_n hx hb dX8_turn_143 rfl (lv_at hl 2 rfl) ?_
                        refine q_get C hP hY rfl inX8 2 (by decide) g1169 rfl dX8_turn_144 ?_
                        refine lv_iconst (v := nI 0) hx hb dX8_turn_147 (by decide) ?_
                        refine q_put C hP hS faw rfl inX7 tyX7 tyX7_ok nmX7 3 (by decide) g1143 rfl rfl rfl (Nat.le_of_ble_eq_true rfl) dX8_turn_148 (fun H locs hP hS => ?_)
                        replace hP : qP D N0 (qs hv25 (ra 28) (.inr (7, [.ref (rk 28), .ref (rv 28), .int (nI 6), .int (nI 0), .int smw, .int dpw, .int rww]))) H := hP
                        obtain ⟨hv26, ehv26⟩ : ∃ z : qH, z = qs hv25 (ra 28) (.inr (7, [.ref (rk 28), .ref (rv 28), .int (nI 6), .int (nI 0), .int smw, .int dpw, .int rww])) := ⟨_, rfl⟩
                        rw [← ehv26] at hP
                        have khv26 : ∀ b o, b ≠ (ra 28) → hv25 b = some o → hv26 b = some o := by rw [ehv26]; exact fun b o nb hb => (qs_ne nb).trans hb
                        replace hY := khv26 _ _ (fun q => by have z9 := hY; rw [q] at z9; have := z9.symm.trans faw; first | cases this | simp at this) hY
                        replace hms := khv26 _ _ (fun q => by have z9 := hms; rw [q] at z9; have := z9.symm.trans faw; first | cases this | simp at this) hms
                        replace hmb := khv26 _ _ (fun q => by have z9 := hmb; rw [q] at z9; have := z9.symm.trans faw; first | cases this | simp at this) hmb
                        replace fkw := khv26 _ _ (fun q => by have z9 := fkw; rw [q] at z9; have := z9.symm.trans faw; first | cases this | simp at this) fkw
                        replace fvw := khv26 _ _ (fun q => by have z9 := fvw; rw [q] at z9; have := z9.symm.trans faw; first | cases this | simp at this) fvw
                        replace faj := khv26 _ _ apj.1.1 faj
                        replace fkj := khv26 _ _ apj.2.1.1 fkj
                        replace fvj := khv26 _ _ apj.2.2.1 fvj
                        replace faw : hv26 (ra 28) = some (.inr (7, [.ref (rk 28), .ref (rv 28), .int (nI 6), .int (nI 0), .int smw, .int dpw, .int rww])) := by rw [ehv26]; exact qs_self
                        clear ehv26
                        replace fr := fun b o hb n1 n2 => khv26 b o n2.1 (fr b o hb n1 n2)
                        refine lv_aload_n hx hb dX8_turn_151 rfl (lv_at hl 2 rfl) ?_
                        refine q_get C hP hY rfl inX8 2 (by decide) g1169 rfl dX8_turn_152 ?_
                        refine lv_iconst (v := nI 0) hx hb dX8_turn_155 (by decide) ?_
                        refine q_put C hP hS faw rfl inX7 tyX7 tyX7_ok nmX7 5 (by decide) g1145 rfl rfl rfl (Nat.le_of_ble_eq_true rfl) dX8_turn_156 (fun H locs hP hS => ?_)
                        replace hP : qP D N0 (qs hv26 (ra 28) (.inr (7, [.ref (rk 28), .ref (rv 28), .int (nI 6), .int (nI 0), .int smw, .int (nI 0), .int rww]))) H := hP
                        obtain ⟨hv27, ehv27⟩ : ∃ z : qH, z = qs hv26 (ra 28) (.inr (7, [.ref (rk 28), .ref (rv 28), .int (nI 6), .int (nI 0), .int smw, .int (nI 0), .int rww])) := ⟨_, rfl⟩
                        rw [← ehv27] at hP
                        have khv27 : ∀ b o, b ≠ (ra 28) → hv26 b = some o → hv27 b = some o := by rw [ehv27]; exact fun b o nb hb => (qs_ne nb).trans hb
                        replace hY := khv27 _ _ (fun q => by have z9 := hY; rw [q] at z9; have := z9.symm.trans faw; first | cases this | simp at this) hY
                        replace hms := khv27 _ _ (fun q => by have z9 := hms; rw [q] at z9; have := z9.symm.trans faw; first | cases this | simp at this) hms
                        replace hmb := khv27 _ _ (fun q => by have z9 := hmb; rw [q] at z9; have := z9.symm.trans faw; first | cases this | simp at this) hmb
                        replace fkw := khv27 _ _ (fun q => by have z9 := fkw; rw [q] at z9; have := z9.symm.trans faw; first | cases this | simp at this) fkw
                        replace fvw := khv27 _ _ (fun q => by have z9 := fvw; rw [q] at z9; have := z9.symm.trans faw; first | cases this | simp at this) fvw
                        replace faj := khv27 _ _ apj.1.1 faj
                        replace fkj := khv27 _ _ apj.2.1.1 fkj
                        replace fvj := khv27 _ _ apj.2.2.1 fvj
                        replace faw : hv27 (ra 28) = some (.inr (7, [.ref (rk 28), .ref (rv 28), .int (nI 6), .int (nI 0), .int smw, .int (nI 0), .int rww])) := by rw [ehv27]; exact qs_self
                        clear ehv27
                        replace fr := fun b o hb n1 n2 => khv27 b o n2.1 (fr b o hb n1 n2)
                        refine lv_aload_n hx hb dX8_turn_159 rfl (lv_at hl 2 rfl) ?_
                        refine q_get C hP hY rfl inX8 2 (by decide) g1169 rfl dX8_turn_160 ?_
                        refine lv_aload_n hx hb dX8_turn_163 rfl (lv_at hl 2 rfl) ?_
                        refine lv_aload_n hx hb dX8_turn_164 rfl (lv_at hl 1 rfl) ?_
                        refine q_get C hP faj rfl inX7 6 (by decide) g1147 rfl dX8_turn_165 ?_
                        refine lv_iconst (v := nI 0) hx hb dX8_turn_168 (by decide) ?_
                        have hL8 := (hV.L hB).1
                        have hLn := (hV.L hB).2
                        obtain ⟨m7, f7⟩ := hM.fin0 hY0 (h' := hv27) ⟨hRw.1, hRw.2.1, hRw.2.2.1, faw, fkw, fvw⟩ fr
                        obtain ⟨q6, r6⟩ := q8.rowM (o' := (oCd (oRn (ms, mb, ra 28, od, pt, ro, gr, cd, ca, nI m0, ct, fau, nI (S 999).2.2.1) (nI ((S 999).2.2.1 + 1))) 0)) hY0 hY m7 f7 ⟨rfl, rfl, rfl, rfl, rfl, rfl⟩
                        have r5 := r8.tr9 q8 rfl rfl r6.ft
                        obtain ⟨T9, eT9⟩ : ∃ z, xRow (xRs (xTl S j)) ((oCd (oRn (ms, mb, ra 28, od, pt, ro, gr, cd, ca, nI m0, ct, fau, nI (S 999).2.2.1) (nI ((S 999).2.2.1 + 1))) 0), a, k) (S 999).2.2.1 0 = z := ⟨_, rfl⟩
                        have hV7 : qWv Bd sl (S 999).2.2.1 dp ((oCd (oRn (ms, mb, ra 28, od, pt, ro, gr, cd, ca, nI m0, ct, fau, nI (S 999).2.2.1) (nI ((S 999).2.2.1 + 1))) 0), a, k) := hV.obj rfl
                        obtain ⟨ep1, ep2⟩ := xRow_P (R := xRs (xTl S j)) hV7 (row := (S 999).2.2.1) (j := 0)
                        rw [eT9] at ep1 ep2
                        have eo9 : T9.2.1 = (oCd (oRn (ms, mb, ra 28, od, pt, ro, gr, cd, ca, nI m0, ct, fau, nI (S 999).2.2.1) (nI ((S 999).2.2.1 + 1))) 0) := by rw [← eT9]; exact xRow_o
                        have epX : qP1 X = qP1 T9.2.2.1 ∧ qP2 X = qP2 T9.2.2.1 := by rw [← hX, ← eT9]; exact xTa_P (by rw [ebi, ebj]; rfl) (by rw [ecj]; exact c54) (by rw [ecj]; exact hrl)
                        have hcall := w_ofRow l D cy N0 hv27 y A0 (oCd (oRn (ms, mb, ra 28, od, pt, ro, gr, cd, ca, nI m0, ct, fau, nI (S 999).2.2.1) (nI ((S 999).2.2.1 + 1))) 0) a k (xRs (xTl S j)) (qU ad (S 999).2.2.1 q76) (xTl S j 999).2.2.1 (S 999).2.2.1 0 q6.1 q6.2.1 hL8 q6.2.2.2.2.1 (by omega) (by omega)
                        rw [eT9] at hcall
                        refine q_callV (rest := [.ref (ra 28)]) C (hcall) kX8_ofRow g1343 g1345 rfl gp53 g4 hP hS hY (by first | decide | omega) hl.1 rfl (by simp [q_catrf, q_cati, q_catl, q_cata, q_catn]) (by first | decide | omega) dX8_turn_169 (fun q ce E h' H1 locs1 hE => hE.elim) (fun v hh15 H locs hq hP hS => ?_)
                        obtain ⟨rfl, A1, hS1, hF1, nA1⟩ := hq
                        obtain ⟨s2, o2, a2, k2⟩ := T9
                        dsimp only at eo9 hS1 hF1 ep1 ep2 epX eT9
                        subst eo9
                        have ap9 := q6.2.2.2.2.2
                        replace hms := hF1.1 _ _ hms (qne_arr (cy := cy) hms hY) ap9.two.1
                        replace hmb := hF1.1 _ _ hmb (qne_arr (cy := cy) hmb hY) ap9.two.2
                        replace faw := hF1.1 _ _ faw (fun z => by rw [z] at faw; have := faw.symm.trans hY; cases this) (ap9.row (i := 28) (by omega)).1
                        replace fkw := hF1.1 _ _ fkw (qne_arr (cy := cy) fkw hY) (ap9.row (i := 28) (by omega)).2.1
                        replace fvw := hF1.1 _ _ fvw (qne_arr (cy := cy) fvw hY) (ap9.row (i := 28) (by omega)).2.2
                        replace faj := hF1.1 _ _ faj (fun z => by rw [z] at faj; have := faj.symm.trans hY; cases this) (ap9.row (i := j) (by omega)).1
                        replace fkj := hF1.1 _ _ fkj (qne_arr (cy := cy) fkj hY) (ap9.row (i := j) (by omega)).2.1
                        replace fvj := hF1.1 _ _ fvj (qne_arr (cy := cy) fvj hY) (ap9.row (i := j) (by omega)).2.2
                        obtain ⟨q7a, r7a⟩ := q6.str hS1 hF1 nA1 ⟨rfl, rfl, rfl, rfl, rfl, rfl⟩
                        have rta := r5.tr9 q6 rfl rfl r7a.ft
                        clear hY
                        obtain ⟨fja, rja, rcja, rsja, soja, otja, cnja, laja, hY⟩ := q7a.1.yo2
                        unfold qYo at hY
                        dsimp only [oFa, oMv, oCa, oCd, oRn] at hY
                        have hY0 := hY
                        have hM := q7a.2.2.1
                        have hrs := hM.2.2.2.2.1
                        replace hRw : qRw cy hh15 (ra 28) (rk 28) (rv 28) (nI 6) (nI 0) smw (nI 0) rww fw gw := ⟨hRw.1, hRw.2.1, hRw.2.2.1, faw, fkw, fvw⟩
                        replace fr : ∀ b o, hh15 b = some o → b ≠ y → qOf (ra 28) (rk 28) (rv 28) b → hh15 b = some o := fun b o hb _ _ => hb
                        replace hrs : ∀ i, i < 28 → qRA cy hh15 (ra i) (rk i) (rv i) (S i) (xRo (xTl S j) i) := fun i hi => by have z := hrs i hi; rw [xTl_lo (by omega)] at z; exact z
                        refine q_put C hP hS faw rfl inX7 tyX7 tyX7_ok nmX7 4 (by decide) g1144 rfl rfl rfl (Nat.le_of_ble_eq_true rfl) dX8_turn_172 (fun H locs hP hS => ?_)
                        replace hP : qP D N0 (qs hh15 (ra 28) (.inr (7, [.ref (rk 28), .ref (rv 28), .int (nI 6), .int (nI 0), .int (nI s2), .int (nI 0), .int rww]))) H := hP
                        obtain ⟨hv28, ehv28⟩ : ∃ z : qH, z = qs hh15 (ra 28) (.inr (7, [.ref (rk 28), .ref (rv 28), .int (nI 6), .int (nI 0), .int (nI s2), .int (nI 0), .int rww])) := ⟨_, rfl⟩
                        rw [← ehv28] at hP
                        have khv28 : ∀ b o, b ≠ (ra 28) → hh15 b = some o → hv28 b = some o := by rw [ehv28]; exact fun b o nb hb => (qs_ne nb).trans hb
                        replace hY := khv28 _ _ (fun q => by have z9 := hY; rw [q] at z9; have := z9.symm.trans faw; first | cases this | simp at this) hY
                        replace hms := khv28 _ _ (fun q => by have z9 := hms; rw [q] at z9; have := z9.symm.trans faw; first | cases this | simp at this) hms
                        replace hmb := khv28 _ _ (fun q => by have z9 := hmb; rw [q] at z9; have := z9.symm.trans faw; first | cases this | simp at this) hmb
                        replace fkw := khv28 _ _ (fun q => by have z9 := fkw; rw [q] at z9; have := z9.symm.trans faw; first | cases this | simp at this) fkw
                        replace fvw := khv28 _ _ (fun q => by have z9 := fvw; rw [q] at z9; have := z9.symm.trans faw; first | cases this | simp at this) fvw
                        replace faj := khv28 _ _ apj.1.1 faj
                        replace fkj := khv28 _ _ apj.2.1.1 fkj
                        replace fvj := khv28 _ _ apj.2.2.1 fvj
                        replace faw : hv28 (ra 28) = some (.inr (7, [.ref (rk 28), .ref (rv 28), .int (nI 6), .int (nI 0), .int (nI s2), .int (nI 0), .int rww])) := by rw [ehv28]; exact qs_self
                        clear ehv28
                        replace fr := fun b o hb n1 n2 => khv28 b o n2.1 (fr b o hb n1 n2)
                        refine lv_aload_n hx hb dX8_turn_175 rfl (lv_at hl 2 rfl) ?_
                        refine lv_iload_n hx hb dX8_turn_176 rfl (lv_at hl 3 rfl) ?_
                        refine lv_iconst (v := nI 0) hx hb dX8_turn_177 (by decide) ?_
                        obtain ⟨ni, rwi, Fi, Gi, hRi, hni, hLi, hKi⟩ := hrs i (by omega)
                        have api := hRi.apart hRw (hmd.two (i := i) (j := 28) (by omega) (by omega) (by omega))
                        replace hRi := hRi.keep2 (fun b o hb ho => fr b o ho (hRi.ney hY0 hb) (hb.elim (fun q => q ▸ api.1) (fun hb => hb.elim (fun q => q ▸ api.2.1) (fun q => q ▸ api.2.2))))
                        have fai := hRi.2.2.2.1
                        have fki := hRi.2.2.2.2.1
                        have fvi := hRi.2.2.2.2.2
                        unfold qRb at fai
                        unfold qJr at fki fvi
                        refine q_callV (rest := []) C (c_X8_done l D cy N0 hv28 y ms mb od pt fja rja rcja rsja soja otja cnja laja ro gr 0 ca (nI m0) ct fau (nI a2.1) (nI k2.1) (nI ((S 999).2.2.1 + 1)) ra rk rv i (nI 0) (nI 6) (nI s2) (nI 0) rww 0 fw gw (S i).1 (nI (S i).2.2.1) (nI (S i).2.2.2) rwi ni Fi Gi hY hms hmd ⟨hRw.1, hRw.2.1, hRw.2.2.1, faw, fkw, fvw⟩ ⟨hRi.1, hRi.2.1, hRi.2.2.1, fai, fki, fvi⟩ (by omega) (by omega)) kX8_done g1293 g1295 rfl gp45 g4 hP hS hY (by first | decide | omega) hl.1 rfl (by decide) (by first | decide | omega) dX8_turn_178 (fun q ce E h' H1 locs1 hE => hE.elim) (fun v hh16 H locs hq hP hS => ?_)
                        obtain ⟨rfl, hY9, hw9, hi9, fr9⟩ := hq
                        replace fr := fun b o hb n1 n2 n3 => fr9 b o (fr b o hb n1 n2) n1 n2 n3
                        rw [show (nI m0) + nI 0 = (nI m0) from Int32.add_zero _] at hY9
                        refine lv_pop hx hb dX8_turn_181 rfl ?_
                        obtain ⟨m9, f9⟩ := hM.fin hY0 (i := i) (by omega) (s := (6, [], s2, 0)) ⟨0, _, _, _, hi9, by omega, rfl, Or.inl rfl⟩ hw9 fr
                        obtain ⟨q9, r9⟩ := q7a.rowM (o' := (oCd (oRn (ms, mb, ra 28, od, pt, ro, gr, cd, ca, nI m0, ct, fau, nI (S 999).2.2.1) (nI ((S 999).2.2.1 + 1))) 0)) hY0 hY9 m9 f9 ⟨rfl, rfl, rfl, rfl, rfl, rfl⟩
                        have eX : xs_turn S (xTl S j) (S 999).2.2.1 ((ms, mb, ra 28, od, pt, ro, gr, cd, ca, nI m0, ct, fau, nI (S 999).2.2.1), a, k) (nI i) (nI j) = (0, qU (xTl S j) i (6, [], s2, 0), (ms, mb, ra 28, od, pt, ro, gr, cd, ca, nI m0, ct, fau, nI (S 999).2.2.1), a2, k2) := by unfold xs_turn; rw [if_neg (by rw [ebi, ebj]; decide), ecj, if_neg (by rw [hoj]; decide), eci]; unfold xr_turn; rw [if_pos c54, xRow_w (o' := (oCd (oRn (ms, mb, ra 28, od, pt, ro, gr, cd, ca, nI m0, ct, fau, nI (S 999).2.2.1) (nI ((S 999).2.2.1 + 1))) 0)), eT9]
                        have q9b := q9.cg (S := (xTl S j)) (qU_ne (by omega)) (xRs_qU (by omega))
                        exact q_vret C hP hS ⟨rfl, A1, (xTl S j), (qU ad (S 999).2.2.1 q76), (S 999).2.2.1, htok, by rw [eX]; exact ⟨ct, by rw [xTl_n]; exact q9b⟩, (rta.tr9 q7a rfl rfl r9.ft).sub hA0, fun i9 => if e9 : i9 < (S 999).2.2.1 then Or.inl ⟨e9, qU_ne (by omega)⟩ else if e8 : i9 = (S 999).2.2.1 then Or.inr (Or.inl (by rw [e8, qU_at]; exact hq0)) else Or.inr (Or.inr (by rw [xTl_n]; omega))⟩ (by omega) dX8_turn_182
                      · replace c88 : ¬ nj ≤ ii := fun zq => c88 ((nI_leI (a := nj) (b := ii) (by omega) (by omega)).mpr zq)
                        refine lv_aload_n hx hb dX8_turn_91 rfl (lv_at hl 2 rfl) ?_
                        refine q_get C hP hY rfl inX8 21 (by decide) g1188 rfl dX8_turn_92 ?_
                        refine lv_aload_n hx hb dX8_turn_95 rfl (lv_at hl 2 rfl) ?_
                        refine q_get C hP hY rfl inX8 22 (by decide) g1189 rfl dX8_turn_96 ?_
                        refine q_aaldA C hP hro1 rfl (show (S 999).2.2.1 < 4100 by omega) (by omega) (show va_up fro (S 999).2.2.1 (some q76) (S 999).2.2.1 = some q76 from if_pos rfl) dX8_turn_99 ?_
                        refine lv_iload hx hb dX8_turn_100 (lv_at hl 0 rfl) ?_
                        refine lv_aload_n hx hb dX8_turn_102 rfl (lv_at hl 1 rfl) ?_
                        refine q_get C hP faj rfl inX7 0 (by decide) g1138 rfl dX8_turn_103 ?_
                        refine lv_iload hx hb dX8_turn_106 (lv_at hl 0 rfl) ?_
                        refine q_laldN C hP fkj (by omega) (by omega) dX8_turn_108 ?_
                        refine q_lastN C hP hS fq76 (by omega) (by omega) dX8_turn_109 (fun H locs hP hS => ?_)
                        obtain ⟨hv29, ehv29⟩ : ∃ z : qH, z = qs hv0 q76 (.inl (cy 1, nj, .inr (.inl (vp_updL (qGr Fj 0 ii) ii (Fj ii))))) := ⟨_, rfl⟩
                        rw [← ehv29] at hP
                        have khv29 : ∀ b o, b ≠ q76 → hv0 b = some o → hv29 b = some o := by rw [ehv29]; exact fun b o nb hb => (qs_ne nb).trans hb
                        replace hY := khv29 _ _ (fun q => by subst q; have := hY.symm.trans fq76; first | cases this | simp at this) hY
                        replace hms := khv29 _ _ (fun q => by subst q; have := hms.symm.trans fq76; first | cases this | simp at this) hms
                        replace hmb := khv29 _ _ (fun q => by subst q; have := hmb.symm.trans fq76; first | cases this | simp at this) hmb
                        replace faw := khv29 _ _ (fun q => by have z9 := faw; rw [q] at z9; have := z9.symm.trans fq76; first | cases this | simp at this) faw
                        replace fkw := khv29 _ _ nq_rk28 fkw
                        replace fvw := khv29 _ _ nq_rv28 fvw
                        replace faj := khv29 _ _ (fun q => by have z9 := faj; rw [q] at z9; have := z9.symm.trans fq76; first | cases this | simp at this) faj
                        replace fkj := khv29 _ _ nq_rkj fkj
                        replace fvj := khv29 _ _ nq_rvj fvj
                        replace hro1 := khv29 _ _ (fun q => by subst q; have := hro1.symm.trans fq76; first | cases this | simp at this) hro1
                        replace fq76 : hv29 q76 = some (.inl (cy 1, nj, .inr (.inl (vp_updL (qGr Fj 0 ii) ii (Fj ii))))) := by rw [ehv29]; exact qs_self
                        clear ehv29
                        replace fr := fun b o hb n1 n2 n3 n4 => khv29 b o (qne_of hq0 hb) (fr b o hb n1 n2 n3 n4)
                        refine lv_iinc (v := nI (ii + 1)) (lv' := [(4, .int (nI (ii + 1))), (3, .ref (ra j)), (0, .ref y), (1, .int (nI i))]) hx hb dX8_turn_110 hl (k := 0) rfl (nI_1 ii) (by decide) rfl (fun ls hl => ?_)
                        refine lv_goto (tgt := 82) hx hb dX8_turn_113 (by decide) ?_
                        rw [qGr_l] at fq76
                        exact ihl H locs ls hv29 (ii + 1) (by omega) hY hms hmb faw fkw fvw faj fkj fvj hro1 fq76 fr (by omega) (lv_sub hl [0, 1, 2, 3] rfl) hP hS
                · subst erw
                  have hrr2 : rr < 4100 := by have := hQ.2.2.2.2.1.2.2.2; omega
                  refine lv_aload_n hx hb dX8_turn_50 rfl (lv_at hl 0 rfl) ?_
                  refine q_get C hP faj rfl inX7 2 (by decide) g1142 rfl dX8_turn_51 ?_
                  refine lv_if_ne (tgt := 183) hx hb dX8_turn_54 (by decide) (fun c54 => ?_) (fun c54 => ?_)
                  · refine lv_aload_n hx hb dX8_turn_183 rfl (lv_at hl 1 rfl) ?_
                    refine lv_aload_n hx hb dX8_turn_184 rfl (lv_at hl 1 rfl) ?_
                    refine lv_iconst (v := nI 0) hx hb dX8_turn_185 (by decide) ?_
                    refine lv_aload_n hx hb dX8_turn_186 rfl (lv_at hl 0 rfl) ?_
                    refine q_get C hP faj rfl inX7 3 (by decide) g1143 rfl dX8_turn_187 ?_
                    refine q_callV (rest := [.ref y]) C (c_X8_fits l D cy N0 hv3 y m0 0 nj _ hY rfl (by omega) (by omega)) kX8_fits g1413 g1415 rfl gp61 g4 hP hS hY (by first | decide | omega) hl.1 rfl (by simp [q_catrf, q_cati, q_catl, q_cata, q_catn]) (by first | decide | omega) dX8_turn_190 (fun q ce E h' H1 locs1 hE => hE.elim) (fun v hh17 H locs hq hP hS => ?_)
                    obtain ⟨rfl, rfl⟩ := hq
                    by_cases cf : 0 ≤ 1000 ∧ m0 + nj ≤ 20000
                    · rw [if_pos cf]
                      refine lv_iconst (v := nI 3) hx hb dX8_turn_193 (by decide) ?_
                      refine q_callV (rest := []) C (c_X8_good1 l D cy N0 hv3 y ms mb (ra 28) od pt fi re rc rs so ot cn la ro gr 0 ca (nI m0) ct fau cs ce (nI (S 999).2.2.1) (nI 3) hY) kX8_good g1249 g1251 rfl gp41 g4 hP hS hY (by first | decide | omega) hl.1 rfl (by decide) (by first | decide | omega) dX8_turn_194 (fun q ce E h' H1 locs1 hE => hE.elim) (fun v hh18 H locs hq hP hS => ?_)
                      obtain ⟨rfl, rfl⟩ := hq
                      replace hP : qP D N0 (qs hv3 y (.inr (8, [.ref ms, .ref mb, .ref (ra 28), .int gr, .int 0, .int ca, .int (nI m0), .ref od, .ref pt, .int ct, .int fau, .ref fi, .ref re, .int cs, .ref rc, .ref rs, .ref so, .ref ot, .ref cn, .ref la, .int ce, .ref ro, .int (nI (S 999).2.2.1)]))) H := hP
                      obtain ⟨hv30, ehv30⟩ : ∃ z : qH, z = qs hv3 y (.inr (8, [.ref ms, .ref mb, .ref (ra 28), .int gr, .int 0, .int ca, .int (nI m0), .ref od, .ref pt, .int ct, .int fau, .ref fi, .ref re, .int cs, .ref rc, .ref rs, .ref so, .ref ot, .ref cn, .ref la, .int ce, .ref ro, .int (nI (S 999).2.2.1)])) := ⟨_, rfl⟩
                      rw [← ehv30] at hP
                      have khv30 : ∀ b o, b ≠ y → hv3 b = some o → hv30 b = some o := by rw [ehv30]; exact fun b o nb hb => (qs_ne nb).trans hb
                      replace hms := khv30 _ _ (fun q => by subst q; have := hms.symm.trans hY; first | cases this | simp at this) hms
                      replace hmb := khv30 _ _ (fun q => by subst q; have := hmb.symm.trans hY; first | cases this | simp at this) hmb
                      replace faw := khv30 _ _ (fun q => by have z9 := faw; rw [q] at z9; have := z9.symm.trans hY; first | cases this | simp at this) faw
                      replace fkw := khv30 _ _ (fun q => by have z9 := fkw; rw [q] at z9; have := z9.symm.trans hY; first | cases this | simp at this) fkw
                      replace fvw := khv30 _ _ (fun q => by have z9 := fvw; rw [q] at z9; have := z9.symm.trans hY; first | cases this | simp at this) fvw
                      replace faj := khv30 _ _ (fun q => by have z9 := faj; rw [q] at z9; have := z9.symm.trans hY; first | cases this | simp at this) faj
                      replace fkj := khv30 _ _ (fun q => by have z9 := fkj; rw [q] at z9; have := z9.symm.trans hY; first | cases this | simp at this) fkj
                      replace fvj := khv30 _ _ (fun q => by have z9 := fvj; rw [q] at z9; have := z9.symm.trans hY; first | cases this | simp at this) fvj
                      replace hY : hv30 y = some (.inr (8, [.ref ms, .ref mb, .ref (ra 28), .int gr, .int 0, .int ca, .int (nI m0), .ref od, .ref pt, .int ct, .int fau, .ref fi, .ref re, .int cs, .ref rc, .ref rs, .ref so, .ref ot, .ref cn, .ref la, .int ce, .ref ro, .int (nI (S 999).2.2.1)])) := by rw [ehv30]; exact qs_self
                      clear ehv30
                      replace fr := fun b o hb n1 n2 => khv30 b o n1 (fr b o hb n1 n2)
                      refine lv_if_ne (tgt := 201) hx hb dX8_turn_197 (by decide) (fun c197 => ?_) (fun c197 => ?_)
                      · replace c197 : ¬ 1 = 0 := fun zq => c197 ((nI_eq (a := 1) (b := 0) (by omega) (by omega)).mpr zq)
                        have hk3 := bHo_15 (hI j (by omega)).2.2 hoj c54
                        rcases hk3 with hk | hk | hk
                        · refine lv_aload_n hx hb dX8_turn_201 rfl (lv_at hl 0 rfl) ?_
                          refine q_get C hP faj rfl inX7 3 (by decide) g1143 rfl dX8_turn_202 ?_
                          refine lv_istore (lv' := [(4, .int (nI nj)), (3, .ref (ra j)), (0, .ref y), (1, .int (nI i)), (2, .int (nI j))]) hx hb dX8_turn_205 hl (by decide) rfl (fun ls hl => ?_)
                          refine lv_aload_n hx hb dX8_turn_207 rfl (lv_at hl 1 rfl) ?_
                          refine q_get C hP faj rfl inX7 2 (by decide) g1142 rfl dX8_turn_208 ?_
                          refine lv_iconst (v := 3) hx hb dX8_turn_211 (by decide) ?_
                          refine lv_icmp_eq (tgt := 220) hx hb dX8_turn_212 (by decide) (fun c => absurd c (fun z => absurd (hk.symm.trans z) (by decide))) (fun _ => ?_)
                          refine lv_aload_n hx hb dX8_turn_215 rfl (lv_at hl 2 rfl) ?_
                          refine lv_aload_n hx hb dX8_turn_216 rfl (lv_at hl 1 rfl) ?_
                          obtain ⟨m8, f8⟩ := hM.fin0 hY0 (h' := hv30) ⟨hRw.1, hRw.2.1, hRw.2.2.1, faw, fkw, fvw⟩ fr
                          obtain ⟨q8, r8⟩ := hQ.rowM (o' := (oCd (ms, mb, ra 28, od, pt, ro, gr, cd, ca, nI m0, ct, fau, nI (S 999).2.2.1) 0)) hY0 hY m8 f8 ⟨rfl, rfl, rfl, rfl, rfl, rfl⟩
                          have hq8 : qNo (qIx Fj nj) := qIx_no hnj (hLj ▸ (hI j (by omega)).2.1 (Or.inl hk))
                          have hY8 := hY
                          have na_ms := q8.2.2.2.1.no hY hms (Or.inl ⟨_, rfl, fun O z => by cases z⟩)
                          have na_mb := q8.2.2.2.1.no hY hmb (Or.inl ⟨_, rfl, fun O z => by cases z⟩)
                          have na_ra28 := q8.2.2.2.1.no hY faw (Or.inr ⟨_, rfl⟩)
                          have na_rk28 := q8.2.2.2.1.no hY fkw (Or.inl ⟨_, rfl, fun O z => by cases z⟩)
                          have na_rv28 := q8.2.2.2.1.no hY fvw (Or.inl ⟨_, rfl, fun O z => by cases z⟩)
                          have na_raj := q8.2.2.2.1.no hY faj (Or.inr ⟨_, rfl⟩)
                          have na_rkj := q8.2.2.2.1.no hY fkj (Or.inl ⟨_, rfl, fun O z => by cases z⟩)
                          have na_rvj := q8.2.2.2.1.no hY fvj (Or.inl ⟨_, rfl, fun O z => by cases z⟩)
                          refine q_callV (rest := []) C (c_X8_order l D cy N0 hv30 y ms mb (ra 28) od pt fi re rc rs so ot cn la ro gr 0 ca (nI m0) ct fau cs ce (nI (S 999).2.2.1) pa (ra j) (rk j) (rv j) ((S j).1) (nI (S j).2.2.1) (nI (S j).2.2.2) (nI rr) nj Fj Gj hY q8.2.2.2.1 ⟨hRj.1, hRj.2.1, hRj.2.2.1, faj, fkj, fvj⟩ hnj hq8) kX8_order g1367 g1369 rfl gp59 g4 hP hS hY (by first | decide | omega) hl.1 rfl (by decide) (by first | decide | omega) dX8_turn_217 (fun q ce E h' H1 locs1 hE => hE.elim) (fun v hh19 H locs hq hP hS => ?_)
                          obtain ⟨rfl, hY7, ⟨O7, ho7⟩, hd7, fr7⟩ := hq
                          replace hms := fr7 _ _ hms na_ms.1 na_ms.2.1 na_ms.2.2
                          replace hmb := fr7 _ _ hmb na_mb.1 na_mb.2.1 na_mb.2.2
                          replace faw := fr7 _ _ faw na_ra28.1 na_ra28.2.1 na_ra28.2.2
                          replace fkw := fr7 _ _ fkw na_rk28.1 na_rk28.2.1 na_rk28.2.2
                          replace fvw := fr7 _ _ fvw na_rv28.1 na_rv28.2.1 na_rv28.2.2
                          replace faj := fr7 _ _ faj na_raj.1 na_raj.2.1 na_raj.2.2
                          replace fkj := fr7 _ _ fkj na_rkj.1 na_rkj.2.1 na_rkj.2.2
                          replace fvj := fr7 _ _ fvj na_rvj.1 na_rvj.2.1 na_rvj.2.2
                          obtain ⟨q7, r7⟩ := q8.row (o' := oCt (oCd (ms, mb, ra 28, od, pt, ro, gr, cd, ca, nI m0, ct, fau, nI (S 999).2.2.1) 0) (nI nj)) hY8 hY7 (m8.keepO hY8 q8.2.2.2.1 fr7) hd7 (fun b x hb n1 _ n3 n4 => fr7 b x hb n1 n3 n4) ⟨rfl, rfl, rfl, rfl, rfl, rfl⟩
                          have rt7 := r8.tr q8 rfl r7
                          replace hY := hY7
                          have hY0 := hY
                          have hM := q7.2.2.1
                          have hrs := hM.2.2.2.2.1
                          replace hRw : qRw cy hh19 (ra 28) (rk 28) (rv 28) kdw (nI nw) smw dpw rww fw gw := ⟨hRw.1, hRw.2.1, hRw.2.2.1, faw, fkw, fvw⟩
                          replace fr : ∀ b o, hh19 b = some o → b ≠ y → qOf (ra 28) (rk 28) (rv 28) b → hh19 b = some o := fun b o hb _ _ => hb
                          refine lv_aload_n hx hb dX8_turn_220 rfl (lv_at hl 2 rfl) ?_
                          refine q_get C hP hY rfl inX8 2 (by decide) g1169 rfl dX8_turn_221 ?_
                          refine lv_iconst (v := nI 0) hx hb dX8_turn_224 (by decide) ?_
                          refine q_put C hP hS faw rfl inX7 tyX7 tyX7_ok nmX7 2 (by decide) g1142 rfl rfl rfl (Nat.le_of_ble_eq_true rfl) dX8_turn_225 (fun H locs hP hS => ?_)
                          replace hP : qP D N0 (qs hh19 (ra 28) (.inr (7, [.ref (rk 28), .ref (rv 28), .int (nI 0), .int (nI nw), .int smw, .int dpw, .int rww]))) H := hP
                          obtain ⟨hv31, ehv31⟩ : ∃ z : qH, z = qs hh19 (ra 28) (.inr (7, [.ref (rk 28), .ref (rv 28), .int (nI 0), .int (nI nw), .int smw, .int dpw, .int rww])) := ⟨_, rfl⟩
                          rw [← ehv31] at hP
                          have khv31 : ∀ b o, b ≠ (ra 28) → hh19 b = some o → hv31 b = some o := by rw [ehv31]; exact fun b o nb hb => (qs_ne nb).trans hb
                          replace hY := khv31 _ _ (fun q => by have z9 := hY; rw [q] at z9; have := z9.symm.trans faw; first | cases this | simp at this) hY
                          replace hms := khv31 _ _ (fun q => by have z9 := hms; rw [q] at z9; have := z9.symm.trans faw; first | cases this | simp at this) hms
                          replace hmb := khv31 _ _ (fun q => by have z9 := hmb; rw [q] at z9; have := z9.symm.trans faw; first | cases this | simp at this) hmb
                          replace fkw := khv31 _ _ (fun q => by have z9 := fkw; rw [q] at z9; have := z9.symm.trans faw; first | cases this | simp at this) fkw
                          replace fvw := khv31 _ _ (fun q => by have z9 := fvw; rw [q] at z9; have := z9.symm.trans faw; first | cases this | simp at this) fvw
                          replace faj := khv31 _ _ apj.1.1 faj
                          replace fkj := khv31 _ _ apj.2.1.1 fkj
                          replace fvj := khv31 _ _ apj.2.2.1 fvj
                          replace ho7 := khv31 _ _ (fun q => by have z9 := ho7; rw [q] at z9; have := z9.symm.trans faw; first | cases this | simp at this) ho7
                          replace faw : hv31 (ra 28) = some (.inr (7, [.ref (rk 28), .ref (rv 28), .int (nI 0), .int (nI nw), .int smw, .int dpw, .int rww])) := by rw [ehv31]; exact qs_self
                          clear ehv31
                          replace fr := fun b o hb n1 n2 => khv31 b o n2.1 (fr b o hb n1 n2)
                          refine lv_aload_n hx hb dX8_turn_228 rfl (lv_at hl 2 rfl) ?_
                          refine q_get C hP hY rfl inX8 2 (by decide) g1169 rfl dX8_turn_229 ?_
                          refine lv_aload_n hx hb dX8_turn_232 rfl (lv_at hl 1 rfl) ?_
                          refine q_get C hP faj rfl inX7 3 (by decide) g1143 rfl dX8_turn_233 ?_
                          refine q_put C hP hS faw rfl inX7 tyX7 tyX7_ok nmX7 3 (by decide) g1143 rfl rfl rfl (Nat.le_of_ble_eq_true rfl) dX8_turn_236 (fun H locs hP hS => ?_)
                          replace hP : qP D N0 (qs hv31 (ra 28) (.inr (7, [.ref (rk 28), .ref (rv 28), .int (nI 0), .int (nI nj), .int smw, .int dpw, .int rww]))) H := hP
                          obtain ⟨hv32, ehv32⟩ : ∃ z : qH, z = qs hv31 (ra 28) (.inr (7, [.ref (rk 28), .ref (rv 28), .int (nI 0), .int (nI nj), .int smw, .int dpw, .int rww])) := ⟨_, rfl⟩
                          rw [← ehv32] at hP
                          have khv32 : ∀ b o, b ≠ (ra 28) → hv31 b = some o → hv32 b = some o := by rw [ehv32]; exact fun b o nb hb => (qs_ne nb).trans hb
                          replace hY := khv32 _ _ (fun q => by have z9 := hY; rw [q] at z9; have := z9.symm.trans faw; first | cases this | simp at this) hY
                          replace hms := khv32 _ _ (fun q => by have z9 := hms; rw [q] at z9; have := z9.symm.trans faw; first | cases this | simp at this) hms
                          replace hmb := khv32 _ _ (fun q => by have z9 := hmb; rw [q] at z9; have := z9.symm.trans faw; first | cases this | simp at this) hmb
                          replace fkw := khv32 _ _ (fun q => by have z9 := fkw; rw [q] at z9; have := z9.symm.trans faw; first | cases this | simp at this) fkw
                          replace fvw := khv32 _ _ (fun q => by have z9 := fvw; rw [q] at z9; have := z9.symm.trans faw; first | cases this | simp at this) fvw
                          replace faj := khv32 _ _ apj.1.1 faj
                          replace fkj := khv32 _ _ apj.2.1.1 fkj
                          replace fvj := khv32 _ _ apj.2.2.1 fvj
                          replace ho7 := khv32 _ _ (fun q => by have z9 := ho7; rw [q] at z9; have := z9.symm.trans faw; first | cases this | simp at this) ho7
                          replace faw : hv32 (ra 28) = some (.inr (7, [.ref (rk 28), .ref (rv 28), .int (nI 0), .int (nI nj), .int smw, .int dpw, .int rww])) := by rw [ehv32]; exact qs_self
                          clear ehv32
                          replace fr := fun b o hb n1 n2 => khv32 b o n2.1 (fr b o hb n1 n2)
                          refine lv_aload_n hx hb dX8_turn_239 rfl (lv_at hl 2 rfl) ?_
                          refine q_get C hP hY rfl inX8 2 (by decide) g1169 rfl dX8_turn_240 ?_
                          refine lv_iconst (v := nI 0) hx hb dX8_turn_243 (by decide) ?_
                          refine q_put C hP hS faw rfl inX7 tyX7 tyX7_ok nmX7 4 (by decide) g1144 rfl rfl rfl (Nat.le_of_ble_eq_true rfl) dX8_turn_244 (fun H locs hP hS => ?_)
                          replace hP : qP D N0 (qs hv32 (ra 28) (.inr (7, [.ref (rk 28), .ref (rv 28), .int (nI 0), .int (nI nj), .int (nI 0), .int dpw, .int rww]))) H := hP
                          obtain ⟨hv33, ehv33⟩ : ∃ z : qH, z = qs hv32 (ra 28) (.inr (7, [.ref (rk 28), .ref (rv 28), .int (nI 0), .int (nI nj), .int (nI 0), .int dpw, .int rww])) := ⟨_, rfl⟩
                          rw [← ehv33] at hP
                          have khv33 : ∀ b o, b ≠ (ra 28) → hv32 b = some o → hv33 b = some o := by rw [ehv33]; exact fun b o nb hb => (qs_ne nb).trans hb
                          replace hY := khv33 _ _ (fun q => by have z9 := hY; rw [q] at z9; have := z9.symm.trans faw; first | cases this | simp at this) hY
                          replace hms := khv33 _ _ (fun q => by have z9 := hms; rw [q] at z9; have := z9.symm.trans faw; first | cases this | simp at this) hms
                          replace hmb := khv33 _ _ (fun q => by have z9 := hmb; rw [q] at z9; have := z9.symm.trans faw; first | cases this | simp at this) hmb
                          replace fkw := khv33 _ _ (fun q => by have z9 := fkw; rw [q] at z9; have := z9.symm.trans faw; first | cases this | simp at this) fkw
                          replace fvw := khv33 _ _ (fun q => by have z9 := fvw; rw [q] at z9; have := z9.symm.trans faw; first | cases this | simp at this) fvw
                          replace faj := khv33 _ _ apj.1.1 faj
                          replace fkj := khv33 _ _ apj.2.1.1 fkj
                          replace fvj := khv33 _ _ apj.2.2.1 fvj
                          replace ho7 := khv33 _ _ (fun q => by have z9 := ho7; rw [q] at z9; have := z9.symm.trans faw; first | cases this | simp at this) ho7
                          replace faw : hv33 (ra 28) = some (.inr (7, [.ref (rk 28), .ref (rv 28), .int (nI 0), .int (nI nj), .int (nI 0), .int dpw, .int rww])) := by rw [ehv33]; exact qs_self
                          clear ehv33
                          replace fr := fun b o hb n1 n2 => khv33 b o n2.1 (fr b o hb n1 n2)
                          refine lv_aload_n hx hb dX8_turn_247 rfl (lv_at hl 2 rfl) ?_
                          refine q_get C hP hY rfl inX8 2 (by decide) g1169 rfl dX8_turn_248 ?_
                          refine lv_iconst (v := nI 0) hx hb dX8_turn_251 (by decide) ?_
                          refine q_put C hP hS faw rfl inX7 tyX7 tyX7_ok nmX7 5 (by decide) g1145 rfl rfl rfl (Nat.le_of_ble_eq_true rfl) dX8_turn_252 (fun H locs hP hS => ?_)
                          replace hP : qP D N0 (qs hv33 (ra 28) (.inr (7, [.ref (rk 28), .ref (rv 28), .int (nI 0), .int (nI nj), .int (nI 0), .int (nI 0), .int rww]))) H := hP
                          obtain ⟨hv34, ehv34⟩ : ∃ z : qH, z = qs hv33 (ra 28) (.inr (7, [.ref (rk 28), .ref (rv 28), .int (nI 0), .int (nI nj), .int (nI 0), .int (nI 0), .int rww])) := ⟨_, rfl⟩
                          rw [← ehv34] at hP
                          have khv34 : ∀ b o, b ≠ (ra 28) → hv33 b = some o → hv34 b = some o := by rw [ehv34]; exact fun b o nb hb => (qs_ne nb).trans hb
                          replace hY := khv34 _ _ (fun q => by have z9 := hY; rw [q] at z9; have := z9.symm.trans faw; first | cases this | simp at this) hY
                          replace hms := khv34 _ _ (fun q => by have z9 := hms; rw [q] at z9; have := z9.symm.trans faw; first | cases this | simp at this) hms
                          replace hmb := khv34 _ _ (fun q => by have z9 := hmb; rw [q] at z9; have := z9.symm.trans faw; first | cases this | simp at this) hmb
                          replace fkw := khv34 _ _ (fun q => by have z9 := fkw; rw [q] at z9; have := z9.symm.trans faw; first | cases this | simp at this) fkw
                          replace fvw := khv34 _ _ (fun q => by have z9 := fvw; rw [q] at z9; have := z9.symm.trans faw; first | cases this | simp at this) fvw
                          replace faj := khv34 _ _ apj.1.1 faj
                          replace fkj := khv34 _ _ apj.2.1.1 fkj
                          replace fvj := khv34 _ _ apj.2.2.1 fvj
                          replace ho7 := khv34 _ _ (fun q => by have z9 := ho7; rw [q] at z9; have := z9.symm.trans faw; first | cases this | simp at this) ho7
                          replace faw : hv34 (ra 28) = some (.inr (7, [.ref (rk 28), .ref (rv 28), .int (nI 0), .int (nI nj), .int (nI 0), .int (nI 0), .int rww])) := by rw [ehv34]; exact qs_self
                          clear ehv34
                          replace fr := fun b o hb n1 n2 => khv34 b o n2.1 (fr b o hb n1 n2)
                          refine lv_iconst (v := nI 0) hx hb dX8_turn_255 (by decide) ?_
                          refine lv_istore (lv' := [(5, .int (nI 0)), (4, .int (nI nj)), (3, .ref (ra j)), (0, .ref y), (1, .int (nI i)), (2, .int (nI j))]) hx hb dX8_turn_256 hl (by decide) rfl (fun ls hl => ?_)
                          have hTl : (xTuL gr (S j).1 (S j).2.1).length = nj := by unfold xTuL; rw [if_neg (fun z => absurd (hk.symm.trans z) (by decide)), if_neg (fun z => absurd (hk.symm.trans z) (by decide)), List.length_map, thT_len, hlen]
                          refine (?_ : ∀ (t : Nat) (H : Heap) (locs : List Loc) (ls : Array Slot) (hv0 : qH) (fW : Nat → Int64) (ii : Nat), nj - ii < t → hv0 y = some (.inr (8, [.ref ms, .ref mb, .ref (ra 28), .int gr, .int 0, .int ca, .int (nI m0), .ref od, .ref pt, .int (nI nj), .int fau, .ref fi, .ref re, .int cs, .ref rc, .ref rs, .ref so, .ref ot, .ref cn, .ref la, .int ce, .ref ro, .int (nI (S 999).2.2.1)])) → hv0 ms = some (.inl (cy 5, 24, .inr (.inr (.inr (.inr (fun i => some (ra i))))))) → hv0 mb = some (.inl (cy 5, 4, .inr (.inr (.inr (.inr (fun i => some (ra (24 + i)))))))) → hv0 (ra 28) = some (.inr (7, [.ref (rk 28), .ref (rv 28), .int (nI 0), .int (nI nj), .int (nI 0), .int (nI 0), .int rww])) → hv0 (rk 28) = some (.inl (cy 1, 1001, .inr (.inl fW))) → hv0 (rv 28) = some (.inl (cy 1, 1001, .inr (.inl gw))) → hv0 (ra j) = some (.inr (7, [.ref (rk j), .ref (rv j), .int (S j).1, .int (nI nj), .int (nI (S j).2.2.1), .int (nI (S j).2.2.2), .int (nI rr)])) → hv0 (rk j) = some (.inl (cy 1, 1001, .inr (.inl Fj))) → hv0 (rv j) = some (.inl (cy 1, 1001, .inr (.inl Gj))) → hv0 od = some (.inl (cy 0, 1000, .inl (qPourI O7 0 ((thT (qMk gr) 7 (qIx Fj nj)).map ix9)))) → (∀ b o, hh19 b = some o → b ≠ y → qOf (ra 28) (rk 28) (rv 28) b → hv0 b = some o) → (∀ q9, q9 < ii → (xTuL gr (S j).1 (S j).2.1)[q9]? = some (fW q9, 0)) → ii ≤ nj → lv_has ls 7 [(5, .int (nI ii)), (4, .int (nI nj)), (3, .ref (ra j)), (0, .ref y), (1, .int (nI i))] → qP D N0 hv0 H → va_S (qA N0) s.heap H locs → W p l e _ s m _ below meth c H locs 0 0 _ (F0 m 258 ls [])) _ H locs ls hv34 fw 0 (Nat.lt_succ_self _) hY hms hmb faw fkw fvw faj fkj fvj ho7 fr (fun q9 z => absurd z (Nat.not_lt_zero _)) (Nat.zero_le _) (lv_sub hl [0, 1, 2, 3, 4] rfl) hP hS
                          clear hl hP hS
                          intro t
                          induction t with
                          | zero => intro H locs ls hv0 fW ii ht; exact absurd ht (Nat.not_lt_zero _)
                          | succ t ihl =>
                            intro H locs ls hv0 fW ii ht hY hms hmb faw fkw fvw faj fkj fvj ho7 fr hfW hii hl hP hS
                            refine lv_iload hx hb dX8_turn_258 (lv_at hl 0 rfl) ?_
                            refine lv_aload_n hx hb dX8_turn_260 rfl (lv_at hl 2 rfl) ?_
                            refine q_get C hP faj rfl inX7 3 (by decide) g1143 rfl dX8_turn_261 ?_
                            refine lv_icmp_ge (tgt := 330) hx hb dX8_turn_264 (by decide) (fun c264 => ?_) (fun c264 => ?_)
                            · replace c264 : nj ≤ ii := (nI_leI (a := nj) (b := ii) (by omega) (by omega)).mp c264
                              have eii : ii = nj := by omega
                              have lw : qLs (nI 0) fW gw nj = xTuL gr (S j).1 (S j).2.1 := qLs_eq hTl (fun q9 hq9 => hfW q9 (by omega))
                              refine lv_aload_n hx hb dX8_turn_330 rfl (lv_at hl 3 rfl) ?_
                              refine lv_iload_n hx hb dX8_turn_331 rfl (lv_at hl 4 rfl) ?_
                              refine lv_iload hx hb dX8_turn_332 (lv_at hl 1 rfl) ?_
                              obtain ⟨ni, rwi, Fi, Gi, hRi, hni, hLi, hKi⟩ := hrs i (by omega)
                              have api := hRi.apart hRw (hmd.two (i := i) (j := 28) (by omega) (by omega) (by omega))
                              replace hRi := hRi.keep2 (fun b o hb ho => fr b o ho (hRi.ney hY0 hb) (hb.elim (fun q => q ▸ api.1) (fun hb => hb.elim (fun q => q ▸ api.2.1) (fun q => q ▸ api.2.2))))
                              have fai := hRi.2.2.2.1
                              have fki := hRi.2.2.2.2.1
                              have fvi := hRi.2.2.2.2.2
                              unfold qRb at fai
                              unfold qJr at fki fvi
                              refine q_callV (rest := []) C (c_X8_done l D cy N0 hv0 y ms mb od pt fi re rc rs so ot cn la ro gr 0 ca (nI m0) (nI nj) fau cs ce (nI (S 999).2.2.1) ra rk rv i (nI nj) (nI 0) (nI 0) (nI 0) rww nj fW gw (S i).1 (nI (S i).2.2.1) (nI (S i).2.2.2) rwi ni Fi Gi hY hms hmd ⟨hRw.1, hRw.2.1, hRw.2.2.1, faw, fkw, fvw⟩ ⟨hRi.1, hRi.2.1, hRi.2.2.1, fai, fki, fvi⟩ (by omega) (by omega)) kX8_done g1293 g1295 rfl gp45 g4 hP hS hY (by first | decide | omega) hl.1 rfl (by decide) (by first | decide | omega) dX8_turn_334 (fun q ce E h' H1 locs1 hE => hE.elim) (fun v hh20 H locs hq hP hS => ?_)
                              obtain ⟨rfl, hY9, hw9, hi9, fr9⟩ := hq
                              replace fr := fun b o hb n1 n2 n3 => fr9 b o (fr b o hb n1 n2) n1 n2 n3
                              rw [nI_add] at hY9
                              refine lv_pop hx hb dX8_turn_337 rfl ?_
                              obtain ⟨m9, f9⟩ := hM.fin hY0 (i := i) (by omega) (s := (0, (xTuL gr (S j).1 (S j).2.1), 0, 0)) ⟨nj, _, _, _, hi9, by omega, by rw [qLs_cp]; exact lw.symm, Or.inl rfl⟩ hw9 fr
                              obtain ⟨q9, r9⟩ := q7.rowM (o' := oCd (oMv (oCt (ms, mb, ra 28, od, pt, ro, gr, cd, ca, nI m0, ct, fau, nI (S 999).2.2.1) (nI nj)) (nI (m0 + nj))) 0) hY0 hY9 m9 f9 ⟨rfl, rfl, rfl, rfl, rfl, rfl⟩
                              have eX : xs_turn S S 0 ((ms, mb, ra 28, od, pt, ro, gr, cd, ca, nI m0, ct, fau, nI (S 999).2.2.1), a, k) (nI i) (nI j) = (0, qU S i (0, (xTuL gr (S j).1 (S j).2.1), 0, 0), oMv (ms, mb, ra 28, od, pt, ro, gr, cd, ca, nI m0, ct, fau, nI (S 999).2.2.1) (nI (m0 + nj)), a, k) := by unfold xs_turn; rw [if_neg (by rw [ebi, ebj]; decide), ecj, if_neg (by rw [hoj]; decide), eci]; unfold xr_turn; rw [if_neg c54, show oMq (ms, mb, ra 28, od, pt, ro, gr, cd, ca, nI m0, ct, fau, nI (S 999).2.2.1) = nI m0 from rfl, ecm, hlen, if_neg (by omega), nI_add]
                              have q9b := q9.cg (S := S) (qU_ne (by omega)) (xRs_qU (by omega))
                              exact q_vret C hP hS ⟨rfl, A0, S, ad, 0, (show xTok S (nI i) (nI j) S 0 by unfold xTok; rw [if_neg (by unfold xTq; rw [ecj, decide_eq_false c54, Bool.and_false]; decide)]), by rw [eX]; exact ⟨nI nj, q9b⟩, ((rt7.tr q7 rfl r9).ft).sub hA0, fun i9 => if e9 : i9 < (S 999).2.2.1 then Or.inl ⟨e9, rfl⟩ else Or.inr (Or.inr (Nat.le_of_not_lt e9))⟩ (by omega) dX8_turn_338
                            · replace c264 : ¬ nj ≤ ii := fun zq => c264 ((nI_leI (a := nj) (b := ii) (by omega) (by omega)).mpr zq)
                              refine lv_aload_n hx hb dX8_turn_267 rfl (lv_at hl 2 rfl) ?_
                              refine q_get C hP faj rfl inX7 2 (by decide) g1142 rfl dX8_turn_268 ?_
                              refine lv_iconst (v := 3) hx hb dX8_turn_271 (by decide) ?_
                              refine lv_icmp_ne (tgt := 280) hx hb dX8_turn_272 (by decide) (fun _ => ?_) (fun c => absurd c (fun z => absurd (hk.symm.trans z) (by decide)))
                              refine lv_aload_n hx hb dX8_turn_280 rfl (lv_at hl 3 rfl) ?_
                              refine q_get C hP hY rfl inX8 7 (by decide) g1174 rfl dX8_turn_281 ?_
                              refine lv_iload hx hb dX8_turn_284 (lv_at hl 0 rfl) ?_
                              refine q_ialdN C hP ho7 (by omega) (by omega) dX8_turn_286 ?_
                              obtain ⟨j9, hj9, ej9, eT9⟩ := qIx_or (kd := (S j).1) (m := qMk gr) (f := Fj) (g := Gj) (O := O7) hnj (show ii < nj by omega)
                              rw [ej9]
                              refine lv_istore (lv' := [(6, .int (nI j9)), (5, .int (nI ii)), (4, .int (nI nj)), (3, .ref (ra j)), (0, .ref y), (1, .int (nI i))]) hx hb dX8_turn_287 hl (by decide) rfl (fun ls hl => ?_)
                              refine lv_aload_n hx hb dX8_turn_289 rfl (lv_at hl 4 rfl) ?_
                              refine q_get C hP hY rfl inX8 2 (by decide) g1169 rfl dX8_turn_290 ?_
                              refine q_get C hP faw rfl inX7 0 (by decide) g1138 rfl dX8_turn_293 ?_
                              refine lv_iload hx hb dX8_turn_296 (lv_at hl 1 rfl) ?_
                              refine lv_aload_n hx hb dX8_turn_298 rfl (lv_at hl 3 rfl) ?_
                              refine q_get C hP faj rfl inX7 2 (by decide) g1142 rfl dX8_turn_299 ?_
                              refine lv_iconst (v := 2) hx hb dX8_turn_302 (by decide) ?_
                              refine lv_icmp_ne (tgt := 316) hx hb dX8_turn_303 (by decide) (fun _ => ?_) (fun c => absurd c (fun z => absurd (hk.symm.trans z) (by decide)))
                              refine lv_aload_n hx hb dX8_turn_316 rfl (lv_at hl 3 rfl) ?_
                              refine q_get C hP faj rfl inX7 1 (by decide) g1140 rfl dX8_turn_317 ?_
                              refine lv_iload hx hb dX8_turn_320 (lv_at hl 0 rfl) ?_
                              refine q_laldN C hP fvj (by omega) (by omega) dX8_turn_322 ?_
                              refine q_lastN C hP hS fkw (by omega) (by omega) dX8_turn_323 (fun H locs hP hS => ?_)
                              obtain ⟨hv35, ehv35⟩ : ∃ z : qH, z = qs hv0 (rk 28) (.inl (cy 1, 1001, .inr (.inl (vp_updL fW ii (Gj j9))))) := ⟨_, rfl⟩
                              rw [← ehv35] at hP
                              have khv35 : ∀ b o, b ≠ (rk 28) → hv0 b = some o → hv35 b = some o := by rw [ehv35]; exact fun b o nb hb => (qs_ne nb).trans hb
                              replace hY := khv35 _ _ (fun q => by have z9 := hY; rw [q] at z9; have := z9.symm.trans fkw; first | cases this | simp at this) hY
                              replace hms := khv35 _ _ (fun q => by have z9 := hms; rw [q] at z9; have := z9.symm.trans fkw; first | cases this | simp at this) hms
                              replace hmb := khv35 _ _ (fun q => by have z9 := hmb; rw [q] at z9; have := z9.symm.trans fkw; first | cases this | simp at this) hmb
                              replace faw := khv35 _ _ (fun q => by have z9 := faw; rw [q] at z9; have := z9.symm.trans fkw; first | cases this | simp at this) faw
                              replace fvw := khv35 _ _ hRw.1.symm fvw
                              replace faj := khv35 _ _ apj.1.2.1 faj
                              replace fkj := khv35 _ _ apj.2.1.2.1 fkj
                              replace fvj := khv35 _ _ apj.2.2.2.1 fvj
                              replace ho7 := khv35 _ _ (fun q => by have z9 := ho7; rw [q] at z9; have := z9.symm.trans fkw; first | cases this | simp at this) ho7
                              replace fkw : hv35 (rk 28) = some (.inl (cy 1, 1001, .inr (.inl (vp_updL fW ii (Gj j9))))) := by rw [ehv35]; exact qs_self
                              clear ehv35
                              replace fr := fun b o hb n1 n2 => khv35 b o n2.2.1 (fr b o hb n1 n2)
                              refine lv_iinc (v := nI (ii + 1)) (lv' := [(5, .int (nI (ii + 1))), (6, .int (nI j9)), (4, .int (nI nj)), (3, .ref (ra j)), (0, .ref y), (1, .int (nI i))]) hx hb dX8_turn_324 hl (k := 1) rfl (nI_1 ii) (by decide) rfl (fun ls hl => ?_)
                              refine lv_goto (tgt := 258) hx hb dX8_turn_327 (by decide) ?_
                              have eT : (xTuL gr (S j).1 (S j).2.1)[ii]? = some (Gj j9, 0) := by unfold xTuL; rw [if_neg (fun z => absurd (hk.symm.trans z) (by decide)), if_neg (fun z => absurd (hk.symm.trans z) (by decide)), List.getElem?_map, hLj, eT9, xV, if_pos (Or.inl hk)]; rfl
                              exact ihl H locs ls hv35 _ (ii + 1) (by omega) hY hms hmb faw fkw fvw faj fkj fvj ho7 fr (fun q9 z => if e : q9 = ii then by (subst e; rw [vp_updL, if_pos rfl]; exact eT) else by (rw [vp_updL, if_neg e]; exact hfW q9 (by omega))) (by omega) (lv_sub hl [0, 2, 3, 4, 5] rfl) hP hS
                        · refine lv_aload_n hx hb dX8_turn_201 rfl (lv_at hl 0 rfl) ?_
                          refine q_get C hP faj rfl inX7 3 (by decide) g1143 rfl dX8_turn_202 ?_
                          refine lv_istore (lv' := [(4, .int (nI nj)), (3, .ref (ra j)), (0, .ref y), (1, .int (nI i)), (2, .int (nI j))]) hx hb dX8_turn_205 hl (by decide) rfl (fun ls hl => ?_)
                          refine lv_aload_n hx hb dX8_turn_207 rfl (lv_at hl 1 rfl) ?_
                          refine q_get C hP faj rfl inX7 2 (by decide) g1142 rfl dX8_turn_208 ?_
                          refine lv_iconst (v := 3) hx hb dX8_turn_211 (by decide) ?_
                          refine lv_icmp_eq (tgt := 220) hx hb dX8_turn_212 (by decide) (fun c => absurd c (fun z => absurd (hk.symm.trans z) (by decide))) (fun _ => ?_)
                          refine lv_aload_n hx hb dX8_turn_215 rfl (lv_at hl 2 rfl) ?_
                          refine lv_aload_n hx hb dX8_turn_216 rfl (lv_at hl 1 rfl) ?_
                          obtain ⟨m8, f8⟩ := hM.fin0 hY0 (h' := hv30) ⟨hRw.1, hRw.2.1, hRw.2.2.1, faw, fkw, fvw⟩ fr
                          obtain ⟨q8, r8⟩ := hQ.rowM (o' := (oCd (ms, mb, ra 28, od, pt, ro, gr, cd, ca, nI m0, ct, fau, nI (S 999).2.2.1) 0)) hY0 hY m8 f8 ⟨rfl, rfl, rfl, rfl, rfl, rfl⟩
                          have hq8 : qNo (qIx Fj nj) := qIx_no hnj (hLj ▸ (hI j (by omega)).2.1 (Or.inr (Or.inl hk)))
                          have hY8 := hY
                          have na_ms := q8.2.2.2.1.no hY hms (Or.inl ⟨_, rfl, fun O z => by cases z⟩)
                          have na_mb := q8.2.2.2.1.no hY hmb (Or.inl ⟨_, rfl, fun O z => by cases z⟩)
                          have na_ra28 := q8.2.2.2.1.no hY faw (Or.inr ⟨_, rfl⟩)
                          have na_rk28 := q8.2.2.2.1.no hY fkw (Or.inl ⟨_, rfl, fun O z => by cases z⟩)
                          have na_rv28 := q8.2.2.2.1.no hY fvw (Or.inl ⟨_, rfl, fun O z => by cases z⟩)
                          have na_raj := q8.2.2.2.1.no hY faj (Or.inr ⟨_, rfl⟩)
                          have na_rkj := q8.2.2.2.1.no hY fkj (Or.inl ⟨_, rfl, fun O z => by cases z⟩)
                          have na_rvj := q8.2.2.2.1.no hY fvj (Or.inl ⟨_, rfl, fun O z => by cases z⟩)
                          refine q_callV (rest := []) C (c_X8_order l D cy N0 hv30 y ms mb (ra 28) od pt fi re rc rs so ot cn la ro gr 0 ca (nI m0) ct fau cs ce (nI (S 999).2.2.1) pa (ra j) (rk j) (rv j) ((S j).1) (nI (S j).2.2.1) (nI (S j).2.2.2) (nI rr) nj Fj Gj hY q8.2.2.2.1 ⟨hRj.1, hRj.2.1, hRj.2.2.1, faj, fkj, fvj⟩ hnj hq8) kX8_order g1367 g1369 rfl gp59 g4 hP hS hY (by first | decide | omega) hl.1 rfl (by decide) (by first | decide | omega) dX8_turn_217 (fun q ce E h' H1 locs1 hE => hE.elim) (fun v hh21 H locs hq hP hS => ?_)
                          obtain ⟨rfl, hY7, ⟨O7, ho7⟩, hd7, fr7⟩ := hq
                          replace hms := fr7 _ _ hms na_ms.1 na_ms.2.1 na_ms.2.2
                          replace hmb := fr7 _ _ hmb na_mb.1 na_mb.2.1 na_mb.2.2
                          replace faw := fr7 _ _ faw na_ra28.1 na_ra28.2.1 na_ra28.2.2
                          replace fkw := fr7 _ _ fkw na_rk28.1 na_rk28.2.1 na_rk28.2.2
                          replace fvw := fr7 _ _ fvw na_rv28.1 na_rv28.2.1 na_rv28.2.2
                          replace faj := fr7 _ _ faj na_raj.1 na_raj.2.1 na_raj.2.2
                          replace fkj := fr7 _ _ fkj na_rkj.1 na_rkj.2.1 na_rkj.2.2
                          replace fvj := fr7 _ _ fvj na_rvj.1 na_rvj.2.1 na_rvj.2.2
                          obtain ⟨q7, r7⟩ := q8.row (o' := oCt (oCd (ms, mb, ra 28, od, pt, ro, gr, cd, ca, nI m0, ct, fau, nI (S 999).2.2.1) 0) (nI nj)) hY8 hY7 (m8.keepO hY8 q8.2.2.2.1 fr7) hd7 (fun b x hb n1 _ n3 n4 => fr7 b x hb n1 n3 n4) ⟨rfl, rfl, rfl, rfl, rfl, rfl⟩
                          have rt7 := r8.tr q8 rfl r7
                          replace hY := hY7
                          have hY0 := hY
                          have hM := q7.2.2.1
                          have hrs := hM.2.2.2.2.1
                          replace hRw : qRw cy hh21 (ra 28) (rk 28) (rv 28) kdw (nI nw) smw dpw rww fw gw := ⟨hRw.1, hRw.2.1, hRw.2.2.1, faw, fkw, fvw⟩
                          replace fr : ∀ b o, hh21 b = some o → b ≠ y → qOf (ra 28) (rk 28) (rv 28) b → hh21 b = some o := fun b o hb _ _ => hb
                          refine lv_aload_n hx hb dX8_turn_220 rfl (lv_at hl 2 rfl) ?_
                          refine q_get C hP hY rfl inX8 2 (by decide) g1169 rfl dX8_turn_221 ?_
                          refine lv_iconst (v := nI 0) hx hb dX8_turn_224 (by decide) ?_
                          refine q_put C hP hS faw rfl inX7 tyX7 tyX7_ok nmX7 2 (by decide) g1142 rfl rfl rfl (Nat.le_of_ble_eq_true rfl) dX8_turn_225 (fun H locs hP hS => ?_)
                          replace hP : qP D N0 (qs hh21 (ra 28) (.inr (7, [.ref (rk 28), .ref (rv 28), .int (nI 0), .int (nI nw), .int smw, .int dpw, .int rww]))) H := hP
                          obtain ⟨hv36, ehv36⟩ : ∃ z : qH, z = qs hh21 (ra 28) (.inr (7, [.ref (rk 28), .ref (rv 28), .int (nI 0), .int (nI nw), .int smw, .int dpw, .int rww])) := ⟨_, rfl⟩
                          rw [← ehv36] at hP
                          have khv36 : ∀ b o, b ≠ (ra 28) → hh21 b = some o → hv36 b = some o := by rw [ehv36]; exact fun b o nb hb => (qs_ne nb).trans hb
                          replace hY := khv36 _ _ (fun q => by have z9 := hY; rw [q] at z9; have := z9.symm.trans faw; first | cases this | simp at this) hY
                          replace hms := khv36 _ _ (fun q => by have z9 := hms; rw [q] at z9; have := z9.symm.trans faw; first | cases this | simp at this) hms
                          replace hmb := khv36 _ _ (fun q => by have z9 := hmb; rw [q] at z9; have := z9.symm.trans faw; first | cases this | simp at this) hmb
                          replace fkw := khv36 _ _ (fun q => by have z9 := fkw; rw [q] at z9; have := z9.symm.trans faw; first | cases this | simp at this) fkw
                          replace fvw := khv36 _ _ (fun q => by have z9 := fvw; rw [q] at z9; have := z9.symm.trans faw; first | cases this | simp at this) fvw
                          replace faj := khv36 _ _ apj.1.1 faj
                          replace fkj := khv36 _ _ apj.2.1.1 fkj
                          replace fvj := khv36 _ _ apj.2.2.1 fvj
                          replace ho7 := khv36 _ _ (fun q => by have z9 := ho7; rw [q] at z9; have := z9.symm.trans faw; first | cases this | simp at this) ho7
                          replace faw : hv36 (ra 28) = some (.inr (7, [.ref (rk 28), .ref (rv 28), .int (nI 0), .int (nI nw), .int smw, .int dpw, .int rww])) := by rw [ehv36]; exact qs_self
                          clear ehv36
                          replace fr := fun b o hb n1 n2 => khv36 b o n2.1 (fr b o hb n1 n2)
                          refine lv_aload_n hx hb dX8_turn_228 rfl (lv_at hl 2 rfl) ?_
                          refine q_get C hP hY rfl inX8 2 (by decide) g1169 rfl dX8_turn_229 ?_
                          refine lv_aload_n hx hb dX8_turn_232 rfl (lv_at hl 1 rfl) ?_
                          refine q_get C hP faj rfl inX7 3 (by decide) g1143 rfl dX8_turn_233 ?_
                          refine q_put C hP hS faw rfl inX7 tyX7 tyX7_ok nmX7 3 (by decide) g1143 rfl rfl rfl (Nat.le_of_ble_eq_true rfl) dX8_turn_236 (fun H locs hP hS => ?_)
                          replace hP : qP D N0 (qs hv36 (ra 28) (.inr (7, [.ref (rk 28), .ref (rv 28), .int (nI 0), .int (nI nj), .int smw, .int dpw, .int rww]))) H := hP
                          obtain ⟨hv37, ehv37⟩ : ∃ z : qH, z = qs hv36 (ra 28) (.inr (7, [.ref (rk 28), .ref (rv 28), .int (nI 0), .int (nI nj), .int smw, .int dpw, .int rww])) := ⟨_, rfl⟩
                          rw [← ehv37] at hP
                          have khv37 : ∀ b o, b ≠ (ra 28) → hv36 b = some o → hv37 b = some o := by rw [ehv37]; exact fun b o nb hb => (qs_ne nb).trans hb
                          replace hY := khv37 _ _ (fun q => by have z9 := hY; rw [q] at z9; have := z9.symm.trans faw; first | cases this | simp at this) hY
                          replace hms := khv37 _ _ (fun q => by have z9 := hms; rw [q] at z9; have := z9.symm.trans faw; first | cases this | simp at this) hms
                          replace hmb := khv37 _ _ (fun q => by have z9 := hmb; rw [q] at z9; have := z9.symm.trans faw; first | cases this | simp at this) hmb
                          replace fkw := khv37 _ _ (fun q => by have z9 := fkw; rw [q] at z9; have := z9.symm.trans faw; first | cases this | simp at this) fkw
                          replace fvw := khv37 _ _ (fun q => by have z9 := fvw; rw [q] at z9; have := z9.symm.trans faw; first | cases this | simp at this) fvw
                          replace faj := khv37 _ _ apj.1.1 faj
                          replace fkj := khv37 _ _ apj.2.1.1 fkj
                          replace fvj := khv37 _ _ apj.2.2.1 fvj
                          replace ho7 := khv37 _ _ (fun q => by have z9 := ho7; rw [q] at z9; have := z9.symm.trans faw; first | cases this | simp at this) ho7
                          replace faw : hv37 (ra 28) = some (.inr (7, [.ref (rk 28), .ref (rv 28), .int (nI 0), .int (nI nj), .int smw, .int dpw, .int rww])) := by rw [ehv37]; exact qs_self
                          clear ehv37
                          replace fr := fun b o hb n1 n2 => khv37 b o n2.1 (fr b o hb n1 n2)
                          refine lv_aload_n hx hb dX8_turn_239 rfl (lv_at hl 2 rfl) ?_
                          refine q_get C hP hY rfl inX8 2 (by decide) g1169 rfl dX8_turn_240 ?_
                          refine lv_iconst (v := nI 0) hx hb dX8_turn_243 (by decide) ?_
                          refine q_put C hP hS faw rfl inX7 tyX7 tyX7_ok nmX7 4 (by decide) g1144 rfl rfl rfl (Nat.le_of_ble_eq_true rfl) dX8_turn_244 (fun H locs hP hS => ?_)
                          replace hP : qP D N0 (qs hv37 (ra 28) (.inr (7, [.ref (rk 28), .ref (rv 28), .int (nI 0), .int (nI nj), .int (nI 0), .int dpw, .int rww]))) H := hP
                          obtain ⟨hv38, ehv38⟩ : ∃ z : qH, z = qs hv37 (ra 28) (.inr (7, [.ref (rk 28), .ref (rv 28), .int (nI 0), .int (nI nj), .int (nI 0), .int dpw, .int rww])) := ⟨_, rfl⟩
                          rw [← ehv38] at hP
                          have khv38 : ∀ b o, b ≠ (ra 28) → hv37 b = some o → hv38 b = some o := by rw [ehv38]; exact fun b o nb hb => (qs_ne nb).trans hb
                          replace hY := khv38 _ _ (fun q => by have z9 := hY; rw [q] at z9; have := z9.symm.trans faw; first | cases this | simp at this) hY
                          replace hms := khv38 _ _ (fun q => by have z9 := hms; rw [q] at z9; have := z9.symm.trans faw; first | cases this | simp at this) hms
                          replace hmb := khv38 _ _ (fun q => by have z9 := hmb; rw [q] at z9; have := z9.symm.trans faw; first | cases this | simp at this) hmb
                          replace fkw := khv38 _ _ (fun q => by have z9 := fkw; rw [q] at z9; have := z9.symm.trans faw; first | cases this | simp at this) fkw
                          replace fvw := khv38 _ _ (fun q => by have z9 := fvw; rw [q] at z9; have := z9.symm.trans faw; first | cases this | simp at this) fvw
                          replace faj := khv38 _ _ apj.1.1 faj
                          replace fkj := khv38 _ _ apj.2.1.1 fkj
                          replace fvj := khv38 _ _ apj.2.2.1 fvj
                          replace ho7 := khv38 _ _ (fun q => by have z9 := ho7; rw [q] at z9; have := z9.symm.trans faw; first | cases this | simp at this) ho7
                          replace faw : hv38 (ra 28) = some (.inr (7, [.ref (rk 28), .ref (rv 28), .int (nI 0), .int (nI nj), .int (nI 0), .int dpw, .int rww])) := by rw [ehv38]; exact qs_self
                          clear ehv38
                          replace fr := fun b o hb n1 n2 => khv38 b o n2.1 (fr b o hb n1 n2)
                          refine lv_aload_n hx hb dX8_turn_247 rfl (lv_at hl 2 rfl) ?_
                          refine q_get C hP hY rfl inX8 2 (by decide) g1169 rfl dX8_turn_248 ?_
                          refine lv_iconst (v := nI 0) hx hb dX8_turn_251 (by decide) ?_
                          refine q_put C hP hS faw rfl inX7 tyX7 tyX7_ok nmX7 5 (by decide) g1145 rfl rfl rfl (Nat.le_of_ble_eq_true rfl) dX8_turn_252 (fun H locs hP hS => ?_)
                          replace hP : qP D N0 (qs hv38 (ra 28) (.inr (7, [.ref (rk 28), .ref (rv 28), .int (nI 0), .int (nI nj), .int (nI 0), .int (nI 0), .int rww]))) H := hP
                          obtain ⟨hv39, ehv39⟩ : ∃ z : qH, z = qs hv38 (ra 28) (.inr (7, [.ref (rk 28), .ref (rv 28), .int (nI 0), .int (nI nj), .int (nI 0), .int (nI 0), .int rww])) := ⟨_, rfl⟩
                          rw [← ehv39] at hP
                          have khv39 : ∀ b o, b ≠ (ra 28) → hv38 b = some o → hv39 b = some o := by rw [ehv39]; exact fun b o nb hb => (qs_ne nb).trans hb
                          replace hY := khv39 _ _ (fun q => by have z9 := hY; rw [q] at z9; have := z9.symm.trans faw; first | cases this | simp at this) hY
                          replace hms := khv39 _ _ (fun q => by have z9 := hms; rw [q] at z9; have := z9.symm.trans faw; first | cases this | simp at this) hms
                          replace hmb := khv39 _ _ (fun q => by have z9 := hmb; rw [q] at z9; have := z9.symm.trans faw; first | cases this | simp at this) hmb
                          replace fkw := khv39 _ _ (fun q => by have z9 := fkw; rw [q] at z9; have := z9.symm.trans faw; first | cases this | simp at this) fkw
                          replace fvw := khv39 _ _ (fun q => by have z9 := fvw; rw [q] at z9; have := z9.symm.trans faw; first | cases this | simp at this) fvw
                          replace faj := khv39 _ _ apj.1.1 faj
                          replace fkj := khv39 _ _ apj.2.1.1 fkj
                          replace fvj := khv39 _ _ apj.2.2.1 fvj
                          replace ho7 := khv39 _ _ (fun q => by have z9 := ho7; rw [q] at z9; have := z9.symm.trans faw; first | cases this | simp at this) ho7
                          replace faw : hv39 (ra 28) = some (.inr (7, [.ref (rk 28), .ref (rv 28), .int (nI 0), .int (nI nj), .int (nI 0), .int (nI 0), .int rww])) := by rw [ehv39]; exact qs_self
                          clear ehv39
                          replace fr := fun b o hb n1 n2 => khv39 b o n2.1 (fr b o hb n1 n2)
                          refine lv_iconst (v := nI 0) hx hb dX8_turn_255 (by decide) ?_
                          refine lv_istore (lv' := [(5, .int (nI 0)), (4, .int (nI nj)), (3, .ref (ra j)), (0, .ref y), (1, .int (nI i)), (2, .int (nI j))]) hx hb dX8_turn_256 hl (by decide) rfl (fun ls hl => ?_)
                          have hTl : (xTuL gr (S j).1 (S j).2.1).length = nj := by unfold xTuL; rw [if_neg (fun z => absurd (hk.symm.trans z) (by decide)), if_pos hk, List.length_map, thT_len, hlen]
                          refine (?_ : ∀ (t : Nat) (H : Heap) (locs : List Loc) (ls : Array Slot) (hv0 : qH) (fW : Nat → Int64) (ii : Nat), nj - ii < t → hv0 y = some (.inr (8, [.ref ms, .ref mb, .ref (ra 28), .int gr, .int 0, .int ca, .int (nI m0), .ref od, .ref pt, .int (nI nj), .int fau, .ref fi, .ref re, .int cs, .ref rc, .ref rs, .ref so, .ref ot, .ref cn, .ref la, .int ce, .ref ro, .int (nI (S 999).2.2.1)])) → hv0 ms = some (.inl (cy 5, 24, .inr (.inr (.inr (.inr (fun i => some (ra i))))))) → hv0 mb = some (.inl (cy 5, 4, .inr (.inr (.inr (.inr (fun i => some (ra (24 + i)))))))) → hv0 (ra 28) = some (.inr (7, [.ref (rk 28), .ref (rv 28), .int (nI 0), .int (nI nj), .int (nI 0), .int (nI 0), .int rww])) → hv0 (rk 28) = some (.inl (cy 1, 1001, .inr (.inl fW))) → hv0 (rv 28) = some (.inl (cy 1, 1001, .inr (.inl gw))) → hv0 (ra j) = some (.inr (7, [.ref (rk j), .ref (rv j), .int (S j).1, .int (nI nj), .int (nI (S j).2.2.1), .int (nI (S j).2.2.2), .int (nI rr)])) → hv0 (rk j) = some (.inl (cy 1, 1001, .inr (.inl Fj))) → hv0 (rv j) = some (.inl (cy 1, 1001, .inr (.inl Gj))) → hv0 od = some (.inl (cy 0, 1000, .inl (qPourI O7 0 ((thT (qMk gr) 7 (qIx Fj nj)).map ix9)))) → (∀ b o, hh21 b = some o → b ≠ y → qOf (ra 28) (rk 28) (rv 28) b → hv0 b = some o) → (∀ q9, q9 < ii → (xTuL gr (S j).1 (S j).2.1)[q9]? = some (fW q9, 0)) → ii ≤ nj → lv_has ls 7 [(5, .int (nI ii)), (4, .int (nI nj)), (3, .ref (ra j)), (0, .ref y), (1, .int (nI i))] → qP D N0 hv0 H → va_S (qA N0) s.heap H locs → W p l e _ s m _ below meth c H locs 0 0 _ (F0 m 258 ls [])) _ H locs ls hv39 fw 0 (Nat.lt_succ_self _) hY hms hmb faw fkw fvw faj fkj fvj ho7 fr (fun q9 z => absurd z (Nat.not_lt_zero _)) (Nat.zero_le _) (lv_sub hl [0, 1, 2, 3, 4] rfl) hP hS
                          clear hl hP hS
                          intro t
                          induction t with
                          | zero => intro H locs ls hv0 fW ii ht; exact absurd ht (Nat.not_lt_zero _)
                          | succ t ihl =>
                            intro H locs ls hv0 fW ii ht hY hms hmb faw fkw fvw faj fkj fvj ho7 fr hfW hii hl hP hS
                            refine lv_iload hx hb dX8_turn_258 (lv_at hl 0 rfl) ?_
                            refine lv_aload_n hx hb dX8_turn_260 rfl (lv_at hl 2 rfl) ?_
                            refine q_get C hP faj rfl inX7 3 (by decide) g1143 rfl dX8_turn_261 ?_
                            refine lv_icmp_ge (tgt := 330) hx hb dX8_turn_264 (by decide) (fun c264 => ?_) (fun c264 => ?_)
                            · replace c264 : nj ≤ ii := (nI_leI (a := nj) (b := ii) (by omega) (by omega)).mp c264
                              have eii : ii = nj := by omega
                              have lw : qLs (nI 0) fW gw nj = xTuL gr (S j).1 (S j).2.1 := qLs_eq hTl (fun q9 hq9 => hfW q9 (by omega))
                              refine lv_aload_n hx hb dX8_turn_330 rfl (lv_at hl 3 rfl) ?_
                              refine lv_iload_n hx hb dX8_turn_331 rfl (lv_at hl 4 rfl) ?_
                              refine lv_iload hx hb dX8_turn_332 (lv_at hl 1 rfl) ?_
                              obtain ⟨ni, rwi, Fi, Gi, hRi, hni, hLi, hKi⟩ := hrs i (by omega)
                              have api := hRi.apart hRw (hmd.two (i := i) (j := 28) (by omega) (by omega) (by omega))
                              replace hRi := hRi.keep2 (fun b o hb ho => fr b o ho (hRi.ney hY0 hb) (hb.elim (fun q => q ▸ api.1) (fun hb => hb.elim (fun q => q ▸ api.2.1) (fun q => q ▸ api.2.2))))
                              have fai := hRi.2.2.2.1
                              have fki := hRi.2.2.2.2.1
                              have fvi := hRi.2.2.2.2.2
                              unfold qRb at fai
                              unfold qJr at fki fvi
                              refine q_callV (rest := []) C (c_X8_done l D cy N0 hv0 y ms mb od pt fi re rc rs so ot cn la ro gr 0 ca (nI m0) (nI nj) fau cs ce (nI (S 999).2.2.1) ra rk rv i (nI nj) (nI 0) (nI 0) (nI 0) rww nj fW gw (S i).1 (nI (S i).2.2.1) (nI (S i).2.2.2) rwi ni Fi Gi hY hms hmd ⟨hRw.1, hRw.2.1, hRw.2.2.1, faw, fkw, fvw⟩ ⟨hRi.1, hRi.2.1, hRi.2.2.1, fai, fki, fvi⟩ (by omega) (by omega)) kX8_done g1293 g1295 rfl gp45 g4 hP hS hY (by first | decide | omega) hl.1 rfl (by decide) (by first | decide | omega) dX8_turn_334 (fun q ce E h' H1 locs1 hE => hE.elim) (fun v hh22 H locs hq hP hS => ?_)
                              obtain ⟨rfl, hY9, hw9, hi9, fr9⟩ := hq
                              replace fr := fun b o hb n1 n2 n3 => fr9 b o (fr b o hb n1 n2) n1 n2 n3
                              rw [nI_add] at hY9
                              refine lv_pop hx hb dX8_turn_337 rfl ?_
                              obtain ⟨m9, f9⟩ := hM.fin hY0 (i := i) (by omega) (s := (0, (xTuL gr (S j).1 (S j).2.1), 0, 0)) ⟨nj, _, _, _, hi9, by omega, by rw [qLs_cp]; exact lw.symm, Or.inl rfl⟩ hw9 fr
                              obtain ⟨q9, r9⟩ := q7.rowM (o' := oCd (oMv (oCt (ms, mb, ra 28, od, pt, ro, gr, cd, ca, nI m0, ct, fau, nI (S 999).2.2.1) (nI nj)) (nI (m0 + nj))) 0) hY0 hY9 m9 f9 ⟨rfl, rfl, rfl, rfl, rfl, rfl⟩
                              have eX : xs_turn S S 0 ((ms, mb, ra 28, od, pt, ro, gr, cd, ca, nI m0, ct, fau, nI (S 999).2.2.1), a, k) (nI i) (nI j) = (0, qU S i (0, (xTuL gr (S j).1 (S j).2.1), 0, 0), oMv (ms, mb, ra 28, od, pt, ro, gr, cd, ca, nI m0, ct, fau, nI (S 999).2.2.1) (nI (m0 + nj)), a, k) := by unfold xs_turn; rw [if_neg (by rw [ebi, ebj]; decide), ecj, if_neg (by rw [hoj]; decide), eci]; unfold xr_turn; rw [if_neg c54, show oMq (ms, mb, ra 28, od, pt, ro, gr, cd, ca, nI m0, ct, fau, nI (S 999).2.2.1) = nI m0 from rfl, ecm, hlen, if_neg (by omega), nI_add]
                              have q9b := q9.cg (S := S) (qU_ne (by omega)) (xRs_qU (by omega))
                              exact q_vret C hP hS ⟨rfl, A0, S, ad, 0, (show xTok S (nI i) (nI j) S 0 by unfold xTok; rw [if_neg (by unfold xTq; rw [ecj, decide_eq_false c54, Bool.and_false]; decide)]), by rw [eX]; exact ⟨nI nj, q9b⟩, ((rt7.tr q7 rfl r9).ft).sub hA0, fun i9 => if e9 : i9 < (S 999).2.2.1 then Or.inl ⟨e9, rfl⟩ else Or.inr (Or.inr (Nat.le_of_not_lt e9))⟩ (by omega) dX8_turn_338
                            · replace c264 : ¬ nj ≤ ii := fun zq => c264 ((nI_leI (a := nj) (b := ii) (by omega) (by omega)).mpr zq)
                              refine lv_aload_n hx hb dX8_turn_267 rfl (lv_at hl 2 rfl) ?_
                              refine q_get C hP faj rfl inX7 2 (by decide) g1142 rfl dX8_turn_268 ?_
                              refine lv_iconst (v := 3) hx hb dX8_turn_271 (by decide) ?_
                              refine lv_icmp_ne (tgt := 280) hx hb dX8_turn_272 (by decide) (fun _ => ?_) (fun c => absurd c (fun z => absurd (hk.symm.trans z) (by decide)))
                              refine lv_aload_n hx hb dX8_turn_280 rfl (lv_at hl 3 rfl) ?_
                              refine q_get C hP hY rfl inX8 7 (by decide) g1174 rfl dX8_turn_281 ?_
                              refine lv_iload hx hb dX8_turn_284 (lv_at hl 0 rfl) ?_
                              refine q_ialdN C hP ho7 (by omega) (by omega) dX8_turn_286 ?_
                              obtain ⟨j9, hj9, ej9, eT9⟩ := qIx_or (kd := (S j).1) (m := qMk gr) (f := Fj) (g := Gj) (O := O7) hnj (show ii < nj by omega)
                              rw [ej9]
                              refine lv_istore (lv' := [(6, .int (nI j9)), (5, .int (nI ii)), (4, .int (nI nj)), (3, .ref (ra j)), (0, .ref y), (1, .int (nI i))]) hx hb dX8_turn_287 hl (by decide) rfl (fun ls hl => ?_)
                              refine lv_aload_n hx hb dX8_turn_289 rfl (lv_at hl 4 rfl) ?_
                              refine q_get C hP hY rfl inX8 2 (by decide) g1169 rfl dX8_turn_290 ?_
                              refine q_get C hP faw rfl inX7 0 (by decide) g1138 rfl dX8_turn_293 ?_
                              refine lv_iload hx hb dX8_turn_296 (lv_at hl 1 rfl) ?_
                              refine lv_aload_n hx hb dX8_turn_298 rfl (lv_at hl 3 rfl) ?_
                              refine q_get C hP faj rfl inX7 2 (by decide) g1142 rfl dX8_turn_299 ?_
                              refine lv_iconst (v := 2) hx hb dX8_turn_302 (by decide) ?_
                              refine lv_icmp_ne (tgt := 316) hx hb dX8_turn_303 (by decide) (fun c => absurd hk c) (fun _ => ?_)
                              refine lv_aload_n hx hb dX8_turn_306 rfl (lv_at hl 3 rfl) ?_
                              refine q_get C hP faj rfl inX7 0 (by decide) g1138 rfl dX8_turn_307 ?_
                              refine lv_iload hx hb dX8_turn_310 (lv_at hl 0 rfl) ?_
                              refine q_laldN C hP fkj (by omega) (by omega) dX8_turn_312 ?_
                              refine lv_goto (tgt := 323) hx hb dX8_turn_313 (by decide) ?_
                              refine q_lastN C hP hS fkw (by omega) (by omega) dX8_turn_323 (fun H locs hP hS => ?_)
                              obtain ⟨hv40, ehv40⟩ : ∃ z : qH, z = qs hv0 (rk 28) (.inl (cy 1, 1001, .inr (.inl (vp_updL fW ii (Fj j9))))) := ⟨_, rfl⟩
                              rw [← ehv40] at hP
                              have khv40 : ∀ b o, b ≠ (rk 28) → hv0 b = some o → hv40 b = some o := by rw [ehv40]; exact fun b o nb hb => (qs_ne nb).trans hb
                              replace hY := khv40 _ _ (fun q => by have z9 := hY; rw [q] at z9; have := z9.symm.trans fkw; first | cases this | simp at this) hY
                              replace hms := khv40 _ _ (fun q => by have z9 := hms; rw [q] at z9; have := z9.symm.trans fkw; first | cases this | simp at this) hms
                              replace hmb := khv40 _ _ (fun q => by have z9 := hmb; rw [q] at z9; have := z9.symm.trans fkw; first | cases this | simp at this) hmb
                              replace faw := khv40 _ _ (fun q => by have z9 := faw; rw [q] at z9; have := z9.symm.trans fkw; first | cases this | simp at this) faw
                              replace fvw := khv40 _ _ hRw.1.symm fvw
                              replace faj := khv40 _ _ apj.1.2.1 faj
                              replace fkj := khv40 _ _ apj.2.1.2.1 fkj
                              replace fvj := khv40 _ _ apj.2.2.2.1 fvj
                              replace ho7 := khv40 _ _ (fun q => by have z9 := ho7; rw [q] at z9; have := z9.symm.trans fkw; first | cases this | simp at this) ho7
                              replace fkw : hv40 (rk 28) = some (.inl (cy 1, 1001, .inr (.inl (vp_updL fW ii (Fj j9))))) := by rw [ehv40]; exact qs_self
                              clear ehv40
                              replace fr := fun b o hb n1 n2 => khv40 b o n2.2.1 (fr b o hb n1 n2)
                              refine lv_iinc (v := nI (ii + 1)) (lv' := [(5, .int (nI (ii + 1))), (6, .int (nI j9)), (4, .int (nI nj)), (3, .ref (ra j)), (0, .ref y), (1, .int (nI i))]) hx hb dX8_turn_324 hl (k := 1) rfl (nI_1 ii) (by decide) rfl (fun ls hl => ?_)
                              refine lv_goto (tgt := 258) hx hb dX8_turn_327 (by decide) ?_
                              have eT : (xTuL gr (S j).1 (S j).2.1)[ii]? = some (Fj j9, 0) := by unfold xTuL; rw [if_neg (fun z => absurd (hk.symm.trans z) (by decide)), if_pos hk, List.getElem?_map, hLj, eT9]; rfl
                              exact ihl H locs ls hv40 _ (ii + 1) (by omega) hY hms hmb faw fkw fvw faj fkj fvj ho7 fr (fun q9 z => if e : q9 = ii then by (subst e; rw [vp_updL, if_pos rfl]; exact eT) else by (rw [vp_updL, if_neg e]; exact hfW q9 (by omega))) (by omega) (lv_sub hl [0, 2, 3, 4, 5] rfl) hP hS
                        · refine lv_aload_n hx hb dX8_turn_201 rfl (lv_at hl 0 rfl) ?_
                          refine q_get C hP faj rfl inX7 3 (by decide) g1143 rfl dX8_turn_202 ?_
                          refine lv_istore (lv' := [(4, .int (nI nj)), (3, .ref (ra j)), (0, .ref y), (1, .int (nI i)), (2, .int (nI j))]) hx hb dX8_turn_205 hl (by decide) rfl (fun ls hl => ?_)
                          refine lv_aload_n hx hb dX8_turn_207 rfl (lv_at hl 1 rfl) ?_
                          refine q_get C hP faj rfl inX7 2 (by decide) g1142 rfl dX8_turn_208 ?_
                          refine lv_iconst (v := 3) hx hb dX8_turn_211 (by decide) ?_
                          refine lv_icmp_eq (tgt := 220) hx hb dX8_turn_212 (by decide) (fun _ => ?_) (fun c => absurd hk c)
                          refine lv_aload_n hx hb dX8_turn_220 rfl (lv_at hl 2 rfl) ?_
                          refine q_get C hP hY rfl inX8 2 (by decide) g1169 rfl dX8_turn_221 ?_
                          refine lv_iconst (v := nI 0) hx hb dX8_turn_224 (by decide) ?_
                          refine q_put C hP hS faw rfl inX7 tyX7 tyX7_ok nmX7 2 (by decide) g1142 rfl rfl rfl (Nat.le_of_ble_eq_true rfl) dX8_turn_225 (fun H locs hP hS => ?_)
                          replace hP : qP D N0 (qs hv30 (ra 28) (.inr (7, [.ref (rk 28), .ref (rv 28), .int (nI 0), .int (nI nw), .int smw, .int dpw, .int rww]))) H := hP
                          obtain ⟨hv41, ehv41⟩ : ∃ z : qH, z = qs hv30 (ra 28) (.inr (7, [.ref (rk 28), .ref (rv 28), .int (nI 0), .int (nI nw), .int smw, .int dpw, .int rww])) := ⟨_, rfl⟩
                          rw [← ehv41] at hP
                          have khv41 : ∀ b o, b ≠ (ra 28) → hv30 b = some o → hv41 b = some o := by rw [ehv41]; exact fun b o nb hb => (qs_ne nb).trans hb
                          replace hY := khv41 _ _ (fun q => by have z9 := hY; rw [q] at z9; have := z9.symm.trans faw; first | cases this | simp at this) hY
                          replace hms := khv41 _ _ (fun q => by have z9 := hms; rw [q] at z9; have := z9.symm.trans faw; first | cases this | simp at this) hms
                          replace hmb := khv41 _ _ (fun q => by have z9 := hmb; rw [q] at z9; have := z9.symm.trans faw; first | cases this | simp at this) hmb
                          replace fkw := khv41 _ _ (fun q => by have z9 := fkw; rw [q] at z9; have := z9.symm.trans faw; first | cases this | simp at this) fkw
                          replace fvw := khv41 _ _ (fun q => by have z9 := fvw; rw [q] at z9; have := z9.symm.trans faw; first | cases this | simp at this) fvw
                          replace faj := khv41 _ _ apj.1.1 faj
                          replace fkj := khv41 _ _ apj.2.1.1 fkj
                          replace fvj := khv41 _ _ apj.2.2.1 fvj
                          replace faw : hv41 (ra 28) = some (.inr (7, [.ref (rk 28), .ref (rv 28), .int (nI 0), .int (nI nw), .int smw, .int dpw, .int rww])) := by rw [ehv41]; exact qs_self
                          clear ehv41
                          replace fr := fun b o hb n1 n2 => khv41 b o n2.1 (fr b o hb n1 n2)
                          refine lv_aload_n hx hb dX8_turn_228 rfl (lv_at hl 2 rfl) ?_
                          refine q_get C hP hY rfl inX8 2 (by decide) g1169 rfl dX8_turn_229 ?_
                          refine lv_aload_n hx hb dX8_turn_232 rfl (lv_at hl 1 rfl) ?_
                          refine q_get C hP faj rfl inX7 3 (by decide) g1143 rfl dX8_turn_233 ?_
                          refine q_put C hP hS faw rfl inX7 tyX7 tyX7_ok nmX7 3 (by decide) g1143 rfl rfl rfl (Nat.le_of_ble_eq_true rfl) dX8_turn_236 (fun H locs hP hS => ?_)
                          replace hP : qP D N0 (qs hv41 (ra 28) (.inr (7, [.ref (rk 28), .ref (rv 28), .int (nI 0), .int (nI nj), .int smw, .int dpw, .int rww]))) H := hP
                          obtain ⟨hv42, ehv42⟩ : ∃ z : qH, z = qs hv41 (ra 28) (.inr (7, [.ref (rk 28), .ref (rv 28), .int (nI 0), .int (nI nj), .int smw, .int dpw, .int rww])) := ⟨_, rfl⟩
                          rw [← ehv42] at hP
                          have khv42 : ∀ b o, b ≠ (ra 28) → hv41 b = some o → hv42 b = some o := by rw [ehv42]; exact fun b o nb hb => (qs_ne nb).trans hb
                          replace hY := khv42 _ _ (fun q => by have z9 := hY; rw [q] at z9; have := z9.symm.trans faw; first | cases this | simp at this) hY
                          replace hms := khv42 _ _ (fun q => by have z9 := hms; rw [q] at z9; have := z9.symm.trans faw; first | cases this | simp at this) hms
                          replace hmb := khv42 _ _ (fun q => by have z9 := hmb; rw [q] at z9; have := z9.symm.trans faw; first | cases this | simp at this) hmb
                          replace fkw := khv42 _ _ (fun q => by have z9 := fkw; rw [q] at z9; have := z9.symm.trans faw; first | cases this | simp at this) fkw
                          replace fvw := khv42 _ _ (fun q => by have z9 := fvw; rw [q] at z9; have := z9.symm.trans faw; first | cases this | simp at this) fvw
                          replace faj := khv42 _ _ apj.1.1 faj
                          replace fkj := khv42 _ _ apj.2.1.1 fkj
                          replace fvj := khv42 _ _ apj.2.2.1 fvj
                          replace faw : hv42 (ra 28) = some (.inr (7, [.ref (rk 28), .ref (rv 28), .int (nI 0), .int (nI nj), .int smw, .int dpw, .int rww])) := by rw [ehv42]; exact qs_self
                          clear ehv42
                          replace fr := fun b o hb n1 n2 => khv42 b o n2.1 (fr b o hb n1 n2)
                          refine lv_aload_n hx hb dX8_turn_239 rfl (lv_at hl 2 rfl) ?_
                          refine q_get C hP hY rfl inX8 2 (by decide) g1169 rfl dX8_turn_240 ?_
                          refine lv_iconst (v := nI 0) hx hb dX8_turn_243 (by decide) ?_
                          refine q_put C hP hS faw rfl inX7 tyX7 tyX7_ok nmX7 4 (by decide) g1144 rfl rfl rfl (Nat.le_of_ble_eq_true rfl) dX8_turn_244 (fun H locs hP hS => ?_)
                          replace hP : qP D N0 (qs hv42 (ra 28) (.inr (7, [.ref (rk 28), .ref (rv 28), .int (nI 0), .int (nI nj), .int (nI 0), .int dpw, .int rww]))) H := hP
                          obtain ⟨hv43, ehv43⟩ : ∃ z : qH, z = qs hv42 (ra 28) (.inr (7, [.ref (rk 28), .ref (rv 28), .int (nI 0), .int (nI nj), .int (nI 0), .int dpw, .int rww])) := ⟨_, rfl⟩
                          rw [← ehv43] at hP
                          have khv43 : ∀ b o, b ≠ (ra 28) → hv42 b = some o → hv43 b = some o := by rw [ehv43]; exact fun b o nb hb => (qs_ne nb).trans hb
                          replace hY := khv43 _ _ (fun q => by have z9 := hY; rw [q] at z9; have := z9.symm.trans faw; first | cases this | simp at this) hY
                          replace hms := khv43 _ _ (fun q => by have z9 := hms; rw [q] at z9; have := z9.symm.trans faw; first | cases this | simp at this) hms
                          replace hmb := khv43 _ _ (fun q => by have z9 := hmb; rw [q] at z9; have := z9.symm.trans faw; first | cases this | simp at this) hmb
                          replace fkw := khv43 _ _ (fun q => by have z9 := fkw; rw [q] at z9; have := z9.symm.trans faw; first | cases this | simp at this) fkw
                          replace fvw := khv43 _ _ (fun q => by have z9 := fvw; rw [q] at z9; have := z9.symm.trans faw; first | cases this | simp at this) fvw
                          replace faj := khv43 _ _ apj.1.1 faj
                          replace fkj := khv43 _ _ apj.2.1.1 fkj
                          replace fvj := khv43 _ _ apj.2.2.1 fvj
                          replace faw : hv43 (ra 28) = some (.inr (7, [.ref (rk 28), .ref (rv 28), .int (nI 0), .int (nI nj), .int (nI 0), .int dpw, .int rww])) := by rw [ehv43]; exact qs_self
                          clear ehv43
                          replace fr := fun b o hb n1 n2 => khv43 b o n2.1 (fr b o hb n1 n2)
                          refine lv_aload_n hx hb dX8_turn_247 rfl (lv_at hl 2 rfl) ?_
                          refine q_get C hP hY rfl inX8 2 (by decide) g1169 rfl dX8_turn_248 ?_
                          refine lv_iconst (v := nI 0) hx hb dX8_turn_251 (by decide) ?_
                          refine q_put C hP hS faw rfl inX7 tyX7 tyX7_ok nmX7 5 (by decide) g1145 rfl rfl rfl (Nat.le_of_ble_eq_true rfl) dX8_turn_252 (fun H locs hP hS => ?_)
                          replace hP : qP D N0 (qs hv43 (ra 28) (.inr (7, [.ref (rk 28), .ref (rv 28), .int (nI 0), .int (nI nj), .int (nI 0), .int (nI 0), .int rww]))) H := hP
                          obtain ⟨hv44, ehv44⟩ : ∃ z : qH, z = qs hv43 (ra 28) (.inr (7, [.ref (rk 28), .ref (rv 28), .int (nI 0), .int (nI nj), .int (nI 0), .int (nI 0), .int rww])) := ⟨_, rfl⟩
                          rw [← ehv44] at hP
                          have khv44 : ∀ b o, b ≠ (ra 28) → hv43 b = some o → hv44 b = some o := by rw [ehv44]; exact fun b o nb hb => (qs_ne nb).trans hb
                          replace hY := khv44 _ _ (fun q => by have z9 := hY; rw [q] at z9; have := z9.symm.trans faw; first | cases this | simp at this) hY
                          replace hms := khv44 _ _ (fun q => by have z9 := hms; rw [q] at z9; have := z9.symm.trans faw; first | cases this | simp at this) hms
                          replace hmb := khv44 _ _ (fun q => by have z9 := hmb; rw [q] at z9; have := z9.symm.trans faw; first | cases this | simp at this) hmb
                          replace fkw := khv44 _ _ (fun q => by have z9 := fkw; rw [q] at z9; have := z9.symm.trans faw; first | cases this | simp at this) fkw
                          replace fvw := khv44 _ _ (fun q => by have z9 := fvw; rw [q] at z9; have := z9.symm.trans faw; first | cases this | simp at this) fvw
                          replace faj := khv44 _ _ apj.1.1 faj
                          replace fkj := khv44 _ _ apj.2.1.1 fkj
                          replace fvj := khv44 _ _ apj.2.2.1 fvj
                          replace faw : hv44 (ra 28) = some (.inr (7, [.ref (rk 28), .ref (rv 28), .int (nI 0), .int (nI nj), .int (nI 0), .int (nI 0), .int rww])) := by rw [ehv44]; exact qs_self
                          clear ehv44
                          replace fr := fun b o hb n1 n2 => khv44 b o n2.1 (fr b o hb n1 n2)
                          refine lv_iconst (v := nI 0) hx hb dX8_turn_255 (by decide) ?_
                          refine lv_istore (lv' := [(5, .int (nI 0)), (4, .int (nI nj)), (3, .ref (ra j)), (0, .ref y), (1, .int (nI i)), (2, .int (nI j))]) hx hb dX8_turn_256 hl (by decide) rfl (fun ls hl => ?_)
                          have hTl : (xTuL gr (S j).1 (S j).2.1).length = nj := by unfold xTuL; rw [if_pos hk, List.length_map, hlen]
                          refine (?_ : ∀ (t : Nat) (H : Heap) (locs : List Loc) (ls : Array Slot) (hv0 : qH) (fW : Nat → Int64) (ii : Nat), nj - ii < t → hv0 y = some (.inr (8, [.ref ms, .ref mb, .ref (ra 28), .int gr, .int 0, .int ca, .int (nI m0), .ref od, .ref pt, .int ct, .int fau, .ref fi, .ref re, .int cs, .ref rc, .ref rs, .ref so, .ref ot, .ref cn, .ref la, .int ce, .ref ro, .int (nI (S 999).2.2.1)])) → hv0 ms = some (.inl (cy 5, 24, .inr (.inr (.inr (.inr (fun i => some (ra i))))))) → hv0 mb = some (.inl (cy 5, 4, .inr (.inr (.inr (.inr (fun i => some (ra (24 + i)))))))) → hv0 (ra 28) = some (.inr (7, [.ref (rk 28), .ref (rv 28), .int (nI 0), .int (nI nj), .int (nI 0), .int (nI 0), .int rww])) → hv0 (rk 28) = some (.inl (cy 1, 1001, .inr (.inl fW))) → hv0 (rv 28) = some (.inl (cy 1, 1001, .inr (.inl gw))) → hv0 (ra j) = some (.inr (7, [.ref (rk j), .ref (rv j), .int (S j).1, .int (nI nj), .int (nI (S j).2.2.1), .int (nI (S j).2.2.2), .int (nI rr)])) → hv0 (rk j) = some (.inl (cy 1, 1001, .inr (.inl Fj))) → hv0 (rv j) = some (.inl (cy 1, 1001, .inr (.inl Gj))) → (∀ b o, h b = some o → b ≠ y → qOf (ra 28) (rk 28) (rv 28) b → hv0 b = some o) → (∀ q9, q9 < ii → (xTuL gr (S j).1 (S j).2.1)[q9]? = some (fW q9, 0)) → ii ≤ nj → lv_has ls 7 [(5, .int (nI ii)), (4, .int (nI nj)), (3, .ref (ra j)), (0, .ref y), (1, .int (nI i))] → qP D N0 hv0 H → va_S (qA N0) s.heap H locs → W p l e _ s m _ below meth c H locs 0 0 _ (F0 m 258 ls [])) _ H locs ls hv44 fw 0 (Nat.lt_succ_self _) hY hms hmb faw fkw fvw faj fkj fvj fr (fun q9 z => absurd z (Nat.not_lt_zero _)) (Nat.zero_le _) (lv_sub hl [0, 1, 2, 3, 4] rfl) hP hS
                          clear hl hP hS
                          intro t
                          induction t with
                          | zero => intro H locs ls hv0 fW ii ht; exact absurd ht (Nat.not_lt_zero _)
                          | succ t ihl =>
                            intro H locs ls hv0 fW ii ht hY hms hmb faw fkw fvw faj fkj fvj fr hfW hii hl hP hS
                            refine lv_iload hx hb dX8_turn_258 (lv_at hl 0 rfl) ?_
                            refine lv_aload_n hx hb dX8_turn_260 rfl (lv_at hl 2 rfl) ?_
                            refine q_get C hP faj rfl inX7 3 (by decide) g1143 rfl dX8_turn_261 ?_
                            refine lv_icmp_ge (tgt := 330) hx hb dX8_turn_264 (by decide) (fun c264 => ?_) (fun c264 => ?_)
                            · replace c264 : nj ≤ ii := (nI_leI (a := nj) (b := ii) (by omega) (by omega)).mp c264
                              have eii : ii = nj := by omega
                              have lw : qLs (nI 0) fW gw nj = xTuL gr (S j).1 (S j).2.1 := qLs_eq hTl (fun q9 hq9 => hfW q9 (by omega))
                              refine lv_aload_n hx hb dX8_turn_330 rfl (lv_at hl 3 rfl) ?_
                              refine lv_iload_n hx hb dX8_turn_331 rfl (lv_at hl 4 rfl) ?_
                              refine lv_iload hx hb dX8_turn_332 (lv_at hl 1 rfl) ?_
                              obtain ⟨ni, rwi, Fi, Gi, hRi, hni, hLi, hKi⟩ := hrs i (by omega)
                              have api := hRi.apart hRw (hmd.two (i := i) (j := 28) (by omega) (by omega) (by omega))
                              replace hRi := hRi.keep2 (fun b o hb ho => fr b o ho (hRi.ney hY0 hb) (hb.elim (fun q => q ▸ api.1) (fun hb => hb.elim (fun q => q ▸ api.2.1) (fun q => q ▸ api.2.2))))
                              have fai := hRi.2.2.2.1
                              have fki := hRi.2.2.2.2.1
                              have fvi := hRi.2.2.2.2.2
                              unfold qRb at fai
                              unfold qJr at fki fvi
                              refine q_callV (rest := []) C (c_X8_done l D cy N0 hv0 y ms mb od pt fi re rc rs so ot cn la ro gr 0 ca (nI m0) ct fau cs ce (nI (S 999).2.2.1) ra rk rv i (nI nj) (nI 0) (nI 0) (nI 0) rww nj fW gw (S i).1 (nI (S i).2.2.1) (nI (S i).2.2.2) rwi ni Fi Gi hY hms hmd ⟨hRw.1, hRw.2.1, hRw.2.2.1, faw, fkw, fvw⟩ ⟨hRi.1, hRi.2.1, hRi.2.2.1, fai, fki, fvi⟩ (by omega) (by omega)) kX8_done g1293 g1295 rfl gp45 g4 hP hS hY (by first | decide | omega) hl.1 rfl (by decide) (by first | decide | omega) dX8_turn_334 (fun q ce E h' H1 locs1 hE => hE.elim) (fun v hh23 H locs hq hP hS => ?_)
                              obtain ⟨rfl, hY9, hw9, hi9, fr9⟩ := hq
                              replace fr := fun b o hb n1 n2 n3 => fr9 b o (fr b o hb n1 n2) n1 n2 n3
                              rw [nI_add] at hY9
                              refine lv_pop hx hb dX8_turn_337 rfl ?_
                              obtain ⟨m9, f9⟩ := hM.fin hY0 (i := i) (by omega) (s := (0, (xTuL gr (S j).1 (S j).2.1), 0, 0)) ⟨nj, _, _, _, hi9, by omega, by rw [qLs_cp]; exact lw.symm, Or.inl rfl⟩ hw9 fr
                              obtain ⟨q9, r9⟩ := hQ.rowM (o' := oCd (oMv (ms, mb, ra 28, od, pt, ro, gr, cd, ca, nI m0, ct, fau, nI (S 999).2.2.1) (nI (m0 + nj))) 0) hY0 hY9 m9 f9 ⟨rfl, rfl, rfl, rfl, rfl, rfl⟩
                              have eX : xs_turn S S 0 ((ms, mb, ra 28, od, pt, ro, gr, cd, ca, nI m0, ct, fau, nI (S 999).2.2.1), a, k) (nI i) (nI j) = (0, qU S i (0, (xTuL gr (S j).1 (S j).2.1), 0, 0), oMv (ms, mb, ra 28, od, pt, ro, gr, cd, ca, nI m0, ct, fau, nI (S 999).2.2.1) (nI (m0 + nj)), a, k) := by unfold xs_turn; rw [if_neg (by rw [ebi, ebj]; decide), ecj, if_neg (by rw [hoj]; decide), eci]; unfold xr_turn; rw [if_neg c54, show oMq (ms, mb, ra 28, od, pt, ro, gr, cd, ca, nI m0, ct, fau, nI (S 999).2.2.1) = nI m0 from rfl, ecm, hlen, if_neg (by omega), nI_add]
                              have q9b := q9.cg (S := S) (qU_ne (by omega)) (xRs_qU (by omega))
                              exact q_vret C hP hS ⟨rfl, A0, S, ad, 0, (show xTok S (nI i) (nI j) S 0 by unfold xTok; rw [if_neg (by unfold xTq; rw [ecj, decide_eq_false c54, Bool.and_false]; decide)]), by rw [eX]; exact ⟨ct, q9b⟩, (r9.ft).sub hA0, fun i9 => if e9 : i9 < (S 999).2.2.1 then Or.inl ⟨e9, rfl⟩ else Or.inr (Or.inr (Nat.le_of_not_lt e9))⟩ (by omega) dX8_turn_338
                            · replace c264 : ¬ nj ≤ ii := fun zq => c264 ((nI_leI (a := nj) (b := ii) (by omega) (by omega)).mpr zq)
                              refine lv_aload_n hx hb dX8_turn_267 rfl (lv_at hl 2 rfl) ?_
                              refine q_get C hP faj rfl inX7 2 (by decide) g1142 rfl dX8_turn_268 ?_
                              refine lv_iconst (v := 3) hx hb dX8_turn_271 (by decide) ?_
                              refine lv_icmp_ne (tgt := 280) hx hb dX8_turn_272 (by decide) (fun c => absurd hk c) (fun _ => ?_)
                              refine lv_iload hx hb dX8_turn_275 (lv_at hl 0 rfl) ?_
                              refine lv_goto (tgt := 287) hx hb dX8_turn_277 (by decide) ?_
                              refine lv_istore (lv' := [(6, .int (nI ii)), (5, .int (nI ii)), (4, .int (nI nj)), (3, .ref (ra j)), (0, .ref y), (1, .int (nI i))]) hx hb dX8_turn_287 hl (by decide) rfl (fun ls hl => ?_)
                              refine lv_aload_n hx hb dX8_turn_289 rfl (lv_at hl 4 rfl) ?_
                              refine q_get C hP hY rfl inX8 2 (by decide) g1169 rfl dX8_turn_290 ?_
                              refine q_get C hP faw rfl inX7 0 (by decide) g1138 rfl dX8_turn_293 ?_
                              refine lv_iload hx hb dX8_turn_296 (lv_at hl 1 rfl) ?_
                              refine lv_aload_n hx hb dX8_turn_298 rfl (lv_at hl 3 rfl) ?_
                              refine q_get C hP faj rfl inX7 2 (by decide) g1142 rfl dX8_turn_299 ?_
                              refine lv_iconst (v := 2) hx hb dX8_turn_302 (by decide) ?_
                              refine lv_icmp_ne (tgt := 316) hx hb dX8_turn_303 (by decide) (fun _ => ?_) (fun c => absurd c (fun z => absurd (hk.symm.trans z) (by decide)))
                              refine lv_aload_n hx hb dX8_turn_316 rfl (lv_at hl 3 rfl) ?_
                              refine q_get C hP faj rfl inX7 1 (by decide) g1140 rfl dX8_turn_317 ?_
                              refine lv_iload hx hb dX8_turn_320 (lv_at hl 0 rfl) ?_
                              refine q_laldN C hP fvj (by omega) (by omega) dX8_turn_322 ?_
                              refine q_lastN C hP hS fkw (by omega) (by omega) dX8_turn_323 (fun H locs hP hS => ?_)
                              obtain ⟨hv45, ehv45⟩ : ∃ z : qH, z = qs hv0 (rk 28) (.inl (cy 1, 1001, .inr (.inl (vp_updL fW ii (Gj ii))))) := ⟨_, rfl⟩
                              rw [← ehv45] at hP
                              have khv45 : ∀ b o, b ≠ (rk 28) → hv0 b = some o → hv45 b = some o := by rw [ehv45]; exact fun b o nb hb => (qs_ne nb).trans hb
                              replace hY := khv45 _ _ (fun q => by have z9 := hY; rw [q] at z9; have := z9.symm.trans fkw; first | cases this | simp at this) hY
                              replace hms := khv45 _ _ (fun q => by have z9 := hms; rw [q] at z9; have := z9.symm.trans fkw; first | cases this | simp at this) hms
                              replace hmb := khv45 _ _ (fun q => by have z9 := hmb; rw [q] at z9; have := z9.symm.trans fkw; first | cases this | simp at this) hmb
                              replace faw := khv45 _ _ (fun q => by have z9 := faw; rw [q] at z9; have := z9.symm.trans fkw; first | cases this | simp at this) faw
                              replace fvw := khv45 _ _ hRw.1.symm fvw
                              replace faj := khv45 _ _ apj.1.2.1 faj
                              replace fkj := khv45 _ _ apj.2.1.2.1 fkj
                              replace fvj := khv45 _ _ apj.2.2.2.1 fvj
                              replace fkw : hv45 (rk 28) = some (.inl (cy 1, 1001, .inr (.inl (vp_updL fW ii (Gj ii))))) := by rw [ehv45]; exact qs_self
                              clear ehv45
                              replace fr := fun b o hb n1 n2 => khv45 b o n2.2.1 (fr b o hb n1 n2)
                              refine lv_iinc (v := nI (ii + 1)) (lv' := [(5, .int (nI (ii + 1))), (6, .int (nI ii)), (4, .int (nI nj)), (3, .ref (ra j)), (0, .ref y), (1, .int (nI i))]) hx hb dX8_turn_324 hl (k := 1) rfl (nI_1 ii) (by decide) rfl (fun ls hl => ?_)
                              refine lv_goto (tgt := 258) hx hb dX8_turn_327 (by decide) ?_
                              have eT : (xTuL gr (S j).1 (S j).2.1)[ii]? = some (Gj ii, 0) := by unfold xTuL; rw [if_pos hk, List.getElem?_map, hLj, qLs_get2 (by omega), xV, if_pos (Or.inr hk)]; rfl
                              exact ihl H locs ls hv45 _ (ii + 1) (by omega) hY hms hmb faw fkw fvw faj fkj fvj fr (fun q9 z => if e : q9 = ii then by (subst e; rw [vp_updL, if_pos rfl]; exact eT) else by (rw [vp_updL, if_neg e]; exact hfW q9 (by omega))) (by omega) (lv_sub hl [0, 2, 3, 4, 5] rfl) hP hS
                      · replace c197 : 1 = 0 := (nI_eq (a := 1) (b := 0) (by omega) (by omega)).mp c197
                        exfalso; omega
                    · rw [if_neg cf]
                      refine lv_iconst (v := nI 3) hx hb dX8_turn_193 (by decide) ?_
                      refine q_callV (rest := []) C (c_X8_good0 l D cy N0 hv3 y ms mb (ra 28) od pt fi re rc rs so ot cn la ro gr 0 ca (nI m0) ct fau cs ce (nI (S 999).2.2.1) (nI 3) hY) kX8_good g1249 g1251 rfl gp41 g4 hP hS hY (by first | decide | omega) hl.1 rfl (by decide) (by first | decide | omega) dX8_turn_194 (fun q ce E h' H1 locs1 hE => hE.elim) (fun v hh24 H locs hq hP hS => ?_)
                      obtain ⟨rfl, rfl⟩ := hq
                      replace hP : qP D N0 (qs hv3 y (.inr (8, [.ref ms, .ref mb, .ref (ra 28), .int gr, .int (nI 3), .int ca, .int (nI m0), .ref od, .ref pt, .int ct, .int fau, .ref fi, .ref re, .int cs, .ref rc, .ref rs, .ref so, .ref ot, .ref cn, .ref la, .int ce, .ref ro, .int (nI (S 999).2.2.1)]))) H := hP
                      obtain ⟨hv46, ehv46⟩ : ∃ z : qH, z = qs hv3 y (.inr (8, [.ref ms, .ref mb, .ref (ra 28), .int gr, .int (nI 3), .int ca, .int (nI m0), .ref od, .ref pt, .int ct, .int fau, .ref fi, .ref re, .int cs, .ref rc, .ref rs, .ref so, .ref ot, .ref cn, .ref la, .int ce, .ref ro, .int (nI (S 999).2.2.1)])) := ⟨_, rfl⟩
                      rw [← ehv46] at hP
                      have khv46 : ∀ b o, b ≠ y → hv3 b = some o → hv46 b = some o := by rw [ehv46]; exact fun b o nb hb => (qs_ne nb).trans hb
                      replace hms := khv46 _ _ (fun q => by subst q; have := hms.symm.trans hY; first | cases this | simp at this) hms
                      replace hmb := khv46 _ _ (fun q => by subst q; have := hmb.symm.trans hY; first | cases this | simp at this) hmb
                      replace faw := khv46 _ _ (fun q => by have z9 := faw; rw [q] at z9; have := z9.symm.trans hY; first | cases this | simp at this) faw
                      replace fkw := khv46 _ _ (fun q => by have z9 := fkw; rw [q] at z9; have := z9.symm.trans hY; first | cases this | simp at this) fkw
                      replace fvw := khv46 _ _ (fun q => by have z9 := fvw; rw [q] at z9; have := z9.symm.trans hY; first | cases this | simp at this) fvw
                      replace faj := khv46 _ _ (fun q => by have z9 := faj; rw [q] at z9; have := z9.symm.trans hY; first | cases this | simp at this) faj
                      replace fkj := khv46 _ _ (fun q => by have z9 := fkj; rw [q] at z9; have := z9.symm.trans hY; first | cases this | simp at this) fkj
                      replace fvj := khv46 _ _ (fun q => by have z9 := fvj; rw [q] at z9; have := z9.symm.trans hY; first | cases this | simp at this) fvj
                      replace hY : hv46 y = some (.inr (8, [.ref ms, .ref mb, .ref (ra 28), .int gr, .int (nI 3), .int ca, .int (nI m0), .ref od, .ref pt, .int ct, .int fau, .ref fi, .ref re, .int cs, .ref rc, .ref rs, .ref so, .ref ot, .ref cn, .ref la, .int ce, .ref ro, .int (nI (S 999).2.2.1)])) := by rw [ehv46]; exact qs_self
                      clear ehv46
                      replace fr := fun b o hb n1 n2 => khv46 b o n1 (fr b o hb n1 n2)
                      refine lv_if_ne (tgt := 201) hx hb dX8_turn_197 (by decide) (fun c197 => ?_) (fun c197 => ?_)
                      · replace c197 : ¬ 0 = 0 := fun zq => c197 ((nI_eq (a := 0) (b := 0) (by omega) (by omega)).mpr zq)
                        exfalso; omega
                      · replace c197 : 0 = 0 := (nI_eq (a := 0) (b := 0) (by omega) (by omega)).mp c197
                        have eX : xs_turn S S 0 ((ms, mb, ra 28, od, pt, ro, gr, cd, ca, nI m0, ct, fau, nI (S 999).2.2.1), a, k) (nI i) (nI j) = (3, S, (ms, mb, ra 28, od, pt, ro, gr, cd, ca, nI m0, ct, fau, nI (S 999).2.2.1), a, k) := by unfold xs_turn; rw [if_neg (by rw [ebi, ebj]; decide), ecj, if_neg (by rw [hoj]; decide), eci]; unfold xr_turn; rw [if_neg c54, show oMq (ms, mb, ra 28, od, pt, ro, gr, cd, ca, nI m0, ct, fau, nI (S 999).2.2.1) = nI m0 from rfl, ecm, hlen, if_pos (by omega)]
                        obtain ⟨m8, f8⟩ := hM.fin0 hY0 (h' := hv46) ⟨hRw.1, hRw.2.1, hRw.2.2.1, faw, fkw, fvw⟩ fr
                        obtain ⟨q8, r8⟩ := hQ.rowM (o' := oCd (ms, mb, ra 28, od, pt, ro, gr, cd, ca, nI m0, ct, fau, nI (S 999).2.2.1) 3) hY0 hY m8 f8 ⟨rfl, rfl, rfl, rfl, rfl, rfl⟩
                        exact q_vret C hP hS ⟨rfl, A0, S, ad, 0, (show xTok S (nI i) (nI j) S 0 by unfold xTok; rw [if_neg (by unfold xTq; rw [ecj, decide_eq_false c54, Bool.and_false]; decide)]), by rw [eX]; exact ⟨ct, q8⟩, (r8.ft).sub hA0, fun i9 => if e9 : i9 < (S 999).2.2.1 then Or.inl ⟨e9, rfl⟩ else Or.inr (Or.inr (Nat.le_of_not_lt e9))⟩ (by omega) dX8_turn_200
                  · refine lv_aload_n hx hb dX8_turn_57 rfl (lv_at hl 0 rfl) ?_
                    refine q_get C hP faj rfl inX7 6 (by decide) g1147 rfl dX8_turn_58 ?_
                    refine lv_if_ge (tgt := 134) hx hb dX8_turn_61 (by decide) (fun c61 => ?_) (fun c61 => ?_)
                    · replace c61 : 0 ≤ rr := (nI_leI (a := 0) (b := rr) (by omega) (by omega)).mp c61
                      obtain ⟨m8, f8⟩ := hM.fin0 hY0 (h' := hv3) ⟨hRw.1, hRw.2.1, hRw.2.2.1, faw, fkw, fvw⟩ fr
                      obtain ⟨q8, r8a⟩ := hQ.rowM (o' := oCd (ms, mb, ra 28, od, pt, ro, gr, cd, ca, nI m0, ct, fau, nI (S 999).2.2.1) 0) hY0 hY m8 f8 ⟨rfl, rfl, rfl, rfl, rfl, rfl⟩
                      have r8 := r8a.ft (ro := ro)
                      have htok : xTok S (nI i) (nI j) S rr := by unfold xTok; rw [if_pos (by unfold xTq; rw [ebi, ebj, ecj]; exact decide_eq_true c54)]; rw [ecj]; exact ⟨Or.inl rfl, hrr, by unfold xRs; rw [eLr]⟩
                      have hrl : xRs S rr = (S j).2.1.map Prod.fst := by unfold xRs; rw [eLr]
                      have hY1 := hY
                      replace hY0 := hY
                      replace hM : qMR cy hv3 ms mb (ra 28) ra rk rv S := q8.2.2.1
                      replace hrs := hM.2.2.2.2.1
                      replace hRw : qRw cy hv3 (ra 28) (rk 28) (rv 28) kdw (nI nw) smw dpw rww fw gw := ⟨hRw.1, hRw.2.1, hRw.2.2.1, faw, fkw, fvw⟩
                      replace fr : ∀ b o, hv3 b = some o → b ≠ y → qOf (ra 28) (rk 28) (rv 28) b → hv3 b = some o := fun b o hb _ _ => hb
                      refine lv_aload_n hx hb dX8_turn_134 rfl (lv_at hl 1 rfl) ?_
                      refine q_get C hP hY rfl inX8 2 (by decide) g1169 rfl dX8_turn_135 ?_
                      refine lv_bipush (v := nI 6) hx hb dX8_turn_138 (by decide) ?_
                      refine q_put C hP hS faw rfl inX7 tyX7 tyX7_ok nmX7 2 (by decide) g1142 rfl rfl rfl (Nat.le_of_ble_eq_true rfl) dX8_turn_140 (fun H locs hP hS => ?_)
                      replace hP : qP D N0 (qs hv3 (ra 28) (.inr (7, [.ref (rk 28), .ref (rv 28), .int (nI 6), .int (nI nw), .int smw, .int dpw, .int rww]))) H := hP
                      obtain ⟨hv47, ehv47⟩ : ∃ z : qH, z = qs hv3 (ra 28) (.inr (7, [.ref (rk 28), .ref (rv 28), .int (nI 6), .int (nI nw), .int smw, .int dpw, .int rww])) := ⟨_, rfl⟩
                      rw [← ehv47] at hP
                      have khv47 : ∀ b o, b ≠ (ra 28) → hv3 b = some o → hv47 b = some o := by rw [ehv47]; exact fun b o nb hb => (qs_ne nb).trans hb
                      replace hY := khv47 _ _ (fun q => by have z9 := hY; rw [q] at z9; have := z9.symm.trans faw; first | cases this | simp at this) hY
                      replace hms := khv47 _ _ (fun q => by have z9 := hms; rw [q] at z9; have := z9.symm.trans faw; first | cases this | simp at this) hms
                      replace hmb := khv47 _ _ (fun q => by have z9 := hmb; rw [q] at z9; have := z9.symm.trans faw; first | cases this | simp at this) hmb
                      replace fkw := khv47 _ _ (fun q => by have z9 := fkw; rw [q] at z9; have := z9.symm.trans faw; first | cases this | simp at this) fkw
                      replace fvw := khv47 _ _ (fun q => by have z9 := fvw; rw [q] at z9; have := z9.symm.trans faw; first | cases this | simp at this) fvw
                      replace faj := khv47 _ _ apj.1.1 faj
                      replace fkj := khv47 _ _ apj.2.1.1 fkj
                      replace fvj := khv47 _ _ apj.2.2.1 fvj
                      replace faw : hv47 (ra 28) = some (.inr (7, [.ref (rk 28), .ref (rv 28), .int (nI 6), .int (nI nw), .int smw, .int dpw, .int rww])) := by rw [ehv47]; exact qs_self
                      clear ehv47
                      replace fr := fun b o hb n1 n2 => khv47 b o n2.1 (fr b o hb n1 n2)
                      refine lv_aload_n hx hb dX8_turn_143 rfl (lv_at hl 1 rfl) ?_
                      refine q_get C hP hY rfl inX8 2 (by decide) g1169 rfl dX8_turn_144 ?_
                      refine lv_iconst (v := nI 0) hx hb dX8_turn_147 (by decide) ?_
                      refine q_put C hP hS faw rfl inX7 tyX7 tyX7_ok nmX7 3 (by decide) g1143 rfl rfl rfl (Nat.le_of_ble_eq_true rfl) dX8_turn_148 (fun H locs hP hS => ?_)
                      replace hP : qP D N0 (qs hv47 (ra 28) (.inr (7, [.ref (rk 28), .ref (rv 28), .int (nI 6), .int (nI 0), .int smw, .int dpw, .int rww]))) H := hP
                      obtain ⟨hv48, ehv48⟩ : ∃ z : qH, z = qs hv47 (ra 28) (.inr (7, [.ref (rk 28), .ref (rv 28), .int (nI 6), .int (nI 0), .int smw, .int dpw, .int rww])) := ⟨_, rfl⟩
                      rw [← ehv48] at hP
                      have khv48 : ∀ b o, b ≠ (ra 28) → hv47 b = some o → hv48 b = some o := by rw [ehv48]; exact fun b o nb hb => (qs_ne nb).trans hb
                      replace hY := khv48 _ _ (fun q => by have z9 := hY; rw [q] at z9; have := z9.symm.trans faw; first | cases this | simp at this) hY
                      replace hms := khv48 _ _ (fun q => by have z9 := hms; rw [q] at z9; have := z9.symm.trans faw; first | cases this | simp at this) hms
                      replace hmb := khv48 _ _ (fun q => by have z9 := hmb; rw [q] at z9; have := z9.symm.trans faw; first | cases this | simp at this) hmb
                      replace fkw := khv48 _ _ (fun q => by have z9 := fkw; rw [q] at z9; have := z9.symm.trans faw; first | cases this | simp at this) fkw
                      replace fvw := khv48 _ _ (fun q => by have z9 := fvw; rw [q] at z9; have := z9.symm.trans faw; first | cases this | simp at this) fvw
                      replace faj := khv48 _ _ apj.1.1 faj
                      replace fkj := khv48 _ _ apj.2.1.1 fkj
                      replace fvj := khv48 _ _ apj.2.2.1 fvj
                      replace faw : hv48 (ra 28) = some (.inr (7, [.ref (rk 28), .ref (rv 28), .int (nI 6), .int (nI 0), .int smw, .int dpw, .int rww])) := by rw [ehv48]; exact qs_self
                      clear ehv48
                      replace fr := fun b o hb n1 n2 => khv48 b o n2.1 (fr b o hb n1 n2)
                      refine lv_aload_n hx hb dX8_turn_151 rfl (lv_at hl 1 rfl) ?_
                      refine q_get C hP hY rfl inX8 2 (by decide) g1169 rfl dX8_turn_152 ?_
                      refine lv_iconst (v := nI 0) hx hb dX8_turn_155 (by decide) ?_
                      refine q_put C hP hS faw rfl inX7 tyX7 tyX7_ok nmX7 5 (by decide) g1145 rfl rfl rfl (Nat.le_of_ble_eq_true rfl) dX8_turn_156 (fun H locs hP hS => ?_)
                      replace hP : qP D N0 (qs hv48 (ra 28) (.inr (7, [.ref (rk 28), .ref (rv 28), .int (nI 6), .int (nI 0), .int smw, .int (nI 0), .int rww]))) H := hP
                      obtain ⟨hv49, ehv49⟩ : ∃ z : qH, z = qs hv48 (ra 28) (.inr (7, [.ref (rk 28), .ref (rv 28), .int (nI 6), .int (nI 0), .int smw, .int (nI 0), .int rww])) := ⟨_, rfl⟩
                      rw [← ehv49] at hP
                      have khv49 : ∀ b o, b ≠ (ra 28) → hv48 b = some o → hv49 b = some o := by rw [ehv49]; exact fun b o nb hb => (qs_ne nb).trans hb
                      replace hY := khv49 _ _ (fun q => by have z9 := hY; rw [q] at z9; have := z9.symm.trans faw; first | cases this | simp at this) hY
                      replace hms := khv49 _ _ (fun q => by have z9 := hms; rw [q] at z9; have := z9.symm.trans faw; first | cases this | simp at this) hms
                      replace hmb := khv49 _ _ (fun q => by have z9 := hmb; rw [q] at z9; have := z9.symm.trans faw; first | cases this | simp at this) hmb
                      replace fkw := khv49 _ _ (fun q => by have z9 := fkw; rw [q] at z9; have := z9.symm.trans faw; first | cases this | simp at this) fkw
                      replace fvw := khv49 _ _ (fun q => by have z9 := fvw; rw [q] at z9; have := z9.symm.trans faw; first | cases this | simp at this) fvw
                      replace faj := khv49 _ _ apj.1.1 faj
                      replace fkj := khv49 _ _ apj.2.1.1 fkj
                      replace fvj := khv49 _ _ apj.2.2.1 fvj
                      replace faw : hv49 (ra 28) = some (.inr (7, [.ref (rk 28), .ref (rv 28), .int (nI 6), .int (nI 0), .int smw, .int (nI 0), .int rww])) := by rw [ehv49]; exact qs_self
                      clear ehv49
                      replace fr := fun b o hb n1 n2 => khv49 b o n2.1 (fr b o hb n1 n2)
                      refine lv_aload_n hx hb dX8_turn_159 rfl (lv_at hl 1 rfl) ?_
                      refine q_get C hP hY rfl inX8 2 (by decide) g1169 rfl dX8_turn_160 ?_
                      refine lv_aload_n hx hb dX8_turn_163 rfl (lv_at hl 1 rfl) ?_
                      refine lv_aload_n hx hb dX8_turn_164 rfl (lv_at hl 0 rfl) ?_
                      refine q_get C hP faj rfl inX7 6 (by decide) g1147 rfl dX8_turn_165 ?_
                      refine lv_iconst (v := nI 0) hx hb dX8_turn_168 (by decide) ?_
                      have hL8 := (hV.L hB).1
                      have hLn := (hV.L hB).2
                      obtain ⟨m7, f7⟩ := hM.fin0 hY0 (h' := hv49) ⟨hRw.1, hRw.2.1, hRw.2.2.1, faw, fkw, fvw⟩ fr
                      obtain ⟨q6, r6⟩ := q8.rowM (o' := (oCd (ms, mb, ra 28, od, pt, ro, gr, cd, ca, nI m0, ct, fau, nI (S 999).2.2.1) 0)) hY0 hY m7 f7 ⟨rfl, rfl, rfl, rfl, rfl, rfl⟩
                      have r5 := r8.tr9 q8 rfl rfl r6.ft
                      obtain ⟨T9, eT9⟩ : ∃ z, xRow (xRs S) ((oCd (ms, mb, ra 28, od, pt, ro, gr, cd, ca, nI m0, ct, fau, nI (S 999).2.2.1) 0), a, k) rr 0 = z := ⟨_, rfl⟩
                      have hV7 : qWv Bd sl (S 999).2.2.1 dp ((oCd (ms, mb, ra 28, od, pt, ro, gr, cd, ca, nI m0, ct, fau, nI (S 999).2.2.1) 0), a, k) := hV.obj rfl
                      obtain ⟨ep1, ep2⟩ := xRow_P (R := xRs S) hV7 (row := rr) (j := 0)
                      rw [eT9] at ep1 ep2
                      have eo9 : T9.2.1 = (oCd (ms, mb, ra 28, od, pt, ro, gr, cd, ca, nI m0, ct, fau, nI (S 999).2.2.1) 0) := by rw [← eT9]; exact xRow_o
                      have epX : qP1 X = qP1 T9.2.2.1 ∧ qP2 X = qP2 T9.2.2.1 := by rw [← hX, ← eT9]; exact xTa_P (by rw [ebi, ebj]; rfl) (by rw [ecj]; exact c54) (by rw [ecj]; exact hrl)
                      have hcall := w_ofRow l D cy N0 hv49 y A0 (oCd (ms, mb, ra 28, od, pt, ro, gr, cd, ca, nI m0, ct, fau, nI (S 999).2.2.1) 0) a k (xRs S) ad (S 999).2.2.1 rr 0 q6.1 q6.2.1 hL8 q6.2.2.2.2.1 (by omega) (by omega)
                      rw [eT9] at hcall
                      refine q_callV (rest := [.ref (ra 28)]) C (hcall) kX8_ofRow g1343 g1345 rfl gp53 g4 hP hS hY (by first | decide | omega) hl.1 rfl (by simp [q_catrf, q_cati, q_catl, q_cata, q_catn]) (by first | decide | omega) dX8_turn_169 (fun q ce E h' H1 locs1 hE => hE.elim) (fun v hh25 H locs hq hP hS => ?_)
                      obtain ⟨rfl, A1, hS1, hF1, nA1⟩ := hq
                      obtain ⟨s2, o2, a2, k2⟩ := T9
                      dsimp only at eo9 hS1 hF1 ep1 ep2 epX eT9
                      subst eo9
                      have ap9 := q6.2.2.2.2.2
                      replace hms := hF1.1 _ _ hms (qne_arr (cy := cy) hms hY) ap9.two.1
                      replace hmb := hF1.1 _ _ hmb (qne_arr (cy := cy) hmb hY) ap9.two.2
                      replace faw := hF1.1 _ _ faw (fun z => by rw [z] at faw; have := faw.symm.trans hY; cases this) (ap9.row (i := 28) (by omega)).1
                      replace fkw := hF1.1 _ _ fkw (qne_arr (cy := cy) fkw hY) (ap9.row (i := 28) (by omega)).2.1
                      replace fvw := hF1.1 _ _ fvw (qne_arr (cy := cy) fvw hY) (ap9.row (i := 28) (by omega)).2.2
                      replace faj := hF1.1 _ _ faj (fun z => by rw [z] at faj; have := faj.symm.trans hY; cases this) (ap9.row (i := j) (by omega)).1
                      replace fkj := hF1.1 _ _ fkj (qne_arr (cy := cy) fkj hY) (ap9.row (i := j) (by omega)).2.1
                      replace fvj := hF1.1 _ _ fvj (qne_arr (cy := cy) fvj hY) (ap9.row (i := j) (by omega)).2.2
                      obtain ⟨q7a, r7a⟩ := q6.str hS1 hF1 nA1 ⟨rfl, rfl, rfl, rfl, rfl, rfl⟩
                      have rta := r5.tr9 q6 rfl rfl r7a.ft
                      clear hY
                      obtain ⟨fja, rja, rcja, rsja, soja, otja, cnja, laja, hY⟩ := q7a.1.yo2
                      unfold qYo at hY
                      dsimp only [oFa, oMv, oCa, oCd, oRn] at hY
                      have hY0 := hY
                      have hM := q7a.2.2.1
                      have hrs := hM.2.2.2.2.1
                      replace hRw : qRw cy hh25 (ra 28) (rk 28) (rv 28) (nI 6) (nI 0) smw (nI 0) rww fw gw := ⟨hRw.1, hRw.2.1, hRw.2.2.1, faw, fkw, fvw⟩
                      replace fr : ∀ b o, hh25 b = some o → b ≠ y → qOf (ra 28) (rk 28) (rv 28) b → hh25 b = some o := fun b o hb _ _ => hb
                      refine q_put C hP hS faw rfl inX7 tyX7 tyX7_ok nmX7 4 (by decide) g1144 rfl rfl rfl (Nat.le_of_ble_eq_true rfl) dX8_turn_172 (fun H locs hP hS => ?_)
                      replace hP : qP D N0 (qs hh25 (ra 28) (.inr (7, [.ref (rk 28), .ref (rv 28), .int (nI 6), .int (nI 0), .int (nI s2), .int (nI 0), .int rww]))) H := hP
                      obtain ⟨hv50, ehv50⟩ : ∃ z : qH, z = qs hh25 (ra 28) (.inr (7, [.ref (rk 28), .ref (rv 28), .int (nI 6), .int (nI 0), .int (nI s2), .int (nI 0), .int rww])) := ⟨_, rfl⟩
                      rw [← ehv50] at hP
                      have khv50 : ∀ b o, b ≠ (ra 28) → hh25 b = some o → hv50 b = some o := by rw [ehv50]; exact fun b o nb hb => (qs_ne nb).trans hb
                      replace hY := khv50 _ _ (fun q => by have z9 := hY; rw [q] at z9; have := z9.symm.trans faw; first | cases this | simp at this) hY
                      replace hms := khv50 _ _ (fun q => by have z9 := hms; rw [q] at z9; have := z9.symm.trans faw; first | cases this | simp at this) hms
                      replace hmb := khv50 _ _ (fun q => by have z9 := hmb; rw [q] at z9; have := z9.symm.trans faw; first | cases this | simp at this) hmb
                      replace fkw := khv50 _ _ (fun q => by have z9 := fkw; rw [q] at z9; have := z9.symm.trans faw; first | cases this | simp at this) fkw
                      replace fvw := khv50 _ _ (fun q => by have z9 := fvw; rw [q] at z9; have := z9.symm.trans faw; first | cases this | simp at this) fvw
                      replace faj := khv50 _ _ apj.1.1 faj
                      replace fkj := khv50 _ _ apj.2.1.1 fkj
                      replace fvj := khv50 _ _ apj.2.2.1 fvj
                      replace faw : hv50 (ra 28) = some (.inr (7, [.ref (rk 28), .ref (rv 28), .int (nI 6), .int (nI 0), .int (nI s2), .int (nI 0), .int rww])) := by rw [ehv50]; exact qs_self
                      clear ehv50
                      replace fr := fun b o hb n1 n2 => khv50 b o n2.1 (fr b o hb n1 n2)
                      refine lv_aload_n hx hb dX8_turn_175 rfl (lv_at hl 1 rfl) ?_
                      refine lv_iload_n hx hb dX8_turn_176 rfl (lv_at hl 2 rfl) ?_
                      refine lv_iconst (v := nI 0) hx hb dX8_turn_177 (by decide) ?_
                      obtain ⟨ni, rwi, Fi, Gi, hRi, hni, hLi, hKi⟩ := hrs i (by omega)
                      have api := hRi.apart hRw (hmd.two (i := i) (j := 28) (by omega) (by omega) (by omega))
                      replace hRi := hRi.keep2 (fun b o hb ho => fr b o ho (hRi.ney hY0 hb) (hb.elim (fun q => q ▸ api.1) (fun hb => hb.elim (fun q => q ▸ api.2.1) (fun q => q ▸ api.2.2))))
                      have fai := hRi.2.2.2.1
                      have fki := hRi.2.2.2.2.1
                      have fvi := hRi.2.2.2.2.2
                      unfold qRb at fai
                      unfold qJr at fki fvi
                      refine q_callV (rest := []) C (c_X8_done l D cy N0 hv50 y ms mb od pt fja rja rcja rsja soja otja cnja laja ro gr 0 ca (nI m0) ct fau (nI a2.1) (nI k2.1) (nI (S 999).2.2.1) ra rk rv i (nI 0) (nI 6) (nI s2) (nI 0) rww 0 fw gw (S i).1 (nI (S i).2.2.1) (nI (S i).2.2.2) rwi ni Fi Gi hY hms hmd ⟨hRw.1, hRw.2.1, hRw.2.2.1, faw, fkw, fvw⟩ ⟨hRi.1, hRi.2.1, hRi.2.2.1, fai, fki, fvi⟩ (by omega) (by omega)) kX8_done g1293 g1295 rfl gp45 g4 hP hS hY (by first | decide | omega) hl.1 rfl (by decide) (by first | decide | omega) dX8_turn_178 (fun q ce E h' H1 locs1 hE => hE.elim) (fun v hh26 H locs hq hP hS => ?_)
                      obtain ⟨rfl, hY9, hw9, hi9, fr9⟩ := hq
                      replace fr := fun b o hb n1 n2 n3 => fr9 b o (fr b o hb n1 n2) n1 n2 n3
                      rw [show (nI m0) + nI 0 = (nI m0) from Int32.add_zero _] at hY9
                      refine lv_pop hx hb dX8_turn_181 rfl ?_
                      obtain ⟨m9, f9⟩ := hM.fin hY0 (i := i) (by omega) (s := (6, [], s2, 0)) ⟨0, _, _, _, hi9, by omega, rfl, Or.inl rfl⟩ hw9 fr
                      obtain ⟨q9, r9⟩ := q7a.rowM (o' := (oCd (ms, mb, ra 28, od, pt, ro, gr, cd, ca, nI m0, ct, fau, nI (S 999).2.2.1) 0)) hY0 hY9 m9 f9 ⟨rfl, rfl, rfl, rfl, rfl, rfl⟩
                      have eX : xs_turn S S rr ((ms, mb, ra 28, od, pt, ro, gr, cd, ca, nI m0, ct, fau, nI (S 999).2.2.1), a, k) (nI i) (nI j) = (0, qU S i (6, [], s2, 0), (ms, mb, ra 28, od, pt, ro, gr, cd, ca, nI m0, ct, fau, nI (S 999).2.2.1), a2, k2) := by unfold xs_turn; rw [if_neg (by rw [ebi, ebj]; decide), ecj, if_neg (by rw [hoj]; decide), eci]; unfold xr_turn; rw [if_pos c54, xRow_w (o' := (oCd (ms, mb, ra 28, od, pt, ro, gr, cd, ca, nI m0, ct, fau, nI (S 999).2.2.1) 0)), eT9]
                      have q9b := q9.cg (S := S) (qU_ne (by omega)) (xRs_qU (by omega))
                      exact q_vret C hP hS ⟨rfl, A1, S, ad, rr, htok, by rw [eX]; exact ⟨ct, q9b⟩, (rta.tr9 q7a rfl rfl r9.ft).sub hA0, fun i9 => if e9 : i9 < (S 999).2.2.1 then Or.inl ⟨e9, rfl⟩ else Or.inr (Or.inr (Nat.le_of_not_lt e9))⟩ (by omega) dX8_turn_182
                    · replace c61 : ¬ 0 ≤ rr := fun zq => c61 ((nI_leI (a := 0) (b := rr) (by omega) (by omega)).mpr zq)
                      exfalso; omega
              · replace c39 : 1 = 0 := (nI_eq (a := 1) (b := 0) (by omega) (by omega)).mp c39
                exfalso; omega
      · have ebj : bSl p1 = false := bSl_f sl9
        refine lv_if_eq (tgt := 19) hx hb dX8_turn_12 (by decide) (fun c12 => ?_) (fun c12 => ?_)
        · replace c12 : 0 = 0 := (nI_eq (a := 0) (b := 0) (by omega) (by omega)).mp c12
          refine lv_iconst (v := nI 0) hx hb dX8_turn_19 (by decide) ?_
          refine lv_iconst (v := nI 1) hx hb dX8_turn_20 (by decide) ?_
          refine q_callV (rest := []) C (c_X8_good0 l D cy N0 h y ms mb (ra 28) od pt fi re rc rs so ot cn la ro gr cd ca (nI m0) ct fau cs ce (nI (S 999).2.2.1) (nI 1) hY) kX8_good g1249 g1251 rfl gp41 g4 hP hS hY (by first | decide | omega) hl.1 rfl (by decide) (by first | decide | omega) dX8_turn_21 (fun q ce E h' H1 locs1 hE => hE.elim) (fun v hh27 H locs hq hP hS => ?_)
          obtain ⟨rfl, rfl⟩ := hq
          replace hP : qP D N0 (qs h y (.inr (8, [.ref ms, .ref mb, .ref (ra 28), .int gr, .int (nI 1), .int ca, .int (nI m0), .ref od, .ref pt, .int ct, .int fau, .ref fi, .ref re, .int cs, .ref rc, .ref rs, .ref so, .ref ot, .ref cn, .ref la, .int ce, .ref ro, .int (nI (S 999).2.2.1)]))) H := hP
          obtain ⟨hv51, ehv51⟩ : ∃ z : qH, z = qs h y (.inr (8, [.ref ms, .ref mb, .ref (ra 28), .int gr, .int (nI 1), .int ca, .int (nI m0), .ref od, .ref pt, .int ct, .int fau, .ref fi, .ref re, .int cs, .ref rc, .ref rs, .ref so, .ref ot, .ref cn, .ref la, .int ce, .ref ro, .int (nI (S 999).2.2.1)])) := ⟨_, rfl⟩
          rw [← ehv51] at hP
          have khv51 : ∀ b o, b ≠ y → h b = some o → hv51 b = some o := by rw [ehv51]; exact fun b o nb hb => (qs_ne nb).trans hb
          replace hms := khv51 _ _ (fun q => by subst q; have := hms.symm.trans hY; first | cases this | simp at this) hms
          replace hmb := khv51 _ _ (fun q => by subst q; have := hmb.symm.trans hY; first | cases this | simp at this) hmb
          replace faw := khv51 _ _ (fun q => by have z9 := faw; rw [q] at z9; have := z9.symm.trans hY; first | cases this | simp at this) faw
          replace fkw := khv51 _ _ (fun q => by have z9 := fkw; rw [q] at z9; have := z9.symm.trans hY; first | cases this | simp at this) fkw
          replace fvw := khv51 _ _ (fun q => by have z9 := fvw; rw [q] at z9; have := z9.symm.trans hY; first | cases this | simp at this) fvw
          replace hY : hv51 y = some (.inr (8, [.ref ms, .ref mb, .ref (ra 28), .int gr, .int (nI 1), .int ca, .int (nI m0), .ref od, .ref pt, .int ct, .int fau, .ref fi, .ref re, .int cs, .ref rc, .ref rs, .ref so, .ref ot, .ref cn, .ref la, .int ce, .ref ro, .int (nI (S 999).2.2.1)])) := by rw [ehv51]; exact qs_self
          clear ehv51
          replace fr := fun b o hb n1 n2 => khv51 b o n1 (fr b o hb n1 n2)
          refine lv_if_eq (tgt := 42) hx hb dX8_turn_24 (by decide) (fun c24 => ?_) (fun c24 => ?_)
          · replace c24 : 0 = 0 := (nI_eq (a := 0) (b := 0) (by omega) (by omega)).mp c24
            have eX : xs_turn S S 0 ((ms, mb, ra 28, od, pt, ro, gr, cd, ca, nI m0, ct, fau, nI (S 999).2.2.1), a, k) (nI i) p1 = (1, S, (ms, mb, ra 28, od, pt, ro, gr, cd, ca, nI m0, ct, fau, nI (S 999).2.2.1), a, k) := by unfold xs_turn; rw [if_pos (by simp [ebi, ebj])]
            obtain ⟨m8, f8⟩ := hM.fin0 hY0 (h' := hv51) ⟨hRw.1, hRw.2.1, hRw.2.2.1, faw, fkw, fvw⟩ fr
            obtain ⟨q8, r8⟩ := hQ.rowM (o' := oCd (ms, mb, ra 28, od, pt, ro, gr, cd, ca, nI m0, ct, fau, nI (S 999).2.2.1) 1) hY0 hY m8 f8 ⟨rfl, rfl, rfl, rfl, rfl, rfl⟩
            exact q_vret C hP hS ⟨rfl, A0, S, ad, 0, (show xTok S (nI i) p1 S 0 by unfold xTok; rw [if_neg (by unfold xTq; simp [ebi, ebj])]), by rw [eX]; exact ⟨ct, q8⟩, (r8.ft).sub hA0, fun i9 => if e9 : i9 < (S 999).2.2.1 then Or.inl ⟨e9, rfl⟩ else Or.inr (Or.inr (Nat.le_of_not_lt e9))⟩ (by omega) dX8_turn_42
          · replace c24 : ¬ 0 = 0 := fun zq => c24 ((nI_eq (a := 0) (b := 0) (by omega) (by omega)).mpr zq)
            exfalso; omega
        · replace c12 : ¬ 0 = 0 := fun zq => c12 ((nI_eq (a := 0) (b := 0) (by omega) (by omega)).mpr zq)
          exfalso; omega
  · have ebi : bSl p0 = false := bSl_f sl9
    refine lv_if_eq (tgt := 19) hx hb dX8_turn_5 (by decide) (fun c5 => ?_) (fun c5 => ?_)
    · replace c5 : 0 = 0 := (nI_eq (a := 0) (b := 0) (by omega) (by omega)).mp c5
      refine lv_iconst (v := nI 0) hx hb dX8_turn_19 (by decide) ?_
      refine lv_iconst (v := nI 1) hx hb dX8_turn_20 (by decide) ?_
      refine q_callV (rest := []) C (c_X8_good0 l D cy N0 h y ms mb (ra 28) od pt fi re rc rs so ot cn la ro gr cd ca (nI m0) ct fau cs ce (nI (S 999).2.2.1) (nI 1) hY) kX8_good g1249 g1251 rfl gp41 g4 hP hS hY (by first | decide | omega) hl.1 rfl (by decide) (by first | decide | omega) dX8_turn_21 (fun q ce E h' H1 locs1 hE => hE.elim) (fun v hh28 H locs hq hP hS => ?_)
      obtain ⟨rfl, rfl⟩ := hq
      replace hP : qP D N0 (qs h y (.inr (8, [.ref ms, .ref mb, .ref (ra 28), .int gr, .int (nI 1), .int ca, .int (nI m0), .ref od, .ref pt, .int ct, .int fau, .ref fi, .ref re, .int cs, .ref rc, .ref rs, .ref so, .ref ot, .ref cn, .ref la, .int ce, .ref ro, .int (nI (S 999).2.2.1)]))) H := hP
      obtain ⟨hv52, ehv52⟩ : ∃ z : qH, z = qs h y (.inr (8, [.ref ms, .ref mb, .ref (ra 28), .int gr, .int (nI 1), .int ca, .int (nI m0), .ref od, .ref pt, .int ct, .int fau, .ref fi, .ref re, .int cs, .ref rc, .ref rs, .ref so, .ref ot, .ref cn, .ref la, .int ce, .ref ro, .int (nI (S 999).2.2.1)])) := ⟨_, rfl⟩
      rw [← ehv52] at hP
      have khv52 : ∀ b o, b ≠ y → h b = some o → hv52 b = some o := by rw [ehv52]; exact fun b o nb hb => (qs_ne nb).trans hb
      replace hms := khv52 _ _ (fun q => by subst q; have := hms.symm.trans hY; first | cases this | simp at this) hms
      replace hmb := khv52 _ _ (fun q => by subst q; have := hmb.symm.trans hY; first | cases this | simp at this) hmb
      replace faw := khv52 _ _ (fun q => by have z9 := faw; rw [q] at z9; have := z9.symm.trans hY; first | cases this | simp at this) faw
      replace fkw := khv52 _ _ (fun q => by have z9 := fkw; rw [q] at z9; have := z9.symm.trans hY; first | cases this | simp at this) fkw
      replace fvw := khv52 _ _ (fun q => by have z9 := fvw; rw [q] at z9; have := z9.symm.trans hY; first | cases this | simp at this) fvw
      replace hY : hv52 y = some (.inr (8, [.ref ms, .ref mb, .ref (ra 28), .int gr, .int (nI 1), .int ca, .int (nI m0), .ref od, .ref pt, .int ct, .int fau, .ref fi, .ref re, .int cs, .ref rc, .ref rs, .ref so, .ref ot, .ref cn, .ref la, .int ce, .ref ro, .int (nI (S 999).2.2.1)])) := by rw [ehv52]; exact qs_self
      clear ehv52
      replace fr := fun b o hb n1 n2 => khv52 b o n1 (fr b o hb n1 n2)
      refine lv_if_eq (tgt := 42) hx hb dX8_turn_24 (by decide) (fun c24 => ?_) (fun c24 => ?_)
      · replace c24 : 0 = 0 := (nI_eq (a := 0) (b := 0) (by omega) (by omega)).mp c24
        have eX : xs_turn S S 0 ((ms, mb, ra 28, od, pt, ro, gr, cd, ca, nI m0, ct, fau, nI (S 999).2.2.1), a, k) p0 p1 = (1, S, (ms, mb, ra 28, od, pt, ro, gr, cd, ca, nI m0, ct, fau, nI (S 999).2.2.1), a, k) := by unfold xs_turn; rw [if_pos (by simp [ebi])]
        obtain ⟨m8, f8⟩ := hM.fin0 hY0 (h' := hv52) ⟨hRw.1, hRw.2.1, hRw.2.2.1, faw, fkw, fvw⟩ fr
        obtain ⟨q8, r8⟩ := hQ.rowM (o' := oCd (ms, mb, ra 28, od, pt, ro, gr, cd, ca, nI m0, ct, fau, nI (S 999).2.2.1) 1) hY0 hY m8 f8 ⟨rfl, rfl, rfl, rfl, rfl, rfl⟩
        exact q_vret C hP hS ⟨rfl, A0, S, ad, 0, (show xTok S p0 p1 S 0 by unfold xTok; rw [if_neg (by unfold xTq; simp [ebi])]), by rw [eX]; exact ⟨ct, q8⟩, (r8.ft).sub hA0, fun i9 => if e9 : i9 < (S 999).2.2.1 then Or.inl ⟨e9, rfl⟩ else Or.inr (Or.inr (Nat.le_of_not_lt e9))⟩ (by omega) dX8_turn_42
      · replace c24 : ¬ 0 = 0 := fun zq => c24 ((nI_eq (a := 0) (b := 0) (by omega) (by omega)).mpr zq)
        exfalso; omega
    · replace c5 : ¬ 0 = 0 := fun zq => c5 ((nI_eq (a := 0) (b := 0) (by omega) (by omega)).mpr zq)
      exfalso; omega
