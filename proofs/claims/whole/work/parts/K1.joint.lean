def oRq (o : qYf) : Int32 := o.2.2.2.2.2.2.2.2.2.2.2.2
/-- component (at Sc, Wc) and reference (at S, W), apart from each other and from the law's row -/
def JZ (cy : Nat → ClassId) (h : qH) (x y ou : Nat) (fo : Nat → Int64) (gr : Int32) (n : Nat) (Sc : Nat → qSlot) (Wc : qWo) (S : Nat → qSlot) (W : qWo) : Prop := ∃ (mk : Int32) (sl bl kr vr Ed : Nat) (fs : Nat → Option Nat) (bd br eb : Nat → Nat) (Im : Nat → Prop) (Xb : Nat → Nat → Prop) (g : Nat → Nat) (A : Nat → Prop) (ra rk rv pa ad : Nat → Nat),
  zQ cy h x mk sl bl kr vr Ed fs bd br eb Im Xb g Sc Wc ∧ qRF cy h y A ra rk rv pa W.1 W.2.1 W.2.2 S (S 999).2.2.1 (xRs S) ad ∧ (∀ z, A z → ∃ w, h z = some (.inl w)) ∧ h ou = some (.inl (cy 1, 1, .inr (.inl fo))) ∧ qMk gr = mk ∧ Ed ≤ n ∧ oRq W.1 = nI (S 999).2.2.1 ∧
  (∀ z, JCl sl bl kr vr br Im Xb z → ¬ JRf h y A ra rk rv pa W.1 ad (S 999).2.2.1 z ∧ z ≠ ou) ∧ ¬ JRf h y A ra rk rv pa W.1 ad (S 999).2.2.1 ou
section JK
variable {cy : Nat → ClassId} {h h' : qH} {x y ou : Nat} {fo : Nat → Int64} {gr : Int32} {n : Nat} {S Sc S' : Nat → qSlot} {W Wc W' : qWo}
variable {mk : Int32} {sl bl kr vr Ed : Nat} {fs : Nat → Option Nat} {bd br eb : Nat → Nat} {Im : Nat → Prop} {Xb : Nat → Nat → Prop} {g : Nat → Nat} {A A' : Nat → Prop} {ra rk rv pa ad ad' : Nat → Nat}
/-- the component has taken its call -/
theorem JZ.cls (hz : zQ cy h x mk sl bl kr vr Ed fs bd br eb Im Xb g S W) (hQ : qRF cy h y A ra rk rv pa W.1 W.2.1 W.2.2 S (S 999).2.2.1 (xRs S) ad) (hA : ∀ z, A z → ∃ w, h z = some (.inl w)) (hou : h ou = some (.inl (cy 1, 1, .inr (.inl fo)))) (hmk : qMk gr = mk) (hEd : Ed ≤ n) (hrn : oRq W.1 = nI (S 999).2.2.1)
    (hdj : ∀ z, JCl sl bl kr vr br Im Xb z → ¬ JRf h y A ra rk rv pa W.1 ad (S 999).2.2.1 z ∧ z ≠ ou) (hno : ¬ JRf h y A ra rk rv pa W.1 ad (S 999).2.2.1 ou) (po : zPo cy h x mk sl bl kr vr Ed bd br Im Xb S' W' h') : JZ cy h' x y ou fo gr (n + 1) S' W' S W := by
  obtain ⟨E', fs', eb', Im', Xb', g', p1, p2, p3, p4, p5⟩ := po
  obtain ⟨q4, q1⟩ : (∀ b, b < 4 → ∃ fv, h (bd b) = some (.inr (1, fv))) ∧ ∃ fv, h x = some (.inr (6, fv)) := ⟨fun b hb => by obtain ⟨op, kd, ln, ed, rt, f, b1, -⟩ := hz.2.2.2.1 b hb; exact ⟨_, b1⟩, _, hz.1.1⟩
  have hA2 : ∀ z ci fv, A z → ¬ h z = some (.inr (ci, fv)) := fun z ci fv a e => by obtain ⟨w, hw⟩ := hA z a; rw [hw] at e; cases e
  have kp : ∀ z v, h z = some v → (∀ ci fv, v = .inr (ci, fv) → 7 ≤ ci) → ¬ JCl sl bl kr vr br Im Xb z → h' z = some v := fun z v e c nj => p3.1 z v e (fun w => by
    rcases w with w | w | w | w | ⟨b, hb, w | w | w⟩ | ⟨fv, w⟩
    · obtain ⟨fv, e6⟩ := q1
      rw [w, e6] at e; cases e; exact absurd (c _ _ rfl) (by decide)
    · exact nj (Or.inl w)
    · exact nj (Or.inr (Or.inr (Or.inl w)))
    · exact nj (Or.inr (Or.inr (Or.inr (Or.inl w))))
    · obtain ⟨fv, e6⟩ := q4 b hb
      rw [w, e6] at e; cases e; exact absurd (c _ _ rfl) (by decide)
    · exact nj (Or.inr (Or.inr (Or.inr (Or.inr (Or.inl ⟨b, hb, w⟩)))))
    · exact nj (Or.inr (Or.inr (Or.inr (Or.inr (Or.inr (Or.inr ⟨b, hb, w⟩))))))
    · rw [w] at e; cases e; exact absurd (c _ _ rfl) (by decide))
  have kR : ∀ z v, h z = some v → JRf h y A ra rk rv pa W.1 ad (S 999).2.2.1 z → h' z = some v := fun z v e j => kp z v e (fun ci fv ev => by subst ev; exact hQ.cls hA2 j e) (fun c => (hdj z c).1 j)
  have back : ∀ z, JRf h' y A ra rk rv pa W.1 ad (S 999).2.2.1 z → JRf h y A ra rk rv pa W.1 ad (S 999).2.2.1 z := fun z j => j.imp id (fun j => j.imp (fun ⟨a, _⟩ => ⟨a, by obtain ⟨w, hw⟩ := hA z a; exact ⟨_, hw⟩⟩) id)
  have ko : h' ou = some (.inl (cy 1, 1, .inr (.inl fo))) := kp ou _ hou (fun _ _ e => by cases e) (fun c => (hdj ou c).2 rfl)
  refine ⟨mk, sl, bl, kr, vr, E', fs', bd, br, eb', Im', Xb', g', A, ra, rk, rv, pa, ad, p2, hQ.keepR kR, fun z a => ?_, ko, hmk, by omega, hrn, fun z c => ?_, fun j => hno (back ou j)⟩
  · obtain ⟨w, hw⟩ := hA z a
    exact ⟨w, kR z _ hw (Or.inr (Or.inl ⟨a, _, hw⟩))⟩
  · have old : JCl sl bl kr vr br Im Xb z ∨ h z = none := by
      rcases c with c | c | c | c | c | c | ⟨b, hb, c⟩
      · exact Or.inl (Or.inl c)
      · exact Or.inl (Or.inr (Or.inl c))
      · exact Or.inl (Or.inr (Or.inr (Or.inl c)))
      · exact Or.inl (Or.inr (Or.inr (Or.inr (Or.inl c))))
      · exact Or.inl (Or.inr (Or.inr (Or.inr (Or.inr (Or.inl c)))))
      · exact (p5 z c).imp (fun w => Or.inr (Or.inr (Or.inr (Or.inr (Or.inr w))))) id
      · exact (p4 b hb z c).imp (fun w => Or.inr (Or.inr (Or.inr (Or.inr (Or.inr (Or.inr ⟨b, hb, w⟩)))))) id
    rcases old with w | w
    · exact ⟨fun j => (hdj z w).1 (back z j), (hdj z w).2⟩
    · refine ⟨fun j => ?_, fun e => by rw [e, hou] at w; cases w⟩
      obtain ⟨v, hv⟩ := hQ.dom (back z j)
      rw [w] at hv; cases hv
/-- the law's row is written -/
theorem JZ.out (j : JZ cy h x y ou fo gr n Sc Wc S W) {Bd sk Rn : Nat} {dp : Nat → Nat} (i : qWv Bd sk Rn dp Wc) {f' : Nat → Int64} : JZ cy (qs h ou (.inl (cy 1, 1, .inr (.inl f')))) x y ou f' gr n Sc Wc S W := by
  obtain ⟨mk, sl, bl, kr, vr, Ed, fs, bd, br, eb, Im, Xb, g, A, ra, rk, rv, pa, ad, hz, hQ, hA, hou, hmk, hEd, hrn, hdj, hno⟩ := j
  have kk : ∀ z v, h z = some v → z ≠ ou → (qs h ou (.inl (cy 1, 1, .inr (.inl f')))) z = some v := fun z v e n => (qs_ne n).trans e
  have nA : ¬ A ou := fun a => hno (Or.inr (Or.inl ⟨a, _, hou⟩))
  have back : ∀ z, JRf (qs h ou (.inl (cy 1, 1, .inr (.inl f')))) y A ra rk rv pa W.1 ad (S 999).2.2.1 z → JRf h y A ra rk rv pa W.1 ad (S 999).2.2.1 z := fun z j => j.imp id (fun j => j.imp (fun ⟨a, _⟩ => ⟨a, by obtain ⟨w, hw⟩ := hA z a; exact ⟨_, hw⟩⟩) id)
  refine ⟨mk, sl, bl, kr, vr, Ed, fs, bd, br, eb, Im, Xb, g, A, ra, rk, rv, pa, ad, hz.keepR i (fun z ci fv e _ => kk z _ e (fun n => by rw [n, hou] at e; cases e)) (fun z v e c => kk z v e (hdj z c).2), hQ.keepR (fun z v e j => kk z v e (fun n => hno (n ▸ j))), fun z a => ?_, qs_self, hmk, hEd, hrn, fun z c => ⟨fun j => (hdj z c).1 (back z j), (hdj z c).2⟩, fun j => hno (back ou j)⟩
  obtain ⟨w, hw⟩ := hA z a
  exact ⟨w, kk z _ hw (fun n => nA (n ▸ a))⟩
/-- of A only the rows themselves count -/
theorem qRF.min {o : qYf} {a : qWd} {k : qKd} {Rn : Nat} {R : Nat → List Int64} (q : qRF cy h y A ra rk rv pa o a k S Rn R ad) : ∃ A2 : Nat → Prop, qRF cy h y A2 ra rk rv pa o a k S Rn R ad ∧ (∀ z, A2 z → A z) ∧ ∀ z, A2 z → ∃ w, h z = some (.inl w) := by
  obtain ⟨⟨fi, re, rc, rs, so, ot, cn, la, F, Rt, Rc, Rs, So, Ot, Cn, La, w1, ⟨v1, v2, v3, v4, v5, v6, v7, v8⟩, w3, w4, w5, w6, w7, ⟨u1, u2, u3, u4, u5, u6, u7, u8⟩, w9⟩, q2, q3, q4, ⟨⟨f, z1, z2⟩, z3, z4, z5⟩, q6⟩ := q
  have sub : ∀ z, (z = fi ∨ z = re ∨ z = rc ∨ z = rs ∨ z = so ∨ z = ot ∨ z = cn ∨ z = la) → A z := fun z e => by
    rcases e with rfl | rfl | rfl | rfl | rfl | rfl | rfl | rfl <;> assumption
  refine ⟨fun z => z = fi ∨ z = re ∨ z = rc ∨ z = rs ∨ z = so ∨ z = ot ∨ z = cn ∨ z = la, ⟨⟨fi, re, rc, rs, so, ot, cn, la, F, Rt, Rc, Rs, So, Ot, Cn, La, w1, ⟨v1, v2, v3, v4, v5, v6, v7, v8⟩, w3, w4, w5, w6, w7, ⟨by simp, by simp, by simp, by simp, by simp, by simp, by simp, by simp⟩, w9⟩, fun z => q2 (sub _ z), q3, q4, ⟨⟨f, z1, z2⟩, fun z => z3 (sub _ z), fun i hi => ⟨(z4 i hi).1, fun z => (z4 i hi).2.1 (sub _ z), (z4 i hi).2.2⟩, z5⟩, fun b hb => q6 b (sub b hb)⟩, sub, fun z e => ?_⟩
  rcases e with rfl | rfl | rfl | rfl | rfl | rfl | rfl | rfl
  · exact ⟨_, v1⟩
  · exact ⟨_, v2⟩
  · exact ⟨_, v3⟩
  · exact ⟨_, v4⟩
  · exact ⟨_, v5⟩
  · exact ⟨_, v6⟩
  · exact ⟨_, v7⟩
  · exact ⟨_, v8⟩
/-- the reference has taken its call -/
theorem JZ.ref {Bd sk Rn : Nat} {dp : Nat → Nat} (i : qWv Bd sk Rn dp Wc) (hz : zQ cy h x mk sl bl kr vr Ed fs bd br eb Im Xb g Sc Wc) (hQ : qRF cy h y A ra rk rv pa W.1 W.2.1 W.2.2 S (S 999).2.2.1 (xRs S) ad) (hA : ∀ z, A z → ∃ w, h z = some (.inl w)) (hou : h ou = some (.inl (cy 1, 1, .inr (.inl fo)))) (hmk : qMk gr = mk) (hEd : Ed ≤ n)
    (hdj : ∀ z, JCl sl bl kr vr br Im Xb z → ¬ JRf h y A ra rk rv pa W.1 ad (S 999).2.2.1 z ∧ z ≠ ou) (hno : ¬ JRf h y A ra rk rv pa W.1 ad (S 999).2.2.1 ou)
    (hQ' : qRF cy h' y A' ra rk rv pa W'.1 W'.2.1 W'.2.2 S' (S' 999).2.2.1 (xRs S') ad') (fr : qFT h h' y W.1.2.2.2.1 W.1.2.2.2.2.2.1 ra rk rv pa A A') (sm : qSame W.1 W'.1) (hrn : oRq W'.1 = nI (S' 999).2.2.1) (had : ∀ i, i < (S' 999).2.2.1 → (i < (S 999).2.2.1 ∧ ad' i = ad i) ∨ h (ad' i) = none) : JZ cy h' x y ou fo gr n Sc Wc S' W' := by
  obtain ⟨A2, m1, m2, m3⟩ := hQ'.min
  have hA2 : ∀ z ci fv, A z → ¬ h z = some (.inr (ci, fv)) := fun z ci fv a e => by obtain ⟨w, hw⟩ := hA z a; rw [hw] at e; cases e
  have kp : ∀ z v, h z = some v → ¬ JRf h y A ra rk rv pa W.1 ad (S 999).2.2.1 z → h' z = some v := fun z v e n => fr.1 z v e (fun w => n (Or.inl w)) (fun i hi => ⟨fun w => n (Or.inr (Or.inr (Or.inl ⟨i, hi, Or.inl w⟩))), fun w => n (Or.inr (Or.inr (Or.inl ⟨i, hi, Or.inr (Or.inl w)⟩))), fun w => n (Or.inr (Or.inr (Or.inl ⟨i, hi, Or.inr (Or.inr w)⟩)))⟩) (fun w => n (Or.inr (Or.inr (Or.inr (Or.inr (Or.inr (Or.inl w))))))) (fun w => n (Or.inr (Or.inr (Or.inr (Or.inr (Or.inr (Or.inr (Or.inr (Or.inl w))))))))) (fun d hd w => n (Or.inr (Or.inr (Or.inr (Or.inr (Or.inr (Or.inr (Or.inr (Or.inr (Or.inl ⟨d, hd, w⟩)))))))))) (fun a => n (Or.inr (Or.inl ⟨a, _, e⟩)))
  have old : ∀ z, JRf h' y A2 ra rk rv pa W'.1 ad' (S' 999).2.2.1 z → JRf h y A ra rk rv pa W.1 ad (S 999).2.2.1 z ∨ ∀ v, ¬ h z = some v := fun z j => by
    obtain ⟨e1, e2, e3, e4, e5, e6⟩ := sm
    rcases j with w | ⟨w, -⟩ | w | w | w | w | w | w | w | ⟨i, hi, w⟩
    · exact Or.inl (Or.inl w)
    · rcases fr.2 z (m2 z w) with a | a
      · obtain ⟨v, hv⟩ := hA z a; exact Or.inl (Or.inr (Or.inl ⟨a, _, hv⟩))
      · exact Or.inr a
    · exact Or.inl (Or.inr (Or.inr (Or.inl w)))
    · exact Or.inl (Or.inr (Or.inr (Or.inr (Or.inl (w.trans e1)))))
    · exact Or.inl (Or.inr (Or.inr (Or.inr (Or.inr (Or.inl (w.trans e2))))))
    · exact Or.inl (Or.inr (Or.inr (Or.inr (Or.inr (Or.inr (Or.inl (w.trans e4)))))))
    · exact Or.inl (Or.inr (Or.inr (Or.inr (Or.inr (Or.inr (Or.inr (Or.inl (w.trans e5))))))))
    · exact Or.inl (Or.inr (Or.inr (Or.inr (Or.inr (Or.inr (Or.inr (Or.inr (Or.inl (w.trans e6)))))))))
    · exact Or.inl (Or.inr (Or.inr (Or.inr (Or.inr (Or.inr (Or.inr (Or.inr (Or.inr (Or.inl w)))))))))
    · rcases had i hi with ⟨a, b⟩ | b
      · exact Or.inl (Or.inr (Or.inr (Or.inr (Or.inr (Or.inr (Or.inr (Or.inr (Or.inr (Or.inr ⟨i, a, w.trans b⟩)))))))))
      · exact Or.inr (fun v hv => by rw [w, b] at hv; cases hv)
  refine ⟨mk, sl, bl, kr, vr, Ed, fs, bd, br, eb, Im, Xb, g, A2, ra, rk, rv, pa, ad', hz.keepR i (fun z ci fv e c => kp z _ e (fun j => by have := hQ.cls hA2 j e; omega)) (fun z v e c => kp z v e (hdj z c).1), m1, m3, kp ou _ hou hno, hmk, hEd, hrn, fun z c => ⟨fun j => ?_, (hdj z c).2⟩, fun j => ?_⟩
  · rcases old z j with w | w
    · exact (hdj z c).1 w
    · obtain ⟨v, hv⟩ := hz.dom c; exact w v hv
  · rcases old ou j with w | w
    · exact hno w
    · exact w _ hou
end JK
section JP
variable {gr : Int32} {n : Nat} {K : List Int64} {dp : Nat → Nat} {S : Nat → qSlot} {W : qWo}
theorem PIk.hI (h : PIk gr n K dp S W) : ∀ i, i < 28 → qOk (S i).1 (S i).2.1 := fun i hi => (h.1 i hi).1
theorem PIk.hLn (h : PIk gr n K dp S W) : ∀ i, i < 28 → (S i).2.1.length ≤ 1000 := fun i hi => (h.1 i hi).2.1
theorem PIk.hV (h : PIk gr n K dp S W) : qWv (n + 2) 1 (S 999).2.2.1 dp W := h.2.2.2.2.2.1
theorem PIk.hSt (h : PIk gr n K dp S W) : ∀ i, i < 24 → (S i).1 = 6 → (S i).2.2.1 < W.2.1.1 ∧ dp (S i).2.2.1 ≤ 100 := fun i hi z => ⟨(h.st hi z).1, by have := h.st hi z; omega⟩
theorem PIk.hDp (h : PIk gr n K dp S W) : ∀ i, i < 24 → (S i).2.2.2 ≤ 100 := fun i hi => (h.1 i (by omega)).2.2.1
theorem PIk.hAl (h : PIk gr n K dp S W) : ∀ i, i < 28 → ((S i).1 = 1 ∨ (S i).1 = 2) → ∀ k, xAl gr (S i).2.1 k ≤ 16 := fun i hi => (h.1 i hi).2.2.2.1
theorem PIk.h64 (h : PIk gr n K dp S W) : ∀ i, i < 28 → ((S i).1 = 1 ∨ (S i).1 = 2 ∨ (S i).1 = 3) → (S i).2.1.length ≤ n := fun i hi z => Nat.le_trans ((h.1 i hi).len z) h.2.2.1
theorem qRF.h0v {cy : Nat → ClassId} {h : qH} {y : Nat} {A : Nat → Prop} {ra rk rv pa : Nat → Nat} {o : qYf} {a : qWd} {k : qKd} {Rn : Nat} {R : Nat → List Int64} {ad : Nat → Nat} (q : qRF cy h y A ra rk rv pa o a k S Rn R ad) : ∀ i, i < 28 → ((S i).1 = 0 ∨ (S i).1 = 4 ∨ (S i).1 = 5) → ∀ p ∈ (S i).2.1, p.2 = 0 := fun i hi hk p hp => by
  obtain ⟨n, rw, f, g, -, -, e, -⟩ := q.2.2.1.2.2.2.2.1 i hi
  rw [e] at hp
  unfold qLs at hp
  obtain ⟨j, -, rfl⟩ := List.mem_map.mp hp
  exact if_neg (by rcases hk with z | z | z <;> rw [z] <;> decide)
theorem JZ.ouf {cy : Nat → ClassId} {h : qH} {x y ou : Nat} {fo : Nat → Int64} {Sc : Nat → qSlot} {Wc : qWo} (j : JZ cy h x y ou fo gr n Sc Wc S W) : h ou = some (.inl (cy 1, 1, .inr (.inl fo))) := by
  obtain ⟨mk, sl, bl, kr, vr, Ed, fs, bd, br, eb, Im, Xb, g, A, ra, rk, rv, pa, ad, hz, hQ, hA, hou, -⟩ := j
  exact hou
theorem xTok_ex {S : Nat → qSlot} {p0 p1 : Int32} : ∃ S1 rr, xTok S p0 p1 S1 rr := by
  unfold xTok
  by_cases c : xTq S p0 p1 = true
  · refine ⟨xTl S p1.toNatClampNeg, (S 999).2.2.1, ?_⟩
    rw [if_pos c, xTl_n]
    refine ⟨Or.inr rfl, by omega, ?_⟩
    unfold xRs
    rw [xTl_new]
  · exact ⟨S, 0, by rw [if_neg c]⟩
def jc (n a b : Nat) : Nat := 1200 + 212 * n + (b - a)
def js (n a b : Nat) : Nat := 12200 + n * rMs n 7 + 10 * (b - a)
end JP
section XB
variable {gr : Int32} {S S1 : Nat → qSlot} {W : qWo} {m0 rr : Nat}
theorem xb_make {p0 : Int32} {p1 : Int32} : (xs_make S p0 p1).1 ≠ 0 → (xs_make S p0 p1).2 = S := by
  unfold xs_make
  repeat' split
  all_goals (intro hne; first | rfl | exact ⟨rfl, rfl⟩ | exact absurd rfl hne)
theorem xb_copy {p0 : Int32} {p1 : Int32} : (xs_copy S p0 p1).1 ≠ 0 → (xs_copy S p0 p1).2 = S := by
  unfold xs_copy
  repeat' split
  all_goals (intro hne; first | rfl | exact ⟨rfl, rfl⟩ | exact absurd rfl hne)
theorem xb_add {p0 : Int32} {p1 : Int32} {p2 : Int64} : (xs_add gr S p0 p1 p2).1 ≠ 0 → (xs_add gr S p0 p1 p2).2.1 = S := by
  unfold xs_add
  repeat' split
  all_goals (intro hne; first | rfl | exact ⟨rfl, rfl⟩ | exact absurd rfl hne)
theorem xb_push {p0 : Int32} {p1 : Int32} {p2 : Int64} : (xs_push S W p0 p1 p2).1 ≠ 0 → (xs_push S W p0 p1 p2).2.1 = S := by
  unfold xs_push
  repeat' split
  all_goals (intro hne; first | rfl | exact ⟨rfl, rfl⟩ | exact absurd rfl hne)
theorem xb_set {p0 : Int32} {p1 : Int32} {p2 : Int32} {p3 : Int64} : (xs_set S p0 p1 p2 p3).1 ≠ 0 → (xs_set S p0 p1 p2 p3).2.1 = S := by
  unfold xs_set
  try unfold xr_set
  repeat' split
  all_goals (intro hne; first | rfl | exact ⟨rfl, rfl⟩ | exact absurd rfl hne)
theorem xb_drop {p0 : Int32} {p1 : Int32} {p2 : Int32} {p3 : Int32} : (xs_drop S p0 p1 p2 p3).1 ≠ 0 → (xs_drop S p0 p1 p2 p3).2.1 = S := by
  unfold xs_drop
  try unfold xr_drop
  repeat' split
  all_goals (intro hne; first | rfl | exact ⟨rfl, rfl⟩ | exact absurd rfl hne)
theorem xb_pop {p0 : Int32} {p1 : Int32} : (xs_pop (xF S) S W p0 p1).1 ≠ 0 → (xs_pop (xF S) S W p0 p1).2.2.1 = S := by
  unfold xs_pop
  try unfold xr_pop
  repeat' split
  all_goals (intro hne; first | rfl | exact ⟨rfl, rfl⟩ | exact absurd rfl hne)
theorem xb_put {p0 : Int32} {p1 : Int32} {p2 : Int64} {p3 : Int64} : (xs_put gr S p0 p1 p2 p3).1 ≠ 0 → (xs_put gr S p0 p1 p2 p3).2.1 = S := by
  unfold xs_put
  try unfold xr_put
  repeat' split
  all_goals (intro hne; first | rfl | exact ⟨rfl, rfl⟩ | exact absurd rfl hne)
theorem xb_out {p0 : Int32} {p1 : Int32} {p2 : Int64} : (xs_out S p0 p1 p2).1 ≠ 0 → (xs_out S p0 p1 p2).2.1 = S := by
  unfold xs_out
  try unfold xr_out
  repeat' split
  all_goals (intro hne; first | rfl | exact ⟨rfl, rfl⟩ | exact absurd rfl hne)
theorem xb_range {p0 : Int32} {p1 : Int32} {p2 : Int64} {p3 : Int64} : (xs_range S p0 p1 p2 p3 m0).1 ≠ 0 → (xs_range S p0 p1 p2 p3 m0).2.1 = S ∧ (xs_range S p0 p1 p2 p3 m0).2.2.2 = m0 := by
  unfold xs_range
  try unfold xr_range
  repeat' split
  all_goals (intro hne; first | rfl | exact ⟨rfl, rfl⟩ | exact absurd rfl hne)
theorem xb_join {p0 : Int32} {p1 : Int32} {p2 : Int32} : (xs_join S W p0 p1 p2).1 ≠ 0 → (xs_join S W p0 p1 p2).2.2.1 = S := by
  unfold xs_join
  try unfold xr_join
  repeat' split
  all_goals (intro hne; first | rfl | exact ⟨rfl, rfl⟩ | exact absurd rfl hne)
theorem xb_meet {p0 : Int32} {p1 : Int32} {p2 : Int32} {p3 : Int32} : (xs_meet S p0 p1 p2 p3 m0).1 ≠ 0 → (xs_meet S p0 p1 p2 p3 m0).2.1 = S ∧ (xs_meet S p0 p1 p2 p3 m0).2.2.2 = m0 := by
  unfold xs_meet
  try unfold xr_meet
  repeat' split
  all_goals (intro hne; first | rfl | exact ⟨rfl, rfl⟩ | exact absurd rfl hne)
theorem xb_same {p0 : Int32} {p1 : Int32} : (xs_same S p0 p1 m0).1 ≠ 0 → (xs_same S p0 p1 m0).2.2 = m0 := by
  unfold xs_same
  repeat' split
  all_goals (intro hne; first | rfl | exact ⟨rfl, rfl⟩ | exact absurd rfl hne)
theorem xb_map {p0 : Int32} {p1 : Int32} {p2 : Int32} {p3 : Int64} : (xs_map S W p0 p1 p2 p3).1 ≠ 0 → (xs_map S W p0 p1 p2 p3).2.1 = S := by
  unfold xs_map
  try unfold xr_map
  repeat' split
  all_goals (intro hne; first | rfl | exact ⟨rfl, rfl⟩ | exact absurd rfl hne)
theorem xb_filter {p0 : Int32} {p1 : Int32} {p2 : Int32} {p3 : Int64} : (xs_filter (xF S) S W p0 p1 p2 p3).1 ≠ 0 → (xs_filter (xF S) S W p0 p1 p2 p3).2.1 = S := by
  unfold xs_filter
  try unfold xr_filter
  repeat' split
  all_goals (intro hne; first | rfl | exact ⟨rfl, rfl⟩ | exact absurd rfl hne)
theorem xb_iterate {p0 : Int32} {p1 : Int64} {p2 : Int32} {p3 : Int64} : (xs_iterate S W p0 p1 p2 p3).1 ≠ 0 → (xs_iterate S W p0 p1 p2 p3).2.1 = S := by
  unfold xs_iterate
  repeat' split
  all_goals (intro hne; first | rfl | exact ⟨rfl, rfl⟩ | exact absurd rfl hne)
theorem xb_take {p0 : Int32} {p1 : Int32} {p2 : Int32} : (xs_take S W p0 p1 p2).1 ≠ 0 → (xs_take S W p0 p1 p2).2.1 = S := by
  unfold xs_take
  repeat' split
  all_goals (intro hne; first | rfl | exact ⟨rfl, rfl⟩ | exact absurd rfl hne)
theorem xb_list {p0 : Int32} {p1 : Int32} {p2 : Int32} : (xs_list (xF S) S W p0 p1 p2).1 ≠ 0 → (xs_list (xF S) S W p0 p1 p2).2.2.1 = S := by
  unfold xs_list
  try unfold xLfin
  repeat' split
  all_goals (intro hne; first | rfl | exact ⟨rfl, rfl⟩ | exact absurd rfl hne)
theorem xb_turn {p0 : Int32} {p1 : Int32} : (xs_turn S S1 rr W p0 p1).1 ≠ 0 → (xs_turn S S1 rr W p0 p1).2.1 = S := by
  unfold xs_turn
  try unfold xr_turn
  repeat' split
  all_goals (intro hne; first | rfl | exact ⟨rfl, rfl⟩ | exact absurd rfl hne)
theorem xb_open {p0 : Int32} {p1 : Int32} : (xs_open S p0 p1).1 ≠ 0 → (xs_open S p0 p1).2 = S := by
  unfold xs_open
  repeat' split
  all_goals (intro hne; first | rfl | exact ⟨rfl, rfl⟩ | exact absurd rfl hne)
theorem xb_build {p0 : Int32} {p1 : Int32} {p2 : Int64} {p3 : Int64} : (xs_build gr S p0 p1 p2 p3).1 ≠ 0 → (xs_build gr S p0 p1 p2 p3).2.1 = S := by
  unfold xs_build
  try unfold xr_buildS
  try unfold xr_buildH
  repeat' split
  all_goals (intro hne; first | rfl | exact ⟨rfl, rfl⟩ | exact absurd rfl hne)
theorem xb_freeze {p0 : Int32} {p1 : Int32} : (xs_freeze S p0 p1).1 ≠ 0 → (xs_freeze S p0 p1).2.1 = S := by
  unfold xs_freeze
  repeat' split
  all_goals (intro hne; first | rfl | exact ⟨rfl, rfl⟩ | exact absurd rfl hne)
theorem xt_make {p0 : Int32} {p1 : Int32} : ∀ i, 28 ≤ i → ((xs_make S p0 p1).2) i = S i := by
  intro i hi
  unfold xs_make
  repeat' split
  all_goals first | rfl | (have a1 := bSl_lt (not_or1 ‹¬ (bSl _ = false ∨ _)›); exact qU_ne (by omega)) | (have a1 := bB3_lt (not_or1 ‹¬ (bB3 _ = false ∨ _)›); exact qU_ne (by omega)) | (have a1 := bB3_lt (not_or1 ‹¬ (bB3 _ = false ∨ _)›); have a2 := bSl_lt (not_or2 ‹¬ (bB3 _ = false ∨ _)›); exact (qU_ne (by omega)).trans (qU_ne (by omega)))
theorem xt_copy {p0 : Int32} {p1 : Int32} : ∀ i, 28 ≤ i → ((xs_copy S p0 p1).2) i = S i := by
  intro i hi
  unfold xs_copy
  repeat' split
  all_goals first | rfl | (have a1 := bSl_lt (not_or1 ‹¬ (bSl _ = false ∨ _)›); exact qU_ne (by omega)) | (have a1 := bB3_lt (not_or1 ‹¬ (bB3 _ = false ∨ _)›); exact qU_ne (by omega)) | (have a1 := bB3_lt (not_or1 ‹¬ (bB3 _ = false ∨ _)›); have a2 := bSl_lt (not_or2 ‹¬ (bB3 _ = false ∨ _)›); exact (qU_ne (by omega)).trans (qU_ne (by omega)))
theorem xt_add {p0 : Int32} {p1 : Int32} {p2 : Int64} : ∀ i, 28 ≤ i → ((xs_add gr S p0 p1 p2).2.1) i = S i := by
  intro i hi
  unfold xs_add
  repeat' split
  all_goals first | rfl | (have a1 := bSl_lt (not_or1 ‹¬ (bSl _ = false ∨ _)›); exact qU_ne (by omega)) | (have a1 := bB3_lt (not_or1 ‹¬ (bB3 _ = false ∨ _)›); exact qU_ne (by omega)) | (have a1 := bB3_lt (not_or1 ‹¬ (bB3 _ = false ∨ _)›); have a2 := bSl_lt (not_or2 ‹¬ (bB3 _ = false ∨ _)›); exact (qU_ne (by omega)).trans (qU_ne (by omega)))
theorem xt_push {p0 : Int32} {p1 : Int32} {p2 : Int64} : ∀ i, 28 ≤ i → ((xs_push S W p0 p1 p2).2.1) i = S i := by
  intro i hi
  unfold xs_push
  repeat' split
  all_goals first | rfl | (have a1 := bSl_lt (not_or1 ‹¬ (bSl _ = false ∨ _)›); exact qU_ne (by omega)) | (have a1 := bB3_lt (not_or1 ‹¬ (bB3 _ = false ∨ _)›); exact qU_ne (by omega)) | (have a1 := bB3_lt (not_or1 ‹¬ (bB3 _ = false ∨ _)›); have a2 := bSl_lt (not_or2 ‹¬ (bB3 _ = false ∨ _)›); exact (qU_ne (by omega)).trans (qU_ne (by omega)))
theorem xt_set {p0 : Int32} {p1 : Int32} {p2 : Int32} {p3 : Int64} : ∀ i, 28 ≤ i → ((xs_set S p0 p1 p2 p3).2.1) i = S i := by
  intro i hi
  unfold xs_set
  try unfold xr_set
  repeat' split
  all_goals first | rfl | (have a1 := bSl_lt (not_or1 ‹¬ (bSl _ = false ∨ _)›); exact qU_ne (by omega)) | (have a1 := bB3_lt (not_or1 ‹¬ (bB3 _ = false ∨ _)›); exact qU_ne (by omega)) | (have a1 := bB3_lt (not_or1 ‹¬ (bB3 _ = false ∨ _)›); have a2 := bSl_lt (not_or2 ‹¬ (bB3 _ = false ∨ _)›); exact (qU_ne (by omega)).trans (qU_ne (by omega)))
theorem xt_drop {p0 : Int32} {p1 : Int32} {p2 : Int32} {p3 : Int32} : ∀ i, 28 ≤ i → ((xs_drop S p0 p1 p2 p3).2.1) i = S i := by
  intro i hi
  unfold xs_drop
  try unfold xr_drop
  repeat' split
  all_goals first | rfl | (have a1 := bSl_lt (not_or1 ‹¬ (bSl _ = false ∨ _)›); exact qU_ne (by omega)) | (have a1 := bB3_lt (not_or1 ‹¬ (bB3 _ = false ∨ _)›); exact qU_ne (by omega)) | (have a1 := bB3_lt (not_or1 ‹¬ (bB3 _ = false ∨ _)›); have a2 := bSl_lt (not_or2 ‹¬ (bB3 _ = false ∨ _)›); exact (qU_ne (by omega)).trans (qU_ne (by omega)))
theorem xt_pop {p0 : Int32} {p1 : Int32} : ∀ i, 28 ≤ i → ((xs_pop (xF S) S W p0 p1).2.2.1) i = S i := by
  intro i hi
  unfold xs_pop
  try unfold xr_pop
  repeat' split
  all_goals first | rfl | (have a1 := bSl_lt (not_or1 ‹¬ (bSl _ = false ∨ _)›); exact qU_ne (by omega)) | (have a1 := bB3_lt (not_or1 ‹¬ (bB3 _ = false ∨ _)›); exact qU_ne (by omega)) | (have a1 := bB3_lt (not_or1 ‹¬ (bB3 _ = false ∨ _)›); have a2 := bSl_lt (not_or2 ‹¬ (bB3 _ = false ∨ _)›); exact (qU_ne (by omega)).trans (qU_ne (by omega)))
theorem xt_put {p0 : Int32} {p1 : Int32} {p2 : Int64} {p3 : Int64} : ∀ i, 28 ≤ i → ((xs_put gr S p0 p1 p2 p3).2.1) i = S i := by
  intro i hi
  unfold xs_put
  try unfold xr_put
  repeat' split
  all_goals first | rfl | (have a1 := bSl_lt (not_or1 ‹¬ (bSl _ = false ∨ _)›); exact qU_ne (by omega)) | (have a1 := bB3_lt (not_or1 ‹¬ (bB3 _ = false ∨ _)›); exact qU_ne (by omega)) | (have a1 := bB3_lt (not_or1 ‹¬ (bB3 _ = false ∨ _)›); have a2 := bSl_lt (not_or2 ‹¬ (bB3 _ = false ∨ _)›); exact (qU_ne (by omega)).trans (qU_ne (by omega)))
theorem xt_out {p0 : Int32} {p1 : Int32} {p2 : Int64} : ∀ i, 28 ≤ i → ((xs_out S p0 p1 p2).2.1) i = S i := by
  intro i hi
  unfold xs_out
  try unfold xr_out
  repeat' split
  all_goals first | rfl | (have a1 := bSl_lt (not_or1 ‹¬ (bSl _ = false ∨ _)›); exact qU_ne (by omega)) | (have a1 := bB3_lt (not_or1 ‹¬ (bB3 _ = false ∨ _)›); exact qU_ne (by omega)) | (have a1 := bB3_lt (not_or1 ‹¬ (bB3 _ = false ∨ _)›); have a2 := bSl_lt (not_or2 ‹¬ (bB3 _ = false ∨ _)›); exact (qU_ne (by omega)).trans (qU_ne (by omega)))
theorem xt_range {p0 : Int32} {p1 : Int32} {p2 : Int64} {p3 : Int64} : ∀ i, 28 ≤ i → ((xs_range S p0 p1 p2 p3 m0).2.1) i = S i := by
  intro i hi
  unfold xs_range
  try unfold xr_range
  repeat' split
  all_goals first | rfl | (have a1 := bSl_lt (not_or1 ‹¬ (bSl _ = false ∨ _)›); exact qU_ne (by omega)) | (have a1 := bB3_lt (not_or1 ‹¬ (bB3 _ = false ∨ _)›); exact qU_ne (by omega)) | (have a1 := bB3_lt (not_or1 ‹¬ (bB3 _ = false ∨ _)›); have a2 := bSl_lt (not_or2 ‹¬ (bB3 _ = false ∨ _)›); exact (qU_ne (by omega)).trans (qU_ne (by omega)))
theorem xt_join {p0 : Int32} {p1 : Int32} {p2 : Int32} : ∀ i, 28 ≤ i → ((xs_join S W p0 p1 p2).2.2.1) i = S i := by
  intro i hi
  unfold xs_join
  try unfold xr_join
  repeat' split
  all_goals first | rfl | (have a1 := bSl_lt (not_or1 ‹¬ (bSl _ = false ∨ _)›); exact qU_ne (by omega)) | (have a1 := bB3_lt (not_or1 ‹¬ (bB3 _ = false ∨ _)›); exact qU_ne (by omega)) | (have a1 := bB3_lt (not_or1 ‹¬ (bB3 _ = false ∨ _)›); have a2 := bSl_lt (not_or2 ‹¬ (bB3 _ = false ∨ _)›); exact (qU_ne (by omega)).trans (qU_ne (by omega)))
theorem xt_meet {p0 : Int32} {p1 : Int32} {p2 : Int32} {p3 : Int32} : ∀ i, 28 ≤ i → ((xs_meet S p0 p1 p2 p3 m0).2.1) i = S i := by
  intro i hi
  unfold xs_meet
  try unfold xr_meet
  repeat' split
  all_goals first | rfl | (have a1 := bSl_lt (not_or1 ‹¬ (bSl _ = false ∨ _)›); exact qU_ne (by omega)) | (have a1 := bB3_lt (not_or1 ‹¬ (bB3 _ = false ∨ _)›); exact qU_ne (by omega)) | (have a1 := bB3_lt (not_or1 ‹¬ (bB3 _ = false ∨ _)›); have a2 := bSl_lt (not_or2 ‹¬ (bB3 _ = false ∨ _)›); exact (qU_ne (by omega)).trans (qU_ne (by omega)))
theorem xt_map {p0 : Int32} {p1 : Int32} {p2 : Int32} {p3 : Int64} : ∀ i, 28 ≤ i → ((xs_map S W p0 p1 p2 p3).2.1) i = S i := by
  intro i hi
  unfold xs_map
  try unfold xr_map
  repeat' split
  all_goals first | rfl | (have a1 := bSl_lt (not_or1 ‹¬ (bSl _ = false ∨ _)›); exact qU_ne (by omega)) | (have a1 := bB3_lt (not_or1 ‹¬ (bB3 _ = false ∨ _)›); exact qU_ne (by omega)) | (have a1 := bB3_lt (not_or1 ‹¬ (bB3 _ = false ∨ _)›); have a2 := bSl_lt (not_or2 ‹¬ (bB3 _ = false ∨ _)›); exact (qU_ne (by omega)).trans (qU_ne (by omega)))
theorem xt_filter {p0 : Int32} {p1 : Int32} {p2 : Int32} {p3 : Int64} : ∀ i, 28 ≤ i → ((xs_filter (xF S) S W p0 p1 p2 p3).2.1) i = S i := by
  intro i hi
  unfold xs_filter
  try unfold xr_filter
  repeat' split
  all_goals first | rfl | (have a1 := bSl_lt (not_or1 ‹¬ (bSl _ = false ∨ _)›); exact qU_ne (by omega)) | (have a1 := bB3_lt (not_or1 ‹¬ (bB3 _ = false ∨ _)›); exact qU_ne (by omega)) | (have a1 := bB3_lt (not_or1 ‹¬ (bB3 _ = false ∨ _)›); have a2 := bSl_lt (not_or2 ‹¬ (bB3 _ = false ∨ _)›); exact (qU_ne (by omega)).trans (qU_ne (by omega)))
theorem xt_iterate {p0 : Int32} {p1 : Int64} {p2 : Int32} {p3 : Int64} : ∀ i, 28 ≤ i → ((xs_iterate S W p0 p1 p2 p3).2.1) i = S i := by
  intro i hi
  unfold xs_iterate
  repeat' split
  all_goals first | rfl | (have a1 := bSl_lt (not_or1 ‹¬ (bSl _ = false ∨ _)›); exact qU_ne (by omega)) | (have a1 := bB3_lt (not_or1 ‹¬ (bB3 _ = false ∨ _)›); exact qU_ne (by omega)) | (have a1 := bB3_lt (not_or1 ‹¬ (bB3 _ = false ∨ _)›); have a2 := bSl_lt (not_or2 ‹¬ (bB3 _ = false ∨ _)›); exact (qU_ne (by omega)).trans (qU_ne (by omega)))
theorem xt_take {p0 : Int32} {p1 : Int32} {p2 : Int32} : ∀ i, 28 ≤ i → ((xs_take S W p0 p1 p2).2.1) i = S i := by
  intro i hi
  unfold xs_take
  repeat' split
  all_goals first | rfl | (have a1 := bSl_lt (not_or1 ‹¬ (bSl _ = false ∨ _)›); exact qU_ne (by omega)) | (have a1 := bB3_lt (not_or1 ‹¬ (bB3 _ = false ∨ _)›); exact qU_ne (by omega)) | (have a1 := bB3_lt (not_or1 ‹¬ (bB3 _ = false ∨ _)›); have a2 := bSl_lt (not_or2 ‹¬ (bB3 _ = false ∨ _)›); exact (qU_ne (by omega)).trans (qU_ne (by omega)))
theorem xt_list {p0 : Int32} {p1 : Int32} {p2 : Int32} : ∀ i, 28 ≤ i → ((xs_list (xF S) S W p0 p1 p2).2.2.1) i = S i := by
  intro i hi
  unfold xs_list
  try unfold xLfin
  repeat' split
  all_goals first | rfl | (have a1 := bSl_lt (not_or1 ‹¬ (bSl _ = false ∨ _)›); exact qU_ne (by omega)) | (have a1 := bB3_lt (not_or1 ‹¬ (bB3 _ = false ∨ _)›); exact qU_ne (by omega)) | (have a1 := bB3_lt (not_or1 ‹¬ (bB3 _ = false ∨ _)›); have a2 := bSl_lt (not_or2 ‹¬ (bB3 _ = false ∨ _)›); exact (qU_ne (by omega)).trans (qU_ne (by omega)))
theorem xt_open {p0 : Int32} {p1 : Int32} : ∀ i, 28 ≤ i → ((xs_open S p0 p1).2) i = S i := by
  intro i hi
  unfold xs_open
  repeat' split
  all_goals first | rfl | (have a1 := bSl_lt (not_or1 ‹¬ (bSl _ = false ∨ _)›); exact qU_ne (by omega)) | (have a1 := bB3_lt (not_or1 ‹¬ (bB3 _ = false ∨ _)›); exact qU_ne (by omega)) | (have a1 := bB3_lt (not_or1 ‹¬ (bB3 _ = false ∨ _)›); have a2 := bSl_lt (not_or2 ‹¬ (bB3 _ = false ∨ _)›); exact (qU_ne (by omega)).trans (qU_ne (by omega)))
theorem xt_build {p0 : Int32} {p1 : Int32} {p2 : Int64} {p3 : Int64} : ∀ i, 28 ≤ i → ((xs_build gr S p0 p1 p2 p3).2.1) i = S i := by
  intro i hi
  unfold xs_build
  try unfold xr_buildS
  try unfold xr_buildH
  repeat' split
  all_goals first | rfl | (have a1 := bSl_lt (not_or1 ‹¬ (bSl _ = false ∨ _)›); exact qU_ne (by omega)) | (have a1 := bB3_lt (not_or1 ‹¬ (bB3 _ = false ∨ _)›); exact qU_ne (by omega)) | (have a1 := bB3_lt (not_or1 ‹¬ (bB3 _ = false ∨ _)›); have a2 := bSl_lt (not_or2 ‹¬ (bB3 _ = false ∨ _)›); exact (qU_ne (by omega)).trans (qU_ne (by omega)))
theorem xt_freeze {p0 : Int32} {p1 : Int32} : ∀ i, 28 ≤ i → ((xs_freeze S p0 p1).2.1) i = S i := by
  intro i hi
  unfold xs_freeze
  repeat' split
  all_goals first | rfl | (have a1 := bSl_lt (not_or1 ‹¬ (bSl _ = false ∨ _)›); exact qU_ne (by omega)) | (have a1 := bB3_lt (not_or1 ‹¬ (bB3 _ = false ∨ _)›); exact qU_ne (by omega)) | (have a1 := bB3_lt (not_or1 ‹¬ (bB3 _ = false ∨ _)›); have a2 := bSl_lt (not_or2 ‹¬ (bB3 _ = false ∨ _)›); exact (qU_ne (by omega)).trans (qU_ne (by omega)))
end XB
section JF
/-- the object's addresses and its count of rows stay -/
def QS (W W' : qWo) : Prop := qSame W.1 W'.1 ∧ oRq W'.1 = oRq W.1
theorem QS.rf {W : qWo} : QS W W := ⟨⟨rfl, rfl, rfl, rfl, rfl, rfl⟩, rfl⟩
theorem QS.st {Bd sl Rn dc : Nat} {dp : Nat → Nat} {W W2 : qWo} {r : Nat × qWo} (s : qStp Bd sl Rn dp W2 r dc) (h : QS W W2) : QS W r.2 := by
  obtain ⟨dp', -, -, -, -, -, ⟨x, y, z, e⟩, -⟩ := s
  obtain ⟨⟨a1, a2, a3, a4, a5, a6⟩, a7⟩ := h
  unfold QS qSame oRq
  rw [e]
  exact ⟨⟨a1, a2, a3, a4, a5, a6⟩, a7⟩
theorem QS.W0 {W : qWo} : QS W (oFa (oCd W.1 0) 0, W.2) := ⟨⟨rfl, rfl, rfl, rfl, rfl, rfl⟩, rfl⟩
variable {gr : Int32} {n : Nat} {S : Nat → qSlot} {W : qWo}
theorem qo_at (h : PI gr n S W) {p0 p1 : Int32} : QS W (xs_at (xF S) S W p0 p1).2.2 := by
  unfold xs_at
  split
  · exact QS.rf
  · rename_i c
    split
    · exact QS.rf
    · split
      · rename_i c3
        obtain ⟨K, dp, h⟩ := h
        have hs := h.st (bSl_lt (not_or1 c)) c3
        exact QS.st (xWalk_stp (dc := 100) h.G (by decide) p1.toNatClampNeg _ dp _ h.W0.2.2.2.2.2.1 rfl ⟨hs.1, by omega⟩) QS.W0
      · split <;> exact QS.rf
theorem qo_pop (h : PI gr n S W) {p0 p1 : Int32} : QS W (xs_pop (xF S) S W p0 p1).2.2.2 := by
  unfold xs_pop
  split
  · exact QS.rf
  · rename_i c
    split
    · exact QS.rf
    · unfold xr_pop
      split
      · rename_i c3
        split
        · exact QS.rf
        · obtain ⟨K, dp, h⟩ := h
          have hs := h.st (bSl_lt (not_or2 c)) c3
          have st := QS.st (h.G 1 dp _ (S p1.toNatClampNeg).2.2.1 h.W0.2.2.2.2.2.1 rfl hs.1 (by omega)) QS.W0
          split
          · exact st
          · exact st
      · split <;> exact QS.rf
theorem qo_filter (h : PI gr n S W) {p0 p1 p2 : Int32} {p3 : Int64} : QS W (xs_filter (xF S) S W p0 p1 p2 p3).2.2 := by
  unfold xs_filter
  split
  · exact QS.rf
  · rename_i c
    split
    · exact QS.rf
    · unfold xr_filter
      split
      · rename_i c3
        obtain ⟨K, dp, h⟩ := h
        have hs := h.st (bSl_lt (not_or1 (not_or2 c))) c3
        have c6 : p2.toNatClampNeg ≤ 4 := Nat.le_of_not_lt (not_or2 (not_or2 (not_or2 c)))
        have st := QS.st (xFilt_stp (sl := 0) (dc := (S p1.toNatClampNeg).2.2.2 + 1) h.G (w := p2.toNatClampNeg) (c := p3) c6 1000 (S p1.toNatClampNeg).2.2.1 dp _ h.W0.2.2.2.2.2.1 rfl ⟨hs.1, by omega, by omega⟩) QS.W0
        generalize xFilt (xF S) p2.toNatClampNeg p3 1000 (oFa (oCd W.1 0) 0, W.2) (S p1.toNatClampNeg).2.2.1 = r at st ⊢
        split
        · exact st
        · split <;> exact st
      · split
        · exact QS.rf
        · split <;> exact ⟨⟨rfl, rfl, rfl, rfl, rfl, rfl⟩, rfl⟩
theorem qo_list (h : PI gr n S W) {p0 p1 p2 : Int32} : QS W (xs_list (xF S) S W p0 p1 p2).2.2.2 := by
  unfold xs_list
  split
  · exact QS.rf
  · rename_i c
    split
    · exact QS.rf
    · rename_i c2
      have hj := bSl_lt (not_or1 (not_or2 c))
      obtain ⟨K, dp, h⟩ := h
      have hp := h.1 p1.toNatClampNeg (by omega)
      have k6 := bHo_64 hp.1.2.2 (Bool.not_eq_false _ ▸ c2)
      have hs := h.st hj k6
      have st := QS.st (xLst_stp (dc := 100) h.G (by decide) p2.toNatClampNeg (S p1.toNatClampNeg).2.2.1 dp _ h.W0.2.2.2.2.2.1 rfl ⟨hs.1, by omega⟩) QS.W0
      generalize xLst (xF S) p2.toNatClampNeg (oFa (oCd W.1 0) 0, W.2) (S p1.toNatClampNeg).2.2.1 = r at st ⊢
      unfold xLfin
      split
      · exact st
      · split <;> exact st
theorem qo_map {p0 p1 p2 : Int32} {p3 : Int64} : QS W (xs_map S W p0 p1 p2 p3).2.2 := by
  unfold xs_map xr_map xMap
  repeat' split
  all_goals exact ⟨⟨rfl, rfl, rfl, rfl, rfl, rfl⟩, rfl⟩
theorem qo_push {p0 p1 : Int32} {p2 : Int64} : QS W (xs_push S W p0 p1 p2).2.2 := by
  unfold xs_push
  repeat' split
  all_goals exact ⟨⟨rfl, rfl, rfl, rfl, rfl, rfl⟩, rfl⟩
theorem qo_iterate {p0 p2 : Int32} {p1 p3 : Int64} : QS W (xs_iterate S W p0 p1 p2 p3).2.2 := by
  unfold xs_iterate
  repeat' split
  all_goals exact ⟨⟨rfl, rfl, rfl, rfl, rfl, rfl⟩, rfl⟩
theorem qo_take {p0 p1 p2 : Int32} : QS W (xs_take S W p0 p1 p2).2.2 := by
  unfold xs_take
  repeat' split
  all_goals exact ⟨⟨rfl, rfl, rfl, rfl, rfl, rfl⟩, rfl⟩
theorem qo_join {p0 p1 p2 : Int32} : QS W (xs_join S W p0 p1 p2).2.2.2 := by
  unfold xs_join xr_join
  repeat' split
  all_goals exact ⟨⟨rfl, rfl, rfl, rfl, rfl, rfl⟩, rfl⟩
theorem qo_turn {S1 : Nat → qSlot} {rr : Nat} {p0 p1 : Int32} : QS W (xs_turn S S1 rr W p0 p1).2.2 := by
  unfold xs_turn xr_turn xRow
  repeat' split
  all_goals exact ⟨⟨rfl, rfl, rfl, rfl, rfl, rfl⟩, rfl⟩
variable {cy : Nat → ClassId} {h h' : qH} {x y ou : Nat} {fo : Nat → Int64} {S' : Nat → qSlot} {Wc : qWo}
variable {mk : Int32} {sl bl kr vr Ed : Nat} {fs : Nat → Option Nat} {bd br eb : Nat → Nat} {Im : Nat → Prop} {Xb : Nat → Nat → Prop} {g : Nat → Nat} {A A' : Nat → Prop} {ra rk rv pa ad : Nat → Nat} {O' : qYf} {a' : qWd} {k' : qKd}
/-- both have taken the call -/
theorem JZ.fin (hz : zQ cy h x mk sl bl kr vr Ed fs bd br eb Im Xb g S' Wc) (hQ : qRF cy h y A ra rk rv pa W.1 W.2.1 W.2.2 S (S 999).2.2.1 (xRs S) ad) (hA : ∀ z, A z → ∃ w, h z = some (.inl w)) (hou : h ou = some (.inl (cy 1, 1, .inr (.inl fo)))) (hmk : qMk gr = mk) (hEd : Ed ≤ n) (hrn : oRq W.1 = nI (S 999).2.2.1)
    (hdj : ∀ z, JCl sl bl kr vr br Im Xb z → ¬ JRf h y A ra rk rv pa W.1 ad (S 999).2.2.1 z ∧ z ≠ ou) (hno : ¬ JRf h y A ra rk rv pa W.1 ad (S 999).2.2.1 ou) (hp : PI gr n S' Wc) (t : ∀ i, 28 ≤ i → S' i = S i) (ew : Wc.2 = (a', k')) (qs : QS W Wc)
    (hQ' : qRF cy h' y A' ra rk rv pa O' a' k' S' (S 999).2.2.1 (xRs S) ad) (fr : qFR h h' y W.1.2.2.2.1 ra rk rv pa A A') (e1 : oCq O' = oCq Wc.1) (e2 : oMq O' = oMq Wc.1) (e3 : O'.2.2.2.2.2.2.1 = Wc.1.2.2.2.2.2.2.1) (sm : qSame Wc.1 O') (e4 : oRq O' = oRq Wc.1) : JZ cy h' x y ou fo gr n S' (O', a', k') S' (O', a', k') ∧ PI gr n S' (O', a', k') := by
  obtain ⟨oc, ac, kc⟩ := Wc
  cases ew
  have e9 : S' 999 = S 999 := t 999 (by decide)
  have er : xRs S' = xRs S := funext fun r => by unfold xRs; rw [t (1000 + r) (by omega)]
  have hp2 : PI gr n S' (O', a', k') := hp.obj e2 e3
  obtain ⟨K, dp, hpi⟩ := id hp2
  obtain ⟨⟨a1, a2, a3, a4, a5, a6⟩, a7⟩ := qs
  obtain ⟨b1, b2, b3, b4, b5, b6⟩ := sm
  refine ⟨JZ.ref hpi.hV (hz.obj e1 e2) hQ hA hou hmk hEd hdj hno (A' := A') (by rw [e9, er]; exact hQ') fr.ft ⟨b1.trans a1, b2.trans a2, b3.trans a3, b4.trans a4, b5.trans a5, b6.trans a6⟩ (by rw [e9]; exact (e4.trans a7).trans hrn) (fun i hi => Or.inl ⟨by rw [e9] at hi; exact hi, rfl⟩), hp2⟩
end JF
