section JM
/-- the streams' rows grow -/
def MO (W W' : qWo) : Prop := W.2.1.1 ≤ W'.2.1.1 ∧ W.2.1.2.1 ≤ W'.2.1.2.1
theorem MO.rf {W : qWo} {o : qYf} : MO W (o, W.2) := ⟨Nat.le_refl _, Nat.le_refl _⟩
theorem MO.cons {W : qWo} {o : qYf} {x : Int64} {r : Nat} {k : qKd} : MO W (o, xCons W.2.1 x r, k) := ⟨Nat.le_succ _, by show _ ≤ if W.2.1.1 = W.2.1.2.1 then 2 * W.2.1.2.1 else W.2.1.2.1; split <;> omega⟩
theorem MO.st {Bd sl Rn dc : Nat} {dp : Nat → Nat} {W W2 : qWo} {r : Nat × qWo} (s : qStp Bd sl Rn dp W2 r dc) (h : MO W W2) : MO W r.2 := by
  obtain ⟨dp', -, -, s3, s4, -⟩ := s
  exact ⟨Nat.le_trans h.1 s3, Nat.le_trans h.2 s4⟩
theorem MO.W0 {W : qWo} : MO W (oFa (oCd W.1 0) 0, W.2) := MO.rf
variable {gr : Int32} {n : Nat} {S : Nat → qSlot} {W : qWo}
theorem mo_at (h : PI gr n S W) {p0 p1 : Int32} : MO W (xs_at (xF S) S W p0 p1).2.2 := by
  unfold xs_at
  split
  · exact MO.rf
  · rename_i c
    split
    · exact MO.rf
    · split
      · rename_i c3
        obtain ⟨K, dp, h⟩ := h
        have hs := h.st (bSl_lt (not_or1 c)) c3
        exact MO.st (xWalk_stp (dc := 100) h.G (by decide) p1.toNatClampNeg _ dp _ h.W0.2.2.2.2.2.1 rfl ⟨hs.1, by omega⟩) MO.W0
      · split <;> exact MO.rf
theorem mo_pop (h : PI gr n S W) {p0 p1 : Int32} : MO W (xs_pop (xF S) S W p0 p1).2.2.2 := by
  unfold xs_pop
  split
  · exact MO.rf
  · rename_i c
    split
    · exact MO.rf
    · unfold xr_pop
      split
      · rename_i c3
        split
        · exact MO.rf
        · obtain ⟨K, dp, h⟩ := h
          have hs := h.st (bSl_lt (not_or2 c)) c3
          have st := MO.st (h.G 1 dp _ (S p1.toNatClampNeg).2.2.1 h.W0.2.2.2.2.2.1 rfl hs.1 (by omega)) MO.W0
          split
          · exact st
          · exact st
      · split <;> exact MO.rf
theorem mo_filter (h : PI gr n S W) {p0 p1 p2 : Int32} {p3 : Int64} : MO W (xs_filter (xF S) S W p0 p1 p2 p3).2.2 := by
  unfold xs_filter
  split
  · exact MO.rf
  · rename_i c
    split
    · exact MO.rf
    · unfold xr_filter
      split
      · rename_i c3
        obtain ⟨K, dp, h⟩ := h
        have hs := h.st (bSl_lt (not_or1 (not_or2 c))) c3
        have c6 : p2.toNatClampNeg ≤ 4 := Nat.le_of_not_lt (not_or2 (not_or2 (not_or2 c)))
        have st := MO.st (xFilt_stp (sl := 0) (dc := (S p1.toNatClampNeg).2.2.2 + 1) h.G (w := p2.toNatClampNeg) (c := p3) c6 1000 (S p1.toNatClampNeg).2.2.1 dp _ h.W0.2.2.2.2.2.1 rfl ⟨hs.1, by omega, by omega⟩) MO.W0
        generalize xFilt (xF S) p2.toNatClampNeg p3 1000 (oFa (oCd W.1 0) 0, W.2) (S p1.toNatClampNeg).2.2.1 = r at st ⊢
        split
        · exact st
        · split <;> exact st
      · split
        · exact MO.rf
        · split <;> first | exact MO.rf | exact MO.cons
theorem mo_list (h : PI gr n S W) {p0 p1 p2 : Int32} : MO W (xs_list (xF S) S W p0 p1 p2).2.2.2 := by
  unfold xs_list
  split
  · exact MO.rf
  · rename_i c
    split
    · exact MO.rf
    · rename_i c2
      have hj := bSl_lt (not_or1 (not_or2 c))
      obtain ⟨K, dp, h⟩ := h
      have hp := h.1 p1.toNatClampNeg (by omega)
      have k6 := bHo_64 hp.1.2.2 (Bool.not_eq_false _ ▸ c2)
      have hs := h.st hj k6
      have st := MO.st (xLst_stp (dc := 100) h.G (by decide) p2.toNatClampNeg (S p1.toNatClampNeg).2.2.1 dp _ h.W0.2.2.2.2.2.1 rfl ⟨hs.1, by omega⟩) MO.W0
      generalize xLst (xF S) p2.toNatClampNeg (oFa (oCd W.1 0) 0, W.2) (S p1.toNatClampNeg).2.2.1 = r at st ⊢
      unfold xLfin
      split
      · exact st
      · split <;> exact st
theorem mo_map {p0 p1 p2 : Int32} {p3 : Int64} : MO W (xs_map S W p0 p1 p2 p3).2.2 := by
  unfold xs_map xr_map xMap
  repeat' split
  all_goals first | exact MO.rf | exact MO.cons
theorem mo_push {p0 p1 : Int32} {p2 : Int64} : MO W (xs_push S W p0 p1 p2).2.2 := by
  unfold xs_push
  repeat' split
  all_goals first | exact MO.rf | exact MO.cons
theorem mo_iterate {p0 p2 : Int32} {p1 p3 : Int64} : MO W (xs_iterate S W p0 p1 p2 p3).2.2 := by
  unfold xs_iterate
  repeat' split
  all_goals first | exact MO.rf | exact MO.cons
theorem mo_take {p0 p1 p2 : Int32} : MO W (xs_take S W p0 p1 p2).2.2 := by
  unfold xs_take xTak
  repeat' split
  all_goals first | exact MO.rf | exact MO.cons
theorem mo_join {p0 p1 p2 : Int32} : MO W (xs_join S W p0 p1 p2).2.2.2 := by
  unfold xs_join xr_join xJoin
  repeat' split
  all_goals first | exact MO.rf | exact MO.cons
theorem mo_turn {S1 : Nat → qSlot} {rr : Nat} {p0 p1 : Int32} : MO W (xs_turn S S1 rr W p0 p1).2.2 := by
  unfold xs_turn xr_turn xRow
  repeat' split
  all_goals first | exact MO.rf | exact MO.cons

/-- what n calls may take -/
def t1 : Nat → Nat
  | 0 => 0
  | n + 1 => t1 n + (1201 + 212 * n)
def t2 : Nat → Nat
  | 0 => 0
  | n + 1 => t2 n + (13300 + n * rMs n 7)
theorem t1_le : ∀ n, n ≤ 64 → t1 n ≤ 504256 := by decide +kernel
theorem t2_le : ∀ n, n ≤ 64 → t2 n ≤ 4471936 := by decide +kernel
theorem qP1_le {a : qWd} (h : a.2.1 ≤ 50000) (h1 : 1 ≤ a.2.1) : qP1 a ≤ 120 := by
  unfold qP1
  have : Nat.log2 a.2.1 < 16 := (Nat.log2_lt (by omega)).mpr (by omega)
  omega
theorem qP1_mo {W W' : qWo} (h : MO W W') (h1 : 1 ≤ W.2.1.2.1) : qP1 W.2.1 ≤ qP1 W'.2.1 ∧ qP2 W.2.1 ≤ qP2 W'.2.1 := by
  unfold qP1 qP2
  have h2 := h.2
  refine ⟨Nat.mul_le_mul_left _ ?_, Nat.mul_le_mul_left _ h2⟩
  have e : 2 ^ Nat.log2 W.2.1.2.1 ≤ W'.2.1.2.1 := Nat.le_trans (Nat.log2_self_le (by omega)) h2
  exact (Nat.le_log2 (by omega)).mpr e
/-- bounds of the world -/
theorem PI.bnd {S : Nat → qSlot} {W : qWo} (h : PI gr n S W) (hn : n ≤ 64) : W.2.1.1 ≤ 24000 ∧ qP1 W.2.1 ≤ 120 ∧ qP2 W.2.1 ≤ 800000 ∧ 1 ≤ W.2.1.2.1 := by
  obtain ⟨K, dp, h⟩ := h
  obtain ⟨o, a, k⟩ := W
  have hL := h.hV.L (by omega)
  have hp : 1 ≤ a.1 ∧ a.1 ≤ a.2.1 := h.hV.p
  refine ⟨hL.2, qP1_le hL.1.1 (Nat.le_trans hp.1 hp.2), ?_, Nat.le_trans hp.1 hp.2⟩
  show 16 * a.2.1 ≤ 800000
  have := hL.1.1
  omega
theorem JZ.yo {cy : Nat → ClassId} {h : qH} {x y ou : Nat} {fo : Nat → Int64} {Sc : Nat → qSlot} {Wc : qWo} (j : JZ cy h x y ou fo gr n Sc Wc S W) : ∃ fi re rc rs so ot cn la, h y = some (qYo W.1 fi re rc rs so ot cn la (nI W.2.1.1) (nI W.2.2.1)) := by
  obtain ⟨mk, sl, bl, kr, vr, Ed, fs, bd, br, eb, Im, Xb, g, A, ra, rk, rv, pa, ad, hz, hQ, -⟩ := j
  exact hQ.1.yo2
end JM
/-- as JZ, with the reference's addresses named -/
def JZg (cy : Nat → ClassId) (h : qH) (x y ou : Nat) (fo : Nat → Int64) (gr : Int32) (n : Nat) (Sc : Nat → qSlot) (Wc : qWo) (S : Nat → qSlot) (W : qWo) (A : Nat → Prop) (ra rk rv pa ad : Nat → Nat) : Prop := ∃ (mk : Int32) (sl bl kr vr Ed : Nat) (fs : Nat → Option Nat) (bd br eb : Nat → Nat) (Im : Nat → Prop) (Xb : Nat → Nat → Prop) (g : Nat → Nat),
  zQ cy h x mk sl bl kr vr Ed fs bd br eb Im Xb g Sc Wc ∧ qRF cy h y A ra rk rv pa W.1 W.2.1 W.2.2 S (S 999).2.2.1 (xRs S) ad ∧ (∀ z, A z → ∃ w, h z = some (.inl w)) ∧ h ou = some (.inl (cy 1, 1, .inr (.inl fo))) ∧ qMk gr = mk ∧ Ed ≤ n ∧ oRq W.1 = nI (S 999).2.2.1 ∧
  (∀ z, JCl sl bl kr vr br Im Xb z → ¬ JRf h y A ra rk rv pa W.1 ad (S 999).2.2.1 z ∧ z ≠ ou) ∧ ¬ JRf h y A ra rk rv pa W.1 ad (S 999).2.2.1 ou
section JG
variable {cy : Nat → ClassId} {h h' : qH} {x y ou : Nat} {fo : Nat → Int64} {gr : Int32} {n : Nat} {S Sc S' : Nat → qSlot} {W Wc W' : qWo}
variable {mk : Int32} {sl bl kr vr Ed : Nat} {fs : Nat → Option Nat} {bd br eb : Nat → Nat} {Im : Nat → Prop} {Xb : Nat → Nat → Prop} {g : Nat → Nat} {A A' : Nat → Prop} {ra rk rv pa ad ad' : Nat → Nat}
theorem JZ.clsg (hz : zQ cy h x mk sl bl kr vr Ed fs bd br eb Im Xb g S W) (hQ : qRF cy h y A ra rk rv pa W.1 W.2.1 W.2.2 S (S 999).2.2.1 (xRs S) ad) (hA : ∀ z, A z → ∃ w, h z = some (.inl w)) (hou : h ou = some (.inl (cy 1, 1, .inr (.inl fo)))) (hmk : qMk gr = mk) (hEd : Ed ≤ n) (hrn : oRq W.1 = nI (S 999).2.2.1)
    (hdj : ∀ z, JCl sl bl kr vr br Im Xb z → ¬ JRf h y A ra rk rv pa W.1 ad (S 999).2.2.1 z ∧ z ≠ ou) (hno : ¬ JRf h y A ra rk rv pa W.1 ad (S 999).2.2.1 ou) (po : zPo cy h x mk sl bl kr vr Ed bd br Im Xb S' W' h') : JZg cy h' x y ou fo gr (n + 1) S' W' S W A ra rk rv pa ad := by
  obtain ⟨E', fs', eb', Im', Xb', g', p1, p2, p3, p4, p5⟩ := po
  obtain ⟨q4, q1⟩ : (∀ b, b < 4 → ∃ fv, h (bd b) = some (.inr (1, fv))) ∧ ∃ fv, h x = some (.inr (6, fv)) := ⟨fun b hb => by obtain ⟨op, kd, ln, ed, rt, f, b1, -⟩ := hz.2.2.2.1 b hb; exact ⟨_, b1⟩, _, hz.1.1⟩
  have hA2 : ∀ z ci fv, A z → ¬ h z = some (.inr (ci, fv)) := fun z ci fv a e => by obtain ⟨w, hw⟩ := hA z a; rw [hw] at e; cases e
  have kp : ∀ z v, h z = some v → (∀ ci fv, v = .inr (ci, fv) → 7 ≤ ci) → ¬ JCl sl bl kr vr br Im Xb z → h' z = some v := fun z v e c nj => p3.1 z v e (fun w => by
    rcases w with w | w | w | w | ⟨b, hb, w | w | w⟩ | ⟨fv, w⟩
    · obtain ⟨fv, e6⟩ := q1
      rw [w, e6] at e; cases e; exact absurd (c _ _ rfl) (by decide)
    · exact nj (Or.inl w)
    · exact nj (Or.inr (Or.inr (Or.inl w)))
    · exact nj (Or.inr (Or.inr (Or.inr (Or.inl w))))
    · obtain ⟨fv, e6⟩ := q4 b hb
      rw [w, e6] at e; cases e; exact absurd (c _ _ rfl) (by decide)
    · exact nj (Or.inr (Or.inr (Or.inr (Or.inr (Or.inl ⟨b, hb, w⟩)))))
    · exact nj (Or.inr (Or.inr (Or.inr (Or.inr (Or.inr (Or.inr ⟨b, hb, w⟩))))))
    · rw [w] at e; cases e; exact absurd (c _ _ rfl) (by decide))
  have kR : ∀ z v, h z = some v → JRf h y A ra rk rv pa W.1 ad (S 999).2.2.1 z → h' z = some v := fun z v e j => kp z v e (fun ci fv ev => by subst ev; exact hQ.cls hA2 j e) (fun c => (hdj z c).1 j)
  have back : ∀ z, JRf h' y A ra rk rv pa W.1 ad (S 999).2.2.1 z → JRf h y A ra rk rv pa W.1 ad (S 999).2.2.1 z := fun z j => j.imp id (fun j => j.imp (fun ⟨a, _⟩ => ⟨a, by obtain ⟨w, hw⟩ := hA z a; exact ⟨_, hw⟩⟩) id)
  have ko : h' ou = some (.inl (cy 1, 1, .inr (.inl fo))) := kp ou _ hou (fun _ _ e => by cases e) (fun c => (hdj ou c).2 rfl)
  refine ⟨mk, sl, bl, kr, vr, E', fs', bd, br, eb', Im', Xb', g', p2, hQ.keepR kR, fun z a => ?_, ko, hmk, by omega, hrn, fun z c => ?_, fun j => hno (back ou j)⟩
  · obtain ⟨w, hw⟩ := hA z a
    exact ⟨w, kR z _ hw (Or.inr (Or.inl ⟨a, _, hw⟩))⟩
  · have old : JCl sl bl kr vr br Im Xb z ∨ h z = none := by
      rcases c with c | c | c | c | c | c | ⟨b, hb, c⟩
      · exact Or.inl (Or.inl c)
      · exact Or.inl (Or.inr (Or.inl c))
      · exact Or.inl (Or.inr (Or.inr (Or.inl c)))
      · exact Or.inl (Or.inr (Or.inr (Or.inr (Or.inl c))))
      · exact Or.inl (Or.inr (Or.inr (Or.inr (Or.inr (Or.inl c)))))
      · exact (p5 z c).imp (fun w => Or.inr (Or.inr (Or.inr (Or.inr (Or.inr w))))) id
      · exact (p4 b hb z c).imp (fun w => Or.inr (Or.inr (Or.inr (Or.inr (Or.inr (Or.inr ⟨b, hb, w⟩)))))) id
    rcases old with w | w
    · exact ⟨fun j => (hdj z w).1 (back z j), (hdj z w).2⟩
    · refine ⟨fun j => ?_, fun e => by rw [e, hou] at w; cases w⟩
      obtain ⟨v, hv⟩ := hQ.dom (back z j)
      rw [w] at hv; cases hv
theorem xTa_eq {S S1 : Nat → qSlot} {W : qWo} {p0 p1 : Int32} {rr : Nat} (ht : xTok S p0 p1 S1 rr) : (xs_turn S S1 rr W p0 p1).2.2.2.1 = xTa S W.2.1 W.2.2 p0 p1 := by
  unfold xTok at ht
  unfold xTa
  by_cases q : xTq S p0 p1 = true
  · rw [if_pos q] at ht
    obtain ⟨-, -, e⟩ := ht
    have q2 := q
    unfold xTq at q2
    rw [Bool.and_eq_true, Bool.and_eq_true, decide_eq_true_iff] at q2
    obtain ⟨⟨b0, b1⟩, k0⟩ := q2
    unfold xs_turn
    rw [if_neg (by rw [b0, b1]; decide), if_neg (by rw [k0]; decide)]
    unfold xr_turn
    rw [if_pos k0]
    unfold xRow
    rw [e, List.length_map]
    by_cases z : (S p1.toNatClampNeg).2.1.length = 0
    · rw [if_pos (by omega), if_neg (fun y => y.2 z)]
    · rw [if_neg (by omega), if_pos ⟨q, z⟩]
  · rw [if_neg (fun y => q y.1)]
    unfold xs_turn
    split
    · rfl
    · rename_i c
      split
      · rfl
      · unfold xr_turn
        split
        · rename_i k0
          have b0 : bSl p0 = true := Bool.not_eq_false _ ▸ not_or1 c
          have b1 : bSl p1 = true := Bool.not_eq_false _ ▸ not_or2 c
          exact absurd (by unfold xTq; rw [b0, b1, decide_eq_true k0]; rfl) q
        · split <;> rfl
theorem xTa_b {gr : Int32} {n : Nat} {S : Nat → qSlot} {W : qWo} {p0 p1 : Int32} (hp : PI gr n S W) (hn : n < 64) : W.2.1.1 ≤ (xTa S W.2.1 W.2.2 p0 p1).1 ∧ ((xTa S W.2.1 W.2.2 p0 p1).1 ≤ 24000 ∧ qP1 (xTa S W.2.1 W.2.2 p0 p1) ≤ 120 ∧ qP2 (xTa S W.2.1 W.2.2 p0 p1) ≤ 800000) ∧ qP1 W.2.1 ≤ qP1 (xTa S W.2.1 W.2.2 p0 p1) ∧ qP2 W.2.1 ≤ qP2 (xTa S W.2.1 W.2.2 p0 p1) := by
  obtain ⟨S1, rr, ht⟩ := xTok_ex (S := S) (p0 := p0) (p1 := p1)
  have b := (hp.turn ht).bnd (by omega)
  have m : MO W (xs_turn S S1 rr W p0 p1).2.2 := mo_turn
  have e := qP1_mo m (hp.bnd (by omega)).2.2.2
  have m1 := m.1
  rw [xTa_eq ht] at b e m1
  exact ⟨m1, ⟨b.1, b.2.1, b.2.2.1⟩, e⟩
theorem JT.yo {gr : Int32} {n : Nat} {S : Nat → qSlot} {W : qWo} {cy : Nat → ClassId} {h : qH} {x y ou : Nat} {fo : Nat → Int64} {p0 p1 c : Int32} (j : ∃ A ra rk rv pa ad, ∀ (S1 : Nat → qSlot) (rr : Nat), xTok S p0 p1 S1 rr → (xs_turn S S1 rr W p0 p1).1 = c ∧ JZg cy h x y ou fo gr n (xs_turn S S1 rr W p0 p1).2.1 (xs_turn S S1 rr W p0 p1).2.2 S W A ra rk rv pa ad) {S1 : Nat → qSlot} {rr : Nat} (ht : xTok S p0 p1 S1 rr) : ∃ fi re rc rs so ot cn la, h y = some (qYo W.1 fi re rc rs so ot cn la (nI W.2.1.1) (nI W.2.2.1)) := by
  obtain ⟨A, ra, rk, rv, pa, ad, j⟩ := j
  obtain ⟨-, mk, sl, bl, kr, vr, Ed, fs, bd, br, eb, Im, Xb, g, hz, hQ, -⟩ := j S1 rr ht
  exact hQ.1.yo2
theorem xTok_9 {S S1 : Nat → qSlot} {W : qWo} {p0 p1 : Int32} {rr : Nat} (ht : xTok S p0 p1 S1 rr) : ((xs_turn S S1 rr W p0 p1).2.1 999) = S1 999 := by
  unfold xTok at ht
  by_cases q : xTq S p0 p1 = true
  · rw [if_pos q] at ht
    have q2 := q
    unfold xTq at q2
    rw [Bool.and_eq_true, Bool.and_eq_true, decide_eq_true_iff] at q2
    obtain ⟨⟨b0, b1⟩, k0⟩ := q2
    have := bSl_lt (p := p0) (by rw [b0]; decide)
    unfold xs_turn
    rw [if_neg (by rw [b0, b1]; decide), if_neg (by rw [k0]; decide)]
    unfold xr_turn
    rw [if_pos k0]
    exact qU_ne (by omega)
  · rw [if_neg q] at ht
    subst ht
    unfold xs_turn
    split
    · rfl
    · rename_i c
      have := bSl_lt (not_or1 c)
      split
      · rfl
      · unfold xr_turn
        split
        · exact qU_ne (by omega)
        · split
          · rfl
          · exact qU_ne (by omega)
end JG
