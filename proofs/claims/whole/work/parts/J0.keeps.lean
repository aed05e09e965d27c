/-- what a slot keeps -/
def PS (gr : Int32) (K : List Int64) (s : qSlot) : Prop := qOk s.1 s.2.1 ∧ s.2.1.length ≤ 1000 ∧ s.2.2.2 ≤ 100 ∧ ((s.1 = 1 ∨ s.1 = 2) → ∀ k, xAl gr s.2.1 k ≤ 16) ∧ ((s.1 = 1 ∨ s.1 = 2 ∨ s.1 = 3) → ∀ p ∈ s.2.1, p.1 ∈ K)
/-- what the slots and the world keep; n: how many calls there were -/
def PIk (gr : Int32) (n : Nat) (K : List Int64) (dp : Nat → Nat) (S : Nat → qSlot) (W : qWo) : Prop :=
  (∀ i, i < 28 → PS gr K (S i)) ∧ (∀ b, b < 4 → (S (24 + b)).1 = -1 ∨ (S (24 + b)).1 = 0 ∨ (S (24 + b)).1 = 1 ∨ (S (24 + b)).1 = 2) ∧ K.length ≤ n ∧ (S 999).2.2.1 ≤ n ∧ (∀ r, r < (S 999).2.2.1 → (xRs S r).length ≤ 1000) ∧ qWv (n + 2) 1 (S 999).2.2.1 dp W ∧ W.1.2.2.2.2.2.2.1 = gr ∧ (∀ i, i < 24 → (S i).1 = 6 → (S i).2.2.1 < W.2.1.1 ∧ dp (S i).2.2.1 ≤ (S i).2.2.2)
def PI (gr : Int32) (n : Nat) (S : Nat → qSlot) (W : qWo) : Prop := ∃ K dp, PIk gr n K dp S W
theorem qWv.more {Bd sl Rn : Nat} {dp : Nat → Nat} {W : qWo} (i : qWv Bd sl Rn dp W) : qWv (Bd + 1) (sl + 1) Rn dp W := ⟨i.n, i.c, i.p, i.g, by obtain ⟨M, h1, h2, h3⟩ := i.m; exact ⟨M, h1, h2, by omega⟩, i.r, i.k, i.z⟩
theorem qWv.wide {Bd sl Rn : Nat} {dp : Nat → Nat} {W : qWo} (i : qWv Bd sl Rn dp W) : qWv (Bd + 1) sl Rn dp W := ⟨i.n, i.c, i.p, i.g, by obtain ⟨M, h1, h2, h3⟩ := i.m; exact ⟨M, h1, h2, by omega⟩, i.r, i.k, i.z⟩
theorem bSl_lt {p : Int32} (h : ¬ bSl p = false) : p.toNatClampNeg < 24 := by
  have h2 : ¬ p < 0 ∧ p ≤ 23 := Decidable.byContradiction (fun z => h (bSl_f z))
  obtain ⟨n, hn, rfl⟩ := nI_of2 (M := 23) (n := 23) (by decide) h2.1 h2.2
  rw [nI_clamp (by omega)]; omega
theorem bB3_lt {p : Int32} (h : ¬ bB3 p = false) : p.toNatClampNeg < 4 := by
  have h2 : ¬ p < 0 ∧ p ≤ 3 := Decidable.byContradiction (fun z => h (bB3_f z))
  obtain ⟨n, hn, rfl⟩ := nI_of2 (M := 3) (n := 3) (by decide) h2.1 h2.2
  rw [nI_clamp (by omega)]; omega
theorem PS.sub {gr : Int32} {K K' : List Int64} {s : qSlot} (h : PS gr K s) (hK : ∀ k, k ∈ K → k ∈ K') : PS gr K' s := ⟨h.1, h.2.1, h.2.2.1, h.2.2.2.1, fun z p hp => hK _ (h.2.2.2.2 z p hp)⟩
section PIS
variable {gr : Int32} {n : Nat} {K K' : List Int64} {dp dp' : Nat → Nat} {S : Nat → qSlot} {W W' : qWo} {s : qSlot} {i : Nat}
theorem PIk.up (h : PIk gr n K dp S W) : PIk gr (n + 1) K dp S W := ⟨h.1, h.2.1, by have := h.2.2.1; omega, by have := h.2.2.2.1; omega, h.2.2.2.2.1, h.2.2.2.2.2.1.wide, h.2.2.2.2.2.2.1, h.2.2.2.2.2.2.2⟩
theorem PI.up (h : PI gr n S W) : PI gr (n + 1) S W := by obtain ⟨K, dp, h⟩ := h; exact ⟨K, dp, h.up⟩
/-- a slot is written -/
theorem PIk.put (h : PIk gr n K dp S W) (hi : i < 24) (hK : ∀ k, k ∈ K → k ∈ K') (hl : K'.length ≤ n) (hs : PS gr K' s) (h6 : s.1 = 6 → s.2.2.1 < W.2.1.1 ∧ dp s.2.2.1 ≤ s.2.2.2) : PIk gr n K' dp (qU S i s) W := by
  obtain ⟨a1, a2, a3, a4, a5, a6, a7, a8⟩ := h
  have e9 : (qU S i s) 999 = S 999 := qU_ne (by omega)
  refine ⟨fun j hj => ?_, fun b hb => ?_, hl, by rw [e9]; exact a4, fun r hr => ?_, by rw [e9]; exact a6, a7, fun j hj hk => ?_⟩
  · by_cases c : j = i
    · subst c; rw [qU_at]; exact hs
    · rw [qU_ne c]; exact (a1 j hj).sub hK
  · rw [qU_ne (by omega)]; exact a2 b hb
  · rw [xRs_b (by omega)]; rw [e9] at hr; exact a5 r hr
  · by_cases c : j = i
    · subst c; rw [qU_at] at hk ⊢; exact h6 hk
    · rw [qU_ne c] at hk ⊢; exact a8 j hj hk
/-- a builder is written -/
theorem PIk.putb (h : PIk gr n K dp S W) {b : Nat} (hb : b < 4) (hK : ∀ k, k ∈ K → k ∈ K') (hl : K'.length ≤ n) (hs : PS gr K' s) (hk : s.1 = -1 ∨ s.1 = 0 ∨ s.1 = 1 ∨ s.1 = 2) : PIk gr n K' dp (qU S (24 + b) s) W := by
  obtain ⟨a1, a2, a3, a4, a5, a6, a7, a8⟩ := h
  have e9 : (qU S (24 + b) s) 999 = S 999 := qU_ne (by omega)
  refine ⟨fun j hj => ?_, fun c hc => ?_, hl, by rw [e9]; exact a4, fun r hr => ?_, by rw [e9]; exact a6, a7, fun j hj hk => ?_⟩
  · by_cases c : j = 24 + b
    · subst c; rw [qU_at]; exact hs
    · rw [qU_ne c]; exact (a1 j hj).sub hK
  · by_cases e : c = b
    · subst e; rw [qU_at]; exact hk
    · rw [qU_ne (by omega)]; exact a2 c hc
  · rw [xRs_b (by omega)]; rw [e9] at hr; exact a5 r hr
  · rw [qU_ne (by omega)] at hk ⊢; exact a8 j hj hk
/-- the world takes a step -/
theorem PIk.step (h : PIk gr n K dp S W) {r : Nat × qWo} {dc : Nat} (st : qStp (n + 2) 0 (S 999).2.2.1 dp W r dc) : ∃ dp', PIk gr (n + 1) K dp' S r.2 ∧ (∀ c, c < W.2.1.1 → dp' c = dp c) ∧ (oFq r.2.1 = 0 → r.1 < r.2.2.1.1 ∧ dp' r.1 ≤ dc) := by
  obtain ⟨a1, a2, a3, a4, a5, a6, a7, a8⟩ := h
  obtain ⟨dp', s1, s2, s3, s4, s5, ⟨x, y, z, s6⟩, s7⟩ := st
  refine ⟨dp', ⟨a1, a2, by omega, by omega, a5, s2.more, by rw [s6]; exact a7, fun j hj hk => ?_⟩, s1, s5⟩
  obtain ⟨b1, b2⟩ := a8 j hj hk
  exact ⟨by omega, by rw [s1 _ b1]; exact b2⟩
/-- only the object's fields -/
theorem PIk.obj (h : PIk gr n K dp S W) {o' : qYf} (e1 : oMq o' = oMq W.1) (e2 : o'.2.2.2.2.2.2.1 = W.1.2.2.2.2.2.2.1) : PIk gr n K dp S (o', W.2) := ⟨h.1, h.2.1, h.2.2.1, h.2.2.2.1, h.2.2.2.2.1, h.2.2.2.2.2.1.obj e1, e2.trans h.2.2.2.2.2.2.1, h.2.2.2.2.2.2.2⟩
theorem PI.obj (h : PI gr n S W) {o' : qYf} (e1 : oMq o' = oMq W.1) (e2 : o'.2.2.2.2.2.2.1 = W.1.2.2.2.2.2.2.1) : PI gr n S (o', W.2) := by obtain ⟨K, dp, h⟩ := h; exact ⟨K, dp, h.obj e1 e2⟩
theorem PIk.mv (h : PIk gr n K dp S W) {m M : Nat} (hm : oMq W.1 = nI m) (h1 : m ≤ M) (h2 : M ≤ 20000) : PIk gr n K dp S (oMv W.1 (nI M), W.2) := ⟨h.1, h.2.1, h.2.2.1, h.2.2.2.1, h.2.2.2.2.1, h.2.2.2.2.2.1.mvs hm ⟨h1, by omega⟩ h2, h.2.2.2.2.2.2.1, h.2.2.2.2.2.2.2⟩
theorem PS.fil (h : PS gr K s) {f : Int64 × Int64 → Bool} : PS gr K (s.1, s.2.1.filter f, s.2.2) := by
  obtain ⟨⟨o1, o2, o3⟩, h2, h3, h4, h5⟩ := h
  refine ⟨⟨fun z => (o1 z).filter _, fun z => (o2 z).filter _, o3⟩, Nat.le_trans (List.length_filter_le ..) h2, h3, fun z k => Nat.le_trans ?_ (h4 z k), fun z p hp => h5 z p (List.mem_filter.mp hp).1⟩
  unfold xAl
  exact ((List.filter_sublist (p := f)).filter _).length_le
/-- a SEQUENCE, QUEUE or HEAP is another -/
theorem PS.seq (h : PS gr K s) {L : qKV} (hk : ¬ (s.1 = 1 ∨ s.1 = 2 ∨ s.1 = 3)) (hl : L.length ≤ 1000) (hu : s.1 = 5 → qUp L) : PS gr K (s.1, L, s.2.2) := ⟨⟨fun z => z.elim (fun y => absurd (Or.inr (Or.inr y)) hk) hu, fun z => absurd z hk, h.1.2.2⟩, hl, h.2.2.1, fun z => absurd (z.elim Or.inl (fun y => Or.inr (Or.inl y))) hk, fun z => absurd z hk⟩
theorem PS.len (h : PS gr K s) (hk : s.1 = 1 ∨ s.1 = 2 ∨ s.1 = 3) : s.2.1.length ≤ K.length := by
  have hn : (s.2.1.map Prod.fst).Nodup := List.pairwise_map.mpr (h.1.2.1 hk)
  have := List.Nodup.length_le_of_subset hn (l₂ := K) (fun k hk2 => by obtain ⟨p, hp, rfl⟩ := List.mem_map.mp hk2; exact h.2.2.2.2 hk p hp)
  rw [List.length_map] at this
  exact this
end PIS
theorem not_or1 {a b : Prop} (h : ¬ (a ∨ b)) : ¬ a := fun z => h (Or.inl z)
theorem not_or2 {a b : Prop} (h : ¬ (a ∨ b)) : ¬ b := fun z => h (Or.inr z)
section PIO
variable {gr : Int32} {n : Nat} {S : Nat → qSlot} {W : qWo}
theorem PS.mk0 {gr : Int32} {K : List Int64} {k : Int32} (hk : k ∈ [(-1 : Int32), 0, 1, 2, 3, 4, 5, 6]) {a : Nat} : PS gr K (k, [], a, 0) := ⟨⟨fun _ => List.Pairwise.nil, fun _ => List.Pairwise.nil, hk⟩, Nat.zero_le _, Nat.zero_le _, fun _ _ => Nat.zero_le _, fun _ p hp => by cases hp⟩
theorem PI.make (h : PI gr n S W) {p0 p1 : Int32} : PI gr (n + 1) (xs_make S p0 p1).2 W := by
  unfold xs_make
  split
  · exact h.up
  · rename_i c
    obtain ⟨K, dp, h⟩ := h
    have h2 : ¬ p1 < 0 ∧ p1 ≤ 6 := Decidable.byContradiction (fun z => not_or2 c (bIn_f z))
    have hk := zkd06 h2.1 h2.2
    exact ⟨K, dp, h.up.put (bSl_lt (not_or1 c)) (fun _ z => z) h.up.2.2.1 (PS.mk0 (List.mem_cons_of_mem _ hk)) (fun z => ⟨h.2.2.2.2.2.1.p.1, by show dp 0 ≤ 0; rw [h.2.2.2.2.2.1.z]; exact Nat.le_refl _⟩)⟩
theorem PI.copy (h : PI gr n S W) {p0 p1 : Int32} : PI gr (n + 1) (xs_copy S p0 p1).2 W := by
  unfold xs_copy
  split
  · exact h.up
  · rename_i c
    split
    · exact h.up
    · obtain ⟨K, dp, h⟩ := h
      have hj := bSl_lt (not_or2 c)
      exact ⟨K, dp, h.up.put (bSl_lt (not_or1 c)) (fun _ z => z) h.up.2.2.1 (h.1 _ (by omega)) (h.2.2.2.2.2.2.2 _ hj)⟩
/-- a key is put -/
theorem PS.put {K : List Int64} {s : qSlot} (h : PS gr K s) {k v : Int64} (hk : s.1 = 1 ∨ s.1 = 2 ∨ s.1 = 3) (hr : ¬ (1000 < (xPut s.1 false s.2.1 k v).length ∨ (16 < xAl gr (xPut s.1 false s.2.1 k v) k ∧ (s.1 = 1 ∨ s.1 = 2)))) : PS gr (k :: K) (s.1, xPut s.1 false s.2.1 k v, s.2.2) := by
  refine ⟨xPut_ok h.1 (Or.inl rfl), Nat.le_of_not_lt (not_or1 hr), h.2.2.1, fun z k2 => ?_, fun _ p hp => ?_⟩
  · show xAl gr (xPut s.1 false s.2.1 k v) k2 ≤ 16
    have h0 := h.2.2.2.1 z k2
    rw [xAl_put]
    split
    · rename_i c
      have h16 : ¬ 16 < xAl gr (xPut s.1 false s.2.1 k v) k := fun y => not_or2 hr ⟨y, z⟩
      rw [xAl_put, if_pos ⟨c.1, rfl⟩] at h16
      have e : xAl gr s.2.1 k2 = xAl gr s.2.1 k := by unfold xAl; rw [c.2]
      omega
    · omega
  · rcases xPut_mem.mp hp with e | e
    · rw [e]; exact List.mem_cons_self
    · exact List.mem_cons_of_mem _ (h.2.2.2.2 hk p e.1)
theorem PI.putk {K : List Int64} {dp : Nat → Nat} (h : PIk gr n K dp S W) {i j : Nat} (hi : i < 24) (hj : j < 28) {k v : Int64} (hk : (S j).1 = 1 ∨ (S j).1 = 2 ∨ (S j).1 = 3) (hr : ¬ (1000 < (xPut (S j).1 false (S j).2.1 k v).length ∨ (16 < xAl gr (xPut (S j).1 false (S j).2.1 k v) k ∧ ((S j).1 = 1 ∨ (S j).1 = 2)))) : PI gr (n + 1) (qU S i ((S j).1, xPut (S j).1 false (S j).2.1 k v, (S j).2.2)) W := by
  refine ⟨k :: K, dp, h.up.put hi (fun _ z => List.mem_cons_of_mem _ z) ?_ ((h.1 j hj).put hk hr) (fun z => ?_)⟩
  · rw [List.length_cons]; have := h.2.2.1; omega
  · exfalso
    have z : (S j).1 = 6 := z
    rcases hk with e | e | e <;> exact absurd (e.symm.trans z) (by decide)
theorem PI.add (h : PI gr n S W) {p0 p1 : Int32} {v : Int64} : PI gr (n + 1) (xs_add gr S p0 p1 v).2.1 W := by
  unfold xs_add
  split
  · exact h.up
  · rename_i c
    split
    · exact h.up
    · rename_i c2
      split
      · exact h.up
      · rename_i c3
        have hj := bSl_lt (not_or2 c)
        have hi := bSl_lt (not_or1 c)
        obtain ⟨K, dp, h⟩ := h
        have hs := h.1 p1.toNatClampNeg (by omega)
        by_cases k2 : (S p1.toNatClampNeg).1 = 2
        · rw [decide_eq_false (fun z => z k2)] at c3 ⊢
          exact PI.putk h hi (by omega) (Or.inr (Or.inl k2)) c3
        · rw [decide_eq_true k2] at c3 ⊢
          rcases bHo_53 hs.1.2.2 (Bool.not_eq_false _ ▸ c2) with e | e | e | e
          · exact ⟨K, dp, h.up.put hi (fun _ z => z) h.up.2.2.1 (hs.seq (by rw [e]; decide) (by have := not_or1 c3; omega) (fun z => absurd (e.symm.trans z) (by decide))) (fun z => absurd (e.symm.trans z) (by decide))⟩
          · exact ⟨K, dp, h.up.put hi (fun _ z => z) h.up.2.2.1 (hs.seq (by rw [e]; decide) (by have := not_or1 c3; omega) (fun z => absurd (e.symm.trans z) (by decide))) (fun z => absurd (e.symm.trans z) (by decide))⟩
          · exact ⟨K, dp, h.up.put hi (fun _ z => z) h.up.2.2.1 (hs.seq (by rw [e]; decide) (by have := not_or1 c3; omega) (fun z => by rw [zPut_h z]; exact xSi_up (hs.1.1 (Or.inr z)))) (fun z => absurd (e.symm.trans z) (by decide))⟩
          · exact absurd e k2
theorem PI.putc (h : PI gr n S W) {p0 p1 : Int32} {k v : Int64} : PI gr (n + 1) (xs_put gr S p0 p1 k v).2.1 W := by
  unfold xs_put
  split
  · exact h.up
  · rename_i c
    split
    · exact h.up
    · rename_i c2
      unfold xr_put
      split
      · exact h.up
      · rename_i c3
        have hj := bSl_lt (not_or2 c)
        obtain ⟨K, dp, h⟩ := h
        have hs := h.1 p1.toNatClampNeg (by omega)
        exact PI.putk h (bSl_lt (not_or1 c)) (by omega) ((bHo_10 hs.1.2.2 (Bool.not_eq_false _ ▸ c2)).elim Or.inl (fun z => Or.inr (Or.inr z))) c3
/-- a slot of the same kind with fewer elements, or others -/
theorem PI.fil (h : PI gr n S W) {i j : Nat} (hi : i < 24) (hj : j < 24) {f : Int64 × Int64 → Bool} : PI gr (n + 1) (qU S i ((S j).1, (S j).2.1.filter f, (S j).2.2)) W := by
  obtain ⟨K, dp, h⟩ := h
  exact ⟨K, dp, h.up.put hi (fun _ z => z) h.up.2.2.1 ((h.1 j (by omega)).fil) (h.2.2.2.2.2.2.2 j hj)⟩
theorem PI.seq (h : PI gr n S W) {i j : Nat} (hi : i < 24) (hj : j < 28) {L : qKV} (hk : ¬ ((S j).1 = 1 ∨ (S j).1 = 2 ∨ (S j).1 = 3)) (hl : L.length ≤ 1000) (hu : (S j).1 = 5 → qUp L) (h6 : ¬ (S j).1 = 6) : PI gr (n + 1) (qU S i ((S j).1, L, (S j).2.2)) W := by
  obtain ⟨K, dp, h⟩ := h
  exact ⟨K, dp, h.up.put hi (fun _ z => z) h.up.2.2.1 ((h.1 j hj).seq hk hl hu) (fun z => absurd z h6)⟩
theorem PI.out (h : PI gr n S W) {p0 p1 : Int32} {k : Int64} : PI gr (n + 1) (xs_out S p0 p1 k).2.1 W := by
  unfold xs_out
  split
  · exact h.up
  · rename_i c
    split
    · exact h.up
    · exact h.fil (bSl_lt (not_or1 c)) (bSl_lt (not_or2 c))
theorem k0_n {kd : Int32} (h : kd = 0) : ¬ (kd = 1 ∨ kd = 2 ∨ kd = 3) ∧ (kd = 5 → False) ∧ ¬ kd = 6 := by subst h; decide
theorem PI.set (h : PI gr n S W) {p0 p1 p2 : Int32} {v : Int64} : PI gr (n + 1) (xs_set S p0 p1 p2 v).2.1 W := by
  unfold xs_set
  split
  · exact h.up
  · rename_i c
    split
    · exact h.up
    · rename_i c2
      unfold xr_set
      split
      · exact h.up
      · have hj := bSl_lt (not_or2 c)
        obtain ⟨K, dp, h0⟩ := id h
        have hs := h0.1 p1.toNatClampNeg (by omega)
        obtain ⟨q1, q2, q3⟩ := k0_n (bHo_1 hs.1.2.2 (Bool.not_eq_false _ ▸ c2))
        exact h.seq (bSl_lt (not_or1 c)) (by omega) q1 (by rw [List.length_set]; exact hs.2.1) (fun z => (q2 z).elim) q3
theorem PI.drop (h : PI gr n S W) {p0 p1 p2 p3 : Int32} : PI gr (n + 1) (xs_drop S p0 p1 p2 p3).2.1 W := by
  unfold xs_drop
  split
  · exact h.up
  · rename_i c
    split
    · exact h.up
    · rename_i c2
      unfold xr_drop
      split
      · exact h.up
      · have hj := bSl_lt (not_or1 (not_or2 c))
        obtain ⟨K, dp, h0⟩ := id h
        have hs := h0.1 p1.toNatClampNeg (by omega)
        obtain ⟨q1, q2, q3⟩ := k0_n (bHo_1 hs.1.2.2 (Bool.not_eq_false _ ▸ c2))
        refine h.seq (bSl_lt (not_or1 c)) (by omega) q1 ?_ (fun z => (q2 z).elim) q3
        have := hs.2.1
        split
        · rw [List.length_take]; omega
        · rw [List.length_drop]; omega
theorem PI.mvs (h : PI gr n S W) {m M : Nat} (hm : oMq W.1 = nI m) (h1 : m ≤ M) (h2 : M ≤ 20000) : PI gr n S (oMv W.1 (nI M), W.2) := by
  obtain ⟨K, dp, h⟩ := h
  exact ⟨K, dp, h.mv hm h1 h2⟩
theorem PI.range (h : PI gr n S W) {p0 p1 : Int32} {a b : Int64} {m : Nat} (hm : oMq W.1 = nI m) (h9 : m ≤ 20000) : PI gr (n + 1) (xs_range S p0 p1 a b m).2.1 (oMv W.1 (nI (xs_range S p0 p1 a b m).2.2.2), W.2) := by
  unfold xs_range
  split
  · exact h.up.mvs hm (Nat.le_refl _) h9
  · rename_i c
    split
    · exact h.up.mvs hm (Nat.le_refl _) h9
    · unfold xr_range
      split
      · exact h.up.mvs hm (Nat.le_refl _) h9
      · exact (h.fil (bSl_lt (not_or1 c)) (bSl_lt (not_or2 c))).mvs hm (Nat.le_add_right _ _) (by dsimp only; omega)
theorem PI.meet (h : PI gr n S W) {p0 p1 p2 z : Int32} {m : Nat} (hm : oMq W.1 = nI m) (h9 : m ≤ 20000) : PI gr (n + 1) (xs_meet S p0 p1 p2 z m).2.1 (oMv W.1 (nI (xs_meet S p0 p1 p2 z m).2.2.2), W.2) := by
  unfold xs_meet
  split
  · exact h.up.mvs hm (Nat.le_refl _) h9
  · rename_i c
    split
    · exact h.up.mvs hm (Nat.le_refl _) h9
    · unfold xr_meet
      split
      · exact h.up.mvs hm (Nat.le_refl _) h9
      · exact (h.fil (bSl_lt (not_or1 c)) (bSl_lt (not_or1 (not_or2 c)))).mvs hm (Nat.le_add_right _ _) (by dsimp only; omega)
theorem PI.same (h : PI gr n S W) {p0 p1 : Int32} {m : Nat} (hm : oMq W.1 = nI m) (h9 : m ≤ 20000) : PI gr (n + 1) S (oMv W.1 (nI (xs_same S p0 p1 m).2.2), W.2) := by
  unfold xs_same
  split
  · exact h.up.mvs hm (Nat.le_refl _) h9
  · split
    · exact h.up.mvs hm (Nat.le_refl _) h9
    · split
      · exact h.up.mvs hm (Nat.le_refl _) h9
      · exact h.up.mvs hm (Nat.le_add_right _ _) (by dsimp only; omega)
theorem PI.bput {K : List Int64} {dp : Nat → Nat} (h : PIk gr n K dp S W) {b : Nat} (hb : b < 4) {s : qSlot} (hs : PS gr K s) (hk : s.1 = -1 ∨ s.1 = 0 ∨ s.1 = 1 ∨ s.1 = 2) : PI gr (n + 1) (qU S (24 + b) s) W := ⟨K, dp, h.up.putb hb (fun _ z => z) h.up.2.2.1 hs hk⟩
theorem PI.opn (h : PI gr n S W) {p0 p1 : Int32} : PI gr (n + 1) (xs_open S p0 p1).2 W := by
  unfold xs_open
  split
  · exact h.up
  · rename_i c
    split
    · exact h.up
    · rename_i c2
      have hj := bSl_lt (not_or2 c)
      obtain ⟨K, dp, h⟩ := h
      have hs := h.1 p1.toNatClampNeg (by omega)
      exact PI.bput h (bB3_lt (not_or1 c)) hs ((bHo_7 hs.1.2.2 (Bool.not_eq_false _ ▸ not_or1 c2)).elim (fun z => Or.inr (Or.inl z)) (fun z => z.elim (fun y => Or.inr (Or.inr (Or.inl y))) (fun y => Or.inr (Or.inr (Or.inr y)))))
theorem m1 : ¬ ((-1 : Int32) = 3 ∨ (-1 : Int32) = 5) ∧ ¬ ((-1 : Int32) = 1 ∨ (-1 : Int32) = 2 ∨ (-1 : Int32) = 3) ∧ ¬ ((-1 : Int32) = 1 ∨ (-1 : Int32) = 2) := by decide
theorem PI.freeze (h : PI gr n S W) {p0 p1 : Int32} : PI gr (n + 1) (xs_freeze S p0 p1).2.1 W := by
  unfold xs_freeze
  split
  · exact h.up
  · rename_i c
    split
    · exact h.up
    · rename_i c2
      have hb := bB3_lt (not_or1 c)
      obtain ⟨K, dp, h⟩ := h
      have hs := h.1 (24 + p0.toNatClampNeg) (by omega)
      have h1 := h.up.put (bSl_lt (not_or2 c)) (fun _ z => z) h.up.2.2.1 hs (fun z => by rcases h.2.1 _ hb with e | e | e | e <;> exact absurd (e.symm.trans z) (by decide))
      refine ⟨K, dp, h1.putb hb (fun _ z => z) h1.2.2.1 ⟨⟨fun z => absurd z m1.1, fun z => absurd z m1.2.1, by dsimp only; decide⟩, by dsimp only; rw [List.length_map]; exact hs.2.1, hs.2.2.1, fun z => absurd z m1.2.2, fun z => absurd z m1.2.1⟩ (Or.inl rfl)⟩
theorem PI.build (h : PI gr n S W) {p0 p1 : Int32} {k v : Int64} : PI gr (n + 1) (xs_build gr S p0 p1 k v).2.1 W := by
  unfold xs_build
  split
  · exact h.up
  · rename_i c
    split
    · exact h.up
    · rename_i c2
      have hb := bB3_lt (not_or1 c)
      obtain ⟨K, dp, h0⟩ := id h
      have hs := h0.1 (24 + p0.toNatClampNeg) (by omega)
      split
      · rename_i c3
        obtain ⟨q1, q2, q3⟩ := k0_n c3
        have hl := hs.2.1
        unfold xr_buildS
        split
        · split
          · exact PI.bput h0 hb (hs.seq q1 (by rw [List.length_set]; exact hl) (fun z => (q2 z).elim)) (Or.inr (Or.inl c3))
          · exact h.up
        · split
          · split
            · exact PI.bput h0 hb (hs.seq q1 (by rw [List.length_take]; omega) (fun z => (q2 z).elim)) (Or.inr (Or.inl c3))
            · exact h.up
          · split
            · exact PI.bput h0 hb (hs.seq q1 (by rw [List.length_append]; show _ + 1 ≤ 1000; omega) (fun z => (q2 z).elim)) (Or.inr (Or.inl c3))
            · exact h.up
      · rename_i c3
        have hk : (S (24 + p0.toNatClampNeg)).1 = 1 ∨ (S (24 + p0.toNatClampNeg)).1 = 2 := by
          rcases h0.2.1 _ hb with e | e | e | e
          · rw [e] at c2; exact absurd (by decide) c2
          · exact absurd e c3
          · exact Or.inl e
          · exact Or.inr e
        unfold xr_buildH
        split
        · exact h.up
        · split
          · split
            · rename_i c5
              refine ⟨k :: K, dp, h0.up.putb hb (fun _ z => List.mem_cons_of_mem _ z) (by rw [List.length_cons]; have := h0.2.2.1; omega) (hs.put (hk.elim Or.inl (fun z => Or.inr (Or.inl z))) ?_) (hk.elim (fun y => Or.inr (Or.inr (Or.inl y))) (fun y => Or.inr (Or.inr (Or.inr y))))⟩
              refine (zroom hk hs.2.1 (hs.2.2.2.1 hk)).mp (c5.imp id (fun z => ⟨by omega, by omega⟩))
            · exact h.up
          · exact PI.bput h0 hb hs.fil (hk.elim (fun y => Or.inr (Or.inr (Or.inl y))) (fun y => Or.inr (Or.inr (Or.inr y))))
end PIO
section PIT
variable {gr : Int32} {n : Nat} {S : Nat → qSlot} {W : qWo} {K : List Int64} {dp : Nat → Nat}
abbrev xF (S : Nat → qSlot) : qWo → Nat → Nat × qWo := xForce (xRs S) 101
theorem PIk.G (h : PIk gr n K dp S W) : qFg (n + 2) (S 999).2.2.1 (xF S) 101 := xForce_stp h.2.2.2.2.1 101
theorem PIk.W0 (h : PIk gr n K dp S W) : PIk gr n K dp S (oFa (oCd W.1 0) 0, W.2) := h.obj rfl rfl
theorem PIk.st (h : PIk gr n K dp S W) {j : Nat} (hj : j < 24) (h6 : (S j).1 = 6) : (S j).2.2.1 < W.2.1.1 ∧ dp (S j).2.2.1 ≤ (S j).2.2.2 ∧ (S j).2.2.2 ≤ 100 := ⟨(h.2.2.2.2.2.2.2 j hj h6).1, (h.2.2.2.2.2.2.2 j hj h6).2, (h.1 j (by omega)).2.2.1⟩
/-- a stream slot with another stream -/
theorem PIk.puts (h : PIk gr n K dp S W) {i j : Nat} (hi : i < 24) (hj : j < 28) {L : qKV} {a d : Nat} (hk : (S j).1 = 6) (hL : L.length ≤ 1000) (hd : d ≤ 100) (ha : a < W.2.1.1 ∧ dp a ≤ d) : PIk gr n K dp (qU S i ((S j).1, L, a, d)) W := h.put hi (fun _ z => z) h.2.2.1 ⟨⟨fun z => by rw [hk] at z; exact absurd z (by decide), fun z => by rw [hk] at z; exact absurd z (by decide), (h.1 j hj).1.2.2⟩, hL, hd, fun z => by rw [hk] at z; exact absurd z (by decide), fun z => by rw [hk] at z; exact absurd z (by decide)⟩ (fun _ => ha)
theorem oS0 {o : qYf} : ∃ a b c, oFa o 0 = oFa (oMv (oCa o a) b) c := ⟨oCq o, oMq o, 0, rfl⟩
theorem PI.at (h : PI gr n S W) {p0 p1 : Int32} : PI gr (n + 1) S (xs_at (xF S) S W p0 p1).2.2 := by
  unfold xs_at
  split
  · exact h.up
  · rename_i c
    split
    · exact h.up
    · split
      · rename_i c3
        obtain ⟨K, dp, h⟩ := h
        have hs := h.st (bSl_lt (not_or1 c)) c3
        have st := xWalk_stp (dc := 100) h.G (by decide) p1.toNatClampNeg _ dp _ h.W0.2.2.2.2.2.1 rfl ⟨hs.1, by omega⟩
        obtain ⟨dp', h', -⟩ := h.W0.step st.less
        exact ⟨K, dp', h'⟩
      · split <;> exact h.up
theorem qUp_erase {L : qKV} {i : Nat} (h : qUp L) : qUp (L.eraseIdx i) := h.sublist (List.eraseIdx_sublist ..)
theorem PI.pop (h : PI gr n S W) {p0 p1 : Int32} : PI gr (n + 1) (xs_pop (xF S) S W p0 p1).2.2.1 (xs_pop (xF S) S W p0 p1).2.2.2 := by
  unfold xs_pop
  split
  · exact h.up
  · rename_i c
    split
    · exact h.up
    · rename_i c2
      have hj := bSl_lt (not_or2 c)
      have hi := bSl_lt (not_or1 c)
      unfold xr_pop
      split
      · rename_i c3
        split
        · exact h.up
        · obtain ⟨K, dp, h⟩ := h
          have hs := h.st hj c3
          have st := h.G 1 dp _ (S p1.toNatClampNeg).2.2.1 h.W0.2.2.2.2.2.1 rfl hs.1 (by omega)
          obtain ⟨dp', h', -, h3⟩ := h.W0.step st.less
          split
          · exact ⟨K, dp', h'⟩
          · rename_i c5
            have h3 := h3 (Decidable.not_not.mp c5)
            exact ⟨K, dp', h'.puts hi (by omega) c3 (h.1 _ (by omega)).2.1 hs.2.2 ⟨h3.1, by omega⟩⟩
      · rename_i c3
        split
        · exact h.up
        · obtain ⟨K, dp, h0⟩ := id h
          have hs := h0.1 p1.toNatClampNeg (by omega)
          refine h.seq hi (by omega) ?_ (Nat.le_trans (List.Sublist.length_le (List.eraseIdx_sublist ..)) hs.2.1) (fun z => qUp_erase (hs.1.1 (Or.inr z))) c3
          rcases bHo_113 hs.1.2.2 (Bool.not_eq_false _ ▸ c2) with e | e | e | e <;> rw [e] <;> decide
theorem PI.push (h : PI gr n S W) {p0 p1 : Int32} {v : Int64} : PI gr (n + 1) (xs_push S W p0 p1 v).2.1 (xs_push S W p0 p1 v).2.2 := by
  unfold xs_push
  split
  · exact h.up
  · rename_i c
    split
    · exact h.up
    · rename_i c2
      have hj := bSl_lt (not_or2 c)
      have hi := bSl_lt (not_or1 c)
      split
      · rename_i c3
        obtain ⟨K, dp, h⟩ := h
        have hs := h.st hj c3
        have st := h.2.2.2.2.2.1.pushR (dc := (S p1.toNatClampNeg).2.2.2) (o' := oFa W.1 0) (x := v) (s := (S p1.toNatClampNeg).2.2.1) rfl ⟨hs.1, hs.2.1⟩ oS0
        obtain ⟨dp', h', -, h3⟩ := h.step st
        have := (h'.obj (o' := W.1) rfl rfl).puts (L := (S p1.toNatClampNeg).2.1) (a := W.2.1.1) hi (show p1.toNatClampNeg < 28 by omega) c3 (h.1 _ (by omega)).2.1 hs.2.2 (h3 rfl)
        rw [c3] at this
        exact ⟨K, dp', this⟩
      · rename_i c3
        split
        · exact h.up
        · obtain ⟨K, dp, h0⟩ := id h
          have hs := h0.1 p1.toNatClampNeg (by omega)
          have e := bHo_65 hs.1.2.2 (Bool.not_eq_false _ ▸ c2) c3
          obtain ⟨q1, q2, q3⟩ := k0_n e
          exact h.seq hi (by omega) q1 (by rw [List.length_cons]; omega) (fun z => (q2 z).elim) q3
theorem PI.iterate (h : PI gr n S W) {p0 p2 : Int32} {p1 p3 : Int64} : PI gr (n + 1) (xs_iterate S W p0 p1 p2 p3).2.1 (xs_iterate S W p0 p1 p2 p3).2.2 := by
  unfold xs_iterate
  split
  · exact h.up
  · rename_i c
    obtain ⟨K, dp, h⟩ := h
    have c6 : p2.toNatClampNeg ≤ 6 := Nat.le_of_not_lt (not_or2 (not_or2 c))
    have st := h.2.2.2.2.2.1.pushC (dc := 0) (o' := oFa W.1 0) (x := p1) (c0 := p3) (x0 := p1) (kd := 1) (s := 0) (t := p2.toNatClampNeg) rfl ⟨by omega, fun z => by omega, fun _ => c6, fun z => by omega, fun z => by omega, fun z => by omega, fun z => by omega, fun z => by omega, fun z => by omega⟩ oS0
    obtain ⟨dp', h', -, h3⟩ := h.step st
    have h3 := h3 rfl
    exact ⟨K, dp', (h'.obj (o' := W.1) rfl rfl).put (bSl_lt (not_or1 c)) (fun _ z => z) h'.2.2.1 (PS.mk0 (by decide)) (fun _ => h3)⟩
theorem clampN_lt (p : Int32) : p.toNatClampNeg < 2147483648 := by
  have := Int32.toInt_lt p
  unfold Int32.toNatClampNeg
  omega
theorem PI.take (h : PI gr n S W) {p0 p1 p2 : Int32} : PI gr (n + 1) (xs_take S W p0 p1 p2).2.1 (xs_take S W p0 p1 p2).2.2 := by
  unfold xs_take
  split
  · exact h.up
  · rename_i c
    split
    · exact h.up
    · rename_i c2
      split
      · exact h.up
      · rename_i c3
        have c3 := Decidable.not_not.mp c3
        have hj := bSl_lt (not_or1 (not_or2 c))
        have hi := bSl_lt (not_or1 c)
        obtain ⟨K, dp, h⟩ := h
        have k6 := bHo_64 (h.1 p1.toNatClampNeg (by omega)).1.2.2 (Bool.not_eq_false _ ▸ c2)
        have hs := h.st hj k6
        have hl := (h.1 p1.toNatClampNeg (by omega)).2.1
        have hz : dp 0 = 0 := h.2.2.2.2.2.1.z
        have hrr : W.2.1.2.2.2 (S p1.toNatClampNeg).2.2.1 = (S p1.toNatClampNeg).2.2.1 := h.2.2.2.2.2.1.r _ hs.1
        unfold xTak
        split
        · exact ⟨K, dp, h.up.puts hi (by omega) k6 hl (by omega) ⟨h.2.2.2.2.2.1.p.1, by show dp 0 ≤ _; omega⟩⟩
        · rename_i c4
          split
          · have st := h.2.2.2.2.2.1.pushR (dc := 0) (o' := oFa W.1 0) (x := W.2.1.2.2.1 (S p1.toNatClampNeg).2.2.1) (s := 0) rfl ⟨h.2.2.2.2.2.1.p.1, by omega⟩ oS0
            obtain ⟨dp', h', -, h3⟩ := h.step st
            have h3 := h3 rfl
            exact ⟨K, dp', (h'.obj (o' := W.1) rfl rfl).puts hi (by omega) k6 hl (by omega) ⟨h3.1, Nat.le_trans h3.2 (Nat.zero_le _)⟩⟩
          · have st := h.2.2.2.2.2.1.pushC (dc := dp (S p1.toNatClampNeg).2.2.1 + 1) (o' := oFa W.1 0) (x := W.2.1.2.2.1 (S p1.toNatClampNeg).2.2.1) (c0 := 0) (x0 := 0) (kd := 5) (s := (S p1.toNatClampNeg).2.2.1) (t := p2.toNatClampNeg - 1) rfl ⟨by omega, fun z => by omega, fun z => by omega, fun z => by omega, fun _ => ⟨hs.1, by omega⟩, fun z => by omega, fun z => by omega, fun _ => by have := clampN_lt p2; omega, fun z => by omega⟩ oS0
            obtain ⟨dp', h', -, h3⟩ := h.step st
            have h3 := h3 rfl
            rw [hrr]
            exact ⟨K, dp', (h'.obj (o' := W.1) rfl rfl).puts hi (by omega) k6 hl (by omega) ⟨h3.1, Nat.le_trans h3.2 (by omega)⟩⟩
theorem PI.map (h : PI gr n S W) {p0 p1 p2 : Int32} {c0 : Int64} : PI gr (n + 1) (xs_map S W p0 p1 p2 c0).2.1 (xs_map S W p0 p1 p2 c0).2.2 := by
  unfold xs_map
  split
  · exact h.up
  · rename_i c
    split
    · exact h.up
    · rename_i c2
      have hj := bSl_lt (not_or1 (not_or2 c))
      have hi := bSl_lt (not_or1 c)
      have c6 : p2.toNatClampNeg ≤ 6 := Nat.le_of_not_lt (not_or2 (not_or2 (not_or2 c)))
      obtain ⟨K, dp, h⟩ := h
      have hp := h.1 p1.toNatClampNeg (by omega)
      unfold xr_map
      split
      · rename_i c3
        have hs := h.st hj c3
        have st := xMap_stp (c := c0) (dc := (S p1.toNatClampNeg).2.2.2 + 1) h.W0.2.2.2.2.2.1 c6 (s := (S p1.toNatClampNeg).2.2.1) ⟨hs.1, by omega⟩
        obtain ⟨dp', h', -, h3⟩ := h.W0.step st
        split
        · exact ⟨K, dp', h'⟩
        · rename_i c4
          split
          · exact ⟨K, dp', h'⟩
          · have hf : oFq (xMap (oFa (oCd W.1 0) 0) W.2.1 W.2.2 (S p1.toNatClampNeg).2.2.1 p2.toNatClampNeg c0).2.1 = 0 := by
              revert c4
              unfold xMap
              split
              · intro _; rfl
              · split
                · intro z; exact absurd rfl z
                · intro _; rfl
            exact ⟨K, dp', h'.puts hi (by omega) c3 hp.2.1 (by omega) (h3 hf)⟩
      · rename_i c3
        split
        · exact ⟨K, dp, h.up.obj rfl rfl⟩
        · split
          · exact ⟨K, dp, h.up.obj rfl rfl⟩
          · rename_i c5
            obtain ⟨m, hm, hm9, -⟩ := h.2.2.2.2.2.1.m
            rw [hm, nI_clamp (by omega)] at c5
            have e := bHo_65 hp.1.2.2 (Bool.not_eq_false _ ▸ c2) c3
            obtain ⟨q1, q2, q3⟩ := k0_n e
            rw [hm, nI_add]
            have h1 := h.up.put hi (fun _ z => z) h.up.2.2.1 (hp.seq (L := xMpL p2.toNatClampNeg c0 (S p1.toNatClampNeg).2.1) q1 (by unfold xMpL; rw [List.length_map]; exact hp.2.1) (fun z => (q2 z).elim)) (fun z => absurd z q3)
            exact ⟨K, dp, (h1.mv hm (M := m + List.length (S p1.toNatClampNeg).2.1) (Nat.le_add_right _ _) (by omega)).obj rfl rfl⟩
theorem PI.filter (h : PI gr n S W) {p0 p1 p2 : Int32} {c0 : Int64} : PI gr (n + 1) (xs_filter (xF S) S W p0 p1 p2 c0).2.1 (xs_filter (xF S) S W p0 p1 p2 c0).2.2 := by
  unfold xs_filter
  split
  · exact h.up
  · rename_i c
    split
    · exact h.up
    · rename_i c2
      have hj := bSl_lt (not_or1 (not_or2 c))
      have hi := bSl_lt (not_or1 c)
      have c6 : p2.toNatClampNeg ≤ 4 := Nat.le_of_not_lt (not_or2 (not_or2 (not_or2 c)))
      obtain ⟨K, dp, h⟩ := h
      have hp := h.1 p1.toNatClampNeg (by omega)
      unfold xr_filter
      split
      · rename_i c3
        have hs := h.st hj c3
        have st := xFilt_stp (sl := 0) (dc := (S p1.toNatClampNeg).2.2.2 + 1) h.G (w := p2.toNatClampNeg) (c := c0) c6 1000 (S p1.toNatClampNeg).2.2.1 dp _ h.W0.2.2.2.2.2.1 rfl ⟨hs.1, by omega, by omega⟩
        generalize xFilt (xF S) p2.toNatClampNeg c0 1000 (oFa (oCd W.1 0) 0, W.2) (S p1.toNatClampNeg).2.2.1 = r at st ⊢
        obtain ⟨dp', h', -, h3⟩ := h.W0.step st
        split
        · exact ⟨K, dp', h'⟩
        · split
          · exact ⟨K, dp', h'⟩
          · rename_i c5
            exact ⟨K, dp', h'.puts hi (by omega) c3 hp.2.1 (by have := not_or2 c5; omega) (h3 (Decidable.not_not.mp (not_or1 c5)))⟩
      · rename_i c3
        split
        · exact ⟨K, dp, h.up.obj rfl rfl⟩
        · split
          · exact ⟨K, dp, h.up.obj rfl rfl⟩
          · rename_i c5
            obtain ⟨m, hm, hm9, -⟩ := h.2.2.2.2.2.1.m
            rw [hm, nI_clamp (by omega)] at c5
            rw [hm, nI_add]
            have h1 := h.up.put hi (fun _ z => z) h.up.2.2.1 (hp.fil (f := fun p => decide (xTs p2.toNatClampNeg c0 p.1 = some true))) (fun z => absurd z c3)
            exact ⟨K, dp, (h1.mv hm (M := m + List.length (S p1.toNatClampNeg).2.1) (Nat.le_add_right _ _) (by omega)).obj rfl rfl⟩
theorem xLst_len {F : qWo → Nat → Nat × qWo} : ∀ (t s : Nat) (W : qWo), (xLst F t W s).1.length ≤ t
  | 0, s, W => Nat.le_refl _
  | t + 1, s, W => by
    unfold xLst
    split
    · exact Nat.zero_le _
    · split
      · exact Nat.succ_le_succ (Nat.zero_le _)
      · split
        · exact Nat.succ_le_succ (Nat.zero_le _)
        · exact Nat.succ_le_succ (xLst_len t _ _)
theorem PI.list (h : PI gr n S W) {p0 p1 p2 : Int32} : PI gr (n + 1) (xs_list (xF S) S W p0 p1 p2).2.2.1 (xs_list (xF S) S W p0 p1 p2).2.2.2 := by
  unfold xs_list
  split
  · exact h.up
  · rename_i c
    split
    · exact h.up
    · rename_i c2
      have hj := bSl_lt (not_or1 (not_or2 c))
      have hi := bSl_lt (not_or1 c)
      have c6 : p2.toNatClampNeg ≤ 1000 := Nat.le_of_not_lt (not_or2 (not_or2 (not_or2 c)))
      obtain ⟨K, dp, h⟩ := h
      have hp := h.1 p1.toNatClampNeg (by omega)
      have k6 := bHo_64 hp.1.2.2 (Bool.not_eq_false _ ▸ c2)
      have hs := h.st hj k6
      have st := xLst_stp (dc := 100) h.G (by decide) p2.toNatClampNeg (S p1.toNatClampNeg).2.2.1 dp _ h.W0.2.2.2.2.2.1 rfl ⟨hs.1, by omega⟩
      have hl := xLst_len (F := xF S) p2.toNatClampNeg (S p1.toNatClampNeg).2.2.1 (oFa (oCd W.1 0) 0, W.2)
      generalize xLst (xF S) p2.toNatClampNeg (oFa (oCd W.1 0) 0, W.2) (S p1.toNatClampNeg).2.2.1 = r at st hl ⊢
      obtain ⟨dp', h', -, -⟩ := h.W0.step st.less
      unfold xLfin
      split
      · exact ⟨K, dp', h'⟩
      · split
        · exact ⟨K, dp', h'⟩
        · rename_i c5
          obtain ⟨m, hm, hm9, -⟩ := h'.2.2.2.2.2.1.m
          have hm : oMq r.2.1 = nI m := hm
          have c5 := not_or2 c5
          rw [hm, nI_clamp (by omega)] at c5
          rw [hm, nI_add]
          have h1 := h'.put (s := (0, r.1.map (fun v => (v, 0)), 0, 0)) hi (fun _ z => z) h'.2.2.1 ⟨⟨fun z => absurd z (by dsimp only; decide), fun z => absurd z (by dsimp only; decide), by dsimp only; decide⟩, by dsimp only; rw [List.length_map]; omega, Nat.zero_le _, fun z => absurd z (by dsimp only; decide), fun z => absurd z (by dsimp only; decide)⟩ (fun z => absurd z (by dsimp only; decide))
          exact ⟨K, dp', h1.mv hm (M := m + p2.toNatClampNeg) (Nat.le_add_right _ _) (by omega)⟩
end PIT
section PIU
variable {gr : Int32} {n : Nat} {S : Nat → qSlot} {W : qWo} {K : List Int64} {dp : Nat → Nat}
/-- a row of numbers more, or not -/
theorem PIk.rowz (h : PIk gr n K dp S W) {S1 : Nat → qSlot} {j : Nat} (hj : j < 28) (e : S1 = S ∨ S1 = xTl S j) : (∀ i, i < 28 → S1 i = S i) ∧ (S1 999).2.2.1 ≤ n + 1 ∧ (∀ r, r < (S1 999).2.2.1 → (xRs S1 r).length ≤ 1000) ∧ qWv (n + 2) 1 (S1 999).2.2.1 dp W := by
  obtain ⟨a1, a2, a3, a4, a5, a6, a7, a8⟩ := h
  rcases e with rfl | rfl
  · exact ⟨fun _ _ => rfl, by omega, a5, a6⟩
  · refine ⟨fun i hi => xTl_lo (by omega), by rw [xTl_n]; omega, fun r hr => ?_, by rw [xTl_n]; exact a6.rows⟩
    rw [xTl_n] at hr
    by_cases c : r = (S 999).2.2.1
    · unfold xRs
      rw [c, xTl_new, List.length_map]
      exact (a1 j hj).2.1
    · have := a5 r (by omega)
      unfold xRs at this ⊢
      rw [show xTl S j (1000 + r) = S (1000 + r) by unfold xTl; rw [qU_ne (by omega), qU_ne (by omega)]]
      exact this
theorem xTuL_len {gr kd : Int32} {L : qKV} (h : L.length ≤ 1000) : (xTuL gr kd L).length ≤ 1000 := by
  unfold xTuL
  split
  · rw [List.length_map]; exact h
  · split <;> (rw [List.length_map, thT_len]; exact h)
theorem PI.turn (h : PI gr n S W) {p0 p1 : Int32} {S1 : Nat → qSlot} {rr : Nat} (ht : xTok S p0 p1 S1 rr) : PI gr (n + 1) (xs_turn S S1 rr W p0 p1).2.1 (xs_turn S S1 rr W p0 p1).2.2 := by
  unfold xs_turn
  split
  · exact h.up
  · rename_i c
    split
    · exact h.up
    · rename_i c2
      have hj := bSl_lt (not_or2 c)
      have hi := bSl_lt (not_or1 c)
      obtain ⟨K, dp, h⟩ := h
      unfold xr_turn
      split
      · rename_i c3
        have hq : xTq S p0 p1 = true := by
          unfold xTq
          have b0 : bSl p0 = true := Bool.not_eq_false _ ▸ not_or1 c
          have b1 : bSl p1 = true := Bool.not_eq_false _ ▸ not_or2 c
          rw [decide_eq_true c3, b0, b1]; rfl
        unfold xTok at ht
        rw [if_pos hq] at ht
        obtain ⟨t1, t2, t3⟩ := ht
        obtain ⟨r1, r2, r3, r4⟩ := h.rowz (j := p1.toNatClampNeg) (by omega) t1
        have base : ∀ {dp' : Nat → Nat} {W' : qWo}, qWv (n + 3) 1 (S1 999).2.2.1 dp' W' → W'.1.2.2.2.2.2.2.1 = gr → (∀ i, i < 24 → (S i).1 = 6 → (S i).2.2.1 < W'.2.1.1 ∧ dp' (S i).2.2.1 ≤ (S i).2.2.2) → PIk gr (n + 1) K dp' S1 W' := fun {dp' W'} g1 g2 g3 => ⟨fun i hi => by rw [r1 i hi]; exact h.1 i hi, fun b hb => by rw [r1 _ (by omega)]; exact h.2.1 b hb, by have := h.2.2.1; omega, r2, r3, g1, g2, fun i hi z => by rw [r1 i (by omega)] at z ⊢; exact g3 i hi z⟩
        unfold xRow
        split
        · exact ⟨K, dp, (base r4.wide h.2.2.2.2.2.2.1 h.2.2.2.2.2.2.2).put hi (fun _ z => z) (by have := h.2.2.1; omega) (PS.mk0 (by decide)) (fun _ => ⟨r4.p.1, by show dp 0 ≤ 0; rw [r4.z]; exact Nat.le_refl _⟩)⟩
        · have st := r4.pushC (dc := 0) (o' := oFa W.1 0) (x := (xRs S1 rr).getD 0 0) (c0 := 0) (x0 := 0) (kd := 2) (s := rr) (t := 0 + 1) rfl ⟨by omega, fun z => by omega, fun z => by omega, fun _ => ⟨t2, by omega⟩, fun z => by omega, fun z => by omega, fun z => by omega, fun z => by omega, fun z => by omega⟩ oS0
          obtain ⟨dp', s1, s2, s3, s4, s5, -, s7⟩ := st
          have s5 := s5 rfl
          have b := base s2.more h.2.2.2.2.2.2.1 (fun i hi z => by
            obtain ⟨b1, b2⟩ := h.2.2.2.2.2.2.2 i hi z
            exact ⟨Nat.lt_of_lt_of_le b1 s3, by rw [s1 _ b1]; exact b2⟩)
          exact ⟨K, dp', (b.obj (o' := W.1) rfl rfl).put hi (fun _ z => z) b.2.2.1 (PS.mk0 (by decide)) (fun _ => s5)⟩
      · rename_i c3
        split
        · exact ⟨K, dp, h.up⟩
        · rename_i c5
          obtain ⟨m, hm, hm9, -⟩ := h.2.2.2.2.2.1.m
          rw [hm, nI_clamp (by omega)] at c5
          rw [hm, nI_add]
          have hl := (h.1 p1.toNatClampNeg (by omega)).2.1
          have h1 := h.up.put (s := (0, xTuL W.1.2.2.2.2.2.2.1 (S p1.toNatClampNeg).1 (S p1.toNatClampNeg).2.1, 0, 0)) hi (fun _ z => z) h.up.2.2.1 ⟨⟨fun z => absurd z (by dsimp only; decide), fun z => absurd z (by dsimp only; decide), by dsimp only; decide⟩, xTuL_len hl, Nat.zero_le _, fun z => absurd z (by dsimp only; decide), fun z => absurd z (by dsimp only; decide)⟩ (fun z => absurd z (by dsimp only; decide))
          exact ⟨K, dp, h1.mv hm (M := m + List.length (S p1.toNatClampNeg).2.1) (Nat.le_add_right _ _) (by omega)⟩
theorem xAl_hash {gr : Int32} {L : qKV} {a b : Int64} (e : qHsh gr a = qHsh gr b) : xAl gr L a = xAl gr L b := by unfold xAl; rw [e]
theorem PS.join {s t : qSlot} (h1 : PS gr K s) (h2 : PS gr K t) (ht : t.1 = s.1) (hk6 : ¬ s.1 = 6) (hr : ¬ 1000 < xJc (xEa s.1) s.2.1 t.2.1) (ha : ¬ t.2.1.any (fun p => decide (16 < xAl gr (xJn s.1 (xEa s.1) s.2.1 t.2.1) p.1 ∧ (s.1 = 1 ∨ s.1 = 2))) = true) : PS gr K (s.1, xJn s.1 (xEa s.1) s.2.1 t.2.1, s.2.2) := by
  have ok := xJn_ok (kd := s.1) (e := xEa s.1) xEa_or t.2.1 s.2.1 h1.1
  have key : (s.1 = 1 ∨ s.1 = 2 ∨ s.1 = 3) → xEa s.1 = false ∧ qNo t.2.1 := fun z => ⟨by rcases z with e | e | e <;> rw [e] <;> rfl, h2.1.2.1 (by rw [ht]; exact z)⟩
  refine ⟨ok, ?_, h1.2.2.1, fun z k => ?_, fun z p hp => ?_⟩
  · have e := xJn_le (kd := s.1) (e := xEa s.1) (L0 := s.2.1) t.2.1 s.2.1 (fun _ z => z)
    exact Nat.le_trans e (Nat.le_of_not_lt hr)
  · show xAl gr (xJn s.1 (xEa s.1) s.2.1 t.2.1) k ≤ 16
    obtain ⟨q1, q2⟩ := key (z.elim Or.inl (fun y => Or.inr (Or.inl y)))
    rw [q1] at ha ⊢
    by_cases c : ∃ p ∈ t.2.1, qHsh gr p.1 = qHsh gr k
    · obtain ⟨p, hp, e⟩ := c
      rw [← xAl_hash e]
      refine Nat.le_of_not_lt (fun y => ha (List.any_eq_true.mpr ⟨p, hp, decide_eq_true ⟨y, z⟩⟩))
    · rw [xAl_jn _ _ q2, List.length_eq_zero_iff.mpr (List.filter_eq_nil_iff.mpr (fun p hp y => c ⟨p, hp, by rw [Bool.and_eq_true, decide_eq_true_iff] at y; exact y.2⟩)), Nat.add_zero]
      exact h1.2.2.2.1 z k
  · obtain ⟨q1, q2⟩ := key z
    have hp : p ∈ xJn s.1 (xEa s.1) s.2.1 t.2.1 := hp
    rw [q1] at hp
    rcases (xJn_mem _ _ q2).mp hp with y | y
    · exact h2.2.2.2.2 (by rw [ht]; exact z) p y
    · exact h1.2.2.2.2 z p y.1
theorem PI.join (h : PI gr n S W) {p0 p1 p2 : Int32} : PI gr (n + 1) (xs_join S W p0 p1 p2).2.2.1 (xs_join S W p0 p1 p2).2.2.2 := by
  unfold xs_join
  split
  · exact h.up
  · rename_i c
    split
    · exact h.up
    · rename_i c2
      have hj := bSl_lt (not_or1 (not_or2 c))
      have hu := bSl_lt (not_or2 (not_or2 c))
      have hi := bSl_lt (not_or1 c)
      have ek : (S p1.toNatClampNeg).1 = (S p2.toNatClampNeg).1 := Decidable.not_not.mp (not_or2 c2)
      obtain ⟨K, dp, h⟩ := h
      have hp := h.1 p1.toNatClampNeg (by omega)
      have hq := h.1 p2.toNatClampNeg (by omega)
      unfold xr_join
      split
      · rename_i c3
        split
        · exact ⟨K, dp, h.up⟩
        · rename_i c4
          have hs := h.st hj c3
          have ht := h.st hu (ek.symm.trans c3)
          have hz : dp 0 = 0 := h.2.2.2.2.2.1.z
          have hrr : W.2.1.2.2.2 (S p1.toNatClampNeg).2.2.1 = (S p1.toNatClampNeg).2.2.1 := h.2.2.2.2.2.1.r _ hs.1
          unfold xJoin
          split
          · exact ⟨K, dp, h.up.puts hi (by omega) c3 hp.2.1 (by omega) ⟨ht.1, by show dp (S p2.toNatClampNeg).2.2.1 ≤ _; omega⟩⟩
          · have st := h.2.2.2.2.2.1.pushC (dc := 1 + max (S p1.toNatClampNeg).2.2.2 (S p2.toNatClampNeg).2.2.2) (o' := oFa W.1 0) (x := W.2.1.2.2.1 (S p1.toNatClampNeg).2.2.1) (c0 := 0) (x0 := 0) (kd := 6) (s := (S p1.toNatClampNeg).2.2.1) (t := (S p2.toNatClampNeg).2.2.1) rfl ⟨by omega, fun z => by omega, fun z => by omega, fun z => by omega, fun _ => ⟨hs.1, by omega⟩, fun z => by omega, fun z => by omega, fun z => by omega, fun _ => ⟨ht.1, by omega⟩⟩ oS0
            obtain ⟨dp', h', -, h3⟩ := h.step st
            rw [hrr]
            exact ⟨K, dp', (h'.obj (o' := W.1) rfl rfl).puts hi (by omega) c3 hp.2.1 (by omega) (h3 rfl)⟩
      · rename_i c3
        split
        · exact ⟨K, dp, h.up⟩
        · rename_i c4
          split
          · exact ⟨K, dp, h.up⟩
          · rename_i c5
            obtain ⟨m, hm, hm9, -⟩ := h.2.2.2.2.2.1.m
            have c6 := not_or2 c4
            rw [hm, nI_clamp (by omega)] at c6
            have eg : W.1.2.2.2.2.2.2.1 = gr := h.2.2.2.2.2.2.1
            rw [eg] at c5
            rw [hm, nI_add]
            have h1 := h.up.put hi (fun _ z => z) h.up.2.2.1 (hp.join hq ek.symm c3 (not_or1 c4) c5) (fun z => absurd z c3)
            exact ⟨K, dp, h1.mv hm (M := m + xCo (S p1.toNatClampNeg).1 (List.length (S p1.toNatClampNeg).2.1) (List.length (S p2.toNatClampNeg).2.1)) (Nat.le_add_right _ _) (by omega)⟩
end PIU
