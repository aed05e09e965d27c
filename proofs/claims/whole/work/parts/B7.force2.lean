section QWV2
variable {Bd sl Rn d dc : Nat} {dp : Nat → Nat} {W : qWo} {R : Nat → List Int64} {F : qWo → Nat → Nat × qWo}
/-- F is a sound force, for cells less deep than d -/
def qFg (Bd Rn : Nat) (F : qWo → Nat → Nat × qWo) (d : Nat) : Prop := ∀ sl dp W c, qWv Bd sl Rn dp W → oFq W.1 = 0 → c < W.2.1.1 → dp c < d → qStp Bd sl Rn dp W (F W c) (dp c)
theorem qStp.less {r : Nat × qWo} (s : qStp Bd (sl + 1) Rn dp W r dc) : qStp Bd sl Rn dp W r dc := by
  obtain ⟨dp1, s1, s2, s3⟩ := s
  exact ⟨dp1, s1, s2.less, s3⟩
theorem qStp.bad {r : Nat × qWo} {d2 : Nat} (s : qStp Bd sl Rn dp W r dc) (h : ¬ oFq r.2.1 = 0) : qStp Bd sl Rn dp W (0, r.2) d2 := by
  obtain ⟨dp1, s1, s2, s3, s4, s5, s6⟩ := s
  exact ⟨dp1, s1, s2, s3, s4, fun z => absurd z h, s6⟩
theorem qWv.at (i : qWv Bd sl Rn dp W) {s : Nat} (hs : s < W.2.1.1 ∧ dp s ≤ dc) : qStp Bd sl Rn dp W (s, W) dc :=
  ⟨dp, fun _ _ => rfl, i, Nat.le_refl _, Nat.le_refl _, fun _ => hs, oSame, fun _ _ => rfl⟩
theorem oS1 {o : qYf} {x f : Int32} : ∃ a b c, oFa (oCa o x) f = oFa (oMv (oCa o a) b) c := ⟨x, oMq o, f, rfl⟩
theorem oS2 {o : qYf} {x : Int32} : ∃ a b c, oCa o x = oFa (oMv (oCa o a) b) c := ⟨x, oMq o, oFq o, rfl⟩
theorem oS3 {o : qYf} {f : Int32} : ∃ a b c, oFa o f = oFa (oMv (oCa o a) b) c := ⟨oCq o, oMq o, f, rfl⟩
theorem xRow_stp (i : qWv Bd (sl + 1) Rn dp W) {row j : Nat} (hr : row < Rn) (hR : ∀ q, q < Rn → (R q).length ≤ 1000) : qStp Bd sl Rn dp W (xRow R W row j) dc := by
  unfold xRow
  by_cases c : (R row).length ≤ j
  · rw [if_pos c]; exact i.less.at ⟨i.p.1, by rw [i.z]; omega⟩
  · rw [if_neg c]
    have := hR row hr
    exact i.pushC rfl ⟨by omega, fun z => by omega, fun z => by omega, fun _ => ⟨hr, by omega⟩, fun z => by omega, fun z => by omega, fun z => by omega, fun z => by omega, fun z => by omega⟩ oSame
theorem xIter_stp (i : qWv Bd (sl + 1) Rn dp W) {n : Nat} {c x : Int64} (hn : n ≤ 6) : qStp Bd sl Rn dp W (xIter W n c x) dc := by
  unfold xIter
  by_cases q : xFn n c x = none
  · rw [if_pos q]; exact i.less.stay (o' := oFa (oCa W.1 (oCq W.1 + nI 1)) 1) rfl oS1
  · rw [if_neg q]
    exact i.pushC (o' := oCa W.1 (oCq W.1 + nI 1)) rfl ⟨by omega, fun z => by omega, fun _ => hn, fun z => by omega, fun z => by omega, fun z => by omega, fun z => by omega, fun z => by omega, fun z => by omega⟩ oS2
theorem xMap_stp (i : qWv Bd (sl + 1) Rn dp W) {s n : Nat} {c : Int64} (hn : n ≤ 6) (hs : s < W.2.1.1 ∧ dp s < dc) : qStp Bd sl Rn dp W (xMap W.1 W.2.1 W.2.2 s n c) dc := by
  unfold xMap
  by_cases c1 : s = 0
  · rw [if_pos c1]; exact i.less.stay rfl oSame
  · rw [if_neg c1]
    by_cases q : xFn n c (W.2.1.2.2.1 s) = none
    · rw [if_pos q]; exact i.less.stay (o' := oFa (oCa W.1 (oCq W.1 + nI 1)) 1) rfl oS1
    · rw [if_neg q]
      exact i.pushC (o' := oCa W.1 (oCq W.1 + nI 1)) rfl ⟨by omega, fun z => by omega, fun z => by omega, fun z => by omega, fun _ => by rw [i.r s hs.1]; exact hs, fun _ => hn, fun z => by omega, fun z => by omega, fun z => by omega⟩ oS2
theorem xTak_stp (i : qWv Bd (sl + 1) Rn dp W) {s n : Nat} (hn : n < 2147483648) (hs : s < W.2.1.1 ∧ dp s < dc) : qStp Bd sl Rn dp W ((xTak W.2.1 W.2.2 s n).1, W.1, (xTak W.2.1 W.2.2 s n).2) dc := by
  unfold xTak
  by_cases c1 : s = 0 ∨ n = 0
  · rw [if_pos c1]; exact i.less.stay rfl oSame
  · rw [if_neg c1]
    by_cases q : n = 1
    · rw [if_pos q]; exact i.pushR rfl ⟨i.p.1, by rw [i.z]; omega⟩ oSame
    · rw [if_neg q]
      exact i.pushC rfl ⟨by omega, fun z => by omega, fun z => by omega, fun z => by omega, fun _ => by rw [i.r s hs.1]; exact hs, fun z => by omega, fun z => by omega, fun z => by omega, fun z => by omega⟩ oSame
theorem xJoin_stp (i : qWv Bd (sl + 1) Rn dp W) {s n : Nat} (hn : n < W.2.1.1 ∧ dp n ≤ dc) (hs : s < W.2.1.1 ∧ dp s < dc) : qStp Bd sl Rn dp W ((xJoin W.2.1 W.2.2 s n).1, W.1, (xJoin W.2.1 W.2.2 s n).2) dc := by
  unfold xJoin
  by_cases c1 : s = 0
  · rw [if_pos c1]; exact i.less.at hn
  · rw [if_neg c1]
    exact i.pushC rfl ⟨by omega, fun z => by omega, fun z => by omega, fun z => by omega, fun _ => by rw [i.r s hs.1]; exact hs, fun z => by omega, fun z => by omega, fun z => by omega, fun _ => hn⟩ oSame
theorem xFilt_stp (hF : qFg Bd Rn F d) {w : Nat} {c : Int64} (hw : w ≤ 4) : ∀ (t s : Nat) (dp : Nat → Nat) (W : qWo), qWv Bd (sl + 1) Rn dp W → oFq W.1 = 0 → s < W.2.1.1 ∧ dp s < dc ∧ dp s < d → qStp Bd sl Rn dp W (xFilt F w c t W s) dc
  | 0, s, dp, W, i, _, _ => i.less.stay rfl oSame
  | t + 1, s, dp, W, i, hf, hs => by
    unfold xFilt
    by_cases c1 : s = 0
    · rw [if_pos c1]; exact i.less.stay rfl oSame
    rw [if_neg c1]
    by_cases c2 : xTs w c (W.2.1.2.2.1 s) = none
    · rw [if_pos c2]; exact i.less.stay (o' := oFa (oCa W.1 (oCq W.1 + nI 1)) 1) rfl oS1
    rw [if_neg c2]
    by_cases c3 : xTs w c (W.2.1.2.2.1 s) = some true
    · rw [if_pos c3]
      exact i.pushC (o' := oCa W.1 (oCq W.1 + nI 1)) rfl ⟨by omega, fun z => by omega, fun z => by omega, fun z => by omega, fun _ => by rw [i.r s hs.1]; exact ⟨hs.1, hs.2.1⟩, fun z => by omega, fun _ => hw, fun z => by omega, fun z => by omega⟩ oS2
    rw [if_neg c3]
    by_cases c4 : t = 0
    · rw [if_pos c4]; exact i.less.stay (o' := oCa W.1 (oCq W.1 + nI 1)) rfl oS2
    rw [if_neg c4]
    have i1 : qWv Bd (sl + 1) Rn dp (oCa W.1 (oCq W.1 + nI 1), W.2) := i.obj rfl
    have e0 : W.2.1.2.2.2 s = s := i.r s hs.1
    have st := hF (sl + 1) dp _ s i1 hf hs.1 hs.2.2
    rw [e0]
    have base : qStp Bd sl Rn dp (oCa W.1 (oCq W.1 + nI 1), W.2) (if ¬ oFq (F (oCa W.1 (oCq W.1 + nI 1), W.2) s).2.1 = 0 then (0, (F (oCa W.1 (oCq W.1 + nI 1), W.2) s).2) else xFilt F w c t (F (oCa W.1 (oCq W.1 + nI 1), W.2) s).2 (F (oCa W.1 (oCq W.1 + nI 1), W.2) s).1) dc := by
      by_cases c5 : ¬ oFq (F (oCa W.1 (oCq W.1 + nI 1), W.2) s).2.1 = 0
      · rw [if_pos c5]; exact (st.bad c5).less
      · rw [if_neg c5]
        have c6 := Decidable.not_not.mp c5
        refine st.tr (fun dp' h1 h2 h3 => xFilt_stp hF hw t _ dp' _ h2 c6 ?_)
        have := h3 c6
        exact ⟨this.1, by omega, by omega⟩
    obtain ⟨dp1, s1, s2, s3, s4, s5, ⟨x, y, z, s6⟩, s7⟩ := base
    exact ⟨dp1, s1, s2, s3, s4, s5, ⟨x, y, z, s6⟩, s7⟩
theorem xThen_stp (hF : qFg Bd Rn F d) (i : qWv Bd (sl + 1) Rn dp W) (hf : oFq W.1 = 0) {rc n s : Nat} {c : Int64} (hs : s < W.2.1.1 ∧ dp s < dc ∧ dp s < d) (h3 : rc = 3 → n ≤ 6) (h4 : rc = 4 → n ≤ 4) (h5 : rc = 5 → n < 2147483648) (h6 : rc = 6 → n < W.2.1.1 ∧ dp n ≤ dc) (hr : 3 ≤ rc ∧ rc ≤ 6) : qStp Bd sl Rn dp W (xThen F rc n c W s) dc := by
  unfold xThen
  by_cases c3 : rc = 3
  · rw [if_pos c3]; exact xMap_stp i (h3 c3) ⟨hs.1, hs.2.1⟩
  rw [if_neg c3]
  by_cases c4 : rc = 4
  · rw [if_pos c4]; exact xFilt_stp hF (h4 c4) 1000 s dp W i hf hs
  rw [if_neg c4]
  by_cases c5 : rc = 5
  · rw [if_pos c5]; exact xTak_stp i (h5 c5) ⟨hs.1, hs.2.1⟩
  rw [if_neg c5]
  exact xJoin_stp i (h6 (by omega)) ⟨hs.1, hs.2.1⟩
theorem xWork_stp (hF : qFg Bd Rn F d) (hR : ∀ q, q < Rn → (R q).length ≤ 1000) (i : qWv Bd (sl + 1) Rn dp W) (hf : oFq W.1 = 0) {c : Nat} (hc : c < W.2.1.1) (hd : dp c ≤ d) (h0 : W.2.2.2.2.1 c ≠ 0) : qStp Bd sl Rn dp W (xWork R F W c) (dp c) := by
  obtain ⟨v1, v2, v3, v4, v5, v6, v7, v8, v9⟩ := i.k c hc
  unfold xWork
  by_cases c1 : W.2.2.2.2.1 c = 1
  · rw [if_pos c1]; exact xIter_stp i (v3 c1)
  rw [if_neg c1]
  by_cases c2 : W.2.2.2.2.1 c = 2
  · rw [if_pos c2]; exact xRow_stp i (v4 c2).1 hR
  rw [if_neg c2]
  have so := v5 (by omega)
  have st := hF (sl + 1) dp W _ i hf so.1 (by omega)
  by_cases c5 : ¬ oFq (F W (W.2.2.2.2.2.2.1 c)).2.1 = 0
  · rw [if_pos c5]; exact (st.bad c5).less
  · rw [if_neg c5]
    have c6 := Decidable.not_not.mp c5
    have hle : W.2.1.1 ≤ (F W (W.2.2.2.2.2.2.1 c)).2.2.1.1 := by obtain ⟨_, _, _, z, _⟩ := st; exact z
    refine st.tr (fun dp' h1 h2 h3 => xThen_stp hF h2 c6 ?_ v6 v7 v8 (fun z => ?_) (by omega))
    · have := h3 c6
      exact ⟨this.1, by omega, by omega⟩
    · have := v9 z
      exact ⟨by omega, by rw [h1 _ this.1]; exact this.2⟩
theorem qWv.setC (i : qWv Bd sl Rn dp W) {c s : Nat} (hs : s < W.2.1.1 ∧ dp s ≤ dp c) : qWv Bd sl Rn dp (W.1, W.2.1, xSetC W.2.2 c s) := by
  refine ⟨i.n, i.c, i.p, i.g, i.m, i.r, fun q hq => ?_, i.z⟩
  have hq : q < W.2.1.1 := hq
  show qCv Rn dp W.2.1.1 (qU W.2.2.2.2.1 c 0 q) (qU W.2.2.2.2.2.1 c s q) (W.2.2.2.2.2.2.1 q) (W.2.2.2.2.2.2.2.1 q) (dp q)
  by_cases e : q = c
  · rw [e, qU_at, qU_at]
    exact ⟨by omega, fun _ => hs, fun z => by omega, fun z => by omega, fun z => by omega, fun z => by omega, fun z => by omega, fun z => by omega, fun z => by omega⟩
  · rw [qU_ne e, qU_ne e]; exact i.k q hq
theorem xForce_stp (hR : ∀ q, q < Rn → (R q).length ≤ 1000) : ∀ d, qFg Bd Rn (xForce R d) d
  | 0 => fun sl dp W c _ _ _ h => absurd h (Nat.not_lt_zero _)
  | d + 1 => fun sl dp W c i hf hc hd => by
    unfold xForce
    by_cases c1 : W.2.2.2.2.1 c = 0
    · rw [if_pos c1]; exact i.at ((i.k c hc).2.1 c1)
    rw [if_neg c1]
    by_cases c2 : ¬ oMq W.1 < 20000
    · rw [if_pos c2]; exact i.stay (o' := oFa W.1 2) rfl oS3
    rw [if_neg c2]
    have c3 := Decidable.not_not.mp c2
    have st := xWork_stp (xForce_stp hR d) hR (i.move c3) hf hc (by omega) c1
    generalize xWork R (xForce R d) (oMv W.1 (oMq W.1 + nI 1), W.2) c = r at st ⊢
    obtain ⟨dp1, s1, s2, s3, s4, s5, ⟨x, y, z, s6⟩, s7⟩ := st
    by_cases c5 : ¬ oFq r.2.1 = 0
    · rw [if_pos c5]
      exact ⟨dp1, s1, s2, s3, s4, fun q => absurd q c5, ⟨x, y, z, s6⟩, s7⟩
    · rw [if_neg c5]
      have h5 := s5 (Decidable.not_not.mp c5)
      exact ⟨dp1, s1, s2.setC ⟨h5.1, by rw [s1 c hc]; exact h5.2⟩, s3, s4, fun _ => h5, ⟨x, y, z, s6⟩, s7⟩
end QWV2
