/-! the reference's streams, worked out by pure functions -/
/-- the object's fields, the conses, the cells -/
abbrev qWo := qYf × qWd × qKd
abbrev oMq (o : qYf) : Int32 := o.2.2.2.2.2.2.2.2.2.1
abbrev oCq (o : qYf) : Int32 := o.2.2.2.2.2.2.2.2.1
abbrev oFq (o : qYf) : Int32 := o.2.2.2.2.2.2.2.2.2.2.2.1
def xRow (R : Nat → List Int64) (W : qWo) (row i : Nat) : Nat × qWo := if (R row).length ≤ i then (0, W) else (W.2.1.1, W.1, xCons W.2.1 ((R row).getD i 0) W.2.2.1, xCell W.2.2 2 row (i + 1) 0 0)
def xFilt (F : qWo → Nat → Nat × qWo) (w : Nat) (c : Int64) : Nat → qWo → Nat → Nat × qWo
  | 0, W, _ => (0, W)
  | t + 1, W, s => if s = 0 then (0, W) else
      if xTs w c (W.2.1.2.2.1 s) = none then (0, oFa (oCa W.1 (oCq W.1 + nI 1)) 1, W.2) else
      if xTs w c (W.2.1.2.2.1 s) = some true then (W.2.1.1, oCa W.1 (oCq W.1 + nI 1), xCons W.2.1 (W.2.1.2.2.1 s) W.2.2.1, xCell W.2.2 4 (W.2.1.2.2.2 s) w c 0) else
      if t = 0 then (0, oCa W.1 (oCq W.1 + nI 1), W.2) else
      if ¬ oFq (F (oCa W.1 (oCq W.1 + nI 1), W.2) (W.2.1.2.2.2 s)).2.1 = 0 then (0, (F (oCa W.1 (oCq W.1 + nI 1), W.2) (W.2.1.2.2.2 s)).2) else
      xFilt F w c t (F (oCa W.1 (oCq W.1 + nI 1), W.2) (W.2.1.2.2.2 s)).2 (F (oCa W.1 (oCq W.1 + nI 1), W.2) (W.2.1.2.2.2 s)).1
/-- a row of numbers that goes on by its last one -/
def xIter (W : qWo) (n : Nat) (c x : Int64) : Nat × qWo := if xFn n c x = none then (0, oFa (oCa W.1 (oCq W.1 + nI 1)) 1, W.2) else (W.2.1.1, oCa W.1 (oCq W.1 + nI 1), xCons W.2.1 ((xFn n c x).getD 0) W.2.2.1, xCell W.2.2 1 0 n c ((xFn n c x).getD 0))
/-- what is made of a source's rest -/
def xThen (F : qWo → Nat → Nat × qWo) (rc n : Nat) (c : Int64) (W : qWo) (s : Nat) : Nat × qWo :=
  if rc = 3 then xMap W.1 W.2.1 W.2.2 s n c else if rc = 4 then xFilt F n c 1000 W s else if rc = 5 then ((xTak W.2.1 W.2.2 s n).1, W.1, (xTak W.2.1 W.2.2 s n).2) else ((xJoin W.2.1 W.2.2 s n).1, W.1, (xJoin W.2.1 W.2.2 s n).2)
def xWork (R : Nat → List Int64) (F : qWo → Nat → Nat × qWo) (W : qWo) (c : Nat) : Nat × qWo :=
  if W.2.2.2.2.1 c = 1 then xIter W (W.2.2.2.2.2.2.2.1 c) (W.2.2.2.2.2.2.2.2.1 c) (W.2.2.2.2.2.2.2.2.2 c) else
  if W.2.2.2.2.1 c = 2 then xRow R W (W.2.2.2.2.2.2.1 c) (W.2.2.2.2.2.2.2.1 c) else
  if ¬ oFq (F W (W.2.2.2.2.2.2.1 c)).2.1 = 0 then (0, (F W (W.2.2.2.2.2.2.1 c)).2) else
  xThen F (W.2.2.2.2.1 c) (W.2.2.2.2.2.2.2.1 c) (W.2.2.2.2.2.2.2.2.1 c) (F W (W.2.2.2.2.2.2.1 c)).2 (F W (W.2.2.2.2.2.2.1 c)).1
def xSetC (k : qKd) (c s : Nat) : qKd := (k.1, k.2.1, qU k.2.2.1 c 0, qU k.2.2.2.1 c s, k.2.2.2.2)
def xForce (R : Nat → List Int64) : Nat → qWo → Nat → Nat × qWo
  | 0, W, _ => (0, W)
  | d + 1, W, c => if W.2.2.2.2.1 c = 0 then (W.2.2.2.2.2.1 c, W) else
      if ¬ oMq W.1 < 20000 then (0, oFa W.1 2, W.2) else
      if ¬ oFq (xWork R (xForce R d) (oMv W.1 (oMq W.1 + nI 1), W.2) c).2.1 = 0 then (0, (xWork R (xForce R d) (oMv W.1 (oMq W.1 + nI 1), W.2) c).2) else
      ((xWork R (xForce R d) (oMv W.1 (oMq W.1 + nI 1), W.2) c).1, (xWork R (xForce R d) (oMv W.1 (oMq W.1 + nI 1), W.2) c).2.1, (xWork R (xForce R d) (oMv W.1 (oMq W.1 + nI 1), W.2) c).2.2.1, xSetC (xWork R (xForce R d) (oMv W.1 (oMq W.1 + nI 1), W.2) c).2.2.2 c (xWork R (xForce R d) (oMv W.1 (oMq W.1 + nI 1), W.2) c).1)
/-- a cell's recipe, result, source, other are sound; n conses stand; dc its depth -/
def qCv (Rn : Nat) (dp : Nat → Nat) (n rc rs so ot dc : Nat) : Prop := rc ≤ 6 ∧ (rc = 0 → rs < n ∧ dp rs ≤ dc) ∧ (rc = 1 → ot ≤ 6) ∧ (rc = 2 → so < Rn ∧ ot ≤ 1001) ∧ (3 ≤ rc → so < n ∧ dp so < dc) ∧ (rc = 3 → ot ≤ 6) ∧ (rc = 4 → ot ≤ 4) ∧ (rc = 5 → ot < 2147483648) ∧ (rc = 6 → ot < n ∧ dp ot ≤ dc)
def qWv (Bd sl Rn : Nat) (dp : Nat → Nat) (W : qWo) : Prop := (W.2.1.1 = W.2.2.1) ∧ (W.2.1.2.1 = W.2.2.2.1) ∧ (1 ≤ W.2.1.1 ∧ W.2.1.1 ≤ W.2.1.2.1) ∧ (W.2.1.2.1 ≤ 1024 ∨ W.2.1.2.1 ≤ 2 * (W.2.1.1 - 1)) ∧ (∃ M, oMq W.1 = nI M ∧ M ≤ 20000 ∧ W.2.1.1 + sl ≤ Bd + M) ∧ (∀ s, s < W.2.1.1 → W.2.1.2.2.2 s = s) ∧ (∀ c, c < W.2.1.1 → qCv Rn dp W.2.1.1 (W.2.2.2.2.1 c) (W.2.2.2.2.2.1 c) (W.2.2.2.2.2.2.1 c) (W.2.2.2.2.2.2.2.1 c) (dp c)) ∧ (dp 0 = 0)
theorem qWv.n {Bd sl Rn : Nat} {dp : Nat → Nat} {W : qWo} (i : qWv Bd sl Rn dp W) : W.2.1.1 = W.2.2.1 := i.1
theorem qWv.c {Bd sl Rn : Nat} {dp : Nat → Nat} {W : qWo} (i : qWv Bd sl Rn dp W) : W.2.1.2.1 = W.2.2.2.1 := i.2.1
theorem qWv.p {Bd sl Rn : Nat} {dp : Nat → Nat} {W : qWo} (i : qWv Bd sl Rn dp W) : 1 ≤ W.2.1.1 ∧ W.2.1.1 ≤ W.2.1.2.1 := i.2.2.1
theorem qWv.g {Bd sl Rn : Nat} {dp : Nat → Nat} {W : qWo} (i : qWv Bd sl Rn dp W) : W.2.1.2.1 ≤ 1024 ∨ W.2.1.2.1 ≤ 2 * (W.2.1.1 - 1) := i.2.2.2.1
theorem qWv.m {Bd sl Rn : Nat} {dp : Nat → Nat} {W : qWo} (i : qWv Bd sl Rn dp W) : ∃ M, oMq W.1 = nI M ∧ M ≤ 20000 ∧ W.2.1.1 + sl ≤ Bd + M := i.2.2.2.2.1
theorem qWv.r {Bd sl Rn : Nat} {dp : Nat → Nat} {W : qWo} (i : qWv Bd sl Rn dp W) : ∀ s, s < W.2.1.1 → W.2.1.2.2.2 s = s := i.2.2.2.2.2.1
theorem qWv.k {Bd sl Rn : Nat} {dp : Nat → Nat} {W : qWo} (i : qWv Bd sl Rn dp W) : ∀ c, c < W.2.1.1 → qCv Rn dp W.2.1.1 (W.2.2.2.2.1 c) (W.2.2.2.2.2.1 c) (W.2.2.2.2.2.2.1 c) (W.2.2.2.2.2.2.2.1 c) (dp c) := i.2.2.2.2.2.2.1
theorem qWv.z {Bd sl Rn : Nat} {dp : Nat → Nat} {W : qWo} (i : qWv Bd sl Rn dp W) : dp 0 = 0 := i.2.2.2.2.2.2.2
/-- a step of the world -/
def qStp (Bd sl Rn : Nat) (dp : Nat → Nat) (W : qWo) (r : Nat × qWo) (dc : Nat) : Prop := ∃ dp', (∀ c, c < W.2.1.1 → dp' c = dp c) ∧ qWv Bd sl Rn dp' r.2 ∧ W.2.1.1 ≤ r.2.2.1.1 ∧ W.2.1.2.1 ≤ r.2.2.1.2.1 ∧ (oFq r.2.1 = 0 → r.1 < r.2.2.1.1 ∧ dp' r.1 ≤ dc) ∧ (∃ x y z, r.2.1 = oFa (oMv (oCa W.1 x) y) z) ∧ ∀ s, s < W.2.1.1 → r.2.2.1.2.2.1 s = W.2.1.2.2.1 s
section QWI
variable {Bd sl Rn : Nat} {dp dp' : Nat → Nat} {W : qWo} {n rc rs so ot dc : Nat}
theorem qCv.mono (v : qCv Rn dp n rc rs so ot dc) {n' : Nat} (hn : n ≤ n') (hd : ∀ c, c < n → dp' c = dp c) : qCv Rn dp' n' rc rs so ot dc := by
  obtain ⟨v1, v2, v3, v4, v5, v6, v7, v8, v9⟩ := v
  refine ⟨v1, fun z => ?_, v3, v4, fun z => ?_, v6, v7, v8, fun z => ?_⟩
  · have := v2 z; rw [hd _ this.1]; exact ⟨by omega, this.2⟩
  · have := v5 z; rw [hd _ this.1]; exact ⟨by omega, this.2⟩
  · have := v9 z; rw [hd _ this.1]; exact ⟨by omega, this.2⟩
/-- another count of calls, another fault -/
theorem qWv.obj (i : qWv Bd sl Rn dp W) {o' : qYf} (ho : oMq o' = oMq W.1) : qWv Bd sl Rn dp (o', W.2) := ⟨i.n, i.c, i.p, i.g, by obtain ⟨M, h⟩ := i.m; exact ⟨M, by rw [ho]; exact h.1, h.2⟩, i.r, i.k, i.z⟩
theorem qWv.less (i : qWv Bd (sl + 1) Rn dp W) : qWv Bd sl Rn dp W := ⟨i.n, i.c, i.p, i.g, by obtain ⟨M, h⟩ := i.m; exact ⟨M, h.1, h.2.1, by omega⟩, i.r, i.k, i.z⟩
theorem qWv.move (i : qWv Bd sl Rn dp W) (h : oMq W.1 < 20000) : qWv Bd (sl + 1) Rn dp (oMv W.1 (oMq W.1 + nI 1), W.2) := by
  obtain ⟨M, e, hM, hb⟩ := i.m
  refine ⟨i.n, i.c, i.p, i.g, ⟨M + 1, ?_, ?_, ?_⟩, i.r, i.k, i.z⟩
  · show oMq W.1 + nI 1 = _
    rw [e, nI_add]
  · rw [e, show (20000 : Int32) = nI 20000 from rfl, nI_ltI (by omega) (by omega)] at h
    omega
  · show W.2.1.1 + (sl + 1) ≤ _
    omega
/-- a cons and its cell come -/
theorem qWv.push (i : qWv Bd (sl + 1) Rn dp W) {o' : qYf} (ho : oMq o' = oMq W.1) {x : Int64} {k' : qKd} (h1 : k'.1 = W.2.2.1 + 1) (h2 : k'.2.1 = if W.2.2.1 = W.2.2.2.1 then 2 * W.2.2.2.1 else W.2.2.2.1)
    (h3 : ∀ c, c < W.2.2.1 → k'.2.2.1 c = W.2.2.2.2.1 c ∧ k'.2.2.2.1 c = W.2.2.2.2.2.1 c ∧ k'.2.2.2.2.1 c = W.2.2.2.2.2.2.1 c ∧ k'.2.2.2.2.2.1 c = W.2.2.2.2.2.2.2.1 c)
    (h4 : qCv Rn dp W.2.1.1 (k'.2.2.1 W.2.2.1) (k'.2.2.2.1 W.2.2.1) (k'.2.2.2.2.1 W.2.2.1) (k'.2.2.2.2.2.1 W.2.2.1) dc) (hoo : ∃ a b c, o' = oFa (oMv (oCa W.1 a) b) c) : qStp Bd sl Rn dp W (W.2.1.1, o', xCons W.2.1 x W.2.2.1, k') dc := by
  obtain ⟨M, e, hM, hb⟩ := i.m
  have hn := i.n
  have hc := i.c
  have hp := i.p
  have hg := i.g
  have hd : ∀ c, c < W.2.1.1 → qU dp W.2.1.1 dc c = dp c := fun c hc => qU_ne (by omega)
  refine ⟨qU dp W.2.1.1 dc, hd, ⟨?_, ?_, ?_, ?_, ⟨M, ?_, hM, ?_⟩, fun s hs => ?_, fun c hc => ?_, ?_⟩, ?_, ?_, fun _ => ⟨?_, ?_⟩, hoo, fun s hs => ?_⟩
  · show W.2.1.1 + 1 = k'.1; rw [h1, hn]
  · show (if W.2.1.1 = W.2.1.2.1 then 2 * W.2.1.2.1 else W.2.1.2.1) = k'.2.1; rw [h2, hn, hc]
  · show 1 ≤ W.2.1.1 + 1 ∧ W.2.1.1 + 1 ≤ (if W.2.1.1 = W.2.1.2.1 then 2 * W.2.1.2.1 else W.2.1.2.1)
    split <;> omega
  · show (if W.2.1.1 = W.2.1.2.1 then 2 * W.2.1.2.1 else W.2.1.2.1) ≤ 1024 ∨ (if W.2.1.1 = W.2.1.2.1 then 2 * W.2.1.2.1 else W.2.1.2.1) ≤ 2 * (W.2.1.1 + 1 - 1)
    split <;> omega
  · show oMq o' = nI M; rw [ho, e]
  · show W.2.1.1 + 1 + sl ≤ Bd + M; omega
  · have hs : s < W.2.1.1 + 1 := hs
    show qU W.2.1.2.2.2 W.2.1.1 W.2.2.1 s = s
    by_cases q : s = W.2.1.1
    · rw [q, qU_at, hn]
    · rw [qU_ne q]; exact i.r s (by omega)
  · have hc : c < W.2.1.1 + 1 := hc
    show qCv Rn (qU dp W.2.1.1 dc) (W.2.1.1 + 1) (k'.2.2.1 c) (k'.2.2.2.1 c) (k'.2.2.2.2.1 c) (k'.2.2.2.2.2.1 c) (qU dp W.2.1.1 dc c)
    by_cases q : c = W.2.1.1
    · rw [q, qU_at, hn]
      rw [hn] at h4 hd
      exact h4.mono (by omega) hd
    · obtain ⟨e1, e2, e3, e4⟩ := h3 c (by omega)
      rw [qU_ne q, e1, e2, e3, e4]
      exact (i.k c (by omega)).mono (by omega) hd
  · rw [hd 0 (by omega)]; exact i.z
  · show W.2.1.1 ≤ W.2.1.1 + 1; omega
  · show W.2.1.2.1 ≤ (if W.2.1.1 = W.2.1.2.1 then 2 * W.2.1.2.1 else W.2.1.2.1)
    split <;> omega
  · show W.2.1.1 < W.2.1.1 + 1; omega
  · show qU dp W.2.1.1 dc W.2.1.1 ≤ dc; rw [qU_at]; exact Nat.le_refl _
  · show qU W.2.1.2.2.1 W.2.1.1 x s = _; exact qU_ne (by omega)
theorem qWv.pushC (i : qWv Bd (sl + 1) Rn dp W) {o' : qYf} (ho : oMq o' = oMq W.1) {x c0 x0 : Int64} {kd s t : Nat} (h4 : qCv Rn dp W.2.1.1 kd 0 s t dc) (hoo : ∃ a b c, o' = oFa (oMv (oCa W.1 a) b) c) : qStp Bd sl Rn dp W (W.2.1.1, o', xCons W.2.1 x W.2.2.1, xCell W.2.2 kd s t c0 x0) dc :=
  i.push ho rfl rfl (fun c hc => by
    have hq : c ≠ W.2.2.1 := by omega
    exact ⟨qU_ne hq, qU_ne hq, qU_ne hq, qU_ne hq⟩) (by
    show qCv Rn dp W.2.1.1 (qU W.2.2.2.2.1 W.2.2.1 kd W.2.2.1) (qU W.2.2.2.2.2.1 W.2.2.1 0 W.2.2.1) (qU W.2.2.2.2.2.2.1 W.2.2.1 s W.2.2.1) (qU W.2.2.2.2.2.2.2.1 W.2.2.1 t W.2.2.1) dc
    rw [qU_at, qU_at, qU_at, qU_at]; exact h4) hoo
theorem qWv.pushR (i : qWv Bd (sl + 1) Rn dp W) {o' : qYf} (ho : oMq o' = oMq W.1) {x : Int64} {s : Nat} (hs : s < W.2.1.1 ∧ dp s ≤ dc) (hoo : ∃ a b c, o' = oFa (oMv (oCa W.1 a) b) c) : qStp Bd sl Rn dp W (W.2.1.1, o', xCons W.2.1 x W.2.2.1, xRdy W.2.2 s) dc :=
  i.push ho rfl rfl (fun c hc => by
    have hq : c ≠ W.2.2.1 := by omega
    exact ⟨qU_ne hq, (qU_ne hq).trans (qU_ne hq), qU_ne hq, qU_ne hq⟩) (by
    show qCv Rn dp W.2.1.1 (qU W.2.2.2.2.1 W.2.2.1 0 W.2.2.1) (qU (qU W.2.2.2.2.2.1 W.2.2.1 0) W.2.2.1 s W.2.2.1) (qU W.2.2.2.2.2.2.1 W.2.2.1 0 W.2.2.1) (qU W.2.2.2.2.2.2.2.1 W.2.2.1 0 W.2.2.1) dc
    rw [qU_at, qU_at, qU_at, qU_at]
    exact ⟨by omega, fun _ => hs, fun z => by omega, fun z => by omega, fun z => by omega, fun z => by omega, fun z => by omega, fun z => by omega, fun z => by omega⟩) hoo
theorem oSame {o : qYf} : ∃ a b c, o = oFa (oMv (oCa o a) b) c := ⟨oCq o, oMq o, oFq o, rfl⟩
/-- nothing but the object has changed; the answer is the empty stream, or there is a fault -/
theorem qWv.stay (i : qWv Bd sl Rn dp W) {o' : qYf} (ho : oMq o' = oMq W.1) (hoo : ∃ a b c, o' = oFa (oMv (oCa W.1 a) b) c) : qStp Bd sl Rn dp W (0, o', W.2) dc :=
  ⟨dp, fun _ _ => rfl, i.obj ho, Nat.le_refl _, Nat.le_refl _, fun _ => ⟨i.p.1, by show dp 0 ≤ dc; rw [i.z]; omega⟩, hoo, fun _ _ => rfl⟩
theorem qStp.tr {r r2 : Nat × qWo} {d1 d2 sl2 : Nat} (s : qStp Bd sl Rn dp W r d1) (t : ∀ dp', (∀ c, c < W.2.1.1 → dp' c = dp c) → qWv Bd sl Rn dp' r.2 → (oFq r.2.1 = 0 → r.1 < r.2.2.1.1 ∧ dp' r.1 ≤ d1) → qStp Bd sl2 Rn dp' r.2 r2 d2) : qStp Bd sl2 Rn dp W r2 d2 := by
  obtain ⟨dp1, s1, s2, s3, s4, s5, ⟨x, y, z, s6⟩, s7⟩ := s
  obtain ⟨dp2, t1, t2, t3, t4, t5, ⟨x2, y2, z2, t6⟩, t7⟩ := t dp1 s1 s2 s5
  refine ⟨dp2, fun c hc => (t1 c (by omega)).trans (s1 c hc), t2, by omega, by omega, t5, ⟨x2, y2, z2, ?_⟩, fun q hq => (t7 q (by omega)).trans (s7 q hq)⟩
  rw [t6, s6]
  rfl
end QWI
