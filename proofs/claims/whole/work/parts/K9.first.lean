theorem i32_of {a b : Int32} (h : a.toInt = b.toInt) : a = b := Int32.toInt_inj.mp h
theorem q_rem3 (n : Int32) : (0 ≤ n ∧ (n - n / 3 * 3 = 0 ∨ n - n / 3 * 3 = 1 ∨ n - n / 3 * 3 = 2)) ∨ (¬ 0 ≤ n ∧ (n - n / 3 * 3 = 0 ∨ n - n / 3 * 3 = -1 ∨ n - n / 3 * 3 = -2)) := by
  have b1 : -2147483648 ≤ n.toInt := Int32.le_toInt n
  have b2 : n.toInt < 2147483648 := Int32.toInt_lt n
  have e3 : (3 : Int32).toInt = 3 := rfl
  have key : ∃ q : Int, n.toInt.tdiv 3 = q ∧ (0 ≤ n.toInt → 0 ≤ n.toInt - q * 3 ∧ n.toInt - q * 3 < 3) ∧ (n.toInt < 0 → n.toInt - q * 3 ≤ 0 ∧ -3 < n.toInt - q * 3) := by
    by_cases c : 0 ≤ n.toInt
    · exact ⟨n.toInt / 3, Int.tdiv_eq_ediv_of_nonneg c, fun _ => by omega, fun _ => by omega⟩
    · obtain ⟨b, hb⟩ : ∃ b : Int, n.toInt = -b := ⟨-n.toInt, by omega⟩
      refine ⟨-(b / 3), ?_, fun _ => by omega, fun _ => by omega⟩
      rw [hb, Int.neg_tdiv, Int.tdiv_eq_ediv_of_nonneg (by omega)]
  obtain ⟨q, hq, k1, k2⟩ := key
  have d1 : (n / 3).toInt = q := by
    rw [Int32.toInt_div, e3, hq]
    exact Int.bmod_eq_of_le (by omega) (by omega)
  have d2 : (n / 3 * 3).toInt = q * 3 := by
    rw [Int32.toInt_mul, d1, e3]
    exact Int.bmod_eq_of_le (by omega) (by omega)
  have d3 : (n - n / 3 * 3).toInt = n.toInt - q * 3 := by
    rw [Int32.toInt_sub, d2]
    exact Int.bmod_eq_of_le (by omega) (by omega)
  have le : 0 ≤ n ↔ 0 ≤ n.toInt := Int32.le_iff_toInt_le
  by_cases c : 0 ≤ n.toInt
  · refine Or.inl ⟨le.mpr c, ?_⟩
    have k := k1 c
    rcases (show n.toInt - q * 3 = 0 ∨ n.toInt - q * 3 = 1 ∨ n.toInt - q * 3 = 2 by omega) with z | z | z
    · exact Or.inl (i32_of (d3.trans z))
    · exact Or.inr (Or.inl (i32_of (d3.trans z)))
    · exact Or.inr (Or.inr (i32_of (d3.trans z)))
  · refine Or.inr ⟨fun z => c (le.mp z), ?_⟩
    have k := k2 (by omega)
    rcases (show n.toInt - q * 3 = 0 ∨ n.toInt - q * 3 = -1 ∨ n.toInt - q * 3 = -2 by omega) with z | z | z
    · exact Or.inl (i32_of (d3.trans z))
    · exact Or.inr (Or.inl (i32_of (d3.trans z)))
    · exact Or.inr (Or.inr (i32_of (d3.trans z)))
theorem q_xor3 (n : Int32) : 0 ≤ n ^^^ 3 ↔ 0 ≤ n := by
  rw [Int32.le_iff_toInt_le, Int32.le_iff_toInt_le]
  have e : ∀ m : Int32, ((0 : Int32).toInt ≤ m.toInt ↔ m.toBitVec.msb = false) := fun m => by
    rw [BitVec.msb_eq_toInt]
    show (0 ≤ m.toInt) ↔ _
    rw [decide_eq_false_iff_not]
    show _ ↔ ¬ m.toInt < 0
    omega
  rw [e, e, Int32.toBitVec_xor, BitVec.msb_xor, show (3 : Int32).toBitVec.msb = false by decide, Bool.xor_false]
theorem qGrn_fm (n : Int32) : qGrn n = qfm n := by
  unfold qGrn qfm
  rcases q_rem3 n with ⟨c, z | z | z⟩ | ⟨c, z | z | z⟩ <;> rw [z]
  · rw [if_pos ((q_xor3 n).mpr c)]; decide
  · rw [if_pos ((q_xor3 n).mpr c)]; decide
  · rw [if_pos ((q_xor3 n).mpr c)]; decide
  · rw [if_neg (fun q => c ((q_xor3 n).mp q))]; decide
  · rw [if_neg (fun q => c ((q_xor3 n).mp q))]; decide
  · rw [if_neg (fun q => c ((q_xor3 n).mp q))]; decide
/-- the slots at first -/
def S0 : Nat → qSlot := fun _ => (-1, [], 0, 0)
theorem qRw.cel {cy : Nat → ClassId} {h h' : qH} {a ka va : Nat} {kd n sm dp rw : Int32} {f g : Nat → Int64} (q : qRw cy h a ka va kd n sm dp rw f g) (k : ∀ b o, h b = some o → ((∃ fs, o = .inr (7, fs)) ∨ ∃ f, o = qJr cy f) → h' b = some o) : qRw cy h' a ka va kd n sm dp rw f g := by
  obtain ⟨a1, a2, a3, a4, a5, a6⟩ := q
  exact ⟨a1, a2, a3, k _ _ a4 (Or.inl ⟨_, rfl⟩), k _ _ a5 (Or.inr ⟨_, rfl⟩), k _ _ a6 (Or.inr ⟨_, rfl⟩)⟩
theorem PS.s0 {gr : Int32} : PS gr [] ((-1 : Int32), ([] : qKV), 0, 0) := by
  have d1 : ¬ ((-1 : Int32) = 3 ∨ (-1 : Int32) = 5) := by decide
  have d2 : ¬ ((-1 : Int32) = 1 ∨ (-1 : Int32) = 2 ∨ (-1 : Int32) = 3) := by decide
  have d3 : ¬ ((-1 : Int32) = 1 ∨ (-1 : Int32) = 2) := by decide
  exact ⟨⟨fun z => absurd z d1, fun z => absurd z d2, List.mem_cons_self⟩, Nat.zero_le _, Nat.zero_le _, fun z => absurd z d3, fun z => absurd z d2⟩
theorem PI.start {gr : Int32} {ms mb mw od pt ro : Nat} : PI gr 0 S0 ((ms, mb, mw, od, pt, ro, gr, 0, 0, 0, 0, 0, 0), (1, 1024, fun _ => 0, fun _ => 0), (1, 1024, fun _ => 0, fun _ => 0, fun _ => 0, fun _ => 0, fun _ => 0, fun _ => 0)) := by
  have d6 : ¬ ((-1 : Int32) = 6) := by decide
  refine ⟨[], fun _ => 0, fun i _ => PS.s0, fun b _ => Or.inl rfl, Nat.le_refl _, Nat.le_refl _, fun r hr => absurd hr (Nat.not_lt_zero _), ⟨rfl, rfl, ⟨Nat.le_refl _, Nat.le_of_ble_eq_true rfl⟩, Or.inl (Nat.le_refl _), ⟨0, rfl, Nat.zero_le _, Nat.le_of_ble_eq_true rfl⟩, fun s hs => ?_, fun c hc => ?_, rfl⟩, rfl, fun i _ z => absurd z d6⟩
  · have hs : s < 1 := hs
    show 0 = s
    omega
  · show qCv 0 (fun _ => 0) 1 0 0 0 0 0
    exact ⟨Nat.zero_le _, fun _ => ⟨Nat.one_pos, Nat.le_refl _⟩, fun z => absurd z (by decide), fun z => absurd z (by decide), fun z => absurd z (by decide), fun z => absurd z (by decide), fun z => absurd z (by decide), fun z => absurd z (by decide), fun z => absurd z (by decide)⟩
set_option maxHeartbeats 4000000 in
theorem JZ.start {cy : Nat → ClassId} {h0 h1 h2 : qH} {x y ou : Nat} {p0 : Int32} (e99 : h0 (cy 99) = some (thJ cy [])) (ex : h0 x = none) (ey : h1 y = none) (eo : h2 ou = none)
    (P1 : ∃ (sl bl kr vr : Nat) (g : Nat → Option Nat) (bd br : Nat → Nat), h1 x = some (.inr (6, [.int (if qfm p0 = 0 then -1 else if qfm p0 = 1 then 255 else 0), .ref sl, .ref bl, .ref kr, .ref vr, .int 0, .int 0, .int 0])) ∧ h1 sl = some (.inl (cy 3, 24, .inr (.inr (.inr (.inr (fun _ => none)))))) ∧ h1 bl = some (.inl (cy 2, 4, .inr (.inr (.inr (.inr g))))) ∧ h1 kr = some (.inl (cy 1, 1000, .inr (.inl (fun _ => 0)))) ∧ h1 vr = some (.inl (cy 1, 1000, .inr (.inl (fun _ => 0)))) ∧ kr ≠ vr ∧ (qdel (qs h0 x (.inr (6, [.int 0, .null, .null, .null, .null, .int 0, .int 0, .int 0]))) x sl = none ∧ qdel (qs h0 x (.inr (6, [.int 0, .null, .null, .null, .null, .int 0, .int 0, .int 0]))) x bl = none ∧ qdel (qs h0 x (.inr (6, [.int 0, .null, .null, .null, .null, .int 0, .int 0, .int 0]))) x kr = none ∧ qdel (qs h0 x (.inr (6, [.int 0, .null, .null, .null, .null, .int 0, .int 0, .int 0]))) x vr = none) ∧ (∀ i, i < 4 → g i = some (bd i) ∧ h1 (bd i) = some (.inr (1, [.ref (br i), .int 0, .int 0, .int 0, .null, .int 0])) ∧ h1 (br i) = some (.inl (cy 1, 1000, .inr (.inl (fun _ => 0)))) ∧ br i ≠ kr ∧ br i ≠ vr ∧ qdel (qs h0 x (.inr (6, [.int 0, .null, .null, .null, .null, .int 0, .int 0, .int 0]))) x (bd i) = none ∧ qdel (qs h0 x (.inr (6, [.int 0, .null, .null, .null, .null, .int 0, .int 0, .int 0]))) x (br i) = none ∧ ∀ k, k < 4 → (br i = br k → i = k) ∧ (bd i = bd k → i = k)) ∧ qle (qdel (qs h0 x (.inr (6, [.int 0, .null, .null, .null, .null, .int 0, .int 0, .int 0]))) x) h1)
    (P2 : ∃ (ms mb od pt fi re rc rs so ot cn la ro : Nat) (gr : Int32) (f g fp fr : Nat → Option Nat) (ra rk rv pa : Nat → Nat), gr = qGrn p0 ∧ h2 y = some (qYo (ms, mb, ra 28, od, pt, ro, gr, 0, 0, 0, 0, 0, 0) fi re rc rs so ot cn la (nI 1) (nI 1)) ∧ (h2 ms = some (.inl (cy 5, 24, .inr (.inr (.inr (.inr f))))) ∧ ∀ i, i < 24 → f i = some (ra i)) ∧ (h2 mb = some (.inl (cy 5, 4, .inr (.inr (.inr (.inr g))))) ∧ ∀ i, i < 4 → g i = some (ra (24 + i))) ∧ RI cy (qdel (qs h1 y (.inr (8, [.null, .null, .null, .int 0, .int 0, .int 0, .int 0, .null, .null, .int 0, .int 0, .null, .null, .int 0, .null, .null, .null, .null, .null, .null, .int 0, .null, .int 0]))) y) h2 (fun i => i < 29) ra rk rv ∧ (h2 pt = some (.inl (cy 6, 8, .inr (.inr (.inr (.inr fp))))) ∧ ∀ d, d < 8 → fp d = some (pa d)) ∧ ((∀ d, d < 8 → h2 (pa d) = some (.inl (cy 0, 1000, .inl (fun _ => 0))) ∧ pa d ≠ od ∧ qdel (qs h1 y (.inr (8, [.null, .null, .null, .int 0, .int 0, .int 0, .int 0, .null, .null, .int 0, .int 0, .null, .null, .int 0, .null, .null, .null, .null, .null, .null, .int 0, .null, .int 0]))) y (pa d) = none) ∧ ∀ i j, i < 8 → j < 8 → pa i = pa j → i = j) ∧ h2 od = some (.inl (cy 0, 1000, .inl (fun _ => 0))) ∧ h2 ro = some (.inl (cy 7, 4100, .inr (.inr (.inr (.inr fr))))) ∧ (h2 fi = some (.inl (cy 1, 1024, .inr (.inl (fun _ => 0)))) ∧ h2 re = some (.inl (cy 0, 1024, .inl (fun _ => 0))) ∧ h2 rc = some (.inl (cy 0, 1024, .inl (fun _ => 0))) ∧ h2 rs = some (.inl (cy 0, 1024, .inl (fun _ => 0))) ∧ h2 so = some (.inl (cy 0, 1024, .inl (fun _ => 0))) ∧ h2 ot = some (.inl (cy 0, 1024, .inl (fun _ => 0))) ∧ h2 cn = some (.inl (cy 1, 1024, .inr (.inl (fun _ => 0)))) ∧ h2 la = some (.inl (cy 1, 1024, .inr (.inl (fun _ => 0))))) ∧ (rc ≠ rs ∧ rc ≠ so ∧ rc ≠ ot ∧ rs ≠ so ∧ rs ≠ ot ∧ so ≠ ot ∧ cn ≠ la) ∧ (re ≠ rc ∧ re ≠ rs ∧ re ≠ so ∧ re ≠ ot ∧ fi ≠ cn ∧ fi ≠ la) ∧ (qdel (qs h1 y (.inr (8, [.null, .null, .null, .int 0, .int 0, .int 0, .int 0, .null, .null, .int 0, .int 0, .null, .null, .int 0, .null, .null, .null, .null, .null, .null, .int 0, .null, .int 0]))) y ms = none ∧ qdel (qs h1 y (.inr (8, [.null, .null, .null, .int 0, .int 0, .int 0, .int 0, .null, .null, .int 0, .int 0, .null, .null, .int 0, .null, .null, .null, .null, .null, .null, .int 0, .null, .int 0]))) y mb = none ∧ qdel (qs h1 y (.inr (8, [.null, .null, .null, .int 0, .int 0, .int 0, .int 0, .null, .null, .int 0, .int 0, .null, .null, .int 0, .null, .null, .null, .null, .null, .null, .int 0, .null, .int 0]))) y od = none ∧ qdel (qs h1 y (.inr (8, [.null, .null, .null, .int 0, .int 0, .int 0, .int 0, .null, .null, .int 0, .int 0, .null, .null, .int 0, .null, .null, .null, .null, .null, .null, .int 0, .null, .int 0]))) y pt = none ∧ qdel (qs h1 y (.inr (8, [.null, .null, .null, .int 0, .int 0, .int 0, .int 0, .null, .null, .int 0, .int 0, .null, .null, .int 0, .null, .null, .null, .null, .null, .null, .int 0, .null, .int 0]))) y ro = none ∧ qdel (qs h1 y (.inr (8, [.null, .null, .null, .int 0, .int 0, .int 0, .int 0, .null, .null, .int 0, .int 0, .null, .null, .int 0, .null, .null, .null, .null, .null, .null, .int 0, .null, .int 0]))) y fi = none ∧ qdel (qs h1 y (.inr (8, [.null, .null, .null, .int 0, .int 0, .int 0, .int 0, .null, .null, .int 0, .int 0, .null, .null, .int 0, .null, .null, .null, .null, .null, .null, .int 0, .null, .int 0]))) y re = none ∧ qdel (qs h1 y (.inr (8, [.null, .null, .null, .int 0, .int 0, .int 0, .int 0, .null, .null, .int 0, .int 0, .null, .null, .int 0, .null, .null, .null, .null, .null, .null, .int 0, .null, .int 0]))) y rc = none ∧ qdel (qs h1 y (.inr (8, [.null, .null, .null, .int 0, .int 0, .int 0, .int 0, .null, .null, .int 0, .int 0, .null, .null, .int 0, .null, .null, .null, .null, .null, .null, .int 0, .null, .int 0]))) y rs = none ∧ qdel (qs h1 y (.inr (8, [.null, .null, .null, .int 0, .int 0, .int 0, .int 0, .null, .null, .int 0, .int 0, .null, .null, .int 0, .null, .null, .null, .null, .null, .null, .int 0, .null, .int 0]))) y so = none ∧ qdel (qs h1 y (.inr (8, [.null, .null, .null, .int 0, .int 0, .int 0, .int 0, .null, .null, .int 0, .int 0, .null, .null, .int 0, .null, .null, .null, .null, .null, .null, .int 0, .null, .int 0]))) y ot = none ∧ qdel (qs h1 y (.inr (8, [.null, .null, .null, .int 0, .int 0, .int 0, .int 0, .null, .null, .int 0, .int 0, .null, .null, .int 0, .null, .null, .null, .null, .null, .null, .int 0, .null, .int 0]))) y cn = none ∧ qdel (qs h1 y (.inr (8, [.null, .null, .null, .int 0, .int 0, .int 0, .int 0, .null, .null, .int 0, .int 0, .null, .null, .int 0, .null, .null, .null, .null, .null, .null, .int 0, .null, .int 0]))) y la = none) ∧ qle (qdel (qs h1 y (.inr (8, [.null, .null, .null, .int 0, .int 0, .int 0, .int 0, .null, .null, .int 0, .int 0, .null, .null, .int 0, .null, .null, .null, .null, .null, .null, .int 0, .null, .int 0]))) y) h2) :
    ∃ (h4 : qH) (W0 : qWo), (∀ D N0 H, qP D N0 (qs h2 ou (.inl (cy 1, 1, .inr (.inl (fun _ => 0))))) H → qP D N0 h4 H) ∧ JZ cy h4 x y ou (fun _ => 0) (qGrn p0) 0 S0 W0 S0 W0 ∧ PI (qGrn p0) 0 S0 W0 ∧ W0.2.1.1 = 1 ∧ W0.2.1.2.1 = 1024 := by
  obtain ⟨sl, bl, kr, vr, g1, bd, br, hX, hsl, hbl, hkr, hvr, nkv, ⟨o1, o2, o3, o4⟩, hB, le1⟩ := P1
  obtain ⟨ms, mb, od, pt, fi, re, rc, rs, so, ot, cn, la, ro, gr, f, g, fp, fr, ra, rk, rv, pa, rfl, hY, ⟨hms, hf⟩, ⟨hmb, hg⟩, hRI, ⟨hpt, hfp⟩, ⟨hpa, ipa⟩, hod, hro, ⟨v1, v2, v3, v4, v5, v6, v7, v8⟩, nA, nB, ⟨u1, u2, u3, u4, u5, u6, u7, u8, u9, u10, u11, u12, u13⟩, le2⟩ := P2
  have n99 : cy 99 ≠ x := qne_of ex e99
  have q99 : qdel (qs h0 x (.inr (6, [.int 0, .null, .null, .null, .null, .int 0, .int 0, .int 0]))) x (cy 99) = some (thJ cy []) := qdel_at ((qs_ne n99).trans e99) n99
  have h99 : h1 (cy 99) = some (thJ cy []) := le1 _ _ q99
  have up : ∀ a v, h1 a = some v → qdel (qs h1 y (.inr (8, [.null, .null, .null, .int 0, .int 0, .int 0, .int 0, .null, .null, .int 0, .int 0, .null, .null, .int 0, .null, .null, .null, .null, .null, .null, .int 0, .null, .int 0]))) y a = some v := fun a v z => qdel_at ((qs_ne (qne_of ey z)).trans z) (qne_of ey z)
  have old : ∀ {a z v}, h1 a = some v → qdel (qs h1 y (.inr (8, [.null, .null, .null, .int 0, .int 0, .int 0, .int 0, .null, .null, .int 0, .int 0, .null, .null, .int 0, .null, .null, .null, .null, .null, .null, .int 0, .null, .int 0]))) y z = none → a ≠ z := fun z1 z2 q => by rw [← q, up _ _ z1] at z2; cases z2
  have le3 : ∀ a v, h1 a = some v → h2 a = some v := fun a v z => le2 a v (up a v z)
  obtain ⟨h4, eh4⟩ : ∃ z, z = qs (qs (qs (qs h2 ou (.inl (cy 1, 1, .inr (.inl (fun _ => 0))))) ms (.inl (cy 5, 24, .inr (.inr (.inr (.inr (fun i => some (ra i)))))))) mb (.inl (cy 5, 4, .inr (.inr (.inr (.inr (fun i => some (ra (24 + i))))))))) pt (.inl (cy 6, 8, .inr (.inr (.inr (.inr (fun i => some (pa i))))))) := ⟨_, rfl⟩
  have nmo : ms ≠ ou := qne_of eo hms
  have nbo : mb ≠ ou := qne_of eo hmb
  have npo : pt ≠ ou := qne_of eo hpt
  have nmb : ms ≠ mb := fun q => by rw [q, hmb] at hms; simp at hms
  have nmp : ms ≠ pt := fun q => by rw [q, hpt] at hms; simp at hms
  have nbp : mb ≠ pt := fun q => by rw [q, hpt] at hmb; simp at hmb
  have k4 : ∀ {a v}, h2 a = some v → a ≠ ms → a ≠ mb → a ≠ pt → h4 a = some v := fun z n1 n2 n3 => by
    rw [eh4, qs_ne n3, qs_ne n2, qs_ne n1, qs_ne (qne_of eo z)]; exact z
  have k3 : ∀ {a v}, h1 a = some v → h4 a = some v := fun z => k4 (le3 _ _ z) (old z u1) (old z u2) (old z u4)
  have ky : ∀ {a ci fs}, h2 a = some (.inr (ci, fs)) → h4 a = some (.inr (ci, fs)) := fun z => k4 z (fun q => by rw [q, hms] at z; cases z) (fun q => by rw [q, hmb] at z; cases z) (fun q => by rw [q, hpt] at z; cases z)
  have kn : ∀ {a c n w}, h2 a = some (.inl (c, n, w)) → n ≠ 24 → n ≠ 4 → n ≠ 8 → h4 a = some (.inl (c, n, w)) := fun z n1 n2 n3 => k4 z (fun q => by rw [q, hms] at z; cases z; exact n1 rfl) (fun q => by rw [q, hmb] at z; cases z; exact n2 rfl) (fun q => by rw [q, hpt] at z; cases z; exact n3 rfl)
  have m4 : h4 ms = some (.inl (cy 5, 24, .inr (.inr (.inr (.inr (fun i => some (ra i))))))) := by rw [eh4, qs_ne nmp, qs_ne nmb]; exact qs_self
  have b4 : h4 mb = some (.inl (cy 5, 4, .inr (.inr (.inr (.inr (fun i => some (ra (24 + i)))))))) := by rw [eh4, qs_ne nbp]; exact qs_self
  have p4 : h4 pt = some (.inl (cy 6, 8, .inr (.inr (.inr (.inr (fun i => some (pa i))))))) := by rw [eh4]; exact qs_self
  have c4 : h4 ou = some (.inl (cy 1, 1, .inr (.inl (fun _ => 0)))) := by rw [eh4, qs_ne npo.symm, qs_ne nbo.symm, qs_ne nmo.symm]; exact qs_self
  have hR : ∀ i, i < 29 → qRw cy h4 (ra i) (rk i) (rv i) (-1) 0 0 0 (-1) (fun _ => 0) (fun _ => 0) := fun i hi => (hRI i hi).1.cel (fun b v e c => by
    rcases c with ⟨fs, rfl⟩ | ⟨w, rfl⟩
    · exact ky e
    · exact kn e (by decide) (by decide) (by decide))
  have hAw : ∀ z, (z = fi ∨ z = re ∨ z = rc ∨ z = rs ∨ z = so ∨ z = ot ∨ z = cn ∨ z = la) → (∃ c w, h2 z = some (.inl (c, 1024, w)) ∧ h4 z = some (.inl (c, 1024, w))) ∧ qdel (qs h1 y (.inr (8, [.null, .null, .null, .int 0, .int 0, .int 0, .int 0, .null, .null, .int 0, .int 0, .null, .null, .int 0, .null, .null, .null, .null, .null, .null, .int 0, .null, .int 0]))) y z = none := fun z e => by
    rcases e with rfl | rfl | rfl | rfl | rfl | rfl | rfl | rfl
    · exact ⟨⟨_, _, v1, kn v1 (by decide) (by decide) (by decide)⟩, u6⟩
    · exact ⟨⟨_, _, v2, kn v2 (by decide) (by decide) (by decide)⟩, u7⟩
    · exact ⟨⟨_, _, v3, kn v3 (by decide) (by decide) (by decide)⟩, u8⟩
    · exact ⟨⟨_, _, v4, kn v4 (by decide) (by decide) (by decide)⟩, u9⟩
    · exact ⟨⟨_, _, v5, kn v5 (by decide) (by decide) (by decide)⟩, u10⟩
    · exact ⟨⟨_, _, v6, kn v6 (by decide) (by decide) (by decide)⟩, u11⟩
    · exact ⟨⟨_, _, v7, kn v7 (by decide) (by decide) (by decide)⟩, u12⟩
    · exact ⟨⟨_, _, v8, kn v8 (by decide) (by decide) (by decide)⟩, u13⟩
  have nz : ∀ {z c n w}, (z = fi ∨ z = re ∨ z = rc ∨ z = rs ∨ z = so ∨ z = ot ∨ z = cn ∨ z = la) → ∀ {b}, h2 b = some (.inl (c, n, w)) → n ≠ 1024 → z ≠ b := fun {z c n w} e {b} hb hn q => by
    obtain ⟨⟨c', w', a1, -⟩, -⟩ := hAw z e
    rw [q, hb] at a1; cases a1; exact hn rfl
  have ny : ∀ {z ci fs}, (z = fi ∨ z = re ∨ z = rc ∨ z = rs ∨ z = so ∨ z = ot ∨ z = cn ∨ z = la) → ∀ {b}, h2 b = some (.inr (ci, fs)) → z ≠ b := fun {z ci fs} e {b} hb q => by
    obtain ⟨⟨c', w', a1, -⟩, -⟩ := hAw z e
    rw [q, hb] at a1; cases a1
  have hJ : ∀ z, JRf h4 y (fun z => z = fi ∨ z = re ∨ z = rc ∨ z = rs ∨ z = so ∨ z = ot ∨ z = cn ∨ z = la) ra rk rv pa (ms, mb, ra 28, od, pt, ro, qGrn p0, 0, 0, 0, 0, 0, 0) (fun _ => 0) 0 z → (z = y ∨ qdel (qs h1 y (.inr (8, [.null, .null, .null, .int 0, .int 0, .int 0, .int 0, .null, .null, .int 0, .int 0, .null, .null, .int 0, .null, .null, .null, .null, .null, .null, .int 0, .null, .int 0]))) y z = none) ∧ ∃ v, h2 z = some v := fun z j => by
    rcases j with rfl | ⟨e, -⟩ | ⟨i, hi, e⟩ | rfl | rfl | rfl | rfl | rfl | ⟨d, hd, rfl⟩ | ⟨i, hi, -⟩
    · exact ⟨Or.inl rfl, _, hY⟩
    · obtain ⟨⟨c', w', a1, -⟩, a2⟩ := hAw z e
      exact ⟨Or.inr a2, _, a1⟩
    · obtain ⟨⟨-, -, -, a1, a2, a3⟩, ⟨b1, b2, b3⟩, -⟩ := hRI i hi
      rcases e with rfl | rfl | rfl
      · exact ⟨Or.inr b1, _, a1⟩
      · exact ⟨Or.inr b2, _, a2⟩
      · exact ⟨Or.inr b3, _, a3⟩
    · exact ⟨Or.inr u1, _, hms⟩
    · exact ⟨Or.inr u2, _, hmb⟩
    · exact ⟨Or.inr u3, _, hod⟩
    · exact ⟨Or.inr u4, _, hpt⟩
    · exact ⟨Or.inr u5, _, hro⟩
    · exact ⟨Or.inr (hpa d hd).2.2, _, (hpa d hd).1⟩
    · exact absurd hi (Nat.not_lt_zero _)
  have hC : ∀ z, JCl sl bl kr vr br (fun q => q = cy 99) (fun _ _ => False) z → ∃ v, h1 z = some v := fun z c => by
    rcases c with rfl | rfl | rfl | rfl | ⟨b, hb, rfl⟩ | rfl | ⟨b, hb, c⟩
    · exact ⟨_, hsl⟩
    · exact ⟨_, hbl⟩
    · exact ⟨_, hkr⟩
    · exact ⟨_, hvr⟩
    · exact ⟨_, (hB b hb).2.2.1⟩
    · exact ⟨_, h99⟩
    · exact c.elim
  have w1 := kn v1 (by decide) (by decide) (by decide)
  have w2 := kn v2 (by decide) (by decide) (by decide)
  have w3 := kn v3 (by decide) (by decide) (by decide)
  have w4 := kn v4 (by decide) (by decide) (by decide)
  have w5 := kn v5 (by decide) (by decide) (by decide)
  have w6 := kn v6 (by decide) (by decide) (by decide)
  have w7 := kn v7 (by decide) (by decide) (by decide)
  have w8 := kn v8 (by decide) (by decide) (by decide)
  have d3 : ¬ ((-1 : Int32) = 1 ∨ (-1 : Int32) = 2) := by decide
  have x1 : ∀ {z}, qdel (qs h0 x (.inr (6, [.int 0, .null, .null, .null, .null, .int 0, .int 0, .int 0]))) x z = none → cy 99 ≠ z := fun e q => by rw [← q, q99] at e; cases e
  refine ⟨h4, ((ms, mb, ra 28, od, pt, ro, qGrn p0, 0, 0, 0, 0, 0, 0), (1, 1024, fun _ => 0, fun _ => 0), (1, 1024, fun _ => 0, fun _ => 0, fun _ => 0, fun _ => 0, fun _ => 0, fun _ => 0)), fun D N0 H hP => ?_, ?_, PI.start, rfl, rfl⟩
  · rw [eh4]
    have s1 := hP.ref ((qs_ne nmo).trans hms) (f' := fun i => some (ra i)) hf
    have s2 := s1.ref ((qs_ne nmb.symm).trans ((qs_ne nbo).trans hmb)) (f' := fun i => some (ra (24 + i))) hg
    exact s2.ref ((qs_ne nbp.symm).trans ((qs_ne nmp.symm).trans ((qs_ne npo).trans hpt))) (f' := fun i => some (pa i)) hfp
  · refine ⟨_, sl, bl, kr, vr, 0, fun _ => none, bd, br, fun _ => 0, fun q => q = cy 99, fun _ _ => False, fun _ => 0, fun z => z = fi ∨ z = re ∨ z = rc ∨ z = rs ∨ z = so ∨ z = ot ∨ z = cn ∨ z = la, ra, rk, rv, pa, fun _ => 0, ⟨⟨k3 hX, fun s a b => absurd b (by show ¬ s < 1; omega), fun s t a b => absurd b (by show ¬ s < 1; omega)⟩, ⟨k3 hsl, ⟨g1, k3 hbl, fun b hb => (hB b hb).1⟩, ⟨_, k3 hkr⟩, ⟨_, k3 hvr⟩⟩, fun i _ => Or.inl ⟨rfl, rfl⟩, fun b hb => ⟨0, 0, 0, 0, none, _, k3 (hB b hb).2.1, k3 (hB b hb).2.2.1, Or.inl ⟨rfl, rfl, fun _ z => z⟩⟩, ⟨⟨nkv, fun q => ?_, fun b hb => ⟨(hB b hb).2.2.2.1, (hB b hb).2.2.2.2.1⟩, fun b c hb hc => (hB b hb).2.2.2.2.2.2.2 c hc⟩, fun q c => ?_, fun _ _ _ _ _ _ z => z.elim, fun b hb => ⟨fun _ z => z.elim, fun b c => ?_, k3 h99, rfl⟩, fun b _ z => absurd z d3, Nat.le_of_ble_eq_true rfl⟩⟩, ⟨⟨fi, re, rc, rs, so, ot, cn, la, fun _ => 0, fun _ => 0, fun _ => 0, fun _ => 0, fun _ => 0, fun _ => 0, fun _ => 0, fun _ => 0, ky hY, ⟨w1, w2, w3, w4, w5, w6, w7, w8⟩, fun _ _ => ⟨rfl, rfl⟩, fun _ _ => ⟨rfl, rfl, rfl, rfl, rfl, rfl⟩, fun _ _ _ => rfl, nA, nB, ⟨by simp, by simp, by simp, by simp, by simp, by simp, by simp, by simp⟩, ⟨Nat.le_of_ble_eq_true rfl, Nat.le_of_ble_eq_true rfl, Nat.le_of_ble_eq_true rfl, Nat.le_of_ble_eq_true rfl, Nat.le_of_ble_eq_true rfl, Nat.le_of_ble_eq_true rfl⟩⟩, fun z => ny z hY rfl, ⟨m4, b4, rfl, fun i j hi hj => (hRI i hi).2.2 j hj, fun i hi => ⟨0, -1, fun _ => 0, fun _ => 0, hR i (by omega), Nat.zero_le _, rfl, Or.inl rfl⟩, ⟨-1, 0, 0, -1, 0, fun _ => 0, fun _ => 0, hR 28 (by decide)⟩⟩, ⟨p4, ⟨_, kn hod (by decide) (by decide) (by decide)⟩, ⟨fun _ _ => 0, fun d hd => kn (hpa d hd).1 (by decide) (by decide) (by decide)⟩, fun d hd => (hpa d hd).2.1, ipa⟩, ⟨⟨fr, kn hro (by decide) (by decide) (by decide), fun i hi => absurd hi (Nat.not_lt_zero _)⟩, fun z => nz z hro (by decide) rfl, fun i hi => absurd hi (Nat.not_lt_zero _), Nat.zero_le _⟩, fun b z => ⟨nz z hms (by decide), nz z hmb (by decide), fun i hi => ⟨ny z (hRI i hi).1.2.2.2.1, nz z (hRI i hi).1.2.2.2.2.1 (by decide), nz z (hRI i hi).1.2.2.2.2.2 (by decide)⟩, nz z hod (by decide), nz z hpt (by decide), fun d hd => nz z (hpa d hd).1 (by decide)⟩⟩, fun z e => ?_, c4, ?_, Nat.le_refl _, rfl, fun z c => ⟨fun j => ?_, fun q => ?_⟩, fun j => ?_⟩
    · rw [q, hbl] at hsl; simp at hsl
    · rcases c with rfl | ⟨b, -, z⟩
      · exact ⟨n99, x1 o1, x1 o2, x1 o3, x1 o4, fun b hb => ⟨x1 (hB b hb).2.2.2.2.2.1, x1 (hB b hb).2.2.2.2.2.2.1⟩, fun ci fs z => by rw [k3 h99] at z; cases z⟩
      · exact z.elim
    · rcases c with rfl | z
      · exact ⟨_, k3 h99⟩
      · exact z.elim
    · obtain ⟨⟨c, w, -, a2⟩, -⟩ := hAw z e
      exact ⟨_, a2⟩
    · unfold qMk; rw [qGrn_fm]
    · obtain ⟨v, hv⟩ := hC z c
      rcases (hJ z j).1 with q | q
      · rw [q, ey] at hv; cases hv
      · exact old hv q rfl
    · obtain ⟨v, hv⟩ := hC z c
      rw [q] at hv
      exact absurd ((le3 _ _ hv).symm.trans eo) (by simp)
    · obtain ⟨-, v, hv⟩ := hJ ou j
      exact absurd (hv.symm.trans eo) (by simp)
