/-- the rows of numbers that streams are made of -/
def qRz (cy : Nat → ClassId) (h : qH) (A : Nat → Prop) (ro Rn : Nat) (R : Nat → List Int64) (ad : Nat → Nat) : Prop := (∃ f, h ro = some (.inl (cy 7, 4100, .inr (.inr (.inr (.inr f))))) ∧ ∀ i, i < Rn → f i = some (ad i)) ∧ ¬ A ro ∧ (∀ i, i < Rn → h (ad i) = some (.inl (cy 1, (R i).length, .inr (.inl (fun j => (R i).getD j 0)))) ∧ ¬ A (ad i) ∧ (R i).length ≤ 1000) ∧ Rn ≤ 4100
theorem qRz.keep {cy : Nat → ClassId} {h h' : qH} {A A' : Nat → Prop} {ro Rn y : Nat} {R : Nat → List Int64} {ad : Nat → Nat} {fs : List Value} (r : qRz cy h A ro Rn R ad) (k : qFy h h' y A A') (hy : h y = some (.inr (8, fs))) : qRz cy h' A' ro Rn R ad := by
  obtain ⟨⟨f, r1, r2⟩, r3, r4, r5⟩ := r
  obtain ⟨k1, k2, k3⟩ := k
  have nA : ∀ {b x}, h b = some x → ¬ A b → ¬ A' b := fun hb n z => (k3 _ z).elim n (fun q => q _ hb)
  refine ⟨⟨f, k1 _ _ r1 (qne_arr (cy := cy) r1 hy) r3, r2⟩, nA r1 r3, fun i hi => ?_, r5⟩
  obtain ⟨a1, a2, a3⟩ := r4 i hi
  exact ⟨k1 _ _ a1 (qne_arr (cy := cy) a1 hy) a2, nA a1 a2, a3⟩
/-- what has been spent on the stream rows -/
def qP1 (a : qWd) : Nat := 8 * Nat.log2 a.2.1
def qP2 (a : qWd) : Nat := 16 * a.2.1
theorem qPush1 {Bd sl Rn : Nat} {dp : Nat → Nat} {o : qYf} {a : qWd} {k : qKd} (i : qWv Bd sl Rn dp (o, a, k)) {x : Int64} {r : Nat} : qP1 (xCons a x r) = qP1 a + ((if k.1 = k.2.1 then 6 else 0) + (if a.1 = a.2.1 then 2 else 0)) ∧ qP2 (xCons a x r) = qP2 a + ((if k.1 = k.2.1 then 12 * k.2.1 else 0) + (if a.1 = a.2.1 then 4 * a.2.1 else 0)) := by
  have hn : a.1 = k.1 := i.n
  have hc : a.2.1 = k.2.1 := i.c
  have hp : 1 ≤ a.1 ∧ a.1 ≤ a.2.1 := i.p
  unfold qP1 qP2
  show 8 * Nat.log2 (if a.1 = a.2.1 then 2 * a.2.1 else a.2.1) = _ ∧ 16 * (if a.1 = a.2.1 then 2 * a.2.1 else a.2.1) = _
  rw [← hn, ← hc]
  by_cases c : a.1 = a.2.1
  · rw [if_pos c, if_pos c, if_pos c, if_pos c, if_pos c, Nat.log2_two_mul (by omega)]
    exact ⟨by omega, by omega⟩
  · rw [if_neg c, if_neg c, if_neg c, if_neg c, if_neg c]
    exact ⟨by omega, by omega⟩
theorem qP_mono {a b : qWd} (h1 : 1 ≤ a.2.1) (h : a.2.1 ≤ b.2.1) : qP1 a ≤ qP1 b ∧ qP2 a ≤ qP2 b := by
  unfold qP1 qP2
  have h2 : a.2.1.log2 ≤ b.2.1.log2 := (Nat.le_log2 (by omega)).mpr (Nat.le_trans (Nat.log2_self_le (by omega)) h)
  exact ⟨by omega, by omega⟩
theorem qWv.L {Bd sl Rn : Nat} {dp : Nat → Nat} {o : qYf} {a : qWd} {k : qKd} (i : qWv Bd sl Rn dp (o, a, k)) (hB : Bd ≤ 4000) : (a.2.1 ≤ 50000 ∧ k.2.1 ≤ 50000) ∧ a.1 ≤ 24000 := by
  obtain ⟨M, -, hM, hb⟩ := i.m
  have hb : a.1 + sl ≤ Bd + M := hb
  have hc : a.2.1 = k.2.1 := i.c
  have hg : a.2.1 ≤ 1024 ∨ a.2.1 ≤ 2 * (a.1 - 1) := i.g
  omega
theorem qStp.P {Bd sl Rn dc : Nat} {dp : Nat → Nat} {o : qYf} {a : qWd} {k : qKd} {sl2 : Nat} {r : Nat × qWo} (i : qWv Bd sl2 Rn dp (o, a, k)) (s : qStp Bd sl Rn dp (o, a, k) r dc) : qP1 a ≤ qP1 r.2.2.1 ∧ qP2 a ≤ qP2 r.2.2.1 := by
  obtain ⟨_, _, _, _, h, _⟩ := s
  have hp : 1 ≤ a.1 ∧ a.1 ≤ a.2.1 := i.p
  exact qP_mono (by omega) h
/-- a force, as the machine runs it, for cells less deep than d -/
def qFS (l : Launch) (D : va_G) (cy : Nat → ClassId) (N0 y Bd Rn : Nat) (R : Nat → List Int64) (ad : Nat → Nat) (F : qWo → Nat → Nat × qWo) (d : Nat) : Prop := ∀ (h : qH) (A : Nat → Prop) (o : qYf) (a : qWd) (k : qKd) (sl : Nat) (dp : Nat → Nat) (c : Nat), qSy cy h y A o a k → ¬ A y → qRz cy h A o.2.2.2.2.2.1 Rn R ad → qWv Bd sl Rn dp (o, a, k) → oFq o = 0 → c < a.1 → dp c < d →
  qC l D cy N0 yX8_force cX8_force 3 (some .int) (4 * d + 4) (200 * d + 200) (qP1 (F (o, a, k) c).2.2.1 - qP1 a) (qP2 (F (o, a, k) c).2.2.1 - qP2 a) [.ref y, .int (nI c)] h (fun v h' => v = some (.int (nI (F (o, a, k) c).1)) ∧ ∃ A', qSy cy h' y A' (F (o, a, k) c).2.1 (F (o, a, k) c).2.2.1 (F (o, a, k) c).2.2.2 ∧ qFy h h' y A A' ∧ ¬ A' y) (fun E h' => False)
theorem dX8_ofRow_0 : decode cX8_ofRow 0 = .ok (.iload_n 2, 1) := by decide +kernel
theorem dX8_ofRow_1 : decode cX8_ofRow 1 = .ok (.aload_n 0, 1) := by decide +kernel
theorem dX8_ofRow_2 : decode cX8_ofRow 2 = .ok (.getfield 65, 3) := by decide +kernel
theorem dX8_ofRow_5 : decode cX8_ofRow 5 = .ok (.iload_n 1, 1) := by decide +kernel
theorem dX8_ofRow_6 : decode cX8_ofRow 6 = .ok (.aaload, 1) := by decide +kernel
theorem dX8_ofRow_7 : decode cX8_ofRow 7 = .ok (.arraylength, 1) := by decide +kernel
theorem dX8_ofRow_8 : decode cX8_ofRow 8 = .ok (.if_icmp .lt 7, 3) := by decide +kernel
theorem dX8_ofRow_11 : decode cX8_ofRow 11 = .ok (.iconst 0, 1) := by decide +kernel
theorem dX8_ofRow_12 : decode cX8_ofRow 12 = .ok (.goto 26, 3) := by decide +kernel
theorem dX8_ofRow_15 : decode cX8_ofRow 15 = .ok (.aload_n 0, 1) := by decide +kernel
theorem dX8_ofRow_16 : decode cX8_ofRow 16 = .ok (.aload_n 0, 1) := by decide +kernel
theorem dX8_ofRow_17 : decode cX8_ofRow 17 = .ok (.getfield 65, 3) := by decide +kernel
theorem dX8_ofRow_20 : decode cX8_ofRow 20 = .ok (.iload_n 1, 1) := by decide +kernel
theorem dX8_ofRow_21 : decode cX8_ofRow 21 = .ok (.aaload, 1) := by decide +kernel
theorem dX8_ofRow_22 : decode cX8_ofRow 22 = .ok (.iload_n 2, 1) := by decide +kernel
theorem dX8_ofRow_23 : decode cX8_ofRow 23 = .ok (.laload, 1) := by decide +kernel
theorem dX8_ofRow_24 : decode cX8_ofRow 24 = .ok (.aload_n 0, 1) := by decide +kernel
theorem dX8_ofRow_25 : decode cX8_ofRow 25 = .ok (.iconst 2, 1) := by decide +kernel
theorem dX8_ofRow_26 : decode cX8_ofRow 26 = .ok (.iload_n 1, 1) := by decide +kernel
theorem dX8_ofRow_27 : decode cX8_ofRow 27 = .ok (.iload_n 2, 1) := by decide +kernel
theorem dX8_ofRow_28 : decode cX8_ofRow 28 = .ok (.iconst 1, 1) := by decide +kernel
theorem dX8_ofRow_29 : decode cX8_ofRow 29 = .ok (.iadd, 1) := by decide +kernel
theorem dX8_ofRow_30 : decode cX8_ofRow 30 = .ok (.lconst 0, 1) := by decide +kernel
theorem dX8_ofRow_31 : decode cX8_ofRow 31 = .ok (.lconst 0, 1) := by decide +kernel
theorem dX8_ofRow_32 : decode cX8_ofRow 32 = .ok (.invokevirtual 188, 3) := by decide +kernel
theorem dX8_ofRow_35 : decode cX8_ofRow 35 = .ok (.invokevirtual 143, 3) := by decide +kernel
theorem dX8_ofRow_38 : decode cX8_ofRow 38 = .ok (.ireturn, 1) := by decide +kernel
set_option maxRecDepth 100000 in
set_option maxHeartbeats 4000000 in
theorem w_ofRow (l : Launch) (D : va_G) (cy : Nat → ClassId) (N0 : Nat) (h : qH) (y : Nat) (A : Nat → Prop) (o : qYf) (a : qWd) (k : qKd) (R : Nat → List Int64) (ad : Nat → Nat) (Rn : Nat) (row ii : Nat) (hW : qSy cy h y A o a k) (nA : ¬ A y) (hL : a.2.1 ≤ 50000 ∧ k.2.1 ≤ 50000) (hR : qRz cy h A o.2.2.2.2.2.1 Rn R ad) (hrow : row < Rn) (hi9 : ii ≤ 1001) : qC l D cy N0 yX8_ofRow cX8_ofRow 3 (some .int) 2 60 (if (R row).length ≤ ii then 0 else qGc a k) (if (R row).length ≤ ii then 0 else qGs a k) [.ref y, .int (nI row), .int (nI ii)] h (fun v h' => v = some (.int (nI (xRow R (o, a, k) row ii).1)) ∧ ∃ A', qSy cy h' y A' (xRow R (o, a, k) row ii).2.1 (xRow R (o, a, k) row ii).2.2.1 (xRow R (o, a, k) row ii).2.2.2 ∧ qFy h h' y A A' ∧ ¬ A' y) (fun E h' => False) := by
  refine q_ofW (by decide) (by exact Nat.le_of_ble_eq_true rfl) ?_
  intro p e s m below meth c ls C hP hl
  have hx := C.1
  have hb := C.2.1
  have hS9 : va_S (qA N0) s.heap s.heap [] := va_S.rf
  have hl : lv_has ls 3 [(0, .ref y), (1, .int (nI row)), (2, .int (nI ii))] := hl
  have hle : qle h h := qle_rf
  have hS := hW
  obtain ⟨fi1, re1, rc1, rs1, so1, ot1, cn1, la1, F1, Rt1, Rc1, Rs1, So1, Ot1, Cn1, La1, hY1, ⟨s0_1, s1_1, s2_1, s3_1, s4_1, s5_1, s6_1, s7_1⟩, hg1_, hk1_, hz1_, hd1_, he1_, hA1_, hb1_⟩ := id hS
  unfold qYo at hY1
  have hLk := hL.2
  obtain ⟨⟨fro, hro, hfr⟩, nro, hrw, hRn⟩ := hR
  obtain ⟨hrr, nrr, hrl⟩ := hrw row hrow
  refine lv_iload_n hx hb dX8_ofRow_0 rfl (lv_at hl 2 rfl) ?_
  refine lv_aload_n hx hb dX8_ofRow_1 rfl (lv_at hl 0 rfl) ?_
  refine q_get C hP hY1 rfl inX8 21 (by decide) g1188 rfl dX8_ofRow_2 ?_
  refine lv_iload_n hx hb dX8_ofRow_5 rfl (lv_at hl 1 rfl) ?_
  refine q_aaldA C hP hro rfl (show row < 4100 by omega) (by omega) (hfr row hrow) dX8_ofRow_6 ?_
  refine q_alen C hP hrr rfl dX8_ofRow_7 ?_
  refine lv_icmp_lt (tgt := 15) hx hb dX8_ofRow_8 (by decide) (fun c8 => ?_) (fun c8 => ?_)
  · replace c8 : ii < ((R row).length) := (nI_ltI (a := ii) (b := (R row).length) (by omega) (by omega)).mp c8
    have eg : (if (R row).length ≤ ii then 0 else qGc a k) = (if k.1 = k.2.1 then 6 else 0) + (if a.1 = a.2.1 then 2 else 0) ∧ (if (R row).length ≤ ii then 0 else qGs a k) = (if k.1 = k.2.1 then 12 * k.2.1 else 0) + (if a.1 = a.2.1 then 4 * a.2.1 else 0) := ⟨if_neg (by omega), if_neg (by omega)⟩
    obtain ⟨eg1, eg2⟩ := eg
    refine lv_aload_n hx hb dX8_ofRow_15 rfl (lv_at hl 0 rfl) ?_
    refine lv_aload_n hx hb dX8_ofRow_16 rfl (lv_at hl 0 rfl) ?_
    refine q_get C hP hY1 rfl inX8 21 (by decide) g1188 rfl dX8_ofRow_17 ?_
    refine lv_iload_n hx hb dX8_ofRow_20 rfl (lv_at hl 1 rfl) ?_
    refine q_aaldA C hP hro rfl (show row < 4100 by omega) (by omega) (hfr row hrow) dX8_ofRow_21 ?_
    refine lv_iload_n hx hb dX8_ofRow_22 rfl (lv_at hl 2 rfl) ?_
    refine q_laldN C hP hrr (by omega) (by omega) dX8_ofRow_23 ?_
    refine lv_aload_n hx hb dX8_ofRow_24 rfl (lv_at hl 0 rfl) ?_
    refine lv_iconst (v := nI 2) hx hb dX8_ofRow_25 (by decide) ?_
    refine lv_iload_n hx hb dX8_ofRow_26 rfl (lv_at hl 1 rfl) ?_
    refine lv_iload_n hx hb dX8_ofRow_27 rfl (lv_at hl 2 rfl) ?_
    refine lv_iconst (v := nI 1) hx hb dX8_ofRow_28 (by decide) ?_
    refine q_iaddN hx hb dX8_ofRow_29 ?_
    refine lv_lconst (v := 0) hx hb dX8_ofRow_30 (by decide) ?_
    refine lv_lconst (v := 0) hx hb dX8_ofRow_31 (by decide) ?_
    refine q_callV (rest := [.long ((R row).getD ii 0), .ref y]) C (w_cell l D cy N0 h y A o a k 2 row (ii + 1) 0 0 hS (by omega)) kX8_cell g1305 g1307 rfl gp47 g4 hP hS9 hY1 (by first | decide | omega) hl.1 rfl (by simp [q_catrf, q_cati, q_catl, q_cata, q_catn]) (by first | decide | omega) dX8_ofRow_32 (fun q ce E h' H1 locs1 hE => hE.elim) (fun v hh1 H locs hq hP hS9 => ?_)
    obtain ⟨rfl, Aq1, hSq1, hFq1⟩ := hq
    have nAq1 : ¬ Aq1 y := fun z => (hFq1.2.2 y z).elim nA (fun q => q _ hY1)
    replace hS := hSq1
    have hFt1 := hFq1
    obtain ⟨fi2, re2, rc2, rs2, so2, ot2, cn2, la2, F2, Rt2, Rc2, Rs2, So2, Ot2, Cn2, La2, hY2, ⟨s0_2, s1_2, s2_2, s3_2, s4_2, s5_2, s6_2, s7_2⟩, hg2_, hk2_, hz2_, hd2_, he2_, hA2_, hb2_⟩ := id hS
    unfold qYo at hY2
    refine q_callV (rest := []) C (w_cons l D cy N0 hh1 y Aq1 o a (xCell k 2 row (ii + 1) 0 0) ((R row).getD ii 0) (k.1) hS (by omega)) kX8_cons g1315 g1317 rfl gp48 g4 hP hS9 hY2 (by first | decide | omega) hl.1 rfl (by decide) (by first | decide | omega) dX8_ofRow_35 (fun q ce E h' H1 locs1 hE => hE.elim) (fun v hh2 H locs hq hP hS9 => ?_)
    obtain ⟨rfl, Aq2, hSq2, hFq2⟩ := hq
    have nAq2 : ¬ Aq2 y := fun z => (hFq2.2.2 y z).elim nAq1 (fun q => q _ hY2)
    replace hS := hSq2
    have hFt2 := hFt1.tr hFq2 nAq2
    have ex : xRow R (o, a, k) row ii = (a.1, o, xCons a ((R row).getD ii 0) k.1, xCell k 2 row (ii + 1) 0 0) := by unfold xRow; rw [if_neg (by omega)]
    exact q_iret C hP hS9 ⟨by rw [ex], Aq2, by rw [ex]; exact hS, hFt2, nAq2⟩ (by omega) dX8_ofRow_38
  · replace c8 : ¬ ii < ((R row).length) := fun zq => c8 ((nI_ltI (a := ii) (b := (R row).length) (by omega) (by omega)).mpr zq)
    refine lv_iconst (v := nI 0) hx hb dX8_ofRow_11 (by decide) ?_
    refine lv_goto (tgt := 38) hx hb dX8_ofRow_12 (by decide) ?_
    have ex : xRow R (o, a, k) row ii = (0, o, a, k) := by unfold xRow; rw [if_pos (by omega)]
    exact q_iret C hP hS9 ⟨by rw [ex], A, by rw [ex]; exact hS, qFy.rf, nA⟩ (by omega) dX8_ofRow_38
