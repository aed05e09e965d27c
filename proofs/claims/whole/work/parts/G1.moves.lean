def zlcmp := @W.lcmp
theorem zmvs {n m : Nat} (hm : m ≤ 20000) (hn : n < 2 ^ 31) : nI n ≤ 20000 - nI m ↔ m + n ≤ 20000 := by
  rw [show (20000 : Int32) = nI 20000 from rfl, q_nsub hm, nI_leI hn (by omega)]
  omega
section ZMV
variable {cy : Nat → ClassId} {h h' : qH} {x sl bl kr vr E : Nat} {mk : Int32} {fs : Nat → Option Nat} {bd br eb : Nat → Nat} {Im Ok : Nat → Prop} {Xb : Nat → Nat → Prop} {g : Nat → Nat} {S : Nat → qSlot} {W : qWo} {Bd sk Rn : Nat} {dp : Nat → Nat}
theorem zQ.mv (q : zQ cy h x mk sl bl kr vr E fs bd br eb Im Xb g S W) (iv : qWv Bd sk Rn dp W) {m : Int32} : zQ cy (qs h x (.inr (6, [.int mk, .ref sl, .ref bl, .ref kr, .ref vr, .int (oCq W.1), .int m, .int (nI E)]))) x mk sl bl kr vr E fs bd br eb Im Xb g S (oMv W.1 m, W.2) := by
  have q0 := q
  obtain ⟨q1, ⟨a1, ⟨q9, a2, a3⟩, ⟨f1, a4⟩, f2, a5⟩, q3, q4, s1, s2, s3, s4, s5, s6⟩ := q
  obtain ⟨o, a, kk⟩ := W
  have ka : ∀ {b : Nat} {y : ClassId × vp_A} {o : va_E}, h b = some (.inl y) → qs h x o b = some (.inl y) := fun {b y o} e => (qs_ne (fun z => by rw [z, q1.1] at e; cases e)).trans e
  have ko : ∀ {b ci : Nat} {fv : List Value} {o : va_E}, h b = some (.inr (ci, fv)) → ci ≠ 6 → qs h x o b = some (.inr (ci, fv)) := fun {b ci fv o} e c => (qs_ne (fun z => by rw [z, q1.1] at e; simp at e; exact c e.1.symm)).trans e
  refine q0.gen (zW.setx (o' := oMv o m) q1 iv) ⟨ka a1, ⟨q9, ka a2, a3⟩, ⟨f1, ka a4⟩, f2, ka a5⟩ (Nat.le_refl _) s6 (fun _ _ => rfl) (fun b ci fv e _ c => ko e c) (fun b hb o e => ?_) (fun b o e y => (qs_ne (s2 b y).1).trans e) (fun j hj => Or.inl ⟨rfl, rfl, fun _ => rfl⟩)
  obtain ⟨op, kd, ln, ed, rt, f, -, y2, -⟩ := q4 b hb
  rw [y2] at e
  cases e
  exact ka y2
theorem qWv.mvs (i : qWv Bd sk Rn dp W) {m M2 : Nat} (hm : oMq W.1 = nI m) (h1 : m ≤ M2 ∧ m ≤ 20000) (h2 : M2 ≤ 20000) : qWv Bd sk Rn dp (oMv W.1 (nI M2), W.2) := ⟨i.n, i.c, i.p, i.g, by
  obtain ⟨M, e, h3, h4⟩ := i.m
  have : M = m := nI_inj32 (by omega) (by omega) (e.symm.trans hm)
  exact ⟨M2, rfl, h2, by show W.2.1.1 + sk ≤ Bd + M2; omega⟩, i.r, i.k, i.z⟩
theorem zV.row {s : qSlot} {x1 x2 x3 x4 : Option Nat} {dv : Int32} {a : Nat} {y y' : ClassId × vp_A} (z : zV cy h Im Ok mk g s x1 x2 x3 x4 dv) (hx : h a = some (.inl y)) (hi : ∀ b, Im b → b ≠ a) : zV cy (qs h a (.inl y')) Im Ok mk g s x1 x2 x3 x4 dv := z.keep (fun b fs e => (qs_ne (fun w => by rw [w, hx] at e; cases e)).trans e) (fun b fs e => (qs_ne (fun w => by rw [w, hx] at e; cases e)).trans e) (fun b o e w => (qs_ne (hi b w)).trans e) (fun _ => rfl)
theorem zQ.rowk (q : zQ cy h x mk sl bl kr vr E fs bd br eb Im Xb g S W) (iv : qWv Bd sk Rn dp W) (f' : Nat → Int64) : zQ cy (qs h kr (.inl (cy 1, 1000, .inr (.inl f')))) x mk sl bl kr vr E fs bd br eb Im Xb g S W := by
  have q0 := q
  obtain ⟨q1, ⟨a1, ⟨q9, a2, a3⟩, ⟨f1, a4⟩, f2, a5⟩, q3, q4, s1, s2, s3, s4, s5, s6⟩ := q
  obtain ⟨o, a, kk⟩ := W
  have ko : ∀ {b ci : Nat} {fv : List Value} {o : va_E}, h b = some (.inr (ci, fv)) → qs h kr o b = some (.inr (ci, fv)) := fun {b ci fv o} e => (qs_ne (fun z => by rw [z, a4] at e; cases e)).trans e
  have ka : ∀ {b : Nat} {c : ClassId} {n : Nat} {f : Nat → Option Nat} {o : va_E}, h b = some (.inl (c, n, .inr (.inr (.inr (.inr f))))) → qs h kr o b = some (.inl (c, n, .inr (.inr (.inr (.inr f))))) := fun {b c n f o} e => (qs_ne (fun z => by rw [z, a4] at e; simp at e)).trans e
  refine q0.gen ⟨ko q1.1, zG.keep iv q1.2 (fun b fs e _ => ko e) (fun b fs e => ko e) (fun _ _ => rfl)⟩ ⟨ka a1, ⟨q9, ka a2, a3⟩, ⟨f', qs_self⟩, f2, (qs_ne s1.1.symm).trans a5⟩ (Nat.le_refl _) s6 (fun _ _ => rfl) (fun b ci fv e _ _ => ko e) (fun b hb o e => (qs_ne (s1.2.2.1 b hb).1).trans e) (fun b o e y => (qs_ne (s2 b y).2.2.2.1).trans e) (fun j hj => Or.inl ⟨rfl, rfl, fun _ => rfl⟩)
theorem zQ.rowv (q : zQ cy h x mk sl bl kr vr E fs bd br eb Im Xb g S W) (iv : qWv Bd sk Rn dp W) (f' : Nat → Int64) : zQ cy (qs h vr (.inl (cy 1, 1000, .inr (.inl f')))) x mk sl bl kr vr E fs bd br eb Im Xb g S W := by
  have q0 := q
  obtain ⟨q1, ⟨a1, ⟨q9, a2, a3⟩, ⟨f1, a4⟩, f2, a5⟩, q3, q4, s1, s2, s3, s4, s5, s6⟩ := q
  obtain ⟨o, a, kk⟩ := W
  have ko : ∀ {b ci : Nat} {fv : List Value} {o : va_E}, h b = some (.inr (ci, fv)) → qs h vr o b = some (.inr (ci, fv)) := fun {b ci fv o} e => (qs_ne (fun z => by rw [z, a5] at e; cases e)).trans e
  have ka : ∀ {b : Nat} {c : ClassId} {n : Nat} {f : Nat → Option Nat} {o : va_E}, h b = some (.inl (c, n, .inr (.inr (.inr (.inr f))))) → qs h vr o b = some (.inl (c, n, .inr (.inr (.inr (.inr f))))) := fun {b c n f o} e => (qs_ne (fun z => by rw [z, a5] at e; simp at e)).trans e
  refine q0.gen ⟨ko q1.1, zG.keep iv q1.2 (fun b fs e _ => ko e) (fun b fs e => ko e) (fun _ _ => rfl)⟩ ⟨ka a1, ⟨q9, ka a2, a3⟩, ⟨f1, (qs_ne s1.1).trans a4⟩, f', qs_self⟩ (Nat.le_refl _) s6 (fun _ _ => rfl) (fun b ci fv e _ _ => ko e) (fun b hb o e => (qs_ne (s1.2.2.1 b hb).2).trans e) (fun b o e y => (qs_ne (s2 b y).2.2.2.2.1).trans e) (fun j hj => Or.inl ⟨rfl, rfl, fun _ => rfl⟩)
end ZMV
theorem zRg {L : qKV} {a b : Int64} (h : a.toInt < b.toInt) : qLo (qAb L a 1) b = xRg a b L := by
  unfold qLo qAb xRg
  rw [List.filter_filter]
  congr 1
  funext p
  rw [← Bool.decide_and]
  refine decide_eq_decide.mpr ⟨fun z => ⟨?_, z.1⟩, fun z => ⟨z.2, ?_⟩⟩
  · rcases z.2 with y | y
    · omega
    · rw [y.1]; exact Int.le_refl _
  · by_cases c : a.toInt < p.1.toInt
    · exact Or.inl c
    · exact Or.inr ⟨Int64.toInt_inj.mp (by omega), by decide⟩
theorem zRg0 {L : qKV} {a b : Int64} (h : ¬ a.toInt < b.toInt) : xRg a b L = [] := List.filter_eq_nil_iff.mpr (fun p _ z => by have := of_decide_eq_true z; omega)
theorem qAb_so {L : qKV} {a : Int64} {z : Int32} (h : qSo L) : qSo (qAb L a z) := h.filter _
theorem dX6_range_11 : decode cX6_range 11 = .ok (.astore 7, 2) := by decide +kernel
theorem dX6_range_13 : decode cX6_range 13 = .ok (.aload_n 0, 1) := by decide +kernel
theorem dX6_range_14 : decode cX6_range 14 = .ok (.aload 7, 2) := by decide +kernel
theorem dX6_range_16 : decode cX6_range 16 = .ok (.invokevirtual 59, 3) := by decide +kernel
theorem dX6_range_19 : decode cX6_range 19 = .ok (.invokevirtual 218, 3) := by decide +kernel
theorem dX6_range_22 : decode cX6_range 22 = .ok (.lload_n 3, 1) := by decide +kernel
theorem dX6_range_23 : decode cX6_range 23 = .ok (.lload 5, 2) := by decide +kernel
theorem dX6_range_25 : decode cX6_range 25 = .ok (.lcmp, 1) := by decide +kernel
theorem dX6_range_26 : decode cX6_range 26 = .ok (.ifCond .ge 21, 3) := by decide +kernel
theorem dX6_range_29 : decode cX6_range 29 = .ok (.aload 7, 2) := by decide +kernel
theorem dX6_range_31 : decode cX6_range 31 = .ok (.getfield 101, 3) := by decide +kernel
theorem dX6_range_34 : decode cX6_range 34 = .ok (.lload_n 3, 1) := by decide +kernel
theorem dX6_range_35 : decode cX6_range 35 = .ok (.iconst 1, 1) := by decide +kernel
theorem dX6_range_36 : decode cX6_range 36 = .ok (.invokestatic 221, 3) := by decide +kernel
theorem dX6_range_39 : decode cX6_range 39 = .ok (.lload 5, 2) := by decide +kernel
theorem dX6_range_41 : decode cX6_range 41 = .ok (.invokestatic 225, 3) := by decide +kernel
theorem dX6_range_44 : decode cX6_range 44 = .ok (.goto 4, 3) := by decide +kernel
theorem dX6_range_47 : decode cX6_range 47 = .ok (.aconst_null, 1) := by decide +kernel
theorem dX6_range_48 : decode cX6_range 48 = .ok (.astore 8, 2) := by decide +kernel
theorem dX6_range_50 : decode cX6_range 50 = .ok (.aload_n 0, 1) := by decide +kernel
theorem dX6_range_51 : decode cX6_range 51 = .ok (.iload_n 1, 1) := by decide +kernel
theorem dX6_range_52 : decode cX6_range 52 = .ok (.aload 7, 2) := by decide +kernel
theorem dX6_range_54 : decode cX6_range 54 = .ok (.getfield 63, 3) := by decide +kernel
theorem dX6_range_57 : decode cX6_range 57 = .ok (.aload 8, 2) := by decide +kernel
theorem dX6_range_59 : decode cX6_range 59 = .ok (.invokestatic 111, 3) := by decide +kernel
theorem dX6_range_62 : decode cX6_range 62 = .ok (.invokevirtual 51, 3) := by decide +kernel
theorem dX6_range_65 : decode cX6_range 65 = .ok (.ireturn, 1) := by decide +kernel
set_option maxRecDepth 100000 in
set_option maxHeartbeats 4000000 in
theorem z_range (l : Launch) (D : va_G) (cy : Nat → ClassId) (N0 : Nat) (h : qH) (x : Nat) (mk : Int32) (sl bl kr vr Ed : Nat) (fs : Nat → Option Nat) (bd br eb : Nat → Nat) (Im : Nat → Prop) (Xb : Nat → Nat → Prop) (g : Nat → Nat) (S : Nat → qSlot) (W : qWo) (Bd sk Rn : Nat) (dp : Nat → Nat) (m0 : Nat) (p0 p1 : Int32) (p2 p3 : Int64) (hz : zQ cy h x mk sl bl kr vr Ed fs bd br eb Im Xb g S W) (hI : ∀ i, i < 28 → qOk (S i).1 (S i).2.1) (hLn : ∀ i, i < 28 → (S i).2.1.length ≤ 1000) (hV : qWv Bd sk Rn dp W) (hm0 : oMq W.1 = nI m0) (hm9 : m0 ≤ 20000) : qC l D cy N0 yX6_range cX6_range 9 (some .int) 45 1200 600 3600 [.ref x, .int p0, .int p1, .long p2, .long p3] h (fun v h' => (xs_range S p0 p1 p2 p3 m0).1 = 0 ∧ v = some (.int (xs_range S p0 p1 p2 p3 m0).2.2.1) ∧ zPo cy h x mk sl bl kr vr Ed bd br Im Xb ((xs_range S p0 p1 p2 p3 m0).2.1) (oMv W.1 (nI (xs_range S p0 p1 p2 p3 m0).2.2.2), W.2) h') (fun E h' => zXc [(1, "java/lang/IllegalArgumentException"), (2, "java/lang/IllegalStateException"), (3, "java/lang/IndexOutOfBoundsException")] E (xs_range S p0 p1 p2 p3 m0).1 ∧ zPo cy h x mk sl bl kr vr Ed bd br Im Xb S W h') := by
  refine q_ofW (by decide) (by exact Nat.le_of_ble_eq_true rfl) ?_
  intro p e s m below meth c ls C hP hl
  have hx := C.1
  have hb := C.2.1
  have hS : va_S (qA N0) s.heap s.heap [] := va_S.rf
  have hl : lv_has ls 9 [(0, .ref x), (1, .int p0), (2, .int p1), (3, .long p2), (5, .long p3)] := hl
  have hf : zFr h h x sl kr vr bd br Xb := zFr.rf
  refine lv_iload_n hx hb dX6_range_0 rfl (lv_at hl 1 rfl) ?_
  refine q_callS (rest := []) C (c_X6_needSlot l D cy N0 h p0) kX6_needSlot g104 g105 hP hS (by first | decide | omega) hl.1 rfl (by decide) (by first | decide | omega) dX6_range_1 (fun q ce E h' H1 locs1 hE hP hS hc1 hc2 hc3 => by obtain ⟨rfl, rfl, hn9⟩ := hE; have eb9 := bSl_f hn9; exact q_out C hP hS hc1 hc2 hc3 (by have ex : (xs_range S p0 p1 p2 p3 m0) = (1, S, 0, m0) := (by unfold xs_range; rw [if_pos (Or.inl eb9)]); exact ⟨by rw [ex]; exact .head _, by exact hz.po hf⟩) (by omega)) (fun v hh1 H locs hq hP hS => ?_)
  obtain ⟨rfl, rfl, sl9⟩ := hq
  obtain ⟨i, hi, rfl⟩ := sl9.of
  have ebi : bSl (nI i) = true := bSl_t sl9
  have eci : (nI i).toNatClampNeg = i := nI_clamp (by omega)
  refine lv_aload_n hx hb dX6_range_4 rfl (lv_at hl 0 rfl) ?_
  refine lv_iload_n hx hb dX6_range_5 rfl (lv_at hl 2 rfl) ?_
  refine lv_bipush (v := nI 8) hx hb dX6_range_6 (by decide) ?_
  refine q_callV (rest := []) C (z_heldIn l D N0 p1 8 hz hI) kX6_heldIn g243 g245 rfl gp2 g1 hP hS hz.1.1 (by first | decide | omega) hl.1 rfl (by decide) (by first | decide | omega) dX6_range_8 (fun q ce E h' H1 locs1 hE hP hS hc1 hc2 hc3 => hE.2.elim (fun y => by obtain ⟨rfl, -⟩ := hE; obtain ⟨rfl, hn9⟩ := y; exact q_out C hP hS hc1 hc2 hc3 (by have ex : (xs_range S (nI i) p1 p2 p3 m0) = (1, S, 0, m0) := (by have ebj := hn9; unfold xs_range; rw [if_pos (Or.inr ebj)]); exact ⟨by rw [ex]; exact .head _, by exact hz.po hf⟩) (by omega)) (fun y => by obtain ⟨rfl, -⟩ := hE; obtain ⟨rfl, j, hi8, rfl, ho8⟩ := y; exact q_out C hP hS hc1 hc2 hc3 (by have ex : (xs_range S (nI i) (nI j) p2 p3 m0) = (2, S, 0, m0) := (by have ebj : bSl (nI j) = true := bSl_t (qSl.nI hi8); have ecj : (nI j).toNatClampNeg = j := nI_clamp (by omega); have hoj := ho8; unfold xs_range; rw [if_neg (by rw [ebi, ebj]; decide), ecj, if_pos hoj]); exact ⟨by rw [ex]; exact .tail _ (.head _), by exact hz.po hf⟩) (by omega))) (fun v hh2 H locs hq hP hS => ?_)
  obtain ⟨rfl, j, aj, hj, rfl, hfsj, rfl, hoj, x1j, x2j, x3j, x4j, dvj, faj, zvj⟩ := hq
  have ebj : bSl (nI j) = true := bSl_t (qSl.nI hj)
  have ecj : (nI j).toNatClampNeg = j := nI_clamp (by omega)
  have hk9 : (S j).1 = nI 3 := bHo_8 (hI j (by omega)).2.2 hoj
  have hk6 : ¬ (S j).1 = 6 := fun z => absurd (hk9.symm.trans z) (by decide)
  have ham : zAm (S j) = (S j).2.1.length := zAm_n hk6
  rw [hk9] at faj
  obtain ⟨rfl, rfl, rfl, rfl, n9, hb9⟩ := zvj.tree hk9
  have hl9 := hLn j (by omega)
  have hn14 : n9 ≤ 14 := hb9.h14 (by omega)
  have hsoj : qSo (S j).2.1 := qSo_of ((hI j (by omega)).1 (Or.inl hk9)) ((hI j (by omega)).2.1 (Or.inr (Or.inr hk9)))
  have htc := qTc14 hn14
  have hlf : (qAb (S j).2.1 p2 (nI 1)).length ≤ (S j).2.1.length := List.length_filter_le ..
  refine lv_astore (lv' := [(7, .ref aj), (0, .ref x), (1, .int (nI i)), (2, .int (nI j)), (3, .long p2), (5, .long p3)]) hx hb dX6_range_11 hl (by decide) rfl (fun ls hl => ?_)
  refine lv_aload_n hx hb dX6_range_13 rfl (lv_at hl 1 rfl) ?_
  refine lv_aload hx hb dX6_range_14 (lv_at hl 0 rfl) ?_
  obtain ⟨t1j, t2j, t3j, f1j, f2j, f3j, etj⟩ := zvj.size
  refine q_callV (rest := [.ref x]) C (c_X2_amount l D cy N0 h aj (nI 3) 0 t1j t2j t3j x1j none none none faj f1j f2j f3j) kX2_amount g222 g223 rfl g224 g10 hP hS faj (by first | decide | omega) hl.1 rfl (by simp [q_catrf, q_cati, q_catl, q_cata, q_catn]) (by first | decide | omega) dX6_range_16 (fun q ce E h' H1 locs1 hE => hE.elim) (fun v hh3 H locs hq hP hS => ?_)
  obtain ⟨rfl, rfl⟩ := hq
  rw [← etj]
  refine q_callV (rest := []) C (c_X6_takeMoves l D cy N0 h x sl bl kr vr mk (oCq W.1) (oMq W.1) (nI Ed) fs (nI (zAm (S j))) hz.1.1 hz.2.1.1) kX6_takeMoves g641 g643 rfl gp15 g1 hP hS hz.1.1 (by first | decide | omega) hl.1 rfl (by decide) (by first | decide | omega) dX6_range_19 (fun q ce E h' H1 locs1 hE hP hS hc1 hc2 hc3 => by obtain ⟨rfl, rfl, hn9⟩ := hE; replace hn9 : ¬ m0 + zAm (S j) ≤ 20000 := fun z => hn9 (by rw [hm0]; exact (zmvs hm9 (by omega)).mpr z); exact q_out C hP hS hc1 hc2 hc3 (by have ex : (xs_range S (nI i) (nI j) p2 p3 m0) = (3, S, 0, m0) := (by unfold xs_range; rw [if_neg (by rw [ebi, ebj]; decide), ecj, if_neg (by rw [hoj]; decide), eci]; unfold xr_range; rw [if_pos (by rw [← ham]; omega)]); exact ⟨by rw [ex]; exact .tail _ (.tail _ (.head _)), by exact hz.po hf⟩) (by omega)) (fun v hh4 H locs hq hP hS => ?_)
  obtain ⟨rfl, rfl, hmv⟩ := hq
  have hmv2 : m0 + zAm (S j) ≤ 20000 := (zmvs hm9 (by omega)).mp (by rw [← hm0]; exact hmv)
  rw [show oMq W.1 = nI m0 from hm0, nI_add] at hP
  replace hP : qP D N0 (qs h x (.inr (6, [.int mk, .ref sl, .ref bl, .ref kr, .ref vr, .int (oCq W.1), .int (nI (m0 + zAm (S j))), .int (nI Ed)]))) H := hP
  replace faj := (qs_ne (h := h) (a := x) (o := (.inr (6, [.int mk, .ref sl, .ref bl, .ref kr, .ref vr, .int (oCq W.1), .int (nI (m0 + zAm (S j))), .int (nI Ed)]))) (fun z => by rw [z, hz.1.1] at faj; simp at faj)).trans faj
  replace zvj := zvj.up (o := .inr (6, [.int mk, .ref sl, .ref bl, .ref kr, .ref vr, .int (oCq W.1), .int (nI (m0 + zAm (S j))), .int (nI Ed)])) hz.1.1 (fun b y => (hz.2.2.2.2.2.1 b (Or.inl y)).1)
  replace hb9 := hb9.seto (o := .inr (6, [.int mk, .ref sl, .ref bl, .ref kr, .ref vr, .int (oCq W.1), .int (nI (m0 + zAm (S j))), .int (nI Ed)])) hz.1.1 (by decide)
  replace hf := hf.trs (zFr.set (o' := .inr (6, [.int mk, .ref sl, .ref bl, .ref kr, .ref vr, .int (oCq W.1), .int (nI (m0 + zAm (S j))), .int (nI Ed)])) hz.1.1 (Or.inl rfl))
  replace hz : zQ cy (qs h x (.inr (6, [.int mk, .ref sl, .ref bl, .ref kr, .ref vr, .int (oCq W.1), .int (nI (m0 + zAm (S j))), .int (nI Ed)]))) x mk sl bl kr vr Ed fs bd br eb Im Xb g S (oMv W.1 (nI (m0 + zAm (S j))), W.2) := hz.mv hV
  replace hV := hV.mvs hm0 (M2 := m0 + zAm (S j)) ⟨by omega, by omega⟩ hmv2
  replace hV : qWv Bd sk Rn dp (oMv W.1 (nI (m0 + zAm (S j))), W.2) := hV
  refine lv_lload_n hx hb dX6_range_22 rfl (lv_at hl 4 rfl) ?_
  refine lv_lload hx hb dX6_range_23 (lv_at hl 5 rfl) ?_
  refine zlcmp hx hb dX6_range_25 ?_
  refine lv_if_ge (tgt := 47) hx hb dX6_range_26 (by decide) (fun c26 => ?_) (fun c26 => ?_)
  · replace c26 : p3.toInt ≤ p2.toInt := Int64.le_iff_toInt_le.mp ((lg_cmp_ge _ _).mp c26)
    refine lv_null hx hb dX6_range_47 ?_
    refine lv_astoreN (lv' := [(8, .null), (7, .ref aj), (0, .ref x), (1, .int (nI i)), (2, .int (nI j)), (3, .long p2), (5, .long p3)]) hx hb dX6_range_48 hl (by decide) rfl (fun ls hl => ?_)
    refine lv_aload_n hx hb dX6_range_50 rfl (lv_at hl 2 rfl) ?_
    refine lv_iload_n hx hb dX6_range_51 rfl (lv_at hl 3 rfl) ?_
    refine lv_aload hx hb dX6_range_52 (lv_at hl 1 rfl) ?_
    refine q_get C hP faj rfl inX2 0 (by decide) g192 rfl dX6_range_54 ?_
    refine lv_aloadN hx hb dX6_range_57 (lv_at hl 0 rfl) ?_
    refine q_callS (rest := [.int (nI i), .ref x]) C (c_X2_ofTree l D cy N0 (qs h x (.inr (6, [.int mk, .ref sl, .ref bl, .ref kr, .ref vr, .int (oCq W.1), .int (nI (m0 + zAm (S j))), .int (nI Ed)]))) (nI 3) none) kX2_ofTree g516 g517 hP hS (by first | decide | omega) hl.1 rfl (by simp [q_catrf, q_cati, q_catl, q_cata, q_catn]) (by first | decide | omega) dX6_range_59 (fun q ce E h' H1 locs1 hE => hE.elim) (fun v hh5 H locs hq hP hS => ?_)
    obtain ⟨qh, rfl, oqh, rfl⟩ := hq
    replace hP : qP D N0 (qs (qs h x (.inr (6, [.int mk, .ref sl, .ref bl, .ref kr, .ref vr, .int (oCq W.1), .int (nI (m0 + zAm (S j))), .int (nI Ed)]))) qh (.inr (2, [.int (nI 3), .null, .null, .null, .null, .int 0]))) H := hP
    have hleh : qle (qs h x (.inr (6, [.int mk, .ref sl, .ref bl, .ref kr, .ref vr, .int (oCq W.1), .int (nI (m0 + zAm (S j))), .int (nI Ed)]))) (qs (qs h x (.inr (6, [.int mk, .ref sl, .ref bl, .ref kr, .ref vr, .int (oCq W.1), .int (nI (m0 + zAm (S j))), .int (nI Ed)]))) qh (.inr (2, [.int (nI 3), .null, .null, .null, .null, .int 0]))) := qle_new oqh
    replace faj := hleh _ _ faj
    replace zvj := zvj.le hleh
    replace hb9 := hb9.le hleh
    replace hf := hf.trs (zFr.le hleh (qle.dom hleh))
    replace hz := hz.le hV hleh (qle.dom hleh)
    have fqh : (qs (qs h x (.inr (6, [.int mk, .ref sl, .ref bl, .ref kr, .ref vr, .int (oCq W.1), .int (nI (m0 + zAm (S j))), .int (nI Ed)]))) qh (.inr (2, [.int (nI 3), .null, .null, .null, .null, .int 0]))) qh = some (.inr (2, [.int (nI 3), .null, .null, .null, .null, .int 0])) := qs_self
    replace fqh : (qs (qs h x (.inr (6, [.int mk, .ref sl, .ref bl, .ref kr, .ref vr, .int (oCq W.1), .int (nI (m0 + zAm (S j))), .int (nI Ed)]))) qh (.inr (2, [.int (nI 3), .null, .null, .null, .null, .int 0]))) qh = some (.inr (2, [.int (S j).1, .null, .null, .null, .null, .int 0])) := by rw [hk9]; exact fqh
    have zvn : zV cy (qs (qs h x (.inr (6, [.int mk, .ref sl, .ref bl, .ref kr, .ref vr, .int (oCq W.1), .int (nI (m0 + zAm (S j))), .int (nI Ed)]))) qh (.inr (2, [.int (nI 3), .null, .null, .null, .null, .int 0]))) Im (zOk Ed eb S) mk g ((S j).1, ([] : qKV), (S j).2.2) none none none none 0 := Or.inr (Or.inl ⟨hk9, rfl, rfl, rfl, rfl, 0, qBr.nil⟩)
    have hzp := hz.put hV hi (s := ((S j).1, ([] : qKV), (S j).2.2)) (show ¬ ((S j).1 = -1) from fun z => absurd (hk9.symm.trans z) (by decide)) ⟨none, none, none, none, 0, fqh, zvn⟩
    have hfp : zFr h (qs (qs (qs h x (.inr (6, [.int mk, .ref sl, .ref bl, .ref kr, .ref vr, .int (oCq W.1), .int (nI (m0 + zAm (S j))), .int (nI Ed)]))) qh (.inr (2, [.int (nI 3), .null, .null, .null, .null, .int 0]))) sl (.inl (cy 3, 24, .inr (.inr (.inr (.inr (va_up fs i (some qh)))))))) x sl kr vr bd br Xb := hf.trs (zFr.set hz.2.1.1 (Or.inr (Or.inl rfl)))
    have hkd : qHd (qs (qs h x (.inr (6, [.int mk, .ref sl, .ref bl, .ref kr, .ref vr, .int (oCq W.1), .int (nI (m0 + zAm (S j))), .int (nI Ed)]))) qh (.inr (2, [.int (nI 3), .null, .null, .null, .null, .int 0]))) qh ((S j).1) none none none none 0 (nI (zAm ((S j).1, ([] : qKV), (S j).2.2))) := zHd.hd (s := ((S j).1, ([] : qKV), (S j).2.2)) fqh zvn
    refine q_callV (rest := []) C (c_X6_keep l D cy N0 (qs (qs h x (.inr (6, [.int mk, .ref sl, .ref bl, .ref kr, .ref vr, .int (oCq W.1), .int (nI (m0 + zAm (S j))), .int (nI Ed)]))) qh (.inr (2, [.int (nI 3), .null, .null, .null, .null, .int 0]))) x sl bl kr vr mk (oCq (oMv W.1 (nI (m0 + zAm (S j))), W.2).1) (oMq (oMv W.1 (nI (m0 + zAm (S j))), W.2).1) (nI Ed) fs i qh ((S j).1) none none none none 0 (nI (zAm ((S j).1, ([] : qKV), (S j).2.2))) hz.1.1 hz.2.1.1 hi hkd) kX6_keep g218 g220 rfl gp1 g1 hP hS hz.1.1 (by first | decide | omega) hl.1 rfl (by decide) (by first | decide | omega) dX6_range_62 (fun q ce E h' H1 locs1 hE => hE.elim) (fun v hh6 H locs hq hP hS => ?_)
    obtain ⟨rfl, rfl⟩ := hq
    replace faj := (qs_ne (h := (qs (qs h x (.inr (6, [.int mk, .ref sl, .ref bl, .ref kr, .ref vr, .int (oCq W.1), .int (nI (m0 + zAm (S j))), .int (nI Ed)]))) qh (.inr (2, [.int (nI 3), .null, .null, .null, .null, .int 0])))) (a := sl) (o := (.inl (cy 3, 24, .inr (.inr (.inr (.inr (va_up fs i (some qh)))))))) (fun z => by rw [z, hz.2.1.1] at faj; cases faj)).trans faj
    have ex : (xs_range S (nI i) (nI j) p2 p3 m0) = (0, qU S i ((S j).1, ([] : qKV), (S j).2.2), nI (([] : qKV)).length, m0 + zAm (S j)) := by unfold xs_range; rw [if_neg (by rw [ebi, ebj]; decide), ecj, if_neg (by rw [hoj]; decide), eci]; unfold xr_range; rw [if_neg (by omega), ham, zRg0 (by omega)]
    exact q_iret C hP hS ⟨by rw [ex], by first | (rw [ex]; done) | (rw [ex]; show some (Value.int (nI (zAm ((S j).1, ([] : qKV), (S j).2.2)))) = _; rw [zAm_n (s := ((S j).1, ([] : qKV), (S j).2.2)) hk6]), by rw [ex]; exact hzp.po hfp⟩ (by omega) dX6_range_65
  · replace c26 : ¬ p3.toInt ≤ p2.toInt := fun zq => c26 ((lg_cmp_ge _ _).mpr (Int64.le_iff_toInt_le.mpr zq))
    refine lv_aload hx hb dX6_range_29 (lv_at hl 0 rfl) ?_
    refine q_get C hP faj rfl inX2 1 (by decide) g195 rfl dX6_range_31 ?_
    refine lv_lload_n hx hb dX6_range_34 rfl (lv_at hl 4 rfl) ?_
    refine lv_iconst (v := nI 1) hx hb dX6_range_35 (by decide) ?_
    refine q_callSN (host := RX6) (rest := []) C (c_X0_above l D cy N0 (n9 + 1) (qs h x (.inr (6, [.int mk, .ref sl, .ref bl, .ref kr, .ref vr, .int (oCq W.1), .int (nI (m0 + zAm (S j))), .int (nI Ed)]))) x1j n9 (S j).2.1 p2 (nI 1) hb9 (by omega) hsoj (by omega)) kX0_above (by decide +kernel) g791 hP hS (by first | decide | omega) hl.1 rfl (by decide) (by first | decide | omega) dX6_range_36 (fun v hh7 H locs hq hP hS => ?_)
    obtain ⟨r7, n7, rfl, hle7, hb7, hn7⟩ := hq
    replace faj := hle7 _ _ faj
    replace zvj := zvj.le hle7
    replace hb9 := hb9.le hle7
    replace hf := hf.trs (zFr.le hle7 (qle.dom hle7))
    replace hz := hz.le hV hle7 (qle.dom hle7)
    have htc7 := qTc14 (n := n7) (by omega)
    refine lv_lload hx hb dX6_range_39 (lv_at hl 5 rfl) ?_
    refine q_callSN (host := RX6) (rest := []) C (c_X0_below l D cy N0 (n7 + 1) hh7 r7 n7 (qAb (S j).2.1 p2 (nI 1)) p3 hb7 (by omega) (qAb_so hsoj) (by omega)) kX0_below (by decide +kernel) g788 hP hS (by first | decide | omega) hl.1 rfl (by decide) (by first | decide | omega) dX6_range_41 (fun v hh8 H locs hq hP hS => ?_)
    obtain ⟨r8, n8, rfl, hle8, hb8, -⟩ := hq
    replace faj := hle8 _ _ faj
    replace zvj := zvj.le hle8
    replace hb9 := hb9.le hle8
    replace hb7 := hb7.le hle8
    replace hf := hf.trs (zFr.le hle8 (qle.dom hle8))
    replace hz := hz.le hV hle8 (qle.dom hle8)
    refine lv_goto (tgt := 48) hx hb dX6_range_44 (by decide) ?_
    refine q_astore (lv' := [(8, va_rf r8), (7, .ref aj), (0, .ref x), (1, .int (nI i)), (2, .int (nI j)), (3, .long p2), (5, .long p3)]) hx hb dX6_range_48 hl (by decide) rfl (fun ls hl => ?_)
    refine lv_aload_n hx hb dX6_range_50 rfl (lv_at hl 2 rfl) ?_
    refine lv_iload_n hx hb dX6_range_51 rfl (lv_at hl 3 rfl) ?_
    refine lv_aload hx hb dX6_range_52 (lv_at hl 1 rfl) ?_
    refine q_get C hP faj rfl inX2 0 (by decide) g192 rfl dX6_range_54 ?_
    refine q_aload hx hb dX6_range_57 (lv_at hl 0 rfl) ?_
    refine q_callS (rest := [.int (nI i), .ref x]) C (c_X2_ofTree l D cy N0 hh8 (nI 3) r8) kX2_ofTree g516 g517 hP hS (by first | decide | omega) hl.1 rfl (by simp [q_catrf, q_cati, q_catl, q_cata, q_catn]) (by first | decide | omega) dX6_range_59 (fun q ce E h' H1 locs1 hE => hE.elim) (fun v hh9 H locs hq hP hS => ?_)
    obtain ⟨qh, rfl, oqh, rfl⟩ := hq
    replace hP : qP D N0 (qs hh8 qh (.inr (2, [.int (nI 3), va_rf r8, .null, .null, .null, .int 0]))) H := hP
    have hleh : qle hh8 (qs hh8 qh (.inr (2, [.int (nI 3), va_rf r8, .null, .null, .null, .int 0]))) := qle_new oqh
    replace faj := hleh _ _ faj
    replace zvj := zvj.le hleh
    replace hb9 := hb9.le hleh
    replace hb7 := hb7.le hleh
    replace hb8 := hb8.le hleh
    replace hf := hf.trs (zFr.le hleh (qle.dom hleh))
    replace hz := hz.le hV hleh (qle.dom hleh)
    have fqh : (qs hh8 qh (.inr (2, [.int (nI 3), va_rf r8, .null, .null, .null, .int 0]))) qh = some (.inr (2, [.int (nI 3), va_rf r8, .null, .null, .null, .int 0])) := qs_self
    replace fqh : (qs hh8 qh (.inr (2, [.int (nI 3), va_rf r8, .null, .null, .null, .int 0]))) qh = some (.inr (2, [.int (S j).1, va_rf r8, .null, .null, .null, .int 0])) := by rw [hk9]; exact fqh
    have zvn : zV cy (qs hh8 qh (.inr (2, [.int (nI 3), va_rf r8, .null, .null, .null, .int 0]))) Im (zOk Ed eb S) mk g ((S j).1, xRg p2 p3 (S j).2.1, (S j).2.2) r8 none none none 0 := Or.inr (Or.inl ⟨hk9, rfl, rfl, rfl, rfl, n8, by show qBr _ _ _ (xRg p2 p3 (S j).2.1); rw [← zRg (by omega)]; exact hb8⟩)
    have hzp := hz.put hV hi (s := ((S j).1, xRg p2 p3 (S j).2.1, (S j).2.2)) (show ¬ ((S j).1 = -1) from fun z => absurd (hk9.symm.trans z) (by decide)) ⟨r8, none, none, none, 0, fqh, zvn⟩
    have hfp : zFr h (qs (qs hh8 qh (.inr (2, [.int (nI 3), va_rf r8, .null, .null, .null, .int 0]))) sl (.inl (cy 3, 24, .inr (.inr (.inr (.inr (va_up fs i (some qh)))))))) x sl kr vr bd br Xb := hf.trs (zFr.set hz.2.1.1 (Or.inr (Or.inl rfl)))
    have hkd : qHd (qs hh8 qh (.inr (2, [.int (nI 3), va_rf r8, .null, .null, .null, .int 0]))) qh ((S j).1) r8 none none none 0 (nI (zAm ((S j).1, xRg p2 p3 (S j).2.1, (S j).2.2))) := zHd.hd (s := ((S j).1, xRg p2 p3 (S j).2.1, (S j).2.2)) fqh zvn
    refine q_callV (rest := []) C (c_X6_keep l D cy N0 (qs hh8 qh (.inr (2, [.int (nI 3), va_rf r8, .null, .null, .null, .int 0]))) x sl bl kr vr mk (oCq (oMv W.1 (nI (m0 + zAm (S j))), W.2).1) (oMq (oMv W.1 (nI (m0 + zAm (S j))), W.2).1) (nI Ed) fs i qh ((S j).1) r8 none none none 0 (nI (zAm ((S j).1, xRg p2 p3 (S j).2.1, (S j).2.2))) hz.1.1 hz.2.1.1 hi hkd) kX6_keep g218 g220 rfl gp1 g1 hP hS hz.1.1 (by first | decide | omega) hl.1 rfl (by decide) (by first | decide | omega) dX6_range_62 (fun q ce E h' H1 locs1 hE => hE.elim) (fun v hh10 H locs hq hP hS => ?_)
    obtain ⟨rfl, rfl⟩ := hq
    replace faj := (qs_ne (h := (qs hh8 qh (.inr (2, [.int (nI 3), va_rf r8, .null, .null, .null, .int 0])))) (a := sl) (o := (.inl (cy 3, 24, .inr (.inr (.inr (.inr (va_up fs i (some qh)))))))) (fun z => by rw [z, hz.2.1.1] at faj; cases faj)).trans faj
    have ex : (xs_range S (nI i) (nI j) p2 p3 m0) = (0, qU S i ((S j).1, xRg p2 p3 (S j).2.1, (S j).2.2), nI (xRg p2 p3 (S j).2.1).length, m0 + zAm (S j)) := by unfold xs_range; rw [if_neg (by rw [ebi, ebj]; decide), ecj, if_neg (by rw [hoj]; decide), eci]; unfold xr_range; rw [if_neg (by omega), ham]
    exact q_iret C hP hS ⟨by rw [ex], by first | (rw [ex]; done) | (rw [ex]; show some (Value.int (nI (zAm ((S j).1, xRg p2 p3 (S j).2.1, (S j).2.2)))) = _; rw [zAm_n (s := ((S j).1, xRg p2 p3 (S j).2.1, (S j).2.2)) hk6]), by rw [ex]; exact hzp.po hfp⟩ (by omega) dX6_range_65
