theorem dX6_take_19 : decode cX6_take 19 = .ok (.astore 4, 2) := by decide +kernel
theorem dX6_take_21 : decode cX6_take 21 = .ok (.aload_n 0, 1) := by decide +kernel
theorem dX6_take_22 : decode cX6_take 22 = .ok (.iload_n 1, 1) := by decide +kernel
theorem dX6_take_23 : decode cX6_take 23 = .ok (.aload 4, 2) := by decide +kernel
theorem dX6_take_25 : decode cX6_take 25 = .ok (.getfield 115, 3) := by decide +kernel
theorem dX6_take_28 : decode cX6_take 28 = .ok (.iload_n 3, 1) := by decide +kernel
theorem dX6_take_29 : decode cX6_take 29 = .ok (.invokestatic 303, 3) := by decide +kernel
theorem dX6_take_32 : decode cX6_take 32 = .ok (.aload 4, 2) := by decide +kernel
theorem dX6_take_34 : decode cX6_take 34 = .ok (.getfield 125, 3) := by decide +kernel
theorem dX6_take_37 : decode cX6_take 37 = .ok (.invokestatic 273, 3) := by decide +kernel
theorem dX6_take_40 : decode cX6_take 40 = .ok (.invokestatic 128, 3) := by decide +kernel
theorem dX6_take_43 : decode cX6_take 43 = .ok (.invokevirtual 51, 3) := by decide +kernel
theorem dX6_take_46 : decode cX6_take 46 = .ok (.pop, 1) := by decide +kernel
theorem dX6_take_47 : decode cX6_take 47 = .ok (.return_, 1) := by decide +kernel
set_option maxRecDepth 100000 in
set_option maxHeartbeats 4000000 in
theorem z_take (l : Launch) (D : va_G) (cy : Nat → ClassId) (N0 : Nat) (h : qH) (x : Nat) (mk : Int32) (sl bl kr vr Ed : Nat) (fs : Nat → Option Nat) (bd br eb : Nat → Nat) (Im : Nat → Prop) (Xb : Nat → Nat → Prop) (g : Nat → Nat) (S : Nat → qSlot) (W : qWo) (Bd sk Rn : Nat) (dp : Nat → Nat) (dc : Nat) (p0 p1 p2 : Int32) (hz : zQ cy h x mk sl bl kr vr Ed fs bd br eb Im Xb g S W) (hI : ∀ i, i < 28 → qOk (S i).1 (S i).2.1) (hLn : ∀ i, i < 28 → (S i).2.1.length ≤ 1000) (hV : qWv Bd (sk + 1) Rn dp W) (hSt : ∀ i, i < 24 → (S i).1 = 6 → (S i).2.2.1 < W.2.1.1 ∧ dp (S i).2.2.1 ≤ dc) (hDp : ∀ i, i < 24 → (S i).2.2.2 ≤ 100) : qC l D cy N0 yX6_take cX6_take 5 none 14 260 16 120 [.ref x, .int p0, .int p1, .int p2] h (fun v h' => (xs_take S W p0 p1 p2).1 = 0 ∧ v = none ∧ zPo cy h x mk sl bl kr vr Ed bd br Im Xb ((xs_take S W p0 p1 p2).2.1) ((xs_take S W p0 p1 p2).2.2) h') (fun E h' => zXc [(1, "java/lang/IllegalArgumentException"), (2, "java/lang/IllegalStateException"), (3, "java/lang/IndexOutOfBoundsException")] E (xs_take S W p0 p1 p2).1 ∧ zPo cy h x mk sl bl kr vr Ed bd br Im Xb S ((xs_take S W p0 p1 p2).2.2) h') := by
  refine q_ofW (by decide) (by exact Nat.le_of_ble_eq_true rfl) ?_
  intro p e s m below meth c ls C hP hl
  have hx := C.1
  have hb := C.2.1
  have hS : va_S (qA N0) s.heap s.heap [] := va_S.rf
  have hl : lv_has ls 5 [(0, .ref x), (1, .int p0), (2, .int p1), (3, .int p2)] := hl
  have hf : zFr h h x sl kr vr bd br Xb := zFr.rf
  obtain ⟨o, a, k⟩ := W
  dsimp only at hSt
  have hp9 : 1 ≤ a.1 ∧ a.1 ≤ a.2.1 := hV.p
  refine lv_iload_n hx hb dX6_take_0 rfl (lv_at hl 1 rfl) ?_
  refine q_callS (rest := []) C (c_X6_needSlot l D cy N0 h p0) kX6_needSlot g104 g105 hP hS (by first | decide | omega) hl.1 rfl (by decide) (by first | decide | omega) dX6_take_1 (fun q ce E h' H1 locs1 hE hP hS hc1 hc2 hc3 => by obtain ⟨rfl, rfl, hn9⟩ := hE; have eb9 := bSl_f hn9; exact q_out C hP hS hc1 hc2 hc3 (by have ex : (xs_take S (o, a, k) p0 p1 p2) = (1, S, o, a, k) := (by unfold xs_take; rw [if_pos (Or.inl eb9)]); exact ⟨by rw [ex]; exact .head _, by rw [ex]; exact hz.po hf⟩) (by omega)) (fun v hh1 H locs hq hP hS => ?_)
  obtain ⟨rfl, rfl, sl9⟩ := hq
  obtain ⟨i, hi, rfl⟩ := sl9.of
  have ebi : bSl (nI i) = true := bSl_t sl9
  have eci : (nI i).toNatClampNeg = i := nI_clamp (by omega)
  refine lv_iload_n hx hb dX6_take_4 rfl (lv_at hl 2 rfl) ?_
  refine q_callS (rest := []) C (c_X6_needSlot l D cy N0 h p1) kX6_needSlot g104 g105 hP hS (by first | decide | omega) hl.1 rfl (by decide) (by first | decide | omega) dX6_take_5 (fun q ce E h' H1 locs1 hE hP hS hc1 hc2 hc3 => by obtain ⟨rfl, rfl, hn9⟩ := hE; have eb9 := bSl_f hn9; exact q_out C hP hS hc1 hc2 hc3 (by have ex : (xs_take S (o, a, k) (nI i) p1 p2) = (1, S, o, a, k) := (by unfold xs_take; rw [if_pos (Or.inr (Or.inl eb9))]); exact ⟨by rw [ex]; exact .head _, by rw [ex]; exact hz.po hf⟩) (by omega)) (fun v hh2 H locs hq hP hS => ?_)
  obtain ⟨rfl, rfl, sl9⟩ := hq
  obtain ⟨j, hj, rfl⟩ := sl9.of
  have ebj : bSl (nI j) = true := bSl_t sl9
  have ecj : (nI j).toNatClampNeg = j := nI_clamp (by omega)
  refine lv_iload_n hx hb dX6_take_8 rfl (lv_at hl 3 rfl) ?_
  refine q_callS (rest := []) C (c_X6_needNotNegative l D cy N0 h p2) kX6_needNotNegative g629 g630 hP hS (by first | decide | omega) hl.1 rfl (by decide) (by first | decide | omega) dX6_take_9 (fun q ce E h' H1 locs1 hE hP hS hc1 hc2 hc3 => by obtain ⟨rfl, rfl, hn9⟩ := hE; exact q_out C hP hS hc1 hc2 hc3 (by have ex : (xs_take S (o, a, k) (nI i) (nI j) p2) = (1, S, o, a, k) := (by unfold xs_take; rw [if_pos (Or.inr (Or.inr hn9))]); exact ⟨by rw [ex]; exact .head _, by rw [ex]; exact hz.po hf⟩) (by omega)) (fun v hh3 H locs hq hP hS => ?_)
  obtain ⟨rfl, rfl, hnn⟩ := hq
  obtain ⟨q9, hq9, rfl⟩ := nI_of hnn
  have ecq : (nI q9).toNatClampNeg = q9 := nI_clamp hq9
  refine lv_aload_n hx hb dX6_take_12 rfl (lv_at hl 0 rfl) ?_
  refine lv_iload_n hx hb dX6_take_13 rfl (lv_at hl 2 rfl) ?_
  refine lv_bipush (v := nI 64) hx hb dX6_take_14 (by decide) ?_
  refine q_callV (rest := []) C (z_heldIn l D N0 (nI j) 64 hz hI) kX6_heldIn g243 g245 rfl gp2 g1 hP hS hz.1.1 (by first | decide | omega) hl.1 rfl (by decide) (by first | decide | omega) dX6_take_16 (fun q ce E h' H1 locs1 hE hP hS hc1 hc2 hc3 => hE.2.elim (fun y => by obtain ⟨rfl, -⟩ := hE; obtain ⟨rfl, hn9⟩ := y; exact absurd hn9 (by rw [ebj]; decide)) (fun y => by obtain ⟨rfl, -⟩ := hE; obtain ⟨rfl, i8, hi8, e8, ho8⟩ := y; obtain rfl : j = i8 := nI_inj32 (by omega) (by omega) e8; exact q_out C hP hS hc1 hc2 hc3 (by have ex : (xs_take S (o, a, k) (nI i) (nI j) (nI q9)) = (2, S, o, a, k) := (by have ebj : bSl (nI j) = true := bSl_t (qSl.nI hi8); have ecj : (nI j).toNatClampNeg = j := nI_clamp (by omega); have hoj := ho8; unfold xs_take; rw [if_neg (by rw [ebi, ebj]; exact fun z => z.elim (fun z => by cases z) (fun z => z.elim (fun z => by cases z) hnn)), ecj, if_pos hoj]); exact ⟨by rw [ex]; exact .tail _ (.head _), by rw [ex]; exact hz.po hf⟩) (by omega))) (fun v hh4 H locs hq hP hS => ?_)
  obtain ⟨rfl, j9, aj, hj9, ej9, hfsj, rfl, hoj, x1j, x2j, x3j, x4j, dvj, faj, zvj⟩ := hq
  obtain rfl : j = j9 := nI_inj32 (by omega) (by omega) ej9
  have hk9 : (S j).1 = nI 6 := bHo_64 (hI j (by omega)).2.2 hoj
  obtain ⟨rfl, rfl, rfl, rfl, rfl⟩ := zvj.strm hk9
  have hs8 := hSt j (by omega) hk9
  have hd8 := hDp j (by omega)
  by_cases hs0 : (S j).2.2.1 = 0 ∨ q9 = 0
  · have eT : xTak a k (S j).2.2.1 q9 = (0, a, k) := by unfold xTak; rw [if_pos hs0]
    refine lv_astore (lv' := [(4, .ref aj), (0, .ref x), (1, .int (nI i)), (2, .int (nI j)), (3, .int (nI q9))]) hx hb dX6_take_19 hl (by decide) rfl (fun ls hl => ?_)
    refine lv_aload_n hx hb dX6_take_21 rfl (lv_at hl 1 rfl) ?_
    refine lv_iload_n hx hb dX6_take_22 rfl (lv_at hl 2 rfl) ?_
    refine lv_aload hx hb dX6_take_23 (lv_at hl 0 rfl) ?_
    refine q_get C hP faj rfl inX2 4 (by decide) g202 rfl dX6_take_25 ?_
    refine lv_iload_n hx hb dX6_take_28 rfl (lv_at hl 4 rfl) ?_
    have e10 : (if (zO g (S j).2.2.1) = none ∨ q9 = 0 then 0 else 1) ≤ 1 ∧ (if (zO g (S j).2.2.1) = none ∨ q9 = 0 then 0 else 10) ≤ 10 := ⟨by split <;> omega, by split <;> omega⟩
    obtain ⟨f1, f2, f3, f4, f5, f6, f7, f8, f9, f0, hfl⟩ : ∃ (f1 f2 : Int64) (f3 f4 f5 f6 : Int32) (f7 f8 f9 f0 : Value), ∀ sq, (zO g (S j).2.2.1) = some sq → h sq = some (.inr (5, [.long f1, .int f3, .int f4, .long f2, .int f5, f7, f8, f9, .int f6, f0])) := by
      by_cases z : (S j).2.2.1 = 0
      · exact ⟨0, 0, 0, 0, 0, 0, .null, .null, .null, .null, fun sq e => by rw [z, zO_z] at e; cases e⟩
      · obtain ⟨way, cod, cc0, num, src, beh, row, dn, rst, fgi, -⟩ := hz.1.2.1 (S j).2.2.1 (by omega) hs8.1; exact ⟨_, _, _, _, _, _, _, _, _, _, fun sq e => by rw [zO_s z] at e; cases e; exact fgi⟩
    refine q_callS (rest := [.int (nI i), .ref x]) C (c_X5_taken l D cy N0 h (zO g (S j).2.2.1) q9 f1 f2 f3 f4 f5 f6 f7 f8 f9 f0 hfl hq9) kX5_taken g701 g702 hP hS (by first | decide | omega) hl.1 rfl (by simp [q_catrf, q_cati, q_catl, q_cata, q_catn]) (by first | decide | omega) dX6_take_29 (fun q ce E h' H1 locs1 hE => hE.elim) (fun v hh5 H locs hq hP hS => ?_)
    rcases hq with ⟨rfl, rfl, hor⟩ | ⟨sq, q, esq, rfl, oq, hq⟩
    · refine lv_aload hx hb dX6_take_32 (lv_at hl 0 rfl) ?_
      refine q_get C hP faj rfl inX2 5 (by decide) g204 rfl dX6_take_34 ?_
      refine q_callS (rest := [va_rf none, .int (nI i), .ref x]) C (c_X6_deeperThan l D cy N0 h (nI ((S j).2.2.2))) kX6_deeperThan g844 g845 hP hS (by first | decide | omega) hl.1 rfl (by simp [q_catrf, q_cati, q_catl, q_cata, q_catn]) (by first | decide | omega) dX6_take_37 (fun q ce E h' H1 locs1 hE hP hS hc1 hc2 hc3 => by obtain ⟨rfl, rfl, hn9⟩ := hE; replace hn9 : ¬ (S j).2.2.2 < 100 := fun z => hn9 ((nI_ltI (a := (S j).2.2.2) (b := 100) (by omega) (by omega)).mpr z); exact q_out C hP hS hc1 hc2 hc3 (by have ex : (xs_take S (o, a, k) (nI i) (nI j) (nI q9)) = (3, S, o, a, k) := (by unfold xs_take; rw [if_neg (by rw [ebi, ebj]; exact fun z => z.elim (fun z => by cases z) (fun z => z.elim (fun z => by cases z) hnn)), ecj, if_neg (by rw [hoj]; decide), if_pos hn9]); exact ⟨by rw [ex]; exact .tail _ (.tail _ (.head _)), by rw [ex]; exact hz.po hf⟩) (by omega)) (fun v hh6 H locs hq hP hS => ?_)
      obtain ⟨rfl, rfl, hr9⟩ := hq
      replace hr9 := (nI_ltI (a := (S j).2.2.2) (b := 100) (by omega) (by omega)).mp hr9
      rw [show nI ((S j).2.2.2) + 1 = nI ((S j).2.2.2 + 1) from nI_1 _]
      refine q_callS (rest := [.int (nI i), .ref x]) C (c_X2_ofStream l D cy N0 h none (nI ((S j).2.2.2 + 1))) kX2_ofStream g580 g581 hP hS (by first | decide | omega) hl.1 rfl (by simp [q_catrf, q_cati, q_catl, q_cata, q_catn]) (by first | decide | omega) dX6_take_40 (fun q ce E h' H1 locs1 hE => hE.elim) (fun v hh7 H locs hq hP hS => ?_)
      obtain ⟨qh, rfl, oqh, rfl⟩ := hq
      replace hP : qP D N0 (qs h qh (.inr (2, [.int 6, .null, .null, .null, .null, .int (nI ((S j).2.2.2 + 1))]))) H := hP
      have hleh : qle h (qs h qh (.inr (2, [.int 6, .null, .null, .null, .null, .int (nI ((S j).2.2.2 + 1))]))) := qle_new oqh
      replace faj := hleh _ _ faj
      replace hf := hf.trs (zFr.le hleh (qle.dom hleh))
      replace hz := hz.le hV hleh (qle.dom hleh)
      have fqh : (qs h qh (.inr (2, [.int 6, .null, .null, .null, .null, .int (nI ((S j).2.2.2 + 1))]))) qh = some (.inr (2, [.int 6, .null, .null, .null, .null, .int (nI ((S j).2.2.2 + 1))])) := qs_self
      replace fqh : (qs h qh (.inr (2, [.int 6, .null, .null, .null, .null, .int (nI ((S j).2.2.2 + 1))]))) qh = some (.inr (2, [.int (S j).1, .null, .null, .null, .null, .int (nI ((S j).2.2.2 + 1))])) := by rw [hk9]; exact fqh
      have zvn : zV cy (qs h qh (.inr (2, [.int 6, .null, .null, .null, .null, .int (nI ((S j).2.2.2 + 1))]))) Im (zOk Ed eb S) mk g ((S j).1, (S j).2.1, 0, (S j).2.2.2 + 1) none none none none (nI ((S j).2.2.2 + 1)) := Or.inr (Or.inr (Or.inr (Or.inr ⟨hk9, rfl, rfl, rfl, zO_z.symm, rfl⟩)))
      have hzp := hz.put hV hi (s := ((S j).1, (S j).2.1, 0, (S j).2.2.2 + 1)) (show ¬ ((S j).1 = -1) from fun z => absurd (hk9.symm.trans z) (by decide)) ⟨none, none, none, none, (nI ((S j).2.2.2 + 1)), fqh, zvn⟩
      have hfp : zFr h (qs (qs h qh (.inr (2, [.int 6, .null, .null, .null, .null, .int (nI ((S j).2.2.2 + 1))]))) sl (.inl (cy 3, 24, .inr (.inr (.inr (.inr (va_up fs i (some qh)))))))) x sl kr vr bd br Xb := hf.trs (zFr.set hz.2.1.1 (Or.inr (Or.inl rfl)))
      have hkd : qHd (qs h qh (.inr (2, [.int 6, .null, .null, .null, .null, .int (nI ((S j).2.2.2 + 1))]))) qh ((S j).1) none none none none (nI ((S j).2.2.2 + 1)) (nI (zAm ((S j).1, (S j).2.1, 0, (S j).2.2.2 + 1))) := zHd.hd (s := ((S j).1, (S j).2.1, 0, (S j).2.2.2 + 1)) fqh zvn
      refine q_callV (rest := []) C (c_X6_keep l D cy N0 (qs h qh (.inr (2, [.int 6, .null, .null, .null, .null, .int (nI ((S j).2.2.2 + 1))]))) x sl bl kr vr mk (oCq (o, a, k).1) (oMq (o, a, k).1) (nI Ed) fs i qh ((S j).1) none none none none (nI ((S j).2.2.2 + 1)) (nI (zAm ((S j).1, (S j).2.1, 0, (S j).2.2.2 + 1))) hz.1.1 hz.2.1.1 hi hkd) kX6_keep g218 g220 rfl gp1 g1 hP hS hz.1.1 (by first | decide | omega) hl.1 rfl (by decide) (by first | decide | omega) dX6_take_43 (fun q ce E h' H1 locs1 hE => hE.elim) (fun v hh8 H locs hq hP hS => ?_)
      obtain ⟨rfl, rfl⟩ := hq
      replace faj := (qs_ne (h := (qs h qh (.inr (2, [.int 6, .null, .null, .null, .null, .int (nI ((S j).2.2.2 + 1))])))) (a := sl) (o := (.inl (cy 3, 24, .inr (.inr (.inr (.inr (va_up fs i (some qh)))))))) (fun z => by rw [z, hz.2.1.1] at faj; cases faj)).trans faj
      refine lv_pop hx hb dX6_take_46 rfl ?_
      have ex : (xs_take S (o, a, k) (nI i) (nI j) (nI q9)) = (0, qU S i ((S j).1, (S j).2.1, 0, (S j).2.2.2 + 1), o, a, k) := by unfold xs_take; rw [if_neg (by rw [ebi, ebj]; exact fun z => z.elim (fun z => by cases z) (fun z => z.elim (fun z => by cases z) hnn)), ecj, if_neg (by rw [hoj]; decide), if_neg (fun z => z hr9), eci, ecq]; dsimp only; rw [eT]
      exact q_vret C hP hS ⟨by rw [ex], rfl, by rw [ex]; exact hzp.po hfp⟩ (by omega) dX6_take_47
    · exact absurd hs0 (fun z => z.elim (fun z => by rw [z, zO_z] at esq; cases esq) (fun z => by rcases hq with ⟨y, -⟩ | ⟨y, -⟩ <;> omega))
  · have hs1 : ¬ (S j).2.2.1 = 0 := fun z => hs0 (Or.inl z)
    have hs2 : ¬ q9 = 0 := fun z => hs0 (Or.inr z)
    have hrr : a.2.2.2 (S j).2.2.1 = (S j).2.2.1 := hV.r _ hs8.1
    obtain ⟨way, cod, cc0, num, src, beh, row, dn, rst, fgi, -⟩ := hz.1.2.1 (S j).2.2.1 (by omega) (hSt j (by omega) hk9).1
    obtain ⟨gi, egi⟩ : ∃ z, g (S j).2.2.1 = z := ⟨_, rfl⟩
    rw [egi] at fgi
    dsimp only at fgi
    by_cases hq1 : q9 = 1
    · have eT : xTak a k (S j).2.2.1 q9 = (a.1, xCons a (a.2.2.1 (S j).2.2.1) k.1, xRdy k 0) := by unfold xTak; rw [if_neg hs0, if_pos hq1]
      refine lv_astore (lv' := [(4, .ref aj), (0, .ref x), (1, .int (nI i)), (2, .int (nI j)), (3, .int (nI q9))]) hx hb dX6_take_19 hl (by decide) rfl (fun ls hl => ?_)
      refine lv_aload_n hx hb dX6_take_21 rfl (lv_at hl 1 rfl) ?_
      refine lv_iload_n hx hb dX6_take_22 rfl (lv_at hl 2 rfl) ?_
      refine lv_aload hx hb dX6_take_23 (lv_at hl 0 rfl) ?_
      refine q_get C hP faj rfl inX2 4 (by decide) g202 rfl dX6_take_25 ?_
      refine lv_iload_n hx hb dX6_take_28 rfl (lv_at hl 4 rfl) ?_
      have e10 : (if (zO g (S j).2.2.1) = none ∨ q9 = 0 then 0 else 1) ≤ 1 ∧ (if (zO g (S j).2.2.1) = none ∨ q9 = 0 then 0 else 10) ≤ 10 := ⟨by split <;> omega, by split <;> omega⟩
      refine q_callS (rest := [.int (nI i), .ref x]) C (c_X5_taken l D cy N0 h (zO g (S j).2.2.1) q9 (a.2.2.1 (S j).2.2.1) cc0 way cod num dn (va_rf src) (va_rf beh) (va_rf row) (va_rf rst) (fun sq e => by rw [zO_s hs1, egi] at e; cases e; exact fgi) hq9) kX5_taken g701 g702 hP hS (by first | decide | omega) hl.1 rfl (by simp [q_catrf, q_cati, q_catl, q_cata, q_catn]) (by first | decide | omega) dX6_take_29 (fun q ce E h' H1 locs1 hE => hE.elim) (fun v hh9 H locs hq hP hS => ?_)
      rcases hq with ⟨rfl, rfl, hor⟩ | ⟨sq, q, esq, rfl, oq, hq⟩
      · exact absurd hor (fun z => z.elim (fun z => by rw [zO_s hs1] at z; cases z) hs2)
      · rw [zO_s hs1, egi] at esq
        cases esq
        rcases hq with ⟨hj1, rfl⟩ | ⟨hj1, rfl⟩
        · by_cases hdd : (S j).2.2.2 < 100
          · replace hP : qP D N0 (qs h q (.inr (5, [.long (a.2.2.1 (S j).2.2.1), .int 0, .int 0, .long 0, .int 0, .null, .null, .null, .int 1, .null]))) H := hP
            have hw9 : zW (qs h q (.inr (5, [.long (a.2.2.1 (S j).2.2.1), .int 0, .int 0, .long 0, .int 0, .null, .null, .null, .int 1, .null]))) x mk sl bl kr vr (nI Ed) (qU g a.1 q) (xRs S) (o, xCons a (a.2.2.1 (S j).2.2.1) k.1, xRdy k 0) := hz.1.new hV (q := q) (x0 := a.2.2.1 (S j).2.2.1) (rr := k.1) (way := 0) (cod := 0) (cc := 0) (num := 0) (src := none) (beh := none) (row := none) (dn := 1) (rst := none) oq (xRdy_u hV (s := 0)) (Or.inl ⟨rfl, rfl, zO_z.symm⟩)
            have hH9 : zH h (qs h q (.inr (5, [.long (a.2.2.1 (S j).2.2.1), .int 0, .int 0, .long 0, .int 0, .null, .null, .null, .int 1, .null]))) x := zH.new oq
            obtain ⟨dp2, -, hV2, -⟩ := hV.pushR (dc := dp 0) (o' := o) (x := a.2.2.1 (S j).2.2.1) (s := 0) rfl ⟨by show 0 < a.1; omega, Nat.le_refl _⟩ oSame
            dsimp only at hV2
            have ezo : zO (qU g a.1 q) a.1 = some q := by rw [zO_s (by omega), qU_at]
            replace faj := hH9.1 _ _ faj (fun z => by rw [z, hz.1.1] at faj; simp at faj) (fun fv z => by simp at z)
            clear fgi
            replace hf := hf.trs (zH.fr hH9)
            replace hz := hz.str hw9 hH9 (fun s hs => qU_ne (Nat.ne_of_lt hs)) (fun i hi y => (hSt i hi y).1)
            have hV0 := hV
            replace hV := hV2
            refine lv_aload hx hb dX6_take_32 (lv_at hl 0 rfl) ?_
            refine q_get C hP faj rfl inX2 5 (by decide) g204 rfl dX6_take_34 ?_
            refine q_callS (rest := [va_rf (some q), .int (nI i), .ref x]) C (c_X6_deeperThan l D cy N0 (qs h q (.inr (5, [.long (a.2.2.1 (S j).2.2.1), .int 0, .int 0, .long 0, .int 0, .null, .null, .null, .int 1, .null]))) (nI ((S j).2.2.2))) kX6_deeperThan g844 g845 hP hS (by first | decide | omega) hl.1 rfl (by simp [q_catrf, q_cati, q_catl, q_cata, q_catn]) (by first | decide | omega) dX6_take_37 (fun q ce E h' H1 locs1 hE hP hS hc1 hc2 hc3 => absurd ((nI_ltI (a := (S j).2.2.2) (b := 100) (by omega) (by omega)).mpr hdd) hE.2.2) (fun v hh10 H locs hq hP hS => ?_)
            obtain ⟨rfl, rfl, hr9⟩ := hq
            replace hr9 := (nI_ltI (a := (S j).2.2.2) (b := 100) (by omega) (by omega)).mp hr9
            rw [show nI ((S j).2.2.2) + 1 = nI ((S j).2.2.2 + 1) from nI_1 _]
            refine q_callS (rest := [.int (nI i), .ref x]) C (c_X2_ofStream l D cy N0 (qs h q (.inr (5, [.long (a.2.2.1 (S j).2.2.1), .int 0, .int 0, .long 0, .int 0, .null, .null, .null, .int 1, .null]))) (some q) (nI ((S j).2.2.2 + 1))) kX2_ofStream g580 g581 hP hS (by first | decide | omega) hl.1 rfl (by simp [q_catrf, q_cati, q_catl, q_cata, q_catn]) (by first | decide | omega) dX6_take_40 (fun q ce E h' H1 locs1 hE => hE.elim) (fun v hh11 H locs hq hP hS => ?_)
            obtain ⟨qh, rfl, oqh, rfl⟩ := hq
            replace hP : qP D N0 (qs (qs h q (.inr (5, [.long (a.2.2.1 (S j).2.2.1), .int 0, .int 0, .long 0, .int 0, .null, .null, .null, .int 1, .null]))) qh (.inr (2, [.int 6, .null, .null, .null, va_rf (some q), .int (nI ((S j).2.2.2 + 1))]))) H := hP
            have hleh : qle (qs h q (.inr (5, [.long (a.2.2.1 (S j).2.2.1), .int 0, .int 0, .long 0, .int 0, .null, .null, .null, .int 1, .null]))) (qs (qs h q (.inr (5, [.long (a.2.2.1 (S j).2.2.1), .int 0, .int 0, .long 0, .int 0, .null, .null, .null, .int 1, .null]))) qh (.inr (2, [.int 6, .null, .null, .null, va_rf (some q), .int (nI ((S j).2.2.2 + 1))]))) := qle_new oqh
            replace faj := hleh _ _ faj
            replace hf := hf.trs (zFr.le hleh (qle.dom hleh))
            replace hz := hz.le hV hleh (qle.dom hleh)
            have fqh : (qs (qs h q (.inr (5, [.long (a.2.2.1 (S j).2.2.1), .int 0, .int 0, .long 0, .int 0, .null, .null, .null, .int 1, .null]))) qh (.inr (2, [.int 6, .null, .null, .null, va_rf (some q), .int (nI ((S j).2.2.2 + 1))]))) qh = some (.inr (2, [.int 6, .null, .null, .null, va_rf (some q), .int (nI ((S j).2.2.2 + 1))])) := qs_self
            replace fqh : (qs (qs h q (.inr (5, [.long (a.2.2.1 (S j).2.2.1), .int 0, .int 0, .long 0, .int 0, .null, .null, .null, .int 1, .null]))) qh (.inr (2, [.int 6, .null, .null, .null, va_rf (some q), .int (nI ((S j).2.2.2 + 1))]))) qh = some (.inr (2, [.int (S j).1, .null, .null, .null, va_rf (some q), .int (nI ((S j).2.2.2 + 1))])) := by rw [hk9]; exact fqh
            have zvn : zV cy (qs (qs h q (.inr (5, [.long (a.2.2.1 (S j).2.2.1), .int 0, .int 0, .long 0, .int 0, .null, .null, .null, .int 1, .null]))) qh (.inr (2, [.int 6, .null, .null, .null, va_rf (some q), .int (nI ((S j).2.2.2 + 1))]))) Im (zOk Ed eb S) mk (qU g a.1 q) ((S j).1, (S j).2.1, a.1, (S j).2.2.2 + 1) none none none (some q) (nI ((S j).2.2.2 + 1)) := Or.inr (Or.inr (Or.inr (Or.inr ⟨hk9, rfl, rfl, rfl, ezo.symm, rfl⟩)))
            have hzp := hz.put hV hi (s := ((S j).1, (S j).2.1, a.1, (S j).2.2.2 + 1)) (show ¬ ((S j).1 = -1) from fun z => absurd (hk9.symm.trans z) (by decide)) ⟨none, none, none, (some q), (nI ((S j).2.2.2 + 1)), fqh, zvn⟩
            have hfp : zFr h (qs (qs (qs h q (.inr (5, [.long (a.2.2.1 (S j).2.2.1), .int 0, .int 0, .long 0, .int 0, .null, .null, .null, .int 1, .null]))) qh (.inr (2, [.int 6, .null, .null, .null, va_rf (some q), .int (nI ((S j).2.2.2 + 1))]))) sl (.inl (cy 3, 24, .inr (.inr (.inr (.inr (va_up fs i (some qh)))))))) x sl kr vr bd br Xb := hf.trs (zFr.set hz.2.1.1 (Or.inr (Or.inl rfl)))
            have hkd : qHd (qs (qs h q (.inr (5, [.long (a.2.2.1 (S j).2.2.1), .int 0, .int 0, .long 0, .int 0, .null, .null, .null, .int 1, .null]))) qh (.inr (2, [.int 6, .null, .null, .null, va_rf (some q), .int (nI ((S j).2.2.2 + 1))]))) qh ((S j).1) none none none (some q) (nI ((S j).2.2.2 + 1)) (nI (zAm ((S j).1, (S j).2.1, a.1, (S j).2.2.2 + 1))) := zHd.hd (s := ((S j).1, (S j).2.1, a.1, (S j).2.2.2 + 1)) fqh zvn
            refine q_callV (rest := []) C (c_X6_keep l D cy N0 (qs (qs h q (.inr (5, [.long (a.2.2.1 (S j).2.2.1), .int 0, .int 0, .long 0, .int 0, .null, .null, .null, .int 1, .null]))) qh (.inr (2, [.int 6, .null, .null, .null, va_rf (some q), .int (nI ((S j).2.2.2 + 1))]))) x sl bl kr vr mk (oCq (o, xCons a (a.2.2.1 (S j).2.2.1) k.1, xRdy k 0).1) (oMq (o, xCons a (a.2.2.1 (S j).2.2.1) k.1, xRdy k 0).1) (nI Ed) fs i qh ((S j).1) none none none (some q) (nI ((S j).2.2.2 + 1)) (nI (zAm ((S j).1, (S j).2.1, a.1, (S j).2.2.2 + 1))) hz.1.1 hz.2.1.1 hi hkd) kX6_keep g218 g220 rfl gp1 g1 hP hS hz.1.1 (by first | decide | omega) hl.1 rfl (by decide) (by first | decide | omega) dX6_take_43 (fun q ce E h' H1 locs1 hE => hE.elim) (fun v hh12 H locs hq hP hS => ?_)
            obtain ⟨rfl, rfl⟩ := hq
            replace faj := (qs_ne (h := (qs (qs h q (.inr (5, [.long (a.2.2.1 (S j).2.2.1), .int 0, .int 0, .long 0, .int 0, .null, .null, .null, .int 1, .null]))) qh (.inr (2, [.int 6, .null, .null, .null, va_rf (some q), .int (nI ((S j).2.2.2 + 1))])))) (a := sl) (o := (.inl (cy 3, 24, .inr (.inr (.inr (.inr (va_up fs i (some qh)))))))) (fun z => by rw [z, hz.2.1.1] at faj; cases faj)).trans faj
            refine lv_pop hx hb dX6_take_46 rfl ?_
            have ex : (xs_take S (o, a, k) (nI i) (nI j) (nI q9)) = (0, qU S i ((S j).1, (S j).2.1, a.1, (S j).2.2.2 + 1), o, xCons a (a.2.2.1 (S j).2.2.1) k.1, xRdy k 0) := by unfold xs_take; rw [if_neg (by rw [ebi, ebj]; exact fun z => z.elim (fun z => by cases z) (fun z => z.elim (fun z => by cases z) hnn)), ecj, if_neg (by rw [hoj]; decide), if_neg (fun z => z hr9), eci, ecq]; dsimp only; rw [eT]
            exact q_vret C hP hS ⟨by rw [ex], rfl, by rw [ex]; exact hzp.po hfp⟩ (by omega) dX6_take_47
          · replace hP : qP D N0 (qs h q (.inr (5, [.long (a.2.2.1 (S j).2.2.1), .int 0, .int 0, .long 0, .int 0, .null, .null, .null, .int 1, .null]))) H := hP
            have hle9 : qle h (qs h q (.inr (5, [.long (a.2.2.1 (S j).2.2.1), .int 0, .int 0, .long 0, .int 0, .null, .null, .null, .int 1, .null]))) := qle_new oq
            replace faj := hle9 _ _ faj
            replace fgi := hle9 _ _ fgi
            replace hf := hf.trs (zFr.le hle9 (qle.dom hle9))
            replace hz := hz.le hV hle9 (qle.dom hle9)
            refine lv_aload hx hb dX6_take_32 (lv_at hl 0 rfl) ?_
            refine q_get C hP faj rfl inX2 5 (by decide) g204 rfl dX6_take_34 ?_
            refine q_callS (rest := [va_rf (some q), .int (nI i), .ref x]) C (c_X6_deeperThan l D cy N0 (qs h q (.inr (5, [.long (a.2.2.1 (S j).2.2.1), .int 0, .int 0, .long 0, .int 0, .null, .null, .null, .int 1, .null]))) (nI ((S j).2.2.2))) kX6_deeperThan g844 g845 hP hS (by first | decide | omega) hl.1 rfl (by simp [q_catrf, q_cati, q_catl, q_cata, q_catn]) (by first | decide | omega) dX6_take_37 (fun q ce E h' H1 locs1 hE hP hS hc1 hc2 hc3 => by obtain ⟨rfl, rfl, hn9⟩ := hE; replace hn9 : ¬ (S j).2.2.2 < 100 := fun z => hn9 ((nI_ltI (a := (S j).2.2.2) (b := 100) (by omega) (by omega)).mpr z); exact q_out C hP hS hc1 hc2 hc3 (by have ex : (xs_take S (o, a, k) (nI i) (nI j) (nI q9)) = (3, S, o, a, k) := (by unfold xs_take; rw [if_neg (by rw [ebi, ebj]; exact fun z => z.elim (fun z => by cases z) (fun z => z.elim (fun z => by cases z) hnn)), ecj, if_neg (by rw [hoj]; decide), if_pos hn9]); exact ⟨by rw [ex]; exact .tail _ (.tail _ (.head _)), by rw [ex]; exact hz.po hf⟩) (by omega)) (fun v hh13 H locs hq hP hS => ?_)
            obtain ⟨rfl, rfl, hr9⟩ := hq
            replace hr9 := (nI_ltI (a := (S j).2.2.2) (b := 100) (by omega) (by omega)).mp hr9
            exact absurd hr9 hdd
        · exact absurd hj1 (by omega)
    · have eT : xTak a k (S j).2.2.1 q9 = (a.1, xCons a (a.2.2.1 (S j).2.2.1) k.1, xCell k 5 (S j).2.2.1 (q9 - 1) 0 0) := by unfold xTak; rw [if_neg hs0, if_neg hq1, hrr]
      refine lv_astore (lv' := [(4, .ref aj), (0, .ref x), (1, .int (nI i)), (2, .int (nI j)), (3, .int (nI q9))]) hx hb dX6_take_19 hl (by decide) rfl (fun ls hl => ?_)
      refine lv_aload_n hx hb dX6_take_21 rfl (lv_at hl 1 rfl) ?_
      refine lv_iload_n hx hb dX6_take_22 rfl (lv_at hl 2 rfl) ?_
      refine lv_aload hx hb dX6_take_23 (lv_at hl 0 rfl) ?_
      refine q_get C hP faj rfl inX2 4 (by decide) g202 rfl dX6_take_25 ?_
      refine lv_iload_n hx hb dX6_take_28 rfl (lv_at hl 4 rfl) ?_
      have e10 : (if (zO g (S j).2.2.1) = none ∨ q9 = 0 then 0 else 1) ≤ 1 ∧ (if (zO g (S j).2.2.1) = none ∨ q9 = 0 then 0 else 10) ≤ 10 := ⟨by split <;> omega, by split <;> omega⟩
      refine q_callS (rest := [.int (nI i), .ref x]) C (c_X5_taken l D cy N0 h (zO g (S j).2.2.1) q9 (a.2.2.1 (S j).2.2.1) cc0 way cod num dn (va_rf src) (va_rf beh) (va_rf row) (va_rf rst) (fun sq e => by rw [zO_s hs1, egi] at e; cases e; exact fgi) hq9) kX5_taken g701 g702 hP hS (by first | decide | omega) hl.1 rfl (by simp [q_catrf, q_cati, q_catl, q_cata, q_catn]) (by first | decide | omega) dX6_take_29 (fun q ce E h' H1 locs1 hE => hE.elim) (fun v hh14 H locs hq hP hS => ?_)
      rcases hq with ⟨rfl, rfl, hor⟩ | ⟨sq, q, esq, rfl, oq, hq⟩
      · exact absurd hor (fun z => z.elim (fun z => by rw [zO_s hs1] at z; cases z) hs2)
      · rw [zO_s hs1, egi] at esq
        cases esq
        rcases hq with ⟨hj1, rfl⟩ | ⟨hj1, rfl⟩
        · exact absurd hj1 (by omega)
        · by_cases hdd : (S j).2.2.2 < 100
          · replace hP : qP D N0 (qs h q (.inr (5, [.long (a.2.2.1 (S j).2.2.1), .int 5, .int 0, .long 0, .int (nI q9), .ref gi, .null, .null, .int 0, .null]))) H := hP
            have hw9 : zW (qs h q (.inr (5, [.long (a.2.2.1 (S j).2.2.1), .int 5, .int 0, .long 0, .int (nI q9), .ref gi, .null, .null, .int 0, .null]))) x mk sl bl kr vr (nI Ed) (qU g a.1 q) (xRs S) (o, xCons a (a.2.2.1 (S j).2.2.1) k.1, xCell k 5 (S j).2.2.1 (q9 - 1) 0 0) := hz.1.new hV (q := q) (x0 := a.2.2.1 (S j).2.2.1) (rr := k.1) (way := 5) (cod := 0) (cc := 0) (num := nI q9) (src := some gi) (beh := none) (row := none) (dn := 0) (rst := none) oq (xCell_u hV (kd := 5) (s := (S j).2.2.1) (t := q9 - 1) (c := 0) (y := 0)) (Or.inr ⟨rfl, Or.inr (Or.inr (Or.inr (Or.inr (Or.inl ⟨rfl, rfl, by congr 1; omega, by rw [qU_ne (by have := hs8.1; omega), egi], hs1⟩))))⟩)
            have hH9 : zH h (qs h q (.inr (5, [.long (a.2.2.1 (S j).2.2.1), .int 5, .int 0, .long 0, .int (nI q9), .ref gi, .null, .null, .int 0, .null]))) x := zH.new oq
            obtain ⟨dp2, -, hV2, -⟩ := hV.pushC (dc := dp (S j).2.2.1 + 1) (o' := o) (x := a.2.2.1 (S j).2.2.1) (c0 := 0) (x0 := 0) (kd := 5) (s := (S j).2.2.1) (t := q9 - 1) rfl ⟨by omega, fun z => by omega, fun z => by omega, fun z => by omega, fun _ => ⟨hs8.1, by omega⟩, fun z => by omega, fun z => by omega, fun _ => by omega, fun z => by omega⟩ oSame
            dsimp only at hV2
            have ezo : zO (qU g a.1 q) a.1 = some q := by rw [zO_s (by omega), qU_at]
            replace faj := hH9.1 _ _ faj (fun z => by rw [z, hz.1.1] at faj; simp at faj) (fun fv z => by simp at z)
            clear fgi
            replace hf := hf.trs (zH.fr hH9)
            replace hz := hz.str hw9 hH9 (fun s hs => qU_ne (Nat.ne_of_lt hs)) (fun i hi y => (hSt i hi y).1)
            have hV0 := hV
            replace hV := hV2
            refine lv_aload hx hb dX6_take_32 (lv_at hl 0 rfl) ?_
            refine q_get C hP faj rfl inX2 5 (by decide) g204 rfl dX6_take_34 ?_
            refine q_callS (rest := [va_rf (some q), .int (nI i), .ref x]) C (c_X6_deeperThan l D cy N0 (qs h q (.inr (5, [.long (a.2.2.1 (S j).2.2.1), .int 5, .int 0, .long 0, .int (nI q9), .ref gi, .null, .null, .int 0, .null]))) (nI ((S j).2.2.2))) kX6_deeperThan g844 g845 hP hS (by first | decide | omega) hl.1 rfl (by simp [q_catrf, q_cati, q_catl, q_cata, q_catn]) (by first | decide | omega) dX6_take_37 (fun q ce E h' H1 locs1 hE hP hS hc1 hc2 hc3 => absurd ((nI_ltI (a := (S j).2.2.2) (b := 100) (by omega) (by omega)).mpr hdd) hE.2.2) (fun v hh15 H locs hq hP hS => ?_)
            obtain ⟨rfl, rfl, hr9⟩ := hq
            replace hr9 := (nI_ltI (a := (S j).2.2.2) (b := 100) (by omega) (by omega)).mp hr9
            rw [show nI ((S j).2.2.2) + 1 = nI ((S j).2.2.2 + 1) from nI_1 _]
            refine q_callS (rest := [.int (nI i), .ref x]) C (c_X2_ofStream l D cy N0 (qs h q (.inr (5, [.long (a.2.2.1 (S j).2.2.1), .int 5, .int 0, .long 0, .int (nI q9), .ref gi, .null, .null, .int 0, .null]))) (some q) (nI ((S j).2.2.2 + 1))) kX2_ofStream g580 g581 hP hS (by first | decide | omega) hl.1 rfl (by simp [q_catrf, q_cati, q_catl, q_cata, q_catn]) (by first | decide | omega) dX6_take_40 (fun q ce E h' H1 locs1 hE => hE.elim) (fun v hh16 H locs hq hP hS => ?_)
            obtain ⟨qh, rfl, oqh, rfl⟩ := hq
            replace hP : qP D N0 (qs (qs h q (.inr (5, [.long (a.2.2.1 (S j).2.2.1), .int 5, .int 0, .long 0, .int (nI q9), .ref gi, .null, .null, .int 0, .null]))) qh (.inr (2, [.int 6, .null, .null, .null, va_rf (some q), .int (nI ((S j).2.2.2 + 1))]))) H := hP
            have hleh : qle (qs h q (.inr (5, [.long (a.2.2.1 (S j).2.2.1), .int 5, .int 0, .long 0, .int (nI q9), .ref gi, .null, .null, .int 0, .null]))) (qs (qs h q (.inr (5, [.long (a.2.2.1 (S j).2.2.1), .int 5, .int 0, .long 0, .int (nI q9), .ref gi, .null, .null, .int 0, .null]))) qh (.inr (2, [.int 6, .null, .null, .null, va_rf (some q), .int (nI ((S j).2.2.2 + 1))]))) := qle_new oqh
            replace faj := hleh _ _ faj
            replace hf := hf.trs (zFr.le hleh (qle.dom hleh))
            replace hz := hz.le hV hleh (qle.dom hleh)
            have fqh : (qs (qs h q (.inr (5, [.long (a.2.2.1 (S j).2.2.1), .int 5, .int 0, .long 0, .int (nI q9), .ref gi, .null, .null, .int 0, .null]))) qh (.inr (2, [.int 6, .null, .null, .null, va_rf (some q), .int (nI ((S j).2.2.2 + 1))]))) qh = some (.inr (2, [.int 6, .null, .null, .null, va_rf (some q), .int (nI ((S j).2.2.2 + 1))])) := qs_self
            replace fqh : (qs (qs h q (.inr (5, [.long (a.2.2.1 (S j).2.2.1), .int 5, .int 0, .long 0, .int (nI q9), .ref gi, .null, .null, .int 0, .null]))) qh (.inr (2, [.int 6, .null, .null, .null, va_rf (some q), .int (nI ((S j).2.2.2 + 1))]))) qh = some (.inr (2, [.int (S j).1, .null, .null, .null, va_rf (some q), .int (nI ((S j).2.2.2 + 1))])) := by rw [hk9]; exact fqh
            have zvn : zV cy (qs (qs h q (.inr (5, [.long (a.2.2.1 (S j).2.2.1), .int 5, .int 0, .long 0, .int (nI q9), .ref gi, .null, .null, .int 0, .null]))) qh (.inr (2, [.int 6, .null, .null, .null, va_rf (some q), .int (nI ((S j).2.2.2 + 1))]))) Im (zOk Ed eb S) mk (qU g a.1 q) ((S j).1, (S j).2.1, a.1, (S j).2.2.2 + 1) none none none (some q) (nI ((S j).2.2.2 + 1)) := Or.inr (Or.inr (Or.inr (Or.inr ⟨hk9, rfl, rfl, rfl, ezo.symm, rfl⟩)))
            have hzp := hz.put hV hi (s := ((S j).1, (S j).2.1, a.1, (S j).2.2.2 + 1)) (show ¬ ((S j).1 = -1) from fun z => absurd (hk9.symm.trans z) (by decide)) ⟨none, none, none, (some q), (nI ((S j).2.2.2 + 1)), fqh, zvn⟩
            have hfp : zFr h (qs (qs (qs h q (.inr (5, [.long (a.2.2.1 (S j).2.2.1), .int 5, .int 0, .long 0, .int (nI q9), .ref gi, .null, .null, .int 0, .null]))) qh (.inr (2, [.int 6, .null, .null, .null, va_rf (some q), .int (nI ((S j).2.2.2 + 1))]))) sl (.inl (cy 3, 24, .inr (.inr (.inr (.inr (va_up fs i (some qh)))))))) x sl kr vr bd br Xb := hf.trs (zFr.set hz.2.1.1 (Or.inr (Or.inl rfl)))
            have hkd : qHd (qs (qs h q (.inr (5, [.long (a.2.2.1 (S j).2.2.1), .int 5, .int 0, .long 0, .int (nI q9), .ref gi, .null, .null, .int 0, .null]))) qh (.inr (2, [.int 6, .null, .null, .null, va_rf (some q), .int (nI ((S j).2.2.2 + 1))]))) qh ((S j).1) none none none (some q) (nI ((S j).2.2.2 + 1)) (nI (zAm ((S j).1, (S j).2.1, a.1, (S j).2.2.2 + 1))) := zHd.hd (s := ((S j).1, (S j).2.1, a.1, (S j).2.2.2 + 1)) fqh zvn
            refine q_callV (rest := []) C (c_X6_keep l D cy N0 (qs (qs h q (.inr (5, [.long (a.2.2.1 (S j).2.2.1), .int 5, .int 0, .long 0, .int (nI q9), .ref gi, .null, .null, .int 0, .null]))) qh (.inr (2, [.int 6, .null, .null, .null, va_rf (some q), .int (nI ((S j).2.2.2 + 1))]))) x sl bl kr vr mk (oCq (o, xCons a (a.2.2.1 (S j).2.2.1) k.1, xCell k 5 (S j).2.2.1 (q9 - 1) 0 0).1) (oMq (o, xCons a (a.2.2.1 (S j).2.2.1) k.1, xCell k 5 (S j).2.2.1 (q9 - 1) 0 0).1) (nI Ed) fs i qh ((S j).1) none none none (some q) (nI ((S j).2.2.2 + 1)) (nI (zAm ((S j).1, (S j).2.1, a.1, (S j).2.2.2 + 1))) hz.1.1 hz.2.1.1 hi hkd) kX6_keep g218 g220 rfl gp1 g1 hP hS hz.1.1 (by first | decide | omega) hl.1 rfl (by decide) (by first | decide | omega) dX6_take_43 (fun q ce E h' H1 locs1 hE => hE.elim) (fun v hh17 H locs hq hP hS => ?_)
            obtain ⟨rfl, rfl⟩ := hq
            replace faj := (qs_ne (h := (qs (qs h q (.inr (5, [.long (a.2.2.1 (S j).2.2.1), .int 5, .int 0, .long 0, .int (nI q9), .ref gi, .null, .null, .int 0, .null]))) qh (.inr (2, [.int 6, .null, .null, .null, va_rf (some q), .int (nI ((S j).2.2.2 + 1))])))) (a := sl) (o := (.inl (cy 3, 24, .inr (.inr (.inr (.inr (va_up fs i (some qh)))))))) (fun z => by rw [z, hz.2.1.1] at faj; cases faj)).trans faj
            refine lv_pop hx hb dX6_take_46 rfl ?_
            have ex : (xs_take S (o, a, k) (nI i) (nI j) (nI q9)) = (0, qU S i ((S j).1, (S j).2.1, a.1, (S j).2.2.2 + 1), o, xCons a (a.2.2.1 (S j).2.2.1) k.1, xCell k 5 (S j).2.2.1 (q9 - 1) 0 0) := by unfold xs_take; rw [if_neg (by rw [ebi, ebj]; exact fun z => z.elim (fun z => by cases z) (fun z => z.elim (fun z => by cases z) hnn)), ecj, if_neg (by rw [hoj]; decide), if_neg (fun z => z hr9), eci, ecq]; dsimp only; rw [eT]
            exact q_vret C hP hS ⟨by rw [ex], rfl, by rw [ex]; exact hzp.po hfp⟩ (by omega) dX6_take_47
          · replace hP : qP D N0 (qs h q (.inr (5, [.long (a.2.2.1 (S j).2.2.1), .int 5, .int 0, .long 0, .int (nI q9), .ref gi, .null, .null, .int 0, .null]))) H := hP
            have hle9 : qle h (qs h q (.inr (5, [.long (a.2.2.1 (S j).2.2.1), .int 5, .int 0, .long 0, .int (nI q9), .ref gi, .null, .null, .int 0, .null]))) := qle_new oq
            replace faj := hle9 _ _ faj
            replace fgi := hle9 _ _ fgi
            replace hf := hf.trs (zFr.le hle9 (qle.dom hle9))
            replace hz := hz.le hV hle9 (qle.dom hle9)
            refine lv_aload hx hb dX6_take_32 (lv_at hl 0 rfl) ?_
            refine q_get C hP faj rfl inX2 5 (by decide) g204 rfl dX6_take_34 ?_
            refine q_callS (rest := [va_rf (some q), .int (nI i), .ref x]) C (c_X6_deeperThan l D cy N0 (qs h q (.inr (5, [.long (a.2.2.1 (S j).2.2.1), .int 5, .int 0, .long 0, .int (nI q9), .ref gi, .null, .null, .int 0, .null]))) (nI ((S j).2.2.2))) kX6_deeperThan g844 g845 hP hS (by first | decide | omega) hl.1 rfl (by simp [q_catrf, q_cati, q_catl, q_cata, q_catn]) (by first | decide | omega) dX6_take_37 (fun q ce E h' H1 locs1 hE hP hS hc1 hc2 hc3 => by obtain ⟨rfl, rfl, hn9⟩ := hE; replace hn9 : ¬ (S j).2.2.2 < 100 := fun z => hn9 ((nI_ltI (a := (S j).2.2.2) (b := 100) (by omega) (by omega)).mpr z); exact q_out C hP hS hc1 hc2 hc3 (by have ex : (xs_take S (o, a, k) (nI i) (nI j) (nI q9)) = (3, S, o, a, k) := (by unfold xs_take; rw [if_neg (by rw [ebi, ebj]; exact fun z => z.elim (fun z => by cases z) (fun z => z.elim (fun z => by cases z) hnn)), ecj, if_neg (by rw [hoj]; decide), if_pos hn9]); exact ⟨by rw [ex]; exact .tail _ (.tail _ (.head _)), by rw [ex]; exact hz.po hf⟩) (by omega)) (fun v hh18 H locs hq hP hS => ?_)
            obtain ⟨rfl, rfl, hr9⟩ := hq
            replace hr9 := (nI_ltI (a := (S j).2.2.2) (b := 100) (by omega) (by omega)).mp hr9
            exact absurd hr9 hdd
