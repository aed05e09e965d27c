section ZINV
variable {cy : Nat → ClassId} {h : qH} {Im Ok : Nat → Prop} {mk : Int32} {g : Nat → Nat} {s : qSlot} {x1 x2 x3 x4 : Option Nat} {dv : Int32}
theorem zV.seq (z : zV cy h Im Ok mk g s x1 x2 x3 x4 dv) (hk : s.1 = 0 ∨ s.1 = 4) : x2 = none ∧ x3 = none ∧ x4 = none ∧ dv = 0 ∧ ∃ n, qBr h n x1 (s.2.1.map (fun p => (0, p.1))) := by
  rcases z with z | z | z | z | z
  · exact z.2
  · rcases hk with e | e <;> exact absurd (e.symm.trans z.1) (by decide)
  · rcases hk with e | e <;> exact absurd (e.symm.trans z.1) (by decide)
  · rcases hk with e | e <;> rcases z.1 with y | y <;> exact absurd (e.symm.trans y) (by decide)
  · rcases hk with e | e <;> exact absurd (e.symm.trans z.1) (by decide)
theorem zV.tree (z : zV cy h Im Ok mk g s x1 x2 x3 x4 dv) (hk : s.1 = 3) : x2 = none ∧ x3 = none ∧ x4 = none ∧ dv = 0 ∧ ∃ n, qBr h n x1 s.2.1 := by
  rcases z with z | z | z | z | z
  · rcases z.1 with y | y <;> exact absurd (hk.symm.trans y) (by decide)
  · exact z.2
  · exact absurd (hk.symm.trans z.1) (by decide)
  · rcases z.1 with y | y <;> exact absurd (hk.symm.trans y) (by decide)
  · exact absurd (hk.symm.trans z.1) (by decide)
theorem zV.heap (z : zV cy h Im Ok mk g s x1 x2 x3 x4 dv) (hk : s.1 = 5) : x1 = none ∧ x2 = none ∧ x4 = none ∧ dv = 0 ∧ ∃ n M, qPi h n x3 M ∧ M.Perm (s.2.1.map Prod.fst) := by
  rcases z with z | z | z | z | z
  · rcases z.1 with y | y <;> exact absurd (hk.symm.trans y) (by decide)
  · exact absurd (hk.symm.trans z.1) (by decide)
  · exact z.2
  · rcases z.1 with y | y <;> exact absurd (hk.symm.trans y) (by decide)
  · exact absurd (hk.symm.trans z.1) (by decide)
theorem zV.hash (z : zV cy h Im Ok mk g s x1 x2 x3 x4 dv) (hk : s.1 = 1 ∨ s.1 = 2) : x1 = none ∧ x3 = none ∧ x4 = none ∧ dv = 0 ∧ qRt cy h Im 0 Ok mk x2 (zSv s) (fun _ => False) := by
  rcases z with z | z | z | z | z
  · rcases hk with e | e <;> rcases z.1 with y | y <;> exact absurd (e.symm.trans y) (by decide)
  · rcases hk with e | e <;> exact absurd (e.symm.trans z.1) (by decide)
  · rcases hk with e | e <;> exact absurd (e.symm.trans z.1) (by decide)
  · exact z.2
  · rcases hk with e | e <;> exact absurd (e.symm.trans z.1) (by decide)
theorem zV.strm (z : zV cy h Im Ok mk g s x1 x2 x3 x4 dv) (hk : s.1 = 6) : x1 = none ∧ x2 = none ∧ x3 = none ∧ x4 = zO g s.2.2.1 ∧ dv = nI s.2.2.2 := by
  rcases z with z | z | z | z | z
  · rcases z.1 with y | y <;> exact absurd (hk.symm.trans y) (by decide)
  · exact absurd (hk.symm.trans z.1) (by decide)
  · exact absurd (hk.symm.trans z.1) (by decide)
  · rcases z.1 with y | y <;> exact absurd (hk.symm.trans y) (by decide)
  · exact z.2
end ZINV
theorem zAm_n {s : qSlot} (h : ¬ s.1 = 6) : zAm s = s.2.1.length := if_neg h
theorem qSo_of {L : qKV} (h1 : qUp L) (h2 : qNo L) : qSo L := by
  have := h1.and h2
  exact this.imp (fun {a b} z => by
    obtain ⟨z1, z2⟩ := z
    have : a.1.toInt ≠ b.1.toInt := fun e => z2 (Int64.toInt_inj.mp e)
    omega)
theorem dX6_set_10 : decode cX6_set 10 = .ok (.astore 6, 2) := by decide +kernel
theorem dX6_set_12 : decode cX6_set 12 = .ok (.aload 6, 2) := by decide +kernel
theorem dX6_set_14 : decode cX6_set 14 = .ok (.getfield 101, 3) := by decide +kernel
theorem dX6_set_17 : decode cX6_set 17 = .ok (.iload_n 3, 1) := by decide +kernel
theorem dX6_set_18 : decode cX6_set 18 = .ok (.invokestatic 132, 3) := by decide +kernel
theorem dX6_set_21 : decode cX6_set 21 = .ok (.invokestatic 136, 3) := by decide +kernel
theorem dX6_set_24 : decode cX6_set 24 = .ok (.getfield 140, 3) := by decide +kernel
theorem dX6_set_27 : decode cX6_set 27 = .ok (.lstore 7, 2) := by decide +kernel
theorem dX6_set_29 : decode cX6_set 29 = .ok (.aload_n 0, 1) := by decide +kernel
theorem dX6_set_30 : decode cX6_set 30 = .ok (.iload_n 1, 1) := by decide +kernel
theorem dX6_set_31 : decode cX6_set 31 = .ok (.aload 6, 2) := by decide +kernel
theorem dX6_set_33 : decode cX6_set 33 = .ok (.getfield 63, 3) := by decide +kernel
theorem dX6_set_36 : decode cX6_set 36 = .ok (.aload 6, 2) := by decide +kernel
theorem dX6_set_38 : decode cX6_set 38 = .ok (.getfield 101, 3) := by decide +kernel
theorem dX6_set_41 : decode cX6_set 41 = .ok (.iload_n 3, 1) := by decide +kernel
theorem dX6_set_42 : decode cX6_set 42 = .ok (.lload 4, 2) := by decide +kernel
theorem dX6_set_44 : decode cX6_set 44 = .ok (.invokestatic 144, 3) := by decide +kernel
theorem dX6_set_47 : decode cX6_set 47 = .ok (.invokestatic 111, 3) := by decide +kernel
theorem dX6_set_50 : decode cX6_set 50 = .ok (.invokevirtual 51, 3) := by decide +kernel
theorem dX6_set_53 : decode cX6_set 53 = .ok (.pop, 1) := by decide +kernel
theorem dX6_set_54 : decode cX6_set 54 = .ok (.lload 7, 2) := by decide +kernel
theorem dX6_set_56 : decode cX6_set 56 = .ok (.lreturn, 1) := by decide +kernel
set_option maxRecDepth 100000 in
set_option maxHeartbeats 4000000 in
theorem z_set (l : Launch) (D : va_G) (cy : Nat → ClassId) (N0 : Nat) (h : qH) (x : Nat) (mk : Int32) (sl bl kr vr Ed : Nat) (fs : Nat → Option Nat) (bd br eb : Nat → Nat) (Im : Nat → Prop) (Xb : Nat → Nat → Prop) (g : Nat → Nat) (S : Nat → qSlot) (W : qWo) (Bd sk Rn : Nat) (dp : Nat → Nat) (p0 p1 p2 : Int32) (p3 : Int64) (hz : zQ cy h x mk sl bl kr vr Ed fs bd br eb Im Xb g S W) (hI : ∀ i, i < 28 → qOk (S i).1 (S i).2.1) (hLn : ∀ i, i < 28 → (S i).2.1.length ≤ 1000) (hV : qWv Bd sk Rn dp W) : qC l D cy N0 yX6_set cX6_set 9 (some .long) 30 800 40 200 [.ref x, .int p0, .int p1, .int p2, .long p3] h (fun v h' => (xs_set S p0 p1 p2 p3).1 = 0 ∧ v = some (.long (xs_set S p0 p1 p2 p3).2.2) ∧ zPo cy h x mk sl bl kr vr Ed bd br Im Xb ((xs_set S p0 p1 p2 p3).2.1) W h') (fun E h' => zXc [(1, "java/lang/IllegalArgumentException"), (2, "java/lang/IllegalStateException"), (3, "java/util/NoSuchElementException")] E (xs_set S p0 p1 p2 p3).1 ∧ zPo cy h x mk sl bl kr vr Ed bd br Im Xb S W h') := by
  refine q_ofW (by decide) (by exact Nat.le_of_ble_eq_true rfl) ?_
  intro p e s m below meth c ls C hP hl
  have hx := C.1
  have hb := C.2.1
  have hS : va_S (qA N0) s.heap s.heap [] := va_S.rf
  have hl : lv_has ls 9 [(0, .ref x), (1, .int p0), (2, .int p1), (3, .int p2), (4, .long p3)] := hl
  have hf : zFr h h x sl kr vr bd br Xb := zFr.rf
  refine lv_iload_n hx hb dX6_set_0 rfl (lv_at hl 1 rfl) ?_
  refine q_callS (rest := []) C (c_X6_needSlot l D cy N0 h p0) kX6_needSlot g104 g105 hP hS (by first | decide | omega) hl.1 rfl (by decide) (by first | decide | omega) dX6_set_1 (fun q ce E h' H1 locs1 hE hP hS hc1 hc2 hc3 => by obtain ⟨rfl, rfl, hn9⟩ := hE; have eb9 := bSl_f hn9; exact q_out C hP hS hc1 hc2 hc3 (by have ex : (xs_set S p0 p1 p2 p3) = (1, S, 0) := (by unfold xs_set; rw [if_pos (Or.inl eb9)]); exact ⟨by rw [ex]; exact .head _, by exact hz.po hf⟩) (by omega)) (fun v hh1 H locs hq hP hS => ?_)
  obtain ⟨rfl, rfl, sl9⟩ := hq
  obtain ⟨i, hi, rfl⟩ := sl9.of
  have ebi : bSl (nI i) = true := bSl_t sl9
  have eci : (nI i).toNatClampNeg = i := nI_clamp (by omega)
  refine lv_aload_n hx hb dX6_set_4 rfl (lv_at hl 0 rfl) ?_
  refine lv_iload_n hx hb dX6_set_5 rfl (lv_at hl 2 rfl) ?_
  refine lv_iconst (v := nI 1) hx hb dX6_set_6 (by decide) ?_
  refine q_callV (rest := []) C (z_heldIn l D N0 p1 1 hz hI) kX6_heldIn g243 g245 rfl gp2 g1 hP hS hz.1.1 (by first | decide | omega) hl.1 rfl (by decide) (by first | decide | omega) dX6_set_7 (fun q ce E h' H1 locs1 hE hP hS hc1 hc2 hc3 => hE.2.elim (fun y => by obtain ⟨rfl, -⟩ := hE; obtain ⟨rfl, hn9⟩ := y; exact q_out C hP hS hc1 hc2 hc3 (by have ex : (xs_set S (nI i) p1 p2 p3) = (1, S, 0) := (by have ebj := hn9; unfold xs_set; rw [if_pos (Or.inr ebj)]); exact ⟨by rw [ex]; exact .head _, by exact hz.po hf⟩) (by omega)) (fun y => by obtain ⟨rfl, -⟩ := hE; obtain ⟨rfl, j, hi8, rfl, ho8⟩ := y; exact q_out C hP hS hc1 hc2 hc3 (by have ex : (xs_set S (nI i) (nI j) p2 p3) = (2, S, 0) := (by have ebj : bSl (nI j) = true := bSl_t (qSl.nI hi8); have ecj : (nI j).toNatClampNeg = j := nI_clamp (by omega); have hoj := ho8; unfold xs_set; rw [if_neg (by rw [ebi, ebj]; decide), ecj, if_pos hoj]); exact ⟨by rw [ex]; exact .tail _ (.head _), by exact hz.po hf⟩) (by omega))) (fun v hh2 H locs hq hP hS => ?_)
  obtain ⟨rfl, j, aj, hj, rfl, hfsj, rfl, hoj, x1j, x2j, x3j, x4j, dvj, faj, zvj⟩ := hq
  have ebj : bSl (nI j) = true := bSl_t (qSl.nI hj)
  have ecj : (nI j).toNatClampNeg = j := nI_clamp (by omega)
  have hk0 : (S j).1 = 0 := bHo_1 (hI j (by omega)).2.2 hoj
  obtain ⟨rfl, rfl, rfl, rfl, n9, hb9⟩ := zvj.seq (Or.inl hk0)
  have hlm : ((S j).2.1.map (fun p => ((0 : Int64), p.1))).length = (S j).2.1.length := List.length_map ..
  have hl9 := hLn j (by omega)
  have hn14 : n9 ≤ 14 := hb9.h14 (by omega)
  refine lv_astore (lv' := [(6, .ref aj), (0, .ref x), (1, .int (nI i)), (2, .int (nI j)), (3, .int p2), (4, .long p3)]) hx hb dX6_set_10 hl (by decide) rfl (fun ls hl => ?_)
  refine lv_aload hx hb dX6_set_12 (lv_at hl 0 rfl) ?_
  refine q_get C hP faj rfl inX2 1 (by decide) g195 rfl dX6_set_14 ?_
  refine lv_iload_n hx hb dX6_set_17 rfl (lv_at hl 4 rfl) ?_
  refine q_callS (rest := []) C (c_X0_branchAt l D cy N0 h x1j n9 ((S j).2.1.map (fun p => ((0 : Int64), p.1))) p2 hb9 (by omega)) kX0_branchAt g591 g592 hP hS (by first | decide | omega) hl.1 rfl (by decide) (by first | decide | omega) dX6_set_18 (fun q ce E h' H1 locs1 hE => hE.elim) (fun v hh3 H locs hq hP hS => ?_)
  obtain ⟨r9, rfl, rfl, hat⟩ := hq
  rcases hat with ⟨jj, ab, k9, v9, y1, y2, y3, y4, ejj, eL9, rfl, fab⟩ | ⟨rfl, hno⟩
  · subst ejj
    have hjl := (List.getElem?_eq_some_iff.mp eL9).1
    rw [hlm] at hjl
    have ecq : (nI jj).toNatClampNeg = jj := nI_clamp (by omega)
    have hix : bIx (nI jj) (S j).2.1.length = true := by unfold bIx; rw [ecq]; exact decide_eq_true ⟨nI_pos (by omega), hjl⟩
    obtain ⟨p9, egL, ep9⟩ := Option.map_eq_some_iff.mp ((List.getElem?_map ..).symm.trans eL9)
    obtain ⟨rfl, rfl⟩ : (0 : Int64) = k9 ∧ p9.1 = v9 := ⟨congrArg Prod.fst ep9, congrArg Prod.snd ep9⟩
    refine q_callS (rest := []) C (c_X6_needBranch l D cy N0 h (some ab)) kX6_needBranch g595 g596 hP hS (by first | decide | omega) hl.1 rfl (by decide) (by first | decide | omega) dX6_set_21 (fun q ce E h' H1 locs1 hE hP hS hc1 hc2 hc3 => absurd hE.2.2 (fun z => by cases z)) (fun v hh4 H locs hq hP hS => ?_)
    obtain ⟨a8, e8, rfl, rfl⟩ := hq
    cases e8
    refine q_get C hP fab rfl inX0 2 (by decide) g496 rfl dX6_set_24 ?_
    refine lv_lstore (lv' := [(7, .long p9.1), (6, .ref aj), (0, .ref x), (1, .int (nI i)), (2, .int (nI j)), (3, .int (nI jj)), (4, .long p3)]) hx hb dX6_set_27 hl (by decide) rfl (fun ls hl => ?_)
    refine lv_aload_n hx hb dX6_set_29 rfl (lv_at hl 2 rfl) ?_
    refine lv_iload_n hx hb dX6_set_30 rfl (lv_at hl 3 rfl) ?_
    refine lv_aload hx hb dX6_set_31 (lv_at hl 1 rfl) ?_
    refine q_get C hP faj rfl inX2 0 (by decide) g192 rfl dX6_set_33 ?_
    refine lv_aload hx hb dX6_set_36 (lv_at hl 1 rfl) ?_
    refine q_get C hP faj rfl inX2 1 (by decide) g195 rfl dX6_set_38 ?_
    refine lv_iload_n hx hb dX6_set_41 rfl (lv_at hl 5 rfl) ?_
    refine lv_lload hx hb dX6_set_42 (lv_at hl 6 rfl) ?_
    refine q_callSN (host := RX6) (rest := [.int (S j).1, .int (nI i), .ref x]) C (c_X0_withValueAt l D cy N0 (n9 + 1) h x1j n9 ((S j).2.1.map (fun p => ((0 : Int64), p.1))) jj 0 p3 p9.1 hb9 (by omega) eL9 (by omega) (by omega)) kX0_withValueAt (by decide +kernel) g618 hP hS (by first | decide | omega) hl.1 rfl (by simp [q_catrf, q_cati, q_catl, q_cata, q_catn]) (by first | decide | omega) dX6_set_44 (fun v hh5 H locs hq hP hS => ?_)
    obtain ⟨r8, n8, rfl, hle8, hb8, -⟩ := hq
    replace faj := hle8 _ _ faj
    replace fab := hle8 _ _ fab
    replace zvj := zvj.le hle8
    replace hb9 := hb9.le hle8
    replace hf := hf.trs (zFr.le hle8 (qle.dom hle8))
    replace hz := hz.le hV hle8 (qle.dom hle8)
    refine q_callS (rest := [.int (nI i), .ref x]) C (c_X2_ofTree l D cy N0 hh5 ((S j).1) r8) kX2_ofTree g516 g517 hP hS (by first | decide | omega) hl.1 rfl (by simp [q_catrf, q_cati, q_catl, q_cata, q_catn]) (by first | decide | omega) dX6_set_47 (fun q ce E h' H1 locs1 hE => hE.elim) (fun v hh6 H locs hq hP hS => ?_)
    obtain ⟨qh, rfl, oqh, rfl⟩ := hq
    replace hP : qP D N0 (qs hh5 qh (.inr (2, [.int (S j).1, va_rf r8, .null, .null, .null, .int 0]))) H := hP
    have hleh : qle hh5 (qs hh5 qh (.inr (2, [.int (S j).1, va_rf r8, .null, .null, .null, .int 0]))) := qle_new oqh
    replace faj := hleh _ _ faj
    replace fab := hleh _ _ fab
    replace zvj := zvj.le hleh
    replace hb9 := hb9.le hleh
    replace hb8 := hb8.le hleh
    replace hf := hf.trs (zFr.le hleh (qle.dom hleh))
    replace hz := hz.le hV hleh (qle.dom hleh)
    have fqh : (qs hh5 qh (.inr (2, [.int (S j).1, va_rf r8, .null, .null, .null, .int 0]))) qh = some (.inr (2, [.int (S j).1, va_rf r8, .null, .null, .null, .int 0])) := qs_self
    have zvn : zV cy (qs hh5 qh (.inr (2, [.int (S j).1, va_rf r8, .null, .null, .null, .int 0]))) Im (zOk Ed eb S) mk g ((S j).1, (S j).2.1.set jj (p3, 0), (S j).2.2) r8 none none none 0 := Or.inl ⟨Or.inl hk0, rfl, rfl, rfl, rfl, n8, by rw [List.map_set]; exact hb8⟩
    have hzp := hz.put hV hi (s := ((S j).1, (S j).2.1.set jj (p3, 0), (S j).2.2)) (fun z => absurd (hk0.symm.trans z) (by decide)) ⟨r8, none, none, none, 0, fqh, zvn⟩
    have hfp : zFr h (qs (qs hh5 qh (.inr (2, [.int (S j).1, va_rf r8, .null, .null, .null, .int 0]))) sl (.inl (cy 3, 24, .inr (.inr (.inr (.inr (va_up fs i (some qh)))))))) x sl kr vr bd br Xb := hf.trs (zFr.set hz.2.1.1 (Or.inr (Or.inl rfl)))
    have hkd : qHd (qs hh5 qh (.inr (2, [.int (S j).1, va_rf r8, .null, .null, .null, .int 0]))) qh ((S j).1) r8 none none none 0 (nI (zAm ((S j).1, (S j).2.1.set jj (p3, 0), (S j).2.2))) := zHd.hd (s := ((S j).1, (S j).2.1.set jj (p3, 0), (S j).2.2)) fqh zvn
    refine q_callV (rest := []) C (c_X6_keep l D cy N0 (qs hh5 qh (.inr (2, [.int (S j).1, va_rf r8, .null, .null, .null, .int 0]))) x sl bl kr vr mk (oCq W.1) (oMq W.1) (nI Ed) fs i qh ((S j).1) r8 none none none 0 (nI (zAm ((S j).1, (S j).2.1.set jj (p3, 0), (S j).2.2))) hz.1.1 hz.2.1.1 hi hkd) kX6_keep g218 g220 rfl gp1 g1 hP hS hz.1.1 (by first | decide | omega) hl.1 rfl (by decide) (by first | decide | omega) dX6_set_50 (fun q ce E h' H1 locs1 hE => hE.elim) (fun v hh7 H locs hq hP hS => ?_)
    obtain ⟨rfl, rfl⟩ := hq
    replace faj := (qs_ne (h := (qs hh5 qh (.inr (2, [.int (S j).1, va_rf r8, .null, .null, .null, .int 0])))) (a := sl) (o := (.inl (cy 3, 24, .inr (.inr (.inr (.inr (va_up fs i (some qh)))))))) (fun z => by rw [z, hz.2.1.1] at faj; cases faj)).trans faj
    replace fab := (qs_ne (h := (qs hh5 qh (.inr (2, [.int (S j).1, va_rf r8, .null, .null, .null, .int 0])))) (a := sl) (o := (.inl (cy 3, 24, .inr (.inr (.inr (.inr (va_up fs i (some qh)))))))) (fun z => by rw [z, hz.2.1.1] at fab; cases fab)).trans fab
    refine lv_pop hx hb dX6_set_53 rfl ?_
    refine lv_lload hx hb dX6_set_54 (lv_at hl 0 rfl) ?_
    have ex : (xs_set S (nI i) (nI j) (nI jj) p3) = (0, qU S i ((S j).1, (S j).2.1.set jj (p3, 0), (S j).2.2), p9.1) := by unfold xs_set; rw [if_neg (by rw [ebi, ebj]; decide), ecj, if_neg (by rw [hoj]; decide), eci]; unfold xr_set; rw [if_neg (by rw [hix]; decide), ecq, List.getD_eq_getElem?_getD, egL]; rfl
    exact q_lret C hP hS ⟨by rw [ex], by first | (rw [ex]; done) | (rw [ex]), by rw [ex]; exact hzp.po hfp⟩ (by omega) dX6_set_56
  · have hix : bIx p2 (S j).2.1.length = false := decide_eq_false (fun z => hno.elim z.1 (fun ⟨j9, e9, h1, h2⟩ => by rw [e9, nI_clamp h2] at z; omega))
    refine q_callS (rest := []) C (c_X6_needBranch l D cy N0 h none) kX6_needBranch g595 g596 hP hS (by first | decide | omega) hl.1 rfl (by decide) (by first | decide | omega) dX6_set_21 (fun q ce E h' H1 locs1 hE hP hS hc1 hc2 hc3 => by obtain ⟨rfl, rfl, hn9⟩ := hE; exact q_out C hP hS hc1 hc2 hc3 (by have ex : (xs_set S (nI i) (nI j) p2 p3) = (3, S, 0) := (by unfold xs_set; rw [if_neg (by rw [ebi, ebj]; decide), ecj, if_neg (by rw [hoj]; decide), eci]; unfold xr_set; rw [if_pos hix]); exact ⟨by rw [ex]; exact .tail _ (.tail _ (.head _)), by exact hz.po hf⟩) (by omega)) (fun v hh8 H locs hq hP hS => ?_)
    obtain ⟨a8, e8, rfl, rfl⟩ := hq
    cases e8
theorem nI_subneg {a b : Nat} (h : a < b) (ha : a ≤ 1000) (hb : b < 2 ^ 31) : nI a - nI b < 0 := by
  rw [Int32.lt_iff_toInt_lt, Int32.toInt_sub, nI_toInt (show a < 2 ^ 31 by omega), nI_toInt hb, Int.bmod_eq_of_le (by omega) (by omega)]
  show (a : Int) - b < 0
  omega
theorem qTc14 {n : Nat} (h : n ≤ 14) : qTc n ≤ 287 := Nat.le_trans (qTc_mono h) (by decide)
theorem dX6_drop_18 : decode cX6_drop 18 = .ok (.astore 5, 2) := by decide +kernel
theorem dX6_drop_20 : decode cX6_drop 20 = .ok (.aload 5, 2) := by decide +kernel
theorem dX6_drop_22 : decode cX6_drop 22 = .ok (.invokevirtual 59, 3) := by decide +kernel
theorem dX6_drop_25 : decode cX6_drop 25 = .ok (.iload_n 3, 1) := by decide +kernel
theorem dX6_drop_26 : decode cX6_drop 26 = .ok (.isub, 1) := by decide +kernel
theorem dX6_drop_27 : decode cX6_drop 27 = .ok (.istore 6, 2) := by decide +kernel
theorem dX6_drop_29 : decode cX6_drop 29 = .ok (.iload 6, 2) := by decide +kernel
theorem dX6_drop_31 : decode cX6_drop 31 = .ok (.ifCond .lt 7, 3) := by decide +kernel
theorem dX6_drop_34 : decode cX6_drop 34 = .ok (.iconst 1, 1) := by decide +kernel
theorem dX6_drop_35 : decode cX6_drop 35 = .ok (.goto 4, 3) := by decide +kernel
theorem dX6_drop_38 : decode cX6_drop 38 = .ok (.iconst 0, 1) := by decide +kernel
theorem dX6_drop_39 : decode cX6_drop 39 = .ok (.invokestatic 169, 3) := by decide +kernel
theorem dX6_drop_42 : decode cX6_drop 42 = .ok (.iload 4, 2) := by decide +kernel
theorem dX6_drop_44 : decode cX6_drop 44 = .ok (.ifCond .eq 15, 3) := by decide +kernel
theorem dX6_drop_47 : decode cX6_drop 47 = .ok (.aload 5, 2) := by decide +kernel
theorem dX6_drop_49 : decode cX6_drop 49 = .ok (.getfield 101, 3) := by decide +kernel
theorem dX6_drop_52 : decode cX6_drop 52 = .ok (.iload_n 3, 1) := by decide +kernel
theorem dX6_drop_53 : decode cX6_drop 53 = .ok (.invokestatic 173, 3) := by decide +kernel
theorem dX6_drop_56 : decode cX6_drop 56 = .ok (.goto 13, 3) := by decide +kernel
theorem dX6_drop_59 : decode cX6_drop 59 = .ok (.aload 5, 2) := by decide +kernel
theorem dX6_drop_61 : decode cX6_drop 61 = .ok (.getfield 101, 3) := by decide +kernel
theorem dX6_drop_64 : decode cX6_drop 64 = .ok (.iload 6, 2) := by decide +kernel
theorem dX6_drop_66 : decode cX6_drop 66 = .ok (.invokestatic 176, 3) := by decide +kernel
theorem dX6_drop_69 : decode cX6_drop 69 = .ok (.astore 7, 2) := by decide +kernel
theorem dX6_drop_71 : decode cX6_drop 71 = .ok (.aload_n 0, 1) := by decide +kernel
theorem dX6_drop_72 : decode cX6_drop 72 = .ok (.iload_n 1, 1) := by decide +kernel
theorem dX6_drop_73 : decode cX6_drop 73 = .ok (.aload 5, 2) := by decide +kernel
theorem dX6_drop_75 : decode cX6_drop 75 = .ok (.getfield 63, 3) := by decide +kernel
theorem dX6_drop_78 : decode cX6_drop 78 = .ok (.aload 7, 2) := by decide +kernel
theorem dX6_drop_80 : decode cX6_drop 80 = .ok (.invokestatic 111, 3) := by decide +kernel
theorem dX6_drop_83 : decode cX6_drop 83 = .ok (.invokevirtual 51, 3) := by decide +kernel
theorem dX6_drop_86 : decode cX6_drop 86 = .ok (.ireturn, 1) := by decide +kernel
set_option maxRecDepth 100000 in
set_option maxHeartbeats 4000000 in
theorem z_drop (l : Launch) (D : va_G) (cy : Nat → ClassId) (N0 : Nat) (h : qH) (x : Nat) (mk : Int32) (sl bl kr vr Ed : Nat) (fs : Nat → Option Nat) (bd br eb : Nat → Nat) (Im : Nat → Prop) (Xb : Nat → Nat → Prop) (g : Nat → Nat) (S : Nat → qSlot) (W : qWo) (Bd sk Rn : Nat) (dp : Nat → Nat) (p0 p1 p2 p3 : Int32) (hz : zQ cy h x mk sl bl kr vr Ed fs bd br eb Im Xb g S W) (hI : ∀ i, i < 28 → qOk (S i).1 (S i).2.1) (hLn : ∀ i, i < 28 → (S i).2.1.length ≤ 1000) (hV : qWv Bd sk Rn dp W) : qC l D cy N0 yX6_drop cX6_drop 8 (some .int) 45 1200 1100 6000 [.ref x, .int p0, .int p1, .int p2, .int p3] h (fun v h' => (xs_drop S p0 p1 p2 p3).1 = 0 ∧ v = some (.int (xs_drop S p0 p1 p2 p3).2.2) ∧ zPo cy h x mk sl bl kr vr Ed bd br Im Xb ((xs_drop S p0 p1 p2 p3).2.1) W h') (fun E h' => zXc [(1, "java/lang/IllegalArgumentException"), (2, "java/lang/IllegalStateException"), (3, "java/util/NoSuchElementException")] E (xs_drop S p0 p1 p2 p3).1 ∧ zPo cy h x mk sl bl kr vr Ed bd br Im Xb S W h') := by
  refine q_ofW (by decide) (by exact Nat.le_of_ble_eq_true rfl) ?_
  intro p e s m below meth c ls C hP hl
  have hx := C.1
  have hb := C.2.1
  have hS : va_S (qA N0) s.heap s.heap [] := va_S.rf
  have hl : lv_has ls 8 [(0, .ref x), (1, .int p0), (2, .int p1), (3, .int p2), (4, .int p3)] := hl
  have hf : zFr h h x sl kr vr bd br Xb := zFr.rf
  refine lv_iload_n hx hb dX6_drop_0 rfl (lv_at hl 1 rfl) ?_
  refine q_callS (rest := []) C (c_X6_needSlot l D cy N0 h p0) kX6_needSlot g104 g105 hP hS (by first | decide | omega) hl.1 rfl (by decide) (by first | decide | omega) dX6_drop_1 (fun q ce E h' H1 locs1 hE hP hS hc1 hc2 hc3 => by obtain ⟨rfl, rfl, hn9⟩ := hE; have eb9 := bSl_f hn9; exact q_out C hP hS hc1 hc2 hc3 (by have ex : (xs_drop S p0 p1 p2 p3) = (1, S, 0) := (by unfold xs_drop; rw [if_pos (Or.inl eb9)]); exact ⟨by rw [ex]; exact .head _, by exact hz.po hf⟩) (by omega)) (fun v hh1 H locs hq hP hS => ?_)
  obtain ⟨rfl, rfl, sl9⟩ := hq
  obtain ⟨i, hi, rfl⟩ := sl9.of
  have ebi : bSl (nI i) = true := bSl_t sl9
  have eci : (nI i).toNatClampNeg = i := nI_clamp (by omega)
  refine lv_iload_n hx hb dX6_drop_4 rfl (lv_at hl 2 rfl) ?_
  refine q_callS (rest := []) C (c_X6_needSlot l D cy N0 h p1) kX6_needSlot g104 g105 hP hS (by first | decide | omega) hl.1 rfl (by decide) (by first | decide | omega) dX6_drop_5 (fun q ce E h' H1 locs1 hE hP hS hc1 hc2 hc3 => by obtain ⟨rfl, rfl, hn9⟩ := hE; have eb9 := bSl_f hn9; exact q_out C hP hS hc1 hc2 hc3 (by have ex : (xs_drop S (nI i) p1 p2 p3) = (1, S, 0) := (by unfold xs_drop; rw [if_pos (Or.inr (Or.inl eb9))]); exact ⟨by rw [ex]; exact .head _, by exact hz.po hf⟩) (by omega)) (fun v hh2 H locs hq hP hS => ?_)
  obtain ⟨rfl, rfl, sl9⟩ := hq
  obtain ⟨j, hj, rfl⟩ := sl9.of
  have ebj : bSl (nI j) = true := bSl_t sl9
  have ecj : (nI j).toNatClampNeg = j := nI_clamp (by omega)
  refine lv_iload_n hx hb dX6_drop_8 rfl (lv_at hl 3 rfl) ?_
  refine q_callS (rest := []) C (c_X6_needNotNegative l D cy N0 h p2) kX6_needNotNegative g629 g630 hP hS (by first | decide | omega) hl.1 rfl (by decide) (by first | decide | omega) dX6_drop_9 (fun q ce E h' H1 locs1 hE hP hS hc1 hc2 hc3 => by obtain ⟨rfl, rfl, hn9⟩ := hE; exact q_out C hP hS hc1 hc2 hc3 (by have ex : (xs_drop S (nI i) (nI j) p2 p3) = (1, S, 0) := (by unfold xs_drop; rw [if_pos (Or.inr (Or.inr hn9))]); exact ⟨by rw [ex]; exact .head _, by exact hz.po hf⟩) (by omega)) (fun v hh3 H locs hq hP hS => ?_)
  obtain ⟨rfl, rfl, hnn⟩ := hq
  obtain ⟨q9, hq9, rfl⟩ := nI_of hnn
  have ecq : (nI q9).toNatClampNeg = q9 := nI_clamp hq9
  refine lv_aload_n hx hb dX6_drop_12 rfl (lv_at hl 0 rfl) ?_
  refine lv_iload_n hx hb dX6_drop_13 rfl (lv_at hl 2 rfl) ?_
  refine lv_iconst (v := nI 1) hx hb dX6_drop_14 (by decide) ?_
  refine q_callV (rest := []) C (z_heldIn l D N0 (nI j) 1 hz hI) kX6_heldIn g243 g245 rfl gp2 g1 hP hS hz.1.1 (by first | decide | omega) hl.1 rfl (by decide) (by first | decide | omega) dX6_drop_15 (fun q ce E h' H1 locs1 hE hP hS hc1 hc2 hc3 => hE.2.elim (fun y => by obtain ⟨rfl, -⟩ := hE; obtain ⟨rfl, hn9⟩ := y; exact absurd hn9 (by rw [ebj]; decide)) (fun y => by obtain ⟨rfl, -⟩ := hE; obtain ⟨rfl, i8, hi8, e8, ho8⟩ := y; obtain rfl : j = i8 := nI_inj32 (by omega) (by omega) e8; exact q_out C hP hS hc1 hc2 hc3 (by have ex : (xs_drop S (nI i) (nI j) (nI q9) p3) = (2, S, 0) := (by have ebj : bSl (nI j) = true := bSl_t (qSl.nI hi8); have ecj : (nI j).toNatClampNeg = j := nI_clamp (by omega); have hoj := ho8; unfold xs_drop; rw [if_neg (by rw [ebi, ebj]; exact fun z => z.elim (fun z => by cases z) (fun z => z.elim (fun z => by cases z) hnn)), ecj, if_pos hoj]); exact ⟨by rw [ex]; exact .tail _ (.head _), by exact hz.po hf⟩) (by omega))) (fun v hh4 H locs hq hP hS => ?_)
  obtain ⟨rfl, j9, aj, hj9, ej9, hfsj, rfl, hoj, x1j, x2j, x3j, x4j, dvj, faj, zvj⟩ := hq
  obtain rfl : j = j9 := nI_inj32 (by omega) (by omega) ej9
  have hk0 : (S j).1 = 0 := bHo_1 (hI j (by omega)).2.2 hoj
  obtain ⟨rfl, rfl, rfl, rfl, n9, hb9⟩ := zvj.seq (Or.inl hk0)
  have hlm : ((S j).2.1.map (fun p => ((0 : Int64), p.1))).length = (S j).2.1.length := List.length_map ..
  have hl9 := hLn j (by omega)
  have hn14 : n9 ≤ 14 := hb9.h14 (by omega)
  have ham : zAm (S j) = (S j).2.1.length := zAm_n (by rw [hk0]; decide)
  refine lv_astore (lv' := [(5, .ref aj), (0, .ref x), (1, .int (nI i)), (2, .int (nI j)), (3, .int (nI q9)), (4, .int p3)]) hx hb dX6_drop_18 hl (by decide) rfl (fun ls hl => ?_)
  refine lv_aload hx hb dX6_drop_20 (lv_at hl 0 rfl) ?_
  obtain ⟨t1j, t2j, t3j, f1j, f2j, f3j, etj⟩ := zvj.size
  refine q_callV (rest := []) C (c_X2_amount l D cy N0 h aj ((S j).1) 0 t1j t2j t3j x1j none none none faj f1j f2j f3j) kX2_amount g222 g223 rfl g224 g10 hP hS faj (by first | decide | omega) hl.1 rfl (by decide) (by first | decide | omega) dX6_drop_22 (fun q ce E h' H1 locs1 hE => hE.elim) (fun v hh5 H locs hq hP hS => ?_)
  obtain ⟨rfl, rfl⟩ := hq
  rw [← etj]
  refine lv_iload_n hx hb dX6_drop_25 rfl (lv_at hl 4 rfl) ?_
  refine lv_isub hx hb dX6_drop_26 ?_
  by_cases cq : q9 ≤ (S j).2.1.length
  · rw [ham, q_nsub cq]
    refine lv_istore (lv' := [(6, .int (nI ((S j).2.1.length - q9))), (5, .ref aj), (0, .ref x), (1, .int (nI i)), (2, .int (nI j)), (3, .int (nI q9)), (4, .int p3)]) hx hb dX6_drop_27 hl (by decide) rfl (fun ls hl => ?_)
    refine lv_iload hx hb dX6_drop_29 (lv_at hl 0 rfl) ?_
    refine lv_if_lt (tgt := 38) hx hb dX6_drop_31 (by decide) (fun c => absurd c (nI_pos (by omega))) (fun _ => ?_)
    refine lv_iconst (v := nI 1) hx hb dX6_drop_34 (by decide) ?_
    refine lv_goto (tgt := 39) hx hb dX6_drop_35 (by decide) ?_
    refine q_callS (rest := []) C (c_X6_needThere l D cy N0 h (nI 1)) kX6_needThere g598 g599 hP hS (by first | decide | omega) hl.1 rfl (by decide) (by first | decide | omega) dX6_drop_39 (fun q ce E h' H1 locs1 hE hP hS hc1 hc2 hc3 => absurd hE.2.2 (by decide)) (fun v hh6 H locs hq hP hS => ?_)
    obtain ⟨rfl, rfl, hz9⟩ := hq
    refine lv_iload hx hb dX6_drop_42 (lv_at hl 6 rfl) ?_
    refine lv_if_eq (tgt := 59) hx hb dX6_drop_44 (by decide) (fun c44 => ?_) (fun c44 => ?_)
    · have htc := qTc14 hn14
      refine lv_aload hx hb dX6_drop_59 (lv_at hl 1 rfl) ?_
      refine q_get C hP faj rfl inX2 1 (by decide) g195 rfl dX6_drop_61 ?_
      refine lv_iload hx hb dX6_drop_64 (lv_at hl 0 rfl) ?_
      refine q_callSN (host := RX6) (rest := []) C (c_X0_firstOf l D cy N0 (n9 + 1) h x1j n9 ((S j).2.1.map (fun p => ((0 : Int64), p.1))) ((S j).2.1.length - q9) hb9 (by omega) (by omega) (by omega)) kX0_firstOf (by decide +kernel) g729 hP hS (by first | decide | omega) hl.1 rfl (by decide) (by first | decide | omega) dX6_drop_66 (fun v hh7 H locs hq hP hS => ?_)
      obtain ⟨r8, n8, rfl, hle8, hb8, -⟩ := hq
      replace faj := hle8 _ _ faj
      replace zvj := zvj.le hle8
      replace hb9 := hb9.le hle8
      replace hf := hf.trs (zFr.le hle8 (qle.dom hle8))
      replace hz := hz.le hV hle8 (qle.dom hle8)
      refine q_astore (lv' := [(7, va_rf r8), (6, .int (nI ((S j).2.1.length - q9))), (5, .ref aj), (0, .ref x), (1, .int (nI i)), (2, .int (nI j)), (3, .int (nI q9)), (4, .int p3)]) hx hb dX6_drop_69 hl (by decide) rfl (fun ls hl => ?_)
      refine lv_aload_n hx hb dX6_drop_71 rfl (lv_at hl 3 rfl) ?_
      refine lv_iload_n hx hb dX6_drop_72 rfl (lv_at hl 4 rfl) ?_
      refine lv_aload hx hb dX6_drop_73 (lv_at hl 2 rfl) ?_
      refine q_get C hP faj rfl inX2 0 (by decide) g192 rfl dX6_drop_75 ?_
      refine q_aload hx hb dX6_drop_78 (lv_at hl 0 rfl) ?_
      refine q_callS (rest := [.int (nI i), .ref x]) C (c_X2_ofTree l D cy N0 hh7 ((S j).1) r8) kX2_ofTree g516 g517 hP hS (by first | decide | omega) hl.1 rfl (by simp [q_catrf, q_cati, q_catl, q_cata, q_catn]) (by first | decide | omega) dX6_drop_80 (fun q ce E h' H1 locs1 hE => hE.elim) (fun v hh8 H locs hq hP hS => ?_)
      obtain ⟨qh, rfl, oqh, rfl⟩ := hq
      replace hP : qP D N0 (qs hh7 qh (.inr (2, [.int (S j).1, va_rf r8, .null, .null, .null, .int 0]))) H := hP
      have hleh : qle hh7 (qs hh7 qh (.inr (2, [.int (S j).1, va_rf r8, .null, .null, .null, .int 0]))) := qle_new oqh
      replace faj := hleh _ _ faj
      replace zvj := zvj.le hleh
      replace hb9 := hb9.le hleh
      replace hb8 := hb8.le hleh
      replace hf := hf.trs (zFr.le hleh (qle.dom hleh))
      replace hz := hz.le hV hleh (qle.dom hleh)
      have fqh : (qs hh7 qh (.inr (2, [.int (S j).1, va_rf r8, .null, .null, .null, .int 0]))) qh = some (.inr (2, [.int (S j).1, va_rf r8, .null, .null, .null, .int 0])) := qs_self
      have zvn : zV cy (qs hh7 qh (.inr (2, [.int (S j).1, va_rf r8, .null, .null, .null, .int 0]))) Im (zOk Ed eb S) mk g ((S j).1, (S j).2.1.take ((S j).2.1.length - q9), (S j).2.2) r8 none none none 0 := Or.inl ⟨Or.inl hk0, rfl, rfl, rfl, rfl, n8, by rw [List.map_take]; exact hb8⟩
      have hzp := hz.put hV hi (s := ((S j).1, (S j).2.1.take ((S j).2.1.length - q9), (S j).2.2)) (fun z => absurd (hk0.symm.trans z) (by decide)) ⟨r8, none, none, none, 0, fqh, zvn⟩
      have hfp : zFr h (qs (qs hh7 qh (.inr (2, [.int (S j).1, va_rf r8, .null, .null, .null, .int 0]))) sl (.inl (cy 3, 24, .inr (.inr (.inr (.inr (va_up fs i (some qh)))))))) x sl kr vr bd br Xb := hf.trs (zFr.set hz.2.1.1 (Or.inr (Or.inl rfl)))
      have hkd : qHd (qs hh7 qh (.inr (2, [.int (S j).1, va_rf r8, .null, .null, .null, .int 0]))) qh ((S j).1) r8 none none none 0 (nI (zAm ((S j).1, (S j).2.1.take ((S j).2.1.length - q9), (S j).2.2))) := zHd.hd (s := ((S j).1, (S j).2.1.take ((S j).2.1.length - q9), (S j).2.2)) fqh zvn
      refine q_callV (rest := []) C (c_X6_keep l D cy N0 (qs hh7 qh (.inr (2, [.int (S j).1, va_rf r8, .null, .null, .null, .int 0]))) x sl bl kr vr mk (oCq W.1) (oMq W.1) (nI Ed) fs i qh ((S j).1) r8 none none none 0 (nI (zAm ((S j).1, (S j).2.1.take ((S j).2.1.length - q9), (S j).2.2))) hz.1.1 hz.2.1.1 hi hkd) kX6_keep g218 g220 rfl gp1 g1 hP hS hz.1.1 (by first | decide | omega) hl.1 rfl (by decide) (by first | decide | omega) dX6_drop_83 (fun q ce E h' H1 locs1 hE => hE.elim) (fun v hh9 H locs hq hP hS => ?_)
      obtain ⟨rfl, rfl⟩ := hq
      replace faj := (qs_ne (h := (qs hh7 qh (.inr (2, [.int (S j).1, va_rf r8, .null, .null, .null, .int 0])))) (a := sl) (o := (.inl (cy 3, 24, .inr (.inr (.inr (.inr (va_up fs i (some qh)))))))) (fun z => by rw [z, hz.2.1.1] at faj; cases faj)).trans faj
      have ex : (xs_drop S (nI i) (nI j) (nI q9) p3) = (0, qU S i ((S j).1, ((S j).2.1.take ((S j).2.1.length - q9)), (S j).2.2), nI ((S j).2.1.length - q9)) := by unfold xs_drop; rw [if_neg (by rw [ebi, ebj]; exact fun z => z.elim (fun z => by cases z) (fun z => z.elim (fun z => by cases z) hnn)), ecj, if_neg (by rw [hoj]; decide), eci]; unfold xr_drop; rw [ecq, if_neg (by omega), if_pos c44]
      exact q_iret C hP hS ⟨by rw [ex], by first | (rw [ex]; done) | (rw [ex]; show some (Value.int (nI (zAm ((S j).1, (S j).2.1.take ((S j).2.1.length - q9), (S j).2.2)))) = _; rw [zAm_n (by show ¬ (S j).1 = 6; rw [hk0]; decide)]; exact congrArg (fun z => some (Value.int (nI z))) (List.length_take_of_le (by omega))), by rw [ex]; exact hzp.po hfp⟩ (by omega) dX6_drop_86
    · have htc := qTc14 hn14
      refine lv_aload hx hb dX6_drop_47 (lv_at hl 1 rfl) ?_
      refine q_get C hP faj rfl inX2 1 (by decide) g195 rfl dX6_drop_49 ?_
      refine lv_iload_n hx hb dX6_drop_52 rfl (lv_at hl 5 rfl) ?_
      refine q_callSN (host := RX6) (rest := []) C (c_X0_withoutFirst l D cy N0 (n9 + 1) h x1j n9 ((S j).2.1.map (fun p => ((0 : Int64), p.1))) q9 hb9 (by omega) (by omega) (by omega)) kX0_withoutFirst (by decide +kernel) g725 hP hS (by first | decide | omega) hl.1 rfl (by decide) (by first | decide | omega) dX6_drop_53 (fun v hh10 H locs hq hP hS => ?_)
      obtain ⟨r8, n8, rfl, hle8, hb8, -⟩ := hq
      replace faj := hle8 _ _ faj
      replace zvj := zvj.le hle8
      replace hb9 := hb9.le hle8
      replace hf := hf.trs (zFr.le hle8 (qle.dom hle8))
      replace hz := hz.le hV hle8 (qle.dom hle8)
      refine lv_goto (tgt := 69) hx hb dX6_drop_56 (by decide) ?_
      refine q_astore (lv' := [(7, va_rf r8), (6, .int (nI ((S j).2.1.length - q9))), (5, .ref aj), (0, .ref x), (1, .int (nI i)), (2, .int (nI j)), (3, .int (nI q9)), (4, .int p3)]) hx hb dX6_drop_69 hl (by decide) rfl (fun ls hl => ?_)
      refine lv_aload_n hx hb dX6_drop_71 rfl (lv_at hl 3 rfl) ?_
      refine lv_iload_n hx hb dX6_drop_72 rfl (lv_at hl 4 rfl) ?_
      refine lv_aload hx hb dX6_drop_73 (lv_at hl 2 rfl) ?_
      refine q_get C hP faj rfl inX2 0 (by decide) g192 rfl dX6_drop_75 ?_
      refine q_aload hx hb dX6_drop_78 (lv_at hl 0 rfl) ?_
      refine q_callS (rest := [.int (nI i), .ref x]) C (c_X2_ofTree l D cy N0 hh10 ((S j).1) r8) kX2_ofTree g516 g517 hP hS (by first | decide | omega) hl.1 rfl (by simp [q_catrf, q_cati, q_catl, q_cata, q_catn]) (by first | decide | omega) dX6_drop_80 (fun q ce E h' H1 locs1 hE => hE.elim) (fun v hh11 H locs hq hP hS => ?_)
      obtain ⟨qh, rfl, oqh, rfl⟩ := hq
      replace hP : qP D N0 (qs hh10 qh (.inr (2, [.int (S j).1, va_rf r8, .null, .null, .null, .int 0]))) H := hP
      have hleh : qle hh10 (qs hh10 qh (.inr (2, [.int (S j).1, va_rf r8, .null, .null, .null, .int 0]))) := qle_new oqh
      replace faj := hleh _ _ faj
      replace zvj := zvj.le hleh
      replace hb9 := hb9.le hleh
      replace hb8 := hb8.le hleh
      replace hf := hf.trs (zFr.le hleh (qle.dom hleh))
      replace hz := hz.le hV hleh (qle.dom hleh)
      have fqh : (qs hh10 qh (.inr (2, [.int (S j).1, va_rf r8, .null, .null, .null, .int 0]))) qh = some (.inr (2, [.int (S j).1, va_rf r8, .null, .null, .null, .int 0])) := qs_self
      have zvn : zV cy (qs hh10 qh (.inr (2, [.int (S j).1, va_rf r8, .null, .null, .null, .int 0]))) Im (zOk Ed eb S) mk g ((S j).1, (S j).2.1.drop q9, (S j).2.2) r8 none none none 0 := Or.inl ⟨Or.inl hk0, rfl, rfl, rfl, rfl, n8, by rw [List.map_drop]; exact hb8⟩
      have hzp := hz.put hV hi (s := ((S j).1, (S j).2.1.drop q9, (S j).2.2)) (fun z => absurd (hk0.symm.trans z) (by decide)) ⟨r8, none, none, none, 0, fqh, zvn⟩
      have hfp : zFr h (qs (qs hh10 qh (.inr (2, [.int (S j).1, va_rf r8, .null, .null, .null, .int 0]))) sl (.inl (cy 3, 24, .inr (.inr (.inr (.inr (va_up fs i (some qh)))))))) x sl kr vr bd br Xb := hf.trs (zFr.set hz.2.1.1 (Or.inr (Or.inl rfl)))
      have hkd : qHd (qs hh10 qh (.inr (2, [.int (S j).1, va_rf r8, .null, .null, .null, .int 0]))) qh ((S j).1) r8 none none none 0 (nI (zAm ((S j).1, (S j).2.1.drop q9, (S j).2.2))) := zHd.hd (s := ((S j).1, (S j).2.1.drop q9, (S j).2.2)) fqh zvn
      refine q_callV (rest := []) C (c_X6_keep l D cy N0 (qs hh10 qh (.inr (2, [.int (S j).1, va_rf r8, .null, .null, .null, .int 0]))) x sl bl kr vr mk (oCq W.1) (oMq W.1) (nI Ed) fs i qh ((S j).1) r8 none none none 0 (nI (zAm ((S j).1, (S j).2.1.drop q9, (S j).2.2))) hz.1.1 hz.2.1.1 hi hkd) kX6_keep g218 g220 rfl gp1 g1 hP hS hz.1.1 (by first | decide | omega) hl.1 rfl (by decide) (by first | decide | omega) dX6_drop_83 (fun q ce E h' H1 locs1 hE => hE.elim) (fun v hh12 H locs hq hP hS => ?_)
      obtain ⟨rfl, rfl⟩ := hq
      replace faj := (qs_ne (h := (qs hh10 qh (.inr (2, [.int (S j).1, va_rf r8, .null, .null, .null, .int 0])))) (a := sl) (o := (.inl (cy 3, 24, .inr (.inr (.inr (.inr (va_up fs i (some qh)))))))) (fun z => by rw [z, hz.2.1.1] at faj; cases faj)).trans faj
      have ex : (xs_drop S (nI i) (nI j) (nI q9) p3) = (0, qU S i ((S j).1, ((S j).2.1.drop q9), (S j).2.2), nI ((S j).2.1.length - q9)) := by unfold xs_drop; rw [if_neg (by rw [ebi, ebj]; exact fun z => z.elim (fun z => by cases z) (fun z => z.elim (fun z => by cases z) hnn)), ecj, if_neg (by rw [hoj]; decide), eci]; unfold xr_drop; rw [ecq, if_neg (by omega), if_neg c44]
      exact q_iret C hP hS ⟨by rw [ex], by first | (rw [ex]; done) | (rw [ex]; show some (Value.int (nI (zAm ((S j).1, (S j).2.1.drop q9, (S j).2.2)))) = _; rw [zAm_n (by show ¬ (S j).1 = 6; rw [hk0]; decide)]; exact congrArg (fun z => some (Value.int (nI z))) (List.length_drop ..)), by rw [ex]; exact hzp.po hfp⟩ (by omega) dX6_drop_86
  · obtain ⟨dd, edd, hdd⟩ : ∃ dd, nI (zAm (S j)) - nI q9 = dd ∧ dd < 0 := ⟨_, rfl, by rw [ham]; exact nI_subneg (by omega) (by omega) hq9⟩
    rw [edd]
    refine lv_istore (lv' := [(6, .int dd), (5, .ref aj), (0, .ref x), (1, .int (nI i)), (2, .int (nI j)), (3, .int (nI q9)), (4, .int p3)]) hx hb dX6_drop_27 hl (by decide) rfl (fun ls hl => ?_)
    refine lv_iload hx hb dX6_drop_29 (lv_at hl 0 rfl) ?_
    refine lv_if_lt (tgt := 38) hx hb dX6_drop_31 (by decide) (fun _ => ?_) (fun c => absurd hdd c)
    refine lv_iconst (v := nI 0) hx hb dX6_drop_38 (by decide) ?_
    refine q_callS (rest := []) C (c_X6_needThere l D cy N0 h (nI 0)) kX6_needThere g598 g599 hP hS (by first | decide | omega) hl.1 rfl (by decide) (by first | decide | omega) dX6_drop_39 (fun q ce E h' H1 locs1 hE hP hS hc1 hc2 hc3 => by obtain ⟨rfl, rfl, hn9⟩ := hE; exact q_out C hP hS hc1 hc2 hc3 (by have ex : (xs_drop S (nI i) (nI j) (nI q9) p3) = (3, S, 0) := (by unfold xs_drop; rw [if_neg (by rw [ebi, ebj]; exact fun z => z.elim (fun z => by cases z) (fun z => z.elim (fun z => by cases z) hnn)), ecj, if_neg (by rw [hoj]; decide), eci]; unfold xr_drop; rw [ecq, if_pos (by omega)]); exact ⟨by rw [ex]; exact .tail _ (.tail _ (.head _)), by exact hz.po hf⟩) (by omega)) (fun v hh13 H locs hq hP hS => ?_)
    obtain ⟨rfl, rfl, hz9⟩ := hq
    exact absurd rfl hz9
