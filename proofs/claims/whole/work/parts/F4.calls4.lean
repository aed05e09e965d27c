theorem zltN {m : Nat} {p : Int32} (hm : m < 2 ^ 31) (h : ¬ p ≤ nI m) : p < 0 ∨ m < p.toNatClampNeg := by
  by_cases c : p < 0
  · exact Or.inl c
  · obtain ⟨n, hn, rfl⟩ := nI_of c
    refine Or.inr ?_
    rw [nI_clamp hn]
    have : ¬ n ≤ m := fun z => h ((nI_leI (a := n) (b := m) hn hm).mpr z)
    omega
theorem zlt6 {p : Int32} (h : ¬ p ≤ 6) : p < 0 ∨ 6 < p.toNatClampNeg := zltN (m := 6) (by decide) h

set_option maxRecDepth 100000 in
set_option maxHeartbeats 4000000 in
theorem z_iterate (l : Launch) (D : va_G) (cy : Nat → ClassId) (N0 : Nat) (h : qH) (x : Nat) (mk : Int32) (sl bl kr vr Ed : Nat) (fs : Nat → Option Nat) (bd br eb : Nat → Nat) (Im : Nat → Prop) (Xb : Nat → Nat → Prop) (g : Nat → Nat) (S : Nat → qSlot) (W : qWo) (Bd sk Rn : Nat) (dp : Nat → Nat) (dc : Nat) (p0 : Int32) (p1 : Int64) (p2 : Int32) (p3 : Int64) (hz : zQ cy h x mk sl bl kr vr Ed fs bd br eb Im Xb g S W) (hI : ∀ i, i < 28 → qOk (S i).1 (S i).2.1) (hLn : ∀ i, i < 28 → (S i).2.1.length ≤ 1000) (hV : qWv Bd (sk + 1) Rn dp W) (hSt : ∀ i, i < 24 → (S i).1 = 6 → (S i).2.2.1 < W.2.1.1 ∧ dp (S i).2.2.1 ≤ dc) : qC l D cy N0 yX6_iterate cX6_iterate 7 none 12 200 12 80 [.ref x, .int p0, .long p1, .int p2, .long p3] h (fun v h' => (xs_iterate S W p0 p1 p2 p3).1 = 0 ∧ v = none ∧ zPo cy h x mk sl bl kr vr Ed bd br Im Xb ((xs_iterate S W p0 p1 p2 p3).2.1) ((xs_iterate S W p0 p1 p2 p3).2.2) h') (fun E h' => zXc [(1, "java/lang/IllegalArgumentException")] E (xs_iterate S W p0 p1 p2 p3).1 ∧ zPo cy h x mk sl bl kr vr Ed bd br Im Xb S ((xs_iterate S W p0 p1 p2 p3).2.2) h') := by
  refine q_ofW (by decide) (by exact Nat.le_of_ble_eq_true rfl) ?_
  intro p e s m below meth c ls C hP hl
  have hx := C.1
  have hb := C.2.1
  have hS : va_S (qA N0) s.heap s.heap [] := va_S.rf
  have hl : lv_has ls 7 [(0, .ref x), (1, .int p0), (2, .long p1), (4, .int p2), (5, .long p3)] := hl
  have hf : zFr h h x sl kr vr bd br Xb := zFr.rf
  obtain ⟨o, a, k⟩ := W
  dsimp only at hSt
  have hp9 : 1 ≤ a.1 ∧ a.1 ≤ a.2.1 := hV.p
  refine lv_iload_n hx hb dX6_iterate_0 rfl (lv_at hl 1 rfl) ?_
  refine q_callS (rest := []) C (c_X6_needSlot l D cy N0 h p0) kX6_needSlot g104 g105 hP hS (by first | decide | omega) hl.1 rfl (by decide) (by first | decide | omega) dX6_iterate_1 (fun q ce E h' H1 locs1 hE hP hS hc1 hc2 hc3 => by obtain ⟨rfl, rfl, hn9⟩ := hE; have eb9 := bSl_f hn9; exact q_out C hP hS hc1 hc2 hc3 (by have ex : (xs_iterate S (o, a, k) p0 p1 p2 p3) = (1, S, o, a, k) := (by unfold xs_iterate; rw [if_pos (Or.inl eb9)]); exact ⟨by rw [ex]; exact .head _, by rw [ex]; exact hz.po hf⟩) (by omega)) (fun v hh1 H locs hq hP hS => ?_)
  obtain ⟨rfl, rfl, sl9⟩ := hq
  obtain ⟨i, hi, rfl⟩ := sl9.of
  have ebi : bSl (nI i) = true := bSl_t sl9
  have eci : (nI i).toNatClampNeg = i := nI_clamp (by omega)
  refine lv_iload hx hb dX6_iterate_4 (lv_at hl 3 rfl) ?_
  refine lv_bipush (v := nI 6) hx hb dX6_iterate_6 (by decide) ?_
  refine q_callS (rest := []) C (c_X6_needWithin l D cy N0 h p2 6) kX6_needWithin g107 g108 hP hS (by first | decide | omega) hl.1 rfl (by decide) (by first | decide | omega) dX6_iterate_8 (fun q ce E h' H1 locs1 hE hP hS hc1 hc2 hc3 => by obtain ⟨rfl, rfl, hn9⟩ := hE; exact q_out C hP hS hc1 hc2 hc3 (by have ex : (xs_iterate S (o, a, k) (nI i) p1 p2 p3) = (1, S, o, a, k) := (by unfold xs_iterate; rw [if_pos (Or.inr (hn9.elim Or.inl (fun z => zlt6 z)))]); exact ⟨by rw [ex]; exact .head _, by rw [ex]; exact hz.po hf⟩) (by omega)) (fun v hh2 H locs hq hP hS => ?_)
  obtain ⟨rfl, rfl, gw1, gw2⟩ := hq
  obtain ⟨q9, hq9, rfl⟩ := nI_of2 (M := 6) (n := 6) (by decide) gw1 gw2
  have ecq : (nI q9).toNatClampNeg = q9 := nI_clamp (by omega)
  refine lv_aload_n hx hb dX6_iterate_11 rfl (lv_at hl 0 rfl) ?_
  refine lv_iload_n hx hb dX6_iterate_12 rfl (lv_at hl 1 rfl) ?_
  refine lv_lload_n hx hb dX6_iterate_13 rfl (lv_at hl 2 rfl) ?_
  refine lv_iload hx hb dX6_iterate_14 (lv_at hl 3 rfl) ?_
  refine lv_lload hx hb dX6_iterate_16 (lv_at hl 4 rfl) ?_
  refine q_callS (rest := [.int (nI i), .ref x]) C (c_X5_iterated l D cy N0 h p1 (nI q9) p3) kX5_iterated g672 g673 hP hS (by first | decide | omega) hl.1 rfl (by simp [q_catrf, q_cati, q_catl, q_cata, q_catn]) (by first | decide | omega) dX6_iterate_18 (fun q ce E h' H1 locs1 hE => hE.elim) (fun v hh3 H locs hq hP hS => ?_)
  obtain ⟨q, rfl, oq, rfl⟩ := hq
  replace hP : qP D N0 (qs h q (.inr (5, [.long p1, .int 1, .int (nI q9), .long p3, .int 0, .null, .null, .null, .int 0, .null]))) H := hP
  have hw9 : zW (qs h q (.inr (5, [.long p1, .int 1, .int (nI q9), .long p3, .int 0, .null, .null, .null, .int 0, .null]))) x mk sl bl kr vr (nI Ed) (qU g a.1 q) (xRs S) (o, xCons a p1 k.1, xCell k 1 0 q9 p3 p1) := hz.1.new hV (q := q) (x0 := p1) (rr := k.1) (way := 1) (cod := nI q9) (cc := p3) (num := 0) (src := none) (beh := none) (row := none) (dn := 0) (rst := none) oq (xCell_u hV (kd := 1) (s := 0) (t := q9) (c := p3) (y := p1)) (Or.inr ⟨rfl, Or.inl ⟨rfl, rfl, rfl, rfl, rfl, rfl⟩⟩)
  have hH9 : zH h (qs h q (.inr (5, [.long p1, .int 1, .int (nI q9), .long p3, .int 0, .null, .null, .null, .int 0, .null]))) x := zH.new oq
  obtain ⟨dp2, -, hV2, -⟩ := hV.pushC (dc := 0) (o' := o) (x := p1) (c0 := p3) (x0 := p1) (kd := 1) (s := 0) (t := q9) rfl ⟨by omega, fun z => by omega, fun _ => by omega, fun z => by omega, fun z => by omega, fun z => by omega, fun z => by omega, fun z => by omega, fun z => by omega⟩ oSame
  dsimp only at hV2
  have ezo : zO (qU g a.1 q) a.1 = some q := by rw [zO_s (by omega), qU_at]
  replace hf := hf.trs (zH.fr hH9)
  replace hz := hz.str hw9 hH9 (fun s hs => qU_ne (Nat.ne_of_lt hs)) (fun i hi y => (hSt i hi y).1)
  have hV0 := hV
  replace hV := hV2
  refine lv_iconst (v := nI 0) hx hb dX6_iterate_21 (by decide) ?_
  refine q_callS (rest := [.int (nI i), .ref x]) C (c_X2_ofStream l D cy N0 (qs h q (.inr (5, [.long p1, .int 1, .int (nI q9), .long p3, .int 0, .null, .null, .null, .int 0, .null]))) (some q) (nI 0)) kX2_ofStream g580 g581 hP hS (by first | decide | omega) hl.1 rfl (by simp [q_catrf, q_cati, q_catl, q_cata, q_catn]) (by first | decide | omega) dX6_iterate_22 (fun q ce E h' H1 locs1 hE => hE.elim) (fun v hh4 H locs hq hP hS => ?_)
  obtain ⟨qh, rfl, oqh, rfl⟩ := hq
  replace hP : qP D N0 (qs (qs h q (.inr (5, [.long p1, .int 1, .int (nI q9), .long p3, .int 0, .null, .null, .null, .int 0, .null]))) qh (.inr (2, [.int 6, .null, .null, .null, va_rf (some q), .int (nI 0)]))) H := hP
  have hleh : qle (qs h q (.inr (5, [.long p1, .int 1, .int (nI q9), .long p3, .int 0, .null, .null, .null, .int 0, .null]))) (qs (qs h q (.inr (5, [.long p1, .int 1, .int (nI q9), .long p3, .int 0, .null, .null, .null, .int 0, .null]))) qh (.inr (2, [.int 6, .null, .null, .null, va_rf (some q), .int (nI 0)]))) := qle_new oqh
  replace hf := hf.trs (zFr.le hleh (qle.dom hleh))
  replace hz := hz.le hV hleh (qle.dom hleh)
  have fqh : (qs (qs h q (.inr (5, [.long p1, .int 1, .int (nI q9), .long p3, .int 0, .null, .null, .null, .int 0, .null]))) qh (.inr (2, [.int 6, .null, .null, .null, va_rf (some q), .int (nI 0)]))) qh = some (.inr (2, [.int 6, .null, .null, .null, va_rf (some q), .int (nI 0)])) := qs_self
  have zvn : zV cy (qs (qs h q (.inr (5, [.long p1, .int 1, .int (nI q9), .long p3, .int 0, .null, .null, .null, .int 0, .null]))) qh (.inr (2, [.int 6, .null, .null, .null, va_rf (some q), .int (nI 0)]))) Im (zOk Ed eb S) mk (qU g a.1 q) (6, [], a.1, 0) none none none (some q) (nI 0) := Or.inr (Or.inr (Or.inr (Or.inr ⟨rfl, rfl, rfl, rfl, ezo.symm, rfl⟩)))
  have hzp := hz.put hV hi (s := (6, [], a.1, 0)) (show ¬ ((6 : Int32) = -1) by decide) ⟨none, none, none, (some q), (nI 0), fqh, zvn⟩
  have hfp : zFr h (qs (qs (qs h q (.inr (5, [.long p1, .int 1, .int (nI q9), .long p3, .int 0, .null, .null, .null, .int 0, .null]))) qh (.inr (2, [.int 6, .null, .null, .null, va_rf (some q), .int (nI 0)]))) sl (.inl (cy 3, 24, .inr (.inr (.inr (.inr (va_up fs i (some qh)))))))) x sl kr vr bd br Xb := hf.trs (zFr.set hz.2.1.1 (Or.inr (Or.inl rfl)))
  have hkd : qHd (qs (qs h q (.inr (5, [.long p1, .int 1, .int (nI q9), .long p3, .int 0, .null, .null, .null, .int 0, .null]))) qh (.inr (2, [.int 6, .null, .null, .null, va_rf (some q), .int (nI 0)]))) qh 6 none none none (some q) (nI 0) (nI (zAm (6, [], a.1, 0))) := zHd.hd (s := (6, [], a.1, 0)) fqh zvn
  refine q_callV (rest := []) C (c_X6_keep l D cy N0 (qs (qs h q (.inr (5, [.long p1, .int 1, .int (nI q9), .long p3, .int 0, .null, .null, .null, .int 0, .null]))) qh (.inr (2, [.int 6, .null, .null, .null, va_rf (some q), .int (nI 0)]))) x sl bl kr vr mk (oCq (o, xCons a p1 k.1, xCell k 1 0 q9 p3 p1).1) (oMq (o, xCons a p1 k.1, xCell k 1 0 q9 p3 p1).1) (nI Ed) fs i qh 6 none none none (some q) (nI 0) (nI (zAm (6, [], a.1, 0))) hz.1.1 hz.2.1.1 hi hkd) kX6_keep g218 g220 rfl gp1 g1 hP hS hz.1.1 (by first | decide | omega) hl.1 rfl (by decide) (by first | decide | omega) dX6_iterate_25 (fun q ce E h' H1 locs1 hE => hE.elim) (fun v hh5 H locs hq hP hS => ?_)
  obtain ⟨rfl, rfl⟩ := hq
  refine lv_pop hx hb dX6_iterate_28 rfl ?_
  have ex : (xs_iterate S (o, a, k) (nI i) p1 (nI q9) p3) = (0, qU S i (6, [], a.1, 0), o, xCons a p1 k.1, xCell k 1 0 q9 p3 p1) := by unfold xs_iterate; rw [if_neg (by rw [ebi, ecq]; exact fun z => z.elim (fun z => by cases z) (fun z => z.elim gw1 (fun z => by omega))), eci, ecq]
  exact q_vret C hP hS ⟨by rw [ex], rfl, by rw [ex]; exact hzp.po hfp⟩ (by omega) dX6_iterate_29
theorem bHo_65b {kd : Int32} (h : kd ∈ [(-1 : Int32), 0, 1, 2, 3, 4, 5, 6]) (e : bHo kd 65 = true) : kd = nI 0 ∨ kd = nI 6 := by
  simp only [List.mem_cons, List.not_mem_nil, or_false] at h
  rcases h with rfl | rfl | rfl | rfl | rfl | rfl | rfl | rfl <;> revert e <;> decide
theorem dX6_push_11 : decode cX6_push 11 = .ok (.astore 5, 2) := by decide +kernel
theorem dX6_push_13 : decode cX6_push 13 = .ok (.aload 5, 2) := by decide +kernel
theorem dX6_push_15 : decode cX6_push 15 = .ok (.getfield 63, 3) := by decide +kernel
theorem dX6_push_18 : decode cX6_push 18 = .ok (.bipush 6, 2) := by decide +kernel
theorem dX6_push_20 : decode cX6_push 20 = .ok (.if_icmp .ne 27, 3) := by decide +kernel
theorem dX6_push_23 : decode cX6_push 23 = .ok (.aload_n 0, 1) := by decide +kernel
theorem dX6_push_24 : decode cX6_push 24 = .ok (.iload_n 1, 1) := by decide +kernel
theorem dX6_push_25 : decode cX6_push 25 = .ok (.lload_n 3, 1) := by decide +kernel
theorem dX6_push_26 : decode cX6_push 26 = .ok (.aload 5, 2) := by decide +kernel
theorem dX6_push_28 : decode cX6_push 28 = .ok (.getfield 115, 3) := by decide +kernel
theorem dX6_push_31 : decode cX6_push 31 = .ok (.invokestatic 119, 3) := by decide +kernel
theorem dX6_push_34 : decode cX6_push 34 = .ok (.aload 5, 2) := by decide +kernel
theorem dX6_push_36 : decode cX6_push 36 = .ok (.getfield 125, 3) := by decide +kernel
theorem dX6_push_39 : decode cX6_push 39 = .ok (.invokestatic 128, 3) := by decide +kernel
theorem dX6_push_42 : decode cX6_push 42 = .ok (.invokevirtual 51, 3) := by decide +kernel
theorem dX6_push_45 : decode cX6_push 45 = .ok (.pop, 1) := by decide +kernel
theorem dX6_push_46 : decode cX6_push 46 = .ok (.return_, 1) := by decide +kernel
theorem dX6_push_47 : decode cX6_push 47 = .ok (.aload 5, 2) := by decide +kernel
theorem dX6_push_49 : decode cX6_push 49 = .ok (.invokevirtual 59, 3) := by decide +kernel
theorem dX6_push_52 : decode cX6_push 52 = .ok (.iconst 1, 1) := by decide +kernel
theorem dX6_push_53 : decode cX6_push 53 = .ok (.iadd, 1) := by decide +kernel
theorem dX6_push_54 : decode cX6_push 54 = .ok (.invokestatic 81, 3) := by decide +kernel
theorem dX6_push_57 : decode cX6_push 57 = .ok (.aload_n 0, 1) := by decide +kernel
theorem dX6_push_58 : decode cX6_push 58 = .ok (.iload_n 1, 1) := by decide +kernel
theorem dX6_push_59 : decode cX6_push 59 = .ok (.aload 5, 2) := by decide +kernel
theorem dX6_push_61 : decode cX6_push 61 = .ok (.getfield 63, 3) := by decide +kernel
theorem dX6_push_64 : decode cX6_push 64 = .ok (.aconst_null, 1) := by decide +kernel
theorem dX6_push_65 : decode cX6_push 65 = .ok (.lconst 0, 1) := by decide +kernel
theorem dX6_push_66 : decode cX6_push 66 = .ok (.lload_n 3, 1) := by decide +kernel
theorem dX6_push_67 : decode cX6_push 67 = .ok (.aload 5, 2) := by decide +kernel
theorem dX6_push_69 : decode cX6_push 69 = .ok (.getfield 101, 3) := by decide +kernel
theorem dX6_push_72 : decode cX6_push 72 = .ok (.invokestatic 105, 3) := by decide +kernel
theorem dX6_push_75 : decode cX6_push 75 = .ok (.invokestatic 111, 3) := by decide +kernel
theorem dX6_push_78 : decode cX6_push 78 = .ok (.invokevirtual 51, 3) := by decide +kernel
theorem dX6_push_81 : decode cX6_push 81 = .ok (.pop, 1) := by decide +kernel
theorem dX6_push_82 : decode cX6_push 82 = .ok (.return_, 1) := by decide +kernel
set_option maxRecDepth 100000 in
set_option maxHeartbeats 4000000 in
theorem z_push (l : Launch) (D : va_G) (cy : Nat → ClassId) (N0 : Nat) (h : qH) (x : Nat) (mk : Int32) (sl bl kr vr Ed : Nat) (fs : Nat → Option Nat) (bd br eb : Nat → Nat) (Im : Nat → Prop) (Xb : Nat → Nat → Prop) (g : Nat → Nat) (S : Nat → qSlot) (W : qWo) (Bd sk Rn : Nat) (dp : Nat → Nat) (dc : Nat) (p0 p1 : Int32) (p2 : Int64) (hz : zQ cy h x mk sl bl kr vr Ed fs bd br eb Im Xb g S W) (hI : ∀ i, i < 28 → qOk (S i).1 (S i).2.1) (hLn : ∀ i, i < 28 → (S i).2.1.length ≤ 1000) (hV : qWv Bd (sk + 1) Rn dp W) (hSt : ∀ i, i < 24 → (S i).1 = 6 → (S i).2.2.1 < W.2.1.1 ∧ dp (S i).2.2.1 ≤ dc) : qC l D cy N0 yX6_push cX6_push 6 none 30 600 70 400 [.ref x, .int p0, .int p1, .long p2] h (fun v h' => (xs_push S W p0 p1 p2).1 = 0 ∧ v = none ∧ zPo cy h x mk sl bl kr vr Ed bd br Im Xb ((xs_push S W p0 p1 p2).2.1) ((xs_push S W p0 p1 p2).2.2) h') (fun E h' => zXc [(1, "java/lang/IllegalArgumentException"), (2, "java/lang/IllegalStateException"), (3, "java/lang/IndexOutOfBoundsException")] E (xs_push S W p0 p1 p2).1 ∧ zPo cy h x mk sl bl kr vr Ed bd br Im Xb S ((xs_push S W p0 p1 p2).2.2) h') := by
  refine q_ofW (by decide) (by exact Nat.le_of_ble_eq_true rfl) ?_
  intro p e s m below meth c ls C hP hl
  have hx := C.1
  have hb := C.2.1
  have hS : va_S (qA N0) s.heap s.heap [] := va_S.rf
  have hl : lv_has ls 6 [(0, .ref x), (1, .int p0), (2, .int p1), (3, .long p2)] := hl
  have hf : zFr h h x sl kr vr bd br Xb := zFr.rf
  obtain ⟨o, a, k⟩ := W
  dsimp only at hSt
  have hp9 : 1 ≤ a.1 ∧ a.1 ≤ a.2.1 := hV.p
  refine lv_iload_n hx hb dX6_push_0 rfl (lv_at hl 1 rfl) ?_
  refine q_callS (rest := []) C (c_X6_needSlot l D cy N0 h p0) kX6_needSlot g104 g105 hP hS (by first | decide | omega) hl.1 rfl (by decide) (by first | decide | omega) dX6_push_1 (fun q ce E h' H1 locs1 hE hP hS hc1 hc2 hc3 => by obtain ⟨rfl, rfl, hn9⟩ := hE; have eb9 := bSl_f hn9; exact q_out C hP hS hc1 hc2 hc3 (by have ex : (xs_push S (o, a, k) p0 p1 p2) = (1, S, o, a, k) := (by unfold xs_push; rw [if_pos (Or.inl eb9)]); exact ⟨by rw [ex]; exact .head _, by rw [ex]; exact hz.po hf⟩) (by omega)) (fun v hh1 H locs hq hP hS => ?_)
  obtain ⟨rfl, rfl, sl9⟩ := hq
  obtain ⟨i, hi, rfl⟩ := sl9.of
  have ebi : bSl (nI i) = true := bSl_t sl9
  have eci : (nI i).toNatClampNeg = i := nI_clamp (by omega)
  refine lv_aload_n hx hb dX6_push_4 rfl (lv_at hl 0 rfl) ?_
  refine lv_iload_n hx hb dX6_push_5 rfl (lv_at hl 2 rfl) ?_
  refine lv_bipush (v := nI 65) hx hb dX6_push_6 (by decide) ?_
  refine q_callV (rest := []) C (z_heldIn l D N0 p1 65 hz hI) kX6_heldIn g243 g245 rfl gp2 g1 hP hS hz.1.1 (by first | decide | omega) hl.1 rfl (by decide) (by first | decide | omega) dX6_push_8 (fun q ce E h' H1 locs1 hE hP hS hc1 hc2 hc3 => hE.2.elim (fun y => by obtain ⟨rfl, -⟩ := hE; obtain ⟨rfl, hn9⟩ := y; exact q_out C hP hS hc1 hc2 hc3 (by have ex : (xs_push S (o, a, k) (nI i) p1 p2) = (1, S, o, a, k) := (by have ebj := hn9; unfold xs_push; rw [if_pos (Or.inr ebj)]); exact ⟨by rw [ex]; exact .head _, by rw [ex]; exact hz.po hf⟩) (by omega)) (fun y => by obtain ⟨rfl, -⟩ := hE; obtain ⟨rfl, j, hi8, rfl, ho8⟩ := y; exact q_out C hP hS hc1 hc2 hc3 (by have ex : (xs_push S (o, a, k) (nI i) (nI j) p2) = (2, S, o, a, k) := (by have ebj : bSl (nI j) = true := bSl_t (qSl.nI hi8); have ecj : (nI j).toNatClampNeg = j := nI_clamp (by omega); have hoj := ho8; unfold xs_push; rw [if_neg (by rw [ebi, ebj]; decide), ecj, if_pos hoj]); exact ⟨by rw [ex]; exact .tail _ (.head _), by rw [ex]; exact hz.po hf⟩) (by omega))) (fun v hh2 H locs hq hP hS => ?_)
  obtain ⟨rfl, j, aj, hj, rfl, hfsj, rfl, hoj, x1j, x2j, x3j, x4j, dvj, faj, zvj⟩ := hq
  have ebj : bSl (nI j) = true := bSl_t (qSl.nI hj)
  have ecj : (nI j).toNatClampNeg = j := nI_clamp (by omega)
  rcases bHo_65b (hI j (by omega)).2.2 hoj with hk9 | hk9
  · have hk6 : ¬ (S j).1 = 6 := fun z => absurd (hk9.symm.trans z) (by decide)
    rw [hk9] at faj
    obtain ⟨rfl, rfl, rfl, rfl, n9, hb9⟩ := zvj.seq (Or.inl hk9)
    have hlm : ((S j).2.1.map (fun p => ((0 : Int64), p.1))).length = (S j).2.1.length := List.length_map ..
    have hl9 := hLn j (by omega)
    have hn14 : n9 ≤ 14 := hb9.h14 (by omega)
    have ham : zAm (S j) = (S j).2.1.length := zAm_n hk6
    refine lv_astore (lv' := [(5, .ref aj), (0, .ref x), (1, .int (nI i)), (2, .int (nI j)), (3, .long p2)]) hx hb dX6_push_11 hl (by decide) rfl (fun ls hl => ?_)
    refine lv_aload hx hb dX6_push_13 (lv_at hl 0 rfl) ?_
    refine q_get C hP faj rfl inX2 0 (by decide) g192 rfl dX6_push_15 ?_
    refine lv_bipush (v := nI 6) hx hb dX6_push_18 (by decide) ?_
    refine lv_icmp_ne (tgt := 47) hx hb dX6_push_20 (by decide) (fun c20 => ?_) (fun c20 => ?_)
    · replace c20 : ¬ 0 = 6 := fun zq => c20 ((nI_eq (a := 0) (b := 6) (by omega) (by omega)).mpr zq)
      refine lv_aload hx hb dX6_push_47 (lv_at hl 0 rfl) ?_
      obtain ⟨t1j, t2j, t3j, f1j, f2j, f3j, etj⟩ := zvj.size
      refine q_callV (rest := []) C (c_X2_amount l D cy N0 h aj (nI 0) 0 t1j t2j t3j x1j none none none faj f1j f2j f3j) kX2_amount g222 g223 rfl g224 g10 hP hS faj (by first | decide | omega) hl.1 rfl (by decide) (by first | decide | omega) dX6_push_49 (fun q ce E h' H1 locs1 hE => hE.elim) (fun v hh3 H locs hq hP hS => ?_)
      obtain ⟨rfl, rfl⟩ := hq
      rw [← etj]
      refine lv_iconst (v := nI 1) hx hb dX6_push_52 (by decide) ?_
      refine q_iaddN hx hb dX6_push_53 ?_
      refine q_callS (rest := []) C (c_X6_needRoom l D cy N0 h (nI (((zAm (S j)) + 1)))) kX6_needRoom g324 g325 hP hS (by first | decide | omega) hl.1 rfl (by decide) (by first | decide | omega) dX6_push_54 (fun q ce E h' H1 locs1 hE hP hS hc1 hc2 hc3 => by obtain ⟨rfl, rfl, hn9⟩ := hE; replace hn9 : ¬ (zAm (S j) + 1) ≤ 1000 := fun z => hn9 ((nI_leI (a := (zAm (S j) + 1)) (b := 1000) (by omega) (by omega)).mpr z); exact q_out C hP hS hc1 hc2 hc3 (by have ex : (xs_push S (o, a, k) (nI i) (nI j) p2) = (3, S, o, a, k) := (by unfold xs_push; rw [if_neg (by rw [ebi, ebj]; decide), ecj, if_neg (by rw [hoj]; decide), if_neg hk6, if_pos (by omega)]); exact ⟨by rw [ex]; exact .tail _ (.tail _ (.head _)), by rw [ex]; exact hz.po hf⟩) (by omega)) (fun v hh4 H locs hq hP hS => ?_)
      obtain ⟨rfl, rfl, hr9⟩ := hq
      replace hr9 := (nI_leI (a := ((zAm (S j)) + 1)) (b := 1000) (by omega) (by omega)).mp hr9
      refine lv_aload_n hx hb dX6_push_57 rfl (lv_at hl 1 rfl) ?_
      refine lv_iload_n hx hb dX6_push_58 rfl (lv_at hl 2 rfl) ?_
      refine lv_aload hx hb dX6_push_59 (lv_at hl 0 rfl) ?_
      refine q_get C hP faj rfl inX2 0 (by decide) g192 rfl dX6_push_61 ?_
      refine lv_null hx hb dX6_push_64 ?_
      refine lv_lconst (v := 0) hx hb dX6_push_65 (by decide) ?_
      refine lv_lload_n hx hb dX6_push_66 rfl (lv_at hl 4 rfl) ?_
      refine lv_aload hx hb dX6_push_67 (lv_at hl 0 rfl) ?_
      refine q_get C hP faj rfl inX2 1 (by decide) g195 rfl dX6_push_69 ?_
      refine q_callSN (host := RX6) (rest := [.int (nI 0), .int (nI i), .ref x]) C (c_X0_linked l D cy N0 (0 + n9 + 1) h none 0 p2 x1j 0 n9 [] ((S j).2.1.map (fun p => ((0 : Int64), p.1))) qBr.nil hb9 (by rw [List.length_nil]; omega) (by omega)) kX0_linked (by decide +kernel) g473 hP hS (by first | decide | omega) hl.1 rfl (by simp [q_catrf, q_cati, q_catl, q_cata, q_catn]) (by first | decide | omega) dX6_push_72 (fun v hh5 H locs hq hP hS => ?_)
      obtain ⟨r8, n8, rfl, hle8, hb8, -⟩ := hq
      replace faj := hle8 _ _ faj
      replace zvj := zvj.le hle8
      replace hb9 := hb9.le hle8
      replace hf := hf.trs (zFr.le hle8 (qle.dom hle8))
      replace hz := hz.le hV hle8 (qle.dom hle8)
      refine q_callS (rest := [.int (nI i), .ref x]) C (c_X2_ofTree l D cy N0 hh5 (nI 0) r8) kX2_ofTree g516 g517 hP hS (by first | decide | omega) hl.1 rfl (by simp [q_catrf, q_cati, q_catl, q_cata, q_catn]) (by first | decide | omega) dX6_push_75 (fun q ce E h' H1 locs1 hE => hE.elim) (fun v hh6 H locs hq hP hS => ?_)
      obtain ⟨qh, rfl, oqh, rfl⟩ := hq
      replace hP : qP D N0 (qs hh5 qh (.inr (2, [.int (nI 0), va_rf r8, .null, .null, .null, .int 0]))) H := hP
      have hleh : qle hh5 (qs hh5 qh (.inr (2, [.int (nI 0), va_rf r8, .null, .null, .null, .int 0]))) := qle_new oqh
      replace faj := hleh _ _ faj
      replace zvj := zvj.le hleh
      replace hb9 := hb9.le hleh
      replace hb8 := hb8.le hleh
      replace hf := hf.trs (zFr.le hleh (qle.dom hleh))
      replace hz := hz.le hV hleh (qle.dom hleh)
      have fqh : (qs hh5 qh (.inr (2, [.int (nI 0), va_rf r8, .null, .null, .null, .int 0]))) qh = some (.inr (2, [.int (nI 0), va_rf r8, .null, .null, .null, .int 0])) := qs_self
      replace fqh : (qs hh5 qh (.inr (2, [.int (nI 0), va_rf r8, .null, .null, .null, .int 0]))) qh = some (.inr (2, [.int (S j).1, va_rf r8, .null, .null, .null, .int 0])) := by rw [hk9]; exact fqh
      have zvn : zV cy (qs hh5 qh (.inr (2, [.int (nI 0), va_rf r8, .null, .null, .null, .int 0]))) Im (zOk Ed eb S) mk g ((S j).1, (p2, 0) :: (S j).2.1, (S j).2.2) r8 none none none 0 := Or.inl ⟨Or.inl hk9, rfl, rfl, rfl, rfl, n8, hb8⟩
      have hzp := hz.put hV hi (s := ((S j).1, (p2, 0) :: (S j).2.1, (S j).2.2)) (fun z => absurd (hk9.symm.trans z) (by decide)) ⟨r8, none, none, none, 0, fqh, zvn⟩
      have hfp : zFr h (qs (qs hh5 qh (.inr (2, [.int (nI 0), va_rf r8, .null, .null, .null, .int 0]))) sl (.inl (cy 3, 24, .inr (.inr (.inr (.inr (va_up fs i (some qh)))))))) x sl kr vr bd br Xb := hf.trs (zFr.set hz.2.1.1 (Or.inr (Or.inl rfl)))
      have hkd : qHd (qs hh5 qh (.inr (2, [.int (nI 0), va_rf r8, .null, .null, .null, .int 0]))) qh ((S j).1) r8 none none none 0 (nI (zAm ((S j).1, (p2, 0) :: (S j).2.1, (S j).2.2))) := zHd.hd (s := ((S j).1, (p2, 0) :: (S j).2.1, (S j).2.2)) fqh zvn
      refine q_callV (rest := []) C (c_X6_keep l D cy N0 (qs hh5 qh (.inr (2, [.int (nI 0), va_rf r8, .null, .null, .null, .int 0]))) x sl bl kr vr mk (oCq (o, a, k).1) (oMq (o, a, k).1) (nI Ed) fs i qh ((S j).1) r8 none none none 0 (nI (zAm ((S j).1, (p2, 0) :: (S j).2.1, (S j).2.2))) hz.1.1 hz.2.1.1 hi hkd) kX6_keep g218 g220 rfl gp1 g1 hP hS hz.1.1 (by first | decide | omega) hl.1 rfl (by decide) (by first | decide | omega) dX6_push_78 (fun q ce E h' H1 locs1 hE => hE.elim) (fun v hh7 H locs hq hP hS => ?_)
      obtain ⟨rfl, rfl⟩ := hq
      replace faj := (qs_ne (h := (qs hh5 qh (.inr (2, [.int (nI 0), va_rf r8, .null, .null, .null, .int 0])))) (a := sl) (o := (.inl (cy 3, 24, .inr (.inr (.inr (.inr (va_up fs i (some qh)))))))) (fun z => by rw [z, hz.2.1.1] at faj; cases faj)).trans faj
      refine lv_pop hx hb dX6_push_81 rfl ?_
      have ex : (xs_push S (o, a, k) (nI i) (nI j) p2) = (0, qU S i ((S j).1, (p2, 0) :: (S j).2.1, (S j).2.2), o, a, k) := by unfold xs_push; rw [if_neg (by rw [ebi, ebj]; decide), ecj, if_neg (by rw [hoj]; decide), if_neg hk6, if_neg (by omega), eci]
      exact q_vret C hP hS ⟨by rw [ex], rfl, by rw [ex]; exact hzp.po hfp⟩ (by omega) dX6_push_82
    · replace c20 : 0 = 6 := (nI_eq (a := 0) (b := 6) (by omega) (by omega)).mp c20
      exfalso; omega
  · rw [hk9] at faj
    obtain ⟨rfl, rfl, rfl, rfl, rfl⟩ := zvj.strm hk9
    have hs8 := hSt j (by omega) hk9
    refine lv_astore (lv' := [(5, .ref aj), (0, .ref x), (1, .int (nI i)), (2, .int (nI j)), (3, .long p2)]) hx hb dX6_push_11 hl (by decide) rfl (fun ls hl => ?_)
    refine lv_aload hx hb dX6_push_13 (lv_at hl 0 rfl) ?_
    refine q_get C hP faj rfl inX2 0 (by decide) g192 rfl dX6_push_15 ?_
    refine lv_bipush (v := nI 6) hx hb dX6_push_18 (by decide) ?_
    refine lv_icmp_ne (tgt := 47) hx hb dX6_push_20 (by decide) (fun c20 => ?_) (fun c20 => ?_)
    · replace c20 : ¬ 6 = 6 := fun zq => c20 ((nI_eq (a := 6) (b := 6) (by omega) (by omega)).mpr zq)
      exfalso; omega
    · replace c20 : 6 = 6 := (nI_eq (a := 6) (b := 6) (by omega) (by omega)).mp c20
      refine lv_aload_n hx hb dX6_push_23 rfl (lv_at hl 1 rfl) ?_
      refine lv_iload_n hx hb dX6_push_24 rfl (lv_at hl 2 rfl) ?_
      refine lv_lload_n hx hb dX6_push_25 rfl (lv_at hl 4 rfl) ?_
      refine lv_aload hx hb dX6_push_26 (lv_at hl 0 rfl) ?_
      refine q_get C hP faj rfl inX2 4 (by decide) g202 rfl dX6_push_28 ?_
      refine q_callS (rest := [.int (nI i), .ref x]) C (c_X5_given l D cy N0 h p2 (zO g (S j).2.2.1)) kX5_given g526 g527 hP hS (by first | decide | omega) hl.1 rfl (by simp [q_catrf, q_cati, q_catl, q_cata, q_catn]) (by first | decide | omega) dX6_push_31 (fun q ce E h' H1 locs1 hE => hE.elim) (fun v hh8 H locs hq hP hS => ?_)
      obtain ⟨q, rfl, oq, rfl⟩ := hq
      replace hP : qP D N0 (qs h q (.inr (5, [.long p2, .int 0, .int 0, .long 0, .int 0, .null, .null, .null, .int 1, va_rf (zO g (S j).2.2.1)]))) H := hP
      have hw9 : zW (qs h q (.inr (5, [.long p2, .int 0, .int 0, .long 0, .int 0, .null, .null, .null, .int 1, va_rf (zO g (S j).2.2.1)]))) x mk sl bl kr vr (nI Ed) (qU g a.1 q) (xRs S) (o, xCons a p2 k.1, xRdy k (S j).2.2.1) := hz.1.new hV (q := q) (x0 := p2) (rr := k.1) (way := 0) (cod := 0) (cc := 0) (num := 0) (src := none) (beh := none) (row := none) (dn := 1) (rst := zO g (S j).2.2.1) oq (xRdy_u hV (s := (S j).2.2.1)) (Or.inl ⟨rfl, rfl, (zO_cg (n := a.1) (fun s hs => qU_ne (Nat.ne_of_lt hs)) hs8.1).symm⟩)
      have hH9 : zH h (qs h q (.inr (5, [.long p2, .int 0, .int 0, .long 0, .int 0, .null, .null, .null, .int 1, va_rf (zO g (S j).2.2.1)]))) x := zH.new oq
      obtain ⟨dp2, -, hV2, -⟩ := hV.pushR (o' := o) (x := p2) (s := (S j).2.2.1) rfl hs8 oSame
      dsimp only at hV2
      have ezo : zO (qU g a.1 q) a.1 = some q := by rw [zO_s (by omega), qU_at]
      replace faj := hH9.1 _ _ faj (fun z => by rw [z, hz.1.1] at faj; simp at faj) (fun fv z => by simp at z)
      replace hf := hf.trs (zH.fr hH9)
      replace hz := hz.str hw9 hH9 (fun s hs => qU_ne (Nat.ne_of_lt hs)) (fun i hi y => (hSt i hi y).1)
      have hV0 := hV
      replace hV := hV2
      refine lv_aload hx hb dX6_push_34 (lv_at hl 0 rfl) ?_
      refine q_get C hP faj rfl inX2 5 (by decide) g204 rfl dX6_push_36 ?_
      refine q_callS (rest := [.int (nI i), .ref x]) C (c_X2_ofStream l D cy N0 (qs h q (.inr (5, [.long p2, .int 0, .int 0, .long 0, .int 0, .null, .null, .null, .int 1, va_rf (zO g (S j).2.2.1)]))) (some q) (nI (S j).2.2.2)) kX2_ofStream g580 g581 hP hS (by first | decide | omega) hl.1 rfl (by simp [q_catrf, q_cati, q_catl, q_cata, q_catn]) (by first | decide | omega) dX6_push_39 (fun q ce E h' H1 locs1 hE => hE.elim) (fun v hh9 H locs hq hP hS => ?_)
      obtain ⟨qh, rfl, oqh, rfl⟩ := hq
      replace hP : qP D N0 (qs (qs h q (.inr (5, [.long p2, .int 0, .int 0, .long 0, .int 0, .null, .null, .null, .int 1, va_rf (zO g (S j).2.2.1)]))) qh (.inr (2, [.int 6, .null, .null, .null, va_rf (some q), .int (nI (S j).2.2.2)]))) H := hP
      have hleh : qle (qs h q (.inr (5, [.long p2, .int 0, .int 0, .long 0, .int 0, .null, .null, .null, .int 1, va_rf (zO g (S j).2.2.1)]))) (qs (qs h q (.inr (5, [.long p2, .int 0, .int 0, .long 0, .int 0, .null, .null, .null, .int 1, va_rf (zO g (S j).2.2.1)]))) qh (.inr (2, [.int 6, .null, .null, .null, va_rf (some q), .int (nI (S j).2.2.2)]))) := qle_new oqh
      replace faj := hleh _ _ faj
      replace hf := hf.trs (zFr.le hleh (qle.dom hleh))
      replace hz := hz.le hV hleh (qle.dom hleh)
      have fqh : (qs (qs h q (.inr (5, [.long p2, .int 0, .int 0, .long 0, .int 0, .null, .null, .null, .int 1, va_rf (zO g (S j).2.2.1)]))) qh (.inr (2, [.int 6, .null, .null, .null, va_rf (some q), .int (nI (S j).2.2.2)]))) qh = some (.inr (2, [.int 6, .null, .null, .null, va_rf (some q), .int (nI (S j).2.2.2)])) := qs_self
      have zvn : zV cy (qs (qs h q (.inr (5, [.long p2, .int 0, .int 0, .long 0, .int 0, .null, .null, .null, .int 1, va_rf (zO g (S j).2.2.1)]))) qh (.inr (2, [.int 6, .null, .null, .null, va_rf (some q), .int (nI (S j).2.2.2)]))) Im (zOk Ed eb S) mk (qU g a.1 q) (6, (S j).2.1, a.1, (S j).2.2.2) none none none (some q) (nI (S j).2.2.2) := Or.inr (Or.inr (Or.inr (Or.inr ⟨rfl, rfl, rfl, rfl, ezo.symm, rfl⟩)))
      have hzp := hz.put hV hi (s := (6, (S j).2.1, a.1, (S j).2.2.2)) (show ¬ ((6 : Int32) = -1) by decide) ⟨none, none, none, (some q), (nI (S j).2.2.2), fqh, zvn⟩
      have hfp : zFr h (qs (qs (qs h q (.inr (5, [.long p2, .int 0, .int 0, .long 0, .int 0, .null, .null, .null, .int 1, va_rf (zO g (S j).2.2.1)]))) qh (.inr (2, [.int 6, .null, .null, .null, va_rf (some q), .int (nI (S j).2.2.2)]))) sl (.inl (cy 3, 24, .inr (.inr (.inr (.inr (va_up fs i (some qh)))))))) x sl kr vr bd br Xb := hf.trs (zFr.set hz.2.1.1 (Or.inr (Or.inl rfl)))
      have hkd : qHd (qs (qs h q (.inr (5, [.long p2, .int 0, .int 0, .long 0, .int 0, .null, .null, .null, .int 1, va_rf (zO g (S j).2.2.1)]))) qh (.inr (2, [.int 6, .null, .null, .null, va_rf (some q), .int (nI (S j).2.2.2)]))) qh 6 none none none (some q) (nI (S j).2.2.2) (nI (zAm (6, (S j).2.1, a.1, (S j).2.2.2))) := zHd.hd (s := (6, (S j).2.1, a.1, (S j).2.2.2)) fqh zvn
      refine q_callV (rest := []) C (c_X6_keep l D cy N0 (qs (qs h q (.inr (5, [.long p2, .int 0, .int 0, .long 0, .int 0, .null, .null, .null, .int 1, va_rf (zO g (S j).2.2.1)]))) qh (.inr (2, [.int 6, .null, .null, .null, va_rf (some q), .int (nI (S j).2.2.2)]))) x sl bl kr vr mk (oCq (o, xCons a p2 k.1, xRdy k (S j).2.2.1).1) (oMq (o, xCons a p2 k.1, xRdy k (S j).2.2.1).1) (nI Ed) fs i qh 6 none none none (some q) (nI (S j).2.2.2) (nI (zAm (6, (S j).2.1, a.1, (S j).2.2.2))) hz.1.1 hz.2.1.1 hi hkd) kX6_keep g218 g220 rfl gp1 g1 hP hS hz.1.1 (by first | decide | omega) hl.1 rfl (by decide) (by first | decide | omega) dX6_push_42 (fun q ce E h' H1 locs1 hE => hE.elim) (fun v hh10 H locs hq hP hS => ?_)
      obtain ⟨rfl, rfl⟩ := hq
      replace faj := (qs_ne (h := (qs (qs h q (.inr (5, [.long p2, .int 0, .int 0, .long 0, .int 0, .null, .null, .null, .int 1, va_rf (zO g (S j).2.2.1)]))) qh (.inr (2, [.int 6, .null, .null, .null, va_rf (some q), .int (nI (S j).2.2.2)])))) (a := sl) (o := (.inl (cy 3, 24, .inr (.inr (.inr (.inr (va_up fs i (some qh)))))))) (fun z => by rw [z, hz.2.1.1] at faj; cases faj)).trans faj
      refine lv_pop hx hb dX6_push_45 rfl ?_
      have ex : (xs_push S (o, a, k) (nI i) (nI j) p2) = (0, qU S i (6, (S j).2.1, a.1, (S j).2.2.2), o, xCons a p2 k.1, xRdy k (S j).2.2.1) := by unfold xs_push; rw [if_neg (by rw [ebi, ebj]; decide), ecj, if_neg (by rw [hoj]; decide), if_pos (show (S j).1 = 6 from hk9), eci]
      exact q_vret C hP hS ⟨by rw [ex], rfl, by rw [ex]; exact hzp.po hfp⟩ (by omega) dX6_push_46
