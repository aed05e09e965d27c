theorem zSv_T {s : qSlot} {m : Int32} : (thT m 7 (zSv s)).map Prod.fst = (thT m 7 s.2.1).map Prod.fst := by
  unfold zSv
  split
  · rw [thT_map (φ := fun p => (p.1, 1)) (fun _ => rfl), List.map_map]; exact List.map_congr_left (fun _ _ => rfl)
  · rfl
theorem zSv_sh {s : qSlot} {m : Int32} : thSh m 7 (zSv s) = thSh m 7 s.2.1 := by
  unfold zSv
  split
  · exact thSh_map (φ := fun p => (p.1, 1)) (fun _ => rfl) 7 _
  · rfl
theorem dX6_shape_7 : decode cX6_shape 7 = .ok (.getfield 66, 3) := by decide +kernel
theorem dX6_shape_10 : decode cX6_shape 10 = .ok (.invokestatic 254, 3) := by decide +kernel
theorem dX6_shape_13 : decode cX6_shape 13 = .ok (.ireturn, 1) := by decide +kernel
set_option maxRecDepth 100000 in
set_option maxHeartbeats 4000000 in
theorem z_shape (l : Launch) (D : va_G) (cy : Nat → ClassId) (N0 : Nat) (h : qH) (x : Nat) (mk : Int32) (sl bl kr vr Ed : Nat) (fs : Nat → Option Nat) (bd br eb : Nat → Nat) (Im : Nat → Prop) (Xb : Nat → Nat → Prop) (g : Nat → Nat) (S : Nat → qSlot) (W : qWo) (Bd sk Rn : Nat) (dp : Nat → Nat) (gr : Int32) (p0 : Int32) (hz : zQ cy h x mk sl bl kr vr Ed fs bd br eb Im Xb g S W) (hI : ∀ i, i < 28 → qOk (S i).1 (S i).2.1) (hLn : ∀ i, i < 28 → (S i).2.1.length ≤ 1000) (hV : qWv Bd sk Rn dp W) (hmk : qMk gr = mk) : qC l D cy N0 yX6_shape cX6_shape 2 (some .int) 14 420 12 60 [.ref x, .int p0] h (fun v h' => (xs_shape gr S p0).1 = 0 ∧ v = some (.int (xs_shape gr S p0).2) ∧ zPo cy h x mk sl bl kr vr Ed bd br Im Xb S W h') (fun E h' => zXc [(1, "java/lang/IllegalArgumentException"), (2, "java/lang/IllegalStateException")] E (xs_shape gr S p0).1 ∧ zPo cy h x mk sl bl kr vr Ed bd br Im Xb S W h') := by
  refine q_ofW (by decide) (by exact Nat.le_of_ble_eq_true rfl) ?_
  intro p e s m below meth c ls C hP hl
  have hx := C.1
  have hb := C.2.1
  have hS : va_S (qA N0) s.heap s.heap [] := va_S.rf
  have hl : lv_has ls 2 [(0, .ref x), (1, .int p0)] := hl
  have hf : zFr h h x sl kr vr bd br Xb := zFr.rf
  refine lv_aload_n hx hb dX6_shape_0 rfl (lv_at hl 0 rfl) ?_
  refine lv_iload_n hx hb dX6_shape_1 rfl (lv_at hl 1 rfl) ?_
  refine lv_bipush (v := nI 6) hx hb dX6_shape_2 (by decide) ?_
  refine q_callV (rest := []) C (z_heldIn l D N0 p0 6 hz hI) kX6_heldIn g243 g245 rfl gp2 g1 hP hS hz.1.1 (by first | decide | omega) hl.1 rfl (by decide) (by first | decide | omega) dX6_shape_4 (fun q ce E h' H1 locs1 hE hP hS hc1 hc2 hc3 => hE.2.elim (fun y => by obtain ⟨rfl, -⟩ := hE; obtain ⟨rfl, hn9⟩ := y; exact q_out C hP hS hc1 hc2 hc3 (by have ex : (xs_shape gr S p0) = (1, 0) := (by have ebi := hn9; unfold xs_shape; rw [if_pos ebi]); exact ⟨by rw [ex]; exact .head _, by exact hz.po hf⟩) (by omega)) (fun y => by obtain ⟨rfl, -⟩ := hE; obtain ⟨rfl, i, hi8, rfl, ho8⟩ := y; exact q_out C hP hS hc1 hc2 hc3 (by have ex : (xs_shape gr S (nI i)) = (2, 0) := (by have ebi : bSl (nI i) = true := bSl_t (qSl.nI hi8); have eci : (nI i).toNatClampNeg = i := nI_clamp (by omega); have hoi := ho8; unfold xs_shape; rw [if_neg (by rw [ebi]; decide), eci, if_pos hoi]); exact ⟨by rw [ex]; exact .tail _ (.head _), by exact hz.po hf⟩) (by omega))) (fun v hh1 H locs hq hP hS => ?_)
  obtain ⟨rfl, i, ai, hi, rfl, hfsi, rfl, hoi, x1i, x2i, x3i, x4i, dvi, fai, zvi⟩ := hq
  have ebi : bSl (nI i) = true := bSl_t (qSl.nI hi)
  have eci : (nI i).toNatClampNeg = i := nI_clamp (by omega)
  have hk9 := bHo_6 (hI i (by omega)).2.2 hoi
  obtain ⟨rfl, rfl, rfl, rfl, hR9⟩ := zvi.hash hk9
  have hl9 := hLn i (by omega)
  rcases hR9 with ⟨rfl, e9⟩ | ⟨a1, rfl, -, hT⟩
  · refine q_get C hP fai rfl inX2 2 (by decide) g198 rfl dX6_shape_7 ?_
    refine q_callSN (host := RX6) (rest := []) C (c_X3_shapeOfN l D cy N0 h mk) kX3_shapeOf (by decide +kernel) g897 hP hS (by first | decide | omega) hl.1 rfl (by decide) (by first | decide | omega) dX6_shape_10 (fun v hh2 H locs hq hP hS => ?_)
    obtain ⟨rfl, rfl⟩ := hq
    rw [← e9]
    have ex : (xs_shape gr S (nI i)) = (0, nI (thSh mk 7 (zSv (S i)))) := by unfold xs_shape; rw [if_neg (by rw [ebi]; decide), eci, if_neg (by rw [hoi]; decide), hmk, zSv_sh]
    exact q_iret C hP hS ⟨by rw [ex], by first | (rw [ex]; done) | (rw [ex]), hz.po hf⟩ (by omega) dX6_shape_13
  · refine q_get C hP fai rfl inX2 2 (by decide) g198 rfl dX6_shape_7 ?_
    refine q_callSN (host := RX6) (rest := []) C (c_X3_shapeOf l D cy N0 Im 0 (zOk Ed eb S) mk 8 h 7 a1 _ _ hT (by omega) (by rw [zSv_len]; omega) (by omega)) kX3_shapeOf (by decide +kernel) g897 hP hS (by first | decide | omega) hl.1 rfl (by decide) (by first | decide | omega) dX6_shape_10 (fun v hh3 H locs hq hP hS => ?_)
    obtain ⟨rfl, rfl⟩ := hq
    have ex : (xs_shape gr S (nI i)) = (0, nI (thSh mk 7 (zSv (S i)))) := by unfold xs_shape; rw [if_neg (by rw [ebi]; decide), eci, if_neg (by rw [hoi]; decide), hmk, zSv_sh]
    exact q_iret C hP hS ⟨by rw [ex], by first | (rw [ex]; done) | (rw [ex]), hz.po hf⟩ (by omega) dX6_shape_13
theorem xSt_ok {s : Nat} {o : qYf} {a : qWd} {k : qKd} (h : oFq o = 0) : xStC (s, o, a, k) = (if s = 0 then 3 else 0) ∧ xStV (s, o, a, k) = if s = 0 then 0 else a.2.2.1 s := ⟨if_neg (fun z => z h), if_neg (fun z => z h)⟩
theorem xSt_bad {s : Nat} {o : qYf} {a : qWd} {k : qKd} (h : ¬ oFq o = 0) : xStC (s, o, a, k) = (if oFq o = 1 then 4 else 5) ∧ xStV (s, o, a, k) = 0 := ⟨if_pos h, if_pos h⟩
theorem bHo_79 {kd : Int32} (h : kd ∈ [(-1 : Int32), 0, 1, 2, 3, 4, 5, 6]) (e : bHo kd 79 = true) : kd = nI 0 ∨ kd = nI 3 ∨ kd = nI 6 ∨ (kd = nI 1 ∨ kd = nI 2) := by
  simp only [List.mem_cons, List.not_mem_nil, or_false] at h
  rcases h with rfl | rfl | rfl | rfl | rfl | rfl | rfl | rfl <;> revert e <;> decide
theorem dX6_at_15 : decode cX6_at 15 = .ok (.astore_n 3, 1) := by decide +kernel
theorem dX6_at_16 : decode cX6_at 16 = .ok (.aload_n 3, 1) := by decide +kernel
theorem dX6_at_17 : decode cX6_at 17 = .ok (.getfield 63, 3) := by decide +kernel
theorem dX6_at_20 : decode cX6_at 20 = .ok (.lookupswitch 82 #[(0, 52), (3, 67), (6, 36)], 36) := by decide +kernel
theorem dX6_at_56 : decode cX6_at 56 = .ok (.aload_n 0, 1) := by decide +kernel
theorem dX6_at_57 : decode cX6_at 57 = .ok (.aload_n 3, 1) := by decide +kernel
theorem dX6_at_58 : decode cX6_at 58 = .ok (.getfield 115, 3) := by decide +kernel
theorem dX6_at_61 : decode cX6_at 61 = .ok (.iload_n 2, 1) := by decide +kernel
theorem dX6_at_62 : decode cX6_at 62 = .ok (.invokevirtual 151, 3) := by decide +kernel
theorem dX6_at_65 : decode cX6_at 65 = .ok (.invokestatic 155, 3) := by decide +kernel
theorem dX6_at_68 : decode cX6_at 68 = .ok (.getfield 159, 3) := by decide +kernel
theorem dX6_at_71 : decode cX6_at 71 = .ok (.lreturn, 1) := by decide +kernel
theorem dX6_at_72 : decode cX6_at 72 = .ok (.aload_n 3, 1) := by decide +kernel
theorem dX6_at_73 : decode cX6_at 73 = .ok (.getfield 101, 3) := by decide +kernel
theorem dX6_at_76 : decode cX6_at 76 = .ok (.iload_n 2, 1) := by decide +kernel
theorem dX6_at_77 : decode cX6_at 77 = .ok (.invokestatic 132, 3) := by decide +kernel
theorem dX6_at_80 : decode cX6_at 80 = .ok (.invokestatic 136, 3) := by decide +kernel
theorem dX6_at_83 : decode cX6_at 83 = .ok (.getfield 140, 3) := by decide +kernel
theorem dX6_at_86 : decode cX6_at 86 = .ok (.lreturn, 1) := by decide +kernel
theorem dX6_at_87 : decode cX6_at 87 = .ok (.aload_n 3, 1) := by decide +kernel
theorem dX6_at_88 : decode cX6_at 88 = .ok (.getfield 101, 3) := by decide +kernel
theorem dX6_at_91 : decode cX6_at 91 = .ok (.iload_n 2, 1) := by decide +kernel
theorem dX6_at_92 : decode cX6_at 92 = .ok (.invokestatic 132, 3) := by decide +kernel
theorem dX6_at_95 : decode cX6_at 95 = .ok (.invokestatic 136, 3) := by decide +kernel
theorem dX6_at_98 : decode cX6_at 98 = .ok (.getfield 162, 3) := by decide +kernel
theorem dX6_at_101 : decode cX6_at 101 = .ok (.lreturn, 1) := by decide +kernel
theorem dX6_at_102 : decode cX6_at 102 = .ok (.aload_n 3, 1) := by decide +kernel
theorem dX6_at_103 : decode cX6_at 103 = .ok (.getfield 66, 3) := by decide +kernel
theorem dX6_at_106 : decode cX6_at 106 = .ok (.iload_n 2, 1) := by decide +kernel
theorem dX6_at_107 : decode cX6_at 107 = .ok (.invokestatic 165, 3) := by decide +kernel
theorem dX6_at_110 : decode cX6_at 110 = .ok (.lreturn, 1) := by decide +kernel
set_option maxRecDepth 100000 in
set_option maxHeartbeats 4000000 in
theorem z_at (l : Launch) (D : va_G) (cy : Nat → ClassId) (N0 : Nat) (h : qH) (x : Nat) (mk : Int32) (sl bl kr vr Ed : Nat) (fs : Nat → Option Nat) (bd br eb : Nat → Nat) (Im : Nat → Prop) (Xb : Nat → Nat → Prop) (g : Nat → Nat) (S : Nat → qSlot) (W : qWo) (Bd sk Rn : Nat) (dp : Nat → Nat) (dc : Nat) (d : Nat) (F : qWo → Nat → Nat × qWo) (p0 p1 : Int32) (hz : zQ cy h x mk sl bl kr vr Ed fs bd br eb Im Xb g S W) (hI : ∀ i, i < 28 → qOk (S i).1 (S i).2.1) (hLn : ∀ i, i < 28 → (S i).2.1.length ≤ 1000) (hV : qWv Bd (sk + 1) Rn dp W) (hSt : ∀ i, i < 24 → (S i).1 = 6 → (S i).2.2.1 < W.2.1.1 ∧ dp (S i).2.2.1 ≤ dc) (hF : zCS l D cy N0 x mk sl bl kr vr (nI Ed) Bd Rn (xRs S) F d) (hG : qFg Bd Rn F d) (hdc : dc < d) (hmk : qMk W.1.2.2.2.2.2.2.1 = mk) : qC l D cy N0 yX6_at cX6_at 4 (some .long) (4 * d + 50) (200 * d + 1300) (400 + ((xs_at F S W p0 p1).2.2.2.1.1 - W.2.1.1)) (3000 + 10 * ((xs_at F S W p0 p1).2.2.2.1.1 - W.2.1.1)) [.ref x, .int p0, .int p1] h (fun v h' => (xs_at F S W p0 p1).1 = 0 ∧ v = some (.long (xs_at F S W p0 p1).2.1) ∧ zPo cy h x mk sl bl kr vr Ed bd br Im Xb S ((xs_at F S W p0 p1).2.2) h') (fun E h' => zXc [(1, "java/lang/IllegalArgumentException"), (2, "java/lang/IllegalStateException"), (3, "java/util/NoSuchElementException"), (4, "java/lang/ArithmeticException"), (5, "java/lang/IndexOutOfBoundsException")] E (xs_at F S W p0 p1).1 ∧ zPo cy h x mk sl bl kr vr Ed bd br Im Xb S ((xs_at F S W p0 p1).2.2) h') := by
  refine q_ofW (by decide) (by exact Nat.le_of_ble_eq_true rfl) ?_
  intro p e s m below meth c ls C hP hl
  have hx := C.1
  have hb := C.2.1
  have hS : va_S (qA N0) s.heap s.heap [] := va_S.rf
  have hl : lv_has ls 4 [(0, .ref x), (1, .int p0), (2, .int p1)] := hl
  have hf : zFr h h x sl kr vr bd br Xb := zFr.rf
  obtain ⟨o, a, k⟩ := W
  dsimp only at hSt
  have hp9 : 1 ≤ a.1 ∧ a.1 ≤ a.2.1 := hV.p
  dsimp only at hmk
  refine lv_iload_n hx hb dX6_at_0 rfl (lv_at hl 1 rfl) ?_
  refine q_callS (rest := []) C (c_X6_needSlot l D cy N0 h p0) kX6_needSlot g104 g105 hP hS (by first | decide | omega) hl.1 rfl (by decide) (by first | decide | omega) dX6_at_1 (fun q ce E h' H1 locs1 hE hP hS hc1 hc2 hc3 => by obtain ⟨rfl, rfl, hn9⟩ := hE; have eb9 := bSl_f hn9; exact q_out C hP hS hc1 hc2 hc3 (by have ex : (xs_at F S (o, a, k) p0 p1) = (1, 0, o, a, k) := (by unfold xs_at; rw [if_pos (Or.inl eb9)]); exact ⟨by rw [ex]; exact .head _, by rw [ex]; exact hz.po hf⟩) (by omega)) (fun v hh1 H locs hq hP hS => ?_)
  obtain ⟨rfl, rfl, sl9⟩ := hq
  obtain ⟨i, hi, rfl⟩ := sl9.of
  have ebi : bSl (nI i) = true := bSl_t sl9
  have eci : (nI i).toNatClampNeg = i := nI_clamp (by omega)
  refine lv_iload_n hx hb dX6_at_4 rfl (lv_at hl 2 rfl) ?_
  refine q_callS (rest := []) C (c_X6_needNotNegative l D cy N0 h p1) kX6_needNotNegative g629 g630 hP hS (by first | decide | omega) hl.1 rfl (by decide) (by first | decide | omega) dX6_at_5 (fun q ce E h' H1 locs1 hE hP hS hc1 hc2 hc3 => by obtain ⟨rfl, rfl, hn9⟩ := hE; exact q_out C hP hS hc1 hc2 hc3 (by have ex : (xs_at F S (o, a, k) (nI i) p1) = (1, 0, o, a, k) := (by unfold xs_at; rw [if_pos (Or.inr hn9)]); exact ⟨by rw [ex]; exact .head _, by rw [ex]; exact hz.po hf⟩) (by omega)) (fun v hh2 H locs hq hP hS => ?_)
  obtain ⟨rfl, rfl, hnn⟩ := hq
  obtain ⟨q9, hq9, rfl⟩ := nI_of hnn
  have ecq : (nI q9).toNatClampNeg = q9 := nI_clamp hq9
  refine lv_aload_n hx hb dX6_at_8 rfl (lv_at hl 0 rfl) ?_
  refine lv_iload_n hx hb dX6_at_9 rfl (lv_at hl 1 rfl) ?_
  refine lv_bipush (v := nI 79) hx hb dX6_at_10 (by decide) ?_
  refine q_callV (rest := []) C (z_heldIn l D N0 (nI i) 79 hz hI) kX6_heldIn g243 g245 rfl gp2 g1 hP hS hz.1.1 (by first | decide | omega) hl.1 rfl (by decide) (by first | decide | omega) dX6_at_12 (fun q ce E h' H1 locs1 hE hP hS hc1 hc2 hc3 => hE.2.elim (fun y => by obtain ⟨rfl, -⟩ := hE; obtain ⟨rfl, hn9⟩ := y; exact absurd hn9 (by rw [ebi]; decide)) (fun y => by obtain ⟨rfl, -⟩ := hE; obtain ⟨rfl, i8, hi8, e8, ho8⟩ := y; obtain rfl : i = i8 := nI_inj32 (by omega) (by omega) e8; exact q_out C hP hS hc1 hc2 hc3 (by have ex : (xs_at F S (o, a, k) (nI i) (nI q9)) = (2, 0, o, a, k) := (by have ebi : bSl (nI i) = true := bSl_t (qSl.nI hi8); have eci : (nI i).toNatClampNeg = i := nI_clamp (by omega); have hoi := ho8; unfold xs_at; rw [if_neg (by rw [ebi]; exact fun z => z.elim (fun z => by cases z) hnn), eci, if_pos hoi]); exact ⟨by rw [ex]; exact .tail _ (.head _), by rw [ex]; exact hz.po hf⟩) (by omega))) (fun v hh3 H locs hq hP hS => ?_)
  obtain ⟨rfl, i9, ai, hi9, ei9, hfsi, rfl, hoi, x1i, x2i, x3i, x4i, dvi, fai, zvi⟩ := hq
  obtain rfl : i = i9 := nI_inj32 (by omega) (by omega) ei9
  rcases bHo_79 (hI i (by omega)).2.2 hoi with hk9 | hk9 | hk9 | hk9 | hk9
  · have hk6 : ¬ (S i).1 = 6 := fun z => absurd (hk9.symm.trans z) (by decide)
    rw [hk9] at fai
    obtain ⟨rfl, rfl, rfl, rfl, n9, hb9⟩ := zvi.seq (Or.inl hk9)
    have hlm : ((S i).2.1.map (fun p => ((0 : Int64), p.1))).length = (S i).2.1.length := List.length_map ..
    have hl9 := hLn i (by omega)
    have hn14 : n9 ≤ 14 := hb9.h14 (by omega)
    refine lv_astore_n (lv' := [(3, .ref ai), (0, .ref x), (1, .int (nI i)), (2, .int (nI q9))]) hx hb dX6_at_15 rfl hl (by decide) rfl (fun ls hl => ?_)
    refine lv_aload_n hx hb dX6_at_16 rfl (lv_at hl 0 rfl) ?_
    refine q_get C hP fai rfl inX2 0 (by decide) g192 rfl dX6_at_17 ?_
    refine lv_lookup (tgt := 72) (off := 52) hx hb dX6_at_20 (by decide +kernel) (by decide +kernel) (by decide) ?_
    refine lv_aload_n hx hb dX6_at_72 rfl (lv_at hl 0 rfl) ?_
    refine q_get C hP fai rfl inX2 1 (by decide) g195 rfl dX6_at_73 ?_
    refine lv_iload_n hx hb dX6_at_76 rfl (lv_at hl 3 rfl) ?_
    refine q_callS (rest := []) C (c_X0_branchAt l D cy N0 h x1i n9 ((S i).2.1.map (fun p => ((0 : Int64), p.1))) (nI q9) hb9 (by omega)) kX0_branchAt g591 g592 hP hS (by first | decide | omega) hl.1 rfl (by decide) (by first | decide | omega) dX6_at_77 (fun q ce E h' H1 locs1 hE => hE.elim) (fun v hh4 H locs hq hP hS => ?_)
    obtain ⟨r9, rfl, rfl, hat⟩ := hq
    rcases hat with ⟨jj, ab, k9, v9, y1, y2, y3, y4, ejj, eL9, rfl, fab⟩ | ⟨rfl, hno⟩
    · have hjl := (List.getElem?_eq_some_iff.mp eL9).1
      rw [hlm] at hjl
      obtain rfl : q9 = jj := nI_inj32 (by omega) (by omega) ejj
      have hl0 : q9 < (S i).2.1.length := hjl
      obtain ⟨p9, egL, ep9⟩ := Option.map_eq_some_iff.mp ((List.getElem?_map ..).symm.trans eL9)
      have hva : ((S i).2.1.getD q9 (0, 0)).1 = v9 := by rw [List.getD_eq_getElem?_getD, egL]; exact congrArg Prod.snd ep9
      refine q_callS (rest := []) C (c_X6_needBranch l D cy N0 h (some ab)) kX6_needBranch g595 g596 hP hS (by first | decide | omega) hl.1 rfl (by decide) (by first | decide | omega) dX6_at_80 (fun q ce E h' H1 locs1 hE hP hS hc1 hc2 hc3 => absurd hE.2.2 (fun z => by cases z)) (fun v hh5 H locs hq hP hS => ?_)
      obtain ⟨a8, e8, rfl, rfl⟩ := hq
      cases e8
      refine q_get C hP fab rfl inX0 2 (by decide) g496 rfl dX6_at_83 ?_
      have ex : (xs_at F S (o, a, k) (nI i) (nI q9)) = (0, v9, o, a, k) := by unfold xs_at; rw [if_neg (by rw [ebi]; exact fun z => z.elim (fun z => by cases z) hnn), eci, if_neg (by rw [hoi]; decide), if_neg hk6, ecq, if_neg (fun z => z hl0), if_neg (fun z => z.elim (fun z => absurd (hk9.symm.trans z) (by decide)) (fun z => absurd (hk9.symm.trans z) (by decide))), hva]
      exact q_lret C hP hS ⟨by rw [ex], by rw [ex], by rw [ex]; exact hz.po hf⟩ (by omega) dX6_at_86
    · have hl0 : ¬ q9 < (S i).2.1.length := hno.elim (fun z => absurd z (nI_pos hq9)) (fun ⟨j9, e9, h1, h2⟩ => by have := nI_inj32 (by omega) (by omega) e9; rw [hlm] at h1; omega)
      refine q_callS (rest := []) C (c_X6_needBranch l D cy N0 h none) kX6_needBranch g595 g596 hP hS (by first | decide | omega) hl.1 rfl (by decide) (by first | decide | omega) dX6_at_80 (fun q ce E h' H1 locs1 hE hP hS hc1 hc2 hc3 => by obtain ⟨rfl, rfl, hn9⟩ := hE; exact q_out C hP hS hc1 hc2 hc3 (by have ex : (xs_at F S (o, a, k) (nI i) (nI q9)) = (3, 0, o, a, k) := (by unfold xs_at; rw [if_neg (by rw [ebi]; exact fun z => z.elim (fun z => by cases z) hnn), eci, if_neg (by rw [hoi]; decide), if_neg hk6, ecq, if_pos hl0]); exact ⟨by rw [ex]; exact .tail _ (.tail _ (.head _)), by rw [ex]; exact hz.po hf⟩) (by omega)) (fun v hh6 H locs hq hP hS => ?_)
      obtain ⟨a8, e8, rfl, rfl⟩ := hq
      cases e8
  · have hk6 : ¬ (S i).1 = 6 := fun z => absurd (hk9.symm.trans z) (by decide)
    rw [hk9] at fai
    obtain ⟨rfl, rfl, rfl, rfl, n9, hb9⟩ := zvi.tree hk9
    have hl9 := hLn i (by omega)
    have hn14 : n9 ≤ 14 := hb9.h14 (by omega)
    have hsoi : qSo (S i).2.1 := qSo_of ((hI i (by omega)).1 (Or.inl hk9)) ((hI i (by omega)).2.1 (Or.inr (Or.inr hk9)))
    refine lv_astore_n (lv' := [(3, .ref ai), (0, .ref x), (1, .int (nI i)), (2, .int (nI q9))]) hx hb dX6_at_15 rfl hl (by decide) rfl (fun ls hl => ?_)
    refine lv_aload_n hx hb dX6_at_16 rfl (lv_at hl 0 rfl) ?_
    refine q_get C hP fai rfl inX2 0 (by decide) g192 rfl dX6_at_17 ?_
    refine lv_lookup (tgt := 87) (off := 67) hx hb dX6_at_20 (by decide +kernel) (by decide +kernel) (by decide) ?_
    refine lv_aload_n hx hb dX6_at_87 rfl (lv_at hl 0 rfl) ?_
    refine q_get C hP fai rfl inX2 1 (by decide) g195 rfl dX6_at_88 ?_
    refine lv_iload_n hx hb dX6_at_91 rfl (lv_at hl 3 rfl) ?_
    refine q_callS (rest := []) C (c_X0_branchAt l D cy N0 h x1i n9 (S i).2.1 (nI q9) hb9 (by omega)) kX0_branchAt g591 g592 hP hS (by first | decide | omega) hl.1 rfl (by decide) (by first | decide | omega) dX6_at_92 (fun q ce E h' H1 locs1 hE => hE.elim) (fun v hh7 H locs hq hP hS => ?_)
    obtain ⟨r9, rfl, rfl, hat⟩ := hq
    rcases hat with ⟨jj, ab, k9, v9, y1, y2, y3, y4, ejj, eL9, rfl, fab⟩ | ⟨rfl, hno⟩
    · have hjl := (List.getElem?_eq_some_iff.mp eL9).1
      obtain rfl : q9 = jj := nI_inj32 (by omega) (by omega) ejj
      have hl0 : q9 < (S i).2.1.length := hjl
      have hva : ((S i).2.1.getD q9 (0, 0)).1 = k9 := by rw [List.getD_eq_getElem?_getD, eL9]; rfl
      refine q_callS (rest := []) C (c_X6_needBranch l D cy N0 h (some ab)) kX6_needBranch g595 g596 hP hS (by first | decide | omega) hl.1 rfl (by decide) (by first | decide | omega) dX6_at_95 (fun q ce E h' H1 locs1 hE hP hS hc1 hc2 hc3 => absurd hE.2.2 (fun z => by cases z)) (fun v hh8 H locs hq hP hS => ?_)
      obtain ⟨a8, e8, rfl, rfl⟩ := hq
      cases e8
      refine q_get C hP fab rfl inX0 1 (by decide) g493 rfl dX6_at_98 ?_
      have ex : (xs_at F S (o, a, k) (nI i) (nI q9)) = (0, k9, o, a, k) := by unfold xs_at; rw [if_neg (by rw [ebi]; exact fun z => z.elim (fun z => by cases z) hnn), eci, if_neg (by rw [hoi]; decide), if_neg hk6, ecq, if_neg (fun z => z hl0), if_neg (fun z => z.elim (fun z => absurd (hk9.symm.trans z) (by decide)) (fun z => absurd (hk9.symm.trans z) (by decide))), hva]
      exact q_lret C hP hS ⟨by rw [ex], by rw [ex], by rw [ex]; exact hz.po hf⟩ (by omega) dX6_at_101
    · have hl0 : ¬ q9 < (S i).2.1.length := hno.elim (fun z => absurd z (nI_pos hq9)) (fun ⟨j9, e9, h1, h2⟩ => by have := nI_inj32 (by omega) (by omega) e9; omega)
      refine q_callS (rest := []) C (c_X6_needBranch l D cy N0 h none) kX6_needBranch g595 g596 hP hS (by first | decide | omega) hl.1 rfl (by decide) (by first | decide | omega) dX6_at_95 (fun q ce E h' H1 locs1 hE hP hS hc1 hc2 hc3 => by obtain ⟨rfl, rfl, hn9⟩ := hE; exact q_out C hP hS hc1 hc2 hc3 (by have ex : (xs_at F S (o, a, k) (nI i) (nI q9)) = (3, 0, o, a, k) := (by unfold xs_at; rw [if_neg (by rw [ebi]; exact fun z => z.elim (fun z => by cases z) hnn), eci, if_neg (by rw [hoi]; decide), if_neg hk6, ecq, if_pos hl0]); exact ⟨by rw [ex]; exact .tail _ (.tail _ (.head _)), by rw [ex]; exact hz.po hf⟩) (by omega)) (fun v hh9 H locs hq hP hS => ?_)
      obtain ⟨a8, e8, rfl, rfl⟩ := hq
      cases e8
  · rw [hk9] at fai
    obtain ⟨rfl, rfl, rfl, rfl, rfl⟩ := zvi.strm hk9
    have hs8 := hSt i (by omega) hk9
    refine lv_astore_n (lv' := [(3, .ref ai), (0, .ref x), (1, .int (nI i)), (2, .int (nI q9))]) hx hb dX6_at_15 rfl hl (by decide) rfl (fun ls hl => ?_)
    refine lv_aload_n hx hb dX6_at_16 rfl (lv_at hl 0 rfl) ?_
    refine q_get C hP fai rfl inX2 0 (by decide) g192 rfl dX6_at_17 ?_
    refine lv_lookup (tgt := 56) (off := 36) hx hb dX6_at_20 (by decide +kernel) (by decide +kernel) (by decide) ?_
    refine lv_aload_n hx hb dX6_at_56 rfl (lv_at hl 1 rfl) ?_
    refine lv_aload_n hx hb dX6_at_57 rfl (lv_at hl 0 rfl) ?_
    refine q_get C hP fai rfl inX2 4 (by decide) g202 rfl dX6_at_58 ?_
    refine lv_iload_n hx hb dX6_at_61 rfl (lv_at hl 3 rfl) ?_
    obtain ⟨X9, er9⟩ : ∃ z, xWalk F q9 ((oFa (oCd o 0) 0), a, k) (S i).2.2.1 = z := ⟨_, rfl⟩
    obtain ⟨s2, o2, a2, k2⟩ := X9
    have hcall := z_streamAfter l D cy N0 h x mk sl bl kr vr (nI Ed) g (xRs S) (oFa (oCd o 0) 0) a k Bd (sk + 1) Rn dp d dc F (S i).2.2.1 q9 _ (hz.1.obj rfl rfl) (hV.obj rfl) rfl hF hG hdc hs8 hq9 er9
    dsimp only at hcall
    have st9 := xWalk_stp hG hdc q9 (S i).2.2.1 dp ((oFa (oCd o 0) 0), a, k) (hV.obj rfl) rfl hs8
    rw [er9] at st9
    obtain ⟨dp2, d1, w2, d3, d4, d5, -, d7⟩ := st9
    dsimp only at d1 d3 d4 d5 w2
    have eA : (xs_at F S (o, a, k) (nI i) (nI q9)).2.2.2.1.1 = a2.1 := by unfold xs_at; rw [if_neg (by rw [ebi]; exact fun z => z.elim (fun z => by cases z) hnn), eci, if_neg (by rw [hoi]; decide), if_pos (show (S i).1 = 6 from hk9), ecq]; dsimp only; rw [er9]
    have e0 : ((o, a, k) : qWo).2.1.1 = a.1 := rfl
    have e1 : (if oFq o2 = 0 then 0 else 1) ≤ 1 ∧ (if oFq o2 = 0 then 0 else 6) ≤ 6 := ⟨by split <;> omega, by split <;> omega⟩
    refine q_callV (rest := []) C (hcall) kX6_streamAfter g633 g635 rfl gp13 g1 hP hS hz.1.1 (by first | decide | omega) hl.1 rfl (by decide) (by first | decide | omega) dX6_at_62 (fun q ce E h' H1 locs1 hE hP hS hc1 hc2 hc3 => by obtain ⟨hE1, gw2, ag2, hz2, hH2⟩ := hE; have hf2 : ¬ oFq o2 = 0 := hE1.elim (fun y z => absurd (z.symm.trans y.2) (by decide)) (fun y z => absurd (z.symm.trans y.2) (by decide)); have ex : (xs_at F S (o, a, k) (nI i) (nI q9)) = ((if oFq o2 = 1 then 4 else 5), 0, o2, a2, k2) := (by unfold xs_at; rw [if_neg (by rw [ebi]; exact fun z => z.elim (fun z => by cases z) hnn), eci, if_neg (by rw [hoi]; decide), if_pos (show (S i).1 = 6 from hk9), ecq]; dsimp only; rw [er9]; rw [(xSt_bad hf2).1, (xSt_bad hf2).2]); exact q_out C hP hS hc1 hc2 hc3 ⟨by rw [ex]; exact hE1.elim (fun y => by rw [y.1, if_pos y.2]; exact .tail _ (.tail _ (.tail _ (.head _)))) (fun y => by rw [y.1, if_neg (fun z => absurd (y.2.symm.trans z) (by decide))]; exact .tail _ (.tail _ (.tail _ (.tail _ (.head _))))), by rw [ex]; exact (hz.str hz2 hH2 ag2 (fun i hi y => (hSt i hi y).1)).po (hf.trs (zH.fr hH2))⟩ (by omega)) (fun v hh10 H locs hq hP hS => ?_)
    obtain ⟨hf2, gw2, ag2, rfl, hz2, hH2⟩ := hq
    dsimp only at hf2
    dsimp only
    have e60 : (if oFq o2 = 0 then 0 else 1) = 0 ∧ (if oFq o2 = 0 then 0 else 6) = 0 := ⟨if_pos hf2, if_pos hf2⟩
    have z5 := d5 hf2
    replace fai := hH2.1 _ _ fai (fun z => by rw [z, hz.1.1] at fai; simp at fai) (fun fv z => by simp at z)
    replace hf := hf.trs (zH.fr hH2)
    replace hz := hz.str hz2 hH2 ag2 (fun i hi y => (hSt i hi y).1)
    have hV0 := hV
    replace hV := w2
    by_cases es2 : s2 = 0
    · rw [es2, zO_z]
      refine q_callS (rest := []) C (c_X6_needStream l D cy N0 hh10 none) kX6_needStream g708 g709 hP hS (by first | decide | omega) hl.1 rfl (by decide) (by first | decide | omega) dX6_at_65 (fun q ce E h' H1 locs1 hE hP hS hc1 hc2 hc3 => by obtain ⟨rfl, rfl, hn9⟩ := hE; exact q_out C hP hS hc1 hc2 hc3 (by have ex : (xs_at F S (o, a, k) (nI i) (nI q9)) = (3, 0, o2, a2, k2) := (by unfold xs_at; rw [if_neg (by rw [ebi]; exact fun z => z.elim (fun z => by cases z) hnn), eci, if_neg (by rw [hoi]; decide), if_pos (show (S i).1 = 6 from hk9), ecq]; dsimp only; rw [er9]; rw [(xSt_ok hf2).1, (xSt_ok hf2).2, if_pos es2, if_pos es2]); exact ⟨by rw [ex]; exact .tail _ (.tail _ (.head _)), by rw [ex]; exact hz.po hf⟩) (by omega)) (fun v hh11 H locs hq hP hS => ?_)
      obtain ⟨a8, e8, rfl, rfl⟩ := hq
      cases e8
    · rw [zO_s es2]
      obtain ⟨way, cod, cc0, num, src, beh, row, dn, rst, fgi, -⟩ := hz.1.2.1 s2 (by omega) z5.1
      obtain ⟨gi, egi⟩ : ∃ z, gw2 s2 = z := ⟨_, rfl⟩
      rw [egi] at fgi
      rw [egi]
      dsimp only at fgi
      refine q_callS (rest := []) C (c_X6_needStream l D cy N0 hh10 (some gi)) kX6_needStream g708 g709 hP hS (by first | decide | omega) hl.1 rfl (by decide) (by first | decide | omega) dX6_at_65 (fun q ce E h' H1 locs1 hE hP hS hc1 hc2 hc3 => absurd hE.2.2 (fun z => by cases z)) (fun v hh12 H locs hq hP hS => ?_)
      obtain ⟨a8, e8, rfl, rfl⟩ := hq
      cases e8
      refine q_get C hP fgi rfl inX5 0 (by decide) g536 rfl dX6_at_68 ?_
      have ex : (xs_at F S (o, a, k) (nI i) (nI q9)) = (0, a2.2.2.1 s2, o2, a2, k2) := by unfold xs_at; rw [if_neg (by rw [ebi]; exact fun z => z.elim (fun z => by cases z) hnn), eci, if_neg (by rw [hoi]; decide), if_pos (show (S i).1 = 6 from hk9), ecq]; dsimp only; rw [er9]; rw [(xSt_ok hf2).1, (xSt_ok hf2).2, if_neg es2, if_neg es2]
      exact q_lret C hP hS ⟨by rw [ex], by rw [ex], by rw [ex]; exact hz.po hf⟩ (by omega) dX6_at_71
  · have hk6 : ¬ (S i).1 = 6 := fun z => absurd (hk9.symm.trans z) (by decide)
    rw [hk9] at fai
    replace hk9 : (S i).1 = 1 ∨ (S i).1 = 2 := Or.inl hk9
    obtain ⟨rfl, rfl, rfl, rfl, hR9⟩ := zvi.hash hk9
    have hl9 := hLn i (by omega)
    refine lv_astore_n (lv' := [(3, .ref ai), (0, .ref x), (1, .int (nI i)), (2, .int (nI q9))]) hx hb dX6_at_15 rfl hl (by decide) rfl (fun ls hl => ?_)
    refine lv_aload_n hx hb dX6_at_16 rfl (lv_at hl 0 rfl) ?_
    refine q_get C hP fai rfl inX2 0 (by decide) g192 rfl dX6_at_17 ?_
    refine lv_lookup (tgt := 102) (off := 82) hx hb dX6_at_20 (by decide +kernel) (by decide +kernel) (by decide) ?_
    refine lv_aload_n hx hb dX6_at_102 rfl (lv_at hl 0 rfl) ?_
    refine q_get C hP fai rfl inX2 2 (by decide) g198 rfl dX6_at_103 ?_
    refine lv_iload_n hx hb dX6_at_106 rfl (lv_at hl 3 rfl) ?_
    refine q_callS (rest := []) C (z_hashedKeyAt l D cy N0 h Im 0 (zOk Ed eb S) mk x2i (zSv (S i)) (fun _ => False) q9 hR9 (by rw [zSv_len]; omega) hq9) kX6_hashedKeyAt g711 g712 hP hS (by first | decide | omega) hl.1 rfl (by decide) (by first | decide | omega) dX6_at_107 (fun q ce E h' H1 locs1 hE hP hS hc1 hc2 hc3 => by obtain ⟨rfl, rfl, hl0⟩ := hE; rw [zSv_len] at hl0; replace hl0 : ¬ q9 < (S i).2.1.length := Nat.not_lt.mpr hl0; exact q_out C hP hS hc1 hc2 hc3 (by have ex : (xs_at F S (o, a, k) (nI i) (nI q9)) = (3, 0, o, a, k) := (by unfold xs_at; rw [if_neg (by rw [ebi]; exact fun z => z.elim (fun z => by cases z) hnn), eci, if_neg (by rw [hoi]; decide), if_neg hk6, ecq, if_pos hl0]); exact ⟨by rw [ex]; exact .tail _ (.tail _ (.head _)), by rw [ex]; exact hz.po hf⟩) (by omega)) (fun v hh13 H locs hq hP hS => ?_)
    obtain ⟨y9, ey9, rfl, rfl⟩ := hq
    have hl0 : q9 < (S i).2.1.length := by have := (List.getElem?_eq_some_iff.mp ey9).1; rw [thT_len, zSv_len] at this; exact this
    have hva : ((thT mk 7 (S i).2.1).getD q9 (0, 0)).1 = y9.1 := by
      have z := congrArg (fun L : List Int64 => L[q9]?) (zSv_T (s := S i) (m := mk))
      try dsimp only at z
      rw [List.getElem?_map, List.getElem?_map, ey9] at z
      obtain ⟨p9, e1, e2⟩ := Option.map_eq_some_iff.mp z.symm
      rw [List.getD_eq_getElem?_getD, e1]; exact e2
    have ex : (xs_at F S (o, a, k) (nI i) (nI q9)) = (0, y9.1, o, a, k) := by unfold xs_at; rw [if_neg (by rw [ebi]; exact fun z => z.elim (fun z => by cases z) hnn), eci, if_neg (by rw [hoi]; decide), if_neg hk6, ecq, if_neg (fun z => z hl0), if_pos hk9, show qMk ((o, a, k) : qWo).1.2.2.2.2.2.2.1 = mk from hmk, hva]
    exact q_lret C hP hS ⟨by rw [ex], by rw [ex], by rw [ex]; exact hz.po hf⟩ (by omega) dX6_at_110
  · have hk6 : ¬ (S i).1 = 6 := fun z => absurd (hk9.symm.trans z) (by decide)
    rw [hk9] at fai
    replace hk9 : (S i).1 = 1 ∨ (S i).1 = 2 := Or.inr hk9
    obtain ⟨rfl, rfl, rfl, rfl, hR9⟩ := zvi.hash hk9
    have hl9 := hLn i (by omega)
    refine lv_astore_n (lv' := [(3, .ref ai), (0, .ref x), (1, .int (nI i)), (2, .int (nI q9))]) hx hb dX6_at_15 rfl hl (by decide) rfl (fun ls hl => ?_)
    refine lv_aload_n hx hb dX6_at_16 rfl (lv_at hl 0 rfl) ?_
    refine q_get C hP fai rfl inX2 0 (by decide) g192 rfl dX6_at_17 ?_
    refine lv_lookup (tgt := 102) (off := 82) hx hb dX6_at_20 (by decide +kernel) (by decide +kernel) (by decide) ?_
    refine lv_aload_n hx hb dX6_at_102 rfl (lv_at hl 0 rfl) ?_
    refine q_get C hP fai rfl inX2 2 (by decide) g198 rfl dX6_at_103 ?_
    refine lv_iload_n hx hb dX6_at_106 rfl (lv_at hl 3 rfl) ?_
    refine q_callS (rest := []) C (z_hashedKeyAt l D cy N0 h Im 0 (zOk Ed eb S) mk x2i (zSv (S i)) (fun _ => False) q9 hR9 (by rw [zSv_len]; omega) hq9) kX6_hashedKeyAt g711 g712 hP hS (by first | decide | omega) hl.1 rfl (by decide) (by first | decide | omega) dX6_at_107 (fun q ce E h' H1 locs1 hE hP hS hc1 hc2 hc3 => by obtain ⟨rfl, rfl, hl0⟩ := hE; rw [zSv_len] at hl0; replace hl0 : ¬ q9 < (S i).2.1.length := Nat.not_lt.mpr hl0; exact q_out C hP hS hc1 hc2 hc3 (by have ex : (xs_at F S (o, a, k) (nI i) (nI q9)) = (3, 0, o, a, k) := (by unfold xs_at; rw [if_neg (by rw [ebi]; exact fun z => z.elim (fun z => by cases z) hnn), eci, if_neg (by rw [hoi]; decide), if_neg hk6, ecq, if_pos hl0]); exact ⟨by rw [ex]; exact .tail _ (.tail _ (.head _)), by rw [ex]; exact hz.po hf⟩) (by omega)) (fun v hh14 H locs hq hP hS => ?_)
    obtain ⟨y9, ey9, rfl, rfl⟩ := hq
    have hl0 : q9 < (S i).2.1.length := by have := (List.getElem?_eq_some_iff.mp ey9).1; rw [thT_len, zSv_len] at this; exact this
    have hva : ((thT mk 7 (S i).2.1).getD q9 (0, 0)).1 = y9.1 := by
      have z := congrArg (fun L : List Int64 => L[q9]?) (zSv_T (s := S i) (m := mk))
      try dsimp only at z
      rw [List.getElem?_map, List.getElem?_map, ey9] at z
      obtain ⟨p9, e1, e2⟩ := Option.map_eq_some_iff.mp z.symm
      rw [List.getD_eq_getElem?_getD, e1]; exact e2
    have ex : (xs_at F S (o, a, k) (nI i) (nI q9)) = (0, y9.1, o, a, k) := by unfold xs_at; rw [if_neg (by rw [ebi]; exact fun z => z.elim (fun z => by cases z) hnn), eci, if_neg (by rw [hoi]; decide), if_neg hk6, ecq, if_neg (fun z => z hl0), if_pos hk9, show qMk ((o, a, k) : qWo).1.2.2.2.2.2.2.1 = mk from hmk, hva]
    exact q_lret C hP hS ⟨by rw [ex], by rw [ex], by rw [ex]; exact hz.po hf⟩ (by omega) dX6_at_110
