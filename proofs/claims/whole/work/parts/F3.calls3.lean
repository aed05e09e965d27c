theorem dX6_near_17 : decode cX6_near 17 = .ok (.getfield 101, 3) := by decide +kernel
theorem dX6_near_20 : decode cX6_near 20 = .ok (.lload_n 2, 1) := by decide +kernel
theorem dX6_near_21 : decode cX6_near 21 = .ok (.iload 4, 2) := by decide +kernel
theorem dX6_near_23 : decode cX6_near 23 = .ok (.invokestatic 214, 3) := by decide +kernel
theorem dX6_near_26 : decode cX6_near 26 = .ok (.invokestatic 136, 3) := by decide +kernel
theorem dX6_near_29 : decode cX6_near 29 = .ok (.getfield 162, 3) := by decide +kernel
theorem dX6_near_32 : decode cX6_near 32 = .ok (.lreturn, 1) := by decide +kernel
set_option maxRecDepth 100000 in
set_option maxHeartbeats 4000000 in
theorem z_near (l : Launch) (D : va_G) (cy : Nat → ClassId) (N0 : Nat) (h : qH) (x : Nat) (mk : Int32) (sl bl kr vr Ed : Nat) (fs : Nat → Option Nat) (bd br eb : Nat → Nat) (Im : Nat → Prop) (Xb : Nat → Nat → Prop) (g : Nat → Nat) (S : Nat → qSlot) (W : qWo) (Bd sk Rn : Nat) (dp : Nat → Nat) (p0 : Int32) (p1 : Int64) (p2 : Int32) (hz : zQ cy h x mk sl bl kr vr Ed fs bd br eb Im Xb g S W) (hI : ∀ i, i < 28 → qOk (S i).1 (S i).2.1) (hLn : ∀ i, i < 28 → (S i).2.1.length ≤ 1000) (hV : qWv Bd sk Rn dp W) : qC l D cy N0 yX6_near cX6_near 5 (some .long) 12 200 12 60 [.ref x, .int p0, .long p1, .int p2] h (fun v h' => (xs_near S p0 p1 p2).1 = 0 ∧ v = some (.long (xs_near S p0 p1 p2).2) ∧ zPo cy h x mk sl bl kr vr Ed bd br Im Xb S W h') (fun E h' => zXc [(1, "java/lang/IllegalArgumentException"), (2, "java/lang/IllegalStateException"), (3, "java/util/NoSuchElementException")] E (xs_near S p0 p1 p2).1 ∧ zPo cy h x mk sl bl kr vr Ed bd br Im Xb S W h') := by
  refine q_ofW (by decide) (by exact Nat.le_of_ble_eq_true rfl) ?_
  intro p e s m below meth c ls C hP hl
  have hx := C.1
  have hb := C.2.1
  have hS : va_S (qA N0) s.heap s.heap [] := va_S.rf
  have hl : lv_has ls 5 [(0, .ref x), (1, .int p0), (2, .long p1), (4, .int p2)] := hl
  have hf : zFr h h x sl kr vr bd br Xb := zFr.rf
  refine lv_iload_n hx hb dX6_near_0 rfl (lv_at hl 1 rfl) ?_
  refine q_callS (rest := []) C (c_X6_needSlot l D cy N0 h p0) kX6_needSlot g104 g105 hP hS (by first | decide | omega) hl.1 rfl (by decide) (by first | decide | omega) dX6_near_1 (fun q ce E h' H1 locs1 hE hP hS hc1 hc2 hc3 => by obtain ⟨rfl, rfl, hn9⟩ := hE; have eb9 := bSl_f hn9; exact q_out C hP hS hc1 hc2 hc3 (by have ex : (xs_near S p0 p1 p2) = (1, 0) := (by unfold xs_near; rw [if_pos (Or.inl eb9)]); exact ⟨by rw [ex]; exact .head _, by exact hz.po hf⟩) (by omega)) (fun v hh1 H locs hq hP hS => ?_)
  obtain ⟨rfl, rfl, sl9⟩ := hq
  obtain ⟨i, hi, rfl⟩ := sl9.of
  have ebi : bSl (nI i) = true := bSl_t sl9
  have eci : (nI i).toNatClampNeg = i := nI_clamp (by omega)
  refine lv_iload hx hb dX6_near_4 (lv_at hl 3 rfl) ?_
  refine lv_iconst (v := nI 3) hx hb dX6_near_6 (by decide) ?_
  refine q_callS (rest := []) C (c_X6_needWithin l D cy N0 h p2 3) kX6_needWithin g107 g108 hP hS (by first | decide | omega) hl.1 rfl (by decide) (by first | decide | omega) dX6_near_7 (fun q ce E h' H1 locs1 hE hP hS hc1 hc2 hc3 => by obtain ⟨rfl, rfl, hn9⟩ := hE; exact q_out C hP hS hc1 hc2 hc3 (by have ex : (xs_near S (nI i) p1 p2) = (1, 0) := (by unfold xs_near; rw [if_pos (Or.inr (bIn_f (fun z => hn9.elim z.1 (fun y => y z.2))))]); exact ⟨by rw [ex]; exact .head _, by exact hz.po hf⟩) (by omega)) (fun v hh2 H locs hq hP hS => ?_)
  obtain ⟨rfl, rfl, gw1, gw2⟩ := hq
  refine lv_aload_n hx hb dX6_near_10 rfl (lv_at hl 0 rfl) ?_
  refine lv_iload_n hx hb dX6_near_11 rfl (lv_at hl 1 rfl) ?_
  refine lv_bipush (v := nI 8) hx hb dX6_near_12 (by decide) ?_
  refine q_callV (rest := []) C (z_heldIn l D N0 (nI i) 8 hz hI) kX6_heldIn g243 g245 rfl gp2 g1 hP hS hz.1.1 (by first | decide | omega) hl.1 rfl (by decide) (by first | decide | omega) dX6_near_14 (fun q ce E h' H1 locs1 hE hP hS hc1 hc2 hc3 => hE.2.elim (fun y => by obtain ⟨rfl, -⟩ := hE; obtain ⟨rfl, hn9⟩ := y; exact absurd hn9 (by rw [ebi]; decide)) (fun y => by obtain ⟨rfl, -⟩ := hE; obtain ⟨rfl, i8, hi8, e8, ho8⟩ := y; obtain rfl : i = i8 := nI_inj32 (by omega) (by omega) e8; exact q_out C hP hS hc1 hc2 hc3 (by have ex : (xs_near S (nI i) p1 p2) = (2, 0) := (by have ebi : bSl (nI i) = true := bSl_t (qSl.nI hi8); have eci : (nI i).toNatClampNeg = i := nI_clamp (by omega); have hoi := ho8; unfold xs_near; rw [if_neg (by rw [ebi, bIn_t ⟨gw1, gw2⟩]; decide), eci, if_pos hoi]); exact ⟨by rw [ex]; exact .tail _ (.head _), by exact hz.po hf⟩) (by omega))) (fun v hh3 H locs hq hP hS => ?_)
  obtain ⟨rfl, i9, ai, hi9, ei9, hfsi, rfl, hoi, x1i, x2i, x3i, x4i, dvi, fai, zvi⟩ := hq
  obtain rfl : i = i9 := nI_inj32 (by omega) (by omega) ei9
  have hk3 : (S i).1 = 3 := bHo_8 (hI i (by omega)).2.2 hoi
  obtain ⟨rfl, rfl, rfl, rfl, n9, hb9⟩ := zvi.tree hk3
  have hl9 := hLn i (by omega)
  have hn14 : n9 ≤ 14 := hb9.h14 (by omega)
  have hsoi : qSo (S i).2.1 := qSo_of ((hI i (by omega)).1 (Or.inl hk3)) ((hI i (by omega)).2.1 (Or.inr (Or.inr hk3)))
  obtain ⟨q9, hq9, rfl⟩ := nI_of2 (M := 3) (n := 3) (by decide) gw1 gw2
  have ecq : (nI q9).toNatClampNeg = q9 := nI_clamp (by omega)
  refine q_get C hP fai rfl inX2 1 (by decide) g195 rfl dX6_near_17 ?_
  refine lv_lload_n hx hb dX6_near_20 rfl (lv_at hl 2 rfl) ?_
  refine lv_iload hx hb dX6_near_21 (lv_at hl 3 rfl) ?_
  refine q_callS (rest := []) C (c_X0_nearest l D cy N0 h x1i n9 (S i).2.1 p1 q9 hb9 (by omega) hsoi (by omega)) kX0_nearest g821 g822 hP hS (by first | decide | omega) hl.1 rfl (by decide) (by first | decide | omega) dX6_near_23 (fun q ce E h' H1 locs1 hE => hE.elim) (fun v hh4 H locs hq hP hS => ?_)
  obtain ⟨r9, rfl, rfl, hnd⟩ := hq
  rcases hnd with ⟨rfl, hbe⟩ | ⟨ab, k8, v8, y1, y2, y3, y4, rfl, hbe, fab⟩
  · refine q_callS (rest := []) C (c_X6_needBranch l D cy N0 h none) kX6_needBranch g595 g596 hP hS (by first | decide | omega) hl.1 rfl (by decide) (by first | decide | omega) dX6_near_26 (fun q ce E h' H1 locs1 hE hP hS hc1 hc2 hc3 => by obtain ⟨rfl, rfl, hn9⟩ := hE; exact q_out C hP hS hc1 hc2 hc3 (by have ex : (xs_near S (nI i) p1 (nI q9)) = (3, 0) := (by unfold xs_near; rw [if_neg (by rw [ebi, bIn_t ⟨gw1, gw2⟩]; decide), eci, if_neg (by rw [hoi]; decide), ecq, if_pos hbe]); exact ⟨by rw [ex]; exact .tail _ (.tail _ (.head _)), by exact hz.po hf⟩) (by omega)) (fun v hh5 H locs hq hP hS => ?_)
    obtain ⟨a8, e8, rfl, rfl⟩ := hq
    cases e8
  · refine q_callS (rest := []) C (c_X6_needBranch l D cy N0 h (some ab)) kX6_needBranch g595 g596 hP hS (by first | decide | omega) hl.1 rfl (by decide) (by first | decide | omega) dX6_near_26 (fun q ce E h' H1 locs1 hE hP hS hc1 hc2 hc3 => absurd hE.2.2 (fun z => by cases z)) (fun v hh6 H locs hq hP hS => ?_)
    obtain ⟨a8, e8, rfl, rfl⟩ := hq
    cases e8
    refine q_get C hP fab rfl inX0 1 (by decide) g493 rfl dX6_near_29 ?_
    have ex : (xs_near S (nI i) p1 (nI q9)) = (0, k8) := by unfold xs_near; rw [if_neg (by rw [ebi, bIn_t ⟨gw1, gw2⟩]; decide), eci, if_neg (by rw [hoi]; decide), ecq, hbe, if_neg (fun z => by cases z)]; rfl
    exact q_lret C hP hS ⟨by rw [ex], by first | (rw [ex]; done) | (rw [ex]), hz.po hf⟩ (by omega) dX6_near_32
theorem bHo_112 {kd : Int32} (h : kd ∈ [(-1 : Int32), 0, 1, 2, 3, 4, 5, 6]) (e : bHo kd 112 = true) : kd = nI 4 ∨ kd = nI 5 ∨ kd = nI 6 := by
  simp only [List.mem_cons, List.not_mem_nil, or_false] at h
  rcases h with rfl | rfl | rfl | rfl | rfl | rfl | rfl | rfl <;> revert e <;> decide
theorem qPerm_min {v : Int64} {M : List Int64} {L : qKV} (hp : (v :: M).Perm (L.map Prod.fst)) (hm : ∀ y ∈ M, v.toInt ≤ y.toInt) (hu : qUp L) : (L.getD 0 (0, 0)).1 = v := by
  cases L with
  | nil => exact absurd hp.length_eq (by simp)
  | cons p L =>
    show p.1 = v
    have h1 : p.1 ∈ v :: M := hp.symm.subset (List.mem_cons_self ..)
    have h2 : v ∈ (p :: L).map Prod.fst := hp.subset (List.mem_cons_self ..)
    have a1 : v.toInt ≤ p.1.toInt := by
      rcases List.mem_cons.mp h1 with e | e
      · rw [e]; exact Int.le_refl _
      · exact hm _ e
    have a2 : p.1.toInt ≤ v.toInt := by
      obtain ⟨q, hq, e⟩ := List.mem_map.mp h2
      rcases List.mem_cons.mp hq with y | y
      · rw [← e, y]; exact Int.le_refl _
      · rw [← e]; exact (List.pairwise_cons.mp hu).1 q y
    exact Int64.toInt_inj.mp (by omega)
theorem dX6_front_7 : decode cX6_front 7 = .ok (.astore_n 2, 1) := by decide +kernel
theorem dX6_front_8 : decode cX6_front 8 = .ok (.aload_n 2, 1) := by decide +kernel
theorem dX6_front_9 : decode cX6_front 9 = .ok (.getfield 63, 3) := by decide +kernel
theorem dX6_front_12 : decode cX6_front 12 = .ok (.lookupswitch 50 #[(5, 39), (6, 28)], 28) := by decide +kernel
theorem dX6_front_40 : decode cX6_front 40 = .ok (.aload_n 2, 1) := by decide +kernel
theorem dX6_front_41 : decode cX6_front 41 = .ok (.getfield 115, 3) := by decide +kernel
theorem dX6_front_44 : decode cX6_front 44 = .ok (.invokestatic 155, 3) := by decide +kernel
theorem dX6_front_47 : decode cX6_front 47 = .ok (.getfield 159, 3) := by decide +kernel
theorem dX6_front_50 : decode cX6_front 50 = .ok (.lreturn, 1) := by decide +kernel
theorem dX6_front_51 : decode cX6_front 51 = .ok (.aload_n 2, 1) := by decide +kernel
theorem dX6_front_52 : decode cX6_front 52 = .ok (.getfield 84, 3) := by decide +kernel
theorem dX6_front_55 : decode cX6_front 55 = .ok (.invokestatic 182, 3) := by decide +kernel
theorem dX6_front_58 : decode cX6_front 58 = .ok (.getfield 192, 3) := by decide +kernel
theorem dX6_front_61 : decode cX6_front 61 = .ok (.lreturn, 1) := by decide +kernel
theorem dX6_front_62 : decode cX6_front 62 = .ok (.aload_n 2, 1) := by decide +kernel
theorem dX6_front_63 : decode cX6_front 63 = .ok (.getfield 101, 3) := by decide +kernel
theorem dX6_front_66 : decode cX6_front 66 = .ok (.iconst 0, 1) := by decide +kernel
theorem dX6_front_67 : decode cX6_front 67 = .ok (.invokestatic 132, 3) := by decide +kernel
theorem dX6_front_70 : decode cX6_front 70 = .ok (.invokestatic 136, 3) := by decide +kernel
theorem dX6_front_73 : decode cX6_front 73 = .ok (.getfield 140, 3) := by decide +kernel
theorem dX6_front_76 : decode cX6_front 76 = .ok (.lreturn, 1) := by decide +kernel
set_option maxRecDepth 100000 in
set_option maxHeartbeats 4000000 in
theorem z_front (l : Launch) (D : va_G) (cy : Nat → ClassId) (N0 : Nat) (h : qH) (x : Nat) (mk : Int32) (sl bl kr vr Ed : Nat) (fs : Nat → Option Nat) (bd br eb : Nat → Nat) (Im : Nat → Prop) (Xb : Nat → Nat → Prop) (g : Nat → Nat) (S : Nat → qSlot) (W : qWo) (Bd sk Rn : Nat) (dp : Nat → Nat) (dc : Nat) (p0 : Int32) (hz : zQ cy h x mk sl bl kr vr Ed fs bd br eb Im Xb g S W) (hI : ∀ i, i < 28 → qOk (S i).1 (S i).2.1) (hLn : ∀ i, i < 28 → (S i).2.1.length ≤ 1000) (hV : qWv Bd (sk + 1) Rn dp W) (hSt : ∀ i, i < 24 → (S i).1 = 6 → (S i).2.2.1 < W.2.1.1 ∧ dp (S i).2.2.1 ≤ dc) : qC l D cy N0 yX6_front cX6_front 3 (some .long) 12 200 12 60 [.ref x, .int p0] h (fun v h' => (xs_front S W.2.1 p0).1 = 0 ∧ v = some (.long (xs_front S W.2.1 p0).2) ∧ zPo cy h x mk sl bl kr vr Ed bd br Im Xb S W h') (fun E h' => zXc [(1, "java/lang/IllegalArgumentException"), (2, "java/lang/IllegalStateException"), (3, "java/util/NoSuchElementException")] E (xs_front S W.2.1 p0).1 ∧ zPo cy h x mk sl bl kr vr Ed bd br Im Xb S W h') := by
  refine q_ofW (by decide) (by exact Nat.le_of_ble_eq_true rfl) ?_
  intro p e s m below meth c ls C hP hl
  have hx := C.1
  have hb := C.2.1
  have hS : va_S (qA N0) s.heap s.heap [] := va_S.rf
  have hl : lv_has ls 3 [(0, .ref x), (1, .int p0)] := hl
  have hf : zFr h h x sl kr vr bd br Xb := zFr.rf
  refine lv_aload_n hx hb dX6_front_0 rfl (lv_at hl 0 rfl) ?_
  refine lv_iload_n hx hb dX6_front_1 rfl (lv_at hl 1 rfl) ?_
  refine lv_bipush (v := nI 112) hx hb dX6_front_2 (by decide) ?_
  refine q_callV (rest := []) C (z_heldIn l D N0 p0 112 hz hI) kX6_heldIn g243 g245 rfl gp2 g1 hP hS hz.1.1 (by first | decide | omega) hl.1 rfl (by decide) (by first | decide | omega) dX6_front_4 (fun q ce E h' H1 locs1 hE hP hS hc1 hc2 hc3 => hE.2.elim (fun y => by obtain ⟨rfl, -⟩ := hE; obtain ⟨rfl, hn9⟩ := y; exact q_out C hP hS hc1 hc2 hc3 (by have ex : (xs_front S W.2.1 p0) = (1, 0) := (by have ebi := hn9; unfold xs_front; rw [if_pos ebi]); exact ⟨by rw [ex]; exact .head _, by exact hz.po hf⟩) (by omega)) (fun y => by obtain ⟨rfl, -⟩ := hE; obtain ⟨rfl, i, hi8, rfl, ho8⟩ := y; exact q_out C hP hS hc1 hc2 hc3 (by have ex : (xs_front S W.2.1 (nI i)) = (2, 0) := (by have ebi : bSl (nI i) = true := bSl_t (qSl.nI hi8); have eci : (nI i).toNatClampNeg = i := nI_clamp (by omega); have hoi := ho8; unfold xs_front; rw [if_neg (by rw [ebi]; decide), eci, if_pos hoi]); exact ⟨by rw [ex]; exact .tail _ (.head _), by exact hz.po hf⟩) (by omega))) (fun v hh1 H locs hq hP hS => ?_)
  obtain ⟨rfl, i, ai, hi, rfl, hfsi, rfl, hoi, x1i, x2i, x3i, x4i, dvi, fai, zvi⟩ := hq
  have ebi : bSl (nI i) = true := bSl_t (qSl.nI hi)
  have eci : (nI i).toNatClampNeg = i := nI_clamp (by omega)
  rcases bHo_112 (hI i (by omega)).2.2 hoi with hk9 | hk9 | hk9
  · have hk6 : ¬ (S i).1 = 6 := fun z => absurd (hk9.symm.trans z) (by decide)
    rw [hk9] at fai
    obtain ⟨rfl, rfl, rfl, rfl, n9, hb9⟩ := zvi.seq (Or.inr hk9)
    have hlm : ((S i).2.1.map (fun p => ((0 : Int64), p.1))).length = (S i).2.1.length := List.length_map ..
    have hl9 := hLn i (by omega)
    have hn14 : n9 ≤ 14 := hb9.h14 (by omega)
    refine lv_astore_n (lv' := [(2, .ref ai), (0, .ref x), (1, .int (nI i))]) hx hb dX6_front_7 rfl hl (by decide) rfl (fun ls hl => ?_)
    refine lv_aload_n hx hb dX6_front_8 rfl (lv_at hl 0 rfl) ?_
    refine q_get C hP fai rfl inX2 0 (by decide) g192 rfl dX6_front_9 ?_
    refine lv_lookup (tgt := 62) (off := 50) hx hb dX6_front_12 (by decide +kernel) (by decide +kernel) (by decide) ?_
    refine lv_aload_n hx hb dX6_front_62 rfl (lv_at hl 0 rfl) ?_
    refine q_get C hP fai rfl inX2 1 (by decide) g195 rfl dX6_front_63 ?_
    refine lv_iconst (v := nI 0) hx hb dX6_front_66 (by decide) ?_
    refine q_callS (rest := []) C (c_X0_branchAt l D cy N0 h x1i n9 ((S i).2.1.map (fun p => ((0 : Int64), p.1))) (nI 0) hb9 (by omega)) kX0_branchAt g591 g592 hP hS (by first | decide | omega) hl.1 rfl (by decide) (by first | decide | omega) dX6_front_67 (fun q ce E h' H1 locs1 hE => hE.elim) (fun v hh2 H locs hq hP hS => ?_)
    obtain ⟨r9, rfl, rfl, hat⟩ := hq
    rcases hat with ⟨jj, ab, k9, v9, y1, y2, y3, y4, ejj, eL9, rfl, fab⟩ | ⟨rfl, hno⟩
    · have hjl := (List.getElem?_eq_some_iff.mp eL9).1
      rw [hlm] at hjl
      obtain rfl : 0 = jj := nI_inj32 (by omega) (by omega) ejj
      have hl0 : ¬ (S i).2.1.length = 0 := by omega
      obtain ⟨p9, egL, ep9⟩ := Option.map_eq_some_iff.mp ((List.getElem?_map ..).symm.trans eL9)
      have hva : ((S i).2.1.getD 0 (0, 0)).1 = v9 := by rw [List.getD_eq_getElem?_getD, egL]; exact congrArg Prod.snd ep9
      refine q_callS (rest := []) C (c_X6_needBranch l D cy N0 h (some ab)) kX6_needBranch g595 g596 hP hS (by first | decide | omega) hl.1 rfl (by decide) (by first | decide | omega) dX6_front_70 (fun q ce E h' H1 locs1 hE hP hS hc1 hc2 hc3 => absurd hE.2.2 (fun z => by cases z)) (fun v hh3 H locs hq hP hS => ?_)
      obtain ⟨a8, e8, rfl, rfl⟩ := hq
      cases e8
      refine q_get C hP fab rfl inX0 2 (by decide) g496 rfl dX6_front_73 ?_
      have ex : (xs_front S W.2.1 (nI i)) = (0, v9) := by unfold xs_front; rw [if_neg (by rw [ebi]; decide), eci, if_neg (by rw [hoi]; decide), if_neg hk6, if_neg hl0]; exact congrArg (fun z => ((0 : Int32), z)) hva
      exact q_lret C hP hS ⟨by rw [ex], by first | (rw [ex]; done) | (rw [ex]), hz.po hf⟩ (by omega) dX6_front_76
    · have hl0 : (S i).2.1.length = 0 := hno.elim (fun z => absurd z (by decide)) (fun ⟨j9, e9, h1, h2⟩ => by have := nI_inj32 (a := 0) (b := j9) (by omega) (by omega) e9; omega)
      refine q_callS (rest := []) C (c_X6_needBranch l D cy N0 h none) kX6_needBranch g595 g596 hP hS (by first | decide | omega) hl.1 rfl (by decide) (by first | decide | omega) dX6_front_70 (fun q ce E h' H1 locs1 hE hP hS hc1 hc2 hc3 => by obtain ⟨rfl, rfl, hn9⟩ := hE; exact q_out C hP hS hc1 hc2 hc3 (by have ex : (xs_front S W.2.1 (nI i)) = (3, 0) := (by unfold xs_front; rw [if_neg (by rw [ebi]; decide), eci, if_neg (by rw [hoi]; decide), if_neg hk6, if_pos hl0]); exact ⟨by rw [ex]; exact .tail _ (.tail _ (.head _)), by exact hz.po hf⟩) (by omega)) (fun v hh4 H locs hq hP hS => ?_)
      obtain ⟨a8, e8, rfl, rfl⟩ := hq
      cases e8
  · have hk6 : ¬ (S i).1 = 6 := fun z => absurd (hk9.symm.trans z) (by decide)
    rw [hk9] at fai
    obtain ⟨rfl, rfl, rfl, rfl, n9, M9, hp9, hpm⟩ := zvi.heap hk9
    rcases hp9.inv with ⟨-, rfl, rfl⟩ | ⟨ap, v9, l9, r9, t9, u9, A9, B9, rfl, fap, -, -, rfl, -, hmin⟩
    · have hl0 : (S i).2.1.length = 0 := by have := hpm.length_eq; simpa using this.symm
      refine lv_astore_n (lv' := [(2, .ref ai), (0, .ref x), (1, .int (nI i))]) hx hb dX6_front_7 rfl hl (by decide) rfl (fun ls hl => ?_)
      refine lv_aload_n hx hb dX6_front_8 rfl (lv_at hl 0 rfl) ?_
      refine q_get C hP fai rfl inX2 0 (by decide) g192 rfl dX6_front_9 ?_
      refine lv_lookup (tgt := 51) (off := 39) hx hb dX6_front_12 (by decide +kernel) (by decide +kernel) (by decide) ?_
      refine lv_aload_n hx hb dX6_front_51 rfl (lv_at hl 0 rfl) ?_
      refine q_get C hP fai rfl inX2 3 (by decide) g200 rfl dX6_front_52 ?_
      refine q_callS (rest := []) C (c_X6_needPile l D cy N0 h none) kX6_needPile g739 g740 hP hS (by first | decide | omega) hl.1 rfl (by decide) (by first | decide | omega) dX6_front_55 (fun q ce E h' H1 locs1 hE hP hS hc1 hc2 hc3 => by obtain ⟨rfl, rfl, hn9⟩ := hE; exact q_out C hP hS hc1 hc2 hc3 (by have ex : (xs_front S W.2.1 (nI i)) = (3, 0) := (by unfold xs_front; rw [if_neg (by rw [ebi]; decide), eci, if_neg (by rw [hoi]; decide), if_neg hk6, if_pos hl0]); exact ⟨by rw [ex]; exact .tail _ (.tail _ (.head _)), by exact hz.po hf⟩) (by omega)) (fun v hh5 H locs hq hP hS => ?_)
      obtain ⟨a8, e8, rfl, rfl⟩ := hq
      cases e8
    · have hl0 : ¬ (S i).2.1.length = 0 := fun z => by have := hpm.length_eq; rw [List.length_map, z] at this; cases this
      have hva : ((S i).2.1.getD 0 (0, 0)).1 = v9 := qPerm_min hpm hmin ((hI i (by omega)).1 (Or.inr hk9))
      refine lv_astore_n (lv' := [(2, .ref ai), (0, .ref x), (1, .int (nI i))]) hx hb dX6_front_7 rfl hl (by decide) rfl (fun ls hl => ?_)
      refine lv_aload_n hx hb dX6_front_8 rfl (lv_at hl 0 rfl) ?_
      refine q_get C hP fai rfl inX2 0 (by decide) g192 rfl dX6_front_9 ?_
      refine lv_lookup (tgt := 51) (off := 39) hx hb dX6_front_12 (by decide +kernel) (by decide +kernel) (by decide) ?_
      refine lv_aload_n hx hb dX6_front_51 rfl (lv_at hl 0 rfl) ?_
      refine q_get C hP fai rfl inX2 3 (by decide) g200 rfl dX6_front_52 ?_
      refine q_callS (rest := []) C (c_X6_needPile l D cy N0 h (some ap)) kX6_needPile g739 g740 hP hS (by first | decide | omega) hl.1 rfl (by decide) (by first | decide | omega) dX6_front_55 (fun q ce E h' H1 locs1 hE hP hS hc1 hc2 hc3 => absurd hE.2.2 (fun z => by cases z)) (fun v hh6 H locs hq hP hS => ?_)
      obtain ⟨a8, e8, rfl, rfl⟩ := hq
      cases e8
      refine q_get C hP fap rfl inX4 0 (by decide) g448 rfl dX6_front_58 ?_
      have ex : (xs_front S W.2.1 (nI i)) = (0, v9) := by unfold xs_front; rw [if_neg (by rw [ebi]; decide), eci, if_neg (by rw [hoi]; decide), if_neg hk6, if_neg hl0]; exact congrArg (fun z => ((0 : Int32), z)) hva
      exact q_lret C hP hS ⟨by rw [ex], by first | (rw [ex]; done) | (rw [ex]), hz.po hf⟩ (by omega) dX6_front_61
  · rw [hk9] at fai
    obtain ⟨rfl, rfl, rfl, rfl, rfl⟩ := zvi.strm hk9
    by_cases hs0 : (S i).2.2.1 = 0
    · rw [hs0, zO_z] at fai
      refine lv_astore_n (lv' := [(2, .ref ai), (0, .ref x), (1, .int (nI i))]) hx hb dX6_front_7 rfl hl (by decide) rfl (fun ls hl => ?_)
      refine lv_aload_n hx hb dX6_front_8 rfl (lv_at hl 0 rfl) ?_
      refine q_get C hP fai rfl inX2 0 (by decide) g192 rfl dX6_front_9 ?_
      refine lv_lookup (tgt := 40) (off := 28) hx hb dX6_front_12 (by decide +kernel) (by decide +kernel) (by decide) ?_
      refine lv_aload_n hx hb dX6_front_40 rfl (lv_at hl 0 rfl) ?_
      refine q_get C hP fai rfl inX2 4 (by decide) g202 rfl dX6_front_41 ?_
      refine q_callS (rest := []) C (c_X6_needStream l D cy N0 h none) kX6_needStream g708 g709 hP hS (by first | decide | omega) hl.1 rfl (by decide) (by first | decide | omega) dX6_front_44 (fun q ce E h' H1 locs1 hE hP hS hc1 hc2 hc3 => by obtain ⟨rfl, rfl, hn9⟩ := hE; exact q_out C hP hS hc1 hc2 hc3 (by have ex : (xs_front S W.2.1 (nI i)) = (3, 0) := (by unfold xs_front; rw [if_neg (by rw [ebi]; decide), eci, if_neg (by rw [hoi]; decide), if_pos (show (S i).1 = 6 from hk9), if_pos hs0]); exact ⟨by rw [ex]; exact .tail _ (.tail _ (.head _)), by exact hz.po hf⟩) (by omega)) (fun v hh7 H locs hq hP hS => ?_)
      obtain ⟨a8, e8, rfl, rfl⟩ := hq
      cases e8
    · rw [zO_s hs0] at fai
      obtain ⟨way, cod, cc0, num, src, beh, row, dn, rst, fgi, -⟩ := hz.1.2.1 (S i).2.2.1 (by omega) (hSt i (by omega) hk9).1
      obtain ⟨gi, egi⟩ : ∃ z, g (S i).2.2.1 = z := ⟨_, rfl⟩
      rw [egi] at fgi fai
      refine lv_astore_n (lv' := [(2, .ref ai), (0, .ref x), (1, .int (nI i))]) hx hb dX6_front_7 rfl hl (by decide) rfl (fun ls hl => ?_)
      refine lv_aload_n hx hb dX6_front_8 rfl (lv_at hl 0 rfl) ?_
      refine q_get C hP fai rfl inX2 0 (by decide) g192 rfl dX6_front_9 ?_
      refine lv_lookup (tgt := 40) (off := 28) hx hb dX6_front_12 (by decide +kernel) (by decide +kernel) (by decide) ?_
      refine lv_aload_n hx hb dX6_front_40 rfl (lv_at hl 0 rfl) ?_
      refine q_get C hP fai rfl inX2 4 (by decide) g202 rfl dX6_front_41 ?_
      refine q_callS (rest := []) C (c_X6_needStream l D cy N0 h (some gi)) kX6_needStream g708 g709 hP hS (by first | decide | omega) hl.1 rfl (by decide) (by first | decide | omega) dX6_front_44 (fun q ce E h' H1 locs1 hE hP hS hc1 hc2 hc3 => absurd hE.2.2 (fun z => by cases z)) (fun v hh8 H locs hq hP hS => ?_)
      obtain ⟨a8, e8, rfl, rfl⟩ := hq
      cases e8
      refine q_get C hP fgi rfl inX5 0 (by decide) g536 rfl dX6_front_47 ?_
      have ex : (xs_front S W.2.1 (nI i)) = (0, (W.2.1.2.2.1 (S i).2.2.1)) := by unfold xs_front; rw [if_neg (by rw [ebi]; decide), eci, if_neg (by rw [hoi]; decide), if_pos (show (S i).1 = 6 from hk9), if_neg hs0]
      exact q_lret C hP hS ⟨by rw [ex], by first | (rw [ex]; done) | (rw [ex]), hz.po hf⟩ (by omega) dX6_front_50
