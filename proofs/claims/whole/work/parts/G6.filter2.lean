theorem bHo_69b {kd : Int32} (h : kd ∈ [(-1 : Int32), 0, 1, 2, 3, 4, 5, 6]) (e : bHo kd 69 = true) : kd = nI 0 ∨ kd = nI 2 ∨ kd = nI 6 := by
  simp only [List.mem_cons, List.not_mem_nil, or_false] at h
  rcases h with rfl | rfl | rfl | rfl | rfl | rfl | rfl | rfl <;> revert e <;> decide
theorem dX6_filter_20 : decode cX6_filter 20 = .ok (.astore 6, 2) := by decide +kernel
theorem dX6_filter_22 : decode cX6_filter 22 = .ok (.aload 6, 2) := by decide +kernel
theorem dX6_filter_24 : decode cX6_filter 24 = .ok (.getfield 63, 3) := by decide +kernel
theorem dX6_filter_27 : decode cX6_filter 27 = .ok (.bipush 6, 2) := by decide +kernel
theorem dX6_filter_29 : decode cX6_filter 29 = .ok (.if_icmp .ne 37, 3) := by decide +kernel
theorem dX6_filter_32 : decode cX6_filter 32 = .ok (.aload_n 0, 1) := by decide +kernel
theorem dX6_filter_33 : decode cX6_filter 33 = .ok (.aload 6, 2) := by decide +kernel
theorem dX6_filter_35 : decode cX6_filter 35 = .ok (.getfield 115, 3) := by decide +kernel
theorem dX6_filter_38 : decode cX6_filter 38 = .ok (.iload_n 3, 1) := by decide +kernel
theorem dX6_filter_39 : decode cX6_filter 39 = .ok (.lload 4, 2) := by decide +kernel
theorem dX6_filter_41 : decode cX6_filter 41 = .ok (.invokevirtual 289, 3) := by decide +kernel
theorem dX6_filter_44 : decode cX6_filter 44 = .ok (.astore 7, 2) := by decide +kernel
theorem dX6_filter_46 : decode cX6_filter 46 = .ok (.aload_n 0, 1) := by decide +kernel
theorem dX6_filter_47 : decode cX6_filter 47 = .ok (.iload_n 1, 1) := by decide +kernel
theorem dX6_filter_48 : decode cX6_filter 48 = .ok (.aload 7, 2) := by decide +kernel
theorem dX6_filter_50 : decode cX6_filter 50 = .ok (.aload 6, 2) := by decide +kernel
theorem dX6_filter_52 : decode cX6_filter 52 = .ok (.getfield 125, 3) := by decide +kernel
theorem dX6_filter_55 : decode cX6_filter 55 = .ok (.invokestatic 273, 3) := by decide +kernel
theorem dX6_filter_58 : decode cX6_filter 58 = .ok (.invokestatic 128, 3) := by decide +kernel
theorem dX6_filter_61 : decode cX6_filter 61 = .ok (.invokevirtual 51, 3) := by decide +kernel
theorem dX6_filter_64 : decode cX6_filter 64 = .ok (.pop, 1) := by decide +kernel
theorem dX6_filter_65 : decode cX6_filter 65 = .ok (.return_, 1) := by decide +kernel
theorem dX6_filter_66 : decode cX6_filter 66 = .ok (.aload_n 0, 1) := by decide +kernel
theorem dX6_filter_67 : decode cX6_filter 67 = .ok (.iload_n 1, 1) := by decide +kernel
theorem dX6_filter_68 : decode cX6_filter 68 = .ok (.aload 6, 2) := by decide +kernel
theorem dX6_filter_70 : decode cX6_filter 70 = .ok (.getfield 63, 3) := by decide +kernel
theorem dX6_filter_73 : decode cX6_filter 73 = .ok (.iconst 2, 1) := by decide +kernel
theorem dX6_filter_74 : decode cX6_filter 74 = .ok (.if_icmp .ne 15, 3) := by decide +kernel
theorem dX6_filter_77 : decode cX6_filter 77 = .ok (.aload_n 0, 1) := by decide +kernel
theorem dX6_filter_78 : decode cX6_filter 78 = .ok (.aload 6, 2) := by decide +kernel
theorem dX6_filter_80 : decode cX6_filter 80 = .ok (.iload_n 3, 1) := by decide +kernel
theorem dX6_filter_81 : decode cX6_filter 81 = .ok (.lload 4, 2) := by decide +kernel
theorem dX6_filter_83 : decode cX6_filter 83 = .ok (.invokevirtual 292, 3) := by decide +kernel
theorem dX6_filter_86 : decode cX6_filter 86 = .ok (.goto 12, 3) := by decide +kernel
theorem dX6_filter_89 : decode cX6_filter 89 = .ok (.aload_n 0, 1) := by decide +kernel
theorem dX6_filter_90 : decode cX6_filter 90 = .ok (.aload 6, 2) := by decide +kernel
theorem dX6_filter_92 : decode cX6_filter 92 = .ok (.iload_n 3, 1) := by decide +kernel
theorem dX6_filter_93 : decode cX6_filter 93 = .ok (.lload 4, 2) := by decide +kernel
theorem dX6_filter_95 : decode cX6_filter 95 = .ok (.invokevirtual 296, 3) := by decide +kernel
theorem dX6_filter_98 : decode cX6_filter 98 = .ok (.invokevirtual 51, 3) := by decide +kernel
theorem dX6_filter_101 : decode cX6_filter 101 = .ok (.pop, 1) := by decide +kernel
theorem dX6_filter_102 : decode cX6_filter 102 = .ok (.return_, 1) := by decide +kernel
set_option maxRecDepth 100000 in
set_option maxHeartbeats 4000000 in
theorem z_filter (l : Launch) (D : va_G) (cy : Nat → ClassId) (N0 : Nat) (h : qH) (x : Nat) (mk : Int32) (sl bl kr vr Ed : Nat) (fs : Nat → Option Nat) (bd br eb : Nat → Nat) (Im : Nat → Prop) (Xb : Nat → Nat → Prop) (g : Nat → Nat) (S : Nat → qSlot) (W : qWo) (Bd sk Rn : Nat) (dp : Nat → Nat) (dc : Nat) (d : Nat) (F : qWo → Nat → Nat × qWo) (U : Nat) (p0 p1 p2 : Int32) (p3 : Int64) (hz : zQ cy h x mk sl bl kr vr Ed fs bd br eb Im Xb g S W) (hI : ∀ i, i < 28 → qOk (S i).1 (S i).2.1) (hLn : ∀ i, i < 28 → (S i).2.1.length ≤ 1000) (hV : qWv Bd (sk + 1) Rn dp W) (hSt : ∀ i, i < 24 → (S i).1 = 6 → (S i).2.2.1 < W.2.1.1 ∧ dp (S i).2.2.1 ≤ dc) (hF : zCS l D cy N0 x mk sl bl kr vr (nI Ed) Bd Rn (xRs S) F d) (hG : qFg Bd Rn F d) (hdc : dc < d) (hDp : ∀ i, i < 24 → (S i).2.2.2 ≤ 100) (h64 : ∀ i, i < 28 → ((S i).1 = 1 ∨ (S i).1 = 2 ∨ (S i).1 = 3) → (S i).2.1.length ≤ U) (hU : U ≤ 64) (hE9 : Ed + 1 < 1000) : qC l D cy N0 yX6_filter cX6_filter 8 none (4 * d + 1020) (200 * d + 23300) (1100 + 50 * U + ((xs_filter F S W p0 p1 p2 p3).2.2.2.1.1 - W.2.1.1)) (6400 + U * rMs U 7 + 10 * ((xs_filter F S W p0 p1 p2 p3).2.2.2.1.1 - W.2.1.1)) [.ref x, .int p0, .int p1, .int p2, .long p3] h (fun v h' => (xs_filter F S W p0 p1 p2 p3).1 = 0 ∧ v = none ∧ zPo cy h x mk sl bl kr vr Ed bd br Im Xb ((xs_filter F S W p0 p1 p2 p3).2.1) ((xs_filter F S W p0 p1 p2 p3).2.2) h') (fun E h' => zXc [(1, "java/lang/IllegalArgumentException"), (2, "java/lang/IllegalStateException"), (3, "java/lang/ArithmeticException"), (4, "java/lang/IndexOutOfBoundsException")] E (xs_filter F S W p0 p1 p2 p3).1 ∧ zPo cy h x mk sl bl kr vr Ed bd br Im Xb S ((xs_filter F S W p0 p1 p2 p3).2.2) h') := by
  refine q_ofW (by decide) (by exact Nat.le_of_ble_eq_true rfl) ?_
  intro p e s m below meth c ls C hP hl
  have hx := C.1
  have hb := C.2.1
  have hS : va_S (qA N0) s.heap s.heap [] := va_S.rf
  have hl : lv_has ls 8 [(0, .ref x), (1, .int p0), (2, .int p1), (3, .int p2), (4, .long p3)] := hl
  have hf : zFr h h x sl kr vr bd br Xb := zFr.rf
  obtain ⟨o, a, k⟩ := W
  dsimp only at hSt
  have hp9 : 1 ≤ a.1 ∧ a.1 ≤ a.2.1 := hV.p
  obtain ⟨m0, hm0, hm9, -⟩ := hV.m
  dsimp only at hm0
  refine lv_iload_n hx hb dX6_filter_0 rfl (lv_at hl 1 rfl) ?_
  refine q_callS (rest := []) C (c_X6_needSlot l D cy N0 h p0) kX6_needSlot g104 g105 hP hS (by first | decide | omega) hl.1 rfl (by decide) (by first | decide | omega) dX6_filter_1 (fun q ce E h' H1 locs1 hE hP hS hc1 hc2 hc3 => by obtain ⟨rfl, rfl, hn9⟩ := hE; have eb9 := bSl_f hn9; exact q_out C hP hS hc1 hc2 hc3 (by have ex : (xs_filter F S (o, a, k) p0 p1 p2 p3) = (1, S, o, a, k) := (by unfold xs_filter; rw [if_pos (Or.inl eb9)]); exact ⟨by rw [ex]; exact .head _, by rw [ex]; exact (hz.obj rfl rfl).po hf⟩) (by omega)) (fun v hh1 H locs hq hP hS => ?_)
  obtain ⟨rfl, rfl, sl9⟩ := hq
  obtain ⟨i, hi, rfl⟩ := sl9.of
  have ebi : bSl (nI i) = true := bSl_t sl9
  have eci : (nI i).toNatClampNeg = i := nI_clamp (by omega)
  refine lv_iload_n hx hb dX6_filter_4 rfl (lv_at hl 2 rfl) ?_
  refine q_callS (rest := []) C (c_X6_needSlot l D cy N0 h p1) kX6_needSlot g104 g105 hP hS (by first | decide | omega) hl.1 rfl (by decide) (by first | decide | omega) dX6_filter_5 (fun q ce E h' H1 locs1 hE hP hS hc1 hc2 hc3 => by obtain ⟨rfl, rfl, hn9⟩ := hE; have eb9 := bSl_f hn9; exact q_out C hP hS hc1 hc2 hc3 (by have ex : (xs_filter F S (o, a, k) (nI i) p1 p2 p3) = (1, S, o, a, k) := (by unfold xs_filter; rw [if_pos (Or.inr (Or.inl eb9))]); exact ⟨by rw [ex]; exact .head _, by rw [ex]; exact (hz.obj rfl rfl).po hf⟩) (by omega)) (fun v hh2 H locs hq hP hS => ?_)
  obtain ⟨rfl, rfl, sl9⟩ := hq
  obtain ⟨j, hj, rfl⟩ := sl9.of
  have ebj : bSl (nI j) = true := bSl_t sl9
  have ecj : (nI j).toNatClampNeg = j := nI_clamp (by omega)
  refine lv_iload_n hx hb dX6_filter_8 rfl (lv_at hl 3 rfl) ?_
  refine lv_iconst (v := nI 4) hx hb dX6_filter_9 (by decide) ?_
  refine q_callS (rest := []) C (c_X6_needWithin l D cy N0 h p2 4) kX6_needWithin g107 g108 hP hS (by first | decide | omega) hl.1 rfl (by decide) (by first | decide | omega) dX6_filter_10 (fun q ce E h' H1 locs1 hE hP hS hc1 hc2 hc3 => by obtain ⟨rfl, rfl, hn9⟩ := hE; exact q_out C hP hS hc1 hc2 hc3 (by have ex : (xs_filter F S (o, a, k) (nI i) (nI j) p2 p3) = (1, S, o, a, k) := (by unfold xs_filter; rw [if_pos (Or.inr (Or.inr (hn9.elim Or.inl (fun z => zltN (m := 4) (by decide) z))))]); exact ⟨by rw [ex]; exact .head _, by rw [ex]; exact (hz.obj rfl rfl).po hf⟩) (by omega)) (fun v hh3 H locs hq hP hS => ?_)
  obtain ⟨rfl, rfl, gw1, gw2⟩ := hq
  obtain ⟨q8, hq8, rfl⟩ := nI_of2 (M := 4) (n := 4) (by decide) gw1 gw2
  have ecq : (nI q8).toNatClampNeg = q8 := nI_clamp (by omega)
  refine lv_aload_n hx hb dX6_filter_13 rfl (lv_at hl 0 rfl) ?_
  refine lv_iload_n hx hb dX6_filter_14 rfl (lv_at hl 2 rfl) ?_
  refine lv_bipush (v := nI 69) hx hb dX6_filter_15 (by decide) ?_
  refine q_callV (rest := []) C (z_heldIn l D N0 (nI j) 69 hz hI) kX6_heldIn g243 g245 rfl gp2 g1 hP hS hz.1.1 (by first | decide | omega) hl.1 rfl (by decide) (by first | decide | omega) dX6_filter_17 (fun q ce E h' H1 locs1 hE hP hS hc1 hc2 hc3 => hE.2.elim (fun y => by obtain ⟨rfl, -⟩ := hE; obtain ⟨rfl, hn9⟩ := y; exact absurd hn9 (by rw [ebj]; decide)) (fun y => by obtain ⟨rfl, -⟩ := hE; obtain ⟨rfl, i8, hi8, e8, ho8⟩ := y; obtain rfl : j = i8 := nI_inj32 (by omega) (by omega) e8; exact q_out C hP hS hc1 hc2 hc3 (by have ex : (xs_filter F S (o, a, k) (nI i) (nI j) (nI q8) p3) = (2, S, o, a, k) := (by have ebj : bSl (nI j) = true := bSl_t (qSl.nI hi8); have ecj : (nI j).toNatClampNeg = j := nI_clamp (by omega); have hoj := ho8; unfold xs_filter; rw [if_neg (by rw [ebi, ebj, ecq]; exact fun z => z.elim (fun z => by cases z) (fun z => z.elim (fun z => by cases z) (fun z => z.elim gw1 (fun z => by omega)))), ecj, if_pos hoj]); exact ⟨by rw [ex]; exact .tail _ (.head _), by rw [ex]; exact (hz.obj rfl rfl).po hf⟩) (by omega))) (fun v hh4 H locs hq hP hS => ?_)
  obtain ⟨rfl, j9, aj, hj9, ej9, hfsj, rfl, hoj, x1j, x2j, x3j, x4j, dvj, faj, zvj⟩ := hq
  obtain rfl : j = j9 := nI_inj32 (by omega) (by omega) ej9
  rcases bHo_69b (hI j (by omega)).2.2 hoj with hk9 | hk9 | hk9
  · have faj0 := faj
    rw [hk9] at faj
    have hk6 : ¬ (S j).1 = 6 := fun z => absurd (hk9.symm.trans z) (by decide)
    have ham : zAm (S j) = (S j).2.1.length := zAm_n hk6
    have hl9 := hLn j (by omega)
    refine lv_astore (lv' := [(6, .ref aj), (0, .ref x), (1, .int (nI i)), (2, .int (nI j)), (3, .int (nI q8)), (4, .long p3)]) hx hb dX6_filter_20 hl (by decide) rfl (fun ls hl => ?_)
    refine lv_aload hx hb dX6_filter_22 (lv_at hl 0 rfl) ?_
    refine q_get C hP faj rfl inX2 0 (by decide) g192 rfl dX6_filter_24 ?_
    refine lv_bipush (v := nI 6) hx hb dX6_filter_27 (by decide) ?_
    refine lv_icmp_ne (tgt := 66) hx hb dX6_filter_29 (by decide) (fun c29 => ?_) (fun c29 => ?_)
    · replace c29 : ¬ 0 = 6 := fun zq => c29 ((nI_eq (a := 0) (b := 6) (by omega) (by omega)).mpr zq)
      refine lv_aload_n hx hb dX6_filter_66 rfl (lv_at hl 1 rfl) ?_
      refine lv_iload_n hx hb dX6_filter_67 rfl (lv_at hl 2 rfl) ?_
      refine lv_aload hx hb dX6_filter_68 (lv_at hl 0 rfl) ?_
      refine q_get C hP faj rfl inX2 0 (by decide) g192 rfl dX6_filter_70 ?_
      refine lv_iconst (v := nI 2) hx hb dX6_filter_73 (by decide) ?_
      refine lv_icmp_ne (tgt := 89) hx hb dX6_filter_74 (by decide) (fun c74 => ?_) (fun c74 => ?_)
      · replace c74 : ¬ 0 = 2 := fun zq => c74 ((nI_eq (a := 0) (b := 2) (by omega) (by omega)).mpr zq)
        refine lv_aload_n hx hb dX6_filter_89 rfl (lv_at hl 1 rfl) ?_
        refine lv_aload hx hb dX6_filter_90 (lv_at hl 0 rfl) ?_
        refine lv_iload_n hx hb dX6_filter_92 rfl (lv_at hl 4 rfl) ?_
        refine lv_lload hx hb dX6_filter_93 (lv_at hl 5 rfl) ?_
        refine q_callV (rest := [.int (nI i), .ref x]) C (z_siftedSequence l D cy N0 h x mk sl bl kr vr Ed fs bd br eb Im Xb g S Bd (sk + 1) Rn dp o a k m0 j aj x1j x2j x3j x4j dvj q8 p3 hz hI hLn hV hm0 hm9 hj faj0 zvj hq8 hk9) kX6_siftedSequence g958 g960 rfl gp28 g1 hP hS hz.1.1 (by first | decide | omega) hl.1 rfl (by simp [q_catrf, q_cati, q_catl, q_cata, q_catn]) (by first | decide | omega) dX6_filter_95 (fun q ce E h' H1 locs1 hE hP hS hc1 hc2 hc3 => by obtain ⟨hE1, hz, hf⟩ := hE; exact hE1.elim (fun y => by obtain ⟨rfl, hno9⟩ := y; exact q_out C hP hS hc1 hc2 hc3 (by have ex : (xs_filter F S (o, a, k) (nI i) (nI j) (nI q8) p3) = (3, S, oFa o 1, a, k) := (by unfold xs_filter; rw [if_neg (by rw [ebi, ebj, ecq]; exact fun z => z.elim (fun z => by cases z) (fun z => z.elim (fun z => by cases z) (fun z => z.elim gw1 (fun z => by omega)))), ecj, if_neg (by rw [hoj]; decide), eci, ecq]; unfold xr_filter; rw [if_neg hk6, if_pos hno9]); exact ⟨by rw [ex]; exact .tail _ (.tail _ (.head _)), by rw [ex]; exact (hz.obj rfl rfl).po hf⟩) (by omega)) (fun y => by obtain ⟨rfl, hno9, hn9⟩ := y; exact q_out C hP hS hc1 hc2 hc3 (by have ex : (xs_filter F S (o, a, k) (nI i) (nI j) (nI q8) p3) = (4, S, oFa o 0, a, k) := (by unfold xs_filter; rw [if_neg (by rw [ebi, ebj, ecq]; exact fun z => z.elim (fun z => by cases z) (fun z => z.elim (fun z => by cases z) (fun z => z.elim gw1 (fun z => by omega)))), ecj, if_neg (by rw [hoj]; decide), eci, ecq]; unfold xr_filter; rw [if_neg hk6, if_neg hno9, show (oMq ((o, a, k) : qWo).1).toNatClampNeg = m0 from by rw [show oMq ((o, a, k) : qWo).1 = nI m0 from hm0]; exact nI_clamp (by omega), if_pos (by omega)]); exact ⟨by rw [ex]; exact .tail _ (.tail _ (.tail _ (.head _))), by rw [ex]; exact (hz.obj rfl rfl).po hf⟩) (by omega))) (fun v hh5 H locs hq hP hS => ?_)
        obtain ⟨qh, r8, n8, rfl, fqh, hz1, hf1, hb8, hno9, hmv2⟩ := hq
        replace hz := hz1
        replace hf := hf1
        have hV1 := hV.mvs hm0 (M2 := m0 + zAm (S j)) ⟨by omega, by omega⟩ hmv2
        replace hV : qWv Bd (sk + 1) Rn dp (oMv o (nI (m0 + zAm (S j))), a, k) := hV1
        replace fqh : (hh5) qh = some (.inr (2, [.int (S j).1, va_rf r8, .null, .null, .null, .int 0])) := by rw [hk9]; exact fqh
        have zvn : zV cy hh5 Im (zOk Ed eb S) mk g ((S j).1, xFlL q8 p3 (S j).2.1, (S j).2.2) r8 none none none 0 := Or.inl ⟨Or.inl hk9, rfl, rfl, rfl, rfl, n8, hb8⟩
        have hzp := hz.put hV hi (s := ((S j).1, xFlL q8 p3 (S j).2.1, (S j).2.2)) (show ¬ ((S j).1 = -1) from fun z => absurd (hk9.symm.trans z) (by decide)) ⟨r8, none, none, none, 0, fqh, zvn⟩
        have hfp : zFr h (qs hh5 sl (.inl (cy 3, 24, .inr (.inr (.inr (.inr (va_up fs i (some qh)))))))) x sl kr vr bd br Xb := hf.trs (zFr.set hz.2.1.1 (Or.inr (Or.inl rfl)))
        have hkd : qHd hh5 qh ((S j).1) r8 none none none 0 (nI (zAm ((S j).1, xFlL q8 p3 (S j).2.1, (S j).2.2))) := zHd.hd (s := ((S j).1, xFlL q8 p3 (S j).2.1, (S j).2.2)) fqh zvn
        refine q_callV (rest := []) C (c_X6_keep l D cy N0 hh5 x sl bl kr vr mk (oCq (oMv o (nI (m0 + zAm (S j))), a, k).1) (oMq (oMv o (nI (m0 + zAm (S j))), a, k).1) (nI Ed) fs i qh ((S j).1) r8 none none none 0 (nI (zAm ((S j).1, xFlL q8 p3 (S j).2.1, (S j).2.2))) hz.1.1 hz.2.1.1 hi hkd) kX6_keep g218 g220 rfl gp1 g1 hP hS hz.1.1 (by first | decide | omega) hl.1 rfl (by decide) (by first | decide | omega) dX6_filter_98 (fun q ce E h' H1 locs1 hE => hE.elim) (fun v hh6 H locs hq hP hS => ?_)
        obtain ⟨rfl, rfl⟩ := hq
        refine lv_pop hx hb dX6_filter_101 rfl ?_
        have ex : (xs_filter F S (o, a, k) (nI i) (nI j) (nI q8) p3) = (0, qU S i ((S j).1, xFlL q8 p3 (S j).2.1, (S j).2.2), oMv (oFa o 0) (nI (m0 + zAm (S j))), a, k) := by unfold xs_filter; rw [if_neg (by rw [ebi, ebj, ecq]; exact fun z => z.elim (fun z => by cases z) (fun z => z.elim (fun z => by cases z) (fun z => z.elim gw1 (fun z => by omega)))), ecj, if_neg (by rw [hoj]; decide), eci, ecq]; unfold xr_filter; rw [if_neg hk6, if_neg hno9, show (oMq ((o, a, k) : qWo).1).toNatClampNeg = m0 from by rw [show oMq ((o, a, k) : qWo).1 = nI m0 from hm0]; exact nI_clamp (by omega), if_neg (by omega), show oMq ((o, a, k) : qWo).1 = nI m0 from hm0, nI_add, ham]
        exact q_vret C hP hS ⟨by rw [ex], rfl, by rw [ex]; exact (hzp.obj (o' := oMv (oFa o 0) (nI (m0 + zAm (S j)))) rfl rfl).po hfp⟩ (by omega) dX6_filter_102
      · replace c74 : 0 = 2 := (nI_eq (a := 0) (b := 2) (by omega) (by omega)).mp c74
        exfalso; omega
    · replace c29 : 0 = 6 := (nI_eq (a := 0) (b := 6) (by omega) (by omega)).mp c29
      exfalso; omega
  · have faj0 := faj
    rw [hk9] at faj
    have hk6 : ¬ (S j).1 = 6 := fun z => absurd (hk9.symm.trans z) (by decide)
    have ham : zAm (S j) = (S j).2.1.length := zAm_n hk6
    have hl9 := hLn j (by omega)
    refine lv_astore (lv' := [(6, .ref aj), (0, .ref x), (1, .int (nI i)), (2, .int (nI j)), (3, .int (nI q8)), (4, .long p3)]) hx hb dX6_filter_20 hl (by decide) rfl (fun ls hl => ?_)
    refine lv_aload hx hb dX6_filter_22 (lv_at hl 0 rfl) ?_
    refine q_get C hP faj rfl inX2 0 (by decide) g192 rfl dX6_filter_24 ?_
    refine lv_bipush (v := nI 6) hx hb dX6_filter_27 (by decide) ?_
    refine lv_icmp_ne (tgt := 66) hx hb dX6_filter_29 (by decide) (fun c29 => ?_) (fun c29 => ?_)
    · replace c29 : ¬ 2 = 6 := fun zq => c29 ((nI_eq (a := 2) (b := 6) (by omega) (by omega)).mpr zq)
      refine lv_aload_n hx hb dX6_filter_66 rfl (lv_at hl 1 rfl) ?_
      refine lv_iload_n hx hb dX6_filter_67 rfl (lv_at hl 2 rfl) ?_
      refine lv_aload hx hb dX6_filter_68 (lv_at hl 0 rfl) ?_
      refine q_get C hP faj rfl inX2 0 (by decide) g192 rfl dX6_filter_70 ?_
      refine lv_iconst (v := nI 2) hx hb dX6_filter_73 (by decide) ?_
      refine lv_icmp_ne (tgt := 89) hx hb dX6_filter_74 (by decide) (fun c74 => ?_) (fun c74 => ?_)
      · replace c74 : ¬ 2 = 2 := fun zq => c74 ((nI_eq (a := 2) (b := 2) (by omega) (by omega)).mpr zq)
        exfalso; omega
      · replace c74 : 2 = 2 := (nI_eq (a := 2) (b := 2) (by omega) (by omega)).mp c74
        refine lv_aload_n hx hb dX6_filter_77 rfl (lv_at hl 1 rfl) ?_
        refine lv_aload hx hb dX6_filter_78 (lv_at hl 0 rfl) ?_
        refine lv_iload_n hx hb dX6_filter_80 rfl (lv_at hl 4 rfl) ?_
        refine lv_lload hx hb dX6_filter_81 (lv_at hl 5 rfl) ?_
        refine q_callV (rest := [.int (nI i), .ref x]) C (z_siftedSet l D cy N0 h x mk sl bl kr vr Ed fs bd br eb Im Xb g S Bd (sk + 1) Rn dp o a k m0 j aj x1j x2j x3j x4j dvj q8 U p3 hz hI hLn hV hm0 hm9 hj faj0 zvj hq8 hk9 (h64 j (by omega) (Or.inr (Or.inl hk9))) hU hE9) kX6_siftedSet g954 g956 rfl gp27 g1 hP hS hz.1.1 (by first | decide | omega) hl.1 rfl (by simp [q_catrf, q_cati, q_catl, q_cata, q_catn]) (by first | decide | omega) dX6_filter_83 (fun q ce E h' H1 locs1 hE hP hS hc1 hc2 hc3 => by obtain ⟨hE1, hz, hf⟩ := hE; exact hE1.elim (fun y => by obtain ⟨rfl, hno9⟩ := y; exact q_out C hP hS hc1 hc2 hc3 (by have ex : (xs_filter F S (o, a, k) (nI i) (nI j) (nI q8) p3) = (3, S, oFa o 1, a, k) := (by unfold xs_filter; rw [if_neg (by rw [ebi, ebj, ecq]; exact fun z => z.elim (fun z => by cases z) (fun z => z.elim (fun z => by cases z) (fun z => z.elim gw1 (fun z => by omega)))), ecj, if_neg (by rw [hoj]; decide), eci, ecq]; unfold xr_filter; rw [if_neg hk6, if_pos hno9]); exact ⟨by rw [ex]; exact .tail _ (.tail _ (.head _)), by rw [ex]; exact (hz.obj rfl rfl).po hf⟩) (by omega)) (fun y => by obtain ⟨rfl, hno9, hn9⟩ := y; exact q_out C hP hS hc1 hc2 hc3 (by have ex : (xs_filter F S (o, a, k) (nI i) (nI j) (nI q8) p3) = (4, S, oFa o 0, a, k) := (by unfold xs_filter; rw [if_neg (by rw [ebi, ebj, ecq]; exact fun z => z.elim (fun z => by cases z) (fun z => z.elim (fun z => by cases z) (fun z => z.elim gw1 (fun z => by omega)))), ecj, if_neg (by rw [hoj]; decide), eci, ecq]; unfold xr_filter; rw [if_neg hk6, if_neg hno9, show (oMq ((o, a, k) : qWo).1).toNatClampNeg = m0 from by rw [show oMq ((o, a, k) : qWo).1 = nI m0 from hm0]; exact nI_clamp (by omega), if_pos (by omega)]); exact ⟨by rw [ex]; exact .tail _ (.tail _ (.tail _ (.head _))), by rw [ex]; exact (hz.obj rfl rfl).po hf⟩) (by omega))) (fun v hh7 H locs hq hP hS => ?_)
        obtain ⟨qh, x8, Im3, rfl, fqh, hz1, hf1, hR3, hi3, hno9, hmv2⟩ := hq
        replace hz := hz1
        replace hf := hf1
        have hV1 := hV.mvs hm0 (M2 := m0 + zAm (S j)) ⟨by omega, by omega⟩ hmv2
        replace hV : qWv Bd (sk + 1) Rn dp (oMv o (nI (m0 + zAm (S j))), a, k) := hV1
        replace fqh : (hh7) qh = some (.inr (2, [.int (S j).1, .null, va_rf x8, .null, .null, .int 0])) := by rw [hk9]; exact fqh
        have zvn : zV cy hh7 Im3 (zOk (Ed + 1) eb S) mk g ((S j).1, xFlL q8 p3 (S j).2.1, (S j).2.2) none x8 none none 0 := Or.inr (Or.inr (Or.inr (Or.inl ⟨Or.inr hk9, rfl, rfl, rfl, rfl, hR3⟩)))
        refine lv_goto (tgt := 98) hx hb dX6_filter_86 (by decide) ?_
        have hzp := hz.put hV hi (s := ((S j).1, xFlL q8 p3 (S j).2.1, (S j).2.2)) (show ¬ ((S j).1 = -1) from fun z => absurd (hk9.symm.trans z) (by decide)) ⟨none, x8, none, none, 0, fqh, zvn⟩
        have hfp : zFr h (qs hh7 sl (.inl (cy 3, 24, .inr (.inr (.inr (.inr (va_up fs i (some qh)))))))) x sl kr vr bd br Xb := hf.trs (zFr.set hz.2.1.1 (Or.inr (Or.inl rfl)))
        have hkd : qHd hh7 qh ((S j).1) none x8 none none 0 (nI (zAm ((S j).1, xFlL q8 p3 (S j).2.1, (S j).2.2))) := zHd.hd (s := ((S j).1, xFlL q8 p3 (S j).2.1, (S j).2.2)) fqh zvn
        refine q_callV (rest := []) C (c_X6_keep l D cy N0 hh7 x sl bl kr vr mk (oCq (oMv o (nI (m0 + zAm (S j))), a, k).1) (oMq (oMv o (nI (m0 + zAm (S j))), a, k).1) (nI (Ed + 1)) fs i qh ((S j).1) none x8 none none 0 (nI (zAm ((S j).1, xFlL q8 p3 (S j).2.1, (S j).2.2))) hz.1.1 hz.2.1.1 hi hkd) kX6_keep g218 g220 rfl gp1 g1 hP hS hz.1.1 (by first | decide | omega) hl.1 rfl (by decide) (by first | decide | omega) dX6_filter_98 (fun q ce E h' H1 locs1 hE => hE.elim) (fun v hh8 H locs hq hP hS => ?_)
        obtain ⟨rfl, rfl⟩ := hq
        refine lv_pop hx hb dX6_filter_101 rfl ?_
        have ex : (xs_filter F S (o, a, k) (nI i) (nI j) (nI q8) p3) = (0, qU S i ((S j).1, xFlL q8 p3 (S j).2.1, (S j).2.2), oMv (oFa o 0) (nI (m0 + zAm (S j))), a, k) := by unfold xs_filter; rw [if_neg (by rw [ebi, ebj, ecq]; exact fun z => z.elim (fun z => by cases z) (fun z => z.elim (fun z => by cases z) (fun z => z.elim gw1 (fun z => by omega)))), ecj, if_neg (by rw [hoj]; decide), eci, ecq]; unfold xr_filter; rw [if_neg hk6, if_neg hno9, show (oMq ((o, a, k) : qWo).1).toNatClampNeg = m0 from by rw [show oMq ((o, a, k) : qWo).1 = nI m0 from hm0]; exact nI_clamp (by omega), if_neg (by omega), show oMq ((o, a, k) : qWo).1 = nI m0 from hm0, nI_add, ham]
        exact q_vret C hP hS ⟨by rw [ex], rfl, by rw [ex]; exact (hzp.obj (o' := oMv (oFa o 0) (nI (m0 + zAm (S j)))) rfl rfl).po1 hfp hi3⟩ (by omega) dX6_filter_102
    · replace c29 : 2 = 6 := (nI_eq (a := 2) (b := 6) (by omega) (by omega)).mp c29
      exfalso; omega
  · rw [hk9] at faj
    obtain ⟨rfl, rfl, rfl, rfl, rfl⟩ := zvj.strm hk9
    have hs8 := hSt j (by omega) hk9
    have hd8 := hDp j (by omega)
    refine lv_astore (lv' := [(6, .ref aj), (0, .ref x), (1, .int (nI i)), (2, .int (nI j)), (3, .int (nI q8)), (4, .long p3)]) hx hb dX6_filter_20 hl (by decide) rfl (fun ls hl => ?_)
    refine lv_aload hx hb dX6_filter_22 (lv_at hl 0 rfl) ?_
    refine q_get C hP faj rfl inX2 0 (by decide) g192 rfl dX6_filter_24 ?_
    refine lv_bipush (v := nI 6) hx hb dX6_filter_27 (by decide) ?_
    refine lv_icmp_ne (tgt := 66) hx hb dX6_filter_29 (by decide) (fun c29 => ?_) (fun c29 => ?_)
    · replace c29 : ¬ 6 = 6 := fun zq => c29 ((nI_eq (a := 6) (b := 6) (by omega) (by omega)).mpr zq)
      exfalso; omega
    · replace c29 : 6 = 6 := (nI_eq (a := 6) (b := 6) (by omega) (by omega)).mp c29
      refine lv_aload_n hx hb dX6_filter_32 rfl (lv_at hl 1 rfl) ?_
      refine lv_aload hx hb dX6_filter_33 (lv_at hl 0 rfl) ?_
      refine q_get C hP faj rfl inX2 4 (by decide) g202 rfl dX6_filter_35 ?_
      refine lv_iload_n hx hb dX6_filter_38 rfl (lv_at hl 4 rfl) ?_
      refine lv_lload hx hb dX6_filter_39 (lv_at hl 5 rfl) ?_
      obtain ⟨X9, er9⟩ : ∃ z, xFilt F q8 p3 1000 ((oFa (oCd o 0) 0), a, k) (S j).2.2.1 = z := ⟨_, rfl⟩
      obtain ⟨s2, o2, a2, k2⟩ := X9
      have hcall := z_siftedFrom l D cy N0 h x mk sl bl kr vr (nI Ed) g (xRs S) (oFa (oCd o 0) 0) a k Bd sk Rn dp d F (S j).2.2.1 q8 p3 _ (hz.1.obj rfl rfl) (hV.obj rfl) rfl hF hG ⟨hs8.1, by omega⟩ hq8 er9
      dsimp only at hcall
      have st9 := xFilt_stp (sl := sk) (dc := dc + 1) hG (w := q8) (c := p3) hq8 1000 (S j).2.2.1 dp ((oFa (oCd o 0) 0), a, k) (hV.obj rfl) rfl ⟨hs8.1, by omega, by omega⟩
      try dsimp only at st9
      rw [er9] at st9
      obtain ⟨dp2, d1, w2, d3, d4, d5, -, d7⟩ := st9
      dsimp only at d1 d3 d4 d5 w2
      have eA : (xs_filter F S (o, a, k) (nI i) (nI j) (nI q8) p3).2.2.2.1.1 = a2.1 := by unfold xs_filter; rw [if_neg (by rw [ebi, ebj, ecq]; exact fun z => z.elim (fun z => by cases z) (fun z => z.elim (fun z => by cases z) (fun z => z.elim gw1 (fun z => by omega)))), ecj, if_neg (by rw [hoj]; decide), eci, ecq]; unfold xr_filter; rw [if_pos (show (S j).1 = 6 from hk9)]; dsimp only; rw [er9]; split <;> first | rfl | (split <;> rfl)
      have e0 : ((o, a, k) : qWo).2.1.1 = a.1 := rfl
      have e1 : (if oFq o2 = 0 then 0 else 1) ≤ 1 ∧ (if oFq o2 = 0 then 0 else 6) ≤ 6 := ⟨by split <;> omega, by split <;> omega⟩
      refine q_callV (rest := []) C (hcall) kX6_siftedFrom g687 g689 rfl gp18 g1 hP hS hz.1.1 (by first | decide | omega) hl.1 rfl (by decide) (by first | decide | omega) dX6_filter_41 (fun q ce E h' H1 locs1 hE hP hS hc1 hc2 hc3 => by obtain ⟨hE1, gw2, ag2, hz2, hH2⟩ := hE; dsimp only at hE1; have ex : (xs_filter F S (o, a, k) (nI i) (nI j) (nI q8) p3) = ((if oFq o2 = 1 then 3 else 4), S, o2, a2, k2) := (by unfold xs_filter; rw [if_neg (by rw [ebi, ebj, ecq]; exact fun z => z.elim (fun z => by cases z) (fun z => z.elim (fun z => by cases z) (fun z => z.elim gw1 (fun z => by omega)))), ecj, if_neg (by rw [hoj]; decide), eci, ecq]; unfold xr_filter; rw [if_pos (show (S j).1 = 6 from hk9)]; dsimp only; rw [er9]; exact hE1.elim (fun y => by rw [if_pos y.2, if_pos y.2]) (fun y => by rw [if_neg (fun z => absurd (y.2.symm.trans z) (by decide)), if_neg (fun z => absurd (y.2.symm.trans z) (by decide)), if_pos (Or.inl (fun z => absurd (y.2.symm.trans z) (by decide)))])); exact q_out C hP hS hc1 hc2 hc3 ⟨by rw [ex]; exact hE1.elim (fun y => by rw [y.1, if_pos y.2]; exact .tail _ (.tail _ (.head _))) (fun y => by rw [y.1, if_neg (fun z => absurd (y.2.symm.trans z) (by decide))]; exact .tail _ (.tail _ (.tail _ (.head _)))), by rw [ex]; exact (hz.str hz2 hH2 ag2 (fun i hi y => (hSt i hi y).1)).po (hf.trs (zH.fr hH2))⟩ (by omega)) (fun v hh9 H locs hq hP hS => ?_)
      obtain ⟨hf2, gw2, ag2, rfl, hz2, hH2⟩ := hq
      dsimp only at hf2
      dsimp only
      have e60 : (if oFq o2 = 0 then 0 else 1) = 0 ∧ (if oFq o2 = 0 then 0 else 6) = 0 := ⟨if_pos hf2, if_pos hf2⟩
      have z5 := d5 hf2
      replace faj := hH2.1 _ _ faj (fun z => by rw [z, hz.1.1] at faj; simp at faj) (fun fv z => by simp at z)
      replace hf := hf.trs (zH.fr hH2)
      replace hz := hz.str hz2 hH2 ag2 (fun i hi y => (hSt i hi y).1)
      have hV0 := hV
      replace hV := w2
      refine q_astore (lv' := [(7, va_rf (zO gw2 s2)), (6, .ref aj), (0, .ref x), (1, .int (nI i)), (2, .int (nI j)), (3, .int (nI q8)), (4, .long p3)]) hx hb dX6_filter_44 hl (by decide) rfl (fun ls hl => ?_)
      refine lv_aload_n hx hb dX6_filter_46 rfl (lv_at hl 2 rfl) ?_
      refine lv_iload_n hx hb dX6_filter_47 rfl (lv_at hl 3 rfl) ?_
      refine q_aload hx hb dX6_filter_48 (lv_at hl 0 rfl) ?_
      refine lv_aload hx hb dX6_filter_50 (lv_at hl 1 rfl) ?_
      refine q_get C hP faj rfl inX2 5 (by decide) g204 rfl dX6_filter_52 ?_
      refine q_callS (rest := [va_rf (zO gw2 s2), .int (nI i), .ref x]) C (c_X6_deeperThan l D cy N0 hh9 (nI ((S j).2.2.2))) kX6_deeperThan g844 g845 hP hS (by first | decide | omega) hl.1 rfl (by simp [q_catrf, q_cati, q_catl, q_cata, q_catn]) (by first | decide | omega) dX6_filter_55 (fun q ce E h' H1 locs1 hE hP hS hc1 hc2 hc3 => by obtain ⟨rfl, rfl, hn9⟩ := hE; replace hn9 : ¬ (S j).2.2.2 < 100 := fun z => hn9 ((nI_ltI (a := (S j).2.2.2) (b := 100) (by omega) (by omega)).mpr z); exact q_out C hP hS hc1 hc2 hc3 (by have ex : (xs_filter F S (o, a, k) (nI i) (nI j) (nI q8) p3) = (4, S, o2, a2, k2) := (by unfold xs_filter; rw [if_neg (by rw [ebi, ebj, ecq]; exact fun z => z.elim (fun z => by cases z) (fun z => z.elim (fun z => by cases z) (fun z => z.elim gw1 (fun z => by omega)))), ecj, if_neg (by rw [hoj]; decide), eci, ecq]; unfold xr_filter; rw [if_pos (show (S j).1 = 6 from hk9)]; dsimp only; rw [er9]; rw [if_neg (fun z => absurd (hf2.symm.trans z) (by decide)), if_pos (Or.inr (by omega))]); exact ⟨by rw [ex]; exact .tail _ (.tail _ (.tail _ (.head _))), by rw [ex]; exact (hz.obj rfl rfl).po hf⟩) (by omega)) (fun v hh10 H locs hq hP hS => ?_)
      obtain ⟨rfl, rfl, hr9⟩ := hq
      replace hr9 := (nI_ltI (a := (S j).2.2.2) (b := 100) (by omega) (by omega)).mp hr9
      rw [show nI ((S j).2.2.2) + 1 = nI ((S j).2.2.2 + 1) from nI_1 _]
      refine q_callS (rest := [.int (nI i), .ref x]) C (c_X2_ofStream l D cy N0 hh9 (zO gw2 s2) (nI ((S j).2.2.2 + 1))) kX2_ofStream g580 g581 hP hS (by first | decide | omega) hl.1 rfl (by simp [q_catrf, q_cati, q_catl, q_cata, q_catn]) (by first | decide | omega) dX6_filter_58 (fun q ce E h' H1 locs1 hE => hE.elim) (fun v hh11 H locs hq hP hS => ?_)
      obtain ⟨qh, rfl, oqh, rfl⟩ := hq
      replace hP : qP D N0 (qs hh9 qh (.inr (2, [.int 6, .null, .null, .null, va_rf (zO gw2 s2), .int (nI ((S j).2.2.2 + 1))]))) H := hP
      have hleh : qle hh9 (qs hh9 qh (.inr (2, [.int 6, .null, .null, .null, va_rf (zO gw2 s2), .int (nI ((S j).2.2.2 + 1))]))) := qle_new oqh
      replace faj := hleh _ _ faj
      replace hf := hf.trs (zFr.le hleh (qle.dom hleh))
      replace hz := hz.le hV hleh (qle.dom hleh)
      have fqh : (qs hh9 qh (.inr (2, [.int 6, .null, .null, .null, va_rf (zO gw2 s2), .int (nI ((S j).2.2.2 + 1))]))) qh = some (.inr (2, [.int 6, .null, .null, .null, va_rf (zO gw2 s2), .int (nI ((S j).2.2.2 + 1))])) := qs_self
      replace fqh : (qs hh9 qh (.inr (2, [.int 6, .null, .null, .null, va_rf (zO gw2 s2), .int (nI ((S j).2.2.2 + 1))]))) qh = some (.inr (2, [.int (S j).1, .null, .null, .null, va_rf (zO gw2 s2), .int (nI ((S j).2.2.2 + 1))])) := by rw [hk9]; exact fqh
      have zvn : zV cy (qs hh9 qh (.inr (2, [.int 6, .null, .null, .null, va_rf (zO gw2 s2), .int (nI ((S j).2.2.2 + 1))]))) Im (zOk Ed eb S) mk gw2 ((S j).1, (S j).2.1, s2, (S j).2.2.2 + 1) none none none (zO gw2 s2) (nI ((S j).2.2.2 + 1)) := Or.inr (Or.inr (Or.inr (Or.inr ⟨hk9, rfl, rfl, rfl, rfl, rfl⟩)))
      have hzp := hz.put hV hi (s := ((S j).1, (S j).2.1, s2, (S j).2.2.2 + 1)) (show ¬ ((S j).1 = -1) from fun z => absurd (hk9.symm.trans z) (by decide)) ⟨none, none, none, (zO gw2 s2), (nI ((S j).2.2.2 + 1)), fqh, zvn⟩
      have hfp : zFr h (qs (qs hh9 qh (.inr (2, [.int 6, .null, .null, .null, va_rf (zO gw2 s2), .int (nI ((S j).2.2.2 + 1))]))) sl (.inl (cy 3, 24, .inr (.inr (.inr (.inr (va_up fs i (some qh)))))))) x sl kr vr bd br Xb := hf.trs (zFr.set hz.2.1.1 (Or.inr (Or.inl rfl)))
      have hkd : qHd (qs hh9 qh (.inr (2, [.int 6, .null, .null, .null, va_rf (zO gw2 s2), .int (nI ((S j).2.2.2 + 1))]))) qh ((S j).1) none none none (zO gw2 s2) (nI ((S j).2.2.2 + 1)) (nI (zAm ((S j).1, (S j).2.1, s2, (S j).2.2.2 + 1))) := zHd.hd (s := ((S j).1, (S j).2.1, s2, (S j).2.2.2 + 1)) fqh zvn
      refine q_callV (rest := []) C (c_X6_keep l D cy N0 (qs hh9 qh (.inr (2, [.int 6, .null, .null, .null, va_rf (zO gw2 s2), .int (nI ((S j).2.2.2 + 1))]))) x sl bl kr vr mk (oCq (o2, a2, k2).1) (oMq (o2, a2, k2).1) (nI Ed) fs i qh ((S j).1) none none none (zO gw2 s2) (nI ((S j).2.2.2 + 1)) (nI (zAm ((S j).1, (S j).2.1, s2, (S j).2.2.2 + 1))) hz.1.1 hz.2.1.1 hi hkd) kX6_keep g218 g220 rfl gp1 g1 hP hS hz.1.1 (by first | decide | omega) hl.1 rfl (by decide) (by first | decide | omega) dX6_filter_61 (fun q ce E h' H1 locs1 hE => hE.elim) (fun v hh12 H locs hq hP hS => ?_)
      obtain ⟨rfl, rfl⟩ := hq
      replace faj := (qs_ne (h := (qs hh9 qh (.inr (2, [.int 6, .null, .null, .null, va_rf (zO gw2 s2), .int (nI ((S j).2.2.2 + 1))])))) (a := sl) (o := (.inl (cy 3, 24, .inr (.inr (.inr (.inr (va_up fs i (some qh)))))))) (fun z => by rw [z, hz.2.1.1] at faj; cases faj)).trans faj
      refine lv_pop hx hb dX6_filter_64 rfl ?_
      have ex : (xs_filter F S (o, a, k) (nI i) (nI j) (nI q8) p3) = (0, qU S i ((S j).1, (S j).2.1, s2, (S j).2.2.2 + 1), o2, a2, k2) := by unfold xs_filter; rw [if_neg (by rw [ebi, ebj, ecq]; exact fun z => z.elim (fun z => by cases z) (fun z => z.elim (fun z => by cases z) (fun z => z.elim gw1 (fun z => by omega)))), ecj, if_neg (by rw [hoj]; decide), eci, ecq]; unfold xr_filter; rw [if_pos (show (S j).1 = 6 from hk9)]; dsimp only; rw [er9]; rw [if_neg (fun z => absurd (hf2.symm.trans z) (by decide)), if_neg (fun z => z.elim (fun z => z hf2) (fun z => by omega))]
      exact q_vret C hP hS ⟨by rw [ex], rfl, by rw [ex]; exact hzp.po hfp⟩ (by omega) dX6_filter_65
