theorem dX6_meet_18 : decode cX6_meet 18 = .ok (.astore 5, 2) := by decide +kernel
theorem dX6_meet_20 : decode cX6_meet 20 = .ok (.aload_n 0, 1) := by decide +kernel
theorem dX6_meet_21 : decode cX6_meet 21 = .ok (.iload_n 3, 1) := by decide +kernel
theorem dX6_meet_22 : decode cX6_meet 22 = .ok (.iconst 4, 1) := by decide +kernel
theorem dX6_meet_23 : decode cX6_meet 23 = .ok (.invokevirtual 55, 3) := by decide +kernel
theorem dX6_meet_26 : decode cX6_meet 26 = .ok (.astore 6, 2) := by decide +kernel
theorem dX6_meet_28 : decode cX6_meet 28 = .ok (.aload 5, 2) := by decide +kernel
theorem dX6_meet_30 : decode cX6_meet 30 = .ok (.invokevirtual 59, 3) := by decide +kernel
theorem dX6_meet_33 : decode cX6_meet 33 = .ok (.istore 7, 2) := by decide +kernel
theorem dX6_meet_35 : decode cX6_meet 35 = .ok (.aload_n 0, 1) := by decide +kernel
theorem dX6_meet_36 : decode cX6_meet 36 = .ok (.iload 7, 2) := by decide +kernel
theorem dX6_meet_38 : decode cX6_meet 38 = .ok (.invokevirtual 218, 3) := by decide +kernel
theorem dX6_meet_41 : decode cX6_meet 41 = .ok (.aload 5, 2) := by decide +kernel
theorem dX6_meet_43 : decode cX6_meet 43 = .ok (.getfield 66, 3) := by decide +kernel
theorem dX6_meet_46 : decode cX6_meet 46 = .ok (.aload_n 0, 1) := by decide +kernel
theorem dX6_meet_47 : decode cX6_meet 47 = .ok (.getfield 21, 3) := by decide +kernel
theorem dX6_meet_50 : decode cX6_meet 50 = .ok (.iconst 0, 1) := by decide +kernel
theorem dX6_meet_51 : decode cX6_meet 51 = .ok (.invokestatic 242, 3) := by decide +kernel
theorem dX6_meet_54 : decode cX6_meet 54 = .ok (.pop, 1) := by decide +kernel
theorem dX6_meet_55 : decode cX6_meet 55 = .ok (.iconst 0, 1) := by decide +kernel
theorem dX6_meet_56 : decode cX6_meet 56 = .ok (.istore 8, 2) := by decide +kernel
theorem dX6_meet_58 : decode cX6_meet 58 = .ok (.iconst 0, 1) := by decide +kernel
theorem dX6_meet_59 : decode cX6_meet 59 = .ok (.istore 9, 2) := by decide +kernel
theorem dX6_meet_61 : decode cX6_meet 61 = .ok (.iload 9, 2) := by decide +kernel
theorem dX6_meet_63 : decode cX6_meet 63 = .ok (.iload 7, 2) := by decide +kernel
theorem dX6_meet_65 : decode cX6_meet 65 = .ok (.if_icmp .ge 50, 3) := by decide +kernel
theorem dX6_meet_68 : decode cX6_meet 68 = .ok (.aload 6, 2) := by decide +kernel
theorem dX6_meet_70 : decode cX6_meet 70 = .ok (.getfield 66, 3) := by decide +kernel
theorem dX6_meet_73 : decode cX6_meet 73 = .ok (.aload_n 0, 1) := by decide +kernel
theorem dX6_meet_74 : decode cX6_meet 74 = .ok (.getfield 34, 3) := by decide +kernel
theorem dX6_meet_77 : decode cX6_meet 77 = .ok (.aload_n 0, 1) := by decide +kernel
theorem dX6_meet_78 : decode cX6_meet 78 = .ok (.getfield 21, 3) := by decide +kernel
theorem dX6_meet_81 : decode cX6_meet 81 = .ok (.iload 9, 2) := by decide +kernel
theorem dX6_meet_83 : decode cX6_meet 83 = .ok (.laload, 1) := by decide +kernel
theorem dX6_meet_84 : decode cX6_meet 84 = .ok (.invokestatic 246, 3) := by decide +kernel
theorem dX6_meet_87 : decode cX6_meet 87 = .ok (.iload 4, 2) := by decide +kernel
theorem dX6_meet_89 : decode cX6_meet 89 = .ok (.if_icmp .ne 20, 3) := by decide +kernel
theorem dX6_meet_92 : decode cX6_meet 92 = .ok (.aload_n 0, 1) := by decide +kernel
theorem dX6_meet_93 : decode cX6_meet 93 = .ok (.getfield 21, 3) := by decide +kernel
theorem dX6_meet_96 : decode cX6_meet 96 = .ok (.iload 8, 2) := by decide +kernel
theorem dX6_meet_98 : decode cX6_meet 98 = .ok (.aload_n 0, 1) := by decide +kernel
theorem dX6_meet_99 : decode cX6_meet 99 = .ok (.getfield 21, 3) := by decide +kernel
theorem dX6_meet_102 : decode cX6_meet 102 = .ok (.iload 9, 2) := by decide +kernel
theorem dX6_meet_104 : decode cX6_meet 104 = .ok (.laload, 1) := by decide +kernel
theorem dX6_meet_105 : decode cX6_meet 105 = .ok (.lastore, 1) := by decide +kernel
theorem dX6_meet_106 : decode cX6_meet 106 = .ok (.iinc 8 1, 3) := by decide +kernel
theorem dX6_meet_109 : decode cX6_meet 109 = .ok (.iinc 9 1, 3) := by decide +kernel
theorem dX6_meet_112 : decode cX6_meet 112 = .ok (.goto (-51), 3) := by decide +kernel
theorem dX6_meet_115 : decode cX6_meet 115 = .ok (.aload_n 0, 1) := by decide +kernel
theorem dX6_meet_116 : decode cX6_meet 116 = .ok (.iload_n 1, 1) := by decide +kernel
theorem dX6_meet_117 : decode cX6_meet 117 = .ok (.aload 5, 2) := by decide +kernel
theorem dX6_meet_119 : decode cX6_meet 119 = .ok (.getfield 63, 3) := by decide +kernel
theorem dX6_meet_122 : decode cX6_meet 122 = .ok (.aload_n 0, 1) := by decide +kernel
theorem dX6_meet_123 : decode cX6_meet 123 = .ok (.aload 5, 2) := by decide +kernel
theorem dX6_meet_125 : decode cX6_meet 125 = .ok (.getfield 66, 3) := by decide +kernel
theorem dX6_meet_128 : decode cX6_meet 128 = .ok (.iload 8, 2) := by decide +kernel
theorem dX6_meet_130 : decode cX6_meet 130 = .ok (.invokevirtual 250, 3) := by decide +kernel
theorem dX6_meet_133 : decode cX6_meet 133 = .ok (.invokestatic 77, 3) := by decide +kernel
theorem dX6_meet_136 : decode cX6_meet 136 = .ok (.invokevirtual 51, 3) := by decide +kernel
theorem dX6_meet_139 : decode cX6_meet 139 = .ok (.ireturn, 1) := by decide +kernel
set_option maxRecDepth 100000 in
set_option maxHeartbeats 4000000 in
theorem z_meet (l : Launch) (D : va_G) (cy : Nat → ClassId) (N0 : Nat) (h : qH) (x : Nat) (mk : Int32) (sl bl kr vr Ed : Nat) (fs : Nat → Option Nat) (bd br eb : Nat → Nat) (Im : Nat → Prop) (Xb : Nat → Nat → Prop) (g : Nat → Nat) (S : Nat → qSlot) (W : qWo) (Bd sk Rn : Nat) (dp : Nat → Nat) (gr : Int32) (m0 U : Nat) (p0 p1 p2 p3 : Int32) (hz : zQ cy h x mk sl bl kr vr Ed fs bd br eb Im Xb g S W) (hI : ∀ i, i < 28 → qOk (S i).1 (S i).2.1) (hLn : ∀ i, i < 28 → (S i).2.1.length ≤ 1000) (hV : qWv Bd sk Rn dp W) (hmk : qMk gr = mk) (hAl : ∀ i, i < 28 → ((S i).1 = 1 ∨ (S i).1 = 2) → ∀ k, xAl gr (S i).2.1 k ≤ 16) (h64 : ∀ i, i < 28 → ((S i).1 = 1 ∨ (S i).1 = 2 ∨ (S i).1 = 3) → (S i).2.1.length ≤ U) (hU : U ≤ 64) (hE9 : Ed + 1 < 1000) (hm0 : oMq W.1 = nI m0) (hm9 : m0 ≤ 20000) : qC l D cy N0 yX6_meet cX6_meet 10 (some .int) 40 2200 (50 * U + 100) (U * rMs U 7 + 600) [.ref x, .int p0, .int p1, .int p2, .int p3] h (fun v h' => (xs_meet S p0 p1 p2 p3 m0).1 = 0 ∧ v = some (.int (xs_meet S p0 p1 p2 p3 m0).2.2.1) ∧ zPo cy h x mk sl bl kr vr Ed bd br Im Xb ((xs_meet S p0 p1 p2 p3 m0).2.1) (oMv W.1 (nI (xs_meet S p0 p1 p2 p3 m0).2.2.2), W.2) h') (fun E h' => zXc [(1, "java/lang/IllegalArgumentException"), (2, "java/lang/IllegalStateException"), (3, "java/lang/IndexOutOfBoundsException")] E (xs_meet S p0 p1 p2 p3 m0).1 ∧ zPo cy h x mk sl bl kr vr Ed bd br Im Xb S W h') := by
  refine q_ofW (by decide) (by exact Nat.le_of_ble_eq_true rfl) ?_
  intro p e s m below meth c ls C hP hl
  have hx := C.1
  have hb := C.2.1
  have hS : va_S (qA N0) s.heap s.heap [] := va_S.rf
  have hl : lv_has ls 10 [(0, .ref x), (1, .int p0), (2, .int p1), (3, .int p2), (4, .int p3)] := hl
  have hf : zFr h h x sl kr vr bd br Xb := zFr.rf
  obtain ⟨o, a, k⟩ := W
  refine lv_iload_n hx hb dX6_meet_0 rfl (lv_at hl 1 rfl) ?_
  refine q_callS (rest := []) C (c_X6_needSlot l D cy N0 h p0) kX6_needSlot g104 g105 hP hS (by first | decide | omega) hl.1 rfl (by decide) (by first | decide | omega) dX6_meet_1 (fun q ce E h' H1 locs1 hE hP hS hc1 hc2 hc3 => by obtain ⟨rfl, rfl, hn9⟩ := hE; have eb9 := bSl_f hn9; exact q_out C hP hS hc1 hc2 hc3 (by have ex : (xs_meet S p0 p1 p2 p3 m0) = (1, S, 0, m0) := (by unfold xs_meet; rw [if_pos (Or.inl eb9)]); exact ⟨by rw [ex]; exact .head _, by exact hz.po hf⟩) (by omega)) (fun v hh1 H locs hq hP hS => ?_)
  obtain ⟨rfl, rfl, sl9⟩ := hq
  obtain ⟨i, hi, rfl⟩ := sl9.of
  have ebi : bSl (nI i) = true := bSl_t sl9
  have eci : (nI i).toNatClampNeg = i := nI_clamp (by omega)
  refine lv_iload_n hx hb dX6_meet_4 rfl (lv_at hl 2 rfl) ?_
  refine q_callS (rest := []) C (c_X6_needSlot l D cy N0 h p1) kX6_needSlot g104 g105 hP hS (by first | decide | omega) hl.1 rfl (by decide) (by first | decide | omega) dX6_meet_5 (fun q ce E h' H1 locs1 hE hP hS hc1 hc2 hc3 => by obtain ⟨rfl, rfl, hn9⟩ := hE; have eb9 := bSl_f hn9; exact q_out C hP hS hc1 hc2 hc3 (by have ex : (xs_meet S (nI i) p1 p2 p3 m0) = (1, S, 0, m0) := (by unfold xs_meet; rw [if_pos (Or.inr (Or.inl eb9))]); exact ⟨by rw [ex]; exact .head _, by exact hz.po hf⟩) (by omega)) (fun v hh2 H locs hq hP hS => ?_)
  obtain ⟨rfl, rfl, sl9⟩ := hq
  obtain ⟨j, hj, rfl⟩ := sl9.of
  have ebj : bSl (nI j) = true := bSl_t sl9
  have ecj : (nI j).toNatClampNeg = j := nI_clamp (by omega)
  refine lv_iload_n hx hb dX6_meet_8 rfl (lv_at hl 3 rfl) ?_
  refine q_callS (rest := []) C (c_X6_needSlot l D cy N0 h p2) kX6_needSlot g104 g105 hP hS (by first | decide | omega) hl.1 rfl (by decide) (by first | decide | omega) dX6_meet_9 (fun q ce E h' H1 locs1 hE hP hS hc1 hc2 hc3 => by obtain ⟨rfl, rfl, hn9⟩ := hE; have eb9 := bSl_f hn9; exact q_out C hP hS hc1 hc2 hc3 (by have ex : (xs_meet S (nI i) (nI j) p2 p3 m0) = (1, S, 0, m0) := (by unfold xs_meet; rw [if_pos (Or.inr (Or.inr eb9))]); exact ⟨by rw [ex]; exact .head _, by exact hz.po hf⟩) (by omega)) (fun v hh3 H locs hq hP hS => ?_)
  obtain ⟨rfl, rfl, sl9⟩ := hq
  obtain ⟨u, hu, rfl⟩ := sl9.of
  have ebu : bSl (nI u) = true := bSl_t sl9
  have ecu : (nI u).toNatClampNeg = u := nI_clamp (by omega)
  refine lv_aload_n hx hb dX6_meet_12 rfl (lv_at hl 0 rfl) ?_
  refine lv_iload_n hx hb dX6_meet_13 rfl (lv_at hl 2 rfl) ?_
  refine lv_iconst (v := nI 4) hx hb dX6_meet_14 (by decide) ?_
  refine q_callV (rest := []) C (z_heldIn l D N0 (nI j) 4 hz hI) kX6_heldIn g243 g245 rfl gp2 g1 hP hS hz.1.1 (by first | decide | omega) hl.1 rfl (by decide) (by first | decide | omega) dX6_meet_15 (fun q ce E h' H1 locs1 hE hP hS hc1 hc2 hc3 => hE.2.elim (fun y => by obtain ⟨rfl, -⟩ := hE; obtain ⟨rfl, hn9⟩ := y; exact absurd hn9 (by rw [ebj]; decide)) (fun y => by obtain ⟨rfl, -⟩ := hE; obtain ⟨rfl, i8, hi8, e8, ho8⟩ := y; obtain rfl : j = i8 := nI_inj32 (by omega) (by omega) e8; exact q_out C hP hS hc1 hc2 hc3 (by have ex : (xs_meet S (nI i) (nI j) (nI u) p3 m0) = (2, S, 0, m0) := (by have ebj : bSl (nI j) = true := bSl_t (qSl.nI hi8); have ecj : (nI j).toNatClampNeg = j := nI_clamp (by omega); have hoj := ho8; unfold xs_meet; rw [if_neg (by rw [ebi, ebj, ebu]; decide), ecj, ecu, if_pos (Or.inl hoj)]); exact ⟨by rw [ex]; exact .tail _ (.head _), by exact hz.po hf⟩) (by omega))) (fun v hh4 H locs hq hP hS => ?_)
  obtain ⟨rfl, j9, aj, hj9, ej9, hfsj, rfl, hoj, x1j, x2j, x3j, x4j, dvj, faj, zvj⟩ := hq
  obtain rfl : j = j9 := nI_inj32 (by omega) (by omega) ej9
  have hkj : (S j).1 = nI 2 := bHo_4 (hI j (by omega)).2.2 hoj
  rw [hkj] at faj
  refine lv_astore (lv' := [(5, .ref aj), (0, .ref x), (1, .int (nI i)), (2, .int (nI j)), (3, .int (nI u)), (4, .int p3)]) hx hb dX6_meet_18 hl (by decide) rfl (fun ls hl => ?_)
  refine lv_aload_n hx hb dX6_meet_20 rfl (lv_at hl 1 rfl) ?_
  refine lv_iload_n hx hb dX6_meet_21 rfl (lv_at hl 4 rfl) ?_
  refine lv_iconst (v := nI 4) hx hb dX6_meet_22 (by decide) ?_
  refine q_callV (rest := []) C (z_heldIn l D N0 (nI u) 4 hz hI) kX6_heldIn g243 g245 rfl gp2 g1 hP hS hz.1.1 (by first | decide | omega) hl.1 rfl (by decide) (by first | decide | omega) dX6_meet_23 (fun q ce E h' H1 locs1 hE hP hS hc1 hc2 hc3 => hE.2.elim (fun y => by obtain ⟨rfl, -⟩ := hE; obtain ⟨rfl, hn9⟩ := y; exact absurd hn9 (by rw [ebu]; decide)) (fun y => by obtain ⟨rfl, -⟩ := hE; obtain ⟨rfl, i8, hi8, e8, ho8⟩ := y; obtain rfl : u = i8 := nI_inj32 (by omega) (by omega) e8; exact q_out C hP hS hc1 hc2 hc3 (by have ex : (xs_meet S (nI i) (nI j) (nI u) p3 m0) = (2, S, 0, m0) := (by have ebu : bSl (nI u) = true := bSl_t (qSl.nI hi8); have ecu : (nI u).toNatClampNeg = u := nI_clamp (by omega); have hou := ho8; unfold xs_meet; rw [if_neg (by rw [ebi, ebj, ebu]; decide), ecj, ecu, if_pos (Or.inr hou)]); exact ⟨by rw [ex]; exact .tail _ (.head _), by exact hz.po hf⟩) (by omega))) (fun v hh5 H locs hq hP hS => ?_)
  obtain ⟨rfl, u9, au, hu9, eu9, hfsu, rfl, hou, x1u, x2u, x3u, x4u, dvu, fau, zvu⟩ := hq
  obtain rfl : u = u9 := nI_inj32 (by omega) (by omega) eu9
  have hku : (S u).1 = nI 2 := bHo_4 (hI u (by omega)).2.2 hou
  rw [hku] at fau
  have hk12j : (S j).1 = 1 ∨ (S j).1 = 2 := Or.inr hkj
  have hRj := (zvj.hash hk12j).2.2.2.2
  have hlj := hLn j (by omega)
  have hqj := h64 j (by omega) (Or.inr (Or.inl hkj))
  have hnoj : qNo (S j).2.1 := (hI j (by omega)).2.1 (Or.inr (Or.inl hkj))
  have hk12u : (S u).1 = 1 ∨ (S u).1 = 2 := Or.inr hku
  have hRu := (zvu.hash hk12u).2.2.2.2
  have hlu := hLn u (by omega)
  have hqu := h64 u (by omega) (Or.inr (Or.inl hku))
  have hnou : qNo (S u).2.1 := (hI u (by omega)).2.1 (Or.inr (Or.inl hku))
  have hk6 : ¬ (S j).1 = 6 := fun z => absurd (hkj.symm.trans z) (by decide)
  have ham : zAm (S j) = (S j).2.1.length := zAm_n hk6
  have hKl : ((thT mk 7 (zSv (S j))).map Prod.fst).length = (S j).2.1.length := by rw [List.length_map, thT_len, zSv_len]
  refine lv_astore (lv' := [(6, .ref au), (5, .ref aj), (0, .ref x), (1, .int (nI i)), (2, .int (nI j)), (3, .int (nI u)), (4, .int p3)]) hx hb dX6_meet_26 hl (by decide) rfl (fun ls hl => ?_)
  refine lv_aload hx hb dX6_meet_28 (lv_at hl 1 rfl) ?_
  obtain ⟨t1j, t2j, t3j, f1j, f2j, f3j, etj⟩ := zvj.size
  refine q_callV (rest := []) C (c_X2_amount l D cy N0 h aj (nI 2) dvj t1j t2j t3j x1j x2j x3j x4j faj f1j f2j f3j) kX2_amount g222 g223 rfl g224 g10 hP hS faj (by first | decide | omega) hl.1 rfl (by decide) (by first | decide | omega) dX6_meet_30 (fun q ce E h' H1 locs1 hE => hE.elim) (fun v hh6 H locs hq hP hS => ?_)
  obtain ⟨rfl, rfl⟩ := hq
  rw [← etj]
  refine lv_istore (lv' := [(7, .int (nI (zAm (S j)))), (6, .ref au), (5, .ref aj), (0, .ref x), (1, .int (nI i)), (2, .int (nI j)), (3, .int (nI u)), (4, .int p3)]) hx hb dX6_meet_33 hl (by decide) rfl (fun ls hl => ?_)
  refine lv_aload_n hx hb dX6_meet_35 rfl (lv_at hl 3 rfl) ?_
  refine lv_iload hx hb dX6_meet_36 (lv_at hl 0 rfl) ?_
  refine q_callV (rest := []) C (c_X6_takeMoves l D cy N0 h x sl bl kr vr mk (oCq (o, a, k).1) (oMq (o, a, k).1) (nI Ed) fs (nI (zAm (S j))) hz.1.1 hz.2.1.1) kX6_takeMoves g641 g643 rfl gp15 g1 hP hS hz.1.1 (by first | decide | omega) hl.1 rfl (by decide) (by first | decide | omega) dX6_meet_38 (fun q ce E h' H1 locs1 hE hP hS hc1 hc2 hc3 => by obtain ⟨rfl, rfl, hn9⟩ := hE; replace hn9 : ¬ m0 + zAm (S j) ≤ 20000 := fun z => hn9 (by rw [hm0]; exact (zmvs hm9 (by omega)).mpr z); exact q_out C hP hS hc1 hc2 hc3 (by have ex : (xs_meet S (nI i) (nI j) (nI u) p3 m0) = (3, S, 0, m0) := (by unfold xs_meet; rw [if_neg (by rw [ebi, ebj, ebu]; decide), ecj, ecu, if_neg (by rw [hoj, hou]; decide), eci]; unfold xr_meet; rw [if_pos (by omega)]); exact ⟨by rw [ex]; exact .tail _ (.tail _ (.head _)), by exact hz.po hf⟩) (by omega)) (fun v hh7 H locs hq hP hS => ?_)
  obtain ⟨rfl, rfl, hmv⟩ := hq
  have hmv2 : m0 + zAm (S j) ≤ 20000 := (zmvs hm9 (by omega)).mp (by rw [← hm0]; exact hmv)
  rw [show oMq (o, a, k).1 = nI m0 from hm0, nI_add] at hP
  replace hP : qP D N0 (qs h x (.inr (6, [.int mk, .ref sl, .ref bl, .ref kr, .ref vr, .int (oCq (o, a, k).1), .int (nI (m0 + zAm (S j))), .int (nI Ed)]))) H := hP
  replace faj := (qs_ne (h := h) (a := x) (o := (.inr (6, [.int mk, .ref sl, .ref bl, .ref kr, .ref vr, .int (oCq (o, a, k).1), .int (nI (m0 + zAm (S j))), .int (nI Ed)]))) (fun z => by rw [z, hz.1.1] at faj; simp at faj)).trans faj
  replace fau := (qs_ne (h := h) (a := x) (o := (.inr (6, [.int mk, .ref sl, .ref bl, .ref kr, .ref vr, .int (oCq (o, a, k).1), .int (nI (m0 + zAm (S j))), .int (nI Ed)]))) (fun z => by rw [z, hz.1.1] at fau; simp at fau)).trans fau
  replace zvj := zvj.up (o := .inr (6, [.int mk, .ref sl, .ref bl, .ref kr, .ref vr, .int (oCq (o, a, k).1), .int (nI (m0 + zAm (S j))), .int (nI Ed)])) hz.1.1 (fun b y => (hz.2.2.2.2.2.1 b (Or.inl y)).1)
  replace zvu := zvu.up (o := .inr (6, [.int mk, .ref sl, .ref bl, .ref kr, .ref vr, .int (oCq (o, a, k).1), .int (nI (m0 + zAm (S j))), .int (nI Ed)])) hz.1.1 (fun b y => (hz.2.2.2.2.2.1 b (Or.inl y)).1)
  replace hRj := hRj.keep (h' := qs h x (.inr (6, [.int mk, .ref sl, .ref bl, .ref kr, .ref vr, .int (oCq (o, a, k).1), .int (nI (m0 + zAm (S j))), .int (nI Ed)]))) (fun b o e y => (qs_ne (hz.2.2.2.2.2.1 b (Or.inl (y.resolve_right id))).1).trans e)
  replace hRu := hRu.keep (h' := qs h x (.inr (6, [.int mk, .ref sl, .ref bl, .ref kr, .ref vr, .int (oCq (o, a, k).1), .int (nI (m0 + zAm (S j))), .int (nI Ed)]))) (fun b o e y => (qs_ne (hz.2.2.2.2.2.1 b (Or.inl (y.resolve_right id))).1).trans e)
  replace hf := hf.trs (zFr.set (o' := .inr (6, [.int mk, .ref sl, .ref bl, .ref kr, .ref vr, .int (oCq (o, a, k).1), .int (nI (m0 + zAm (S j))), .int (nI Ed)])) hz.1.1 (Or.inl rfl))
  replace hz : zQ cy (qs h x (.inr (6, [.int mk, .ref sl, .ref bl, .ref kr, .ref vr, .int (oCq (o, a, k).1), .int (nI (m0 + zAm (S j))), .int (nI Ed)]))) x mk sl bl kr vr Ed fs bd br eb Im Xb g S (oMv o (nI (m0 + zAm (S j))), a, k) := hz.mv hV
  replace hV := hV.mvs hm0 (M2 := m0 + zAm (S j)) ⟨by omega, by omega⟩ hmv2
  replace hV : qWv Bd sk Rn dp (oMv o (nI (m0 + zAm (S j))), a, k) := hV
  refine lv_aload hx hb dX6_meet_41 (lv_at hl 2 rfl) ?_
  refine q_get C hP faj rfl inX2 2 (by decide) g198 rfl dX6_meet_43 ?_
  refine lv_aload_n hx hb dX6_meet_46 rfl (lv_at hl 3 rfl) ?_
  refine q_get C hP hz.1.1 rfl inX6 3 (by decide) g71 rfl dX6_meet_47 ?_
  refine lv_iconst (v := nI 0) hx hb dX6_meet_50 (by decide) ?_
  obtain ⟨f0k, hf0k⟩ := hz.2.1.2.2.1
  refine q_callSN (host := RX6) (rest := []) C (z_pourKeys l D cy N0 (qs h x (.inr (6, [.int mk, .ref sl, .ref bl, .ref kr, .ref vr, .int (oCq (o, a, k).1), .int (nI (m0 + zAm (S j))), .int (nI Ed)]))) Im 0 (zOk Ed eb S) mk x2j (zSv (S j)) (fun _ => False) kr f0k hRj ⟨fun z => (hz.2.2.2.2.2.1 _ (Or.inl z)).2.2.2.1 rfl, id⟩ hf0k (by rw [zSv_len]; omega)) kX3_pourKeys (by decide +kernel) g865 hP hS (by first | decide | omega) hl.1 rfl (by decide) (by first | decide | omega) dX6_meet_51 (fun v hh8 H locs hq hP hS => ?_)
  obtain ⟨rfl, rfl⟩ := hq
  replace hP : qP D N0 (qs (qs h x (.inr (6, [.int mk, .ref sl, .ref bl, .ref kr, .ref vr, .int (oCq (o, a, k).1), .int (nI (m0 + zAm (S j))), .int (nI Ed)]))) kr (.inl (cy 1, 1000, .inr (.inl (qPour f0k 0 ((thT mk 7 (zSv (S j))).map Prod.fst)))))) H := hP
  refine lv_pop hx hb dX6_meet_54 rfl ?_
  refine lv_iconst (v := nI 0) hx hb dX6_meet_55 (by decide) ?_
  refine lv_istore (lv' := [(8, .int (nI 0)), (7, .int (nI (zAm (S j)))), (6, .ref au), (5, .ref aj), (0, .ref x), (1, .int (nI i)), (2, .int (nI j)), (3, .int (nI u)), (4, .int p3)]) hx hb dX6_meet_56 hl (by decide) rfl (fun ls hl => ?_)
  refine lv_iconst (v := nI 0) hx hb dX6_meet_58 (by decide) ?_
  refine lv_istore (lv' := [(9, .int (nI 0)), (8, .int (nI 0)), (7, .int (nI (zAm (S j)))), (6, .ref au), (5, .ref aj), (0, .ref x), (1, .int (nI i)), (2, .int (nI j)), (3, .int (nI u)), (4, .int p3)]) hx hb dX6_meet_59 hl (by decide) rfl (fun ls hl => ?_)
  refine (?_ : ∀ (t9 q9 n8 : Nat) (H : Heap) (locs : List Loc) (ls : Array Slot) (f : Nat → Int64) (c1 c2 : Nat), zAm (S j) - q9 < t9 → lv_has ls 10 [(9, .int (nI q9)), (8, .int (nI n8)), (7, .int (nI (zAm (S j)))), (6, .ref au), (5, .ref aj), (4, .int p3), (1, .int (nI i)), (0, .ref x)] → zCp ((thT mk 7 (zSv (S j))).map Prod.fst) (fun k9 : Int64 => decide ((if xHas (S u).2.1 k9 = true then (1 : Int32) else 0) = p3)) f q9 n8 → qP D N0 (qs (qs h x (.inr (6, [.int mk, .ref sl, .ref bl, .ref kr, .ref vr, .int (oCq (o, a, k).1), .int (nI (m0 + zAm (S j))), .int (nI Ed)]))) kr (.inl (cy 1, 1000, .inr (.inl f)))) H → va_S (qA N0) s.heap H locs → c1 ≤ 20 ∧ c2 ≤ 120 → W p l e _ s m _ below meth c H locs c1 c2 _ (F0 m 61 ls [])) (zAm (S j) + 1) 0 0 _ _ ls _ _ _ (by omega) (lv_sub hl [0, 1, 2, 3, 4, 9, 6, 5] rfl) zCp.init hP hS ⟨by omega, by omega⟩
  clear hl hP hS
  intro t9
  induction t9 with
  | zero => intro q9 _ _ _ _ _ _ _ h; exact absurd h (Nat.not_lt_zero _)
  | succ t9 ihl =>
    intro q9 n8 H locs ls f c1 c2 ht9 hl hcp hP hS hcc
    have hq9 := hcp.1
    have hn8 := hcp.le
    rw [hKl] at hq9
    replace faj := (qs_ne (h := (qs h x (.inr (6, [.int mk, .ref sl, .ref bl, .ref kr, .ref vr, .int (oCq (o, a, k).1), .int (nI (m0 + zAm (S j))), .int (nI Ed)])))) (a := kr) (o := (.inl (cy 1, 1000, .inr (.inl f)))) (fun z => by rw [z, hz.2.1.2.2.1.choose_spec] at faj; simp at faj)).trans faj
    replace fau := (qs_ne (h := (qs h x (.inr (6, [.int mk, .ref sl, .ref bl, .ref kr, .ref vr, .int (oCq (o, a, k).1), .int (nI (m0 + zAm (S j))), .int (nI Ed)])))) (a := kr) (o := (.inl (cy 1, 1000, .inr (.inl f)))) (fun z => by rw [z, hz.2.1.2.2.1.choose_spec] at fau; simp at fau)).trans fau
    replace hRj := hRj.keep (h' := qs (qs h x (.inr (6, [.int mk, .ref sl, .ref bl, .ref kr, .ref vr, .int (oCq (o, a, k).1), .int (nI (m0 + zAm (S j))), .int (nI Ed)]))) kr (.inl (cy 1, 1000, .inr (.inl f)))) (fun b o e y => (qs_ne (hz.2.2.2.2.2.1 b (Or.inl (y.resolve_right id))).2.2.2.1).trans e)
    replace hRu := hRu.keep (h' := qs (qs h x (.inr (6, [.int mk, .ref sl, .ref bl, .ref kr, .ref vr, .int (oCq (o, a, k).1), .int (nI (m0 + zAm (S j))), .int (nI Ed)]))) kr (.inl (cy 1, 1000, .inr (.inl f)))) (fun b o e y => (qs_ne (hz.2.2.2.2.2.1 b (Or.inl (y.resolve_right id))).2.2.2.1).trans e)
    replace hf := hf.trs (zFr.set (o' := .inl (cy 1, 1000, .inr (.inl f))) hz.2.1.2.2.1.choose_spec (Or.inr (Or.inr (Or.inl rfl))))
    replace hz := hz.rowk hV f
    have hkk : (qs (qs h x (.inr (6, [.int mk, .ref sl, .ref bl, .ref kr, .ref vr, .int (oCq (o, a, k).1), .int (nI (m0 + zAm (S j))), .int (nI Ed)]))) kr (.inl (cy 1, 1000, .inr (.inl f)))) kr = some (.inl (cy 1, 1000, .inr (.inl f))) := qs_self
    refine lv_iload hx hb dX6_meet_61 (lv_at hl 0 rfl) ?_
    refine lv_iload hx hb dX6_meet_63 (lv_at hl 2 rfl) ?_
    refine lv_icmp_ge (tgt := 115) hx hb dX6_meet_65 (by decide) (fun c65 => ?_) (fun c65 => ?_)
    · replace c65 : (zAm (S j)) ≤ q9 := (nI_leI (a := (zAm (S j))) (b := q9) (by omega) (by omega)).mp c65
      refine lv_aload_n hx hb dX6_meet_115 rfl (lv_at hl 7 rfl) ?_
      refine lv_iload_n hx hb dX6_meet_116 rfl (lv_at hl 6 rfl) ?_
      refine lv_aload hx hb dX6_meet_117 (lv_at hl 4 rfl) ?_
      refine q_get C hP faj rfl inX2 0 (by decide) g192 rfl dX6_meet_119 ?_
      refine lv_aload_n hx hb dX6_meet_122 rfl (lv_at hl 7 rfl) ?_
      refine lv_aload hx hb dX6_meet_123 (lv_at hl 4 rfl) ?_
      refine q_get C hP faj rfl inX2 2 (by decide) g198 rfl dX6_meet_125 ?_
      refine lv_iload hx hb dX6_meet_128 (lv_at hl 1 rfl) ?_
      have hmm : n8 * rMs U 7 ≤ U * rMs U 7 := Nat.mul_le_mul_right _ (by omega)
      refine q_callV (rest := [.int (nI 2), .int (nI i), .ref x]) C (z_withoutRow l D cy N0 (qs (qs h x (.inr (6, [.int mk, .ref sl, .ref bl, .ref kr, .ref vr, .int (oCq (o, a, k).1), .int (nI (m0 + zAm (S j))), .int (nI Ed)]))) kr (.inl (cy 1, 1000, .inr (.inl f)))) x mk sl bl kr vr Ed fs bd br eb Im Xb g S Bd sk Rn dp (oMv o (nI (m0 + zAm (S j)))) a k x2j (zSv (S j)) f n8 U hz hV hE9 hRj (zSv_no hnoj) (by rw [zSv_len]; omega) (by omega) hkk (by omega)) kX6_withoutRow g885 g887 rfl gp25 g1 hP hS hz.1.1 (by first | decide | omega) hl.1 rfl (by simp [q_catrf, q_cati, q_catl, q_cata, q_catn]) (by first | decide | omega) dX6_meet_130 (fun q ce E h' H1 locs1 hE => hE.elim) (fun v hh9 H locs hq hP hS => ?_)
      obtain ⟨x8, X8, Im8, rfl, hR8, hE8, hC8⟩ := hq
      have heb : ∀ b, b < 4 → ((S (24 + b)).1 = 1 ∨ (S (24 + b)).1 = 2) → eb b ≤ Ed := fun b hb y => (hz.2.2.2.2.2.2.2.2.1 b hb y).1
      replace faj := (qs_ne (h := (qs (qs h x (.inr (6, [.int mk, .ref sl, .ref bl, .ref kr, .ref vr, .int (oCq (o, a, k).1), .int (nI (m0 + zAm (S j))), .int (nI Ed)]))) kr (.inl (cy 1, 1000, .inr (.inl f))))) (a := x) (o := (.inr (6, [.int mk, .ref sl, .ref bl, .ref kr, .ref vr, .int (oCq (oMv o (nI (m0 + zAm (S j))), a, k).1), .int (oMq (oMv o (nI (m0 + zAm (S j))), a, k).1), .int (nI (Ed + 1))]))) (fun z => by rw [z, hz.1.1] at faj; simp at faj)).trans faj
      replace fau := (qs_ne (h := (qs (qs h x (.inr (6, [.int mk, .ref sl, .ref bl, .ref kr, .ref vr, .int (oCq (o, a, k).1), .int (nI (m0 + zAm (S j))), .int (nI Ed)]))) kr (.inl (cy 1, 1000, .inr (.inl f))))) (a := x) (o := (.inr (6, [.int mk, .ref sl, .ref bl, .ref kr, .ref vr, .int (oCq (oMv o (nI (m0 + zAm (S j))), a, k).1), .int (oMq (oMv o (nI (m0 + zAm (S j))), a, k).1), .int (nI (Ed + 1))]))) (fun z => by rw [z, hz.1.1] at fau; simp at fau)).trans fau
      replace hf := hf.trs (zFr.set (o' := .inr (6, [.int mk, .ref sl, .ref bl, .ref kr, .ref vr, .int (oCq (oMv o (nI (m0 + zAm (S j))), a, k).1), .int (oMq (oMv o (nI (m0 + zAm (S j))), a, k).1), .int (nI (Ed + 1))])) hz.1.1 (Or.inl rfl))
      replace hz := hz.up hV hE9
      have hle8 : qle (qs (qs (qs h x (.inr (6, [.int mk, .ref sl, .ref bl, .ref kr, .ref vr, .int (oCq (o, a, k).1), .int (nI (m0 + zAm (S j))), .int (nI Ed)]))) kr (.inl (cy 1, 1000, .inr (.inl f)))) x (.inr (6, [.int mk, .ref sl, .ref bl, .ref kr, .ref vr, .int (oCq (oMv o (nI (m0 + zAm (S j))), a, k).1), .int (oMq (oMv o (nI (m0 + zAm (S j))), a, k).1), .int (nI (Ed + 1))]))) hh9 := fun b o e => hC8.1 b o e (fun z => z)
      obtain ⟨Im3, hz3, hR3, hi1, hi2⟩ := hz.edit hV heb hR8 hE8 hC8
      have hi3 : ∀ b, Im3 b → Im b ∨ h b = none := fun b z => (hi2 b z).imp id (hf.2 b)
      replace faj := hle8 _ _ faj
      replace fau := hle8 _ _ fau
      replace hf := hf.trs (zFr.le hle8 (qle.dom hle8))
      replace hz := hz3
      refine q_callS (rest := [.int (nI i), .ref x]) C (c_X2_ofTrie l D cy N0 hh9 (nI 2) x8) kX2_ofTrie g437 g438 hP hS (by first | decide | omega) hl.1 rfl (by simp [q_catrf, q_cati, q_catl, q_cata, q_catn]) (by first | decide | omega) dX6_meet_133 (fun q ce E h' H1 locs1 hE => hE.elim) (fun v hh10 H locs hq hP hS => ?_)
      obtain ⟨qh, rfl, oqh, rfl⟩ := hq
      replace hP : qP D N0 (qs hh9 qh (.inr (2, [.int (nI 2), .null, va_rf x8, .null, .null, .int 0]))) H := hP
      have hleh : qle hh9 (qs hh9 qh (.inr (2, [.int (nI 2), .null, va_rf x8, .null, .null, .int 0]))) := qle_new oqh
      replace faj := hleh _ _ faj
      replace fau := hleh _ _ fau
      replace hR3 := hR3.le hleh
      replace hf := hf.trs (zFr.le hleh (qle.dom hleh))
      replace hz := hz.le hV hleh (qle.dom hleh)
      have fqh : (qs hh9 qh (.inr (2, [.int (nI 2), .null, va_rf x8, .null, .null, .int 0]))) qh = some (.inr (2, [.int (nI 2), .null, va_rf x8, .null, .null, .int 0])) := qs_self
      replace fqh : (qs hh9 qh (.inr (2, [.int (nI 2), .null, va_rf x8, .null, .null, .int 0]))) qh = some (.inr (2, [.int (S j).1, .null, va_rf x8, .null, .null, .int 0])) := by rw [hkj]; exact fqh
      have hMt : xMt (S u).2.1 p3 (S j).2.1 = (S j).2.1.filter (fun p => !(fun k9 : Int64 => decide ((if xHas (S u).2.1 k9 = true then (1 : Int32) else 0) = p3)) p.1) := List.filter_congr (fun p _ => decide_not)
      rw [zDs_cp hcp (by rw [hKl]; omega) thT_key] at hR3
      have zvn : zV cy (qs hh9 qh (.inr (2, [.int (nI 2), .null, va_rf x8, .null, .null, .int 0]))) Im3 (zOk (Ed + 1) eb S) mk g ((S j).1, xMt (S u).2.1 p3 (S j).2.1, (S j).2.2) none x8 none none 0 := Or.inr (Or.inr (Or.inr (Or.inl ⟨hk12j, rfl, rfl, rfl, rfl, by rw [hMt, zSv_fi (Q := fun k9 => !(fun k9 : Int64 => decide ((if xHas (S u).2.1 k9 = true then (1 : Int32) else 0) = p3)) k9)]; exact hR3⟩)))
      have hzp := hz.put hV hi (s := ((S j).1, xMt (S u).2.1 p3 (S j).2.1, (S j).2.2)) (show ¬ ((S j).1 = -1) from fun z => absurd (hkj.symm.trans z) (by decide)) ⟨none, x8, none, none, 0, fqh, zvn⟩
      have hfp : zFr h (qs (qs hh9 qh (.inr (2, [.int (nI 2), .null, va_rf x8, .null, .null, .int 0]))) sl (.inl (cy 3, 24, .inr (.inr (.inr (.inr (va_up fs i (some qh)))))))) x sl kr vr bd br Xb := hf.trs (zFr.set hz.2.1.1 (Or.inr (Or.inl rfl)))
      have hkd : qHd (qs hh9 qh (.inr (2, [.int (nI 2), .null, va_rf x8, .null, .null, .int 0]))) qh ((S j).1) none x8 none none 0 (nI (zAm ((S j).1, xMt (S u).2.1 p3 (S j).2.1, (S j).2.2))) := zHd.hd (s := ((S j).1, xMt (S u).2.1 p3 (S j).2.1, (S j).2.2)) fqh zvn
      refine q_callV (rest := []) C (c_X6_keep l D cy N0 (qs hh9 qh (.inr (2, [.int (nI 2), .null, va_rf x8, .null, .null, .int 0]))) x sl bl kr vr mk (oCq (oMv o (nI (m0 + zAm (S j))), a, k).1) (oMq (oMv o (nI (m0 + zAm (S j))), a, k).1) (nI (Ed + 1)) fs i qh ((S j).1) none x8 none none 0 (nI (zAm ((S j).1, xMt (S u).2.1 p3 (S j).2.1, (S j).2.2))) hz.1.1 hz.2.1.1 hi hkd) kX6_keep g218 g220 rfl gp1 g1 hP hS hz.1.1 (by first | decide | omega) hl.1 rfl (by decide) (by first | decide | omega) dX6_meet_136 (fun q ce E h' H1 locs1 hE => hE.elim) (fun v hh11 H locs hq hP hS => ?_)
      obtain ⟨rfl, rfl⟩ := hq
      replace faj := (qs_ne (h := (qs hh9 qh (.inr (2, [.int (nI 2), .null, va_rf x8, .null, .null, .int 0])))) (a := sl) (o := (.inl (cy 3, 24, .inr (.inr (.inr (.inr (va_up fs i (some qh)))))))) (fun z => by rw [z, hz.2.1.1] at faj; cases faj)).trans faj
      replace fau := (qs_ne (h := (qs hh9 qh (.inr (2, [.int (nI 2), .null, va_rf x8, .null, .null, .int 0])))) (a := sl) (o := (.inl (cy 3, 24, .inr (.inr (.inr (.inr (va_up fs i (some qh)))))))) (fun z => by rw [z, hz.2.1.1] at fau; cases fau)).trans fau
      have ex : (xs_meet S (nI i) (nI j) (nI u) p3 m0) = (0, qU S i ((S j).1, xMt (S u).2.1 p3 (S j).2.1, (S j).2.2), nI (xMt (S u).2.1 p3 (S j).2.1).length, m0 + zAm (S j)) := by unfold xs_meet; rw [if_neg (by rw [ebi, ebj, ebu]; decide), ecj, ecu, if_neg (by rw [hoj, hou]; decide), eci]; unfold xr_meet; rw [if_neg (by omega), ham]
      exact q_iret C hP hS ⟨by rw [ex], by first | (rw [ex]; done) | (rw [ex]; show some (Value.int (nI (zAm ((S j).1, xMt (S u).2.1 p3 (S j).2.1, (S j).2.2)))) = _; rw [zAm_n (s := ((S j).1, xMt (S u).2.1 p3 (S j).2.1, (S j).2.2)) hk6]), by rw [ex]; exact hzp.po1 hfp hi3⟩ (by omega) dX6_meet_139
    · replace c65 : ¬ (zAm (S j)) ≤ q9 := fun zq => c65 ((nI_leI (a := (zAm (S j))) (b := q9) (by omega) (by omega)).mpr zq)
      refine lv_aload hx hb dX6_meet_68 (lv_at hl 3 rfl) ?_
      refine q_get C hP fau rfl inX2 2 (by decide) g198 rfl dX6_meet_70 ?_
      refine lv_aload_n hx hb dX6_meet_73 rfl (lv_at hl 7 rfl) ?_
      refine q_get C hP hz.1.1 rfl inX6 0 (by decide) g68 rfl dX6_meet_74 ?_
      refine lv_aload_n hx hb dX6_meet_77 rfl (lv_at hl 7 rfl) ?_
      refine q_get C hP hz.1.1 rfl inX6 3 (by decide) g71 rfl dX6_meet_78 ?_
      refine lv_iload hx hb dX6_meet_81 (lv_at hl 0 rfl) ?_
      refine q_laldN C hP hkk (by omega) (by omega) dX6_meet_83 ?_
      refine q_callS (rest := []) C (c_X3_holds l D cy N0 (qs (qs h x (.inr (6, [.int mk, .ref sl, .ref bl, .ref kr, .ref vr, .int (oCq (o, a, k).1), .int (nI (m0 + zAm (S j))), .int (nI Ed)]))) kr (.inl (cy 1, 1000, .inr (.inl f)))) Im 0 (zOk Ed eb S) mk x2u (zSv (S u)) (fun _ => False) (f q9) hRu (by rw [zSv_len]; omega)) kX3_holds g293 g294 hP hS (by first | decide | omega) hl.1 rfl (by decide) (by first | decide | omega) dX6_meet_84 (fun q ce E h' H1 locs1 hE => hE.elim) (fun v hh12 H locs hq hP hS => ?_)
      obtain ⟨rfl, rfl⟩ := hq
      rw [zSv_has]
      obtain ⟨b9, hb9⟩ : ∃ z : Int32, nI (if xHas (S u).2.1 (f q9) = true then 1 else 0) = z := ⟨_, rfl⟩
      rw [hb9]
      have hbb : (if xHas (S u).2.1 (f q9) = true then (1 : Int32) else 0) = b9 := by rw [← hb9]; split <;> rfl
      refine lv_iload hx hb dX6_meet_87 (lv_at hl 5 rfl) ?_
      refine lv_icmp_ne (tgt := 109) hx hb dX6_meet_89 (by decide) (fun c89 => ?_) (fun c89 => ?_)
      · have hpn : (fun k9 : Int64 => decide ((if xHas (S u).2.1 k9 = true then (1 : Int32) else 0) = p3)) (f q9) = false := decide_eq_false (fun z => c89 (hbb.symm.trans z))
        refine lv_iinc (v := nI (q9 + 1)) (lv' := [(9, .int (nI (q9 + 1))), (8, .int (nI n8)), (7, .int (nI (zAm (S j)))), (6, .ref au), (5, .ref aj), (4, .int p3), (1, .int (nI i)), (0, .ref x)]) hx hb dX6_meet_109 hl (k := 0) rfl (nI_1 q9) (by decide) rfl (fun ls hl => ?_)
        refine lv_goto (tgt := 61) hx hb dX6_meet_112 (by decide) ?_
        exact ihl (q9 + 1) n8 H locs ls f _ _ (by omega) (lv_sub hl [0, 1, 2, 3, 4, 5, 6, 7] rfl) (hcp.no (by rw [hKl]; omega) hpn) hP hS hcc
      · have hpy : (fun k9 : Int64 => decide ((if xHas (S u).2.1 k9 = true then (1 : Int32) else 0) = p3)) (f q9) = true := decide_eq_true (hbb.trans c89)
        refine lv_aload_n hx hb dX6_meet_92 rfl (lv_at hl 7 rfl) ?_
        refine q_get C hP hz.1.1 rfl inX6 3 (by decide) g71 rfl dX6_meet_93 ?_
        refine lv_iload hx hb dX6_meet_96 (lv_at hl 1 rfl) ?_
        refine lv_aload_n hx hb dX6_meet_98 rfl (lv_at hl 7 rfl) ?_
        refine q_get C hP hz.1.1 rfl inX6 3 (by decide) g71 rfl dX6_meet_99 ?_
        refine lv_iload hx hb dX6_meet_102 (lv_at hl 0 rfl) ?_
        refine q_laldN C hP hkk (by omega) (by omega) dX6_meet_104 ?_
        refine q_lastN C hP hS hkk (by omega) (by omega) dX6_meet_105 (fun H locs hP hS => ?_)
        rw [qs_qs] at hP
        replace hP : qP D N0 (qs (qs h x (.inr (6, [.int mk, .ref sl, .ref bl, .ref kr, .ref vr, .int (oCq (o, a, k).1), .int (nI (m0 + zAm (S j))), .int (nI Ed)]))) kr (.inl (cy 1, 1000, .inr (.inl (vp_updL f n8 (f q9)))))) H := hP
        refine lv_iinc (v := nI (n8 + 1)) (lv' := [(8, .int (nI (n8 + 1))), (9, .int (nI q9)), (7, .int (nI (zAm (S j)))), (6, .ref au), (5, .ref aj), (4, .int p3), (1, .int (nI i)), (0, .ref x)]) hx hb dX6_meet_106 hl (k := 1) rfl (nI_1 n8) (by decide) rfl (fun ls hl => ?_)
        refine lv_iinc (v := nI (q9 + 1)) (lv' := [(9, .int (nI (q9 + 1))), (8, .int (nI (n8 + 1))), (7, .int (nI (zAm (S j)))), (6, .ref au), (5, .ref aj), (4, .int p3), (1, .int (nI i)), (0, .ref x)]) hx hb dX6_meet_109 hl (k := 1) rfl (nI_1 q9) (by decide) rfl (fun ls hl => ?_)
        refine lv_goto (tgt := 61) hx hb dX6_meet_112 (by decide) ?_
        exact ihl (q9 + 1) (n8 + 1) H locs ls (vp_updL f n8 (f q9)) _ _ (by omega) (lv_sub hl [0, 1, 2, 3, 4, 5, 6, 7] rfl) (hcp.yes (by rw [hKl]; omega) hpy) hP hS hcc
