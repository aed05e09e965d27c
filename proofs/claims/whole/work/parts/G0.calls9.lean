theorem bHo_53 {kd : Int32} (h : kd ∈ [(-1 : Int32), 0, 1, 2, 3, 4, 5, 6]) (e : bHo kd 53 = true) : kd = nI 0 ∨ kd = nI 4 ∨ kd = nI 5 ∨ kd = nI 2 := by
  simp only [List.mem_cons, List.not_mem_nil, or_false] at h
  rcases h with rfl | rfl | rfl | rfl | rfl | rfl | rfl | rfl <;> revert e <;> decide
theorem zPut_a {kd : Int32} {L : qKV} {k v : Int64} (h : kd = 0 ∨ kd = 4) : xPut kd true L k v = L ++ [(k, v)] := by
  unfold xPut
  rw [if_neg (fun z => by cases z.1), if_neg (by rcases h with e | e <;> rw [e] <;> decide)]
theorem zPut_h {kd : Int32} {L : qKV} {k v : Int64} (h : kd = 5) : xPut kd true L k v = xSi L k v := by
  unfold xPut
  rw [if_neg (fun z => by cases z.1), if_pos (Or.inr h)]
theorem dX6_add_11 : decode cX6_add 11 = .ok (.astore 5, 2) := by decide +kernel
theorem dX6_add_13 : decode cX6_add 13 = .ok (.aload 5, 2) := by decide +kernel
theorem dX6_add_15 : decode cX6_add 15 = .ok (.getfield 63, 3) := by decide +kernel
theorem dX6_add_18 : decode cX6_add 18 = .ok (.iconst 2, 1) := by decide +kernel
theorem dX6_add_19 : decode cX6_add 19 = .ok (.if_icmp .ne 32, 3) := by decide +kernel
theorem dX6_add_22 : decode cX6_add 22 = .ok (.aload_n 0, 1) := by decide +kernel
theorem dX6_add_23 : decode cX6_add 23 = .ok (.iload_n 1, 1) := by decide +kernel
theorem dX6_add_24 : decode cX6_add 24 = .ok (.aload 5, 2) := by decide +kernel
theorem dX6_add_26 : decode cX6_add 26 = .ok (.getfield 63, 3) := by decide +kernel
theorem dX6_add_29 : decode cX6_add 29 = .ok (.aload_n 0, 1) := by decide +kernel
theorem dX6_add_30 : decode cX6_add 30 = .ok (.aload 5, 2) := by decide +kernel
theorem dX6_add_32 : decode cX6_add 32 = .ok (.getfield 66, 3) := by decide +kernel
theorem dX6_add_35 : decode cX6_add 35 = .ok (.aload_n 0, 1) := by decide +kernel
theorem dX6_add_36 : decode cX6_add 36 = .ok (.invokevirtual 70, 3) := by decide +kernel
theorem dX6_add_39 : decode cX6_add 39 = .ok (.lload_n 3, 1) := by decide +kernel
theorem dX6_add_40 : decode cX6_add 40 = .ok (.lconst 1, 1) := by decide +kernel
theorem dX6_add_41 : decode cX6_add 41 = .ok (.invokevirtual 73, 3) := by decide +kernel
theorem dX6_add_44 : decode cX6_add 44 = .ok (.invokestatic 77, 3) := by decide +kernel
theorem dX6_add_47 : decode cX6_add 47 = .ok (.invokevirtual 51, 3) := by decide +kernel
theorem dX6_add_50 : decode cX6_add 50 = .ok (.ireturn, 1) := by decide +kernel
theorem dX6_add_51 : decode cX6_add 51 = .ok (.aload 5, 2) := by decide +kernel
theorem dX6_add_53 : decode cX6_add 53 = .ok (.invokevirtual 59, 3) := by decide +kernel
theorem dX6_add_56 : decode cX6_add 56 = .ok (.iconst 1, 1) := by decide +kernel
theorem dX6_add_57 : decode cX6_add 57 = .ok (.iadd, 1) := by decide +kernel
theorem dX6_add_58 : decode cX6_add 58 = .ok (.invokestatic 81, 3) := by decide +kernel
theorem dX6_add_61 : decode cX6_add 61 = .ok (.aload 5, 2) := by decide +kernel
theorem dX6_add_63 : decode cX6_add 63 = .ok (.getfield 63, 3) := by decide +kernel
theorem dX6_add_66 : decode cX6_add 66 = .ok (.iconst 5, 1) := by decide +kernel
theorem dX6_add_67 : decode cX6_add 67 = .ok (.if_icmp .ne 30, 3) := by decide +kernel
theorem dX6_add_70 : decode cX6_add 70 = .ok (.aload_n 0, 1) := by decide +kernel
theorem dX6_add_71 : decode cX6_add 71 = .ok (.iload_n 1, 1) := by decide +kernel
theorem dX6_add_72 : decode cX6_add 72 = .ok (.aload 5, 2) := by decide +kernel
theorem dX6_add_74 : decode cX6_add 74 = .ok (.getfield 84, 3) := by decide +kernel
theorem dX6_add_77 : decode cX6_add 77 = .ok (.new 88, 3) := by decide +kernel
theorem dX6_add_80 : decode cX6_add 80 = .ok (.dup, 1) := by decide +kernel
theorem dX6_add_81 : decode cX6_add 81 = .ok (.lload_n 3, 1) := by decide +kernel
theorem dX6_add_82 : decode cX6_add 82 = .ok (.aconst_null, 1) := by decide +kernel
theorem dX6_add_83 : decode cX6_add 83 = .ok (.aconst_null, 1) := by decide +kernel
theorem dX6_add_84 : decode cX6_add 84 = .ok (.invokespecial 90, 3) := by decide +kernel
theorem dX6_add_87 : decode cX6_add 87 = .ok (.invokestatic 93, 3) := by decide +kernel
theorem dX6_add_90 : decode cX6_add 90 = .ok (.invokestatic 97, 3) := by decide +kernel
theorem dX6_add_93 : decode cX6_add 93 = .ok (.invokevirtual 51, 3) := by decide +kernel
theorem dX6_add_96 : decode cX6_add 96 = .ok (.ireturn, 1) := by decide +kernel
theorem dX6_add_97 : decode cX6_add 97 = .ok (.aload_n 0, 1) := by decide +kernel
theorem dX6_add_98 : decode cX6_add 98 = .ok (.iload_n 1, 1) := by decide +kernel
theorem dX6_add_99 : decode cX6_add 99 = .ok (.aload 5, 2) := by decide +kernel
theorem dX6_add_101 : decode cX6_add 101 = .ok (.getfield 63, 3) := by decide +kernel
theorem dX6_add_104 : decode cX6_add 104 = .ok (.aload 5, 2) := by decide +kernel
theorem dX6_add_106 : decode cX6_add 106 = .ok (.getfield 101, 3) := by decide +kernel
theorem dX6_add_109 : decode cX6_add 109 = .ok (.lconst 0, 1) := by decide +kernel
theorem dX6_add_110 : decode cX6_add 110 = .ok (.lload_n 3, 1) := by decide +kernel
theorem dX6_add_111 : decode cX6_add 111 = .ok (.aconst_null, 1) := by decide +kernel
theorem dX6_add_112 : decode cX6_add 112 = .ok (.invokestatic 105, 3) := by decide +kernel
theorem dX6_add_115 : decode cX6_add 115 = .ok (.invokestatic 111, 3) := by decide +kernel
theorem dX6_add_118 : decode cX6_add 118 = .ok (.invokevirtual 51, 3) := by decide +kernel
theorem dX6_add_121 : decode cX6_add 121 = .ok (.ireturn, 1) := by decide +kernel
set_option maxRecDepth 100000 in
set_option maxHeartbeats 4000000 in
theorem z_add (l : Launch) (D : va_G) (cy : Nat → ClassId) (N0 : Nat) (h : qH) (x : Nat) (mk : Int32) (sl bl kr vr Ed : Nat) (fs : Nat → Option Nat) (bd br eb : Nat → Nat) (Im : Nat → Prop) (Xb : Nat → Nat → Prop) (g : Nat → Nat) (S : Nat → qSlot) (W : qWo) (Bd sk Rn : Nat) (dp : Nat → Nat) (gr : Int32) (p0 p1 : Int32) (p2 : Int64) (hz : zQ cy h x mk sl bl kr vr Ed fs bd br eb Im Xb g S W) (hI : ∀ i, i < 28 → qOk (S i).1 (S i).2.1) (hLn : ∀ i, i < 28 → (S i).2.1.length ≤ 1000) (hV : qWv Bd sk Rn dp W) (hmk : qMk gr = mk) (hAl : ∀ i, i < 28 → ((S i).1 = 1 ∨ (S i).1 = 2) → ∀ k, xAl gr (S i).2.1 k ≤ 16) (h64 : ∀ i, i < 28 → ((S i).1 = 1 ∨ (S i).1 = 2 ∨ (S i).1 = 3) → (S i).2.1.length ≤ 64) (hE9 : Ed + 1 < 1000) : qC l D cy N0 yX6_add cX6_add 6 (some .int) 40 2200 90 2000 [.ref x, .int p0, .int p1, .long p2] h (fun v h' => (xs_add gr S p0 p1 p2).1 = 0 ∧ v = some (.int (xs_add gr S p0 p1 p2).2.2) ∧ zPo cy h x mk sl bl kr vr Ed bd br Im Xb ((xs_add gr S p0 p1 p2).2.1) W h') (fun E h' => zXc [(1, "java/lang/IllegalArgumentException"), (2, "java/lang/IllegalStateException"), (3, "java/lang/IndexOutOfBoundsException")] E (xs_add gr S p0 p1 p2).1 ∧ zPo cy h x mk sl bl kr vr Ed bd br Im Xb S W h') := by
  refine q_ofW (by decide) (by exact Nat.le_of_ble_eq_true rfl) ?_
  intro p e s m below meth c ls C hP hl
  have hx := C.1
  have hb := C.2.1
  have hS : va_S (qA N0) s.heap s.heap [] := va_S.rf
  have hl : lv_has ls 6 [(0, .ref x), (1, .int p0), (2, .int p1), (3, .long p2)] := hl
  have hf : zFr h h x sl kr vr bd br Xb := zFr.rf
  have hms := aMs64
  refine lv_iload_n hx hb dX6_add_0 rfl (lv_at hl 1 rfl) ?_
  refine q_callS (rest := []) C (c_X6_needSlot l D cy N0 h p0) kX6_needSlot g104 g105 hP hS (by first | decide | omega) hl.1 rfl (by decide) (by first | decide | omega) dX6_add_1 (fun q ce E h' H1 locs1 hE hP hS hc1 hc2 hc3 => by obtain ⟨rfl, rfl, hn9⟩ := hE; have eb9 := bSl_f hn9; exact q_out C hP hS hc1 hc2 hc3 (by have ex : (xs_add gr S p0 p1 p2) = (1, S, 0) := (by unfold xs_add; rw [if_pos (Or.inl eb9)]); exact ⟨by rw [ex]; exact .head _, by exact hz.po hf⟩) (by omega)) (fun v hh1 H locs hq hP hS => ?_)
  obtain ⟨rfl, rfl, sl9⟩ := hq
  obtain ⟨i, hi, rfl⟩ := sl9.of
  have ebi : bSl (nI i) = true := bSl_t sl9
  have eci : (nI i).toNatClampNeg = i := nI_clamp (by omega)
  refine lv_aload_n hx hb dX6_add_4 rfl (lv_at hl 0 rfl) ?_
  refine lv_iload_n hx hb dX6_add_5 rfl (lv_at hl 2 rfl) ?_
  refine lv_bipush (v := nI 53) hx hb dX6_add_6 (by decide) ?_
  refine q_callV (rest := []) C (z_heldIn l D N0 p1 53 hz hI) kX6_heldIn g243 g245 rfl gp2 g1 hP hS hz.1.1 (by first | decide | omega) hl.1 rfl (by decide) (by first | decide | omega) dX6_add_8 (fun q ce E h' H1 locs1 hE hP hS hc1 hc2 hc3 => hE.2.elim (fun y => by obtain ⟨rfl, -⟩ := hE; obtain ⟨rfl, hn9⟩ := y; exact q_out C hP hS hc1 hc2 hc3 (by have ex : (xs_add gr S (nI i) p1 p2) = (1, S, 0) := (by have ebj := hn9; unfold xs_add; rw [if_pos (Or.inr ebj)]); exact ⟨by rw [ex]; exact .head _, by exact hz.po hf⟩) (by omega)) (fun y => by obtain ⟨rfl, -⟩ := hE; obtain ⟨rfl, j, hi8, rfl, ho8⟩ := y; exact q_out C hP hS hc1 hc2 hc3 (by have ex : (xs_add gr S (nI i) (nI j) p2) = (2, S, 0) := (by have ebj : bSl (nI j) = true := bSl_t (qSl.nI hi8); have ecj : (nI j).toNatClampNeg = j := nI_clamp (by omega); have hoj := ho8; unfold xs_add; rw [if_neg (by rw [ebi, ebj]; decide), ecj, if_pos hoj]); exact ⟨by rw [ex]; exact .tail _ (.head _), by exact hz.po hf⟩) (by omega))) (fun v hh2 H locs hq hP hS => ?_)
  obtain ⟨rfl, j, aj, hj, rfl, hfsj, rfl, hoj, x1j, x2j, x3j, x4j, dvj, faj, zvj⟩ := hq
  have ebj : bSl (nI j) = true := bSl_t (qSl.nI hj)
  have ecj : (nI j).toNatClampNeg = j := nI_clamp (by omega)
  rcases bHo_53 (hI j (by omega)).2.2 hoj with hk9 | hk9 | hk9 | hk9
  · have hk6 : ¬ (S j).1 = 6 := fun z => absurd (hk9.symm.trans z) (by decide)
    have ham : zAm (S j) = (S j).2.1.length := zAm_n hk6
    have he9 : decide (¬ (S j).1 = 2) = true := decide_eq_true (fun z => absurd (hk9.symm.trans z) (by decide))
    have hlen : (xPut (S j).1 true (S j).2.1 p2 0).length = (S j).2.1.length + 1 := by rw [xPut_len, if_neg (fun z => by cases z.1)]
    have n12 : ¬ ((S j).1 = 1 ∨ (S j).1 = 2) := fun z => z.elim (fun z => absurd (hk9.symm.trans z) (by decide)) (fun z => absurd (hk9.symm.trans z) (by decide))
    rw [hk9] at faj
    have hput := zPut_a (L := (S j).2.1) (k := p2) (v := 0) (Or.inl hk9)
    obtain ⟨rfl, rfl, rfl, rfl, n9, hb9⟩ := zvj.seq (Or.inl hk9)
    have hlm : ((S j).2.1.map (fun p => ((0 : Int64), p.1))).length = (S j).2.1.length := List.length_map ..
    have hl9 := hLn j (by omega)
    have hn14 : n9 ≤ 14 := hb9.h14 (by omega)
    refine lv_astore (lv' := [(5, .ref aj), (0, .ref x), (1, .int (nI i)), (2, .int (nI j)), (3, .long p2)]) hx hb dX6_add_11 hl (by decide) rfl (fun ls hl => ?_)
    refine lv_aload hx hb dX6_add_13 (lv_at hl 0 rfl) ?_
    refine q_get C hP faj rfl inX2 0 (by decide) g192 rfl dX6_add_15 ?_
    refine lv_iconst (v := nI 2) hx hb dX6_add_18 (by decide) ?_
    refine lv_icmp_ne (tgt := 51) hx hb dX6_add_19 (by decide) (fun c19 => ?_) (fun c19 => ?_)
    · replace c19 : ¬ 0 = 2 := fun zq => c19 ((nI_eq (a := 0) (b := 2) (by omega) (by omega)).mpr zq)
      refine lv_aload hx hb dX6_add_51 (lv_at hl 0 rfl) ?_
      obtain ⟨t1j, t2j, t3j, f1j, f2j, f3j, etj⟩ := zvj.size
      refine q_callV (rest := []) C (c_X2_amount l D cy N0 h aj (nI 0) 0 t1j t2j t3j x1j none none none faj f1j f2j f3j) kX2_amount g222 g223 rfl g224 g10 hP hS faj (by first | decide | omega) hl.1 rfl (by decide) (by first | decide | omega) dX6_add_53 (fun q ce E h' H1 locs1 hE => hE.elim) (fun v hh3 H locs hq hP hS => ?_)
      obtain ⟨rfl, rfl⟩ := hq
      rw [← etj]
      refine lv_iconst (v := nI 1) hx hb dX6_add_56 (by decide) ?_
      refine q_iaddN hx hb dX6_add_57 ?_
      refine q_callS (rest := []) C (c_X6_needRoom l D cy N0 h (nI (zAm (S j) + 1))) kX6_needRoom g324 g325 hP hS (by first | decide | omega) hl.1 rfl (by decide) (by first | decide | omega) dX6_add_58 (fun q ce E h' H1 locs1 hE hP hS hc1 hc2 hc3 => by obtain ⟨rfl, rfl, hn9⟩ := hE; replace hn9 : ¬ zAm (S j) + 1 ≤ 1000 := fun z => hn9 ((nI_leI (a := zAm (S j) + 1) (b := 1000) (by omega) (by omega)).mpr z); exact q_out C hP hS hc1 hc2 hc3 (by have ex : (xs_add gr S (nI i) (nI j) p2) = (3, S, 0) := (by unfold xs_add; rw [if_neg (by rw [ebi, ebj]; decide), ecj, if_neg (by rw [hoj]; decide), he9, if_pos (Or.inl (by rw [hlen]; omega))]); exact ⟨by rw [ex]; exact .tail _ (.tail _ (.head _)), by exact hz.po hf⟩) (by omega)) (fun v hh4 H locs hq hP hS => ?_)
      obtain ⟨rfl, rfl, hr9⟩ := hq
      replace hr9 := (nI_leI (a := zAm (S j) + 1) (b := 1000) (by omega) (by omega)).mp hr9
      refine lv_aload hx hb dX6_add_61 (lv_at hl 0 rfl) ?_
      refine q_get C hP faj rfl inX2 0 (by decide) g192 rfl dX6_add_63 ?_
      refine lv_iconst (v := nI 5) hx hb dX6_add_66 (by decide) ?_
      refine lv_icmp_ne (tgt := 97) hx hb dX6_add_67 (by decide) (fun c67 => ?_) (fun c67 => ?_)
      · replace c67 : ¬ 0 = 5 := fun zq => c67 ((nI_eq (a := 0) (b := 5) (by omega) (by omega)).mpr zq)
        refine lv_aload_n hx hb dX6_add_97 rfl (lv_at hl 1 rfl) ?_
        refine lv_iload_n hx hb dX6_add_98 rfl (lv_at hl 2 rfl) ?_
        refine lv_aload hx hb dX6_add_99 (lv_at hl 0 rfl) ?_
        refine q_get C hP faj rfl inX2 0 (by decide) g192 rfl dX6_add_101 ?_
        refine lv_aload hx hb dX6_add_104 (lv_at hl 0 rfl) ?_
        refine q_get C hP faj rfl inX2 1 (by decide) g195 rfl dX6_add_106 ?_
        refine lv_lconst (v := 0) hx hb dX6_add_109 (by decide) ?_
        refine lv_lload_n hx hb dX6_add_110 rfl (lv_at hl 4 rfl) ?_
        refine lv_null hx hb dX6_add_111 ?_
        refine q_callSN (host := RX6) (rest := [.int (nI 0), .int (nI i), .ref x]) C (c_X0_linked l D cy N0 (n9 + 0 + 1) h x1j 0 p2 none n9 0 ((S j).2.1.map (fun p => ((0 : Int64), p.1))) [] hb9 qBr.nil (by rw [List.length_nil]; omega) (by omega)) kX0_linked (by decide +kernel) g473 hP hS (by first | decide | omega) hl.1 rfl (by simp [q_catrf, q_cati, q_catl, q_cata, q_catn]) (by first | decide | omega) dX6_add_112 (fun v hh5 H locs hq hP hS => ?_)
        obtain ⟨r8, n8, rfl, hle8, hb8, -⟩ := hq
        replace faj := hle8 _ _ faj
        replace zvj := zvj.le hle8
        replace hb9 := hb9.le hle8
        replace hf := hf.trs (zFr.le hle8 (qle.dom hle8))
        replace hz := hz.le hV hle8 (qle.dom hle8)
        refine q_callS (rest := [.int (nI i), .ref x]) C (c_X2_ofTree l D cy N0 hh5 (nI 0) r8) kX2_ofTree g516 g517 hP hS (by first | decide | omega) hl.1 rfl (by simp [q_catrf, q_cati, q_catl, q_cata, q_catn]) (by first | decide | omega) dX6_add_115 (fun q ce E h' H1 locs1 hE => hE.elim) (fun v hh6 H locs hq hP hS => ?_)
        obtain ⟨qh, rfl, oqh, rfl⟩ := hq
        replace hP : qP D N0 (qs hh5 qh (.inr (2, [.int (nI 0), va_rf r8, .null, .null, .null, .int 0]))) H := hP
        have hleh : qle hh5 (qs hh5 qh (.inr (2, [.int (nI 0), va_rf r8, .null, .null, .null, .int 0]))) := qle_new oqh
        replace faj := hleh _ _ faj
        replace zvj := zvj.le hleh
        replace hb9 := hb9.le hleh
        replace hb8 := hb8.le hleh
        replace hf := hf.trs (zFr.le hleh (qle.dom hleh))
        replace hz := hz.le hV hleh (qle.dom hleh)
        have fqh : (qs hh5 qh (.inr (2, [.int (nI 0), va_rf r8, .null, .null, .null, .int 0]))) qh = some (.inr (2, [.int (nI 0), va_rf r8, .null, .null, .null, .int 0])) := qs_self
        replace fqh : (qs hh5 qh (.inr (2, [.int (nI 0), va_rf r8, .null, .null, .null, .int 0]))) qh = some (.inr (2, [.int (S j).1, va_rf r8, .null, .null, .null, .int 0])) := by rw [hk9]; exact fqh
        have zvn : zV cy (qs hh5 qh (.inr (2, [.int (nI 0), va_rf r8, .null, .null, .null, .int 0]))) Im (zOk Ed eb S) mk g ((S j).1, (S j).2.1 ++ [(p2, 0)], (S j).2.2) r8 none none none 0 := Or.inl ⟨Or.inl hk9, rfl, rfl, rfl, rfl, n8, by rw [List.map_append]; exact hb8⟩
        have hzp := hz.put hV hi (s := ((S j).1, (S j).2.1 ++ [(p2, 0)], (S j).2.2)) (show ¬ ((S j).1 = -1) from fun z => absurd (hk9.symm.trans z) (by decide)) ⟨r8, none, none, none, 0, fqh, zvn⟩
        have hfp : zFr h (qs (qs hh5 qh (.inr (2, [.int (nI 0), va_rf r8, .null, .null, .null, .int 0]))) sl (.inl (cy 3, 24, .inr (.inr (.inr (.inr (va_up fs i (some qh)))))))) x sl kr vr bd br Xb := hf.trs (zFr.set hz.2.1.1 (Or.inr (Or.inl rfl)))
        have hkd : qHd (qs hh5 qh (.inr (2, [.int (nI 0), va_rf r8, .null, .null, .null, .int 0]))) qh ((S j).1) r8 none none none 0 (nI (zAm ((S j).1, (S j).2.1 ++ [(p2, 0)], (S j).2.2))) := zHd.hd (s := ((S j).1, (S j).2.1 ++ [(p2, 0)], (S j).2.2)) fqh zvn
        refine q_callV (rest := []) C (c_X6_keep l D cy N0 (qs hh5 qh (.inr (2, [.int (nI 0), va_rf r8, .null, .null, .null, .int 0]))) x sl bl kr vr mk (oCq W.1) (oMq W.1) (nI Ed) fs i qh ((S j).1) r8 none none none 0 (nI (zAm ((S j).1, (S j).2.1 ++ [(p2, 0)], (S j).2.2))) hz.1.1 hz.2.1.1 hi hkd) kX6_keep g218 g220 rfl gp1 g1 hP hS hz.1.1 (by first | decide | omega) hl.1 rfl (by decide) (by first | decide | omega) dX6_add_118 (fun q ce E h' H1 locs1 hE => hE.elim) (fun v hh7 H locs hq hP hS => ?_)
        obtain ⟨rfl, rfl⟩ := hq
        replace faj := (qs_ne (h := (qs hh5 qh (.inr (2, [.int (nI 0), va_rf r8, .null, .null, .null, .int 0])))) (a := sl) (o := (.inl (cy 3, 24, .inr (.inr (.inr (.inr (va_up fs i (some qh)))))))) (fun z => by rw [z, hz.2.1.1] at faj; cases faj)).trans faj
        have ex : (xs_add gr S (nI i) (nI j) p2) = (0, qU S i ((S j).1, (S j).2.1 ++ [(p2, 0)], (S j).2.2), nI ((S j).2.1 ++ [(p2, 0)]).length) := by unfold xs_add; rw [if_neg (by rw [ebi, ebj]; decide), ecj, if_neg (by rw [hoj]; decide), he9, if_neg (fun z => z.elim (fun z => by rw [hlen] at z; omega) (fun z => n12 z.2)), eci, hput]
        exact q_iret C hP hS ⟨by rw [ex], by first | (rw [ex]; done) | (rw [ex]; show some (Value.int (nI (zAm ((S j).1, (S j).2.1 ++ [(p2, 0)], (S j).2.2)))) = _; rw [zAm_n (s := ((S j).1, (S j).2.1 ++ [(p2, 0)], (S j).2.2)) hk6]), by rw [ex]; exact hzp.po hfp⟩ (by omega) dX6_add_121
      · replace c67 : 0 = 5 := (nI_eq (a := 0) (b := 5) (by omega) (by omega)).mp c67
        exfalso; omega
    · replace c19 : 0 = 2 := (nI_eq (a := 0) (b := 2) (by omega) (by omega)).mp c19
      exfalso; omega
  · have hk6 : ¬ (S j).1 = 6 := fun z => absurd (hk9.symm.trans z) (by decide)
    have ham : zAm (S j) = (S j).2.1.length := zAm_n hk6
    have he9 : decide (¬ (S j).1 = 2) = true := decide_eq_true (fun z => absurd (hk9.symm.trans z) (by decide))
    have hlen : (xPut (S j).1 true (S j).2.1 p2 0).length = (S j).2.1.length + 1 := by rw [xPut_len, if_neg (fun z => by cases z.1)]
    have n12 : ¬ ((S j).1 = 1 ∨ (S j).1 = 2) := fun z => z.elim (fun z => absurd (hk9.symm.trans z) (by decide)) (fun z => absurd (hk9.symm.trans z) (by decide))
    rw [hk9] at faj
    have hput := zPut_a (L := (S j).2.1) (k := p2) (v := 0) (Or.inr hk9)
    obtain ⟨rfl, rfl, rfl, rfl, n9, hb9⟩ := zvj.seq (Or.inr hk9)
    have hlm : ((S j).2.1.map (fun p => ((0 : Int64), p.1))).length = (S j).2.1.length := List.length_map ..
    have hl9 := hLn j (by omega)
    have hn14 : n9 ≤ 14 := hb9.h14 (by omega)
    refine lv_astore (lv' := [(5, .ref aj), (0, .ref x), (1, .int (nI i)), (2, .int (nI j)), (3, .long p2)]) hx hb dX6_add_11 hl (by decide) rfl (fun ls hl => ?_)
    refine lv_aload hx hb dX6_add_13 (lv_at hl 0 rfl) ?_
    refine q_get C hP faj rfl inX2 0 (by decide) g192 rfl dX6_add_15 ?_
    refine lv_iconst (v := nI 2) hx hb dX6_add_18 (by decide) ?_
    refine lv_icmp_ne (tgt := 51) hx hb dX6_add_19 (by decide) (fun c19 => ?_) (fun c19 => ?_)
    · replace c19 : ¬ 4 = 2 := fun zq => c19 ((nI_eq (a := 4) (b := 2) (by omega) (by omega)).mpr zq)
      refine lv_aload hx hb dX6_add_51 (lv_at hl 0 rfl) ?_
      obtain ⟨t1j, t2j, t3j, f1j, f2j, f3j, etj⟩ := zvj.size
      refine q_callV (rest := []) C (c_X2_amount l D cy N0 h aj (nI 4) 0 t1j t2j t3j x1j none none none faj f1j f2j f3j) kX2_amount g222 g223 rfl g224 g10 hP hS faj (by first | decide | omega) hl.1 rfl (by decide) (by first | decide | omega) dX6_add_53 (fun q ce E h' H1 locs1 hE => hE.elim) (fun v hh8 H locs hq hP hS => ?_)
      obtain ⟨rfl, rfl⟩ := hq
      rw [← etj]
      refine lv_iconst (v := nI 1) hx hb dX6_add_56 (by decide) ?_
      refine q_iaddN hx hb dX6_add_57 ?_
      refine q_callS (rest := []) C (c_X6_needRoom l D cy N0 h (nI (zAm (S j) + 1))) kX6_needRoom g324 g325 hP hS (by first | decide | omega) hl.1 rfl (by decide) (by first | decide | omega) dX6_add_58 (fun q ce E h' H1 locs1 hE hP hS hc1 hc2 hc3 => by obtain ⟨rfl, rfl, hn9⟩ := hE; replace hn9 : ¬ zAm (S j) + 1 ≤ 1000 := fun z => hn9 ((nI_leI (a := zAm (S j) + 1) (b := 1000) (by omega) (by omega)).mpr z); exact q_out C hP hS hc1 hc2 hc3 (by have ex : (xs_add gr S (nI i) (nI j) p2) = (3, S, 0) := (by unfold xs_add; rw [if_neg (by rw [ebi, ebj]; decide), ecj, if_neg (by rw [hoj]; decide), he9, if_pos (Or.inl (by rw [hlen]; omega))]); exact ⟨by rw [ex]; exact .tail _ (.tail _ (.head _)), by exact hz.po hf⟩) (by omega)) (fun v hh9 H locs hq hP hS => ?_)
      obtain ⟨rfl, rfl, hr9⟩ := hq
      replace hr9 := (nI_leI (a := zAm (S j) + 1) (b := 1000) (by omega) (by omega)).mp hr9
      refine lv_aload hx hb dX6_add_61 (lv_at hl 0 rfl) ?_
      refine q_get C hP faj rfl inX2 0 (by decide) g192 rfl dX6_add_63 ?_
      refine lv_iconst (v := nI 5) hx hb dX6_add_66 (by decide) ?_
      refine lv_icmp_ne (tgt := 97) hx hb dX6_add_67 (by decide) (fun c67 => ?_) (fun c67 => ?_)
      · replace c67 : ¬ 4 = 5 := fun zq => c67 ((nI_eq (a := 4) (b := 5) (by omega) (by omega)).mpr zq)
        refine lv_aload_n hx hb dX6_add_97 rfl (lv_at hl 1 rfl) ?_
        refine lv_iload_n hx hb dX6_add_98 rfl (lv_at hl 2 rfl) ?_
        refine lv_aload hx hb dX6_add_99 (lv_at hl 0 rfl) ?_
        refine q_get C hP faj rfl inX2 0 (by decide) g192 rfl dX6_add_101 ?_
        refine lv_aload hx hb dX6_add_104 (lv_at hl 0 rfl) ?_
        refine q_get C hP faj rfl inX2 1 (by decide) g195 rfl dX6_add_106 ?_
        refine lv_lconst (v := 0) hx hb dX6_add_109 (by decide) ?_
        refine lv_lload_n hx hb dX6_add_110 rfl (lv_at hl 4 rfl) ?_
        refine lv_null hx hb dX6_add_111 ?_
        refine q_callSN (host := RX6) (rest := [.int (nI 4), .int (nI i), .ref x]) C (c_X0_linked l D cy N0 (n9 + 0 + 1) h x1j 0 p2 none n9 0 ((S j).2.1.map (fun p => ((0 : Int64), p.1))) [] hb9 qBr.nil (by rw [List.length_nil]; omega) (by omega)) kX0_linked (by decide +kernel) g473 hP hS (by first | decide | omega) hl.1 rfl (by simp [q_catrf, q_cati, q_catl, q_cata, q_catn]) (by first | decide | omega) dX6_add_112 (fun v hh10 H locs hq hP hS => ?_)
        obtain ⟨r8, n8, rfl, hle8, hb8, -⟩ := hq
        replace faj := hle8 _ _ faj
        replace zvj := zvj.le hle8
        replace hb9 := hb9.le hle8
        replace hf := hf.trs (zFr.le hle8 (qle.dom hle8))
        replace hz := hz.le hV hle8 (qle.dom hle8)
        refine q_callS (rest := [.int (nI i), .ref x]) C (c_X2_ofTree l D cy N0 hh10 (nI 4) r8) kX2_ofTree g516 g517 hP hS (by first | decide | omega) hl.1 rfl (by simp [q_catrf, q_cati, q_catl, q_cata, q_catn]) (by first | decide | omega) dX6_add_115 (fun q ce E h' H1 locs1 hE => hE.elim) (fun v hh11 H locs hq hP hS => ?_)
        obtain ⟨qh, rfl, oqh, rfl⟩ := hq
        replace hP : qP D N0 (qs hh10 qh (.inr (2, [.int (nI 4), va_rf r8, .null, .null, .null, .int 0]))) H := hP
        have hleh : qle hh10 (qs hh10 qh (.inr (2, [.int (nI 4), va_rf r8, .null, .null, .null, .int 0]))) := qle_new oqh
        replace faj := hleh _ _ faj
        replace zvj := zvj.le hleh
        replace hb9 := hb9.le hleh
        replace hb8 := hb8.le hleh
        replace hf := hf.trs (zFr.le hleh (qle.dom hleh))
        replace hz := hz.le hV hleh (qle.dom hleh)
        have fqh : (qs hh10 qh (.inr (2, [.int (nI 4), va_rf r8, .null, .null, .null, .int 0]))) qh = some (.inr (2, [.int (nI 4), va_rf r8, .null, .null, .null, .int 0])) := qs_self
        replace fqh : (qs hh10 qh (.inr (2, [.int (nI 4), va_rf r8, .null, .null, .null, .int 0]))) qh = some (.inr (2, [.int (S j).1, va_rf r8, .null, .null, .null, .int 0])) := by rw [hk9]; exact fqh
        have zvn : zV cy (qs hh10 qh (.inr (2, [.int (nI 4), va_rf r8, .null, .null, .null, .int 0]))) Im (zOk Ed eb S) mk g ((S j).1, (S j).2.1 ++ [(p2, 0)], (S j).2.2) r8 none none none 0 := Or.inl ⟨Or.inr hk9, rfl, rfl, rfl, rfl, n8, by rw [List.map_append]; exact hb8⟩
        have hzp := hz.put hV hi (s := ((S j).1, (S j).2.1 ++ [(p2, 0)], (S j).2.2)) (show ¬ ((S j).1 = -1) from fun z => absurd (hk9.symm.trans z) (by decide)) ⟨r8, none, none, none, 0, fqh, zvn⟩
        have hfp : zFr h (qs (qs hh10 qh (.inr (2, [.int (nI 4), va_rf r8, .null, .null, .null, .int 0]))) sl (.inl (cy 3, 24, .inr (.inr (.inr (.inr (va_up fs i (some qh)))))))) x sl kr vr bd br Xb := hf.trs (zFr.set hz.2.1.1 (Or.inr (Or.inl rfl)))
        have hkd : qHd (qs hh10 qh (.inr (2, [.int (nI 4), va_rf r8, .null, .null, .null, .int 0]))) qh ((S j).1) r8 none none none 0 (nI (zAm ((S j).1, (S j).2.1 ++ [(p2, 0)], (S j).2.2))) := zHd.hd (s := ((S j).1, (S j).2.1 ++ [(p2, 0)], (S j).2.2)) fqh zvn
        refine q_callV (rest := []) C (c_X6_keep l D cy N0 (qs hh10 qh (.inr (2, [.int (nI 4), va_rf r8, .null, .null, .null, .int 0]))) x sl bl kr vr mk (oCq W.1) (oMq W.1) (nI Ed) fs i qh ((S j).1) r8 none none none 0 (nI (zAm ((S j).1, (S j).2.1 ++ [(p2, 0)], (S j).2.2))) hz.1.1 hz.2.1.1 hi hkd) kX6_keep g218 g220 rfl gp1 g1 hP hS hz.1.1 (by first | decide | omega) hl.1 rfl (by decide) (by first | decide | omega) dX6_add_118 (fun q ce E h' H1 locs1 hE => hE.elim) (fun v hh12 H locs hq hP hS => ?_)
        obtain ⟨rfl, rfl⟩ := hq
        replace faj := (qs_ne (h := (qs hh10 qh (.inr (2, [.int (nI 4), va_rf r8, .null, .null, .null, .int 0])))) (a := sl) (o := (.inl (cy 3, 24, .inr (.inr (.inr (.inr (va_up fs i (some qh)))))))) (fun z => by rw [z, hz.2.1.1] at faj; cases faj)).trans faj
        have ex : (xs_add gr S (nI i) (nI j) p2) = (0, qU S i ((S j).1, (S j).2.1 ++ [(p2, 0)], (S j).2.2), nI ((S j).2.1 ++ [(p2, 0)]).length) := by unfold xs_add; rw [if_neg (by rw [ebi, ebj]; decide), ecj, if_neg (by rw [hoj]; decide), he9, if_neg (fun z => z.elim (fun z => by rw [hlen] at z; omega) (fun z => n12 z.2)), eci, hput]
        exact q_iret C hP hS ⟨by rw [ex], by first | (rw [ex]; done) | (rw [ex]; show some (Value.int (nI (zAm ((S j).1, (S j).2.1 ++ [(p2, 0)], (S j).2.2)))) = _; rw [zAm_n (s := ((S j).1, (S j).2.1 ++ [(p2, 0)], (S j).2.2)) hk6]), by rw [ex]; exact hzp.po hfp⟩ (by omega) dX6_add_121
      · replace c67 : 4 = 5 := (nI_eq (a := 4) (b := 5) (by omega) (by omega)).mp c67
        exfalso; omega
    · replace c19 : 4 = 2 := (nI_eq (a := 4) (b := 2) (by omega) (by omega)).mp c19
      exfalso; omega
  · have hk6 : ¬ (S j).1 = 6 := fun z => absurd (hk9.symm.trans z) (by decide)
    have ham : zAm (S j) = (S j).2.1.length := zAm_n hk6
    have he9 : decide (¬ (S j).1 = 2) = true := decide_eq_true (fun z => absurd (hk9.symm.trans z) (by decide))
    have hlen : (xPut (S j).1 true (S j).2.1 p2 0).length = (S j).2.1.length + 1 := by rw [xPut_len, if_neg (fun z => by cases z.1)]
    have n12 : ¬ ((S j).1 = 1 ∨ (S j).1 = 2) := fun z => z.elim (fun z => absurd (hk9.symm.trans z) (by decide)) (fun z => absurd (hk9.symm.trans z) (by decide))
    rw [hk9] at faj
    have hput := zPut_h (L := (S j).2.1) (k := p2) (v := 0) hk9
    have hl9 := hLn j (by omega)
    obtain ⟨rfl, rfl, rfl, rfl, n9, M9, hp9, hpm⟩ := zvj.heap hk9
    have hml : M9.length ≤ 1000 := by have := hpm.length_eq; rw [List.length_map] at this; omega
    have hn9 : n9 ≤ 9 := hp9.s9 hml
    refine lv_astore (lv' := [(5, .ref aj), (0, .ref x), (1, .int (nI i)), (2, .int (nI j)), (3, .long p2)]) hx hb dX6_add_11 hl (by decide) rfl (fun ls hl => ?_)
    refine lv_aload hx hb dX6_add_13 (lv_at hl 0 rfl) ?_
    refine q_get C hP faj rfl inX2 0 (by decide) g192 rfl dX6_add_15 ?_
    refine lv_iconst (v := nI 2) hx hb dX6_add_18 (by decide) ?_
    refine lv_icmp_ne (tgt := 51) hx hb dX6_add_19 (by decide) (fun c19 => ?_) (fun c19 => ?_)
    · replace c19 : ¬ 5 = 2 := fun zq => c19 ((nI_eq (a := 5) (b := 2) (by omega) (by omega)).mpr zq)
      refine lv_aload hx hb dX6_add_51 (lv_at hl 0 rfl) ?_
      obtain ⟨t1j, t2j, t3j, f1j, f2j, f3j, etj⟩ := zvj.size
      refine q_callV (rest := []) C (c_X2_amount l D cy N0 h aj (nI 5) 0 t1j t2j t3j none none x3j none faj f1j f2j f3j) kX2_amount g222 g223 rfl g224 g10 hP hS faj (by first | decide | omega) hl.1 rfl (by decide) (by first | decide | omega) dX6_add_53 (fun q ce E h' H1 locs1 hE => hE.elim) (fun v hh13 H locs hq hP hS => ?_)
      obtain ⟨rfl, rfl⟩ := hq
      rw [← etj]
      refine lv_iconst (v := nI 1) hx hb dX6_add_56 (by decide) ?_
      refine q_iaddN hx hb dX6_add_57 ?_
      refine q_callS (rest := []) C (c_X6_needRoom l D cy N0 h (nI (zAm (S j) + 1))) kX6_needRoom g324 g325 hP hS (by first | decide | omega) hl.1 rfl (by decide) (by first | decide | omega) dX6_add_58 (fun q ce E h' H1 locs1 hE hP hS hc1 hc2 hc3 => by obtain ⟨rfl, rfl, hn9⟩ := hE; replace hn9 : ¬ zAm (S j) + 1 ≤ 1000 := fun z => hn9 ((nI_leI (a := zAm (S j) + 1) (b := 1000) (by omega) (by omega)).mpr z); exact q_out C hP hS hc1 hc2 hc3 (by have ex : (xs_add gr S (nI i) (nI j) p2) = (3, S, 0) := (by unfold xs_add; rw [if_neg (by rw [ebi, ebj]; decide), ecj, if_neg (by rw [hoj]; decide), he9, if_pos (Or.inl (by rw [hlen]; omega))]); exact ⟨by rw [ex]; exact .tail _ (.tail _ (.head _)), by exact hz.po hf⟩) (by omega)) (fun v hh14 H locs hq hP hS => ?_)
      obtain ⟨rfl, rfl, hr9⟩ := hq
      replace hr9 := (nI_leI (a := zAm (S j) + 1) (b := 1000) (by omega) (by omega)).mp hr9
      refine lv_aload hx hb dX6_add_61 (lv_at hl 0 rfl) ?_
      refine q_get C hP faj rfl inX2 0 (by decide) g192 rfl dX6_add_63 ?_
      refine lv_iconst (v := nI 5) hx hb dX6_add_66 (by decide) ?_
      refine lv_icmp_ne (tgt := 97) hx hb dX6_add_67 (by decide) (fun c67 => ?_) (fun c67 => ?_)
      · replace c67 : ¬ 5 = 5 := fun zq => c67 ((nI_eq (a := 5) (b := 5) (by omega) (by omega)).mpr zq)
        exfalso; omega
      · replace c67 : 5 = 5 := (nI_eq (a := 5) (b := 5) (by omega) (by omega)).mp c67
        refine lv_aload_n hx hb dX6_add_70 rfl (lv_at hl 1 rfl) ?_
        refine lv_iload_n hx hb dX6_add_71 rfl (lv_at hl 2 rfl) ?_
        refine lv_aload hx hb dX6_add_72 (lv_at hl 0 rfl) ?_
        refine q_get C hP faj rfl inX2 3 (by decide) g200 rfl dX6_add_74 ?_
        refine q_new (ci := 4) (fs := [.long 0, .null, .null, .int 0]) C hP hS rfl inX4 tyX4 tyX4_ok g440 g441 g13 (fun j hj => by rcases (show j = 0 ∨ j = 1 ∨ j = 2 ∨ j = 3 by omega) with rfl | rfl | rfl | rfl <;> rfl) (by first | decide | omega) (by first | decide | omega) dX6_add_77 (fun q77 H eq77 hP hS => ?_)
        replace hP : qP D N0 (qs h q77 (.inr (4, [.long 0, .null, .null, .int 0]))) H := hP
        refine lv_dup hx hb dX6_add_80 rfl ?_
        refine lv_lload_n hx hb dX6_add_81 rfl (lv_at hl 4 rfl) ?_
        refine lv_null hx hb dX6_add_82 ?_
        refine lv_null hx hb dX6_add_83 ?_
        refine q_callI (rest := [.ref q77, va_rf x3j, .int (nI i), .ref x]) C (c_X4_init l D cy N0 (qs h q77 (.inr (4, [.long 0, .null, .null, .int 0]))) q77 p2 none none 0 0 [] [] qs_self qPi.nil qPi.nil (by decide)) kX4_init g442 g443 rfl hP hS (by first | decide | omega) hl.1 rfl (by simp [q_catrf, q_cati, q_catl, q_cata, q_catn]) (by first | decide | omega) dX6_add_84 (fun v hh15 H locs hq hP hS => ?_)
        obtain ⟨rfl, hh9⟩ := hq
        rcases hh9 with ⟨-, rfl⟩ | ⟨h9, -⟩
        · rw [qs_qs] at hP
          replace hP : qP D N0 (qs h q77 (.inr (4, [.long p2, va_rf none, va_rf none, .int (nI (([] : List Int64).length + ([] : List Int64).length + 1))]))) H := hP
          have hle7 : qle h (qs h q77 (.inr (4, [.long p2, va_rf none, va_rf none, .int (nI (([] : List Int64).length + ([] : List Int64).length + 1))]))) := qle_new eq77
          replace faj := hle7 _ _ faj
          replace zvj := zvj.le hle7
          replace hp9 := hp9.le hle7
          replace hf := hf.trs (zFr.le hle7 (qle.dom hle7))
          replace hz := hz.le hV hle7 (qle.dom hle7)
          have hp7 : qPi (qs h q77 (.inr (4, [.long p2, va_rf none, va_rf none, .int (nI (([] : List Int64).length + ([] : List Int64).length + 1))]))) 1 (some q77) [p2] := qPi.mk (A := []) (B := []) (l := none) (r2 := none) qs_self qPi.nil qPi.nil rfl ⟨Nat.le_refl _, by decide⟩ (fun z hz => by cases hz)
          refine q_callSN (host := RX6) (rest := [.int (nI i), .ref x]) C (c_X4_merged l D cy N0 (n9 + 1 + 1) (qs h q77 (.inr (4, [.long p2, va_rf none, va_rf none, .int (nI (([] : List Int64).length + ([] : List Int64).length + 1))]))) x3j (some q77) n9 1 M9 [p2] hp9 hp7 (by rw [List.length_singleton]; omega) (by omega)) kX4_merged (by decide +kernel) g464 hP hS (by first | decide | omega) hl.1 rfl (by simp [q_catrf, q_cati, q_catl, q_cata, q_catn]) (by first | decide | omega) dX6_add_87 (fun v hh16 H locs hq hP hS => ?_)
          obtain ⟨r8, s8, M8, rfl, hle8, hp8, hpm8⟩ := hq
          replace faj := hle8 _ _ faj
          replace zvj := zvj.le hle8
          replace hp9 := hp9.le hle8
          replace hp7 := hp7.le hle8
          replace hf := hf.trs (zFr.le hle8 (qle.dom hle8))
          replace hz := hz.le hV hle8 (qle.dom hle8)
          refine q_callS (rest := [.int (nI i), .ref x]) C (c_X2_ofPile l D cy N0 hh16 r8) kX2_ofPile g469 g470 hP hS (by first | decide | omega) hl.1 rfl (by simp [q_catrf, q_cati, q_catl, q_cata, q_catn]) (by first | decide | omega) dX6_add_90 (fun q ce E h' H1 locs1 hE => hE.elim) (fun v hh17 H locs hq hP hS => ?_)
          obtain ⟨qh, rfl, oqh, rfl⟩ := hq
          replace hP : qP D N0 (qs hh16 qh (.inr (2, [.int 5, .null, .null, va_rf r8, .null, .int 0]))) H := hP
          have hleh : qle hh16 (qs hh16 qh (.inr (2, [.int 5, .null, .null, va_rf r8, .null, .int 0]))) := qle_new oqh
          replace faj := hleh _ _ faj
          replace zvj := zvj.le hleh
          replace hp9 := hp9.le hleh
          replace hp7 := hp7.le hleh
          replace hp8 := hp8.le hleh
          replace hf := hf.trs (zFr.le hleh (qle.dom hleh))
          replace hz := hz.le hV hleh (qle.dom hleh)
          have fqh : (qs hh16 qh (.inr (2, [.int 5, .null, .null, va_rf r8, .null, .int 0]))) qh = some (.inr (2, [.int 5, .null, .null, va_rf r8, .null, .int 0])) := qs_self
          replace fqh : (qs hh16 qh (.inr (2, [.int 5, .null, .null, va_rf r8, .null, .int 0]))) qh = some (.inr (2, [.int (S j).1, .null, .null, va_rf r8, .null, .int 0])) := by rw [hk9]; exact fqh
          have zvn : zV cy (qs hh16 qh (.inr (2, [.int 5, .null, .null, va_rf r8, .null, .int 0]))) Im (zOk Ed eb S) mk g ((S j).1, xSi (S j).2.1 p2 0, (S j).2.2) none none r8 none 0 := Or.inr (Or.inr (Or.inl ⟨hk9, rfl, rfl, rfl, rfl, s8, M8, hp8, hpm8.trans ((hpm.append_right [p2]).trans (List.perm_append_comm.trans (((xSi_perm (A := (S j).2.1) (k := p2) (v := 0)).map Prod.fst).symm)))⟩))
          have hzp := hz.put hV hi (s := ((S j).1, xSi (S j).2.1 p2 0, (S j).2.2)) (show ¬ ((S j).1 = -1) from fun z => absurd (hk9.symm.trans z) (by decide)) ⟨none, none, r8, none, 0, fqh, zvn⟩
          have hfp : zFr h (qs (qs hh16 qh (.inr (2, [.int 5, .null, .null, va_rf r8, .null, .int 0]))) sl (.inl (cy 3, 24, .inr (.inr (.inr (.inr (va_up fs i (some qh)))))))) x sl kr vr bd br Xb := hf.trs (zFr.set hz.2.1.1 (Or.inr (Or.inl rfl)))
          have hkd : qHd (qs hh16 qh (.inr (2, [.int 5, .null, .null, va_rf r8, .null, .int 0]))) qh ((S j).1) none none r8 none 0 (nI (zAm ((S j).1, xSi (S j).2.1 p2 0, (S j).2.2))) := zHd.hd (s := ((S j).1, xSi (S j).2.1 p2 0, (S j).2.2)) fqh zvn
          refine q_callV (rest := []) C (c_X6_keep l D cy N0 (qs hh16 qh (.inr (2, [.int 5, .null, .null, va_rf r8, .null, .int 0]))) x sl bl kr vr mk (oCq W.1) (oMq W.1) (nI Ed) fs i qh ((S j).1) none none r8 none 0 (nI (zAm ((S j).1, xSi (S j).2.1 p2 0, (S j).2.2))) hz.1.1 hz.2.1.1 hi hkd) kX6_keep g218 g220 rfl gp1 g1 hP hS hz.1.1 (by first | decide | omega) hl.1 rfl (by decide) (by first | decide | omega) dX6_add_93 (fun q ce E h' H1 locs1 hE => hE.elim) (fun v hh18 H locs hq hP hS => ?_)
          obtain ⟨rfl, rfl⟩ := hq
          replace faj := (qs_ne (h := (qs hh16 qh (.inr (2, [.int 5, .null, .null, va_rf r8, .null, .int 0])))) (a := sl) (o := (.inl (cy 3, 24, .inr (.inr (.inr (.inr (va_up fs i (some qh)))))))) (fun z => by rw [z, hz.2.1.1] at faj; cases faj)).trans faj
          have ex : (xs_add gr S (nI i) (nI j) p2) = (0, qU S i ((S j).1, xSi (S j).2.1 p2 0, (S j).2.2), nI (xSi (S j).2.1 p2 0).length) := by unfold xs_add; rw [if_neg (by rw [ebi, ebj]; decide), ecj, if_neg (by rw [hoj]; decide), he9, if_neg (fun z => z.elim (fun z => by rw [hlen] at z; omega) (fun z => n12 z.2)), eci, hput]
          exact q_iret C hP hS ⟨by rw [ex], by first | (rw [ex]; done) | (rw [ex]; show some (Value.int (nI (zAm ((S j).1, xSi (S j).2.1 p2 0, (S j).2.2)))) = _; rw [zAm_n (s := ((S j).1, xSi (S j).2.1 p2 0, (S j).2.2)) hk6]), by rw [ex]; exact hzp.po hfp⟩ (by omega) dX6_add_96
        · exact absurd h9 (by decide)
    · replace c19 : 5 = 2 := (nI_eq (a := 5) (b := 2) (by omega) (by omega)).mp c19
      exfalso; omega
  · have hk6 : ¬ (S j).1 = 6 := fun z => absurd (hk9.symm.trans z) (by decide)
    have ham : zAm (S j) = (S j).2.1.length := zAm_n hk6
    rw [hk9] at faj
    have he9 : decide (¬ (S j).1 = 2) = false := decide_eq_false (fun z => z hk9)
    have hk12 : (S j).1 = 1 ∨ (S j).1 = 2 := Or.inr hk9
    obtain ⟨rfl, rfl, rfl, rfl, hRj⟩ := zvj.hash hk12
    have hlj := hLn j (by omega)
    have hqj := h64 j (by omega) (hk12.elim Or.inl (fun z => Or.inr (Or.inl z)))
    have hnoj : qNo (S j).2.1 := (hI j (by omega)).2.1 (hk12.elim Or.inl (fun z => Or.inr (Or.inl z)))
    refine lv_astore (lv' := [(5, .ref aj), (0, .ref x), (1, .int (nI i)), (2, .int (nI j)), (3, .long p2)]) hx hb dX6_add_11 hl (by decide) rfl (fun ls hl => ?_)
    refine lv_aload hx hb dX6_add_13 (lv_at hl 0 rfl) ?_
    refine q_get C hP faj rfl inX2 0 (by decide) g192 rfl dX6_add_15 ?_
    refine lv_iconst (v := nI 2) hx hb dX6_add_18 (by decide) ?_
    refine lv_icmp_ne (tgt := 51) hx hb dX6_add_19 (by decide) (fun c19 => ?_) (fun c19 => ?_)
    · replace c19 : ¬ 2 = 2 := fun zq => c19 ((nI_eq (a := 2) (b := 2) (by omega) (by omega)).mpr zq)
      exfalso; omega
    · replace c19 : 2 = 2 := (nI_eq (a := 2) (b := 2) (by omega) (by omega)).mp c19
      refine lv_aload_n hx hb dX6_add_22 rfl (lv_at hl 1 rfl) ?_
      refine lv_iload_n hx hb dX6_add_23 rfl (lv_at hl 2 rfl) ?_
      refine lv_aload hx hb dX6_add_24 (lv_at hl 0 rfl) ?_
      refine q_get C hP faj rfl inX2 0 (by decide) g192 rfl dX6_add_26 ?_
      refine lv_aload_n hx hb dX6_add_29 rfl (lv_at hl 1 rfl) ?_
      refine lv_aload hx hb dX6_add_30 (lv_at hl 0 rfl) ?_
      refine q_get C hP faj rfl inX2 2 (by decide) g198 rfl dX6_add_32 ?_
      refine lv_aload_n hx hb dX6_add_35 rfl (lv_at hl 1 rfl) ?_
      refine q_callV (rest := [va_rf x2j, .ref x, .int (nI 2), .int (nI i), .ref x]) C (c_X6_nextEdit l D cy N0 h x sl bl kr vr mk (oCq W.1) (oMq W.1) (nI Ed) fs hz.1.1 hz.2.1.1) kX6_nextEdit g285 g287 rfl gp3 g1 hP hS hz.1.1 (by first | decide | omega) hl.1 rfl (by simp [q_catrf, q_cati, q_catl, q_cata, q_catn]) (by first | decide | omega) dX6_add_36 (fun q ce E h' H1 locs1 hE => hE.elim) (fun v hh19 H locs hq hP hS => ?_)
      have heb : ∀ b, b < 4 → ((S (24 + b)).1 = 1 ∨ (S (24 + b)).1 = 2) → eb b ≤ Ed := fun b hb y => (hz.2.2.2.2.2.2.2.2.1 b hb y).1
      obtain ⟨rfl, rfl⟩ := hq
      rw [nI_1 Ed] at hP
      rw [nI_1 Ed]
      replace hP : qP D N0 (qs h x (.inr (6, [.int mk, .ref sl, .ref bl, .ref kr, .ref vr, .int (oCq W.1), .int (oMq W.1), .int (nI (Ed + 1))]))) H := hP
      replace faj := (qs_ne (h := h) (a := x) (o := (.inr (6, [.int mk, .ref sl, .ref bl, .ref kr, .ref vr, .int (oCq W.1), .int (oMq W.1), .int (nI (Ed + 1))]))) (fun z => by rw [z, hz.1.1] at faj; simp at faj)).trans faj
      replace hf := hf.trs (zFr.set (o' := .inr (6, [.int mk, .ref sl, .ref bl, .ref kr, .ref vr, .int (oCq W.1), .int (oMq W.1), .int (nI (Ed + 1))])) hz.1.1 (Or.inl rfl))
      have hRe : qRt cy (qs h x (.inr (6, [.int mk, .ref sl, .ref bl, .ref kr, .ref vr, .int (oCq W.1), .int (oMq W.1), .int (nI (Ed + 1))]))) Im (Ed + 1) (zOk Ed eb S) mk x2j (zSv (S j)) (fun _ => False) := hRj.go.keep (fun b o e y => (qs_ne (hz.2.2.2.2.2.1 b (Or.inl (y.resolve_right id))).1).trans e)
      replace hz := hz.up hV hE9
      have hed1 := (hz.2.2.2.2.2.2.2.1 0 (by decide)).no
      refine lv_lload_n hx hb dX6_add_39 rfl (lv_at hl 4 rfl) ?_
      refine lv_lconst (v := 1) hx hb dX6_add_40 (by decide) ?_
      refine q_callV (rest := [.int (nI 2), .int (nI i), .ref x]) C (z_withHashed l D cy N0 (qs h x (.inr (6, [.int mk, .ref sl, .ref bl, .ref kr, .ref vr, .int (oCq W.1), .int (oMq W.1), .int (nI (Ed + 1))]))) Im (Ed + 1) (zOk Ed eb S) mk x2j (zSv (S j)) (fun _ => False) x sl bl kr vr (oCq W.1) (oMq W.1) (nI (Ed + 1)) p2 1 64 hRe hz.1.1 hed1 zOk_no (by omega) (by rw [zSv_len]; omega) (by omega) (zSv_no hnoj)) kX6_withHashed g289 g291 rfl gp4 g1 hP hS hz.1.1 (by first | decide | omega) hl.1 rfl (by simp [q_catrf, q_cati, q_catl, q_cata, q_catn]) (by first | decide | omega) dX6_add_41 (fun q ce E h' H1 locs1 hE hP hS hc1 hc2 hc3 => by obtain ⟨rfl, rfl, hx8, hfl⟩ := hE; rw [zSv_has] at hx8; rw [zSv_len, zfilt hmk, zSv_al] at hfl; have hfull := Decidable.byContradiction (fun z => ((zroom (v := 0) hk12 hlj (hAl j (by omega) hk12)).mpr z).elim (fun y => by rw [hx8] at y; cases y) (fun y => by omega)); exact q_out C hP hS hc1 hc2 hc3 (by have ex : (xs_add gr S (nI i) (nI j) p2) = (3, S, 0) := (by unfold xs_add; rw [if_neg (by rw [ebi, ebj]; decide), ecj, if_neg (by rw [hoj]; decide), he9, if_pos hfull]); exact ⟨by rw [ex]; exact .tail _ (.tail _ (.head _)), by exact hz.po1 hf (fun b z => Or.inl z)⟩) (by omega)) (fun v hh20 H locs hq hP hS => ?_)
      obtain ⟨hrm, x8, X8, Im8, rfl, hR8, hE8, hC8⟩ := hq
      have hle8 : qle (qs h x (.inr (6, [.int mk, .ref sl, .ref bl, .ref kr, .ref vr, .int (oCq W.1), .int (oMq W.1), .int (nI (Ed + 1))]))) hh20 := fun b o e => hC8.1 b o e (fun z => z)
      obtain ⟨Im3, hz3, hR3, hi1, hi2⟩ := hz.edit hV heb hR8 hE8 hC8
      have hi3 : ∀ b, Im3 b → Im b ∨ h b = none := fun b z => (hi2 b z).imp id (hf.2 b)
      replace faj := hle8 _ _ faj
      replace hf := hf.trs (zFr.le hle8 (qle.dom hle8))
      replace hz := hz3
      rw [zSv_has, zSv_len, zfilt hmk, zSv_al] at hrm
      have hroom := (zroom (v := 0) hk12 hlj (hAl j (by omega) hk12)).mp hrm
      refine q_callS (rest := [.int (nI i), .ref x]) C (c_X2_ofTrie l D cy N0 hh20 (nI 2) x8) kX2_ofTrie g437 g438 hP hS (by first | decide | omega) hl.1 rfl (by simp [q_catrf, q_cati, q_catl, q_cata, q_catn]) (by first | decide | omega) dX6_add_44 (fun q ce E h' H1 locs1 hE => hE.elim) (fun v hh21 H locs hq hP hS => ?_)
      obtain ⟨qh, rfl, oqh, rfl⟩ := hq
      replace hP : qP D N0 (qs hh20 qh (.inr (2, [.int (nI 2), .null, va_rf x8, .null, .null, .int 0]))) H := hP
      have hleh : qle hh20 (qs hh20 qh (.inr (2, [.int (nI 2), .null, va_rf x8, .null, .null, .int 0]))) := qle_new oqh
      replace faj := hleh _ _ faj
      replace hR3 := hR3.le hleh
      replace hf := hf.trs (zFr.le hleh (qle.dom hleh))
      replace hz := hz.le hV hleh (qle.dom hleh)
      have fqh : (qs hh20 qh (.inr (2, [.int (nI 2), .null, va_rf x8, .null, .null, .int 0]))) qh = some (.inr (2, [.int (nI 2), .null, va_rf x8, .null, .null, .int 0])) := qs_self
      replace fqh : (qs hh20 qh (.inr (2, [.int (nI 2), .null, va_rf x8, .null, .null, .int 0]))) qh = some (.inr (2, [.int (S j).1, .null, va_rf x8, .null, .null, .int 0])) := by rw [hk9]; exact fqh
      have zvn : zV cy (qs hh20 qh (.inr (2, [.int (nI 2), .null, va_rf x8, .null, .null, .int 0]))) Im3 (zOk (Ed + 1) eb S) mk g ((S j).1, xPut (S j).1 false (S j).2.1 p2 0, (S j).2.2) none x8 none none 0 := Or.inr (Or.inr (Or.inr (Or.inl ⟨hk12, rfl, rfl, rfl, rfl, by rw [zSv_put hk12 1 (if_pos hk9).symm]; exact hR3⟩)))
      have hzp := hz.put hV hi (s := ((S j).1, xPut (S j).1 false (S j).2.1 p2 0, (S j).2.2)) (show ¬ ((S j).1 = -1) from fun z => absurd (hk9.symm.trans z) (by decide)) ⟨none, x8, none, none, 0, fqh, zvn⟩
      have hfp : zFr h (qs (qs hh20 qh (.inr (2, [.int (nI 2), .null, va_rf x8, .null, .null, .int 0]))) sl (.inl (cy 3, 24, .inr (.inr (.inr (.inr (va_up fs i (some qh)))))))) x sl kr vr bd br Xb := hf.trs (zFr.set hz.2.1.1 (Or.inr (Or.inl rfl)))
      have hkd : qHd (qs hh20 qh (.inr (2, [.int (nI 2), .null, va_rf x8, .null, .null, .int 0]))) qh ((S j).1) none x8 none none 0 (nI (zAm ((S j).1, xPut (S j).1 false (S j).2.1 p2 0, (S j).2.2))) := zHd.hd (s := ((S j).1, xPut (S j).1 false (S j).2.1 p2 0, (S j).2.2)) fqh zvn
      refine q_callV (rest := []) C (c_X6_keep l D cy N0 (qs hh20 qh (.inr (2, [.int (nI 2), .null, va_rf x8, .null, .null, .int 0]))) x sl bl kr vr mk (oCq W.1) (oMq W.1) (nI (Ed + 1)) fs i qh ((S j).1) none x8 none none 0 (nI (zAm ((S j).1, xPut (S j).1 false (S j).2.1 p2 0, (S j).2.2))) hz.1.1 hz.2.1.1 hi hkd) kX6_keep g218 g220 rfl gp1 g1 hP hS hz.1.1 (by first | decide | omega) hl.1 rfl (by decide) (by first | decide | omega) dX6_add_47 (fun q ce E h' H1 locs1 hE => hE.elim) (fun v hh22 H locs hq hP hS => ?_)
      obtain ⟨rfl, rfl⟩ := hq
      replace faj := (qs_ne (h := (qs hh20 qh (.inr (2, [.int (nI 2), .null, va_rf x8, .null, .null, .int 0])))) (a := sl) (o := (.inl (cy 3, 24, .inr (.inr (.inr (.inr (va_up fs i (some qh)))))))) (fun z => by rw [z, hz.2.1.1] at faj; cases faj)).trans faj
      have ex : (xs_add gr S (nI i) (nI j) p2) = (0, qU S i ((S j).1, xPut (S j).1 false (S j).2.1 p2 0, (S j).2.2), nI (xPut (S j).1 false (S j).2.1 p2 0).length) := by unfold xs_add; rw [if_neg (by rw [ebi, ebj]; decide), ecj, if_neg (by rw [hoj]; decide), he9, if_neg hroom, eci]
      exact q_iret C hP hS ⟨by rw [ex], by first | (rw [ex]; done) | (rw [ex]; show some (Value.int (nI (zAm ((S j).1, xPut (S j).1 false (S j).2.1 p2 0, (S j).2.2)))) = _; rw [zAm_n (s := ((S j).1, xPut (S j).1 false (S j).2.1 p2 0, (S j).2.2)) hk6]), by rw [ex]; exact hzp.po1 hfp hi3⟩ (by omega) dX6_add_50
theorem dX6_put_11 : decode cX6_put 11 = .ok (.astore 7, 2) := by decide +kernel
theorem dX6_put_13 : decode cX6_put 13 = .ok (.aload 7, 2) := by decide +kernel
theorem dX6_put_15 : decode cX6_put 15 = .ok (.getfield 63, 3) := by decide +kernel
theorem dX6_put_18 : decode cX6_put 18 = .ok (.iconst 1, 1) := by decide +kernel
theorem dX6_put_19 : decode cX6_put 19 = .ok (.if_icmp .ne 33, 3) := by decide +kernel
theorem dX6_put_22 : decode cX6_put 22 = .ok (.aload_n 0, 1) := by decide +kernel
theorem dX6_put_23 : decode cX6_put 23 = .ok (.iload_n 1, 1) := by decide +kernel
theorem dX6_put_24 : decode cX6_put 24 = .ok (.aload 7, 2) := by decide +kernel
theorem dX6_put_26 : decode cX6_put 26 = .ok (.getfield 63, 3) := by decide +kernel
theorem dX6_put_29 : decode cX6_put 29 = .ok (.aload_n 0, 1) := by decide +kernel
theorem dX6_put_30 : decode cX6_put 30 = .ok (.aload 7, 2) := by decide +kernel
theorem dX6_put_32 : decode cX6_put 32 = .ok (.getfield 66, 3) := by decide +kernel
theorem dX6_put_35 : decode cX6_put 35 = .ok (.aload_n 0, 1) := by decide +kernel
theorem dX6_put_36 : decode cX6_put 36 = .ok (.invokevirtual 70, 3) := by decide +kernel
theorem dX6_put_39 : decode cX6_put 39 = .ok (.lload_n 3, 1) := by decide +kernel
theorem dX6_put_40 : decode cX6_put 40 = .ok (.lload 5, 2) := by decide +kernel
theorem dX6_put_42 : decode cX6_put 42 = .ok (.invokevirtual 73, 3) := by decide +kernel
theorem dX6_put_45 : decode cX6_put 45 = .ok (.invokestatic 77, 3) := by decide +kernel
theorem dX6_put_48 : decode cX6_put 48 = .ok (.invokevirtual 51, 3) := by decide +kernel
theorem dX6_put_51 : decode cX6_put 51 = .ok (.ireturn, 1) := by decide +kernel
theorem dX6_put_52 : decode cX6_put 52 = .ok (.aload 7, 2) := by decide +kernel
theorem dX6_put_54 : decode cX6_put 54 = .ok (.getfield 101, 3) := by decide +kernel
theorem dX6_put_57 : decode cX6_put 57 = .ok (.lload_n 3, 1) := by decide +kernel
theorem dX6_put_58 : decode cX6_put 58 = .ok (.invokestatic 193, 3) := by decide +kernel
theorem dX6_put_61 : decode cX6_put 61 = .ok (.ifnonnull 13, 3) := by decide +kernel
theorem dX6_put_64 : decode cX6_put 64 = .ok (.aload 7, 2) := by decide +kernel
theorem dX6_put_66 : decode cX6_put 66 = .ok (.invokevirtual 59, 3) := by decide +kernel
theorem dX6_put_69 : decode cX6_put 69 = .ok (.iconst 1, 1) := by decide +kernel
theorem dX6_put_70 : decode cX6_put 70 = .ok (.iadd, 1) := by decide +kernel
theorem dX6_put_71 : decode cX6_put 71 = .ok (.invokestatic 81, 3) := by decide +kernel
theorem dX6_put_74 : decode cX6_put 74 = .ok (.aload_n 0, 1) := by decide +kernel
theorem dX6_put_75 : decode cX6_put 75 = .ok (.iload_n 1, 1) := by decide +kernel
theorem dX6_put_76 : decode cX6_put 76 = .ok (.aload 7, 2) := by decide +kernel
theorem dX6_put_78 : decode cX6_put 78 = .ok (.getfield 63, 3) := by decide +kernel
theorem dX6_put_81 : decode cX6_put 81 = .ok (.aload 7, 2) := by decide +kernel
theorem dX6_put_83 : decode cX6_put 83 = .ok (.getfield 101, 3) := by decide +kernel
theorem dX6_put_86 : decode cX6_put 86 = .ok (.lload_n 3, 1) := by decide +kernel
theorem dX6_put_87 : decode cX6_put 87 = .ok (.lload 5, 2) := by decide +kernel
theorem dX6_put_89 : decode cX6_put 89 = .ok (.invokestatic 197, 3) := by decide +kernel
theorem dX6_put_92 : decode cX6_put 92 = .ok (.invokestatic 111, 3) := by decide +kernel
theorem dX6_put_95 : decode cX6_put 95 = .ok (.invokevirtual 51, 3) := by decide +kernel
theorem dX6_put_98 : decode cX6_put 98 = .ok (.ireturn, 1) := by decide +kernel
set_option maxRecDepth 100000 in
set_option maxHeartbeats 4000000 in
theorem z_put (l : Launch) (D : va_G) (cy : Nat → ClassId) (N0 : Nat) (h : qH) (x : Nat) (mk : Int32) (sl bl kr vr Ed : Nat) (fs : Nat → Option Nat) (bd br eb : Nat → Nat) (Im : Nat → Prop) (Xb : Nat → Nat → Prop) (g : Nat → Nat) (S : Nat → qSlot) (W : qWo) (Bd sk Rn : Nat) (dp : Nat → Nat) (gr : Int32) (p0 p1 : Int32) (p2 p3 : Int64) (hz : zQ cy h x mk sl bl kr vr Ed fs bd br eb Im Xb g S W) (hI : ∀ i, i < 28 → qOk (S i).1 (S i).2.1) (hLn : ∀ i, i < 28 → (S i).2.1.length ≤ 1000) (hV : qWv Bd sk Rn dp W) (hmk : qMk gr = mk) (hAl : ∀ i, i < 28 → ((S i).1 = 1 ∨ (S i).1 = 2) → ∀ k, xAl gr (S i).2.1 k ≤ 16) (h64 : ∀ i, i < 28 → ((S i).1 = 1 ∨ (S i).1 = 2 ∨ (S i).1 = 3) → (S i).2.1.length ≤ 64) (hE9 : Ed + 1 < 1000) : qC l D cy N0 yX6_put cX6_put 8 (some .int) 40 2200 90 2000 [.ref x, .int p0, .int p1, .long p2, .long p3] h (fun v h' => (xs_put gr S p0 p1 p2 p3).1 = 0 ∧ v = some (.int (xs_put gr S p0 p1 p2 p3).2.2) ∧ zPo cy h x mk sl bl kr vr Ed bd br Im Xb ((xs_put gr S p0 p1 p2 p3).2.1) W h') (fun E h' => zXc [(1, "java/lang/IllegalArgumentException"), (2, "java/lang/IllegalStateException"), (3, "java/lang/IndexOutOfBoundsException")] E (xs_put gr S p0 p1 p2 p3).1 ∧ zPo cy h x mk sl bl kr vr Ed bd br Im Xb S W h') := by
  refine q_ofW (by decide) (by exact Nat.le_of_ble_eq_true rfl) ?_
  intro p e s m below meth c ls C hP hl
  have hx := C.1
  have hb := C.2.1
  have hS : va_S (qA N0) s.heap s.heap [] := va_S.rf
  have hl : lv_has ls 8 [(0, .ref x), (1, .int p0), (2, .int p1), (3, .long p2), (5, .long p3)] := hl
  have hf : zFr h h x sl kr vr bd br Xb := zFr.rf
  have hms := aMs64
  refine lv_iload_n hx hb dX6_put_0 rfl (lv_at hl 1 rfl) ?_
  refine q_callS (rest := []) C (c_X6_needSlot l D cy N0 h p0) kX6_needSlot g104 g105 hP hS (by first | decide | omega) hl.1 rfl (by decide) (by first | decide | omega) dX6_put_1 (fun q ce E h' H1 locs1 hE hP hS hc1 hc2 hc3 => by obtain ⟨rfl, rfl, hn9⟩ := hE; have eb9 := bSl_f hn9; exact q_out C hP hS hc1 hc2 hc3 (by have ex : (xs_put gr S p0 p1 p2 p3) = (1, S, 0) := (by unfold xs_put; rw [if_pos (Or.inl eb9)]); exact ⟨by rw [ex]; exact .head _, by exact hz.po hf⟩) (by omega)) (fun v hh1 H locs hq hP hS => ?_)
  obtain ⟨rfl, rfl, sl9⟩ := hq
  obtain ⟨i, hi, rfl⟩ := sl9.of
  have ebi : bSl (nI i) = true := bSl_t sl9
  have eci : (nI i).toNatClampNeg = i := nI_clamp (by omega)
  refine lv_aload_n hx hb dX6_put_4 rfl (lv_at hl 0 rfl) ?_
  refine lv_iload_n hx hb dX6_put_5 rfl (lv_at hl 2 rfl) ?_
  refine lv_bipush (v := nI 10) hx hb dX6_put_6 (by decide) ?_
  refine q_callV (rest := []) C (z_heldIn l D N0 p1 10 hz hI) kX6_heldIn g243 g245 rfl gp2 g1 hP hS hz.1.1 (by first | decide | omega) hl.1 rfl (by decide) (by first | decide | omega) dX6_put_8 (fun q ce E h' H1 locs1 hE hP hS hc1 hc2 hc3 => hE.2.elim (fun y => by obtain ⟨rfl, -⟩ := hE; obtain ⟨rfl, hn9⟩ := y; exact q_out C hP hS hc1 hc2 hc3 (by have ex : (xs_put gr S (nI i) p1 p2 p3) = (1, S, 0) := (by have ebj := hn9; unfold xs_put; rw [if_pos (Or.inr ebj)]); exact ⟨by rw [ex]; exact .head _, by exact hz.po hf⟩) (by omega)) (fun y => by obtain ⟨rfl, -⟩ := hE; obtain ⟨rfl, j, hi8, rfl, ho8⟩ := y; exact q_out C hP hS hc1 hc2 hc3 (by have ex : (xs_put gr S (nI i) (nI j) p2 p3) = (2, S, 0) := (by have ebj : bSl (nI j) = true := bSl_t (qSl.nI hi8); have ecj : (nI j).toNatClampNeg = j := nI_clamp (by omega); have hoj := ho8; unfold xs_put; rw [if_neg (by rw [ebi, ebj]; decide), ecj, if_pos hoj]); exact ⟨by rw [ex]; exact .tail _ (.head _), by exact hz.po hf⟩) (by omega))) (fun v hh2 H locs hq hP hS => ?_)
  obtain ⟨rfl, j, aj, hj, rfl, hfsj, rfl, hoj, x1j, x2j, x3j, x4j, dvj, faj, zvj⟩ := hq
  have ebj : bSl (nI j) = true := bSl_t (qSl.nI hj)
  have ecj : (nI j).toNatClampNeg = j := nI_clamp (by omega)
  rcases bHo_10 (hI j (by omega)).2.2 hoj with hk9 | hk9
  · replace hk9 : (S j).1 = nI 1 := hk9
    have hk6 : ¬ (S j).1 = 6 := fun z => absurd (hk9.symm.trans z) (by decide)
    have ham : zAm (S j) = (S j).2.1.length := zAm_n hk6
    have hxv : xV (S j).1 p3 = p3 := by rw [hk9]; rfl
    rw [hk9] at faj
    have hk12 : (S j).1 = 1 ∨ (S j).1 = 2 := Or.inl hk9
    obtain ⟨rfl, rfl, rfl, rfl, hRj⟩ := zvj.hash hk12
    have hlj := hLn j (by omega)
    have hqj := h64 j (by omega) (hk12.elim Or.inl (fun z => Or.inr (Or.inl z)))
    have hnoj : qNo (S j).2.1 := (hI j (by omega)).2.1 (hk12.elim Or.inl (fun z => Or.inr (Or.inl z)))
    refine lv_astore (lv' := [(7, .ref aj), (0, .ref x), (1, .int (nI i)), (2, .int (nI j)), (3, .long p2), (5, .long p3)]) hx hb dX6_put_11 hl (by decide) rfl (fun ls hl => ?_)
    refine lv_aload hx hb dX6_put_13 (lv_at hl 0 rfl) ?_
    refine q_get C hP faj rfl inX2 0 (by decide) g192 rfl dX6_put_15 ?_
    refine lv_iconst (v := nI 1) hx hb dX6_put_18 (by decide) ?_
    refine lv_icmp_ne (tgt := 52) hx hb dX6_put_19 (by decide) (fun c19 => ?_) (fun c19 => ?_)
    · replace c19 : ¬ 1 = 1 := fun zq => c19 ((nI_eq (a := 1) (b := 1) (by omega) (by omega)).mpr zq)
      exfalso; omega
    · replace c19 : 1 = 1 := (nI_eq (a := 1) (b := 1) (by omega) (by omega)).mp c19
      refine lv_aload_n hx hb dX6_put_22 rfl (lv_at hl 1 rfl) ?_
      refine lv_iload_n hx hb dX6_put_23 rfl (lv_at hl 2 rfl) ?_
      refine lv_aload hx hb dX6_put_24 (lv_at hl 0 rfl) ?_
      refine q_get C hP faj rfl inX2 0 (by decide) g192 rfl dX6_put_26 ?_
      refine lv_aload_n hx hb dX6_put_29 rfl (lv_at hl 1 rfl) ?_
      refine lv_aload hx hb dX6_put_30 (lv_at hl 0 rfl) ?_
      refine q_get C hP faj rfl inX2 2 (by decide) g198 rfl dX6_put_32 ?_
      refine lv_aload_n hx hb dX6_put_35 rfl (lv_at hl 1 rfl) ?_
      refine q_callV (rest := [va_rf x2j, .ref x, .int (nI 1), .int (nI i), .ref x]) C (c_X6_nextEdit l D cy N0 h x sl bl kr vr mk (oCq W.1) (oMq W.1) (nI Ed) fs hz.1.1 hz.2.1.1) kX6_nextEdit g285 g287 rfl gp3 g1 hP hS hz.1.1 (by first | decide | omega) hl.1 rfl (by simp [q_catrf, q_cati, q_catl, q_cata, q_catn]) (by first | decide | omega) dX6_put_36 (fun q ce E h' H1 locs1 hE => hE.elim) (fun v hh3 H locs hq hP hS => ?_)
      have heb : ∀ b, b < 4 → ((S (24 + b)).1 = 1 ∨ (S (24 + b)).1 = 2) → eb b ≤ Ed := fun b hb y => (hz.2.2.2.2.2.2.2.2.1 b hb y).1
      obtain ⟨rfl, rfl⟩ := hq
      rw [nI_1 Ed] at hP
      rw [nI_1 Ed]
      replace hP : qP D N0 (qs h x (.inr (6, [.int mk, .ref sl, .ref bl, .ref kr, .ref vr, .int (oCq W.1), .int (oMq W.1), .int (nI (Ed + 1))]))) H := hP
      replace faj := (qs_ne (h := h) (a := x) (o := (.inr (6, [.int mk, .ref sl, .ref bl, .ref kr, .ref vr, .int (oCq W.1), .int (oMq W.1), .int (nI (Ed + 1))]))) (fun z => by rw [z, hz.1.1] at faj; simp at faj)).trans faj
      replace hf := hf.trs (zFr.set (o' := .inr (6, [.int mk, .ref sl, .ref bl, .ref kr, .ref vr, .int (oCq W.1), .int (oMq W.1), .int (nI (Ed + 1))])) hz.1.1 (Or.inl rfl))
      have hRe : qRt cy (qs h x (.inr (6, [.int mk, .ref sl, .ref bl, .ref kr, .ref vr, .int (oCq W.1), .int (oMq W.1), .int (nI (Ed + 1))]))) Im (Ed + 1) (zOk Ed eb S) mk x2j (zSv (S j)) (fun _ => False) := hRj.go.keep (fun b o e y => (qs_ne (hz.2.2.2.2.2.1 b (Or.inl (y.resolve_right id))).1).trans e)
      replace hz := hz.up hV hE9
      have hed1 := (hz.2.2.2.2.2.2.2.1 0 (by decide)).no
      refine lv_lload_n hx hb dX6_put_39 rfl (lv_at hl 4 rfl) ?_
      refine lv_lload hx hb dX6_put_40 (lv_at hl 5 rfl) ?_
      refine q_callV (rest := [.int (nI 1), .int (nI i), .ref x]) C (z_withHashed l D cy N0 (qs h x (.inr (6, [.int mk, .ref sl, .ref bl, .ref kr, .ref vr, .int (oCq W.1), .int (oMq W.1), .int (nI (Ed + 1))]))) Im (Ed + 1) (zOk Ed eb S) mk x2j (zSv (S j)) (fun _ => False) x sl bl kr vr (oCq W.1) (oMq W.1) (nI (Ed + 1)) p2 p3 64 hRe hz.1.1 hed1 zOk_no (by omega) (by rw [zSv_len]; omega) (by omega) (zSv_no hnoj)) kX6_withHashed g289 g291 rfl gp4 g1 hP hS hz.1.1 (by first | decide | omega) hl.1 rfl (by simp [q_catrf, q_cati, q_catl, q_cata, q_catn]) (by first | decide | omega) dX6_put_42 (fun q ce E h' H1 locs1 hE hP hS hc1 hc2 hc3 => by obtain ⟨rfl, rfl, hx8, hfl⟩ := hE; rw [zSv_has] at hx8; rw [zSv_len, zfilt hmk, zSv_al] at hfl; have hfull := Decidable.byContradiction (fun z => ((zroom (v := p3) hk12 hlj (hAl j (by omega) hk12)).mpr z).elim (fun y => by rw [hx8] at y; cases y) (fun y => by omega)); exact q_out C hP hS hc1 hc2 hc3 (by have ex : (xs_put gr S (nI i) (nI j) p2 p3) = (3, S, 0) := (by unfold xs_put; rw [if_neg (by rw [ebi, ebj]; decide), ecj, if_neg (by rw [hoj]; decide), eci]; unfold xr_put; rw [hxv, if_pos hfull]); exact ⟨by rw [ex]; exact .tail _ (.tail _ (.head _)), by exact hz.po1 hf (fun b z => Or.inl z)⟩) (by omega)) (fun v hh4 H locs hq hP hS => ?_)
      obtain ⟨hrm, x8, X8, Im8, rfl, hR8, hE8, hC8⟩ := hq
      have hle8 : qle (qs h x (.inr (6, [.int mk, .ref sl, .ref bl, .ref kr, .ref vr, .int (oCq W.1), .int (oMq W.1), .int (nI (Ed + 1))]))) hh4 := fun b o e => hC8.1 b o e (fun z => z)
      obtain ⟨Im3, hz3, hR3, hi1, hi2⟩ := hz.edit hV heb hR8 hE8 hC8
      have hi3 : ∀ b, Im3 b → Im b ∨ h b = none := fun b z => (hi2 b z).imp id (hf.2 b)
      replace faj := hle8 _ _ faj
      replace hf := hf.trs (zFr.le hle8 (qle.dom hle8))
      replace hz := hz3
      rw [zSv_has, zSv_len, zfilt hmk, zSv_al] at hrm
      have hroom := (zroom (v := p3) hk12 hlj (hAl j (by omega) hk12)).mp hrm
      refine q_callS (rest := [.int (nI i), .ref x]) C (c_X2_ofTrie l D cy N0 hh4 (nI 1) x8) kX2_ofTrie g437 g438 hP hS (by first | decide | omega) hl.1 rfl (by simp [q_catrf, q_cati, q_catl, q_cata, q_catn]) (by first | decide | omega) dX6_put_45 (fun q ce E h' H1 locs1 hE => hE.elim) (fun v hh5 H locs hq hP hS => ?_)
      obtain ⟨qh, rfl, oqh, rfl⟩ := hq
      replace hP : qP D N0 (qs hh4 qh (.inr (2, [.int (nI 1), .null, va_rf x8, .null, .null, .int 0]))) H := hP
      have hleh : qle hh4 (qs hh4 qh (.inr (2, [.int (nI 1), .null, va_rf x8, .null, .null, .int 0]))) := qle_new oqh
      replace faj := hleh _ _ faj
      replace hR3 := hR3.le hleh
      replace hf := hf.trs (zFr.le hleh (qle.dom hleh))
      replace hz := hz.le hV hleh (qle.dom hleh)
      have fqh : (qs hh4 qh (.inr (2, [.int (nI 1), .null, va_rf x8, .null, .null, .int 0]))) qh = some (.inr (2, [.int (nI 1), .null, va_rf x8, .null, .null, .int 0])) := qs_self
      replace fqh : (qs hh4 qh (.inr (2, [.int (nI 1), .null, va_rf x8, .null, .null, .int 0]))) qh = some (.inr (2, [.int (S j).1, .null, va_rf x8, .null, .null, .int 0])) := by rw [hk9]; exact fqh
      have zvn : zV cy (qs hh4 qh (.inr (2, [.int (nI 1), .null, va_rf x8, .null, .null, .int 0]))) Im3 (zOk (Ed + 1) eb S) mk g ((S j).1, xPut (S j).1 false (S j).2.1 p2 p3, (S j).2.2) none x8 none none 0 := Or.inr (Or.inr (Or.inr (Or.inl ⟨hk12, rfl, rfl, rfl, rfl, by rw [zSv_put hk12 p3 (if_neg (fun z => absurd (hk9.symm.trans z) (by decide))).symm]; exact hR3⟩)))
      have hzp := hz.put hV hi (s := ((S j).1, xPut (S j).1 false (S j).2.1 p2 p3, (S j).2.2)) (show ¬ ((S j).1 = -1) from fun z => absurd (hk9.symm.trans z) (by decide)) ⟨none, x8, none, none, 0, fqh, zvn⟩
      have hfp : zFr h (qs (qs hh4 qh (.inr (2, [.int (nI 1), .null, va_rf x8, .null, .null, .int 0]))) sl (.inl (cy 3, 24, .inr (.inr (.inr (.inr (va_up fs i (some qh)))))))) x sl kr vr bd br Xb := hf.trs (zFr.set hz.2.1.1 (Or.inr (Or.inl rfl)))
      have hkd : qHd (qs hh4 qh (.inr (2, [.int (nI 1), .null, va_rf x8, .null, .null, .int 0]))) qh ((S j).1) none x8 none none 0 (nI (zAm ((S j).1, xPut (S j).1 false (S j).2.1 p2 p3, (S j).2.2))) := zHd.hd (s := ((S j).1, xPut (S j).1 false (S j).2.1 p2 p3, (S j).2.2)) fqh zvn
      refine q_callV (rest := []) C (c_X6_keep l D cy N0 (qs hh4 qh (.inr (2, [.int (nI 1), .null, va_rf x8, .null, .null, .int 0]))) x sl bl kr vr mk (oCq W.1) (oMq W.1) (nI (Ed + 1)) fs i qh ((S j).1) none x8 none none 0 (nI (zAm ((S j).1, xPut (S j).1 false (S j).2.1 p2 p3, (S j).2.2))) hz.1.1 hz.2.1.1 hi hkd) kX6_keep g218 g220 rfl gp1 g1 hP hS hz.1.1 (by first | decide | omega) hl.1 rfl (by decide) (by first | decide | omega) dX6_put_48 (fun q ce E h' H1 locs1 hE => hE.elim) (fun v hh6 H locs hq hP hS => ?_)
      obtain ⟨rfl, rfl⟩ := hq
      replace faj := (qs_ne (h := (qs hh4 qh (.inr (2, [.int (nI 1), .null, va_rf x8, .null, .null, .int 0])))) (a := sl) (o := (.inl (cy 3, 24, .inr (.inr (.inr (.inr (va_up fs i (some qh)))))))) (fun z => by rw [z, hz.2.1.1] at faj; cases faj)).trans faj
      have ex : (xs_put gr S (nI i) (nI j) p2 p3) = (0, qU S i ((S j).1, xPut (S j).1 false (S j).2.1 p2 p3, (S j).2.2), nI (xPut (S j).1 false (S j).2.1 p2 p3).length) := by unfold xs_put; rw [if_neg (by rw [ebi, ebj]; decide), ecj, if_neg (by rw [hoj]; decide), eci]; unfold xr_put; rw [hxv, if_neg hroom]
      exact q_iret C hP hS ⟨by rw [ex], by first | (rw [ex]; done) | (rw [ex]; show some (Value.int (nI (zAm ((S j).1, xPut (S j).1 false (S j).2.1 p2 p3, (S j).2.2)))) = _; rw [zAm_n (s := ((S j).1, xPut (S j).1 false (S j).2.1 p2 p3, (S j).2.2)) hk6]), by rw [ex]; exact hzp.po1 hfp hi3⟩ (by omega) dX6_put_51
  · replace hk9 : (S j).1 = nI 3 := hk9
    have hk6 : ¬ (S j).1 = 6 := fun z => absurd (hk9.symm.trans z) (by decide)
    have ham : zAm (S j) = (S j).2.1.length := zAm_n hk6
    have hxv : xV (S j).1 p3 = p3 := by rw [hk9]; rfl
    rw [hk9] at faj
    obtain ⟨rfl, rfl, rfl, rfl, n9, hb9⟩ := zvj.tree hk9
    have hl9 := hLn j (by omega)
    have hn14 : n9 ≤ 14 := hb9.h14 (by omega)
    have hsoj : qSo (S j).2.1 := qSo_of ((hI j (by omega)).1 (Or.inl hk9)) ((hI j (by omega)).2.1 (Or.inr (Or.inr hk9)))
    have hqj := h64 j (by omega) (Or.inr (Or.inr hk9))
    have hput : xPut (S j).1 false (S j).2.1 p2 p3 = qIns (S j).2.1 p2 p3 := by rw [show (S j).1 = 3 from hk9]; exact (qIns_put hsoj).symm
    have hroom : ¬ (1000 < (xPut (S j).1 false (S j).2.1 p2 p3).length ∨ (16 < xAl gr (xPut (S j).1 false (S j).2.1 p2 p3) p2 ∧ ((S j).1 = 1 ∨ (S j).1 = 2))) := fun z => z.elim (fun z => by rw [xPut_len] at z; split at z <;> omega) (fun z => z.2.elim (fun z => absurd (hk9.symm.trans z) (by decide)) (fun z => absurd (hk9.symm.trans z) (by decide)))
    refine lv_astore (lv' := [(7, .ref aj), (0, .ref x), (1, .int (nI i)), (2, .int (nI j)), (3, .long p2), (5, .long p3)]) hx hb dX6_put_11 hl (by decide) rfl (fun ls hl => ?_)
    refine lv_aload hx hb dX6_put_13 (lv_at hl 0 rfl) ?_
    refine q_get C hP faj rfl inX2 0 (by decide) g192 rfl dX6_put_15 ?_
    refine lv_iconst (v := nI 1) hx hb dX6_put_18 (by decide) ?_
    refine lv_icmp_ne (tgt := 52) hx hb dX6_put_19 (by decide) (fun c19 => ?_) (fun c19 => ?_)
    · replace c19 : ¬ 3 = 1 := fun zq => c19 ((nI_eq (a := 3) (b := 1) (by omega) (by omega)).mpr zq)
      refine lv_aload hx hb dX6_put_52 (lv_at hl 0 rfl) ?_
      refine q_get C hP faj rfl inX2 1 (by decide) g195 rfl dX6_put_54 ?_
      refine lv_lload_n hx hb dX6_put_57 rfl (lv_at hl 4 rfl) ?_
      refine q_callS (rest := []) C (c_X0_branchWith l D cy N0 h x1j n9 (S j).2.1 p2 hb9 (by omega) hsoj) kX0_branchWith g756 g757 hP hS (by first | decide | omega) hl.1 rfl (by decide) (by first | decide | omega) dX6_put_58 (fun q ce E h' H1 locs1 hE => hE.elim) (fun v hh7 H locs hq hP hS => ?_)
      obtain ⟨r9, rfl, rfl, hwi⟩ := hq
      rcases hwi with ⟨ab, v9, y1, y2, y3, y4, rfl, fab, hm9⟩ | ⟨rfl, hx8⟩
      · refine lv_ifnonnull (tgt := 74) hx hb dX6_put_61 (by decide) ?_
        refine lv_aload_n hx hb dX6_put_74 rfl (lv_at hl 1 rfl) ?_
        refine lv_iload_n hx hb dX6_put_75 rfl (lv_at hl 2 rfl) ?_
        refine lv_aload hx hb dX6_put_76 (lv_at hl 0 rfl) ?_
        refine q_get C hP faj rfl inX2 0 (by decide) g192 rfl dX6_put_78 ?_
        refine lv_aload hx hb dX6_put_81 (lv_at hl 0 rfl) ?_
        refine q_get C hP faj rfl inX2 1 (by decide) g195 rfl dX6_put_83 ?_
        refine lv_lload_n hx hb dX6_put_86 rfl (lv_at hl 4 rfl) ?_
        refine lv_lload hx hb dX6_put_87 (lv_at hl 5 rfl) ?_
        refine q_callSN (host := RX6) (rest := [.int (nI 3), .int (nI i), .ref x]) C (c_X0_withKey l D cy N0 (n9 + 1) h x1j n9 (S j).2.1 p2 p3 hb9 (by omega) hsoj (by omega)) kX0_withKey (by decide +kernel) g760 hP hS (by first | decide | omega) hl.1 rfl (by simp [q_catrf, q_cati, q_catl, q_cata, q_catn]) (by first | decide | omega) dX6_put_89 (fun v hh8 H locs hq hP hS => ?_)
        obtain ⟨r8, n8, rfl, hle8, hb8, -⟩ := hq
        replace faj := hle8 _ _ faj
        replace zvj := zvj.le hle8
        replace hb9 := hb9.le hle8
        replace hf := hf.trs (zFr.le hle8 (qle.dom hle8))
        replace hz := hz.le hV hle8 (qle.dom hle8)
        refine q_callS (rest := [.int (nI i), .ref x]) C (c_X2_ofTree l D cy N0 hh8 (nI 3) r8) kX2_ofTree g516 g517 hP hS (by first | decide | omega) hl.1 rfl (by simp [q_catrf, q_cati, q_catl, q_cata, q_catn]) (by first | decide | omega) dX6_put_92 (fun q ce E h' H1 locs1 hE => hE.elim) (fun v hh9 H locs hq hP hS => ?_)
        obtain ⟨qh, rfl, oqh, rfl⟩ := hq
        replace hP : qP D N0 (qs hh8 qh (.inr (2, [.int (nI 3), va_rf r8, .null, .null, .null, .int 0]))) H := hP
        have hleh : qle hh8 (qs hh8 qh (.inr (2, [.int (nI 3), va_rf r8, .null, .null, .null, .int 0]))) := qle_new oqh
        replace faj := hleh _ _ faj
        replace zvj := zvj.le hleh
        replace hb9 := hb9.le hleh
        replace hb8 := hb8.le hleh
        replace hf := hf.trs (zFr.le hleh (qle.dom hleh))
        replace hz := hz.le hV hleh (qle.dom hleh)
        have fqh : (qs hh8 qh (.inr (2, [.int (nI 3), va_rf r8, .null, .null, .null, .int 0]))) qh = some (.inr (2, [.int (nI 3), va_rf r8, .null, .null, .null, .int 0])) := qs_self
        replace fqh : (qs hh8 qh (.inr (2, [.int (nI 3), va_rf r8, .null, .null, .null, .int 0]))) qh = some (.inr (2, [.int (S j).1, va_rf r8, .null, .null, .null, .int 0])) := by rw [hk9]; exact fqh
        have zvn : zV cy (qs hh8 qh (.inr (2, [.int (nI 3), va_rf r8, .null, .null, .null, .int 0]))) Im (zOk Ed eb S) mk g ((S j).1, qIns (S j).2.1 p2 p3, (S j).2.2) r8 none none none 0 := Or.inr (Or.inl ⟨hk9, rfl, rfl, rfl, rfl, n8, hb8⟩)
        have hzp := hz.put hV hi (s := ((S j).1, qIns (S j).2.1 p2 p3, (S j).2.2)) (show ¬ ((S j).1 = -1) from fun z => absurd (hk9.symm.trans z) (by decide)) ⟨r8, none, none, none, 0, fqh, zvn⟩
        have hfp : zFr h (qs (qs hh8 qh (.inr (2, [.int (nI 3), va_rf r8, .null, .null, .null, .int 0]))) sl (.inl (cy 3, 24, .inr (.inr (.inr (.inr (va_up fs i (some qh)))))))) x sl kr vr bd br Xb := hf.trs (zFr.set hz.2.1.1 (Or.inr (Or.inl rfl)))
        have hkd : qHd (qs hh8 qh (.inr (2, [.int (nI 3), va_rf r8, .null, .null, .null, .int 0]))) qh ((S j).1) r8 none none none 0 (nI (zAm ((S j).1, qIns (S j).2.1 p2 p3, (S j).2.2))) := zHd.hd (s := ((S j).1, qIns (S j).2.1 p2 p3, (S j).2.2)) fqh zvn
        refine q_callV (rest := []) C (c_X6_keep l D cy N0 (qs hh8 qh (.inr (2, [.int (nI 3), va_rf r8, .null, .null, .null, .int 0]))) x sl bl kr vr mk (oCq W.1) (oMq W.1) (nI Ed) fs i qh ((S j).1) r8 none none none 0 (nI (zAm ((S j).1, qIns (S j).2.1 p2 p3, (S j).2.2))) hz.1.1 hz.2.1.1 hi hkd) kX6_keep g218 g220 rfl gp1 g1 hP hS hz.1.1 (by first | decide | omega) hl.1 rfl (by decide) (by first | decide | omega) dX6_put_95 (fun q ce E h' H1 locs1 hE => hE.elim) (fun v hh10 H locs hq hP hS => ?_)
        obtain ⟨rfl, rfl⟩ := hq
        replace faj := (qs_ne (h := (qs hh8 qh (.inr (2, [.int (nI 3), va_rf r8, .null, .null, .null, .int 0])))) (a := sl) (o := (.inl (cy 3, 24, .inr (.inr (.inr (.inr (va_up fs i (some qh)))))))) (fun z => by rw [z, hz.2.1.1] at faj; cases faj)).trans faj
        have ex : (xs_put gr S (nI i) (nI j) p2 p3) = (0, qU S i ((S j).1, qIns (S j).2.1 p2 p3, (S j).2.2), nI (qIns (S j).2.1 p2 p3).length) := by unfold xs_put; rw [if_neg (by rw [ebi, ebj]; decide), ecj, if_neg (by rw [hoj]; decide), eci]; unfold xr_put; rw [hxv, if_neg hroom, hput]
        exact q_iret C hP hS ⟨by rw [ex], by first | (rw [ex]; done) | (rw [ex]; show some (Value.int (nI (zAm ((S j).1, qIns (S j).2.1 p2 p3, (S j).2.2)))) = _; rw [zAm_n (s := ((S j).1, qIns (S j).2.1 p2 p3, (S j).2.2)) hk6]), by rw [ex]; exact hzp.po hfp⟩ (by omega) dX6_put_98
      · refine lv_ifnonnullN hx hb dX6_put_61 ?_
        refine lv_aload hx hb dX6_put_64 (lv_at hl 0 rfl) ?_
        obtain ⟨t1j, t2j, t3j, f1j, f2j, f3j, etj⟩ := zvj.size
        refine q_callV (rest := []) C (c_X2_amount l D cy N0 h aj (nI 3) 0 t1j t2j t3j x1j none none none faj f1j f2j f3j) kX2_amount g222 g223 rfl g224 g10 hP hS faj (by first | decide | omega) hl.1 rfl (by decide) (by first | decide | omega) dX6_put_66 (fun q ce E h' H1 locs1 hE => hE.elim) (fun v hh11 H locs hq hP hS => ?_)
        obtain ⟨rfl, rfl⟩ := hq
        rw [← etj]
        refine lv_iconst (v := nI 1) hx hb dX6_put_69 (by decide) ?_
        refine q_iaddN hx hb dX6_put_70 ?_
        refine q_callS (rest := []) C (c_X6_needRoom l D cy N0 h (nI (zAm (S j) + 1))) kX6_needRoom g324 g325 hP hS (by first | decide | omega) hl.1 rfl (by decide) (by first | decide | omega) dX6_put_71 (fun q ce E h' H1 locs1 hE hP hS hc1 hc2 hc3 => absurd ((nI_leI (a := zAm (S j) + 1) (b := 1000) (by omega) (by omega)).mpr (by omega)) hE.2.2) (fun v hh12 H locs hq hP hS => ?_)
        obtain ⟨rfl, rfl, hr9⟩ := hq
        replace hr9 := (nI_leI (a := zAm (S j) + 1) (b := 1000) (by omega) (by omega)).mp hr9
        refine lv_aload_n hx hb dX6_put_74 rfl (lv_at hl 1 rfl) ?_
        refine lv_iload_n hx hb dX6_put_75 rfl (lv_at hl 2 rfl) ?_
        refine lv_aload hx hb dX6_put_76 (lv_at hl 0 rfl) ?_
        refine q_get C hP faj rfl inX2 0 (by decide) g192 rfl dX6_put_78 ?_
        refine lv_aload hx hb dX6_put_81 (lv_at hl 0 rfl) ?_
        refine q_get C hP faj rfl inX2 1 (by decide) g195 rfl dX6_put_83 ?_
        refine lv_lload_n hx hb dX6_put_86 rfl (lv_at hl 4 rfl) ?_
        refine lv_lload hx hb dX6_put_87 (lv_at hl 5 rfl) ?_
        refine q_callSN (host := RX6) (rest := [.int (nI 3), .int (nI i), .ref x]) C (c_X0_withKey l D cy N0 (n9 + 1) h x1j n9 (S j).2.1 p2 p3 hb9 (by omega) hsoj (by omega)) kX0_withKey (by decide +kernel) g760 hP hS (by first | decide | omega) hl.1 rfl (by simp [q_catrf, q_cati, q_catl, q_cata, q_catn]) (by first | decide | omega) dX6_put_89 (fun v hh13 H locs hq hP hS => ?_)
        obtain ⟨r8, n8, rfl, hle8, hb8, -⟩ := hq
        replace faj := hle8 _ _ faj
        replace zvj := zvj.le hle8
        replace hb9 := hb9.le hle8
        replace hf := hf.trs (zFr.le hle8 (qle.dom hle8))
        replace hz := hz.le hV hle8 (qle.dom hle8)
        refine q_callS (rest := [.int (nI i), .ref x]) C (c_X2_ofTree l D cy N0 hh13 (nI 3) r8) kX2_ofTree g516 g517 hP hS (by first | decide | omega) hl.1 rfl (by simp [q_catrf, q_cati, q_catl, q_cata, q_catn]) (by first | decide | omega) dX6_put_92 (fun q ce E h' H1 locs1 hE => hE.elim) (fun v hh14 H locs hq hP hS => ?_)
        obtain ⟨qh, rfl, oqh, rfl⟩ := hq
        replace hP : qP D N0 (qs hh13 qh (.inr (2, [.int (nI 3), va_rf r8, .null, .null, .null, .int 0]))) H := hP
        have hleh : qle hh13 (qs hh13 qh (.inr (2, [.int (nI 3), va_rf r8, .null, .null, .null, .int 0]))) := qle_new oqh
        replace faj := hleh _ _ faj
        replace zvj := zvj.le hleh
        replace hb9 := hb9.le hleh
        replace hb8 := hb8.le hleh
        replace hf := hf.trs (zFr.le hleh (qle.dom hleh))
        replace hz := hz.le hV hleh (qle.dom hleh)
        have fqh : (qs hh13 qh (.inr (2, [.int (nI 3), va_rf r8, .null, .null, .null, .int 0]))) qh = some (.inr (2, [.int (nI 3), va_rf r8, .null, .null, .null, .int 0])) := qs_self
        replace fqh : (qs hh13 qh (.inr (2, [.int (nI 3), va_rf r8, .null, .null, .null, .int 0]))) qh = some (.inr (2, [.int (S j).1, va_rf r8, .null, .null, .null, .int 0])) := by rw [hk9]; exact fqh
        have zvn : zV cy (qs hh13 qh (.inr (2, [.int (nI 3), va_rf r8, .null, .null, .null, .int 0]))) Im (zOk Ed eb S) mk g ((S j).1, qIns (S j).2.1 p2 p3, (S j).2.2) r8 none none none 0 := Or.inr (Or.inl ⟨hk9, rfl, rfl, rfl, rfl, n8, hb8⟩)
        have hzp := hz.put hV hi (s := ((S j).1, qIns (S j).2.1 p2 p3, (S j).2.2)) (show ¬ ((S j).1 = -1) from fun z => absurd (hk9.symm.trans z) (by decide)) ⟨r8, none, none, none, 0, fqh, zvn⟩
        have hfp : zFr h (qs (qs hh13 qh (.inr (2, [.int (nI 3), va_rf r8, .null, .null, .null, .int 0]))) sl (.inl (cy 3, 24, .inr (.inr (.inr (.inr (va_up fs i (some qh)))))))) x sl kr vr bd br Xb := hf.trs (zFr.set hz.2.1.1 (Or.inr (Or.inl rfl)))
        have hkd : qHd (qs hh13 qh (.inr (2, [.int (nI 3), va_rf r8, .null, .null, .null, .int 0]))) qh ((S j).1) r8 none none none 0 (nI (zAm ((S j).1, qIns (S j).2.1 p2 p3, (S j).2.2))) := zHd.hd (s := ((S j).1, qIns (S j).2.1 p2 p3, (S j).2.2)) fqh zvn
        refine q_callV (rest := []) C (c_X6_keep l D cy N0 (qs hh13 qh (.inr (2, [.int (nI 3), va_rf r8, .null, .null, .null, .int 0]))) x sl bl kr vr mk (oCq W.1) (oMq W.1) (nI Ed) fs i qh ((S j).1) r8 none none none 0 (nI (zAm ((S j).1, qIns (S j).2.1 p2 p3, (S j).2.2))) hz.1.1 hz.2.1.1 hi hkd) kX6_keep g218 g220 rfl gp1 g1 hP hS hz.1.1 (by first | decide | omega) hl.1 rfl (by decide) (by first | decide | omega) dX6_put_95 (fun q ce E h' H1 locs1 hE => hE.elim) (fun v hh15 H locs hq hP hS => ?_)
        obtain ⟨rfl, rfl⟩ := hq
        replace faj := (qs_ne (h := (qs hh13 qh (.inr (2, [.int (nI 3), va_rf r8, .null, .null, .null, .int 0])))) (a := sl) (o := (.inl (cy 3, 24, .inr (.inr (.inr (.inr (va_up fs i (some qh)))))))) (fun z => by rw [z, hz.2.1.1] at faj; cases faj)).trans faj
        have ex : (xs_put gr S (nI i) (nI j) p2 p3) = (0, qU S i ((S j).1, qIns (S j).2.1 p2 p3, (S j).2.2), nI (qIns (S j).2.1 p2 p3).length) := by unfold xs_put; rw [if_neg (by rw [ebi, ebj]; decide), ecj, if_neg (by rw [hoj]; decide), eci]; unfold xr_put; rw [hxv, if_neg hroom, hput]
        exact q_iret C hP hS ⟨by rw [ex], by first | (rw [ex]; done) | (rw [ex]; show some (Value.int (nI (zAm ((S j).1, qIns (S j).2.1 p2 p3, (S j).2.2)))) = _; rw [zAm_n (s := ((S j).1, qIns (S j).2.1 p2 p3, (S j).2.2)) hk6]), by rw [ex]; exact hzp.po hfp⟩ (by omega) dX6_put_98
    · replace c19 : 3 = 1 := (nI_eq (a := 3) (b := 1) (by omega) (by omega)).mp c19
      exfalso; omega
theorem dX6_out_11 : decode cX6_out 11 = .ok (.astore 5, 2) := by decide +kernel
theorem dX6_out_13 : decode cX6_out 13 = .ok (.aload 5, 2) := by decide +kernel
theorem dX6_out_15 : decode cX6_out 15 = .ok (.getfield 63, 3) := by decide +kernel
theorem dX6_out_18 : decode cX6_out 18 = .ok (.iconst 3, 1) := by decide +kernel
theorem dX6_out_19 : decode cX6_out 19 = .ok (.if_icmp .ne 26, 3) := by decide +kernel
theorem dX6_out_22 : decode cX6_out 22 = .ok (.aload_n 0, 1) := by decide +kernel
theorem dX6_out_23 : decode cX6_out 23 = .ok (.iload_n 1, 1) := by decide +kernel
theorem dX6_out_24 : decode cX6_out 24 = .ok (.aload 5, 2) := by decide +kernel
theorem dX6_out_26 : decode cX6_out 26 = .ok (.getfield 63, 3) := by decide +kernel
theorem dX6_out_29 : decode cX6_out 29 = .ok (.aload 5, 2) := by decide +kernel
theorem dX6_out_31 : decode cX6_out 31 = .ok (.getfield 101, 3) := by decide +kernel
theorem dX6_out_34 : decode cX6_out 34 = .ok (.lload_n 3, 1) := by decide +kernel
theorem dX6_out_35 : decode cX6_out 35 = .ok (.invokestatic 205, 3) := by decide +kernel
theorem dX6_out_38 : decode cX6_out 38 = .ok (.invokestatic 111, 3) := by decide +kernel
theorem dX6_out_41 : decode cX6_out 41 = .ok (.invokevirtual 51, 3) := by decide +kernel
theorem dX6_out_44 : decode cX6_out 44 = .ok (.ireturn, 1) := by decide +kernel
theorem dX6_out_45 : decode cX6_out 45 = .ok (.aload_n 0, 1) := by decide +kernel
theorem dX6_out_46 : decode cX6_out 46 = .ok (.iload_n 1, 1) := by decide +kernel
theorem dX6_out_47 : decode cX6_out 47 = .ok (.aload 5, 2) := by decide +kernel
theorem dX6_out_49 : decode cX6_out 49 = .ok (.getfield 63, 3) := by decide +kernel
theorem dX6_out_52 : decode cX6_out 52 = .ok (.aload 5, 2) := by decide +kernel
theorem dX6_out_54 : decode cX6_out 54 = .ok (.getfield 66, 3) := by decide +kernel
theorem dX6_out_57 : decode cX6_out 57 = .ok (.aload_n 0, 1) := by decide +kernel
theorem dX6_out_58 : decode cX6_out 58 = .ok (.invokevirtual 70, 3) := by decide +kernel
theorem dX6_out_61 : decode cX6_out 61 = .ok (.aload_n 0, 1) := by decide +kernel
theorem dX6_out_62 : decode cX6_out 62 = .ok (.getfield 34, 3) := by decide +kernel
theorem dX6_out_65 : decode cX6_out 65 = .ok (.lload_n 3, 1) := by decide +kernel
theorem dX6_out_66 : decode cX6_out 66 = .ok (.invokestatic 208, 3) := by decide +kernel
theorem dX6_out_69 : decode cX6_out 69 = .ok (.invokestatic 77, 3) := by decide +kernel
theorem dX6_out_72 : decode cX6_out 72 = .ok (.invokevirtual 51, 3) := by decide +kernel
theorem dX6_out_75 : decode cX6_out 75 = .ok (.ireturn, 1) := by decide +kernel
set_option maxRecDepth 100000 in
set_option maxHeartbeats 4000000 in
theorem z_out (l : Launch) (D : va_G) (cy : Nat → ClassId) (N0 : Nat) (h : qH) (x : Nat) (mk : Int32) (sl bl kr vr Ed : Nat) (fs : Nat → Option Nat) (bd br eb : Nat → Nat) (Im : Nat → Prop) (Xb : Nat → Nat → Prop) (g : Nat → Nat) (S : Nat → qSlot) (W : qWo) (Bd sk Rn : Nat) (dp : Nat → Nat) (gr : Int32) (p0 p1 : Int32) (p2 : Int64) (hz : zQ cy h x mk sl bl kr vr Ed fs bd br eb Im Xb g S W) (hI : ∀ i, i < 28 → qOk (S i).1 (S i).2.1) (hLn : ∀ i, i < 28 → (S i).2.1.length ≤ 1000) (hV : qWv Bd sk Rn dp W) (hmk : qMk gr = mk) (hAl : ∀ i, i < 28 → ((S i).1 = 1 ∨ (S i).1 = 2) → ∀ k, xAl gr (S i).2.1 k ≤ 16) (h64 : ∀ i, i < 28 → ((S i).1 = 1 ∨ (S i).1 = 2 ∨ (S i).1 = 3) → (S i).2.1.length ≤ 64) (hE9 : Ed + 1 < 1000) : qC l D cy N0 yX6_out cX6_out 6 (some .int) 60 2200 980 6000 [.ref x, .int p0, .int p1, .long p2] h (fun v h' => (xs_out S p0 p1 p2).1 = 0 ∧ v = some (.int (xs_out S p0 p1 p2).2.2) ∧ zPo cy h x mk sl bl kr vr Ed bd br Im Xb ((xs_out S p0 p1 p2).2.1) W h') (fun E h' => zXc [(1, "java/lang/IllegalArgumentException"), (2, "java/lang/IllegalStateException")] E (xs_out S p0 p1 p2).1 ∧ zPo cy h x mk sl bl kr vr Ed bd br Im Xb S W h') := by
  refine q_ofW (by decide) (by exact Nat.le_of_ble_eq_true rfl) ?_
  intro p e s m below meth c ls C hP hl
  have hx := C.1
  have hb := C.2.1
  have hS : va_S (qA N0) s.heap s.heap [] := va_S.rf
  have hl : lv_has ls 6 [(0, .ref x), (1, .int p0), (2, .int p1), (3, .long p2)] := hl
  have hf : zFr h h x sl kr vr bd br Xb := zFr.rf
  have hms := rMs64
  refine lv_iload_n hx hb dX6_out_0 rfl (lv_at hl 1 rfl) ?_
  refine q_callS (rest := []) C (c_X6_needSlot l D cy N0 h p0) kX6_needSlot g104 g105 hP hS (by first | decide | omega) hl.1 rfl (by decide) (by first | decide | omega) dX6_out_1 (fun q ce E h' H1 locs1 hE hP hS hc1 hc2 hc3 => by obtain ⟨rfl, rfl, hn9⟩ := hE; have eb9 := bSl_f hn9; exact q_out C hP hS hc1 hc2 hc3 (by have ex : (xs_out S p0 p1 p2) = (1, S, 0) := (by unfold xs_out; rw [if_pos (Or.inl eb9)]); exact ⟨by rw [ex]; exact .head _, by exact hz.po hf⟩) (by omega)) (fun v hh1 H locs hq hP hS => ?_)
  obtain ⟨rfl, rfl, sl9⟩ := hq
  obtain ⟨i, hi, rfl⟩ := sl9.of
  have ebi : bSl (nI i) = true := bSl_t sl9
  have eci : (nI i).toNatClampNeg = i := nI_clamp (by omega)
  refine lv_aload_n hx hb dX6_out_4 rfl (lv_at hl 0 rfl) ?_
  refine lv_iload_n hx hb dX6_out_5 rfl (lv_at hl 2 rfl) ?_
  refine lv_bipush (v := nI 14) hx hb dX6_out_6 (by decide) ?_
  refine q_callV (rest := []) C (z_heldIn l D N0 p1 14 hz hI) kX6_heldIn g243 g245 rfl gp2 g1 hP hS hz.1.1 (by first | decide | omega) hl.1 rfl (by decide) (by first | decide | omega) dX6_out_8 (fun q ce E h' H1 locs1 hE hP hS hc1 hc2 hc3 => hE.2.elim (fun y => by obtain ⟨rfl, -⟩ := hE; obtain ⟨rfl, hn9⟩ := y; exact q_out C hP hS hc1 hc2 hc3 (by have ex : (xs_out S (nI i) p1 p2) = (1, S, 0) := (by have ebj := hn9; unfold xs_out; rw [if_pos (Or.inr ebj)]); exact ⟨by rw [ex]; exact .head _, by exact hz.po hf⟩) (by omega)) (fun y => by obtain ⟨rfl, -⟩ := hE; obtain ⟨rfl, j, hi8, rfl, ho8⟩ := y; exact q_out C hP hS hc1 hc2 hc3 (by have ex : (xs_out S (nI i) (nI j) p2) = (2, S, 0) := (by have ebj : bSl (nI j) = true := bSl_t (qSl.nI hi8); have ecj : (nI j).toNatClampNeg = j := nI_clamp (by omega); have hoj := ho8; unfold xs_out; rw [if_neg (by rw [ebi, ebj]; decide), ecj, if_pos hoj]); exact ⟨by rw [ex]; exact .tail _ (.head _), by exact hz.po hf⟩) (by omega))) (fun v hh2 H locs hq hP hS => ?_)
  obtain ⟨rfl, j, aj, hj, rfl, hfsj, rfl, hoj, x1j, x2j, x3j, x4j, dvj, faj, zvj⟩ := hq
  have ebj : bSl (nI j) = true := bSl_t (qSl.nI hj)
  have ecj : (nI j).toNatClampNeg = j := nI_clamp (by omega)
  rcases bHo_14 (hI j (by omega)).2.2 hoj with hk9 | hk9 | hk9
  · replace hk9 : (S j).1 = nI 1 := hk9
    have hk6 : ¬ (S j).1 = 6 := fun z => absurd (hk9.symm.trans z) (by decide)
    rw [hk9] at faj
    have hk12 : (S j).1 = 1 ∨ (S j).1 = 2 := Or.inl hk9
    obtain ⟨rfl, rfl, rfl, rfl, hRj⟩ := zvj.hash hk12
    have hlj := hLn j (by omega)
    have hqj := h64 j (by omega) (hk12.elim Or.inl (fun z => Or.inr (Or.inl z)))
    have hnoj : qNo (S j).2.1 := (hI j (by omega)).2.1 (hk12.elim Or.inl (fun z => Or.inr (Or.inl z)))
    refine lv_astore (lv' := [(5, .ref aj), (0, .ref x), (1, .int (nI i)), (2, .int (nI j)), (3, .long p2)]) hx hb dX6_out_11 hl (by decide) rfl (fun ls hl => ?_)
    refine lv_aload hx hb dX6_out_13 (lv_at hl 0 rfl) ?_
    refine q_get C hP faj rfl inX2 0 (by decide) g192 rfl dX6_out_15 ?_
    refine lv_iconst (v := nI 3) hx hb dX6_out_18 (by decide) ?_
    refine lv_icmp_ne (tgt := 45) hx hb dX6_out_19 (by decide) (fun c19 => ?_) (fun c19 => ?_)
    · replace c19 : ¬ 1 = 3 := fun zq => c19 ((nI_eq (a := 1) (b := 3) (by omega) (by omega)).mpr zq)
      refine lv_aload_n hx hb dX6_out_45 rfl (lv_at hl 1 rfl) ?_
      refine lv_iload_n hx hb dX6_out_46 rfl (lv_at hl 2 rfl) ?_
      refine lv_aload hx hb dX6_out_47 (lv_at hl 0 rfl) ?_
      refine q_get C hP faj rfl inX2 0 (by decide) g192 rfl dX6_out_49 ?_
      refine lv_aload hx hb dX6_out_52 (lv_at hl 0 rfl) ?_
      refine q_get C hP faj rfl inX2 2 (by decide) g198 rfl dX6_out_54 ?_
      refine lv_aload_n hx hb dX6_out_57 rfl (lv_at hl 1 rfl) ?_
      refine q_callV (rest := [va_rf x2j, .int (nI 1), .int (nI i), .ref x]) C (c_X6_nextEdit l D cy N0 h x sl bl kr vr mk (oCq W.1) (oMq W.1) (nI Ed) fs hz.1.1 hz.2.1.1) kX6_nextEdit g285 g287 rfl gp3 g1 hP hS hz.1.1 (by first | decide | omega) hl.1 rfl (by simp [q_catrf, q_cati, q_catl, q_cata, q_catn]) (by first | decide | omega) dX6_out_58 (fun q ce E h' H1 locs1 hE => hE.elim) (fun v hh3 H locs hq hP hS => ?_)
      have heb : ∀ b, b < 4 → ((S (24 + b)).1 = 1 ∨ (S (24 + b)).1 = 2) → eb b ≤ Ed := fun b hb y => (hz.2.2.2.2.2.2.2.2.1 b hb y).1
      obtain ⟨rfl, rfl⟩ := hq
      rw [nI_1 Ed] at hP
      rw [nI_1 Ed]
      replace hP : qP D N0 (qs h x (.inr (6, [.int mk, .ref sl, .ref bl, .ref kr, .ref vr, .int (oCq W.1), .int (oMq W.1), .int (nI (Ed + 1))]))) H := hP
      replace faj := (qs_ne (h := h) (a := x) (o := (.inr (6, [.int mk, .ref sl, .ref bl, .ref kr, .ref vr, .int (oCq W.1), .int (oMq W.1), .int (nI (Ed + 1))]))) (fun z => by rw [z, hz.1.1] at faj; simp at faj)).trans faj
      replace hf := hf.trs (zFr.set (o' := .inr (6, [.int mk, .ref sl, .ref bl, .ref kr, .ref vr, .int (oCq W.1), .int (oMq W.1), .int (nI (Ed + 1))])) hz.1.1 (Or.inl rfl))
      have hRe : qRt cy (qs h x (.inr (6, [.int mk, .ref sl, .ref bl, .ref kr, .ref vr, .int (oCq W.1), .int (oMq W.1), .int (nI (Ed + 1))]))) Im (Ed + 1) (zOk Ed eb S) mk x2j (zSv (S j)) (fun _ => False) := hRj.go.keep (fun b o e y => (qs_ne (hz.2.2.2.2.2.1 b (Or.inl (y.resolve_right id))).1).trans e)
      replace hz := hz.up hV hE9
      have hed1 := (hz.2.2.2.2.2.2.2.1 0 (by decide)).no
      refine lv_aload_n hx hb dX6_out_61 rfl (lv_at hl 1 rfl) ?_
      refine q_get C hP hz.1.1 rfl inX6 0 (by decide) g68 rfl dX6_out_62 ?_
      refine lv_lload_n hx hb dX6_out_65 rfl (lv_at hl 4 rfl) ?_
      refine q_callS (rest := [.int (nI 1), .int (nI i), .ref x]) C (c_X3_removed l D cy N0 (qs h x (.inr (6, [.int mk, .ref sl, .ref bl, .ref kr, .ref vr, .int (oCq W.1), .int (oMq W.1), .int (nI (Ed + 1))]))) Im (Ed + 1) (zOk Ed eb S) mk x2j (zSv (S j)) (fun _ => False) p2 64 hRe hed1 zOk_no (by omega) (by rw [zSv_len]; omega) (by omega) (zSv_no hnoj)) kX3_removed g797 g798 hP hS (by first | decide | omega) hl.1 rfl (by simp [q_catrf, q_cati, q_catl, q_cata, q_catn]) (by first | decide | omega) dX6_out_66 (fun q ce E h' H1 locs1 hE => hE.elim) (fun v hh4 H locs hq hP hS => ?_)
      obtain ⟨x8, X8, Im8, rfl, hR8, hE8, hC8⟩ := hq
      have hle8 : qle (qs h x (.inr (6, [.int mk, .ref sl, .ref bl, .ref kr, .ref vr, .int (oCq W.1), .int (oMq W.1), .int (nI (Ed + 1))]))) hh4 := fun b o e => hC8.1 b o e (fun z => z)
      obtain ⟨Im3, hz3, hR3, hi1, hi2⟩ := hz.edit hV heb hR8 hE8 hC8
      have hi3 : ∀ b, Im3 b → Im b ∨ h b = none := fun b z => (hi2 b z).imp id (hf.2 b)
      replace faj := hle8 _ _ faj
      replace hf := hf.trs (zFr.le hle8 (qle.dom hle8))
      replace hz := hz3
      refine q_callS (rest := [.int (nI i), .ref x]) C (c_X2_ofTrie l D cy N0 hh4 (nI 1) x8) kX2_ofTrie g437 g438 hP hS (by first | decide | omega) hl.1 rfl (by simp [q_catrf, q_cati, q_catl, q_cata, q_catn]) (by first | decide | omega) dX6_out_69 (fun q ce E h' H1 locs1 hE => hE.elim) (fun v hh5 H locs hq hP hS => ?_)
      obtain ⟨qh, rfl, oqh, rfl⟩ := hq
      replace hP : qP D N0 (qs hh4 qh (.inr (2, [.int (nI 1), .null, va_rf x8, .null, .null, .int 0]))) H := hP
      have hleh : qle hh4 (qs hh4 qh (.inr (2, [.int (nI 1), .null, va_rf x8, .null, .null, .int 0]))) := qle_new oqh
      replace faj := hleh _ _ faj
      replace hR3 := hR3.le hleh
      replace hf := hf.trs (zFr.le hleh (qle.dom hleh))
      replace hz := hz.le hV hleh (qle.dom hleh)
      have fqh : (qs hh4 qh (.inr (2, [.int (nI 1), .null, va_rf x8, .null, .null, .int 0]))) qh = some (.inr (2, [.int (nI 1), .null, va_rf x8, .null, .null, .int 0])) := qs_self
      replace fqh : (qs hh4 qh (.inr (2, [.int (nI 1), .null, va_rf x8, .null, .null, .int 0]))) qh = some (.inr (2, [.int (S j).1, .null, va_rf x8, .null, .null, .int 0])) := by rw [hk9]; exact fqh
      have zvn : zV cy (qs hh4 qh (.inr (2, [.int (nI 1), .null, va_rf x8, .null, .null, .int 0]))) Im3 (zOk (Ed + 1) eb S) mk g ((S j).1, (S j).2.1.filter (fun p => decide (p.1 ≠ p2)), (S j).2.2) none x8 none none 0 := Or.inr (Or.inr (Or.inr (Or.inl ⟨hk12, rfl, rfl, rfl, rfl, by rw [zSv_out]; exact hR3⟩)))
      have hzp := hz.put hV hi (s := ((S j).1, (S j).2.1.filter (fun p => decide (p.1 ≠ p2)), (S j).2.2)) (show ¬ ((S j).1 = -1) from fun z => absurd (hk9.symm.trans z) (by decide)) ⟨none, x8, none, none, 0, fqh, zvn⟩
      have hfp : zFr h (qs (qs hh4 qh (.inr (2, [.int (nI 1), .null, va_rf x8, .null, .null, .int 0]))) sl (.inl (cy 3, 24, .inr (.inr (.inr (.inr (va_up fs i (some qh)))))))) x sl kr vr bd br Xb := hf.trs (zFr.set hz.2.1.1 (Or.inr (Or.inl rfl)))
      have hkd : qHd (qs hh4 qh (.inr (2, [.int (nI 1), .null, va_rf x8, .null, .null, .int 0]))) qh ((S j).1) none x8 none none 0 (nI (zAm ((S j).1, (S j).2.1.filter (fun p => decide (p.1 ≠ p2)), (S j).2.2))) := zHd.hd (s := ((S j).1, (S j).2.1.filter (fun p => decide (p.1 ≠ p2)), (S j).2.2)) fqh zvn
      refine q_callV (rest := []) C (c_X6_keep l D cy N0 (qs hh4 qh (.inr (2, [.int (nI 1), .null, va_rf x8, .null, .null, .int 0]))) x sl bl kr vr mk (oCq W.1) (oMq W.1) (nI (Ed + 1)) fs i qh ((S j).1) none x8 none none 0 (nI (zAm ((S j).1, (S j).2.1.filter (fun p => decide (p.1 ≠ p2)), (S j).2.2))) hz.1.1 hz.2.1.1 hi hkd) kX6_keep g218 g220 rfl gp1 g1 hP hS hz.1.1 (by first | decide | omega) hl.1 rfl (by decide) (by first | decide | omega) dX6_out_72 (fun q ce E h' H1 locs1 hE => hE.elim) (fun v hh6 H locs hq hP hS => ?_)
      obtain ⟨rfl, rfl⟩ := hq
      replace faj := (qs_ne (h := (qs hh4 qh (.inr (2, [.int (nI 1), .null, va_rf x8, .null, .null, .int 0])))) (a := sl) (o := (.inl (cy 3, 24, .inr (.inr (.inr (.inr (va_up fs i (some qh)))))))) (fun z => by rw [z, hz.2.1.1] at faj; cases faj)).trans faj
      have ex : (xs_out S (nI i) (nI j) p2) = (0, qU S i ((S j).1, (S j).2.1.filter (fun p => decide (p.1 ≠ p2)), (S j).2.2), nI ((S j).2.1.filter (fun p => decide (p.1 ≠ p2))).length) := by unfold xs_out; rw [if_neg (by rw [ebi, ebj]; decide), ecj, if_neg (by rw [hoj]; decide), eci]; rfl
      exact q_iret C hP hS ⟨by rw [ex], by first | (rw [ex]; done) | (rw [ex]; show some (Value.int (nI (zAm ((S j).1, (S j).2.1.filter (fun p => decide (p.1 ≠ p2)), (S j).2.2)))) = _; rw [zAm_n (s := ((S j).1, (S j).2.1.filter (fun p => decide (p.1 ≠ p2)), (S j).2.2)) hk6]), by rw [ex]; exact hzp.po1 hfp hi3⟩ (by omega) dX6_out_75
    · replace c19 : 1 = 3 := (nI_eq (a := 1) (b := 3) (by omega) (by omega)).mp c19
      exfalso; omega
  · replace hk9 : (S j).1 = nI 2 := hk9
    have hk6 : ¬ (S j).1 = 6 := fun z => absurd (hk9.symm.trans z) (by decide)
    rw [hk9] at faj
    have hk12 : (S j).1 = 1 ∨ (S j).1 = 2 := Or.inr hk9
    obtain ⟨rfl, rfl, rfl, rfl, hRj⟩ := zvj.hash hk12
    have hlj := hLn j (by omega)
    have hqj := h64 j (by omega) (hk12.elim Or.inl (fun z => Or.inr (Or.inl z)))
    have hnoj : qNo (S j).2.1 := (hI j (by omega)).2.1 (hk12.elim Or.inl (fun z => Or.inr (Or.inl z)))
    refine lv_astore (lv' := [(5, .ref aj), (0, .ref x), (1, .int (nI i)), (2, .int (nI j)), (3, .long p2)]) hx hb dX6_out_11 hl (by decide) rfl (fun ls hl => ?_)
    refine lv_aload hx hb dX6_out_13 (lv_at hl 0 rfl) ?_
    refine q_get C hP faj rfl inX2 0 (by decide) g192 rfl dX6_out_15 ?_
    refine lv_iconst (v := nI 3) hx hb dX6_out_18 (by decide) ?_
    refine lv_icmp_ne (tgt := 45) hx hb dX6_out_19 (by decide) (fun c19 => ?_) (fun c19 => ?_)
    · replace c19 : ¬ 2 = 3 := fun zq => c19 ((nI_eq (a := 2) (b := 3) (by omega) (by omega)).mpr zq)
      refine lv_aload_n hx hb dX6_out_45 rfl (lv_at hl 1 rfl) ?_
      refine lv_iload_n hx hb dX6_out_46 rfl (lv_at hl 2 rfl) ?_
      refine lv_aload hx hb dX6_out_47 (lv_at hl 0 rfl) ?_
      refine q_get C hP faj rfl inX2 0 (by decide) g192 rfl dX6_out_49 ?_
      refine lv_aload hx hb dX6_out_52 (lv_at hl 0 rfl) ?_
      refine q_get C hP faj rfl inX2 2 (by decide) g198 rfl dX6_out_54 ?_
      refine lv_aload_n hx hb dX6_out_57 rfl (lv_at hl 1 rfl) ?_
      refine q_callV (rest := [va_rf x2j, .int (nI 2), .int (nI i), .ref x]) C (c_X6_nextEdit l D cy N0 h x sl bl kr vr mk (oCq W.1) (oMq W.1) (nI Ed) fs hz.1.1 hz.2.1.1) kX6_nextEdit g285 g287 rfl gp3 g1 hP hS hz.1.1 (by first | decide | omega) hl.1 rfl (by simp [q_catrf, q_cati, q_catl, q_cata, q_catn]) (by first | decide | omega) dX6_out_58 (fun q ce E h' H1 locs1 hE => hE.elim) (fun v hh7 H locs hq hP hS => ?_)
      have heb : ∀ b, b < 4 → ((S (24 + b)).1 = 1 ∨ (S (24 + b)).1 = 2) → eb b ≤ Ed := fun b hb y => (hz.2.2.2.2.2.2.2.2.1 b hb y).1
      obtain ⟨rfl, rfl⟩ := hq
      rw [nI_1 Ed] at hP
      rw [nI_1 Ed]
      replace hP : qP D N0 (qs h x (.inr (6, [.int mk, .ref sl, .ref bl, .ref kr, .ref vr, .int (oCq W.1), .int (oMq W.1), .int (nI (Ed + 1))]))) H := hP
      replace faj := (qs_ne (h := h) (a := x) (o := (.inr (6, [.int mk, .ref sl, .ref bl, .ref kr, .ref vr, .int (oCq W.1), .int (oMq W.1), .int (nI (Ed + 1))]))) (fun z => by rw [z, hz.1.1] at faj; simp at faj)).trans faj
      replace hf := hf.trs (zFr.set (o' := .inr (6, [.int mk, .ref sl, .ref bl, .ref kr, .ref vr, .int (oCq W.1), .int (oMq W.1), .int (nI (Ed + 1))])) hz.1.1 (Or.inl rfl))
      have hRe : qRt cy (qs h x (.inr (6, [.int mk, .ref sl, .ref bl, .ref kr, .ref vr, .int (oCq W.1), .int (oMq W.1), .int (nI (Ed + 1))]))) Im (Ed + 1) (zOk Ed eb S) mk x2j (zSv (S j)) (fun _ => False) := hRj.go.keep (fun b o e y => (qs_ne (hz.2.2.2.2.2.1 b (Or.inl (y.resolve_right id))).1).trans e)
      replace hz := hz.up hV hE9
      have hed1 := (hz.2.2.2.2.2.2.2.1 0 (by decide)).no
      refine lv_aload_n hx hb dX6_out_61 rfl (lv_at hl 1 rfl) ?_
      refine q_get C hP hz.1.1 rfl inX6 0 (by decide) g68 rfl dX6_out_62 ?_
      refine lv_lload_n hx hb dX6_out_65 rfl (lv_at hl 4 rfl) ?_
      refine q_callS (rest := [.int (nI 2), .int (nI i), .ref x]) C (c_X3_removed l D cy N0 (qs h x (.inr (6, [.int mk, .ref sl, .ref bl, .ref kr, .ref vr, .int (oCq W.1), .int (oMq W.1), .int (nI (Ed + 1))]))) Im (Ed + 1) (zOk Ed eb S) mk x2j (zSv (S j)) (fun _ => False) p2 64 hRe hed1 zOk_no (by omega) (by rw [zSv_len]; omega) (by omega) (zSv_no hnoj)) kX3_removed g797 g798 hP hS (by first | decide | omega) hl.1 rfl (by simp [q_catrf, q_cati, q_catl, q_cata, q_catn]) (by first | decide | omega) dX6_out_66 (fun q ce E h' H1 locs1 hE => hE.elim) (fun v hh8 H locs hq hP hS => ?_)
      obtain ⟨x8, X8, Im8, rfl, hR8, hE8, hC8⟩ := hq
      have hle8 : qle (qs h x (.inr (6, [.int mk, .ref sl, .ref bl, .ref kr, .ref vr, .int (oCq W.1), .int (oMq W.1), .int (nI (Ed + 1))]))) hh8 := fun b o e => hC8.1 b o e (fun z => z)
      obtain ⟨Im3, hz3, hR3, hi1, hi2⟩ := hz.edit hV heb hR8 hE8 hC8
      have hi3 : ∀ b, Im3 b → Im b ∨ h b = none := fun b z => (hi2 b z).imp id (hf.2 b)
      replace faj := hle8 _ _ faj
      replace hf := hf.trs (zFr.le hle8 (qle.dom hle8))
      replace hz := hz3
      refine q_callS (rest := [.int (nI i), .ref x]) C (c_X2_ofTrie l D cy N0 hh8 (nI 2) x8) kX2_ofTrie g437 g438 hP hS (by first | decide | omega) hl.1 rfl (by simp [q_catrf, q_cati, q_catl, q_cata, q_catn]) (by first | decide | omega) dX6_out_69 (fun q ce E h' H1 locs1 hE => hE.elim) (fun v hh9 H locs hq hP hS => ?_)
      obtain ⟨qh, rfl, oqh, rfl⟩ := hq
      replace hP : qP D N0 (qs hh8 qh (.inr (2, [.int (nI 2), .null, va_rf x8, .null, .null, .int 0]))) H := hP
      have hleh : qle hh8 (qs hh8 qh (.inr (2, [.int (nI 2), .null, va_rf x8, .null, .null, .int 0]))) := qle_new oqh
      replace faj := hleh _ _ faj
      replace hR3 := hR3.le hleh
      replace hf := hf.trs (zFr.le hleh (qle.dom hleh))
      replace hz := hz.le hV hleh (qle.dom hleh)
      have fqh : (qs hh8 qh (.inr (2, [.int (nI 2), .null, va_rf x8, .null, .null, .int 0]))) qh = some (.inr (2, [.int (nI 2), .null, va_rf x8, .null, .null, .int 0])) := qs_self
      replace fqh : (qs hh8 qh (.inr (2, [.int (nI 2), .null, va_rf x8, .null, .null, .int 0]))) qh = some (.inr (2, [.int (S j).1, .null, va_rf x8, .null, .null, .int 0])) := by rw [hk9]; exact fqh
      have zvn : zV cy (qs hh8 qh (.inr (2, [.int (nI 2), .null, va_rf x8, .null, .null, .int 0]))) Im3 (zOk (Ed + 1) eb S) mk g ((S j).1, (S j).2.1.filter (fun p => decide (p.1 ≠ p2)), (S j).2.2) none x8 none none 0 := Or.inr (Or.inr (Or.inr (Or.inl ⟨hk12, rfl, rfl, rfl, rfl, by rw [zSv_out]; exact hR3⟩)))
      have hzp := hz.put hV hi (s := ((S j).1, (S j).2.1.filter (fun p => decide (p.1 ≠ p2)), (S j).2.2)) (show ¬ ((S j).1 = -1) from fun z => absurd (hk9.symm.trans z) (by decide)) ⟨none, x8, none, none, 0, fqh, zvn⟩
      have hfp : zFr h (qs (qs hh8 qh (.inr (2, [.int (nI 2), .null, va_rf x8, .null, .null, .int 0]))) sl (.inl (cy 3, 24, .inr (.inr (.inr (.inr (va_up fs i (some qh)))))))) x sl kr vr bd br Xb := hf.trs (zFr.set hz.2.1.1 (Or.inr (Or.inl rfl)))
      have hkd : qHd (qs hh8 qh (.inr (2, [.int (nI 2), .null, va_rf x8, .null, .null, .int 0]))) qh ((S j).1) none x8 none none 0 (nI (zAm ((S j).1, (S j).2.1.filter (fun p => decide (p.1 ≠ p2)), (S j).2.2))) := zHd.hd (s := ((S j).1, (S j).2.1.filter (fun p => decide (p.1 ≠ p2)), (S j).2.2)) fqh zvn
      refine q_callV (rest := []) C (c_X6_keep l D cy N0 (qs hh8 qh (.inr (2, [.int (nI 2), .null, va_rf x8, .null, .null, .int 0]))) x sl bl kr vr mk (oCq W.1) (oMq W.1) (nI (Ed + 1)) fs i qh ((S j).1) none x8 none none 0 (nI (zAm ((S j).1, (S j).2.1.filter (fun p => decide (p.1 ≠ p2)), (S j).2.2))) hz.1.1 hz.2.1.1 hi hkd) kX6_keep g218 g220 rfl gp1 g1 hP hS hz.1.1 (by first | decide | omega) hl.1 rfl (by decide) (by first | decide | omega) dX6_out_72 (fun q ce E h' H1 locs1 hE => hE.elim) (fun v hh10 H locs hq hP hS => ?_)
      obtain ⟨rfl, rfl⟩ := hq
      replace faj := (qs_ne (h := (qs hh8 qh (.inr (2, [.int (nI 2), .null, va_rf x8, .null, .null, .int 0])))) (a := sl) (o := (.inl (cy 3, 24, .inr (.inr (.inr (.inr (va_up fs i (some qh)))))))) (fun z => by rw [z, hz.2.1.1] at faj; cases faj)).trans faj
      have ex : (xs_out S (nI i) (nI j) p2) = (0, qU S i ((S j).1, (S j).2.1.filter (fun p => decide (p.1 ≠ p2)), (S j).2.2), nI ((S j).2.1.filter (fun p => decide (p.1 ≠ p2))).length) := by unfold xs_out; rw [if_neg (by rw [ebi, ebj]; decide), ecj, if_neg (by rw [hoj]; decide), eci]; rfl
      exact q_iret C hP hS ⟨by rw [ex], by first | (rw [ex]; done) | (rw [ex]; show some (Value.int (nI (zAm ((S j).1, (S j).2.1.filter (fun p => decide (p.1 ≠ p2)), (S j).2.2)))) = _; rw [zAm_n (s := ((S j).1, (S j).2.1.filter (fun p => decide (p.1 ≠ p2)), (S j).2.2)) hk6]), by rw [ex]; exact hzp.po1 hfp hi3⟩ (by omega) dX6_out_75
    · replace c19 : 2 = 3 := (nI_eq (a := 2) (b := 3) (by omega) (by omega)).mp c19
      exfalso; omega
  · replace hk9 : (S j).1 = nI 3 := hk9
    have hk6 : ¬ (S j).1 = 6 := fun z => absurd (hk9.symm.trans z) (by decide)
    rw [hk9] at faj
    obtain ⟨rfl, rfl, rfl, rfl, n9, hb9⟩ := zvj.tree hk9
    have hl9 := hLn j (by omega)
    have hn14 : n9 ≤ 14 := hb9.h14 (by omega)
    have hsoj : qSo (S j).2.1 := qSo_of ((hI j (by omega)).1 (Or.inl hk9)) ((hI j (by omega)).2.1 (Or.inr (Or.inr hk9)))
    have hqj := h64 j (by omega) (Or.inr (Or.inr hk9))
    have htc := qTc14 hn14
    refine lv_astore (lv' := [(5, .ref aj), (0, .ref x), (1, .int (nI i)), (2, .int (nI j)), (3, .long p2)]) hx hb dX6_out_11 hl (by decide) rfl (fun ls hl => ?_)
    refine lv_aload hx hb dX6_out_13 (lv_at hl 0 rfl) ?_
    refine q_get C hP faj rfl inX2 0 (by decide) g192 rfl dX6_out_15 ?_
    refine lv_iconst (v := nI 3) hx hb dX6_out_18 (by decide) ?_
    refine lv_icmp_ne (tgt := 45) hx hb dX6_out_19 (by decide) (fun c19 => ?_) (fun c19 => ?_)
    · replace c19 : ¬ 3 = 3 := fun zq => c19 ((nI_eq (a := 3) (b := 3) (by omega) (by omega)).mpr zq)
      exfalso; omega
    · replace c19 : 3 = 3 := (nI_eq (a := 3) (b := 3) (by omega) (by omega)).mp c19
      refine lv_aload_n hx hb dX6_out_22 rfl (lv_at hl 1 rfl) ?_
      refine lv_iload_n hx hb dX6_out_23 rfl (lv_at hl 2 rfl) ?_
      refine lv_aload hx hb dX6_out_24 (lv_at hl 0 rfl) ?_
      refine q_get C hP faj rfl inX2 0 (by decide) g192 rfl dX6_out_26 ?_
      refine lv_aload hx hb dX6_out_29 (lv_at hl 0 rfl) ?_
      refine q_get C hP faj rfl inX2 1 (by decide) g195 rfl dX6_out_31 ?_
      refine lv_lload_n hx hb dX6_out_34 rfl (lv_at hl 4 rfl) ?_
      refine q_callS (rest := [.int (nI 3), .int (nI i), .ref x]) C (c_X0_withoutKey l D cy N0 h x1j n9 (S j).2.1 p2 hb9 (by omega) hsoj) kX0_withoutKey g783 g784 hP hS (by first | decide | omega) hl.1 rfl (by simp [q_catrf, q_cati, q_catl, q_cata, q_catn]) (by first | decide | omega) dX6_out_35 (fun q ce E h' H1 locs1 hE => hE.elim) (fun v hh11 H locs hq hP hS => ?_)
      obtain ⟨r8, n8, rfl, hle8, hb8, -⟩ := hq
      replace faj := hle8 _ _ faj
      replace zvj := zvj.le hle8
      replace hb9 := hb9.le hle8
      replace hf := hf.trs (zFr.le hle8 (qle.dom hle8))
      replace hz := hz.le hV hle8 (qle.dom hle8)
      refine q_callS (rest := [.int (nI i), .ref x]) C (c_X2_ofTree l D cy N0 hh11 (nI 3) r8) kX2_ofTree g516 g517 hP hS (by first | decide | omega) hl.1 rfl (by simp [q_catrf, q_cati, q_catl, q_cata, q_catn]) (by first | decide | omega) dX6_out_38 (fun q ce E h' H1 locs1 hE => hE.elim) (fun v hh12 H locs hq hP hS => ?_)
      obtain ⟨qh, rfl, oqh, rfl⟩ := hq
      replace hP : qP D N0 (qs hh11 qh (.inr (2, [.int (nI 3), va_rf r8, .null, .null, .null, .int 0]))) H := hP
      have hleh : qle hh11 (qs hh11 qh (.inr (2, [.int (nI 3), va_rf r8, .null, .null, .null, .int 0]))) := qle_new oqh
      replace faj := hleh _ _ faj
      replace zvj := zvj.le hleh
      replace hb9 := hb9.le hleh
      replace hb8 := hb8.le hleh
      replace hf := hf.trs (zFr.le hleh (qle.dom hleh))
      replace hz := hz.le hV hleh (qle.dom hleh)
      have fqh : (qs hh11 qh (.inr (2, [.int (nI 3), va_rf r8, .null, .null, .null, .int 0]))) qh = some (.inr (2, [.int (nI 3), va_rf r8, .null, .null, .null, .int 0])) := qs_self
      replace fqh : (qs hh11 qh (.inr (2, [.int (nI 3), va_rf r8, .null, .null, .null, .int 0]))) qh = some (.inr (2, [.int (S j).1, va_rf r8, .null, .null, .null, .int 0])) := by rw [hk9]; exact fqh
      have zvn : zV cy (qs hh11 qh (.inr (2, [.int (nI 3), va_rf r8, .null, .null, .null, .int 0]))) Im (zOk Ed eb S) mk g ((S j).1, (S j).2.1.filter (fun p => decide (p.1 ≠ p2)), (S j).2.2) r8 none none none 0 := Or.inr (Or.inl ⟨hk9, rfl, rfl, rfl, rfl, n8, hb8⟩)
      have hzp := hz.put hV hi (s := ((S j).1, (S j).2.1.filter (fun p => decide (p.1 ≠ p2)), (S j).2.2)) (show ¬ ((S j).1 = -1) from fun z => absurd (hk9.symm.trans z) (by decide)) ⟨r8, none, none, none, 0, fqh, zvn⟩
      have hfp : zFr h (qs (qs hh11 qh (.inr (2, [.int (nI 3), va_rf r8, .null, .null, .null, .int 0]))) sl (.inl (cy 3, 24, .inr (.inr (.inr (.inr (va_up fs i (some qh)))))))) x sl kr vr bd br Xb := hf.trs (zFr.set hz.2.1.1 (Or.inr (Or.inl rfl)))
      have hkd : qHd (qs hh11 qh (.inr (2, [.int (nI 3), va_rf r8, .null, .null, .null, .int 0]))) qh ((S j).1) r8 none none none 0 (nI (zAm ((S j).1, (S j).2.1.filter (fun p => decide (p.1 ≠ p2)), (S j).2.2))) := zHd.hd (s := ((S j).1, (S j).2.1.filter (fun p => decide (p.1 ≠ p2)), (S j).2.2)) fqh zvn
      refine q_callV (rest := []) C (c_X6_keep l D cy N0 (qs hh11 qh (.inr (2, [.int (nI 3), va_rf r8, .null, .null, .null, .int 0]))) x sl bl kr vr mk (oCq W.1) (oMq W.1) (nI Ed) fs i qh ((S j).1) r8 none none none 0 (nI (zAm ((S j).1, (S j).2.1.filter (fun p => decide (p.1 ≠ p2)), (S j).2.2))) hz.1.1 hz.2.1.1 hi hkd) kX6_keep g218 g220 rfl gp1 g1 hP hS hz.1.1 (by first | decide | omega) hl.1 rfl (by decide) (by first | decide | omega) dX6_out_41 (fun q ce E h' H1 locs1 hE => hE.elim) (fun v hh13 H locs hq hP hS => ?_)
      obtain ⟨rfl, rfl⟩ := hq
      replace faj := (qs_ne (h := (qs hh11 qh (.inr (2, [.int (nI 3), va_rf r8, .null, .null, .null, .int 0])))) (a := sl) (o := (.inl (cy 3, 24, .inr (.inr (.inr (.inr (va_up fs i (some qh)))))))) (fun z => by rw [z, hz.2.1.1] at faj; cases faj)).trans faj
      have ex : (xs_out S (nI i) (nI j) p2) = (0, qU S i ((S j).1, (S j).2.1.filter (fun p => decide (p.1 ≠ p2)), (S j).2.2), nI ((S j).2.1.filter (fun p => decide (p.1 ≠ p2))).length) := by unfold xs_out; rw [if_neg (by rw [ebi, ebj]; decide), ecj, if_neg (by rw [hoj]; decide), eci]; rfl
      exact q_iret C hP hS ⟨by rw [ex], by first | (rw [ex]; done) | (rw [ex]; show some (Value.int (nI (zAm ((S j).1, (S j).2.1.filter (fun p => decide (p.1 ≠ p2)), (S j).2.2)))) = _; rw [zAm_n (s := ((S j).1, (S j).2.1.filter (fun p => decide (p.1 ≠ p2)), (S j).2.2)) hk6]), by rw [ex]; exact hzp.po hfp⟩ (by omega) dX6_out_44
