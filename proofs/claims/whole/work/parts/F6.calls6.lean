theorem bHo_113 {kd : Int32} (h : kd ∈ [(-1 : Int32), 0, 1, 2, 3, 4, 5, 6]) (e : bHo kd 113 = true) : kd = nI 0 ∨ kd = nI 4 ∨ kd = nI 5 ∨ kd = nI 6 := by
  simp only [List.mem_cons, List.not_mem_nil, or_false] at h
  rcases h with rfl | rfl | rfl | rfl | rfl | rfl | rfl | rfl <;> revert e <;> decide
theorem zpopP {v : Int64} {M M2 : List Int64} {L : qKV} (hp : (v :: M).Perm (L.map Prod.fst)) (hv : (L.getD 0 (0, 0)).1 = v) (h2 : M2.Perm M) : M2.Perm ((L.eraseIdx 0).map Prod.fst) := by
  cases L with
  | nil => exact absurd hp.length_eq (by simp)
  | cons p L =>
    have e : p.1 = v := hv
    rw [List.map_cons, e] at hp
    exact h2.trans hp.cons_inv
theorem zera {L : qKV} (h : ¬ L.length = 0) : L.eraseIdx (L.length - 1) = L.take (L.length - 1) := by
  rw [List.eraseIdx_eq_take_drop_succ, show L.length - 1 + 1 = L.length by omega, List.drop_length, List.append_nil]
theorem zera0 {L : qKV} : L.eraseIdx 0 = L.drop 1 := by rw [List.eraseIdx_eq_take_drop_succ]; rfl
theorem dX6_pop_11 : decode cX6_pop 11 = .ok (.astore_n 3, 1) := by decide +kernel
theorem dX6_pop_12 : decode cX6_pop 12 = .ok (.aload_n 3, 1) := by decide +kernel
theorem dX6_pop_13 : decode cX6_pop 13 = .ok (.getfield 63, 3) := by decide +kernel
theorem dX6_pop_16 : decode cX6_pop 16 = .ok (.bipush 6, 2) := by decide +kernel
theorem dX6_pop_18 : decode cX6_pop 18 = .ok (.if_icmp .ne 37, 3) := by decide +kernel
theorem dX6_pop_21 : decode cX6_pop 21 = .ok (.aload_n 3, 1) := by decide +kernel
theorem dX6_pop_22 : decode cX6_pop 22 = .ok (.getfield 115, 3) := by decide +kernel
theorem dX6_pop_25 : decode cX6_pop 25 = .ok (.invokestatic 155, 3) := by decide +kernel
theorem dX6_pop_28 : decode cX6_pop 28 = .ok (.astore 4, 2) := by decide +kernel
theorem dX6_pop_30 : decode cX6_pop 30 = .ok (.aload_n 0, 1) := by decide +kernel
theorem dX6_pop_31 : decode cX6_pop 31 = .ok (.iload_n 1, 1) := by decide +kernel
theorem dX6_pop_32 : decode cX6_pop 32 = .ok (.aload_n 0, 1) := by decide +kernel
theorem dX6_pop_33 : decode cX6_pop 33 = .ok (.aload 4, 2) := by decide +kernel
theorem dX6_pop_35 : decode cX6_pop 35 = .ok (.invokevirtual 179, 3) := by decide +kernel
theorem dX6_pop_38 : decode cX6_pop 38 = .ok (.aload_n 3, 1) := by decide +kernel
theorem dX6_pop_39 : decode cX6_pop 39 = .ok (.getfield 125, 3) := by decide +kernel
theorem dX6_pop_42 : decode cX6_pop 42 = .ok (.invokestatic 128, 3) := by decide +kernel
theorem dX6_pop_45 : decode cX6_pop 45 = .ok (.invokevirtual 51, 3) := by decide +kernel
theorem dX6_pop_48 : decode cX6_pop 48 = .ok (.pop, 1) := by decide +kernel
theorem dX6_pop_49 : decode cX6_pop 49 = .ok (.aload 4, 2) := by decide +kernel
theorem dX6_pop_51 : decode cX6_pop 51 = .ok (.getfield 159, 3) := by decide +kernel
theorem dX6_pop_54 : decode cX6_pop 54 = .ok (.lreturn, 1) := by decide +kernel
theorem dX6_pop_55 : decode cX6_pop 55 = .ok (.aload_n 3, 1) := by decide +kernel
theorem dX6_pop_56 : decode cX6_pop 56 = .ok (.getfield 63, 3) := by decide +kernel
theorem dX6_pop_59 : decode cX6_pop 59 = .ok (.iconst 5, 1) := by decide +kernel
theorem dX6_pop_60 : decode cX6_pop 60 = .ok (.if_icmp .ne 40, 3) := by decide +kernel
theorem dX6_pop_63 : decode cX6_pop 63 = .ok (.aload_n 3, 1) := by decide +kernel
theorem dX6_pop_64 : decode cX6_pop 64 = .ok (.getfield 84, 3) := by decide +kernel
theorem dX6_pop_67 : decode cX6_pop 67 = .ok (.invokestatic 182, 3) := by decide +kernel
theorem dX6_pop_70 : decode cX6_pop 70 = .ok (.astore 4, 2) := by decide +kernel
theorem dX6_pop_72 : decode cX6_pop 72 = .ok (.aload_n 0, 1) := by decide +kernel
theorem dX6_pop_73 : decode cX6_pop 73 = .ok (.iload_n 1, 1) := by decide +kernel
theorem dX6_pop_74 : decode cX6_pop 74 = .ok (.aload 4, 2) := by decide +kernel
theorem dX6_pop_76 : decode cX6_pop 76 = .ok (.getfield 186, 3) := by decide +kernel
theorem dX6_pop_79 : decode cX6_pop 79 = .ok (.aload 4, 2) := by decide +kernel
theorem dX6_pop_81 : decode cX6_pop 81 = .ok (.getfield 189, 3) := by decide +kernel
theorem dX6_pop_84 : decode cX6_pop 84 = .ok (.invokestatic 93, 3) := by decide +kernel
theorem dX6_pop_87 : decode cX6_pop 87 = .ok (.invokestatic 97, 3) := by decide +kernel
theorem dX6_pop_90 : decode cX6_pop 90 = .ok (.invokevirtual 51, 3) := by decide +kernel
theorem dX6_pop_93 : decode cX6_pop 93 = .ok (.pop, 1) := by decide +kernel
theorem dX6_pop_94 : decode cX6_pop 94 = .ok (.aload 4, 2) := by decide +kernel
theorem dX6_pop_96 : decode cX6_pop 96 = .ok (.getfield 192, 3) := by decide +kernel
theorem dX6_pop_99 : decode cX6_pop 99 = .ok (.lreturn, 1) := by decide +kernel
theorem dX6_pop_100 : decode cX6_pop 100 = .ok (.aload_n 3, 1) := by decide +kernel
theorem dX6_pop_101 : decode cX6_pop 101 = .ok (.getfield 63, 3) := by decide +kernel
theorem dX6_pop_104 : decode cX6_pop 104 = .ok (.iconst 4, 1) := by decide +kernel
theorem dX6_pop_105 : decode cX6_pop 105 = .ok (.if_icmp .ne 7, 3) := by decide +kernel
theorem dX6_pop_108 : decode cX6_pop 108 = .ok (.iconst 1, 1) := by decide +kernel
theorem dX6_pop_109 : decode cX6_pop 109 = .ok (.goto 4, 3) := by decide +kernel
theorem dX6_pop_112 : decode cX6_pop 112 = .ok (.iconst 0, 1) := by decide +kernel
theorem dX6_pop_113 : decode cX6_pop 113 = .ok (.istore 4, 2) := by decide +kernel
theorem dX6_pop_115 : decode cX6_pop 115 = .ok (.aload_n 3, 1) := by decide +kernel
theorem dX6_pop_116 : decode cX6_pop 116 = .ok (.invokevirtual 59, 3) := by decide +kernel
theorem dX6_pop_119 : decode cX6_pop 119 = .ok (.iconst 1, 1) := by decide +kernel
theorem dX6_pop_120 : decode cX6_pop 120 = .ok (.isub, 1) := by decide +kernel
theorem dX6_pop_121 : decode cX6_pop 121 = .ok (.istore 5, 2) := by decide +kernel
theorem dX6_pop_123 : decode cX6_pop 123 = .ok (.aload_n 3, 1) := by decide +kernel
theorem dX6_pop_124 : decode cX6_pop 124 = .ok (.getfield 101, 3) := by decide +kernel
theorem dX6_pop_127 : decode cX6_pop 127 = .ok (.iload 4, 2) := by decide +kernel
theorem dX6_pop_129 : decode cX6_pop 129 = .ok (.ifCond .eq 7, 3) := by decide +kernel
theorem dX6_pop_132 : decode cX6_pop 132 = .ok (.iconst 0, 1) := by decide +kernel
theorem dX6_pop_133 : decode cX6_pop 133 = .ok (.goto 5, 3) := by decide +kernel
theorem dX6_pop_136 : decode cX6_pop 136 = .ok (.iload 5, 2) := by decide +kernel
theorem dX6_pop_138 : decode cX6_pop 138 = .ok (.invokestatic 132, 3) := by decide +kernel
theorem dX6_pop_141 : decode cX6_pop 141 = .ok (.invokestatic 136, 3) := by decide +kernel
theorem dX6_pop_144 : decode cX6_pop 144 = .ok (.getfield 140, 3) := by decide +kernel
theorem dX6_pop_147 : decode cX6_pop 147 = .ok (.lstore 6, 2) := by decide +kernel
theorem dX6_pop_149 : decode cX6_pop 149 = .ok (.aload_n 0, 1) := by decide +kernel
theorem dX6_pop_150 : decode cX6_pop 150 = .ok (.iload_n 1, 1) := by decide +kernel
theorem dX6_pop_151 : decode cX6_pop 151 = .ok (.aload_n 3, 1) := by decide +kernel
theorem dX6_pop_152 : decode cX6_pop 152 = .ok (.getfield 63, 3) := by decide +kernel
theorem dX6_pop_155 : decode cX6_pop 155 = .ok (.iload 4, 2) := by decide +kernel
theorem dX6_pop_157 : decode cX6_pop 157 = .ok (.ifCond .eq 14, 3) := by decide +kernel
theorem dX6_pop_160 : decode cX6_pop 160 = .ok (.aload_n 3, 1) := by decide +kernel
theorem dX6_pop_161 : decode cX6_pop 161 = .ok (.getfield 101, 3) := by decide +kernel
theorem dX6_pop_164 : decode cX6_pop 164 = .ok (.iconst 1, 1) := by decide +kernel
theorem dX6_pop_165 : decode cX6_pop 165 = .ok (.invokestatic 173, 3) := by decide +kernel
theorem dX6_pop_168 : decode cX6_pop 168 = .ok (.goto 12, 3) := by decide +kernel
theorem dX6_pop_171 : decode cX6_pop 171 = .ok (.aload_n 3, 1) := by decide +kernel
theorem dX6_pop_172 : decode cX6_pop 172 = .ok (.getfield 101, 3) := by decide +kernel
theorem dX6_pop_175 : decode cX6_pop 175 = .ok (.iload 5, 2) := by decide +kernel
theorem dX6_pop_177 : decode cX6_pop 177 = .ok (.invokestatic 176, 3) := by decide +kernel
theorem dX6_pop_180 : decode cX6_pop 180 = .ok (.invokestatic 111, 3) := by decide +kernel
theorem dX6_pop_183 : decode cX6_pop 183 = .ok (.invokevirtual 51, 3) := by decide +kernel
theorem dX6_pop_186 : decode cX6_pop 186 = .ok (.pop, 1) := by decide +kernel
theorem dX6_pop_187 : decode cX6_pop 187 = .ok (.lload 6, 2) := by decide +kernel
theorem dX6_pop_189 : decode cX6_pop 189 = .ok (.lreturn, 1) := by decide +kernel
set_option maxRecDepth 100000 in
set_option maxHeartbeats 4000000 in
theorem z_pop (l : Launch) (D : va_G) (cy : Nat → ClassId) (N0 : Nat) (h : qH) (x : Nat) (mk : Int32) (sl bl kr vr Ed : Nat) (fs : Nat → Option Nat) (bd br eb : Nat → Nat) (Im : Nat → Prop) (Xb : Nat → Nat → Prop) (g : Nat → Nat) (S : Nat → qSlot) (W : qWo) (Bd sk Rn : Nat) (dp : Nat → Nat) (dc : Nat) (d : Nat) (F : qWo → Nat → Nat × qWo) (p0 p1 : Int32) (hz : zQ cy h x mk sl bl kr vr Ed fs bd br eb Im Xb g S W) (hI : ∀ i, i < 28 → qOk (S i).1 (S i).2.1) (hLn : ∀ i, i < 28 → (S i).2.1.length ≤ 1000) (hV : qWv Bd (sk + 1) Rn dp W) (hSt : ∀ i, i < 24 → (S i).1 = 6 → (S i).2.2.1 < W.2.1.1 ∧ dp (S i).2.2.1 ≤ dc) (hF : zCS l D cy N0 x mk sl bl kr vr (nI Ed) Bd Rn (xRs S) F d) (hG : qFg Bd Rn F d) (hdc : dc < d) : qC l D cy N0 yX6_pop cX6_pop 8 (some .long) (4 * d + 50) (200 * d + 1300) (400 + ((xs_pop F S W p0 p1).2.2.2.2.1.1 - W.2.1.1)) (3000 + 10 * ((xs_pop F S W p0 p1).2.2.2.2.1.1 - W.2.1.1)) [.ref x, .int p0, .int p1] h (fun v h' => (xs_pop F S W p0 p1).1 = 0 ∧ v = some (.long (xs_pop F S W p0 p1).2.1) ∧ zPo cy h x mk sl bl kr vr Ed bd br Im Xb ((xs_pop F S W p0 p1).2.2.1) ((xs_pop F S W p0 p1).2.2.2) h') (fun E h' => zXc [(1, "java/lang/IllegalArgumentException"), (2, "java/lang/IllegalStateException"), (3, "java/util/NoSuchElementException"), (4, "java/lang/ArithmeticException"), (5, "java/lang/IndexOutOfBoundsException")] E (xs_pop F S W p0 p1).1 ∧ zPo cy h x mk sl bl kr vr Ed bd br Im Xb S ((xs_pop F S W p0 p1).2.2.2) h') := by
  refine q_ofW (by decide) (by exact Nat.le_of_ble_eq_true rfl) ?_
  intro p e s m below meth c ls C hP hl
  have hx := C.1
  have hb := C.2.1
  have hS : va_S (qA N0) s.heap s.heap [] := va_S.rf
  have hl : lv_has ls 8 [(0, .ref x), (1, .int p0), (2, .int p1)] := hl
  have hf : zFr h h x sl kr vr bd br Xb := zFr.rf
  obtain ⟨o, a, k⟩ := W
  dsimp only at hSt
  have hp9 : 1 ≤ a.1 ∧ a.1 ≤ a.2.1 := hV.p
  refine lv_iload_n hx hb dX6_pop_0 rfl (lv_at hl 1 rfl) ?_
  refine q_callS (rest := []) C (c_X6_needSlot l D cy N0 h p0) kX6_needSlot g104 g105 hP hS (by first | decide | omega) hl.1 rfl (by decide) (by first | decide | omega) dX6_pop_1 (fun q ce E h' H1 locs1 hE hP hS hc1 hc2 hc3 => by obtain ⟨rfl, rfl, hn9⟩ := hE; have eb9 := bSl_f hn9; exact q_out C hP hS hc1 hc2 hc3 (by have ex : (xs_pop F S (o, a, k) p0 p1) = (1, 0, S, o, a, k) := (by unfold xs_pop; rw [if_pos (Or.inl eb9)]); exact ⟨by rw [ex]; exact .head _, by rw [ex]; exact hz.po hf⟩) (by omega)) (fun v hh1 H locs hq hP hS => ?_)
  obtain ⟨rfl, rfl, sl9⟩ := hq
  obtain ⟨i, hi, rfl⟩ := sl9.of
  have ebi : bSl (nI i) = true := bSl_t sl9
  have eci : (nI i).toNatClampNeg = i := nI_clamp (by omega)
  refine lv_aload_n hx hb dX6_pop_4 rfl (lv_at hl 0 rfl) ?_
  refine lv_iload_n hx hb dX6_pop_5 rfl (lv_at hl 2 rfl) ?_
  refine lv_bipush (v := nI 113) hx hb dX6_pop_6 (by decide) ?_
  refine q_callV (rest := []) C (z_heldIn l D N0 p1 113 hz hI) kX6_heldIn g243 g245 rfl gp2 g1 hP hS hz.1.1 (by first | decide | omega) hl.1 rfl (by decide) (by first | decide | omega) dX6_pop_8 (fun q ce E h' H1 locs1 hE hP hS hc1 hc2 hc3 => hE.2.elim (fun y => by obtain ⟨rfl, -⟩ := hE; obtain ⟨rfl, hn9⟩ := y; exact q_out C hP hS hc1 hc2 hc3 (by have ex : (xs_pop F S (o, a, k) (nI i) p1) = (1, 0, S, o, a, k) := (by have ebj := hn9; unfold xs_pop; rw [if_pos (Or.inr ebj)]); exact ⟨by rw [ex]; exact .head _, by rw [ex]; exact hz.po hf⟩) (by omega)) (fun y => by obtain ⟨rfl, -⟩ := hE; obtain ⟨rfl, j, hi8, rfl, ho8⟩ := y; exact q_out C hP hS hc1 hc2 hc3 (by have ex : (xs_pop F S (o, a, k) (nI i) (nI j)) = (2, 0, S, o, a, k) := (by have ebj : bSl (nI j) = true := bSl_t (qSl.nI hi8); have ecj : (nI j).toNatClampNeg = j := nI_clamp (by omega); have hoj := ho8; unfold xs_pop; rw [if_neg (by rw [ebi, ebj]; decide), ecj, if_pos hoj]); exact ⟨by rw [ex]; exact .tail _ (.head _), by rw [ex]; exact hz.po hf⟩) (by omega))) (fun v hh2 H locs hq hP hS => ?_)
  obtain ⟨rfl, j, aj, hj, rfl, hfsj, rfl, hoj, x1j, x2j, x3j, x4j, dvj, faj, zvj⟩ := hq
  have ebj : bSl (nI j) = true := bSl_t (qSl.nI hj)
  have ecj : (nI j).toNatClampNeg = j := nI_clamp (by omega)
  rcases bHo_113 (hI j (by omega)).2.2 hoj with hk9 | hk9 | hk9 | hk9
  · have hk6 : ¬ (S j).1 = 6 := fun z => absurd (hk9.symm.trans z) (by decide)
    have ham : zAm (S j) = (S j).2.1.length := zAm_n hk6
    have hl9 := hLn j (by omega)
    rw [hk9] at faj
    obtain ⟨rfl, rfl, rfl, rfl, n9, hb9⟩ := zvj.seq (Or.inl hk9)
    have hlm : ((S j).2.1.map (fun p => ((0 : Int64), p.1))).length = (S j).2.1.length := List.length_map ..
    have hl9 := hLn j (by omega)
    have hn14 : n9 ≤ 14 := hb9.h14 (by omega)
    have htc := qTc14 hn14
    by_cases hl0 : (S j).2.1.length = 0
    · refine lv_astore_n (lv' := [(3, .ref aj), (0, .ref x), (1, .int (nI i)), (2, .int (nI j))]) hx hb dX6_pop_11 rfl hl (by decide) rfl (fun ls hl => ?_)
      refine lv_aload_n hx hb dX6_pop_12 rfl (lv_at hl 0 rfl) ?_
      refine q_get C hP faj rfl inX2 0 (by decide) g192 rfl dX6_pop_13 ?_
      refine lv_bipush (v := nI 6) hx hb dX6_pop_16 (by decide) ?_
      refine lv_icmp_ne (tgt := 55) hx hb dX6_pop_18 (by decide) (fun c18 => ?_) (fun c18 => ?_)
      · replace c18 : ¬ 0 = 6 := fun zq => c18 ((nI_eq (a := 0) (b := 6) (by omega) (by omega)).mpr zq)
        refine lv_aload_n hx hb dX6_pop_55 rfl (lv_at hl 0 rfl) ?_
        refine q_get C hP faj rfl inX2 0 (by decide) g192 rfl dX6_pop_56 ?_
        refine lv_iconst (v := nI 5) hx hb dX6_pop_59 (by decide) ?_
        refine lv_icmp_ne (tgt := 100) hx hb dX6_pop_60 (by decide) (fun c60 => ?_) (fun c60 => ?_)
        · replace c60 : ¬ 0 = 5 := fun zq => c60 ((nI_eq (a := 0) (b := 5) (by omega) (by omega)).mpr zq)
          refine lv_aload_n hx hb dX6_pop_100 rfl (lv_at hl 0 rfl) ?_
          refine q_get C hP faj rfl inX2 0 (by decide) g192 rfl dX6_pop_101 ?_
          refine lv_iconst (v := nI 4) hx hb dX6_pop_104 (by decide) ?_
          refine lv_icmp_ne (tgt := 112) hx hb dX6_pop_105 (by decide) (fun c105 => ?_) (fun c105 => ?_)
          · replace c105 : ¬ 0 = 4 := fun zq => c105 ((nI_eq (a := 0) (b := 4) (by omega) (by omega)).mpr zq)
            refine lv_iconst (v := nI 0) hx hb dX6_pop_112 (by decide) ?_
            refine lv_istore (lv' := [(4, .int (nI 0)), (3, .ref aj), (0, .ref x), (1, .int (nI i)), (2, .int (nI j))]) hx hb dX6_pop_113 hl (by decide) rfl (fun ls hl => ?_)
            refine lv_aload_n hx hb dX6_pop_115 rfl (lv_at hl 1 rfl) ?_
            obtain ⟨t1j, t2j, t3j, f1j, f2j, f3j, etj⟩ := zvj.size
            refine q_callV (rest := []) C (c_X2_amount l D cy N0 h aj (nI 0) 0 t1j t2j t3j x1j none none none faj f1j f2j f3j) kX2_amount g222 g223 rfl g224 g10 hP hS faj (by first | decide | omega) hl.1 rfl (by decide) (by first | decide | omega) dX6_pop_116 (fun q ce E h' H1 locs1 hE => hE.elim) (fun v hh3 H locs hq hP hS => ?_)
            obtain ⟨rfl, rfl⟩ := hq
            rw [← etj]
            refine lv_iconst (v := nI 1) hx hb dX6_pop_119 (by decide) ?_
            refine lv_isub hx hb dX6_pop_120 ?_
            rw [ham, hl0, show nI 0 - nI 1 = -1 from by decide]
            refine lv_istore (lv' := [(5, .int (-1)), (4, .int (nI 0)), (3, .ref aj), (0, .ref x), (1, .int (nI i)), (2, .int (nI j))]) hx hb dX6_pop_121 hl (by decide) rfl (fun ls hl => ?_)
            refine lv_aload_n hx hb dX6_pop_123 rfl (lv_at hl 2 rfl) ?_
            refine q_get C hP faj rfl inX2 1 (by decide) g195 rfl dX6_pop_124 ?_
            refine lv_iload hx hb dX6_pop_127 (lv_at hl 1 rfl) ?_
            refine lv_if_eq (tgt := 136) hx hb dX6_pop_129 (by decide) (fun c129 => ?_) (fun c129 => ?_)
            · replace c129 : 0 = 0 := (nI_eq (a := 0) (b := 0) (by omega) (by omega)).mp c129
              refine lv_iload hx hb dX6_pop_136 (lv_at hl 0 rfl) ?_
              refine q_callS (rest := []) C (c_X0_branchAt l D cy N0 h x1j n9 ((S j).2.1.map (fun p => ((0 : Int64), p.1))) (-1) hb9 (by omega)) kX0_branchAt g591 g592 hP hS (by first | decide | omega) hl.1 rfl (by decide) (by first | decide | omega) dX6_pop_138 (fun q ce E h' H1 locs1 hE => hE.elim) (fun v hh4 H locs hq hP hS => ?_)
              obtain ⟨r9, rfl, rfl, hat⟩ := hq
              rcases hat with ⟨jj, ab, k9, v9, y1, y2, y3, y4, ejj, eL9, rfl, fab⟩ | ⟨rfl, hno⟩
              · have hjl := (List.getElem?_eq_some_iff.mp eL9).1
                rw [hlm] at hjl
                exact absurd hjl (by omega)
              · refine q_callS (rest := []) C (c_X6_needBranch l D cy N0 h none) kX6_needBranch g595 g596 hP hS (by first | decide | omega) hl.1 rfl (by decide) (by first | decide | omega) dX6_pop_141 (fun q ce E h' H1 locs1 hE hP hS hc1 hc2 hc3 => by obtain ⟨rfl, rfl, hn9⟩ := hE; exact q_out C hP hS hc1 hc2 hc3 (by have ex : (xs_pop F S (o, a, k) (nI i) (nI j)) = (3, 0, S, o, a, k) := (by unfold xs_pop; rw [if_neg (by rw [ebi, ebj]; decide), ecj, if_neg (by rw [hoj]; decide), eci]; unfold xr_pop; rw [if_neg hk6, if_pos hl0]); exact ⟨by rw [ex]; exact .tail _ (.tail _ (.head _)), by rw [ex]; exact hz.po hf⟩) (by omega)) (fun v hh5 H locs hq hP hS => ?_)
                obtain ⟨a8, e8, rfl, rfl⟩ := hq
                cases e8
            · replace c129 : ¬ 0 = 0 := fun zq => c129 ((nI_eq (a := 0) (b := 0) (by omega) (by omega)).mpr zq)
              exfalso; omega
          · replace c105 : 0 = 4 := (nI_eq (a := 0) (b := 4) (by omega) (by omega)).mp c105
            exfalso; omega
        · replace c60 : 0 = 5 := (nI_eq (a := 0) (b := 5) (by omega) (by omega)).mp c60
          exfalso; omega
      · replace c18 : 0 = 6 := (nI_eq (a := 0) (b := 6) (by omega) (by omega)).mp c18
        exfalso; omega
    · refine lv_astore_n (lv' := [(3, .ref aj), (0, .ref x), (1, .int (nI i)), (2, .int (nI j))]) hx hb dX6_pop_11 rfl hl (by decide) rfl (fun ls hl => ?_)
      refine lv_aload_n hx hb dX6_pop_12 rfl (lv_at hl 0 rfl) ?_
      refine q_get C hP faj rfl inX2 0 (by decide) g192 rfl dX6_pop_13 ?_
      refine lv_bipush (v := nI 6) hx hb dX6_pop_16 (by decide) ?_
      refine lv_icmp_ne (tgt := 55) hx hb dX6_pop_18 (by decide) (fun c18 => ?_) (fun c18 => ?_)
      · replace c18 : ¬ 0 = 6 := fun zq => c18 ((nI_eq (a := 0) (b := 6) (by omega) (by omega)).mpr zq)
        refine lv_aload_n hx hb dX6_pop_55 rfl (lv_at hl 0 rfl) ?_
        refine q_get C hP faj rfl inX2 0 (by decide) g192 rfl dX6_pop_56 ?_
        refine lv_iconst (v := nI 5) hx hb dX6_pop_59 (by decide) ?_
        refine lv_icmp_ne (tgt := 100) hx hb dX6_pop_60 (by decide) (fun c60 => ?_) (fun c60 => ?_)
        · replace c60 : ¬ 0 = 5 := fun zq => c60 ((nI_eq (a := 0) (b := 5) (by omega) (by omega)).mpr zq)
          refine lv_aload_n hx hb dX6_pop_100 rfl (lv_at hl 0 rfl) ?_
          refine q_get C hP faj rfl inX2 0 (by decide) g192 rfl dX6_pop_101 ?_
          refine lv_iconst (v := nI 4) hx hb dX6_pop_104 (by decide) ?_
          refine lv_icmp_ne (tgt := 112) hx hb dX6_pop_105 (by decide) (fun c105 => ?_) (fun c105 => ?_)
          · replace c105 : ¬ 0 = 4 := fun zq => c105 ((nI_eq (a := 0) (b := 4) (by omega) (by omega)).mpr zq)
            refine lv_iconst (v := nI 0) hx hb dX6_pop_112 (by decide) ?_
            refine lv_istore (lv' := [(4, .int (nI 0)), (3, .ref aj), (0, .ref x), (1, .int (nI i)), (2, .int (nI j))]) hx hb dX6_pop_113 hl (by decide) rfl (fun ls hl => ?_)
            refine lv_aload_n hx hb dX6_pop_115 rfl (lv_at hl 1 rfl) ?_
            obtain ⟨t1j, t2j, t3j, f1j, f2j, f3j, etj⟩ := zvj.size
            refine q_callV (rest := []) C (c_X2_amount l D cy N0 h aj (nI 0) 0 t1j t2j t3j x1j none none none faj f1j f2j f3j) kX2_amount g222 g223 rfl g224 g10 hP hS faj (by first | decide | omega) hl.1 rfl (by decide) (by first | decide | omega) dX6_pop_116 (fun q ce E h' H1 locs1 hE => hE.elim) (fun v hh6 H locs hq hP hS => ?_)
            obtain ⟨rfl, rfl⟩ := hq
            rw [← etj]
            refine lv_iconst (v := nI 1) hx hb dX6_pop_119 (by decide) ?_
            refine lv_isub hx hb dX6_pop_120 ?_
            rw [ham, q_nsub (show 1 ≤ (S j).2.1.length by omega)]
            refine lv_istore (lv' := [(5, .int (nI ((S j).2.1.length - 1))), (4, .int (nI 0)), (3, .ref aj), (0, .ref x), (1, .int (nI i)), (2, .int (nI j))]) hx hb dX6_pop_121 hl (by decide) rfl (fun ls hl => ?_)
            refine lv_aload_n hx hb dX6_pop_123 rfl (lv_at hl 2 rfl) ?_
            refine q_get C hP faj rfl inX2 1 (by decide) g195 rfl dX6_pop_124 ?_
            refine lv_iload hx hb dX6_pop_127 (lv_at hl 1 rfl) ?_
            refine lv_if_eq (tgt := 136) hx hb dX6_pop_129 (by decide) (fun c129 => ?_) (fun c129 => ?_)
            · replace c129 : 0 = 0 := (nI_eq (a := 0) (b := 0) (by omega) (by omega)).mp c129
              refine lv_iload hx hb dX6_pop_136 (lv_at hl 0 rfl) ?_
              refine q_callS (rest := []) C (c_X0_branchAt l D cy N0 h x1j n9 ((S j).2.1.map (fun p => ((0 : Int64), p.1))) (nI ((S j).2.1.length - 1)) hb9 (by omega)) kX0_branchAt g591 g592 hP hS (by first | decide | omega) hl.1 rfl (by decide) (by first | decide | omega) dX6_pop_138 (fun q ce E h' H1 locs1 hE => hE.elim) (fun v hh7 H locs hq hP hS => ?_)
              obtain ⟨r9, rfl, rfl, hat⟩ := hq
              rcases hat with ⟨jj, ab, k9, v9, y1, y2, y3, y4, ejj, eL9, rfl, fab⟩ | ⟨rfl, hno⟩
              · have hjl := (List.getElem?_eq_some_iff.mp eL9).1
                rw [hlm] at hjl
                obtain rfl : ((S j).2.1.length - 1) = jj := nI_inj32 (by omega) (by omega) ejj
                obtain ⟨p9, egL, ep9⟩ := Option.map_eq_some_iff.mp ((List.getElem?_map ..).symm.trans eL9)
                have hva : ((S j).2.1.getD ((S j).2.1.length - 1) (0, 0)).1 = v9 := by rw [List.getD_eq_getElem?_getD, egL]; exact congrArg Prod.snd ep9
                refine q_callS (rest := []) C (c_X6_needBranch l D cy N0 h (some ab)) kX6_needBranch g595 g596 hP hS (by first | decide | omega) hl.1 rfl (by decide) (by first | decide | omega) dX6_pop_141 (fun q ce E h' H1 locs1 hE hP hS hc1 hc2 hc3 => absurd hE.2.2 (fun z => by cases z)) (fun v hh8 H locs hq hP hS => ?_)
                obtain ⟨a8, e8, rfl, rfl⟩ := hq
                cases e8
                refine q_get C hP fab rfl inX0 2 (by decide) g496 rfl dX6_pop_144 ?_
                refine lv_lstore (lv' := [(6, .long v9), (5, .int (nI ((S j).2.1.length - 1))), (4, .int (nI 0)), (3, .ref aj), (0, .ref x), (1, .int (nI i)), (2, .int (nI j))]) hx hb dX6_pop_147 hl (by decide) rfl (fun ls hl => ?_)
                refine lv_aload_n hx hb dX6_pop_149 rfl (lv_at hl 4 rfl) ?_
                refine lv_iload_n hx hb dX6_pop_150 rfl (lv_at hl 5 rfl) ?_
                refine lv_aload_n hx hb dX6_pop_151 rfl (lv_at hl 3 rfl) ?_
                refine q_get C hP faj rfl inX2 0 (by decide) g192 rfl dX6_pop_152 ?_
                refine lv_iload hx hb dX6_pop_155 (lv_at hl 2 rfl) ?_
                refine lv_if_eq (tgt := 171) hx hb dX6_pop_157 (by decide) (fun c157 => ?_) (fun c157 => ?_)
                · replace c157 : 0 = 0 := (nI_eq (a := 0) (b := 0) (by omega) (by omega)).mp c157
                  refine lv_aload_n hx hb dX6_pop_171 rfl (lv_at hl 3 rfl) ?_
                  refine q_get C hP faj rfl inX2 1 (by decide) g195 rfl dX6_pop_172 ?_
                  refine lv_iload hx hb dX6_pop_175 (lv_at hl 1 rfl) ?_
                  refine q_callSN (host := RX6) (rest := [.int (nI 0), .int (nI i), .ref x]) C (c_X0_firstOf l D cy N0 (n9 + 1) h x1j n9 ((S j).2.1.map (fun p => ((0 : Int64), p.1))) ((S j).2.1.length - 1) hb9 (by omega) (by omega) (by omega)) kX0_firstOf (by decide +kernel) g729 hP hS (by first | decide | omega) hl.1 rfl (by simp [q_catrf, q_cati, q_catl, q_cata, q_catn]) (by first | decide | omega) dX6_pop_177 (fun v hh9 H locs hq hP hS => ?_)
                  obtain ⟨r8, n8, rfl, hle8, hb8, -⟩ := hq
                  replace faj := hle8 _ _ faj
                  replace fab := hle8 _ _ fab
                  replace zvj := zvj.le hle8
                  replace hb9 := hb9.le hle8
                  replace hf := hf.trs (zFr.le hle8 (qle.dom hle8))
                  replace hz := hz.le hV hle8 (qle.dom hle8)
                  refine q_callS (rest := [.int (nI i), .ref x]) C (c_X2_ofTree l D cy N0 hh9 (nI 0) r8) kX2_ofTree g516 g517 hP hS (by first | decide | omega) hl.1 rfl (by simp [q_catrf, q_cati, q_catl, q_cata, q_catn]) (by first | decide | omega) dX6_pop_180 (fun q ce E h' H1 locs1 hE => hE.elim) (fun v hh10 H locs hq hP hS => ?_)
                  obtain ⟨qh, rfl, oqh, rfl⟩ := hq
                  replace hP : qP D N0 (qs hh9 qh (.inr (2, [.int (nI 0), va_rf r8, .null, .null, .null, .int 0]))) H := hP
                  have hleh : qle hh9 (qs hh9 qh (.inr (2, [.int (nI 0), va_rf r8, .null, .null, .null, .int 0]))) := qle_new oqh
                  replace faj := hleh _ _ faj
                  replace fab := hleh _ _ fab
                  replace zvj := zvj.le hleh
                  replace hb9 := hb9.le hleh
                  replace hb8 := hb8.le hleh
                  replace hf := hf.trs (zFr.le hleh (qle.dom hleh))
                  replace hz := hz.le hV hleh (qle.dom hleh)
                  have fqh : (qs hh9 qh (.inr (2, [.int (nI 0), va_rf r8, .null, .null, .null, .int 0]))) qh = some (.inr (2, [.int (nI 0), va_rf r8, .null, .null, .null, .int 0])) := qs_self
                  replace fqh : (qs hh9 qh (.inr (2, [.int (nI 0), va_rf r8, .null, .null, .null, .int 0]))) qh = some (.inr (2, [.int (S j).1, va_rf r8, .null, .null, .null, .int 0])) := by rw [hk9]; exact fqh
                  have zvn : zV cy (qs hh9 qh (.inr (2, [.int (nI 0), va_rf r8, .null, .null, .null, .int 0]))) Im (zOk Ed eb S) mk g ((S j).1, (S j).2.1.take ((S j).2.1.length - 1), (S j).2.2) r8 none none none 0 := Or.inl ⟨Or.inl hk9, rfl, rfl, rfl, rfl, n8, by rw [List.map_take]; exact hb8⟩
                  have hzp := hz.put hV hi (s := ((S j).1, (S j).2.1.take ((S j).2.1.length - 1), (S j).2.2)) (show ¬ ((S j).1 = -1) from fun z => absurd (hk9.symm.trans z) (by decide)) ⟨r8, none, none, none, 0, fqh, zvn⟩
                  have hfp : zFr h (qs (qs hh9 qh (.inr (2, [.int (nI 0), va_rf r8, .null, .null, .null, .int 0]))) sl (.inl (cy 3, 24, .inr (.inr (.inr (.inr (va_up fs i (some qh)))))))) x sl kr vr bd br Xb := hf.trs (zFr.set hz.2.1.1 (Or.inr (Or.inl rfl)))
                  have hkd : qHd (qs hh9 qh (.inr (2, [.int (nI 0), va_rf r8, .null, .null, .null, .int 0]))) qh ((S j).1) r8 none none none 0 (nI (zAm ((S j).1, (S j).2.1.take ((S j).2.1.length - 1), (S j).2.2))) := zHd.hd (s := ((S j).1, (S j).2.1.take ((S j).2.1.length - 1), (S j).2.2)) fqh zvn
                  refine q_callV (rest := []) C (c_X6_keep l D cy N0 (qs hh9 qh (.inr (2, [.int (nI 0), va_rf r8, .null, .null, .null, .int 0]))) x sl bl kr vr mk (oCq (o, a, k).1) (oMq (o, a, k).1) (nI Ed) fs i qh ((S j).1) r8 none none none 0 (nI (zAm ((S j).1, (S j).2.1.take ((S j).2.1.length - 1), (S j).2.2))) hz.1.1 hz.2.1.1 hi hkd) kX6_keep g218 g220 rfl gp1 g1 hP hS hz.1.1 (by first | decide | omega) hl.1 rfl (by decide) (by first | decide | omega) dX6_pop_183 (fun q ce E h' H1 locs1 hE => hE.elim) (fun v hh11 H locs hq hP hS => ?_)
                  obtain ⟨rfl, rfl⟩ := hq
                  replace faj := (qs_ne (h := (qs hh9 qh (.inr (2, [.int (nI 0), va_rf r8, .null, .null, .null, .int 0])))) (a := sl) (o := (.inl (cy 3, 24, .inr (.inr (.inr (.inr (va_up fs i (some qh)))))))) (fun z => by rw [z, hz.2.1.1] at faj; cases faj)).trans faj
                  replace fab := (qs_ne (h := (qs hh9 qh (.inr (2, [.int (nI 0), va_rf r8, .null, .null, .null, .int 0])))) (a := sl) (o := (.inl (cy 3, 24, .inr (.inr (.inr (.inr (va_up fs i (some qh)))))))) (fun z => by rw [z, hz.2.1.1] at fab; cases fab)).trans fab
                  refine lv_pop hx hb dX6_pop_186 rfl ?_
                  refine lv_lload hx hb dX6_pop_187 (lv_at hl 0 rfl) ?_
                  have ex : (xs_pop F S (o, a, k) (nI i) (nI j)) = (0, v9, qU S i ((S j).1, (S j).2.1.take ((S j).2.1.length - 1), (S j).2.2), o, a, k) := by unfold xs_pop; rw [if_neg (by rw [ebi, ebj]; decide), ecj, if_neg (by rw [hoj]; decide), eci]; unfold xr_pop; rw [if_neg hk6, if_neg hl0, if_pos (show (S j).1 = 0 from hk9), hva, zera hl0]
                  exact q_lret C hP hS ⟨by rw [ex], by first | (rw [ex]; done) | (rw [ex]), by rw [ex]; exact hzp.po hfp⟩ (by omega) dX6_pop_189
                · replace c157 : ¬ 0 = 0 := fun zq => c157 ((nI_eq (a := 0) (b := 0) (by omega) (by omega)).mpr zq)
                  exfalso; omega
              · exfalso
                exact hno.elim (fun z => absurd z (nI_pos (by omega))) (fun ⟨j9, e9, h1, h2⟩ => by have := nI_inj32 (by omega) (by omega) e9; omega)
            · replace c129 : ¬ 0 = 0 := fun zq => c129 ((nI_eq (a := 0) (b := 0) (by omega) (by omega)).mpr zq)
              exfalso; omega
          · replace c105 : 0 = 4 := (nI_eq (a := 0) (b := 4) (by omega) (by omega)).mp c105
            exfalso; omega
        · replace c60 : 0 = 5 := (nI_eq (a := 0) (b := 5) (by omega) (by omega)).mp c60
          exfalso; omega
      · replace c18 : 0 = 6 := (nI_eq (a := 0) (b := 6) (by omega) (by omega)).mp c18
        exfalso; omega
  · have hk6 : ¬ (S j).1 = 6 := fun z => absurd (hk9.symm.trans z) (by decide)
    have ham : zAm (S j) = (S j).2.1.length := zAm_n hk6
    have hl9 := hLn j (by omega)
    rw [hk9] at faj
    obtain ⟨rfl, rfl, rfl, rfl, n9, hb9⟩ := zvj.seq (Or.inr hk9)
    have hlm : ((S j).2.1.map (fun p => ((0 : Int64), p.1))).length = (S j).2.1.length := List.length_map ..
    have hl9 := hLn j (by omega)
    have hn14 : n9 ≤ 14 := hb9.h14 (by omega)
    have htc := qTc14 hn14
    by_cases hl0 : (S j).2.1.length = 0
    · refine lv_astore_n (lv' := [(3, .ref aj), (0, .ref x), (1, .int (nI i)), (2, .int (nI j))]) hx hb dX6_pop_11 rfl hl (by decide) rfl (fun ls hl => ?_)
      refine lv_aload_n hx hb dX6_pop_12 rfl (lv_at hl 0 rfl) ?_
      refine q_get C hP faj rfl inX2 0 (by decide) g192 rfl dX6_pop_13 ?_
      refine lv_bipush (v := nI 6) hx hb dX6_pop_16 (by decide) ?_
      refine lv_icmp_ne (tgt := 55) hx hb dX6_pop_18 (by decide) (fun c18 => ?_) (fun c18 => ?_)
      · replace c18 : ¬ 4 = 6 := fun zq => c18 ((nI_eq (a := 4) (b := 6) (by omega) (by omega)).mpr zq)
        refine lv_aload_n hx hb dX6_pop_55 rfl (lv_at hl 0 rfl) ?_
        refine q_get C hP faj rfl inX2 0 (by decide) g192 rfl dX6_pop_56 ?_
        refine lv_iconst (v := nI 5) hx hb dX6_pop_59 (by decide) ?_
        refine lv_icmp_ne (tgt := 100) hx hb dX6_pop_60 (by decide) (fun c60 => ?_) (fun c60 => ?_)
        · replace c60 : ¬ 4 = 5 := fun zq => c60 ((nI_eq (a := 4) (b := 5) (by omega) (by omega)).mpr zq)
          refine lv_aload_n hx hb dX6_pop_100 rfl (lv_at hl 0 rfl) ?_
          refine q_get C hP faj rfl inX2 0 (by decide) g192 rfl dX6_pop_101 ?_
          refine lv_iconst (v := nI 4) hx hb dX6_pop_104 (by decide) ?_
          refine lv_icmp_ne (tgt := 112) hx hb dX6_pop_105 (by decide) (fun c105 => ?_) (fun c105 => ?_)
          · replace c105 : ¬ 4 = 4 := fun zq => c105 ((nI_eq (a := 4) (b := 4) (by omega) (by omega)).mpr zq)
            exfalso; omega
          · replace c105 : 4 = 4 := (nI_eq (a := 4) (b := 4) (by omega) (by omega)).mp c105
            refine lv_iconst (v := nI 1) hx hb dX6_pop_108 (by decide) ?_
            refine lv_goto (tgt := 113) hx hb dX6_pop_109 (by decide) ?_
            refine lv_istore (lv' := [(4, .int (nI 1)), (3, .ref aj), (0, .ref x), (1, .int (nI i)), (2, .int (nI j))]) hx hb dX6_pop_113 hl (by decide) rfl (fun ls hl => ?_)
            refine lv_aload_n hx hb dX6_pop_115 rfl (lv_at hl 1 rfl) ?_
            obtain ⟨t1j, t2j, t3j, f1j, f2j, f3j, etj⟩ := zvj.size
            refine q_callV (rest := []) C (c_X2_amount l D cy N0 h aj (nI 4) 0 t1j t2j t3j x1j none none none faj f1j f2j f3j) kX2_amount g222 g223 rfl g224 g10 hP hS faj (by first | decide | omega) hl.1 rfl (by decide) (by first | decide | omega) dX6_pop_116 (fun q ce E h' H1 locs1 hE => hE.elim) (fun v hh12 H locs hq hP hS => ?_)
            obtain ⟨rfl, rfl⟩ := hq
            rw [← etj]
            refine lv_iconst (v := nI 1) hx hb dX6_pop_119 (by decide) ?_
            refine lv_isub hx hb dX6_pop_120 ?_
            rw [ham, hl0, show nI 0 - nI 1 = -1 from by decide]
            refine lv_istore (lv' := [(5, .int (-1)), (4, .int (nI 1)), (3, .ref aj), (0, .ref x), (1, .int (nI i)), (2, .int (nI j))]) hx hb dX6_pop_121 hl (by decide) rfl (fun ls hl => ?_)
            refine lv_aload_n hx hb dX6_pop_123 rfl (lv_at hl 2 rfl) ?_
            refine q_get C hP faj rfl inX2 1 (by decide) g195 rfl dX6_pop_124 ?_
            refine lv_iload hx hb dX6_pop_127 (lv_at hl 1 rfl) ?_
            refine lv_if_eq (tgt := 136) hx hb dX6_pop_129 (by decide) (fun c129 => ?_) (fun c129 => ?_)
            · replace c129 : 1 = 0 := (nI_eq (a := 1) (b := 0) (by omega) (by omega)).mp c129
              exfalso; omega
            · replace c129 : ¬ 1 = 0 := fun zq => c129 ((nI_eq (a := 1) (b := 0) (by omega) (by omega)).mpr zq)
              refine lv_iconst (v := nI 0) hx hb dX6_pop_132 (by decide) ?_
              refine lv_goto (tgt := 138) hx hb dX6_pop_133 (by decide) ?_
              refine q_callS (rest := []) C (c_X0_branchAt l D cy N0 h x1j n9 ((S j).2.1.map (fun p => ((0 : Int64), p.1))) (nI 0) hb9 (by omega)) kX0_branchAt g591 g592 hP hS (by first | decide | omega) hl.1 rfl (by decide) (by first | decide | omega) dX6_pop_138 (fun q ce E h' H1 locs1 hE => hE.elim) (fun v hh13 H locs hq hP hS => ?_)
              obtain ⟨r9, rfl, rfl, hat⟩ := hq
              rcases hat with ⟨jj, ab, k9, v9, y1, y2, y3, y4, ejj, eL9, rfl, fab⟩ | ⟨rfl, hno⟩
              · have hjl := (List.getElem?_eq_some_iff.mp eL9).1
                rw [hlm] at hjl
                exact absurd hjl (by omega)
              · refine q_callS (rest := []) C (c_X6_needBranch l D cy N0 h none) kX6_needBranch g595 g596 hP hS (by first | decide | omega) hl.1 rfl (by decide) (by first | decide | omega) dX6_pop_141 (fun q ce E h' H1 locs1 hE hP hS hc1 hc2 hc3 => by obtain ⟨rfl, rfl, hn9⟩ := hE; exact q_out C hP hS hc1 hc2 hc3 (by have ex : (xs_pop F S (o, a, k) (nI i) (nI j)) = (3, 0, S, o, a, k) := (by unfold xs_pop; rw [if_neg (by rw [ebi, ebj]; decide), ecj, if_neg (by rw [hoj]; decide), eci]; unfold xr_pop; rw [if_neg hk6, if_pos hl0]); exact ⟨by rw [ex]; exact .tail _ (.tail _ (.head _)), by rw [ex]; exact hz.po hf⟩) (by omega)) (fun v hh14 H locs hq hP hS => ?_)
                obtain ⟨a8, e8, rfl, rfl⟩ := hq
                cases e8
        · replace c60 : 4 = 5 := (nI_eq (a := 4) (b := 5) (by omega) (by omega)).mp c60
          exfalso; omega
      · replace c18 : 4 = 6 := (nI_eq (a := 4) (b := 6) (by omega) (by omega)).mp c18
        exfalso; omega
    · refine lv_astore_n (lv' := [(3, .ref aj), (0, .ref x), (1, .int (nI i)), (2, .int (nI j))]) hx hb dX6_pop_11 rfl hl (by decide) rfl (fun ls hl => ?_)
      refine lv_aload_n hx hb dX6_pop_12 rfl (lv_at hl 0 rfl) ?_
      refine q_get C hP faj rfl inX2 0 (by decide) g192 rfl dX6_pop_13 ?_
      refine lv_bipush (v := nI 6) hx hb dX6_pop_16 (by decide) ?_
      refine lv_icmp_ne (tgt := 55) hx hb dX6_pop_18 (by decide) (fun c18 => ?_) (fun c18 => ?_)
      · replace c18 : ¬ 4 = 6 := fun zq => c18 ((nI_eq (a := 4) (b := 6) (by omega) (by omega)).mpr zq)
        refine lv_aload_n hx hb dX6_pop_55 rfl (lv_at hl 0 rfl) ?_
        refine q_get C hP faj rfl inX2 0 (by decide) g192 rfl dX6_pop_56 ?_
        refine lv_iconst (v := nI 5) hx hb dX6_pop_59 (by decide) ?_
        refine lv_icmp_ne (tgt := 100) hx hb dX6_pop_60 (by decide) (fun c60 => ?_) (fun c60 => ?_)
        · replace c60 : ¬ 4 = 5 := fun zq => c60 ((nI_eq (a := 4) (b := 5) (by omega) (by omega)).mpr zq)
          refine lv_aload_n hx hb dX6_pop_100 rfl (lv_at hl 0 rfl) ?_
          refine q_get C hP faj rfl inX2 0 (by decide) g192 rfl dX6_pop_101 ?_
          refine lv_iconst (v := nI 4) hx hb dX6_pop_104 (by decide) ?_
          refine lv_icmp_ne (tgt := 112) hx hb dX6_pop_105 (by decide) (fun c105 => ?_) (fun c105 => ?_)
          · replace c105 : ¬ 4 = 4 := fun zq => c105 ((nI_eq (a := 4) (b := 4) (by omega) (by omega)).mpr zq)
            exfalso; omega
          · replace c105 : 4 = 4 := (nI_eq (a := 4) (b := 4) (by omega) (by omega)).mp c105
            refine lv_iconst (v := nI 1) hx hb dX6_pop_108 (by decide) ?_
            refine lv_goto (tgt := 113) hx hb dX6_pop_109 (by decide) ?_
            refine lv_istore (lv' := [(4, .int (nI 1)), (3, .ref aj), (0, .ref x), (1, .int (nI i)), (2, .int (nI j))]) hx hb dX6_pop_113 hl (by decide) rfl (fun ls hl => ?_)
            refine lv_aload_n hx hb dX6_pop_115 rfl (lv_at hl 1 rfl) ?_
            obtain ⟨t1j, t2j, t3j, f1j, f2j, f3j, etj⟩ := zvj.size
            refine q_callV (rest := []) C (c_X2_amount l D cy N0 h aj (nI 4) 0 t1j t2j t3j x1j none none none faj f1j f2j f3j) kX2_amount g222 g223 rfl g224 g10 hP hS faj (by first | decide | omega) hl.1 rfl (by decide) (by first | decide | omega) dX6_pop_116 (fun q ce E h' H1 locs1 hE => hE.elim) (fun v hh15 H locs hq hP hS => ?_)
            obtain ⟨rfl, rfl⟩ := hq
            rw [← etj]
            refine lv_iconst (v := nI 1) hx hb dX6_pop_119 (by decide) ?_
            refine lv_isub hx hb dX6_pop_120 ?_
            rw [ham, q_nsub (show 1 ≤ (S j).2.1.length by omega)]
            refine lv_istore (lv' := [(5, .int (nI ((S j).2.1.length - 1))), (4, .int (nI 1)), (3, .ref aj), (0, .ref x), (1, .int (nI i)), (2, .int (nI j))]) hx hb dX6_pop_121 hl (by decide) rfl (fun ls hl => ?_)
            refine lv_aload_n hx hb dX6_pop_123 rfl (lv_at hl 2 rfl) ?_
            refine q_get C hP faj rfl inX2 1 (by decide) g195 rfl dX6_pop_124 ?_
            refine lv_iload hx hb dX6_pop_127 (lv_at hl 1 rfl) ?_
            refine lv_if_eq (tgt := 136) hx hb dX6_pop_129 (by decide) (fun c129 => ?_) (fun c129 => ?_)
            · replace c129 : 1 = 0 := (nI_eq (a := 1) (b := 0) (by omega) (by omega)).mp c129
              exfalso; omega
            · replace c129 : ¬ 1 = 0 := fun zq => c129 ((nI_eq (a := 1) (b := 0) (by omega) (by omega)).mpr zq)
              refine lv_iconst (v := nI 0) hx hb dX6_pop_132 (by decide) ?_
              refine lv_goto (tgt := 138) hx hb dX6_pop_133 (by decide) ?_
              refine q_callS (rest := []) C (c_X0_branchAt l D cy N0 h x1j n9 ((S j).2.1.map (fun p => ((0 : Int64), p.1))) (nI 0) hb9 (by omega)) kX0_branchAt g591 g592 hP hS (by first | decide | omega) hl.1 rfl (by decide) (by first | decide | omega) dX6_pop_138 (fun q ce E h' H1 locs1 hE => hE.elim) (fun v hh16 H locs hq hP hS => ?_)
              obtain ⟨r9, rfl, rfl, hat⟩ := hq
              rcases hat with ⟨jj, ab, k9, v9, y1, y2, y3, y4, ejj, eL9, rfl, fab⟩ | ⟨rfl, hno⟩
              · have hjl := (List.getElem?_eq_some_iff.mp eL9).1
                rw [hlm] at hjl
                obtain rfl : 0 = jj := nI_inj32 (by omega) (by omega) ejj
                obtain ⟨p9, egL, ep9⟩ := Option.map_eq_some_iff.mp ((List.getElem?_map ..).symm.trans eL9)
                have hva : ((S j).2.1.getD 0 (0, 0)).1 = v9 := by rw [List.getD_eq_getElem?_getD, egL]; exact congrArg Prod.snd ep9
                refine q_callS (rest := []) C (c_X6_needBranch l D cy N0 h (some ab)) kX6_needBranch g595 g596 hP hS (by first | decide | omega) hl.1 rfl (by decide) (by first | decide | omega) dX6_pop_141 (fun q ce E h' H1 locs1 hE hP hS hc1 hc2 hc3 => absurd hE.2.2 (fun z => by cases z)) (fun v hh17 H locs hq hP hS => ?_)
                obtain ⟨a8, e8, rfl, rfl⟩ := hq
                cases e8
                refine q_get C hP fab rfl inX0 2 (by decide) g496 rfl dX6_pop_144 ?_
                refine lv_lstore (lv' := [(6, .long v9), (5, .int (nI ((S j).2.1.length - 1))), (4, .int (nI 1)), (3, .ref aj), (0, .ref x), (1, .int (nI i)), (2, .int (nI j))]) hx hb dX6_pop_147 hl (by decide) rfl (fun ls hl => ?_)
                refine lv_aload_n hx hb dX6_pop_149 rfl (lv_at hl 4 rfl) ?_
                refine lv_iload_n hx hb dX6_pop_150 rfl (lv_at hl 5 rfl) ?_
                refine lv_aload_n hx hb dX6_pop_151 rfl (lv_at hl 3 rfl) ?_
                refine q_get C hP faj rfl inX2 0 (by decide) g192 rfl dX6_pop_152 ?_
                refine lv_iload hx hb dX6_pop_155 (lv_at hl 2 rfl) ?_
                refine lv_if_eq (tgt := 171) hx hb dX6_pop_157 (by decide) (fun c157 => ?_) (fun c157 => ?_)
                · replace c157 : 1 = 0 := (nI_eq (a := 1) (b := 0) (by omega) (by omega)).mp c157
                  exfalso; omega
                · replace c157 : ¬ 1 = 0 := fun zq => c157 ((nI_eq (a := 1) (b := 0) (by omega) (by omega)).mpr zq)
                  refine lv_aload_n hx hb dX6_pop_160 rfl (lv_at hl 3 rfl) ?_
                  refine q_get C hP faj rfl inX2 1 (by decide) g195 rfl dX6_pop_161 ?_
                  refine lv_iconst (v := nI 1) hx hb dX6_pop_164 (by decide) ?_
                  refine q_callSN (host := RX6) (rest := [.int (nI 4), .int (nI i), .ref x]) C (c_X0_withoutFirst l D cy N0 (n9 + 1) h x1j n9 ((S j).2.1.map (fun p => ((0 : Int64), p.1))) 1 hb9 (by omega) (by omega) (by omega)) kX0_withoutFirst (by decide +kernel) g725 hP hS (by first | decide | omega) hl.1 rfl (by simp [q_catrf, q_cati, q_catl, q_cata, q_catn]) (by first | decide | omega) dX6_pop_165 (fun v hh18 H locs hq hP hS => ?_)
                  obtain ⟨r8, n8, rfl, hle8, hb8, -⟩ := hq
                  replace faj := hle8 _ _ faj
                  replace fab := hle8 _ _ fab
                  replace zvj := zvj.le hle8
                  replace hb9 := hb9.le hle8
                  replace hf := hf.trs (zFr.le hle8 (qle.dom hle8))
                  replace hz := hz.le hV hle8 (qle.dom hle8)
                  refine lv_goto (tgt := 180) hx hb dX6_pop_168 (by decide) ?_
                  refine q_callS (rest := [.int (nI i), .ref x]) C (c_X2_ofTree l D cy N0 hh18 (nI 4) r8) kX2_ofTree g516 g517 hP hS (by first | decide | omega) hl.1 rfl (by simp [q_catrf, q_cati, q_catl, q_cata, q_catn]) (by first | decide | omega) dX6_pop_180 (fun q ce E h' H1 locs1 hE => hE.elim) (fun v hh19 H locs hq hP hS => ?_)
                  obtain ⟨qh, rfl, oqh, rfl⟩ := hq
                  replace hP : qP D N0 (qs hh18 qh (.inr (2, [.int (nI 4), va_rf r8, .null, .null, .null, .int 0]))) H := hP
                  have hleh : qle hh18 (qs hh18 qh (.inr (2, [.int (nI 4), va_rf r8, .null, .null, .null, .int 0]))) := qle_new oqh
                  replace faj := hleh _ _ faj
                  replace fab := hleh _ _ fab
                  replace zvj := zvj.le hleh
                  replace hb9 := hb9.le hleh
                  replace hb8 := hb8.le hleh
                  replace hf := hf.trs (zFr.le hleh (qle.dom hleh))
                  replace hz := hz.le hV hleh (qle.dom hleh)
                  have fqh : (qs hh18 qh (.inr (2, [.int (nI 4), va_rf r8, .null, .null, .null, .int 0]))) qh = some (.inr (2, [.int (nI 4), va_rf r8, .null, .null, .null, .int 0])) := qs_self
                  replace fqh : (qs hh18 qh (.inr (2, [.int (nI 4), va_rf r8, .null, .null, .null, .int 0]))) qh = some (.inr (2, [.int (S j).1, va_rf r8, .null, .null, .null, .int 0])) := by rw [hk9]; exact fqh
                  have zvn : zV cy (qs hh18 qh (.inr (2, [.int (nI 4), va_rf r8, .null, .null, .null, .int 0]))) Im (zOk Ed eb S) mk g ((S j).1, (S j).2.1.drop 1, (S j).2.2) r8 none none none 0 := Or.inl ⟨Or.inr hk9, rfl, rfl, rfl, rfl, n8, by rw [List.map_drop]; exact hb8⟩
                  have hzp := hz.put hV hi (s := ((S j).1, (S j).2.1.drop 1, (S j).2.2)) (show ¬ ((S j).1 = -1) from fun z => absurd (hk9.symm.trans z) (by decide)) ⟨r8, none, none, none, 0, fqh, zvn⟩
                  have hfp : zFr h (qs (qs hh18 qh (.inr (2, [.int (nI 4), va_rf r8, .null, .null, .null, .int 0]))) sl (.inl (cy 3, 24, .inr (.inr (.inr (.inr (va_up fs i (some qh)))))))) x sl kr vr bd br Xb := hf.trs (zFr.set hz.2.1.1 (Or.inr (Or.inl rfl)))
                  have hkd : qHd (qs hh18 qh (.inr (2, [.int (nI 4), va_rf r8, .null, .null, .null, .int 0]))) qh ((S j).1) r8 none none none 0 (nI (zAm ((S j).1, (S j).2.1.drop 1, (S j).2.2))) := zHd.hd (s := ((S j).1, (S j).2.1.drop 1, (S j).2.2)) fqh zvn
                  refine q_callV (rest := []) C (c_X6_keep l D cy N0 (qs hh18 qh (.inr (2, [.int (nI 4), va_rf r8, .null, .null, .null, .int 0]))) x sl bl kr vr mk (oCq (o, a, k).1) (oMq (o, a, k).1) (nI Ed) fs i qh ((S j).1) r8 none none none 0 (nI (zAm ((S j).1, (S j).2.1.drop 1, (S j).2.2))) hz.1.1 hz.2.1.1 hi hkd) kX6_keep g218 g220 rfl gp1 g1 hP hS hz.1.1 (by first | decide | omega) hl.1 rfl (by decide) (by first | decide | omega) dX6_pop_183 (fun q ce E h' H1 locs1 hE => hE.elim) (fun v hh20 H locs hq hP hS => ?_)
                  obtain ⟨rfl, rfl⟩ := hq
                  replace faj := (qs_ne (h := (qs hh18 qh (.inr (2, [.int (nI 4), va_rf r8, .null, .null, .null, .int 0])))) (a := sl) (o := (.inl (cy 3, 24, .inr (.inr (.inr (.inr (va_up fs i (some qh)))))))) (fun z => by rw [z, hz.2.1.1] at faj; cases faj)).trans faj
                  replace fab := (qs_ne (h := (qs hh18 qh (.inr (2, [.int (nI 4), va_rf r8, .null, .null, .null, .int 0])))) (a := sl) (o := (.inl (cy 3, 24, .inr (.inr (.inr (.inr (va_up fs i (some qh)))))))) (fun z => by rw [z, hz.2.1.1] at fab; cases fab)).trans fab
                  refine lv_pop hx hb dX6_pop_186 rfl ?_
                  refine lv_lload hx hb dX6_pop_187 (lv_at hl 0 rfl) ?_
                  have ex : (xs_pop F S (o, a, k) (nI i) (nI j)) = (0, v9, qU S i ((S j).1, (S j).2.1.drop 1, (S j).2.2), o, a, k) := by unfold xs_pop; rw [if_neg (by rw [ebi, ebj]; decide), ecj, if_neg (by rw [hoj]; decide), eci]; unfold xr_pop; rw [if_neg hk6, if_neg hl0, if_neg (show ¬ (S j).1 = 0 from fun z => absurd (hk9.symm.trans z) (by decide)), hva, zera0]
                  exact q_lret C hP hS ⟨by rw [ex], by first | (rw [ex]; done) | (rw [ex]), by rw [ex]; exact hzp.po hfp⟩ (by omega) dX6_pop_189
              · exfalso
                exact hno.elim (fun z => absurd z (nI_pos (by omega))) (fun ⟨j9, e9, h1, h2⟩ => by have := nI_inj32 (by omega) (by omega) e9; omega)
        · replace c60 : 4 = 5 := (nI_eq (a := 4) (b := 5) (by omega) (by omega)).mp c60
          exfalso; omega
      · replace c18 : 4 = 6 := (nI_eq (a := 4) (b := 6) (by omega) (by omega)).mp c18
        exfalso; omega
  · have hk6 : ¬ (S j).1 = 6 := fun z => absurd (hk9.symm.trans z) (by decide)
    have ham : zAm (S j) = (S j).2.1.length := zAm_n hk6
    have hl9 := hLn j (by omega)
    rw [hk9] at faj
    obtain ⟨rfl, rfl, rfl, rfl, n9, M9, hp9, hpm⟩ := zvj.heap hk9
    have hml : M9.length ≤ 1000 := by have := hpm.length_eq; rw [List.length_map] at this; omega
    rcases hp9.inv with ⟨-, rfl, rfl⟩ | ⟨ap, v9, l9, r9, t9, u9, A9, B9, rfl, fap, hpa, hpb, rfl, hin, hmin⟩
    · have hl0 : (S j).2.1.length = 0 := by have := hpm.length_eq; simpa using this.symm
      refine lv_astore_n (lv' := [(3, .ref aj), (0, .ref x), (1, .int (nI i)), (2, .int (nI j))]) hx hb dX6_pop_11 rfl hl (by decide) rfl (fun ls hl => ?_)
      refine lv_aload_n hx hb dX6_pop_12 rfl (lv_at hl 0 rfl) ?_
      refine q_get C hP faj rfl inX2 0 (by decide) g192 rfl dX6_pop_13 ?_
      refine lv_bipush (v := nI 6) hx hb dX6_pop_16 (by decide) ?_
      refine lv_icmp_ne (tgt := 55) hx hb dX6_pop_18 (by decide) (fun c18 => ?_) (fun c18 => ?_)
      · replace c18 : ¬ 5 = 6 := fun zq => c18 ((nI_eq (a := 5) (b := 6) (by omega) (by omega)).mpr zq)
        refine lv_aload_n hx hb dX6_pop_55 rfl (lv_at hl 0 rfl) ?_
        refine q_get C hP faj rfl inX2 0 (by decide) g192 rfl dX6_pop_56 ?_
        refine lv_iconst (v := nI 5) hx hb dX6_pop_59 (by decide) ?_
        refine lv_icmp_ne (tgt := 100) hx hb dX6_pop_60 (by decide) (fun c60 => ?_) (fun c60 => ?_)
        · replace c60 : ¬ 5 = 5 := fun zq => c60 ((nI_eq (a := 5) (b := 5) (by omega) (by omega)).mpr zq)
          exfalso; omega
        · replace c60 : 5 = 5 := (nI_eq (a := 5) (b := 5) (by omega) (by omega)).mp c60
          refine lv_aload_n hx hb dX6_pop_63 rfl (lv_at hl 0 rfl) ?_
          refine q_get C hP faj rfl inX2 3 (by decide) g200 rfl dX6_pop_64 ?_
          refine q_callS (rest := []) C (c_X6_needPile l D cy N0 h none) kX6_needPile g739 g740 hP hS (by first | decide | omega) hl.1 rfl (by decide) (by first | decide | omega) dX6_pop_67 (fun q ce E h' H1 locs1 hE hP hS hc1 hc2 hc3 => by obtain ⟨rfl, rfl, hn9⟩ := hE; exact q_out C hP hS hc1 hc2 hc3 (by have ex : (xs_pop F S (o, a, k) (nI i) (nI j)) = (3, 0, S, o, a, k) := (by unfold xs_pop; rw [if_neg (by rw [ebi, ebj]; decide), ecj, if_neg (by rw [hoj]; decide), eci]; unfold xr_pop; rw [if_neg hk6, if_pos hl0]); exact ⟨by rw [ex]; exact .tail _ (.tail _ (.head _)), by rw [ex]; exact hz.po hf⟩) (by omega)) (fun v hh21 H locs hq hP hS => ?_)
          obtain ⟨a8, e8, rfl, rfl⟩ := hq
          cases e8
      · replace c18 : 5 = 6 := (nI_eq (a := 5) (b := 6) (by omega) (by omega)).mp c18
        exfalso; omega
    · have hl0 : ¬ (S j).2.1.length = 0 := fun z => by have := hpm.length_eq; rw [List.length_map, z] at this; cases this
      rw [List.length_cons, List.length_append] at hml
      have ht9 : t9 ≤ 9 := hpa.s9 (by omega)
      have hu9 : u9 ≤ 9 := hpb.s9 (by omega)
      have hva : ((S j).2.1.getD 0 (0, 0)).1 = v9 := qPerm_min hpm hmin ((hI j (by omega)).1 (Or.inr hk9))
      refine lv_astore_n (lv' := [(3, .ref aj), (0, .ref x), (1, .int (nI i)), (2, .int (nI j))]) hx hb dX6_pop_11 rfl hl (by decide) rfl (fun ls hl => ?_)
      refine lv_aload_n hx hb dX6_pop_12 rfl (lv_at hl 0 rfl) ?_
      refine q_get C hP faj rfl inX2 0 (by decide) g192 rfl dX6_pop_13 ?_
      refine lv_bipush (v := nI 6) hx hb dX6_pop_16 (by decide) ?_
      refine lv_icmp_ne (tgt := 55) hx hb dX6_pop_18 (by decide) (fun c18 => ?_) (fun c18 => ?_)
      · replace c18 : ¬ 5 = 6 := fun zq => c18 ((nI_eq (a := 5) (b := 6) (by omega) (by omega)).mpr zq)
        refine lv_aload_n hx hb dX6_pop_55 rfl (lv_at hl 0 rfl) ?_
        refine q_get C hP faj rfl inX2 0 (by decide) g192 rfl dX6_pop_56 ?_
        refine lv_iconst (v := nI 5) hx hb dX6_pop_59 (by decide) ?_
        refine lv_icmp_ne (tgt := 100) hx hb dX6_pop_60 (by decide) (fun c60 => ?_) (fun c60 => ?_)
        · replace c60 : ¬ 5 = 5 := fun zq => c60 ((nI_eq (a := 5) (b := 5) (by omega) (by omega)).mpr zq)
          exfalso; omega
        · replace c60 : 5 = 5 := (nI_eq (a := 5) (b := 5) (by omega) (by omega)).mp c60
          refine lv_aload_n hx hb dX6_pop_63 rfl (lv_at hl 0 rfl) ?_
          refine q_get C hP faj rfl inX2 3 (by decide) g200 rfl dX6_pop_64 ?_
          refine q_callS (rest := []) C (c_X6_needPile l D cy N0 h (some ap)) kX6_needPile g739 g740 hP hS (by first | decide | omega) hl.1 rfl (by decide) (by first | decide | omega) dX6_pop_67 (fun q ce E h' H1 locs1 hE hP hS hc1 hc2 hc3 => absurd hE.2.2 (fun z => by cases z)) (fun v hh22 H locs hq hP hS => ?_)
          obtain ⟨a8, e8, rfl, rfl⟩ := hq
          cases e8
          refine lv_astore (lv' := [(4, .ref ap), (3, .ref aj), (0, .ref x), (1, .int (nI i)), (2, .int (nI j))]) hx hb dX6_pop_70 hl (by decide) rfl (fun ls hl => ?_)
          refine lv_aload_n hx hb dX6_pop_72 rfl (lv_at hl 2 rfl) ?_
          refine lv_iload_n hx hb dX6_pop_73 rfl (lv_at hl 3 rfl) ?_
          refine lv_aload hx hb dX6_pop_74 (lv_at hl 0 rfl) ?_
          refine q_get C hP fap rfl inX4 1 (by decide) g450 rfl dX6_pop_76 ?_
          refine lv_aload hx hb dX6_pop_79 (lv_at hl 0 rfl) ?_
          refine q_get C hP fap rfl inX4 2 (by decide) g452 rfl dX6_pop_81 ?_
          refine q_callSN (host := RX6) (rest := [.int (nI i), .ref x]) C (c_X4_merged l D cy N0 (u9 + t9 + 1) h l9 r9 u9 t9 B9 A9 hpb hpa (by omega) (by omega)) kX4_merged (by decide +kernel) g464 hP hS (by first | decide | omega) hl.1 rfl (by simp [q_catrf, q_cati, q_catl, q_cata, q_catn]) (by first | decide | omega) dX6_pop_84 (fun v hh23 H locs hq hP hS => ?_)
          obtain ⟨r8, s8, M8, rfl, hle8, hp8, hpm8⟩ := hq
          replace faj := hle8 _ _ faj
          replace fap := hle8 _ _ fap
          replace hf := hf.trs (zFr.le hle8 (qle.dom hle8))
          replace hz := hz.le hV hle8 (qle.dom hle8)
          refine q_callS (rest := [.int (nI i), .ref x]) C (c_X2_ofPile l D cy N0 hh23 r8) kX2_ofPile g469 g470 hP hS (by first | decide | omega) hl.1 rfl (by simp [q_catrf, q_cati, q_catl, q_cata, q_catn]) (by first | decide | omega) dX6_pop_87 (fun q ce E h' H1 locs1 hE => hE.elim) (fun v hh24 H locs hq hP hS => ?_)
          obtain ⟨qh, rfl, oqh, rfl⟩ := hq
          replace hP : qP D N0 (qs hh23 qh (.inr (2, [.int 5, .null, .null, va_rf r8, .null, .int 0]))) H := hP
          have hleh : qle hh23 (qs hh23 qh (.inr (2, [.int 5, .null, .null, va_rf r8, .null, .int 0]))) := qle_new oqh
          replace faj := hleh _ _ faj
          replace fap := hleh _ _ fap
          replace hp8 := hp8.le hleh
          replace hf := hf.trs (zFr.le hleh (qle.dom hleh))
          replace hz := hz.le hV hleh (qle.dom hleh)
          have fqh : (qs hh23 qh (.inr (2, [.int 5, .null, .null, va_rf r8, .null, .int 0]))) qh = some (.inr (2, [.int 5, .null, .null, va_rf r8, .null, .int 0])) := qs_self
          replace fqh : (qs hh23 qh (.inr (2, [.int 5, .null, .null, va_rf r8, .null, .int 0]))) qh = some (.inr (2, [.int (S j).1, .null, .null, va_rf r8, .null, .int 0])) := by rw [hk9]; exact fqh
          have zvn : zV cy (qs hh23 qh (.inr (2, [.int 5, .null, .null, va_rf r8, .null, .int 0]))) Im (zOk Ed eb S) mk g ((S j).1, (S j).2.1.eraseIdx 0, (S j).2.2) none none r8 none 0 := Or.inr (Or.inr (Or.inl ⟨hk9, rfl, rfl, rfl, rfl, s8, M8, hp8, zpopP hpm hva (hpm8.trans List.perm_append_comm)⟩))
          have hzp := hz.put hV hi (s := ((S j).1, (S j).2.1.eraseIdx 0, (S j).2.2)) (show ¬ ((S j).1 = -1) from fun z => absurd (hk9.symm.trans z) (by decide)) ⟨none, none, r8, none, 0, fqh, zvn⟩
          have hfp : zFr h (qs (qs hh23 qh (.inr (2, [.int 5, .null, .null, va_rf r8, .null, .int 0]))) sl (.inl (cy 3, 24, .inr (.inr (.inr (.inr (va_up fs i (some qh)))))))) x sl kr vr bd br Xb := hf.trs (zFr.set hz.2.1.1 (Or.inr (Or.inl rfl)))
          have hkd : qHd (qs hh23 qh (.inr (2, [.int 5, .null, .null, va_rf r8, .null, .int 0]))) qh ((S j).1) none none r8 none 0 (nI (zAm ((S j).1, (S j).2.1.eraseIdx 0, (S j).2.2))) := zHd.hd (s := ((S j).1, (S j).2.1.eraseIdx 0, (S j).2.2)) fqh zvn
          refine q_callV (rest := []) C (c_X6_keep l D cy N0 (qs hh23 qh (.inr (2, [.int 5, .null, .null, va_rf r8, .null, .int 0]))) x sl bl kr vr mk (oCq (o, a, k).1) (oMq (o, a, k).1) (nI Ed) fs i qh ((S j).1) none none r8 none 0 (nI (zAm ((S j).1, (S j).2.1.eraseIdx 0, (S j).2.2))) hz.1.1 hz.2.1.1 hi hkd) kX6_keep g218 g220 rfl gp1 g1 hP hS hz.1.1 (by first | decide | omega) hl.1 rfl (by decide) (by first | decide | omega) dX6_pop_90 (fun q ce E h' H1 locs1 hE => hE.elim) (fun v hh25 H locs hq hP hS => ?_)
          obtain ⟨rfl, rfl⟩ := hq
          replace faj := (qs_ne (h := (qs hh23 qh (.inr (2, [.int 5, .null, .null, va_rf r8, .null, .int 0])))) (a := sl) (o := (.inl (cy 3, 24, .inr (.inr (.inr (.inr (va_up fs i (some qh)))))))) (fun z => by rw [z, hz.2.1.1] at faj; cases faj)).trans faj
          replace fap := (qs_ne (h := (qs hh23 qh (.inr (2, [.int 5, .null, .null, va_rf r8, .null, .int 0])))) (a := sl) (o := (.inl (cy 3, 24, .inr (.inr (.inr (.inr (va_up fs i (some qh)))))))) (fun z => by rw [z, hz.2.1.1] at fap; cases fap)).trans fap
          refine lv_pop hx hb dX6_pop_93 rfl ?_
          refine lv_aload hx hb dX6_pop_94 (lv_at hl 0 rfl) ?_
          refine q_get C hP fap rfl inX4 0 (by decide) g448 rfl dX6_pop_96 ?_
          have ex : (xs_pop F S (o, a, k) (nI i) (nI j)) = (0, v9, qU S i ((S j).1, (S j).2.1.eraseIdx 0, (S j).2.2), o, a, k) := by unfold xs_pop; rw [if_neg (by rw [ebi, ebj]; decide), ecj, if_neg (by rw [hoj]; decide), eci]; unfold xr_pop; rw [if_neg hk6, if_neg hl0, if_neg (show ¬ (S j).1 = 0 from fun z => absurd (hk9.symm.trans z) (by decide)), hva]
          exact q_lret C hP hS ⟨by rw [ex], by first | (rw [ex]; done) | (rw [ex]), by rw [ex]; exact hzp.po hfp⟩ (by omega) dX6_pop_99
      · replace c18 : 5 = 6 := (nI_eq (a := 5) (b := 6) (by omega) (by omega)).mp c18
        exfalso; omega
  · rw [hk9] at faj
    obtain ⟨rfl, rfl, rfl, rfl, rfl⟩ := zvj.strm hk9
    have hs8 := hSt j (by omega) hk9
    by_cases hs0 : (S j).2.2.1 = 0
    · rw [hs0, zO_z] at faj
      refine lv_astore_n (lv' := [(3, .ref aj), (0, .ref x), (1, .int (nI i)), (2, .int (nI j))]) hx hb dX6_pop_11 rfl hl (by decide) rfl (fun ls hl => ?_)
      refine lv_aload_n hx hb dX6_pop_12 rfl (lv_at hl 0 rfl) ?_
      refine q_get C hP faj rfl inX2 0 (by decide) g192 rfl dX6_pop_13 ?_
      refine lv_bipush (v := nI 6) hx hb dX6_pop_16 (by decide) ?_
      refine lv_icmp_ne (tgt := 55) hx hb dX6_pop_18 (by decide) (fun c18 => ?_) (fun c18 => ?_)
      · replace c18 : ¬ 6 = 6 := fun zq => c18 ((nI_eq (a := 6) (b := 6) (by omega) (by omega)).mpr zq)
        exfalso; omega
      · replace c18 : 6 = 6 := (nI_eq (a := 6) (b := 6) (by omega) (by omega)).mp c18
        refine lv_aload_n hx hb dX6_pop_21 rfl (lv_at hl 0 rfl) ?_
        refine q_get C hP faj rfl inX2 4 (by decide) g202 rfl dX6_pop_22 ?_
        refine q_callS (rest := []) C (c_X6_needStream l D cy N0 h none) kX6_needStream g708 g709 hP hS (by first | decide | omega) hl.1 rfl (by decide) (by first | decide | omega) dX6_pop_25 (fun q ce E h' H1 locs1 hE hP hS hc1 hc2 hc3 => by obtain ⟨rfl, rfl, hn9⟩ := hE; exact q_out C hP hS hc1 hc2 hc3 (by have ex : (xs_pop F S (o, a, k) (nI i) (nI j)) = (3, 0, S, o, a, k) := (by unfold xs_pop; rw [if_neg (by rw [ebi, ebj]; decide), ecj, if_neg (by rw [hoj]; decide), eci]; unfold xr_pop; rw [if_pos (show (S j).1 = 6 from hk9), if_pos hs0]); exact ⟨by rw [ex]; exact .tail _ (.tail _ (.head _)), by rw [ex]; exact hz.po hf⟩) (by omega)) (fun v hh26 H locs hq hP hS => ?_)
        obtain ⟨a8, e8, rfl, rfl⟩ := hq
        cases e8
    · rw [zO_s hs0] at faj
      obtain ⟨way, cod, cc0, num, src, beh, row, dn, rst, fgi, -⟩ := hz.1.2.1 (S j).2.2.1 (by omega) (hSt j (by omega) hk9).1
      obtain ⟨gi, egi⟩ : ∃ z, g (S j).2.2.1 = z := ⟨_, rfl⟩
      rw [egi] at fgi
      dsimp only at fgi
      rw [egi] at faj
      refine lv_astore_n (lv' := [(3, .ref aj), (0, .ref x), (1, .int (nI i)), (2, .int (nI j))]) hx hb dX6_pop_11 rfl hl (by decide) rfl (fun ls hl => ?_)
      refine lv_aload_n hx hb dX6_pop_12 rfl (lv_at hl 0 rfl) ?_
      refine q_get C hP faj rfl inX2 0 (by decide) g192 rfl dX6_pop_13 ?_
      refine lv_bipush (v := nI 6) hx hb dX6_pop_16 (by decide) ?_
      refine lv_icmp_ne (tgt := 55) hx hb dX6_pop_18 (by decide) (fun c18 => ?_) (fun c18 => ?_)
      · replace c18 : ¬ 6 = 6 := fun zq => c18 ((nI_eq (a := 6) (b := 6) (by omega) (by omega)).mpr zq)
        exfalso; omega
      · replace c18 : 6 = 6 := (nI_eq (a := 6) (b := 6) (by omega) (by omega)).mp c18
        refine lv_aload_n hx hb dX6_pop_21 rfl (lv_at hl 0 rfl) ?_
        refine q_get C hP faj rfl inX2 4 (by decide) g202 rfl dX6_pop_22 ?_
        refine q_callS (rest := []) C (c_X6_needStream l D cy N0 h (some gi)) kX6_needStream g708 g709 hP hS (by first | decide | omega) hl.1 rfl (by decide) (by first | decide | omega) dX6_pop_25 (fun q ce E h' H1 locs1 hE hP hS hc1 hc2 hc3 => absurd hE.2.2 (fun z => by cases z)) (fun v hh27 H locs hq hP hS => ?_)
        obtain ⟨a8, e8, rfl, rfl⟩ := hq
        cases e8
        refine lv_astore (lv' := [(4, .ref gi), (3, .ref aj), (0, .ref x), (1, .int (nI i)), (2, .int (nI j))]) hx hb dX6_pop_28 hl (by decide) rfl (fun ls hl => ?_)
        refine lv_aload_n hx hb dX6_pop_30 rfl (lv_at hl 2 rfl) ?_
        refine lv_iload_n hx hb dX6_pop_31 rfl (lv_at hl 3 rfl) ?_
        refine lv_aload_n hx hb dX6_pop_32 rfl (lv_at hl 2 rfl) ?_
        refine lv_aload hx hb dX6_pop_33 (lv_at hl 0 rfl) ?_
        obtain ⟨s2, o2, a2, k2, er9⟩ : ∃ z1 z2 z3 z4, F ((oFa (oCd o 0) 0), a, k) (S j).2.2.1 = (z1, z2, z3, z4) := ⟨_, _, _, _, rfl⟩
        have hcall := hF h g (oFa (oCd o 0) 0) a k _ dp (S j).2.2.1 (hz.1.obj rfl rfl) (hV.obj rfl) rfl (by omega) hs8.1 (by omega)
        rw [er9, egi] at hcall
        dsimp only at hcall
        have st9 := hG _ dp ((oFa (oCd o 0) 0), a, k) (S j).2.2.1 (hV.obj rfl) rfl hs8.1 (by omega)
        rw [er9] at st9
        obtain ⟨dp2, d1, w2, d3, d4, d5, -, d7⟩ := st9
        dsimp only at d1 d3 d4 d5 w2
        have eA : (xs_pop F S (o, a, k) (nI i) (nI j)).2.2.2.2.1.1 = a2.1 := by unfold xs_pop; rw [if_neg (by rw [ebi, ebj]; decide), ecj, if_neg (by rw [hoj]; decide), eci]; unfold xr_pop; rw [if_pos (show (S j).1 = 6 from hk9), if_neg hs0]; dsimp only; rw [er9]; split <;> rfl
        have e0 : ((o, a, k) : qWo).2.1.1 = a.1 := rfl
        have e1 : (if oFq o2 = 0 then 0 else 1) ≤ 1 ∧ (if oFq o2 = 0 then 0 else 6) ≤ 6 := ⟨by split <;> omega, by split <;> omega⟩
        refine q_callV (rest := [.int (nI i), .ref x]) C (hcall) kX6_restOf g637 g639 rfl gp14 g1 hP hS hz.1.1 (by first | decide | omega) hl.1 rfl (by simp [q_catrf, q_cati, q_catl, q_cata, q_catn]) (by first | decide | omega) dX6_pop_35 (fun q ce E h' H1 locs1 hE hP hS hc1 hc2 hc3 => by obtain ⟨hE1, gw2, ag2, hz2, hH2⟩ := hE; have hf2 : ¬ oFq o2 = 0 := hE1.elim (fun y z => absurd (z.symm.trans y.2) (by decide)) (fun y z => absurd (z.symm.trans y.2) (by decide)); have ex : (xs_pop F S (o, a, k) (nI i) (nI j)) = (oFq o2 + 3, 0, S, o2, a2, k2) := (by unfold xs_pop; rw [if_neg (by rw [ebi, ebj]; decide), ecj, if_neg (by rw [hoj]; decide), eci]; unfold xr_pop; rw [if_pos (show (S j).1 = 6 from hk9), if_neg hs0]; dsimp only; rw [er9, if_pos hf2]); exact q_out C hP hS hc1 hc2 hc3 ⟨by rw [ex]; exact hE1.elim (fun y => by rw [y.1, y.2]; exact .tail _ (.tail _ (.tail _ (.head _)))) (fun y => by rw [y.1, y.2]; exact .tail _ (.tail _ (.tail _ (.tail _ (.head _))))), by rw [ex]; exact (hz.str hz2 hH2 ag2 (fun i hi y => (hSt i hi y).1)).po (hf.trs (zH.fr hH2))⟩ (by omega)) (fun v hh28 H locs hq hP hS => ?_)
        obtain ⟨hf2, gw2, ag2, rfl, hz2, hH2⟩ := hq
        dsimp only
        obtain ⟨dn1, rst1, fgk⟩ := hH2.2.1 _ _ _ _ _ _ _ _ _ _ _ fgi
        have e60 : (if oFq o2 = 0 then 0 else 1) = 0 ∧ (if oFq o2 = 0 then 0 else 6) = 0 := ⟨if_pos hf2, if_pos hf2⟩
        replace faj := hH2.1 _ _ faj (fun z => by rw [z, hz.1.1] at faj; simp at faj) (fun fv z => by simp at z)
        clear fgi
        replace hf := hf.trs (zH.fr hH2)
        replace hz := hz.str hz2 hH2 ag2 (fun i hi y => (hSt i hi y).1)
        have hV0 := hV
        replace hV := w2
        refine lv_aload_n hx hb dX6_pop_38 rfl (lv_at hl 1 rfl) ?_
        refine q_get C hP faj rfl inX2 5 (by decide) g204 rfl dX6_pop_39 ?_
        refine q_callS (rest := [.int (nI i), .ref x]) C (c_X2_ofStream l D cy N0 hh28 (zO gw2 s2) (nI (S j).2.2.2)) kX2_ofStream g580 g581 hP hS (by first | decide | omega) hl.1 rfl (by simp [q_catrf, q_cati, q_catl, q_cata, q_catn]) (by first | decide | omega) dX6_pop_42 (fun q ce E h' H1 locs1 hE => hE.elim) (fun v hh29 H locs hq hP hS => ?_)
        obtain ⟨qh, rfl, oqh, rfl⟩ := hq
        replace hP : qP D N0 (qs hh28 qh (.inr (2, [.int 6, .null, .null, .null, va_rf (zO gw2 s2), .int (nI (S j).2.2.2)]))) H := hP
        have hleh : qle hh28 (qs hh28 qh (.inr (2, [.int 6, .null, .null, .null, va_rf (zO gw2 s2), .int (nI (S j).2.2.2)]))) := qle_new oqh
        replace faj := hleh _ _ faj
        replace fgk := hleh _ _ fgk
        replace hf := hf.trs (zFr.le hleh (qle.dom hleh))
        replace hz := hz.le hV hleh (qle.dom hleh)
        have fqh : (qs hh28 qh (.inr (2, [.int 6, .null, .null, .null, va_rf (zO gw2 s2), .int (nI (S j).2.2.2)]))) qh = some (.inr (2, [.int 6, .null, .null, .null, va_rf (zO gw2 s2), .int (nI (S j).2.2.2)])) := qs_self
        replace fqh : (qs hh28 qh (.inr (2, [.int 6, .null, .null, .null, va_rf (zO gw2 s2), .int (nI (S j).2.2.2)]))) qh = some (.inr (2, [.int (S j).1, .null, .null, .null, va_rf (zO gw2 s2), .int (nI (S j).2.2.2)])) := by rw [hk9]; exact fqh
        have zvn : zV cy (qs hh28 qh (.inr (2, [.int 6, .null, .null, .null, va_rf (zO gw2 s2), .int (nI (S j).2.2.2)]))) Im (zOk Ed eb S) mk gw2 ((S j).1, (S j).2.1, s2, (S j).2.2.2) none none none (zO gw2 s2) (nI (S j).2.2.2) := Or.inr (Or.inr (Or.inr (Or.inr ⟨hk9, rfl, rfl, rfl, rfl, rfl⟩)))
        have hzp := hz.put hV hi (s := ((S j).1, (S j).2.1, s2, (S j).2.2.2)) (show ¬ ((S j).1 = -1) from fun z => absurd (hk9.symm.trans z) (by decide)) ⟨none, none, none, (zO gw2 s2), (nI (S j).2.2.2), fqh, zvn⟩
        have hfp : zFr h (qs (qs hh28 qh (.inr (2, [.int 6, .null, .null, .null, va_rf (zO gw2 s2), .int (nI (S j).2.2.2)]))) sl (.inl (cy 3, 24, .inr (.inr (.inr (.inr (va_up fs i (some qh)))))))) x sl kr vr bd br Xb := hf.trs (zFr.set hz.2.1.1 (Or.inr (Or.inl rfl)))
        have hkd : qHd (qs hh28 qh (.inr (2, [.int 6, .null, .null, .null, va_rf (zO gw2 s2), .int (nI (S j).2.2.2)]))) qh ((S j).1) none none none (zO gw2 s2) (nI (S j).2.2.2) (nI (zAm ((S j).1, (S j).2.1, s2, (S j).2.2.2))) := zHd.hd (s := ((S j).1, (S j).2.1, s2, (S j).2.2.2)) fqh zvn
        refine q_callV (rest := []) C (c_X6_keep l D cy N0 (qs hh28 qh (.inr (2, [.int 6, .null, .null, .null, va_rf (zO gw2 s2), .int (nI (S j).2.2.2)]))) x sl bl kr vr mk (oCq (o2, a2, k2).1) (oMq (o2, a2, k2).1) (nI Ed) fs i qh ((S j).1) none none none (zO gw2 s2) (nI (S j).2.2.2) (nI (zAm ((S j).1, (S j).2.1, s2, (S j).2.2.2))) hz.1.1 hz.2.1.1 hi hkd) kX6_keep g218 g220 rfl gp1 g1 hP hS hz.1.1 (by first | decide | omega) hl.1 rfl (by decide) (by first | decide | omega) dX6_pop_45 (fun q ce E h' H1 locs1 hE => hE.elim) (fun v hh30 H locs hq hP hS => ?_)
        obtain ⟨rfl, rfl⟩ := hq
        replace faj := (qs_ne (h := (qs hh28 qh (.inr (2, [.int 6, .null, .null, .null, va_rf (zO gw2 s2), .int (nI (S j).2.2.2)])))) (a := sl) (o := (.inl (cy 3, 24, .inr (.inr (.inr (.inr (va_up fs i (some qh)))))))) (fun z => by rw [z, hz.2.1.1] at faj; cases faj)).trans faj
        replace fgk := (qs_ne (h := (qs hh28 qh (.inr (2, [.int 6, .null, .null, .null, va_rf (zO gw2 s2), .int (nI (S j).2.2.2)])))) (a := sl) (o := (.inl (cy 3, 24, .inr (.inr (.inr (.inr (va_up fs i (some qh)))))))) (fun z => by rw [z, hz.2.1.1] at fgk; cases fgk)).trans fgk
        refine lv_pop hx hb dX6_pop_48 rfl ?_
        refine lv_aload hx hb dX6_pop_49 (lv_at hl 0 rfl) ?_
        refine q_get C hP fgk rfl inX5 0 (by decide) g536 rfl dX6_pop_51 ?_
        have ex : (xs_pop F S (o, a, k) (nI i) (nI j)) = (0, a.2.2.1 (S j).2.2.1, qU S i ((S j).1, (S j).2.1, s2, (S j).2.2.2), o2, a2, k2) := by unfold xs_pop; rw [if_neg (by rw [ebi, ebj]; decide), ecj, if_neg (by rw [hoj]; decide), eci]; unfold xr_pop; rw [if_pos (show (S j).1 = 6 from hk9), if_neg hs0]; dsimp only; rw [er9, if_neg (fun z => z hf2)]
        exact q_lret C hP hS ⟨by rw [ex], by first | (rw [ex]; done) | (rw [ex]), by rw [ex]; exact hzp.po hfp⟩ (by omega) dX6_pop_54
