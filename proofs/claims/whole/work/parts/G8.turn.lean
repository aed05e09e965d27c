section ZTL
variable {cy : Nat → ClassId} {h : qH} {x sl bl kr vr E : Nat} {mk : Int32} {fs : Nat → Option Nat} {bd br eb : Nat → Nat} {Im : Nat → Prop} {Xb : Nat → Nat → Prop} {g : Nat → Nat} {S S1 : Nat → qSlot} {W : qWo}
/-- more rows of numbers -/
theorem zQ.tl (q : zQ cy h x mk sl bl kr vr E fs bd br eb Im Xb g S W) {Bd sk Rn : Nat} {dp : Nat → Nat} (iv : qWv Bd sk Rn dp W) (hlo : ∀ i, i < 28 → S1 i = S i) (hR : ∀ r, r < Rn → xRs S1 r = xRs S r) : zQ cy h x mk sl bl kr vr E fs bd br eb Im Xb g S1 W := by
  obtain ⟨o, a, k⟩ := W
  exact q.gen ⟨q.1.1, zG.keep iv q.1.2 (fun b fs e _ => e) (fun b fs e => e) hR⟩ q.2.1 (Nat.le_refl _) q.2.2.2.2.2.2.2.2.2 (fun b hb => hlo _ (by omega)) (fun _ _ _ e _ _ => e) (fun _ _ _ e => e) (fun _ _ e _ => e) (fun i hi => Or.inl ⟨hlo i (by omega), rfl, fun _ => rfl⟩)
end ZTL
theorem xTok_lo {S S1 : Nat → qSlot} {p0 p1 : Int32} {rr : Nat} (h : xTok S p0 p1 S1 rr) : S1 = S ∨ S1 = xTl S p1.toNatClampNeg := by
  unfold xTok at h
  split at h
  · exact h.1
  · exact Or.inl h
theorem xTok_no {S S1 : Nat → qSlot} {p0 p1 : Int32} {rr : Nat} (h : xTok S p0 p1 S1 rr) (hn : ¬ (S p1.toNatClampNeg).1 = 0) : S1 = S := by
  unfold xTok at h
  rw [if_neg (by unfold xTq; rw [decide_eq_false hn, Bool.and_false]; decide)] at h
  exact h
theorem xTok_yes {S S1 : Nat → qSlot} {p0 p1 : Int32} {rr : Nat} (h : xTok S p0 p1 S1 rr) (h0 : bSl p0 = true) (h1 : bSl p1 = true) (hk : (S p1.toNatClampNeg).1 = 0) : rr < (S1 999).2.2.1 ∧ xRs S1 rr = (S p1.toNatClampNeg).2.1.map Prod.fst := by
  unfold xTok at h
  rw [if_pos (by unfold xTq; rw [h0, h1, decide_eq_true hk]; rfl)] at h
  exact h.2
theorem xTl_28 {S : Nat → qSlot} {j : Nat} : ∀ i, i < 28 → xTl S j i = S i := fun i hi => xTl_lo (by omega)
theorem xTl_rs {S : Nat → qSlot} {j : Nat} : ∀ r, r < (S 999).2.2.1 → xRs (xTl S j) r = xRs S r := fun r hr => by unfold xRs; rw [xTl_old hr]
theorem zRw {S S1 : Nat → qSlot} {j rr : Nat} (h : S1 = S ∨ S1 = xTl S j) (hr : rr < (S1 999).2.2.1) (hRl : ∀ r, r < (S 999).2.2.1 → (xRs S r).length ≤ 1000) (hj : (S j).2.1.length ≤ 1000) : rr < (S 999).2.2.1 + 1 ∧ (S1 999).2.2.1 ≤ (S 999).2.2.1 + 1 ∧ ∀ q, q < (S1 999).2.2.1 → (xRs S1 q).length ≤ 1000 := by
  rcases h with rfl | rfl
  · exact ⟨by omega, by omega, hRl⟩
  · rw [xTl_n] at hr ⊢
    refine ⟨hr, Nat.le_refl _, fun q hq => ?_⟩
    by_cases c : q = (S 999).2.2.1
    · unfold xRs; rw [c, xTl_new, List.length_map]; exact hj
    · rw [xTl_rs q (by omega)]; exact hRl q (by omega)
theorem bHo_15b {kd : Int32} (h : kd ∈ [(-1 : Int32), 0, 1, 2, 3, 4, 5, 6]) (e : bHo kd 15 = true) : kd = nI 0 ∨ kd = nI 1 ∨ kd = nI 2 ∨ kd = nI 3 := by
  simp only [List.mem_cons, List.not_mem_nil, or_false] at h
  rcases h with rfl | rfl | rfl | rfl | rfl | rfl | rfl | rfl <;> revert e <;> decide
theorem dX6_turn_11 : decode cX6_turn 11 = .ok (.astore_n 3, 1) := by decide +kernel
theorem dX6_turn_12 : decode cX6_turn 12 = .ok (.aload_n 3, 1) := by decide +kernel
theorem dX6_turn_13 : decode cX6_turn 13 = .ok (.getfield 63, 3) := by decide +kernel
theorem dX6_turn_16 : decode cX6_turn 16 = .ok (.ifCond .ne 22, 3) := by decide +kernel
theorem dX6_turn_19 : decode cX6_turn 19 = .ok (.aload_n 0, 1) := by decide +kernel
theorem dX6_turn_20 : decode cX6_turn 20 = .ok (.iload_n 1, 1) := by decide +kernel
theorem dX6_turn_21 : decode cX6_turn 21 = .ok (.aload_n 3, 1) := by decide +kernel
theorem dX6_turn_22 : decode cX6_turn 22 = .ok (.getfield 101, 3) := by decide +kernel
theorem dX6_turn_25 : decode cX6_turn 25 = .ok (.iconst 0, 1) := by decide +kernel
theorem dX6_turn_26 : decode cX6_turn 26 = .ok (.invokestatic 309, 3) := by decide +kernel
theorem dX6_turn_29 : decode cX6_turn 29 = .ok (.iconst 0, 1) := by decide +kernel
theorem dX6_turn_30 : decode cX6_turn 30 = .ok (.invokestatic 128, 3) := by decide +kernel
theorem dX6_turn_33 : decode cX6_turn 33 = .ok (.invokevirtual 51, 3) := by decide +kernel
theorem dX6_turn_36 : decode cX6_turn 36 = .ok (.pop, 1) := by decide +kernel
theorem dX6_turn_37 : decode cX6_turn 37 = .ok (.return_, 1) := by decide +kernel
theorem dX6_turn_38 : decode cX6_turn 38 = .ok (.aload_n 3, 1) := by decide +kernel
theorem dX6_turn_39 : decode cX6_turn 39 = .ok (.invokevirtual 59, 3) := by decide +kernel
theorem dX6_turn_42 : decode cX6_turn 42 = .ok (.istore 4, 2) := by decide +kernel
theorem dX6_turn_44 : decode cX6_turn 44 = .ok (.aload_n 0, 1) := by decide +kernel
theorem dX6_turn_45 : decode cX6_turn 45 = .ok (.iload 4, 2) := by decide +kernel
theorem dX6_turn_47 : decode cX6_turn 47 = .ok (.invokevirtual 218, 3) := by decide +kernel
theorem dX6_turn_50 : decode cX6_turn 50 = .ok (.aload_n 3, 1) := by decide +kernel
theorem dX6_turn_51 : decode cX6_turn 51 = .ok (.getfield 63, 3) := by decide +kernel
theorem dX6_turn_54 : decode cX6_turn 54 = .ok (.iconst 3, 1) := by decide +kernel
theorem dX6_turn_55 : decode cX6_turn 55 = .ok (.if_icmp .ne 19, 3) := by decide +kernel
theorem dX6_turn_58 : decode cX6_turn 58 = .ok (.aload_n 3, 1) := by decide +kernel
theorem dX6_turn_59 : decode cX6_turn 59 = .ok (.getfield 101, 3) := by decide +kernel
theorem dX6_turn_62 : decode cX6_turn 62 = .ok (.aload_n 0, 1) := by decide +kernel
theorem dX6_turn_63 : decode cX6_turn 63 = .ok (.getfield 25, 3) := by decide +kernel
theorem dX6_turn_66 : decode cX6_turn 66 = .ok (.iconst 0, 1) := by decide +kernel
theorem dX6_turn_67 : decode cX6_turn 67 = .ok (.invokestatic 277, 3) := by decide +kernel
theorem dX6_turn_70 : decode cX6_turn 70 = .ok (.pop, 1) := by decide +kernel
theorem dX6_turn_71 : decode cX6_turn 71 = .ok (.goto 40, 3) := by decide +kernel
theorem dX6_turn_74 : decode cX6_turn 74 = .ok (.aload_n 3, 1) := by decide +kernel
theorem dX6_turn_75 : decode cX6_turn 75 = .ok (.getfield 63, 3) := by decide +kernel
theorem dX6_turn_78 : decode cX6_turn 78 = .ok (.iconst 1, 1) := by decide +kernel
theorem dX6_turn_79 : decode cX6_turn 79 = .ok (.if_icmp .ne 19, 3) := by decide +kernel
theorem dX6_turn_82 : decode cX6_turn 82 = .ok (.aload_n 3, 1) := by decide +kernel
theorem dX6_turn_83 : decode cX6_turn 83 = .ok (.getfield 66, 3) := by decide +kernel
theorem dX6_turn_86 : decode cX6_turn 86 = .ok (.aload_n 0, 1) := by decide +kernel
theorem dX6_turn_87 : decode cX6_turn 87 = .ok (.getfield 25, 3) := by decide +kernel
theorem dX6_turn_90 : decode cX6_turn 90 = .ok (.iconst 0, 1) := by decide +kernel
theorem dX6_turn_91 : decode cX6_turn 91 = .ok (.invokestatic 313, 3) := by decide +kernel
theorem dX6_turn_94 : decode cX6_turn 94 = .ok (.pop, 1) := by decide +kernel
theorem dX6_turn_95 : decode cX6_turn 95 = .ok (.goto 16, 3) := by decide +kernel
theorem dX6_turn_98 : decode cX6_turn 98 = .ok (.aload_n 3, 1) := by decide +kernel
theorem dX6_turn_99 : decode cX6_turn 99 = .ok (.getfield 66, 3) := by decide +kernel
theorem dX6_turn_102 : decode cX6_turn 102 = .ok (.aload_n 0, 1) := by decide +kernel
theorem dX6_turn_103 : decode cX6_turn 103 = .ok (.getfield 25, 3) := by decide +kernel
theorem dX6_turn_106 : decode cX6_turn 106 = .ok (.iconst 0, 1) := by decide +kernel
theorem dX6_turn_107 : decode cX6_turn 107 = .ok (.invokestatic 242, 3) := by decide +kernel
theorem dX6_turn_110 : decode cX6_turn 110 = .ok (.pop, 1) := by decide +kernel
theorem dX6_turn_111 : decode cX6_turn 111 = .ok (.aload_n 0, 1) := by decide +kernel
theorem dX6_turn_112 : decode cX6_turn 112 = .ok (.iload_n 1, 1) := by decide +kernel
theorem dX6_turn_113 : decode cX6_turn 113 = .ok (.aload_n 0, 1) := by decide +kernel
theorem dX6_turn_114 : decode cX6_turn 114 = .ok (.iload 4, 2) := by decide +kernel
theorem dX6_turn_116 : decode cX6_turn 116 = .ok (.invokevirtual 306, 3) := by decide +kernel
theorem dX6_turn_119 : decode cX6_turn 119 = .ok (.invokevirtual 51, 3) := by decide +kernel
theorem dX6_turn_122 : decode cX6_turn 122 = .ok (.pop, 1) := by decide +kernel
theorem dX6_turn_123 : decode cX6_turn 123 = .ok (.return_, 1) := by decide +kernel
set_option maxRecDepth 100000 in
set_option maxHeartbeats 4000000 in
theorem z_turn (l : Launch) (D : va_G) (cy : Nat → ClassId) (N0 : Nat) (h : qH) (x : Nat) (mk : Int32) (sl bl kr vr Ed : Nat) (fs : Nat → Option Nat) (bd br eb : Nat → Nat) (Im : Nat → Prop) (Xb : Nat → Nat → Prop) (g : Nat → Nat) (S : Nat → qSlot) (W : qWo) (Bd sk Rn : Nat) (dp : Nat → Nat) (dc : Nat) (p0 p1 : Int32) (hz : zQ cy h x mk sl bl kr vr Ed fs bd br eb Im Xb g S W) (hI : ∀ i, i < 28 → qOk (S i).1 (S i).2.1) (hLn : ∀ i, i < 28 → (S i).2.1.length ≤ 1000) (hV : qWv Bd (sk + 1) Rn dp W) (hSt : ∀ i, i < 24 → (S i).1 = 6 → (S i).2.2.1 < W.2.1.1 ∧ dp (S i).2.2.1 ≤ dc) (hmk : qMk W.1.2.2.2.2.2.2.1 = mk) (hRn : Rn = (S 999).2.2.1) (hRl : ∀ r, r < Rn → (xRs S r).length ≤ 1000) : qC l D cy N0 yX6_turn cX6_turn 5 none 1020 23300 1100 6400 [.ref x, .int p0, .int p1] h (fun v h' => ∀ (S1 : Nat → qSlot) (rr : Nat), xTok S p0 p1 S1 rr → (xs_turn S S1 rr W p0 p1).1 = 0 ∧ v = none ∧ zPo cy h x mk sl bl kr vr Ed bd br Im Xb ((xs_turn S S1 rr W p0 p1).2.1) ((xs_turn S S1 rr W p0 p1).2.2) h') (fun E h' => ∀ (S1 : Nat → qSlot) (rr : Nat), xTok S p0 p1 S1 rr → zXc [(1, "java/lang/IllegalArgumentException"), (2, "java/lang/IllegalStateException"), (3, "java/lang/IndexOutOfBoundsException")] E (xs_turn S S1 rr W p0 p1).1 ∧ zPo cy h x mk sl bl kr vr Ed bd br Im Xb S ((xs_turn S S1 rr W p0 p1).2.2) h') := by
  refine q_ofW (by decide) (by exact Nat.le_of_ble_eq_true rfl) ?_
  intro p e s m below meth c ls C hP hl
  have hx := C.1
  have hb := C.2.1
  have hS : va_S (qA N0) s.heap s.heap [] := va_S.rf
  have hl : lv_has ls 5 [(0, .ref x), (1, .int p0), (2, .int p1)] := hl
  have hf : zFr h h x sl kr vr bd br Xb := zFr.rf
  obtain ⟨o, a, k⟩ := W
  dsimp only at hSt
  have hp9 : 1 ≤ a.1 ∧ a.1 ≤ a.2.1 := hV.p
  obtain ⟨m0, hm0, hm9, -⟩ := hV.m
  dsimp only at hm0
  dsimp only at hmk
  refine lv_iload_n hx hb dX6_turn_0 rfl (lv_at hl 1 rfl) ?_
  refine q_callS (rest := []) C (c_X6_needSlot l D cy N0 h p0) kX6_needSlot g104 g105 hP hS (by first | decide | omega) hl.1 rfl (by decide) (by first | decide | omega) dX6_turn_1 (fun q ce E h' H1 locs1 hE hP hS hc1 hc2 hc3 => by obtain ⟨rfl, rfl, hn9⟩ := hE; have eb9 := bSl_f hn9; exact q_out C hP hS hc1 hc2 hc3 (by intro S1 rr htok; have ex : (xs_turn S S1 rr (o, a, k) p0 p1) = (1, S, o, a, k) := (by unfold xs_turn; rw [if_pos (Or.inl eb9)]); exact ⟨by rw [ex]; exact .head _, by rw [ex]; exact hz.po hf⟩) (by omega)) (fun v hh1 H locs hq hP hS => ?_)
  obtain ⟨rfl, rfl, sl9⟩ := hq
  obtain ⟨i, hi, rfl⟩ := sl9.of
  have ebi : bSl (nI i) = true := bSl_t sl9
  have eci : (nI i).toNatClampNeg = i := nI_clamp (by omega)
  refine lv_aload_n hx hb dX6_turn_4 rfl (lv_at hl 0 rfl) ?_
  refine lv_iload_n hx hb dX6_turn_5 rfl (lv_at hl 2 rfl) ?_
  refine lv_bipush (v := nI 15) hx hb dX6_turn_6 (by decide) ?_
  refine q_callV (rest := []) C (z_heldIn l D N0 p1 15 hz hI) kX6_heldIn g243 g245 rfl gp2 g1 hP hS hz.1.1 (by first | decide | omega) hl.1 rfl (by decide) (by first | decide | omega) dX6_turn_8 (fun q ce E h' H1 locs1 hE hP hS hc1 hc2 hc3 => hE.2.elim (fun y => by obtain ⟨rfl, -⟩ := hE; obtain ⟨rfl, hn9⟩ := y; exact q_out C hP hS hc1 hc2 hc3 (by intro S1 rr htok; have ex : (xs_turn S S1 rr (o, a, k) (nI i) p1) = (1, S, o, a, k) := (by have ebj := hn9; unfold xs_turn; rw [if_pos (Or.inr ebj)]); exact ⟨by rw [ex]; exact .head _, by rw [ex]; exact hz.po hf⟩) (by omega)) (fun y => by obtain ⟨rfl, -⟩ := hE; obtain ⟨rfl, j, hi8, rfl, ho8⟩ := y; exact q_out C hP hS hc1 hc2 hc3 (by intro S1 rr htok; have ex : (xs_turn S S1 rr (o, a, k) (nI i) (nI j)) = (2, S, o, a, k) := (by have ebj : bSl (nI j) = true := bSl_t (qSl.nI hi8); have ecj : (nI j).toNatClampNeg = j := nI_clamp (by omega); have hoj := ho8; unfold xs_turn; rw [if_neg (by rw [ebi, ebj]; decide), ecj, if_pos hoj]); exact ⟨by rw [ex]; exact .tail _ (.head _), by rw [ex]; exact hz.po hf⟩) (by omega))) (fun v hh2 H locs hq hP hS => ?_)
  obtain ⟨rfl, j, aj, hj, rfl, hfsj, rfl, hoj, x1j, x2j, x3j, x4j, dvj, faj, zvj⟩ := hq
  have ebj : bSl (nI j) = true := bSl_t (qSl.nI hj)
  have ecj : (nI j).toNatClampNeg = j := nI_clamp (by omega)
  rcases bHo_15b (hI j (by omega)).2.2 hoj with hk9 | hk9 | hk9 | hk9
  · have hl9 := hLn j (by omega)
    have hk6 : ¬ (S j).1 = 6 := fun z => absurd (hk9.symm.trans z) (by decide)
    have ham : zAm (S j) = (S j).2.1.length := zAm_n hk6
    rw [hk9] at faj
    obtain ⟨rfl, rfl, rfl, rfl, n9, hb9⟩ := zvj.seq (Or.inl hk9)
    have hlm : ((S j).2.1.map (fun p => ((0 : Int64), p.1))).length = (S j).2.1.length := List.length_map ..
    have hl9 := hLn j (by omega)
    have hn14 : n9 ≤ 14 := hb9.h14 (by omega)
    have hz0 := hz
    have hb0 := hb9
    by_cases cz : (S j).2.1.length = 0
    · have e10 : (if ((S j).2.1.map (fun p => ((0 : Int64), p.1))).length ≤ 0 then 0 else 1) = 0 ∧ (if ((S j).2.1.map (fun p => ((0 : Int64), p.1))).length ≤ 0 then 0 else 10) = 0 := ⟨if_pos (by omega), if_pos (by omega)⟩
      refine lv_astore_n (lv' := [(3, .ref aj), (0, .ref x), (1, .int (nI i)), (2, .int (nI j))]) hx hb dX6_turn_11 rfl hl (by decide) rfl (fun ls hl => ?_)
      refine lv_aload_n hx hb dX6_turn_12 rfl (lv_at hl 0 rfl) ?_
      refine q_get C hP faj rfl inX2 0 (by decide) g192 rfl dX6_turn_13 ?_
      refine lv_if_ne (tgt := 38) hx hb dX6_turn_16 (by decide) (fun c16 => ?_) (fun c16 => ?_)
      · replace c16 : ¬ 0 = 0 := fun zq => c16 ((nI_eq (a := 0) (b := 0) (by omega) (by omega)).mpr zq)
        exfalso; omega
      · replace c16 : 0 = 0 := (nI_eq (a := 0) (b := 0) (by omega) (by omega)).mp c16
        refine lv_aload_n hx hb dX6_turn_19 rfl (lv_at hl 1 rfl) ?_
        refine lv_iload_n hx hb dX6_turn_20 rfl (lv_at hl 2 rfl) ?_
        refine lv_aload_n hx hb dX6_turn_21 rfl (lv_at hl 0 rfl) ?_
        refine q_get C hP faj rfl inX2 1 (by decide) g195 rfl dX6_turn_22 ?_
        refine lv_iconst (v := nI 0) hx hb dX6_turn_25 (by decide) ?_
        refine q_callS (rest := [.int (nI i), .ref x]) C (c_X5_turned l D cy N0 h x1j n9 0 ((S j).2.1.map (fun p => ((0 : Int64), p.1))) hb9 (by omega) (by omega)) kX5_turned g676 g677 hP hS (by first | decide | omega) hl.1 rfl (by simp [q_catrf, q_cati, q_catl, q_cata, q_catn]) (by first | decide | omega) dX6_turn_26 (fun q ce E h' H1 locs1 hE => hE.elim) (fun v hh3 H locs hq hP hS => ?_)
        rcases hq with ⟨rfl, rfl, hle9⟩ | ⟨q, k0, v0, eA0, rfl, oq, rfl⟩
        · refine lv_iconst (v := nI 0) hx hb dX6_turn_29 (by decide) ?_
          refine q_callS (rest := [.int (nI i), .ref x]) C (c_X2_ofStream l D cy N0 h none (nI 0)) kX2_ofStream g580 g581 hP hS (by first | decide | omega) hl.1 rfl (by simp [q_catrf, q_cati, q_catl, q_cata, q_catn]) (by first | decide | omega) dX6_turn_30 (fun q ce E h' H1 locs1 hE => hE.elim) (fun v hh4 H locs hq hP hS => ?_)
          obtain ⟨qh, rfl, oqh, rfl⟩ := hq
          replace hP : qP D N0 (qs h qh (.inr (2, [.int 6, .null, .null, .null, .null, .int (nI 0)]))) H := hP
          have hleh : qle h (qs h qh (.inr (2, [.int 6, .null, .null, .null, .null, .int (nI 0)]))) := qle_new oqh
          replace faj := hleh _ _ faj
          replace zvj := zvj.le hleh
          replace hb9 := hb9.le hleh
          replace hf := hf.trs (zFr.le hleh (qle.dom hleh))
          replace hz := hz.le hV hleh (qle.dom hleh)
          have fqh : (qs h qh (.inr (2, [.int 6, .null, .null, .null, .null, .int (nI 0)]))) qh = some (.inr (2, [.int 6, .null, .null, .null, .null, .int (nI 0)])) := qs_self
          have hleq := hleh
          have fqh0 := fqh
          have zvn : zV cy (qs h qh (.inr (2, [.int 6, .null, .null, .null, .null, .int (nI 0)]))) Im (zOk Ed eb S) mk g (6, [], 0, 0) none none none none (nI 0) := Or.inr (Or.inr (Or.inr (Or.inr ⟨rfl, rfl, rfl, rfl, zO_z.symm, rfl⟩)))
          have hzp := hz.put hV hi (s := (6, [], 0, 0)) (show ¬ ((6 : Int32) = -1) by decide) ⟨none, none, none, none, (nI 0), fqh, zvn⟩
          have hfp : zFr h (qs (qs h qh (.inr (2, [.int 6, .null, .null, .null, .null, .int (nI 0)]))) sl (.inl (cy 3, 24, .inr (.inr (.inr (.inr (va_up fs i (some qh)))))))) x sl kr vr bd br Xb := hf.trs (zFr.set hz.2.1.1 (Or.inr (Or.inl rfl)))
          have hkd : qHd (qs h qh (.inr (2, [.int 6, .null, .null, .null, .null, .int (nI 0)]))) qh 6 none none none none (nI 0) (nI (zAm (6, [], 0, 0))) := zHd.hd (s := (6, [], 0, 0)) fqh zvn
          refine q_callV (rest := []) C (c_X6_keep l D cy N0 (qs h qh (.inr (2, [.int 6, .null, .null, .null, .null, .int (nI 0)]))) x sl bl kr vr mk (oCq (o, a, k).1) (oMq (o, a, k).1) (nI Ed) fs i qh 6 none none none none (nI 0) (nI (zAm (6, [], 0, 0))) hz.1.1 hz.2.1.1 hi hkd) kX6_keep g218 g220 rfl gp1 g1 hP hS hz.1.1 (by first | decide | omega) hl.1 rfl (by decide) (by first | decide | omega) dX6_turn_33 (fun q ce E h' H1 locs1 hE => hE.elim) (fun v hh5 H locs hq hP hS => ?_)
          obtain ⟨rfl, rfl⟩ := hq
          replace faj := (qs_ne (h := (qs h qh (.inr (2, [.int 6, .null, .null, .null, .null, .int (nI 0)])))) (a := sl) (o := (.inl (cy 3, 24, .inr (.inr (.inr (.inr (va_up fs i (some qh)))))))) (fun z => by rw [z, hz.2.1.1] at faj; cases faj)).trans faj
          refine lv_pop hx hb dX6_turn_36 rfl ?_
          refine q_vret C hP hS ?_ (by omega) dX6_turn_37
          intro S1 rr htok
          have hlo := xTok_lo htok
          rw [ecj] at hlo
          have hyy := xTok_yes htok ebi ebj (by rw [ecj]; exact hk9)
          rw [ecj] at hyy
          have hS1 : ∀ i, i < 28 → S1 i = S i := fun i hi => by rcases hlo with rfl | rfl; exact rfl; exact xTl_28 i hi
          have hR1 : ∀ r, r < Rn → xRs S1 r = xRs S r := fun r hr => by rw [hRn] at hr; rcases hlo with rfl | rfl; exact rfl; exact xTl_rs r hr
          have ex : (xs_turn S S1 rr (o, a, k) (nI i) (nI j)) = (0, qU S1 i (6, [], 0, 0), o, a, k) := by unfold xs_turn; rw [if_neg (by rw [ebi, ebj]; decide), ecj, if_neg (by rw [hoj]; decide), eci]; unfold xr_turn; rw [if_pos (show (S j).1 = 0 from hk9)]; unfold xRow; rw [if_pos (show (xRs S1 rr).length ≤ 0 from by rw [hyy.2, List.length_map]; omega)]
          have hzq := (hz.tl hV hS1 hR1).put hV hi (s := (6, [], 0, 0)) (show ¬ ((6 : Int32) = -1) by decide) ⟨none, none, none, none, nI 0, fqh0, zvn.ok (zOk.up (Nat.le_refl _) (fun b hb => by rw [hS1 _ (by omega)])) (fun _ z => z)⟩
          exact ⟨by rw [ex], rfl, by rw [ex]; exact hzq.po hfp⟩
        · exact absurd (List.getElem?_eq_some_iff.mp eA0).1 (by omega)
    · have e10 : (if ((S j).2.1.map (fun p => ((0 : Int64), p.1))).length ≤ 0 then 0 else 1) = 1 ∧ (if ((S j).2.1.map (fun p => ((0 : Int64), p.1))).length ≤ 0 then 0 else 10) = 10 := ⟨if_neg (by omega), if_neg (by omega)⟩
      refine lv_astore_n (lv' := [(3, .ref aj), (0, .ref x), (1, .int (nI i)), (2, .int (nI j))]) hx hb dX6_turn_11 rfl hl (by decide) rfl (fun ls hl => ?_)
      refine lv_aload_n hx hb dX6_turn_12 rfl (lv_at hl 0 rfl) ?_
      refine q_get C hP faj rfl inX2 0 (by decide) g192 rfl dX6_turn_13 ?_
      refine lv_if_ne (tgt := 38) hx hb dX6_turn_16 (by decide) (fun c16 => ?_) (fun c16 => ?_)
      · replace c16 : ¬ 0 = 0 := fun zq => c16 ((nI_eq (a := 0) (b := 0) (by omega) (by omega)).mpr zq)
        exfalso; omega
      · replace c16 : 0 = 0 := (nI_eq (a := 0) (b := 0) (by omega) (by omega)).mp c16
        refine lv_aload_n hx hb dX6_turn_19 rfl (lv_at hl 1 rfl) ?_
        refine lv_iload_n hx hb dX6_turn_20 rfl (lv_at hl 2 rfl) ?_
        refine lv_aload_n hx hb dX6_turn_21 rfl (lv_at hl 0 rfl) ?_
        refine q_get C hP faj rfl inX2 1 (by decide) g195 rfl dX6_turn_22 ?_
        refine lv_iconst (v := nI 0) hx hb dX6_turn_25 (by decide) ?_
        refine q_callS (rest := [.int (nI i), .ref x]) C (c_X5_turned l D cy N0 h x1j n9 0 ((S j).2.1.map (fun p => ((0 : Int64), p.1))) hb9 (by omega) (by omega)) kX5_turned g676 g677 hP hS (by first | decide | omega) hl.1 rfl (by simp [q_catrf, q_cati, q_catl, q_cata, q_catn]) (by first | decide | omega) dX6_turn_26 (fun q ce E h' H1 locs1 hE => hE.elim) (fun v hh6 H locs hq hP hS => ?_)
        rcases hq with ⟨rfl, rfl, hle9⟩ | ⟨q, k0, v0, eA0, rfl, oq, rfl⟩
        · exact absurd hle9 (by omega)
        · rw [List.getElem?_map] at eA0
          obtain ⟨pv, ev1, ev2⟩ := Option.map_eq_some_iff.mp eA0
          obtain rfl : pv.1 = v0 := congrArg Prod.snd ev2
          replace hP : qP D N0 (qs h q (.inr (5, [.long pv.1, .int 2, .int 0, .long 0, .int (nI 0), .null, .null, va_rf x1j, .int 0, .null]))) H := hP
          have hle9 : qle h (qs h q (.inr (5, [.long pv.1, .int 2, .int 0, .long 0, .int (nI 0), .null, .null, va_rf x1j, .int 0, .null]))) := qle_new oq
          replace faj := hle9 _ _ faj
          replace zvj := zvj.le hle9
          replace hb9 := hb9.le hle9
          replace hf := hf.trs (zFr.le hle9 (qle.dom hle9))
          replace hz := hz.le hV hle9 (qle.dom hle9)
          refine lv_iconst (v := nI 0) hx hb dX6_turn_29 (by decide) ?_
          refine q_callS (rest := [.int (nI i), .ref x]) C (c_X2_ofStream l D cy N0 (qs h q (.inr (5, [.long pv.1, .int 2, .int 0, .long 0, .int (nI 0), .null, .null, va_rf x1j, .int 0, .null]))) (some q) (nI 0)) kX2_ofStream g580 g581 hP hS (by first | decide | omega) hl.1 rfl (by simp [q_catrf, q_cati, q_catl, q_cata, q_catn]) (by first | decide | omega) dX6_turn_30 (fun q ce E h' H1 locs1 hE => hE.elim) (fun v hh7 H locs hq hP hS => ?_)
          obtain ⟨qh, rfl, oqh, rfl⟩ := hq
          replace hP : qP D N0 (qs (qs h q (.inr (5, [.long pv.1, .int 2, .int 0, .long 0, .int (nI 0), .null, .null, va_rf x1j, .int 0, .null]))) qh (.inr (2, [.int 6, .null, .null, .null, va_rf (some q), .int (nI 0)]))) H := hP
          have hleh : qle (qs h q (.inr (5, [.long pv.1, .int 2, .int 0, .long 0, .int (nI 0), .null, .null, va_rf x1j, .int 0, .null]))) (qs (qs h q (.inr (5, [.long pv.1, .int 2, .int 0, .long 0, .int (nI 0), .null, .null, va_rf x1j, .int 0, .null]))) qh (.inr (2, [.int 6, .null, .null, .null, va_rf (some q), .int (nI 0)]))) := qle_new oqh
          replace faj := hleh _ _ faj
          replace zvj := zvj.le hleh
          replace hb9 := hb9.le hleh
          replace hf := hf.trs (zFr.le hleh (qle.dom hleh))
          replace hz := hz.le hV hleh (qle.dom hleh)
          have fqh : (qs (qs h q (.inr (5, [.long pv.1, .int 2, .int 0, .long 0, .int (nI 0), .null, .null, va_rf x1j, .int 0, .null]))) qh (.inr (2, [.int 6, .null, .null, .null, va_rf (some q), .int (nI 0)]))) qh = some (.inr (2, [.int 6, .null, .null, .null, va_rf (some q), .int (nI 0)])) := qs_self
          have hleq := hleh
          have fqh0 := fqh
          have zvn : zV cy (qs (qs h q (.inr (5, [.long pv.1, .int 2, .int 0, .long 0, .int (nI 0), .null, .null, va_rf x1j, .int 0, .null]))) qh (.inr (2, [.int 6, .null, .null, .null, va_rf (some q), .int (nI 0)]))) Im (zOk Ed eb S) mk (qU g a.1 q) (6, [], a.1, 0) none none none (some q) (nI 0) := Or.inr (Or.inr (Or.inr (Or.inr ⟨rfl, rfl, rfl, rfl, by rw [zO_s (by show ¬ a.1 = 0; omega), qU_at], rfl⟩)))
          have hfp : zFr h (qs (qs (qs h q (.inr (5, [.long pv.1, .int 2, .int 0, .long 0, .int (nI 0), .null, .null, va_rf x1j, .int 0, .null]))) qh (.inr (2, [.int 6, .null, .null, .null, va_rf (some q), .int (nI 0)]))) sl (.inl (cy 3, 24, .inr (.inr (.inr (.inr (va_up fs i (some qh)))))))) x sl kr vr bd br Xb := hf.trs (zFr.set hz.2.1.1 (Or.inr (Or.inl rfl)))
          have hkd : qHd (qs (qs h q (.inr (5, [.long pv.1, .int 2, .int 0, .long 0, .int (nI 0), .null, .null, va_rf x1j, .int 0, .null]))) qh (.inr (2, [.int 6, .null, .null, .null, va_rf (some q), .int (nI 0)]))) qh 6 none none none (some q) (nI 0) (nI (zAm (6, [], a.1, 0))) := zHd.hd (s := (6, [], a.1, 0)) fqh zvn
          refine q_callV (rest := []) C (c_X6_keep l D cy N0 (qs (qs h q (.inr (5, [.long pv.1, .int 2, .int 0, .long 0, .int (nI 0), .null, .null, va_rf x1j, .int 0, .null]))) qh (.inr (2, [.int 6, .null, .null, .null, va_rf (some q), .int (nI 0)]))) x sl bl kr vr mk (oCq (o, a, k).1) (oMq (o, a, k).1) (nI Ed) fs i qh 6 none none none (some q) (nI 0) (nI (zAm (6, [], a.1, 0))) hz.1.1 hz.2.1.1 hi hkd) kX6_keep g218 g220 rfl gp1 g1 hP hS hz.1.1 (by first | decide | omega) hl.1 rfl (by decide) (by first | decide | omega) dX6_turn_33 (fun q ce E h' H1 locs1 hE => hE.elim) (fun v hh8 H locs hq hP hS => ?_)
          obtain ⟨rfl, rfl⟩ := hq
          replace faj := (qs_ne (h := (qs (qs h q (.inr (5, [.long pv.1, .int 2, .int 0, .long 0, .int (nI 0), .null, .null, va_rf x1j, .int 0, .null]))) qh (.inr (2, [.int 6, .null, .null, .null, va_rf (some q), .int (nI 0)])))) (a := sl) (o := (.inl (cy 3, 24, .inr (.inr (.inr (.inr (va_up fs i (some qh)))))))) (fun z => by rw [z, hz.2.1.1] at faj; cases faj)).trans faj
          refine lv_pop hx hb dX6_turn_36 rfl ?_
          refine q_vret C hP hS ?_ (by omega) dX6_turn_37
          intro S1 rr htok
          have hlo := xTok_lo htok
          rw [ecj] at hlo
          have hyy := xTok_yes htok ebi ebj (by rw [ecj]; exact hk9)
          rw [ecj] at hyy
          have hS1 : ∀ i, i < 28 → S1 i = S i := fun i hi => by rcases hlo with rfl | rfl; exact rfl; exact xTl_28 i hi
          have hR1 : ∀ r, r < Rn → xRs S1 r = xRs S r := fun r hr => by rw [hRn] at hr; rcases hlo with rfl | rfl; exact rfl; exact xTl_rs r hr
          have hgd : (xRs S1 rr).getD 0 0 = pv.1 := by rw [hyy.2, List.getD_eq_getElem?_getD, List.getElem?_map, ev1]; rfl
          have ex : (xs_turn S S1 rr (o, a, k) (nI i) (nI j)) = (0, qU S1 i (6, [], a.1, 0), o, xCons a pv.1 k.1, xCell k 2 rr 1 0 0) := by unfold xs_turn; rw [if_neg (by rw [ebi, ebj]; decide), ecj, if_neg (by rw [hoj]; decide), eci]; unfold xr_turn; rw [if_pos (show (S j).1 = 0 from hk9)]; unfold xRow; rw [if_neg (show ¬ (xRs S1 rr).length ≤ 0 from by rw [hyy.2, List.length_map]; omega), hgd]
          have hVr : qWv Bd (sk + 1) (Rn + 1) dp (o, a, k) := hV.rows
          obtain ⟨hr1, hr2, hr3⟩ := zRw hlo hyy.1 (by rw [← hRn]; exact hRl) hl9
          have hstp : qStp Bd sk (Rn + 1) dp (o, a, k) (a.1, o, xCons a pv.1 k.1, xCell k 2 rr 1 0 0) 0 := hVr.pushC (o' := o) (x := pv.1) (c0 := 0) (x0 := 0) (kd := 2) (s := rr) (t := 1) rfl ⟨by omega, fun z => by omega, fun z => by omega, fun _ => ⟨by omega, by omega⟩, fun z => by omega, fun z => by omega, fun z => by omega, fun z => by omega, fun z => by omega⟩ oSame
          obtain ⟨dp2, -, hV2, -⟩ := hstp
          dsimp only at hV2
          have hzA := hz0.tl hV hS1 hR1
          have hwA := hzA.1.new hV (q := q) (x0 := pv.1) (rr := k.1) (way := 2) (cod := 0) (cc := 0) (num := nI 0) (src := none) (beh := none) (row := x1j) (dn := 0) (rst := none) oq (xCell_u hV (kd := 2) (s := rr) (t := 1) (c := 0) (y := 0)) (Or.inr ⟨rfl, Or.inr (Or.inl ⟨rfl, rfl, rfl, rfl, by omega, n9, by rw [hyy.2, List.map_map]; exact hb0⟩)⟩)
          have hzB := hzA.str hwA (zH.new oq) (n := a.1) (fun s hs => qU_ne (Nat.ne_of_lt hs)) (fun i hi y => by rw [hS1 i (by omega)] at y ⊢; exact (hSt i hi y).1)
          have hzC := hzB.le hV2 hleq (qle.dom hleq)
          have hzq := hzC.put hV2 hi (s := (6, [], a.1, 0)) (show ¬ ((6 : Int32) = -1) by decide) ⟨none, none, none, some q, nI 0, fqh0, zvn.ok (zOk.up (Nat.le_refl _) (fun b hb => by rw [hS1 _ (by omega)])) (fun _ z => z)⟩
          exact ⟨by rw [ex], rfl, by rw [ex]; exact hzq.po hfp⟩
  · have hl9 := hLn j (by omega)
    have hk6 : ¬ (S j).1 = 6 := fun z => absurd (hk9.symm.trans z) (by decide)
    have ham : zAm (S j) = (S j).2.1.length := zAm_n hk6
    rw [hk9] at faj
    have hk0 : ¬ (S j).1 = 0 := fun z => absurd (hk9.symm.trans z) (by decide)
    have hk12 : (S j).1 = 1 ∨ (S j).1 = 2 := Or.inl hk9
    have hRj := (zvj.hash hk12).2.2.2.2
    have hTu : xTuL o.2.2.2.2.2.2.1 (S j).1 (S j).2.1 = ((thT mk 7 (zSv (S j))).map Prod.snd).map (fun v => (v, 0)) := by unfold xTuL; rw [if_neg (fun z => absurd (hk9.symm.trans z) (by decide)), if_neg (fun z => absurd (hk9.symm.trans z) (by decide)), hmk, List.map_map, show zSv (S j) = (S j).2.1 from if_neg (fun z => absurd (hk9.symm.trans z) (by decide))]; rfl
    have hKl : ((thT mk 7 (zSv (S j))).map Prod.snd).length = (S j).2.1.length := by rw [List.length_map, thT_len, zSv_len]
    refine lv_astore_n (lv' := [(3, .ref aj), (0, .ref x), (1, .int (nI i)), (2, .int (nI j))]) hx hb dX6_turn_11 rfl hl (by decide) rfl (fun ls hl => ?_)
    refine lv_aload_n hx hb dX6_turn_12 rfl (lv_at hl 0 rfl) ?_
    refine q_get C hP faj rfl inX2 0 (by decide) g192 rfl dX6_turn_13 ?_
    refine lv_if_ne (tgt := 38) hx hb dX6_turn_16 (by decide) (fun c16 => ?_) (fun c16 => ?_)
    · replace c16 : ¬ 1 = 0 := fun zq => c16 ((nI_eq (a := 1) (b := 0) (by omega) (by omega)).mpr zq)
      refine lv_aload_n hx hb dX6_turn_38 rfl (lv_at hl 0 rfl) ?_
      obtain ⟨t1j, t2j, t3j, f1j, f2j, f3j, etj⟩ := zvj.size
      refine q_callV (rest := []) C (c_X2_amount l D cy N0 h aj (nI 1) dvj t1j t2j t3j x1j x2j x3j x4j faj f1j f2j f3j) kX2_amount g222 g223 rfl g224 g10 hP hS faj (by first | decide | omega) hl.1 rfl (by decide) (by first | decide | omega) dX6_turn_39 (fun q ce E h' H1 locs1 hE => hE.elim) (fun v hh9 H locs hq hP hS => ?_)
      obtain ⟨rfl, rfl⟩ := hq
      rw [← etj]
      refine lv_istore (lv' := [(4, .int (nI (zAm (S j)))), (3, .ref aj), (0, .ref x), (1, .int (nI i)), (2, .int (nI j))]) hx hb dX6_turn_42 hl (by decide) rfl (fun ls hl => ?_)
      refine lv_aload_n hx hb dX6_turn_44 rfl (lv_at hl 2 rfl) ?_
      refine lv_iload hx hb dX6_turn_45 (lv_at hl 0 rfl) ?_
      refine q_callV (rest := []) C (c_X6_takeMoves l D cy N0 h x sl bl kr vr mk (oCq (o, a, k).1) (oMq (o, a, k).1) (nI Ed) fs (nI (zAm (S j))) hz.1.1 hz.2.1.1) kX6_takeMoves g641 g643 rfl gp15 g1 hP hS hz.1.1 (by first | decide | omega) hl.1 rfl (by decide) (by first | decide | omega) dX6_turn_47 (fun q ce E h' H1 locs1 hE hP hS hc1 hc2 hc3 => by obtain ⟨rfl, rfl, hn9⟩ := hE; replace hn9 : ¬ m0 + zAm (S j) ≤ 20000 := fun z => hn9 (by rw [hm0]; exact (zmvs hm9 (by omega)).mpr z); exact q_out C hP hS hc1 hc2 hc3 (by intro S1 rr htok; have ex : (xs_turn S S1 rr (o, a, k) (nI i) (nI j)) = (3, S, o, a, k) := (by unfold xs_turn; rw [if_neg (by rw [ebi, ebj]; decide), ecj, if_neg (by rw [hoj]; decide), eci]; unfold xr_turn; rw [if_neg hk0, show (oMq ((o, a, k) : qWo).1).toNatClampNeg = m0 from by rw [show oMq ((o, a, k) : qWo).1 = nI m0 from hm0]; exact nI_clamp (by omega), if_pos (by omega)]); exact ⟨by rw [ex]; exact .tail _ (.tail _ (.head _)), by rw [ex]; exact hz.po hf⟩) (by omega)) (fun v hh10 H locs hq hP hS => ?_)
      obtain ⟨rfl, rfl, hmv⟩ := hq
      have hmv2 : m0 + zAm (S j) ≤ 20000 := (zmvs hm9 (by omega)).mp (by rw [← hm0]; exact hmv)
      rw [show oMq (o, a, k).1 = nI m0 from hm0, nI_add] at hP
      replace hP : qP D N0 (qs h x (.inr (6, [.int mk, .ref sl, .ref bl, .ref kr, .ref vr, .int (oCq (o, a, k).1), .int (nI (m0 + zAm (S j))), .int (nI Ed)]))) H := hP
      replace faj := (qs_ne (h := h) (a := x) (o := (.inr (6, [.int mk, .ref sl, .ref bl, .ref kr, .ref vr, .int (oCq (o, a, k).1), .int (nI (m0 + zAm (S j))), .int (nI Ed)]))) (fun z => by rw [z, hz.1.1] at faj; simp at faj)).trans faj
      replace zvj := zvj.up (o := .inr (6, [.int mk, .ref sl, .ref bl, .ref kr, .ref vr, .int (oCq (o, a, k).1), .int (nI (m0 + zAm (S j))), .int (nI Ed)])) hz.1.1 (fun b y => (hz.2.2.2.2.2.1 b (Or.inl y)).1)
      replace hRj := hRj.keep (h' := qs h x (.inr (6, [.int mk, .ref sl, .ref bl, .ref kr, .ref vr, .int (oCq (o, a, k).1), .int (nI (m0 + zAm (S j))), .int (nI Ed)]))) (fun b o e y => (qs_ne (hz.2.2.2.2.2.1 b (Or.inl (y.resolve_right id))).1).trans e)
      replace hf := hf.trs (zFr.set (o' := .inr (6, [.int mk, .ref sl, .ref bl, .ref kr, .ref vr, .int (oCq (o, a, k).1), .int (nI (m0 + zAm (S j))), .int (nI Ed)])) hz.1.1 (Or.inl rfl))
      replace hz : zQ cy (qs h x (.inr (6, [.int mk, .ref sl, .ref bl, .ref kr, .ref vr, .int (oCq (o, a, k).1), .int (nI (m0 + zAm (S j))), .int (nI Ed)]))) x mk sl bl kr vr Ed fs bd br eb Im Xb g S (oMv o (nI (m0 + zAm (S j))), a, k) := hz.mv hV
      replace hV := hV.mvs hm0 (M2 := m0 + zAm (S j)) ⟨by omega, by omega⟩ hmv2
      replace hV : qWv Bd (sk + 1) Rn dp (oMv o (nI (m0 + zAm (S j))), a, k) := hV
      refine lv_aload_n hx hb dX6_turn_50 rfl (lv_at hl 1 rfl) ?_
      refine q_get C hP faj rfl inX2 0 (by decide) g192 rfl dX6_turn_51 ?_
      refine lv_iconst (v := nI 3) hx hb dX6_turn_54 (by decide) ?_
      refine lv_icmp_ne (tgt := 74) hx hb dX6_turn_55 (by decide) (fun c55 => ?_) (fun c55 => ?_)
      · replace c55 : ¬ 1 = 3 := fun zq => c55 ((nI_eq (a := 1) (b := 3) (by omega) (by omega)).mpr zq)
        refine lv_aload_n hx hb dX6_turn_74 rfl (lv_at hl 1 rfl) ?_
        refine q_get C hP faj rfl inX2 0 (by decide) g192 rfl dX6_turn_75 ?_
        refine lv_iconst (v := nI 1) hx hb dX6_turn_78 (by decide) ?_
        refine lv_icmp_ne (tgt := 98) hx hb dX6_turn_79 (by decide) (fun c79 => ?_) (fun c79 => ?_)
        · replace c79 : ¬ 1 = 1 := fun zq => c79 ((nI_eq (a := 1) (b := 1) (by omega) (by omega)).mpr zq)
          exfalso; omega
        · replace c79 : 1 = 1 := (nI_eq (a := 1) (b := 1) (by omega) (by omega)).mp c79
          refine lv_aload_n hx hb dX6_turn_82 rfl (lv_at hl 1 rfl) ?_
          refine q_get C hP faj rfl inX2 2 (by decide) g198 rfl dX6_turn_83 ?_
          refine lv_aload_n hx hb dX6_turn_86 rfl (lv_at hl 2 rfl) ?_
          refine q_get C hP hz.1.1 rfl inX6 4 (by decide) g72 rfl dX6_turn_87 ?_
          refine lv_iconst (v := nI 0) hx hb dX6_turn_90 (by decide) ?_
          obtain ⟨f0v, hf0v⟩ := hz.2.1.2.2.2
          refine q_callSN (host := RX6) (rest := []) C (z_pourValues l D cy N0 (qs h x (.inr (6, [.int mk, .ref sl, .ref bl, .ref kr, .ref vr, .int (oCq (o, a, k).1), .int (nI (m0 + zAm (S j))), .int (nI Ed)]))) Im 0 (zOk Ed eb S) mk x2j (zSv (S j)) (fun _ => False) vr f0v hRj ⟨fun z => (hz.2.2.2.2.2.1 _ (Or.inl z)).2.2.2.2.1 rfl, id⟩ hf0v (by rw [zSv_len]; omega)) kX3_pourValues (by decide +kernel) g869 hP hS (by first | decide | omega) hl.1 rfl (by decide) (by first | decide | omega) dX6_turn_91 (fun v hh11 H locs hq hP hS => ?_)
          obtain ⟨rfl, rfl⟩ := hq
          replace hP : qP D N0 (qs (qs h x (.inr (6, [.int mk, .ref sl, .ref bl, .ref kr, .ref vr, .int (oCq (o, a, k).1), .int (nI (m0 + zAm (S j))), .int (nI Ed)]))) vr (.inl (cy 1, 1000, .inr (.inl (qPour f0v 0 ((thT mk 7 (zSv (S j))).map Prod.snd)))))) H := hP
          replace hP : qP D N0 (qs (qs h x (.inr (6, [.int mk, .ref sl, .ref bl, .ref kr, .ref vr, .int (oCq (o, a, k).1), .int (nI (m0 + zAm (S j))), .int (nI Ed)]))) vr (.inl (cy 1, 1000, .inr (.inl (qPour f0v 0 ((thT mk 7 (zSv (S j))).map Prod.snd)))))) H := hP
          replace faj := (qs_ne (h := (qs h x (.inr (6, [.int mk, .ref sl, .ref bl, .ref kr, .ref vr, .int (oCq (o, a, k).1), .int (nI (m0 + zAm (S j))), .int (nI Ed)])))) (a := vr) (o := (.inl (cy 1, 1000, .inr (.inl (qPour f0v 0 ((thT mk 7 (zSv (S j))).map Prod.snd)))))) (fun z => by rw [z, hz.2.1.2.2.2.choose_spec] at faj; simp at faj)).trans faj
          replace zvj := zvj.row (y' := (cy 1, 1000, .inr (.inl (qPour f0v 0 ((thT mk 7 (zSv (S j))).map Prod.snd))))) hz.2.1.2.2.2.choose_spec (fun b y => (hz.2.2.2.2.2.1 b (Or.inl y)).2.2.2.2.1)
          replace hRj := hRj.keep (h' := qs (qs h x (.inr (6, [.int mk, .ref sl, .ref bl, .ref kr, .ref vr, .int (oCq (o, a, k).1), .int (nI (m0 + zAm (S j))), .int (nI Ed)]))) vr (.inl (cy 1, 1000, .inr (.inl (qPour f0v 0 ((thT mk 7 (zSv (S j))).map Prod.snd)))))) (fun b o e y => (qs_ne (hz.2.2.2.2.2.1 b (Or.inl (y.resolve_right id))).2.2.2.2.1).trans e)
          replace hf := hf.trs (zFr.set (o' := .inl (cy 1, 1000, .inr (.inl (qPour f0v 0 ((thT mk 7 (zSv (S j))).map Prod.snd))))) hz.2.1.2.2.2.choose_spec (Or.inr (Or.inr (Or.inr rfl))))
          replace hz := hz.rowv hV (qPour f0v 0 ((thT mk 7 (zSv (S j))).map Prod.snd))
          have hkk : (qs (qs h x (.inr (6, [.int mk, .ref sl, .ref bl, .ref kr, .ref vr, .int (oCq (o, a, k).1), .int (nI (m0 + zAm (S j))), .int (nI Ed)]))) vr (.inl (cy 1, 1000, .inr (.inl (qPour f0v 0 ((thT mk 7 (zSv (S j))).map Prod.snd)))))) vr = some (.inl (cy 1, 1000, .inr (.inl (qPour f0v 0 ((thT mk 7 (zSv (S j))).map Prod.snd))))) := qs_self
          refine lv_pop hx hb dX6_turn_94 rfl ?_
          refine lv_goto (tgt := 111) hx hb dX6_turn_95 (by decide) ?_
          refine lv_aload_n hx hb dX6_turn_111 rfl (lv_at hl 2 rfl) ?_
          refine lv_iload_n hx hb dX6_turn_112 rfl (lv_at hl 3 rfl) ?_
          refine lv_aload_n hx hb dX6_turn_113 rfl (lv_at hl 2 rfl) ?_
          refine lv_iload hx hb dX6_turn_114 (lv_at hl 0 rfl) ?_
          refine q_callV (rest := [.int (nI i), .ref x]) C (z_sequenceOfValues l D cy N0 (qs (qs h x (.inr (6, [.int mk, .ref sl, .ref bl, .ref kr, .ref vr, .int (oCq (o, a, k).1), .int (nI (m0 + zAm (S j))), .int (nI Ed)]))) vr (.inl (cy 1, 1000, .inr (.inl (qPour f0v 0 ((thT mk 7 (zSv (S j))).map Prod.snd)))))) x sl bl kr vr mk (oCq (oMv o (nI (m0 + zAm (S j))), a, k).1) (oMq (oMv o (nI (m0 + zAm (S j))), a, k).1) (nI Ed) (qPour f0v 0 ((thT mk 7 (zSv (S j))).map Prod.snd)) (zAm (S j)) hz.1.1 hkk (by omega)) kX6_sequenceOfValues g962 g964 rfl gp29 g1 hP hS hz.1.1 (by first | decide | omega) hl.1 rfl (by simp [q_catrf, q_cati, q_catl, q_cata, q_catn]) (by first | decide | omega) dX6_turn_116 (fun q ce E h' H1 locs1 hE => hE.elim) (fun v hh12 H locs hq hP hS => ?_)
          obtain ⟨qh, r8, n7, rfl, hle8, fqh, hb8⟩ := hq
          replace faj := hle8 _ _ faj
          replace zvj := zvj.le hle8
          replace hRj := hRj.le hle8
          replace hf := hf.trs (zFr.le hle8 (qle.dom hle8))
          replace hz := hz.le hV hle8 (qle.dom hle8)
          have zvn : zV cy hh12 Im (zOk Ed eb S) mk g (0, ((thT mk 7 (zSv (S j))).map Prod.snd).map (fun v => (v, 0)), 0, 0) r8 none none none 0 := Or.inl ⟨Or.inl rfl, rfl, rfl, rfl, rfl, n7, by show qBr _ _ _ ((((thT mk 7 (zSv (S j))).map Prod.snd).map (fun v => ((v, 0) : Int64 × Int64))).map (fun p => (0, p.1))); rw [List.map_map]; have := qRl_eq (f := (qPour f0v 0 ((thT mk 7 (zSv (S j))).map Prod.snd))) (L := ((thT mk 7 (zSv (S j))).map Prod.snd)) (lo := 0) (fun q hq => by rw [Nat.zero_add]; unfold qPour; rw [if_pos ⟨Nat.zero_le _, by omega⟩, Nat.sub_zero]); rw [hKl, ← ham] at this; rw [this] at hb8; exact hb8⟩
          have hzp := hz.put hV hi (s := (0, ((thT mk 7 (zSv (S j))).map Prod.snd).map (fun v => (v, 0)), 0, 0)) (show ¬ ((0 : Int32) = -1) by decide) ⟨r8, none, none, none, 0, fqh, zvn⟩
          have hfp : zFr h (qs hh12 sl (.inl (cy 3, 24, .inr (.inr (.inr (.inr (va_up fs i (some qh)))))))) x sl kr vr bd br Xb := hf.trs (zFr.set hz.2.1.1 (Or.inr (Or.inl rfl)))
          have hkd : qHd hh12 qh 0 r8 none none none 0 (nI (zAm (0, ((thT mk 7 (zSv (S j))).map Prod.snd).map (fun v => (v, 0)), 0, 0))) := zHd.hd (s := (0, ((thT mk 7 (zSv (S j))).map Prod.snd).map (fun v => (v, 0)), 0, 0)) fqh zvn
          refine q_callV (rest := []) C (c_X6_keep l D cy N0 hh12 x sl bl kr vr mk (oCq (oMv o (nI (m0 + zAm (S j))), a, k).1) (oMq (oMv o (nI (m0 + zAm (S j))), a, k).1) (nI Ed) fs i qh 0 r8 none none none 0 (nI (zAm (0, ((thT mk 7 (zSv (S j))).map Prod.snd).map (fun v => (v, 0)), 0, 0))) hz.1.1 hz.2.1.1 hi hkd) kX6_keep g218 g220 rfl gp1 g1 hP hS hz.1.1 (by first | decide | omega) hl.1 rfl (by decide) (by first | decide | omega) dX6_turn_119 (fun q ce E h' H1 locs1 hE => hE.elim) (fun v hh13 H locs hq hP hS => ?_)
          obtain ⟨rfl, rfl⟩ := hq
          replace faj := (qs_ne (h := hh12) (a := sl) (o := (.inl (cy 3, 24, .inr (.inr (.inr (.inr (va_up fs i (some qh)))))))) (fun z => by rw [z, hz.2.1.1] at faj; cases faj)).trans faj
          refine lv_pop hx hb dX6_turn_122 rfl ?_
          refine q_vret C hP hS ?_ (by omega) dX6_turn_123
          intro S1 rr htok
          have hSS : S1 = S := xTok_no htok (by rw [ecj]; exact hk0)
          rw [hSS]
          have ex : (xs_turn S S rr (o, a, k) (nI i) (nI j)) = (0, qU S i (0, ((thT mk 7 (zSv (S j))).map Prod.snd).map (fun v => (v, 0)), 0, 0), oMv o (nI (m0 + zAm (S j))), a, k) := by unfold xs_turn; rw [if_neg (by rw [ebi, ebj]; decide), ecj, if_neg (by rw [hoj]; decide), eci]; unfold xr_turn; rw [if_neg hk0, show (oMq ((o, a, k) : qWo).1).toNatClampNeg = m0 from by rw [show oMq ((o, a, k) : qWo).1 = nI m0 from hm0]; exact nI_clamp (by omega), if_neg (by omega), show oMq ((o, a, k) : qWo).1 = nI m0 from hm0, nI_add, ham, show ((o, a, k) : qWo).1.2.2.2.2.2.2.1 = o.2.2.2.2.2.2.1 from rfl, hTu]
          exact ⟨by rw [ex], rfl, by rw [ex]; exact hzp.po hfp⟩
      · replace c55 : 1 = 3 := (nI_eq (a := 1) (b := 3) (by omega) (by omega)).mp c55
        exfalso; omega
    · replace c16 : 1 = 0 := (nI_eq (a := 1) (b := 0) (by omega) (by omega)).mp c16
      exfalso; omega
  · have hl9 := hLn j (by omega)
    have hk6 : ¬ (S j).1 = 6 := fun z => absurd (hk9.symm.trans z) (by decide)
    have ham : zAm (S j) = (S j).2.1.length := zAm_n hk6
    rw [hk9] at faj
    have hk0 : ¬ (S j).1 = 0 := fun z => absurd (hk9.symm.trans z) (by decide)
    have hk12 : (S j).1 = 1 ∨ (S j).1 = 2 := Or.inr hk9
    have hRj := (zvj.hash hk12).2.2.2.2
    have hTu : xTuL o.2.2.2.2.2.2.1 (S j).1 (S j).2.1 = ((thT mk 7 (zSv (S j))).map Prod.fst).map (fun v => (v, 0)) := by unfold xTuL; rw [if_neg (fun z => absurd (hk9.symm.trans z) (by decide)), if_pos (show (S j).1 = 2 from hk9), hmk, zSv_T, List.map_map]; rfl
    have hKl : ((thT mk 7 (zSv (S j))).map Prod.fst).length = (S j).2.1.length := by rw [List.length_map, thT_len, zSv_len]
    refine lv_astore_n (lv' := [(3, .ref aj), (0, .ref x), (1, .int (nI i)), (2, .int (nI j))]) hx hb dX6_turn_11 rfl hl (by decide) rfl (fun ls hl => ?_)
    refine lv_aload_n hx hb dX6_turn_12 rfl (lv_at hl 0 rfl) ?_
    refine q_get C hP faj rfl inX2 0 (by decide) g192 rfl dX6_turn_13 ?_
    refine lv_if_ne (tgt := 38) hx hb dX6_turn_16 (by decide) (fun c16 => ?_) (fun c16 => ?_)
    · replace c16 : ¬ 2 = 0 := fun zq => c16 ((nI_eq (a := 2) (b := 0) (by omega) (by omega)).mpr zq)
      refine lv_aload_n hx hb dX6_turn_38 rfl (lv_at hl 0 rfl) ?_
      obtain ⟨t1j, t2j, t3j, f1j, f2j, f3j, etj⟩ := zvj.size
      refine q_callV (rest := []) C (c_X2_amount l D cy N0 h aj (nI 2) dvj t1j t2j t3j x1j x2j x3j x4j faj f1j f2j f3j) kX2_amount g222 g223 rfl g224 g10 hP hS faj (by first | decide | omega) hl.1 rfl (by decide) (by first | decide | omega) dX6_turn_39 (fun q ce E h' H1 locs1 hE => hE.elim) (fun v hh14 H locs hq hP hS => ?_)
      obtain ⟨rfl, rfl⟩ := hq
      rw [← etj]
      refine lv_istore (lv' := [(4, .int (nI (zAm (S j)))), (3, .ref aj), (0, .ref x), (1, .int (nI i)), (2, .int (nI j))]) hx hb dX6_turn_42 hl (by decide) rfl (fun ls hl => ?_)
      refine lv_aload_n hx hb dX6_turn_44 rfl (lv_at hl 2 rfl) ?_
      refine lv_iload hx hb dX6_turn_45 (lv_at hl 0 rfl) ?_
      refine q_callV (rest := []) C (c_X6_takeMoves l D cy N0 h x sl bl kr vr mk (oCq (o, a, k).1) (oMq (o, a, k).1) (nI Ed) fs (nI (zAm (S j))) hz.1.1 hz.2.1.1) kX6_takeMoves g641 g643 rfl gp15 g1 hP hS hz.1.1 (by first | decide | omega) hl.1 rfl (by decide) (by first | decide | omega) dX6_turn_47 (fun q ce E h' H1 locs1 hE hP hS hc1 hc2 hc3 => by obtain ⟨rfl, rfl, hn9⟩ := hE; replace hn9 : ¬ m0 + zAm (S j) ≤ 20000 := fun z => hn9 (by rw [hm0]; exact (zmvs hm9 (by omega)).mpr z); exact q_out C hP hS hc1 hc2 hc3 (by intro S1 rr htok; have ex : (xs_turn S S1 rr (o, a, k) (nI i) (nI j)) = (3, S, o, a, k) := (by unfold xs_turn; rw [if_neg (by rw [ebi, ebj]; decide), ecj, if_neg (by rw [hoj]; decide), eci]; unfold xr_turn; rw [if_neg hk0, show (oMq ((o, a, k) : qWo).1).toNatClampNeg = m0 from by rw [show oMq ((o, a, k) : qWo).1 = nI m0 from hm0]; exact nI_clamp (by omega), if_pos (by omega)]); exact ⟨by rw [ex]; exact .tail _ (.tail _ (.head _)), by rw [ex]; exact hz.po hf⟩) (by omega)) (fun v hh15 H locs hq hP hS => ?_)
      obtain ⟨rfl, rfl, hmv⟩ := hq
      have hmv2 : m0 + zAm (S j) ≤ 20000 := (zmvs hm9 (by omega)).mp (by rw [← hm0]; exact hmv)
      rw [show oMq (o, a, k).1 = nI m0 from hm0, nI_add] at hP
      replace hP : qP D N0 (qs h x (.inr (6, [.int mk, .ref sl, .ref bl, .ref kr, .ref vr, .int (oCq (o, a, k).1), .int (nI (m0 + zAm (S j))), .int (nI Ed)]))) H := hP
      replace faj := (qs_ne (h := h) (a := x) (o := (.inr (6, [.int mk, .ref sl, .ref bl, .ref kr, .ref vr, .int (oCq (o, a, k).1), .int (nI (m0 + zAm (S j))), .int (nI Ed)]))) (fun z => by rw [z, hz.1.1] at faj; simp at faj)).trans faj
      replace zvj := zvj.up (o := .inr (6, [.int mk, .ref sl, .ref bl, .ref kr, .ref vr, .int (oCq (o, a, k).1), .int (nI (m0 + zAm (S j))), .int (nI Ed)])) hz.1.1 (fun b y => (hz.2.2.2.2.2.1 b (Or.inl y)).1)
      replace hRj := hRj.keep (h' := qs h x (.inr (6, [.int mk, .ref sl, .ref bl, .ref kr, .ref vr, .int (oCq (o, a, k).1), .int (nI (m0 + zAm (S j))), .int (nI Ed)]))) (fun b o e y => (qs_ne (hz.2.2.2.2.2.1 b (Or.inl (y.resolve_right id))).1).trans e)
      replace hf := hf.trs (zFr.set (o' := .inr (6, [.int mk, .ref sl, .ref bl, .ref kr, .ref vr, .int (oCq (o, a, k).1), .int (nI (m0 + zAm (S j))), .int (nI Ed)])) hz.1.1 (Or.inl rfl))
      replace hz : zQ cy (qs h x (.inr (6, [.int mk, .ref sl, .ref bl, .ref kr, .ref vr, .int (oCq (o, a, k).1), .int (nI (m0 + zAm (S j))), .int (nI Ed)]))) x mk sl bl kr vr Ed fs bd br eb Im Xb g S (oMv o (nI (m0 + zAm (S j))), a, k) := hz.mv hV
      replace hV := hV.mvs hm0 (M2 := m0 + zAm (S j)) ⟨by omega, by omega⟩ hmv2
      replace hV : qWv Bd (sk + 1) Rn dp (oMv o (nI (m0 + zAm (S j))), a, k) := hV
      refine lv_aload_n hx hb dX6_turn_50 rfl (lv_at hl 1 rfl) ?_
      refine q_get C hP faj rfl inX2 0 (by decide) g192 rfl dX6_turn_51 ?_
      refine lv_iconst (v := nI 3) hx hb dX6_turn_54 (by decide) ?_
      refine lv_icmp_ne (tgt := 74) hx hb dX6_turn_55 (by decide) (fun c55 => ?_) (fun c55 => ?_)
      · replace c55 : ¬ 2 = 3 := fun zq => c55 ((nI_eq (a := 2) (b := 3) (by omega) (by omega)).mpr zq)
        refine lv_aload_n hx hb dX6_turn_74 rfl (lv_at hl 1 rfl) ?_
        refine q_get C hP faj rfl inX2 0 (by decide) g192 rfl dX6_turn_75 ?_
        refine lv_iconst (v := nI 1) hx hb dX6_turn_78 (by decide) ?_
        refine lv_icmp_ne (tgt := 98) hx hb dX6_turn_79 (by decide) (fun c79 => ?_) (fun c79 => ?_)
        · replace c79 : ¬ 2 = 1 := fun zq => c79 ((nI_eq (a := 2) (b := 1) (by omega) (by omega)).mpr zq)
          refine lv_aload_n hx hb dX6_turn_98 rfl (lv_at hl 1 rfl) ?_
          refine q_get C hP faj rfl inX2 2 (by decide) g198 rfl dX6_turn_99 ?_
          refine lv_aload_n hx hb dX6_turn_102 rfl (lv_at hl 2 rfl) ?_
          refine q_get C hP hz.1.1 rfl inX6 4 (by decide) g72 rfl dX6_turn_103 ?_
          refine lv_iconst (v := nI 0) hx hb dX6_turn_106 (by decide) ?_
          obtain ⟨f0v, hf0v⟩ := hz.2.1.2.2.2
          refine q_callSN (host := RX6) (rest := []) C (z_pourKeys l D cy N0 (qs h x (.inr (6, [.int mk, .ref sl, .ref bl, .ref kr, .ref vr, .int (oCq (o, a, k).1), .int (nI (m0 + zAm (S j))), .int (nI Ed)]))) Im 0 (zOk Ed eb S) mk x2j (zSv (S j)) (fun _ => False) vr f0v hRj ⟨fun z => (hz.2.2.2.2.2.1 _ (Or.inl z)).2.2.2.2.1 rfl, id⟩ hf0v (by rw [zSv_len]; omega)) kX3_pourKeys (by decide +kernel) g865 hP hS (by first | decide | omega) hl.1 rfl (by decide) (by first | decide | omega) dX6_turn_107 (fun v hh16 H locs hq hP hS => ?_)
          obtain ⟨rfl, rfl⟩ := hq
          replace hP : qP D N0 (qs (qs h x (.inr (6, [.int mk, .ref sl, .ref bl, .ref kr, .ref vr, .int (oCq (o, a, k).1), .int (nI (m0 + zAm (S j))), .int (nI Ed)]))) vr (.inl (cy 1, 1000, .inr (.inl (qPour f0v 0 ((thT mk 7 (zSv (S j))).map Prod.fst)))))) H := hP
          replace hP : qP D N0 (qs (qs h x (.inr (6, [.int mk, .ref sl, .ref bl, .ref kr, .ref vr, .int (oCq (o, a, k).1), .int (nI (m0 + zAm (S j))), .int (nI Ed)]))) vr (.inl (cy 1, 1000, .inr (.inl (qPour f0v 0 ((thT mk 7 (zSv (S j))).map Prod.fst)))))) H := hP
          replace faj := (qs_ne (h := (qs h x (.inr (6, [.int mk, .ref sl, .ref bl, .ref kr, .ref vr, .int (oCq (o, a, k).1), .int (nI (m0 + zAm (S j))), .int (nI Ed)])))) (a := vr) (o := (.inl (cy 1, 1000, .inr (.inl (qPour f0v 0 ((thT mk 7 (zSv (S j))).map Prod.fst)))))) (fun z => by rw [z, hz.2.1.2.2.2.choose_spec] at faj; simp at faj)).trans faj
          replace zvj := zvj.row (y' := (cy 1, 1000, .inr (.inl (qPour f0v 0 ((thT mk 7 (zSv (S j))).map Prod.fst))))) hz.2.1.2.2.2.choose_spec (fun b y => (hz.2.2.2.2.2.1 b (Or.inl y)).2.2.2.2.1)
          replace hRj := hRj.keep (h' := qs (qs h x (.inr (6, [.int mk, .ref sl, .ref bl, .ref kr, .ref vr, .int (oCq (o, a, k).1), .int (nI (m0 + zAm (S j))), .int (nI Ed)]))) vr (.inl (cy 1, 1000, .inr (.inl (qPour f0v 0 ((thT mk 7 (zSv (S j))).map Prod.fst)))))) (fun b o e y => (qs_ne (hz.2.2.2.2.2.1 b (Or.inl (y.resolve_right id))).2.2.2.2.1).trans e)
          replace hf := hf.trs (zFr.set (o' := .inl (cy 1, 1000, .inr (.inl (qPour f0v 0 ((thT mk 7 (zSv (S j))).map Prod.fst))))) hz.2.1.2.2.2.choose_spec (Or.inr (Or.inr (Or.inr rfl))))
          replace hz := hz.rowv hV (qPour f0v 0 ((thT mk 7 (zSv (S j))).map Prod.fst))
          have hkk : (qs (qs h x (.inr (6, [.int mk, .ref sl, .ref bl, .ref kr, .ref vr, .int (oCq (o, a, k).1), .int (nI (m0 + zAm (S j))), .int (nI Ed)]))) vr (.inl (cy 1, 1000, .inr (.inl (qPour f0v 0 ((thT mk 7 (zSv (S j))).map Prod.fst)))))) vr = some (.inl (cy 1, 1000, .inr (.inl (qPour f0v 0 ((thT mk 7 (zSv (S j))).map Prod.fst))))) := qs_self
          refine lv_pop hx hb dX6_turn_110 rfl ?_
          refine lv_aload_n hx hb dX6_turn_111 rfl (lv_at hl 2 rfl) ?_
          refine lv_iload_n hx hb dX6_turn_112 rfl (lv_at hl 3 rfl) ?_
          refine lv_aload_n hx hb dX6_turn_113 rfl (lv_at hl 2 rfl) ?_
          refine lv_iload hx hb dX6_turn_114 (lv_at hl 0 rfl) ?_
          refine q_callV (rest := [.int (nI i), .ref x]) C (z_sequenceOfValues l D cy N0 (qs (qs h x (.inr (6, [.int mk, .ref sl, .ref bl, .ref kr, .ref vr, .int (oCq (o, a, k).1), .int (nI (m0 + zAm (S j))), .int (nI Ed)]))) vr (.inl (cy 1, 1000, .inr (.inl (qPour f0v 0 ((thT mk 7 (zSv (S j))).map Prod.fst)))))) x sl bl kr vr mk (oCq (oMv o (nI (m0 + zAm (S j))), a, k).1) (oMq (oMv o (nI (m0 + zAm (S j))), a, k).1) (nI Ed) (qPour f0v 0 ((thT mk 7 (zSv (S j))).map Prod.fst)) (zAm (S j)) hz.1.1 hkk (by omega)) kX6_sequenceOfValues g962 g964 rfl gp29 g1 hP hS hz.1.1 (by first | decide | omega) hl.1 rfl (by simp [q_catrf, q_cati, q_catl, q_cata, q_catn]) (by first | decide | omega) dX6_turn_116 (fun q ce E h' H1 locs1 hE => hE.elim) (fun v hh17 H locs hq hP hS => ?_)
          obtain ⟨qh, r8, n7, rfl, hle8, fqh, hb8⟩ := hq
          replace faj := hle8 _ _ faj
          replace zvj := zvj.le hle8
          replace hRj := hRj.le hle8
          replace hf := hf.trs (zFr.le hle8 (qle.dom hle8))
          replace hz := hz.le hV hle8 (qle.dom hle8)
          have zvn : zV cy hh17 Im (zOk Ed eb S) mk g (0, ((thT mk 7 (zSv (S j))).map Prod.fst).map (fun v => (v, 0)), 0, 0) r8 none none none 0 := Or.inl ⟨Or.inl rfl, rfl, rfl, rfl, rfl, n7, by show qBr _ _ _ ((((thT mk 7 (zSv (S j))).map Prod.fst).map (fun v => ((v, 0) : Int64 × Int64))).map (fun p => (0, p.1))); rw [List.map_map]; have := qRl_eq (f := (qPour f0v 0 ((thT mk 7 (zSv (S j))).map Prod.fst))) (L := ((thT mk 7 (zSv (S j))).map Prod.fst)) (lo := 0) (fun q hq => by rw [Nat.zero_add]; unfold qPour; rw [if_pos ⟨Nat.zero_le _, by omega⟩, Nat.sub_zero]); rw [hKl, ← ham] at this; rw [this] at hb8; exact hb8⟩
          have hzp := hz.put hV hi (s := (0, ((thT mk 7 (zSv (S j))).map Prod.fst).map (fun v => (v, 0)), 0, 0)) (show ¬ ((0 : Int32) = -1) by decide) ⟨r8, none, none, none, 0, fqh, zvn⟩
          have hfp : zFr h (qs hh17 sl (.inl (cy 3, 24, .inr (.inr (.inr (.inr (va_up fs i (some qh)))))))) x sl kr vr bd br Xb := hf.trs (zFr.set hz.2.1.1 (Or.inr (Or.inl rfl)))
          have hkd : qHd hh17 qh 0 r8 none none none 0 (nI (zAm (0, ((thT mk 7 (zSv (S j))).map Prod.fst).map (fun v => (v, 0)), 0, 0))) := zHd.hd (s := (0, ((thT mk 7 (zSv (S j))).map Prod.fst).map (fun v => (v, 0)), 0, 0)) fqh zvn
          refine q_callV (rest := []) C (c_X6_keep l D cy N0 hh17 x sl bl kr vr mk (oCq (oMv o (nI (m0 + zAm (S j))), a, k).1) (oMq (oMv o (nI (m0 + zAm (S j))), a, k).1) (nI Ed) fs i qh 0 r8 none none none 0 (nI (zAm (0, ((thT mk 7 (zSv (S j))).map Prod.fst).map (fun v => (v, 0)), 0, 0))) hz.1.1 hz.2.1.1 hi hkd) kX6_keep g218 g220 rfl gp1 g1 hP hS hz.1.1 (by first | decide | omega) hl.1 rfl (by decide) (by first | decide | omega) dX6_turn_119 (fun q ce E h' H1 locs1 hE => hE.elim) (fun v hh18 H locs hq hP hS => ?_)
          obtain ⟨rfl, rfl⟩ := hq
          replace faj := (qs_ne (h := hh17) (a := sl) (o := (.inl (cy 3, 24, .inr (.inr (.inr (.inr (va_up fs i (some qh)))))))) (fun z => by rw [z, hz.2.1.1] at faj; cases faj)).trans faj
          refine lv_pop hx hb dX6_turn_122 rfl ?_
          refine q_vret C hP hS ?_ (by omega) dX6_turn_123
          intro S1 rr htok
          have hSS : S1 = S := xTok_no htok (by rw [ecj]; exact hk0)
          rw [hSS]
          have ex : (xs_turn S S rr (o, a, k) (nI i) (nI j)) = (0, qU S i (0, ((thT mk 7 (zSv (S j))).map Prod.fst).map (fun v => (v, 0)), 0, 0), oMv o (nI (m0 + zAm (S j))), a, k) := by unfold xs_turn; rw [if_neg (by rw [ebi, ebj]; decide), ecj, if_neg (by rw [hoj]; decide), eci]; unfold xr_turn; rw [if_neg hk0, show (oMq ((o, a, k) : qWo).1).toNatClampNeg = m0 from by rw [show oMq ((o, a, k) : qWo).1 = nI m0 from hm0]; exact nI_clamp (by omega), if_neg (by omega), show oMq ((o, a, k) : qWo).1 = nI m0 from hm0, nI_add, ham, show ((o, a, k) : qWo).1.2.2.2.2.2.2.1 = o.2.2.2.2.2.2.1 from rfl, hTu]
          exact ⟨by rw [ex], rfl, by rw [ex]; exact hzp.po hfp⟩
        · replace c79 : 2 = 1 := (nI_eq (a := 2) (b := 1) (by omega) (by omega)).mp c79
          exfalso; omega
      · replace c55 : 2 = 3 := (nI_eq (a := 2) (b := 3) (by omega) (by omega)).mp c55
        exfalso; omega
    · replace c16 : 2 = 0 := (nI_eq (a := 2) (b := 0) (by omega) (by omega)).mp c16
      exfalso; omega
  · have hl9 := hLn j (by omega)
    have hk6 : ¬ (S j).1 = 6 := fun z => absurd (hk9.symm.trans z) (by decide)
    have ham : zAm (S j) = (S j).2.1.length := zAm_n hk6
    rw [hk9] at faj
    have hk0 : ¬ (S j).1 = 0 := fun z => absurd (hk9.symm.trans z) (by decide)
    obtain ⟨rfl, rfl, rfl, rfl, n9, hb9⟩ := zvj.tree hk9
    have hl9 := hLn j (by omega)
    have hn14 : n9 ≤ 14 := hb9.h14 (by omega)
    have hsoj : qSo (S j).2.1 := qSo_of ((hI j (by omega)).1 (Or.inl hk9)) ((hI j (by omega)).2.1 (Or.inr (Or.inr hk9)))
    have hTu : xTuL o.2.2.2.2.2.2.1 (S j).1 (S j).2.1 = ((S j).2.1.map Prod.snd).map (fun v => (v, 0)) := by unfold xTuL; rw [if_pos (show (S j).1 = 3 from hk9), List.map_map]; rfl
    have hKl : ((S j).2.1.map Prod.snd).length = (S j).2.1.length := by rw [List.length_map]
    refine lv_astore_n (lv' := [(3, .ref aj), (0, .ref x), (1, .int (nI i)), (2, .int (nI j))]) hx hb dX6_turn_11 rfl hl (by decide) rfl (fun ls hl => ?_)
    refine lv_aload_n hx hb dX6_turn_12 rfl (lv_at hl 0 rfl) ?_
    refine q_get C hP faj rfl inX2 0 (by decide) g192 rfl dX6_turn_13 ?_
    refine lv_if_ne (tgt := 38) hx hb dX6_turn_16 (by decide) (fun c16 => ?_) (fun c16 => ?_)
    · replace c16 : ¬ 3 = 0 := fun zq => c16 ((nI_eq (a := 3) (b := 0) (by omega) (by omega)).mpr zq)
      refine lv_aload_n hx hb dX6_turn_38 rfl (lv_at hl 0 rfl) ?_
      obtain ⟨t1j, t2j, t3j, f1j, f2j, f3j, etj⟩ := zvj.size
      refine q_callV (rest := []) C (c_X2_amount l D cy N0 h aj (nI 3) 0 t1j t2j t3j x1j none none none faj f1j f2j f3j) kX2_amount g222 g223 rfl g224 g10 hP hS faj (by first | decide | omega) hl.1 rfl (by decide) (by first | decide | omega) dX6_turn_39 (fun q ce E h' H1 locs1 hE => hE.elim) (fun v hh19 H locs hq hP hS => ?_)
      obtain ⟨rfl, rfl⟩ := hq
      rw [← etj]
      refine lv_istore (lv' := [(4, .int (nI (zAm (S j)))), (3, .ref aj), (0, .ref x), (1, .int (nI i)), (2, .int (nI j))]) hx hb dX6_turn_42 hl (by decide) rfl (fun ls hl => ?_)
      refine lv_aload_n hx hb dX6_turn_44 rfl (lv_at hl 2 rfl) ?_
      refine lv_iload hx hb dX6_turn_45 (lv_at hl 0 rfl) ?_
      refine q_callV (rest := []) C (c_X6_takeMoves l D cy N0 h x sl bl kr vr mk (oCq (o, a, k).1) (oMq (o, a, k).1) (nI Ed) fs (nI (zAm (S j))) hz.1.1 hz.2.1.1) kX6_takeMoves g641 g643 rfl gp15 g1 hP hS hz.1.1 (by first | decide | omega) hl.1 rfl (by decide) (by first | decide | omega) dX6_turn_47 (fun q ce E h' H1 locs1 hE hP hS hc1 hc2 hc3 => by obtain ⟨rfl, rfl, hn9⟩ := hE; replace hn9 : ¬ m0 + zAm (S j) ≤ 20000 := fun z => hn9 (by rw [hm0]; exact (zmvs hm9 (by omega)).mpr z); exact q_out C hP hS hc1 hc2 hc3 (by intro S1 rr htok; have ex : (xs_turn S S1 rr (o, a, k) (nI i) (nI j)) = (3, S, o, a, k) := (by unfold xs_turn; rw [if_neg (by rw [ebi, ebj]; decide), ecj, if_neg (by rw [hoj]; decide), eci]; unfold xr_turn; rw [if_neg hk0, show (oMq ((o, a, k) : qWo).1).toNatClampNeg = m0 from by rw [show oMq ((o, a, k) : qWo).1 = nI m0 from hm0]; exact nI_clamp (by omega), if_pos (by omega)]); exact ⟨by rw [ex]; exact .tail _ (.tail _ (.head _)), by rw [ex]; exact hz.po hf⟩) (by omega)) (fun v hh20 H locs hq hP hS => ?_)
      obtain ⟨rfl, rfl, hmv⟩ := hq
      have hmv2 : m0 + zAm (S j) ≤ 20000 := (zmvs hm9 (by omega)).mp (by rw [← hm0]; exact hmv)
      rw [show oMq (o, a, k).1 = nI m0 from hm0, nI_add] at hP
      replace hP : qP D N0 (qs h x (.inr (6, [.int mk, .ref sl, .ref bl, .ref kr, .ref vr, .int (oCq (o, a, k).1), .int (nI (m0 + zAm (S j))), .int (nI Ed)]))) H := hP
      replace faj := (qs_ne (h := h) (a := x) (o := (.inr (6, [.int mk, .ref sl, .ref bl, .ref kr, .ref vr, .int (oCq (o, a, k).1), .int (nI (m0 + zAm (S j))), .int (nI Ed)]))) (fun z => by rw [z, hz.1.1] at faj; simp at faj)).trans faj
      replace zvj := zvj.up (o := .inr (6, [.int mk, .ref sl, .ref bl, .ref kr, .ref vr, .int (oCq (o, a, k).1), .int (nI (m0 + zAm (S j))), .int (nI Ed)])) hz.1.1 (fun b y => (hz.2.2.2.2.2.1 b (Or.inl y)).1)
      replace hb9 := hb9.seto (o := .inr (6, [.int mk, .ref sl, .ref bl, .ref kr, .ref vr, .int (oCq (o, a, k).1), .int (nI (m0 + zAm (S j))), .int (nI Ed)])) hz.1.1 (by decide)
      replace hf := hf.trs (zFr.set (o' := .inr (6, [.int mk, .ref sl, .ref bl, .ref kr, .ref vr, .int (oCq (o, a, k).1), .int (nI (m0 + zAm (S j))), .int (nI Ed)])) hz.1.1 (Or.inl rfl))
      replace hz : zQ cy (qs h x (.inr (6, [.int mk, .ref sl, .ref bl, .ref kr, .ref vr, .int (oCq (o, a, k).1), .int (nI (m0 + zAm (S j))), .int (nI Ed)]))) x mk sl bl kr vr Ed fs bd br eb Im Xb g S (oMv o (nI (m0 + zAm (S j))), a, k) := hz.mv hV
      replace hV := hV.mvs hm0 (M2 := m0 + zAm (S j)) ⟨by omega, by omega⟩ hmv2
      replace hV : qWv Bd (sk + 1) Rn dp (oMv o (nI (m0 + zAm (S j))), a, k) := hV
      refine lv_aload_n hx hb dX6_turn_50 rfl (lv_at hl 1 rfl) ?_
      refine q_get C hP faj rfl inX2 0 (by decide) g192 rfl dX6_turn_51 ?_
      refine lv_iconst (v := nI 3) hx hb dX6_turn_54 (by decide) ?_
      refine lv_icmp_ne (tgt := 74) hx hb dX6_turn_55 (by decide) (fun c55 => ?_) (fun c55 => ?_)
      · replace c55 : ¬ 3 = 3 := fun zq => c55 ((nI_eq (a := 3) (b := 3) (by omega) (by omega)).mpr zq)
        exfalso; omega
      · replace c55 : 3 = 3 := (nI_eq (a := 3) (b := 3) (by omega) (by omega)).mp c55
        refine lv_aload_n hx hb dX6_turn_58 rfl (lv_at hl 1 rfl) ?_
        refine q_get C hP faj rfl inX2 1 (by decide) g195 rfl dX6_turn_59 ?_
        refine lv_aload_n hx hb dX6_turn_62 rfl (lv_at hl 2 rfl) ?_
        refine q_get C hP hz.1.1 rfl inX6 4 (by decide) g72 rfl dX6_turn_63 ?_
        refine lv_iconst (v := nI 0) hx hb dX6_turn_66 (by decide) ?_
        obtain ⟨f0v, hf0v⟩ := hz.2.1.2.2.2
        refine q_callSN (host := RX6) (rest := []) C (c_X0_pourValues l D cy N0 (n9 + 1) (qs h x (.inr (6, [.int mk, .ref sl, .ref bl, .ref kr, .ref vr, .int (oCq (o, a, k).1), .int (nI (m0 + zAm (S j))), .int (nI Ed)]))) x1j n9 (S j).2.1 vr 1000 f0v 0 hb9 hf0v (by omega) (by omega) (by omega)) kX0_pourValues (by decide +kernel) g940 hP hS (by first | decide | omega) hl.1 rfl (by decide) (by first | decide | omega) dX6_turn_67 (fun v hh21 H locs hq hP hS => ?_)
        obtain ⟨rfl, rfl⟩ := hq
        replace hP : qP D N0 (qs (qs h x (.inr (6, [.int mk, .ref sl, .ref bl, .ref kr, .ref vr, .int (oCq (o, a, k).1), .int (nI (m0 + zAm (S j))), .int (nI Ed)]))) vr (.inl (cy 1, 1000, .inr (.inl (qPour f0v 0 ((S j).2.1.map Prod.snd)))))) H := hP
        replace faj := (qs_ne (h := (qs h x (.inr (6, [.int mk, .ref sl, .ref bl, .ref kr, .ref vr, .int (oCq (o, a, k).1), .int (nI (m0 + zAm (S j))), .int (nI Ed)])))) (a := vr) (o := (.inl (cy 1, 1000, .inr (.inl (qPour f0v 0 ((S j).2.1.map Prod.snd)))))) (fun z => by rw [z, hz.2.1.2.2.2.choose_spec] at faj; simp at faj)).trans faj
        replace zvj := zvj.row (y' := (cy 1, 1000, .inr (.inl (qPour f0v 0 ((S j).2.1.map Prod.snd))))) hz.2.1.2.2.2.choose_spec (fun b y => (hz.2.2.2.2.2.1 b (Or.inl y)).2.2.2.2.1)
        replace hb9 := hb9.setl (x' := (cy 1, 1000, .inr (.inl (qPour f0v 0 ((S j).2.1.map Prod.snd))))) hz.2.1.2.2.2.choose_spec
        replace hf := hf.trs (zFr.set (o' := .inl (cy 1, 1000, .inr (.inl (qPour f0v 0 ((S j).2.1.map Prod.snd))))) hz.2.1.2.2.2.choose_spec (Or.inr (Or.inr (Or.inr rfl))))
        replace hz := hz.rowv hV (qPour f0v 0 ((S j).2.1.map Prod.snd))
        have hkk : (qs (qs h x (.inr (6, [.int mk, .ref sl, .ref bl, .ref kr, .ref vr, .int (oCq (o, a, k).1), .int (nI (m0 + zAm (S j))), .int (nI Ed)]))) vr (.inl (cy 1, 1000, .inr (.inl (qPour f0v 0 ((S j).2.1.map Prod.snd)))))) vr = some (.inl (cy 1, 1000, .inr (.inl (qPour f0v 0 ((S j).2.1.map Prod.snd))))) := qs_self
        refine lv_pop hx hb dX6_turn_70 rfl ?_
        refine lv_goto (tgt := 111) hx hb dX6_turn_71 (by decide) ?_
        refine lv_aload_n hx hb dX6_turn_111 rfl (lv_at hl 2 rfl) ?_
        refine lv_iload_n hx hb dX6_turn_112 rfl (lv_at hl 3 rfl) ?_
        refine lv_aload_n hx hb dX6_turn_113 rfl (lv_at hl 2 rfl) ?_
        refine lv_iload hx hb dX6_turn_114 (lv_at hl 0 rfl) ?_
        refine q_callV (rest := [.int (nI i), .ref x]) C (z_sequenceOfValues l D cy N0 (qs (qs h x (.inr (6, [.int mk, .ref sl, .ref bl, .ref kr, .ref vr, .int (oCq (o, a, k).1), .int (nI (m0 + zAm (S j))), .int (nI Ed)]))) vr (.inl (cy 1, 1000, .inr (.inl (qPour f0v 0 ((S j).2.1.map Prod.snd)))))) x sl bl kr vr mk (oCq (oMv o (nI (m0 + zAm (S j))), a, k).1) (oMq (oMv o (nI (m0 + zAm (S j))), a, k).1) (nI Ed) (qPour f0v 0 ((S j).2.1.map Prod.snd)) (zAm (S j)) hz.1.1 hkk (by omega)) kX6_sequenceOfValues g962 g964 rfl gp29 g1 hP hS hz.1.1 (by first | decide | omega) hl.1 rfl (by simp [q_catrf, q_cati, q_catl, q_cata, q_catn]) (by first | decide | omega) dX6_turn_116 (fun q ce E h' H1 locs1 hE => hE.elim) (fun v hh22 H locs hq hP hS => ?_)
        obtain ⟨qh, r8, n7, rfl, hle8, fqh, hb8⟩ := hq
        replace faj := hle8 _ _ faj
        replace zvj := zvj.le hle8
        replace hb9 := hb9.le hle8
        replace hf := hf.trs (zFr.le hle8 (qle.dom hle8))
        replace hz := hz.le hV hle8 (qle.dom hle8)
        have zvn : zV cy hh22 Im (zOk Ed eb S) mk g (0, ((S j).2.1.map Prod.snd).map (fun v => (v, 0)), 0, 0) r8 none none none 0 := Or.inl ⟨Or.inl rfl, rfl, rfl, rfl, rfl, n7, by show qBr _ _ _ ((((S j).2.1.map Prod.snd).map (fun v => ((v, 0) : Int64 × Int64))).map (fun p => (0, p.1))); rw [List.map_map]; have := qRl_eq (f := (qPour f0v 0 ((S j).2.1.map Prod.snd))) (L := ((S j).2.1.map Prod.snd)) (lo := 0) (fun q hq => by rw [Nat.zero_add]; unfold qPour; rw [if_pos ⟨Nat.zero_le _, by omega⟩, Nat.sub_zero]); rw [hKl, ← ham] at this; rw [this] at hb8; exact hb8⟩
        have hzp := hz.put hV hi (s := (0, ((S j).2.1.map Prod.snd).map (fun v => (v, 0)), 0, 0)) (show ¬ ((0 : Int32) = -1) by decide) ⟨r8, none, none, none, 0, fqh, zvn⟩
        have hfp : zFr h (qs hh22 sl (.inl (cy 3, 24, .inr (.inr (.inr (.inr (va_up fs i (some qh)))))))) x sl kr vr bd br Xb := hf.trs (zFr.set hz.2.1.1 (Or.inr (Or.inl rfl)))
        have hkd : qHd hh22 qh 0 r8 none none none 0 (nI (zAm (0, ((S j).2.1.map Prod.snd).map (fun v => (v, 0)), 0, 0))) := zHd.hd (s := (0, ((S j).2.1.map Prod.snd).map (fun v => (v, 0)), 0, 0)) fqh zvn
        refine q_callV (rest := []) C (c_X6_keep l D cy N0 hh22 x sl bl kr vr mk (oCq (oMv o (nI (m0 + zAm (S j))), a, k).1) (oMq (oMv o (nI (m0 + zAm (S j))), a, k).1) (nI Ed) fs i qh 0 r8 none none none 0 (nI (zAm (0, ((S j).2.1.map Prod.snd).map (fun v => (v, 0)), 0, 0))) hz.1.1 hz.2.1.1 hi hkd) kX6_keep g218 g220 rfl gp1 g1 hP hS hz.1.1 (by first | decide | omega) hl.1 rfl (by decide) (by first | decide | omega) dX6_turn_119 (fun q ce E h' H1 locs1 hE => hE.elim) (fun v hh23 H locs hq hP hS => ?_)
        obtain ⟨rfl, rfl⟩ := hq
        replace faj := (qs_ne (h := hh22) (a := sl) (o := (.inl (cy 3, 24, .inr (.inr (.inr (.inr (va_up fs i (some qh)))))))) (fun z => by rw [z, hz.2.1.1] at faj; cases faj)).trans faj
        refine lv_pop hx hb dX6_turn_122 rfl ?_
        refine q_vret C hP hS ?_ (by omega) dX6_turn_123
        intro S1 rr htok
        have hSS : S1 = S := xTok_no htok (by rw [ecj]; exact hk0)
        rw [hSS]
        have ex : (xs_turn S S rr (o, a, k) (nI i) (nI j)) = (0, qU S i (0, ((S j).2.1.map Prod.snd).map (fun v => (v, 0)), 0, 0), oMv o (nI (m0 + zAm (S j))), a, k) := by unfold xs_turn; rw [if_neg (by rw [ebi, ebj]; decide), ecj, if_neg (by rw [hoj]; decide), eci]; unfold xr_turn; rw [if_neg hk0, show (oMq ((o, a, k) : qWo).1).toNatClampNeg = m0 from by rw [show oMq ((o, a, k) : qWo).1 = nI m0 from hm0]; exact nI_clamp (by omega), if_neg (by omega), show oMq ((o, a, k) : qWo).1 = nI m0 from hm0, nI_add, ham, show ((o, a, k) : qWo).1.2.2.2.2.2.2.1 = o.2.2.2.2.2.2.1 from rfl, hTu]
        exact ⟨by rw [ex], rfl, by rw [ex]; exact hzp.po hfp⟩
    · replace c16 : 3 = 0 := (nI_eq (a := 3) (b := 0) (by omega) (by omega)).mp c16
      exfalso; omega
