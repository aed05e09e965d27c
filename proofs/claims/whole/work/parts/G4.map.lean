theorem qne_cl {h : qH} {a b c : Nat} {y : ClassId × vp_A} {fv : List Value} (ha : h a = some (.inl y)) (hb : h b = some (.inr (c, fv))) : a ≠ b := fun z => by subst z; rw [ha] at hb; cases hb
theorem zQ.obj {cy : Nat → ClassId} {h : qH} {x sl bl kr vr E : Nat} {mk : Int32} {fs : Nat → Option Nat} {bd br eb : Nat → Nat} {Im : Nat → Prop} {Xb : Nat → Nat → Prop} {g : Nat → Nat} {S : Nat → qSlot} {o o' : qYf} {a : qWd} {k : qKd} (q : zQ cy h x mk sl bl kr vr E fs bd br eb Im Xb g S (o, a, k)) (e1 : oCq o' = oCq o) (e2 : oMq o' = oMq o) : zQ cy h x mk sl bl kr vr E fs bd br eb Im Xb g S (o', a, k) := ⟨q.1.obj e1 e2, q.2⟩
theorem zAmap {L : qKV} : List.map Prod.snd (L.map (fun p => ((0 : Int64), p.1))) = L.map Prod.fst := by rw [List.map_map]; rfl
theorem qRl_eq {f : Nat → Int64} : ∀ {L : List Int64} {lo : Nat}, (∀ j, j < L.length → f (lo + j) = L.getD j 0) → qRl f lo L.length = L.map (fun v => (0, v))
  | [], _, _ => rfl
  | v :: L, lo, h => by
    have h0 : f lo = v := h 0 (Nat.zero_lt_succ _)
    have h1 : ∀ j, j < L.length → f (lo + 1 + j) = L.getD j 0 := fun j hj => by
      have := h (j + 1) (Nat.succ_lt_succ hj)
      rw [show lo + (j + 1) = lo + 1 + j by omega] at this
      exact this
    show (0, f lo) :: qRl f (lo + 1) L.length = _
    rw [h0, qRl_eq h1]
    rfl
/-- the first i numbers of K have gone through the function -/
def zMp (w : Nat) (c : Int64) (K : List Int64) (f : Nat → Int64) (i : Nat) : Prop := i ≤ K.length ∧ (∀ j, j < i → ∃ y, xFn w c (K.getD j 0) = some y ∧ f j = y) ∧ ∀ j, i ≤ j → j < K.length → f j = K.getD j 0
theorem zMp.init {w : Nat} {c : Int64} {K : List Int64} {f0 : Nat → Int64} : zMp w c K (qPour f0 0 K) 0 := ⟨Nat.zero_le _, fun j hj => absurd hj (Nat.not_lt_zero _), fun j _ hj => by unfold qPour; rw [if_pos ⟨Nat.zero_le _, by omega⟩, Nat.sub_zero]⟩
theorem zMp.step {w : Nat} {c y : Int64} {K : List Int64} {f : Nat → Int64} {i : Nat} (z : zMp w c K f i) (h : i < K.length) (e : xFn w c (f i) = some y) : zMp w c K (vp_updL f i y) (i + 1) := by
  refine ⟨h, fun j hj => ?_, fun j h1 h2 => ?_⟩
  · unfold vp_updL
    by_cases c1 : j = i
    · subst c1; rw [if_pos rfl]; exact ⟨y, by rw [← z.2.2 j (Nat.le_refl _) h]; exact e, rfl⟩
    · rw [if_neg c1]; exact z.2.1 j (by omega)
  · unfold vp_updL
    rw [if_neg (by omega)]
    exact z.2.2 j (by omega) h2
theorem zMp.bad {w : Nat} {c : Int64} {L : qKV} {f : Nat → Int64} {i : Nat} (z : zMp w c (L.map Prod.fst) f i) (h : i < L.length) (e : xFn w c (f i) = none) : xNo w c L = true := by
  have := z.2.2 i (Nat.le_refl _) (by rw [List.length_map]; exact h)
  rw [this, List.getD_eq_getElem?_getD, List.getElem?_map, List.getElem?_eq_getElem h] at e
  exact List.any_eq_true.mpr ⟨L[i], List.getElem_mem h, Option.isNone_iff_eq_none.mpr e⟩
theorem zMp.fin {w : Nat} {c : Int64} {L : qKV} {f : Nat → Int64} {i : Nat} (z : zMp w c (L.map Prod.fst) f i) (h : i = L.length) : ¬ xNo w c L = true ∧ qRl f 0 L.length = (xMpL w c L).map (fun p => (0, p.1)) := by
  have hd : ∀ j (hj : j < L.length), (L.map Prod.fst).getD j 0 = L[j].1 := fun j hj => by rw [List.getD_eq_getElem?_getD, List.getElem?_map, List.getElem?_eq_getElem hj]; rfl
  refine ⟨fun y => ?_, ?_⟩
  · obtain ⟨p, hp, e⟩ := List.any_eq_true.mp y
    obtain ⟨j, hj, rfl⟩ := List.mem_iff_getElem.mp hp
    obtain ⟨v, e1, -⟩ := z.2.1 j (by omega)
    rw [hd j hj] at e1
    rw [Option.isNone_iff_eq_none.mp e] at e1
    cases e1
  · have := qRl_eq (f := f) (L := (xMpL w c L).map Prod.fst) (lo := 0) (fun j hj => by
      unfold xMpL at hj ⊢
      rw [List.length_map, List.length_map] at hj
      obtain ⟨v, e1, e2⟩ := z.2.1 j (by omega)
      rw [hd j hj] at e1
      rw [Nat.zero_add, e2, List.getD_eq_getElem?_getD, List.getElem?_map, List.getElem?_map, List.getElem?_eq_getElem hj]
      show v = (xFn w c L[j].1).getD 0
      rw [e1]; rfl)
    have hl : ((xMpL w c L).map Prod.fst).length = L.length := by unfold xMpL; rw [List.length_map, List.length_map]
    rw [hl, List.map_map] at this
    exact this
theorem dX6_map_21 : decode cX6_map 21 = .ok (.astore 6, 2) := by decide +kernel
theorem dX6_map_23 : decode cX6_map 23 = .ok (.aload 6, 2) := by decide +kernel
theorem dX6_map_25 : decode cX6_map 25 = .ok (.getfield 63, 3) := by decide +kernel
theorem dX6_map_28 : decode cX6_map 28 = .ok (.bipush 6, 2) := by decide +kernel
theorem dX6_map_30 : decode cX6_map 30 = .ok (.if_icmp .ne 37, 3) := by decide +kernel
theorem dX6_map_33 : decode cX6_map 33 = .ok (.aload_n 0, 1) := by decide +kernel
theorem dX6_map_34 : decode cX6_map 34 = .ok (.aload 6, 2) := by decide +kernel
theorem dX6_map_36 : decode cX6_map 36 = .ok (.getfield 115, 3) := by decide +kernel
theorem dX6_map_39 : decode cX6_map 39 = .ok (.iload_n 3, 1) := by decide +kernel
theorem dX6_map_40 : decode cX6_map 40 = .ok (.lload 4, 2) := by decide +kernel
theorem dX6_map_42 : decode cX6_map 42 = .ok (.invokevirtual 269, 3) := by decide +kernel
theorem dX6_map_45 : decode cX6_map 45 = .ok (.astore 7, 2) := by decide +kernel
theorem dX6_map_47 : decode cX6_map 47 = .ok (.aload_n 0, 1) := by decide +kernel
theorem dX6_map_48 : decode cX6_map 48 = .ok (.iload_n 1, 1) := by decide +kernel
theorem dX6_map_49 : decode cX6_map 49 = .ok (.aload 7, 2) := by decide +kernel
theorem dX6_map_51 : decode cX6_map 51 = .ok (.aload 6, 2) := by decide +kernel
theorem dX6_map_53 : decode cX6_map 53 = .ok (.getfield 125, 3) := by decide +kernel
theorem dX6_map_56 : decode cX6_map 56 = .ok (.invokestatic 273, 3) := by decide +kernel
theorem dX6_map_59 : decode cX6_map 59 = .ok (.invokestatic 128, 3) := by decide +kernel
theorem dX6_map_62 : decode cX6_map 62 = .ok (.invokevirtual 51, 3) := by decide +kernel
theorem dX6_map_65 : decode cX6_map 65 = .ok (.pop, 1) := by decide +kernel
theorem dX6_map_66 : decode cX6_map 66 = .ok (.return_, 1) := by decide +kernel
theorem dX6_map_67 : decode cX6_map 67 = .ok (.aload 6, 2) := by decide +kernel
theorem dX6_map_69 : decode cX6_map 69 = .ok (.invokevirtual 59, 3) := by decide +kernel
theorem dX6_map_72 : decode cX6_map 72 = .ok (.istore 7, 2) := by decide +kernel
theorem dX6_map_74 : decode cX6_map 74 = .ok (.aload 6, 2) := by decide +kernel
theorem dX6_map_76 : decode cX6_map 76 = .ok (.getfield 101, 3) := by decide +kernel
theorem dX6_map_79 : decode cX6_map 79 = .ok (.aload_n 0, 1) := by decide +kernel
theorem dX6_map_80 : decode cX6_map 80 = .ok (.getfield 25, 3) := by decide +kernel
theorem dX6_map_83 : decode cX6_map 83 = .ok (.iconst 0, 1) := by decide +kernel
theorem dX6_map_84 : decode cX6_map 84 = .ok (.invokestatic 277, 3) := by decide +kernel
theorem dX6_map_87 : decode cX6_map 87 = .ok (.pop, 1) := by decide +kernel
theorem dX6_map_88 : decode cX6_map 88 = .ok (.iconst 0, 1) := by decide +kernel
theorem dX6_map_89 : decode cX6_map 89 = .ok (.istore 8, 2) := by decide +kernel
theorem dX6_map_91 : decode cX6_map 91 = .ok (.iload 8, 2) := by decide +kernel
theorem dX6_map_93 : decode cX6_map 93 = .ok (.iload 7, 2) := by decide +kernel
theorem dX6_map_95 : decode cX6_map 95 = .ok (.if_icmp .ge 29, 3) := by decide +kernel
theorem dX6_map_98 : decode cX6_map 98 = .ok (.aload_n 0, 1) := by decide +kernel
theorem dX6_map_99 : decode cX6_map 99 = .ok (.getfield 25, 3) := by decide +kernel
theorem dX6_map_102 : decode cX6_map 102 = .ok (.iload 8, 2) := by decide +kernel
theorem dX6_map_104 : decode cX6_map 104 = .ok (.iload_n 3, 1) := by decide +kernel
theorem dX6_map_105 : decode cX6_map 105 = .ok (.aload_n 0, 1) := by decide +kernel
theorem dX6_map_106 : decode cX6_map 106 = .ok (.getfield 25, 3) := by decide +kernel
theorem dX6_map_109 : decode cX6_map 109 = .ok (.iload 8, 2) := by decide +kernel
theorem dX6_map_111 : decode cX6_map 111 = .ok (.laload, 1) := by decide +kernel
theorem dX6_map_112 : decode cX6_map 112 = .ok (.lload 4, 2) := by decide +kernel
theorem dX6_map_114 : decode cX6_map 114 = .ok (.invokestatic 281, 3) := by decide +kernel
theorem dX6_map_117 : decode cX6_map 117 = .ok (.lastore, 1) := by decide +kernel
theorem dX6_map_118 : decode cX6_map 118 = .ok (.iinc 8 1, 3) := by decide +kernel
theorem dX6_map_121 : decode cX6_map 121 = .ok (.goto (-30), 3) := by decide +kernel
theorem dX6_map_124 : decode cX6_map 124 = .ok (.aload_n 0, 1) := by decide +kernel
theorem dX6_map_125 : decode cX6_map 125 = .ok (.iload 7, 2) := by decide +kernel
theorem dX6_map_127 : decode cX6_map 127 = .ok (.invokevirtual 218, 3) := by decide +kernel
theorem dX6_map_130 : decode cX6_map 130 = .ok (.aload_n 0, 1) := by decide +kernel
theorem dX6_map_131 : decode cX6_map 131 = .ok (.iload_n 1, 1) := by decide +kernel
theorem dX6_map_132 : decode cX6_map 132 = .ok (.aload 6, 2) := by decide +kernel
theorem dX6_map_134 : decode cX6_map 134 = .ok (.getfield 63, 3) := by decide +kernel
theorem dX6_map_137 : decode cX6_map 137 = .ok (.aload_n 0, 1) := by decide +kernel
theorem dX6_map_138 : decode cX6_map 138 = .ok (.getfield 25, 3) := by decide +kernel
theorem dX6_map_141 : decode cX6_map 141 = .ok (.iconst 0, 1) := by decide +kernel
theorem dX6_map_142 : decode cX6_map 142 = .ok (.iload 7, 2) := by decide +kernel
theorem dX6_map_144 : decode cX6_map 144 = .ok (.invokestatic 285, 3) := by decide +kernel
theorem dX6_map_147 : decode cX6_map 147 = .ok (.invokestatic 111, 3) := by decide +kernel
theorem dX6_map_150 : decode cX6_map 150 = .ok (.invokevirtual 51, 3) := by decide +kernel
theorem dX6_map_153 : decode cX6_map 153 = .ok (.pop, 1) := by decide +kernel
theorem dX6_map_154 : decode cX6_map 154 = .ok (.return_, 1) := by decide +kernel
set_option maxRecDepth 100000 in
set_option maxHeartbeats 4000000 in
theorem z_map (l : Launch) (D : va_G) (cy : Nat → ClassId) (N0 : Nat) (h : qH) (x : Nat) (mk : Int32) (sl bl kr vr Ed : Nat) (fs : Nat → Option Nat) (bd br eb : Nat → Nat) (Im : Nat → Prop) (Xb : Nat → Nat → Prop) (g : Nat → Nat) (S : Nat → qSlot) (W : qWo) (Bd sk Rn : Nat) (dp : Nat → Nat) (dc : Nat) (p0 p1 p2 : Int32) (p3 : Int64) (hz : zQ cy h x mk sl bl kr vr Ed fs bd br eb Im Xb g S W) (hI : ∀ i, i < 28 → qOk (S i).1 (S i).2.1) (hLn : ∀ i, i < 28 → (S i).2.1.length ≤ 1000) (hV : qWv Bd (sk + 1) Rn dp W) (hSt : ∀ i, i < 24 → (S i).1 = 6 → (S i).2.2.1 < W.2.1.1 ∧ dp (S i).2.2.1 ≤ dc) (hDp : ∀ i, i < 24 → (S i).2.2.2 ≤ 100) : qC l D cy N0 yX6_map cX6_map 9 none 1020 23300 (1100 + ((xs_map S W p0 p1 p2 p3).2.2.2.1.1 - W.2.1.1)) (6400 + 10 * ((xs_map S W p0 p1 p2 p3).2.2.2.1.1 - W.2.1.1)) [.ref x, .int p0, .int p1, .int p2, .long p3] h (fun v h' => (xs_map S W p0 p1 p2 p3).1 = 0 ∧ v = none ∧ zPo cy h x mk sl bl kr vr Ed bd br Im Xb ((xs_map S W p0 p1 p2 p3).2.1) ((xs_map S W p0 p1 p2 p3).2.2) h') (fun E h' => zXc [(1, "java/lang/IllegalArgumentException"), (2, "java/lang/IllegalStateException"), (3, "java/lang/ArithmeticException"), (4, "java/lang/IndexOutOfBoundsException")] E (xs_map S W p0 p1 p2 p3).1 ∧ zPo cy h x mk sl bl kr vr Ed bd br Im Xb S ((xs_map S W p0 p1 p2 p3).2.2) h') := by
  refine q_ofW (by decide) (by exact Nat.le_of_ble_eq_true rfl) ?_
  intro p e s m below meth c ls C hP hl
  have hx := C.1
  have hb := C.2.1
  have hS : va_S (qA N0) s.heap s.heap [] := va_S.rf
  have hl : lv_has ls 9 [(0, .ref x), (1, .int p0), (2, .int p1), (3, .int p2), (4, .long p3)] := hl
  have hf : zFr h h x sl kr vr bd br Xb := zFr.rf
  obtain ⟨o, a, k⟩ := W
  dsimp only at hSt
  have hp9 : 1 ≤ a.1 ∧ a.1 ≤ a.2.1 := hV.p
  obtain ⟨m0, hm0, hm9, -⟩ := hV.m
  dsimp only at hm0
  refine lv_iload_n hx hb dX6_map_0 rfl (lv_at hl 1 rfl) ?_
  refine q_callS (rest := []) C (c_X6_needSlot l D cy N0 h p0) kX6_needSlot g104 g105 hP hS (by first | decide | omega) hl.1 rfl (by decide) (by first | decide | omega) dX6_map_1 (fun q ce E h' H1 locs1 hE hP hS hc1 hc2 hc3 => by obtain ⟨rfl, rfl, hn9⟩ := hE; have eb9 := bSl_f hn9; exact q_out C hP hS hc1 hc2 hc3 (by have ex : (xs_map S (o, a, k) p0 p1 p2 p3) = (1, S, o, a, k) := (by unfold xs_map; rw [if_pos (Or.inl eb9)]); exact ⟨by rw [ex]; exact .head _, by rw [ex]; exact (hz.obj rfl rfl).po hf⟩) (by omega)) (fun v hh1 H locs hq hP hS => ?_)
  obtain ⟨rfl, rfl, sl9⟩ := hq
  obtain ⟨i, hi, rfl⟩ := sl9.of
  have ebi : bSl (nI i) = true := bSl_t sl9
  have eci : (nI i).toNatClampNeg = i := nI_clamp (by omega)
  refine lv_iload_n hx hb dX6_map_4 rfl (lv_at hl 2 rfl) ?_
  refine q_callS (rest := []) C (c_X6_needSlot l D cy N0 h p1) kX6_needSlot g104 g105 hP hS (by first | decide | omega) hl.1 rfl (by decide) (by first | decide | omega) dX6_map_5 (fun q ce E h' H1 locs1 hE hP hS hc1 hc2 hc3 => by obtain ⟨rfl, rfl, hn9⟩ := hE; have eb9 := bSl_f hn9; exact q_out C hP hS hc1 hc2 hc3 (by have ex : (xs_map S (o, a, k) (nI i) p1 p2 p3) = (1, S, o, a, k) := (by unfold xs_map; rw [if_pos (Or.inr (Or.inl eb9))]); exact ⟨by rw [ex]; exact .head _, by rw [ex]; exact (hz.obj rfl rfl).po hf⟩) (by omega)) (fun v hh2 H locs hq hP hS => ?_)
  obtain ⟨rfl, rfl, sl9⟩ := hq
  obtain ⟨j, hj, rfl⟩ := sl9.of
  have ebj : bSl (nI j) = true := bSl_t sl9
  have ecj : (nI j).toNatClampNeg = j := nI_clamp (by omega)
  refine lv_iload_n hx hb dX6_map_8 rfl (lv_at hl 3 rfl) ?_
  refine lv_bipush (v := nI 6) hx hb dX6_map_9 (by decide) ?_
  refine q_callS (rest := []) C (c_X6_needWithin l D cy N0 h p2 6) kX6_needWithin g107 g108 hP hS (by first | decide | omega) hl.1 rfl (by decide) (by first | decide | omega) dX6_map_11 (fun q ce E h' H1 locs1 hE hP hS hc1 hc2 hc3 => by obtain ⟨rfl, rfl, hn9⟩ := hE; exact q_out C hP hS hc1 hc2 hc3 (by have ex : (xs_map S (o, a, k) (nI i) (nI j) p2 p3) = (1, S, o, a, k) := (by unfold xs_map; rw [if_pos (Or.inr (Or.inr (hn9.elim Or.inl (fun z => zlt6 z))))]); exact ⟨by rw [ex]; exact .head _, by rw [ex]; exact (hz.obj rfl rfl).po hf⟩) (by omega)) (fun v hh3 H locs hq hP hS => ?_)
  obtain ⟨rfl, rfl, gw1, gw2⟩ := hq
  obtain ⟨q8, hq8, rfl⟩ := nI_of2 (M := 6) (n := 6) (by decide) gw1 gw2
  have ecq : (nI q8).toNatClampNeg = q8 := nI_clamp (by omega)
  refine lv_aload_n hx hb dX6_map_14 rfl (lv_at hl 0 rfl) ?_
  refine lv_iload_n hx hb dX6_map_15 rfl (lv_at hl 2 rfl) ?_
  refine lv_bipush (v := nI 65) hx hb dX6_map_16 (by decide) ?_
  refine q_callV (rest := []) C (z_heldIn l D N0 (nI j) 65 hz hI) kX6_heldIn g243 g245 rfl gp2 g1 hP hS hz.1.1 (by first | decide | omega) hl.1 rfl (by decide) (by first | decide | omega) dX6_map_18 (fun q ce E h' H1 locs1 hE hP hS hc1 hc2 hc3 => hE.2.elim (fun y => by obtain ⟨rfl, -⟩ := hE; obtain ⟨rfl, hn9⟩ := y; exact absurd hn9 (by rw [ebj]; decide)) (fun y => by obtain ⟨rfl, -⟩ := hE; obtain ⟨rfl, i8, hi8, e8, ho8⟩ := y; obtain rfl : j = i8 := nI_inj32 (by omega) (by omega) e8; exact q_out C hP hS hc1 hc2 hc3 (by have ex : (xs_map S (o, a, k) (nI i) (nI j) (nI q8) p3) = (2, S, o, a, k) := (by have ebj : bSl (nI j) = true := bSl_t (qSl.nI hi8); have ecj : (nI j).toNatClampNeg = j := nI_clamp (by omega); have hoj := ho8; unfold xs_map; rw [if_neg (by rw [ebi, ebj, ecq]; exact fun z => z.elim (fun z => by cases z) (fun z => z.elim (fun z => by cases z) (fun z => z.elim gw1 (fun z => by omega)))), ecj, if_pos hoj]); exact ⟨by rw [ex]; exact .tail _ (.head _), by rw [ex]; exact (hz.obj rfl rfl).po hf⟩) (by omega))) (fun v hh4 H locs hq hP hS => ?_)
  obtain ⟨rfl, j9, aj, hj9, ej9, hfsj, rfl, hoj, x1j, x2j, x3j, x4j, dvj, faj, zvj⟩ := hq
  obtain rfl : j = j9 := nI_inj32 (by omega) (by omega) ej9
  rcases bHo_65b (hI j (by omega)).2.2 hoj with hk9 | hk9
  · rw [hk9] at faj
    have hk6 : ¬ (S j).1 = 6 := fun z => absurd (hk9.symm.trans z) (by decide)
    obtain ⟨rfl, rfl, rfl, rfl, n9, hb9⟩ := zvj.seq (Or.inl hk9)
    have hlm : ((S j).2.1.map (fun p => ((0 : Int64), p.1))).length = (S j).2.1.length := List.length_map ..
    have hl9 := hLn j (by omega)
    have hn14 : n9 ≤ 14 := hb9.h14 (by omega)
    have ham : zAm (S j) = (S j).2.1.length := zAm_n hk6
    have hKl : ((S j).2.1.map Prod.fst).length = (S j).2.1.length := List.length_map ..
    refine lv_astore (lv' := [(6, .ref aj), (0, .ref x), (1, .int (nI i)), (2, .int (nI j)), (3, .int (nI q8)), (4, .long p3)]) hx hb dX6_map_21 hl (by decide) rfl (fun ls hl => ?_)
    refine lv_aload hx hb dX6_map_23 (lv_at hl 0 rfl) ?_
    refine q_get C hP faj rfl inX2 0 (by decide) g192 rfl dX6_map_25 ?_
    refine lv_bipush (v := nI 6) hx hb dX6_map_28 (by decide) ?_
    refine lv_icmp_ne (tgt := 67) hx hb dX6_map_30 (by decide) (fun c30 => ?_) (fun c30 => ?_)
    · replace c30 : ¬ 0 = 6 := fun zq => c30 ((nI_eq (a := 0) (b := 6) (by omega) (by omega)).mpr zq)
      refine lv_aload hx hb dX6_map_67 (lv_at hl 0 rfl) ?_
      obtain ⟨t1j, t2j, t3j, f1j, f2j, f3j, etj⟩ := zvj.size
      refine q_callV (rest := []) C (c_X2_amount l D cy N0 h aj (nI 0) 0 t1j t2j t3j x1j none none none faj f1j f2j f3j) kX2_amount g222 g223 rfl g224 g10 hP hS faj (by first | decide | omega) hl.1 rfl (by decide) (by first | decide | omega) dX6_map_69 (fun q ce E h' H1 locs1 hE => hE.elim) (fun v hh5 H locs hq hP hS => ?_)
      obtain ⟨rfl, rfl⟩ := hq
      rw [← etj]
      refine lv_istore (lv' := [(7, .int (nI (zAm (S j)))), (6, .ref aj), (0, .ref x), (1, .int (nI i)), (2, .int (nI j)), (3, .int (nI q8)), (4, .long p3)]) hx hb dX6_map_72 hl (by decide) rfl (fun ls hl => ?_)
      refine lv_aload hx hb dX6_map_74 (lv_at hl 1 rfl) ?_
      refine q_get C hP faj rfl inX2 1 (by decide) g195 rfl dX6_map_76 ?_
      refine lv_aload_n hx hb dX6_map_79 rfl (lv_at hl 2 rfl) ?_
      refine q_get C hP hz.1.1 rfl inX6 4 (by decide) g72 rfl dX6_map_80 ?_
      refine lv_iconst (v := nI 0) hx hb dX6_map_83 (by decide) ?_
      obtain ⟨f0v, hf0v⟩ := hz.2.1.2.2.2
      refine q_callSN (host := RX6) (rest := []) C (c_X0_pourValues l D cy N0 (n9 + 1) h x1j n9 ((S j).2.1.map (fun p => ((0 : Int64), p.1))) vr 1000 f0v 0 hb9 hf0v (by omega) (by omega) (by omega)) kX0_pourValues (by decide +kernel) g940 hP hS (by first | decide | omega) hl.1 rfl (by decide) (by first | decide | omega) dX6_map_84 (fun v hh6 H locs hq hP hS => ?_)
      obtain ⟨rfl, rfl⟩ := hq
      rw [zAmap] at hP
      replace hP : qP D N0 (qs h vr (.inl (cy 1, 1000, .inr (.inl (qPour f0v 0 ((S j).2.1.map Prod.fst)))))) H := hP
      refine lv_pop hx hb dX6_map_87 rfl ?_
      refine lv_iconst (v := nI 0) hx hb dX6_map_88 (by decide) ?_
      refine lv_istore (lv' := [(8, .int (nI 0)), (7, .int (nI (zAm (S j)))), (6, .ref aj), (0, .ref x), (1, .int (nI i)), (2, .int (nI j)), (3, .int (nI q8)), (4, .long p3)]) hx hb dX6_map_89 hl (by decide) rfl (fun ls hl => ?_)
      refine (?_ : ∀ (t9 q9 : Nat) (H : Heap) (locs : List Loc) (ls : Array Slot) (f : Nat → Int64) (c1 c2 : Nat), zAm (S j) - q9 < t9 → lv_has ls 9 [(8, .int (nI q9)), (7, .int (nI (zAm (S j)))), (6, .ref aj), (4, .long p3), (3, .int (nI q8)), (1, .int (nI i)), (0, .ref x)] → zMp q8 p3 ((S j).2.1.map Prod.fst) f q9 → qP D N0 (qs h vr (.inl (cy 1, 1000, .inr (.inl f)))) H → va_S (qA N0) s.heap H locs → c1 ≤ 20 ∧ c2 ≤ 120 → W p l e _ s m _ below meth c H locs c1 c2 _ (F0 m 91 ls [])) (zAm (S j) + 1) 0 _ _ ls _ _ _ (by omega) (lv_sub hl [0, 1, 2, 7, 6, 4, 3] rfl) zMp.init hP hS ⟨by omega, by omega⟩
      clear hl hP hS
      intro t9
      induction t9 with
      | zero => intro q9 _ _ _ _ _ _ h; exact absurd h (Nat.not_lt_zero _)
      | succ t9 ihl =>
        intro q9 H locs ls f c1 c2 ht9 hl hcp hP hS hcc
        replace faj := (qs_ne (h := h) (a := vr) (o := (.inl (cy 1, 1000, .inr (.inl f)))) (fun z => by rw [z, hz.2.1.2.2.2.choose_spec] at faj; simp at faj)).trans faj
        replace hb9 := hb9.setl (x' := (cy 1, 1000, .inr (.inl f))) hz.2.1.2.2.2.choose_spec
        replace hf := hf.trs (zFr.set (o' := .inl (cy 1, 1000, .inr (.inl f))) hz.2.1.2.2.2.choose_spec (Or.inr (Or.inr (Or.inr rfl))))
        replace hz := hz.rowv hV f
        have hkk : (qs h vr (.inl (cy 1, 1000, .inr (.inl f)))) vr = some (.inl (cy 1, 1000, .inr (.inl f))) := qs_self
        have hq9 := hcp.1
        rw [hKl] at hq9
        refine lv_iload hx hb dX6_map_91 (lv_at hl 0 rfl) ?_
        refine lv_iload hx hb dX6_map_93 (lv_at hl 1 rfl) ?_
        refine lv_icmp_ge (tgt := 124) hx hb dX6_map_95 (by decide) (fun c95 => ?_) (fun c95 => ?_)
        · replace c95 : (zAm (S j)) ≤ q9 := (nI_leI (a := (zAm (S j))) (b := q9) (by omega) (by omega)).mp c95
          obtain ⟨hno9, hrl⟩ := hcp.fin (by omega)
          refine lv_aload_n hx hb dX6_map_124 rfl (lv_at hl 6 rfl) ?_
          refine lv_iload hx hb dX6_map_125 (lv_at hl 1 rfl) ?_
          refine q_callV (rest := []) C (c_X6_takeMoves l D cy N0 (qs h vr (.inl (cy 1, 1000, .inr (.inl f)))) x sl bl kr vr mk (oCq (o, a, k).1) (oMq (o, a, k).1) (nI Ed) fs (nI (zAm (S j))) hz.1.1 hz.2.1.1) kX6_takeMoves g641 g643 rfl gp15 g1 hP hS hz.1.1 (by first | decide | omega) hl.1 rfl (by decide) (by first | decide | omega) dX6_map_127 (fun q ce E h' H1 locs1 hE hP hS hc1 hc2 hc3 => by obtain ⟨rfl, rfl, hn9⟩ := hE; replace hn9 : ¬ m0 + zAm (S j) ≤ 20000 := fun z => hn9 (by rw [hm0]; exact (zmvs hm9 (by omega)).mpr z); exact q_out C hP hS hc1 hc2 hc3 (by have ex : (xs_map S (o, a, k) (nI i) (nI j) (nI q8) p3) = (4, S, oFa o 0, a, k) := (by unfold xs_map; rw [if_neg (by rw [ebi, ebj, ecq]; exact fun z => z.elim (fun z => by cases z) (fun z => z.elim (fun z => by cases z) (fun z => z.elim gw1 (fun z => by omega)))), ecj, if_neg (by rw [hoj]; decide), eci, ecq]; unfold xr_map; rw [if_neg hk6, if_neg hno9, show (oMq ((o, a, k) : qWo).1).toNatClampNeg = m0 from by rw [show oMq ((o, a, k) : qWo).1 = nI m0 from hm0]; exact nI_clamp (by omega), if_pos (by omega)]); exact ⟨by rw [ex]; exact .tail _ (.tail _ (.tail _ (.head _))), by rw [ex]; exact (hz.obj rfl rfl).po hf⟩) (by omega)) (fun v hh7 H locs hq hP hS => ?_)
          obtain ⟨rfl, rfl, hmv⟩ := hq
          have hmv2 : m0 + zAm (S j) ≤ 20000 := (zmvs hm9 (by omega)).mp (by rw [← hm0]; exact hmv)
          rw [show oMq (o, a, k).1 = nI m0 from hm0, nI_add] at hP
          replace hP : qP D N0 (qs (qs h vr (.inl (cy 1, 1000, .inr (.inl f)))) x (.inr (6, [.int mk, .ref sl, .ref bl, .ref kr, .ref vr, .int (oCq (o, a, k).1), .int (nI (m0 + zAm (S j))), .int (nI Ed)]))) H := hP
          replace faj := (qs_ne (h := (qs h vr (.inl (cy 1, 1000, .inr (.inl f))))) (a := x) (o := (.inr (6, [.int mk, .ref sl, .ref bl, .ref kr, .ref vr, .int (oCq (o, a, k).1), .int (nI (m0 + zAm (S j))), .int (nI Ed)]))) (fun z => by rw [z, hz.1.1] at faj; simp at faj)).trans faj
          replace hkk := (qs_ne (h := (qs h vr (.inl (cy 1, 1000, .inr (.inl f))))) (a := x) (o := (.inr (6, [.int mk, .ref sl, .ref bl, .ref kr, .ref vr, .int (oCq (o, a, k).1), .int (nI (m0 + zAm (S j))), .int (nI Ed)]))) (qne_cl hkk hz.1.1)).trans hkk
          replace hb9 := hb9.seto (o := .inr (6, [.int mk, .ref sl, .ref bl, .ref kr, .ref vr, .int (oCq (o, a, k).1), .int (nI (m0 + zAm (S j))), .int (nI Ed)])) hz.1.1 (by decide)
          replace hf := hf.trs (zFr.set (o' := .inr (6, [.int mk, .ref sl, .ref bl, .ref kr, .ref vr, .int (oCq (o, a, k).1), .int (nI (m0 + zAm (S j))), .int (nI Ed)])) hz.1.1 (Or.inl rfl))
          replace hz : zQ cy (qs (qs h vr (.inl (cy 1, 1000, .inr (.inl f)))) x (.inr (6, [.int mk, .ref sl, .ref bl, .ref kr, .ref vr, .int (oCq (o, a, k).1), .int (nI (m0 + zAm (S j))), .int (nI Ed)]))) x mk sl bl kr vr Ed fs bd br eb Im Xb g S (oMv o (nI (m0 + zAm (S j))), a, k) := hz.mv hV
          replace hV := hV.mvs hm0 (M2 := m0 + zAm (S j)) ⟨by omega, by omega⟩ hmv2
          replace hV : qWv Bd (sk + 1) Rn dp (oMv o (nI (m0 + zAm (S j))), a, k) := hV
          refine lv_aload_n hx hb dX6_map_130 rfl (lv_at hl 6 rfl) ?_
          refine lv_iload_n hx hb dX6_map_131 rfl (lv_at hl 5 rfl) ?_
          refine lv_aload hx hb dX6_map_132 (lv_at hl 2 rfl) ?_
          refine q_get C hP faj rfl inX2 0 (by decide) g192 rfl dX6_map_134 ?_
          refine lv_aload_n hx hb dX6_map_137 rfl (lv_at hl 6 rfl) ?_
          refine q_get C hP hz.1.1 rfl inX6 4 (by decide) g72 rfl dX6_map_138 ?_
          refine lv_iconst (v := nI 0) hx hb dX6_map_141 (by decide) ?_
          refine lv_iload hx hb dX6_map_142 (lv_at hl 1 rfl) ?_
          refine q_callSN (host := RX6) (rest := [.int (nI 0), .int (nI i), .ref x]) C (c_X0_ofRow l D cy N0 1001 (qs (qs h vr (.inl (cy 1, 1000, .inr (.inl f)))) x (.inr (6, [.int mk, .ref sl, .ref bl, .ref kr, .ref vr, .int (oCq (o, a, k).1), .int (nI (m0 + zAm (S j))), .int (nI Ed)]))) vr 1000 f 0 (zAm (S j)) 1000 hkk (by omega) (by omega) (by omega) (by omega) (by omega)) kX0_ofRow (by decide +kernel) g944 hP hS (by first | decide | omega) hl.1 rfl (by simp [q_catrf, q_cati, q_catl, q_cata, q_catn]) (by first | decide | omega) dX6_map_144 (fun v hh8 H locs hq hP hS => ?_)
          obtain ⟨r8, n8, rfl, hle8, hb8, -⟩ := hq
          replace faj := hle8 _ _ faj
          replace hb9 := hb9.le hle8
          replace hf := hf.trs (zFr.le hle8 (qle.dom hle8))
          replace hz := hz.le hV hle8 (qle.dom hle8)
          refine q_callS (rest := [.int (nI i), .ref x]) C (c_X2_ofTree l D cy N0 hh8 (nI 0) r8) kX2_ofTree g516 g517 hP hS (by first | decide | omega) hl.1 rfl (by simp [q_catrf, q_cati, q_catl, q_cata, q_catn]) (by first | decide | omega) dX6_map_147 (fun q ce E h' H1 locs1 hE => hE.elim) (fun v hh9 H locs hq hP hS => ?_)
          obtain ⟨qh, rfl, oqh, rfl⟩ := hq
          replace hP : qP D N0 (qs hh8 qh (.inr (2, [.int (nI 0), va_rf r8, .null, .null, .null, .int 0]))) H := hP
          have hleh : qle hh8 (qs hh8 qh (.inr (2, [.int (nI 0), va_rf r8, .null, .null, .null, .int 0]))) := qle_new oqh
          replace faj := hleh _ _ faj
          replace hb9 := hb9.le hleh
          replace hb8 := hb8.le hleh
          replace hf := hf.trs (zFr.le hleh (qle.dom hleh))
          replace hz := hz.le hV hleh (qle.dom hleh)
          have fqh : (qs hh8 qh (.inr (2, [.int (nI 0), va_rf r8, .null, .null, .null, .int 0]))) qh = some (.inr (2, [.int (nI 0), va_rf r8, .null, .null, .null, .int 0])) := qs_self
          replace fqh : (qs hh8 qh (.inr (2, [.int (nI 0), va_rf r8, .null, .null, .null, .int 0]))) qh = some (.inr (2, [.int (S j).1, va_rf r8, .null, .null, .null, .int 0])) := by rw [hk9]; exact fqh
          have zvn : zV cy (qs hh8 qh (.inr (2, [.int (nI 0), va_rf r8, .null, .null, .null, .int 0]))) Im (zOk Ed eb S) mk g ((S j).1, xMpL q8 p3 (S j).2.1, (S j).2.2) r8 none none none 0 := Or.inl ⟨Or.inl hk9, rfl, rfl, rfl, rfl, n8, by show qBr _ _ _ ((xMpL q8 p3 (S j).2.1).map _); rw [← hrl, ← ham]; exact hb8⟩
          have hzp := hz.put hV hi (s := ((S j).1, xMpL q8 p3 (S j).2.1, (S j).2.2)) (show ¬ ((S j).1 = -1) from fun z => absurd (hk9.symm.trans z) (by decide)) ⟨r8, none, none, none, 0, fqh, zvn⟩
          have hfp : zFr h (qs (qs hh8 qh (.inr (2, [.int (nI 0), va_rf r8, .null, .null, .null, .int 0]))) sl (.inl (cy 3, 24, .inr (.inr (.inr (.inr (va_up fs i (some qh)))))))) x sl kr vr bd br Xb := hf.trs (zFr.set hz.2.1.1 (Or.inr (Or.inl rfl)))
          have hkd : qHd (qs hh8 qh (.inr (2, [.int (nI 0), va_rf r8, .null, .null, .null, .int 0]))) qh ((S j).1) r8 none none none 0 (nI (zAm ((S j).1, xMpL q8 p3 (S j).2.1, (S j).2.2))) := zHd.hd (s := ((S j).1, xMpL q8 p3 (S j).2.1, (S j).2.2)) fqh zvn
          refine q_callV (rest := []) C (c_X6_keep l D cy N0 (qs hh8 qh (.inr (2, [.int (nI 0), va_rf r8, .null, .null, .null, .int 0]))) x sl bl kr vr mk (oCq (oMv o (nI (m0 + zAm (S j))), a, k).1) (oMq (oMv o (nI (m0 + zAm (S j))), a, k).1) (nI Ed) fs i qh ((S j).1) r8 none none none 0 (nI (zAm ((S j).1, xMpL q8 p3 (S j).2.1, (S j).2.2))) hz.1.1 hz.2.1.1 hi hkd) kX6_keep g218 g220 rfl gp1 g1 hP hS hz.1.1 (by first | decide | omega) hl.1 rfl (by decide) (by first | decide | omega) dX6_map_150 (fun q ce E h' H1 locs1 hE => hE.elim) (fun v hh10 H locs hq hP hS => ?_)
          obtain ⟨rfl, rfl⟩ := hq
          replace faj := (qs_ne (h := (qs hh8 qh (.inr (2, [.int (nI 0), va_rf r8, .null, .null, .null, .int 0])))) (a := sl) (o := (.inl (cy 3, 24, .inr (.inr (.inr (.inr (va_up fs i (some qh)))))))) (fun z => by rw [z, hz.2.1.1] at faj; cases faj)).trans faj
          refine lv_pop hx hb dX6_map_153 rfl ?_
          have ex : (xs_map S (o, a, k) (nI i) (nI j) (nI q8) p3) = (0, qU S i ((S j).1, xMpL q8 p3 (S j).2.1, (S j).2.2), oMv (oFa o 0) (nI (m0 + zAm (S j))), a, k) := by unfold xs_map; rw [if_neg (by rw [ebi, ebj, ecq]; exact fun z => z.elim (fun z => by cases z) (fun z => z.elim (fun z => by cases z) (fun z => z.elim gw1 (fun z => by omega)))), ecj, if_neg (by rw [hoj]; decide), eci, ecq]; unfold xr_map; rw [if_neg hk6, if_neg hno9, show (oMq ((o, a, k) : qWo).1).toNatClampNeg = m0 from by rw [show oMq ((o, a, k) : qWo).1 = nI m0 from hm0]; exact nI_clamp (by omega), if_neg (by omega), show oMq ((o, a, k) : qWo).1 = nI m0 from hm0, nI_add, ham]
          exact q_vret C hP hS ⟨by rw [ex], rfl, by rw [ex]; exact (hzp.obj (o' := oMv (oFa o 0) (nI (m0 + zAm (S j)))) rfl rfl).po hfp⟩ (by omega) dX6_map_154
        · replace c95 : ¬ (zAm (S j)) ≤ q9 := fun zq => c95 ((nI_leI (a := (zAm (S j))) (b := q9) (by omega) (by omega)).mpr zq)
          refine lv_aload_n hx hb dX6_map_98 rfl (lv_at hl 6 rfl) ?_
          refine q_get C hP hz.1.1 rfl inX6 4 (by decide) g72 rfl dX6_map_99 ?_
          refine lv_iload hx hb dX6_map_102 (lv_at hl 0 rfl) ?_
          refine lv_iload_n hx hb dX6_map_104 rfl (lv_at hl 4 rfl) ?_
          refine lv_aload_n hx hb dX6_map_105 rfl (lv_at hl 6 rfl) ?_
          refine q_get C hP hz.1.1 rfl inX6 4 (by decide) g72 rfl dX6_map_106 ?_
          refine lv_iload hx hb dX6_map_109 (lv_at hl 0 rfl) ?_
          refine q_laldN C hP hkk (by omega) (by omega) dX6_map_111 ?_
          refine lv_lload hx hb dX6_map_112 (lv_at hl 3 rfl) ?_
          have e1 : (if xFn q8 p3 (f q9) = none then 1 else 0) ≤ 1 ∧ (if xFn q8 p3 (f q9) = none then 6 else 0) ≤ 6 := ⟨by split <;> omega, by split <;> omega⟩
          refine q_callS (rest := [.int (nI q9), .ref vr]) C (d_X6_applied l D cy N0 (qs h vr (.inl (cy 1, 1000, .inr (.inl f)))) q8 (f q9) p3 hq8) kX6_applied g650 g651 hP hS (by first | decide | omega) hl.1 rfl (by simp [q_catrf, q_cati, q_catl, q_cata, q_catn]) (by first | decide | omega) dX6_map_114 (fun q ce E h' H1 locs1 hE hP hS hc1 hc2 hc3 => by obtain ⟨rfl, rfl, hn9⟩ := hE; have hno9 := hcp.bad (by omega) hn9; exact q_out C hP hS hc1 hc2 hc3 (by have ex : (xs_map S (o, a, k) (nI i) (nI j) (nI q8) p3) = (3, S, oFa o 1, a, k) := (by unfold xs_map; rw [if_neg (by rw [ebi, ebj, ecq]; exact fun z => z.elim (fun z => by cases z) (fun z => z.elim (fun z => by cases z) (fun z => z.elim gw1 (fun z => by omega)))), ecj, if_neg (by rw [hoj]; decide), eci, ecq]; unfold xr_map; rw [if_neg hk6, if_pos hno9]); exact ⟨by rw [ex]; exact .tail _ (.tail _ (.head _)), by rw [ex]; exact (hz.obj rfl rfl).po hf⟩) (by omega)) (fun v hh11 H locs hq hP hS => ?_)
          obtain ⟨y9, ey9, rfl, rfl⟩ := hq
          have e60 : (if xFn q8 p3 (f q9) = none then 1 else 0) = 0 ∧ (if xFn q8 p3 (f q9) = none then 6 else 0) = 0 := ⟨if_neg (by rw [ey9]; exact fun z => by cases z), if_neg (by rw [ey9]; exact fun z => by cases z)⟩
          refine q_lastN C hP hS hkk (by omega) (by omega) dX6_map_117 (fun H locs hP hS => ?_)
          rw [qs_qs] at hP
          refine lv_iinc (v := nI (q9 + 1)) (lv' := [(8, .int (nI (q9 + 1))), (7, .int (nI (zAm (S j)))), (6, .ref aj), (4, .long p3), (3, .int (nI q8)), (1, .int (nI i)), (0, .ref x)]) hx hb dX6_map_118 hl (k := 0) rfl (nI_1 q9) (by decide) rfl (fun ls hl => ?_)
          refine lv_goto (tgt := 91) hx hb dX6_map_121 (by decide) ?_
          exact ihl (q9 + 1) H locs ls _ _ _ (by omega) (lv_sub hl [0, 1, 2, 3, 4, 5, 6] rfl) (hcp.step (by rw [hKl]; omega) ey9) hP hS ⟨by omega, by omega⟩
    · replace c30 : 0 = 6 := (nI_eq (a := 0) (b := 6) (by omega) (by omega)).mp c30
      exfalso; omega
  · rw [hk9] at faj
    obtain ⟨rfl, rfl, rfl, rfl, rfl⟩ := zvj.strm hk9
    have hs8 := hSt j (by omega) hk9
    have hd8 := hDp j (by omega)
    refine lv_astore (lv' := [(6, .ref aj), (0, .ref x), (1, .int (nI i)), (2, .int (nI j)), (3, .int (nI q8)), (4, .long p3)]) hx hb dX6_map_21 hl (by decide) rfl (fun ls hl => ?_)
    refine lv_aload hx hb dX6_map_23 (lv_at hl 0 rfl) ?_
    refine q_get C hP faj rfl inX2 0 (by decide) g192 rfl dX6_map_25 ?_
    refine lv_bipush (v := nI 6) hx hb dX6_map_28 (by decide) ?_
    refine lv_icmp_ne (tgt := 67) hx hb dX6_map_30 (by decide) (fun c30 => ?_) (fun c30 => ?_)
    · replace c30 : ¬ 6 = 6 := fun zq => c30 ((nI_eq (a := 6) (b := 6) (by omega) (by omega)).mpr zq)
      exfalso; omega
    · replace c30 : 6 = 6 := (nI_eq (a := 6) (b := 6) (by omega) (by omega)).mp c30
      refine lv_aload_n hx hb dX6_map_33 rfl (lv_at hl 1 rfl) ?_
      refine lv_aload hx hb dX6_map_34 (lv_at hl 0 rfl) ?_
      refine q_get C hP faj rfl inX2 4 (by decide) g202 rfl dX6_map_36 ?_
      refine lv_iload_n hx hb dX6_map_39 rfl (lv_at hl 4 rfl) ?_
      refine lv_lload hx hb dX6_map_40 (lv_at hl 5 rfl) ?_
      obtain ⟨X9, er9⟩ : ∃ z, xMap (oFa (oCd o 0) 0) a k (S j).2.2.1 q8 p3 = z := ⟨_, rfl⟩
      obtain ⟨s2, o2, a2, k2⟩ := X9
      have hcall := z_mappedFrom l D cy N0 h x mk sl bl kr vr (nI Ed) g (xRs S) (oFa (oCd o 0) 0) a k Bd (sk + 1) Rn dp (S j).2.2.1 q8 p3 _ (hz.1.obj rfl rfl) (hV.obj rfl) rfl hs8.1 hq8 er9
      dsimp only at hcall
      have st9 := xMap_stp (dc := dc + 1) (hV.obj (o' := (oFa (oCd o 0) 0)) rfl) (s := (S j).2.2.1) (n := q8) (c := p3) hq8 ⟨hs8.1, by omega⟩
      try dsimp only at st9
      rw [er9] at st9
      obtain ⟨dp2, d1, w2, d3, d4, d5, -, d7⟩ := st9
      dsimp only at d1 d3 d4 d5 w2
      have eA : (xs_map S (o, a, k) (nI i) (nI j) (nI q8) p3).2.2.2.1.1 = a2.1 := by unfold xs_map; rw [if_neg (by rw [ebi, ebj, ecq]; exact fun z => z.elim (fun z => by cases z) (fun z => z.elim (fun z => by cases z) (fun z => z.elim gw1 (fun z => by omega)))), ecj, if_neg (by rw [hoj]; decide), eci, ecq]; unfold xr_map; rw [if_pos (show (S j).1 = 6 from hk9)]; dsimp only; rw [er9]; split <;> first | rfl | (split <;> rfl)
      have e0 : ((o, a, k) : qWo).2.1.1 = a.1 := rfl
      have e1 : (if oFq o2 = 0 then 0 else 1) ≤ 1 ∧ (if oFq o2 = 0 then 0 else 6) ≤ 6 := ⟨by split <;> omega, by split <;> omega⟩
      refine q_callV (rest := []) C (hcall) kX6_mappedFrom g680 g682 rfl gp17 g1 hP hS hz.1.1 (by first | decide | omega) hl.1 rfl (by decide) (by first | decide | omega) dX6_map_42 (fun q ce E h' H1 locs1 hE hP hS hc1 hc2 hc3 => by obtain ⟨hE1, gw2, ag2, hz2, hH2⟩ := hE; dsimp only at hE1; have ex : (xs_map S (o, a, k) (nI i) (nI j) (nI q8) p3) = ((if oFq o2 = 1 then 3 else 4), S, o2, a2, k2) := (by unfold xs_map; rw [if_neg (by rw [ebi, ebj, ecq]; exact fun z => z.elim (fun z => by cases z) (fun z => z.elim (fun z => by cases z) (fun z => z.elim gw1 (fun z => by omega)))), ecj, if_neg (by rw [hoj]; decide), eci, ecq]; unfold xr_map; rw [if_pos (show (S j).1 = 6 from hk9)]; dsimp only; rw [er9]; exact hE1.elim (fun y => by rw [if_pos y.2, if_pos y.2]) (fun y => absurd (xMap_f (a := a) (k := k) (s := (S j).2.2.1) (n := q8) (c := p3) (o := (oFa (oCd o 0) 0)) rfl) (by rw [er9]; rintro ⟨_, z, e, hz⟩; dsimp only at e; rw [e] at y; rcases hz with rfl | rfl <;> first | exact absurd (show (0 : Int32) = 2 from y.2) (by decide) | exact absurd (show (1 : Int32) = 2 from y.2) (by decide)))); exact q_out C hP hS hc1 hc2 hc3 ⟨by rw [ex]; exact hE1.elim (fun y => by rw [y.1, if_pos y.2]; exact .tail _ (.tail _ (.head _))) (fun y => by rw [y.1, if_neg (fun z => absurd (y.2.symm.trans z) (by decide))]; exact .tail _ (.tail _ (.tail _ (.head _)))), by rw [ex]; exact (hz.str hz2 hH2 ag2 (fun i hi y => (hSt i hi y).1)).po (hf.trs (zH.fr hH2))⟩ (by omega)) (fun v hh12 H locs hq hP hS => ?_)
      obtain ⟨hf2, gw2, ag2, rfl, hz2, hH2⟩ := hq
      dsimp only at hf2
      dsimp only
      have e60 : (if oFq o2 = 0 then 0 else 1) = 0 ∧ (if oFq o2 = 0 then 0 else 6) = 0 := ⟨if_pos hf2, if_pos hf2⟩
      have z5 := d5 hf2
      replace faj := hH2.1 _ _ faj (fun z => by rw [z, hz.1.1] at faj; simp at faj) (fun fv z => by simp at z)
      replace hf := hf.trs (zH.fr hH2)
      replace hz := hz.str hz2 hH2 ag2 (fun i hi y => (hSt i hi y).1)
      have hV0 := hV
      replace hV := w2
      refine q_astore (lv' := [(7, va_rf (zO gw2 s2)), (6, .ref aj), (0, .ref x), (1, .int (nI i)), (2, .int (nI j)), (3, .int (nI q8)), (4, .long p3)]) hx hb dX6_map_45 hl (by decide) rfl (fun ls hl => ?_)
      refine lv_aload_n hx hb dX6_map_47 rfl (lv_at hl 2 rfl) ?_
      refine lv_iload_n hx hb dX6_map_48 rfl (lv_at hl 3 rfl) ?_
      refine q_aload hx hb dX6_map_49 (lv_at hl 0 rfl) ?_
      refine lv_aload hx hb dX6_map_51 (lv_at hl 1 rfl) ?_
      refine q_get C hP faj rfl inX2 5 (by decide) g204 rfl dX6_map_53 ?_
      refine q_callS (rest := [va_rf (zO gw2 s2), .int (nI i), .ref x]) C (c_X6_deeperThan l D cy N0 hh12 (nI ((S j).2.2.2))) kX6_deeperThan g844 g845 hP hS (by first | decide | omega) hl.1 rfl (by simp [q_catrf, q_cati, q_catl, q_cata, q_catn]) (by first | decide | omega) dX6_map_56 (fun q ce E h' H1 locs1 hE hP hS hc1 hc2 hc3 => by obtain ⟨rfl, rfl, hn9⟩ := hE; replace hn9 : ¬ (S j).2.2.2 < 100 := fun z => hn9 ((nI_ltI (a := (S j).2.2.2) (b := 100) (by omega) (by omega)).mpr z); exact q_out C hP hS hc1 hc2 hc3 (by have ex : (xs_map S (o, a, k) (nI i) (nI j) (nI q8) p3) = (4, S, o2, a2, k2) := (by unfold xs_map; rw [if_neg (by rw [ebi, ebj, ecq]; exact fun z => z.elim (fun z => by cases z) (fun z => z.elim (fun z => by cases z) (fun z => z.elim gw1 (fun z => by omega)))), ecj, if_neg (by rw [hoj]; decide), eci, ecq]; unfold xr_map; rw [if_pos (show (S j).1 = 6 from hk9)]; dsimp only; rw [er9]; rw [if_neg (fun z => absurd (hf2.symm.trans z) (by decide)), if_pos (by omega)]); exact ⟨by rw [ex]; exact .tail _ (.tail _ (.tail _ (.head _))), by rw [ex]; exact (hz.obj rfl rfl).po hf⟩) (by omega)) (fun v hh13 H locs hq hP hS => ?_)
      obtain ⟨rfl, rfl, hr9⟩ := hq
      replace hr9 := (nI_ltI (a := (S j).2.2.2) (b := 100) (by omega) (by omega)).mp hr9
      rw [show nI ((S j).2.2.2) + 1 = nI ((S j).2.2.2 + 1) from nI_1 _]
      refine q_callS (rest := [.int (nI i), .ref x]) C (c_X2_ofStream l D cy N0 hh12 (zO gw2 s2) (nI ((S j).2.2.2 + 1))) kX2_ofStream g580 g581 hP hS (by first | decide | omega) hl.1 rfl (by simp [q_catrf, q_cati, q_catl, q_cata, q_catn]) (by first | decide | omega) dX6_map_59 (fun q ce E h' H1 locs1 hE => hE.elim) (fun v hh14 H locs hq hP hS => ?_)
      obtain ⟨qh, rfl, oqh, rfl⟩ := hq
      replace hP : qP D N0 (qs hh12 qh (.inr (2, [.int 6, .null, .null, .null, va_rf (zO gw2 s2), .int (nI ((S j).2.2.2 + 1))]))) H := hP
      have hleh : qle hh12 (qs hh12 qh (.inr (2, [.int 6, .null, .null, .null, va_rf (zO gw2 s2), .int (nI ((S j).2.2.2 + 1))]))) := qle_new oqh
      replace faj := hleh _ _ faj
      replace hf := hf.trs (zFr.le hleh (qle.dom hleh))
      replace hz := hz.le hV hleh (qle.dom hleh)
      have fqh : (qs hh12 qh (.inr (2, [.int 6, .null, .null, .null, va_rf (zO gw2 s2), .int (nI ((S j).2.2.2 + 1))]))) qh = some (.inr (2, [.int 6, .null, .null, .null, va_rf (zO gw2 s2), .int (nI ((S j).2.2.2 + 1))])) := qs_self
      replace fqh : (qs hh12 qh (.inr (2, [.int 6, .null, .null, .null, va_rf (zO gw2 s2), .int (nI ((S j).2.2.2 + 1))]))) qh = some (.inr (2, [.int (S j).1, .null, .null, .null, va_rf (zO gw2 s2), .int (nI ((S j).2.2.2 + 1))])) := by rw [hk9]; exact fqh
      have zvn : zV cy (qs hh12 qh (.inr (2, [.int 6, .null, .null, .null, va_rf (zO gw2 s2), .int (nI ((S j).2.2.2 + 1))]))) Im (zOk Ed eb S) mk gw2 ((S j).1, (S j).2.1, s2, (S j).2.2.2 + 1) none none none (zO gw2 s2) (nI ((S j).2.2.2 + 1)) := Or.inr (Or.inr (Or.inr (Or.inr ⟨hk9, rfl, rfl, rfl, rfl, rfl⟩)))
      have hzp := hz.put hV hi (s := ((S j).1, (S j).2.1, s2, (S j).2.2.2 + 1)) (show ¬ ((S j).1 = -1) from fun z => absurd (hk9.symm.trans z) (by decide)) ⟨none, none, none, (zO gw2 s2), (nI ((S j).2.2.2 + 1)), fqh, zvn⟩
      have hfp : zFr h (qs (qs hh12 qh (.inr (2, [.int 6, .null, .null, .null, va_rf (zO gw2 s2), .int (nI ((S j).2.2.2 + 1))]))) sl (.inl (cy 3, 24, .inr (.inr (.inr (.inr (va_up fs i (some qh)))))))) x sl kr vr bd br Xb := hf.trs (zFr.set hz.2.1.1 (Or.inr (Or.inl rfl)))
      have hkd : qHd (qs hh12 qh (.inr (2, [.int 6, .null, .null, .null, va_rf (zO gw2 s2), .int (nI ((S j).2.2.2 + 1))]))) qh ((S j).1) none none none (zO gw2 s2) (nI ((S j).2.2.2 + 1)) (nI (zAm ((S j).1, (S j).2.1, s2, (S j).2.2.2 + 1))) := zHd.hd (s := ((S j).1, (S j).2.1, s2, (S j).2.2.2 + 1)) fqh zvn
      refine q_callV (rest := []) C (c_X6_keep l D cy N0 (qs hh12 qh (.inr (2, [.int 6, .null, .null, .null, va_rf (zO gw2 s2), .int (nI ((S j).2.2.2 + 1))]))) x sl bl kr vr mk (oCq (o2, a2, k2).1) (oMq (o2, a2, k2).1) (nI Ed) fs i qh ((S j).1) none none none (zO gw2 s2) (nI ((S j).2.2.2 + 1)) (nI (zAm ((S j).1, (S j).2.1, s2, (S j).2.2.2 + 1))) hz.1.1 hz.2.1.1 hi hkd) kX6_keep g218 g220 rfl gp1 g1 hP hS hz.1.1 (by first | decide | omega) hl.1 rfl (by decide) (by first | decide | omega) dX6_map_62 (fun q ce E h' H1 locs1 hE => hE.elim) (fun v hh15 H locs hq hP hS => ?_)
      obtain ⟨rfl, rfl⟩ := hq
      replace faj := (qs_ne (h := (qs hh12 qh (.inr (2, [.int 6, .null, .null, .null, va_rf (zO gw2 s2), .int (nI ((S j).2.2.2 + 1))])))) (a := sl) (o := (.inl (cy 3, 24, .inr (.inr (.inr (.inr (va_up fs i (some qh)))))))) (fun z => by rw [z, hz.2.1.1] at faj; cases faj)).trans faj
      refine lv_pop hx hb dX6_map_65 rfl ?_
      have ex : (xs_map S (o, a, k) (nI i) (nI j) (nI q8) p3) = (0, qU S i ((S j).1, (S j).2.1, s2, (S j).2.2.2 + 1), o2, a2, k2) := by unfold xs_map; rw [if_neg (by rw [ebi, ebj, ecq]; exact fun z => z.elim (fun z => by cases z) (fun z => z.elim (fun z => by cases z) (fun z => z.elim gw1 (fun z => by omega)))), ecj, if_neg (by rw [hoj]; decide), eci, ecq]; unfold xr_map; rw [if_pos (show (S j).1 = 6 from hk9)]; dsimp only; rw [er9]; rw [if_neg (fun z => absurd (hf2.symm.trans z) (by decide)), if_neg (by omega)]
      exact q_vret C hP hS ⟨by rw [ex], rfl, by rw [ex]; exact hzp.po hfp⟩ (by omega) dX6_map_66
