theorem dX6_sequenceOfValues_0 : decode cX6_sequenceOfValues 0 = .ok (.iconst 0, 1) := by decide +kernel
theorem dX6_sequenceOfValues_1 : decode cX6_sequenceOfValues 1 = .ok (.aload_n 0, 1) := by decide +kernel
theorem dX6_sequenceOfValues_2 : decode cX6_sequenceOfValues 2 = .ok (.getfield 25, 3) := by decide +kernel
theorem dX6_sequenceOfValues_5 : decode cX6_sequenceOfValues 5 = .ok (.iconst 0, 1) := by decide +kernel
theorem dX6_sequenceOfValues_6 : decode cX6_sequenceOfValues 6 = .ok (.iload_n 1, 1) := by decide +kernel
theorem dX6_sequenceOfValues_7 : decode cX6_sequenceOfValues 7 = .ok (.invokestatic 285, 3) := by decide +kernel
theorem dX6_sequenceOfValues_10 : decode cX6_sequenceOfValues 10 = .ok (.invokestatic 111, 3) := by decide +kernel
theorem dX6_sequenceOfValues_13 : decode cX6_sequenceOfValues 13 = .ok (.areturn, 1) := by decide +kernel
set_option maxRecDepth 100000 in
set_option maxHeartbeats 4000000 in
theorem z_sequenceOfValues (l : Launch) (D : va_G) (cy : Nat → ClassId) (N0 : Nat) (h : qH) (x sl bl kr vr : Nat) (m9 ca mv ed : Int32) (f : Nat → Int64) (n : Nat) (hT : h x = some (.inr (6, [.int m9, .ref sl, .ref bl, .ref kr, .ref vr, .int ca, .int mv, .int ed]))) (hvr : h vr = some (.inl (cy 1, 1000, .inr (.inl f)))) (hn : n ≤ 1000) : qC l D cy N0 yX6_sequenceOfValues cX6_sequenceOfValues 2 (some (.object RX2)) 1004 23100 1001 6010 [.ref x, .int (nI n)] h (fun v h' => ∃ (qh : Nat) (r8 : Option Nat) (n8 : Nat), v = some (.ref qh) ∧ qle h h' ∧ h' qh = some (.inr (2, [.int (nI 0), va_rf r8, .null, .null, .null, .int 0])) ∧ qBr h' n8 r8 (qRl f 0 n)) (fun E h' => False) := by
  refine q_ofW (by decide) (by exact Nat.le_of_ble_eq_true rfl) ?_
  intro p e s m below meth c ls C hP hl
  have hx := C.1
  have hb := C.2.1
  have hS : va_S (qA N0) s.heap s.heap [] := va_S.rf
  have hl : lv_has ls 2 [(0, .ref x), (1, .int (nI n))] := hl
  refine lv_iconst (v := nI 0) hx hb dX6_sequenceOfValues_0 (by decide) ?_
  refine lv_aload_n hx hb dX6_sequenceOfValues_1 rfl (lv_at hl 0 rfl) ?_
  refine q_get C hP hT rfl inX6 4 (by decide) g72 rfl dX6_sequenceOfValues_2 ?_
  refine lv_iconst (v := nI 0) hx hb dX6_sequenceOfValues_5 (by decide) ?_
  refine lv_iload_n hx hb dX6_sequenceOfValues_6 rfl (lv_at hl 1 rfl) ?_
  refine q_callSN (host := RX6) (rest := [.int (nI 0)]) C (c_X0_ofRow l D cy N0 1001 h vr 1000 f 0 n 1000 hvr (by omega) (by omega) (by omega) (by omega) (by omega)) kX0_ofRow (by decide +kernel) g944 hP hS (by first | decide | omega) hl.1 rfl (by simp [q_catrf, q_cati, q_catl, q_cata, q_catn]) (by first | decide | omega) dX6_sequenceOfValues_7 (fun v hh1 H locs hq hP hS => ?_)
  obtain ⟨r8, n8, rfl, hle8, hb8, -⟩ := hq
  refine q_callS (rest := []) C (c_X2_ofTree l D cy N0 hh1 (nI 0) r8) kX2_ofTree g516 g517 hP hS (by first | decide | omega) hl.1 rfl (by decide) (by first | decide | omega) dX6_sequenceOfValues_10 (fun q ce E h' H1 locs1 hE => hE.elim) (fun v hh2 H locs hq hP hS => ?_)
  obtain ⟨qh, rfl, oqh, rfl⟩ := hq
  exact q_aret (v := some qh) C (Or.inl ⟨_, rfl⟩) hP hS ⟨qh, r8, n8, rfl, qle_tr hle8 (qle_new oqh), qs_self, hb8.le (qle_new oqh)⟩ (by omega) dX6_sequenceOfValues_13
/-- as zCp; and none of the first i numbers fails the test -/
def zCt (w : Nat) (c : Int64) (K : List Int64) (P : Int64 → Bool) (f : Nat → Int64) (i g : Nat) : Prop := zCp K P f i g ∧ ∀ j, j < i → xTs w c (K.getD j 0) ≠ none
section ZCT
variable {w : Nat} {c : Int64} {K : List Int64} {P : Int64 → Bool} {f : Nat → Int64} {i g : Nat} {L : qKV}
theorem zCt.init {f0 : Nat → Int64} : zCt w c K P (qPour f0 0 K) 0 0 := ⟨zCp.init, fun j hj => absurd hj (Nat.not_lt_zero _)⟩
theorem zCt.more (z : zCt w c K P f i g) (h : i < K.length) (e : xTs w c (f i) ≠ none) : ∀ j, j < i + 1 → xTs w c (K.getD j 0) ≠ none := fun j hj => by
  by_cases c1 : j = i
  · subst c1; rw [← z.1.2.2.2 j (Nat.le_refl _) h]; exact e
  · exact z.2 j (by omega)
theorem zCt.yes (z : zCt w c K P f i g) (h : i < K.length) (hp : P (f i) = true) (e : xTs w c (f i) ≠ none) : zCt w c K P (vp_updL f g (f i)) (i + 1) (g + 1) := ⟨z.1.yes h hp, z.more h e⟩
theorem zCt.no (z : zCt w c K P f i g) (h : i < K.length) (hp : P (f i) = false) (e : xTs w c (f i) ≠ none) : zCt w c K P f (i + 1) g := ⟨z.1.no h hp, z.more h e⟩
theorem zCt.bad (z : zCt w c K P f i g) (hK : ∀ v, v ∈ K → v ∈ L.map Prod.fst) (h : i < K.length) (e : xTs w c (f i) = none) : xNoT w c L = true := by
  rw [z.1.at h] at e
  obtain ⟨p, hp, e2⟩ := List.mem_map.mp (hK _ (List.getElem_mem h))
  exact List.any_eq_true.mpr ⟨p, hp, Option.isNone_iff_eq_none.mpr (by rw [e2]; exact e)⟩
theorem zCt.fin (z : zCt w c K P f i g) (h : i = K.length) (hK : ∀ p, p ∈ L → p.1 ∈ K) : ¬ xNoT w c L = true := fun y => by
  obtain ⟨p, hp, e⟩ := List.any_eq_true.mp y
  obtain ⟨j, hj, e2⟩ := List.mem_iff_getElem.mp (hK p hp)
  refine z.2 j (by omega) ?_
  rw [List.getD_eq_getElem?_getD, List.getElem?_eq_getElem hj]
  show xTs w c K[j] = none
  rw [e2]
  exact Option.isNone_iff_eq_none.mp e
end ZCT
theorem zKmem {s : qSlot} {m : Int32} {v : Int64} (h : v ∈ (thT m 7 (zSv s)).map Prod.fst) : v ∈ s.2.1.map Prod.fst := by
  rw [zSv_T] at h
  exact ((thT_perm 7 s.2.1).map Prod.fst).subset h
theorem zKmem2 {s : qSlot} {m : Int32} {p : Int64 × Int64} (h : p ∈ s.2.1) : p.1 ∈ (thT m 7 (zSv s)).map Prod.fst := by
  rw [zSv_T]
  exact ((thT_perm 7 s.2.1).map Prod.fst).symm.subset (List.mem_map.mpr ⟨p, h, rfl⟩)
theorem zFlq {w : Nat} {c : Int64} {L : qKV} {f : Nat → Int64} {i g : Nat} (z : zCp (L.map Prod.fst) (fun v => decide (xTs w c v = some true)) f i g) (h : i = (L.map Prod.fst).length) : qRl f 0 g = (xFlL w c L).map (fun p => (0, p.1)) := by
  obtain ⟨e1, e2⟩ := z.fin h
  have e3 : (L.map Prod.fst).filter (fun v => decide (xTs w c v = some true)) = (xFlL w c L).map Prod.fst := by
    unfold xFlL
    rw [List.filter_map]
    rfl
  rw [e3] at e1 e2
  rw [e1, qRl_eq (L := (xFlL w c L).map Prod.fst) (fun j hj => by rw [Nat.zero_add]; exact e2 j (by omega)), List.map_map]
  rfl
theorem zFls {w : Nat} {c : Int64} {s : qSlot} : (zSv s).filter (fun p => !(!decide (xTs w c p.1 = some true))) = zSv (s.1, xFlL w c s.2.1, s.2.2) := by
  unfold xFlL
  rw [zSv_fi (Q := fun k => decide (xTs w c k = some true))]
  refine List.filter_congr (fun p _ => ?_)
  rw [Bool.not_not]
theorem dX6_siftedSequence_0 : decode cX6_siftedSequence 0 = .ok (.aload_n 1, 1) := by decide +kernel
theorem dX6_siftedSequence_1 : decode cX6_siftedSequence 1 = .ok (.invokevirtual 59, 3) := by decide +kernel
theorem dX6_siftedSequence_4 : decode cX6_siftedSequence 4 = .ok (.istore 5, 2) := by decide +kernel
theorem dX6_siftedSequence_6 : decode cX6_siftedSequence 6 = .ok (.aload_n 1, 1) := by decide +kernel
theorem dX6_siftedSequence_7 : decode cX6_siftedSequence 7 = .ok (.getfield 101, 3) := by decide +kernel
theorem dX6_siftedSequence_10 : decode cX6_siftedSequence 10 = .ok (.aload_n 0, 1) := by decide +kernel
theorem dX6_siftedSequence_11 : decode cX6_siftedSequence 11 = .ok (.getfield 25, 3) := by decide +kernel
theorem dX6_siftedSequence_14 : decode cX6_siftedSequence 14 = .ok (.iconst 0, 1) := by decide +kernel
theorem dX6_siftedSequence_15 : decode cX6_siftedSequence 15 = .ok (.invokestatic 277, 3) := by decide +kernel
theorem dX6_siftedSequence_18 : decode cX6_siftedSequence 18 = .ok (.pop, 1) := by decide +kernel
theorem dX6_siftedSequence_19 : decode cX6_siftedSequence 19 = .ok (.iconst 0, 1) := by decide +kernel
theorem dX6_siftedSequence_20 : decode cX6_siftedSequence 20 = .ok (.istore 6, 2) := by decide +kernel
theorem dX6_siftedSequence_22 : decode cX6_siftedSequence 22 = .ok (.iconst 0, 1) := by decide +kernel
theorem dX6_siftedSequence_23 : decode cX6_siftedSequence 23 = .ok (.istore 7, 2) := by decide +kernel
theorem dX6_siftedSequence_25 : decode cX6_siftedSequence 25 = .ok (.iload 7, 2) := by decide +kernel
theorem dX6_siftedSequence_27 : decode cX6_siftedSequence 27 = .ok (.iload 5, 2) := by decide +kernel
theorem dX6_siftedSequence_29 : decode cX6_siftedSequence 29 = .ok (.if_icmp .ge 41, 3) := by decide +kernel
theorem dX6_siftedSequence_32 : decode cX6_siftedSequence 32 = .ok (.iload_n 2, 1) := by decide +kernel
theorem dX6_siftedSequence_33 : decode cX6_siftedSequence 33 = .ok (.aload_n 0, 1) := by decide +kernel
theorem dX6_siftedSequence_34 : decode cX6_siftedSequence 34 = .ok (.getfield 25, 3) := by decide +kernel
theorem dX6_siftedSequence_37 : decode cX6_siftedSequence 37 = .ok (.iload 7, 2) := by decide +kernel
theorem dX6_siftedSequence_39 : decode cX6_siftedSequence 39 = .ok (.laload, 1) := by decide +kernel
theorem dX6_siftedSequence_40 : decode cX6_siftedSequence 40 = .ok (.lload_n 3, 1) := by decide +kernel
theorem dX6_siftedSequence_41 : decode cX6_siftedSequence 41 = .ok (.invokestatic 443, 3) := by decide +kernel
theorem dX6_siftedSequence_44 : decode cX6_siftedSequence 44 = .ok (.ifCond .eq 20, 3) := by decide +kernel
theorem dX6_siftedSequence_47 : decode cX6_siftedSequence 47 = .ok (.aload_n 0, 1) := by decide +kernel
theorem dX6_siftedSequence_48 : decode cX6_siftedSequence 48 = .ok (.getfield 25, 3) := by decide +kernel
theorem dX6_siftedSequence_51 : decode cX6_siftedSequence 51 = .ok (.iload 6, 2) := by decide +kernel
theorem dX6_siftedSequence_53 : decode cX6_siftedSequence 53 = .ok (.aload_n 0, 1) := by decide +kernel
theorem dX6_siftedSequence_54 : decode cX6_siftedSequence 54 = .ok (.getfield 25, 3) := by decide +kernel
theorem dX6_siftedSequence_57 : decode cX6_siftedSequence 57 = .ok (.iload 7, 2) := by decide +kernel
theorem dX6_siftedSequence_59 : decode cX6_siftedSequence 59 = .ok (.laload, 1) := by decide +kernel
theorem dX6_siftedSequence_60 : decode cX6_siftedSequence 60 = .ok (.lastore, 1) := by decide +kernel
theorem dX6_siftedSequence_61 : decode cX6_siftedSequence 61 = .ok (.iinc 6 1, 3) := by decide +kernel
theorem dX6_siftedSequence_64 : decode cX6_siftedSequence 64 = .ok (.iinc 7 1, 3) := by decide +kernel
theorem dX6_siftedSequence_67 : decode cX6_siftedSequence 67 = .ok (.goto (-42), 3) := by decide +kernel
theorem dX6_siftedSequence_70 : decode cX6_siftedSequence 70 = .ok (.aload_n 0, 1) := by decide +kernel
theorem dX6_siftedSequence_71 : decode cX6_siftedSequence 71 = .ok (.iload 5, 2) := by decide +kernel
theorem dX6_siftedSequence_73 : decode cX6_siftedSequence 73 = .ok (.invokevirtual 218, 3) := by decide +kernel
theorem dX6_siftedSequence_76 : decode cX6_siftedSequence 76 = .ok (.aload_n 0, 1) := by decide +kernel
theorem dX6_siftedSequence_77 : decode cX6_siftedSequence 77 = .ok (.iload 6, 2) := by decide +kernel
theorem dX6_siftedSequence_79 : decode cX6_siftedSequence 79 = .ok (.invokevirtual 306, 3) := by decide +kernel
theorem dX6_siftedSequence_82 : decode cX6_siftedSequence 82 = .ok (.areturn, 1) := by decide +kernel
set_option maxRecDepth 100000 in
set_option maxHeartbeats 4000000 in
theorem z_siftedSequence (l : Launch) (D : va_G) (cy : Nat → ClassId) (N0 : Nat) (h : qH) (x : Nat) (mk : Int32) (sl bl kr vr Ed : Nat) (fs : Nat → Option Nat) (bd br eb : Nat → Nat) (Im : Nat → Prop) (Xb : Nat → Nat → Prop) (g : Nat → Nat) (S : Nat → qSlot) (Bd sk Rn : Nat) (dp : Nat → Nat) (o : qYf) (a : qWd) (k : qKd) (m0 j aj : Nat) (x1j x2j x3j x4j : Option Nat) (dvj : Int32) (q8 : Nat) (p3 : Int64) (hz : zQ cy h x mk sl bl kr vr Ed fs bd br eb Im Xb g S (o, a, k)) (hI : ∀ i, i < 28 → qOk (S i).1 (S i).2.1) (hLn : ∀ i, i < 28 → (S i).2.1.length ≤ 1000) (hV : qWv Bd sk Rn dp (o, a, k)) (hm0 : oMq o = nI m0) (hm9 : m0 ≤ 20000) (hj : j < 24) (faj : h aj = some (.inr (2, [.int (S j).1, va_rf x1j, va_rf x2j, va_rf x3j, va_rf x4j, .int dvj]))) (zvj : zV cy h Im (zOk Ed eb S) mk g (S j) x1j x2j x3j x4j dvj) (hq8 : q8 ≤ 4) (hk9 : (S j).1 = nI 0) : qC l D cy N0 yX6_siftedSequence cX6_siftedSequence 8 (some (.object RX2)) 1010 23200 1030 6200 [.ref x, .ref aj, .int (nI q8), .long p3] h (fun v h' => ∃ (qh : Nat) (r8 : Option Nat) (n8 : Nat), v = some (.ref qh) ∧ h' qh = some (.inr (2, [.int (nI 0), va_rf r8, .null, .null, .null, .int 0])) ∧ zQ cy h' x mk sl bl kr vr Ed fs bd br eb Im Xb g S (oMv o (nI (m0 + zAm (S j))), a, k) ∧ zFr h h' x sl kr vr bd br Xb ∧ qBr h' n8 r8 ((xFlL q8 p3 (S j).2.1).map (fun p => (0, p.1))) ∧ ¬ xNoT q8 p3 (S j).2.1 = true ∧ m0 + zAm (S j) ≤ 20000) (fun E h' => ((E = "java/lang/ArithmeticException" ∧ xNoT q8 p3 (S j).2.1 = true) ∨ (E = "java/lang/IndexOutOfBoundsException" ∧ ¬ xNoT q8 p3 (S j).2.1 = true ∧ ¬ m0 + zAm (S j) ≤ 20000)) ∧ zQ cy h' x mk sl bl kr vr Ed fs bd br eb Im Xb g S (o, a, k) ∧ zFr h h' x sl kr vr bd br Xb) := by
  refine q_ofW (by decide) (by exact Nat.le_of_ble_eq_true rfl) ?_
  intro p e s m below meth c ls C hP hl
  have hx := C.1
  have hb := C.2.1
  have hS : va_S (qA N0) s.heap s.heap [] := va_S.rf
  have hl : lv_has ls 8 [(0, .ref x), (1, .ref aj), (2, .int (nI q8)), (3, .long p3)] := hl
  have hf : zFr h h x sl kr vr bd br Xb := zFr.rf
  have hl9 := hLn j (by omega)
  rw [hk9] at faj
  have hk6 : ¬ (S j).1 = 6 := fun z => absurd (hk9.symm.trans z) (by decide)
  have ham : zAm (S j) = (S j).2.1.length := zAm_n hk6
  obtain ⟨e1, e2, e3, e4, n9, hb9⟩ := zvj.seq (Or.inl hk9)
  have hlm : (((S j).2.1.map (fun p => ((0 : Int64), p.1)))).length = (S j).2.1.length := List.length_map ..
  have hn14 : n9 ≤ 14 := hb9.h14 (by omega)
  have hKl : ((S j).2.1.map Prod.fst).length = (S j).2.1.length := List.length_map ..
  have hKm : ∀ p ∈ (S j).2.1, p.1 ∈ ((S j).2.1.map Prod.fst) := fun p hp => List.mem_map.mpr ⟨p, hp, rfl⟩
  refine lv_aload_n hx hb dX6_siftedSequence_0 rfl (lv_at hl 1 rfl) ?_
  obtain ⟨t1j, t2j, t3j, f1j, f2j, f3j, etj⟩ := zvj.size
  refine q_callV (rest := []) C (c_X2_amount l D cy N0 h aj (nI 0) dvj t1j t2j t3j x1j x2j x3j x4j faj f1j f2j f3j) kX2_amount g222 g223 rfl g224 g10 hP hS faj (by first | decide | omega) hl.1 rfl (by decide) (by first | decide | omega) dX6_siftedSequence_1 (fun q ce E h' H1 locs1 hE => hE.elim) (fun v hh1 H locs hq hP hS => ?_)
  obtain ⟨rfl, rfl⟩ := hq
  rw [← etj]
  refine lv_istore (lv' := [(5, .int (nI (zAm (S j)))), (0, .ref x), (1, .ref aj), (2, .int (nI q8)), (3, .long p3)]) hx hb dX6_siftedSequence_4 hl (by decide) rfl (fun ls hl => ?_)
  refine lv_aload_n hx hb dX6_siftedSequence_6 rfl (lv_at hl 2 rfl) ?_
  refine q_get C hP faj rfl inX2 1 (by decide) g195 rfl dX6_siftedSequence_7 ?_
  refine lv_aload_n hx hb dX6_siftedSequence_10 rfl (lv_at hl 1 rfl) ?_
  refine q_get C hP hz.1.1 rfl inX6 4 (by decide) g72 rfl dX6_siftedSequence_11 ?_
  refine lv_iconst (v := nI 0) hx hb dX6_siftedSequence_14 (by decide) ?_
  obtain ⟨f0v, hf0v⟩ := hz.2.1.2.2.2
  refine q_callSN (host := RX6) (rest := []) C (c_X0_pourValues l D cy N0 (n9 + 1) h x1j n9 ((S j).2.1.map (fun p => ((0 : Int64), p.1))) vr 1000 f0v 0 hb9 hf0v (by omega) (by omega) (by omega)) kX0_pourValues (by decide +kernel) g940 hP hS (by first | decide | omega) hl.1 rfl (by decide) (by first | decide | omega) dX6_siftedSequence_15 (fun v hh2 H locs hq hP hS => ?_)
  obtain ⟨rfl, rfl⟩ := hq
  rw [zAmap] at hP
  replace hP : qP D N0 (qs h vr (.inl (cy 1, 1000, .inr (.inl (qPour f0v 0 ((S j).2.1.map Prod.fst)))))) H := hP
  refine lv_pop hx hb dX6_siftedSequence_18 rfl ?_
  refine lv_iconst (v := nI 0) hx hb dX6_siftedSequence_19 (by decide) ?_
  refine lv_istore (lv' := [(6, .int (nI 0)), (5, .int (nI (zAm (S j)))), (0, .ref x), (1, .ref aj), (2, .int (nI q8)), (3, .long p3)]) hx hb dX6_siftedSequence_20 hl (by decide) rfl (fun ls hl => ?_)
  refine lv_iconst (v := nI 0) hx hb dX6_siftedSequence_22 (by decide) ?_
  refine lv_istore (lv' := [(7, .int (nI 0)), (6, .int (nI 0)), (5, .int (nI (zAm (S j)))), (0, .ref x), (1, .ref aj), (2, .int (nI q8)), (3, .long p3)]) hx hb dX6_siftedSequence_23 hl (by decide) rfl (fun ls hl => ?_)
  refine (?_ : ∀ (t9 q9 n8 : Nat) (H : Heap) (locs : List Loc) (ls : Array Slot) (f : Nat → Int64) (c1 c2 : Nat), zAm (S j) - q9 < t9 → lv_has ls 8 [(7, .int (nI q9)), (6, .int (nI n8)), (5, .int (nI (zAm (S j)))), (3, .long p3), (2, .int (nI q8)), (1, .ref aj), (0, .ref x)] → zCt q8 p3 ((S j).2.1.map Prod.fst) (fun v9 : Int64 => decide (xTs q8 p3 v9 = some true)) f q9 n8 → qP D N0 (qs h vr (.inl (cy 1, 1000, .inr (.inl f)))) H → va_S (qA N0) s.heap H locs → c1 ≤ 20 ∧ c2 ≤ 120 → W p l e _ s m _ below meth c H locs c1 c2 _ (F0 m 25 ls [])) (zAm (S j) + 1) 0 0 _ _ ls _ _ _ (by omega) (lv_sub hl [0, 1, 2, 6, 5, 4, 3] rfl) zCt.init hP hS ⟨by omega, by omega⟩
  clear hl hP hS
  intro t9
  induction t9 with
  | zero => intro q9 _ _ _ _ _ _ _ h; exact absurd h (Nat.not_lt_zero _)
  | succ t9 ihl =>
    intro q9 n8 H locs ls f c1 c2 ht9 hl hcp hP hS hcc
    replace faj := (qs_ne (h := h) (a := vr) (o := (.inl (cy 1, 1000, .inr (.inl f)))) (fun z => by rw [z, hz.2.1.2.2.2.choose_spec] at faj; simp at faj)).trans faj
    replace hb9 := hb9.setl (x' := (cy 1, 1000, .inr (.inl f))) hz.2.1.2.2.2.choose_spec
    replace hf := hf.trs (zFr.set (o' := .inl (cy 1, 1000, .inr (.inl f))) hz.2.1.2.2.2.choose_spec (Or.inr (Or.inr (Or.inr rfl))))
    replace hz := hz.rowv hV f
    have hkk : (qs h vr (.inl (cy 1, 1000, .inr (.inl f)))) vr = some (.inl (cy 1, 1000, .inr (.inl f))) := qs_self
    have hq9 := hcp.1.1
    have hn8 := hcp.1.le
    rw [hKl] at hq9
    refine lv_iload hx hb dX6_siftedSequence_25 (lv_at hl 0 rfl) ?_
    refine lv_iload hx hb dX6_siftedSequence_27 (lv_at hl 2 rfl) ?_
    refine lv_icmp_ge (tgt := 70) hx hb dX6_siftedSequence_29 (by decide) (fun c29 => ?_) (fun c29 => ?_)
    · replace c29 : (zAm (S j)) ≤ q9 := (nI_leI (a := (zAm (S j))) (b := q9) (by omega) (by omega)).mp c29
      have hno9 : ¬ xNoT q8 p3 (S j).2.1 = true := hcp.fin (by rw [hKl]; omega) (fun p hp => hKm p hp)
      have hcq := hcp.1
      refine lv_aload_n hx hb dX6_siftedSequence_70 rfl (lv_at hl 6 rfl) ?_
      refine lv_iload hx hb dX6_siftedSequence_71 (lv_at hl 2 rfl) ?_
      refine q_callV (rest := []) C (c_X6_takeMoves l D cy N0 (qs h vr (.inl (cy 1, 1000, .inr (.inl f)))) x sl bl kr vr mk (oCq (o, a, k).1) (oMq (o, a, k).1) (nI Ed) fs (nI (zAm (S j))) hz.1.1 hz.2.1.1) kX6_takeMoves g641 g643 rfl gp15 g1 hP hS hz.1.1 (by first | decide | omega) hl.1 rfl (by decide) (by first | decide | omega) dX6_siftedSequence_73 (fun q ce E h' H1 locs1 hE hP hS hc1 hc2 hc3 => by obtain ⟨rfl, rfl, hn9⟩ := hE; replace hn9 : ¬ m0 + zAm (S j) ≤ 20000 := fun z => hn9 (by rw [show oMq (o, a, k).1 = nI m0 from hm0]; exact (zmvs hm9 (by omega)).mpr z); exact q_out C hP hS hc1 hc2 hc3 ⟨Or.inr ⟨rfl, hno9, hn9⟩, hz, hf⟩ (by omega)) (fun v hh3 H locs hq hP hS => ?_)
      obtain ⟨rfl, rfl, hmv⟩ := hq
      have hmv2 : m0 + zAm (S j) ≤ 20000 := (zmvs hm9 (by omega)).mp (by rw [← hm0]; exact hmv)
      rw [show oMq (o, a, k).1 = nI m0 from hm0, nI_add] at hP
      replace hP : qP D N0 (qs (qs h vr (.inl (cy 1, 1000, .inr (.inl f)))) x (.inr (6, [.int mk, .ref sl, .ref bl, .ref kr, .ref vr, .int (oCq (o, a, k).1), .int (nI (m0 + zAm (S j))), .int (nI Ed)]))) H := hP
      replace faj := (qs_ne (h := (qs h vr (.inl (cy 1, 1000, .inr (.inl f))))) (a := x) (o := (.inr (6, [.int mk, .ref sl, .ref bl, .ref kr, .ref vr, .int (oCq (o, a, k).1), .int (nI (m0 + zAm (S j))), .int (nI Ed)]))) (fun z => by rw [z, hz.1.1] at faj; simp at faj)).trans faj
      replace hkk := (qs_ne (h := (qs h vr (.inl (cy 1, 1000, .inr (.inl f))))) (a := x) (o := (.inr (6, [.int mk, .ref sl, .ref bl, .ref kr, .ref vr, .int (oCq (o, a, k).1), .int (nI (m0 + zAm (S j))), .int (nI Ed)]))) (qne_cl hkk hz.1.1)).trans hkk
      replace hb9 := hb9.seto (o := .inr (6, [.int mk, .ref sl, .ref bl, .ref kr, .ref vr, .int (oCq (o, a, k).1), .int (nI (m0 + zAm (S j))), .int (nI Ed)])) hz.1.1 (by decide)
      replace hf := hf.trs (zFr.set (o' := .inr (6, [.int mk, .ref sl, .ref bl, .ref kr, .ref vr, .int (oCq (o, a, k).1), .int (nI (m0 + zAm (S j))), .int (nI Ed)])) hz.1.1 (Or.inl rfl))
      replace hz : zQ cy (qs (qs h vr (.inl (cy 1, 1000, .inr (.inl f)))) x (.inr (6, [.int mk, .ref sl, .ref bl, .ref kr, .ref vr, .int (oCq (o, a, k).1), .int (nI (m0 + zAm (S j))), .int (nI Ed)]))) x mk sl bl kr vr Ed fs bd br eb Im Xb g S (oMv o (nI (m0 + zAm (S j))), a, k) := hz.mv hV
      replace hV := hV.mvs hm0 (M2 := m0 + zAm (S j)) ⟨by omega, by omega⟩ hmv2
      replace hV : qWv Bd sk Rn dp (oMv o (nI (m0 + zAm (S j))), a, k) := hV
      refine lv_aload_n hx hb dX6_siftedSequence_76 rfl (lv_at hl 6 rfl) ?_
      refine lv_iload hx hb dX6_siftedSequence_77 (lv_at hl 1 rfl) ?_
      refine q_callV (rest := []) C (z_sequenceOfValues l D cy N0 (qs (qs h vr (.inl (cy 1, 1000, .inr (.inl f)))) x (.inr (6, [.int mk, .ref sl, .ref bl, .ref kr, .ref vr, .int (oCq (o, a, k).1), .int (nI (m0 + zAm (S j))), .int (nI Ed)]))) x sl bl kr vr mk (oCq (oMv o (nI (m0 + zAm (S j))), a, k).1) (oMq (oMv o (nI (m0 + zAm (S j))), a, k).1) (nI Ed) f n8 hz.1.1 hkk (by omega)) kX6_sequenceOfValues g962 g964 rfl gp29 g1 hP hS hz.1.1 (by first | decide | omega) hl.1 rfl (by decide) (by first | decide | omega) dX6_siftedSequence_79 (fun q ce E h' H1 locs1 hE => hE.elim) (fun v hh4 H locs hq hP hS => ?_)
      obtain ⟨qh, r8, n7, rfl, hle8, fqh, hb8⟩ := hq
      replace faj := hle8 _ _ faj
      replace hb9 := hb9.le hle8
      replace hf := hf.trs (zFr.le hle8 (qle.dom hle8))
      replace hz := hz.le hV hle8 (qle.dom hle8)
      exact q_aret (v := some qh) C (Or.inl ⟨_, rfl⟩) hP hS ⟨qh, r8, n7, rfl, fqh, hz, hf, by rw [zFlq hcq (by rw [hKl]; omega)] at hb8; exact hb8, hno9, hmv2⟩ (by omega) dX6_siftedSequence_82
    · replace c29 : ¬ (zAm (S j)) ≤ q9 := fun zq => c29 ((nI_leI (a := (zAm (S j))) (b := q9) (by omega) (by omega)).mpr zq)
      refine lv_iload_n hx hb dX6_siftedSequence_32 rfl (lv_at hl 4 rfl) ?_
      refine lv_aload_n hx hb dX6_siftedSequence_33 rfl (lv_at hl 6 rfl) ?_
      refine q_get C hP hz.1.1 rfl inX6 4 (by decide) g72 rfl dX6_siftedSequence_34 ?_
      refine lv_iload hx hb dX6_siftedSequence_37 (lv_at hl 0 rfl) ?_
      refine q_laldN C hP hkk (by omega) (by omega) dX6_siftedSequence_39 ?_
      refine lv_lload_n hx hb dX6_siftedSequence_40 rfl (lv_at hl 3 rfl) ?_
      have e1 : (if xTs q8 p3 (f q9) = none then 1 else 0) ≤ 1 ∧ (if xTs q8 p3 (f q9) = none then 6 else 0) ≤ 6 := ⟨by split <;> omega, by split <;> omega⟩
      refine q_callS (rest := []) C (d_X6_passes l D cy N0 (qs h vr (.inl (cy 1, 1000, .inr (.inl f)))) q8 (f q9) p3 hq8) kX6_passes g695 g696 hP hS (by first | decide | omega) hl.1 rfl (by decide) (by first | decide | omega) dX6_siftedSequence_41 (fun q ce E h' H1 locs1 hE hP hS hc1 hc2 hc3 => by obtain ⟨rfl, rfl, hn9⟩ := hE; exact q_out C hP hS hc1 hc2 hc3 ⟨Or.inl ⟨rfl, hcp.bad (fun v hv => hv) (by rw [hKl]; omega) hn9⟩, hz, hf⟩ (by omega)) (fun v hh5 H locs hq hP hS => ?_)
      obtain ⟨y9, ey9, rfl, rfl⟩ := hq
      have e60 : (if xTs q8 p3 (f q9) = none then 1 else 0) = 0 ∧ (if xTs q8 p3 (f q9) = none then 6 else 0) = 0 := ⟨if_neg (by rw [ey9]; exact fun z => by cases z), if_neg (by rw [ey9]; exact fun z => by cases z)⟩
      cases y9 with
      | false =>
        have hpn : (fun v9 : Int64 => decide (xTs q8 p3 v9 = some true)) (f q9) = false := by show (decide (xTs q8 p3 (f q9) = some true)) = _; rw [ey9]; rfl
        refine lv_if_eq (tgt := 64) hx hb dX6_siftedSequence_44 (by decide) (fun c44 => ?_) (fun c44 => ?_)
        · replace c44 : 0 = 0 := (nI_eq (a := 0) (b := 0) (by omega) (by omega)).mp c44
          refine lv_iinc (v := nI (q9 + 1)) (lv' := [(7, .int (nI (q9 + 1))), (6, .int (nI n8)), (5, .int (nI (zAm (S j)))), (3, .long p3), (2, .int (nI q8)), (1, .ref aj), (0, .ref x)]) hx hb dX6_siftedSequence_64 hl (k := 0) rfl (nI_1 q9) (by decide) rfl (fun ls hl => ?_)
          refine lv_goto (tgt := 25) hx hb dX6_siftedSequence_67 (by decide) ?_
          exact ihl (q9 + 1) n8 H locs ls f _ _ (by omega) (lv_sub hl [0, 1, 2, 3, 4, 5, 6] rfl) (hcp.no (by rw [hKl]; omega) hpn (by rw [ey9]; exact fun z => by cases z)) hP hS ⟨by omega, by omega⟩
        · replace c44 : ¬ 0 = 0 := fun zq => c44 ((nI_eq (a := 0) (b := 0) (by omega) (by omega)).mpr zq)
          exfalso; omega
      | true =>
        have hpy : (fun v9 : Int64 => decide (xTs q8 p3 v9 = some true)) (f q9) = true := by show (decide (xTs q8 p3 (f q9) = some true)) = _; rw [ey9]; rfl
        refine lv_if_eq (tgt := 64) hx hb dX6_siftedSequence_44 (by decide) (fun c44 => ?_) (fun c44 => ?_)
        · replace c44 : 1 = 0 := (nI_eq (a := 1) (b := 0) (by omega) (by omega)).mp c44
          exfalso; omega
        · replace c44 : ¬ 1 = 0 := fun zq => c44 ((nI_eq (a := 1) (b := 0) (by omega) (by omega)).mpr zq)
          refine lv_aload_n hx hb dX6_siftedSequence_47 rfl (lv_at hl 6 rfl) ?_
          refine q_get C hP hz.1.1 rfl inX6 4 (by decide) g72 rfl dX6_siftedSequence_48 ?_
          refine lv_iload hx hb dX6_siftedSequence_51 (lv_at hl 1 rfl) ?_
          refine lv_aload_n hx hb dX6_siftedSequence_53 rfl (lv_at hl 6 rfl) ?_
          refine q_get C hP hz.1.1 rfl inX6 4 (by decide) g72 rfl dX6_siftedSequence_54 ?_
          refine lv_iload hx hb dX6_siftedSequence_57 (lv_at hl 0 rfl) ?_
          refine q_laldN C hP hkk (by omega) (by omega) dX6_siftedSequence_59 ?_
          refine q_lastN C hP hS hkk (by omega) (by omega) dX6_siftedSequence_60 (fun H locs hP hS => ?_)
          rw [qs_qs] at hP
          replace hP : qP D N0 (qs h vr (.inl (cy 1, 1000, .inr (.inl (vp_updL f n8 (f q9)))))) H := hP
          refine lv_iinc (v := nI (n8 + 1)) (lv' := [(6, .int (nI (n8 + 1))), (7, .int (nI q9)), (5, .int (nI (zAm (S j)))), (3, .long p3), (2, .int (nI q8)), (1, .ref aj), (0, .ref x)]) hx hb dX6_siftedSequence_61 hl (k := 1) rfl (nI_1 n8) (by decide) rfl (fun ls hl => ?_)
          refine lv_iinc (v := nI (q9 + 1)) (lv' := [(7, .int (nI (q9 + 1))), (6, .int (nI (n8 + 1))), (5, .int (nI (zAm (S j)))), (3, .long p3), (2, .int (nI q8)), (1, .ref aj), (0, .ref x)]) hx hb dX6_siftedSequence_64 hl (k := 1) rfl (nI_1 q9) (by decide) rfl (fun ls hl => ?_)
          refine lv_goto (tgt := 25) hx hb dX6_siftedSequence_67 (by decide) ?_
          exact ihl (q9 + 1) (n8 + 1) H locs ls (vp_updL f n8 (f q9)) _ _ (by omega) (lv_sub hl [0, 1, 2, 3, 4, 5, 6] rfl) (hcp.yes (by rw [hKl]; omega) hpy (by rw [ey9]; exact fun z => by cases z)) hP hS ⟨by omega, by omega⟩
theorem dX6_siftedSet_0 : decode cX6_siftedSet 0 = .ok (.aload_n 1, 1) := by decide +kernel
theorem dX6_siftedSet_1 : decode cX6_siftedSet 1 = .ok (.invokevirtual 59, 3) := by decide +kernel
theorem dX6_siftedSet_4 : decode cX6_siftedSet 4 = .ok (.istore 5, 2) := by decide +kernel
theorem dX6_siftedSet_6 : decode cX6_siftedSet 6 = .ok (.aload_n 1, 1) := by decide +kernel
theorem dX6_siftedSet_7 : decode cX6_siftedSet 7 = .ok (.getfield 66, 3) := by decide +kernel
theorem dX6_siftedSet_10 : decode cX6_siftedSet 10 = .ok (.aload_n 0, 1) := by decide +kernel
theorem dX6_siftedSet_11 : decode cX6_siftedSet 11 = .ok (.getfield 21, 3) := by decide +kernel
theorem dX6_siftedSet_14 : decode cX6_siftedSet 14 = .ok (.iconst 0, 1) := by decide +kernel
theorem dX6_siftedSet_15 : decode cX6_siftedSet 15 = .ok (.invokestatic 242, 3) := by decide +kernel
theorem dX6_siftedSet_18 : decode cX6_siftedSet 18 = .ok (.pop, 1) := by decide +kernel
theorem dX6_siftedSet_19 : decode cX6_siftedSet 19 = .ok (.iconst 0, 1) := by decide +kernel
theorem dX6_siftedSet_20 : decode cX6_siftedSet 20 = .ok (.istore 6, 2) := by decide +kernel
theorem dX6_siftedSet_22 : decode cX6_siftedSet 22 = .ok (.iconst 0, 1) := by decide +kernel
theorem dX6_siftedSet_23 : decode cX6_siftedSet 23 = .ok (.istore 7, 2) := by decide +kernel
theorem dX6_siftedSet_25 : decode cX6_siftedSet 25 = .ok (.iload 7, 2) := by decide +kernel
theorem dX6_siftedSet_27 : decode cX6_siftedSet 27 = .ok (.iload 5, 2) := by decide +kernel
theorem dX6_siftedSet_29 : decode cX6_siftedSet 29 = .ok (.if_icmp .ge 41, 3) := by decide +kernel
theorem dX6_siftedSet_32 : decode cX6_siftedSet 32 = .ok (.iload_n 2, 1) := by decide +kernel
theorem dX6_siftedSet_33 : decode cX6_siftedSet 33 = .ok (.aload_n 0, 1) := by decide +kernel
theorem dX6_siftedSet_34 : decode cX6_siftedSet 34 = .ok (.getfield 21, 3) := by decide +kernel
theorem dX6_siftedSet_37 : decode cX6_siftedSet 37 = .ok (.iload 7, 2) := by decide +kernel
theorem dX6_siftedSet_39 : decode cX6_siftedSet 39 = .ok (.laload, 1) := by decide +kernel
theorem dX6_siftedSet_40 : decode cX6_siftedSet 40 = .ok (.lload_n 3, 1) := by decide +kernel
theorem dX6_siftedSet_41 : decode cX6_siftedSet 41 = .ok (.invokestatic 443, 3) := by decide +kernel
theorem dX6_siftedSet_44 : decode cX6_siftedSet 44 = .ok (.ifCond .ne 20, 3) := by decide +kernel
theorem dX6_siftedSet_47 : decode cX6_siftedSet 47 = .ok (.aload_n 0, 1) := by decide +kernel
theorem dX6_siftedSet_48 : decode cX6_siftedSet 48 = .ok (.getfield 21, 3) := by decide +kernel
theorem dX6_siftedSet_51 : decode cX6_siftedSet 51 = .ok (.iload 6, 2) := by decide +kernel
theorem dX6_siftedSet_53 : decode cX6_siftedSet 53 = .ok (.aload_n 0, 1) := by decide +kernel
theorem dX6_siftedSet_54 : decode cX6_siftedSet 54 = .ok (.getfield 21, 3) := by decide +kernel
theorem dX6_siftedSet_57 : decode cX6_siftedSet 57 = .ok (.iload 7, 2) := by decide +kernel
theorem dX6_siftedSet_59 : decode cX6_siftedSet 59 = .ok (.laload, 1) := by decide +kernel
theorem dX6_siftedSet_60 : decode cX6_siftedSet 60 = .ok (.lastore, 1) := by decide +kernel
theorem dX6_siftedSet_61 : decode cX6_siftedSet 61 = .ok (.iinc 6 1, 3) := by decide +kernel
theorem dX6_siftedSet_64 : decode cX6_siftedSet 64 = .ok (.iinc 7 1, 3) := by decide +kernel
theorem dX6_siftedSet_67 : decode cX6_siftedSet 67 = .ok (.goto (-42), 3) := by decide +kernel
theorem dX6_siftedSet_70 : decode cX6_siftedSet 70 = .ok (.aload_n 0, 1) := by decide +kernel
theorem dX6_siftedSet_71 : decode cX6_siftedSet 71 = .ok (.iload 5, 2) := by decide +kernel
theorem dX6_siftedSet_73 : decode cX6_siftedSet 73 = .ok (.invokevirtual 218, 3) := by decide +kernel
theorem dX6_siftedSet_76 : decode cX6_siftedSet 76 = .ok (.aload_n 1, 1) := by decide +kernel
theorem dX6_siftedSet_77 : decode cX6_siftedSet 77 = .ok (.getfield 63, 3) := by decide +kernel
theorem dX6_siftedSet_80 : decode cX6_siftedSet 80 = .ok (.aload_n 0, 1) := by decide +kernel
theorem dX6_siftedSet_81 : decode cX6_siftedSet 81 = .ok (.aload_n 1, 1) := by decide +kernel
theorem dX6_siftedSet_82 : decode cX6_siftedSet 82 = .ok (.getfield 66, 3) := by decide +kernel
theorem dX6_siftedSet_85 : decode cX6_siftedSet 85 = .ok (.iload 6, 2) := by decide +kernel
theorem dX6_siftedSet_87 : decode cX6_siftedSet 87 = .ok (.invokevirtual 250, 3) := by decide +kernel
theorem dX6_siftedSet_90 : decode cX6_siftedSet 90 = .ok (.invokestatic 77, 3) := by decide +kernel
theorem dX6_siftedSet_93 : decode cX6_siftedSet 93 = .ok (.areturn, 1) := by decide +kernel
set_option maxRecDepth 100000 in
set_option maxHeartbeats 4000000 in
theorem z_siftedSet (l : Launch) (D : va_G) (cy : Nat → ClassId) (N0 : Nat) (h : qH) (x : Nat) (mk : Int32) (sl bl kr vr Ed : Nat) (fs : Nat → Option Nat) (bd br eb : Nat → Nat) (Im : Nat → Prop) (Xb : Nat → Nat → Prop) (g : Nat → Nat) (S : Nat → qSlot) (Bd sk Rn : Nat) (dp : Nat → Nat) (o : qYf) (a : qWd) (k : qKd) (m0 j aj : Nat) (x1j x2j x3j x4j : Option Nat) (dvj : Int32) (q8 U : Nat) (p3 : Int64) (hz : zQ cy h x mk sl bl kr vr Ed fs bd br eb Im Xb g S (o, a, k)) (hI : ∀ i, i < 28 → qOk (S i).1 (S i).2.1) (hLn : ∀ i, i < 28 → (S i).2.1.length ≤ 1000) (hV : qWv Bd sk Rn dp (o, a, k)) (hm0 : oMq o = nI m0) (hm9 : m0 ≤ 20000) (hj : j < 24) (faj : h aj = some (.inr (2, [.int (S j).1, va_rf x1j, va_rf x2j, va_rf x3j, va_rf x4j, .int dvj]))) (zvj : zV cy h Im (zOk Ed eb S) mk g (S j) x1j x2j x3j x4j dvj) (hq8 : q8 ≤ 4) (hk9 : (S j).1 = nI 2) (h64 : (S j).2.1.length ≤ U) (hU : U ≤ 64) (hE9 : Ed + 1 < 1000) : qC l D cy N0 yX6_siftedSet cX6_siftedSet 8 (some (.object RX2)) 30 2100 (50 * U + 60) (U * rMs U 7 + 300) [.ref x, .ref aj, .int (nI q8), .long p3] h (fun v h' => ∃ (qh : Nat) (x8 : Option Nat) (Im3 : Nat → Prop), v = some (.ref qh) ∧ h' qh = some (.inr (2, [.int (nI 2), .null, va_rf x8, .null, .null, .int 0])) ∧ zQ cy h' x mk sl bl kr vr (Ed + 1) fs bd br eb Im3 Xb g S (oMv o (nI (m0 + zAm (S j))), a, k) ∧ zFr h h' x sl kr vr bd br Xb ∧ qRt cy h' Im3 0 (zOk (Ed + 1) eb S) mk x8 (zSv ((S j).1, xFlL q8 p3 (S j).2.1, (S j).2.2)) (fun _ => False) ∧ (∀ b, Im3 b → Im b ∨ h b = none) ∧ ¬ xNoT q8 p3 (S j).2.1 = true ∧ m0 + zAm (S j) ≤ 20000) (fun E h' => ((E = "java/lang/ArithmeticException" ∧ xNoT q8 p3 (S j).2.1 = true) ∨ (E = "java/lang/IndexOutOfBoundsException" ∧ ¬ xNoT q8 p3 (S j).2.1 = true ∧ ¬ m0 + zAm (S j) ≤ 20000)) ∧ zQ cy h' x mk sl bl kr vr Ed fs bd br eb Im Xb g S (o, a, k) ∧ zFr h h' x sl kr vr bd br Xb) := by
  refine q_ofW (by decide) (by exact Nat.le_of_ble_eq_true rfl) ?_
  intro p e s m below meth c ls C hP hl
  have hx := C.1
  have hb := C.2.1
  have hS : va_S (qA N0) s.heap s.heap [] := va_S.rf
  have hl : lv_has ls 8 [(0, .ref x), (1, .ref aj), (2, .int (nI q8)), (3, .long p3)] := hl
  have hf : zFr h h x sl kr vr bd br Xb := zFr.rf
  have hl9 := hLn j (by omega)
  rw [hk9] at faj
  have hk6 : ¬ (S j).1 = 6 := fun z => absurd (hk9.symm.trans z) (by decide)
  have ham : zAm (S j) = (S j).2.1.length := zAm_n hk6
  have hk12 : (S j).1 = 1 ∨ (S j).1 = 2 := Or.inr hk9
  have hRj := (zvj.hash hk12).2.2.2.2
  have hqj := h64
  have hnoj : qNo (S j).2.1 := (hI j (by omega)).2.1 (Or.inr (Or.inl hk9))
  have hKl : ((thT mk 7 (zSv (S j))).map Prod.fst).length = (S j).2.1.length := by rw [List.length_map, thT_len, zSv_len]
  refine lv_aload_n hx hb dX6_siftedSet_0 rfl (lv_at hl 1 rfl) ?_
  obtain ⟨t1j, t2j, t3j, f1j, f2j, f3j, etj⟩ := zvj.size
  refine q_callV (rest := []) C (c_X2_amount l D cy N0 h aj (nI 2) dvj t1j t2j t3j x1j x2j x3j x4j faj f1j f2j f3j) kX2_amount g222 g223 rfl g224 g10 hP hS faj (by first | decide | omega) hl.1 rfl (by decide) (by first | decide | omega) dX6_siftedSet_1 (fun q ce E h' H1 locs1 hE => hE.elim) (fun v hh1 H locs hq hP hS => ?_)
  obtain ⟨rfl, rfl⟩ := hq
  rw [← etj]
  refine lv_istore (lv' := [(5, .int (nI (zAm (S j)))), (0, .ref x), (1, .ref aj), (2, .int (nI q8)), (3, .long p3)]) hx hb dX6_siftedSet_4 hl (by decide) rfl (fun ls hl => ?_)
  refine lv_aload_n hx hb dX6_siftedSet_6 rfl (lv_at hl 2 rfl) ?_
  refine q_get C hP faj rfl inX2 2 (by decide) g198 rfl dX6_siftedSet_7 ?_
  refine lv_aload_n hx hb dX6_siftedSet_10 rfl (lv_at hl 1 rfl) ?_
  refine q_get C hP hz.1.1 rfl inX6 3 (by decide) g71 rfl dX6_siftedSet_11 ?_
  refine lv_iconst (v := nI 0) hx hb dX6_siftedSet_14 (by decide) ?_
  obtain ⟨f0k, hf0k⟩ := hz.2.1.2.2.1
  refine q_callSN (host := RX6) (rest := []) C (z_pourKeys l D cy N0 h Im 0 (zOk Ed eb S) mk x2j (zSv (S j)) (fun _ => False) kr f0k hRj ⟨fun z => (hz.2.2.2.2.2.1 _ (Or.inl z)).2.2.2.1 rfl, id⟩ hf0k (by rw [zSv_len]; omega)) kX3_pourKeys (by decide +kernel) g865 hP hS (by first | decide | omega) hl.1 rfl (by decide) (by first | decide | omega) dX6_siftedSet_15 (fun v hh2 H locs hq hP hS => ?_)
  obtain ⟨rfl, rfl⟩ := hq
  replace hP : qP D N0 (qs h kr (.inl (cy 1, 1000, .inr (.inl (qPour f0k 0 ((thT mk 7 (zSv (S j))).map Prod.fst)))))) H := hP
  refine lv_pop hx hb dX6_siftedSet_18 rfl ?_
  refine lv_iconst (v := nI 0) hx hb dX6_siftedSet_19 (by decide) ?_
  refine lv_istore (lv' := [(6, .int (nI 0)), (5, .int (nI (zAm (S j)))), (0, .ref x), (1, .ref aj), (2, .int (nI q8)), (3, .long p3)]) hx hb dX6_siftedSet_20 hl (by decide) rfl (fun ls hl => ?_)
  refine lv_iconst (v := nI 0) hx hb dX6_siftedSet_22 (by decide) ?_
  refine lv_istore (lv' := [(7, .int (nI 0)), (6, .int (nI 0)), (5, .int (nI (zAm (S j)))), (0, .ref x), (1, .ref aj), (2, .int (nI q8)), (3, .long p3)]) hx hb dX6_siftedSet_23 hl (by decide) rfl (fun ls hl => ?_)
  refine (?_ : ∀ (t9 q9 n8 : Nat) (H : Heap) (locs : List Loc) (ls : Array Slot) (f : Nat → Int64) (c1 c2 : Nat), zAm (S j) - q9 < t9 → lv_has ls 8 [(7, .int (nI q9)), (6, .int (nI n8)), (5, .int (nI (zAm (S j)))), (3, .long p3), (2, .int (nI q8)), (1, .ref aj), (0, .ref x)] → zCt q8 p3 ((thT mk 7 (zSv (S j))).map Prod.fst) (fun v9 : Int64 => !decide (xTs q8 p3 v9 = some true)) f q9 n8 → qP D N0 (qs h kr (.inl (cy 1, 1000, .inr (.inl f)))) H → va_S (qA N0) s.heap H locs → c1 ≤ 20 ∧ c2 ≤ 120 → W p l e _ s m _ below meth c H locs c1 c2 _ (F0 m 25 ls [])) (zAm (S j) + 1) 0 0 _ _ ls _ _ _ (by omega) (lv_sub hl [0, 1, 2, 6, 5, 4, 3] rfl) zCt.init hP hS ⟨by omega, by omega⟩
  clear hl hP hS
  intro t9
  induction t9 with
  | zero => intro q9 _ _ _ _ _ _ _ h; exact absurd h (Nat.not_lt_zero _)
  | succ t9 ihl =>
    intro q9 n8 H locs ls f c1 c2 ht9 hl hcp hP hS hcc
    replace faj := (qs_ne (h := h) (a := kr) (o := (.inl (cy 1, 1000, .inr (.inl f)))) (fun z => by rw [z, hz.2.1.2.2.1.choose_spec] at faj; simp at faj)).trans faj
    replace hRj := hRj.keep (h' := qs h kr (.inl (cy 1, 1000, .inr (.inl f)))) (fun b o e y => (qs_ne (hz.2.2.2.2.2.1 b (Or.inl (y.resolve_right id))).2.2.2.1).trans e)
    replace hf := hf.trs (zFr.set (o' := .inl (cy 1, 1000, .inr (.inl f))) hz.2.1.2.2.1.choose_spec (Or.inr (Or.inr (Or.inl rfl))))
    replace hz := hz.rowk hV f
    have hkk : (qs h kr (.inl (cy 1, 1000, .inr (.inl f)))) kr = some (.inl (cy 1, 1000, .inr (.inl f))) := qs_self
    have hq9 := hcp.1.1
    have hn8 := hcp.1.le
    rw [hKl] at hq9
    refine lv_iload hx hb dX6_siftedSet_25 (lv_at hl 0 rfl) ?_
    refine lv_iload hx hb dX6_siftedSet_27 (lv_at hl 2 rfl) ?_
    refine lv_icmp_ge (tgt := 70) hx hb dX6_siftedSet_29 (by decide) (fun c29 => ?_) (fun c29 => ?_)
    · replace c29 : (zAm (S j)) ≤ q9 := (nI_leI (a := (zAm (S j))) (b := q9) (by omega) (by omega)).mp c29
      have hno9 : ¬ xNoT q8 p3 (S j).2.1 = true := hcp.fin (by rw [hKl]; omega) (fun p hp => zKmem2 hp)
      have hcq := hcp.1
      refine lv_aload_n hx hb dX6_siftedSet_70 rfl (lv_at hl 6 rfl) ?_
      refine lv_iload hx hb dX6_siftedSet_71 (lv_at hl 2 rfl) ?_
      refine q_callV (rest := []) C (c_X6_takeMoves l D cy N0 (qs h kr (.inl (cy 1, 1000, .inr (.inl f)))) x sl bl kr vr mk (oCq (o, a, k).1) (oMq (o, a, k).1) (nI Ed) fs (nI (zAm (S j))) hz.1.1 hz.2.1.1) kX6_takeMoves g641 g643 rfl gp15 g1 hP hS hz.1.1 (by first | decide | omega) hl.1 rfl (by decide) (by first | decide | omega) dX6_siftedSet_73 (fun q ce E h' H1 locs1 hE hP hS hc1 hc2 hc3 => by obtain ⟨rfl, rfl, hn9⟩ := hE; replace hn9 : ¬ m0 + zAm (S j) ≤ 20000 := fun z => hn9 (by rw [show oMq (o, a, k).1 = nI m0 from hm0]; exact (zmvs hm9 (by omega)).mpr z); exact q_out C hP hS hc1 hc2 hc3 ⟨Or.inr ⟨rfl, hno9, hn9⟩, hz, hf⟩ (by omega)) (fun v hh3 H locs hq hP hS => ?_)
      obtain ⟨rfl, rfl, hmv⟩ := hq
      have hmv2 : m0 + zAm (S j) ≤ 20000 := (zmvs hm9 (by omega)).mp (by rw [← hm0]; exact hmv)
      rw [show oMq (o, a, k).1 = nI m0 from hm0, nI_add] at hP
      replace hP : qP D N0 (qs (qs h kr (.inl (cy 1, 1000, .inr (.inl f)))) x (.inr (6, [.int mk, .ref sl, .ref bl, .ref kr, .ref vr, .int (oCq (o, a, k).1), .int (nI (m0 + zAm (S j))), .int (nI Ed)]))) H := hP
      replace faj := (qs_ne (h := (qs h kr (.inl (cy 1, 1000, .inr (.inl f))))) (a := x) (o := (.inr (6, [.int mk, .ref sl, .ref bl, .ref kr, .ref vr, .int (oCq (o, a, k).1), .int (nI (m0 + zAm (S j))), .int (nI Ed)]))) (fun z => by rw [z, hz.1.1] at faj; simp at faj)).trans faj
      replace hkk := (qs_ne (h := (qs h kr (.inl (cy 1, 1000, .inr (.inl f))))) (a := x) (o := (.inr (6, [.int mk, .ref sl, .ref bl, .ref kr, .ref vr, .int (oCq (o, a, k).1), .int (nI (m0 + zAm (S j))), .int (nI Ed)]))) (qne_cl hkk hz.1.1)).trans hkk
      replace hRj := hRj.keep (h' := qs (qs h kr (.inl (cy 1, 1000, .inr (.inl f)))) x (.inr (6, [.int mk, .ref sl, .ref bl, .ref kr, .ref vr, .int (oCq (o, a, k).1), .int (nI (m0 + zAm (S j))), .int (nI Ed)]))) (fun b o e y => (qs_ne (hz.2.2.2.2.2.1 b (Or.inl (y.resolve_right id))).1).trans e)
      replace hf := hf.trs (zFr.set (o' := .inr (6, [.int mk, .ref sl, .ref bl, .ref kr, .ref vr, .int (oCq (o, a, k).1), .int (nI (m0 + zAm (S j))), .int (nI Ed)])) hz.1.1 (Or.inl rfl))
      replace hz : zQ cy (qs (qs h kr (.inl (cy 1, 1000, .inr (.inl f)))) x (.inr (6, [.int mk, .ref sl, .ref bl, .ref kr, .ref vr, .int (oCq (o, a, k).1), .int (nI (m0 + zAm (S j))), .int (nI Ed)]))) x mk sl bl kr vr Ed fs bd br eb Im Xb g S (oMv o (nI (m0 + zAm (S j))), a, k) := hz.mv hV
      replace hV := hV.mvs hm0 (M2 := m0 + zAm (S j)) ⟨by omega, by omega⟩ hmv2
      replace hV : qWv Bd sk Rn dp (oMv o (nI (m0 + zAm (S j))), a, k) := hV
      refine lv_aload_n hx hb dX6_siftedSet_76 rfl (lv_at hl 5 rfl) ?_
      refine q_get C hP faj rfl inX2 0 (by decide) g192 rfl dX6_siftedSet_77 ?_
      refine lv_aload_n hx hb dX6_siftedSet_80 rfl (lv_at hl 6 rfl) ?_
      refine lv_aload_n hx hb dX6_siftedSet_81 rfl (lv_at hl 5 rfl) ?_
      refine q_get C hP faj rfl inX2 2 (by decide) g198 rfl dX6_siftedSet_82 ?_
      refine lv_iload hx hb dX6_siftedSet_85 (lv_at hl 1 rfl) ?_
      have hmm : n8 * rMs U 7 ≤ U * rMs U 7 := Nat.mul_le_mul_right _ (by omega)
      refine q_callV (rest := [.int (nI 2)]) C (z_withoutRow l D cy N0 (qs (qs h kr (.inl (cy 1, 1000, .inr (.inl f)))) x (.inr (6, [.int mk, .ref sl, .ref bl, .ref kr, .ref vr, .int (oCq (o, a, k).1), .int (nI (m0 + zAm (S j))), .int (nI Ed)]))) x mk sl bl kr vr Ed fs bd br eb Im Xb g S Bd sk Rn dp (oMv o (nI (m0 + zAm (S j)))) a k x2j (zSv (S j)) f n8 U hz hV hE9 hRj (zSv_no hnoj) (by rw [zSv_len]; omega) (by omega) hkk (by omega)) kX6_withoutRow g885 g887 rfl gp25 g1 hP hS hz.1.1 (by first | decide | omega) hl.1 rfl (by simp [q_catrf, q_cati, q_catl, q_cata, q_catn]) (by first | decide | omega) dX6_siftedSet_87 (fun q ce E h' H1 locs1 hE => hE.elim) (fun v hh4 H locs hq hP hS => ?_)
      obtain ⟨x8, X8, Im8, rfl, hR8, hE8, hC8⟩ := hq
      have heb : ∀ b, b < 4 → ((S (24 + b)).1 = 1 ∨ (S (24 + b)).1 = 2) → eb b ≤ Ed := fun b hb y => (hz.2.2.2.2.2.2.2.2.1 b hb y).1
      replace faj := (qs_ne (h := (qs (qs h kr (.inl (cy 1, 1000, .inr (.inl f)))) x (.inr (6, [.int mk, .ref sl, .ref bl, .ref kr, .ref vr, .int (oCq (o, a, k).1), .int (nI (m0 + zAm (S j))), .int (nI Ed)])))) (a := x) (o := (.inr (6, [.int mk, .ref sl, .ref bl, .ref kr, .ref vr, .int (oCq (oMv o (nI (m0 + zAm (S j))), a, k).1), .int (oMq (oMv o (nI (m0 + zAm (S j))), a, k).1), .int (nI (Ed + 1))]))) (fun z => by rw [z, hz.1.1] at faj; simp at faj)).trans faj
      replace hf := hf.trs (zFr.set (o' := .inr (6, [.int mk, .ref sl, .ref bl, .ref kr, .ref vr, .int (oCq (oMv o (nI (m0 + zAm (S j))), a, k).1), .int (oMq (oMv o (nI (m0 + zAm (S j))), a, k).1), .int (nI (Ed + 1))])) hz.1.1 (Or.inl rfl))
      replace hz := hz.up hV hE9
      have hle8 : qle (qs (qs (qs h kr (.inl (cy 1, 1000, .inr (.inl f)))) x (.inr (6, [.int mk, .ref sl, .ref bl, .ref kr, .ref vr, .int (oCq (o, a, k).1), .int (nI (m0 + zAm (S j))), .int (nI Ed)]))) x (.inr (6, [.int mk, .ref sl, .ref bl, .ref kr, .ref vr, .int (oCq (oMv o (nI (m0 + zAm (S j))), a, k).1), .int (oMq (oMv o (nI (m0 + zAm (S j))), a, k).1), .int (nI (Ed + 1))]))) hh4 := fun b o e => hC8.1 b o e (fun z => z)
      obtain ⟨Im3, hz3, hR3, hi1, hi2⟩ := hz.edit hV heb hR8 hE8 hC8
      have hi3 : ∀ b, Im3 b → Im b ∨ h b = none := fun b z => (hi2 b z).imp id (hf.2 b)
      replace faj := hle8 _ _ faj
      replace hf := hf.trs (zFr.le hle8 (qle.dom hle8))
      replace hz := hz3
      refine q_callS (rest := []) C (c_X2_ofTrie l D cy N0 hh4 (nI 2) x8) kX2_ofTrie g437 g438 hP hS (by first | decide | omega) hl.1 rfl (by decide) (by first | decide | omega) dX6_siftedSet_90 (fun q ce E h' H1 locs1 hE => hE.elim) (fun v hh5 H locs hq hP hS => ?_)
      obtain ⟨qh, rfl, oqh, rfl⟩ := hq
      replace hP : qP D N0 (qs hh4 qh (.inr (2, [.int (nI 2), .null, va_rf x8, .null, .null, .int 0]))) H := hP
      have hleh : qle hh4 (qs hh4 qh (.inr (2, [.int (nI 2), .null, va_rf x8, .null, .null, .int 0]))) := qle_new oqh
      replace faj := hleh _ _ faj
      replace hR3 := hR3.le hleh
      replace hf := hf.trs (zFr.le hleh (qle.dom hleh))
      replace hz := hz.le hV hleh (qle.dom hleh)
      have fqh : (qs hh4 qh (.inr (2, [.int (nI 2), .null, va_rf x8, .null, .null, .int 0]))) qh = some (.inr (2, [.int (nI 2), .null, va_rf x8, .null, .null, .int 0])) := qs_self
      exact q_aret (v := some qh) C (Or.inl ⟨_, rfl⟩) hP hS ⟨qh, x8, Im3, rfl, fqh, hz, hf, by rw [zDs_cp hcq (by rw [hKl]; omega) thT_key] at hR3; rw [← zFls]; exact hR3, hi3, hno9, hmv2⟩ (by omega) dX6_siftedSet_93
    · replace c29 : ¬ (zAm (S j)) ≤ q9 := fun zq => c29 ((nI_leI (a := (zAm (S j))) (b := q9) (by omega) (by omega)).mpr zq)
      refine lv_iload_n hx hb dX6_siftedSet_32 rfl (lv_at hl 4 rfl) ?_
      refine lv_aload_n hx hb dX6_siftedSet_33 rfl (lv_at hl 6 rfl) ?_
      refine q_get C hP hz.1.1 rfl inX6 3 (by decide) g71 rfl dX6_siftedSet_34 ?_
      refine lv_iload hx hb dX6_siftedSet_37 (lv_at hl 0 rfl) ?_
      refine q_laldN C hP hkk (by omega) (by omega) dX6_siftedSet_39 ?_
      refine lv_lload_n hx hb dX6_siftedSet_40 rfl (lv_at hl 3 rfl) ?_
      have e1 : (if xTs q8 p3 (f q9) = none then 1 else 0) ≤ 1 ∧ (if xTs q8 p3 (f q9) = none then 6 else 0) ≤ 6 := ⟨by split <;> omega, by split <;> omega⟩
      refine q_callS (rest := []) C (d_X6_passes l D cy N0 (qs h kr (.inl (cy 1, 1000, .inr (.inl f)))) q8 (f q9) p3 hq8) kX6_passes g695 g696 hP hS (by first | decide | omega) hl.1 rfl (by decide) (by first | decide | omega) dX6_siftedSet_41 (fun q ce E h' H1 locs1 hE hP hS hc1 hc2 hc3 => by obtain ⟨rfl, rfl, hn9⟩ := hE; exact q_out C hP hS hc1 hc2 hc3 ⟨Or.inl ⟨rfl, hcp.bad (fun v hv => zKmem hv) (by rw [hKl]; omega) hn9⟩, hz, hf⟩ (by omega)) (fun v hh6 H locs hq hP hS => ?_)
      obtain ⟨y9, ey9, rfl, rfl⟩ := hq
      have e60 : (if xTs q8 p3 (f q9) = none then 1 else 0) = 0 ∧ (if xTs q8 p3 (f q9) = none then 6 else 0) = 0 := ⟨if_neg (by rw [ey9]; exact fun z => by cases z), if_neg (by rw [ey9]; exact fun z => by cases z)⟩
      cases y9 with
      | false =>
        have hpy : (fun v9 : Int64 => !decide (xTs q8 p3 v9 = some true)) (f q9) = true := by show (!decide (xTs q8 p3 (f q9) = some true)) = _; rw [ey9]; rfl
        refine lv_if_ne (tgt := 64) hx hb dX6_siftedSet_44 (by decide) (fun c44 => ?_) (fun c44 => ?_)
        · replace c44 : ¬ 0 = 0 := fun zq => c44 ((nI_eq (a := 0) (b := 0) (by omega) (by omega)).mpr zq)
          exfalso; omega
        · replace c44 : 0 = 0 := (nI_eq (a := 0) (b := 0) (by omega) (by omega)).mp c44
          refine lv_aload_n hx hb dX6_siftedSet_47 rfl (lv_at hl 6 rfl) ?_
          refine q_get C hP hz.1.1 rfl inX6 3 (by decide) g71 rfl dX6_siftedSet_48 ?_
          refine lv_iload hx hb dX6_siftedSet_51 (lv_at hl 1 rfl) ?_
          refine lv_aload_n hx hb dX6_siftedSet_53 rfl (lv_at hl 6 rfl) ?_
          refine q_get C hP hz.1.1 rfl inX6 3 (by decide) g71 rfl dX6_siftedSet_54 ?_
          refine lv_iload hx hb dX6_siftedSet_57 (lv_at hl 0 rfl) ?_
          refine q_laldN C hP hkk (by omega) (by omega) dX6_siftedSet_59 ?_
          refine q_lastN C hP hS hkk (by omega) (by omega) dX6_siftedSet_60 (fun H locs hP hS => ?_)
          rw [qs_qs] at hP
          replace hP : qP D N0 (qs h kr (.inl (cy 1, 1000, .inr (.inl (vp_updL f n8 (f q9)))))) H := hP
          refine lv_iinc (v := nI (n8 + 1)) (lv' := [(6, .int (nI (n8 + 1))), (7, .int (nI q9)), (5, .int (nI (zAm (S j)))), (3, .long p3), (2, .int (nI q8)), (1, .ref aj), (0, .ref x)]) hx hb dX6_siftedSet_61 hl (k := 1) rfl (nI_1 n8) (by decide) rfl (fun ls hl => ?_)
          refine lv_iinc (v := nI (q9 + 1)) (lv' := [(7, .int (nI (q9 + 1))), (6, .int (nI (n8 + 1))), (5, .int (nI (zAm (S j)))), (3, .long p3), (2, .int (nI q8)), (1, .ref aj), (0, .ref x)]) hx hb dX6_siftedSet_64 hl (k := 1) rfl (nI_1 q9) (by decide) rfl (fun ls hl => ?_)
          refine lv_goto (tgt := 25) hx hb dX6_siftedSet_67 (by decide) ?_
          exact ihl (q9 + 1) (n8 + 1) H locs ls (vp_updL f n8 (f q9)) _ _ (by omega) (lv_sub hl [0, 1, 2, 3, 4, 5, 6] rfl) (hcp.yes (by rw [hKl]; omega) hpy (by rw [ey9]; exact fun z => by cases z)) hP hS ⟨by omega, by omega⟩
      | true =>
        have hpn : (fun v9 : Int64 => !decide (xTs q8 p3 v9 = some true)) (f q9) = false := by show (!decide (xTs q8 p3 (f q9) = some true)) = _; rw [ey9]; rfl
        refine lv_if_ne (tgt := 64) hx hb dX6_siftedSet_44 (by decide) (fun c44 => ?_) (fun c44 => ?_)
        · replace c44 : ¬ 1 = 0 := fun zq => c44 ((nI_eq (a := 1) (b := 0) (by omega) (by omega)).mpr zq)
          refine lv_iinc (v := nI (q9 + 1)) (lv' := [(7, .int (nI (q9 + 1))), (6, .int (nI n8)), (5, .int (nI (zAm (S j)))), (3, .long p3), (2, .int (nI q8)), (1, .ref aj), (0, .ref x)]) hx hb dX6_siftedSet_64 hl (k := 0) rfl (nI_1 q9) (by decide) rfl (fun ls hl => ?_)
          refine lv_goto (tgt := 25) hx hb dX6_siftedSet_67 (by decide) ?_
          exact ihl (q9 + 1) n8 H locs ls f _ _ (by omega) (lv_sub hl [0, 1, 2, 3, 4, 5, 6] rfl) (hcp.no (by rw [hKl]; omega) hpn (by rw [ey9]; exact fun z => by cases z)) hP hS ⟨by omega, by omega⟩
        · replace c44 : 1 = 0 := (nI_eq (a := 1) (b := 0) (by omega) (by omega)).mp c44
          exfalso; omega
