theorem xJn_perm {A B : qKV} (hA : qNo A) (hB : qNo B) : (xJn 3 false A B).Perm (B ++ A.filter (fun p => !B.any (fun q => q.1 == p.1))) := by
  have nf : ∀ p : Int64 × Int64, (!B.any (fun q => q.1 == p.1)) = true ↔ ∀ w ∈ B, w.1 ≠ p.1 := fun p => by
    rw [Bool.not_eq_true', ← Bool.not_eq_true, List.any_eq_true]
    exact ⟨fun z w hw e => z ⟨w, hw, by rw [e]; exact beq_self_eq_true _⟩, fun z ⟨w, hw, e⟩ => z w hw (eq_of_beq e)⟩
  refine zperm_mem (xJn_no (Or.inr (Or.inr rfl)) _ _ hA) (List.pairwise_append.mpr ⟨hB, hA.filter _, fun p hp q hq => ?_⟩) (fun p => ?_)
  · exact ((nf q).mp (List.mem_filter.mp hq).2) p hp
  · rw [xJn_mem _ _ hB, List.mem_append, List.mem_filter, nf]
theorem xJc_tree {A B : qKV} (hA : qNo A) (hB : qNo B) : xJc false A B + qCom A B = A.length + B.length := by
  have e1 : xJc false A B = (xJn 3 false A B).length := by
    rw [xJn_len _ _ hB]; unfold xJc
    congr 2
  have e2 := (xJn_perm hA hB).length_eq
  rw [List.length_append] at e2
  have e3 : (A.filter (fun p => B.any (fun q => q.1 == p.1))).length + (A.filter (fun p => !B.any (fun q => q.1 == p.1))).length = A.length := by
    induction A with
    | nil => rfl
    | cons a A ih =>
      rw [List.filter_cons, List.filter_cons, List.length_cons]
      have := ih (qNo_cons hA).2 (by rw [xJn_len _ _ hB]; unfold xJc; congr 2) (by have := (xJn_perm (qNo_cons hA).2 hB).length_eq; rw [List.length_append] at this; exact this)
      cases B.any (fun q => q.1 == a.1)
      · simp only [Bool.not_false, if_true, Bool.false_eq_true, if_false, List.length_cons]; omega
      · simp only [Bool.not_true, if_true, Bool.false_eq_true, if_false, List.length_cons]; omega
  unfold qCom
  omega
theorem xJc_t {A B : qKV} : xJc true A B = A.length + B.length := by
  unfold xJc
  simp
theorem xJn_dj {kd : Int32} (hk : kd = 1 ∨ kd = 2) : ∀ (M L : qKV), qNo M → (∀ p ∈ M, xHas L p.1 = false) → xJn kd false L M = L ++ M
  | [], L, _, _ => (List.append_nil L).symm
  | p :: M, L, hM, h => by
    obtain ⟨h1, h2⟩ := qNo_cons hM
    show xJn kd false (xPut kd false L p.1 p.2) M = _
    have e : xPut kd false L p.1 p.2 = L ++ [p] := by
      unfold xPut
      rw [if_neg (fun z => by rw [h p List.mem_cons_self] at z; cases z.2), if_neg (by rcases hk with rfl | rfl <;> decide)]
    rw [xJn_dj hk M _ h2 (fun q hq => by rw [xHas_put (h1 q hq)]; exact h q (List.mem_cons_of_mem _ hq)), e, List.append_assoc]; rfl
theorem bHo_127 {kd : Int32} (h : kd ∈ [(-1 : Int32), 0, 1, 2, 3, 4, 5, 6]) (e : bHo kd 127 = true) : kd = nI 0 ∨ kd = nI 1 ∨ kd = nI 2 ∨ kd = nI 3 ∨ kd = nI 4 ∨ kd = nI 5 ∨ kd = nI 6 := by
  simp only [List.mem_cons, List.not_mem_nil, or_false] at h
  rcases h with rfl | rfl | rfl | rfl | rfl | rfl | rfl | rfl <;> revert e <;> decide
theorem bHo_p6 {kd : Int32} (h : kd ∈ [(-1 : Int32), 0, 1, 2, 3, 4, 5, 6]) : (bHo kd 64 = true → kd = nI 6) ∧ (bHo kd 64 = false → ¬ nI 6 = kd) := by
  simp only [List.mem_cons, List.not_mem_nil, or_false] at h
  rcases h with rfl | rfl | rfl | rfl | rfl | rfl | rfl | rfl <;> decide
theorem zany0 {L : qKV} {f : Int64 × Int64 → Bool} (h : ∀ p ∈ L, f p = false) : ¬ L.any f = true := fun z => by
  obtain ⟨p, hp, e⟩ := List.any_eq_true.mp z
  rw [h p hp] at e; cases e
theorem dX6_joinedStreams_0 : decode cX6_joinedStreams 0 = .ok (.aload_n 0, 1) := by decide +kernel
theorem dX6_joinedStreams_1 : decode cX6_joinedStreams 1 = .ok (.getfield 125, 3) := by decide +kernel
theorem dX6_joinedStreams_4 : decode cX6_joinedStreams 4 = .ok (.aload_n 1, 1) := by decide +kernel
theorem dX6_joinedStreams_5 : decode cX6_joinedStreams 5 = .ok (.getfield 125, 3) := by decide +kernel
theorem dX6_joinedStreams_8 : decode cX6_joinedStreams 8 = .ok (.invokestatic 535, 3) := by decide +kernel
theorem dX6_joinedStreams_11 : decode cX6_joinedStreams 11 = .ok (.invokestatic 273, 3) := by decide +kernel
theorem dX6_joinedStreams_14 : decode cX6_joinedStreams 14 = .ok (.istore_n 2, 1) := by decide +kernel
theorem dX6_joinedStreams_15 : decode cX6_joinedStreams 15 = .ok (.aload_n 0, 1) := by decide +kernel
theorem dX6_joinedStreams_16 : decode cX6_joinedStreams 16 = .ok (.getfield 115, 3) := by decide +kernel
theorem dX6_joinedStreams_19 : decode cX6_joinedStreams 19 = .ok (.aload_n 1, 1) := by decide +kernel
theorem dX6_joinedStreams_20 : decode cX6_joinedStreams 20 = .ok (.getfield 115, 3) := by decide +kernel
theorem dX6_joinedStreams_23 : decode cX6_joinedStreams 23 = .ok (.invokestatic 520, 3) := by decide +kernel
theorem dX6_joinedStreams_26 : decode cX6_joinedStreams 26 = .ok (.iload_n 2, 1) := by decide +kernel
theorem dX6_joinedStreams_27 : decode cX6_joinedStreams 27 = .ok (.invokestatic 128, 3) := by decide +kernel
theorem dX6_joinedStreams_30 : decode cX6_joinedStreams 30 = .ok (.areturn, 1) := by decide +kernel
set_option maxRecDepth 100000 in
set_option maxHeartbeats 4000000 in
theorem z_joinedStreams (l : Launch) (D : va_G) (cy : Nat → ClassId) (N0 : Nat) (h : qH) (aj au dj du : Nat) (sj su : Option Nat) (x1 c1 : Int64) (w1 f1 n1 d1 : Int32) (s1 b1 r1 t1 : Value) (hA : h aj = some (.inr (2, [.int 6, .null, .null, .null, va_rf sj, .int (nI dj)]))) (hB : h au = some (.inr (2, [.int 6, .null, .null, .null, va_rf su, .int (nI du)]))) (hj : dj ≤ 100) (hu : du ≤ 100) (hs : ∀ sq, sj = some sq → h sq = some (.inr (5, [.long x1, .int w1, .int f1, .long c1, .int n1, s1, b1, r1, .int d1, t1]))) : qC l D cy N0 yX6_joinedStreams cX6_joinedStreams 3 (some (.object RX2)) 10 160 6 40 [.ref aj, .ref au] h (fun v h' => max dj du < 100 ∧ ((sj = none ∧ ∃ qh, v = some (.ref qh) ∧ h qh = none ∧ h' = qs h qh (.inr (2, [.int 6, .null, .null, .null, va_rf su, .int (nI (max dj du + 1))]))) ∨ ∃ sq q qh, sj = some sq ∧ h q = none ∧ v = some (.ref qh) ∧ (qs h q (.inr (5, [.long x1, .int 6, .int 0, .long 0, .int 0, .ref sq, va_rf su, .null, .int 0, .null]))) qh = none ∧ h' = qs (qs h q (.inr (5, [.long x1, .int 6, .int 0, .long 0, .int 0, .ref sq, va_rf su, .null, .int 0, .null]))) qh (.inr (2, [.int 6, .null, .null, .null, va_rf (some q), .int (nI (max dj du + 1))])))) (fun E h' => E = "java/lang/IndexOutOfBoundsException" ∧ h = h' ∧ ¬ max dj du < 100) := by
  refine q_ofW (by decide) (by exact Nat.le_of_ble_eq_true rfl) ?_
  intro p e s m below meth c ls C hP hl
  have hx := C.1
  have hb := C.2.1
  have hS : va_S (qA N0) s.heap s.heap [] := va_S.rf
  have hl : lv_has ls 3 [(0, .ref aj), (1, .ref au)] := hl
  refine lv_aload_n hx hb dX6_joinedStreams_0 rfl (lv_at hl 0 rfl) ?_
  refine q_get C hP hA rfl inX2 5 (by decide) g204 rfl dX6_joinedStreams_1 ?_
  refine lv_aload_n hx hb dX6_joinedStreams_4 rfl (lv_at hl 1 rfl) ?_
  refine q_get C hP hB rfl inX2 5 (by decide) g204 rfl dX6_joinedStreams_5 ?_
  refine q_callS (rest := []) C (c_J9_max l D cy N0 h dj du (by omega) (by omega)) kJ9_max_7cf53 g843 g812 hP hS (by first | decide | omega) hl.1 rfl (by decide) (by first | decide | omega) dX6_joinedStreams_8 (fun q ce E h' H1 locs1 hE => hE.elim) (fun v hh1 H locs hq hP hS => ?_)
  obtain ⟨rfl, rfl⟩ := hq
  refine q_callS (rest := []) C (c_X6_deeperThan l D cy N0 h (nI (max dj du))) kX6_deeperThan g844 g845 hP hS (by first | decide | omega) hl.1 rfl (by decide) (by first | decide | omega) dX6_joinedStreams_11 (fun q ce E h' H1 locs1 hE hP hS hc1 hc2 hc3 => by obtain ⟨rfl, rfl, hn9⟩ := hE; replace hn9 : ¬ max dj du < 100 := fun z => hn9 ((nI_ltI (a := max dj du) (b := 100) (by omega) (by omega)).mpr z); exact q_out C hP hS hc1 hc2 hc3 ⟨rfl, rfl, hn9⟩ (by omega)) (fun v hh2 H locs hq hP hS => ?_)
  obtain ⟨rfl, rfl, hr9⟩ := hq
  replace hr9 := (nI_ltI (a := max dj du) (b := 100) (by omega) (by omega)).mp hr9
  rw [show nI (max dj du) + 1 = nI (max dj du + 1) from nI_1 _]
  refine lv_istore_n (lv' := [(2, .int (nI (max dj du + 1))), (0, .ref aj), (1, .ref au)]) hx hb dX6_joinedStreams_14 rfl hl (by decide) rfl (fun ls hl => ?_)
  refine lv_aload_n hx hb dX6_joinedStreams_15 rfl (lv_at hl 1 rfl) ?_
  refine q_get C hP hA rfl inX2 4 (by decide) g202 rfl dX6_joinedStreams_16 ?_
  refine lv_aload_n hx hb dX6_joinedStreams_19 rfl (lv_at hl 2 rfl) ?_
  refine q_get C hP hB rfl inX2 4 (by decide) g202 rfl dX6_joinedStreams_20 ?_
  have e10 : (if sj = none then 0 else 1) ≤ 1 ∧ (if sj = none then 0 else 10) ≤ 10 := ⟨by split <;> omega, by split <;> omega⟩
  refine q_callS (rest := []) C (c_X5_joined l D cy N0 h sj su x1 c1 w1 f1 n1 d1 s1 b1 r1 t1 hs) kX5_joined g705 g706 hP hS (by first | decide | omega) hl.1 rfl (by decide) (by first | decide | omega) dX6_joinedStreams_23 (fun q ce E h' H1 locs1 hE => hE.elim) (fun v hh3 H locs hq hP hS => ?_)
  rcases hq with ⟨rfl, rfl, hnn⟩ | ⟨sq, q, esq, rfl, oq, rfl⟩
  · refine lv_iload_n hx hb dX6_joinedStreams_26 rfl (lv_at hl 0 rfl) ?_
    refine q_callS (rest := []) C (c_X2_ofStream l D cy N0 h su (nI (max dj du + 1))) kX2_ofStream g580 g581 hP hS (by first | decide | omega) hl.1 rfl (by decide) (by first | decide | omega) dX6_joinedStreams_27 (fun q ce E h' H1 locs1 hE => hE.elim) (fun v hh4 H locs hq hP hS => ?_)
    obtain ⟨qh, rfl, oqh, rfl⟩ := hq
    exact q_aret (v := some qh) C (Or.inl ⟨_, rfl⟩) hP hS ⟨hr9, Or.inl ⟨hnn, qh, rfl, oqh, rfl⟩⟩ (by omega) dX6_joinedStreams_30
  · replace hP : qP D N0 (qs h q (.inr (5, [.long x1, .int 6, .int 0, .long 0, .int 0, .ref sq, va_rf su, .null, .int 0, .null]))) H := hP
    refine lv_iload_n hx hb dX6_joinedStreams_26 rfl (lv_at hl 0 rfl) ?_
    refine q_callS (rest := []) C (c_X2_ofStream l D cy N0 (qs h q (.inr (5, [.long x1, .int 6, .int 0, .long 0, .int 0, .ref sq, va_rf su, .null, .int 0, .null]))) (some q) (nI (max dj du + 1))) kX2_ofStream g580 g581 hP hS (by first | decide | omega) hl.1 rfl (by decide) (by first | decide | omega) dX6_joinedStreams_27 (fun q ce E h' H1 locs1 hE => hE.elim) (fun v hh5 H locs hq hP hS => ?_)
    obtain ⟨qh, rfl, oqh, rfl⟩ := hq
    exact q_aret (v := some qh) C (Or.inl ⟨_, rfl⟩) hP hS ⟨hr9, Or.inr ⟨sq, q, qh, esq, oq, rfl, oqh, rfl⟩⟩ (by omega) dX6_joinedStreams_30
theorem dX6_joinedTrees_0 : decode cX6_joinedTrees 0 = .ok (.aload_n 1, 1) := by decide +kernel
theorem dX6_joinedTrees_1 : decode cX6_joinedTrees 1 = .ok (.invokevirtual 59, 3) := by decide +kernel
theorem dX6_joinedTrees_4 : decode cX6_joinedTrees 4 = .ok (.aload_n 2, 1) := by decide +kernel
theorem dX6_joinedTrees_5 : decode cX6_joinedTrees 5 = .ok (.invokevirtual 59, 3) := by decide +kernel
theorem dX6_joinedTrees_8 : decode cX6_joinedTrees 8 = .ok (.iadd, 1) := by decide +kernel
theorem dX6_joinedTrees_9 : decode cX6_joinedTrees 9 = .ok (.istore_n 3, 1) := by decide +kernel
theorem dX6_joinedTrees_10 : decode cX6_joinedTrees 10 = .ok (.iload_n 3, 1) := by decide +kernel
theorem dX6_joinedTrees_11 : decode cX6_joinedTrees 11 = .ok (.aload_n 1, 1) := by decide +kernel
theorem dX6_joinedTrees_12 : decode cX6_joinedTrees 12 = .ok (.getfield 101, 3) := by decide +kernel
theorem dX6_joinedTrees_15 : decode cX6_joinedTrees 15 = .ok (.aload_n 2, 1) := by decide +kernel
theorem dX6_joinedTrees_16 : decode cX6_joinedTrees 16 = .ok (.getfield 101, 3) := by decide +kernel
theorem dX6_joinedTrees_19 : decode cX6_joinedTrees 19 = .ok (.invokestatic 447, 3) := by decide +kernel
theorem dX6_joinedTrees_22 : decode cX6_joinedTrees 22 = .ok (.isub, 1) := by decide +kernel
theorem dX6_joinedTrees_23 : decode cX6_joinedTrees 23 = .ok (.invokestatic 81, 3) := by decide +kernel
theorem dX6_joinedTrees_26 : decode cX6_joinedTrees 26 = .ok (.aload_n 0, 1) := by decide +kernel
theorem dX6_joinedTrees_27 : decode cX6_joinedTrees 27 = .ok (.iload_n 3, 1) := by decide +kernel
theorem dX6_joinedTrees_28 : decode cX6_joinedTrees 28 = .ok (.invokevirtual 218, 3) := by decide +kernel
theorem dX6_joinedTrees_31 : decode cX6_joinedTrees 31 = .ok (.aload_n 1, 1) := by decide +kernel
theorem dX6_joinedTrees_32 : decode cX6_joinedTrees 32 = .ok (.getfield 63, 3) := by decide +kernel
theorem dX6_joinedTrees_35 : decode cX6_joinedTrees 35 = .ok (.aload_n 1, 1) := by decide +kernel
theorem dX6_joinedTrees_36 : decode cX6_joinedTrees 36 = .ok (.getfield 101, 3) := by decide +kernel
theorem dX6_joinedTrees_39 : decode cX6_joinedTrees 39 = .ok (.aload_n 2, 1) := by decide +kernel
theorem dX6_joinedTrees_40 : decode cX6_joinedTrees 40 = .ok (.getfield 101, 3) := by decide +kernel
theorem dX6_joinedTrees_43 : decode cX6_joinedTrees 43 = .ok (.invokestatic 451, 3) := by decide +kernel
theorem dX6_joinedTrees_46 : decode cX6_joinedTrees 46 = .ok (.invokestatic 111, 3) := by decide +kernel
theorem dX6_joinedTrees_49 : decode cX6_joinedTrees 49 = .ok (.areturn, 1) := by decide +kernel
set_option maxRecDepth 100000 in
set_option maxHeartbeats 4000000 in
theorem z_joinedTrees (l : Launch) (D : va_G) (cy : Nat → ClassId) (N0 : Nat) (h : qH) (x : Nat) (mk : Int32) (sl bl kr vr Ed : Nat) (fs : Nat → Option Nat) (bd br eb : Nat → Nat) (Im : Nat → Prop) (Xb : Nat → Nat → Prop) (g : Nat → Nat) (S : Nat → qSlot) (Bd sk Rn : Nat) (dp : Nat → Nat) (o : qYf) (a : qWd) (k : qKd) (m0 j u aj au U : Nat) (x1j x1u : Option Nat) (hz : zQ cy h x mk sl bl kr vr Ed fs bd br eb Im Xb g S (o, a, k)) (hI : ∀ i, i < 28 → qOk (S i).1 (S i).2.1) (hLn : ∀ i, i < 28 → (S i).2.1.length ≤ 1000) (hV : qWv Bd sk Rn dp (o, a, k)) (hm0 : oMq o = nI m0) (hm9 : m0 ≤ 20000) (hj : j < 24) (hu : u < 24) (faj : h aj = some (.inr (2, [.int (nI 3), va_rf x1j, .null, .null, .null, .int 0]))) (fau : h au = some (.inr (2, [.int (nI 3), va_rf x1u, .null, .null, .null, .int 0]))) (zvj : zV cy h Im (zOk Ed eb S) mk g (S j) x1j none none none 0) (zvu : zV cy h Im (zOk Ed eb S) mk g (S u) x1u none none none 0) (hkj : (S j).1 = nI 3) (hku : (S u).1 = nI 3) (hqj : (S j).2.1.length ≤ U) (hqu : (S u).2.1.length ≤ U) (hU : U ≤ 64) : qC l D cy N0 yX6_joinedTrees cX6_joinedTrees 4 (some (.object RX2)) 45 1100 (212 * U + 20) (1272 * U + 100) [.ref x, .ref aj, .ref au] h (fun v h' => xJc false (S j).2.1 (S u).2.1 ≤ 1000 ∧ m0 + (zAm (S j) + zAm (S u)) ≤ 20000 ∧ ∃ (qh : Nat) (r8 : Option Nat) (n8 : Nat), v = some (.ref qh) ∧ h' qh = some (.inr (2, [.int (nI 3), va_rf r8, .null, .null, .null, .int 0])) ∧ zQ cy h' x mk sl bl kr vr Ed fs bd br eb Im Xb g S (oMv o (nI (m0 + (zAm (S j) + zAm (S u)))), a, k) ∧ zFr h h' x sl kr vr bd br Xb ∧ qBr h' n8 r8 (xJn 3 false (S j).2.1 (S u).2.1)) (fun E h' => E = "java/lang/IndexOutOfBoundsException" ∧ (1000 < xJc false (S j).2.1 (S u).2.1 ∨ ¬ m0 + (zAm (S j) + zAm (S u)) ≤ 20000) ∧ zQ cy h' x mk sl bl kr vr Ed fs bd br eb Im Xb g S (o, a, k) ∧ zFr h h' x sl kr vr bd br Xb) := by
  refine q_ofW (by decide) (by exact Nat.le_of_ble_eq_true rfl) ?_
  intro p e s m below meth c ls C hP hl
  have hx := C.1
  have hb := C.2.1
  have hS : va_S (qA N0) s.heap s.heap [] := va_S.rf
  have hl : lv_has ls 4 [(0, .ref x), (1, .ref aj), (2, .ref au)] := hl
  have hf : zFr h h x sl kr vr bd br Xb := zFr.rf
  have hlj := hLn j (by omega)
  have hlu := hLn u (by omega)
  obtain ⟨-, -, -, -, nj, hbj⟩ := zvj.tree hkj
  have hnj14 : nj ≤ 14 := hbj.h14 (by omega)
  have hsoj : qSo (S j).2.1 := qSo_of ((hI j (by omega)).1 (Or.inl hkj)) ((hI j (by omega)).2.1 (Or.inr (Or.inr hkj)))
  have hnoj : qNo (S j).2.1 := (hI j (by omega)).2.1 (Or.inr (Or.inr hkj))
  have hamj : zAm (S j) = (S j).2.1.length := zAm_n (fun y => absurd (hkj.symm.trans y) (by decide))
  obtain ⟨-, -, -, -, nu, hbu⟩ := zvu.tree hku
  have hnu14 : nu ≤ 14 := hbu.h14 (by omega)
  have hsou : qSo (S u).2.1 := qSo_of ((hI u (by omega)).1 (Or.inl hku)) ((hI u (by omega)).2.1 (Or.inr (Or.inr hku)))
  have hnou : qNo (S u).2.1 := (hI u (by omega)).2.1 (Or.inr (Or.inr hku))
  have hamu : zAm (S u) = (S u).2.1.length := zAm_n (fun y => absurd (hku.symm.trans y) (by decide))
  have hcc := xJc_tree hnoj hnou
  refine lv_aload_n hx hb dX6_joinedTrees_0 rfl (lv_at hl 1 rfl) ?_
  obtain ⟨t1j, t2j, t3j, f1j, f2j, f3j, etj⟩ := zvj.size
  refine q_callV (rest := []) C (c_X2_amount l D cy N0 h aj (nI 3) 0 t1j t2j t3j x1j none none none faj f1j f2j f3j) kX2_amount g222 g223 rfl g224 g10 hP hS faj (by first | decide | omega) hl.1 rfl (by decide) (by first | decide | omega) dX6_joinedTrees_1 (fun q ce E h' H1 locs1 hE => hE.elim) (fun v hh1 H locs hq hP hS => ?_)
  obtain ⟨rfl, rfl⟩ := hq
  rw [← etj]
  refine lv_aload_n hx hb dX6_joinedTrees_4 rfl (lv_at hl 2 rfl) ?_
  obtain ⟨t1u, t2u, t3u, f1u, f2u, f3u, etu⟩ := zvu.size
  refine q_callV (rest := [.int (nI (zAm (S j)))]) C (c_X2_amount l D cy N0 h au (nI 3) 0 t1u t2u t3u x1u none none none fau f1u f2u f3u) kX2_amount g222 g223 rfl g224 g10 hP hS fau (by first | decide | omega) hl.1 rfl (by simp [q_catrf, q_cati, q_catl, q_cata, q_catn]) (by first | decide | omega) dX6_joinedTrees_5 (fun q ce E h' H1 locs1 hE => hE.elim) (fun v hh2 H locs hq hP hS => ?_)
  obtain ⟨rfl, rfl⟩ := hq
  rw [← etu]
  refine q_iaddN hx hb dX6_joinedTrees_8 ?_
  refine lv_istore_n (lv' := [(3, .int (nI ((zAm (S j)) + (zAm (S u))))), (0, .ref x), (1, .ref aj), (2, .ref au)]) hx hb dX6_joinedTrees_9 rfl hl (by decide) rfl (fun ls hl => ?_)
  refine lv_iload_n hx hb dX6_joinedTrees_10 rfl (lv_at hl 0 rfl) ?_
  refine lv_aload_n hx hb dX6_joinedTrees_11 rfl (lv_at hl 2 rfl) ?_
  refine q_get C hP faj rfl inX2 1 (by decide) g195 rfl dX6_joinedTrees_12 ?_
  refine lv_aload_n hx hb dX6_joinedTrees_15 rfl (lv_at hl 3 rfl) ?_
  refine q_get C hP fau rfl inX2 1 (by decide) g195 rfl dX6_joinedTrees_16 ?_
  refine q_callSN (host := RX6) (rest := [.int (nI ((zAm (S j)) + (zAm (S u))))]) C (c_X0_commonKeys l D cy N0 (nj + 1) h x1j x1u nj nu (S j).2.1 (S u).2.1 hbj hbu (by omega) (by omega) hsou (by omega)) kX0_commonKeys (by decide +kernel) g853 hP hS (by first | decide | omega) hl.1 rfl (by simp [q_catrf, q_cati, q_catl, q_cata, q_catn]) (by first | decide | omega) dX6_joinedTrees_19 (fun v hh3 H locs hq hP hS => ?_)
  obtain ⟨rfl, rfl⟩ := hq
  refine q_isubN hx hb dX6_joinedTrees_22 (by omega) ?_
  refine q_callS (rest := []) C (c_X6_needRoom l D cy N0 h (nI ((((zAm (S j)) + (zAm (S u))) - (qCom (S j).2.1 (S u).2.1))))) kX6_needRoom g324 g325 hP hS (by first | decide | omega) hl.1 rfl (by decide) (by first | decide | omega) dX6_joinedTrees_23 (fun q ce E h' H1 locs1 hE hP hS hc1 hc2 hc3 => by obtain ⟨rfl, rfl, hw9⟩ := hE; replace hw9 : ¬ (((zAm (S j)) + (zAm (S u))) - (qCom (S j).2.1 (S u).2.1)) ≤ 1000 := fun z => hw9 ((nI_leI (a := (((zAm (S j)) + (zAm (S u))) - (qCom (S j).2.1 (S u).2.1))) (b := 1000) (by omega) (by omega)).mpr z); exact q_out C hP hS hc1 hc2 hc3 ⟨rfl, Or.inl (by omega), hz, hf⟩ (by omega)) (fun v hh4 H locs hq hP hS => ?_)
  obtain ⟨rfl, rfl, hw9⟩ := hq
  replace hw9 := (nI_leI (a := (((zAm (S j)) + (zAm (S u))) - (qCom (S j).2.1 (S u).2.1))) (b := 1000) (by omega) (by omega)).mp hw9
  refine lv_aload_n hx hb dX6_joinedTrees_26 rfl (lv_at hl 1 rfl) ?_
  refine lv_iload_n hx hb dX6_joinedTrees_27 rfl (lv_at hl 0 rfl) ?_
  refine q_callV (rest := []) C (c_X6_takeMoves l D cy N0 h x sl bl kr vr mk (oCq (o, a, k).1) (oMq (o, a, k).1) (nI Ed) fs (nI (zAm (S j) + zAm (S u))) hz.1.1 hz.2.1.1) kX6_takeMoves g641 g643 rfl gp15 g1 hP hS hz.1.1 (by first | decide | omega) hl.1 rfl (by decide) (by first | decide | omega) dX6_joinedTrees_28 (fun q ce E h' H1 locs1 hE hP hS hc1 hc2 hc3 => by obtain ⟨rfl, rfl, hn9⟩ := hE; replace hn9 : ¬ m0 + (zAm (S j) + zAm (S u)) ≤ 20000 := fun z => hn9 (by rw [show oMq (o, a, k).1 = nI m0 from hm0]; exact (zmvs hm9 (by omega)).mpr z); exact q_out C hP hS hc1 hc2 hc3 ⟨rfl, Or.inr hn9, hz, hf⟩ (by omega)) (fun v hh5 H locs hq hP hS => ?_)
  obtain ⟨rfl, rfl, hmv⟩ := hq
  have hmv2 : m0 + (zAm (S j) + zAm (S u)) ≤ 20000 := (zmvs hm9 (by omega)).mp (by rw [← hm0]; exact hmv)
  rw [show oMq (o, a, k).1 = nI m0 from hm0, nI_add] at hP
  replace hP : qP D N0 (qs h x (.inr (6, [.int mk, .ref sl, .ref bl, .ref kr, .ref vr, .int (oCq (o, a, k).1), .int (nI (m0 + (zAm (S j) + zAm (S u)))), .int (nI Ed)]))) H := hP
  replace faj := (qs_ne (h := h) (a := x) (o := (.inr (6, [.int mk, .ref sl, .ref bl, .ref kr, .ref vr, .int (oCq (o, a, k).1), .int (nI (m0 + (zAm (S j) + zAm (S u)))), .int (nI Ed)]))) (fun z => by rw [z, hz.1.1] at faj; simp at faj)).trans faj
  replace fau := (qs_ne (h := h) (a := x) (o := (.inr (6, [.int mk, .ref sl, .ref bl, .ref kr, .ref vr, .int (oCq (o, a, k).1), .int (nI (m0 + (zAm (S j) + zAm (S u)))), .int (nI Ed)]))) (fun z => by rw [z, hz.1.1] at fau; simp at fau)).trans fau
  replace zvj := zvj.up (o := .inr (6, [.int mk, .ref sl, .ref bl, .ref kr, .ref vr, .int (oCq (o, a, k).1), .int (nI (m0 + (zAm (S j) + zAm (S u)))), .int (nI Ed)])) hz.1.1 (fun b y => (hz.2.2.2.2.2.1 b (Or.inl y)).1)
  replace zvu := zvu.up (o := .inr (6, [.int mk, .ref sl, .ref bl, .ref kr, .ref vr, .int (oCq (o, a, k).1), .int (nI (m0 + (zAm (S j) + zAm (S u)))), .int (nI Ed)])) hz.1.1 (fun b y => (hz.2.2.2.2.2.1 b (Or.inl y)).1)
  replace hbj := hbj.seto (o := .inr (6, [.int mk, .ref sl, .ref bl, .ref kr, .ref vr, .int (oCq (o, a, k).1), .int (nI (m0 + (zAm (S j) + zAm (S u)))), .int (nI Ed)])) hz.1.1 (by decide)
  replace hbu := hbu.seto (o := .inr (6, [.int mk, .ref sl, .ref bl, .ref kr, .ref vr, .int (oCq (o, a, k).1), .int (nI (m0 + (zAm (S j) + zAm (S u)))), .int (nI Ed)])) hz.1.1 (by decide)
  replace hf := hf.trs (zFr.set (o' := .inr (6, [.int mk, .ref sl, .ref bl, .ref kr, .ref vr, .int (oCq (o, a, k).1), .int (nI (m0 + (zAm (S j) + zAm (S u)))), .int (nI Ed)])) hz.1.1 (Or.inl rfl))
  replace hz : zQ cy (qs h x (.inr (6, [.int mk, .ref sl, .ref bl, .ref kr, .ref vr, .int (oCq (o, a, k).1), .int (nI (m0 + (zAm (S j) + zAm (S u)))), .int (nI Ed)]))) x mk sl bl kr vr Ed fs bd br eb Im Xb g S (oMv o (nI (m0 + (zAm (S j) + zAm (S u)))), a, k) := hz.mv hV
  replace hV := hV.mvs hm0 (M2 := m0 + (zAm (S j) + zAm (S u))) ⟨by omega, by omega⟩ hmv2
  replace hV : qWv Bd sk Rn dp (oMv o (nI (m0 + (zAm (S j) + zAm (S u)))), a, k) := hV
  refine lv_aload_n hx hb dX6_joinedTrees_31 rfl (lv_at hl 2 rfl) ?_
  refine q_get C hP faj rfl inX2 0 (by decide) g192 rfl dX6_joinedTrees_32 ?_
  refine lv_aload_n hx hb dX6_joinedTrees_35 rfl (lv_at hl 2 rfl) ?_
  refine q_get C hP faj rfl inX2 1 (by decide) g195 rfl dX6_joinedTrees_36 ?_
  refine lv_aload_n hx hb dX6_joinedTrees_39 rfl (lv_at hl 3 rfl) ?_
  refine q_get C hP fau rfl inX2 1 (by decide) g195 rfl dX6_joinedTrees_40 ?_
  refine q_callSN (host := RX6) (rest := [.int (nI 3)]) C (c_X0_united l D cy N0 (nu + 1) (qs h x (.inr (6, [.int mk, .ref sl, .ref bl, .ref kr, .ref vr, .int (oCq (o, a, k).1), .int (nI (m0 + (zAm (S j) + zAm (S u)))), .int (nI Ed)]))) x1j x1u nj nu (S j).2.1 (S u).2.1 hbj hbu (by omega) (by omega) hsoj hsou (by omega)) kX0_united (by decide +kernel) g857 hP hS (by first | decide | omega) hl.1 rfl (by simp [q_catrf, q_cati, q_catl, q_cata, q_catn]) (by first | decide | omega) dX6_joinedTrees_43 (fun v hh6 H locs hq hP hS => ?_)
  obtain ⟨r8, n8, R8, rfl, hle8, hb8, hun⟩ := hq
  rw [← xJn_tree hsoj hsou hun] at hb8
  replace faj := hle8 _ _ faj
  replace fau := hle8 _ _ fau
  replace zvj := zvj.le hle8
  replace zvu := zvu.le hle8
  replace hbj := hbj.le hle8
  replace hbu := hbu.le hle8
  replace hf := hf.trs (zFr.le hle8 (qle.dom hle8))
  replace hz := hz.le hV hle8 (qle.dom hle8)
  refine q_callS (rest := []) C (c_X2_ofTree l D cy N0 hh6 (nI 3) r8) kX2_ofTree g516 g517 hP hS (by first | decide | omega) hl.1 rfl (by decide) (by first | decide | omega) dX6_joinedTrees_46 (fun q ce E h' H1 locs1 hE => hE.elim) (fun v hh7 H locs hq hP hS => ?_)
  obtain ⟨qh, rfl, oqh, rfl⟩ := hq
  replace hP : qP D N0 (qs hh6 qh (.inr (2, [.int (nI 3), va_rf r8, .null, .null, .null, .int 0]))) H := hP
  have hleh : qle hh6 (qs hh6 qh (.inr (2, [.int (nI 3), va_rf r8, .null, .null, .null, .int 0]))) := qle_new oqh
  replace faj := hleh _ _ faj
  replace fau := hleh _ _ fau
  replace zvj := zvj.le hleh
  replace zvu := zvu.le hleh
  replace hbj := hbj.le hleh
  replace hbu := hbu.le hleh
  replace hb8 := hb8.le hleh
  replace hf := hf.trs (zFr.le hleh (qle.dom hleh))
  replace hz := hz.le hV hleh (qle.dom hleh)
  have fqh : (qs hh6 qh (.inr (2, [.int (nI 3), va_rf r8, .null, .null, .null, .int 0]))) qh = some (.inr (2, [.int (nI 3), va_rf r8, .null, .null, .null, .int 0])) := qs_self
  exact q_aret (v := some qh) C (Or.inl ⟨_, rfl⟩) hP hS ⟨by omega, hmv2, qh, r8, n8, rfl, fqh, hz, hf, hb8⟩ (by omega) dX6_joinedTrees_49
