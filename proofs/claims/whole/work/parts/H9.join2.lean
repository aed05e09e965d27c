theorem thP_put {L : qKV} {k v : Int64} : thP L k v = xPut 1 false L k v := by
  unfold thP xPut
  cases c : xHas L k
  · rw [if_neg (by decide), if_neg (fun z => by cases z.2), if_neg (by decide)]
  · rw [if_pos rfl, if_pos ⟨rfl, rfl⟩]
theorem xJn_take {L T : qKV} {i : Nat} {p : Int64 × Int64} (e : T[i]? = some p) : xJn 1 false L (T.take (i + 1)) = thP (xJn 1 false L (T.take i)) p.1 p.2 := by
  rw [take_s e, thP_put]
  exact xJn_snoc (k := p.1) (v := p.2)
theorem xJn_lel {kd : Int32} : ∀ (M L : qKV), (xJn kd false L M).length ≤ L.length + M.length
  | [], L => Nat.le_refl _
  | p :: M, L => by
    show (xJn kd false (xPut kd false L p.1 p.2) M).length ≤ _
    have := xJn_lel (kd := kd) M (xPut kd false L p.1 p.2)
    rw [xPut_len] at this
    rw [List.length_cons]
    split at this <;> omega
theorem dX6_joinedTries_0 : decode cX6_joinedTries 0 = .ok (.aload_n 2, 1) := by decide +kernel
theorem dX6_joinedTries_1 : decode cX6_joinedTries 1 = .ok (.invokevirtual 59, 3) := by decide +kernel
theorem dX6_joinedTries_4 : decode cX6_joinedTries 4 = .ok (.istore_n 3, 1) := by decide +kernel
theorem dX6_joinedTries_5 : decode cX6_joinedTries 5 = .ok (.aload_n 2, 1) := by decide +kernel
theorem dX6_joinedTries_6 : decode cX6_joinedTries 6 = .ok (.getfield 66, 3) := by decide +kernel
theorem dX6_joinedTries_9 : decode cX6_joinedTries 9 = .ok (.aload_n 0, 1) := by decide +kernel
theorem dX6_joinedTries_10 : decode cX6_joinedTries 10 = .ok (.getfield 21, 3) := by decide +kernel
theorem dX6_joinedTries_13 : decode cX6_joinedTries 13 = .ok (.iconst 0, 1) := by decide +kernel
theorem dX6_joinedTries_14 : decode cX6_joinedTries 14 = .ok (.invokestatic 242, 3) := by decide +kernel
theorem dX6_joinedTries_17 : decode cX6_joinedTries 17 = .ok (.pop, 1) := by decide +kernel
theorem dX6_joinedTries_18 : decode cX6_joinedTries 18 = .ok (.aload_n 2, 1) := by decide +kernel
theorem dX6_joinedTries_19 : decode cX6_joinedTries 19 = .ok (.getfield 66, 3) := by decide +kernel
theorem dX6_joinedTries_22 : decode cX6_joinedTries 22 = .ok (.aload_n 0, 1) := by decide +kernel
theorem dX6_joinedTries_23 : decode cX6_joinedTries 23 = .ok (.getfield 25, 3) := by decide +kernel
theorem dX6_joinedTries_26 : decode cX6_joinedTries 26 = .ok (.iconst 0, 1) := by decide +kernel
theorem dX6_joinedTries_27 : decode cX6_joinedTries 27 = .ok (.invokestatic 313, 3) := by decide +kernel
theorem dX6_joinedTries_30 : decode cX6_joinedTries 30 = .ok (.pop, 1) := by decide +kernel
theorem dX6_joinedTries_31 : decode cX6_joinedTries 31 = .ok (.aload_n 0, 1) := by decide +kernel
theorem dX6_joinedTries_32 : decode cX6_joinedTries 32 = .ok (.aload_n 1, 1) := by decide +kernel
theorem dX6_joinedTries_33 : decode cX6_joinedTries 33 = .ok (.getfield 66, 3) := by decide +kernel
theorem dX6_joinedTries_36 : decode cX6_joinedTries 36 = .ok (.iload_n 3, 1) := by decide +kernel
theorem dX6_joinedTries_37 : decode cX6_joinedTries 37 = .ok (.invokevirtual 435, 3) := by decide +kernel
theorem dX6_joinedTries_40 : decode cX6_joinedTries 40 = .ok (.aload_n 0, 1) := by decide +kernel
theorem dX6_joinedTries_41 : decode cX6_joinedTries 41 = .ok (.aload_n 1, 1) := by decide +kernel
theorem dX6_joinedTries_42 : decode cX6_joinedTries 42 = .ok (.invokevirtual 59, 3) := by decide +kernel
theorem dX6_joinedTries_45 : decode cX6_joinedTries 45 = .ok (.iload_n 3, 1) := by decide +kernel
theorem dX6_joinedTries_46 : decode cX6_joinedTries 46 = .ok (.iadd, 1) := by decide +kernel
theorem dX6_joinedTries_47 : decode cX6_joinedTries 47 = .ok (.invokevirtual 218, 3) := by decide +kernel
theorem dX6_joinedTries_50 : decode cX6_joinedTries 50 = .ok (.aload_n 1, 1) := by decide +kernel
theorem dX6_joinedTries_51 : decode cX6_joinedTries 51 = .ok (.getfield 66, 3) := by decide +kernel
theorem dX6_joinedTries_54 : decode cX6_joinedTries 54 = .ok (.ifnonnull 5, 3) := by decide +kernel
theorem dX6_joinedTries_57 : decode cX6_joinedTries 57 = .ok (.aload_n 2, 1) := by decide +kernel
theorem dX6_joinedTries_58 : decode cX6_joinedTries 58 = .ok (.areturn, 1) := by decide +kernel
theorem dX6_joinedTries_59 : decode cX6_joinedTries 59 = .ok (.aload_n 0, 1) := by decide +kernel
theorem dX6_joinedTries_60 : decode cX6_joinedTries 60 = .ok (.invokevirtual 70, 3) := by decide +kernel
theorem dX6_joinedTries_63 : decode cX6_joinedTries 63 = .ok (.istore 4, 2) := by decide +kernel
theorem dX6_joinedTries_65 : decode cX6_joinedTries 65 = .ok (.aload_n 1, 1) := by decide +kernel
theorem dX6_joinedTries_66 : decode cX6_joinedTries 66 = .ok (.getfield 66, 3) := by decide +kernel
theorem dX6_joinedTries_69 : decode cX6_joinedTries 69 = .ok (.astore 5, 2) := by decide +kernel
theorem dX6_joinedTries_71 : decode cX6_joinedTries 71 = .ok (.iconst 0, 1) := by decide +kernel
theorem dX6_joinedTries_72 : decode cX6_joinedTries 72 = .ok (.istore 6, 2) := by decide +kernel
theorem dX6_joinedTries_74 : decode cX6_joinedTries 74 = .ok (.iload 6, 2) := by decide +kernel
theorem dX6_joinedTries_76 : decode cX6_joinedTries 76 = .ok (.iload_n 3, 1) := by decide +kernel
theorem dX6_joinedTries_77 : decode cX6_joinedTries 77 = .ok (.if_icmp .ge 36, 3) := by decide +kernel
theorem dX6_joinedTries_80 : decode cX6_joinedTries 80 = .ok (.aload 5, 2) := by decide +kernel
theorem dX6_joinedTries_82 : decode cX6_joinedTries 82 = .ok (.iload 4, 2) := by decide +kernel
theorem dX6_joinedTries_84 : decode cX6_joinedTries 84 = .ok (.aload_n 0, 1) := by decide +kernel
theorem dX6_joinedTries_85 : decode cX6_joinedTries 85 = .ok (.getfield 34, 3) := by decide +kernel
theorem dX6_joinedTries_88 : decode cX6_joinedTries 88 = .ok (.aload_n 0, 1) := by decide +kernel
theorem dX6_joinedTries_89 : decode cX6_joinedTries 89 = .ok (.getfield 21, 3) := by decide +kernel
theorem dX6_joinedTries_92 : decode cX6_joinedTries 92 = .ok (.iload 6, 2) := by decide +kernel
theorem dX6_joinedTries_94 : decode cX6_joinedTries 94 = .ok (.laload, 1) := by decide +kernel
theorem dX6_joinedTries_95 : decode cX6_joinedTries 95 = .ok (.aload_n 0, 1) := by decide +kernel
theorem dX6_joinedTries_96 : decode cX6_joinedTries 96 = .ok (.getfield 25, 3) := by decide +kernel
theorem dX6_joinedTries_99 : decode cX6_joinedTries 99 = .ok (.iload 6, 2) := by decide +kernel
theorem dX6_joinedTries_101 : decode cX6_joinedTries 101 = .ok (.laload, 1) := by decide +kernel
theorem dX6_joinedTries_102 : decode cX6_joinedTries 102 = .ok (.invokestatic 417, 3) := by decide +kernel
theorem dX6_joinedTries_105 : decode cX6_joinedTries 105 = .ok (.astore 5, 2) := by decide +kernel
theorem dX6_joinedTries_107 : decode cX6_joinedTries 107 = .ok (.iinc 6 1, 3) := by decide +kernel
theorem dX6_joinedTries_110 : decode cX6_joinedTries 110 = .ok (.goto (-36), 3) := by decide +kernel
theorem dX6_joinedTries_113 : decode cX6_joinedTries 113 = .ok (.aload_n 1, 1) := by decide +kernel
theorem dX6_joinedTries_114 : decode cX6_joinedTries 114 = .ok (.getfield 63, 3) := by decide +kernel
theorem dX6_joinedTries_117 : decode cX6_joinedTries 117 = .ok (.aload 5, 2) := by decide +kernel
theorem dX6_joinedTries_119 : decode cX6_joinedTries 119 = .ok (.invokestatic 77, 3) := by decide +kernel
theorem dX6_joinedTries_122 : decode cX6_joinedTries 122 = .ok (.areturn, 1) := by decide +kernel
set_option maxRecDepth 100000 in
set_option maxHeartbeats 4000000 in
theorem z_joinedTries (l : Launch) (D : va_G) (cy : Nat → ClassId) (N0 : Nat) (h : qH) (x : Nat) (mk : Int32) (sl bl kr vr Ed : Nat) (fs : Nat → Option Nat) (bd br eb : Nat → Nat) (Im : Nat → Prop) (Xb : Nat → Nat → Prop) (g : Nat → Nat) (S : Nat → qSlot) (Bd sk Rn : Nat) (dp : Nat → Nat) (o : qYf) (a : qWd) (k : qKd) (gr : Int32) (m0 j u aj au U : Nat) (x2j x2u : Option Nat) (hz : zQ cy h x mk sl bl kr vr Ed fs bd br eb Im Xb g S (o, a, k)) (hI : ∀ i, i < 28 → qOk (S i).1 (S i).2.1) (hLn : ∀ i, i < 28 → (S i).2.1.length ≤ 1000) (hV : qWv Bd sk Rn dp (o, a, k)) (hm0 : oMq o = nI m0) (hm9 : m0 ≤ 20000) (hj : j < 24) (hu : u < 24) (faj : h aj = some (.inr (2, [.int (S j).1, .null, va_rf x2j, .null, .null, .int 0]))) (fau : h au = some (.inr (2, [.int (S u).1, .null, va_rf x2u, .null, .null, .int 0]))) (zvj : zV cy h Im (zOk Ed eb S) mk g (S j) none x2j none none 0) (zvu : zV cy h Im (zOk Ed eb S) mk g (S u) none x2u none none 0) (hkj : (S j).1 = 1 ∨ (S j).1 = 2) (hku : (S u).1 = (S j).1) (hmk : qMk gr = mk) (hAl : ∀ k, xAl gr (S j).2.1 k ≤ 16) (hqj : (S j).2.1.length ≤ U) (hqu : (S u).2.1.length ≤ U) (hU : U ≤ 64) (hE9 : Ed + 1 < 1000) : qC l D cy N0 yX6_joinedTries cX6_joinedTries 7 (some (.object RX2)) 30 2100 (50 * U + 200) (U * (aMs (2 * U) 7 + 20) + 900) [.ref x, .ref aj, .ref au] h (fun v h' => (∀ k, zAk mk (zSv (S j)) k + zNa mk (zSv (S j)) (thT mk 7 (zSv (S u))) (thH mk k) ≤ 16) ∧ (zSv (S j)).length + zNf (zSv (S j)) (thT mk 7 (zSv (S u))) ≤ 1000 ∧ m0 + (zAm (S j) + (zSv (S u)).length) ≤ 20000 ∧ ((v = some (.ref au) ∧ zSv (S j) = [] ∧ h' au = some (.inr (2, [.int (S u).1, .null, va_rf x2u, .null, .null, .int 0])) ∧ zQ cy h' x mk sl bl kr vr Ed fs bd br eb Im Xb g S (oMv o (nI (m0 + (zAm (S j) + (zSv (S u)).length))), a, k) ∧ zFr h h' x sl kr vr bd br Xb ∧ zV cy h' Im (zOk Ed eb S) mk g (S u) none x2u none none 0) ∨ ∃ (qh : Nat) (x8 : Option Nat) (Im3 : Nat → Prop), v = some (.ref qh) ∧ h' qh = some (.inr (2, [.int (S j).1, .null, va_rf x8, .null, .null, .int 0])) ∧ zQ cy h' x mk sl bl kr vr (Ed + 1) fs bd br eb Im3 Xb g S (oMv o (nI (m0 + (zAm (S j) + (zSv (S u)).length))), a, k) ∧ zFr h h' x sl kr vr bd br Xb ∧ qRt cy h' Im3 0 (zOk (Ed + 1) eb S) mk x8 (zSv ((S j).1, xJn (S j).1 false (S j).2.1 (S u).2.1, (S j).2.2)) (fun _ => False) ∧ ∀ b, Im3 b → Im b ∨ h b = none)) (fun E h' => E = "java/lang/IndexOutOfBoundsException" ∧ ((∃ p ∈ (thT mk 7 (zSv (S u))), 16 < zAk mk (zSv (S j)) p.1 + zNa mk (zSv (S j)) (thT mk 7 (zSv (S u))) (thH mk p.1)) ∨ 1000 < (zSv (S j)).length + zNf (zSv (S j)) (thT mk 7 (zSv (S u))) ∨ ¬ m0 + (zAm (S j) + (zSv (S u)).length) ≤ 20000) ∧ zQ cy h' x mk sl bl kr vr Ed fs bd br eb Im Xb g S (o, a, k) ∧ zFr h h' x sl kr vr bd br Xb) := by
  refine q_ofW (by decide) (by exact Nat.le_of_ble_eq_true rfl) ?_
  intro p e s m below meth c ls C hP hl
  have hx := C.1
  have hb := C.2.1
  have hS : va_S (qA N0) s.heap s.heap [] := va_S.rf
  have hl : lv_has ls 7 [(0, .ref x), (1, .ref aj), (2, .ref au)] := hl
  have hf : zFr h h x sl kr vr bd br Xb := zFr.rf
  have hlj := hLn j (by omega)
  have hlu := hLn u (by omega)
  have hkk2 : (S u).1 = 1 ∨ (S u).1 = 2 := by rw [hku]; exact hkj
  have hRj := (zvj.hash hkj).2.2.2.2
  have hnoj : qNo (S j).2.1 := (hI j (by omega)).2.1 (hkj.elim Or.inl (fun z => Or.inr (Or.inl z)))
  have hn6j : ¬ (S j).1 = 6 := fun z => hkj.elim (fun y => absurd (y.symm.trans z) (by decide)) (fun y => absurd (y.symm.trans z) (by decide))
  have hRu := (zvu.hash hkk2).2.2.2.2
  have hnou : qNo (S u).2.1 := (hI u (by omega)).2.1 (hkk2.elim Or.inl (fun z => Or.inr (Or.inl z)))
  have hn6u : ¬ (S u).1 = 6 := fun z => hkk2.elim (fun y => absurd (y.symm.trans z) (by decide)) (fun y => absurd (y.symm.trans z) (by decide))
  have hamj : zAm (S j) = (S j).2.1.length := zAm_n hn6j
  have hamu : zAm (S u) = (zSv (S u)).length := by rw [zSv_len]; exact zAm_n hn6u
  have hzlu := zSv_len (s := S u)
  have hzlj := zSv_len (s := S j)
  have h16 : ∀ k, zAk mk (zSv (S j)) k ≤ 16 := fun k => by unfold zAk; rw [zfilt hmk, zSv_al]; exact hAl k
  refine lv_aload_n hx hb dX6_joinedTries_0 rfl (lv_at hl 2 rfl) ?_
  obtain ⟨t1u, t2u, t3u, f1u, f2u, f3u, etu⟩ := zvu.size
  refine q_callV (rest := []) C (c_X2_amount l D cy N0 h au ((S u).1) 0 t1u t2u t3u none x2u none none fau f1u f2u f3u) kX2_amount g222 g223 rfl g224 g10 hP hS fau (by first | decide | omega) hl.1 rfl (by decide) (by first | decide | omega) dX6_joinedTries_1 (fun q ce E h' H1 locs1 hE => hE.elim) (fun v hh1 H locs hq hP hS => ?_)
  obtain ⟨rfl, rfl⟩ := hq
  rw [← etu]
  rw [hamu]
  refine lv_istore_n (lv' := [(3, .int (nI (zSv (S u)).length)), (0, .ref x), (1, .ref aj), (2, .ref au)]) hx hb dX6_joinedTries_4 rfl hl (by decide) rfl (fun ls hl => ?_)
  refine lv_aload_n hx hb dX6_joinedTries_5 rfl (lv_at hl 3 rfl) ?_
  refine q_get C hP fau rfl inX2 2 (by decide) g198 rfl dX6_joinedTries_6 ?_
  refine lv_aload_n hx hb dX6_joinedTries_9 rfl (lv_at hl 1 rfl) ?_
  refine q_get C hP hz.1.1 rfl inX6 3 (by decide) g71 rfl dX6_joinedTries_10 ?_
  refine lv_iconst (v := nI 0) hx hb dX6_joinedTries_13 (by decide) ?_
  obtain ⟨f0k, hf0k⟩ := hz.2.1.2.2.1
  refine q_callSN (host := RX6) (rest := []) C (z_pourKeys l D cy N0 h Im 0 (zOk Ed eb S) mk x2u (zSv (S u)) (fun _ => False) kr f0k hRu ⟨fun z => (hz.2.2.2.2.2.1 _ (Or.inl z)).2.2.2.1 rfl, id⟩ hf0k (by rw [zSv_len]; omega)) kX3_pourKeys (by decide +kernel) g865 hP hS (by first | decide | omega) hl.1 rfl (by decide) (by first | decide | omega) dX6_joinedTries_14 (fun v hh2 H locs hq hP hS => ?_)
  obtain ⟨rfl, rfl⟩ := hq
  replace hP : qP D N0 (qs h kr (.inl (cy 1, 1000, .inr (.inl (qPour f0k 0 ((thT mk 7 (zSv (S u))).map Prod.fst)))))) H := hP
  replace faj := (qs_ne (h := h) (a := kr) (o := (.inl (cy 1, 1000, .inr (.inl (qPour f0k 0 ((thT mk 7 (zSv (S u))).map Prod.fst)))))) (fun z => by rw [z, hz.2.1.2.2.1.choose_spec] at faj; simp at faj)).trans faj
  replace fau := (qs_ne (h := h) (a := kr) (o := (.inl (cy 1, 1000, .inr (.inl (qPour f0k 0 ((thT mk 7 (zSv (S u))).map Prod.fst)))))) (fun z => by rw [z, hz.2.1.2.2.1.choose_spec] at fau; simp at fau)).trans fau
  replace zvj := zvj.row (y' := (cy 1, 1000, .inr (.inl (qPour f0k 0 ((thT mk 7 (zSv (S u))).map Prod.fst))))) hz.2.1.2.2.1.choose_spec (fun b y => (hz.2.2.2.2.2.1 b (Or.inl y)).2.2.2.1)
  replace zvu := zvu.row (y' := (cy 1, 1000, .inr (.inl (qPour f0k 0 ((thT mk 7 (zSv (S u))).map Prod.fst))))) hz.2.1.2.2.1.choose_spec (fun b y => (hz.2.2.2.2.2.1 b (Or.inl y)).2.2.2.1)
  replace hRj := hRj.keep (h' := qs h kr (.inl (cy 1, 1000, .inr (.inl (qPour f0k 0 ((thT mk 7 (zSv (S u))).map Prod.fst)))))) (fun b o e y => (qs_ne (hz.2.2.2.2.2.1 b (Or.inl (y.resolve_right id))).2.2.2.1).trans e)
  replace hRu := hRu.keep (h' := qs h kr (.inl (cy 1, 1000, .inr (.inl (qPour f0k 0 ((thT mk 7 (zSv (S u))).map Prod.fst)))))) (fun b o e y => (qs_ne (hz.2.2.2.2.2.1 b (Or.inl (y.resolve_right id))).2.2.2.1).trans e)
  replace hf := hf.trs (zFr.set (o' := .inl (cy 1, 1000, .inr (.inl (qPour f0k 0 ((thT mk 7 (zSv (S u))).map Prod.fst))))) hz.2.1.2.2.1.choose_spec (Or.inr (Or.inr (Or.inl rfl))))
  replace hz := hz.rowk hV (qPour f0k 0 ((thT mk 7 (zSv (S u))).map Prod.fst))
  have hkr9 : (qs h kr (.inl (cy 1, 1000, .inr (.inl (qPour f0k 0 ((thT mk 7 (zSv (S u))).map Prod.fst)))))) kr = some (.inl (cy 1, 1000, .inr (.inl (qPour f0k 0 ((thT mk 7 (zSv (S u))).map Prod.fst))))) := qs_self
  refine lv_pop hx hb dX6_joinedTries_17 rfl ?_
  refine lv_aload_n hx hb dX6_joinedTries_18 rfl (lv_at hl 3 rfl) ?_
  refine q_get C hP fau rfl inX2 2 (by decide) g198 rfl dX6_joinedTries_19 ?_
  refine lv_aload_n hx hb dX6_joinedTries_22 rfl (lv_at hl 1 rfl) ?_
  refine q_get C hP hz.1.1 rfl inX6 4 (by decide) g72 rfl dX6_joinedTries_23 ?_
  refine lv_iconst (v := nI 0) hx hb dX6_joinedTries_26 (by decide) ?_
  obtain ⟨f0v, hf0v⟩ := hz.2.1.2.2.2
  refine q_callSN (host := RX6) (rest := []) C (z_pourValues l D cy N0 (qs h kr (.inl (cy 1, 1000, .inr (.inl (qPour f0k 0 ((thT mk 7 (zSv (S u))).map Prod.fst)))))) Im 0 (zOk Ed eb S) mk x2u (zSv (S u)) (fun _ => False) vr f0v hRu ⟨fun z => (hz.2.2.2.2.2.1 _ (Or.inl z)).2.2.2.2.1 rfl, id⟩ hf0v (by rw [zSv_len]; omega)) kX3_pourValues (by decide +kernel) g869 hP hS (by first | decide | omega) hl.1 rfl (by decide) (by first | decide | omega) dX6_joinedTries_27 (fun v hh3 H locs hq hP hS => ?_)
  obtain ⟨rfl, rfl⟩ := hq
  replace hP : qP D N0 (qs (qs h kr (.inl (cy 1, 1000, .inr (.inl (qPour f0k 0 ((thT mk 7 (zSv (S u))).map Prod.fst)))))) vr (.inl (cy 1, 1000, .inr (.inl (qPour f0v 0 ((thT mk 7 (zSv (S u))).map Prod.snd)))))) H := hP
  replace faj := (qs_ne (h := (qs h kr (.inl (cy 1, 1000, .inr (.inl (qPour f0k 0 ((thT mk 7 (zSv (S u))).map Prod.fst))))))) (a := vr) (o := (.inl (cy 1, 1000, .inr (.inl (qPour f0v 0 ((thT mk 7 (zSv (S u))).map Prod.snd)))))) (fun z => by rw [z, hz.2.1.2.2.2.choose_spec] at faj; simp at faj)).trans faj
  replace fau := (qs_ne (h := (qs h kr (.inl (cy 1, 1000, .inr (.inl (qPour f0k 0 ((thT mk 7 (zSv (S u))).map Prod.fst))))))) (a := vr) (o := (.inl (cy 1, 1000, .inr (.inl (qPour f0v 0 ((thT mk 7 (zSv (S u))).map Prod.snd)))))) (fun z => by rw [z, hz.2.1.2.2.2.choose_spec] at fau; simp at fau)).trans fau
  replace hkr9 := (qs_ne (h := (qs h kr (.inl (cy 1, 1000, .inr (.inl (qPour f0k 0 ((thT mk 7 (zSv (S u))).map Prod.fst))))))) (a := vr) (o := (.inl (cy 1, 1000, .inr (.inl (qPour f0v 0 ((thT mk 7 (zSv (S u))).map Prod.snd)))))) hz.2.2.2.2.1.1).trans hkr9
  replace zvj := zvj.row (y' := (cy 1, 1000, .inr (.inl (qPour f0v 0 ((thT mk 7 (zSv (S u))).map Prod.snd))))) hz.2.1.2.2.2.choose_spec (fun b y => (hz.2.2.2.2.2.1 b (Or.inl y)).2.2.2.2.1)
  replace zvu := zvu.row (y' := (cy 1, 1000, .inr (.inl (qPour f0v 0 ((thT mk 7 (zSv (S u))).map Prod.snd))))) hz.2.1.2.2.2.choose_spec (fun b y => (hz.2.2.2.2.2.1 b (Or.inl y)).2.2.2.2.1)
  replace hRj := hRj.keep (h' := qs (qs h kr (.inl (cy 1, 1000, .inr (.inl (qPour f0k 0 ((thT mk 7 (zSv (S u))).map Prod.fst)))))) vr (.inl (cy 1, 1000, .inr (.inl (qPour f0v 0 ((thT mk 7 (zSv (S u))).map Prod.snd)))))) (fun b o e y => (qs_ne (hz.2.2.2.2.2.1 b (Or.inl (y.resolve_right id))).2.2.2.2.1).trans e)
  replace hRu := hRu.keep (h' := qs (qs h kr (.inl (cy 1, 1000, .inr (.inl (qPour f0k 0 ((thT mk 7 (zSv (S u))).map Prod.fst)))))) vr (.inl (cy 1, 1000, .inr (.inl (qPour f0v 0 ((thT mk 7 (zSv (S u))).map Prod.snd)))))) (fun b o e y => (qs_ne (hz.2.2.2.2.2.1 b (Or.inl (y.resolve_right id))).2.2.2.2.1).trans e)
  replace hf := hf.trs (zFr.set (o' := .inl (cy 1, 1000, .inr (.inl (qPour f0v 0 ((thT mk 7 (zSv (S u))).map Prod.snd))))) hz.2.1.2.2.2.choose_spec (Or.inr (Or.inr (Or.inr rfl))))
  replace hz := hz.rowv hV (qPour f0v 0 ((thT mk 7 (zSv (S u))).map Prod.snd))
  have hvr9 : (qs (qs h kr (.inl (cy 1, 1000, .inr (.inl (qPour f0k 0 ((thT mk 7 (zSv (S u))).map Prod.fst)))))) vr (.inl (cy 1, 1000, .inr (.inl (qPour f0v 0 ((thT mk 7 (zSv (S u))).map Prod.snd)))))) vr = some (.inl (cy 1, 1000, .inr (.inl (qPour f0v 0 ((thT mk 7 (zSv (S u))).map Prod.snd))))) := qs_self
  refine lv_pop hx hb dX6_joinedTries_30 rfl ?_
  refine lv_aload_n hx hb dX6_joinedTries_31 rfl (lv_at hl 1 rfl) ?_
  refine lv_aload_n hx hb dX6_joinedTries_32 rfl (lv_at hl 2 rfl) ?_
  refine q_get C hP faj rfl inX2 2 (by decide) g198 rfl dX6_joinedTries_33 ?_
  refine lv_iload_n hx hb dX6_joinedTries_36 rfl (lv_at hl 0 rfl) ?_
  refine q_callV (rest := []) C (z_needRoomForRow l D cy N0 (qs (qs h kr (.inl (cy 1, 1000, .inr (.inl (qPour f0k 0 ((thT mk 7 (zSv (S u))).map Prod.fst)))))) vr (.inl (cy 1, 1000, .inr (.inl (qPour f0v 0 ((thT mk 7 (zSv (S u))).map Prod.snd)))))) x sl bl kr vr mk (oCq o) (oMq o) (nI Ed) f0k (qPour f0k 0 ((thT mk 7 (zSv (S u))).map Prod.fst)) Im (zOk Ed eb S) (fun _ => False) 0 x2j (zSv (S j)) (zSv (S u)) hz.1.1 hkr9 rfl hRj (by omega) (by omega) h16) kX6_needRoomForRow g872 g874 rfl gp24 g1 hP hS hz.1.1 (by first | decide | omega) hl.1 rfl (by decide) (by first | decide | omega) dX6_joinedTries_37 (fun q ce E h' H1 locs1 hE hP hS hc1 hc2 hc3 => by obtain ⟨rfl, rfl, hw9⟩ := hE; exact q_out C hP hS hc1 hc2 hc3 ⟨rfl, hw9.elim Or.inl (fun z => Or.inr (Or.inl z)), hz, hf⟩ (by omega)) (fun v hh4 H locs hq hP hS => ?_)
  obtain ⟨rfl, rfl, hro1, hro2⟩ := hq
  refine lv_aload_n hx hb dX6_joinedTries_40 rfl (lv_at hl 1 rfl) ?_
  refine lv_aload_n hx hb dX6_joinedTries_41 rfl (lv_at hl 2 rfl) ?_
  obtain ⟨t1j, t2j, t3j, f1j, f2j, f3j, etj⟩ := zvj.size
  refine q_callV (rest := [.ref x]) C (c_X2_amount l D cy N0 (qs (qs h kr (.inl (cy 1, 1000, .inr (.inl (qPour f0k 0 ((thT mk 7 (zSv (S u))).map Prod.fst)))))) vr (.inl (cy 1, 1000, .inr (.inl (qPour f0v 0 ((thT mk 7 (zSv (S u))).map Prod.snd)))))) aj ((S j).1) 0 t1j t2j t3j none x2j none none faj f1j f2j f3j) kX2_amount g222 g223 rfl g224 g10 hP hS faj (by first | decide | omega) hl.1 rfl (by simp [q_catrf, q_cati, q_catl, q_cata, q_catn]) (by first | decide | omega) dX6_joinedTries_42 (fun q ce E h' H1 locs1 hE => hE.elim) (fun v hh5 H locs hq hP hS => ?_)
  obtain ⟨rfl, rfl⟩ := hq
  rw [← etj]
  refine lv_iload_n hx hb dX6_joinedTries_45 rfl (lv_at hl 0 rfl) ?_
  refine q_iaddN hx hb dX6_joinedTries_46 ?_
  refine q_callV (rest := []) C (c_X6_takeMoves l D cy N0 (qs (qs h kr (.inl (cy 1, 1000, .inr (.inl (qPour f0k 0 ((thT mk 7 (zSv (S u))).map Prod.fst)))))) vr (.inl (cy 1, 1000, .inr (.inl (qPour f0v 0 ((thT mk 7 (zSv (S u))).map Prod.snd)))))) x sl bl kr vr mk (oCq (o, a, k).1) (oMq (o, a, k).1) (nI Ed) fs (nI (zAm (S j) + (zSv (S u)).length)) hz.1.1 hz.2.1.1) kX6_takeMoves g641 g643 rfl gp15 g1 hP hS hz.1.1 (by first | decide | omega) hl.1 rfl (by decide) (by first | decide | omega) dX6_joinedTries_47 (fun q ce E h' H1 locs1 hE hP hS hc1 hc2 hc3 => by obtain ⟨rfl, rfl, hn9⟩ := hE; replace hn9 : ¬ m0 + (zAm (S j) + (zSv (S u)).length) ≤ 20000 := fun z => hn9 (by rw [show oMq (o, a, k).1 = nI m0 from hm0]; exact (zmvs hm9 (by omega)).mpr z); exact q_out C hP hS hc1 hc2 hc3 ⟨rfl, Or.inr (Or.inr hn9), hz, hf⟩ (by omega)) (fun v hh6 H locs hq hP hS => ?_)
  obtain ⟨rfl, rfl, hmv⟩ := hq
  have hmv2 : m0 + (zAm (S j) + (zSv (S u)).length) ≤ 20000 := (zmvs hm9 (by omega)).mp (by rw [← hm0]; exact hmv)
  rw [show oMq (o, a, k).1 = nI m0 from hm0, nI_add] at hP
  replace hP : qP D N0 (qs (qs (qs h kr (.inl (cy 1, 1000, .inr (.inl (qPour f0k 0 ((thT mk 7 (zSv (S u))).map Prod.fst)))))) vr (.inl (cy 1, 1000, .inr (.inl (qPour f0v 0 ((thT mk 7 (zSv (S u))).map Prod.snd)))))) x (.inr (6, [.int mk, .ref sl, .ref bl, .ref kr, .ref vr, .int (oCq (o, a, k).1), .int (nI (m0 + (zAm (S j) + (zSv (S u)).length))), .int (nI Ed)]))) H := hP
  replace faj := (qs_ne (h := (qs (qs h kr (.inl (cy 1, 1000, .inr (.inl (qPour f0k 0 ((thT mk 7 (zSv (S u))).map Prod.fst)))))) vr (.inl (cy 1, 1000, .inr (.inl (qPour f0v 0 ((thT mk 7 (zSv (S u))).map Prod.snd))))))) (a := x) (o := (.inr (6, [.int mk, .ref sl, .ref bl, .ref kr, .ref vr, .int (oCq (o, a, k).1), .int (nI (m0 + (zAm (S j) + (zSv (S u)).length))), .int (nI Ed)]))) (fun z => by rw [z, hz.1.1] at faj; simp at faj)).trans faj
  replace fau := (qs_ne (h := (qs (qs h kr (.inl (cy 1, 1000, .inr (.inl (qPour f0k 0 ((thT mk 7 (zSv (S u))).map Prod.fst)))))) vr (.inl (cy 1, 1000, .inr (.inl (qPour f0v 0 ((thT mk 7 (zSv (S u))).map Prod.snd))))))) (a := x) (o := (.inr (6, [.int mk, .ref sl, .ref bl, .ref kr, .ref vr, .int (oCq (o, a, k).1), .int (nI (m0 + (zAm (S j) + (zSv (S u)).length))), .int (nI Ed)]))) (fun z => by rw [z, hz.1.1] at fau; simp at fau)).trans fau
  replace hkr9 := (qs_ne (h := (qs (qs h kr (.inl (cy 1, 1000, .inr (.inl (qPour f0k 0 ((thT mk 7 (zSv (S u))).map Prod.fst)))))) vr (.inl (cy 1, 1000, .inr (.inl (qPour f0v 0 ((thT mk 7 (zSv (S u))).map Prod.snd))))))) (a := x) (o := (.inr (6, [.int mk, .ref sl, .ref bl, .ref kr, .ref vr, .int (oCq (o, a, k).1), .int (nI (m0 + (zAm (S j) + (zSv (S u)).length))), .int (nI Ed)]))) (qne_cl hkr9 hz.1.1)).trans hkr9
  replace hvr9 := (qs_ne (h := (qs (qs h kr (.inl (cy 1, 1000, .inr (.inl (qPour f0k 0 ((thT mk 7 (zSv (S u))).map Prod.fst)))))) vr (.inl (cy 1, 1000, .inr (.inl (qPour f0v 0 ((thT mk 7 (zSv (S u))).map Prod.snd))))))) (a := x) (o := (.inr (6, [.int mk, .ref sl, .ref bl, .ref kr, .ref vr, .int (oCq (o, a, k).1), .int (nI (m0 + (zAm (S j) + (zSv (S u)).length))), .int (nI Ed)]))) (qne_cl hvr9 hz.1.1)).trans hvr9
  replace zvj := zvj.up (o := .inr (6, [.int mk, .ref sl, .ref bl, .ref kr, .ref vr, .int (oCq (o, a, k).1), .int (nI (m0 + (zAm (S j) + (zSv (S u)).length))), .int (nI Ed)])) hz.1.1 (fun b y => (hz.2.2.2.2.2.1 b (Or.inl y)).1)
  replace zvu := zvu.up (o := .inr (6, [.int mk, .ref sl, .ref bl, .ref kr, .ref vr, .int (oCq (o, a, k).1), .int (nI (m0 + (zAm (S j) + (zSv (S u)).length))), .int (nI Ed)])) hz.1.1 (fun b y => (hz.2.2.2.2.2.1 b (Or.inl y)).1)
  replace hRj := hRj.keep (h' := qs (qs (qs h kr (.inl (cy 1, 1000, .inr (.inl (qPour f0k 0 ((thT mk 7 (zSv (S u))).map Prod.fst)))))) vr (.inl (cy 1, 1000, .inr (.inl (qPour f0v 0 ((thT mk 7 (zSv (S u))).map Prod.snd)))))) x (.inr (6, [.int mk, .ref sl, .ref bl, .ref kr, .ref vr, .int (oCq (o, a, k).1), .int (nI (m0 + (zAm (S j) + (zSv (S u)).length))), .int (nI Ed)]))) (fun b o e y => (qs_ne (hz.2.2.2.2.2.1 b (Or.inl (y.resolve_right id))).1).trans e)
  replace hRu := hRu.keep (h' := qs (qs (qs h kr (.inl (cy 1, 1000, .inr (.inl (qPour f0k 0 ((thT mk 7 (zSv (S u))).map Prod.fst)))))) vr (.inl (cy 1, 1000, .inr (.inl (qPour f0v 0 ((thT mk 7 (zSv (S u))).map Prod.snd)))))) x (.inr (6, [.int mk, .ref sl, .ref bl, .ref kr, .ref vr, .int (oCq (o, a, k).1), .int (nI (m0 + (zAm (S j) + (zSv (S u)).length))), .int (nI Ed)]))) (fun b o e y => (qs_ne (hz.2.2.2.2.2.1 b (Or.inl (y.resolve_right id))).1).trans e)
  replace hf := hf.trs (zFr.set (o' := .inr (6, [.int mk, .ref sl, .ref bl, .ref kr, .ref vr, .int (oCq (o, a, k).1), .int (nI (m0 + (zAm (S j) + (zSv (S u)).length))), .int (nI Ed)])) hz.1.1 (Or.inl rfl))
  replace hz : zQ cy (qs (qs (qs h kr (.inl (cy 1, 1000, .inr (.inl (qPour f0k 0 ((thT mk 7 (zSv (S u))).map Prod.fst)))))) vr (.inl (cy 1, 1000, .inr (.inl (qPour f0v 0 ((thT mk 7 (zSv (S u))).map Prod.snd)))))) x (.inr (6, [.int mk, .ref sl, .ref bl, .ref kr, .ref vr, .int (oCq (o, a, k).1), .int (nI (m0 + (zAm (S j) + (zSv (S u)).length))), .int (nI Ed)]))) x mk sl bl kr vr Ed fs bd br eb Im Xb g S (oMv o (nI (m0 + (zAm (S j) + (zSv (S u)).length))), a, k) := hz.mv hV
  replace hV := hV.mvs hm0 (M2 := m0 + (zAm (S j) + (zSv (S u)).length)) ⟨by omega, by omega⟩ hmv2
  replace hV : qWv Bd sk Rn dp (oMv o (nI (m0 + (zAm (S j) + (zSv (S u)).length))), a, k) := hV
  have hRj0 := hRj
  rcases hRj0 with ⟨rfl, hej⟩ | ⟨at9, rfl, hnj, -⟩
  · refine lv_aload_n hx hb dX6_joinedTries_50 rfl (lv_at hl 2 rfl) ?_
    refine q_get C hP faj rfl inX2 2 (by decide) g198 rfl dX6_joinedTries_51 ?_
    refine lv_ifnonnullN hx hb dX6_joinedTries_54 ?_
    refine lv_aload_n hx hb dX6_joinedTries_57 rfl (lv_at hl 3 rfl) ?_
    exact q_aret (v := some au) C (Or.inl ⟨_, rfl⟩) hP hS ⟨hro1, hro2, hmv2, Or.inl ⟨rfl, hej, fau, hz, hf, zvu⟩⟩ (by omega) dX6_joinedTries_58
  · refine lv_aload_n hx hb dX6_joinedTries_50 rfl (lv_at hl 2 rfl) ?_
    refine q_get C hP faj rfl inX2 2 (by decide) g198 rfl dX6_joinedTries_51 ?_
    refine lv_ifnonnull (tgt := 59) hx hb dX6_joinedTries_54 (by decide) ?_
    refine lv_aload_n hx hb dX6_joinedTries_59 rfl (lv_at hl 1 rfl) ?_
    refine q_callV (rest := []) C (c_X6_nextEdit l D cy N0 (qs (qs (qs h kr (.inl (cy 1, 1000, .inr (.inl (qPour f0k 0 ((thT mk 7 (zSv (S u))).map Prod.fst)))))) vr (.inl (cy 1, 1000, .inr (.inl (qPour f0v 0 ((thT mk 7 (zSv (S u))).map Prod.snd)))))) x (.inr (6, [.int mk, .ref sl, .ref bl, .ref kr, .ref vr, .int (oCq (o, a, k).1), .int (nI (m0 + (zAm (S j) + (zSv (S u)).length))), .int (nI Ed)]))) x sl bl kr vr mk (oCq (oMv o (nI (m0 + (zAm (S j) + (zSv (S u)).length))), a, k).1) (oMq (oMv o (nI (m0 + (zAm (S j) + (zSv (S u)).length))), a, k).1) (nI Ed) fs hz.1.1 hz.2.1.1) kX6_nextEdit g285 g287 rfl gp3 g1 hP hS hz.1.1 (by first | decide | omega) hl.1 rfl (by decide) (by first | decide | omega) dX6_joinedTries_60 (fun q ce E h' H1 locs1 hE => hE.elim) (fun v hh7 H locs hq hP hS => ?_)
    have heb : ∀ b, b < 4 → ((S (24 + b)).1 = 1 ∨ (S (24 + b)).1 = 2) → eb b ≤ Ed := fun b hb y => (hz.2.2.2.2.2.2.2.2.1 b hb y).1
    obtain ⟨rfl, rfl⟩ := hq
    rw [nI_1 Ed] at hP
    rw [nI_1 Ed]
    replace hP : qP D N0 (qs (qs (qs (qs h kr (.inl (cy 1, 1000, .inr (.inl (qPour f0k 0 ((thT mk 7 (zSv (S u))).map Prod.fst)))))) vr (.inl (cy 1, 1000, .inr (.inl (qPour f0v 0 ((thT mk 7 (zSv (S u))).map Prod.snd)))))) x (.inr (6, [.int mk, .ref sl, .ref bl, .ref kr, .ref vr, .int (oCq (o, a, k).1), .int (nI (m0 + (zAm (S j) + (zSv (S u)).length))), .int (nI Ed)]))) x (.inr (6, [.int mk, .ref sl, .ref bl, .ref kr, .ref vr, .int (oCq (oMv o (nI (m0 + (zAm (S j) + (zSv (S u)).length))), a, k).1), .int (oMq (oMv o (nI (m0 + (zAm (S j) + (zSv (S u)).length))), a, k).1), .int (nI (Ed + 1))]))) H := hP
    have hRe : qRt cy (qs (qs (qs (qs h kr (.inl (cy 1, 1000, .inr (.inl (qPour f0k 0 ((thT mk 7 (zSv (S u))).map Prod.fst)))))) vr (.inl (cy 1, 1000, .inr (.inl (qPour f0v 0 ((thT mk 7 (zSv (S u))).map Prod.snd)))))) x (.inr (6, [.int mk, .ref sl, .ref bl, .ref kr, .ref vr, .int (oCq (o, a, k).1), .int (nI (m0 + (zAm (S j) + (zSv (S u)).length))), .int (nI Ed)]))) x (.inr (6, [.int mk, .ref sl, .ref bl, .ref kr, .ref vr, .int (oCq (oMv o (nI (m0 + (zAm (S j) + (zSv (S u)).length))), a, k).1), .int (oMq (oMv o (nI (m0 + (zAm (S j) + (zSv (S u)).length))), a, k).1), .int (nI (Ed + 1))]))) Im (Ed + 1) (zOk Ed eb S) mk (some at9) (zSv (S j)) (fun _ => False) := hRj.go.keep (fun b o e y => (qs_ne (hz.2.2.2.2.2.1 b (Or.inl (y.resolve_right id))).1).trans e)
    replace faj := (qs_ne (h := (qs (qs (qs h kr (.inl (cy 1, 1000, .inr (.inl (qPour f0k 0 ((thT mk 7 (zSv (S u))).map Prod.fst)))))) vr (.inl (cy 1, 1000, .inr (.inl (qPour f0v 0 ((thT mk 7 (zSv (S u))).map Prod.snd)))))) x (.inr (6, [.int mk, .ref sl, .ref bl, .ref kr, .ref vr, .int (oCq (o, a, k).1), .int (nI (m0 + (zAm (S j) + (zSv (S u)).length))), .int (nI Ed)])))) (a := x) (o := (.inr (6, [.int mk, .ref sl, .ref bl, .ref kr, .ref vr, .int (oCq (oMv o (nI (m0 + (zAm (S j) + (zSv (S u)).length))), a, k).1), .int (oMq (oMv o (nI (m0 + (zAm (S j) + (zSv (S u)).length))), a, k).1), .int (nI (Ed + 1))]))) (fun z => by rw [z, hz.1.1] at faj; simp at faj)).trans faj
    replace fau := (qs_ne (h := (qs (qs (qs h kr (.inl (cy 1, 1000, .inr (.inl (qPour f0k 0 ((thT mk 7 (zSv (S u))).map Prod.fst)))))) vr (.inl (cy 1, 1000, .inr (.inl (qPour f0v 0 ((thT mk 7 (zSv (S u))).map Prod.snd)))))) x (.inr (6, [.int mk, .ref sl, .ref bl, .ref kr, .ref vr, .int (oCq (o, a, k).1), .int (nI (m0 + (zAm (S j) + (zSv (S u)).length))), .int (nI Ed)])))) (a := x) (o := (.inr (6, [.int mk, .ref sl, .ref bl, .ref kr, .ref vr, .int (oCq (oMv o (nI (m0 + (zAm (S j) + (zSv (S u)).length))), a, k).1), .int (oMq (oMv o (nI (m0 + (zAm (S j) + (zSv (S u)).length))), a, k).1), .int (nI (Ed + 1))]))) (fun z => by rw [z, hz.1.1] at fau; simp at fau)).trans fau
    replace hkr9 := (qs_ne (h := (qs (qs (qs h kr (.inl (cy 1, 1000, .inr (.inl (qPour f0k 0 ((thT mk 7 (zSv (S u))).map Prod.fst)))))) vr (.inl (cy 1, 1000, .inr (.inl (qPour f0v 0 ((thT mk 7 (zSv (S u))).map Prod.snd)))))) x (.inr (6, [.int mk, .ref sl, .ref bl, .ref kr, .ref vr, .int (oCq (o, a, k).1), .int (nI (m0 + (zAm (S j) + (zSv (S u)).length))), .int (nI Ed)])))) (a := x) (o := (.inr (6, [.int mk, .ref sl, .ref bl, .ref kr, .ref vr, .int (oCq (oMv o (nI (m0 + (zAm (S j) + (zSv (S u)).length))), a, k).1), .int (oMq (oMv o (nI (m0 + (zAm (S j) + (zSv (S u)).length))), a, k).1), .int (nI (Ed + 1))]))) (qne_cl hkr9 hz.1.1)).trans hkr9
    replace hvr9 := (qs_ne (h := (qs (qs (qs h kr (.inl (cy 1, 1000, .inr (.inl (qPour f0k 0 ((thT mk 7 (zSv (S u))).map Prod.fst)))))) vr (.inl (cy 1, 1000, .inr (.inl (qPour f0v 0 ((thT mk 7 (zSv (S u))).map Prod.snd)))))) x (.inr (6, [.int mk, .ref sl, .ref bl, .ref kr, .ref vr, .int (oCq (o, a, k).1), .int (nI (m0 + (zAm (S j) + (zSv (S u)).length))), .int (nI Ed)])))) (a := x) (o := (.inr (6, [.int mk, .ref sl, .ref bl, .ref kr, .ref vr, .int (oCq (oMv o (nI (m0 + (zAm (S j) + (zSv (S u)).length))), a, k).1), .int (oMq (oMv o (nI (m0 + (zAm (S j) + (zSv (S u)).length))), a, k).1), .int (nI (Ed + 1))]))) (qne_cl hvr9 hz.1.1)).trans hvr9
    replace hf := hf.trs (zFr.set (o' := .inr (6, [.int mk, .ref sl, .ref bl, .ref kr, .ref vr, .int (oCq (oMv o (nI (m0 + (zAm (S j) + (zSv (S u)).length))), a, k).1), .int (oMq (oMv o (nI (m0 + (zAm (S j) + (zSv (S u)).length))), a, k).1), .int (nI (Ed + 1))])) hz.1.1 (Or.inl rfl))
    replace hz := hz.up hV hE9
    have hed1 := (hz.2.2.2.2.2.2.2.1 0 (by decide)).no
    refine lv_istore (lv' := [(4, .int (nI (Ed + 1))), (3, .int (nI (zSv (S u)).length)), (0, .ref x), (1, .ref aj), (2, .ref au)]) hx hb dX6_joinedTries_63 hl (by decide) rfl (fun ls hl => ?_)
    refine lv_aload_n hx hb dX6_joinedTries_65 rfl (lv_at hl 3 rfl) ?_
    refine q_get C hP faj rfl inX2 2 (by decide) g198 rfl dX6_joinedTries_66 ?_
    refine lv_astore (lv' := [(5, .ref at9), (4, .int (nI (Ed + 1))), (3, .int (nI (zSv (S u)).length)), (0, .ref x), (1, .ref aj), (2, .ref au)]) hx hb dX6_joinedTries_69 hl (by decide) rfl (fun ls hl => ?_)
    refine lv_iconst (v := nI 0) hx hb dX6_joinedTries_71 (by decide) ?_
    refine lv_istore (lv' := [(6, .int (nI 0)), (5, .ref at9), (4, .int (nI (Ed + 1))), (3, .int (nI (zSv (S u)).length)), (0, .ref x), (1, .ref aj), (2, .ref au)]) hx hb dX6_joinedTries_72 hl (by decide) rfl (fun ls hl => ?_)
    have hTl : (thT mk 7 (zSv (S u))).length = (zSv (S u)).length := thT_len
    refine (?_ : ∀ (t9 q9 : Nat) (H : Heap) (locs : List Loc) (ls : Array Slot) (hh : qH) (xl : Option Nat) (Xl Il : Nat → Prop) (c1 c2 : Nat), (zSv (S u)).length - q9 < t9 → lv_has ls 7 [(6, .int (nI q9)), (5, va_rf xl), (4, .int (nI (Ed + 1))), (3, .int (nI (zSv (S u)).length)), (2, .ref au), (1, .ref aj), (0, .ref x)] → q9 ≤ (zSv (S u)).length → qP D N0 hh H → va_S (qA N0) s.heap H locs → qRt cy hh Il (Ed + 1) (zOk Ed eb S) mk xl (xJn 1 false (zSv (S j)) ((thT mk 7 (zSv (S u))).take q9)) Xl → qEd cy hh Il Xl → qCh (qs (qs (qs (qs h kr (.inl (cy 1, 1000, .inr (.inl (qPour f0k 0 ((thT mk 7 (zSv (S u))).map Prod.fst)))))) vr (.inl (cy 1, 1000, .inr (.inl (qPour f0v 0 ((thT mk 7 (zSv (S u))).map Prod.snd)))))) x (.inr (6, [.int mk, .ref sl, .ref bl, .ref kr, .ref vr, .int (oCq (o, a, k).1), .int (nI (m0 + (zAm (S j) + (zSv (S u)).length))), .int (nI Ed)]))) x (.inr (6, [.int mk, .ref sl, .ref bl, .ref kr, .ref vr, .int (oCq (oMv o (nI (m0 + (zAm (S j) + (zSv (S u)).length))), a, k).1), .int (oMq (oMv o (nI (m0 + (zAm (S j) + (zSv (S u)).length))), a, k).1), .int (nI (Ed + 1))]))) Im (fun _ => False) hh Il Xl → c1 ≤ 50 * q9 + 90 ∧ c2 ≤ q9 * (aMs (2 * U) 7 + 20) + 600 → W p l e _ s m _ below meth c H locs c1 c2 _ (F0 m 74 ls [])) ((zSv (S u)).length + 1) 0 _ _ ls _ (some at9) (fun _ => False) Im _ _ (by omega) (lv_sub hl [0, 1, 2, 3, 6, 5, 4] rfl) (Nat.zero_le _) hP hS hRe hed1 qCh.rf ⟨by omega, by omega⟩
    clear hl hP hS hRe hed1
    intro t9
    induction t9 with
    | zero => intro q9 _ _ _ _ _ _ _ _ _ h; exact absurd h (Nat.not_lt_zero _)
    | succ t9 ihl =>
      intro q9 H locs ls hh xl Xl Il c1 c2 ht9 hl hq9 hP hS hR8 hE8 hC8 hcc
      have hle8 : qle (qs (qs (qs (qs h kr (.inl (cy 1, 1000, .inr (.inl (qPour f0k 0 ((thT mk 7 (zSv (S u))).map Prod.fst)))))) vr (.inl (cy 1, 1000, .inr (.inl (qPour f0v 0 ((thT mk 7 (zSv (S u))).map Prod.snd)))))) x (.inr (6, [.int mk, .ref sl, .ref bl, .ref kr, .ref vr, .int (oCq (o, a, k).1), .int (nI (m0 + (zAm (S j) + (zSv (S u)).length))), .int (nI Ed)]))) x (.inr (6, [.int mk, .ref sl, .ref bl, .ref kr, .ref vr, .int (oCq (oMv o (nI (m0 + (zAm (S j) + (zSv (S u)).length))), a, k).1), .int (oMq (oMv o (nI (m0 + (zAm (S j) + (zSv (S u)).length))), a, k).1), .int (nI (Ed + 1))]))) hh := fun b o e => hC8.1 b o e id
      have l_x := hle8 _ _ hz.1.1
      have l_aj := hle8 _ _ faj
      have l_au := hle8 _ _ fau
      have l_kr := hle8 _ _ hkr9
      have l_vr := hle8 _ _ hvr9
      refine lv_iload hx hb dX6_joinedTries_74 (lv_at hl 0 rfl) ?_
      refine lv_iload_n hx hb dX6_joinedTries_76 rfl (lv_at hl 3 rfl) ?_
      refine lv_icmp_ge (tgt := 113) hx hb dX6_joinedTries_77 (by decide) (fun c77 => ?_) (fun c77 => ?_)
      · replace c77 : ((zSv (S u)).length) ≤ q9 := (nI_leI (a := (zSv (S u)).length) (b := q9) (by omega) (by omega)).mp c77
        obtain rfl : q9 = (zSv (S u)).length := by omega
        rw [show (thT mk 7 (zSv (S u))).take (zSv (S u)).length = (thT mk 7 (zSv (S u))) by rw [← hTl, List.take_length]] at hR8
        have hmm : (zSv (S u)).length * (aMs (2 * U) 7 + 20) ≤ U * (aMs (2 * U) 7 + 20) := Nat.mul_le_mul_right _ (by omega)
        obtain ⟨Im3, hz3, hR3, hi1, hi2⟩ := hz.edit hV heb hR8 hE8 hC8
        have hi3 : ∀ b, Im3 b → Im b ∨ h b = none := fun b z => (hi2 b z).imp id (hf.2 b)
        replace hf := hf.trs (zFr.le hle8 (qle.dom hle8))
        replace hz := hz3
        replace hR3 := hR3.perm (zSv_jn hkj hku hnoj hnou) (xJn_no (Or.inl rfl) _ _ (zSv_no hnoj))
        refine lv_aload_n hx hb dX6_joinedTries_113 rfl (lv_at hl 5 rfl) ?_
        refine q_get C hP l_aj rfl inX2 0 (by decide) g192 rfl dX6_joinedTries_114 ?_
        refine q_aload hx hb dX6_joinedTries_117 (lv_at hl 1 rfl) ?_
        refine q_callS (rest := []) C (c_X2_ofTrie l D cy N0 hh ((S j).1) xl) kX2_ofTrie g437 g438 hP hS (by first | decide | omega) hl.1 rfl (by decide) (by first | decide | omega) dX6_joinedTries_119 (fun q ce E h' H1 locs1 hE => hE.elim) (fun v hh8 H locs hq hP hS => ?_)
        obtain ⟨qh, rfl, oqh, rfl⟩ := hq
        replace hP : qP D N0 (qs hh qh (.inr (2, [.int (S j).1, .null, va_rf xl, .null, .null, .int 0]))) H := hP
        have hleh : qle hh (qs hh qh (.inr (2, [.int (S j).1, .null, va_rf xl, .null, .null, .int 0]))) := qle_new oqh
        replace l_aj := hleh _ _ l_aj
        replace hR3 := hR3.le hleh
        replace hf := hf.trs (zFr.le hleh (qle.dom hleh))
        replace hz := hz.le hV hleh (qle.dom hleh)
        have fqh : (qs hh qh (.inr (2, [.int (S j).1, .null, va_rf xl, .null, .null, .int 0]))) qh = some (.inr (2, [.int (S j).1, .null, va_rf xl, .null, .null, .int 0])) := qs_self
        exact q_aret (v := some qh) C (Or.inl ⟨_, rfl⟩) hP hS ⟨hro1, hro2, hmv2, Or.inr ⟨qh, _, Im3, rfl, fqh, hz, hf, hR3, hi3⟩⟩ (by omega) dX6_joinedTries_122
      · replace c77 : ¬ ((zSv (S u)).length) ≤ q9 := fun zq => c77 ((nI_leI (a := (zSv (S u)).length) (b := q9) (by omega) (by omega)).mpr zq)
        refine q_aload hx hb dX6_joinedTries_80 (lv_at hl 1 rfl) ?_
        refine lv_iload hx hb dX6_joinedTries_82 (lv_at hl 2 rfl) ?_
        refine lv_aload_n hx hb dX6_joinedTries_84 rfl (lv_at hl 6 rfl) ?_
        refine q_get C hP l_x rfl inX6 0 (by decide) g68 rfl dX6_joinedTries_85 ?_
        refine lv_aload_n hx hb dX6_joinedTries_88 rfl (lv_at hl 6 rfl) ?_
        refine q_get C hP l_x rfl inX6 3 (by decide) g71 rfl dX6_joinedTries_89 ?_
        refine lv_iload hx hb dX6_joinedTries_92 (lv_at hl 0 rfl) ?_
        refine q_laldN C hP l_kr (by omega) (by omega) dX6_joinedTries_94 ?_
        refine lv_aload_n hx hb dX6_joinedTries_95 rfl (lv_at hl 6 rfl) ?_
        refine q_get C hP l_x rfl inX6 4 (by decide) g72 rfl dX6_joinedTries_96 ?_
        refine lv_iload hx hb dX6_joinedTries_99 (lv_at hl 0 rfl) ?_
        refine q_laldN C hP l_vr (by omega) (by omega) dX6_joinedTries_101 ?_
        obtain ⟨p9, ep9, ef9⟩ := zrow_at (m := mk) (M := zSv (S u)) (f0 := f0k) rfl (show q9 < (zSv (S u)).length by omega)
        obtain ⟨p8, ep8, ef8⟩ := zrow_av (m := mk) (M := zSv (S u)) (f0 := f0v) rfl (show q9 < (zSv (S u)).length by omega)
        obtain rfl : p9 = p8 := Option.some.inj (ep9.symm.trans ep8)
        have hjl := xJn_lel (kd := 1) ((thT mk 7 (zSv (S u))).take q9) (zSv (S j))
        rw [List.length_take] at hjl
        have hmu := zmul (c := aMs (2 * U) 7 + 20) (show q9 < (zSv (S u)).length by omega)
        have hmu1 := zmul1 (i := q9) (c := aMs (2 * U) 7 + 20)
        have hmm : (zSv (S u)).length * (aMs (2 * U) 7 + 20) ≤ U * (aMs (2 * U) 7 + 20) := Nat.mul_le_mul_right _ (by omega)
        refine q_callS (rest := []) C (c_X3_added l D cy N0 hh Il (Ed + 1) (zOk Ed eb S) mk xl (xJn 1 false (zSv (S j)) ((thT mk 7 (zSv (S u))).take q9)) Xl ((qPour f0k 0 ((thT mk 7 (zSv (S u))).map Prod.fst)) q9) ((qPour f0v 0 ((thT mk 7 (zSv (S u))).map Prod.snd)) q9) (2 * U) hR8 hE8 zOk_no (by omega) (by omega) (by omega) (xJn_no (Or.inl rfl) _ _ (zSv_no hnoj))) kX3_added g350 g351 hP hS (by first | decide | omega) hl.1 rfl (by decide) (by first | decide | omega) dX6_joinedTries_102 (fun q ce E h' H1 locs1 hE => hE.elim) (fun v hh9 H locs hq hP hS => ?_)
        obtain ⟨x2, X2, Im2, rfl, hR2, hE2, hC2⟩ := hq
        rw [ef9, ef8, ← xJn_take ep9] at hR2
        refine q_astore (lv' := [(5, va_rf x2), (6, .int (nI q9)), (4, .int (nI (Ed + 1))), (3, .int (nI (zSv (S u)).length)), (2, .ref au), (1, .ref aj), (0, .ref x)]) hx hb dX6_joinedTries_105 hl (by decide) rfl (fun ls hl => ?_)
        refine lv_iinc (v := nI (q9 + 1)) (lv' := [(6, .int (nI (q9 + 1))), (5, va_rf x2), (4, .int (nI (Ed + 1))), (3, .int (nI (zSv (S u)).length)), (2, .ref au), (1, .ref aj), (0, .ref x)]) hx hb dX6_joinedTries_107 hl (k := 1) rfl (nI_1 q9) (by decide) (by cases x2 <;> rfl) (fun ls hl => ?_)
        refine lv_goto (tgt := 74) hx hb dX6_joinedTries_110 (by decide) ?_
        exact ihl (q9 + 1) H locs ls _ x2 X2 Im2 _ _ (by omega) (lv_sub hl [0, 1, 2, 3, 4, 5, 6] rfl) (by omega) hP hS hR2 hE2 (hC8.tr hC2) ⟨by omega, by omega⟩
