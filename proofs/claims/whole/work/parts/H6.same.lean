theorem zkey_inj : ∀ {A B : qKV}, (∀ p ∈ A, p.2 = 0) → (∀ p ∈ B, p.2 = 0) → A.map Prod.fst = B.map Prod.fst → A = B
  | [], [], _, _, _ => rfl
  | [], _ :: _, _, _, e => by cases e
  | _ :: _, [], _, _, e => by cases e
  | a :: A, b :: B, ha, hb, e => by
    rw [List.map_cons, List.map_cons] at e
    obtain ⟨e1, e2⟩ := List.cons.inj e
    rw [zkey_inj (fun p hp => ha p (List.mem_cons_of_mem _ hp)) (fun p hp => hb p (List.mem_cons_of_mem _ hp)) e2, Prod.ext e1 ((ha a List.mem_cons_self).trans (hb b List.mem_cons_self).symm)]
theorem xSm_n {kd : Int32} {A B : qKV} (hk : ¬ (kd = 1 ∨ kd = 2)) : xSm kd A B = true ↔ A = B := by
  unfold xSm; rw [if_neg hk]; exact decide_eq_true_iff
theorem xSm_seq {kd : Int32} {A B : qKV} (hk : ¬ (kd = 1 ∨ kd = 2)) (ha : ∀ p ∈ A, p.2 = 0) (hb : ∀ p ∈ B, p.2 = 0) : A.map (fun p => ((0 : Int64), p.1)) = B.map (fun p => ((0 : Int64), p.1)) ↔ xSm kd A B = true := by
  rw [xSm_n hk]
  refine ⟨fun e => zkey_inj ha hb ?_, fun e => by rw [e]⟩
  have := congrArg (List.map Prod.snd) e
  rw [List.map_map, List.map_map] at this
  exact this
theorem xSm_key {kd : Int32} {A B : qKV} (hk : ¬ (kd = 1 ∨ kd = 2)) (ha : ∀ p ∈ A, p.2 = 0) (hb : ∀ p ∈ B, p.2 = 0) : A.map Prod.fst = B.map Prod.fst ↔ xSm kd A B = true := by
  rw [xSm_n hk]
  exact ⟨fun e => zkey_inj ha hb e, fun e => by rw [e]⟩
theorem zperm_of : ∀ {A B : qKV}, qNo A → (∀ p ∈ A, p ∈ B) → A.length = B.length → A.Perm B
  | [], B, _, _, e => by cases B with
    | nil => exact List.Perm.refl _
    | cons b B => cases e
  | a :: A, B, hn, hs, e => by
    have hn := List.pairwise_cons.mp hn
    have ha := hs a List.mem_cons_self
    have p1 := List.perm_cons_erase ha
    refine (List.Perm.cons a (zperm_of hn.2 (fun p hp => ?_) ?_)).trans p1.symm
    · exact (List.mem_erase_of_ne (fun z => hn.1 p hp (by rw [z]))).mpr (hs p (List.mem_cons_of_mem _ hp))
    · have := p1.length_eq
      rw [List.length_cons] at this e
      omega
theorem zSv_mem1 {s : qSlot} {p : Int64 × Int64} (h : s.1 = 1) : p ∈ zSv s ↔ p ∈ s.2.1 := by
  unfold zSv; rw [if_neg (by rw [h]; decide)]
theorem xSm_hash {s t : qSlot} (hk : s.1 = 1 ∨ s.1 = 2) (ht : t.1 = s.1) (n1 : qNo s.2.1) (n2 : qNo t.2.1) (z1 : qNo (zSv s)) (z2 : qNo (zSv t)) (l1 : (zSv s).length = s.2.1.length) (l2 : (zSv t).length = t.2.1.length) : (zSv s).Perm (zSv t) ↔ xSm s.1 s.2.1 t.2.1 = true := by
  unfold xSm
  rw [if_pos hk, Bool.and_eq_true, List.all_eq_true, decide_eq_true_iff]
  rcases hk with hk | hk
  · have e1 : zSv s = s.2.1 := by unfold zSv; rw [if_neg (by rw [hk]; decide)]
    have e2 : zSv t = t.2.1 := by unfold zSv; rw [if_neg (by rw [ht, hk]; decide)]
    rw [e1, e2, hk]
    refine ⟨fun p => ⟨p.length_eq, fun q hq => ?_⟩, fun ⟨e, a⟩ => zperm_of n1 (fun q hq => ?_) e⟩
    · have m := p.subset hq
      rw [Bool.and_eq_true, xHas_iff]
      exact ⟨⟨q, m, rfl⟩, by rw [Bool.or_eq_true, decide_eq_true_iff, decide_eq_true_iff]; exact Or.inr (xLook_mem n2 m)⟩
    · have m := a q hq
      rw [Bool.and_eq_true, xHas_iff, Bool.or_eq_true, decide_eq_true_iff, decide_eq_true_iff] at m
      obtain ⟨⟨r, hr, er⟩, m2⟩ := m
      replace m2 := m2.resolve_left (by decide)
      have : xLook t.2.1 r.1 = r.2 := xLook_mem n2 hr
      rw [er, m2] at this
      have : q = r := Prod.ext er.symm this
      rw [this]; exact hr
  · have e1 : zSv s = s.2.1.map (fun p => (p.1, 1)) := by unfold zSv; rw [if_pos hk]
    have e2 : zSv t = t.2.1.map (fun p => (p.1, 1)) := by unfold zSv; rw [if_pos (by rw [ht, hk])]
    refine ⟨fun p => ⟨by rw [← l1, ← l2]; exact p.length_eq, fun q hq => ?_⟩, fun ⟨e, a⟩ => zperm_of z1 (fun q hq => ?_) (by rw [l1, l2]; exact e)⟩
    · have m : (q.1, (1 : Int64)) ∈ zSv t := p.subset (by rw [e1]; exact List.mem_map.mpr ⟨q, hq, rfl⟩)
      rw [e2] at m
      obtain ⟨r, hr, er⟩ := List.mem_map.mp m
      rw [Bool.and_eq_true, xHas_iff]
      exact ⟨⟨r, hr, (Prod.mk.inj er).1⟩, by rw [hk]; rfl⟩
    · rw [e1] at hq
      obtain ⟨r, hr, er⟩ := List.mem_map.mp hq
      have m := a r hr
      rw [Bool.and_eq_true, xHas_iff] at m
      obtain ⟨⟨w, hw, ew⟩, -⟩ := m
      rw [e2, ← er]
      exact List.mem_map.mpr ⟨w, hw, by rw [ew]⟩
theorem zRl_pour {f : Nat → Int64} {M : List Int64} : zRl (qPour f 0 M) M.length = M := by
  apply List.ext_getElem?
  intro j
  by_cases c : j < M.length
  · rw [zRl_get c]
    unfold qPour
    rw [if_pos ⟨Nat.zero_le _, by omega⟩, Nat.sub_zero, List.getD_eq_getElem?_getD, List.getElem?_eq_getElem c]; rfl
  · rw [List.getElem?_eq_none (by rw [zRl_len]; omega), List.getElem?_eq_none (by omega)]
theorem qs2_of {h h' : qH} {a b : Nat} {o1 o2 : va_E} (n : a ≠ b) (e1 : h' a = some o1) (e2 : h' b = some o2) (fr : ∀ z, z ≠ a → z ≠ b → h' z = h z) : h' = qs (qs h a o1) b o2 := funext fun z => by
  by_cases c : z = b
  · rw [c, qs_self, e2]
  · rw [qs_ne c]
    by_cases d : z = a
    · rw [d, qs_self, e1]
    · rw [qs_ne d, fr z d c]
theorem qUp_map {L : qKV} (h : qUp L) : (L.map Prod.fst).Pairwise (fun a b => a.toInt ≤ b.toInt) := List.pairwise_map.mpr h
theorem bHo_63 {kd : Int32} (h : kd ∈ [(-1 : Int32), 0, 1, 2, 3, 4, 5, 6]) (e : bHo kd 63 = true) : kd = nI 0 ∨ kd = nI 1 ∨ kd = nI 2 ∨ kd = nI 3 ∨ kd = nI 4 ∨ kd = nI 5 := by
  simp only [List.mem_cons, List.not_mem_nil, or_false] at h
  rcases h with rfl | rfl | rfl | rfl | rfl | rfl | rfl | rfl <;> revert e <;> decide
theorem bHo_p0 {kd : Int32} (h : kd ∈ [(-1 : Int32), 0, 1, 2, 3, 4, 5, 6]) : (bHo kd 1 = true → kd = nI 0) ∧ (bHo kd 1 = false → ¬ nI 0 = kd) := by
  simp only [List.mem_cons, List.not_mem_nil, or_false] at h
  rcases h with rfl | rfl | rfl | rfl | rfl | rfl | rfl | rfl <;> decide
theorem bHo_p1 {kd : Int32} (h : kd ∈ [(-1 : Int32), 0, 1, 2, 3, 4, 5, 6]) : (bHo kd 2 = true → kd = nI 1) ∧ (bHo kd 2 = false → ¬ nI 1 = kd) := by
  simp only [List.mem_cons, List.not_mem_nil, or_false] at h
  rcases h with rfl | rfl | rfl | rfl | rfl | rfl | rfl | rfl <;> decide
theorem bHo_p2 {kd : Int32} (h : kd ∈ [(-1 : Int32), 0, 1, 2, 3, 4, 5, 6]) : (bHo kd 4 = true → kd = nI 2) ∧ (bHo kd 4 = false → ¬ nI 2 = kd) := by
  simp only [List.mem_cons, List.not_mem_nil, or_false] at h
  rcases h with rfl | rfl | rfl | rfl | rfl | rfl | rfl | rfl <;> decide
theorem bHo_p3 {kd : Int32} (h : kd ∈ [(-1 : Int32), 0, 1, 2, 3, 4, 5, 6]) : (bHo kd 8 = true → kd = nI 3) ∧ (bHo kd 8 = false → ¬ nI 3 = kd) := by
  simp only [List.mem_cons, List.not_mem_nil, or_false] at h
  rcases h with rfl | rfl | rfl | rfl | rfl | rfl | rfl | rfl <;> decide
theorem bHo_p4 {kd : Int32} (h : kd ∈ [(-1 : Int32), 0, 1, 2, 3, 4, 5, 6]) : (bHo kd 16 = true → kd = nI 4) ∧ (bHo kd 16 = false → ¬ nI 4 = kd) := by
  simp only [List.mem_cons, List.not_mem_nil, or_false] at h
  rcases h with rfl | rfl | rfl | rfl | rfl | rfl | rfl | rfl <;> decide
theorem bHo_p5 {kd : Int32} (h : kd ∈ [(-1 : Int32), 0, 1, 2, 3, 4, 5, 6]) : (bHo kd 32 = true → kd = nI 5) ∧ (bHo kd 32 = false → ¬ nI 5 = kd) := by
  simp only [List.mem_cons, List.not_mem_nil, or_false] at h
  rcases h with rfl | rfl | rfl | rfl | rfl | rfl | rfl | rfl <;> decide

set_option maxRecDepth 100000 in
set_option maxHeartbeats 4000000 in
theorem z_alikeNN (l : Launch) (D : va_G) (cy : Nat → ClassId) (N0 : Nat) (h : qH) (b : Nat) : qC l D cy N0 yX3_alike cX3_alike 3 (some .boolean) 1 20 0 0 [.null, .null] h (fun v h' => v = some (.int (nI 1)) ∧ h = h') (fun E h' => False) := by
  refine q_ofW (by decide) (by exact Nat.le_of_ble_eq_true rfl) ?_
  intro p e s m below meth c ls C hP hl
  have hx := C.1
  have hb := C.2.1
  have hS : va_S (qA N0) s.heap s.heap [] := va_S.rf
  have hl : lv_has ls 3 [(0, .null), (1, .null)] := hl
  refine lv_aload_nN hx hb dX3_alike_0 rfl (lv_at hl 0 rfl) ?_
  refine lv_aload_nN hx hb dX3_alike_1 rfl (lv_at hl 1 rfl) ?_
  refine lv_acmp_ne (rx := none) (ry := none) (tgt := 7) hx hb dX3_alike_2 (by decide) (fun c2 => ?_) (fun c2 => ?_)
  · exact absurd rfl c2
  · refine lv_iconst (v := nI 1) hx hb dX3_alike_5 (by decide) ?_
    exact q_zret C hP hS (Or.inr rfl) ⟨rfl, rfl⟩ (by omega) dX3_alike_6

set_option maxRecDepth 100000 in
set_option maxHeartbeats 4000000 in
theorem z_alikeNR (l : Launch) (D : va_G) (cy : Nat → ClassId) (N0 : Nat) (h : qH) (b : Nat) : qC l D cy N0 yX3_alike cX3_alike 3 (some .boolean) 1 20 0 0 [.null, .ref b] h (fun v h' => v = some (.int (nI 0)) ∧ h = h') (fun E h' => False) := by
  refine q_ofW (by decide) (by exact Nat.le_of_ble_eq_true rfl) ?_
  intro p e s m below meth c ls C hP hl
  have hx := C.1
  have hb := C.2.1
  have hS : va_S (qA N0) s.heap s.heap [] := va_S.rf
  have hl : lv_has ls 3 [(0, .null), (1, .ref b)] := hl
  refine lv_aload_nN hx hb dX3_alike_0 rfl (lv_at hl 0 rfl) ?_
  refine lv_aload_n hx hb dX3_alike_1 rfl (lv_at hl 1 rfl) ?_
  refine lv_acmp_ne (rx := none) (ry := some b) (tgt := 7) hx hb dX3_alike_2 (by decide) (fun c2 => ?_) (fun c2 => ?_)
  · refine lv_aload_nN hx hb dX3_alike_7 rfl (lv_at hl 0 rfl) ?_
    refine lv_ifnullN (tgt := 76) hx hb dX3_alike_8 (by decide) ?_
    refine lv_iconst (v := nI 0) hx hb dX3_alike_76 (by decide) ?_
    exact q_zret C hP hS (Or.inl rfl) ⟨rfl, rfl⟩ (by omega) dX3_alike_77
  · first | cases c2 | exact absurd (by simp) c2 | (simp at c2)

set_option maxRecDepth 100000 in
set_option maxHeartbeats 4000000 in
theorem z_alikeRN (l : Launch) (D : va_G) (cy : Nat → ClassId) (N0 : Nat) (h : qH) (b : Nat) : qC l D cy N0 yX3_alike cX3_alike 3 (some .boolean) 1 20 0 0 [.ref b, .null] h (fun v h' => v = some (.int (nI 0)) ∧ h = h') (fun E h' => False) := by
  refine q_ofW (by decide) (by exact Nat.le_of_ble_eq_true rfl) ?_
  intro p e s m below meth c ls C hP hl
  have hx := C.1
  have hb := C.2.1
  have hS : va_S (qA N0) s.heap s.heap [] := va_S.rf
  have hl : lv_has ls 3 [(0, .ref b), (1, .null)] := hl
  refine lv_aload_n hx hb dX3_alike_0 rfl (lv_at hl 0 rfl) ?_
  refine lv_aload_nN hx hb dX3_alike_1 rfl (lv_at hl 1 rfl) ?_
  refine lv_acmp_ne (rx := some b) (ry := none) (tgt := 7) hx hb dX3_alike_2 (by decide) (fun c2 => ?_) (fun c2 => ?_)
  · refine lv_aload_n hx hb dX3_alike_7 rfl (lv_at hl 0 rfl) ?_
    refine lv_ifnull hx hb dX3_alike_8 ?_
    refine lv_aload_nN hx hb dX3_alike_11 rfl (lv_at hl 1 rfl) ?_
    refine lv_ifnullN (tgt := 76) hx hb dX3_alike_12 (by decide) ?_
    refine lv_iconst (v := nI 0) hx hb dX3_alike_76 (by decide) ?_
    exact q_zret C hP hS (Or.inl rfl) ⟨rfl, rfl⟩ (by omega) dX3_alike_77
  · first | cases c2 | exact absurd (by simp) c2 | (simp at c2)
theorem dX6_samePiles_0 : decode cX6_samePiles 0 = .ok (.aload_n 1, 1) := by decide +kernel
theorem dX6_samePiles_1 : decode cX6_samePiles 1 = .ok (.invokestatic 454, 3) := by decide +kernel
theorem dX6_samePiles_4 : decode cX6_samePiles 4 = .ok (.istore_n 3, 1) := by decide +kernel
theorem dX6_samePiles_5 : decode cX6_samePiles 5 = .ok (.iload_n 3, 1) := by decide +kernel
theorem dX6_samePiles_6 : decode cX6_samePiles 6 = .ok (.aload_n 2, 1) := by decide +kernel
theorem dX6_samePiles_7 : decode cX6_samePiles 7 = .ok (.invokestatic 454, 3) := by decide +kernel
theorem dX6_samePiles_10 : decode cX6_samePiles 10 = .ok (.if_icmp .eq 5, 3) := by decide +kernel
theorem dX6_samePiles_13 : decode cX6_samePiles 13 = .ok (.iconst 0, 1) := by decide +kernel
theorem dX6_samePiles_14 : decode cX6_samePiles 14 = .ok (.ireturn, 1) := by decide +kernel
theorem dX6_samePiles_15 : decode cX6_samePiles 15 = .ok (.aload_n 1, 1) := by decide +kernel
theorem dX6_samePiles_16 : decode cX6_samePiles 16 = .ok (.aload_n 0, 1) := by decide +kernel
theorem dX6_samePiles_17 : decode cX6_samePiles 17 = .ok (.getfield 21, 3) := by decide +kernel
theorem dX6_samePiles_20 : decode cX6_samePiles 20 = .ok (.iconst 0, 1) := by decide +kernel
theorem dX6_samePiles_21 : decode cX6_samePiles 21 = .ok (.invokestatic 458, 3) := by decide +kernel
theorem dX6_samePiles_24 : decode cX6_samePiles 24 = .ok (.pop, 1) := by decide +kernel
theorem dX6_samePiles_25 : decode cX6_samePiles 25 = .ok (.aload_n 2, 1) := by decide +kernel
theorem dX6_samePiles_26 : decode cX6_samePiles 26 = .ok (.aload_n 0, 1) := by decide +kernel
theorem dX6_samePiles_27 : decode cX6_samePiles 27 = .ok (.getfield 25, 3) := by decide +kernel
theorem dX6_samePiles_30 : decode cX6_samePiles 30 = .ok (.iconst 0, 1) := by decide +kernel
theorem dX6_samePiles_31 : decode cX6_samePiles 31 = .ok (.invokestatic 458, 3) := by decide +kernel
theorem dX6_samePiles_34 : decode cX6_samePiles 34 = .ok (.pop, 1) := by decide +kernel
theorem dX6_samePiles_35 : decode cX6_samePiles 35 = .ok (.aload_n 0, 1) := by decide +kernel
theorem dX6_samePiles_36 : decode cX6_samePiles 36 = .ok (.getfield 21, 3) := by decide +kernel
theorem dX6_samePiles_39 : decode cX6_samePiles 39 = .ok (.iload_n 3, 1) := by decide +kernel
theorem dX6_samePiles_40 : decode cX6_samePiles 40 = .ok (.invokestatic 462, 3) := by decide +kernel
theorem dX6_samePiles_43 : decode cX6_samePiles 43 = .ok (.aload_n 0, 1) := by decide +kernel
theorem dX6_samePiles_44 : decode cX6_samePiles 44 = .ok (.getfield 25, 3) := by decide +kernel
theorem dX6_samePiles_47 : decode cX6_samePiles 47 = .ok (.iload_n 3, 1) := by decide +kernel
theorem dX6_samePiles_48 : decode cX6_samePiles 48 = .ok (.invokestatic 462, 3) := by decide +kernel
theorem dX6_samePiles_51 : decode cX6_samePiles 51 = .ok (.iconst 0, 1) := by decide +kernel
theorem dX6_samePiles_52 : decode cX6_samePiles 52 = .ok (.istore 4, 2) := by decide +kernel
theorem dX6_samePiles_54 : decode cX6_samePiles 54 = .ok (.iload 4, 2) := by decide +kernel
theorem dX6_samePiles_56 : decode cX6_samePiles 56 = .ok (.iload_n 3, 1) := by decide +kernel
theorem dX6_samePiles_57 : decode cX6_samePiles 57 = .ok (.if_icmp .ge 29, 3) := by decide +kernel
theorem dX6_samePiles_60 : decode cX6_samePiles 60 = .ok (.aload_n 0, 1) := by decide +kernel
theorem dX6_samePiles_61 : decode cX6_samePiles 61 = .ok (.getfield 21, 3) := by decide +kernel
theorem dX6_samePiles_64 : decode cX6_samePiles 64 = .ok (.iload 4, 2) := by decide +kernel
theorem dX6_samePiles_66 : decode cX6_samePiles 66 = .ok (.laload, 1) := by decide +kernel
theorem dX6_samePiles_67 : decode cX6_samePiles 67 = .ok (.aload_n 0, 1) := by decide +kernel
theorem dX6_samePiles_68 : decode cX6_samePiles 68 = .ok (.getfield 25, 3) := by decide +kernel
theorem dX6_samePiles_71 : decode cX6_samePiles 71 = .ok (.iload 4, 2) := by decide +kernel
theorem dX6_samePiles_73 : decode cX6_samePiles 73 = .ok (.laload, 1) := by decide +kernel
theorem dX6_samePiles_74 : decode cX6_samePiles 74 = .ok (.lcmp, 1) := by decide +kernel
theorem dX6_samePiles_75 : decode cX6_samePiles 75 = .ok (.ifCond .eq 5, 3) := by decide +kernel
theorem dX6_samePiles_78 : decode cX6_samePiles 78 = .ok (.iconst 0, 1) := by decide +kernel
theorem dX6_samePiles_79 : decode cX6_samePiles 79 = .ok (.ireturn, 1) := by decide +kernel
theorem dX6_samePiles_80 : decode cX6_samePiles 80 = .ok (.iinc 4 1, 3) := by decide +kernel
theorem dX6_samePiles_83 : decode cX6_samePiles 83 = .ok (.goto (-29), 3) := by decide +kernel
theorem dX6_samePiles_86 : decode cX6_samePiles 86 = .ok (.iconst 1, 1) := by decide +kernel
theorem dX6_samePiles_87 : decode cX6_samePiles 87 = .ok (.ireturn, 1) := by decide +kernel
set_option maxRecDepth 100000 in
set_option maxHeartbeats 4000000 in
theorem z_samePiles (l : Launch) (D : va_G) (cy : Nat → ClassId) (N0 : Nat) (h : qH) (x sl bl kr vr : Nat) (mk ca mv ed : Int32) (f1 f2 : Nat → Int64) (y1 y2 : Option Nat) (i1 i2 : Nat) (M1 M2 L1 L2 : List Int64) (hX : h x = some (.inr (6, [.int mk, .ref sl, .ref bl, .ref kr, .ref vr, .int ca, .int mv, .int ed]))) (hK : h kr = some (.inl (cy 1, 1000, .inr (.inl f1)))) (hV : h vr = some (.inl (cy 1, 1000, .inr (.inl f2)))) (hkv : kr ≠ vr) (hM1 : qPi h i1 y1 M1) (hM2 : qPi h i2 y2 M2) (h1 : M1.length ≤ 1000) (h2 : M2.length ≤ 1000) (hp1 : M1.Perm L1) (hp2 : M2.Perm L2) (u1 : L1.Pairwise (fun a b => a.toInt ≤ b.toInt)) (u2 : L2.Pairwise (fun a b => a.toInt ≤ b.toInt)) : qC l D cy N0 yX6_samePiles cX6_samePiles 5 (some .boolean) 20 400 0 0 [.ref x, va_rf y1, va_rf y2] h (fun v h' => v = some (.int (nI (if L1 = L2 then 1 else 0))) ∧ ∃ g1 g2 : Nat → Int64, h' = qs (qs h kr (.inl (cy 1, 1000, .inr (.inl g1)))) vr (.inl (cy 1, 1000, .inr (.inl g2)))) (fun E h' => False) := by
  refine q_ofW (by decide) (by simp [lg_sl, q_catrf, q_cati, q_catl, q_cata, q_catn]) ?_
  intro p e s m below meth c ls C hP hl
  have hx := C.1
  have hb := C.2.1
  have hS : va_S (qA N0) s.heap s.heap [] := va_S.rf
  have hl : lv_has ls 5 [(0, .ref x), (1, va_rf y1), (2, va_rf y2)] := by simpa [lv_args, q_catrf, q_cati, q_catl, q_cata, q_catn] using hl
  have nkx : kr ≠ x := fun z => by rw [z, hX] at hK; cases hK
  have nvx : vr ≠ x := fun z => by rw [z, hX] at hV; cases hV
  have el1 := hp1.length_eq
  have el2 := hp2.length_eq
  refine q_aload_n hx hb dX6_samePiles_0 rfl (lv_at hl 1 rfl) ?_
  refine q_callS (rest := []) C (c_X4_sizeOf l D cy N0 h y1 (nI M1.length) hM1.fiS) kX4_sizeOf g918 g233 hP hS (by first | decide | omega) hl.1 rfl (by decide) (by first | decide | omega) dX6_samePiles_1 (fun q ce E h' H1 locs1 hE => hE.elim) (fun v hh1 H locs hq hP hS => ?_)
  obtain ⟨rfl, rfl⟩ := hq
  refine lv_istore_n (lv' := [(3, .int (nI M1.length)), (0, .ref x), (1, va_rf y1), (2, va_rf y2)]) hx hb dX6_samePiles_4 rfl hl (by decide) (by cases y2 <;> rfl) (fun ls hl => ?_)
  refine lv_iload_n hx hb dX6_samePiles_5 rfl (lv_at hl 0 rfl) ?_
  refine q_aload_n hx hb dX6_samePiles_6 rfl (lv_at hl 3 rfl) ?_
  refine q_callS (rest := [.int (nI M1.length)]) C (c_X4_sizeOf l D cy N0 h y2 (nI M2.length) hM2.fiS) kX4_sizeOf g918 g233 hP hS (by first | decide | omega) hl.1 rfl (by simp [q_catrf, q_cati, q_catl, q_cata, q_catn]) (by first | decide | omega) dX6_samePiles_7 (fun q ce E h' H1 locs1 hE => hE.elim) (fun v hh2 H locs hq hP hS => ?_)
  obtain ⟨rfl, rfl⟩ := hq
  refine lv_icmp_eq (tgt := 15) hx hb dX6_samePiles_10 (by decide) (fun c10 => ?_) (fun c10 => ?_)
  · replace c10 : (M1.length) = (M2.length) := (nI_eq (a := M1.length) (b := M2.length) (by omega) (by omega)).mp c10
    refine q_aload_n hx hb dX6_samePiles_15 rfl (lv_at hl 2 rfl) ?_
    refine lv_aload_n hx hb dX6_samePiles_16 rfl (lv_at hl 1 rfl) ?_
    refine q_get C hP hX rfl inX6 3 (by decide) g71 rfl dX6_samePiles_17 ?_
    refine lv_iconst (v := nI 0) hx hb dX6_samePiles_20 (by decide) ?_
    refine q_callSN (host := RX6) (rest := []) C (c_X4_pour l D cy N0 11 h y1 kr i1 M1 1000 f1 0 10 hM1 hK (by omega) (by omega) (by omega) (by omega)) kX4_pour (by decide +kernel) g920 hP hS (by first | decide | omega) hl.1 rfl (by decide) (by first | decide | omega) dX6_samePiles_21 (fun v hh3 H locs hq hP hS => ?_)
    obtain ⟨rfl, rfl⟩ := hq
    obtain ⟨ha1, eha1⟩ : ∃ z, qs h kr (.inl (cy 1, 1000, .inr (.inl (qPour f1 0 M1)))) = z := ⟨_, rfl⟩
    rw [eha1] at hP
    have hXa1 : ha1 x = some (.inr (6, [.int mk, .ref sl, .ref bl, .ref kr, .ref vr, .int ca, .int mv, .int ed])) := by rw [← eha1]; exact (qs_ne nkx.symm).trans hX
    have hkra1 : ha1 kr = some (.inl (cy 1, 1000, .inr (.inl (qPour f1 0 M1)))) := by rw [← eha1]; exact qs_self
    have hvra1 : ha1 vr = some (.inl (cy 1, 1000, .inr (.inl f2))) := by rw [← eha1]; exact (qs_ne hkv.symm).trans hV
    have fra1 : ∀ z, z ≠ kr → z ≠ vr → ha1 z = h z := fun z n1 n2 => by rw [← eha1]; exact (qs_ne n1).trans rfl
    replace hM1 : qPi ha1 i1 y1 M1 := by rw [← eha1]; exact hM1.setl hK
    replace hM2 : qPi ha1 i2 y2 M2 := by rw [← eha1]; exact hM2.setl hK
    refine lv_pop hx hb dX6_samePiles_24 rfl ?_
    refine q_aload_n hx hb dX6_samePiles_25 rfl (lv_at hl 3 rfl) ?_
    refine lv_aload_n hx hb dX6_samePiles_26 rfl (lv_at hl 1 rfl) ?_
    refine q_get C hP hXa1 rfl inX6 4 (by decide) g72 rfl dX6_samePiles_27 ?_
    refine lv_iconst (v := nI 0) hx hb dX6_samePiles_30 (by decide) ?_
    refine q_callSN (host := RX6) (rest := []) C (c_X4_pour l D cy N0 11 ha1 y2 vr i2 M2 1000 f2 0 10 hM2 hvra1 (by omega) (by omega) (by omega) (by omega)) kX4_pour (by decide +kernel) g920 hP hS (by first | decide | omega) hl.1 rfl (by decide) (by first | decide | omega) dX6_samePiles_31 (fun v hh4 H locs hq hP hS => ?_)
    obtain ⟨rfl, rfl⟩ := hq
    obtain ⟨ha2, eha2⟩ : ∃ z, qs ha1 vr (.inl (cy 1, 1000, .inr (.inl (qPour f2 0 M2)))) = z := ⟨_, rfl⟩
    rw [eha2] at hP
    have hXa2 : ha2 x = some (.inr (6, [.int mk, .ref sl, .ref bl, .ref kr, .ref vr, .int ca, .int mv, .int ed])) := by rw [← eha2]; exact (qs_ne nvx.symm).trans hXa1
    have hvra2 : ha2 vr = some (.inl (cy 1, 1000, .inr (.inl (qPour f2 0 M2)))) := by rw [← eha2]; exact qs_self
    have hkra2 : ha2 kr = some (.inl (cy 1, 1000, .inr (.inl (qPour f1 0 M1)))) := by rw [← eha2]; exact (qs_ne hkv).trans hkra1
    have fra2 : ∀ z, z ≠ kr → z ≠ vr → ha2 z = h z := fun z n1 n2 => by rw [← eha2]; exact (qs_ne n2).trans (fra1 z n1 n2)
    replace hM1 : qPi ha2 i1 y1 M1 := by rw [← eha2]; exact hM1.setl hvra1
    replace hM2 : qPi ha2 i2 y2 M2 := by rw [← eha2]; exact hM2.setl hvra1
    refine lv_pop hx hb dX6_samePiles_34 rfl ?_
    refine lv_aload_n hx hb dX6_samePiles_35 rfl (lv_at hl 1 rfl) ?_
    refine q_get C hP hXa2 rfl inX6 3 (by decide) g71 rfl dX6_samePiles_36 ?_
    refine lv_iload_n hx hb dX6_samePiles_39 rfl (lv_at hl 0 rfl) ?_
    refine q_callS (rest := []) C (z_sort l D cy N0 ha2 kr 1000 (qPour f1 0 M1) M1.length hkra2 (by omega) (by omega)) kX6_sort g923 g924 hP hS (by first | decide | omega) hl.1 rfl (by decide) (by first | decide | omega) dX6_samePiles_40 (fun q ce E h' H1 locs1 hE => hE.elim) (fun v hh5 H locs hq hP hS => ?_)
    obtain ⟨g1, rfl, rfl, hso1⟩ := hq
    obtain ⟨hb1, ehb1⟩ : ∃ z, qs ha2 kr (.inl (cy 1, 1000, .inr (.inl g1))) = z := ⟨_, rfl⟩
    rw [ehb1] at hP
    have hXb1 : hb1 x = some (.inr (6, [.int mk, .ref sl, .ref bl, .ref kr, .ref vr, .int ca, .int mv, .int ed])) := by rw [← ehb1]; exact (qs_ne nkx.symm).trans hXa2
    have hkrb1 : hb1 kr = some (.inl (cy 1, 1000, .inr (.inl g1))) := by rw [← ehb1]; exact qs_self
    have hvrb1 : hb1 vr = some (.inl (cy 1, 1000, .inr (.inl (qPour f2 0 M2)))) := by rw [← ehb1]; exact (qs_ne hkv.symm).trans hvra2
    have frb1 : ∀ z, z ≠ kr → z ≠ vr → hb1 z = h z := fun z n1 n2 => by rw [← ehb1]; exact (qs_ne n1).trans (fra2 z n1 n2)
    replace hM1 : qPi hb1 i1 y1 M1 := by rw [← ehb1]; exact hM1.setl hkra2
    replace hM2 : qPi hb1 i2 y2 M2 := by rw [← ehb1]; exact hM2.setl hkra2
    refine lv_aload_n hx hb dX6_samePiles_43 rfl (lv_at hl 1 rfl) ?_
    refine q_get C hP hXb1 rfl inX6 4 (by decide) g72 rfl dX6_samePiles_44 ?_
    refine lv_iload_n hx hb dX6_samePiles_47 rfl (lv_at hl 0 rfl) ?_
    refine q_callS (rest := []) C (z_sort l D cy N0 hb1 vr 1000 (qPour f2 0 M2) M1.length hvrb1 (by omega) (by omega)) kX6_sort g923 g924 hP hS (by first | decide | omega) hl.1 rfl (by decide) (by first | decide | omega) dX6_samePiles_48 (fun q ce E h' H1 locs1 hE => hE.elim) (fun v hh6 H locs hq hP hS => ?_)
    obtain ⟨g2, rfl, rfl, hso2⟩ := hq
    obtain ⟨hb2, ehb2⟩ : ∃ z, qs hb1 vr (.inl (cy 1, 1000, .inr (.inl g2))) = z := ⟨_, rfl⟩
    rw [ehb2] at hP
    have hXb2 : hb2 x = some (.inr (6, [.int mk, .ref sl, .ref bl, .ref kr, .ref vr, .int ca, .int mv, .int ed])) := by rw [← ehb2]; exact (qs_ne nvx.symm).trans hXb1
    have hvrb2 : hb2 vr = some (.inl (cy 1, 1000, .inr (.inl g2))) := by rw [← ehb2]; exact qs_self
    have hkrb2 : hb2 kr = some (.inl (cy 1, 1000, .inr (.inl g1))) := by rw [← ehb2]; exact (qs_ne hkv).trans hkrb1
    have frb2 : ∀ z, z ≠ kr → z ≠ vr → hb2 z = h z := fun z n1 n2 => by rw [← ehb2]; exact (qs_ne n2).trans (frb1 z n1 n2)
    replace hM1 : qPi hb2 i1 y1 M1 := by rw [← ehb2]; exact hM1.setl hvrb1
    replace hM2 : qPi hb2 i2 y2 M2 := by rw [← ehb2]; exact hM2.setl hvrb1
    refine lv_iconst (v := nI 0) hx hb dX6_samePiles_51 (by decide) ?_
    refine lv_istore (lv' := [(4, .int (nI 0)), (3, .int (nI M1.length)), (0, .ref x), (1, va_rf y1), (2, va_rf y2)]) hx hb dX6_samePiles_52 hl (by decide) rfl (fun ls hl => ?_)
    have eg1 : zRl g1 M1.length = L1 := hso1.eq (by rw [zRl_pour]; exact hp1) u1
    have eg2 : zRl g2 M1.length = L2 := hso2.eq (by rw [c10, zRl_pour]; exact hp2) u2
    refine (?_ : ∀ (t9 q9 : Nat) (H : Heap) (locs : List Loc) (ls : Array Slot) (c1 c2 : Nat), M1.length - q9 < t9 → lv_has ls 5 [(4, .int (nI q9)), (3, .int (nI M1.length)), (2, va_rf y2), (1, va_rf y1), (0, .ref x)] → (q9 ≤ M1.length ∧ ∀ j, j < q9 → g1 j = g2 j) → qP D N0 (hb2) H → va_S (qA N0) s.heap H locs → c1 ≤ 0 ∧ c2 ≤ 0 → W p l e _ s m _ below meth c H locs c1 c2 _ (F0 m 54 ls [])) (M1.length + 1) 0 _ _ ls _ _ (by omega) (lv_sub hl [0, 1, 4, 3, 2] rfl) ⟨Nat.zero_le _, fun j hj => absurd hj (Nat.not_lt_zero _)⟩ hP hS ⟨by omega, by omega⟩
    clear hl hP hS
    intro t9
    induction t9 with
    | zero => intro q9 _ _ _ _ _ h; exact absurd h (Nat.not_lt_zero _)
    | succ t9 ihl =>
      intro q9 H locs ls c1 c2 ht9 hl hcp hP hS hcc
      refine lv_iload hx hb dX6_samePiles_54 (lv_at hl 0 rfl) ?_
      refine lv_iload_n hx hb dX6_samePiles_56 rfl (lv_at hl 1 rfl) ?_
      refine lv_icmp_ge (tgt := 86) hx hb dX6_samePiles_57 (by decide) (fun c57 => ?_) (fun c57 => ?_)
      · replace c57 : (M1.length) ≤ q9 := (nI_leI (a := M1.length) (b := q9) (by omega) (by omega)).mp c57
        refine lv_iconst (v := nI 1) hx hb dX6_samePiles_86 (by decide) ?_
        exact q_zret C hP hS (Or.inr rfl) ⟨by rw [if_pos (eg1.symm.trans ((zRl_ext (fun j hj => hcp.2 j (by omega))).trans eg2))], g1, g2, qs2_of hkv hkrb2 hvrb2 frb2⟩ (by omega) dX6_samePiles_87
      · replace c57 : ¬ (M1.length) ≤ q9 := fun zq => c57 ((nI_leI (a := M1.length) (b := q9) (by omega) (by omega)).mpr zq)
        refine lv_aload_n hx hb dX6_samePiles_60 rfl (lv_at hl 4 rfl) ?_
        refine q_get C hP hXb2 rfl inX6 3 (by decide) g71 rfl dX6_samePiles_61 ?_
        refine lv_iload hx hb dX6_samePiles_64 (lv_at hl 0 rfl) ?_
        refine q_laldN C hP hkrb2 (by omega) (by omega) dX6_samePiles_66 ?_
        refine lv_aload_n hx hb dX6_samePiles_67 rfl (lv_at hl 4 rfl) ?_
        refine q_get C hP hXb2 rfl inX6 4 (by decide) g72 rfl dX6_samePiles_68 ?_
        refine lv_iload hx hb dX6_samePiles_71 (lv_at hl 0 rfl) ?_
        refine q_laldN C hP hvrb2 (by omega) (by omega) dX6_samePiles_73 ?_
        refine zlcmp hx hb dX6_samePiles_74 ?_
        refine lv_if_eq (tgt := 80) hx hb dX6_samePiles_75 (by decide) (fun c75 => ?_) (fun c75 => ?_)
        · replace c75 : (g1 q9).toInt = (g2 q9).toInt := Int64.toInt_inj.symm.mp ((lg_cmp_eq _ _).mp c75)
          refine lv_iinc (v := nI (q9 + 1)) (lv' := [(4, .int (nI (q9 + 1))), (3, .int (nI M1.length)), (2, va_rf y2), (1, va_rf y1), (0, .ref x)]) hx hb dX6_samePiles_80 hl (k := 0) rfl (nI_1 q9) (by decide) rfl (fun ls hl => ?_)
          refine lv_goto (tgt := 54) hx hb dX6_samePiles_83 (by decide) ?_
          exact ihl (q9 + 1) H locs ls _ _ (by omega) (lv_sub hl [0, 1, 2, 3, 4] rfl) ⟨by omega, fun j hj => if z : j = q9 then (by rw [z]; exact Int64.toInt_inj.mp c75) else hcp.2 j (by omega)⟩ hP hS hcc
        · replace c75 : ¬ (g1 q9).toInt = (g2 q9).toInt := fun zq => c75 ((lg_cmp_eq _ _).mpr (Int64.toInt_inj.symm.mpr zq))
          refine lv_iconst (v := nI 0) hx hb dX6_samePiles_78 (by decide) ?_
          exact q_zret C hP hS (Or.inl rfl) ⟨by rw [if_neg (fun z => c75 (congrArg Int64.toInt (Option.some.inj ((zRl_get (f := g1) (by omega)).symm.trans ((congrArg (fun y : List Int64 => y[q9]?) (eg1.trans (z.trans eg2.symm))).trans (zRl_get (by omega)))))))], g1, g2, qs2_of hkv hkrb2 hvrb2 frb2⟩ (by omega) dX6_samePiles_79
  · replace c10 : ¬ (M1.length) = (M2.length) := fun zq => c10 ((nI_eq (a := M1.length) (b := M2.length) (by omega) (by omega)).mpr zq)
    refine lv_iconst (v := nI 0) hx hb dX6_samePiles_13 (by decide) ?_
    exact q_zret C hP hS (Or.inl rfl) ⟨by rw [if_neg (fun z => c10 (by rw [el1, el2, z]))], f1, f2, (qs2_of hkv hK hV (fun _ _ _ => rfl))⟩ (by omega) dX6_samePiles_14
theorem dX6_same_15 : decode cX6_same 15 = .ok (.astore_n 3, 1) := by decide +kernel
theorem dX6_same_16 : decode cX6_same 16 = .ok (.aload_n 0, 1) := by decide +kernel
theorem dX6_same_17 : decode cX6_same 17 = .ok (.iload_n 2, 1) := by decide +kernel
theorem dX6_same_18 : decode cX6_same 18 = .ok (.iconst 1, 1) := by decide +kernel
theorem dX6_same_19 : decode cX6_same 19 = .ok (.aload_n 3, 1) := by decide +kernel
theorem dX6_same_20 : decode cX6_same 20 = .ok (.getfield 63, 3) := by decide +kernel
theorem dX6_same_23 : decode cX6_same 23 = .ok (.ishl, 1) := by decide +kernel
theorem dX6_same_24 : decode cX6_same 24 = .ok (.invokevirtual 55, 3) := by decide +kernel
theorem dX6_same_27 : decode cX6_same 27 = .ok (.astore 4, 2) := by decide +kernel
theorem dX6_same_29 : decode cX6_same 29 = .ok (.aload_n 0, 1) := by decide +kernel
theorem dX6_same_30 : decode cX6_same 30 = .ok (.aload_n 3, 1) := by decide +kernel
theorem dX6_same_31 : decode cX6_same 31 = .ok (.invokevirtual 59, 3) := by decide +kernel
theorem dX6_same_34 : decode cX6_same 34 = .ok (.aload 4, 2) := by decide +kernel
theorem dX6_same_36 : decode cX6_same 36 = .ok (.invokevirtual 59, 3) := by decide +kernel
theorem dX6_same_39 : decode cX6_same 39 = .ok (.iadd, 1) := by decide +kernel
theorem dX6_same_40 : decode cX6_same 40 = .ok (.invokevirtual 218, 3) := by decide +kernel
theorem dX6_same_43 : decode cX6_same 43 = .ok (.aload_n 3, 1) := by decide +kernel
theorem dX6_same_44 : decode cX6_same 44 = .ok (.getfield 63, 3) := by decide +kernel
theorem dX6_same_47 : decode cX6_same 47 = .ok (.tableswitch 60 1 5 #[33, 33, 60, 60, 46], 33) := by decide +kernel
theorem dX6_same_80 : decode cX6_same 80 = .ok (.aload_n 3, 1) := by decide +kernel
theorem dX6_same_81 : decode cX6_same 81 = .ok (.getfield 66, 3) := by decide +kernel
theorem dX6_same_84 : decode cX6_same 84 = .ok (.aload 4, 2) := by decide +kernel
theorem dX6_same_86 : decode cX6_same 86 = .ok (.getfield 66, 3) := by decide +kernel
theorem dX6_same_89 : decode cX6_same 89 = .ok (.invokestatic 258, 3) := by decide +kernel
theorem dX6_same_92 : decode cX6_same 92 = .ok (.ireturn, 1) := by decide +kernel
theorem dX6_same_93 : decode cX6_same 93 = .ok (.aload_n 0, 1) := by decide +kernel
theorem dX6_same_94 : decode cX6_same 94 = .ok (.aload_n 3, 1) := by decide +kernel
theorem dX6_same_95 : decode cX6_same 95 = .ok (.getfield 84, 3) := by decide +kernel
theorem dX6_same_98 : decode cX6_same 98 = .ok (.aload 4, 2) := by decide +kernel
theorem dX6_same_100 : decode cX6_same 100 = .ok (.getfield 84, 3) := by decide +kernel
theorem dX6_same_103 : decode cX6_same 103 = .ok (.invokevirtual 262, 3) := by decide +kernel
theorem dX6_same_106 : decode cX6_same 106 = .ok (.ireturn, 1) := by decide +kernel
theorem dX6_same_107 : decode cX6_same 107 = .ok (.aload_n 3, 1) := by decide +kernel
theorem dX6_same_108 : decode cX6_same 108 = .ok (.getfield 101, 3) := by decide +kernel
theorem dX6_same_111 : decode cX6_same 111 = .ok (.aload 4, 2) := by decide +kernel
theorem dX6_same_113 : decode cX6_same 113 = .ok (.getfield 101, 3) := by decide +kernel
theorem dX6_same_116 : decode cX6_same 116 = .ok (.invokestatic 266, 3) := by decide +kernel
theorem dX6_same_119 : decode cX6_same 119 = .ok (.ireturn, 1) := by decide +kernel
set_option maxRecDepth 100000 in
set_option maxHeartbeats 4000000 in
theorem z_same (l : Launch) (D : va_G) (cy : Nat → ClassId) (N0 : Nat) (h : qH) (x : Nat) (mk : Int32) (sl bl kr vr Ed : Nat) (fs : Nat → Option Nat) (bd br eb : Nat → Nat) (Im : Nat → Prop) (Xb : Nat → Nat → Prop) (g : Nat → Nat) (S : Nat → qSlot) (W : qWo) (Bd sk Rn : Nat) (dp : Nat → Nat) (m0 : Nat) (p0 p1 : Int32) (hz : zQ cy h x mk sl bl kr vr Ed fs bd br eb Im Xb g S W) (hI : ∀ i, i < 28 → qOk (S i).1 (S i).2.1) (hLn : ∀ i, i < 28 → (S i).2.1.length ≤ 1000) (hV : qWv Bd sk Rn dp W) (hm0 : oMq W.1 = nI m0) (hm9 : m0 ≤ 20000) (h0v : ∀ i, i < 28 → ((S i).1 = 0 ∨ (S i).1 = 4 ∨ (S i).1 = 5) → ∀ p ∈ (S i).2.1, p.2 = 0) : qC l D cy N0 yX6_same cX6_same 5 (some .boolean) 45 1200 10 60 [.ref x, .int p0, .int p1] h (fun v h' => (xs_same S p0 p1 m0).1 = 0 ∧ v = some (.int (xs_same S p0 p1 m0).2.1) ∧ zPo cy h x mk sl bl kr vr Ed bd br Im Xb S (oMv W.1 (nI (xs_same S p0 p1 m0).2.2), W.2) h') (fun E h' => zXc [(1, "java/lang/IllegalArgumentException"), (2, "java/lang/IllegalStateException"), (3, "java/lang/IndexOutOfBoundsException")] E (xs_same S p0 p1 m0).1 ∧ zPo cy h x mk sl bl kr vr Ed bd br Im Xb S W h') := by
  refine q_ofW (by decide) (by exact Nat.le_of_ble_eq_true rfl) ?_
  intro p e s m below meth c ls C hP hl
  have hx := C.1
  have hb := C.2.1
  have hS : va_S (qA N0) s.heap s.heap [] := va_S.rf
  have hl : lv_has ls 5 [(0, .ref x), (1, .int p0), (2, .int p1)] := hl
  have hf : zFr h h x sl kr vr bd br Xb := zFr.rf
  refine lv_iload_n hx hb dX6_same_0 rfl (lv_at hl 1 rfl) ?_
  refine q_callS (rest := []) C (c_X6_needSlot l D cy N0 h p0) kX6_needSlot g104 g105 hP hS (by first | decide | omega) hl.1 rfl (by decide) (by first | decide | omega) dX6_same_1 (fun q ce E h' H1 locs1 hE hP hS hc1 hc2 hc3 => by obtain ⟨rfl, rfl, hn9⟩ := hE; have eb9 := bSl_f hn9; exact q_out C hP hS hc1 hc2 hc3 (by have ex : (xs_same S p0 p1 m0) = (1, 0, m0) := (by unfold xs_same; rw [if_pos (Or.inl eb9)]); exact ⟨by rw [ex]; exact .head _, by exact hz.po hf⟩) (by omega)) (fun v hh1 H locs hq hP hS => ?_)
  obtain ⟨rfl, rfl, sl9⟩ := hq
  obtain ⟨i, hi, rfl⟩ := sl9.of
  have ebi : bSl (nI i) = true := bSl_t sl9
  have eci : (nI i).toNatClampNeg = i := nI_clamp (by omega)
  refine lv_iload_n hx hb dX6_same_4 rfl (lv_at hl 2 rfl) ?_
  refine q_callS (rest := []) C (c_X6_needSlot l D cy N0 h p1) kX6_needSlot g104 g105 hP hS (by first | decide | omega) hl.1 rfl (by decide) (by first | decide | omega) dX6_same_5 (fun q ce E h' H1 locs1 hE hP hS hc1 hc2 hc3 => by obtain ⟨rfl, rfl, hn9⟩ := hE; have eb9 := bSl_f hn9; exact q_out C hP hS hc1 hc2 hc3 (by have ex : (xs_same S (nI i) p1 m0) = (1, 0, m0) := (by unfold xs_same; rw [if_pos (Or.inr eb9)]); exact ⟨by rw [ex]; exact .head _, by exact hz.po hf⟩) (by omega)) (fun v hh2 H locs hq hP hS => ?_)
  obtain ⟨rfl, rfl, sl9⟩ := hq
  obtain ⟨j, hj, rfl⟩ := sl9.of
  have ebj : bSl (nI j) = true := bSl_t sl9
  have ecj : (nI j).toNatClampNeg = j := nI_clamp (by omega)
  refine lv_aload_n hx hb dX6_same_8 rfl (lv_at hl 0 rfl) ?_
  refine lv_iload_n hx hb dX6_same_9 rfl (lv_at hl 1 rfl) ?_
  refine lv_bipush (v := nI 63) hx hb dX6_same_10 (by decide) ?_
  refine q_callV (rest := []) C (z_heldIn l D N0 (nI i) 63 hz hI) kX6_heldIn g243 g245 rfl gp2 g1 hP hS hz.1.1 (by first | decide | omega) hl.1 rfl (by decide) (by first | decide | omega) dX6_same_12 (fun q ce E h' H1 locs1 hE hP hS hc1 hc2 hc3 => hE.2.elim (fun y => by obtain ⟨rfl, -⟩ := hE; obtain ⟨rfl, hn9⟩ := y; exact absurd hn9 (by rw [ebi]; decide)) (fun y => by obtain ⟨rfl, -⟩ := hE; obtain ⟨rfl, i8, hi8, e8, ho8⟩ := y; obtain rfl : i = i8 := nI_inj32 (by omega) (by omega) e8; exact q_out C hP hS hc1 hc2 hc3 (by have ex : (xs_same S (nI i) (nI j) m0) = (2, 0, m0) := (by have ebi : bSl (nI i) = true := bSl_t (qSl.nI hi8); have eci : (nI i).toNatClampNeg = i := nI_clamp (by omega); have hoi := ho8; unfold xs_same; rw [if_neg (by rw [ebi, ebj]; decide), eci, ecj, if_pos (Or.inl hoi)]); exact ⟨by rw [ex]; exact .tail _ (.head _), by exact hz.po hf⟩) (by omega))) (fun v hh3 H locs hq hP hS => ?_)
  obtain ⟨rfl, i9, ai, hi9, ei9, hfsi, rfl, hoi, x1i, x2i, x3i, x4i, dvi, fai, zvi⟩ := hq
  obtain rfl : i = i9 := nI_inj32 (by omega) (by omega) ei9
  rcases bHo_63 (hI i (by omega)).2.2 hoi with hki | hki | hki | hki | hki | hki
  · have hk6i : ¬ (S i).1 = 6 := fun z => absurd (hki.symm.trans z) (by decide)
    have hami : zAm (S i) = (S i).2.1.length := zAm_n hk6i
    rw [hki] at fai
    refine lv_astore_n (lv' := [(3, .ref ai), (0, .ref x), (1, .int (nI i)), (2, .int (nI j))]) hx hb dX6_same_15 rfl hl (by decide) rfl (fun ls hl => ?_)
    refine lv_aload_n hx hb dX6_same_16 rfl (lv_at hl 1 rfl) ?_
    refine lv_iload_n hx hb dX6_same_17 rfl (lv_at hl 3 rfl) ?_
    refine lv_iconst (v := nI 1) hx hb dX6_same_18 (by decide) ?_
    refine lv_aload_n hx hb dX6_same_19 rfl (lv_at hl 0 rfl) ?_
    refine q_get C hP fai rfl inX2 0 (by decide) g192 rfl dX6_same_20 ?_
    refine lv_ishl hx hb dX6_same_23 ?_
    rw [show nI 1 <<< (nI 0 &&& 31) = 1 by decide]
    refine q_callV (rest := []) C (z_heldIn l D N0 (nI j) 1 hz hI) kX6_heldIn g243 g245 rfl gp2 g1 hP hS hz.1.1 (by first | decide | omega) hl.1 rfl (by decide) (by first | decide | omega) dX6_same_24 (fun q ce E h' H1 locs1 hE hP hS hc1 hc2 hc3 => hE.2.elim (fun y => by obtain ⟨rfl, -⟩ := hE; obtain ⟨rfl, hn9⟩ := y; exact absurd hn9 (by rw [ebj]; decide)) (fun y => by obtain ⟨rfl, -⟩ := hE; obtain ⟨rfl, i8, hi8, e8, ho8⟩ := y; obtain rfl : j = i8 := nI_inj32 (by omega) (by omega) e8; exact q_out C hP hS hc1 hc2 hc3 (by have ex : (xs_same S (nI i) (nI j) m0) = (2, 0, m0) := (by have ebj : bSl (nI j) = true := bSl_t (qSl.nI hi8); have ecj : (nI j).toNatClampNeg = j := nI_clamp (by omega); have hoj := ho8; unfold xs_same; rw [if_neg (by rw [ebi, ebj]; decide), eci, ecj, if_pos (Or.inr (by rw [hki]; exact (bHo_p0 (hI j (by omega)).2.2).2 hoj))]); exact ⟨by rw [ex]; exact .tail _ (.head _), by exact hz.po hf⟩) (by omega))) (fun v hh4 H locs hq hP hS => ?_)
    obtain ⟨rfl, j9, aj, hj9, ej9, hfsj, rfl, hoj, x1j, x2j, x3j, x4j, dvj, faj, zvj⟩ := hq
    obtain rfl : j = j9 := nI_inj32 (by omega) (by omega) ej9
    have hkj : (S j).1 = nI 0 := (bHo_p0 (hI j (by omega)).2.2).1 hoj
    have hk6j : ¬ (S j).1 = 6 := fun z => absurd (hkj.symm.trans z) (by decide)
    have hamj : zAm (S j) = (S j).2.1.length := zAm_n hk6j
    rw [hkj] at faj
    have hli := hLn i (by omega)
    obtain ⟨rfl, rfl, rfl, rfl, ni, hbi⟩ := zvi.seq (Or.inl hki)
    have hlj := hLn j (by omega)
    obtain ⟨rfl, rfl, rfl, rfl, nj, hbj⟩ := zvj.seq (Or.inl hkj)
    refine lv_astore (lv' := [(4, .ref aj), (3, .ref ai), (0, .ref x), (1, .int (nI i)), (2, .int (nI j))]) hx hb dX6_same_27 hl (by decide) rfl (fun ls hl => ?_)
    refine lv_aload_n hx hb dX6_same_29 rfl (lv_at hl 2 rfl) ?_
    refine lv_aload_n hx hb dX6_same_30 rfl (lv_at hl 1 rfl) ?_
    obtain ⟨t1i, t2i, t3i, f1i, f2i, f3i, eti⟩ := zvi.size
    refine q_callV (rest := [.ref x]) C (c_X2_amount l D cy N0 h ai (nI 0) 0 t1i t2i t3i x1i none none none fai f1i f2i f3i) kX2_amount g222 g223 rfl g224 g10 hP hS fai (by first | decide | omega) hl.1 rfl (by simp [q_catrf, q_cati, q_catl, q_cata, q_catn]) (by first | decide | omega) dX6_same_31 (fun q ce E h' H1 locs1 hE => hE.elim) (fun v hh5 H locs hq hP hS => ?_)
    obtain ⟨rfl, rfl⟩ := hq
    rw [← eti]
    refine lv_aload hx hb dX6_same_34 (lv_at hl 0 rfl) ?_
    obtain ⟨t1j, t2j, t3j, f1j, f2j, f3j, etj⟩ := zvj.size
    refine q_callV (rest := [.int (nI (zAm (S i))), .ref x]) C (c_X2_amount l D cy N0 h aj (nI 0) 0 t1j t2j t3j x1j none none none faj f1j f2j f3j) kX2_amount g222 g223 rfl g224 g10 hP hS faj (by first | decide | omega) hl.1 rfl (by simp [q_catrf, q_cati, q_catl, q_cata, q_catn]) (by first | decide | omega) dX6_same_36 (fun q ce E h' H1 locs1 hE => hE.elim) (fun v hh6 H locs hq hP hS => ?_)
    obtain ⟨rfl, rfl⟩ := hq
    rw [← etj]
    refine q_iaddN hx hb dX6_same_39 ?_
    refine q_callV (rest := []) C (c_X6_takeMoves l D cy N0 h x sl bl kr vr mk (oCq W.1) (oMq W.1) (nI Ed) fs (nI (zAm (S i) + zAm (S j))) hz.1.1 hz.2.1.1) kX6_takeMoves g641 g643 rfl gp15 g1 hP hS hz.1.1 (by first | decide | omega) hl.1 rfl (by decide) (by first | decide | omega) dX6_same_40 (fun q ce E h' H1 locs1 hE hP hS hc1 hc2 hc3 => by obtain ⟨rfl, rfl, hn9⟩ := hE; replace hn9 : ¬ m0 + (zAm (S i) + zAm (S j)) ≤ 20000 := fun z => hn9 (by rw [hm0]; exact (zmvs hm9 (by omega)).mpr z); exact q_out C hP hS hc1 hc2 hc3 (by have ex : (xs_same S (nI i) (nI j) m0) = (3, 0, m0) := (by unfold xs_same; rw [if_neg (by rw [ebi, ebj]; decide), eci, ecj, if_neg (by rw [hoi, hki, hkj]; decide), if_pos (by rw [← hami, ← hamj]; omega)]); exact ⟨by rw [ex]; exact .tail _ (.tail _ (.head _)), by exact hz.po hf⟩) (by omega)) (fun v hh7 H locs hq hP hS => ?_)
    obtain ⟨rfl, rfl, hmv⟩ := hq
    have hmv2 : m0 + (zAm (S i) + zAm (S j)) ≤ 20000 := (zmvs hm9 (by omega)).mp (by rw [← hm0]; exact hmv)
    rw [show oMq W.1 = nI m0 from hm0, nI_add] at hP
    replace hP : qP D N0 (qs h x (.inr (6, [.int mk, .ref sl, .ref bl, .ref kr, .ref vr, .int (oCq W.1), .int (nI (m0 + (zAm (S i) + zAm (S j)))), .int (nI Ed)]))) H := hP
    replace fai := (qs_ne (h := h) (a := x) (o := (.inr (6, [.int mk, .ref sl, .ref bl, .ref kr, .ref vr, .int (oCq W.1), .int (nI (m0 + (zAm (S i) + zAm (S j)))), .int (nI Ed)]))) (fun z => by rw [z, hz.1.1] at fai; simp at fai)).trans fai
    replace faj := (qs_ne (h := h) (a := x) (o := (.inr (6, [.int mk, .ref sl, .ref bl, .ref kr, .ref vr, .int (oCq W.1), .int (nI (m0 + (zAm (S i) + zAm (S j)))), .int (nI Ed)]))) (fun z => by rw [z, hz.1.1] at faj; simp at faj)).trans faj
    replace zvi := zvi.up (o := .inr (6, [.int mk, .ref sl, .ref bl, .ref kr, .ref vr, .int (oCq W.1), .int (nI (m0 + (zAm (S i) + zAm (S j)))), .int (nI Ed)])) hz.1.1 (fun b y => (hz.2.2.2.2.2.1 b (Or.inl y)).1)
    replace zvj := zvj.up (o := .inr (6, [.int mk, .ref sl, .ref bl, .ref kr, .ref vr, .int (oCq W.1), .int (nI (m0 + (zAm (S i) + zAm (S j)))), .int (nI Ed)])) hz.1.1 (fun b y => (hz.2.2.2.2.2.1 b (Or.inl y)).1)
    replace hbi := hbi.seto (o := .inr (6, [.int mk, .ref sl, .ref bl, .ref kr, .ref vr, .int (oCq W.1), .int (nI (m0 + (zAm (S i) + zAm (S j)))), .int (nI Ed)])) hz.1.1 (by decide)
    replace hbj := hbj.seto (o := .inr (6, [.int mk, .ref sl, .ref bl, .ref kr, .ref vr, .int (oCq W.1), .int (nI (m0 + (zAm (S i) + zAm (S j)))), .int (nI Ed)])) hz.1.1 (by decide)
    replace hf := hf.trs (zFr.set (o' := .inr (6, [.int mk, .ref sl, .ref bl, .ref kr, .ref vr, .int (oCq W.1), .int (nI (m0 + (zAm (S i) + zAm (S j)))), .int (nI Ed)])) hz.1.1 (Or.inl rfl))
    replace hz : zQ cy (qs h x (.inr (6, [.int mk, .ref sl, .ref bl, .ref kr, .ref vr, .int (oCq W.1), .int (nI (m0 + (zAm (S i) + zAm (S j)))), .int (nI Ed)]))) x mk sl bl kr vr Ed fs bd br eb Im Xb g S (oMv W.1 (nI (m0 + (zAm (S i) + zAm (S j)))), W.2) := hz.mv hV
    replace hV := hV.mvs hm0 (M2 := m0 + (zAm (S i) + zAm (S j))) ⟨by omega, by omega⟩ hmv2
    replace hV : qWv Bd sk Rn dp (oMv W.1 (nI (m0 + (zAm (S i) + zAm (S j)))), W.2) := hV
    refine lv_aload_n hx hb dX6_same_43 rfl (lv_at hl 1 rfl) ?_
    refine q_get C hP fai rfl inX2 0 (by decide) g192 rfl dX6_same_44 ?_
    refine lv_tableOut (tgt := 107) hx hb dX6_same_47 (by decide +kernel) (by decide) ?_
    refine lv_aload_n hx hb dX6_same_107 rfl (lv_at hl 1 rfl) ?_
    refine q_get C hP fai rfl inX2 1 (by decide) g195 rfl dX6_same_108 ?_
    refine lv_aload hx hb dX6_same_111 (lv_at hl 0 rfl) ?_
    refine q_get C hP faj rfl inX2 1 (by decide) g195 rfl dX6_same_113 ?_
    refine q_callS (rest := []) C (c_X0_alike l D cy N0 (qs h x (.inr (6, [.int mk, .ref sl, .ref bl, .ref kr, .ref vr, .int (oCq W.1), .int (nI (m0 + (zAm (S i) + zAm (S j)))), .int (nI Ed)]))) x1i x1j ni nj ((S i).2.1.map (fun p => ((0 : Int64), p.1))) ((S j).2.1.map (fun p => ((0 : Int64), p.1))) hbi hbj (by rw [List.length_map]; omega) (by rw [List.length_map]; omega)) kX0_alike g929 g930 hP hS (by first | decide | omega) hl.1 rfl (by decide) (by first | decide | omega) dX6_same_116 (fun q ce E h' H1 locs1 hE => hE.elim) (fun v hh8 H locs hq hP hS => ?_)
    obtain ⟨rfl, rfl⟩ := hq
    obtain ⟨zz, ezz⟩ : ∃ z, (if ((S i).2.1.map (fun p => ((0 : Int64), p.1))) = ((S j).2.1.map (fun p => ((0 : Int64), p.1))) then 1 else 0) = z := ⟨_, rfl⟩
    rw [ezz]
    have hiff : ((S i).2.1.map (fun p => ((0 : Int64), p.1))) = ((S j).2.1.map (fun p => ((0 : Int64), p.1))) ↔ xSm (S i).1 (S i).2.1 (S j).2.1 = true := xSm_seq (fun z => z.elim (fun z => absurd (hki.symm.trans z) (by decide)) (fun z => absurd (hki.symm.trans z) (by decide))) (h0v i (by omega) (Or.inl hki)) (h0v j (by omega) (Or.inl hkj))
    have hxs : (if xSm (S i).1 (S i).2.1 (S j).2.1 = true then (1 : Int32) else 0) = nI zz := if zc : ((S i).2.1.map (fun p => ((0 : Int64), p.1))) = ((S j).2.1.map (fun p => ((0 : Int64), p.1))) then (by rw [← ezz, if_pos zc, if_pos (hiff.mp zc)]; rfl) else (by rw [← ezz, if_neg zc, if_neg (fun y => zc (hiff.mpr y))]; rfl)
    have hz01 : zz = 0 ∨ zz = 1 := if zc : ((S i).2.1.map (fun p => ((0 : Int64), p.1))) = ((S j).2.1.map (fun p => ((0 : Int64), p.1))) then Or.inr (by rw [← ezz, if_pos zc]) else Or.inl (by rw [← ezz, if_neg zc])
    have ex : (xs_same S (nI i) (nI j) m0) = (0, nI zz, m0 + (zAm (S i) + zAm (S j))) := by unfold xs_same; rw [if_neg (by rw [ebi, ebj]; decide), eci, ecj, if_neg (by rw [hoi, hki, hkj]; decide), if_neg (by rw [← hami, ← hamj]; omega), hxs, hami, hamj]
    exact q_zret C hP hS (hz01.elim (fun z => Or.inl (by rw [z]; rfl)) (fun z => Or.inr (by rw [z]; rfl))) ⟨by rw [ex], by rw [ex], by rw [ex]; exact hz.po hf⟩ (by omega) dX6_same_119
  · have hk6i : ¬ (S i).1 = 6 := fun z => absurd (hki.symm.trans z) (by decide)
    have hami : zAm (S i) = (S i).2.1.length := zAm_n hk6i
    rw [hki] at fai
    refine lv_astore_n (lv' := [(3, .ref ai), (0, .ref x), (1, .int (nI i)), (2, .int (nI j))]) hx hb dX6_same_15 rfl hl (by decide) rfl (fun ls hl => ?_)
    refine lv_aload_n hx hb dX6_same_16 rfl (lv_at hl 1 rfl) ?_
    refine lv_iload_n hx hb dX6_same_17 rfl (lv_at hl 3 rfl) ?_
    refine lv_iconst (v := nI 1) hx hb dX6_same_18 (by decide) ?_
    refine lv_aload_n hx hb dX6_same_19 rfl (lv_at hl 0 rfl) ?_
    refine q_get C hP fai rfl inX2 0 (by decide) g192 rfl dX6_same_20 ?_
    refine lv_ishl hx hb dX6_same_23 ?_
    rw [show nI 1 <<< (nI 1 &&& 31) = 2 by decide]
    refine q_callV (rest := []) C (z_heldIn l D N0 (nI j) 2 hz hI) kX6_heldIn g243 g245 rfl gp2 g1 hP hS hz.1.1 (by first | decide | omega) hl.1 rfl (by decide) (by first | decide | omega) dX6_same_24 (fun q ce E h' H1 locs1 hE hP hS hc1 hc2 hc3 => hE.2.elim (fun y => by obtain ⟨rfl, -⟩ := hE; obtain ⟨rfl, hn9⟩ := y; exact absurd hn9 (by rw [ebj]; decide)) (fun y => by obtain ⟨rfl, -⟩ := hE; obtain ⟨rfl, i8, hi8, e8, ho8⟩ := y; obtain rfl : j = i8 := nI_inj32 (by omega) (by omega) e8; exact q_out C hP hS hc1 hc2 hc3 (by have ex : (xs_same S (nI i) (nI j) m0) = (2, 0, m0) := (by have ebj : bSl (nI j) = true := bSl_t (qSl.nI hi8); have ecj : (nI j).toNatClampNeg = j := nI_clamp (by omega); have hoj := ho8; unfold xs_same; rw [if_neg (by rw [ebi, ebj]; decide), eci, ecj, if_pos (Or.inr (by rw [hki]; exact (bHo_p1 (hI j (by omega)).2.2).2 hoj))]); exact ⟨by rw [ex]; exact .tail _ (.head _), by exact hz.po hf⟩) (by omega))) (fun v hh9 H locs hq hP hS => ?_)
    obtain ⟨rfl, j9, aj, hj9, ej9, hfsj, rfl, hoj, x1j, x2j, x3j, x4j, dvj, faj, zvj⟩ := hq
    obtain rfl : j = j9 := nI_inj32 (by omega) (by omega) ej9
    have hkj : (S j).1 = nI 1 := (bHo_p1 (hI j (by omega)).2.2).1 hoj
    have hk6j : ¬ (S j).1 = 6 := fun z => absurd (hkj.symm.trans z) (by decide)
    have hamj : zAm (S j) = (S j).2.1.length := zAm_n hk6j
    rw [hkj] at faj
    have hli := hLn i (by omega)
    obtain ⟨rfl, rfl, rfl, rfl, hRi⟩ := zvi.hash (Or.inl hki)
    have hnoi : qNo (S i).2.1 := (hI i (by omega)).2.1 (Or.inl hki)
    have hlj := hLn j (by omega)
    obtain ⟨rfl, rfl, rfl, rfl, hRj⟩ := zvj.hash (Or.inl hkj)
    have hnoj : qNo (S j).2.1 := (hI j (by omega)).2.1 (Or.inl hkj)
    refine lv_astore (lv' := [(4, .ref aj), (3, .ref ai), (0, .ref x), (1, .int (nI i)), (2, .int (nI j))]) hx hb dX6_same_27 hl (by decide) rfl (fun ls hl => ?_)
    refine lv_aload_n hx hb dX6_same_29 rfl (lv_at hl 2 rfl) ?_
    refine lv_aload_n hx hb dX6_same_30 rfl (lv_at hl 1 rfl) ?_
    obtain ⟨t1i, t2i, t3i, f1i, f2i, f3i, eti⟩ := zvi.size
    refine q_callV (rest := [.ref x]) C (c_X2_amount l D cy N0 h ai (nI 1) 0 t1i t2i t3i none x2i none none fai f1i f2i f3i) kX2_amount g222 g223 rfl g224 g10 hP hS fai (by first | decide | omega) hl.1 rfl (by simp [q_catrf, q_cati, q_catl, q_cata, q_catn]) (by first | decide | omega) dX6_same_31 (fun q ce E h' H1 locs1 hE => hE.elim) (fun v hh10 H locs hq hP hS => ?_)
    obtain ⟨rfl, rfl⟩ := hq
    rw [← eti]
    refine lv_aload hx hb dX6_same_34 (lv_at hl 0 rfl) ?_
    obtain ⟨t1j, t2j, t3j, f1j, f2j, f3j, etj⟩ := zvj.size
    refine q_callV (rest := [.int (nI (zAm (S i))), .ref x]) C (c_X2_amount l D cy N0 h aj (nI 1) 0 t1j t2j t3j none x2j none none faj f1j f2j f3j) kX2_amount g222 g223 rfl g224 g10 hP hS faj (by first | decide | omega) hl.1 rfl (by simp [q_catrf, q_cati, q_catl, q_cata, q_catn]) (by first | decide | omega) dX6_same_36 (fun q ce E h' H1 locs1 hE => hE.elim) (fun v hh11 H locs hq hP hS => ?_)
    obtain ⟨rfl, rfl⟩ := hq
    rw [← etj]
    refine q_iaddN hx hb dX6_same_39 ?_
    refine q_callV (rest := []) C (c_X6_takeMoves l D cy N0 h x sl bl kr vr mk (oCq W.1) (oMq W.1) (nI Ed) fs (nI (zAm (S i) + zAm (S j))) hz.1.1 hz.2.1.1) kX6_takeMoves g641 g643 rfl gp15 g1 hP hS hz.1.1 (by first | decide | omega) hl.1 rfl (by decide) (by first | decide | omega) dX6_same_40 (fun q ce E h' H1 locs1 hE hP hS hc1 hc2 hc3 => by obtain ⟨rfl, rfl, hn9⟩ := hE; replace hn9 : ¬ m0 + (zAm (S i) + zAm (S j)) ≤ 20000 := fun z => hn9 (by rw [hm0]; exact (zmvs hm9 (by omega)).mpr z); exact q_out C hP hS hc1 hc2 hc3 (by have ex : (xs_same S (nI i) (nI j) m0) = (3, 0, m0) := (by unfold xs_same; rw [if_neg (by rw [ebi, ebj]; decide), eci, ecj, if_neg (by rw [hoi, hki, hkj]; decide), if_pos (by rw [← hami, ← hamj]; omega)]); exact ⟨by rw [ex]; exact .tail _ (.tail _ (.head _)), by exact hz.po hf⟩) (by omega)) (fun v hh12 H locs hq hP hS => ?_)
    obtain ⟨rfl, rfl, hmv⟩ := hq
    have hmv2 : m0 + (zAm (S i) + zAm (S j)) ≤ 20000 := (zmvs hm9 (by omega)).mp (by rw [← hm0]; exact hmv)
    rw [show oMq W.1 = nI m0 from hm0, nI_add] at hP
    replace hP : qP D N0 (qs h x (.inr (6, [.int mk, .ref sl, .ref bl, .ref kr, .ref vr, .int (oCq W.1), .int (nI (m0 + (zAm (S i) + zAm (S j)))), .int (nI Ed)]))) H := hP
    replace fai := (qs_ne (h := h) (a := x) (o := (.inr (6, [.int mk, .ref sl, .ref bl, .ref kr, .ref vr, .int (oCq W.1), .int (nI (m0 + (zAm (S i) + zAm (S j)))), .int (nI Ed)]))) (fun z => by rw [z, hz.1.1] at fai; simp at fai)).trans fai
    replace faj := (qs_ne (h := h) (a := x) (o := (.inr (6, [.int mk, .ref sl, .ref bl, .ref kr, .ref vr, .int (oCq W.1), .int (nI (m0 + (zAm (S i) + zAm (S j)))), .int (nI Ed)]))) (fun z => by rw [z, hz.1.1] at faj; simp at faj)).trans faj
    replace zvi := zvi.up (o := .inr (6, [.int mk, .ref sl, .ref bl, .ref kr, .ref vr, .int (oCq W.1), .int (nI (m0 + (zAm (S i) + zAm (S j)))), .int (nI Ed)])) hz.1.1 (fun b y => (hz.2.2.2.2.2.1 b (Or.inl y)).1)
    replace zvj := zvj.up (o := .inr (6, [.int mk, .ref sl, .ref bl, .ref kr, .ref vr, .int (oCq W.1), .int (nI (m0 + (zAm (S i) + zAm (S j)))), .int (nI Ed)])) hz.1.1 (fun b y => (hz.2.2.2.2.2.1 b (Or.inl y)).1)
    replace hRi := hRi.keep (h' := qs h x (.inr (6, [.int mk, .ref sl, .ref bl, .ref kr, .ref vr, .int (oCq W.1), .int (nI (m0 + (zAm (S i) + zAm (S j)))), .int (nI Ed)]))) (fun b o e y => (qs_ne (hz.2.2.2.2.2.1 b (Or.inl (y.resolve_right id))).1).trans e)
    replace hRj := hRj.keep (h' := qs h x (.inr (6, [.int mk, .ref sl, .ref bl, .ref kr, .ref vr, .int (oCq W.1), .int (nI (m0 + (zAm (S i) + zAm (S j)))), .int (nI Ed)]))) (fun b o e y => (qs_ne (hz.2.2.2.2.2.1 b (Or.inl (y.resolve_right id))).1).trans e)
    replace hf := hf.trs (zFr.set (o' := .inr (6, [.int mk, .ref sl, .ref bl, .ref kr, .ref vr, .int (oCq W.1), .int (nI (m0 + (zAm (S i) + zAm (S j)))), .int (nI Ed)])) hz.1.1 (Or.inl rfl))
    replace hz : zQ cy (qs h x (.inr (6, [.int mk, .ref sl, .ref bl, .ref kr, .ref vr, .int (oCq W.1), .int (nI (m0 + (zAm (S i) + zAm (S j)))), .int (nI Ed)]))) x mk sl bl kr vr Ed fs bd br eb Im Xb g S (oMv W.1 (nI (m0 + (zAm (S i) + zAm (S j)))), W.2) := hz.mv hV
    replace hV := hV.mvs hm0 (M2 := m0 + (zAm (S i) + zAm (S j))) ⟨by omega, by omega⟩ hmv2
    replace hV : qWv Bd sk Rn dp (oMv W.1 (nI (m0 + (zAm (S i) + zAm (S j)))), W.2) := hV
    refine lv_aload_n hx hb dX6_same_43 rfl (lv_at hl 1 rfl) ?_
    refine q_get C hP fai rfl inX2 0 (by decide) g192 rfl dX6_same_44 ?_
    refine lv_tableIn (tgt := 80) (off := 33) hx hb dX6_same_47 (by decide +kernel) (by decide +kernel) (by decide +kernel) (by decide) ?_
    rcases hRi with ⟨rfl, hei⟩ | ⟨ai9, rfl, hni, hTi⟩
    · rcases hRj with ⟨rfl, hej⟩ | ⟨aj9, rfl, hnj, hTj⟩
      · refine lv_aload_n hx hb dX6_same_80 rfl (lv_at hl 1 rfl) ?_
        refine q_get C hP fai rfl inX2 2 (by decide) g198 rfl dX6_same_81 ?_
        refine lv_aload hx hb dX6_same_84 (lv_at hl 0 rfl) ?_
        refine q_get C hP faj rfl inX2 2 (by decide) g198 rfl dX6_same_86 ?_
        have hpf : (zSv (S i)).Perm (zSv (S j)) ↔ xSm (S i).1 (S i).2.1 (S j).2.1 = true := xSm_hash (Or.inl hki) (hkj.trans hki.symm) hnoi hnoj (zSv_no hnoi) (zSv_no hnoj) zSv_len zSv_len
        refine q_callSN (host := RX6) (rest := []) C (z_alikeNN l D cy N0 (qs h x (.inr (6, [.int mk, .ref sl, .ref bl, .ref kr, .ref vr, .int (oCq W.1), .int (nI (m0 + (zAm (S i) + zAm (S j)))), .int (nI Ed)]))) 0) kX3_alike (by decide +kernel) g908 hP hS (by first | decide | omega) hl.1 rfl (by decide) (by first | decide | omega) dX6_same_89 (fun v hh13 H locs hq hP hS => ?_)
        obtain ⟨rfl, rfl⟩ := hq
        obtain ⟨zz, ezz⟩ : ∃ z : Nat, z = 1 := ⟨_, rfl⟩
        rw [show nI 1 = nI zz by rw [ezz]]
        have hz01 : zz = 0 ∨ zz = 1 := Or.inr ezz
        have hxs : (if xSm (S i).1 (S i).2.1 (S j).2.1 = true then (1 : Int32) else 0) = nI zz := by rw [ezz, if_pos (hpf.mp (by rw [hei, hej]))]; rfl
        have ex : (xs_same S (nI i) (nI j) m0) = (0, nI zz, m0 + (zAm (S i) + zAm (S j))) := by unfold xs_same; rw [if_neg (by rw [ebi, ebj]; decide), eci, ecj, if_neg (by rw [hoi, hki, hkj]; decide), if_neg (by rw [← hami, ← hamj]; omega), hxs, hami, hamj]
        exact q_zret C hP hS (hz01.elim (fun z => Or.inl (by rw [z]; rfl)) (fun z => Or.inr (by rw [z]; rfl))) ⟨by rw [ex], by rw [ex], by rw [ex]; exact hz.po hf⟩ (by omega) dX6_same_92
      · refine lv_aload_n hx hb dX6_same_80 rfl (lv_at hl 1 rfl) ?_
        refine q_get C hP fai rfl inX2 2 (by decide) g198 rfl dX6_same_81 ?_
        refine lv_aload hx hb dX6_same_84 (lv_at hl 0 rfl) ?_
        refine q_get C hP faj rfl inX2 2 (by decide) g198 rfl dX6_same_86 ?_
        have hpf : (zSv (S i)).Perm (zSv (S j)) ↔ xSm (S i).1 (S i).2.1 (S j).2.1 = true := xSm_hash (Or.inl hki) (hkj.trans hki.symm) hnoi hnoj (zSv_no hnoi) (zSv_no hnoj) zSv_len zSv_len
        refine q_callSN (host := RX6) (rest := []) C (z_alikeNR l D cy N0 (qs h x (.inr (6, [.int mk, .ref sl, .ref bl, .ref kr, .ref vr, .int (oCq W.1), .int (nI (m0 + (zAm (S i) + zAm (S j)))), .int (nI Ed)]))) aj9) kX3_alike (by decide +kernel) g908 hP hS (by first | decide | omega) hl.1 rfl (by decide) (by first | decide | omega) dX6_same_89 (fun v hh14 H locs hq hP hS => ?_)
        obtain ⟨rfl, rfl⟩ := hq
        obtain ⟨zz, ezz⟩ : ∃ z : Nat, z = 0 := ⟨_, rfl⟩
        rw [show nI 0 = nI zz by rw [ezz]]
        have hz01 : zz = 0 ∨ zz = 1 := Or.inl ezz
        have hxs : (if xSm (S i).1 (S i).2.1 (S j).2.1 = true then (1 : Int32) else 0) = nI zz := by rw [ezz, if_neg (fun y => (fun w9 : (zSv (S i)).Perm (zSv (S j)) => hnj (by rw [hei] at w9; exact w9.symm.eq_nil)) (hpf.mpr y))]; rfl
        have ex : (xs_same S (nI i) (nI j) m0) = (0, nI zz, m0 + (zAm (S i) + zAm (S j))) := by unfold xs_same; rw [if_neg (by rw [ebi, ebj]; decide), eci, ecj, if_neg (by rw [hoi, hki, hkj]; decide), if_neg (by rw [← hami, ← hamj]; omega), hxs, hami, hamj]
        exact q_zret C hP hS (hz01.elim (fun z => Or.inl (by rw [z]; rfl)) (fun z => Or.inr (by rw [z]; rfl))) ⟨by rw [ex], by rw [ex], by rw [ex]; exact hz.po hf⟩ (by omega) dX6_same_92
    · rcases hRj with ⟨rfl, hej⟩ | ⟨aj9, rfl, hnj, hTj⟩
      · refine lv_aload_n hx hb dX6_same_80 rfl (lv_at hl 1 rfl) ?_
        refine q_get C hP fai rfl inX2 2 (by decide) g198 rfl dX6_same_81 ?_
        refine lv_aload hx hb dX6_same_84 (lv_at hl 0 rfl) ?_
        refine q_get C hP faj rfl inX2 2 (by decide) g198 rfl dX6_same_86 ?_
        have hpf : (zSv (S i)).Perm (zSv (S j)) ↔ xSm (S i).1 (S i).2.1 (S j).2.1 = true := xSm_hash (Or.inl hki) (hkj.trans hki.symm) hnoi hnoj (zSv_no hnoi) (zSv_no hnoj) zSv_len zSv_len
        refine q_callSN (host := RX6) (rest := []) C (z_alikeRN l D cy N0 (qs h x (.inr (6, [.int mk, .ref sl, .ref bl, .ref kr, .ref vr, .int (oCq W.1), .int (nI (m0 + (zAm (S i) + zAm (S j)))), .int (nI Ed)]))) ai9) kX3_alike (by decide +kernel) g908 hP hS (by first | decide | omega) hl.1 rfl (by decide) (by first | decide | omega) dX6_same_89 (fun v hh15 H locs hq hP hS => ?_)
        obtain ⟨rfl, rfl⟩ := hq
        obtain ⟨zz, ezz⟩ : ∃ z : Nat, z = 0 := ⟨_, rfl⟩
        rw [show nI 0 = nI zz by rw [ezz]]
        have hz01 : zz = 0 ∨ zz = 1 := Or.inl ezz
        have hxs : (if xSm (S i).1 (S i).2.1 (S j).2.1 = true then (1 : Int32) else 0) = nI zz := by rw [ezz, if_neg (fun y => (fun w9 : (zSv (S i)).Perm (zSv (S j)) => hni (by rw [hej] at w9; exact w9.eq_nil)) (hpf.mpr y))]; rfl
        have ex : (xs_same S (nI i) (nI j) m0) = (0, nI zz, m0 + (zAm (S i) + zAm (S j))) := by unfold xs_same; rw [if_neg (by rw [ebi, ebj]; decide), eci, ecj, if_neg (by rw [hoi, hki, hkj]; decide), if_neg (by rw [← hami, ← hamj]; omega), hxs, hami, hamj]
        exact q_zret C hP hS (hz01.elim (fun z => Or.inl (by rw [z]; rfl)) (fun z => Or.inr (by rw [z]; rfl))) ⟨by rw [ex], by rw [ex], by rw [ex]; exact hz.po hf⟩ (by omega) dX6_same_92
      · refine lv_aload_n hx hb dX6_same_80 rfl (lv_at hl 1 rfl) ?_
        refine q_get C hP fai rfl inX2 2 (by decide) g198 rfl dX6_same_81 ?_
        refine lv_aload hx hb dX6_same_84 (lv_at hl 0 rfl) ?_
        refine q_get C hP faj rfl inX2 2 (by decide) g198 rfl dX6_same_86 ?_
        have hpf : (zSv (S i)).Perm (zSv (S j)) ↔ xSm (S i).1 (S i).2.1 (S j).2.1 = true := xSm_hash (Or.inl hki) (hkj.trans hki.symm) hnoi hnoj (zSv_no hnoi) (zSv_no hnoj) zSv_len zSv_len
        refine q_callSN (host := RX6) (rest := []) C (c_X3_alike l D cy N0 Im 0 (zOk Ed eb S) mk 8 (qs h x (.inr (6, [.int mk, .ref sl, .ref bl, .ref kr, .ref vr, .int (oCq W.1), .int (nI (m0 + (zAm (S i) + zAm (S j)))), .int (nI Ed)]))) 7 ai9 aj9 (zSv (S i)) (zSv (S j)) (fun _ => False) (fun _ => False) hTi hTj (by omega) (by rw [zSv_len]; omega) (by rw [zSv_len]; omega) (zSv_no hnoi) (by omega)) kX3_alike (by decide +kernel) g908 hP hS (by first | decide | omega) hl.1 rfl (by decide) (by first | decide | omega) dX6_same_89 (fun v hh16 H locs hq hP hS => ?_)
        obtain ⟨rfl, hq⟩ := hq
        rcases hq with ⟨rfl, hpp⟩ | ⟨rfl, hpp⟩
        · obtain ⟨zz, ezz⟩ : ∃ z : Nat, z = 1 := ⟨_, rfl⟩
          rw [show nI 1 = nI zz by rw [ezz]]
          have hz01 : zz = 0 ∨ zz = 1 := Or.inr ezz
          have hxs : (if xSm (S i).1 (S i).2.1 (S j).2.1 = true then (1 : Int32) else 0) = nI zz := by rw [ezz, if_pos (hpf.mp hpp)]; rfl
          have ex : (xs_same S (nI i) (nI j) m0) = (0, nI zz, m0 + (zAm (S i) + zAm (S j))) := by unfold xs_same; rw [if_neg (by rw [ebi, ebj]; decide), eci, ecj, if_neg (by rw [hoi, hki, hkj]; decide), if_neg (by rw [← hami, ← hamj]; omega), hxs, hami, hamj]
          exact q_zret C hP hS (hz01.elim (fun z => Or.inl (by rw [z]; rfl)) (fun z => Or.inr (by rw [z]; rfl))) ⟨by rw [ex], by rw [ex], by rw [ex]; exact hz.po hf⟩ (by omega) dX6_same_92
        · obtain ⟨zz, ezz⟩ : ∃ z : Nat, z = 0 := ⟨_, rfl⟩
          rw [show nI 0 = nI zz by rw [ezz]]
          have hz01 : zz = 0 ∨ zz = 1 := Or.inl ezz
          have hxs : (if xSm (S i).1 (S i).2.1 (S j).2.1 = true then (1 : Int32) else 0) = nI zz := by rw [ezz, if_neg (fun y => hpp (hpf.mpr y))]; rfl
          have ex : (xs_same S (nI i) (nI j) m0) = (0, nI zz, m0 + (zAm (S i) + zAm (S j))) := by unfold xs_same; rw [if_neg (by rw [ebi, ebj]; decide), eci, ecj, if_neg (by rw [hoi, hki, hkj]; decide), if_neg (by rw [← hami, ← hamj]; omega), hxs, hami, hamj]
          exact q_zret C hP hS (hz01.elim (fun z => Or.inl (by rw [z]; rfl)) (fun z => Or.inr (by rw [z]; rfl))) ⟨by rw [ex], by rw [ex], by rw [ex]; exact hz.po hf⟩ (by omega) dX6_same_92
  · have hk6i : ¬ (S i).1 = 6 := fun z => absurd (hki.symm.trans z) (by decide)
    have hami : zAm (S i) = (S i).2.1.length := zAm_n hk6i
    rw [hki] at fai
    refine lv_astore_n (lv' := [(3, .ref ai), (0, .ref x), (1, .int (nI i)), (2, .int (nI j))]) hx hb dX6_same_15 rfl hl (by decide) rfl (fun ls hl => ?_)
    refine lv_aload_n hx hb dX6_same_16 rfl (lv_at hl 1 rfl) ?_
    refine lv_iload_n hx hb dX6_same_17 rfl (lv_at hl 3 rfl) ?_
    refine lv_iconst (v := nI 1) hx hb dX6_same_18 (by decide) ?_
    refine lv_aload_n hx hb dX6_same_19 rfl (lv_at hl 0 rfl) ?_
    refine q_get C hP fai rfl inX2 0 (by decide) g192 rfl dX6_same_20 ?_
    refine lv_ishl hx hb dX6_same_23 ?_
    rw [show nI 1 <<< (nI 2 &&& 31) = 4 by decide]
    refine q_callV (rest := []) C (z_heldIn l D N0 (nI j) 4 hz hI) kX6_heldIn g243 g245 rfl gp2 g1 hP hS hz.1.1 (by first | decide | omega) hl.1 rfl (by decide) (by first | decide | omega) dX6_same_24 (fun q ce E h' H1 locs1 hE hP hS hc1 hc2 hc3 => hE.2.elim (fun y => by obtain ⟨rfl, -⟩ := hE; obtain ⟨rfl, hn9⟩ := y; exact absurd hn9 (by rw [ebj]; decide)) (fun y => by obtain ⟨rfl, -⟩ := hE; obtain ⟨rfl, i8, hi8, e8, ho8⟩ := y; obtain rfl : j = i8 := nI_inj32 (by omega) (by omega) e8; exact q_out C hP hS hc1 hc2 hc3 (by have ex : (xs_same S (nI i) (nI j) m0) = (2, 0, m0) := (by have ebj : bSl (nI j) = true := bSl_t (qSl.nI hi8); have ecj : (nI j).toNatClampNeg = j := nI_clamp (by omega); have hoj := ho8; unfold xs_same; rw [if_neg (by rw [ebi, ebj]; decide), eci, ecj, if_pos (Or.inr (by rw [hki]; exact (bHo_p2 (hI j (by omega)).2.2).2 hoj))]); exact ⟨by rw [ex]; exact .tail _ (.head _), by exact hz.po hf⟩) (by omega))) (fun v hh17 H locs hq hP hS => ?_)
    obtain ⟨rfl, j9, aj, hj9, ej9, hfsj, rfl, hoj, x1j, x2j, x3j, x4j, dvj, faj, zvj⟩ := hq
    obtain rfl : j = j9 := nI_inj32 (by omega) (by omega) ej9
    have hkj : (S j).1 = nI 2 := (bHo_p2 (hI j (by omega)).2.2).1 hoj
    have hk6j : ¬ (S j).1 = 6 := fun z => absurd (hkj.symm.trans z) (by decide)
    have hamj : zAm (S j) = (S j).2.1.length := zAm_n hk6j
    rw [hkj] at faj
    have hli := hLn i (by omega)
    obtain ⟨rfl, rfl, rfl, rfl, hRi⟩ := zvi.hash (Or.inr hki)
    have hnoi : qNo (S i).2.1 := (hI i (by omega)).2.1 (Or.inr (Or.inl hki))
    have hlj := hLn j (by omega)
    obtain ⟨rfl, rfl, rfl, rfl, hRj⟩ := zvj.hash (Or.inr hkj)
    have hnoj : qNo (S j).2.1 := (hI j (by omega)).2.1 (Or.inr (Or.inl hkj))
    refine lv_astore (lv' := [(4, .ref aj), (3, .ref ai), (0, .ref x), (1, .int (nI i)), (2, .int (nI j))]) hx hb dX6_same_27 hl (by decide) rfl (fun ls hl => ?_)
    refine lv_aload_n hx hb dX6_same_29 rfl (lv_at hl 2 rfl) ?_
    refine lv_aload_n hx hb dX6_same_30 rfl (lv_at hl 1 rfl) ?_
    obtain ⟨t1i, t2i, t3i, f1i, f2i, f3i, eti⟩ := zvi.size
    refine q_callV (rest := [.ref x]) C (c_X2_amount l D cy N0 h ai (nI 2) 0 t1i t2i t3i none x2i none none fai f1i f2i f3i) kX2_amount g222 g223 rfl g224 g10 hP hS fai (by first | decide | omega) hl.1 rfl (by simp [q_catrf, q_cati, q_catl, q_cata, q_catn]) (by first | decide | omega) dX6_same_31 (fun q ce E h' H1 locs1 hE => hE.elim) (fun v hh18 H locs hq hP hS => ?_)
    obtain ⟨rfl, rfl⟩ := hq
    rw [← eti]
    refine lv_aload hx hb dX6_same_34 (lv_at hl 0 rfl) ?_
    obtain ⟨t1j, t2j, t3j, f1j, f2j, f3j, etj⟩ := zvj.size
    refine q_callV (rest := [.int (nI (zAm (S i))), .ref x]) C (c_X2_amount l D cy N0 h aj (nI 2) 0 t1j t2j t3j none x2j none none faj f1j f2j f3j) kX2_amount g222 g223 rfl g224 g10 hP hS faj (by first | decide | omega) hl.1 rfl (by simp [q_catrf, q_cati, q_catl, q_cata, q_catn]) (by first | decide | omega) dX6_same_36 (fun q ce E h' H1 locs1 hE => hE.elim) (fun v hh19 H locs hq hP hS => ?_)
    obtain ⟨rfl, rfl⟩ := hq
    rw [← etj]
    refine q_iaddN hx hb dX6_same_39 ?_
    refine q_callV (rest := []) C (c_X6_takeMoves l D cy N0 h x sl bl kr vr mk (oCq W.1) (oMq W.1) (nI Ed) fs (nI (zAm (S i) + zAm (S j))) hz.1.1 hz.2.1.1) kX6_takeMoves g641 g643 rfl gp15 g1 hP hS hz.1.1 (by first | decide | omega) hl.1 rfl (by decide) (by first | decide | omega) dX6_same_40 (fun q ce E h' H1 locs1 hE hP hS hc1 hc2 hc3 => by obtain ⟨rfl, rfl, hn9⟩ := hE; replace hn9 : ¬ m0 + (zAm (S i) + zAm (S j)) ≤ 20000 := fun z => hn9 (by rw [hm0]; exact (zmvs hm9 (by omega)).mpr z); exact q_out C hP hS hc1 hc2 hc3 (by have ex : (xs_same S (nI i) (nI j) m0) = (3, 0, m0) := (by unfold xs_same; rw [if_neg (by rw [ebi, ebj]; decide), eci, ecj, if_neg (by rw [hoi, hki, hkj]; decide), if_pos (by rw [← hami, ← hamj]; omega)]); exact ⟨by rw [ex]; exact .tail _ (.tail _ (.head _)), by exact hz.po hf⟩) (by omega)) (fun v hh20 H locs hq hP hS => ?_)
    obtain ⟨rfl, rfl, hmv⟩ := hq
    have hmv2 : m0 + (zAm (S i) + zAm (S j)) ≤ 20000 := (zmvs hm9 (by omega)).mp (by rw [← hm0]; exact hmv)
    rw [show oMq W.1 = nI m0 from hm0, nI_add] at hP
    replace hP : qP D N0 (qs h x (.inr (6, [.int mk, .ref sl, .ref bl, .ref kr, .ref vr, .int (oCq W.1), .int (nI (m0 + (zAm (S i) + zAm (S j)))), .int (nI Ed)]))) H := hP
    replace fai := (qs_ne (h := h) (a := x) (o := (.inr (6, [.int mk, .ref sl, .ref bl, .ref kr, .ref vr, .int (oCq W.1), .int (nI (m0 + (zAm (S i) + zAm (S j)))), .int (nI Ed)]))) (fun z => by rw [z, hz.1.1] at fai; simp at fai)).trans fai
    replace faj := (qs_ne (h := h) (a := x) (o := (.inr (6, [.int mk, .ref sl, .ref bl, .ref kr, .ref vr, .int (oCq W.1), .int (nI (m0 + (zAm (S i) + zAm (S j)))), .int (nI Ed)]))) (fun z => by rw [z, hz.1.1] at faj; simp at faj)).trans faj
    replace zvi := zvi.up (o := .inr (6, [.int mk, .ref sl, .ref bl, .ref kr, .ref vr, .int (oCq W.1), .int (nI (m0 + (zAm (S i) + zAm (S j)))), .int (nI Ed)])) hz.1.1 (fun b y => (hz.2.2.2.2.2.1 b (Or.inl y)).1)
    replace zvj := zvj.up (o := .inr (6, [.int mk, .ref sl, .ref bl, .ref kr, .ref vr, .int (oCq W.1), .int (nI (m0 + (zAm (S i) + zAm (S j)))), .int (nI Ed)])) hz.1.1 (fun b y => (hz.2.2.2.2.2.1 b (Or.inl y)).1)
    replace hRi := hRi.keep (h' := qs h x (.inr (6, [.int mk, .ref sl, .ref bl, .ref kr, .ref vr, .int (oCq W.1), .int (nI (m0 + (zAm (S i) + zAm (S j)))), .int (nI Ed)]))) (fun b o e y => (qs_ne (hz.2.2.2.2.2.1 b (Or.inl (y.resolve_right id))).1).trans e)
    replace hRj := hRj.keep (h' := qs h x (.inr (6, [.int mk, .ref sl, .ref bl, .ref kr, .ref vr, .int (oCq W.1), .int (nI (m0 + (zAm (S i) + zAm (S j)))), .int (nI Ed)]))) (fun b o e y => (qs_ne (hz.2.2.2.2.2.1 b (Or.inl (y.resolve_right id))).1).trans e)
    replace hf := hf.trs (zFr.set (o' := .inr (6, [.int mk, .ref sl, .ref bl, .ref kr, .ref vr, .int (oCq W.1), .int (nI (m0 + (zAm (S i) + zAm (S j)))), .int (nI Ed)])) hz.1.1 (Or.inl rfl))
    replace hz : zQ cy (qs h x (.inr (6, [.int mk, .ref sl, .ref bl, .ref kr, .ref vr, .int (oCq W.1), .int (nI (m0 + (zAm (S i) + zAm (S j)))), .int (nI Ed)]))) x mk sl bl kr vr Ed fs bd br eb Im Xb g S (oMv W.1 (nI (m0 + (zAm (S i) + zAm (S j)))), W.2) := hz.mv hV
    replace hV := hV.mvs hm0 (M2 := m0 + (zAm (S i) + zAm (S j))) ⟨by omega, by omega⟩ hmv2
    replace hV : qWv Bd sk Rn dp (oMv W.1 (nI (m0 + (zAm (S i) + zAm (S j)))), W.2) := hV
    refine lv_aload_n hx hb dX6_same_43 rfl (lv_at hl 1 rfl) ?_
    refine q_get C hP fai rfl inX2 0 (by decide) g192 rfl dX6_same_44 ?_
    refine lv_tableIn (tgt := 80) (off := 33) hx hb dX6_same_47 (by decide +kernel) (by decide +kernel) (by decide +kernel) (by decide) ?_
    rcases hRi with ⟨rfl, hei⟩ | ⟨ai9, rfl, hni, hTi⟩
    · rcases hRj with ⟨rfl, hej⟩ | ⟨aj9, rfl, hnj, hTj⟩
      · refine lv_aload_n hx hb dX6_same_80 rfl (lv_at hl 1 rfl) ?_
        refine q_get C hP fai rfl inX2 2 (by decide) g198 rfl dX6_same_81 ?_
        refine lv_aload hx hb dX6_same_84 (lv_at hl 0 rfl) ?_
        refine q_get C hP faj rfl inX2 2 (by decide) g198 rfl dX6_same_86 ?_
        have hpf : (zSv (S i)).Perm (zSv (S j)) ↔ xSm (S i).1 (S i).2.1 (S j).2.1 = true := xSm_hash (Or.inr hki) (hkj.trans hki.symm) hnoi hnoj (zSv_no hnoi) (zSv_no hnoj) zSv_len zSv_len
        refine q_callSN (host := RX6) (rest := []) C (z_alikeNN l D cy N0 (qs h x (.inr (6, [.int mk, .ref sl, .ref bl, .ref kr, .ref vr, .int (oCq W.1), .int (nI (m0 + (zAm (S i) + zAm (S j)))), .int (nI Ed)]))) 0) kX3_alike (by decide +kernel) g908 hP hS (by first | decide | omega) hl.1 rfl (by decide) (by first | decide | omega) dX6_same_89 (fun v hh21 H locs hq hP hS => ?_)
        obtain ⟨rfl, rfl⟩ := hq
        obtain ⟨zz, ezz⟩ : ∃ z : Nat, z = 1 := ⟨_, rfl⟩
        rw [show nI 1 = nI zz by rw [ezz]]
        have hz01 : zz = 0 ∨ zz = 1 := Or.inr ezz
        have hxs : (if xSm (S i).1 (S i).2.1 (S j).2.1 = true then (1 : Int32) else 0) = nI zz := by rw [ezz, if_pos (hpf.mp (by rw [hei, hej]))]; rfl
        have ex : (xs_same S (nI i) (nI j) m0) = (0, nI zz, m0 + (zAm (S i) + zAm (S j))) := by unfold xs_same; rw [if_neg (by rw [ebi, ebj]; decide), eci, ecj, if_neg (by rw [hoi, hki, hkj]; decide), if_neg (by rw [← hami, ← hamj]; omega), hxs, hami, hamj]
        exact q_zret C hP hS (hz01.elim (fun z => Or.inl (by rw [z]; rfl)) (fun z => Or.inr (by rw [z]; rfl))) ⟨by rw [ex], by rw [ex], by rw [ex]; exact hz.po hf⟩ (by omega) dX6_same_92
      · refine lv_aload_n hx hb dX6_same_80 rfl (lv_at hl 1 rfl) ?_
        refine q_get C hP fai rfl inX2 2 (by decide) g198 rfl dX6_same_81 ?_
        refine lv_aload hx hb dX6_same_84 (lv_at hl 0 rfl) ?_
        refine q_get C hP faj rfl inX2 2 (by decide) g198 rfl dX6_same_86 ?_
        have hpf : (zSv (S i)).Perm (zSv (S j)) ↔ xSm (S i).1 (S i).2.1 (S j).2.1 = true := xSm_hash (Or.inr hki) (hkj.trans hki.symm) hnoi hnoj (zSv_no hnoi) (zSv_no hnoj) zSv_len zSv_len
        refine q_callSN (host := RX6) (rest := []) C (z_alikeNR l D cy N0 (qs h x (.inr (6, [.int mk, .ref sl, .ref bl, .ref kr, .ref vr, .int (oCq W.1), .int (nI (m0 + (zAm (S i) + zAm (S j)))), .int (nI Ed)]))) aj9) kX3_alike (by decide +kernel) g908 hP hS (by first | decide | omega) hl.1 rfl (by decide) (by first | decide | omega) dX6_same_89 (fun v hh22 H locs hq hP hS => ?_)
        obtain ⟨rfl, rfl⟩ := hq
        obtain ⟨zz, ezz⟩ : ∃ z : Nat, z = 0 := ⟨_, rfl⟩
        rw [show nI 0 = nI zz by rw [ezz]]
        have hz01 : zz = 0 ∨ zz = 1 := Or.inl ezz
        have hxs : (if xSm (S i).1 (S i).2.1 (S j).2.1 = true then (1 : Int32) else 0) = nI zz := by rw [ezz, if_neg (fun y => (fun w9 : (zSv (S i)).Perm (zSv (S j)) => hnj (by rw [hei] at w9; exact w9.symm.eq_nil)) (hpf.mpr y))]; rfl
        have ex : (xs_same S (nI i) (nI j) m0) = (0, nI zz, m0 + (zAm (S i) + zAm (S j))) := by unfold xs_same; rw [if_neg (by rw [ebi, ebj]; decide), eci, ecj, if_neg (by rw [hoi, hki, hkj]; decide), if_neg (by rw [← hami, ← hamj]; omega), hxs, hami, hamj]
        exact q_zret C hP hS (hz01.elim (fun z => Or.inl (by rw [z]; rfl)) (fun z => Or.inr (by rw [z]; rfl))) ⟨by rw [ex], by rw [ex], by rw [ex]; exact hz.po hf⟩ (by omega) dX6_same_92
    · rcases hRj with ⟨rfl, hej⟩ | ⟨aj9, rfl, hnj, hTj⟩
      · refine lv_aload_n hx hb dX6_same_80 rfl (lv_at hl 1 rfl) ?_
        refine q_get C hP fai rfl inX2 2 (by decide) g198 rfl dX6_same_81 ?_
        refine lv_aload hx hb dX6_same_84 (lv_at hl 0 rfl) ?_
        refine q_get C hP faj rfl inX2 2 (by decide) g198 rfl dX6_same_86 ?_
        have hpf : (zSv (S i)).Perm (zSv (S j)) ↔ xSm (S i).1 (S i).2.1 (S j).2.1 = true := xSm_hash (Or.inr hki) (hkj.trans hki.symm) hnoi hnoj (zSv_no hnoi) (zSv_no hnoj) zSv_len zSv_len
        refine q_callSN (host := RX6) (rest := []) C (z_alikeRN l D cy N0 (qs h x (.inr (6, [.int mk, .ref sl, .ref bl, .ref kr, .ref vr, .int (oCq W.1), .int (nI (m0 + (zAm (S i) + zAm (S j)))), .int (nI Ed)]))) ai9) kX3_alike (by decide +kernel) g908 hP hS (by first | decide | omega) hl.1 rfl (by decide) (by first | decide | omega) dX6_same_89 (fun v hh23 H locs hq hP hS => ?_)
        obtain ⟨rfl, rfl⟩ := hq
        obtain ⟨zz, ezz⟩ : ∃ z : Nat, z = 0 := ⟨_, rfl⟩
        rw [show nI 0 = nI zz by rw [ezz]]
        have hz01 : zz = 0 ∨ zz = 1 := Or.inl ezz
        have hxs : (if xSm (S i).1 (S i).2.1 (S j).2.1 = true then (1 : Int32) else 0) = nI zz := by rw [ezz, if_neg (fun y => (fun w9 : (zSv (S i)).Perm (zSv (S j)) => hni (by rw [hej] at w9; exact w9.eq_nil)) (hpf.mpr y))]; rfl
        have ex : (xs_same S (nI i) (nI j) m0) = (0, nI zz, m0 + (zAm (S i) + zAm (S j))) := by unfold xs_same; rw [if_neg (by rw [ebi, ebj]; decide), eci, ecj, if_neg (by rw [hoi, hki, hkj]; decide), if_neg (by rw [← hami, ← hamj]; omega), hxs, hami, hamj]
        exact q_zret C hP hS (hz01.elim (fun z => Or.inl (by rw [z]; rfl)) (fun z => Or.inr (by rw [z]; rfl))) ⟨by rw [ex], by rw [ex], by rw [ex]; exact hz.po hf⟩ (by omega) dX6_same_92
      · refine lv_aload_n hx hb dX6_same_80 rfl (lv_at hl 1 rfl) ?_
        refine q_get C hP fai rfl inX2 2 (by decide) g198 rfl dX6_same_81 ?_
        refine lv_aload hx hb dX6_same_84 (lv_at hl 0 rfl) ?_
        refine q_get C hP faj rfl inX2 2 (by decide) g198 rfl dX6_same_86 ?_
        have hpf : (zSv (S i)).Perm (zSv (S j)) ↔ xSm (S i).1 (S i).2.1 (S j).2.1 = true := xSm_hash (Or.inr hki) (hkj.trans hki.symm) hnoi hnoj (zSv_no hnoi) (zSv_no hnoj) zSv_len zSv_len
        refine q_callSN (host := RX6) (rest := []) C (c_X3_alike l D cy N0 Im 0 (zOk Ed eb S) mk 8 (qs h x (.inr (6, [.int mk, .ref sl, .ref bl, .ref kr, .ref vr, .int (oCq W.1), .int (nI (m0 + (zAm (S i) + zAm (S j)))), .int (nI Ed)]))) 7 ai9 aj9 (zSv (S i)) (zSv (S j)) (fun _ => False) (fun _ => False) hTi hTj (by omega) (by rw [zSv_len]; omega) (by rw [zSv_len]; omega) (zSv_no hnoi) (by omega)) kX3_alike (by decide +kernel) g908 hP hS (by first | decide | omega) hl.1 rfl (by decide) (by first | decide | omega) dX6_same_89 (fun v hh24 H locs hq hP hS => ?_)
        obtain ⟨rfl, hq⟩ := hq
        rcases hq with ⟨rfl, hpp⟩ | ⟨rfl, hpp⟩
        · obtain ⟨zz, ezz⟩ : ∃ z : Nat, z = 1 := ⟨_, rfl⟩
          rw [show nI 1 = nI zz by rw [ezz]]
          have hz01 : zz = 0 ∨ zz = 1 := Or.inr ezz
          have hxs : (if xSm (S i).1 (S i).2.1 (S j).2.1 = true then (1 : Int32) else 0) = nI zz := by rw [ezz, if_pos (hpf.mp hpp)]; rfl
          have ex : (xs_same S (nI i) (nI j) m0) = (0, nI zz, m0 + (zAm (S i) + zAm (S j))) := by unfold xs_same; rw [if_neg (by rw [ebi, ebj]; decide), eci, ecj, if_neg (by rw [hoi, hki, hkj]; decide), if_neg (by rw [← hami, ← hamj]; omega), hxs, hami, hamj]
          exact q_zret C hP hS (hz01.elim (fun z => Or.inl (by rw [z]; rfl)) (fun z => Or.inr (by rw [z]; rfl))) ⟨by rw [ex], by rw [ex], by rw [ex]; exact hz.po hf⟩ (by omega) dX6_same_92
        · obtain ⟨zz, ezz⟩ : ∃ z : Nat, z = 0 := ⟨_, rfl⟩
          rw [show nI 0 = nI zz by rw [ezz]]
          have hz01 : zz = 0 ∨ zz = 1 := Or.inl ezz
          have hxs : (if xSm (S i).1 (S i).2.1 (S j).2.1 = true then (1 : Int32) else 0) = nI zz := by rw [ezz, if_neg (fun y => hpp (hpf.mpr y))]; rfl
          have ex : (xs_same S (nI i) (nI j) m0) = (0, nI zz, m0 + (zAm (S i) + zAm (S j))) := by unfold xs_same; rw [if_neg (by rw [ebi, ebj]; decide), eci, ecj, if_neg (by rw [hoi, hki, hkj]; decide), if_neg (by rw [← hami, ← hamj]; omega), hxs, hami, hamj]
          exact q_zret C hP hS (hz01.elim (fun z => Or.inl (by rw [z]; rfl)) (fun z => Or.inr (by rw [z]; rfl))) ⟨by rw [ex], by rw [ex], by rw [ex]; exact hz.po hf⟩ (by omega) dX6_same_92
  · have hk6i : ¬ (S i).1 = 6 := fun z => absurd (hki.symm.trans z) (by decide)
    have hami : zAm (S i) = (S i).2.1.length := zAm_n hk6i
    rw [hki] at fai
    refine lv_astore_n (lv' := [(3, .ref ai), (0, .ref x), (1, .int (nI i)), (2, .int (nI j))]) hx hb dX6_same_15 rfl hl (by decide) rfl (fun ls hl => ?_)
    refine lv_aload_n hx hb dX6_same_16 rfl (lv_at hl 1 rfl) ?_
    refine lv_iload_n hx hb dX6_same_17 rfl (lv_at hl 3 rfl) ?_
    refine lv_iconst (v := nI 1) hx hb dX6_same_18 (by decide) ?_
    refine lv_aload_n hx hb dX6_same_19 rfl (lv_at hl 0 rfl) ?_
    refine q_get C hP fai rfl inX2 0 (by decide) g192 rfl dX6_same_20 ?_
    refine lv_ishl hx hb dX6_same_23 ?_
    rw [show nI 1 <<< (nI 3 &&& 31) = 8 by decide]
    refine q_callV (rest := []) C (z_heldIn l D N0 (nI j) 8 hz hI) kX6_heldIn g243 g245 rfl gp2 g1 hP hS hz.1.1 (by first | decide | omega) hl.1 rfl (by decide) (by first | decide | omega) dX6_same_24 (fun q ce E h' H1 locs1 hE hP hS hc1 hc2 hc3 => hE.2.elim (fun y => by obtain ⟨rfl, -⟩ := hE; obtain ⟨rfl, hn9⟩ := y; exact absurd hn9 (by rw [ebj]; decide)) (fun y => by obtain ⟨rfl, -⟩ := hE; obtain ⟨rfl, i8, hi8, e8, ho8⟩ := y; obtain rfl : j = i8 := nI_inj32 (by omega) (by omega) e8; exact q_out C hP hS hc1 hc2 hc3 (by have ex : (xs_same S (nI i) (nI j) m0) = (2, 0, m0) := (by have ebj : bSl (nI j) = true := bSl_t (qSl.nI hi8); have ecj : (nI j).toNatClampNeg = j := nI_clamp (by omega); have hoj := ho8; unfold xs_same; rw [if_neg (by rw [ebi, ebj]; decide), eci, ecj, if_pos (Or.inr (by rw [hki]; exact (bHo_p3 (hI j (by omega)).2.2).2 hoj))]); exact ⟨by rw [ex]; exact .tail _ (.head _), by exact hz.po hf⟩) (by omega))) (fun v hh25 H locs hq hP hS => ?_)
    obtain ⟨rfl, j9, aj, hj9, ej9, hfsj, rfl, hoj, x1j, x2j, x3j, x4j, dvj, faj, zvj⟩ := hq
    obtain rfl : j = j9 := nI_inj32 (by omega) (by omega) ej9
    have hkj : (S j).1 = nI 3 := (bHo_p3 (hI j (by omega)).2.2).1 hoj
    have hk6j : ¬ (S j).1 = 6 := fun z => absurd (hkj.symm.trans z) (by decide)
    have hamj : zAm (S j) = (S j).2.1.length := zAm_n hk6j
    rw [hkj] at faj
    have hli := hLn i (by omega)
    obtain ⟨rfl, rfl, rfl, rfl, ni, hbi⟩ := zvi.tree hki
    have hlj := hLn j (by omega)
    obtain ⟨rfl, rfl, rfl, rfl, nj, hbj⟩ := zvj.tree hkj
    refine lv_astore (lv' := [(4, .ref aj), (3, .ref ai), (0, .ref x), (1, .int (nI i)), (2, .int (nI j))]) hx hb dX6_same_27 hl (by decide) rfl (fun ls hl => ?_)
    refine lv_aload_n hx hb dX6_same_29 rfl (lv_at hl 2 rfl) ?_
    refine lv_aload_n hx hb dX6_same_30 rfl (lv_at hl 1 rfl) ?_
    obtain ⟨t1i, t2i, t3i, f1i, f2i, f3i, eti⟩ := zvi.size
    refine q_callV (rest := [.ref x]) C (c_X2_amount l D cy N0 h ai (nI 3) 0 t1i t2i t3i x1i none none none fai f1i f2i f3i) kX2_amount g222 g223 rfl g224 g10 hP hS fai (by first | decide | omega) hl.1 rfl (by simp [q_catrf, q_cati, q_catl, q_cata, q_catn]) (by first | decide | omega) dX6_same_31 (fun q ce E h' H1 locs1 hE => hE.elim) (fun v hh26 H locs hq hP hS => ?_)
    obtain ⟨rfl, rfl⟩ := hq
    rw [← eti]
    refine lv_aload hx hb dX6_same_34 (lv_at hl 0 rfl) ?_
    obtain ⟨t1j, t2j, t3j, f1j, f2j, f3j, etj⟩ := zvj.size
    refine q_callV (rest := [.int (nI (zAm (S i))), .ref x]) C (c_X2_amount l D cy N0 h aj (nI 3) 0 t1j t2j t3j x1j none none none faj f1j f2j f3j) kX2_amount g222 g223 rfl g224 g10 hP hS faj (by first | decide | omega) hl.1 rfl (by simp [q_catrf, q_cati, q_catl, q_cata, q_catn]) (by first | decide | omega) dX6_same_36 (fun q ce E h' H1 locs1 hE => hE.elim) (fun v hh27 H locs hq hP hS => ?_)
    obtain ⟨rfl, rfl⟩ := hq
    rw [← etj]
    refine q_iaddN hx hb dX6_same_39 ?_
    refine q_callV (rest := []) C (c_X6_takeMoves l D cy N0 h x sl bl kr vr mk (oCq W.1) (oMq W.1) (nI Ed) fs (nI (zAm (S i) + zAm (S j))) hz.1.1 hz.2.1.1) kX6_takeMoves g641 g643 rfl gp15 g1 hP hS hz.1.1 (by first | decide | omega) hl.1 rfl (by decide) (by first | decide | omega) dX6_same_40 (fun q ce E h' H1 locs1 hE hP hS hc1 hc2 hc3 => by obtain ⟨rfl, rfl, hn9⟩ := hE; replace hn9 : ¬ m0 + (zAm (S i) + zAm (S j)) ≤ 20000 := fun z => hn9 (by rw [hm0]; exact (zmvs hm9 (by omega)).mpr z); exact q_out C hP hS hc1 hc2 hc3 (by have ex : (xs_same S (nI i) (nI j) m0) = (3, 0, m0) := (by unfold xs_same; rw [if_neg (by rw [ebi, ebj]; decide), eci, ecj, if_neg (by rw [hoi, hki, hkj]; decide), if_pos (by rw [← hami, ← hamj]; omega)]); exact ⟨by rw [ex]; exact .tail _ (.tail _ (.head _)), by exact hz.po hf⟩) (by omega)) (fun v hh28 H locs hq hP hS => ?_)
    obtain ⟨rfl, rfl, hmv⟩ := hq
    have hmv2 : m0 + (zAm (S i) + zAm (S j)) ≤ 20000 := (zmvs hm9 (by omega)).mp (by rw [← hm0]; exact hmv)
    rw [show oMq W.1 = nI m0 from hm0, nI_add] at hP
    replace hP : qP D N0 (qs h x (.inr (6, [.int mk, .ref sl, .ref bl, .ref kr, .ref vr, .int (oCq W.1), .int (nI (m0 + (zAm (S i) + zAm (S j)))), .int (nI Ed)]))) H := hP
    replace fai := (qs_ne (h := h) (a := x) (o := (.inr (6, [.int mk, .ref sl, .ref bl, .ref kr, .ref vr, .int (oCq W.1), .int (nI (m0 + (zAm (S i) + zAm (S j)))), .int (nI Ed)]))) (fun z => by rw [z, hz.1.1] at fai; simp at fai)).trans fai
    replace faj := (qs_ne (h := h) (a := x) (o := (.inr (6, [.int mk, .ref sl, .ref bl, .ref kr, .ref vr, .int (oCq W.1), .int (nI (m0 + (zAm (S i) + zAm (S j)))), .int (nI Ed)]))) (fun z => by rw [z, hz.1.1] at faj; simp at faj)).trans faj
    replace zvi := zvi.up (o := .inr (6, [.int mk, .ref sl, .ref bl, .ref kr, .ref vr, .int (oCq W.1), .int (nI (m0 + (zAm (S i) + zAm (S j)))), .int (nI Ed)])) hz.1.1 (fun b y => (hz.2.2.2.2.2.1 b (Or.inl y)).1)
    replace zvj := zvj.up (o := .inr (6, [.int mk, .ref sl, .ref bl, .ref kr, .ref vr, .int (oCq W.1), .int (nI (m0 + (zAm (S i) + zAm (S j)))), .int (nI Ed)])) hz.1.1 (fun b y => (hz.2.2.2.2.2.1 b (Or.inl y)).1)
    replace hbi := hbi.seto (o := .inr (6, [.int mk, .ref sl, .ref bl, .ref kr, .ref vr, .int (oCq W.1), .int (nI (m0 + (zAm (S i) + zAm (S j)))), .int (nI Ed)])) hz.1.1 (by decide)
    replace hbj := hbj.seto (o := .inr (6, [.int mk, .ref sl, .ref bl, .ref kr, .ref vr, .int (oCq W.1), .int (nI (m0 + (zAm (S i) + zAm (S j)))), .int (nI Ed)])) hz.1.1 (by decide)
    replace hf := hf.trs (zFr.set (o' := .inr (6, [.int mk, .ref sl, .ref bl, .ref kr, .ref vr, .int (oCq W.1), .int (nI (m0 + (zAm (S i) + zAm (S j)))), .int (nI Ed)])) hz.1.1 (Or.inl rfl))
    replace hz : zQ cy (qs h x (.inr (6, [.int mk, .ref sl, .ref bl, .ref kr, .ref vr, .int (oCq W.1), .int (nI (m0 + (zAm (S i) + zAm (S j)))), .int (nI Ed)]))) x mk sl bl kr vr Ed fs bd br eb Im Xb g S (oMv W.1 (nI (m0 + (zAm (S i) + zAm (S j)))), W.2) := hz.mv hV
    replace hV := hV.mvs hm0 (M2 := m0 + (zAm (S i) + zAm (S j))) ⟨by omega, by omega⟩ hmv2
    replace hV : qWv Bd sk Rn dp (oMv W.1 (nI (m0 + (zAm (S i) + zAm (S j)))), W.2) := hV
    refine lv_aload_n hx hb dX6_same_43 rfl (lv_at hl 1 rfl) ?_
    refine q_get C hP fai rfl inX2 0 (by decide) g192 rfl dX6_same_44 ?_
    refine lv_tableIn (tgt := 107) (off := 60) hx hb dX6_same_47 (by decide +kernel) (by decide +kernel) (by decide +kernel) (by decide) ?_
    refine lv_aload_n hx hb dX6_same_107 rfl (lv_at hl 1 rfl) ?_
    refine q_get C hP fai rfl inX2 1 (by decide) g195 rfl dX6_same_108 ?_
    refine lv_aload hx hb dX6_same_111 (lv_at hl 0 rfl) ?_
    refine q_get C hP faj rfl inX2 1 (by decide) g195 rfl dX6_same_113 ?_
    refine q_callS (rest := []) C (c_X0_alike l D cy N0 (qs h x (.inr (6, [.int mk, .ref sl, .ref bl, .ref kr, .ref vr, .int (oCq W.1), .int (nI (m0 + (zAm (S i) + zAm (S j)))), .int (nI Ed)]))) x1i x1j ni nj (S i).2.1 (S j).2.1 hbi hbj (by omega) (by omega)) kX0_alike g929 g930 hP hS (by first | decide | omega) hl.1 rfl (by decide) (by first | decide | omega) dX6_same_116 (fun q ce E h' H1 locs1 hE => hE.elim) (fun v hh29 H locs hq hP hS => ?_)
    obtain ⟨rfl, rfl⟩ := hq
    obtain ⟨zz, ezz⟩ : ∃ z, (if (S i).2.1 = (S j).2.1 then 1 else 0) = z := ⟨_, rfl⟩
    rw [ezz]
    have hiff : (S i).2.1 = (S j).2.1 ↔ xSm (S i).1 (S i).2.1 (S j).2.1 = true := (xSm_n (fun z => z.elim (fun z => absurd (hki.symm.trans z) (by decide)) (fun z => absurd (hki.symm.trans z) (by decide)))).symm
    have hxs : (if xSm (S i).1 (S i).2.1 (S j).2.1 = true then (1 : Int32) else 0) = nI zz := if zc : (S i).2.1 = (S j).2.1 then (by rw [← ezz, if_pos zc, if_pos (hiff.mp zc)]; rfl) else (by rw [← ezz, if_neg zc, if_neg (fun y => zc (hiff.mpr y))]; rfl)
    have hz01 : zz = 0 ∨ zz = 1 := if zc : (S i).2.1 = (S j).2.1 then Or.inr (by rw [← ezz, if_pos zc]) else Or.inl (by rw [← ezz, if_neg zc])
    have ex : (xs_same S (nI i) (nI j) m0) = (0, nI zz, m0 + (zAm (S i) + zAm (S j))) := by unfold xs_same; rw [if_neg (by rw [ebi, ebj]; decide), eci, ecj, if_neg (by rw [hoi, hki, hkj]; decide), if_neg (by rw [← hami, ← hamj]; omega), hxs, hami, hamj]
    exact q_zret C hP hS (hz01.elim (fun z => Or.inl (by rw [z]; rfl)) (fun z => Or.inr (by rw [z]; rfl))) ⟨by rw [ex], by rw [ex], by rw [ex]; exact hz.po hf⟩ (by omega) dX6_same_119
  · have hk6i : ¬ (S i).1 = 6 := fun z => absurd (hki.symm.trans z) (by decide)
    have hami : zAm (S i) = (S i).2.1.length := zAm_n hk6i
    rw [hki] at fai
    refine lv_astore_n (lv' := [(3, .ref ai), (0, .ref x), (1, .int (nI i)), (2, .int (nI j))]) hx hb dX6_same_15 rfl hl (by decide) rfl (fun ls hl => ?_)
    refine lv_aload_n hx hb dX6_same_16 rfl (lv_at hl 1 rfl) ?_
    refine lv_iload_n hx hb dX6_same_17 rfl (lv_at hl 3 rfl) ?_
    refine lv_iconst (v := nI 1) hx hb dX6_same_18 (by decide) ?_
    refine lv_aload_n hx hb dX6_same_19 rfl (lv_at hl 0 rfl) ?_
    refine q_get C hP fai rfl inX2 0 (by decide) g192 rfl dX6_same_20 ?_
    refine lv_ishl hx hb dX6_same_23 ?_
    rw [show nI 1 <<< (nI 4 &&& 31) = 16 by decide]
    refine q_callV (rest := []) C (z_heldIn l D N0 (nI j) 16 hz hI) kX6_heldIn g243 g245 rfl gp2 g1 hP hS hz.1.1 (by first | decide | omega) hl.1 rfl (by decide) (by first | decide | omega) dX6_same_24 (fun q ce E h' H1 locs1 hE hP hS hc1 hc2 hc3 => hE.2.elim (fun y => by obtain ⟨rfl, -⟩ := hE; obtain ⟨rfl, hn9⟩ := y; exact absurd hn9 (by rw [ebj]; decide)) (fun y => by obtain ⟨rfl, -⟩ := hE; obtain ⟨rfl, i8, hi8, e8, ho8⟩ := y; obtain rfl : j = i8 := nI_inj32 (by omega) (by omega) e8; exact q_out C hP hS hc1 hc2 hc3 (by have ex : (xs_same S (nI i) (nI j) m0) = (2, 0, m0) := (by have ebj : bSl (nI j) = true := bSl_t (qSl.nI hi8); have ecj : (nI j).toNatClampNeg = j := nI_clamp (by omega); have hoj := ho8; unfold xs_same; rw [if_neg (by rw [ebi, ebj]; decide), eci, ecj, if_pos (Or.inr (by rw [hki]; exact (bHo_p4 (hI j (by omega)).2.2).2 hoj))]); exact ⟨by rw [ex]; exact .tail _ (.head _), by exact hz.po hf⟩) (by omega))) (fun v hh30 H locs hq hP hS => ?_)
    obtain ⟨rfl, j9, aj, hj9, ej9, hfsj, rfl, hoj, x1j, x2j, x3j, x4j, dvj, faj, zvj⟩ := hq
    obtain rfl : j = j9 := nI_inj32 (by omega) (by omega) ej9
    have hkj : (S j).1 = nI 4 := (bHo_p4 (hI j (by omega)).2.2).1 hoj
    have hk6j : ¬ (S j).1 = 6 := fun z => absurd (hkj.symm.trans z) (by decide)
    have hamj : zAm (S j) = (S j).2.1.length := zAm_n hk6j
    rw [hkj] at faj
    have hli := hLn i (by omega)
    obtain ⟨rfl, rfl, rfl, rfl, ni, hbi⟩ := zvi.seq (Or.inr hki)
    have hlj := hLn j (by omega)
    obtain ⟨rfl, rfl, rfl, rfl, nj, hbj⟩ := zvj.seq (Or.inr hkj)
    refine lv_astore (lv' := [(4, .ref aj), (3, .ref ai), (0, .ref x), (1, .int (nI i)), (2, .int (nI j))]) hx hb dX6_same_27 hl (by decide) rfl (fun ls hl => ?_)
    refine lv_aload_n hx hb dX6_same_29 rfl (lv_at hl 2 rfl) ?_
    refine lv_aload_n hx hb dX6_same_30 rfl (lv_at hl 1 rfl) ?_
    obtain ⟨t1i, t2i, t3i, f1i, f2i, f3i, eti⟩ := zvi.size
    refine q_callV (rest := [.ref x]) C (c_X2_amount l D cy N0 h ai (nI 4) 0 t1i t2i t3i x1i none none none fai f1i f2i f3i) kX2_amount g222 g223 rfl g224 g10 hP hS fai (by first | decide | omega) hl.1 rfl (by simp [q_catrf, q_cati, q_catl, q_cata, q_catn]) (by first | decide | omega) dX6_same_31 (fun q ce E h' H1 locs1 hE => hE.elim) (fun v hh31 H locs hq hP hS => ?_)
    obtain ⟨rfl, rfl⟩ := hq
    rw [← eti]
    refine lv_aload hx hb dX6_same_34 (lv_at hl 0 rfl) ?_
    obtain ⟨t1j, t2j, t3j, f1j, f2j, f3j, etj⟩ := zvj.size
    refine q_callV (rest := [.int (nI (zAm (S i))), .ref x]) C (c_X2_amount l D cy N0 h aj (nI 4) 0 t1j t2j t3j x1j none none none faj f1j f2j f3j) kX2_amount g222 g223 rfl g224 g10 hP hS faj (by first | decide | omega) hl.1 rfl (by simp [q_catrf, q_cati, q_catl, q_cata, q_catn]) (by first | decide | omega) dX6_same_36 (fun q ce E h' H1 locs1 hE => hE.elim) (fun v hh32 H locs hq hP hS => ?_)
    obtain ⟨rfl, rfl⟩ := hq
    rw [← etj]
    refine q_iaddN hx hb dX6_same_39 ?_
    refine q_callV (rest := []) C (c_X6_takeMoves l D cy N0 h x sl bl kr vr mk (oCq W.1) (oMq W.1) (nI Ed) fs (nI (zAm (S i) + zAm (S j))) hz.1.1 hz.2.1.1) kX6_takeMoves g641 g643 rfl gp15 g1 hP hS hz.1.1 (by first | decide | omega) hl.1 rfl (by decide) (by first | decide | omega) dX6_same_40 (fun q ce E h' H1 locs1 hE hP hS hc1 hc2 hc3 => by obtain ⟨rfl, rfl, hn9⟩ := hE; replace hn9 : ¬ m0 + (zAm (S i) + zAm (S j)) ≤ 20000 := fun z => hn9 (by rw [hm0]; exact (zmvs hm9 (by omega)).mpr z); exact q_out C hP hS hc1 hc2 hc3 (by have ex : (xs_same S (nI i) (nI j) m0) = (3, 0, m0) := (by unfold xs_same; rw [if_neg (by rw [ebi, ebj]; decide), eci, ecj, if_neg (by rw [hoi, hki, hkj]; decide), if_pos (by rw [← hami, ← hamj]; omega)]); exact ⟨by rw [ex]; exact .tail _ (.tail _ (.head _)), by exact hz.po hf⟩) (by omega)) (fun v hh33 H locs hq hP hS => ?_)
    obtain ⟨rfl, rfl, hmv⟩ := hq
    have hmv2 : m0 + (zAm (S i) + zAm (S j)) ≤ 20000 := (zmvs hm9 (by omega)).mp (by rw [← hm0]; exact hmv)
    rw [show oMq W.1 = nI m0 from hm0, nI_add] at hP
    replace hP : qP D N0 (qs h x (.inr (6, [.int mk, .ref sl, .ref bl, .ref kr, .ref vr, .int (oCq W.1), .int (nI (m0 + (zAm (S i) + zAm (S j)))), .int (nI Ed)]))) H := hP
    replace fai := (qs_ne (h := h) (a := x) (o := (.inr (6, [.int mk, .ref sl, .ref bl, .ref kr, .ref vr, .int (oCq W.1), .int (nI (m0 + (zAm (S i) + zAm (S j)))), .int (nI Ed)]))) (fun z => by rw [z, hz.1.1] at fai; simp at fai)).trans fai
    replace faj := (qs_ne (h := h) (a := x) (o := (.inr (6, [.int mk, .ref sl, .ref bl, .ref kr, .ref vr, .int (oCq W.1), .int (nI (m0 + (zAm (S i) + zAm (S j)))), .int (nI Ed)]))) (fun z => by rw [z, hz.1.1] at faj; simp at faj)).trans faj
    replace zvi := zvi.up (o := .inr (6, [.int mk, .ref sl, .ref bl, .ref kr, .ref vr, .int (oCq W.1), .int (nI (m0 + (zAm (S i) + zAm (S j)))), .int (nI Ed)])) hz.1.1 (fun b y => (hz.2.2.2.2.2.1 b (Or.inl y)).1)
    replace zvj := zvj.up (o := .inr (6, [.int mk, .ref sl, .ref bl, .ref kr, .ref vr, .int (oCq W.1), .int (nI (m0 + (zAm (S i) + zAm (S j)))), .int (nI Ed)])) hz.1.1 (fun b y => (hz.2.2.2.2.2.1 b (Or.inl y)).1)
    replace hbi := hbi.seto (o := .inr (6, [.int mk, .ref sl, .ref bl, .ref kr, .ref vr, .int (oCq W.1), .int (nI (m0 + (zAm (S i) + zAm (S j)))), .int (nI Ed)])) hz.1.1 (by decide)
    replace hbj := hbj.seto (o := .inr (6, [.int mk, .ref sl, .ref bl, .ref kr, .ref vr, .int (oCq W.1), .int (nI (m0 + (zAm (S i) + zAm (S j)))), .int (nI Ed)])) hz.1.1 (by decide)
    replace hf := hf.trs (zFr.set (o' := .inr (6, [.int mk, .ref sl, .ref bl, .ref kr, .ref vr, .int (oCq W.1), .int (nI (m0 + (zAm (S i) + zAm (S j)))), .int (nI Ed)])) hz.1.1 (Or.inl rfl))
    replace hz : zQ cy (qs h x (.inr (6, [.int mk, .ref sl, .ref bl, .ref kr, .ref vr, .int (oCq W.1), .int (nI (m0 + (zAm (S i) + zAm (S j)))), .int (nI Ed)]))) x mk sl bl kr vr Ed fs bd br eb Im Xb g S (oMv W.1 (nI (m0 + (zAm (S i) + zAm (S j)))), W.2) := hz.mv hV
    replace hV := hV.mvs hm0 (M2 := m0 + (zAm (S i) + zAm (S j))) ⟨by omega, by omega⟩ hmv2
    replace hV : qWv Bd sk Rn dp (oMv W.1 (nI (m0 + (zAm (S i) + zAm (S j)))), W.2) := hV
    refine lv_aload_n hx hb dX6_same_43 rfl (lv_at hl 1 rfl) ?_
    refine q_get C hP fai rfl inX2 0 (by decide) g192 rfl dX6_same_44 ?_
    refine lv_tableIn (tgt := 107) (off := 60) hx hb dX6_same_47 (by decide +kernel) (by decide +kernel) (by decide +kernel) (by decide) ?_
    refine lv_aload_n hx hb dX6_same_107 rfl (lv_at hl 1 rfl) ?_
    refine q_get C hP fai rfl inX2 1 (by decide) g195 rfl dX6_same_108 ?_
    refine lv_aload hx hb dX6_same_111 (lv_at hl 0 rfl) ?_
    refine q_get C hP faj rfl inX2 1 (by decide) g195 rfl dX6_same_113 ?_
    refine q_callS (rest := []) C (c_X0_alike l D cy N0 (qs h x (.inr (6, [.int mk, .ref sl, .ref bl, .ref kr, .ref vr, .int (oCq W.1), .int (nI (m0 + (zAm (S i) + zAm (S j)))), .int (nI Ed)]))) x1i x1j ni nj ((S i).2.1.map (fun p => ((0 : Int64), p.1))) ((S j).2.1.map (fun p => ((0 : Int64), p.1))) hbi hbj (by rw [List.length_map]; omega) (by rw [List.length_map]; omega)) kX0_alike g929 g930 hP hS (by first | decide | omega) hl.1 rfl (by decide) (by first | decide | omega) dX6_same_116 (fun q ce E h' H1 locs1 hE => hE.elim) (fun v hh34 H locs hq hP hS => ?_)
    obtain ⟨rfl, rfl⟩ := hq
    obtain ⟨zz, ezz⟩ : ∃ z, (if ((S i).2.1.map (fun p => ((0 : Int64), p.1))) = ((S j).2.1.map (fun p => ((0 : Int64), p.1))) then 1 else 0) = z := ⟨_, rfl⟩
    rw [ezz]
    have hiff : ((S i).2.1.map (fun p => ((0 : Int64), p.1))) = ((S j).2.1.map (fun p => ((0 : Int64), p.1))) ↔ xSm (S i).1 (S i).2.1 (S j).2.1 = true := xSm_seq (fun z => z.elim (fun z => absurd (hki.symm.trans z) (by decide)) (fun z => absurd (hki.symm.trans z) (by decide))) (h0v i (by omega) (Or.inr (Or.inl hki))) (h0v j (by omega) (Or.inr (Or.inl hkj)))
    have hxs : (if xSm (S i).1 (S i).2.1 (S j).2.1 = true then (1 : Int32) else 0) = nI zz := if zc : ((S i).2.1.map (fun p => ((0 : Int64), p.1))) = ((S j).2.1.map (fun p => ((0 : Int64), p.1))) then (by rw [← ezz, if_pos zc, if_pos (hiff.mp zc)]; rfl) else (by rw [← ezz, if_neg zc, if_neg (fun y => zc (hiff.mpr y))]; rfl)
    have hz01 : zz = 0 ∨ zz = 1 := if zc : ((S i).2.1.map (fun p => ((0 : Int64), p.1))) = ((S j).2.1.map (fun p => ((0 : Int64), p.1))) then Or.inr (by rw [← ezz, if_pos zc]) else Or.inl (by rw [← ezz, if_neg zc])
    have ex : (xs_same S (nI i) (nI j) m0) = (0, nI zz, m0 + (zAm (S i) + zAm (S j))) := by unfold xs_same; rw [if_neg (by rw [ebi, ebj]; decide), eci, ecj, if_neg (by rw [hoi, hki, hkj]; decide), if_neg (by rw [← hami, ← hamj]; omega), hxs, hami, hamj]
    exact q_zret C hP hS (hz01.elim (fun z => Or.inl (by rw [z]; rfl)) (fun z => Or.inr (by rw [z]; rfl))) ⟨by rw [ex], by rw [ex], by rw [ex]; exact hz.po hf⟩ (by omega) dX6_same_119
  · have hk6i : ¬ (S i).1 = 6 := fun z => absurd (hki.symm.trans z) (by decide)
    have hami : zAm (S i) = (S i).2.1.length := zAm_n hk6i
    rw [hki] at fai
    refine lv_astore_n (lv' := [(3, .ref ai), (0, .ref x), (1, .int (nI i)), (2, .int (nI j))]) hx hb dX6_same_15 rfl hl (by decide) rfl (fun ls hl => ?_)
    refine lv_aload_n hx hb dX6_same_16 rfl (lv_at hl 1 rfl) ?_
    refine lv_iload_n hx hb dX6_same_17 rfl (lv_at hl 3 rfl) ?_
    refine lv_iconst (v := nI 1) hx hb dX6_same_18 (by decide) ?_
    refine lv_aload_n hx hb dX6_same_19 rfl (lv_at hl 0 rfl) ?_
    refine q_get C hP fai rfl inX2 0 (by decide) g192 rfl dX6_same_20 ?_
    refine lv_ishl hx hb dX6_same_23 ?_
    rw [show nI 1 <<< (nI 5 &&& 31) = 32 by decide]
    refine q_callV (rest := []) C (z_heldIn l D N0 (nI j) 32 hz hI) kX6_heldIn g243 g245 rfl gp2 g1 hP hS hz.1.1 (by first | decide | omega) hl.1 rfl (by decide) (by first | decide | omega) dX6_same_24 (fun q ce E h' H1 locs1 hE hP hS hc1 hc2 hc3 => hE.2.elim (fun y => by obtain ⟨rfl, -⟩ := hE; obtain ⟨rfl, hn9⟩ := y; exact absurd hn9 (by rw [ebj]; decide)) (fun y => by obtain ⟨rfl, -⟩ := hE; obtain ⟨rfl, i8, hi8, e8, ho8⟩ := y; obtain rfl : j = i8 := nI_inj32 (by omega) (by omega) e8; exact q_out C hP hS hc1 hc2 hc3 (by have ex : (xs_same S (nI i) (nI j) m0) = (2, 0, m0) := (by have ebj : bSl (nI j) = true := bSl_t (qSl.nI hi8); have ecj : (nI j).toNatClampNeg = j := nI_clamp (by omega); have hoj := ho8; unfold xs_same; rw [if_neg (by rw [ebi, ebj]; decide), eci, ecj, if_pos (Or.inr (by rw [hki]; exact (bHo_p5 (hI j (by omega)).2.2).2 hoj))]); exact ⟨by rw [ex]; exact .tail _ (.head _), by exact hz.po hf⟩) (by omega))) (fun v hh35 H locs hq hP hS => ?_)
    obtain ⟨rfl, j9, aj, hj9, ej9, hfsj, rfl, hoj, x1j, x2j, x3j, x4j, dvj, faj, zvj⟩ := hq
    obtain rfl : j = j9 := nI_inj32 (by omega) (by omega) ej9
    have hkj : (S j).1 = nI 5 := (bHo_p5 (hI j (by omega)).2.2).1 hoj
    have hk6j : ¬ (S j).1 = 6 := fun z => absurd (hkj.symm.trans z) (by decide)
    have hamj : zAm (S j) = (S j).2.1.length := zAm_n hk6j
    rw [hkj] at faj
    have hli := hLn i (by omega)
    obtain ⟨rfl, rfl, rfl, rfl, ni, Mi, hpi, hpmi⟩ := zvi.heap hki
    have hmli : Mi.length ≤ 1000 := by have := hpmi.length_eq; rw [List.length_map] at this; omega
    have hlj := hLn j (by omega)
    obtain ⟨rfl, rfl, rfl, rfl, nj, Mj, hpj, hpmj⟩ := zvj.heap hkj
    have hmlj : Mj.length ≤ 1000 := by have := hpmj.length_eq; rw [List.length_map] at this; omega
    refine lv_astore (lv' := [(4, .ref aj), (3, .ref ai), (0, .ref x), (1, .int (nI i)), (2, .int (nI j))]) hx hb dX6_same_27 hl (by decide) rfl (fun ls hl => ?_)
    refine lv_aload_n hx hb dX6_same_29 rfl (lv_at hl 2 rfl) ?_
    refine lv_aload_n hx hb dX6_same_30 rfl (lv_at hl 1 rfl) ?_
    obtain ⟨t1i, t2i, t3i, f1i, f2i, f3i, eti⟩ := zvi.size
    refine q_callV (rest := [.ref x]) C (c_X2_amount l D cy N0 h ai (nI 5) 0 t1i t2i t3i none none x3i none fai f1i f2i f3i) kX2_amount g222 g223 rfl g224 g10 hP hS fai (by first | decide | omega) hl.1 rfl (by simp [q_catrf, q_cati, q_catl, q_cata, q_catn]) (by first | decide | omega) dX6_same_31 (fun q ce E h' H1 locs1 hE => hE.elim) (fun v hh36 H locs hq hP hS => ?_)
    obtain ⟨rfl, rfl⟩ := hq
    rw [← eti]
    refine lv_aload hx hb dX6_same_34 (lv_at hl 0 rfl) ?_
    obtain ⟨t1j, t2j, t3j, f1j, f2j, f3j, etj⟩ := zvj.size
    refine q_callV (rest := [.int (nI (zAm (S i))), .ref x]) C (c_X2_amount l D cy N0 h aj (nI 5) 0 t1j t2j t3j none none x3j none faj f1j f2j f3j) kX2_amount g222 g223 rfl g224 g10 hP hS faj (by first | decide | omega) hl.1 rfl (by simp [q_catrf, q_cati, q_catl, q_cata, q_catn]) (by first | decide | omega) dX6_same_36 (fun q ce E h' H1 locs1 hE => hE.elim) (fun v hh37 H locs hq hP hS => ?_)
    obtain ⟨rfl, rfl⟩ := hq
    rw [← etj]
    refine q_iaddN hx hb dX6_same_39 ?_
    refine q_callV (rest := []) C (c_X6_takeMoves l D cy N0 h x sl bl kr vr mk (oCq W.1) (oMq W.1) (nI Ed) fs (nI (zAm (S i) + zAm (S j))) hz.1.1 hz.2.1.1) kX6_takeMoves g641 g643 rfl gp15 g1 hP hS hz.1.1 (by first | decide | omega) hl.1 rfl (by decide) (by first | decide | omega) dX6_same_40 (fun q ce E h' H1 locs1 hE hP hS hc1 hc2 hc3 => by obtain ⟨rfl, rfl, hn9⟩ := hE; replace hn9 : ¬ m0 + (zAm (S i) + zAm (S j)) ≤ 20000 := fun z => hn9 (by rw [hm0]; exact (zmvs hm9 (by omega)).mpr z); exact q_out C hP hS hc1 hc2 hc3 (by have ex : (xs_same S (nI i) (nI j) m0) = (3, 0, m0) := (by unfold xs_same; rw [if_neg (by rw [ebi, ebj]; decide), eci, ecj, if_neg (by rw [hoi, hki, hkj]; decide), if_pos (by rw [← hami, ← hamj]; omega)]); exact ⟨by rw [ex]; exact .tail _ (.tail _ (.head _)), by exact hz.po hf⟩) (by omega)) (fun v hh38 H locs hq hP hS => ?_)
    obtain ⟨rfl, rfl, hmv⟩ := hq
    have hmv2 : m0 + (zAm (S i) + zAm (S j)) ≤ 20000 := (zmvs hm9 (by omega)).mp (by rw [← hm0]; exact hmv)
    rw [show oMq W.1 = nI m0 from hm0, nI_add] at hP
    replace hP : qP D N0 (qs h x (.inr (6, [.int mk, .ref sl, .ref bl, .ref kr, .ref vr, .int (oCq W.1), .int (nI (m0 + (zAm (S i) + zAm (S j)))), .int (nI Ed)]))) H := hP
    replace fai := (qs_ne (h := h) (a := x) (o := (.inr (6, [.int mk, .ref sl, .ref bl, .ref kr, .ref vr, .int (oCq W.1), .int (nI (m0 + (zAm (S i) + zAm (S j)))), .int (nI Ed)]))) (fun z => by rw [z, hz.1.1] at fai; simp at fai)).trans fai
    replace faj := (qs_ne (h := h) (a := x) (o := (.inr (6, [.int mk, .ref sl, .ref bl, .ref kr, .ref vr, .int (oCq W.1), .int (nI (m0 + (zAm (S i) + zAm (S j)))), .int (nI Ed)]))) (fun z => by rw [z, hz.1.1] at faj; simp at faj)).trans faj
    replace zvi := zvi.up (o := .inr (6, [.int mk, .ref sl, .ref bl, .ref kr, .ref vr, .int (oCq W.1), .int (nI (m0 + (zAm (S i) + zAm (S j)))), .int (nI Ed)])) hz.1.1 (fun b y => (hz.2.2.2.2.2.1 b (Or.inl y)).1)
    replace zvj := zvj.up (o := .inr (6, [.int mk, .ref sl, .ref bl, .ref kr, .ref vr, .int (oCq W.1), .int (nI (m0 + (zAm (S i) + zAm (S j)))), .int (nI Ed)])) hz.1.1 (fun b y => (hz.2.2.2.2.2.1 b (Or.inl y)).1)
    replace hpi := hpi.seto (o := .inr (6, [.int mk, .ref sl, .ref bl, .ref kr, .ref vr, .int (oCq W.1), .int (nI (m0 + (zAm (S i) + zAm (S j)))), .int (nI Ed)])) hz.1.1 (by decide)
    replace hpj := hpj.seto (o := .inr (6, [.int mk, .ref sl, .ref bl, .ref kr, .ref vr, .int (oCq W.1), .int (nI (m0 + (zAm (S i) + zAm (S j)))), .int (nI Ed)])) hz.1.1 (by decide)
    replace hf := hf.trs (zFr.set (o' := .inr (6, [.int mk, .ref sl, .ref bl, .ref kr, .ref vr, .int (oCq W.1), .int (nI (m0 + (zAm (S i) + zAm (S j)))), .int (nI Ed)])) hz.1.1 (Or.inl rfl))
    replace hz : zQ cy (qs h x (.inr (6, [.int mk, .ref sl, .ref bl, .ref kr, .ref vr, .int (oCq W.1), .int (nI (m0 + (zAm (S i) + zAm (S j)))), .int (nI Ed)]))) x mk sl bl kr vr Ed fs bd br eb Im Xb g S (oMv W.1 (nI (m0 + (zAm (S i) + zAm (S j)))), W.2) := hz.mv hV
    replace hV := hV.mvs hm0 (M2 := m0 + (zAm (S i) + zAm (S j))) ⟨by omega, by omega⟩ hmv2
    replace hV : qWv Bd sk Rn dp (oMv W.1 (nI (m0 + (zAm (S i) + zAm (S j)))), W.2) := hV
    refine lv_aload_n hx hb dX6_same_43 rfl (lv_at hl 1 rfl) ?_
    refine q_get C hP fai rfl inX2 0 (by decide) g192 rfl dX6_same_44 ?_
    refine lv_tableIn (tgt := 93) (off := 46) hx hb dX6_same_47 (by decide +kernel) (by decide +kernel) (by decide +kernel) (by decide) ?_
    refine lv_aload_n hx hb dX6_same_93 rfl (lv_at hl 2 rfl) ?_
    refine lv_aload_n hx hb dX6_same_94 rfl (lv_at hl 1 rfl) ?_
    refine q_get C hP fai rfl inX2 3 (by decide) g200 rfl dX6_same_95 ?_
    refine lv_aload hx hb dX6_same_98 (lv_at hl 0 rfl) ?_
    refine q_get C hP faj rfl inX2 3 (by decide) g200 rfl dX6_same_100 ?_
    obtain ⟨f1r, hf1r⟩ := hz.2.1.2.2.1
    obtain ⟨f2r, hf2r⟩ := hz.2.1.2.2.2
    refine q_callV (rest := []) C (z_samePiles l D cy N0 (qs h x (.inr (6, [.int mk, .ref sl, .ref bl, .ref kr, .ref vr, .int (oCq W.1), .int (nI (m0 + (zAm (S i) + zAm (S j)))), .int (nI Ed)]))) x sl bl kr vr mk (oCq (oMv W.1 (nI (m0 + (zAm (S i) + zAm (S j)))), W.2).1) (oMq (oMv W.1 (nI (m0 + (zAm (S i) + zAm (S j)))), W.2).1) (nI Ed) f1r f2r x3i x3j ni nj Mi Mj ((S i).2.1.map Prod.fst) ((S j).2.1.map Prod.fst) hz.1.1 hf1r hf2r hz.2.2.2.2.1.1 hpi hpj hmli hmlj hpmi hpmj (qUp_map ((hI i (by omega)).1 (Or.inr hki))) (qUp_map ((hI j (by omega)).1 (Or.inr hkj)))) kX6_samePiles g914 g916 rfl gp26 g1 hP hS hz.1.1 (by first | decide | omega) hl.1 rfl (by decide) (by first | decide | omega) dX6_same_103 (fun q ce E h' H1 locs1 hE => hE.elim) (fun v hh39 H locs hq hP hS => ?_)
    obtain ⟨rfl, g1, g2, rfl⟩ := hq
    obtain ⟨zz, ezz⟩ : ∃ z, (if (S i).2.1.map Prod.fst = (S j).2.1.map Prod.fst then 1 else 0) = z := ⟨_, rfl⟩
    rw [ezz]
    have hiff : (S i).2.1.map Prod.fst = (S j).2.1.map Prod.fst ↔ xSm (S i).1 (S i).2.1 (S j).2.1 = true := xSm_key (fun z => z.elim (fun z => absurd (hki.symm.trans z) (by decide)) (fun z => absurd (hki.symm.trans z) (by decide))) (h0v i (by omega) (Or.inr (Or.inr hki))) (h0v j (by omega) (Or.inr (Or.inr hkj)))
    have hxs : (if xSm (S i).1 (S i).2.1 (S j).2.1 = true then (1 : Int32) else 0) = nI zz := if zc : (S i).2.1.map Prod.fst = (S j).2.1.map Prod.fst then (by rw [← ezz, if_pos zc, if_pos (hiff.mp zc)]; rfl) else (by rw [← ezz, if_neg zc, if_neg (fun y => zc (hiff.mpr y))]; rfl)
    have hz01 : zz = 0 ∨ zz = 1 := if zc : (S i).2.1.map Prod.fst = (S j).2.1.map Prod.fst then Or.inr (by rw [← ezz, if_pos zc]) else Or.inl (by rw [← ezz, if_neg zc])
    replace hf := hf.trs (zFr.set (o' := .inl (cy 1, 1000, .inr (.inl g1))) hz.2.1.2.2.1.choose_spec (Or.inr (Or.inr (Or.inl rfl))))
    replace hz := hz.rowk hV g1
    replace hf := hf.trs (zFr.set (o' := .inl (cy 1, 1000, .inr (.inl g2))) hz.2.1.2.2.2.choose_spec (Or.inr (Or.inr (Or.inr rfl))))
    replace hz := hz.rowv hV g2
    have ex : (xs_same S (nI i) (nI j) m0) = (0, nI zz, m0 + (zAm (S i) + zAm (S j))) := by unfold xs_same; rw [if_neg (by rw [ebi, ebj]; decide), eci, ecj, if_neg (by rw [hoi, hki, hkj]; decide), if_neg (by rw [← hami, ← hamj]; omega), hxs, hami, hamj]
    exact q_zret C hP hS (hz01.elim (fun z => Or.inl (by rw [z]; rfl)) (fun z => Or.inr (by rw [z]; rfl))) ⟨by rw [ex], by rw [ex], by rw [ex]; exact hz.po hf⟩ (by omega) dX6_same_106
