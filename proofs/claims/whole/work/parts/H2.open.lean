theorem bHo_7 {kd : Int32} (h : kd ∈ [(-1 : Int32), 0, 1, 2, 3, 4, 5, 6]) (e : bHo kd 7 = true) : kd = nI 0 ∨ (kd = 1 ∨ kd = 2) := by
  simp only [List.mem_cons, List.not_mem_nil, or_false] at h
  rcases h with rfl | rfl | rfl | rfl | rfl | rfl | rfl | rfl <;> revert e <;> decide
section ZBP
variable {cy : Nat → ClassId} {h h' h1 : qH} {x sl bl kr vr E : Nat} {mk : Int32} {fs : Nat → Option Nat} {bd br eb : Nat → Nat} {Im Im2 X2 : Nat → Prop} {Xb : Nat → Nat → Prop} {g : Nat → Nat} {S : Nat → qSlot} {W : qWo} {Bd sk Rn : Nat} {dp : Nat → Nat}
theorem zOk.op {b : Nat} {s' : qSlot} (o : Nat) (z : zOk E eb S o) : zOk (E + 1) (fun c => if c = b then E + 1 else eb c) (qU S (24 + b) s') o := by
  refine ⟨Nat.le_succ_of_le z.1, fun c hc y => ?_⟩
  have := z.1
  by_cases n : c = b
  · show o ≠ if c = b then E + 1 else eb c
    rw [if_pos n]; omega
  · show o ≠ if c = b then E + 1 else eb c
    rw [if_neg n]
    rw [qU_ne (by omega)] at y
    exact z.2 c hc y
/-- a builder is opened -/
theorem zQ.bop (q : zQ cy h x mk sl bl kr vr E fs bd br eb Im Xb g S W) (iv : qWv Bd sk Rn dp W) {b : Nat} (hb : b < 4) (hno : ∀ z, ¬ Xb b z) (hE9 : E + 1 < 1000) {s' : qSlot} (fr : ∀ z o, h z = some o → z ≠ bd b → z ≠ br b → z ≠ x → h' z = some o) (hx : h' x = some (.inr (6, [.int mk, .ref sl, .ref bl, .ref kr, .ref vr, .int (oCq W.1), .int (oMq W.1), .int (nI (E + 1))]))) (fd : ∀ z, h' z = none → h z = none)
    (hbu : zBu cy h' Im (zOk (E + 1) (fun c => if c = b then E + 1 else eb c) (qU S (24 + b) s')) mk s' (bd b) (br b) (E + 1) (fun _ => False)) : zPo cy h x mk sl bl kr vr E bd br Im Xb (qU S (24 + b) s') W h' := by
  have q0 := q
  obtain ⟨q1, -, q3, q4, s1, s2, s3, s4, s5, s6⟩ := q
  obtain ⟨op, kd, ln, ed, rt, f, b1, b2, -⟩ := q4 b hb
  obtain ⟨o, a, k⟩ := W
  have ko : ∀ {z ci : Nat} {fv : List Value}, h z = some (.inr (ci, fv)) → ci ≠ 1 → ci ≠ 6 → h' z = some (.inr (ci, fv)) := fun {z ci fv} e n n6 => fr z _ e (fun y => by rw [y, b1] at e; simp at e; exact n e.1.symm) (fun y => by rw [y, b2] at e; cases e) (fun y => by rw [y, q1.1] at e; simp at e; exact n6 e.1.symm)
  have kI : ∀ {z : Nat} {o : va_E}, h z = some o → Im z → h' z = some o := fun {z o} e y => by
    obtain ⟨t1, t2, t3, t4, t5, t6, t7⟩ := s2 z (Or.inl y)
    exact fr z o e (t6 b hb).1 (t6 b hb).2 t1
  have fr2 : ∀ z o, h z = some o → z ≠ bd b → z ≠ br b → ¬ Xb b z → z ≠ x → h' z = some o := fun z o e n1 n2 _ n3 => fr z o e n1 n2 n3
  have Q := q0.bst (h' := h') (E' := E + 1) (eb' := fun c => if c = b then E + 1 else eb c) (S' := qU S (24 + b) s') (Im' := Im) (Xb' := fun c => if c = b then (fun _ => False) else Xb c) hb ⟨hx, by rw [xRs_b (by omega)]; exact zG.keep iv q1.2 (fun b fs e _ => ko e (by decide) (by decide)) (fun b fs e => ko e (by decide) (by decide)) (fun _ _ => rfl)⟩ fr2 hE9 (fun i hi => qU_ne (by omega)) (fun c hc n => ⟨qU_ne (by omega), if_neg n, if_neg n⟩) (fun o => zOk.op o) (fun z y => y) (fun z y => ?_) (fun z y ci fv e => ?_) ?_ ?_ (fun c hc y => ?_)
  · refine Q.pob hb fr2 fd (Nat.le_refl _) (fun c hc n => if_neg n) (fun z y => y) (fun z y => ?_)
    rw [if_pos rfl] at y
    exact Or.inl (y.resolve_right id)
  · rw [if_pos rfl] at y
    exact Or.inl (y.resolve_right id)
  · rw [if_pos rfl] at y
    replace y := y.resolve_right id
    obtain ⟨o9, ho9⟩ := (s4 b hb).2.1 z (Or.inl y)
    have := kI ho9 y
    rw [e] at this; cases this
    exact (s2 z (Or.inl y)).2.2.2.2.2.2 ci fv ho9
  · rw [if_pos rfl]
    obtain ⟨t1, t2, t3, t4⟩ := (s4 b hb).no
    exact ⟨t1, fun z y => by obtain ⟨o9, ho9⟩ := t2 z y; exact ⟨o9, kI ho9 (y.resolve_right id)⟩, kI t3 t4, t4⟩
  · show zBu cy h' Im _ mk ((qU S (24 + b) s') (24 + b)) (bd b) (br b) (if b = b then E + 1 else eb b) (if b = b then (fun _ => False) else Xb b)
    rw [if_pos rfl, if_pos rfl, qU_at]
    exact hbu
  · show (if c = b then E + 1 else eb c) ≤ E + 1 ∧ ∀ d, d < 4 → _ → (if c = b then E + 1 else eb c) = (if d = b then E + 1 else eb d) → c = d
    have old : ∀ {c : Nat}, c < 4 → c ≠ b → (((qU S (24 + b) s') (24 + c)).1 = 1 ∨ ((qU S (24 + b) s') (24 + c)).1 = 2) → ((S (24 + c)).1 = 1 ∨ (S (24 + c)).1 = 2) ∧ eb c ≤ E := fun {c} hc n y => by
      rw [qU_ne (by omega)] at y; exact ⟨y, (s5 c hc y).1⟩
    by_cases n : c = b
    · rw [if_pos n]
      refine ⟨Nat.le_refl _, fun d hd w e => ?_⟩
      by_cases nd : d = b
      · rw [n, nd]
      · rw [if_neg nd] at e
        have := (old hd nd w).2
        omega
    · rw [if_neg n]
      obtain ⟨o1, o2⟩ := old hc n y
      refine ⟨by omega, fun d hd w e => ?_⟩
      by_cases nd : d = b
      · rw [if_pos nd] at e; omega
      · rw [if_neg nd] at e
        exact (s5 c hc o1).2 d hd (old hd nd w).1 e
end ZBP
theorem dX1_start_0 : decode cX1_start 0 = .ok (.aload_n 0, 1) := by decide +kernel
theorem dX1_start_1 : decode cX1_start 1 = .ok (.iconst 1, 1) := by decide +kernel
theorem dX1_start_2 : decode cX1_start 2 = .ok (.putfield 15, 3) := by decide +kernel
theorem dX1_start_5 : decode cX1_start 5 = .ok (.aload_n 0, 1) := by decide +kernel
theorem dX1_start_6 : decode cX1_start 6 = .ok (.aload_n 1, 1) := by decide +kernel
theorem dX1_start_7 : decode cX1_start 7 = .ok (.getfield 19, 3) := by decide +kernel
theorem dX1_start_10 : decode cX1_start 10 = .ok (.putfield 25, 3) := by decide +kernel
theorem dX1_start_13 : decode cX1_start 13 = .ok (.aload_n 0, 1) := by decide +kernel
theorem dX1_start_14 : decode cX1_start 14 = .ok (.aload_n 1, 1) := by decide +kernel
theorem dX1_start_15 : decode cX1_start 15 = .ok (.getfield 26, 3) := by decide +kernel
theorem dX1_start_18 : decode cX1_start 18 = .ok (.putfield 30, 3) := by decide +kernel
theorem dX1_start_21 : decode cX1_start 21 = .ok (.aload_n 0, 1) := by decide +kernel
theorem dX1_start_22 : decode cX1_start 22 = .ok (.iload_n 2, 1) := by decide +kernel
theorem dX1_start_23 : decode cX1_start 23 = .ok (.putfield 33, 3) := by decide +kernel
theorem dX1_start_26 : decode cX1_start 26 = .ok (.aload_n 0, 1) := by decide +kernel
theorem dX1_start_27 : decode cX1_start 27 = .ok (.aload_n 1, 1) := by decide +kernel
theorem dX1_start_28 : decode cX1_start 28 = .ok (.getfield 36, 3) := by decide +kernel
theorem dX1_start_31 : decode cX1_start 31 = .ok (.aload_n 0, 1) := by decide +kernel
theorem dX1_start_32 : decode cX1_start 32 = .ok (.getfield 9, 3) := by decide +kernel
theorem dX1_start_35 : decode cX1_start 35 = .ok (.iconst 0, 1) := by decide +kernel
theorem dX1_start_36 : decode cX1_start 36 = .ok (.invokestatic 40, 3) := by decide +kernel
theorem dX1_start_39 : decode cX1_start 39 = .ok (.putfield 46, 3) := by decide +kernel
theorem dX1_start_42 : decode cX1_start 42 = .ok (.return_, 1) := by decide +kernel
set_option maxRecDepth 100000 in
set_option maxHeartbeats 4000000 in
theorem z_start (l : Launch) (D : va_G) (cy : Nat → ClassId) (N0 : Nat) (h : qH) (b rb ah : Nat) (io kd ln e2 k9 dv e9 : Int32) (rt x1 x2 x3 x4 : Option Nat) (f : Nat → Int64) (n : Nat) (L : qKV) (hB : h b = some (.inr (1, [.ref rb, .int io, .int kd, .int ln, va_rf rt, .int e2]))) (hr : h rb = some (.inl (cy 1, 1000, .inr (.inl f)))) (hA : h ah = some (.inr (2, [.int k9, va_rf x1, va_rf x2, va_rf x3, va_rf x4, .int dv]))) (hbr : qBr h n x1 L) (hL : L.length ≤ 1000) (hn : n ≤ 14) : qC l D cy N0 yX1_start cX1_start 3 none 20 500 0 0 [.ref b, .ref ah, .int e9] h (fun v h' => v = none ∧ h' b = some (.inr (1, [.ref rb, .int 1, .int k9, .int (nI L.length), va_rf x2, .int e9])) ∧ h' rb = some (.inl (cy 1, 1000, .inr (.inl (qPour f 0 (List.map Prod.snd L))))) ∧ (∀ z o, h z = some o → z ≠ b → z ≠ rb → h' z = some o) ∧ ∀ z, h' z = none → h z = none) (fun E h' => False) := by
  refine q_ofW (by decide) (by exact Nat.le_of_ble_eq_true rfl) ?_
  intro p e s m below meth c ls C hP hl
  have hx := C.1
  have hb := C.2.1
  have hS : va_S (qA N0) s.heap s.heap [] := va_S.rf
  have hl : lv_has ls 3 [(0, .ref b), (1, .ref ah), (2, .int e9)] := hl
  have hB0 := hB
  have nbr : b ≠ rb := fun z => by rw [z, hr] at hB; cases hB
  have nba : ah ≠ b := fun z => by rw [z, hB] at hA; simp at hA
  refine lv_aload_n hx hb dX1_start_0 rfl (lv_at hl 0 rfl) ?_
  refine lv_iconst (v := nI 1) hx hb dX1_start_1 (by decide) ?_
  refine q_put C hP hS hB rfl inX1 tyX1 tyX1_ok nmX1 1 (by decide) g44 rfl rfl rfl (Nat.le_of_ble_eq_true rfl) dX1_start_2 (fun H locs hP hS => ?_)
  replace hA := (qs_ne (h := h) (a := b) (o := (.inr (1, [.ref rb, .int (nI 1), .int kd, .int ln, va_rf rt, .int e2]))) nba).trans hA
  replace hB : (qs h b (.inr (1, [.ref rb, .int (nI 1), .int kd, .int ln, va_rf rt, .int e2]))) b = some (.inr (1, [.ref rb, .int (nI 1), .int kd, .int ln, va_rf rt, .int e2])) := qs_self
  replace hP : qP D N0 (qs h b (.inr (1, [.ref rb, .int (nI 1), .int kd, .int ln, va_rf rt, .int e2]))) H := hP
  refine lv_aload_n hx hb dX1_start_5 rfl (lv_at hl 0 rfl) ?_
  refine lv_aload_n hx hb dX1_start_6 rfl (lv_at hl 1 rfl) ?_
  refine q_get C hP hA rfl inX2 0 (by decide) g191 rfl dX1_start_7 ?_
  refine q_put C hP hS hB rfl inX1 tyX1 tyX1_ok nmX1 2 (by decide) g46 rfl rfl rfl (Nat.le_of_ble_eq_true rfl) dX1_start_10 (fun H locs hP hS => ?_)
  rw [qs_qs] at hP
  replace hA := qs_re (o' := (.inr (1, [.ref rb, .int (nI 1), .int k9, .int ln, va_rf rt, .int e2]))) nba hA
  replace hB : (qs h b (.inr (1, [.ref rb, .int (nI 1), .int k9, .int ln, va_rf rt, .int e2]))) b = some (.inr (1, [.ref rb, .int (nI 1), .int k9, .int ln, va_rf rt, .int e2])) := qs_self
  replace hP : qP D N0 (qs h b (.inr (1, [.ref rb, .int (nI 1), .int k9, .int ln, va_rf rt, .int e2]))) H := hP
  refine lv_aload_n hx hb dX1_start_13 rfl (lv_at hl 0 rfl) ?_
  refine lv_aload_n hx hb dX1_start_14 rfl (lv_at hl 1 rfl) ?_
  refine q_get C hP hA rfl inX2 2 (by decide) g197 rfl dX1_start_15 ?_
  refine q_put C hP hS hB rfl inX1 tyX1 tyX1_ok nmX1 4 (by decide) g50 rfl (q_narf _) (q_firf _) (Nat.le_of_ble_eq_true rfl) dX1_start_18 (fun H locs hP hS => ?_)
  rw [qs_qs] at hP
  replace hA := qs_re (o' := (.inr (1, [.ref rb, .int (nI 1), .int k9, .int ln, va_rf x2, .int e2]))) nba hA
  replace hB : (qs h b (.inr (1, [.ref rb, .int (nI 1), .int k9, .int ln, va_rf x2, .int e2]))) b = some (.inr (1, [.ref rb, .int (nI 1), .int k9, .int ln, va_rf x2, .int e2])) := qs_self
  replace hP : qP D N0 (qs h b (.inr (1, [.ref rb, .int (nI 1), .int k9, .int ln, va_rf x2, .int e2]))) H := hP
  refine lv_aload_n hx hb dX1_start_21 rfl (lv_at hl 0 rfl) ?_
  refine lv_iload_n hx hb dX1_start_22 rfl (lv_at hl 2 rfl) ?_
  refine q_put C hP hS hB rfl inX1 tyX1 tyX1_ok nmX1 5 (by decide) g52 rfl rfl rfl (Nat.le_of_ble_eq_true rfl) dX1_start_23 (fun H locs hP hS => ?_)
  rw [qs_qs] at hP
  replace hA := qs_re (o' := (.inr (1, [.ref rb, .int (nI 1), .int k9, .int ln, va_rf x2, .int e9]))) nba hA
  replace hB : (qs h b (.inr (1, [.ref rb, .int (nI 1), .int k9, .int ln, va_rf x2, .int e9]))) b = some (.inr (1, [.ref rb, .int (nI 1), .int k9, .int ln, va_rf x2, .int e9])) := qs_self
  replace hP : qP D N0 (qs h b (.inr (1, [.ref rb, .int (nI 1), .int k9, .int ln, va_rf x2, .int e9]))) H := hP
  refine lv_aload_n hx hb dX1_start_26 rfl (lv_at hl 0 rfl) ?_
  refine lv_aload_n hx hb dX1_start_27 rfl (lv_at hl 1 rfl) ?_
  refine q_get C hP hA rfl inX2 1 (by decide) g194 rfl dX1_start_28 ?_
  refine lv_aload_n hx hb dX1_start_31 rfl (lv_at hl 0 rfl) ?_
  refine q_get C hP hB rfl inX1 0 (by decide) g42 rfl dX1_start_32 ?_
  refine lv_iconst (v := nI 0) hx hb dX1_start_35 (by decide) ?_
  have hb8 : qBr (qs h b (.inr (1, [.ref rb, .int (nI 1), .int k9, .int ln, va_rf x2, .int e9]))) n x1 L := hbr.seto hB0 (by decide)
  have hr8 : (qs h b (.inr (1, [.ref rb, .int (nI 1), .int k9, .int ln, va_rf x2, .int e9]))) rb = some (.inl (cy 1, 1000, .inr (.inl f))) := by first | exact (qs_ne nbr.symm).trans hr | exact (qs_ne nbr.symm).trans ((qs_ne nbr.symm).trans ((qs_ne nbr.symm).trans ((qs_ne nbr.symm).trans hr)))
  refine q_callSN (host := RX6) (rest := [.ref b]) C (c_X0_pourValues l D cy N0 (n + 1) (qs h b (.inr (1, [.ref rb, .int (nI 1), .int k9, .int ln, va_rf x2, .int e9]))) x1 n L rb 1000 f 0 hb8 hr8 (by omega) (by omega) (by omega)) kX0_pourValues (by decide +kernel) g940 hP hS (by first | decide | omega) hl.1 rfl (by simp [q_catrf, q_cati, q_catl, q_cata, q_catn]) (by first | decide | omega) dX1_start_36 (fun v hh1 H locs hq hP hS => ?_)
  obtain ⟨rfl, rfl⟩ := hq
  replace hP : qP D N0 (qs (qs h b (.inr (1, [.ref rb, .int (nI 1), .int k9, .int ln, va_rf x2, .int e9]))) rb (.inl (cy 1, 1000, .inr (.inl (qPour f 0 (List.map Prod.snd L)))))) H := hP
  have hB8 : (qs (qs h b (.inr (1, [.ref rb, .int (nI 1), .int k9, .int ln, va_rf x2, .int e9]))) rb (.inl (cy 1, 1000, .inr (.inl (qPour f 0 (List.map Prod.snd L)))))) b = some (.inr (1, [.ref rb, .int (nI 1), .int k9, .int ln, va_rf x2, .int e9])) := (qs_ne nbr).trans hB
  refine q_put C hP hS hB8 rfl inX1 tyX1 tyX1_ok nmX1 3 (by decide) g48 rfl rfl rfl (Nat.le_of_ble_eq_true rfl) dX1_start_39 (fun H locs hP hS => ?_)
  replace hB8 : (qs (qs (qs h b (.inr (1, [.ref rb, .int (nI 1), .int k9, .int ln, va_rf x2, .int e9]))) rb (.inl (cy 1, 1000, .inr (.inl (qPour f 0 (List.map Prod.snd L)))))) b (.inr (1, [.ref rb, .int (nI 1), .int k9, .int (nI (0 + L.length)), va_rf x2, .int e9]))) b = some (.inr (1, [.ref rb, .int (nI 1), .int k9, .int (nI (0 + L.length)), va_rf x2, .int e9])) := qs_self
  replace hP : qP D N0 (qs (qs (qs h b (.inr (1, [.ref rb, .int (nI 1), .int k9, .int ln, va_rf x2, .int e9]))) rb (.inl (cy 1, 1000, .inr (.inl (qPour f 0 (List.map Prod.snd L)))))) b (.inr (1, [.ref rb, .int (nI 1), .int k9, .int (nI (0 + L.length)), va_rf x2, .int e9]))) H := hP
  rw [Nat.zero_add] at hP
  exact q_vret C hP hS ⟨rfl, qs_self, (qs_ne nbr.symm).trans qs_self, fun z o e n1 n2 => (qs_ne n1).trans ((qs_ne n2).trans ((qs_ne n1).trans (e))), fun z y => qs_none (qs_none (qs_none (y)))⟩ (by omega) dX1_start_42
theorem zopr {L : qKV} {f : Nat → Int64} {j : Nat} (h0 : ∀ p ∈ L, p.2 = 0) (h : j < L.length) : L[j]? = some (qPour f 0 (List.map Prod.snd (L.map (fun p => ((0 : Int64), p.1)))) j, 0) := by
  rw [List.map_map]
  unfold qPour
  rw [if_pos (by rw [List.length_map]; omega)]
  rw [List.getElem?_eq_getElem h]
  have e0 := h0 _ (List.getElem_mem h)
  simp only [Nat.sub_zero, List.getD_eq_getElem?_getD, List.getElem?_map, List.getElem?_eq_getElem h, Option.map_some, Option.getD_some, Function.comp]
  rw [← e0]
theorem dX6_open_12 : decode cX6_open 12 = .ok (.astore_n 3, 1) := by decide +kernel
theorem dX6_open_13 : decode cX6_open 13 = .ok (.aload_n 0, 1) := by decide +kernel
theorem dX6_open_14 : decode cX6_open 14 = .ok (.getfield 17, 3) := by decide +kernel
theorem dX6_open_17 : decode cX6_open 17 = .ok (.iload_n 1, 1) := by decide +kernel
theorem dX6_open_18 : decode cX6_open 18 = .ok (.aaload, 1) := by decide +kernel
theorem dX6_open_19 : decode cX6_open 19 = .ok (.astore 4, 2) := by decide +kernel
theorem dX6_open_21 : decode cX6_open 21 = .ok (.aload 4, 2) := by decide +kernel
theorem dX6_open_23 : decode cX6_open 23 = .ok (.getfield 315, 3) := by decide +kernel
theorem dX6_open_26 : decode cX6_open 26 = .ok (.ifCond .eq 14, 3) := by decide +kernel
theorem dX6_open_29 : decode cX6_open 29 = .ok (.new 319, 3) := by decide +kernel
theorem dX6_open_32 : decode cX6_open 32 = .ok (.dup, 1) := by decide +kernel
theorem dX6_open_33 : decode cX6_open 33 = .ok (.ldc_w 321, 3) := by decide +kernel
theorem dX6_open_36 : decode cX6_open 36 = .ok (.invokespecial 323, 3) := by decide +kernel
theorem dX6_open_39 : decode cX6_open 39 = .ok (.athrow, 1) := by decide +kernel
theorem dX6_open_40 : decode cX6_open 40 = .ok (.aload 4, 2) := by decide +kernel
theorem dX6_open_42 : decode cX6_open 42 = .ok (.aload_n 3, 1) := by decide +kernel
theorem dX6_open_43 : decode cX6_open 43 = .ok (.aload_n 0, 1) := by decide +kernel
theorem dX6_open_44 : decode cX6_open 44 = .ok (.invokevirtual 70, 3) := by decide +kernel
theorem dX6_open_47 : decode cX6_open 47 = .ok (.invokevirtual 326, 3) := by decide +kernel
theorem dX6_open_50 : decode cX6_open 50 = .ok (.return_, 1) := by decide +kernel
set_option maxRecDepth 100000 in
set_option maxHeartbeats 4000000 in
theorem z_open (l : Launch) (D : va_G) (cy : Nat → ClassId) (N0 : Nat) (h : qH) (x : Nat) (mk : Int32) (sl bl kr vr Ed : Nat) (fs : Nat → Option Nat) (bd br eb : Nat → Nat) (Im : Nat → Prop) (Xb : Nat → Nat → Prop) (g : Nat → Nat) (S : Nat → qSlot) (W : qWo) (Bd sk Rn : Nat) (dp : Nat → Nat) (gr : Int32) (p0 p1 : Int32) (hz : zQ cy h x mk sl bl kr vr Ed fs bd br eb Im Xb g S W) (hI : ∀ i, i < 28 → qOk (S i).1 (S i).2.1) (hLn : ∀ i, i < 28 → (S i).2.1.length ≤ 1000) (hV : qWv Bd sk Rn dp W) (hmk : qMk gr = mk) (hAl : ∀ i, i < 28 → ((S i).1 = 1 ∨ (S i).1 = 2) → ∀ k, xAl gr (S i).2.1 k ≤ 16) (h64 : ∀ i, i < 28 → ((S i).1 = 1 ∨ (S i).1 = 2 ∨ (S i).1 = 3) → (S i).2.1.length ≤ 64) (hE9 : Ed + 1 < 1000) (h0v : ∀ i, i < 28 → ((S i).1 = 0 ∨ (S i).1 = 4 ∨ (S i).1 = 5) → ∀ p ∈ (S i).2.1, p.2 = 0) : qC l D cy N0 yX6_open cX6_open 5 none 30 900 12 60 [.ref x, .int p0, .int p1] h (fun v h' => (xs_open S p0 p1).1 = 0 ∧ v = none ∧ zPo cy h x mk sl bl kr vr Ed bd br Im Xb ((xs_open S p0 p1).2) W h') (fun E h' => zXc [(1, "java/lang/IllegalArgumentException"), (2, "java/lang/IllegalStateException")] E (xs_open S p0 p1).1 ∧ zPo cy h x mk sl bl kr vr Ed bd br Im Xb S W h') := by
  refine q_ofW (by decide) (by exact Nat.le_of_ble_eq_true rfl) ?_
  intro p e s m below meth c ls C hP hl
  have hx := C.1
  have hb := C.2.1
  have hS : va_S (qA N0) s.heap s.heap [] := va_S.rf
  have hl : lv_has ls 5 [(0, .ref x), (1, .int p0), (2, .int p1)] := hl
  have hf : zFr h h x sl kr vr bd br Xb := zFr.rf
  refine lv_iload_n hx hb dX6_open_0 rfl (lv_at hl 1 rfl) ?_
  refine lv_iconst (v := nI 3) hx hb dX6_open_1 (by decide) ?_
  refine q_callS (rest := []) C (c_X6_needWithin l D cy N0 h p0 3) kX6_needWithin g107 g108 hP hS (by first | decide | omega) hl.1 rfl (by decide) (by first | decide | omega) dX6_open_2 (fun q ce E h' H1 locs1 hE hP hS hc1 hc2 hc3 => by obtain ⟨rfl, rfl, hn9⟩ := hE; exact q_out C hP hS hc1 hc2 hc3 (by have ex : (xs_open S p0 p1) = (1, S) := (by unfold xs_open; rw [if_pos (Or.inl (bB3_f (fun z => hn9.elim z.1 (fun y => y z.2))))]); exact ⟨by rw [ex]; exact .head _, by exact hz.po hf⟩) (by omega)) (fun v hh1 H locs hq hP hS => ?_)
  obtain ⟨rfl, rfl, gw1, gw2⟩ := hq
  obtain ⟨bb, hbb, rfl⟩ := nI_of2 (M := 3) (n := 3) (by decide) gw1 gw2
  have ebb : bB3 (nI bb) = true := bB3_t ⟨gw1, gw2⟩
  have ecb : (nI bb).toNatClampNeg = bb := nI_clamp (by omega)
  refine lv_aload_n hx hb dX6_open_5 rfl (lv_at hl 0 rfl) ?_
  refine lv_iload_n hx hb dX6_open_6 rfl (lv_at hl 2 rfl) ?_
  refine lv_bipush (v := nI 7) hx hb dX6_open_7 (by decide) ?_
  refine q_callV (rest := []) C (z_heldIn l D N0 p1 7 hz hI) kX6_heldIn g243 g245 rfl gp2 g1 hP hS hz.1.1 (by first | decide | omega) hl.1 rfl (by decide) (by first | decide | omega) dX6_open_9 (fun q ce E h' H1 locs1 hE hP hS hc1 hc2 hc3 => hE.2.elim (fun y => by obtain ⟨rfl, -⟩ := hE; obtain ⟨rfl, hn9⟩ := y; exact q_out C hP hS hc1 hc2 hc3 (by have ex : (xs_open S (nI bb) p1) = (1, S) := (by have ebj := hn9; unfold xs_open; rw [if_pos (Or.inr ebj)]); exact ⟨by rw [ex]; exact .head _, by exact hz.po hf⟩) (by omega)) (fun y => by obtain ⟨rfl, -⟩ := hE; obtain ⟨rfl, j, hi8, rfl, ho8⟩ := y; exact q_out C hP hS hc1 hc2 hc3 (by have ex : (xs_open S (nI bb) (nI j)) = (2, S) := (by have ebj : bSl (nI j) = true := bSl_t (qSl.nI hi8); have ecj : (nI j).toNatClampNeg = j := nI_clamp (by omega); have hoj := ho8; unfold xs_open; rw [if_neg (by rw [ebb, ebj]; decide), ecb, ecj, if_pos (Or.inl hoj)]); exact ⟨by rw [ex]; exact .tail _ (.head _), by exact hz.po hf⟩) (by omega))) (fun v hh2 H locs hq hP hS => ?_)
  obtain ⟨rfl, j, aj, hj, rfl, hfsj, rfl, hoj, x1j, x2j, x3j, x4j, dvj, faj, zvj⟩ := hq
  have ebj : bSl (nI j) = true := bSl_t (qSl.nI hj)
  have ecj : (nI j).toNatClampNeg = j := nI_clamp (by omega)
  rcases bHo_7 (hI j (by omega)).2.2 hoj with hk9 | hk9
  · rw [hk9] at faj
    obtain ⟨rfl, rfl, rfl, rfl, n9, hb9⟩ := zvj.seq (Or.inl hk9)
    have hlm : ((S j).2.1.map (fun p => ((0 : Int64), p.1))).length = (S j).2.1.length := List.length_map ..
    have hl9 := hLn j (by omega)
    have hn14 : n9 ≤ 14 := hb9.h14 (by omega)
    refine lv_astore_n (lv' := [(3, .ref aj), (0, .ref x), (1, .int (nI bb)), (2, .int (nI j))]) hx hb dX6_open_12 rfl hl (by decide) rfl (fun ls hl => ?_)
    refine lv_aload_n hx hb dX6_open_13 rfl (lv_at hl 1 rfl) ?_
    refine q_get C hP hz.1.1 rfl inX6 2 (by decide) g70 rfl dX6_open_14 ?_
    refine lv_iload_n hx hb dX6_open_17 rfl (lv_at hl 2 rfl) ?_
    obtain ⟨q9, hbl, hqb⟩ := hz.2.1.2.1
    obtain ⟨op, kd, ln, ed9, rt, fb, fbo, fbr, hbc⟩ := hz.2.2.2.1 bb (by omega)
    obtain ⟨ab, eab⟩ : ∃ z, bd bb = z := ⟨_, rfl⟩
    obtain ⟨rb, erb⟩ : ∃ z, br bb = z := ⟨_, rfl⟩
    rw [eab, erb] at fbo
    rw [erb] at fbr
    refine q_aaldN C hP hbl rfl (by omega) (by omega) dX6_open_18 ?_
    rw [hqb bb (by omega), eab]
    rcases hbc with ⟨hm1, rfl, hnx⟩ | ⟨rfl, ekd, eed, hbc⟩
    · refine lv_astore (lv' := [(4, .ref ab), (3, .ref aj), (0, .ref x), (1, .int (nI bb)), (2, .int (nI j))]) hx hb dX6_open_19 hl (by decide) rfl (fun ls hl => ?_)
      refine lv_aload hx hb dX6_open_21 (lv_at hl 0 rfl) ?_
      refine q_getN C hP fbo rfl inX1 1 (by decide) (by decide +kernel) rfl dX6_open_23 ?_
      refine lv_if_eq (tgt := 40) hx hb dX6_open_26 (by decide) (fun c26 => ?_) (fun c26 => ?_)
      · replace c26 : 0 = 0 := (nI_eq (a := 0) (b := 0) (by omega) (by omega)).mp c26
        refine lv_aload hx hb dX6_open_40 (lv_at hl 0 rfl) ?_
        refine lv_aload_n hx hb dX6_open_42 rfl (lv_at hl 1 rfl) ?_
        refine lv_aload_n hx hb dX6_open_43 rfl (lv_at hl 2 rfl) ?_
        refine q_callV (rest := [.ref aj, .ref ab]) C (c_X6_nextEdit l D cy N0 h x sl bl kr vr mk (oCq W.1) (oMq W.1) (nI Ed) fs hz.1.1 hz.2.1.1) kX6_nextEdit g285 g287 rfl gp3 g1 hP hS hz.1.1 (by first | decide | omega) hl.1 rfl (by simp [q_catrf, q_cati, q_catl, q_cata, q_catn]) (by first | decide | omega) dX6_open_44 (fun q ce E h' H1 locs1 hE => hE.elim) (fun v hh3 H locs hq hP hS => ?_)
        obtain ⟨rfl, rfl⟩ := hq
        rw [nI_1 Ed] at hP
        rw [nI_1 Ed]
        obtain ⟨h1, eh1⟩ : ∃ z, qs h x (.inr (6, [.int mk, .ref sl, .ref bl, .ref kr, .ref vr, .int (oCq W.1), .int (oMq W.1), .int (nI (Ed + 1))])) = z := ⟨_, rfl⟩
        rw [eh1] at hP
        have kp1 : ∀ z o, h z = some o → z ≠ x → h1 z = some o := fun z o e n => by rw [← eh1]; exact (qs_ne n).trans e
        have dm1 : ∀ z, h1 z = none → h z = none := fun z y => by rw [← eh1] at y; exact qs_none y
        have hx1 : h1 x = some (.inr (6, [.int mk, .ref sl, .ref bl, .ref kr, .ref vr, .int (oCq W.1), .int (oMq W.1), .int (nI (Ed + 1))])) := by rw [← eh1]; exact qs_self
        have nxo : ∀ {z ci : Nat} {fv : List Value}, h z = some (.inr (ci, fv)) → ci ≠ 6 → z ≠ x := fun {z ci fv} e n y => by rw [y, hz.1.1] at e; simp at e; exact n e.1.symm
        have nxa : ∀ {z : Nat} {ar : _}, h z = some (.inl ar) → z ≠ x := fun {z ar} e y => by rw [y, hz.1.1] at e; cases e
        replace faj := kp1 _ _ faj (nxo faj (by decide))
        have fbo1 := kp1 _ _ fbo (nxo fbo (by decide))
        have fbr1 := kp1 _ _ fbr (nxa fbr)
        have hb1 : qBr h1 n9 x1j ((S j).2.1.map (fun p => ((0 : Int64), p.1))) := by rw [← eh1]; exact hb9.seto hz.1.1 (by decide)
        refine q_callVN (host := RX6) (rest := []) C (z_start l D cy N0 h1 ab rb aj 0 kd ln ed9 (nI 0) 0 (nI (Ed + 1)) rt x1j none none none fb n9 ((S j).2.1.map (fun p => ((0 : Int64), p.1))) fbo1 fbr1 faj hb1 (by omega) (by omega)) kX1_start (by decide +kernel) g1004 rfl gp30 hP hS fbo1 (by first | decide | omega) hl.1 rfl (by decide) (by first | decide | omega) dX6_open_47 (fun v hh4 H locs hq hP hS => ?_)
        obtain ⟨rfl, fb8, fr8, kp8, dm8⟩ := hq
        have hx8 : hh4 x = some (.inr (6, [.int mk, .ref sl, .ref bl, .ref kr, .ref vr, .int (oCq W.1), .int (oMq W.1), .int (nI (Ed + 1))])) := kp8 _ _ hx1 (fun z => nxo fbo (by decide) z.symm) (fun z => nxa fbr z.symm)
        have kp9 : ∀ z o, h z = some o → z ≠ bd bb → z ≠ br bb → z ≠ x → hh4 z = some o := fun z o e n1 n2 n3 => kp8 z o (kp1 z o e n3) (by rw [← eab]; exact n1) (by rw [← erb]; exact n2)
        have hpo := hz.bop hV (b := bb) (s' := S j) (by omega) hnx hE9 kp9 hx8 (fun z y => dm1 z (dm8 z y)) ⟨1, _, _, nI (Ed + 1), _, _, by rw [eab, erb]; exact fb8, by rw [erb]; exact fr8, Or.inr ⟨rfl, hk9.symm, rfl, Or.inl ⟨hk9, by rw [hlm], fun j9 hj9 => zopr (h0v j (by omega) (Or.inl hk9)) hj9, fun _ z => z⟩⟩⟩
        have ex : (xs_open S (nI bb) (nI j)) = (0, qU S (24 + bb) (S j)) := by unfold xs_open; rw [if_neg (by rw [ebb, ebj]; decide), ecb, ecj, if_neg (by rw [hoj, hm1]; decide)]
        exact q_vret C hP hS ⟨by rw [ex], rfl, by rw [ex]; exact hpo⟩ (by omega) dX6_open_50
      · replace c26 : ¬ 0 = 0 := fun zq => c26 ((nI_eq (a := 0) (b := 0) (by omega) (by omega)).mpr zq)
        exfalso; omega
    · have hge : 0 ≤ (S (24 + bb)).1 := hbc.elim (fun z => by rw [z.1]; decide) (fun z => z.1.elim (fun y => by rw [y]; decide) (fun y => by rw [y]; decide))
      refine lv_astore (lv' := [(4, .ref ab), (3, .ref aj), (0, .ref x), (1, .int (nI bb)), (2, .int (nI j))]) hx hb dX6_open_19 hl (by decide) rfl (fun ls hl => ?_)
      refine lv_aload hx hb dX6_open_21 (lv_at hl 0 rfl) ?_
      refine q_getN C hP fbo rfl inX1 1 (by decide) (by decide +kernel) rfl dX6_open_23 ?_
      refine lv_if_eq (tgt := 40) hx hb dX6_open_26 (by decide) (fun c26 => ?_) (fun c26 => ?_)
      · replace c26 : 1 = 0 := (nI_eq (a := 1) (b := 0) (by omega) (by omega)).mp c26
        exfalso; omega
      · replace c26 : ¬ 1 = 0 := fun zq => c26 ((nI_eq (a := 1) (b := 0) (by omega) (by omega)).mpr zq)
        exact q_throw (text := "the builder is open") C kt_ISE (by decide) hP hS hl.1 dX6_open_29 dX6_open_32 dX6_open_33 dX6_open_36 dX6_open_39 (by simp [q_catrf, q_cati, q_catl, q_cata, q_catn]) (by omega) (by have ex : (xs_open S (nI bb) (nI j)) = (2, S) := (by unfold xs_open; rw [if_neg (by rw [ebb, ebj]; decide), ecb, ecj, if_pos (Or.inr hge)]); exact ⟨by rw [ex]; exact .tail _ (.head _), by exact hz.po hf⟩)
  · obtain ⟨rfl, rfl, rfl, rfl, hRj⟩ := zvj.hash hk9
    have hlj := hLn j (by omega)
    have hqj := h64 j (by omega) (hk9.elim Or.inl (fun z => Or.inr (Or.inl z)))
    have hnoj : qNo (S j).2.1 := (hI j (by omega)).2.1 (hk9.elim Or.inl (fun z => Or.inr (Or.inl z)))
    refine lv_astore_n (lv' := [(3, .ref aj), (0, .ref x), (1, .int (nI bb)), (2, .int (nI j))]) hx hb dX6_open_12 rfl hl (by decide) rfl (fun ls hl => ?_)
    refine lv_aload_n hx hb dX6_open_13 rfl (lv_at hl 1 rfl) ?_
    refine q_get C hP hz.1.1 rfl inX6 2 (by decide) g70 rfl dX6_open_14 ?_
    refine lv_iload_n hx hb dX6_open_17 rfl (lv_at hl 2 rfl) ?_
    obtain ⟨q9, hbl, hqb⟩ := hz.2.1.2.1
    obtain ⟨op, kd, ln, ed9, rt, fb, fbo, fbr, hbc⟩ := hz.2.2.2.1 bb (by omega)
    obtain ⟨ab, eab⟩ : ∃ z, bd bb = z := ⟨_, rfl⟩
    obtain ⟨rb, erb⟩ : ∃ z, br bb = z := ⟨_, rfl⟩
    rw [eab, erb] at fbo
    rw [erb] at fbr
    refine q_aaldN C hP hbl rfl (by omega) (by omega) dX6_open_18 ?_
    rw [hqb bb (by omega), eab]
    rcases hbc with ⟨hm1, rfl, hnx⟩ | ⟨rfl, ekd, eed, hbc⟩
    · refine lv_astore (lv' := [(4, .ref ab), (3, .ref aj), (0, .ref x), (1, .int (nI bb)), (2, .int (nI j))]) hx hb dX6_open_19 hl (by decide) rfl (fun ls hl => ?_)
      refine lv_aload hx hb dX6_open_21 (lv_at hl 0 rfl) ?_
      refine q_getN C hP fbo rfl inX1 1 (by decide) (by decide +kernel) rfl dX6_open_23 ?_
      refine lv_if_eq (tgt := 40) hx hb dX6_open_26 (by decide) (fun c26 => ?_) (fun c26 => ?_)
      · replace c26 : 0 = 0 := (nI_eq (a := 0) (b := 0) (by omega) (by omega)).mp c26
        refine lv_aload hx hb dX6_open_40 (lv_at hl 0 rfl) ?_
        refine lv_aload_n hx hb dX6_open_42 rfl (lv_at hl 1 rfl) ?_
        refine lv_aload_n hx hb dX6_open_43 rfl (lv_at hl 2 rfl) ?_
        refine q_callV (rest := [.ref aj, .ref ab]) C (c_X6_nextEdit l D cy N0 h x sl bl kr vr mk (oCq W.1) (oMq W.1) (nI Ed) fs hz.1.1 hz.2.1.1) kX6_nextEdit g285 g287 rfl gp3 g1 hP hS hz.1.1 (by first | decide | omega) hl.1 rfl (by simp [q_catrf, q_cati, q_catl, q_cata, q_catn]) (by first | decide | omega) dX6_open_44 (fun q ce E h' H1 locs1 hE => hE.elim) (fun v hh5 H locs hq hP hS => ?_)
        obtain ⟨rfl, rfl⟩ := hq
        rw [nI_1 Ed] at hP
        rw [nI_1 Ed]
        obtain ⟨h1, eh1⟩ : ∃ z, qs h x (.inr (6, [.int mk, .ref sl, .ref bl, .ref kr, .ref vr, .int (oCq W.1), .int (oMq W.1), .int (nI (Ed + 1))])) = z := ⟨_, rfl⟩
        rw [eh1] at hP
        have kp1 : ∀ z o, h z = some o → z ≠ x → h1 z = some o := fun z o e n => by rw [← eh1]; exact (qs_ne n).trans e
        have dm1 : ∀ z, h1 z = none → h z = none := fun z y => by rw [← eh1] at y; exact qs_none y
        have hx1 : h1 x = some (.inr (6, [.int mk, .ref sl, .ref bl, .ref kr, .ref vr, .int (oCq W.1), .int (oMq W.1), .int (nI (Ed + 1))])) := by rw [← eh1]; exact qs_self
        have nxo : ∀ {z ci : Nat} {fv : List Value}, h z = some (.inr (ci, fv)) → ci ≠ 6 → z ≠ x := fun {z ci fv} e n y => by rw [y, hz.1.1] at e; simp at e; exact n e.1.symm
        have nxa : ∀ {z : Nat} {ar : _}, h z = some (.inl ar) → z ≠ x := fun {z ar} e y => by rw [y, hz.1.1] at e; cases e
        replace faj := kp1 _ _ faj (nxo faj (by decide))
        have fbo1 := kp1 _ _ fbo (nxo fbo (by decide))
        have fbr1 := kp1 _ _ fbr (nxa fbr)
        refine q_callVN (host := RX6) (rest := []) C (z_start l D cy N0 h1 ab rb aj 0 kd ln ed9 ((S j).1) 0 (nI (Ed + 1)) rt none x2j none none fb 0 [] fbo1 fbr1 faj qBr.nil (by exact Nat.zero_le _) (by omega)) kX1_start (by decide +kernel) g1004 rfl gp30 hP hS fbo1 (by first | decide | omega) hl.1 rfl (by decide) (by first | decide | omega) dX6_open_47 (fun v hh6 H locs hq hP hS => ?_)
        obtain ⟨rfl, fb8, fr8, kp8, dm8⟩ := hq
        have hx8 : hh6 x = some (.inr (6, [.int mk, .ref sl, .ref bl, .ref kr, .ref vr, .int (oCq W.1), .int (oMq W.1), .int (nI (Ed + 1))])) := kp8 _ _ hx1 (fun z => nxo fbo (by decide) z.symm) (fun z => nxa fbr z.symm)
        have kp9 : ∀ z o, h z = some o → z ≠ bd bb → z ≠ br bb → z ≠ x → hh6 z = some o := fun z o e n1 n2 n3 => kp8 z o (kp1 z o e n3) (by rw [← eab]; exact n1) (by rw [← erb]; exact n2)
        have hR8 : qRt cy hh6 Im (Ed + 1) (zOk (Ed + 1) (fun c => if c = bb then Ed + 1 else eb c) (qU S (24 + bb) (S j))) mk x2j (zSv (S j)) (fun _ => False) := (hRj.go.keep (fun b o e y => by have s2 := hz.2.2.2.2.2.1 b (Or.inl (y.resolve_right id)); exact kp9 b o e (s2.2.2.2.2.2.1 bb (by omega)).1 (s2.2.2.2.2.2.1 bb (by omega)).2 s2.1)).ok (fun o => zOk.op o) (fun _ z => z)
        have hpo := hz.bop hV (b := bb) (s' := S j) (by omega) hnx hE9 kp9 hx8 (fun z y => dm1 z (dm8 z y)) ⟨1, _, _, nI (Ed + 1), _, _, by rw [eab, erb]; exact fb8, by rw [erb]; exact fr8, Or.inr ⟨rfl, rfl, rfl, Or.inr ⟨hk9, rfl, hR8⟩⟩⟩
        have ex : (xs_open S (nI bb) (nI j)) = (0, qU S (24 + bb) (S j)) := by unfold xs_open; rw [if_neg (by rw [ebb, ebj]; decide), ecb, ecj, if_neg (by rw [hoj, hm1]; decide)]
        exact q_vret C hP hS ⟨by rw [ex], rfl, by rw [ex]; exact hpo⟩ (by omega) dX6_open_50
      · replace c26 : ¬ 0 = 0 := fun zq => c26 ((nI_eq (a := 0) (b := 0) (by omega) (by omega)).mpr zq)
        exfalso; omega
    · have hge : 0 ≤ (S (24 + bb)).1 := hbc.elim (fun z => by rw [z.1]; decide) (fun z => z.1.elim (fun y => by rw [y]; decide) (fun y => by rw [y]; decide))
      refine lv_astore (lv' := [(4, .ref ab), (3, .ref aj), (0, .ref x), (1, .int (nI bb)), (2, .int (nI j))]) hx hb dX6_open_19 hl (by decide) rfl (fun ls hl => ?_)
      refine lv_aload hx hb dX6_open_21 (lv_at hl 0 rfl) ?_
      refine q_getN C hP fbo rfl inX1 1 (by decide) (by decide +kernel) rfl dX6_open_23 ?_
      refine lv_if_eq (tgt := 40) hx hb dX6_open_26 (by decide) (fun c26 => ?_) (fun c26 => ?_)
      · replace c26 : 1 = 0 := (nI_eq (a := 1) (b := 0) (by omega) (by omega)).mp c26
        exfalso; omega
      · replace c26 : ¬ 1 = 0 := fun zq => c26 ((nI_eq (a := 1) (b := 0) (by omega) (by omega)).mpr zq)
        exact q_throw (text := "the builder is open") C kt_ISE (by decide) hP hS hl.1 dX6_open_29 dX6_open_32 dX6_open_33 dX6_open_36 dX6_open_39 (by simp [q_catrf, q_cati, q_catl, q_cata, q_catn]) (by omega) (by have ex : (xs_open S (nI bb) (nI j)) = (2, S) := (by unfold xs_open; rw [if_neg (by rw [ebb, ebj]; decide), ecb, ecj, if_pos (Or.inr hge)]); exact ⟨by rw [ex]; exact .tail _ (.head _), by exact hz.po hf⟩)
