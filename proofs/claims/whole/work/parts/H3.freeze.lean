theorem qU_cm {α : Type} {f : Nat → α} {i j : Nat} {a b : α} (n : i ≠ j) : qU (qU f i a) j b = qU (qU f j b) i a := funext fun k => by
  by_cases c : k = i
  · rw [c, qU_ne n, qU_at, qU_at]
  · rw [qU_ne (f := qU f j b) c]
    by_cases d : k = j
    · rw [d, qU_at, qU_at]
    · rw [qU_ne d, qU_ne c, qU_ne d]
theorem zfrw {L : qKV} {f : Nat → Int64} (h : ∀ j, j < L.length → L[j]? = some (f j, 0)) : qRl f 0 L.length = L.map (fun p => ((0 : Int64), p.1)) := by
  have e := qRl_eq (f := f) (L := L.map Prod.fst) (lo := 0) (fun j hj => by
    rw [List.length_map] at hj
    rw [Nat.zero_add, List.getD_eq_getElem?_getD, List.getElem?_map, h j hj]; rfl)
  rw [List.length_map, List.map_map] at e
  exact e
section ZBF
variable {cy : Nat → ClassId} {h h' h1 : qH} {x sl bl kr vr E : Nat} {mk : Int32} {fs : Nat → Option Nat} {bd br eb : Nat → Nat} {Im Im2 X2 : Nat → Prop} {Xb : Nat → Nat → Prop} {g : Nat → Nat} {S : Nat → qSlot} {W : qWo} {Bd sk Rn : Nat} {dp : Nat → Nat}
theorem zOk.cl {b : Nat} {s' : qSlot} (hs : s'.1 = -1) (o : Nat) (z : zOk E eb S o) : zOk E eb (qU S (24 + b) s') o := by
  refine ⟨z.1, fun c hc y => ?_⟩
  by_cases n : c = b
  · subst n; rw [qU_at, hs] at y; exact absurd y (by decide)
  · rw [qU_ne (by omega)] at y; exact z.2 c hc y
/-- the edit of the builder that is closed has ended -/
theorem zOk.mine {b : Nat} {s' : qSlot} (hs : s'.1 = -1) (hE : eb b ≤ E) (hd : ∀ d, d < 4 → ((S (24 + d)).1 = 1 ∨ (S (24 + d)).1 = 2) → eb b = eb d → b = d) : zOk E eb (qU S (24 + b) s') (eb b) := by
  refine ⟨hE, fun c hc y z => ?_⟩
  by_cases n : c = b
  · subst n; rw [qU_at, hs] at y; exact absurd y (by decide)
  · rw [qU_ne (by omega)] at y; exact n (hd c hc y z).symm
/-- a builder is closed -/
theorem zQ.bfz (q : zQ cy h x mk sl bl kr vr E fs bd br eb Im Xb g S W) (iv : qWv Bd sk Rn dp W) {b : Nat} (hb : b < 4) {s' : qSlot} (hs : s'.1 = -1) {op kd ln ed : Int32} {rt : Option Nat} (hbo : h (bd b) = some (.inr (1, [.ref (br b), .int op, .int kd, .int ln, va_rf rt, .int ed]))) :
    zQ cy (qs h (bd b) (.inr (1, [.ref (br b), .int 0, .int kd, .int ln, va_rf rt, .int ed]))) x mk sl bl kr vr E fs bd br eb (fun z => Im z ∨ Xb b z) (fun c => if c = b then (fun _ => False) else Xb c) g (qU S (24 + b) s') W := by
  have q0 := q
  obtain ⟨q1, -, q3, q4, s1, s2, s3, s4, s5, s6⟩ := q
  obtain ⟨op2, kd2, ln2, ed2, rt2, f, -, b2, -⟩ := q4 b hb
  obtain ⟨o, a, k⟩ := W
  obtain ⟨h', eh'⟩ : ∃ z, qs h (bd b) (.inr (1, [.ref (br b), .int 0, .int kd, .int ln, va_rf rt, .int ed])) = z := ⟨_, rfl⟩
  rw [eh']
  have ne : ∀ {z : Nat} {o : va_E}, h z = some o → z ≠ bd b → h' z = some o := fun {z o} e n => by rw [← eh']; exact (qs_ne n).trans e
  have ko : ∀ {z ci : Nat} {fv : List Value}, h z = some (.inr (ci, fv)) → ci ≠ 1 → h' z = some (.inr (ci, fv)) := fun {z ci fv} e n => ne e (fun y => by rw [y, hbo] at e; simp at e; exact n e.1.symm)
  have kN : ∀ {z : Nat} {o : va_E}, h z = some o → Im z ∨ Xb b z → h' z = some o := fun {z o} e y => by
    obtain ⟨t1, t2, t3, t4, t5, t6, t7⟩ := s2 z (y.imp id (fun w => ⟨b, hb, w⟩))
    exact ne e (t6 b hb).1
  refine q0.bst (h' := h') (E' := E) (eb' := eb) (S' := qU S (24 + b) s') (Im' := fun z => Im z ∨ Xb b z) (Xb' := fun c => if c = b then (fun _ => False) else Xb c) hb ⟨ko q1.1 (by decide), by rw [xRs_b (by omega)]; exact zG.keep iv q1.2 (fun b fs e _ => ko e (by decide)) (fun b fs e => ko e (by decide)) (fun _ _ => rfl)⟩ (fun z o e n1 _ _ _ => ne e n1) s6 (fun i hi => qU_ne (by omega)) (fun c hc n => ⟨qU_ne (by omega), rfl, if_neg n⟩) (fun o => zOk.cl hs o) (fun z y => Or.inl y) (fun z y => ?_) (fun z y ci fv e => ?_) ?_ ?_ (fun c hc y => ?_)
  · rw [if_pos rfl] at y
    exact (y.resolve_right id).imp id Or.inl
  · rw [if_pos rfl] at y
    replace y := y.resolve_right id
    obtain ⟨o9, ho9⟩ := (s4 b hb).2.1 z y
    have := kN ho9 y
    rw [e] at this; cases this
    exact (s2 z (y.imp id (fun w => ⟨b, hb, w⟩))).2.2.2.2.2.2 ci fv ho9
  · rw [if_pos rfl]
    obtain ⟨t1, t2, t3, t4⟩ := s4 b hb
    exact ⟨fun _ z => z.elim, fun z y => by obtain ⟨o9, ho9⟩ := t2 z (y.resolve_right id); exact ⟨o9, kN ho9 (y.resolve_right id)⟩, kN t3 (Or.inl t4), Or.inl t4⟩
  · show zBu cy h' _ _ mk ((qU S (24 + b) s') (24 + b)) (bd b) (br b) (eb b) (if b = b then (fun _ => False) else Xb b)
    rw [if_pos rfl, qU_at]
    exact ⟨0, kd, ln, ed, rt, f, by rw [← eh']; exact qs_self, ne b2 (fun y => by rw [y, hbo] at b2; cases b2), Or.inl ⟨hs, rfl, fun _ z => z⟩⟩
  · have old : ∀ {c : Nat}, c < 4 → (((qU S (24 + b) s') (24 + c)).1 = 1 ∨ ((qU S (24 + b) s') (24 + c)).1 = 2) → ((S (24 + c)).1 = 1 ∨ (S (24 + c)).1 = 2) := fun {c} hc y => by
      by_cases n : c = b
      · subst n; rw [qU_at, hs] at y; exact absurd y (by decide)
      · rw [qU_ne (by omega)] at y; exact y
    obtain ⟨y1, y2⟩ := s5 c hc (old hc y)
    exact ⟨y1, fun d hd w => y2 d hd (old hd w)⟩
end ZBF
theorem dX1_finished_0 : decode cX1_finished 0 = .ok (.aload_n 0, 1) := by decide +kernel
theorem dX1_finished_1 : decode cX1_finished 1 = .ok (.iconst 0, 1) := by decide +kernel
theorem dX1_finished_2 : decode cX1_finished 2 = .ok (.putfield 15, 3) := by decide +kernel
theorem dX1_finished_5 : decode cX1_finished 5 = .ok (.aload_n 0, 1) := by decide +kernel
theorem dX1_finished_6 : decode cX1_finished 6 = .ok (.getfield 25, 3) := by decide +kernel
theorem dX1_finished_9 : decode cX1_finished 9 = .ok (.ifCond .ne 25, 3) := by decide +kernel
theorem dX1_finished_12 : decode cX1_finished 12 = .ok (.aload_n 0, 1) := by decide +kernel
theorem dX1_finished_13 : decode cX1_finished 13 = .ok (.getfield 25, 3) := by decide +kernel
theorem dX1_finished_16 : decode cX1_finished 16 = .ok (.aload_n 0, 1) := by decide +kernel
theorem dX1_finished_17 : decode cX1_finished 17 = .ok (.getfield 9, 3) := by decide +kernel
theorem dX1_finished_20 : decode cX1_finished 20 = .ok (.iconst 0, 1) := by decide +kernel
theorem dX1_finished_21 : decode cX1_finished 21 = .ok (.aload_n 0, 1) := by decide +kernel
theorem dX1_finished_22 : decode cX1_finished 22 = .ok (.getfield 46, 3) := by decide +kernel
theorem dX1_finished_25 : decode cX1_finished 25 = .ok (.invokestatic 55, 3) := by decide +kernel
theorem dX1_finished_28 : decode cX1_finished 28 = .ok (.invokestatic 59, 3) := by decide +kernel
theorem dX1_finished_31 : decode cX1_finished 31 = .ok (.goto 14, 3) := by decide +kernel
theorem dX1_finished_45 : decode cX1_finished 45 = .ok (.areturn, 1) := by decide +kernel
set_option maxRecDepth 100000 in
set_option maxHeartbeats 4000000 in
theorem z_fin0 (l : Launch) (D : va_G) (cy : Nat → ClassId) (N0 : Nat) (h : qH) (b rb : Nat) (e2 : Int32) (rt : Option Nat) (f : Nat → Int64) (n : Nat) (hB : h b = some (.inr (1, [.ref rb, .int 1, .int (nI 0), .int (nI n), va_rf rt, .int e2]))) (hr : h rb = some (.inl (cy 1, 1000, .inr (.inl f)))) (hn : n ≤ 1000) : qC l D cy N0 yX1_finished cX1_finished 1 (some (.object RX2)) 1010 23200 (1 + n) (6 + 6 * n) [.ref b] h (fun v h' => ∃ (qh : Nat) (r8 : Option Nat) (n8 : Nat), v = some (.ref qh) ∧ qle (qs h b (.inr (1, [.ref rb, .int 0, .int (nI 0), .int (nI n), va_rf rt, .int e2]))) h' ∧ h' qh = some (.inr (2, [.int (nI 0), va_rf r8, .null, .null, .null, .int 0])) ∧ qBr h' n8 r8 (qRl f 0 n)) (fun E h' => False) := by
  refine q_ofW (by decide) (by exact Nat.le_of_ble_eq_true rfl) ?_
  intro p e s m below meth c ls C hP hl
  have hx := C.1
  have hb := C.2.1
  have hS : va_S (qA N0) s.heap s.heap [] := va_S.rf
  have hl : lv_has ls 1 [(0, .ref b)] := hl
  have nbr : b ≠ rb := fun z => by rw [z, hr] at hB; cases hB
  refine lv_aload_n hx hb dX1_finished_0 rfl (lv_at hl 0 rfl) ?_
  refine lv_iconst (v := nI 0) hx hb dX1_finished_1 (by decide) ?_
  refine q_put C hP hS hB rfl inX1 tyX1 tyX1_ok nmX1 1 (by decide) g44 rfl rfl rfl (Nat.le_of_ble_eq_true rfl) dX1_finished_2 (fun H locs hP hS => ?_)
  replace hB : (qs h b (.inr (1, [.ref rb, .int (nI 0), .int (nI 0), .int (nI n), va_rf rt, .int e2]))) b = some (.inr (1, [.ref rb, .int (nI 0), .int (nI 0), .int (nI n), va_rf rt, .int e2])) := qs_self
  replace hP : qP D N0 (qs h b (.inr (1, [.ref rb, .int (nI 0), .int (nI 0), .int (nI n), va_rf rt, .int e2]))) H := hP
  refine lv_aload_n hx hb dX1_finished_5 rfl (lv_at hl 0 rfl) ?_
  refine q_get C hP hB rfl inX1 2 (by decide) g46 rfl dX1_finished_6 ?_
  refine lv_if_ne (tgt := 34) hx hb dX1_finished_9 (by decide) (fun c9 => ?_) (fun c9 => ?_)
  · replace c9 : ¬ 0 = 0 := fun zq => c9 ((nI_eq (a := 0) (b := 0) (by omega) (by omega)).mpr zq)
    exfalso; omega
  · replace c9 : 0 = 0 := (nI_eq (a := 0) (b := 0) (by omega) (by omega)).mp c9
    refine lv_aload_n hx hb dX1_finished_12 rfl (lv_at hl 0 rfl) ?_
    refine q_get C hP hB rfl inX1 2 (by decide) g46 rfl dX1_finished_13 ?_
    refine lv_aload_n hx hb dX1_finished_16 rfl (lv_at hl 0 rfl) ?_
    refine q_get C hP hB rfl inX1 0 (by decide) g42 rfl dX1_finished_17 ?_
    refine lv_iconst (v := nI 0) hx hb dX1_finished_20 (by decide) ?_
    refine lv_aload_n hx hb dX1_finished_21 rfl (lv_at hl 0 rfl) ?_
    refine q_get C hP hB rfl inX1 3 (by decide) g48 rfl dX1_finished_22 ?_
    have hr8 : (qs h b (.inr (1, [.ref rb, .int (nI 0), .int (nI 0), .int (nI n), va_rf rt, .int e2]))) rb = some (.inl (cy 1, 1000, .inr (.inl f))) := (qs_ne nbr.symm).trans hr
    refine q_callSN (host := RX6) (rest := [.int (nI 0)]) C (c_X0_ofRow l D cy N0 1001 (qs h b (.inr (1, [.ref rb, .int (nI 0), .int (nI 0), .int (nI n), va_rf rt, .int e2]))) rb 1000 f 0 n 1000 hr8 (by omega) (by omega) (by omega) (by omega) (by omega)) kX0_ofRow (by decide +kernel) g944 hP hS (by first | decide | omega) hl.1 rfl (by simp [q_catrf, q_cati, q_catl, q_cata, q_catn]) (by first | decide | omega) dX1_finished_25 (fun v hh1 H locs hq hP hS => ?_)
    obtain ⟨r8, n8, rfl, hle8, hb8, -⟩ := hq
    rw [Nat.sub_zero] at hb8
    refine q_callS (rest := []) C (c_X2_ofTree l D cy N0 hh1 (nI 0) r8) kX2_ofTree g1071 g517 hP hS (by first | decide | omega) hl.1 rfl (by decide) (by first | decide | omega) dX1_finished_28 (fun q ce E h' H1 locs1 hE => hE.elim) (fun v hh2 H locs hq hP hS => ?_)
    obtain ⟨qh, rfl, oqh, rfl⟩ := hq
    refine lv_goto (tgt := 45) hx hb dX1_finished_31 (by decide) ?_
    exact q_aret (v := some qh) C (Or.inl ⟨_, rfl⟩) hP hS ⟨qh, r8, n8, rfl, fun b o e => qle_new oqh _ _ (hle8 b o e), qs_self, hb8.le (qle_new oqh)⟩ (by omega) dX1_finished_45
theorem dX1_finished_34 : decode cX1_finished 34 = .ok (.aload_n 0, 1) := by decide +kernel
theorem dX1_finished_35 : decode cX1_finished 35 = .ok (.getfield 25, 3) := by decide +kernel
theorem dX1_finished_38 : decode cX1_finished 38 = .ok (.aload_n 0, 1) := by decide +kernel
theorem dX1_finished_39 : decode cX1_finished 39 = .ok (.getfield 30, 3) := by decide +kernel
theorem dX1_finished_42 : decode cX1_finished 42 = .ok (.invokestatic 63, 3) := by decide +kernel
set_option maxRecDepth 100000 in
set_option maxHeartbeats 4000000 in
theorem z_fin1 (l : Launch) (D : va_G) (cy : Nat → ClassId) (N0 : Nat) (h : qH) (b rb : Nat) (e2 : Int32) (rt : Option Nat) (f : Nat → Int64) (n : Nat) (hB : h b = some (.inr (1, [.ref rb, .int 1, .int (nI 1), .int (nI n), va_rf rt, .int e2]))) (hr : h rb = some (.inl (cy 1, 1000, .inr (.inl f)))) (hn : n ≤ 1000) : qC l D cy N0 yX1_finished cX1_finished 1 (some (.object RX2)) 6 100 1 6 [.ref b] h (fun v h' => ∃ qh : Nat, v = some (.ref qh) ∧ (qs h b (.inr (1, [.ref rb, .int 0, .int (nI 1), .int (nI n), va_rf rt, .int e2]))) qh = none ∧ h' = qs (qs h b (.inr (1, [.ref rb, .int 0, .int (nI 1), .int (nI n), va_rf rt, .int e2]))) qh (.inr (2, [.int (nI 1), .null, va_rf rt, .null, .null, .int 0]))) (fun E h' => False) := by
  refine q_ofW (by decide) (by exact Nat.le_of_ble_eq_true rfl) ?_
  intro p e s m below meth c ls C hP hl
  have hx := C.1
  have hb := C.2.1
  have hS : va_S (qA N0) s.heap s.heap [] := va_S.rf
  have hl : lv_has ls 1 [(0, .ref b)] := hl
  refine lv_aload_n hx hb dX1_finished_0 rfl (lv_at hl 0 rfl) ?_
  refine lv_iconst (v := nI 0) hx hb dX1_finished_1 (by decide) ?_
  refine q_put C hP hS hB rfl inX1 tyX1 tyX1_ok nmX1 1 (by decide) g44 rfl rfl rfl (Nat.le_of_ble_eq_true rfl) dX1_finished_2 (fun H locs hP hS => ?_)
  replace hB : (qs h b (.inr (1, [.ref rb, .int (nI 0), .int (nI 1), .int (nI n), va_rf rt, .int e2]))) b = some (.inr (1, [.ref rb, .int (nI 0), .int (nI 1), .int (nI n), va_rf rt, .int e2])) := qs_self
  replace hP : qP D N0 (qs h b (.inr (1, [.ref rb, .int (nI 0), .int (nI 1), .int (nI n), va_rf rt, .int e2]))) H := hP
  refine lv_aload_n hx hb dX1_finished_5 rfl (lv_at hl 0 rfl) ?_
  refine q_get C hP hB rfl inX1 2 (by decide) g46 rfl dX1_finished_6 ?_
  refine lv_if_ne (tgt := 34) hx hb dX1_finished_9 (by decide) (fun c9 => ?_) (fun c9 => ?_)
  · replace c9 : ¬ 1 = 0 := fun zq => c9 ((nI_eq (a := 1) (b := 0) (by omega) (by omega)).mpr zq)
    refine lv_aload_n hx hb dX1_finished_34 rfl (lv_at hl 0 rfl) ?_
    refine q_get C hP hB rfl inX1 2 (by decide) g46 rfl dX1_finished_35 ?_
    refine lv_aload_n hx hb dX1_finished_38 rfl (lv_at hl 0 rfl) ?_
    refine q_get C hP hB rfl inX1 4 (by decide) g50 rfl dX1_finished_39 ?_
    refine q_callS (rest := []) C (c_X2_ofTrie l D cy N0 (qs h b (.inr (1, [.ref rb, .int (nI 0), .int (nI 1), .int (nI n), va_rf rt, .int e2]))) (nI 1) rt) kX2_ofTrie g1072 g438 hP hS (by first | decide | omega) hl.1 rfl (by decide) (by first | decide | omega) dX1_finished_42 (fun q ce E h' H1 locs1 hE => hE.elim) (fun v hh1 H locs hq hP hS => ?_)
    obtain ⟨qh, rfl, oqh, rfl⟩ := hq
    exact q_aret (v := some qh) C (Or.inl ⟨_, rfl⟩) hP hS ⟨qh, rfl, oqh, rfl⟩ (by omega) dX1_finished_45
  · replace c9 : 1 = 0 := (nI_eq (a := 1) (b := 0) (by omega) (by omega)).mp c9
    exfalso; omega

set_option maxRecDepth 100000 in
set_option maxHeartbeats 4000000 in
theorem z_fin2 (l : Launch) (D : va_G) (cy : Nat → ClassId) (N0 : Nat) (h : qH) (b rb : Nat) (e2 : Int32) (rt : Option Nat) (f : Nat → Int64) (n : Nat) (hB : h b = some (.inr (1, [.ref rb, .int 1, .int (nI 2), .int (nI n), va_rf rt, .int e2]))) (hr : h rb = some (.inl (cy 1, 1000, .inr (.inl f)))) (hn : n ≤ 1000) : qC l D cy N0 yX1_finished cX1_finished 1 (some (.object RX2)) 6 100 1 6 [.ref b] h (fun v h' => ∃ qh : Nat, v = some (.ref qh) ∧ (qs h b (.inr (1, [.ref rb, .int 0, .int (nI 2), .int (nI n), va_rf rt, .int e2]))) qh = none ∧ h' = qs (qs h b (.inr (1, [.ref rb, .int 0, .int (nI 2), .int (nI n), va_rf rt, .int e2]))) qh (.inr (2, [.int (nI 2), .null, va_rf rt, .null, .null, .int 0]))) (fun E h' => False) := by
  refine q_ofW (by decide) (by exact Nat.le_of_ble_eq_true rfl) ?_
  intro p e s m below meth c ls C hP hl
  have hx := C.1
  have hb := C.2.1
  have hS : va_S (qA N0) s.heap s.heap [] := va_S.rf
  have hl : lv_has ls 1 [(0, .ref b)] := hl
  refine lv_aload_n hx hb dX1_finished_0 rfl (lv_at hl 0 rfl) ?_
  refine lv_iconst (v := nI 0) hx hb dX1_finished_1 (by decide) ?_
  refine q_put C hP hS hB rfl inX1 tyX1 tyX1_ok nmX1 1 (by decide) g44 rfl rfl rfl (Nat.le_of_ble_eq_true rfl) dX1_finished_2 (fun H locs hP hS => ?_)
  replace hB : (qs h b (.inr (1, [.ref rb, .int (nI 0), .int (nI 2), .int (nI n), va_rf rt, .int e2]))) b = some (.inr (1, [.ref rb, .int (nI 0), .int (nI 2), .int (nI n), va_rf rt, .int e2])) := qs_self
  replace hP : qP D N0 (qs h b (.inr (1, [.ref rb, .int (nI 0), .int (nI 2), .int (nI n), va_rf rt, .int e2]))) H := hP
  refine lv_aload_n hx hb dX1_finished_5 rfl (lv_at hl 0 rfl) ?_
  refine q_get C hP hB rfl inX1 2 (by decide) g46 rfl dX1_finished_6 ?_
  refine lv_if_ne (tgt := 34) hx hb dX1_finished_9 (by decide) (fun c9 => ?_) (fun c9 => ?_)
  · replace c9 : ¬ 2 = 0 := fun zq => c9 ((nI_eq (a := 2) (b := 0) (by omega) (by omega)).mpr zq)
    refine lv_aload_n hx hb dX1_finished_34 rfl (lv_at hl 0 rfl) ?_
    refine q_get C hP hB rfl inX1 2 (by decide) g46 rfl dX1_finished_35 ?_
    refine lv_aload_n hx hb dX1_finished_38 rfl (lv_at hl 0 rfl) ?_
    refine q_get C hP hB rfl inX1 4 (by decide) g50 rfl dX1_finished_39 ?_
    refine q_callS (rest := []) C (c_X2_ofTrie l D cy N0 (qs h b (.inr (1, [.ref rb, .int (nI 0), .int (nI 2), .int (nI n), va_rf rt, .int e2]))) (nI 2) rt) kX2_ofTrie g1072 g438 hP hS (by first | decide | omega) hl.1 rfl (by decide) (by first | decide | omega) dX1_finished_42 (fun q ce E h' H1 locs1 hE => hE.elim) (fun v hh1 H locs hq hP hS => ?_)
    obtain ⟨qh, rfl, oqh, rfl⟩ := hq
    exact q_aret (v := some qh) C (Or.inl ⟨_, rfl⟩) hP hS ⟨qh, rfl, oqh, rfl⟩ (by omega) dX1_finished_45
  · replace c9 : 2 = 0 := (nI_eq (a := 2) (b := 0) (by omega) (by omega)).mp c9
    exfalso; omega
theorem dX6_freeze_16 : decode cX6_freeze 16 = .ok (.invokevirtual 353, 3) := by decide +kernel
theorem dX6_freeze_19 : decode cX6_freeze 19 = .ok (.invokevirtual 51, 3) := by decide +kernel
theorem dX6_freeze_22 : decode cX6_freeze 22 = .ok (.ireturn, 1) := by decide +kernel
set_option maxRecDepth 100000 in
set_option maxHeartbeats 4000000 in
theorem z_freeze (l : Launch) (D : va_G) (cy : Nat → ClassId) (N0 : Nat) (h : qH) (x : Nat) (mk : Int32) (sl bl kr vr Ed : Nat) (fs : Nat → Option Nat) (bd br eb : Nat → Nat) (Im : Nat → Prop) (Xb : Nat → Nat → Prop) (g : Nat → Nat) (S : Nat → qSlot) (W : qWo) (Bd sk Rn : Nat) (dp : Nat → Nat) (p0 p1 : Int32) (hz : zQ cy h x mk sl bl kr vr Ed fs bd br eb Im Xb g S W) (hI : ∀ i, i < 28 → qOk (S i).1 (S i).2.1) (hLn : ∀ i, i < 28 → (S i).2.1.length ≤ 1000) (hV : qWv Bd sk Rn dp W) : qC l D cy N0 yX6_freeze cX6_freeze 3 (some .int) 1030 24000 1100 6100 [.ref x, .int p0, .int p1] h (fun v h' => (xs_freeze S p0 p1).1 = 0 ∧ v = some (.int (xs_freeze S p0 p1).2.2) ∧ zPo cy h x mk sl bl kr vr Ed bd br Im Xb ((xs_freeze S p0 p1).2.1) W h') (fun E h' => zXc [(1, "java/lang/IllegalArgumentException"), (2, "java/lang/IllegalStateException")] E (xs_freeze S p0 p1).1 ∧ zPo cy h x mk sl bl kr vr Ed bd br Im Xb S W h') := by
  refine q_ofW (by decide) (by exact Nat.le_of_ble_eq_true rfl) ?_
  intro p e s m below meth c ls C hP hl
  have hx := C.1
  have hb := C.2.1
  have hS : va_S (qA N0) s.heap s.heap [] := va_S.rf
  have hl : lv_has ls 3 [(0, .ref x), (1, .int p0), (2, .int p1)] := hl
  have hf : zFr h h x sl kr vr bd br Xb := zFr.rf
  refine lv_iload_n hx hb dX6_freeze_0 rfl (lv_at hl 1 rfl) ?_
  refine lv_iconst (v := nI 3) hx hb dX6_freeze_1 (by decide) ?_
  refine q_callS (rest := []) C (c_X6_needWithin l D cy N0 h p0 3) kX6_needWithin g107 g108 hP hS (by first | decide | omega) hl.1 rfl (by decide) (by first | decide | omega) dX6_freeze_2 (fun q ce E h' H1 locs1 hE hP hS hc1 hc2 hc3 => by obtain ⟨rfl, rfl, hn9⟩ := hE; exact q_out C hP hS hc1 hc2 hc3 (by have ex : (xs_freeze S p0 p1) = (1, S, 0) := (by unfold xs_freeze; rw [if_pos (Or.inl (bB3_f (fun z => hn9.elim z.1 (fun y => y z.2))))]); exact ⟨by rw [ex]; exact .head _, by exact hz.po hf⟩) (by omega)) (fun v hh1 H locs hq hP hS => ?_)
  obtain ⟨rfl, rfl, gw1, gw2⟩ := hq
  obtain ⟨bb, hbb, rfl⟩ := nI_of2 (M := 3) (n := 3) (by decide) gw1 gw2
  have ebb : bB3 (nI bb) = true := bB3_t ⟨gw1, gw2⟩
  have ecb : (nI bb).toNatClampNeg = bb := nI_clamp (by omega)
  refine lv_iload_n hx hb dX6_freeze_5 rfl (lv_at hl 2 rfl) ?_
  refine q_callS (rest := []) C (c_X6_needSlot l D cy N0 h p1) kX6_needSlot g104 g105 hP hS (by first | decide | omega) hl.1 rfl (by decide) (by first | decide | omega) dX6_freeze_6 (fun q ce E h' H1 locs1 hE hP hS hc1 hc2 hc3 => by obtain ⟨rfl, rfl, hn9⟩ := hE; have eb9 := bSl_f hn9; exact q_out C hP hS hc1 hc2 hc3 (by have ex : (xs_freeze S (nI bb) p1) = (1, S, 0) := (by unfold xs_freeze; rw [if_pos (Or.inr eb9)]); exact ⟨by rw [ex]; exact .head _, by exact hz.po hf⟩) (by omega)) (fun v hh2 H locs hq hP hS => ?_)
  obtain ⟨rfl, rfl, sl9⟩ := hq
  obtain ⟨j, hj, rfl⟩ := sl9.of
  have ebj : bSl (nI j) = true := bSl_t sl9
  have ecj : (nI j).toNatClampNeg = j := nI_clamp (by omega)
  refine lv_aload_n hx hb dX6_freeze_9 rfl (lv_at hl 0 rfl) ?_
  refine lv_iload_n hx hb dX6_freeze_10 rfl (lv_at hl 2 rfl) ?_
  refine lv_aload_n hx hb dX6_freeze_11 rfl (lv_at hl 0 rfl) ?_
  refine lv_iload_n hx hb dX6_freeze_12 rfl (lv_at hl 1 rfl) ?_
  obtain ⟨q9, hbl, hqb⟩ := hz.2.1.2.1
  obtain ⟨op, kd, ln, ed9, rt, fb, fbo, fbr, hbc⟩ := hz.2.2.2.1 bb (by omega)
  obtain ⟨ab, eab⟩ : ∃ z, bd bb = z := ⟨_, rfl⟩
  obtain ⟨rb, erb⟩ : ∃ z, br bb = z := ⟨_, rfl⟩
  rw [eab, erb] at fbo
  rw [erb] at fbr
  refine q_callV (rest := [.int (nI j), .ref x]) C (c_X6_openBuilder l D cy N0 h x sl bl kr vr mk (oCq W.1) (oMq W.1) (nI Ed) fs q9 bb ab rb op kd ln ed9 rt hz.1.1 hz.2.1.1 hbl (by omega) ⟨by rw [hqb bb (by omega), eab], fbo⟩) kX6_openBuilder g1015 g1017 rfl gp31 g1 hP hS hz.1.1 (by first | decide | omega) hl.1 rfl (by simp [q_catrf, q_cati, q_catl, q_cata, q_catn]) (by first | decide | omega) dX6_freeze_13 (fun q ce E h' H1 locs1 hE hP hS hc1 hc2 hc3 => by obtain ⟨rfl, rfl, hop⟩ := hE; have hlt : (S (24 + bb)).1 < 0 := hbc.elim (fun z => by rw [z.1]; decide) (fun z => absurd (z.1.symm.trans hop) (by decide)); exact q_out C hP hS hc1 hc2 hc3 (by have ex : (xs_freeze S (nI bb) (nI j)) = (2, S, 0) := (by unfold xs_freeze; rw [if_neg (by rw [ebb, ebj]; decide), ecb, ecj, if_pos hlt]); exact ⟨by rw [ex]; exact .tail _ (.head _), by exact hz.po hf⟩) (by omega)) (fun v hh3 H locs hq hP hS => ?_)
  obtain ⟨rfl, rfl, hop⟩ := hq
  rcases hbc with ⟨-, z, -⟩ | ⟨rfl, ekd, eed, hbc⟩
  · exact absurd z hop
  rcases hbc with ⟨hk9, rfl, hrow, hnx⟩ | ⟨hk9, rfl, hRb⟩
  · have hlb := hLn (24 + bb) (by omega)
    obtain rfl : kd = nI 0 := ekd.trans hk9
    have hlt : ¬ (S (24 + bb)).1 < 0 := by rw [hk9]; decide
    obtain rfl := eed
    refine q_callVN (host := RX6) (rest := [.int (nI j), .ref x]) C (z_fin0 l D cy N0 h ab rb (nI (eb bb)) rt fb (S (24 + bb)).2.1.length fbo fbr (by omega)) kX1_finished (by decide +kernel) g1068 rfl gp35 hP hS fbo (by first | decide | omega) hl.1 rfl (by simp [q_catrf, q_cati, q_catl, q_cata, q_catn]) (by first | decide | omega) dX6_freeze_16 (fun v hh4 H locs hq hP hS => ?_)
    obtain ⟨h1, eh1⟩ : ∃ z, qs h ab (.inr (1, [.ref rb, .int 0, .int (nI 0), .int (nI (S (24 + bb)).2.1.length), va_rf rt, .int (nI (eb bb))])) = z := ⟨_, rfl⟩
    have hz1 := hz.bfz hV (b := bb) (s' := (-1, (S (24 + bb)).2.1.map (fun p => (p.1, (0 : Int64))), (S (24 + bb)).2.2)) (by omega) rfl (by rw [eab, erb]; exact fbo)
    rw [eab, erb, eh1] at hz1
    have hf1 : zFr h h1 x sl kr vr bd br Xb := by rw [← eh1]; exact ⟨fun z o e n => (qs_ne (fun y => n (Or.inr (Or.inr (Or.inr (Or.inr (Or.inl ⟨bb, by omega, Or.inl (y.trans eab.symm)⟩))))))).trans e, fun z y => qs_none y⟩
    rw [eh1] at hq
    obtain ⟨qh, r8, n8, rfl, hle9, fqh, hb9⟩ := hq
    rw [zfrw hrow] at hb9
    have zv9 : zV cy hh4 (fun z => Im z ∨ Xb bb z) (zOk Ed eb (qU S (24 + bb) (-1, (S (24 + bb)).2.1.map (fun p => (p.1, (0 : Int64))), (S (24 + bb)).2.2))) mk g (S (24 + bb)) r8 none none none 0 := Or.inl ⟨Or.inl hk9, rfl, rfl, rfl, rfl, n8, hb9⟩
    have hz2 := hz1.le hV hle9 (qle.dom hle9)
    have hf2 := hf1.trs (zFr.le hle9 (qle.dom hle9))
    have ham : zAm (S (24 + bb)) = (S (24 + bb)).2.1.length := zAm_n (s := (S (24 + bb))) (fun z => absurd (hk9.symm.trans z) (by decide))
    have hzp := hz2.put hV (i := j) hj (s := (S (24 + bb))) (fun z => absurd (hk9.symm.trans z) (by decide)) ⟨r8, none, none, none, 0, by rw [hk9]; exact fqh, zv9⟩
    have hkd : qHd hh4 qh (nI 0) r8 none none none 0 (nI (zAm (S (24 + bb)))) := by have := zHd.hd (s := (S (24 + bb))) (by rw [hk9]; exact fqh) zv9; rw [hk9] at this; exact this
    have hpo : zPo cy h x mk sl bl kr vr Ed bd br Im Xb (qU (qU S j (S (24 + bb))) (24 + bb) (-1, (S (24 + bb)).2.1.map (fun p => (p.1, (0 : Int64))), (S (24 + bb)).2.2)) W (qs hh4 sl (.inl (cy 3, 24, .inr (.inr (.inr (.inr (va_up fs j (some qh)))))))) := ⟨Ed, _, eb, (fun z => Im z ∨ Xb bb z), (fun c => if c = bb then (fun _ => False) else Xb c), g, Nat.le_succ _, by rw [qU_cm (by omega)]; exact hzp, hf2.trs (zFr.set hz2.2.1.1 (Or.inr (Or.inl rfl))), fun c hc z hz9 => if n : c = bb then (by change (if c = bb then (fun _ => False) else Xb c) z at hz9; rw [if_pos n] at hz9; exact hz9.elim) else (by change (if c = bb then (fun _ => False) else Xb c) z at hz9; rw [if_neg n] at hz9; exact Or.inl hz9), fun z y => Or.inl (y.imp id (fun v => ⟨bb, by omega, v⟩))⟩
    refine q_callV (rest := []) C (c_X6_keep l D cy N0 hh4 x sl bl kr vr mk (oCq W.1) (oMq W.1) (nI Ed) fs j qh (nI 0) r8 none none none 0 (nI (zAm (S (24 + bb)))) hz2.1.1 hz2.2.1.1 hj hkd) kX6_keep g218 g220 rfl gp1 g1 hP hS hz2.1.1 (by first | decide | omega) hl.1 rfl (by decide) (by first | decide | omega) dX6_freeze_19 (fun q ce E h' H1 locs1 hE => hE.elim) (fun v hh5 H locs hq hP hS => ?_)
    obtain ⟨rfl, rfl⟩ := hq
    rw [ham]
    have ex : (xs_freeze S (nI bb) (nI j)) = (0, qU (qU S j (S (24 + bb))) (24 + bb) (-1, (S (24 + bb)).2.1.map (fun p => (p.1, (0 : Int64))), (S (24 + bb)).2.2), nI (S (24 + bb)).2.1.length) := by unfold xs_freeze; rw [if_neg (by rw [ebb, ebj]; decide), ecb, ecj, if_neg hlt]
    exact q_iret C hP hS ⟨by rw [ex], by first | (rw [ex]; done) | (rw [ex]), by rw [ex]; exact hpo⟩ (by omega) dX6_freeze_22
  · have hlb := hLn (24 + bb) (by omega)
    have hlt : ¬ (S (24 + bb)).1 < 0 := by rcases hk9 with z | z <;> rw [z] <;> decide
    have hne0 : ¬ (S (24 + bb)).1 = 0 := by rcases hk9 with z | z <;> rw [z] <;> decide
    have hnob : qNo (S (24 + bb)).2.1 := (hI (24 + bb) (by omega)).2.1 (hk9.elim Or.inl (fun z => Or.inr (Or.inl z)))
    rcases hk9 with hk9 | hk9
    · obtain rfl : kd = nI 1 := ekd.trans hk9
      have hk12 : (S (24 + bb)).1 = 1 ∨ (S (24 + bb)).1 = 2 := Or.inl hk9
      obtain rfl := eed
      refine q_callVN (host := RX6) (rest := [.int (nI j), .ref x]) C (z_fin1 l D cy N0 h ab rb (nI (eb bb)) rt fb 0 fbo fbr (by omega)) kX1_finished (by decide +kernel) g1068 rfl gp35 hP hS fbo (by first | decide | omega) hl.1 rfl (by simp [q_catrf, q_cati, q_catl, q_cata, q_catn]) (by first | decide | omega) dX6_freeze_16 (fun v hh6 H locs hq hP hS => ?_)
      obtain ⟨h1, eh1⟩ : ∃ z, qs h ab (.inr (1, [.ref rb, .int 0, .int (nI 1), .int (nI 0), va_rf rt, .int (nI (eb bb))])) = z := ⟨_, rfl⟩
      have hz1 := hz.bfz hV (b := bb) (s' := (-1, (S (24 + bb)).2.1.map (fun p => (p.1, (0 : Int64))), (S (24 + bb)).2.2)) (by omega) rfl (by rw [eab, erb]; exact fbo)
      rw [eab, erb, eh1] at hz1
      have hf1 : zFr h h1 x sl kr vr bd br Xb := by rw [← eh1]; exact ⟨fun z o e n => (qs_ne (fun y => n (Or.inr (Or.inr (Or.inr (Or.inr (Or.inl ⟨bb, by omega, Or.inl (y.trans eab.symm)⟩))))))).trans e, fun z y => qs_none y⟩
      rw [eh1] at hq
      obtain ⟨qh, rfl, oqh, rfl⟩ := hq
      have hle9 : qle h1 (qs h1 qh (.inr (2, [.int (nI 1), .null, va_rf rt, .null, .null, .int 0]))) := qle_new oqh
      have fqh : (qs h1 qh (.inr (2, [.int (nI 1), .null, va_rf rt, .null, .null, .int 0]))) qh = some (.inr (2, [.int (nI 1), .null, va_rf rt, .null, .null, .int 0])) := qs_self
      have hR9 := hRb.ends (e' := 0) (Im' := fun z => Im z ∨ Xb bb z) (Ok' := zOk Ed eb (qU S (24 + bb) (-1, (S (24 + bb)).2.1.map (fun p => (p.1, (0 : Int64))), (S (24 + bb)).2.2))) (fun _ z => Or.inl z) (fun _ z => Or.inr z) (fun o => zOk.cl rfl o) (fun _ => zOk.mine rfl (hz.2.2.2.2.2.2.2.2.1 bb (by omega) hk12).1 (hz.2.2.2.2.2.2.2.2.1 bb (by omega) hk12).2)
      have hR8 : qRt cy (qs h1 qh (.inr (2, [.int (nI 1), .null, va_rf rt, .null, .null, .int 0]))) (fun z => Im z ∨ Xb bb z) 0 (zOk Ed eb (qU S (24 + bb) (-1, (S (24 + bb)).2.1.map (fun p => (p.1, (0 : Int64))), (S (24 + bb)).2.2))) mk rt (zSv (S (24 + bb))) (fun _ => False) := hR9.keep (fun z o e y => hle9 z o (by rw [← eh1]; exact (qs_ne (fun w => by have s2 := hz.2.2.2.2.2.1 z ((y.resolve_right id).imp id (fun v => ⟨bb, by omega, v⟩)); exact (s2.2.2.2.2.2.1 bb (by omega)).1 (w.trans eab.symm))).trans e))
      have zv9 : zV cy (qs h1 qh (.inr (2, [.int (nI 1), .null, va_rf rt, .null, .null, .int 0]))) (fun z => Im z ∨ Xb bb z) (zOk Ed eb (qU S (24 + bb) (-1, (S (24 + bb)).2.1.map (fun p => (p.1, (0 : Int64))), (S (24 + bb)).2.2))) mk g (S (24 + bb)) none rt none none 0 := Or.inr (Or.inr (Or.inr (Or.inl ⟨hk12, rfl, rfl, rfl, rfl, hR8⟩)))
      have hz2 := hz1.le hV hle9 (qle.dom hle9)
      have hf2 := hf1.trs (zFr.le hle9 (qle.dom hle9))
      have ham : zAm (S (24 + bb)) = (S (24 + bb)).2.1.length := zAm_n (s := (S (24 + bb))) (fun z => absurd (hk9.symm.trans z) (by decide))
      have hzp := hz2.put hV (i := j) hj (s := (S (24 + bb))) (fun z => absurd (hk9.symm.trans z) (by decide)) ⟨none, rt, none, none, 0, by rw [hk9]; exact fqh, zv9⟩
      have hkd : qHd (qs h1 qh (.inr (2, [.int (nI 1), .null, va_rf rt, .null, .null, .int 0]))) qh (nI 1) none rt none none 0 (nI (zAm (S (24 + bb)))) := by have := zHd.hd (s := (S (24 + bb))) (by rw [hk9]; exact fqh) zv9; rw [hk9] at this; exact this
      have hpo : zPo cy h x mk sl bl kr vr Ed bd br Im Xb (qU (qU S j (S (24 + bb))) (24 + bb) (-1, (S (24 + bb)).2.1.map (fun p => (p.1, (0 : Int64))), (S (24 + bb)).2.2)) W (qs (qs h1 qh (.inr (2, [.int (nI 1), .null, va_rf rt, .null, .null, .int 0]))) sl (.inl (cy 3, 24, .inr (.inr (.inr (.inr (va_up fs j (some qh)))))))) := ⟨Ed, _, eb, (fun z => Im z ∨ Xb bb z), (fun c => if c = bb then (fun _ => False) else Xb c), g, Nat.le_succ _, by rw [qU_cm (by omega)]; exact hzp, hf2.trs (zFr.set hz2.2.1.1 (Or.inr (Or.inl rfl))), fun c hc z hz9 => if n : c = bb then (by change (if c = bb then (fun _ => False) else Xb c) z at hz9; rw [if_pos n] at hz9; exact hz9.elim) else (by change (if c = bb then (fun _ => False) else Xb c) z at hz9; rw [if_neg n] at hz9; exact Or.inl hz9), fun z y => Or.inl (y.imp id (fun v => ⟨bb, by omega, v⟩))⟩
      refine q_callV (rest := []) C (c_X6_keep l D cy N0 (qs h1 qh (.inr (2, [.int (nI 1), .null, va_rf rt, .null, .null, .int 0]))) x sl bl kr vr mk (oCq W.1) (oMq W.1) (nI Ed) fs j qh (nI 1) none rt none none 0 (nI (zAm (S (24 + bb)))) hz2.1.1 hz2.2.1.1 hj hkd) kX6_keep g218 g220 rfl gp1 g1 hP hS hz2.1.1 (by first | decide | omega) hl.1 rfl (by decide) (by first | decide | omega) dX6_freeze_19 (fun q ce E h' H1 locs1 hE => hE.elim) (fun v hh7 H locs hq hP hS => ?_)
      obtain ⟨rfl, rfl⟩ := hq
      rw [ham]
      have ex : (xs_freeze S (nI bb) (nI j)) = (0, qU (qU S j (S (24 + bb))) (24 + bb) (-1, (S (24 + bb)).2.1.map (fun p => (p.1, (0 : Int64))), (S (24 + bb)).2.2), nI (S (24 + bb)).2.1.length) := by unfold xs_freeze; rw [if_neg (by rw [ebb, ebj]; decide), ecb, ecj, if_neg hlt]
      exact q_iret C hP hS ⟨by rw [ex], by first | (rw [ex]; done) | (rw [ex]), by rw [ex]; exact hpo⟩ (by omega) dX6_freeze_22
    · obtain rfl : kd = nI 2 := ekd.trans hk9
      have hk12 : (S (24 + bb)).1 = 1 ∨ (S (24 + bb)).1 = 2 := Or.inr hk9
      obtain rfl := eed
      refine q_callVN (host := RX6) (rest := [.int (nI j), .ref x]) C (z_fin2 l D cy N0 h ab rb (nI (eb bb)) rt fb 0 fbo fbr (by omega)) kX1_finished (by decide +kernel) g1068 rfl gp35 hP hS fbo (by first | decide | omega) hl.1 rfl (by simp [q_catrf, q_cati, q_catl, q_cata, q_catn]) (by first | decide | omega) dX6_freeze_16 (fun v hh8 H locs hq hP hS => ?_)
      obtain ⟨h1, eh1⟩ : ∃ z, qs h ab (.inr (1, [.ref rb, .int 0, .int (nI 2), .int (nI 0), va_rf rt, .int (nI (eb bb))])) = z := ⟨_, rfl⟩
      have hz1 := hz.bfz hV (b := bb) (s' := (-1, (S (24 + bb)).2.1.map (fun p => (p.1, (0 : Int64))), (S (24 + bb)).2.2)) (by omega) rfl (by rw [eab, erb]; exact fbo)
      rw [eab, erb, eh1] at hz1
      have hf1 : zFr h h1 x sl kr vr bd br Xb := by rw [← eh1]; exact ⟨fun z o e n => (qs_ne (fun y => n (Or.inr (Or.inr (Or.inr (Or.inr (Or.inl ⟨bb, by omega, Or.inl (y.trans eab.symm)⟩))))))).trans e, fun z y => qs_none y⟩
      rw [eh1] at hq
      obtain ⟨qh, rfl, oqh, rfl⟩ := hq
      have hle9 : qle h1 (qs h1 qh (.inr (2, [.int (nI 2), .null, va_rf rt, .null, .null, .int 0]))) := qle_new oqh
      have fqh : (qs h1 qh (.inr (2, [.int (nI 2), .null, va_rf rt, .null, .null, .int 0]))) qh = some (.inr (2, [.int (nI 2), .null, va_rf rt, .null, .null, .int 0])) := qs_self
      have hR9 := hRb.ends (e' := 0) (Im' := fun z => Im z ∨ Xb bb z) (Ok' := zOk Ed eb (qU S (24 + bb) (-1, (S (24 + bb)).2.1.map (fun p => (p.1, (0 : Int64))), (S (24 + bb)).2.2))) (fun _ z => Or.inl z) (fun _ z => Or.inr z) (fun o => zOk.cl rfl o) (fun _ => zOk.mine rfl (hz.2.2.2.2.2.2.2.2.1 bb (by omega) hk12).1 (hz.2.2.2.2.2.2.2.2.1 bb (by omega) hk12).2)
      have hR8 : qRt cy (qs h1 qh (.inr (2, [.int (nI 2), .null, va_rf rt, .null, .null, .int 0]))) (fun z => Im z ∨ Xb bb z) 0 (zOk Ed eb (qU S (24 + bb) (-1, (S (24 + bb)).2.1.map (fun p => (p.1, (0 : Int64))), (S (24 + bb)).2.2))) mk rt (zSv (S (24 + bb))) (fun _ => False) := hR9.keep (fun z o e y => hle9 z o (by rw [← eh1]; exact (qs_ne (fun w => by have s2 := hz.2.2.2.2.2.1 z ((y.resolve_right id).imp id (fun v => ⟨bb, by omega, v⟩)); exact (s2.2.2.2.2.2.1 bb (by omega)).1 (w.trans eab.symm))).trans e))
      have zv9 : zV cy (qs h1 qh (.inr (2, [.int (nI 2), .null, va_rf rt, .null, .null, .int 0]))) (fun z => Im z ∨ Xb bb z) (zOk Ed eb (qU S (24 + bb) (-1, (S (24 + bb)).2.1.map (fun p => (p.1, (0 : Int64))), (S (24 + bb)).2.2))) mk g (S (24 + bb)) none rt none none 0 := Or.inr (Or.inr (Or.inr (Or.inl ⟨hk12, rfl, rfl, rfl, rfl, hR8⟩)))
      have hz2 := hz1.le hV hle9 (qle.dom hle9)
      have hf2 := hf1.trs (zFr.le hle9 (qle.dom hle9))
      have ham : zAm (S (24 + bb)) = (S (24 + bb)).2.1.length := zAm_n (s := (S (24 + bb))) (fun z => absurd (hk9.symm.trans z) (by decide))
      have hzp := hz2.put hV (i := j) hj (s := (S (24 + bb))) (fun z => absurd (hk9.symm.trans z) (by decide)) ⟨none, rt, none, none, 0, by rw [hk9]; exact fqh, zv9⟩
      have hkd : qHd (qs h1 qh (.inr (2, [.int (nI 2), .null, va_rf rt, .null, .null, .int 0]))) qh (nI 2) none rt none none 0 (nI (zAm (S (24 + bb)))) := by have := zHd.hd (s := (S (24 + bb))) (by rw [hk9]; exact fqh) zv9; rw [hk9] at this; exact this
      have hpo : zPo cy h x mk sl bl kr vr Ed bd br Im Xb (qU (qU S j (S (24 + bb))) (24 + bb) (-1, (S (24 + bb)).2.1.map (fun p => (p.1, (0 : Int64))), (S (24 + bb)).2.2)) W (qs (qs h1 qh (.inr (2, [.int (nI 2), .null, va_rf rt, .null, .null, .int 0]))) sl (.inl (cy 3, 24, .inr (.inr (.inr (.inr (va_up fs j (some qh)))))))) := ⟨Ed, _, eb, (fun z => Im z ∨ Xb bb z), (fun c => if c = bb then (fun _ => False) else Xb c), g, Nat.le_succ _, by rw [qU_cm (by omega)]; exact hzp, hf2.trs (zFr.set hz2.2.1.1 (Or.inr (Or.inl rfl))), fun c hc z hz9 => if n : c = bb then (by change (if c = bb then (fun _ => False) else Xb c) z at hz9; rw [if_pos n] at hz9; exact hz9.elim) else (by change (if c = bb then (fun _ => False) else Xb c) z at hz9; rw [if_neg n] at hz9; exact Or.inl hz9), fun z y => Or.inl (y.imp id (fun v => ⟨bb, by omega, v⟩))⟩
      refine q_callV (rest := []) C (c_X6_keep l D cy N0 (qs h1 qh (.inr (2, [.int (nI 2), .null, va_rf rt, .null, .null, .int 0]))) x sl bl kr vr mk (oCq W.1) (oMq W.1) (nI Ed) fs j qh (nI 2) none rt none none 0 (nI (zAm (S (24 + bb)))) hz2.1.1 hz2.2.1.1 hj hkd) kX6_keep g218 g220 rfl gp1 g1 hP hS hz2.1.1 (by first | decide | omega) hl.1 rfl (by decide) (by first | decide | omega) dX6_freeze_19 (fun q ce E h' H1 locs1 hE => hE.elim) (fun v hh9 H locs hq hP hS => ?_)
      obtain ⟨rfl, rfl⟩ := hq
      rw [ham]
      have ex : (xs_freeze S (nI bb) (nI j)) = (0, qU (qU S j (S (24 + bb))) (24 + bb) (-1, (S (24 + bb)).2.1.map (fun p => (p.1, (0 : Int64))), (S (24 + bb)).2.2), nI (S (24 + bb)).2.1.length) := by unfold xs_freeze; rw [if_neg (by rw [ebb, ebj]; decide), ecb, ecj, if_neg hlt]
      exact q_iret C hP hS ⟨by rw [ex], by first | (rw [ex]; done) | (rw [ex]), by rw [ex]; exact hpo⟩ (by omega) dX6_freeze_22
