theorem qdel_in {h : qH} {s a : Nat} {o : va_E} (e : qdel h s a = some o) : a ≠ s ∧ h a = some o := by
  unfold qdel at e
  split at e
  · cases e
  · exact ⟨by assumption, e⟩
theorem qdel_1 {h : qH} {s q : Nat} {o o' : va_E} (e : h q = none) : qle (qdel h s) (qs (qs h q o) s o') := fun a p ha => by
  obtain ⟨n, h1⟩ := qdel_in ha
  exact (qs_ne n).trans (qle_new e _ _ h1)
theorem qdel_2 {h : qH} {s t q : Nat} {o1 o o' : va_E} (e : h t = none) (e2 : (qs h t o1) q = none) : qle (qdel h s) (qs (qs (qs h t o1) q o) s o') := fun a p ha => by
  obtain ⟨n, h1⟩ := qdel_in ha
  exact (qs_ne n).trans (qle_new e2 _ _ (qle_new e _ _ h1))

theorem dL_make_0 : decode cL_make 0 = .ok (.aload_n 0, 1) := by decide +kernel
theorem dL_make_1 : decode cL_make 1 = .ok (.iload_n 1, 1) := by decide +kernel
theorem dL_make_2 : decode cL_make 2 = .ok (.iload_n 2, 1) := by decide +kernel
theorem dL_make_3 : decode cL_make 3 = .ok (.invokevirtual 7, 3) := by decide +kernel
theorem dL_make_6 : decode cL_make 6 = .ok (.goto 6, 3) := by decide +kernel
theorem dL_make_9 : decode cL_make 9 = .ok (.astore_n 3, 1) := by decide +kernel
theorem dL_make_10 : decode cL_make 10 = .ok (.iconst 1, 1) := by decide +kernel
theorem dL_make_11 : decode cL_make 11 = .ok (.ireturn, 1) := by decide +kernel
theorem dL_make_12 : decode cL_make 12 = .ok (.iconst 0, 1) := by decide +kernel
theorem dL_make_13 : decode cL_make 13 = .ok (.ireturn, 1) := by decide +kernel
set_option maxRecDepth 100000 in
set_option maxHeartbeats 4000000 in
theorem c_L_make_0 (l : Launch) (D : va_G) (cy : Nat → ClassId) (N0 : Nat) (h : qH) (x sl bl kr vr : Nat) (hm ca mv ed : Int32) (f : Nat → Option Nat) (p0 p1 : Int32) (hT : h x = some (.inr (6, [.int hm, .ref sl, .ref bl, .ref kr, .ref vr, .int ca, .int mv, .int ed]))) (hsl : h sl = some (.inl (cy 3, 24, .inr (.inr (.inr (.inr f)))))) : qCW l D cy N0 yL_make cL_make 4 (some .int) [(0, 6, 9, 13)] 11 200 7 42 [.ref x, .int p0, .int p1] h (fun v h' => (v = some (.int 1) ∧ ¬ (qSl p0 ∧ qIn p1 6) ∧ h = h') ∨ (v = some (.int 0) ∧ (qSl p0 ∧ qIn p1 6) ∧ qle (qdel h sl) h')) := by
  refine q_ofWH (by decide) (by exact Nat.le_of_ble_eq_true rfl) ?_
  intro p e s m below meth c ls C hP hl
  have hx := C.1
  have hb := C.2.1
  have hS : va_S (qA N0) s.heap s.heap [] := va_S.rf
  have hl : lv_has ls 4 [(0, .ref x), (1, .int p0), (2, .int p1)] := hl
  refine lv_aload_n hx hb dL_make_0 rfl (lv_at hl 0 rfl) ?_
  refine lv_iload_n hx hb dL_make_1 rfl (lv_at hl 1 rfl) ?_
  refine lv_iload_n hx hb dL_make_2 rfl (lv_at hl 2 rfl) ?_
  refine q_callV (rest := []) C (c_X6_make l D cy N0 (h) x sl bl kr vr hm ca mv ed f p0 p1 hT hsl) kX6_make g100 g101 rfl g102 g1 hP hS hT (by first | decide | omega) hl.1 rfl (by decide) (by first | decide | omega) dL_make_3 (fun q ce E hX H locs hE hP hS hc1 hc2 hc3 => ?_) (fun v hh1 H locs hq hP hS => ?_)
  · obtain ⟨rfl, rfl, gE⟩ := hE
    refine q_catch (hh := [(0, 6, 9, 13)]) C [] [] (0, 6, 9, 13) rfl (by decide) (by decide) g99 (by decide) (fun z hz => by cases hz) hc1 hc2 hc3 ?_
    refine lv_astore_n (lv' := [(3, .ref q), (0, .ref x), (1, .int p0), (2, .int p1)]) hx hb dL_make_9 rfl hl (by decide) rfl (fun ls hl => ?_)
    refine lv_iconst (v := 1) hx hb dL_make_10 (by decide) ?_
    exact q_iret C hP hS (Or.inl ⟨rfl, gE, rfl⟩) (by omega) dL_make_11
  · obtain ⟨rfl, g2, i, qe, hi, rfl, eqe, rfl⟩ := hq
    refine lv_goto (tgt := 12) hx hb dL_make_6 (by decide) ?_
    refine lv_iconst (v := 0) hx hb dL_make_12 (by decide) ?_
    exact q_iret C hP hS (Or.inr ⟨rfl, ⟨qSl.nI hi, g2⟩, qdel_1 eqe⟩) (by omega) dL_make_13

theorem dL_iterate_0 : decode cL_iterate 0 = .ok (.aload_n 0, 1) := by decide +kernel
theorem dL_iterate_1 : decode cL_iterate 1 = .ok (.iload_n 1, 1) := by decide +kernel
theorem dL_iterate_2 : decode cL_iterate 2 = .ok (.lload_n 2, 1) := by decide +kernel
theorem dL_iterate_3 : decode cL_iterate 3 = .ok (.iload 4, 2) := by decide +kernel
theorem dL_iterate_5 : decode cL_iterate 5 = .ok (.lload 5, 2) := by decide +kernel
theorem dL_iterate_7 : decode cL_iterate 7 = .ok (.invokevirtual 99, 3) := by decide +kernel
theorem dL_iterate_10 : decode cL_iterate 10 = .ok (.goto 7, 3) := by decide +kernel
theorem dL_iterate_13 : decode cL_iterate 13 = .ok (.astore 7, 2) := by decide +kernel
theorem dL_iterate_15 : decode cL_iterate 15 = .ok (.iconst 1, 1) := by decide +kernel
theorem dL_iterate_16 : decode cL_iterate 16 = .ok (.ireturn, 1) := by decide +kernel
theorem dL_iterate_17 : decode cL_iterate 17 = .ok (.iconst 0, 1) := by decide +kernel
theorem dL_iterate_18 : decode cL_iterate 18 = .ok (.ireturn, 1) := by decide +kernel
set_option maxRecDepth 100000 in
set_option maxHeartbeats 4000000 in
theorem c_L_iterate_0 (l : Launch) (D : va_G) (cy : Nat → ClassId) (N0 : Nat) (h : qH) (x sl bl kr vr : Nat) (hm ca mv ed : Int32) (f : Nat → Option Nat) (p0 : Int32) (p1 : Int64) (p2 : Int32) (p3 : Int64) (hT : h x = some (.inr (6, [.int hm, .ref sl, .ref bl, .ref kr, .ref vr, .int ca, .int mv, .int ed]))) (hsl : h sl = some (.inl (cy 3, 24, .inr (.inr (.inr (.inr f)))))) : qCW l D cy N0 yL_iterate cL_iterate 8 (some .int) [(0, 10, 13, 13)] 11 200 7 42 [.ref x, .int p0, .long p1, .int p2, .long p3] h (fun v h' => (v = some (.int 1) ∧ ¬ (qSl p0 ∧ qIn p2 6) ∧ h = h') ∨ (v = some (.int 0) ∧ (qSl p0 ∧ qIn p2 6) ∧ qle (qdel h sl) h')) := by
  refine q_ofWH (by decide) (by exact Nat.le_of_ble_eq_true rfl) ?_
  intro p e s m below meth c ls C hP hl
  have hx := C.1
  have hb := C.2.1
  have hS : va_S (qA N0) s.heap s.heap [] := va_S.rf
  have hl : lv_has ls 8 [(0, .ref x), (1, .int p0), (2, .long p1), (4, .int p2), (5, .long p3)] := hl
  refine lv_aload_n hx hb dL_iterate_0 rfl (lv_at hl 0 rfl) ?_
  refine lv_iload_n hx hb dL_iterate_1 rfl (lv_at hl 1 rfl) ?_
  refine lv_lload_n hx hb dL_iterate_2 rfl (lv_at hl 2 rfl) ?_
  refine lv_iload hx hb dL_iterate_3 (lv_at hl 3 rfl) ?_
  refine lv_lload hx hb dL_iterate_5 (lv_at hl 4 rfl) ?_
  refine q_callV (rest := []) C (c_X6_iterate l D cy N0 (h) x sl bl kr vr hm ca mv ed f p0 p1 p2 p3 hT hsl) kX6_iterate g969 g970 rfl g971 g1 hP hS hT (by first | decide | omega) hl.1 rfl (by decide) (by first | decide | omega) dL_iterate_7 (fun q ce E hX H locs hE hP hS hc1 hc2 hc3 => ?_) (fun v hh1 H locs hq hP hS => ?_)
  · obtain ⟨rfl, rfl, gE⟩ := hE
    refine q_catch (hh := [(0, 10, 13, 13)]) C [] [] (0, 10, 13, 13) rfl (by decide) (by decide) g99 (by decide) (fun z hz => by cases hz) hc1 hc2 hc3 ?_
    refine lv_astore (lv' := [(7, .ref q), (0, .ref x), (1, .int p0), (2, .long p1), (4, .int p2), (5, .long p3)]) hx hb dL_iterate_13 hl (by decide) rfl (fun ls hl => ?_)
    refine lv_iconst (v := 1) hx hb dL_iterate_15 (by decide) ?_
    exact q_iret C hP hS (Or.inl ⟨rfl, gE, rfl⟩) (by omega) dL_iterate_16
  · obtain ⟨rfl, g2, i, t, qe, hi, rfl, et, eqe, rfl⟩ := hq
    refine lv_goto (tgt := 17) hx hb dL_iterate_10 (by decide) ?_
    refine lv_iconst (v := 0) hx hb dL_iterate_17 (by decide) ?_
    exact q_iret C hP hS (Or.inr ⟨rfl, ⟨qSl.nI hi, g2⟩, qdel_2 et eqe⟩) (by omega) dL_iterate_18

theorem q_zero {p : Program} {l : Launch} {e : Env} {R : Room} {s : State} {m : MethodId} {args : Array Value} {below : List Frame} {meth : Method} {c : Code} {H : Heap} {locs : List Loc} {cells slots : Nat} {Q : State → Prop} {pc : Nat} {ls : Array Slot} {v : Value} {rest : List Value}
    (k : W p l e R s m args below meth c H locs cells slots Q (F0 m pc ls (v :: .int (nI 0) :: rest))) : W p l e R s m args below meth c H locs cells slots Q (F0 m pc ls (v :: .int 0 :: rest)) := by
  rw [← nI_0]; exact k

theorem dL_kind_0 : decode cL_kind 0 = .ok (.aload_n 2, 1) := by decide +kernel
theorem dL_kind_1 : decode cL_kind 1 = .ok (.iconst 0, 1) := by decide +kernel
theorem dL_kind_2 : decode cL_kind 2 = .ok (.aload_n 0, 1) := by decide +kernel
theorem dL_kind_3 : decode cL_kind 3 = .ok (.iload_n 1, 1) := by decide +kernel
theorem dL_kind_4 : decode cL_kind 4 = .ok (.invokevirtual 24, 3) := by decide +kernel
theorem dL_kind_7 : decode cL_kind 7 = .ok (.i2l, 1) := by decide +kernel
theorem dL_kind_8 : decode cL_kind 8 = .ok (.lastore, 1) := by decide +kernel
theorem dL_kind_9 : decode cL_kind 9 = .ok (.goto 6, 3) := by decide +kernel
theorem dL_kind_12 : decode cL_kind 12 = .ok (.astore_n 3, 1) := by decide +kernel
theorem dL_kind_13 : decode cL_kind 13 = .ok (.iconst 1, 1) := by decide +kernel
theorem dL_kind_14 : decode cL_kind 14 = .ok (.ireturn, 1) := by decide +kernel
theorem dL_kind_15 : decode cL_kind 15 = .ok (.iconst 0, 1) := by decide +kernel
theorem dL_kind_16 : decode cL_kind 16 = .ok (.ireturn, 1) := by decide +kernel
set_option maxRecDepth 100000 in
set_option maxHeartbeats 4000000 in
theorem c_L_kind_0 (l : Launch) (D : va_G) (cy : Nat → ClassId) (N0 : Nat) (h : qH) (x sl bl kr vr : Nat) (hm ca mv ed : Int32) (f : Nat → Option Nat) (p0 : Int32) (o : Nat) (fo : Nat → Int64) (hT : h x = some (.inr (6, [.int hm, .ref sl, .ref bl, .ref kr, .ref vr, .int ca, .int mv, .int ed]))) (hsl : h sl = some (.inl (cy 3, 24, .inr (.inr (.inr (.inr f)))))) (hF : ∀ i, i < 24 → f i = none) (ho : h o = some (.inl (cy 1, 1, .inr (.inl fo)))) : qCW l D cy N0 yL_kind cL_kind 4 (some .int) [(0, 9, 12, 13)] 11 200 7 42 [.ref x, .int p0, .ref o] h (fun v h' => (v = some (.int 1) ∧ ¬ qSl p0 ∧ h = h') ∨ (v = some (.int 0) ∧ qSl p0 ∧ h' = qs h o (.inl (cy 1, 1, .inr (.inl (vp_updL fo 0 (-1 : Int32).toInt64)))))) := by
  refine q_ofWH (by decide) (by exact Nat.le_of_ble_eq_true rfl) ?_
  intro p e s m below meth c ls C hP hl
  have hx := C.1
  have hb := C.2.1
  have hS : va_S (qA N0) s.heap s.heap [] := va_S.rf
  have hl : lv_has ls 4 [(0, .ref x), (1, .int p0), (2, .ref o)] := hl
  refine lv_aload_n hx hb dL_kind_0 rfl (lv_at hl 2 rfl) ?_
  refine lv_iconst (v := 0) hx hb dL_kind_1 (by decide) ?_
  refine lv_aload_n hx hb dL_kind_2 rfl (lv_at hl 0 rfl) ?_
  refine lv_iload_n hx hb dL_kind_3 rfl (lv_at hl 1 rfl) ?_
  refine q_callV (rest := [.int 0, .ref o]) C (c_X6_kind l D cy N0 (h) x sl bl kr vr hm ca mv ed f p0 hT hsl (fun i hi a e => by rw [hF i hi] at e; cases e)) kX6_kind g273 g274 rfl g275 g1 hP hS hT (by first | decide | omega) hl.1 rfl (by simp [q_catrf, q_cati, q_catl, q_cata, q_catn]) (by first | decide | omega) dL_kind_4 (fun q ce E hX H locs hE hP hS hc1 hc2 hc3 => ?_) (fun v hh1 H locs hq hP hS => ?_)
  · obtain ⟨rfl, rfl, gE⟩ := hE
    refine q_catch (hh := [(0, 9, 12, 13)]) C [] [] (0, 9, 12, 13) rfl (by decide) (by decide) g99 (by decide) (fun z hz => by cases hz) hc1 hc2 hc3 ?_
    refine lv_astore_n (lv' := [(3, .ref q), (0, .ref x), (1, .int p0), (2, .ref o)]) hx hb dL_kind_12 rfl hl (by decide) rfl (fun ls hl => ?_)
    refine lv_iconst (v := 1) hx hb dL_kind_13 (by decide) ?_
    exact q_iret C hP hS (Or.inl ⟨rfl, gE, rfl⟩) (by omega) dL_kind_14
  · obtain ⟨rfl, i, hi, rfl, hq⟩ := hq
    rw [hF i hi] at hq
    rcases hq with ⟨-, rfl⟩ | ⟨a, -, -, -, -, -, -, -, hq, -⟩
    rotate_left
    · cases hq
    refine lv_i2l hx hb dL_kind_7 rfl ?_
    refine q_zero ?_
    refine q_lastN C hP hS ho (by omega) (by omega) dL_kind_8 (fun H locs hP hS => ?_)
    replace hT := (qs_ne (h := h) (a := o) (o := (.inl (cy 1, 1, .inr (.inl (vp_updL fo 0 (((-1)).toInt64)))))) (fun q => by subst q; have := hT.symm.trans ho; first | cases this | simp at this)).trans hT
    replace hsl := (qs_ne (h := h) (a := o) (o := (.inl (cy 1, 1, .inr (.inl (vp_updL fo 0 (((-1)).toInt64)))))) (fun q => by subst q; have := hsl.symm.trans ho; first | cases this | simp at this)).trans hsl
    replace ho : (qs h o (.inl (cy 1, 1, .inr (.inl (vp_updL fo 0 (((-1)).toInt64)))))) o = some (.inl (cy 1, 1, .inr (.inl (vp_updL fo 0 (((-1)).toInt64))))) := qs_self
    refine lv_goto (tgt := 15) hx hb dL_kind_9 (by decide) ?_
    refine lv_iconst (v := 0) hx hb dL_kind_15 (by decide) ?_
    exact q_iret C hP hS (Or.inr ⟨rfl, qSl.nI hi, rfl⟩) (by omega) dL_kind_16

theorem dL_count_0 : decode cL_count 0 = .ok (.aload_n 2, 1) := by decide +kernel
theorem dL_count_1 : decode cL_count 1 = .ok (.iconst 0, 1) := by decide +kernel
theorem dL_count_2 : decode cL_count 2 = .ok (.aload_n 0, 1) := by decide +kernel
theorem dL_count_3 : decode cL_count 3 = .ok (.iload_n 1, 1) := by decide +kernel
theorem dL_count_4 : decode cL_count 4 = .ok (.invokevirtual 128, 3) := by decide +kernel
theorem dL_count_7 : decode cL_count 7 = .ok (.i2l, 1) := by decide +kernel
theorem dL_count_8 : decode cL_count 8 = .ok (.lastore, 1) := by decide +kernel
theorem dL_count_9 : decode cL_count 9 = .ok (.goto 6, 3) := by decide +kernel
theorem dL_count_12 : decode cL_count 12 = .ok (.astore_n 3, 1) := by decide +kernel
theorem dL_count_13 : decode cL_count 13 = .ok (.iconst 1, 1) := by decide +kernel
theorem dL_count_14 : decode cL_count 14 = .ok (.ireturn, 1) := by decide +kernel
theorem dL_count_15 : decode cL_count 15 = .ok (.iconst 0, 1) := by decide +kernel
theorem dL_count_16 : decode cL_count 16 = .ok (.ireturn, 1) := by decide +kernel
set_option maxRecDepth 100000 in
set_option maxHeartbeats 4000000 in
theorem c_L_count_0 (l : Launch) (D : va_G) (cy : Nat → ClassId) (N0 : Nat) (h : qH) (x sl bl kr vr : Nat) (hm ed : Int32) (f : Nat → Option Nat) (g : Nat → Option Nat) (p0 : Int32) (o : Nat) (fo : Nat → Int64) (hT : h x = some (.inr (6, [.int hm, .ref sl, .ref bl, .ref kr, .ref vr, .int 0, .int 0, .int ed]))) (hsl : h sl = some (.inl (cy 3, 24, .inr (.inr (.inr (.inr f)))))) (hF : ∀ i, i < 24 → f i = none) (hbl : h bl = some (.inl (cy 2, 4, .inr (.inr (.inr (.inr g)))))) (hB : ∀ j, j < 4 → ∃ (b rw : Nat) (kd ln e2 : Int32) (rt : Option Nat), qBd h g j b rw 0 kd ln e2 rt) (ho : h o = some (.inl (cy 1, 1, .inr (.inl fo)))) : qCW l D cy N0 yL_count cL_count 4 (some .int) [(0, 9, 12, 13)] 11 200 7 42 [.ref x, .int p0, .ref o] h (fun v h' => (v = some (.int 1) ∧ ¬ qIn p0 3 ∧ h = h') ∨ (v = some (.int 0) ∧ qIn p0 3 ∧ h' = qs h o (.inl (cy 1, 1, .inr (.inl (vp_updL fo 0 (0 : Int32).toInt64)))))) := by
  refine q_ofWH (by decide) (by exact Nat.le_of_ble_eq_true rfl) ?_
  intro p e s m below meth c ls C hP hl
  have hx := C.1
  have hb := C.2.1
  have hS : va_S (qA N0) s.heap s.heap [] := va_S.rf
  have hl : lv_has ls 4 [(0, .ref x), (1, .int p0), (2, .ref o)] := hl
  refine lv_aload_n hx hb dL_count_0 rfl (lv_at hl 2 rfl) ?_
  refine lv_iconst (v := 0) hx hb dL_count_1 (by decide) ?_
  refine lv_aload_n hx hb dL_count_2 rfl (lv_at hl 0 rfl) ?_
  refine lv_iload_n hx hb dL_count_3 rfl (lv_at hl 1 rfl) ?_
  refine q_callV (rest := [.int 0, .ref o]) C (c_X6_count_0 l D cy N0 (h) x sl bl kr vr hm ed f g p0 hT hsl hF hbl hB) kX6_count g1076 g1077 rfl g1078 g1 hP hS hT (by first | decide | omega) hl.1 rfl (by simp [q_catrf, q_cati, q_catl, q_cata, q_catn]) (by first | decide | omega) dL_count_4 (fun q ce E hX H locs hE hP hS hc1 hc2 hc3 => ?_) (fun v hh1 H locs hq hP hS => ?_)
  · obtain ⟨rfl, rfl, gE⟩ := hE
    refine q_catch (hh := [(0, 9, 12, 13)]) C [] [] (0, 9, 12, 13) rfl (by decide) (by decide) g99 (by decide) (fun z hz => by cases hz) hc1 hc2 hc3 ?_
    refine lv_astore_n (lv' := [(3, .ref q), (0, .ref x), (1, .int p0), (2, .ref o)]) hx hb dL_count_12 rfl hl (by decide) rfl (fun ls hl => ?_)
    refine lv_iconst (v := 1) hx hb dL_count_13 (by decide) ?_
    exact q_iret C hP hS (Or.inl ⟨rfl, gE, rfl⟩) (by omega) dL_count_14
  · obtain ⟨rfl, rfl, g3⟩ := hq
    refine lv_i2l hx hb dL_count_7 rfl ?_
    refine q_zero ?_
    refine q_lastN C hP hS ho (by omega) (by omega) dL_count_8 (fun H locs hP hS => ?_)
    replace hT := (qs_ne (h := h) (a := o) (o := (.inl (cy 1, 1, .inr (.inl (vp_updL fo 0 ((0).toInt64)))))) (fun q => by subst q; have := hT.symm.trans ho; first | cases this | simp at this)).trans hT
    replace hsl := (qs_ne (h := h) (a := o) (o := (.inl (cy 1, 1, .inr (.inl (vp_updL fo 0 ((0).toInt64)))))) (fun q => by subst q; have := hsl.symm.trans ho; first | cases this | simp at this)).trans hsl
    replace ho : (qs h o (.inl (cy 1, 1, .inr (.inl (vp_updL fo 0 ((0).toInt64)))))) o = some (.inl (cy 1, 1, .inr (.inl (vp_updL fo 0 ((0).toInt64))))) := qs_self
    refine lv_goto (tgt := 15) hx hb dL_count_9 (by decide) ?_
    refine lv_iconst (v := 0) hx hb dL_count_15 (by decide) ?_
    exact q_iret C hP hS (Or.inr ⟨rfl, g3, rfl⟩) (by omega) dL_count_16
