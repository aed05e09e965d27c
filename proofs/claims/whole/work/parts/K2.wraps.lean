theorem xs_same01 {S : Nat → qSlot} {p0 p1 : Int32} {m : Nat} : (xs_same S p0 p1 m).2.1 = nI 0 ∨ (xs_same S p0 p1 m).2.1 = nI 1 := by
  unfold xs_same
  split
  · exact Or.inl rfl
  · split
    · exact Or.inl rfl
    · split
      · exact Or.inl rfl
      · dsimp only
        split
        · exact Or.inr rfl
        · exact Or.inl rfl
theorem xs_turnc {S S1 S2 : Nat → qSlot} {rr r2 : Nat} {W : qWo} {p0 p1 : Int32} : (xs_turn S S1 rr W p0 p1).1 = (xs_turn S S2 r2 W p0 p1).1 := by
  unfold xs_turn xr_turn
  split
  · rfl
  · split
    · rfl
    · split
      · rfl
      · split <;> rfl

set_option maxRecDepth 100000 in
set_option maxHeartbeats 4000000 in
theorem zl_make (l : Launch) (D : va_G) (cy : Nat → ClassId) (N0 : Nat) (h : qH) (x y ou : Nat) (fo : Nat → Int64) (gr : Int32) (n : Nat) (S : Nat → qSlot) (W : qWo) (p0 : Int32) (p1 : Int32) (j : JZ cy h x y ou fo gr n S W S W) (hp : PI gr n S W) (hn : n < 64) : qCW l D cy N0 yL_make cL_make 4 (some .int) [(0, 6, 9, 13)] 1600 46000 (1200 + 212 * n + (W.2.1.1 - W.2.1.1)) (12200 + n * rMs n 7 + 10 * (W.2.1.1 - W.2.1.1)) [.ref x, .int p0, .int p1] h (fun v h' => v = some (.int (xs_make S p0 p1).1) ∧ JZ cy h' x y ou fo gr (n + 1) ((xs_make S p0 p1).2) (W) S W) := by
  refine q_ofWH (by decide) (by exact Nat.le_of_ble_eq_true rfl) ?_
  intro p e s m below meth c ls C hP hl
  have hx := C.1
  have hb := C.2.1
  have hS : va_S (qA N0) s.heap s.heap [] := va_S.rf
  have hl : lv_has ls 4 [(0, .ref x), (1, .int p0), (2, .int p1)] := hl
  have j0 := j
  obtain ⟨mk, sl, bl, kr, vr, Ed, fs, bd, br, eb, Im, Xb, g, A, ra, rk, rv, pa, ad, hz, hQ, hA, hou, hmk, hEd, hrn, hdj, hno⟩ := j
  obtain ⟨K, dp, hpi⟩ := id hp
  refine lv_aload_n hx hb dL_make_0 rfl (lv_at hl 0 rfl) ?_
  refine lv_iload_n hx hb dL_make_1 rfl (lv_at hl 1 rfl) ?_
  refine lv_iload_n hx hb dL_make_2 rfl (lv_at hl 2 rfl) ?_
  refine q_callV (rest := []) C (z_make l D cy N0 h x mk sl bl kr vr Ed fs bd br eb Im Xb g S W (n + 2) 1 (S 999).2.2.1 dp p0 p1 hz hpi.hI hpi.hLn hpi.hV) kX6_make g100 g101 rfl g102 g1 hP hS hz.1.1 (by first | decide | omega) hl.1 rfl (by decide) (by first | decide | omega) dL_make_3 (fun q ce E hX H locs hE hP hS hc1 hc2 hc3 => ?_) (fun v hh1 H locs hq hP hS => ?_)
  · obtain ⟨hE0, hpo⟩ := hE
    simp only [zXc, List.mem_cons, Prod.mk.injEq, List.not_mem_nil, or_false] at hE0
    obtain ⟨hc9, rfl⟩ := hE0
    refine q_catch (hh := [(0, 6, 9, 13)]) C [] [] (0, 6, 9, 13) rfl (by decide) (by decide) g99 (by decide) (fun z hz => by cases hz) hc1 hc2 hc3 ?_
    have eb := xb_make (show (xs_make S p0 p1).1 ≠ 0 by rw [hc9]; decide)
    have j1 : JZ cy hX x y ou fo gr (n + 1) ((xs_make S p0 p1).2) (W) S W := by rw [eb]; exact JZ.cls hz hQ hA hou hmk hEd hrn hdj hno hpo
    refine lv_astore_n (lv' := [(3, .ref q), (0, .ref x), (1, .int p0), (2, .int p1)]) hx hb dL_make_9 rfl hl (by decide) rfl (fun ls hl => ?_)
    refine lv_iconst (v := nI 1) hx hb dL_make_10 (by decide) ?_
    have hc8 : (xs_make S p0 p1).1 = 1 := hc9
    exact q_iret C hP hS ⟨by rw [hc8]; rfl, j1⟩ (by omega) dL_make_11
  · obtain ⟨hc0, rfl, hpo⟩ := hq
    have j1 : JZ cy hh1 x y ou fo gr (n + 1) ((xs_make S p0 p1).2) (W) S W := JZ.cls hz hQ hA hou hmk hEd hrn hdj hno hpo
    refine lv_goto (tgt := 12) hx hb dL_make_6 (by decide) ?_
    refine lv_iconst (v := nI 0) hx hb dL_make_12 (by decide) ?_
    have hc8 : (xs_make S p0 p1).1 = 0 := hc0
    exact q_iret C hP hS ⟨by rw [hc8]; rfl, j1⟩ (by omega) dL_make_13
theorem dL_copy_6 : decode cL_copy 6 = .ok (.goto 9, 3) := by decide +kernel
theorem dL_copy_15 : decode cL_copy 15 = .ok (.iconst 0, 1) := by decide +kernel
theorem dL_copy_16 : decode cL_copy 16 = .ok (.ireturn, 1) := by decide +kernel
set_option maxRecDepth 100000 in
set_option maxHeartbeats 4000000 in
theorem zl_copy (l : Launch) (D : va_G) (cy : Nat → ClassId) (N0 : Nat) (h : qH) (x y ou : Nat) (fo : Nat → Int64) (gr : Int32) (n : Nat) (S : Nat → qSlot) (W : qWo) (p0 : Int32) (p1 : Int32) (j : JZ cy h x y ou fo gr n S W S W) (hp : PI gr n S W) (hn : n < 64) : qCW l D cy N0 yL_copy cL_copy 4 (some .int) [(0, 6, 9, 13), (0, 6, 12, 18)] 1600 46000 (1200 + 212 * n + (W.2.1.1 - W.2.1.1)) (12200 + n * rMs n 7 + 10 * (W.2.1.1 - W.2.1.1)) [.ref x, .int p0, .int p1] h (fun v h' => v = some (.int (xs_copy S p0 p1).1) ∧ JZ cy h' x y ou fo gr (n + 1) ((xs_copy S p0 p1).2) (W) S W) := by
  refine q_ofWH (by decide) (by exact Nat.le_of_ble_eq_true rfl) ?_
  intro p e s m below meth c ls C hP hl
  have hx := C.1
  have hb := C.2.1
  have hS : va_S (qA N0) s.heap s.heap [] := va_S.rf
  have hl : lv_has ls 4 [(0, .ref x), (1, .int p0), (2, .int p1)] := hl
  have j0 := j
  obtain ⟨mk, sl, bl, kr, vr, Ed, fs, bd, br, eb, Im, Xb, g, A, ra, rk, rv, pa, ad, hz, hQ, hA, hou, hmk, hEd, hrn, hdj, hno⟩ := j
  obtain ⟨K, dp, hpi⟩ := id hp
  refine lv_aload_n hx hb dL_copy_0 rfl (lv_at hl 0 rfl) ?_
  refine lv_iload_n hx hb dL_copy_1 rfl (lv_at hl 1 rfl) ?_
  refine lv_iload_n hx hb dL_copy_2 rfl (lv_at hl 2 rfl) ?_
  refine q_callV (rest := []) C (z_copy l D cy N0 h x mk sl bl kr vr Ed fs bd br eb Im Xb g S W (n + 2) 1 (S 999).2.2.1 dp p0 p1 hz hpi.hI hpi.hLn hpi.hV) kX6_copy g239 g240 rfl g241 g1 hP hS hz.1.1 (by first | decide | omega) hl.1 rfl (by decide) (by first | decide | omega) dL_copy_3 (fun q ce E hX H locs hE hP hS hc1 hc2 hc3 => ?_) (fun v hh1 H locs hq hP hS => ?_)
  · obtain ⟨hE0, hpo⟩ := hE
    simp only [zXc, List.mem_cons, Prod.mk.injEq, List.not_mem_nil, or_false] at hE0
    rcases hE0 with ⟨hc9, rfl⟩ | ⟨hc9, rfl⟩
    · refine q_catch (hh := [(0, 6, 9, 13), (0, 6, 12, 18)]) C [] [(0, 6, 12, 18)] (0, 6, 9, 13) rfl (by decide) (by decide) g99 (by decide) (fun z hz => by cases hz) hc1 hc2 hc3 ?_
      have eb := xb_copy (show (xs_copy S p0 p1).1 ≠ 0 by rw [hc9]; decide)
      have j1 : JZ cy hX x y ou fo gr (n + 1) ((xs_copy S p0 p1).2) (W) S W := by rw [eb]; exact JZ.cls hz hQ hA hou hmk hEd hrn hdj hno hpo
      refine lv_astore_n (lv' := [(3, .ref q), (0, .ref x), (1, .int p0), (2, .int p1)]) hx hb dL_copy_9 rfl hl (by decide) rfl (fun ls hl => ?_)
      refine lv_iconst (v := nI 1) hx hb dL_copy_10 (by decide) ?_
      have hc8 : (xs_copy S p0 p1).1 = 1 := hc9
      exact q_iret C hP hS ⟨by rw [hc8]; rfl, j1⟩ (by omega) dL_copy_11
    · refine q_catch (hh := [(0, 6, 9, 13), (0, 6, 12, 18)]) C [(0, 6, 9, 13)] [] (0, 6, 12, 18) rfl (by decide) (by decide) g238 (by decide) (fun z hz => by simp only [List.mem_cons, List.not_mem_nil, or_false] at hz; subst hz; exact ⟨by decide, "java/lang/IllegalArgumentException", by decide, by decide, g99⟩) hc1 hc2 hc3 ?_
      have eb := xb_copy (show (xs_copy S p0 p1).1 ≠ 0 by rw [hc9]; decide)
      have j1 : JZ cy hX x y ou fo gr (n + 1) ((xs_copy S p0 p1).2) (W) S W := by rw [eb]; exact JZ.cls hz hQ hA hou hmk hEd hrn hdj hno hpo
      refine lv_astore_n (lv' := [(3, .ref q), (0, .ref x), (1, .int p0), (2, .int p1)]) hx hb dL_copy_12 rfl hl (by decide) rfl (fun ls hl => ?_)
      refine lv_iconst (v := nI 2) hx hb dL_copy_13 (by decide) ?_
      have hc8 : (xs_copy S p0 p1).1 = 2 := hc9
      exact q_iret C hP hS ⟨by rw [hc8]; rfl, j1⟩ (by omega) dL_copy_14
  · obtain ⟨hc0, rfl, hpo⟩ := hq
    have j1 : JZ cy hh1 x y ou fo gr (n + 1) ((xs_copy S p0 p1).2) (W) S W := JZ.cls hz hQ hA hou hmk hEd hrn hdj hno hpo
    refine lv_goto (tgt := 15) hx hb dL_copy_6 (by decide) ?_
    refine lv_iconst (v := nI 0) hx hb dL_copy_15 (by decide) ?_
    have hc8 : (xs_copy S p0 p1).1 = 0 := hc0
    exact q_iret C hP hS ⟨by rw [hc8]; rfl, j1⟩ (by omega) dL_copy_16
theorem dL_size_7 : decode cL_size 7 = .ok (.i2l, 1) := by decide +kernel
theorem dL_size_8 : decode cL_size 8 = .ok (.lastore, 1) := by decide +kernel
theorem dL_size_9 : decode cL_size 9 = .ok (.goto 9, 3) := by decide +kernel
theorem dL_size_18 : decode cL_size 18 = .ok (.iconst 0, 1) := by decide +kernel
theorem dL_size_19 : decode cL_size 19 = .ok (.ireturn, 1) := by decide +kernel
set_option maxRecDepth 100000 in
set_option maxHeartbeats 4000000 in
theorem zl_size (l : Launch) (D : va_G) (cy : Nat → ClassId) (N0 : Nat) (h : qH) (x y ou : Nat) (fo : Nat → Int64) (gr : Int32) (n : Nat) (S : Nat → qSlot) (W : qWo) (p0 : Int32) (j : JZ cy h x y ou fo gr n S W S W) (hp : PI gr n S W) (hn : n < 64) : qCW l D cy N0 yL_size cL_size 4 (some .int) [(0, 9, 12, 13), (0, 9, 15, 18)] 1600 46000 (1200 + 212 * n + (W.2.1.1 - W.2.1.1)) (12200 + n * rMs n 7 + 10 * (W.2.1.1 - W.2.1.1)) [.ref x, .int p0, .ref ou] h (fun v h' => v = some (.int (xs_size S p0).1) ∧ ∃ fo' : Nat → Int64, JZ cy h' x y ou fo' gr (n + 1) (S) (W) S W ∧ ((xs_size S p0).1 = 0 → fo' 0 = ((xs_size S p0).2).toInt64)) := by
  refine q_ofWH (by decide) (by exact Nat.le_of_ble_eq_true rfl) ?_
  intro p e s m below meth c ls C hP hl
  have hx := C.1
  have hb := C.2.1
  have hS : va_S (qA N0) s.heap s.heap [] := va_S.rf
  have hl : lv_has ls 4 [(0, .ref x), (1, .int p0), (2, .ref ou)] := hl
  have j0 := j
  obtain ⟨mk, sl, bl, kr, vr, Ed, fs, bd, br, eb, Im, Xb, g, A, ra, rk, rv, pa, ad, hz, hQ, hA, hou, hmk, hEd, hrn, hdj, hno⟩ := j
  obtain ⟨K, dp, hpi⟩ := id hp
  refine lv_aload_n hx hb dL_size_0 rfl (lv_at hl 2 rfl) ?_
  refine lv_iconst (v := nI 0) hx hb dL_size_1 (by decide) ?_
  refine lv_aload_n hx hb dL_size_2 rfl (lv_at hl 0 rfl) ?_
  refine lv_iload_n hx hb dL_size_3 rfl (lv_at hl 1 rfl) ?_
  refine q_callV (rest := [.int (nI 0), .ref ou]) C (z_size l D cy N0 h x mk sl bl kr vr Ed fs bd br eb Im Xb g S W (n + 2) 1 (S 999).2.2.1 dp p0 hz hpi.hI hpi.hLn hpi.hV) kX6_size g266 g267 rfl g268 g1 hP hS hz.1.1 (by first | decide | omega) hl.1 rfl (by simp [q_catrf, q_cati, q_catl, q_cata, q_catn]) (by first | decide | omega) dL_size_4 (fun q ce E hX H locs hE hP hS hc1 hc2 hc3 => ?_) (fun v hh1 H locs hq hP hS => ?_)
  · obtain ⟨hE0, hpo⟩ := hE
    simp only [zXc, List.mem_cons, Prod.mk.injEq, List.not_mem_nil, or_false] at hE0
    rcases hE0 with ⟨hc9, rfl⟩ | ⟨hc9, rfl⟩
    · refine q_catch (hh := [(0, 9, 12, 13), (0, 9, 15, 18)]) C [] [(0, 9, 15, 18)] (0, 9, 12, 13) rfl (by decide) (by decide) g99 (by decide) (fun z hz => by cases hz) hc1 hc2 hc3 ?_
      have j1 : JZ cy hX x y ou fo gr (n + 1) (S) (W) S W := by exact JZ.cls hz hQ hA hou hmk hEd hrn hdj hno hpo
      refine lv_astore_n (lv' := [(3, .ref q), (0, .ref x), (1, .int p0), (2, .ref ou)]) hx hb dL_size_12 rfl hl (by decide) rfl (fun ls hl => ?_)
      refine lv_iconst (v := nI 1) hx hb dL_size_13 (by decide) ?_
      have hc8 : (xs_size S p0).1 = 1 := hc9
      exact q_iret C hP hS ⟨by rw [hc8]; rfl, fo, j1, fun z => absurd (hc8.symm.trans z) (by decide)⟩ (by omega) dL_size_14
    · refine q_catch (hh := [(0, 9, 12, 13), (0, 9, 15, 18)]) C [(0, 9, 12, 13)] [] (0, 9, 15, 18) rfl (by decide) (by decide) g238 (by decide) (fun z hz => by simp only [List.mem_cons, List.not_mem_nil, or_false] at hz; subst hz; exact ⟨by decide, "java/lang/IllegalArgumentException", by decide, by decide, g99⟩) hc1 hc2 hc3 ?_
      have j1 : JZ cy hX x y ou fo gr (n + 1) (S) (W) S W := by exact JZ.cls hz hQ hA hou hmk hEd hrn hdj hno hpo
      refine lv_astore_n (lv' := [(3, .ref q), (0, .ref x), (1, .int p0), (2, .ref ou)]) hx hb dL_size_15 rfl hl (by decide) rfl (fun ls hl => ?_)
      refine lv_iconst (v := nI 2) hx hb dL_size_16 (by decide) ?_
      have hc8 : (xs_size S p0).1 = 2 := hc9
      exact q_iret C hP hS ⟨by rw [hc8]; rfl, fo, j1, fun z => absurd (hc8.symm.trans z) (by decide)⟩ (by omega) dL_size_17
  · obtain ⟨hc0, rfl, hpo⟩ := hq
    have j1 : JZ cy hh1 x y ou fo gr (n + 1) (S) (W) S W := JZ.cls hz hQ hA hou hmk hEd hrn hdj hno hpo
    have hou1 := j1.ouf
    refine lv_i2l hx hb dL_size_7 rfl ?_
    refine q_lastN C hP hS hou1 (by omega) (by omega) dL_size_8 (fun H locs hP hS => ?_)
    replace hou1 : (qs hh1 ou (.inl (cy 1, 1, .inr (.inl (vp_updL fo 0 ((((xs_size S p0).2)).toInt64)))))) ou = some (.inl (cy 1, 1, .inr (.inl (vp_updL fo 0 ((((xs_size S p0).2)).toInt64))))) := qs_self
    refine lv_goto (tgt := 18) hx hb dL_size_9 (by decide) ?_
    refine lv_iconst (v := nI 0) hx hb dL_size_18 (by decide) ?_
    have hc8 : (xs_size S p0).1 = 0 := hc0
    obtain ⟨K9, dp9, hp9⟩ : PI gr (n + 1) (S) (W) := hp.up
    have j2 := j1.out (f' := vp_updL fo 0 (((xs_size S p0).2).toInt64)) hp9.hV
    exact q_iret C hP hS ⟨by rw [hc8]; rfl, vp_updL fo 0 (((xs_size S p0).2).toInt64), j2, fun _ => rfl⟩ (by omega) dL_size_19

set_option maxRecDepth 100000 in
set_option maxHeartbeats 4000000 in
theorem zl_kind (l : Launch) (D : va_G) (cy : Nat → ClassId) (N0 : Nat) (h : qH) (x y ou : Nat) (fo : Nat → Int64) (gr : Int32) (n : Nat) (S : Nat → qSlot) (W : qWo) (p0 : Int32) (j : JZ cy h x y ou fo gr n S W S W) (hp : PI gr n S W) (hn : n < 64) : qCW l D cy N0 yL_kind cL_kind 4 (some .int) [(0, 9, 12, 13)] 1600 46000 (1200 + 212 * n + (W.2.1.1 - W.2.1.1)) (12200 + n * rMs n 7 + 10 * (W.2.1.1 - W.2.1.1)) [.ref x, .int p0, .ref ou] h (fun v h' => v = some (.int (xs_kind S p0).1) ∧ ∃ fo' : Nat → Int64, JZ cy h' x y ou fo' gr (n + 1) (S) (W) S W ∧ ((xs_kind S p0).1 = 0 → fo' 0 = ((xs_kind S p0).2).toInt64)) := by
  refine q_ofWH (by decide) (by exact Nat.le_of_ble_eq_true rfl) ?_
  intro p e s m below meth c ls C hP hl
  have hx := C.1
  have hb := C.2.1
  have hS : va_S (qA N0) s.heap s.heap [] := va_S.rf
  have hl : lv_has ls 4 [(0, .ref x), (1, .int p0), (2, .ref ou)] := hl
  have j0 := j
  obtain ⟨mk, sl, bl, kr, vr, Ed, fs, bd, br, eb, Im, Xb, g, A, ra, rk, rv, pa, ad, hz, hQ, hA, hou, hmk, hEd, hrn, hdj, hno⟩ := j
  obtain ⟨K, dp, hpi⟩ := id hp
  refine lv_aload_n hx hb dL_kind_0 rfl (lv_at hl 2 rfl) ?_
  refine lv_iconst (v := nI 0) hx hb dL_kind_1 (by decide) ?_
  refine lv_aload_n hx hb dL_kind_2 rfl (lv_at hl 0 rfl) ?_
  refine lv_iload_n hx hb dL_kind_3 rfl (lv_at hl 1 rfl) ?_
  refine q_callV (rest := [.int (nI 0), .ref ou]) C (z_kind l D cy N0 h x mk sl bl kr vr Ed fs bd br eb Im Xb g S W (n + 2) 1 (S 999).2.2.1 dp p0 hz hpi.hI hpi.hLn hpi.hV) kX6_kind g273 g274 rfl g275 g1 hP hS hz.1.1 (by first | decide | omega) hl.1 rfl (by simp [q_catrf, q_cati, q_catl, q_cata, q_catn]) (by first | decide | omega) dL_kind_4 (fun q ce E hX H locs hE hP hS hc1 hc2 hc3 => ?_) (fun v hh1 H locs hq hP hS => ?_)
  · obtain ⟨hE0, hpo⟩ := hE
    simp only [zXc, List.mem_cons, Prod.mk.injEq, List.not_mem_nil, or_false] at hE0
    obtain ⟨hc9, rfl⟩ := hE0
    refine q_catch (hh := [(0, 9, 12, 13)]) C [] [] (0, 9, 12, 13) rfl (by decide) (by decide) g99 (by decide) (fun z hz => by cases hz) hc1 hc2 hc3 ?_
    have j1 : JZ cy hX x y ou fo gr (n + 1) (S) (W) S W := by exact JZ.cls hz hQ hA hou hmk hEd hrn hdj hno hpo
    refine lv_astore_n (lv' := [(3, .ref q), (0, .ref x), (1, .int p0), (2, .ref ou)]) hx hb dL_kind_12 rfl hl (by decide) rfl (fun ls hl => ?_)
    refine lv_iconst (v := nI 1) hx hb dL_kind_13 (by decide) ?_
    have hc8 : (xs_kind S p0).1 = 1 := hc9
    exact q_iret C hP hS ⟨by rw [hc8]; rfl, fo, j1, fun z => absurd (hc8.symm.trans z) (by decide)⟩ (by omega) dL_kind_14
  · obtain ⟨hc0, rfl, hpo⟩ := hq
    have j1 : JZ cy hh1 x y ou fo gr (n + 1) (S) (W) S W := JZ.cls hz hQ hA hou hmk hEd hrn hdj hno hpo
    have hou1 := j1.ouf
    refine lv_i2l hx hb dL_kind_7 rfl ?_
    refine q_lastN C hP hS hou1 (by omega) (by omega) dL_kind_8 (fun H locs hP hS => ?_)
    replace hou1 : (qs hh1 ou (.inl (cy 1, 1, .inr (.inl (vp_updL fo 0 ((((xs_kind S p0).2)).toInt64)))))) ou = some (.inl (cy 1, 1, .inr (.inl (vp_updL fo 0 ((((xs_kind S p0).2)).toInt64))))) := qs_self
    refine lv_goto (tgt := 15) hx hb dL_kind_9 (by decide) ?_
    refine lv_iconst (v := nI 0) hx hb dL_kind_15 (by decide) ?_
    have hc8 : (xs_kind S p0).1 = 0 := hc0
    obtain ⟨K9, dp9, hp9⟩ : PI gr (n + 1) (S) (W) := hp.up
    have j2 := j1.out (f' := vp_updL fo 0 (((xs_kind S p0).2).toInt64)) hp9.hV
    exact q_iret C hP hS ⟨by rw [hc8]; rfl, vp_updL fo 0 (((xs_kind S p0).2).toInt64), j2, fun _ => rfl⟩ (by omega) dL_kind_16
theorem dL_add_10 : decode cL_add 10 = .ok (.i2l, 1) := by decide +kernel
theorem dL_add_11 : decode cL_add 11 = .ok (.lastore, 1) := by decide +kernel
theorem dL_add_12 : decode cL_add 12 = .ok (.goto 15, 3) := by decide +kernel
theorem dL_add_23 : decode cL_add 23 = .ok (.astore 6, 2) := by decide +kernel
theorem dL_add_25 : decode cL_add 25 = .ok (.iconst 3, 1) := by decide +kernel
theorem dL_add_26 : decode cL_add 26 = .ok (.ireturn, 1) := by decide +kernel
theorem dL_add_27 : decode cL_add 27 = .ok (.iconst 0, 1) := by decide +kernel
theorem dL_add_28 : decode cL_add 28 = .ok (.ireturn, 1) := by decide +kernel
set_option maxRecDepth 100000 in
set_option maxHeartbeats 4000000 in
theorem zl_add (l : Launch) (D : va_G) (cy : Nat → ClassId) (N0 : Nat) (h : qH) (x y ou : Nat) (fo : Nat → Int64) (gr : Int32) (n : Nat) (S : Nat → qSlot) (W : qWo) (p0 : Int32) (p1 : Int32) (p2 : Int64) (j : JZ cy h x y ou fo gr n S W S W) (hp : PI gr n S W) (hn : n < 64) : qCW l D cy N0 yL_add cL_add 7 (some .int) [(0, 12, 15, 13), (0, 12, 19, 18), (0, 12, 23, 31)] 1600 46000 (1200 + 212 * n + (W.2.1.1 - W.2.1.1)) (12200 + n * rMs n 7 + 10 * (W.2.1.1 - W.2.1.1)) [.ref x, .int p0, .int p1, .long p2, .ref ou] h (fun v h' => v = some (.int (xs_add gr S p0 p1 p2).1) ∧ ∃ fo' : Nat → Int64, JZ cy h' x y ou fo' gr (n + 1) ((xs_add gr S p0 p1 p2).2.1) (W) S W ∧ ((xs_add gr S p0 p1 p2).1 = 0 → fo' 0 = ((xs_add gr S p0 p1 p2).2.2).toInt64)) := by
  refine q_ofWH (by decide) (by exact Nat.le_of_ble_eq_true rfl) ?_
  intro p e s m below meth c ls C hP hl
  have hx := C.1
  have hb := C.2.1
  have hS : va_S (qA N0) s.heap s.heap [] := va_S.rf
  have hl : lv_has ls 7 [(0, .ref x), (1, .int p0), (2, .int p1), (3, .long p2), (5, .ref ou)] := hl
  have j0 := j
  obtain ⟨mk, sl, bl, kr, vr, Ed, fs, bd, br, eb, Im, Xb, g, A, ra, rk, rv, pa, ad, hz, hQ, hA, hou, hmk, hEd, hrn, hdj, hno⟩ := j
  obtain ⟨K, dp, hpi⟩ := id hp
  refine lv_aload hx hb dL_add_0 (lv_at hl 4 rfl) ?_
  refine lv_iconst (v := nI 0) hx hb dL_add_2 (by decide) ?_
  refine lv_aload_n hx hb dL_add_3 rfl (lv_at hl 0 rfl) ?_
  refine lv_iload_n hx hb dL_add_4 rfl (lv_at hl 1 rfl) ?_
  refine lv_iload_n hx hb dL_add_5 rfl (lv_at hl 2 rfl) ?_
  refine lv_lload_n hx hb dL_add_6 rfl (lv_at hl 3 rfl) ?_
  refine q_callV (rest := [.int (nI 0), .ref ou]) C (z_add l D cy N0 h x mk sl bl kr vr Ed fs bd br eb Im Xb g S W (n + 2) 1 (S 999).2.2.1 dp gr p0 p1 p2 hz hpi.hI hpi.hLn hpi.hV hmk hpi.hAl (fun i9 hi9 z9 => Nat.le_trans (hpi.h64 i9 hi9 z9) (by omega)) (by omega)) kX6_add g281 g282 rfl g283 g1 hP hS hz.1.1 (by first | decide | omega) hl.1 rfl (by simp [q_catrf, q_cati, q_catl, q_cata, q_catn]) (by first | decide | omega) dL_add_7 (fun q ce E hX H locs hE hP hS hc1 hc2 hc3 => ?_) (fun v hh1 H locs hq hP hS => ?_)
  · obtain ⟨hE0, hpo⟩ := hE
    simp only [zXc, List.mem_cons, Prod.mk.injEq, List.not_mem_nil, or_false] at hE0
    rcases hE0 with ⟨hc9, rfl⟩ | ⟨hc9, rfl⟩ | ⟨hc9, rfl⟩
    · refine q_catch (hh := [(0, 12, 15, 13), (0, 12, 19, 18), (0, 12, 23, 31)]) C [] [(0, 12, 19, 18), (0, 12, 23, 31)] (0, 12, 15, 13) rfl (by decide) (by decide) g99 (by decide) (fun z hz => by cases hz) hc1 hc2 hc3 ?_
      have eb := xb_add (show (xs_add gr S p0 p1 p2).1 ≠ 0 by rw [hc9]; decide)
      have j1 : JZ cy hX x y ou fo gr (n + 1) ((xs_add gr S p0 p1 p2).2.1) (W) S W := by rw [eb]; exact JZ.cls hz hQ hA hou hmk hEd hrn hdj hno hpo
      refine lv_astore (lv' := [(6, .ref q), (0, .ref x), (1, .int p0), (2, .int p1), (3, .long p2), (5, .ref ou)]) hx hb dL_add_15 hl (by decide) rfl (fun ls hl => ?_)
      refine lv_iconst (v := nI 1) hx hb dL_add_17 (by decide) ?_
      have hc8 : (xs_add gr S p0 p1 p2).1 = 1 := hc9
      exact q_iret C hP hS ⟨by rw [hc8]; rfl, fo, j1, fun z => absurd (hc8.symm.trans z) (by decide)⟩ (by omega) dL_add_18
    · refine q_catch (hh := [(0, 12, 15, 13), (0, 12, 19, 18), (0, 12, 23, 31)]) C [(0, 12, 15, 13)] [(0, 12, 23, 31)] (0, 12, 19, 18) rfl (by decide) (by decide) g238 (by decide) (fun z hz => by simp only [List.mem_cons, List.not_mem_nil, or_false] at hz; subst hz; exact ⟨by decide, "java/lang/IllegalArgumentException", by decide, by decide, g99⟩) hc1 hc2 hc3 ?_
      have eb := xb_add (show (xs_add gr S p0 p1 p2).1 ≠ 0 by rw [hc9]; decide)
      have j1 : JZ cy hX x y ou fo gr (n + 1) ((xs_add gr S p0 p1 p2).2.1) (W) S W := by rw [eb]; exact JZ.cls hz hQ hA hou hmk hEd hrn hdj hno hpo
      refine lv_astore (lv' := [(6, .ref q), (0, .ref x), (1, .int p0), (2, .int p1), (3, .long p2), (5, .ref ou)]) hx hb dL_add_19 hl (by decide) rfl (fun ls hl => ?_)
      refine lv_iconst (v := nI 2) hx hb dL_add_21 (by decide) ?_
      have hc8 : (xs_add gr S p0 p1 p2).1 = 2 := hc9
      exact q_iret C hP hS ⟨by rw [hc8]; rfl, fo, j1, fun z => absurd (hc8.symm.trans z) (by decide)⟩ (by omega) dL_add_22
    · refine q_catch (hh := [(0, 12, 15, 13), (0, 12, 19, 18), (0, 12, 23, 31)]) C [(0, 12, 15, 13), (0, 12, 19, 18)] [] (0, 12, 23, 31) rfl (by decide) (by decide) g280 (by decide) (fun z hz => by simp only [List.mem_cons, List.not_mem_nil, or_false] at hz; rcases hz with rfl | rfl <;> first | exact ⟨by decide, "java/lang/IllegalArgumentException", by decide, by decide, g99⟩ | exact ⟨by decide, "java/lang/IllegalStateException", by decide, by decide, g238⟩) hc1 hc2 hc3 ?_
      have eb := xb_add (show (xs_add gr S p0 p1 p2).1 ≠ 0 by rw [hc9]; decide)
      have j1 : JZ cy hX x y ou fo gr (n + 1) ((xs_add gr S p0 p1 p2).2.1) (W) S W := by rw [eb]; exact JZ.cls hz hQ hA hou hmk hEd hrn hdj hno hpo
      refine lv_astore (lv' := [(6, .ref q), (0, .ref x), (1, .int p0), (2, .int p1), (3, .long p2), (5, .ref ou)]) hx hb dL_add_23 hl (by decide) rfl (fun ls hl => ?_)
      refine lv_iconst (v := nI 3) hx hb dL_add_25 (by decide) ?_
      have hc8 : (xs_add gr S p0 p1 p2).1 = 3 := hc9
      exact q_iret C hP hS ⟨by rw [hc8]; rfl, fo, j1, fun z => absurd (hc8.symm.trans z) (by decide)⟩ (by omega) dL_add_26
  · obtain ⟨hc0, rfl, hpo⟩ := hq
    have j1 : JZ cy hh1 x y ou fo gr (n + 1) ((xs_add gr S p0 p1 p2).2.1) (W) S W := JZ.cls hz hQ hA hou hmk hEd hrn hdj hno hpo
    have hou1 := j1.ouf
    refine lv_i2l hx hb dL_add_10 rfl ?_
    refine q_lastN C hP hS hou1 (by omega) (by omega) dL_add_11 (fun H locs hP hS => ?_)
    replace hou1 : (qs hh1 ou (.inl (cy 1, 1, .inr (.inl (vp_updL fo 0 ((((xs_add gr S p0 p1 p2).2.2)).toInt64)))))) ou = some (.inl (cy 1, 1, .inr (.inl (vp_updL fo 0 ((((xs_add gr S p0 p1 p2).2.2)).toInt64))))) := qs_self
    refine lv_goto (tgt := 27) hx hb dL_add_12 (by decide) ?_
    refine lv_iconst (v := nI 0) hx hb dL_add_27 (by decide) ?_
    have hc8 : (xs_add gr S p0 p1 p2).1 = 0 := hc0
    obtain ⟨K9, dp9, hp9⟩ : PI gr (n + 1) ((xs_add gr S p0 p1 p2).2.1) (W) := hp.add
    have j2 := j1.out (f' := vp_updL fo 0 (((xs_add gr S p0 p1 p2).2.2).toInt64)) hp9.hV
    exact q_iret C hP hS ⟨by rw [hc8]; rfl, vp_updL fo 0 (((xs_add gr S p0 p1 p2).2.2).toInt64), j2, fun _ => rfl⟩ (by omega) dL_add_28
theorem dL_push_7 : decode cL_push 7 = .ok (.goto 15, 3) := by decide +kernel
theorem dL_push_18 : decode cL_push 18 = .ok (.astore 5, 2) := by decide +kernel
theorem dL_push_20 : decode cL_push 20 = .ok (.iconst 3, 1) := by decide +kernel
theorem dL_push_21 : decode cL_push 21 = .ok (.ireturn, 1) := by decide +kernel
theorem dL_push_22 : decode cL_push 22 = .ok (.iconst 0, 1) := by decide +kernel
theorem dL_push_23 : decode cL_push 23 = .ok (.ireturn, 1) := by decide +kernel
set_option maxRecDepth 100000 in
set_option maxHeartbeats 4000000 in
theorem zl_push (l : Launch) (D : va_G) (cy : Nat → ClassId) (N0 : Nat) (h : qH) (x y ou : Nat) (fo : Nat → Int64) (gr : Int32) (n : Nat) (S : Nat → qSlot) (W : qWo) (p0 : Int32) (p1 : Int32) (p2 : Int64) (j : JZ cy h x y ou fo gr n S W S W) (hp : PI gr n S W) (hn : n < 64) : qCW l D cy N0 yL_push cL_push 6 (some .int) [(0, 7, 10, 13), (0, 7, 14, 18), (0, 7, 18, 31)] 1600 46000 (1200 + 212 * n + ((xs_push S W p0 p1 p2).2.2.2.1.1 - W.2.1.1)) (12200 + n * rMs n 7 + 10 * ((xs_push S W p0 p1 p2).2.2.2.1.1 - W.2.1.1)) [.ref x, .int p0, .int p1, .long p2] h (fun v h' => v = some (.int (xs_push S W p0 p1 p2).1) ∧ JZ cy h' x y ou fo gr (n + 1) ((xs_push S W p0 p1 p2).2.1) ((xs_push S W p0 p1 p2).2.2) S W) := by
  refine q_ofWH (by decide) (by exact Nat.le_of_ble_eq_true rfl) ?_
  intro p e s m below meth c ls C hP hl
  have hx := C.1
  have hb := C.2.1
  have hS : va_S (qA N0) s.heap s.heap [] := va_S.rf
  have hl : lv_has ls 6 [(0, .ref x), (1, .int p0), (2, .int p1), (3, .long p2)] := hl
  have j0 := j
  obtain ⟨mk, sl, bl, kr, vr, Ed, fs, bd, br, eb, Im, Xb, g, A, ra, rk, rv, pa, ad, hz, hQ, hA, hou, hmk, hEd, hrn, hdj, hno⟩ := j
  obtain ⟨K, dp, hpi⟩ := id hp
  refine lv_aload_n hx hb dL_push_0 rfl (lv_at hl 0 rfl) ?_
  refine lv_iload_n hx hb dL_push_1 rfl (lv_at hl 1 rfl) ?_
  refine lv_iload_n hx hb dL_push_2 rfl (lv_at hl 2 rfl) ?_
  refine lv_lload_n hx hb dL_push_3 rfl (lv_at hl 3 rfl) ?_
  refine q_callV (rest := []) C (z_push l D cy N0 h x mk sl bl kr vr Ed fs bd br eb Im Xb g S W (n + 2) 0 (S 999).2.2.1 dp 100 p0 p1 p2 hz hpi.hI hpi.hLn hpi.hV hpi.hSt) kX6_push g522 g523 rfl g524 g1 hP hS hz.1.1 (by first | decide | omega) hl.1 rfl (by decide) (by first | decide | omega) dL_push_4 (fun q ce E hX H locs hE hP hS hc1 hc2 hc3 => ?_) (fun v hh1 H locs hq hP hS => ?_)
  · obtain ⟨hE0, hpo⟩ := hE
    simp only [zXc, List.mem_cons, Prod.mk.injEq, List.not_mem_nil, or_false] at hE0
    rcases hE0 with ⟨hc9, rfl⟩ | ⟨hc9, rfl⟩ | ⟨hc9, rfl⟩
    · refine q_catch (hh := [(0, 7, 10, 13), (0, 7, 14, 18), (0, 7, 18, 31)]) C [] [(0, 7, 14, 18), (0, 7, 18, 31)] (0, 7, 10, 13) rfl (by decide) (by decide) g99 (by decide) (fun z hz => by cases hz) hc1 hc2 hc3 ?_
      have eb := xb_push (show (xs_push S W p0 p1 p2).1 ≠ 0 by rw [hc9]; decide)
      have j1 : JZ cy hX x y ou fo gr (n + 1) ((xs_push S W p0 p1 p2).2.1) ((xs_push S W p0 p1 p2).2.2) S W := by rw [eb]; exact JZ.cls hz hQ hA hou hmk hEd hrn hdj hno hpo
      refine lv_astore (lv' := [(5, .ref q), (0, .ref x), (1, .int p0), (2, .int p1), (3, .long p2)]) hx hb dL_push_10 hl (by decide) rfl (fun ls hl => ?_)
      refine lv_iconst (v := nI 1) hx hb dL_push_12 (by decide) ?_
      have hc8 : (xs_push S W p0 p1 p2).1 = 1 := hc9
      exact q_iret C hP hS ⟨by rw [hc8]; rfl, j1⟩ (by omega) dL_push_13
    · refine q_catch (hh := [(0, 7, 10, 13), (0, 7, 14, 18), (0, 7, 18, 31)]) C [(0, 7, 10, 13)] [(0, 7, 18, 31)] (0, 7, 14, 18) rfl (by decide) (by decide) g238 (by decide) (fun z hz => by simp only [List.mem_cons, List.not_mem_nil, or_false] at hz; subst hz; exact ⟨by decide, "java/lang/IllegalArgumentException", by decide, by decide, g99⟩) hc1 hc2 hc3 ?_
      have eb := xb_push (show (xs_push S W p0 p1 p2).1 ≠ 0 by rw [hc9]; decide)
      have j1 : JZ cy hX x y ou fo gr (n + 1) ((xs_push S W p0 p1 p2).2.1) ((xs_push S W p0 p1 p2).2.2) S W := by rw [eb]; exact JZ.cls hz hQ hA hou hmk hEd hrn hdj hno hpo
      refine lv_astore (lv' := [(5, .ref q), (0, .ref x), (1, .int p0), (2, .int p1), (3, .long p2)]) hx hb dL_push_14 hl (by decide) rfl (fun ls hl => ?_)
      refine lv_iconst (v := nI 2) hx hb dL_push_16 (by decide) ?_
      have hc8 : (xs_push S W p0 p1 p2).1 = 2 := hc9
      exact q_iret C hP hS ⟨by rw [hc8]; rfl, j1⟩ (by omega) dL_push_17
    · refine q_catch (hh := [(0, 7, 10, 13), (0, 7, 14, 18), (0, 7, 18, 31)]) C [(0, 7, 10, 13), (0, 7, 14, 18)] [] (0, 7, 18, 31) rfl (by decide) (by decide) g280 (by decide) (fun z hz => by simp only [List.mem_cons, List.not_mem_nil, or_false] at hz; rcases hz with rfl | rfl <;> first | exact ⟨by decide, "java/lang/IllegalArgumentException", by decide, by decide, g99⟩ | exact ⟨by decide, "java/lang/IllegalStateException", by decide, by decide, g238⟩) hc1 hc2 hc3 ?_
      have eb := xb_push (show (xs_push S W p0 p1 p2).1 ≠ 0 by rw [hc9]; decide)
      have j1 : JZ cy hX x y ou fo gr (n + 1) ((xs_push S W p0 p1 p2).2.1) ((xs_push S W p0 p1 p2).2.2) S W := by rw [eb]; exact JZ.cls hz hQ hA hou hmk hEd hrn hdj hno hpo
      refine lv_astore (lv' := [(5, .ref q), (0, .ref x), (1, .int p0), (2, .int p1), (3, .long p2)]) hx hb dL_push_18 hl (by decide) rfl (fun ls hl => ?_)
      refine lv_iconst (v := nI 3) hx hb dL_push_20 (by decide) ?_
      have hc8 : (xs_push S W p0 p1 p2).1 = 3 := hc9
      exact q_iret C hP hS ⟨by rw [hc8]; rfl, j1⟩ (by omega) dL_push_21
  · obtain ⟨hc0, rfl, hpo⟩ := hq
    have j1 : JZ cy hh1 x y ou fo gr (n + 1) ((xs_push S W p0 p1 p2).2.1) ((xs_push S W p0 p1 p2).2.2) S W := JZ.cls hz hQ hA hou hmk hEd hrn hdj hno hpo
    refine lv_goto (tgt := 22) hx hb dL_push_7 (by decide) ?_
    refine lv_iconst (v := nI 0) hx hb dL_push_22 (by decide) ?_
    have hc8 : (xs_push S W p0 p1 p2).1 = 0 := hc0
    exact q_iret C hP hS ⟨by rw [hc8]; rfl, j1⟩ (by omega) dL_push_23
theorem dL_set_12 : decode cL_set 12 = .ok (.lastore, 1) := by decide +kernel
theorem dL_set_13 : decode cL_set 13 = .ok (.goto 15, 3) := by decide +kernel
theorem dL_set_24 : decode cL_set 24 = .ok (.astore 7, 2) := by decide +kernel
theorem dL_set_26 : decode cL_set 26 = .ok (.iconst 3, 1) := by decide +kernel
theorem dL_set_27 : decode cL_set 27 = .ok (.ireturn, 1) := by decide +kernel
theorem dL_set_28 : decode cL_set 28 = .ok (.iconst 0, 1) := by decide +kernel
theorem dL_set_29 : decode cL_set 29 = .ok (.ireturn, 1) := by decide +kernel
set_option maxRecDepth 100000 in
set_option maxHeartbeats 4000000 in
theorem zl_set (l : Launch) (D : va_G) (cy : Nat → ClassId) (N0 : Nat) (h : qH) (x y ou : Nat) (fo : Nat → Int64) (gr : Int32) (n : Nat) (S : Nat → qSlot) (W : qWo) (p0 : Int32) (p1 : Int32) (p2 : Int32) (p3 : Int64) (j : JZ cy h x y ou fo gr n S W S W) (hp : PI gr n S W) (hn : n < 64) : qCW l D cy N0 yL_set cL_set 8 (some .int) [(0, 13, 16, 13), (0, 13, 20, 18), (0, 13, 24, 41)] 1600 46000 (1200 + 212 * n + (W.2.1.1 - W.2.1.1)) (12200 + n * rMs n 7 + 10 * (W.2.1.1 - W.2.1.1)) [.ref x, .int p0, .int p1, .int p2, .long p3, .ref ou] h (fun v h' => v = some (.int (xs_set S p0 p1 p2 p3).1) ∧ ∃ fo' : Nat → Int64, JZ cy h' x y ou fo' gr (n + 1) ((xs_set S p0 p1 p2 p3).2.1) (W) S W ∧ ((xs_set S p0 p1 p2 p3).1 = 0 → fo' 0 = (xs_set S p0 p1 p2 p3).2.2)) := by
  refine q_ofWH (by decide) (by exact Nat.le_of_ble_eq_true rfl) ?_
  intro p e s m below meth c ls C hP hl
  have hx := C.1
  have hb := C.2.1
  have hS : va_S (qA N0) s.heap s.heap [] := va_S.rf
  have hl : lv_has ls 8 [(0, .ref x), (1, .int p0), (2, .int p1), (3, .int p2), (4, .long p3), (6, .ref ou)] := hl
  have j0 := j
  obtain ⟨mk, sl, bl, kr, vr, Ed, fs, bd, br, eb, Im, Xb, g, A, ra, rk, rv, pa, ad, hz, hQ, hA, hou, hmk, hEd, hrn, hdj, hno⟩ := j
  obtain ⟨K, dp, hpi⟩ := id hp
  refine lv_aload hx hb dL_set_0 (lv_at hl 5 rfl) ?_
  refine lv_iconst (v := nI 0) hx hb dL_set_2 (by decide) ?_
  refine lv_aload_n hx hb dL_set_3 rfl (lv_at hl 0 rfl) ?_
  refine lv_iload_n hx hb dL_set_4 rfl (lv_at hl 1 rfl) ?_
  refine lv_iload_n hx hb dL_set_5 rfl (lv_at hl 2 rfl) ?_
  refine lv_iload_n hx hb dL_set_6 rfl (lv_at hl 3 rfl) ?_
  refine lv_lload hx hb dL_set_7 (lv_at hl 4 rfl) ?_
  refine q_callV (rest := [.int (nI 0), .ref ou]) C (z_set l D cy N0 h x mk sl bl kr vr Ed fs bd br eb Im Xb g S W (n + 2) 1 (S 999).2.2.1 dp p0 p1 p2 p3 hz hpi.hI hpi.hLn hpi.hV) kX6_set g587 g588 rfl g589 g1 hP hS hz.1.1 (by first | decide | omega) hl.1 rfl (by simp [q_catrf, q_cati, q_catl, q_cata, q_catn]) (by first | decide | omega) dL_set_9 (fun q ce E hX H locs hE hP hS hc1 hc2 hc3 => ?_) (fun v hh1 H locs hq hP hS => ?_)
  · obtain ⟨hE0, hpo⟩ := hE
    simp only [zXc, List.mem_cons, Prod.mk.injEq, List.not_mem_nil, or_false] at hE0
    rcases hE0 with ⟨hc9, rfl⟩ | ⟨hc9, rfl⟩ | ⟨hc9, rfl⟩
    · refine q_catch (hh := [(0, 13, 16, 13), (0, 13, 20, 18), (0, 13, 24, 41)]) C [] [(0, 13, 20, 18), (0, 13, 24, 41)] (0, 13, 16, 13) rfl (by decide) (by decide) g99 (by decide) (fun z hz => by cases hz) hc1 hc2 hc3 ?_
      have eb := xb_set (show (xs_set S p0 p1 p2 p3).1 ≠ 0 by rw [hc9]; decide)
      have j1 : JZ cy hX x y ou fo gr (n + 1) ((xs_set S p0 p1 p2 p3).2.1) (W) S W := by rw [eb]; exact JZ.cls hz hQ hA hou hmk hEd hrn hdj hno hpo
      refine lv_astore (lv' := [(7, .ref q), (0, .ref x), (1, .int p0), (2, .int p1), (3, .int p2), (4, .long p3), (6, .ref ou)]) hx hb dL_set_16 hl (by decide) rfl (fun ls hl => ?_)
      refine lv_iconst (v := nI 1) hx hb dL_set_18 (by decide) ?_
      have hc8 : (xs_set S p0 p1 p2 p3).1 = 1 := hc9
      exact q_iret C hP hS ⟨by rw [hc8]; rfl, fo, j1, fun z => absurd (hc8.symm.trans z) (by decide)⟩ (by omega) dL_set_19
    · refine q_catch (hh := [(0, 13, 16, 13), (0, 13, 20, 18), (0, 13, 24, 41)]) C [(0, 13, 16, 13)] [(0, 13, 24, 41)] (0, 13, 20, 18) rfl (by decide) (by decide) g238 (by decide) (fun z hz => by simp only [List.mem_cons, List.not_mem_nil, or_false] at hz; subst hz; exact ⟨by decide, "java/lang/IllegalArgumentException", by decide, by decide, g99⟩) hc1 hc2 hc3 ?_
      have eb := xb_set (show (xs_set S p0 p1 p2 p3).1 ≠ 0 by rw [hc9]; decide)
      have j1 : JZ cy hX x y ou fo gr (n + 1) ((xs_set S p0 p1 p2 p3).2.1) (W) S W := by rw [eb]; exact JZ.cls hz hQ hA hou hmk hEd hrn hdj hno hpo
      refine lv_astore (lv' := [(7, .ref q), (0, .ref x), (1, .int p0), (2, .int p1), (3, .int p2), (4, .long p3), (6, .ref ou)]) hx hb dL_set_20 hl (by decide) rfl (fun ls hl => ?_)
      refine lv_iconst (v := nI 2) hx hb dL_set_22 (by decide) ?_
      have hc8 : (xs_set S p0 p1 p2 p3).1 = 2 := hc9
      exact q_iret C hP hS ⟨by rw [hc8]; rfl, fo, j1, fun z => absurd (hc8.symm.trans z) (by decide)⟩ (by omega) dL_set_23
    · refine q_catch (hh := [(0, 13, 16, 13), (0, 13, 20, 18), (0, 13, 24, 41)]) C [(0, 13, 16, 13), (0, 13, 20, 18)] [] (0, 13, 24, 41) rfl (by decide) (by decide) g586 (by decide) (fun z hz => by simp only [List.mem_cons, List.not_mem_nil, or_false] at hz; rcases hz with rfl | rfl <;> first | exact ⟨by decide, "java/lang/IllegalArgumentException", by decide, by decide, g99⟩ | exact ⟨by decide, "java/lang/IllegalStateException", by decide, by decide, g238⟩) hc1 hc2 hc3 ?_
      have eb := xb_set (show (xs_set S p0 p1 p2 p3).1 ≠ 0 by rw [hc9]; decide)
      have j1 : JZ cy hX x y ou fo gr (n + 1) ((xs_set S p0 p1 p2 p3).2.1) (W) S W := by rw [eb]; exact JZ.cls hz hQ hA hou hmk hEd hrn hdj hno hpo
      refine lv_astore (lv' := [(7, .ref q), (0, .ref x), (1, .int p0), (2, .int p1), (3, .int p2), (4, .long p3), (6, .ref ou)]) hx hb dL_set_24 hl (by decide) rfl (fun ls hl => ?_)
      refine lv_iconst (v := nI 3) hx hb dL_set_26 (by decide) ?_
      have hc8 : (xs_set S p0 p1 p2 p3).1 = 3 := hc9
      exact q_iret C hP hS ⟨by rw [hc8]; rfl, fo, j1, fun z => absurd (hc8.symm.trans z) (by decide)⟩ (by omega) dL_set_27
  · obtain ⟨hc0, rfl, hpo⟩ := hq
    have j1 : JZ cy hh1 x y ou fo gr (n + 1) ((xs_set S p0 p1 p2 p3).2.1) (W) S W := JZ.cls hz hQ hA hou hmk hEd hrn hdj hno hpo
    have hou1 := j1.ouf
    refine q_lastN C hP hS hou1 (by omega) (by omega) dL_set_12 (fun H locs hP hS => ?_)
    replace hou1 : (qs hh1 ou (.inl (cy 1, 1, .inr (.inl (vp_updL fo 0 ((xs_set S p0 p1 p2 p3).2.2)))))) ou = some (.inl (cy 1, 1, .inr (.inl (vp_updL fo 0 ((xs_set S p0 p1 p2 p3).2.2))))) := qs_self
    refine lv_goto (tgt := 28) hx hb dL_set_13 (by decide) ?_
    refine lv_iconst (v := nI 0) hx hb dL_set_28 (by decide) ?_
    have hc8 : (xs_set S p0 p1 p2 p3).1 = 0 := hc0
    obtain ⟨K9, dp9, hp9⟩ : PI gr (n + 1) ((xs_set S p0 p1 p2 p3).2.1) (W) := hp.set
    have j2 := j1.out (f' := vp_updL fo 0 ((xs_set S p0 p1 p2 p3).2.2)) hp9.hV
    exact q_iret C hP hS ⟨by rw [hc8]; rfl, vp_updL fo 0 ((xs_set S p0 p1 p2 p3).2.2), j2, fun _ => rfl⟩ (by omega) dL_set_29
theorem dL_at_8 : decode cL_at 8 = .ok (.lastore, 1) := by decide +kernel
theorem dL_at_9 : decode cL_at 9 = .ok (.goto 23, 3) := by decide +kernel
theorem dL_at_20 : decode cL_at 20 = .ok (.astore 4, 2) := by decide +kernel
theorem dL_at_22 : decode cL_at 22 = .ok (.iconst 3, 1) := by decide +kernel
theorem dL_at_23 : decode cL_at 23 = .ok (.ireturn, 1) := by decide +kernel
theorem dL_at_24 : decode cL_at 24 = .ok (.astore 4, 2) := by decide +kernel
theorem dL_at_26 : decode cL_at 26 = .ok (.iconst 4, 1) := by decide +kernel
theorem dL_at_27 : decode cL_at 27 = .ok (.ireturn, 1) := by decide +kernel
theorem dL_at_28 : decode cL_at 28 = .ok (.astore 4, 2) := by decide +kernel
theorem dL_at_30 : decode cL_at 30 = .ok (.iconst 5, 1) := by decide +kernel
theorem dL_at_31 : decode cL_at 31 = .ok (.ireturn, 1) := by decide +kernel
theorem dL_at_32 : decode cL_at 32 = .ok (.iconst 0, 1) := by decide +kernel
theorem dL_at_33 : decode cL_at 33 = .ok (.ireturn, 1) := by decide +kernel
set_option maxRecDepth 100000 in
set_option maxHeartbeats 4000000 in
theorem zl_at (l : Launch) (D : va_G) (cy : Nat → ClassId) (N0 : Nat) (h : qH) (x y ou : Nat) (fo : Nat → Int64) (gr : Int32) (n : Nat) (S : Nat → qSlot) (W : qWo) (p0 : Int32) (p1 : Int32) (j : JZ cy h x y ou fo gr n S W S W) (hp : PI gr n S W) (hn : n < 64) : qCW l D cy N0 yL_at cL_at 5 (some .int) [(0, 9, 12, 13), (0, 9, 16, 18), (0, 9, 20, 41), (0, 9, 24, 47), (0, 9, 28, 31)] 1600 46000 (1200 + 212 * n + ((xs_at (xF S) S W p0 p1).2.2.2.1.1 - W.2.1.1)) (12200 + n * rMs n 7 + 10 * ((xs_at (xF S) S W p0 p1).2.2.2.1.1 - W.2.1.1)) [.ref x, .int p0, .int p1, .ref ou] h (fun v h' => v = some (.int (xs_at (xF S) S W p0 p1).1) ∧ ∃ fo' : Nat → Int64, JZ cy h' x y ou fo' gr (n + 1) (S) ((xs_at (xF S) S W p0 p1).2.2) S W ∧ ((xs_at (xF S) S W p0 p1).1 = 0 → fo' 0 = (xs_at (xF S) S W p0 p1).2.1)) := by
  refine q_ofWH (by decide) (by exact Nat.le_of_ble_eq_true rfl) ?_
  intro p e s m below meth c ls C hP hl
  have hx := C.1
  have hb := C.2.1
  have hS : va_S (qA N0) s.heap s.heap [] := va_S.rf
  have hl : lv_has ls 5 [(0, .ref x), (1, .int p0), (2, .int p1), (3, .ref ou)] := hl
  have j0 := j
  obtain ⟨mk, sl, bl, kr, vr, Ed, fs, bd, br, eb, Im, Xb, g, A, ra, rk, rv, pa, ad, hz, hQ, hA, hou, hmk, hEd, hrn, hdj, hno⟩ := j
  obtain ⟨K, dp, hpi⟩ := id hp
  refine lv_aload_n hx hb dL_at_0 rfl (lv_at hl 3 rfl) ?_
  refine lv_iconst (v := nI 0) hx hb dL_at_1 (by decide) ?_
  refine lv_aload_n hx hb dL_at_2 rfl (lv_at hl 0 rfl) ?_
  refine lv_iload_n hx hb dL_at_3 rfl (lv_at hl 1 rfl) ?_
  refine lv_iload_n hx hb dL_at_4 rfl (lv_at hl 2 rfl) ?_
  refine q_callV (rest := [.int (nI 0), .ref ou]) C (z_at l D cy N0 h x mk sl bl kr vr Ed fs bd br eb Im Xb g S W (n + 2) 0 (S 999).2.2.1 dp 100 101 (xF S) p0 p1 hz hpi.hI hpi.hLn hpi.hV hpi.hSt (z_restAll l D cy N0 x mk sl bl kr vr (nI Ed) (n + 2) (S 999).2.2.1 (xRs S) hpi.2.2.2.2.1 101) hpi.G (by decide) (by rw [hpi.2.2.2.2.2.2.1]; exact hmk)) kX6_at g625 g626 rfl g627 g1 hP hS hz.1.1 (by first | decide | omega) hl.1 rfl (by simp [q_catrf, q_cati, q_catl, q_cata, q_catn]) (by first | decide | omega) dL_at_5 (fun q ce E hX H locs hE hP hS hc1 hc2 hc3 => ?_) (fun v hh1 H locs hq hP hS => ?_)
  · obtain ⟨hE0, hpo⟩ := hE
    simp only [zXc, List.mem_cons, Prod.mk.injEq, List.not_mem_nil, or_false] at hE0
    rcases hE0 with ⟨hc9, rfl⟩ | ⟨hc9, rfl⟩ | ⟨hc9, rfl⟩ | ⟨hc9, rfl⟩ | ⟨hc9, rfl⟩
    · refine q_catch (hh := [(0, 9, 12, 13), (0, 9, 16, 18), (0, 9, 20, 41), (0, 9, 24, 47), (0, 9, 28, 31)]) C [] [(0, 9, 16, 18), (0, 9, 20, 41), (0, 9, 24, 47), (0, 9, 28, 31)] (0, 9, 12, 13) rfl (by decide) (by decide) g99 (by decide) (fun z hz => by cases hz) hc1 hc2 hc3 ?_
      have j1 : JZ cy hX x y ou fo gr (n + 1) (S) ((xs_at (xF S) S W p0 p1).2.2) S W := by exact JZ.cls hz hQ hA hou hmk hEd hrn hdj hno hpo
      refine lv_astore (lv' := [(4, .ref q), (0, .ref x), (1, .int p0), (2, .int p1), (3, .ref ou)]) hx hb dL_at_12 hl (by decide) rfl (fun ls hl => ?_)
      refine lv_iconst (v := nI 1) hx hb dL_at_14 (by decide) ?_
      have hc8 : (xs_at (xF S) S W p0 p1).1 = 1 := hc9
      exact q_iret C hP hS ⟨by rw [hc8]; rfl, fo, j1, fun z => absurd (hc8.symm.trans z) (by decide)⟩ (by omega) dL_at_15
    · refine q_catch (hh := [(0, 9, 12, 13), (0, 9, 16, 18), (0, 9, 20, 41), (0, 9, 24, 47), (0, 9, 28, 31)]) C [(0, 9, 12, 13)] [(0, 9, 20, 41), (0, 9, 24, 47), (0, 9, 28, 31)] (0, 9, 16, 18) rfl (by decide) (by decide) g238 (by decide) (fun z hz => by simp only [List.mem_cons, List.not_mem_nil, or_false] at hz; subst hz; exact ⟨by decide, "java/lang/IllegalArgumentException", by decide, by decide, g99⟩) hc1 hc2 hc3 ?_
      have j1 : JZ cy hX x y ou fo gr (n + 1) (S) ((xs_at (xF S) S W p0 p1).2.2) S W := by exact JZ.cls hz hQ hA hou hmk hEd hrn hdj hno hpo
      refine lv_astore (lv' := [(4, .ref q), (0, .ref x), (1, .int p0), (2, .int p1), (3, .ref ou)]) hx hb dL_at_16 hl (by decide) rfl (fun ls hl => ?_)
      refine lv_iconst (v := nI 2) hx hb dL_at_18 (by decide) ?_
      have hc8 : (xs_at (xF S) S W p0 p1).1 = 2 := hc9
      exact q_iret C hP hS ⟨by rw [hc8]; rfl, fo, j1, fun z => absurd (hc8.symm.trans z) (by decide)⟩ (by omega) dL_at_19
    · refine q_catch (hh := [(0, 9, 12, 13), (0, 9, 16, 18), (0, 9, 20, 41), (0, 9, 24, 47), (0, 9, 28, 31)]) C [(0, 9, 12, 13), (0, 9, 16, 18)] [(0, 9, 24, 47), (0, 9, 28, 31)] (0, 9, 20, 41) rfl (by decide) (by decide) g586 (by decide) (fun z hz => by simp only [List.mem_cons, List.not_mem_nil, or_false] at hz; rcases hz with rfl | rfl <;> first | exact ⟨by decide, "java/lang/IllegalArgumentException", by decide, by decide, g99⟩ | exact ⟨by decide, "java/lang/IllegalStateException", by decide, by decide, g238⟩) hc1 hc2 hc3 ?_
      have j1 : JZ cy hX x y ou fo gr (n + 1) (S) ((xs_at (xF S) S W p0 p1).2.2) S W := by exact JZ.cls hz hQ hA hou hmk hEd hrn hdj hno hpo
      refine lv_astore (lv' := [(4, .ref q), (0, .ref x), (1, .int p0), (2, .int p1), (3, .ref ou)]) hx hb dL_at_20 hl (by decide) rfl (fun ls hl => ?_)
      refine lv_iconst (v := nI 3) hx hb dL_at_22 (by decide) ?_
      have hc8 : (xs_at (xF S) S W p0 p1).1 = 3 := hc9
      exact q_iret C hP hS ⟨by rw [hc8]; rfl, fo, j1, fun z => absurd (hc8.symm.trans z) (by decide)⟩ (by omega) dL_at_23
    · refine q_catch (hh := [(0, 9, 12, 13), (0, 9, 16, 18), (0, 9, 20, 41), (0, 9, 24, 47), (0, 9, 28, 31)]) C [(0, 9, 12, 13), (0, 9, 16, 18), (0, 9, 20, 41)] [(0, 9, 28, 31)] (0, 9, 24, 47) rfl (by decide) (by decide) g624 (by decide) (fun z hz => by simp only [List.mem_cons, List.not_mem_nil, or_false] at hz; rcases hz with rfl | rfl | rfl <;> first | exact ⟨by decide, "java/lang/IllegalArgumentException", by decide, by decide, g99⟩ | exact ⟨by decide, "java/lang/IllegalStateException", by decide, by decide, g238⟩ | exact ⟨by decide, "java/util/NoSuchElementException", by decide, by decide, g586⟩) hc1 hc2 hc3 ?_
      have j1 : JZ cy hX x y ou fo gr (n + 1) (S) ((xs_at (xF S) S W p0 p1).2.2) S W := by exact JZ.cls hz hQ hA hou hmk hEd hrn hdj hno hpo
      refine lv_astore (lv' := [(4, .ref q), (0, .ref x), (1, .int p0), (2, .int p1), (3, .ref ou)]) hx hb dL_at_24 hl (by decide) rfl (fun ls hl => ?_)
      refine lv_iconst (v := nI 4) hx hb dL_at_26 (by decide) ?_
      have hc8 : (xs_at (xF S) S W p0 p1).1 = 4 := hc9
      exact q_iret C hP hS ⟨by rw [hc8]; rfl, fo, j1, fun z => absurd (hc8.symm.trans z) (by decide)⟩ (by omega) dL_at_27
    · refine q_catch (hh := [(0, 9, 12, 13), (0, 9, 16, 18), (0, 9, 20, 41), (0, 9, 24, 47), (0, 9, 28, 31)]) C [(0, 9, 12, 13), (0, 9, 16, 18), (0, 9, 20, 41), (0, 9, 24, 47)] [] (0, 9, 28, 31) rfl (by decide) (by decide) g280 (by decide) (fun z hz => by simp only [List.mem_cons, List.not_mem_nil, or_false] at hz; rcases hz with rfl | rfl | rfl | rfl <;> first | exact ⟨by decide, "java/lang/IllegalArgumentException", by decide, by decide, g99⟩ | exact ⟨by decide, "java/lang/IllegalStateException", by decide, by decide, g238⟩ | exact ⟨by decide, "java/util/NoSuchElementException", by decide, by decide, g586⟩ | exact ⟨by decide, "java/lang/ArithmeticException", by decide, by decide, g624⟩) hc1 hc2 hc3 ?_
      have j1 : JZ cy hX x y ou fo gr (n + 1) (S) ((xs_at (xF S) S W p0 p1).2.2) S W := by exact JZ.cls hz hQ hA hou hmk hEd hrn hdj hno hpo
      refine lv_astore (lv' := [(4, .ref q), (0, .ref x), (1, .int p0), (2, .int p1), (3, .ref ou)]) hx hb dL_at_28 hl (by decide) rfl (fun ls hl => ?_)
      refine lv_iconst (v := nI 5) hx hb dL_at_30 (by decide) ?_
      have hc8 : (xs_at (xF S) S W p0 p1).1 = 5 := hc9
      exact q_iret C hP hS ⟨by rw [hc8]; rfl, fo, j1, fun z => absurd (hc8.symm.trans z) (by decide)⟩ (by omega) dL_at_31
  · obtain ⟨hc0, rfl, hpo⟩ := hq
    have j1 : JZ cy hh1 x y ou fo gr (n + 1) (S) ((xs_at (xF S) S W p0 p1).2.2) S W := JZ.cls hz hQ hA hou hmk hEd hrn hdj hno hpo
    have hou1 := j1.ouf
    refine q_lastN C hP hS hou1 (by omega) (by omega) dL_at_8 (fun H locs hP hS => ?_)
    replace hou1 : (qs hh1 ou (.inl (cy 1, 1, .inr (.inl (vp_updL fo 0 ((xs_at (xF S) S W p0 p1).2.1)))))) ou = some (.inl (cy 1, 1, .inr (.inl (vp_updL fo 0 ((xs_at (xF S) S W p0 p1).2.1))))) := qs_self
    refine lv_goto (tgt := 32) hx hb dL_at_9 (by decide) ?_
    refine lv_iconst (v := nI 0) hx hb dL_at_32 (by decide) ?_
    have hc8 : (xs_at (xF S) S W p0 p1).1 = 0 := hc0
    obtain ⟨K9, dp9, hp9⟩ : PI gr (n + 1) (S) ((xs_at (xF S) S W p0 p1).2.2) := hp.at
    have j2 := j1.out (f' := vp_updL fo 0 ((xs_at (xF S) S W p0 p1).2.1)) hp9.hV
    exact q_iret C hP hS ⟨by rw [hc8]; rfl, vp_updL fo 0 ((xs_at (xF S) S W p0 p1).2.1), j2, fun _ => rfl⟩ (by omega) dL_at_33
theorem dL_drop_12 : decode cL_drop 12 = .ok (.i2l, 1) := by decide +kernel
theorem dL_drop_13 : decode cL_drop 13 = .ok (.lastore, 1) := by decide +kernel
theorem dL_drop_14 : decode cL_drop 14 = .ok (.goto 15, 3) := by decide +kernel
theorem dL_drop_25 : decode cL_drop 25 = .ok (.astore 6, 2) := by decide +kernel
theorem dL_drop_27 : decode cL_drop 27 = .ok (.iconst 3, 1) := by decide +kernel
theorem dL_drop_28 : decode cL_drop 28 = .ok (.ireturn, 1) := by decide +kernel
theorem dL_drop_29 : decode cL_drop 29 = .ok (.iconst 0, 1) := by decide +kernel
theorem dL_drop_30 : decode cL_drop 30 = .ok (.ireturn, 1) := by decide +kernel
set_option maxRecDepth 100000 in
set_option maxHeartbeats 4000000 in
theorem zl_drop (l : Launch) (D : va_G) (cy : Nat → ClassId) (N0 : Nat) (h : qH) (x y ou : Nat) (fo : Nat → Int64) (gr : Int32) (n : Nat) (S : Nat → qSlot) (W : qWo) (p0 : Int32) (p1 : Int32) (p2 : Int32) (p3 : Int32) (j : JZ cy h x y ou fo gr n S W S W) (hp : PI gr n S W) (hn : n < 64) : qCW l D cy N0 yL_drop cL_drop 7 (some .int) [(0, 14, 17, 13), (0, 14, 21, 18), (0, 14, 25, 41)] 1600 46000 (1200 + 212 * n + (W.2.1.1 - W.2.1.1)) (12200 + n * rMs n 7 + 10 * (W.2.1.1 - W.2.1.1)) [.ref x, .int p0, .int p1, .int p2, .int p3, .ref ou] h (fun v h' => v = some (.int (xs_drop S p0 p1 p2 p3).1) ∧ ∃ fo' : Nat → Int64, JZ cy h' x y ou fo' gr (n + 1) ((xs_drop S p0 p1 p2 p3).2.1) (W) S W ∧ ((xs_drop S p0 p1 p2 p3).1 = 0 → fo' 0 = ((xs_drop S p0 p1 p2 p3).2.2).toInt64)) := by
  refine q_ofWH (by decide) (by exact Nat.le_of_ble_eq_true rfl) ?_
  intro p e s m below meth c ls C hP hl
  have hx := C.1
  have hb := C.2.1
  have hS : va_S (qA N0) s.heap s.heap [] := va_S.rf
  have hl : lv_has ls 7 [(0, .ref x), (1, .int p0), (2, .int p1), (3, .int p2), (4, .int p3), (5, .ref ou)] := hl
  have j0 := j
  obtain ⟨mk, sl, bl, kr, vr, Ed, fs, bd, br, eb, Im, Xb, g, A, ra, rk, rv, pa, ad, hz, hQ, hA, hou, hmk, hEd, hrn, hdj, hno⟩ := j
  obtain ⟨K, dp, hpi⟩ := id hp
  refine lv_aload hx hb dL_drop_0 (lv_at hl 5 rfl) ?_
  refine lv_iconst (v := nI 0) hx hb dL_drop_2 (by decide) ?_
  refine lv_aload_n hx hb dL_drop_3 rfl (lv_at hl 0 rfl) ?_
  refine lv_iload_n hx hb dL_drop_4 rfl (lv_at hl 1 rfl) ?_
  refine lv_iload_n hx hb dL_drop_5 rfl (lv_at hl 2 rfl) ?_
  refine lv_iload_n hx hb dL_drop_6 rfl (lv_at hl 3 rfl) ?_
  refine lv_iload hx hb dL_drop_7 (lv_at hl 4 rfl) ?_
  refine q_callV (rest := [.int (nI 0), .ref ou]) C (z_drop l D cy N0 h x mk sl bl kr vr Ed fs bd br eb Im Xb g S W (n + 2) 1 (S 999).2.2.1 dp p0 p1 p2 p3 hz hpi.hI hpi.hLn hpi.hV) kX6_drop g720 g721 rfl g722 g1 hP hS hz.1.1 (by first | decide | omega) hl.1 rfl (by simp [q_catrf, q_cati, q_catl, q_cata, q_catn]) (by first | decide | omega) dL_drop_9 (fun q ce E hX H locs hE hP hS hc1 hc2 hc3 => ?_) (fun v hh1 H locs hq hP hS => ?_)
  · obtain ⟨hE0, hpo⟩ := hE
    simp only [zXc, List.mem_cons, Prod.mk.injEq, List.not_mem_nil, or_false] at hE0
    rcases hE0 with ⟨hc9, rfl⟩ | ⟨hc9, rfl⟩ | ⟨hc9, rfl⟩
    · refine q_catch (hh := [(0, 14, 17, 13), (0, 14, 21, 18), (0, 14, 25, 41)]) C [] [(0, 14, 21, 18), (0, 14, 25, 41)] (0, 14, 17, 13) rfl (by decide) (by decide) g99 (by decide) (fun z hz => by cases hz) hc1 hc2 hc3 ?_
      have eb := xb_drop (show (xs_drop S p0 p1 p2 p3).1 ≠ 0 by rw [hc9]; decide)
      have j1 : JZ cy hX x y ou fo gr (n + 1) ((xs_drop S p0 p1 p2 p3).2.1) (W) S W := by rw [eb]; exact JZ.cls hz hQ hA hou hmk hEd hrn hdj hno hpo
      refine lv_astore (lv' := [(6, .ref q), (0, .ref x), (1, .int p0), (2, .int p1), (3, .int p2), (4, .int p3), (5, .ref ou)]) hx hb dL_drop_17 hl (by decide) rfl (fun ls hl => ?_)
      refine lv_iconst (v := nI 1) hx hb dL_drop_19 (by decide) ?_
      have hc8 : (xs_drop S p0 p1 p2 p3).1 = 1 := hc9
      exact q_iret C hP hS ⟨by rw [hc8]; rfl, fo, j1, fun z => absurd (hc8.symm.trans z) (by decide)⟩ (by omega) dL_drop_20
    · refine q_catch (hh := [(0, 14, 17, 13), (0, 14, 21, 18), (0, 14, 25, 41)]) C [(0, 14, 17, 13)] [(0, 14, 25, 41)] (0, 14, 21, 18) rfl (by decide) (by decide) g238 (by decide) (fun z hz => by simp only [List.mem_cons, List.not_mem_nil, or_false] at hz; subst hz; exact ⟨by decide, "java/lang/IllegalArgumentException", by decide, by decide, g99⟩) hc1 hc2 hc3 ?_
      have eb := xb_drop (show (xs_drop S p0 p1 p2 p3).1 ≠ 0 by rw [hc9]; decide)
      have j1 : JZ cy hX x y ou fo gr (n + 1) ((xs_drop S p0 p1 p2 p3).2.1) (W) S W := by rw [eb]; exact JZ.cls hz hQ hA hou hmk hEd hrn hdj hno hpo
      refine lv_astore (lv' := [(6, .ref q), (0, .ref x), (1, .int p0), (2, .int p1), (3, .int p2), (4, .int p3), (5, .ref ou)]) hx hb dL_drop_21 hl (by decide) rfl (fun ls hl => ?_)
      refine lv_iconst (v := nI 2) hx hb dL_drop_23 (by decide) ?_
      have hc8 : (xs_drop S p0 p1 p2 p3).1 = 2 := hc9
      exact q_iret C hP hS ⟨by rw [hc8]; rfl, fo, j1, fun z => absurd (hc8.symm.trans z) (by decide)⟩ (by omega) dL_drop_24
    · refine q_catch (hh := [(0, 14, 17, 13), (0, 14, 21, 18), (0, 14, 25, 41)]) C [(0, 14, 17, 13), (0, 14, 21, 18)] [] (0, 14, 25, 41) rfl (by decide) (by decide) g586 (by decide) (fun z hz => by simp only [List.mem_cons, List.not_mem_nil, or_false] at hz; rcases hz with rfl | rfl <;> first | exact ⟨by decide, "java/lang/IllegalArgumentException", by decide, by decide, g99⟩ | exact ⟨by decide, "java/lang/IllegalStateException", by decide, by decide, g238⟩) hc1 hc2 hc3 ?_
      have eb := xb_drop (show (xs_drop S p0 p1 p2 p3).1 ≠ 0 by rw [hc9]; decide)
      have j1 : JZ cy hX x y ou fo gr (n + 1) ((xs_drop S p0 p1 p2 p3).2.1) (W) S W := by rw [eb]; exact JZ.cls hz hQ hA hou hmk hEd hrn hdj hno hpo
      refine lv_astore (lv' := [(6, .ref q), (0, .ref x), (1, .int p0), (2, .int p1), (3, .int p2), (4, .int p3), (5, .ref ou)]) hx hb dL_drop_25 hl (by decide) rfl (fun ls hl => ?_)
      refine lv_iconst (v := nI 3) hx hb dL_drop_27 (by decide) ?_
      have hc8 : (xs_drop S p0 p1 p2 p3).1 = 3 := hc9
      exact q_iret C hP hS ⟨by rw [hc8]; rfl, fo, j1, fun z => absurd (hc8.symm.trans z) (by decide)⟩ (by omega) dL_drop_28
  · obtain ⟨hc0, rfl, hpo⟩ := hq
    have j1 : JZ cy hh1 x y ou fo gr (n + 1) ((xs_drop S p0 p1 p2 p3).2.1) (W) S W := JZ.cls hz hQ hA hou hmk hEd hrn hdj hno hpo
    have hou1 := j1.ouf
    refine lv_i2l hx hb dL_drop_12 rfl ?_
    refine q_lastN C hP hS hou1 (by omega) (by omega) dL_drop_13 (fun H locs hP hS => ?_)
    replace hou1 : (qs hh1 ou (.inl (cy 1, 1, .inr (.inl (vp_updL fo 0 ((((xs_drop S p0 p1 p2 p3).2.2)).toInt64)))))) ou = some (.inl (cy 1, 1, .inr (.inl (vp_updL fo 0 ((((xs_drop S p0 p1 p2 p3).2.2)).toInt64))))) := qs_self
    refine lv_goto (tgt := 29) hx hb dL_drop_14 (by decide) ?_
    refine lv_iconst (v := nI 0) hx hb dL_drop_29 (by decide) ?_
    have hc8 : (xs_drop S p0 p1 p2 p3).1 = 0 := hc0
    obtain ⟨K9, dp9, hp9⟩ : PI gr (n + 1) ((xs_drop S p0 p1 p2 p3).2.1) (W) := hp.drop
    have j2 := j1.out (f' := vp_updL fo 0 (((xs_drop S p0 p1 p2 p3).2.2).toInt64)) hp9.hV
    exact q_iret C hP hS ⟨by rw [hc8]; rfl, vp_updL fo 0 (((xs_drop S p0 p1 p2 p3).2.2).toInt64), j2, fun _ => rfl⟩ (by omega) dL_drop_30
theorem dL_pop_8 : decode cL_pop 8 = .ok (.lastore, 1) := by decide +kernel
theorem dL_pop_9 : decode cL_pop 9 = .ok (.goto 23, 3) := by decide +kernel
theorem dL_pop_20 : decode cL_pop 20 = .ok (.astore 4, 2) := by decide +kernel
theorem dL_pop_22 : decode cL_pop 22 = .ok (.iconst 3, 1) := by decide +kernel
theorem dL_pop_23 : decode cL_pop 23 = .ok (.ireturn, 1) := by decide +kernel
theorem dL_pop_24 : decode cL_pop 24 = .ok (.astore 4, 2) := by decide +kernel
theorem dL_pop_26 : decode cL_pop 26 = .ok (.iconst 4, 1) := by decide +kernel
theorem dL_pop_27 : decode cL_pop 27 = .ok (.ireturn, 1) := by decide +kernel
theorem dL_pop_28 : decode cL_pop 28 = .ok (.astore 4, 2) := by decide +kernel
theorem dL_pop_30 : decode cL_pop 30 = .ok (.iconst 5, 1) := by decide +kernel
theorem dL_pop_31 : decode cL_pop 31 = .ok (.ireturn, 1) := by decide +kernel
theorem dL_pop_32 : decode cL_pop 32 = .ok (.iconst 0, 1) := by decide +kernel
theorem dL_pop_33 : decode cL_pop 33 = .ok (.ireturn, 1) := by decide +kernel
set_option maxRecDepth 100000 in
set_option maxHeartbeats 4000000 in
theorem zl_pop (l : Launch) (D : va_G) (cy : Nat → ClassId) (N0 : Nat) (h : qH) (x y ou : Nat) (fo : Nat → Int64) (gr : Int32) (n : Nat) (S : Nat → qSlot) (W : qWo) (p0 : Int32) (p1 : Int32) (j : JZ cy h x y ou fo gr n S W S W) (hp : PI gr n S W) (hn : n < 64) : qCW l D cy N0 yL_pop cL_pop 5 (some .int) [(0, 9, 12, 13), (0, 9, 16, 18), (0, 9, 20, 41), (0, 9, 24, 47), (0, 9, 28, 31)] 1600 46000 (1200 + 212 * n + ((xs_pop (xF S) S W p0 p1).2.2.2.2.1.1 - W.2.1.1)) (12200 + n * rMs n 7 + 10 * ((xs_pop (xF S) S W p0 p1).2.2.2.2.1.1 - W.2.1.1)) [.ref x, .int p0, .int p1, .ref ou] h (fun v h' => v = some (.int (xs_pop (xF S) S W p0 p1).1) ∧ ∃ fo' : Nat → Int64, JZ cy h' x y ou fo' gr (n + 1) ((xs_pop (xF S) S W p0 p1).2.2.1) ((xs_pop (xF S) S W p0 p1).2.2.2) S W ∧ ((xs_pop (xF S) S W p0 p1).1 = 0 → fo' 0 = (xs_pop (xF S) S W p0 p1).2.1)) := by
  refine q_ofWH (by decide) (by exact Nat.le_of_ble_eq_true rfl) ?_
  intro p e s m below meth c ls C hP hl
  have hx := C.1
  have hb := C.2.1
  have hS : va_S (qA N0) s.heap s.heap [] := va_S.rf
  have hl : lv_has ls 5 [(0, .ref x), (1, .int p0), (2, .int p1), (3, .ref ou)] := hl
  have j0 := j
  obtain ⟨mk, sl, bl, kr, vr, Ed, fs, bd, br, eb, Im, Xb, g, A, ra, rk, rv, pa, ad, hz, hQ, hA, hou, hmk, hEd, hrn, hdj, hno⟩ := j
  obtain ⟨K, dp, hpi⟩ := id hp
  refine lv_aload_n hx hb dL_pop_0 rfl (lv_at hl 3 rfl) ?_
  refine lv_iconst (v := nI 0) hx hb dL_pop_1 (by decide) ?_
  refine lv_aload_n hx hb dL_pop_2 rfl (lv_at hl 0 rfl) ?_
  refine lv_iload_n hx hb dL_pop_3 rfl (lv_at hl 1 rfl) ?_
  refine lv_iload_n hx hb dL_pop_4 rfl (lv_at hl 2 rfl) ?_
  refine q_callV (rest := [.int (nI 0), .ref ou]) C (z_pop l D cy N0 h x mk sl bl kr vr Ed fs bd br eb Im Xb g S W (n + 2) 0 (S 999).2.2.1 dp 100 101 (xF S) p0 p1 hz hpi.hI hpi.hLn hpi.hV hpi.hSt (z_restAll l D cy N0 x mk sl bl kr vr (nI Ed) (n + 2) (S 999).2.2.1 (xRs S) hpi.2.2.2.2.1 101) hpi.G (by decide)) kX6_pop g735 g736 rfl g737 g1 hP hS hz.1.1 (by first | decide | omega) hl.1 rfl (by simp [q_catrf, q_cati, q_catl, q_cata, q_catn]) (by first | decide | omega) dL_pop_5 (fun q ce E hX H locs hE hP hS hc1 hc2 hc3 => ?_) (fun v hh1 H locs hq hP hS => ?_)
  · obtain ⟨hE0, hpo⟩ := hE
    simp only [zXc, List.mem_cons, Prod.mk.injEq, List.not_mem_nil, or_false] at hE0
    rcases hE0 with ⟨hc9, rfl⟩ | ⟨hc9, rfl⟩ | ⟨hc9, rfl⟩ | ⟨hc9, rfl⟩ | ⟨hc9, rfl⟩
    · refine q_catch (hh := [(0, 9, 12, 13), (0, 9, 16, 18), (0, 9, 20, 41), (0, 9, 24, 47), (0, 9, 28, 31)]) C [] [(0, 9, 16, 18), (0, 9, 20, 41), (0, 9, 24, 47), (0, 9, 28, 31)] (0, 9, 12, 13) rfl (by decide) (by decide) g99 (by decide) (fun z hz => by cases hz) hc1 hc2 hc3 ?_
      have eb := xb_pop (show (xs_pop (xF S) S W p0 p1).1 ≠ 0 by rw [hc9]; decide)
      have j1 : JZ cy hX x y ou fo gr (n + 1) ((xs_pop (xF S) S W p0 p1).2.2.1) ((xs_pop (xF S) S W p0 p1).2.2.2) S W := by rw [eb]; exact JZ.cls hz hQ hA hou hmk hEd hrn hdj hno hpo
      refine lv_astore (lv' := [(4, .ref q), (0, .ref x), (1, .int p0), (2, .int p1), (3, .ref ou)]) hx hb dL_pop_12 hl (by decide) rfl (fun ls hl => ?_)
      refine lv_iconst (v := nI 1) hx hb dL_pop_14 (by decide) ?_
      have hc8 : (xs_pop (xF S) S W p0 p1).1 = 1 := hc9
      exact q_iret C hP hS ⟨by rw [hc8]; rfl, fo, j1, fun z => absurd (hc8.symm.trans z) (by decide)⟩ (by omega) dL_pop_15
    · refine q_catch (hh := [(0, 9, 12, 13), (0, 9, 16, 18), (0, 9, 20, 41), (0, 9, 24, 47), (0, 9, 28, 31)]) C [(0, 9, 12, 13)] [(0, 9, 20, 41), (0, 9, 24, 47), (0, 9, 28, 31)] (0, 9, 16, 18) rfl (by decide) (by decide) g238 (by decide) (fun z hz => by simp only [List.mem_cons, List.not_mem_nil, or_false] at hz; subst hz; exact ⟨by decide, "java/lang/IllegalArgumentException", by decide, by decide, g99⟩) hc1 hc2 hc3 ?_
      have eb := xb_pop (show (xs_pop (xF S) S W p0 p1).1 ≠ 0 by rw [hc9]; decide)
      have j1 : JZ cy hX x y ou fo gr (n + 1) ((xs_pop (xF S) S W p0 p1).2.2.1) ((xs_pop (xF S) S W p0 p1).2.2.2) S W := by rw [eb]; exact JZ.cls hz hQ hA hou hmk hEd hrn hdj hno hpo
      refine lv_astore (lv' := [(4, .ref q), (0, .ref x), (1, .int p0), (2, .int p1), (3, .ref ou)]) hx hb dL_pop_16 hl (by decide) rfl (fun ls hl => ?_)
      refine lv_iconst (v := nI 2) hx hb dL_pop_18 (by decide) ?_
      have hc8 : (xs_pop (xF S) S W p0 p1).1 = 2 := hc9
      exact q_iret C hP hS ⟨by rw [hc8]; rfl, fo, j1, fun z => absurd (hc8.symm.trans z) (by decide)⟩ (by omega) dL_pop_19
    · refine q_catch (hh := [(0, 9, 12, 13), (0, 9, 16, 18), (0, 9, 20, 41), (0, 9, 24, 47), (0, 9, 28, 31)]) C [(0, 9, 12, 13), (0, 9, 16, 18)] [(0, 9, 24, 47), (0, 9, 28, 31)] (0, 9, 20, 41) rfl (by decide) (by decide) g586 (by decide) (fun z hz => by simp only [List.mem_cons, List.not_mem_nil, or_false] at hz; rcases hz with rfl | rfl <;> first | exact ⟨by decide, "java/lang/IllegalArgumentException", by decide, by decide, g99⟩ | exact ⟨by decide, "java/lang/IllegalStateException", by decide, by decide, g238⟩) hc1 hc2 hc3 ?_
      have eb := xb_pop (show (xs_pop (xF S) S W p0 p1).1 ≠ 0 by rw [hc9]; decide)
      have j1 : JZ cy hX x y ou fo gr (n + 1) ((xs_pop (xF S) S W p0 p1).2.2.1) ((xs_pop (xF S) S W p0 p1).2.2.2) S W := by rw [eb]; exact JZ.cls hz hQ hA hou hmk hEd hrn hdj hno hpo
      refine lv_astore (lv' := [(4, .ref q), (0, .ref x), (1, .int p0), (2, .int p1), (3, .ref ou)]) hx hb dL_pop_20 hl (by decide) rfl (fun ls hl => ?_)
      refine lv_iconst (v := nI 3) hx hb dL_pop_22 (by decide) ?_
      have hc8 : (xs_pop (xF S) S W p0 p1).1 = 3 := hc9
      exact q_iret C hP hS ⟨by rw [hc8]; rfl, fo, j1, fun z => absurd (hc8.symm.trans z) (by decide)⟩ (by omega) dL_pop_23
    · refine q_catch (hh := [(0, 9, 12, 13), (0, 9, 16, 18), (0, 9, 20, 41), (0, 9, 24, 47), (0, 9, 28, 31)]) C [(0, 9, 12, 13), (0, 9, 16, 18), (0, 9, 20, 41)] [(0, 9, 28, 31)] (0, 9, 24, 47) rfl (by decide) (by decide) g624 (by decide) (fun z hz => by simp only [List.mem_cons, List.not_mem_nil, or_false] at hz; rcases hz with rfl | rfl | rfl <;> first | exact ⟨by decide, "java/lang/IllegalArgumentException", by decide, by decide, g99⟩ | exact ⟨by decide, "java/lang/IllegalStateException", by decide, by decide, g238⟩ | exact ⟨by decide, "java/util/NoSuchElementException", by decide, by decide, g586⟩) hc1 hc2 hc3 ?_
      have eb := xb_pop (show (xs_pop (xF S) S W p0 p1).1 ≠ 0 by rw [hc9]; decide)
      have j1 : JZ cy hX x y ou fo gr (n + 1) ((xs_pop (xF S) S W p0 p1).2.2.1) ((xs_pop (xF S) S W p0 p1).2.2.2) S W := by rw [eb]; exact JZ.cls hz hQ hA hou hmk hEd hrn hdj hno hpo
      refine lv_astore (lv' := [(4, .ref q), (0, .ref x), (1, .int p0), (2, .int p1), (3, .ref ou)]) hx hb dL_pop_24 hl (by decide) rfl (fun ls hl => ?_)
      refine lv_iconst (v := nI 4) hx hb dL_pop_26 (by decide) ?_
      have hc8 : (xs_pop (xF S) S W p0 p1).1 = 4 := hc9
      exact q_iret C hP hS ⟨by rw [hc8]; rfl, fo, j1, fun z => absurd (hc8.symm.trans z) (by decide)⟩ (by omega) dL_pop_27
    · refine q_catch (hh := [(0, 9, 12, 13), (0, 9, 16, 18), (0, 9, 20, 41), (0, 9, 24, 47), (0, 9, 28, 31)]) C [(0, 9, 12, 13), (0, 9, 16, 18), (0, 9, 20, 41), (0, 9, 24, 47)] [] (0, 9, 28, 31) rfl (by decide) (by decide) g280 (by decide) (fun z hz => by simp only [List.mem_cons, List.not_mem_nil, or_false] at hz; rcases hz with rfl | rfl | rfl | rfl <;> first | exact ⟨by decide, "java/lang/IllegalArgumentException", by decide, by decide, g99⟩ | exact ⟨by decide, "java/lang/IllegalStateException", by decide, by decide, g238⟩ | exact ⟨by decide, "java/util/NoSuchElementException", by decide, by decide, g586⟩ | exact ⟨by decide, "java/lang/ArithmeticException", by decide, by decide, g624⟩) hc1 hc2 hc3 ?_
      have eb := xb_pop (show (xs_pop (xF S) S W p0 p1).1 ≠ 0 by rw [hc9]; decide)
      have j1 : JZ cy hX x y ou fo gr (n + 1) ((xs_pop (xF S) S W p0 p1).2.2.1) ((xs_pop (xF S) S W p0 p1).2.2.2) S W := by rw [eb]; exact JZ.cls hz hQ hA hou hmk hEd hrn hdj hno hpo
      refine lv_astore (lv' := [(4, .ref q), (0, .ref x), (1, .int p0), (2, .int p1), (3, .ref ou)]) hx hb dL_pop_28 hl (by decide) rfl (fun ls hl => ?_)
      refine lv_iconst (v := nI 5) hx hb dL_pop_30 (by decide) ?_
      have hc8 : (xs_pop (xF S) S W p0 p1).1 = 5 := hc9
      exact q_iret C hP hS ⟨by rw [hc8]; rfl, fo, j1, fun z => absurd (hc8.symm.trans z) (by decide)⟩ (by omega) dL_pop_31
  · obtain ⟨hc0, rfl, hpo⟩ := hq
    have j1 : JZ cy hh1 x y ou fo gr (n + 1) ((xs_pop (xF S) S W p0 p1).2.2.1) ((xs_pop (xF S) S W p0 p1).2.2.2) S W := JZ.cls hz hQ hA hou hmk hEd hrn hdj hno hpo
    have hou1 := j1.ouf
    refine q_lastN C hP hS hou1 (by omega) (by omega) dL_pop_8 (fun H locs hP hS => ?_)
    replace hou1 : (qs hh1 ou (.inl (cy 1, 1, .inr (.inl (vp_updL fo 0 ((xs_pop (xF S) S W p0 p1).2.1)))))) ou = some (.inl (cy 1, 1, .inr (.inl (vp_updL fo 0 ((xs_pop (xF S) S W p0 p1).2.1))))) := qs_self
    refine lv_goto (tgt := 32) hx hb dL_pop_9 (by decide) ?_
    refine lv_iconst (v := nI 0) hx hb dL_pop_32 (by decide) ?_
    have hc8 : (xs_pop (xF S) S W p0 p1).1 = 0 := hc0
    obtain ⟨K9, dp9, hp9⟩ : PI gr (n + 1) ((xs_pop (xF S) S W p0 p1).2.2.1) ((xs_pop (xF S) S W p0 p1).2.2.2) := hp.pop
    have j2 := j1.out (f' := vp_updL fo 0 ((xs_pop (xF S) S W p0 p1).2.1)) hp9.hV
    exact q_iret C hP hS ⟨by rw [hc8]; rfl, vp_updL fo 0 ((xs_pop (xF S) S W p0 p1).2.1), j2, fun _ => rfl⟩ (by omega) dL_pop_33
theorem dL_front_7 : decode cL_front 7 = .ok (.lastore, 1) := by decide +kernel
theorem dL_front_8 : decode cL_front 8 = .ok (.goto 12, 3) := by decide +kernel
theorem dL_front_17 : decode cL_front 17 = .ok (.astore_n 3, 1) := by decide +kernel
theorem dL_front_18 : decode cL_front 18 = .ok (.iconst 3, 1) := by decide +kernel
theorem dL_front_19 : decode cL_front 19 = .ok (.ireturn, 1) := by decide +kernel
theorem dL_front_20 : decode cL_front 20 = .ok (.iconst 0, 1) := by decide +kernel
theorem dL_front_21 : decode cL_front 21 = .ok (.ireturn, 1) := by decide +kernel
set_option maxRecDepth 100000 in
set_option maxHeartbeats 4000000 in
theorem zl_front (l : Launch) (D : va_G) (cy : Nat → ClassId) (N0 : Nat) (h : qH) (x y ou : Nat) (fo : Nat → Int64) (gr : Int32) (n : Nat) (S : Nat → qSlot) (W : qWo) (p0 : Int32) (j : JZ cy h x y ou fo gr n S W S W) (hp : PI gr n S W) (hn : n < 64) : qCW l D cy N0 yL_front cL_front 4 (some .int) [(0, 8, 11, 13), (0, 8, 14, 18), (0, 8, 17, 41)] 1600 46000 (1200 + 212 * n + (W.2.1.1 - W.2.1.1)) (12200 + n * rMs n 7 + 10 * (W.2.1.1 - W.2.1.1)) [.ref x, .int p0, .ref ou] h (fun v h' => v = some (.int (xs_front S W.2.1 p0).1) ∧ ∃ fo' : Nat → Int64, JZ cy h' x y ou fo' gr (n + 1) (S) (W) S W ∧ ((xs_front S W.2.1 p0).1 = 0 → fo' 0 = (xs_front S W.2.1 p0).2)) := by
  refine q_ofWH (by decide) (by exact Nat.le_of_ble_eq_true rfl) ?_
  intro p e s m below meth c ls C hP hl
  have hx := C.1
  have hb := C.2.1
  have hS : va_S (qA N0) s.heap s.heap [] := va_S.rf
  have hl : lv_has ls 4 [(0, .ref x), (1, .int p0), (2, .ref ou)] := hl
  have j0 := j
  obtain ⟨mk, sl, bl, kr, vr, Ed, fs, bd, br, eb, Im, Xb, g, A, ra, rk, rv, pa, ad, hz, hQ, hA, hou, hmk, hEd, hrn, hdj, hno⟩ := j
  obtain ⟨K, dp, hpi⟩ := id hp
  refine lv_aload_n hx hb dL_front_0 rfl (lv_at hl 2 rfl) ?_
  refine lv_iconst (v := nI 0) hx hb dL_front_1 (by decide) ?_
  refine lv_aload_n hx hb dL_front_2 rfl (lv_at hl 0 rfl) ?_
  refine lv_iload_n hx hb dL_front_3 rfl (lv_at hl 1 rfl) ?_
  refine q_callV (rest := [.int (nI 0), .ref ou]) C (z_front l D cy N0 h x mk sl bl kr vr Ed fs bd br eb Im Xb g S W (n + 2) 0 (S 999).2.2.1 dp 100 p0 hz hpi.hI hpi.hLn hpi.hV hpi.hSt) kX6_front g745 g746 rfl g747 g1 hP hS hz.1.1 (by first | decide | omega) hl.1 rfl (by simp [q_catrf, q_cati, q_catl, q_cata, q_catn]) (by first | decide | omega) dL_front_4 (fun q ce E hX H locs hE hP hS hc1 hc2 hc3 => ?_) (fun v hh1 H locs hq hP hS => ?_)
  · obtain ⟨hE0, hpo⟩ := hE
    simp only [zXc, List.mem_cons, Prod.mk.injEq, List.not_mem_nil, or_false] at hE0
    rcases hE0 with ⟨hc9, rfl⟩ | ⟨hc9, rfl⟩ | ⟨hc9, rfl⟩
    · refine q_catch (hh := [(0, 8, 11, 13), (0, 8, 14, 18), (0, 8, 17, 41)]) C [] [(0, 8, 14, 18), (0, 8, 17, 41)] (0, 8, 11, 13) rfl (by decide) (by decide) g99 (by decide) (fun z hz => by cases hz) hc1 hc2 hc3 ?_
      have j1 : JZ cy hX x y ou fo gr (n + 1) (S) (W) S W := by exact JZ.cls hz hQ hA hou hmk hEd hrn hdj hno hpo
      refine lv_astore_n (lv' := [(3, .ref q), (0, .ref x), (1, .int p0), (2, .ref ou)]) hx hb dL_front_11 rfl hl (by decide) rfl (fun ls hl => ?_)
      refine lv_iconst (v := nI 1) hx hb dL_front_12 (by decide) ?_
      have hc8 : (xs_front S W.2.1 p0).1 = 1 := hc9
      exact q_iret C hP hS ⟨by rw [hc8]; rfl, fo, j1, fun z => absurd (hc8.symm.trans z) (by decide)⟩ (by omega) dL_front_13
    · refine q_catch (hh := [(0, 8, 11, 13), (0, 8, 14, 18), (0, 8, 17, 41)]) C [(0, 8, 11, 13)] [(0, 8, 17, 41)] (0, 8, 14, 18) rfl (by decide) (by decide) g238 (by decide) (fun z hz => by simp only [List.mem_cons, List.not_mem_nil, or_false] at hz; subst hz; exact ⟨by decide, "java/lang/IllegalArgumentException", by decide, by decide, g99⟩) hc1 hc2 hc3 ?_
      have j1 : JZ cy hX x y ou fo gr (n + 1) (S) (W) S W := by exact JZ.cls hz hQ hA hou hmk hEd hrn hdj hno hpo
      refine lv_astore_n (lv' := [(3, .ref q), (0, .ref x), (1, .int p0), (2, .ref ou)]) hx hb dL_front_14 rfl hl (by decide) rfl (fun ls hl => ?_)
      refine lv_iconst (v := nI 2) hx hb dL_front_15 (by decide) ?_
      have hc8 : (xs_front S W.2.1 p0).1 = 2 := hc9
      exact q_iret C hP hS ⟨by rw [hc8]; rfl, fo, j1, fun z => absurd (hc8.symm.trans z) (by decide)⟩ (by omega) dL_front_16
    · refine q_catch (hh := [(0, 8, 11, 13), (0, 8, 14, 18), (0, 8, 17, 41)]) C [(0, 8, 11, 13), (0, 8, 14, 18)] [] (0, 8, 17, 41) rfl (by decide) (by decide) g586 (by decide) (fun z hz => by simp only [List.mem_cons, List.not_mem_nil, or_false] at hz; rcases hz with rfl | rfl <;> first | exact ⟨by decide, "java/lang/IllegalArgumentException", by decide, by decide, g99⟩ | exact ⟨by decide, "java/lang/IllegalStateException", by decide, by decide, g238⟩) hc1 hc2 hc3 ?_
      have j1 : JZ cy hX x y ou fo gr (n + 1) (S) (W) S W := by exact JZ.cls hz hQ hA hou hmk hEd hrn hdj hno hpo
      refine lv_astore_n (lv' := [(3, .ref q), (0, .ref x), (1, .int p0), (2, .ref ou)]) hx hb dL_front_17 rfl hl (by decide) rfl (fun ls hl => ?_)
      refine lv_iconst (v := nI 3) hx hb dL_front_18 (by decide) ?_
      have hc8 : (xs_front S W.2.1 p0).1 = 3 := hc9
      exact q_iret C hP hS ⟨by rw [hc8]; rfl, fo, j1, fun z => absurd (hc8.symm.trans z) (by decide)⟩ (by omega) dL_front_19
  · obtain ⟨hc0, rfl, hpo⟩ := hq
    have j1 : JZ cy hh1 x y ou fo gr (n + 1) (S) (W) S W := JZ.cls hz hQ hA hou hmk hEd hrn hdj hno hpo
    have hou1 := j1.ouf
    refine q_lastN C hP hS hou1 (by omega) (by omega) dL_front_7 (fun H locs hP hS => ?_)
    replace hou1 : (qs hh1 ou (.inl (cy 1, 1, .inr (.inl (vp_updL fo 0 ((xs_front S W.2.1 p0).2)))))) ou = some (.inl (cy 1, 1, .inr (.inl (vp_updL fo 0 ((xs_front S W.2.1 p0).2))))) := qs_self
    refine lv_goto (tgt := 20) hx hb dL_front_8 (by decide) ?_
    refine lv_iconst (v := nI 0) hx hb dL_front_20 (by decide) ?_
    have hc8 : (xs_front S W.2.1 p0).1 = 0 := hc0
    obtain ⟨K9, dp9, hp9⟩ : PI gr (n + 1) (S) (W) := hp.up
    have j2 := j1.out (f' := vp_updL fo 0 ((xs_front S W.2.1 p0).2)) hp9.hV
    exact q_iret C hP hS ⟨by rw [hc8]; rfl, vp_updL fo 0 ((xs_front S W.2.1 p0).2), j2, fun _ => rfl⟩ (by omega) dL_front_21
theorem dL_put_12 : decode cL_put 12 = .ok (.i2l, 1) := by decide +kernel
theorem dL_put_13 : decode cL_put 13 = .ok (.lastore, 1) := by decide +kernel
theorem dL_put_14 : decode cL_put 14 = .ok (.goto 15, 3) := by decide +kernel
theorem dL_put_25 : decode cL_put 25 = .ok (.astore 8, 2) := by decide +kernel
theorem dL_put_27 : decode cL_put 27 = .ok (.iconst 3, 1) := by decide +kernel
theorem dL_put_28 : decode cL_put 28 = .ok (.ireturn, 1) := by decide +kernel
theorem dL_put_29 : decode cL_put 29 = .ok (.iconst 0, 1) := by decide +kernel
theorem dL_put_30 : decode cL_put 30 = .ok (.ireturn, 1) := by decide +kernel
set_option maxRecDepth 100000 in
set_option maxHeartbeats 4000000 in
theorem zl_put (l : Launch) (D : va_G) (cy : Nat → ClassId) (N0 : Nat) (h : qH) (x y ou : Nat) (fo : Nat → Int64) (gr : Int32) (n : Nat) (S : Nat → qSlot) (W : qWo) (p0 : Int32) (p1 : Int32) (p2 : Int64) (p3 : Int64) (j : JZ cy h x y ou fo gr n S W S W) (hp : PI gr n S W) (hn : n < 64) : qCW l D cy N0 yL_put cL_put 9 (some .int) [(0, 14, 17, 13), (0, 14, 21, 18), (0, 14, 25, 31)] 1600 46000 (1200 + 212 * n + (W.2.1.1 - W.2.1.1)) (12200 + n * rMs n 7 + 10 * (W.2.1.1 - W.2.1.1)) [.ref x, .int p0, .int p1, .long p2, .long p3, .ref ou] h (fun v h' => v = some (.int (xs_put gr S p0 p1 p2 p3).1) ∧ ∃ fo' : Nat → Int64, JZ cy h' x y ou fo' gr (n + 1) ((xs_put gr S p0 p1 p2 p3).2.1) (W) S W ∧ ((xs_put gr S p0 p1 p2 p3).1 = 0 → fo' 0 = ((xs_put gr S p0 p1 p2 p3).2.2).toInt64)) := by
  refine q_ofWH (by decide) (by exact Nat.le_of_ble_eq_true rfl) ?_
  intro p e s m below meth c ls C hP hl
  have hx := C.1
  have hb := C.2.1
  have hS : va_S (qA N0) s.heap s.heap [] := va_S.rf
  have hl : lv_has ls 9 [(0, .ref x), (1, .int p0), (2, .int p1), (3, .long p2), (5, .long p3), (7, .ref ou)] := hl
  have j0 := j
  obtain ⟨mk, sl, bl, kr, vr, Ed, fs, bd, br, eb, Im, Xb, g, A, ra, rk, rv, pa, ad, hz, hQ, hA, hou, hmk, hEd, hrn, hdj, hno⟩ := j
  obtain ⟨K, dp, hpi⟩ := id hp
  refine lv_aload hx hb dL_put_0 (lv_at hl 5 rfl) ?_
  refine lv_iconst (v := nI 0) hx hb dL_put_2 (by decide) ?_
  refine lv_aload_n hx hb dL_put_3 rfl (lv_at hl 0 rfl) ?_
  refine lv_iload_n hx hb dL_put_4 rfl (lv_at hl 1 rfl) ?_
  refine lv_iload_n hx hb dL_put_5 rfl (lv_at hl 2 rfl) ?_
  refine lv_lload_n hx hb dL_put_6 rfl (lv_at hl 3 rfl) ?_
  refine lv_lload hx hb dL_put_7 (lv_at hl 4 rfl) ?_
  refine q_callV (rest := [.int (nI 0), .ref ou]) C (z_put l D cy N0 h x mk sl bl kr vr Ed fs bd br eb Im Xb g S W (n + 2) 1 (S 999).2.2.1 dp gr p0 p1 p2 p3 hz hpi.hI hpi.hLn hpi.hV hmk hpi.hAl (fun i9 hi9 z9 => Nat.le_trans (hpi.h64 i9 hi9 z9) (by omega)) (by omega)) kX6_put g752 g753 rfl g754 g1 hP hS hz.1.1 (by first | decide | omega) hl.1 rfl (by simp [q_catrf, q_cati, q_catl, q_cata, q_catn]) (by first | decide | omega) dL_put_9 (fun q ce E hX H locs hE hP hS hc1 hc2 hc3 => ?_) (fun v hh1 H locs hq hP hS => ?_)
  · obtain ⟨hE0, hpo⟩ := hE
    simp only [zXc, List.mem_cons, Prod.mk.injEq, List.not_mem_nil, or_false] at hE0
    rcases hE0 with ⟨hc9, rfl⟩ | ⟨hc9, rfl⟩ | ⟨hc9, rfl⟩
    · refine q_catch (hh := [(0, 14, 17, 13), (0, 14, 21, 18), (0, 14, 25, 31)]) C [] [(0, 14, 21, 18), (0, 14, 25, 31)] (0, 14, 17, 13) rfl (by decide) (by decide) g99 (by decide) (fun z hz => by cases hz) hc1 hc2 hc3 ?_
      have eb := xb_put (show (xs_put gr S p0 p1 p2 p3).1 ≠ 0 by rw [hc9]; decide)
      have j1 : JZ cy hX x y ou fo gr (n + 1) ((xs_put gr S p0 p1 p2 p3).2.1) (W) S W := by rw [eb]; exact JZ.cls hz hQ hA hou hmk hEd hrn hdj hno hpo
      refine lv_astore (lv' := [(8, .ref q), (0, .ref x), (1, .int p0), (2, .int p1), (3, .long p2), (5, .long p3), (7, .ref ou)]) hx hb dL_put_17 hl (by decide) rfl (fun ls hl => ?_)
      refine lv_iconst (v := nI 1) hx hb dL_put_19 (by decide) ?_
      have hc8 : (xs_put gr S p0 p1 p2 p3).1 = 1 := hc9
      exact q_iret C hP hS ⟨by rw [hc8]; rfl, fo, j1, fun z => absurd (hc8.symm.trans z) (by decide)⟩ (by omega) dL_put_20
    · refine q_catch (hh := [(0, 14, 17, 13), (0, 14, 21, 18), (0, 14, 25, 31)]) C [(0, 14, 17, 13)] [(0, 14, 25, 31)] (0, 14, 21, 18) rfl (by decide) (by decide) g238 (by decide) (fun z hz => by simp only [List.mem_cons, List.not_mem_nil, or_false] at hz; subst hz; exact ⟨by decide, "java/lang/IllegalArgumentException", by decide, by decide, g99⟩) hc1 hc2 hc3 ?_
      have eb := xb_put (show (xs_put gr S p0 p1 p2 p3).1 ≠ 0 by rw [hc9]; decide)
      have j1 : JZ cy hX x y ou fo gr (n + 1) ((xs_put gr S p0 p1 p2 p3).2.1) (W) S W := by rw [eb]; exact JZ.cls hz hQ hA hou hmk hEd hrn hdj hno hpo
      refine lv_astore (lv' := [(8, .ref q), (0, .ref x), (1, .int p0), (2, .int p1), (3, .long p2), (5, .long p3), (7, .ref ou)]) hx hb dL_put_21 hl (by decide) rfl (fun ls hl => ?_)
      refine lv_iconst (v := nI 2) hx hb dL_put_23 (by decide) ?_
      have hc8 : (xs_put gr S p0 p1 p2 p3).1 = 2 := hc9
      exact q_iret C hP hS ⟨by rw [hc8]; rfl, fo, j1, fun z => absurd (hc8.symm.trans z) (by decide)⟩ (by omega) dL_put_24
    · refine q_catch (hh := [(0, 14, 17, 13), (0, 14, 21, 18), (0, 14, 25, 31)]) C [(0, 14, 17, 13), (0, 14, 21, 18)] [] (0, 14, 25, 31) rfl (by decide) (by decide) g280 (by decide) (fun z hz => by simp only [List.mem_cons, List.not_mem_nil, or_false] at hz; rcases hz with rfl | rfl <;> first | exact ⟨by decide, "java/lang/IllegalArgumentException", by decide, by decide, g99⟩ | exact ⟨by decide, "java/lang/IllegalStateException", by decide, by decide, g238⟩) hc1 hc2 hc3 ?_
      have eb := xb_put (show (xs_put gr S p0 p1 p2 p3).1 ≠ 0 by rw [hc9]; decide)
      have j1 : JZ cy hX x y ou fo gr (n + 1) ((xs_put gr S p0 p1 p2 p3).2.1) (W) S W := by rw [eb]; exact JZ.cls hz hQ hA hou hmk hEd hrn hdj hno hpo
      refine lv_astore (lv' := [(8, .ref q), (0, .ref x), (1, .int p0), (2, .int p1), (3, .long p2), (5, .long p3), (7, .ref ou)]) hx hb dL_put_25 hl (by decide) rfl (fun ls hl => ?_)
      refine lv_iconst (v := nI 3) hx hb dL_put_27 (by decide) ?_
      have hc8 : (xs_put gr S p0 p1 p2 p3).1 = 3 := hc9
      exact q_iret C hP hS ⟨by rw [hc8]; rfl, fo, j1, fun z => absurd (hc8.symm.trans z) (by decide)⟩ (by omega) dL_put_28
  · obtain ⟨hc0, rfl, hpo⟩ := hq
    have j1 : JZ cy hh1 x y ou fo gr (n + 1) ((xs_put gr S p0 p1 p2 p3).2.1) (W) S W := JZ.cls hz hQ hA hou hmk hEd hrn hdj hno hpo
    have hou1 := j1.ouf
    refine lv_i2l hx hb dL_put_12 rfl ?_
    refine q_lastN C hP hS hou1 (by omega) (by omega) dL_put_13 (fun H locs hP hS => ?_)
    replace hou1 : (qs hh1 ou (.inl (cy 1, 1, .inr (.inl (vp_updL fo 0 ((((xs_put gr S p0 p1 p2 p3).2.2)).toInt64)))))) ou = some (.inl (cy 1, 1, .inr (.inl (vp_updL fo 0 ((((xs_put gr S p0 p1 p2 p3).2.2)).toInt64))))) := qs_self
    refine lv_goto (tgt := 29) hx hb dL_put_14 (by decide) ?_
    refine lv_iconst (v := nI 0) hx hb dL_put_29 (by decide) ?_
    have hc8 : (xs_put gr S p0 p1 p2 p3).1 = 0 := hc0
    obtain ⟨K9, dp9, hp9⟩ : PI gr (n + 1) ((xs_put gr S p0 p1 p2 p3).2.1) (W) := hp.putc
    have j2 := j1.out (f' := vp_updL fo 0 (((xs_put gr S p0 p1 p2 p3).2.2).toInt64)) hp9.hV
    exact q_iret C hP hS ⟨by rw [hc8]; rfl, vp_updL fo 0 (((xs_put gr S p0 p1 p2 p3).2.2).toInt64), j2, fun _ => rfl⟩ (by omega) dL_put_30
theorem dL_find_9 : decode cL_find 9 = .ok (.lastore, 1) := by decide +kernel
theorem dL_find_10 : decode cL_find 10 = .ok (.goto 15, 3) := by decide +kernel
theorem dL_find_21 : decode cL_find 21 = .ok (.astore 5, 2) := by decide +kernel
theorem dL_find_23 : decode cL_find 23 = .ok (.iconst 3, 1) := by decide +kernel
theorem dL_find_24 : decode cL_find 24 = .ok (.ireturn, 1) := by decide +kernel
theorem dL_find_25 : decode cL_find 25 = .ok (.iconst 0, 1) := by decide +kernel
theorem dL_find_26 : decode cL_find 26 = .ok (.ireturn, 1) := by decide +kernel
set_option maxRecDepth 100000 in
set_option maxHeartbeats 4000000 in
theorem zl_find (l : Launch) (D : va_G) (cy : Nat → ClassId) (N0 : Nat) (h : qH) (x y ou : Nat) (fo : Nat → Int64) (gr : Int32) (n : Nat) (S : Nat → qSlot) (W : qWo) (p0 : Int32) (p1 : Int64) (j : JZ cy h x y ou fo gr n S W S W) (hp : PI gr n S W) (hn : n < 64) : qCW l D cy N0 yL_find cL_find 6 (some .int) [(0, 10, 13, 13), (0, 10, 17, 18), (0, 10, 21, 41)] 1600 46000 (1200 + 212 * n + (W.2.1.1 - W.2.1.1)) (12200 + n * rMs n 7 + 10 * (W.2.1.1 - W.2.1.1)) [.ref x, .int p0, .long p1, .ref ou] h (fun v h' => v = some (.int (xs_find S p0 p1).1) ∧ ∃ fo' : Nat → Int64, JZ cy h' x y ou fo' gr (n + 1) (S) (W) S W ∧ ((xs_find S p0 p1).1 = 0 → fo' 0 = (xs_find S p0 p1).2)) := by
  refine q_ofWH (by decide) (by exact Nat.le_of_ble_eq_true rfl) ?_
  intro p e s m below meth c ls C hP hl
  have hx := C.1
  have hb := C.2.1
  have hS : va_S (qA N0) s.heap s.heap [] := va_S.rf
  have hl : lv_has ls 6 [(0, .ref x), (1, .int p0), (2, .long p1), (4, .ref ou)] := hl
  have j0 := j
  obtain ⟨mk, sl, bl, kr, vr, Ed, fs, bd, br, eb, Im, Xb, g, A, ra, rk, rv, pa, ad, hz, hQ, hA, hou, hmk, hEd, hrn, hdj, hno⟩ := j
  obtain ⟨K, dp, hpi⟩ := id hp
  refine lv_aload hx hb dL_find_0 (lv_at hl 3 rfl) ?_
  refine lv_iconst (v := nI 0) hx hb dL_find_2 (by decide) ?_
  refine lv_aload_n hx hb dL_find_3 rfl (lv_at hl 0 rfl) ?_
  refine lv_iload_n hx hb dL_find_4 rfl (lv_at hl 1 rfl) ?_
  refine lv_lload_n hx hb dL_find_5 rfl (lv_at hl 2 rfl) ?_
  refine q_callV (rest := [.int (nI 0), .ref ou]) C (z_find l D cy N0 h x mk sl bl kr vr Ed fs bd br eb Im Xb g S W (n + 2) 1 (S 999).2.2.1 dp p0 p1 hz hpi.hI hpi.hLn hpi.hV) kX6_find g766 g767 rfl g768 g1 hP hS hz.1.1 (by first | decide | omega) hl.1 rfl (by simp [q_catrf, q_cati, q_catl, q_cata, q_catn]) (by first | decide | omega) dL_find_6 (fun q ce E hX H locs hE hP hS hc1 hc2 hc3 => ?_) (fun v hh1 H locs hq hP hS => ?_)
  · obtain ⟨hE0, hpo⟩ := hE
    simp only [zXc, List.mem_cons, Prod.mk.injEq, List.not_mem_nil, or_false] at hE0
    rcases hE0 with ⟨hc9, rfl⟩ | ⟨hc9, rfl⟩ | ⟨hc9, rfl⟩
    · refine q_catch (hh := [(0, 10, 13, 13), (0, 10, 17, 18), (0, 10, 21, 41)]) C [] [(0, 10, 17, 18), (0, 10, 21, 41)] (0, 10, 13, 13) rfl (by decide) (by decide) g99 (by decide) (fun z hz => by cases hz) hc1 hc2 hc3 ?_
      have j1 : JZ cy hX x y ou fo gr (n + 1) (S) (W) S W := by exact JZ.cls hz hQ hA hou hmk hEd hrn hdj hno hpo
      refine lv_astore (lv' := [(5, .ref q), (0, .ref x), (1, .int p0), (2, .long p1), (4, .ref ou)]) hx hb dL_find_13 hl (by decide) rfl (fun ls hl => ?_)
      refine lv_iconst (v := nI 1) hx hb dL_find_15 (by decide) ?_
      have hc8 : (xs_find S p0 p1).1 = 1 := hc9
      exact q_iret C hP hS ⟨by rw [hc8]; rfl, fo, j1, fun z => absurd (hc8.symm.trans z) (by decide)⟩ (by omega) dL_find_16
    · refine q_catch (hh := [(0, 10, 13, 13), (0, 10, 17, 18), (0, 10, 21, 41)]) C [(0, 10, 13, 13)] [(0, 10, 21, 41)] (0, 10, 17, 18) rfl (by decide) (by decide) g238 (by decide) (fun z hz => by simp only [List.mem_cons, List.not_mem_nil, or_false] at hz; subst hz; exact ⟨by decide, "java/lang/IllegalArgumentException", by decide, by decide, g99⟩) hc1 hc2 hc3 ?_
      have j1 : JZ cy hX x y ou fo gr (n + 1) (S) (W) S W := by exact JZ.cls hz hQ hA hou hmk hEd hrn hdj hno hpo
      refine lv_astore (lv' := [(5, .ref q), (0, .ref x), (1, .int p0), (2, .long p1), (4, .ref ou)]) hx hb dL_find_17 hl (by decide) rfl (fun ls hl => ?_)
      refine lv_iconst (v := nI 2) hx hb dL_find_19 (by decide) ?_
      have hc8 : (xs_find S p0 p1).1 = 2 := hc9
      exact q_iret C hP hS ⟨by rw [hc8]; rfl, fo, j1, fun z => absurd (hc8.symm.trans z) (by decide)⟩ (by omega) dL_find_20
    · refine q_catch (hh := [(0, 10, 13, 13), (0, 10, 17, 18), (0, 10, 21, 41)]) C [(0, 10, 13, 13), (0, 10, 17, 18)] [] (0, 10, 21, 41) rfl (by decide) (by decide) g586 (by decide) (fun z hz => by simp only [List.mem_cons, List.not_mem_nil, or_false] at hz; rcases hz with rfl | rfl <;> first | exact ⟨by decide, "java/lang/IllegalArgumentException", by decide, by decide, g99⟩ | exact ⟨by decide, "java/lang/IllegalStateException", by decide, by decide, g238⟩) hc1 hc2 hc3 ?_
      have j1 : JZ cy hX x y ou fo gr (n + 1) (S) (W) S W := by exact JZ.cls hz hQ hA hou hmk hEd hrn hdj hno hpo
      refine lv_astore (lv' := [(5, .ref q), (0, .ref x), (1, .int p0), (2, .long p1), (4, .ref ou)]) hx hb dL_find_21 hl (by decide) rfl (fun ls hl => ?_)
      refine lv_iconst (v := nI 3) hx hb dL_find_23 (by decide) ?_
      have hc8 : (xs_find S p0 p1).1 = 3 := hc9
      exact q_iret C hP hS ⟨by rw [hc8]; rfl, fo, j1, fun z => absurd (hc8.symm.trans z) (by decide)⟩ (by omega) dL_find_24
  · obtain ⟨hc0, rfl, hpo⟩ := hq
    have j1 : JZ cy hh1 x y ou fo gr (n + 1) (S) (W) S W := JZ.cls hz hQ hA hou hmk hEd hrn hdj hno hpo
    have hou1 := j1.ouf
    refine q_lastN C hP hS hou1 (by omega) (by omega) dL_find_9 (fun H locs hP hS => ?_)
    replace hou1 : (qs hh1 ou (.inl (cy 1, 1, .inr (.inl (vp_updL fo 0 ((xs_find S p0 p1).2)))))) ou = some (.inl (cy 1, 1, .inr (.inl (vp_updL fo 0 ((xs_find S p0 p1).2))))) := qs_self
    refine lv_goto (tgt := 25) hx hb dL_find_10 (by decide) ?_
    refine lv_iconst (v := nI 0) hx hb dL_find_25 (by decide) ?_
    have hc8 : (xs_find S p0 p1).1 = 0 := hc0
    obtain ⟨K9, dp9, hp9⟩ : PI gr (n + 1) (S) (W) := hp.up
    have j2 := j1.out (f' := vp_updL fo 0 ((xs_find S p0 p1).2)) hp9.hV
    exact q_iret C hP hS ⟨by rw [hc8]; rfl, vp_updL fo 0 ((xs_find S p0 p1).2), j2, fun _ => rfl⟩ (by omega) dL_find_26
theorem dL_out_10 : decode cL_out 10 = .ok (.i2l, 1) := by decide +kernel
theorem dL_out_11 : decode cL_out 11 = .ok (.lastore, 1) := by decide +kernel
theorem dL_out_12 : decode cL_out 12 = .ok (.goto 11, 3) := by decide +kernel
theorem dL_out_23 : decode cL_out 23 = .ok (.iconst 0, 1) := by decide +kernel
theorem dL_out_24 : decode cL_out 24 = .ok (.ireturn, 1) := by decide +kernel
set_option maxRecDepth 100000 in
set_option maxHeartbeats 4000000 in
theorem zl_out (l : Launch) (D : va_G) (cy : Nat → ClassId) (N0 : Nat) (h : qH) (x y ou : Nat) (fo : Nat → Int64) (gr : Int32) (n : Nat) (S : Nat → qSlot) (W : qWo) (p0 : Int32) (p1 : Int32) (p2 : Int64) (j : JZ cy h x y ou fo gr n S W S W) (hp : PI gr n S W) (hn : n < 64) : qCW l D cy N0 yL_out cL_out 7 (some .int) [(0, 12, 15, 13), (0, 12, 19, 18)] 1600 46000 (1200 + 212 * n + (W.2.1.1 - W.2.1.1)) (12200 + n * rMs n 7 + 10 * (W.2.1.1 - W.2.1.1)) [.ref x, .int p0, .int p1, .long p2, .ref ou] h (fun v h' => v = some (.int (xs_out S p0 p1 p2).1) ∧ ∃ fo' : Nat → Int64, JZ cy h' x y ou fo' gr (n + 1) ((xs_out S p0 p1 p2).2.1) (W) S W ∧ ((xs_out S p0 p1 p2).1 = 0 → fo' 0 = ((xs_out S p0 p1 p2).2.2).toInt64)) := by
  refine q_ofWH (by decide) (by exact Nat.le_of_ble_eq_true rfl) ?_
  intro p e s m below meth c ls C hP hl
  have hx := C.1
  have hb := C.2.1
  have hS : va_S (qA N0) s.heap s.heap [] := va_S.rf
  have hl : lv_has ls 7 [(0, .ref x), (1, .int p0), (2, .int p1), (3, .long p2), (5, .ref ou)] := hl
  have j0 := j
  obtain ⟨mk, sl, bl, kr, vr, Ed, fs, bd, br, eb, Im, Xb, g, A, ra, rk, rv, pa, ad, hz, hQ, hA, hou, hmk, hEd, hrn, hdj, hno⟩ := j
  obtain ⟨K, dp, hpi⟩ := id hp
  refine lv_aload hx hb dL_out_0 (lv_at hl 4 rfl) ?_
  refine lv_iconst (v := nI 0) hx hb dL_out_2 (by decide) ?_
  refine lv_aload_n hx hb dL_out_3 rfl (lv_at hl 0 rfl) ?_
  refine lv_iload_n hx hb dL_out_4 rfl (lv_at hl 1 rfl) ?_
  refine lv_iload_n hx hb dL_out_5 rfl (lv_at hl 2 rfl) ?_
  refine lv_lload_n hx hb dL_out_6 rfl (lv_at hl 3 rfl) ?_
  refine q_callV (rest := [.int (nI 0), .ref ou]) C (z_out l D cy N0 h x mk sl bl kr vr Ed fs bd br eb Im Xb g S W (n + 2) 1 (S 999).2.2.1 dp gr p0 p1 p2 hz hpi.hI hpi.hLn hpi.hV hmk hpi.hAl (fun i9 hi9 z9 => Nat.le_trans (hpi.h64 i9 hi9 z9) (by omega)) (by omega)) kX6_out g779 g780 rfl g781 g1 hP hS hz.1.1 (by first | decide | omega) hl.1 rfl (by simp [q_catrf, q_cati, q_catl, q_cata, q_catn]) (by first | decide | omega) dL_out_7 (fun q ce E hX H locs hE hP hS hc1 hc2 hc3 => ?_) (fun v hh1 H locs hq hP hS => ?_)
  · obtain ⟨hE0, hpo⟩ := hE
    simp only [zXc, List.mem_cons, Prod.mk.injEq, List.not_mem_nil, or_false] at hE0
    rcases hE0 with ⟨hc9, rfl⟩ | ⟨hc9, rfl⟩
    · refine q_catch (hh := [(0, 12, 15, 13), (0, 12, 19, 18)]) C [] [(0, 12, 19, 18)] (0, 12, 15, 13) rfl (by decide) (by decide) g99 (by decide) (fun z hz => by cases hz) hc1 hc2 hc3 ?_
      have eb := xb_out (show (xs_out S p0 p1 p2).1 ≠ 0 by rw [hc9]; decide)
      have j1 : JZ cy hX x y ou fo gr (n + 1) ((xs_out S p0 p1 p2).2.1) (W) S W := by rw [eb]; exact JZ.cls hz hQ hA hou hmk hEd hrn hdj hno hpo
      refine lv_astore (lv' := [(6, .ref q), (0, .ref x), (1, .int p0), (2, .int p1), (3, .long p2), (5, .ref ou)]) hx hb dL_out_15 hl (by decide) rfl (fun ls hl => ?_)
      refine lv_iconst (v := nI 1) hx hb dL_out_17 (by decide) ?_
      have hc8 : (xs_out S p0 p1 p2).1 = 1 := hc9
      exact q_iret C hP hS ⟨by rw [hc8]; rfl, fo, j1, fun z => absurd (hc8.symm.trans z) (by decide)⟩ (by omega) dL_out_18
    · refine q_catch (hh := [(0, 12, 15, 13), (0, 12, 19, 18)]) C [(0, 12, 15, 13)] [] (0, 12, 19, 18) rfl (by decide) (by decide) g238 (by decide) (fun z hz => by simp only [List.mem_cons, List.not_mem_nil, or_false] at hz; subst hz; exact ⟨by decide, "java/lang/IllegalArgumentException", by decide, by decide, g99⟩) hc1 hc2 hc3 ?_
      have eb := xb_out (show (xs_out S p0 p1 p2).1 ≠ 0 by rw [hc9]; decide)
      have j1 : JZ cy hX x y ou fo gr (n + 1) ((xs_out S p0 p1 p2).2.1) (W) S W := by rw [eb]; exact JZ.cls hz hQ hA hou hmk hEd hrn hdj hno hpo
      refine lv_astore (lv' := [(6, .ref q), (0, .ref x), (1, .int p0), (2, .int p1), (3, .long p2), (5, .ref ou)]) hx hb dL_out_19 hl (by decide) rfl (fun ls hl => ?_)
      refine lv_iconst (v := nI 2) hx hb dL_out_21 (by decide) ?_
      have hc8 : (xs_out S p0 p1 p2).1 = 2 := hc9
      exact q_iret C hP hS ⟨by rw [hc8]; rfl, fo, j1, fun z => absurd (hc8.symm.trans z) (by decide)⟩ (by omega) dL_out_22
  · obtain ⟨hc0, rfl, hpo⟩ := hq
    have j1 : JZ cy hh1 x y ou fo gr (n + 1) ((xs_out S p0 p1 p2).2.1) (W) S W := JZ.cls hz hQ hA hou hmk hEd hrn hdj hno hpo
    have hou1 := j1.ouf
    refine lv_i2l hx hb dL_out_10 rfl ?_
    refine q_lastN C hP hS hou1 (by omega) (by omega) dL_out_11 (fun H locs hP hS => ?_)
    replace hou1 : (qs hh1 ou (.inl (cy 1, 1, .inr (.inl (vp_updL fo 0 ((((xs_out S p0 p1 p2).2.2)).toInt64)))))) ou = some (.inl (cy 1, 1, .inr (.inl (vp_updL fo 0 ((((xs_out S p0 p1 p2).2.2)).toInt64))))) := qs_self
    refine lv_goto (tgt := 23) hx hb dL_out_12 (by decide) ?_
    refine lv_iconst (v := nI 0) hx hb dL_out_23 (by decide) ?_
    have hc8 : (xs_out S p0 p1 p2).1 = 0 := hc0
    obtain ⟨K9, dp9, hp9⟩ : PI gr (n + 1) ((xs_out S p0 p1 p2).2.1) (W) := hp.out
    have j2 := j1.out (f' := vp_updL fo 0 (((xs_out S p0 p1 p2).2.2).toInt64)) hp9.hV
    exact q_iret C hP hS ⟨by rw [hc8]; rfl, vp_updL fo 0 (((xs_out S p0 p1 p2).2.2).toInt64), j2, fun _ => rfl⟩ (by omega) dL_out_24
theorem dL_near_11 : decode cL_near 11 = .ok (.lastore, 1) := by decide +kernel
theorem dL_near_12 : decode cL_near 12 = .ok (.goto 15, 3) := by decide +kernel
theorem dL_near_23 : decode cL_near 23 = .ok (.astore 6, 2) := by decide +kernel
theorem dL_near_25 : decode cL_near 25 = .ok (.iconst 3, 1) := by decide +kernel
theorem dL_near_26 : decode cL_near 26 = .ok (.ireturn, 1) := by decide +kernel
theorem dL_near_27 : decode cL_near 27 = .ok (.iconst 0, 1) := by decide +kernel
theorem dL_near_28 : decode cL_near 28 = .ok (.ireturn, 1) := by decide +kernel
set_option maxRecDepth 100000 in
set_option maxHeartbeats 4000000 in
theorem zl_near (l : Launch) (D : va_G) (cy : Nat → ClassId) (N0 : Nat) (h : qH) (x y ou : Nat) (fo : Nat → Int64) (gr : Int32) (n : Nat) (S : Nat → qSlot) (W : qWo) (p0 : Int32) (p1 : Int64) (p2 : Int32) (j : JZ cy h x y ou fo gr n S W S W) (hp : PI gr n S W) (hn : n < 64) : qCW l D cy N0 yL_near cL_near 7 (some .int) [(0, 12, 15, 13), (0, 12, 19, 18), (0, 12, 23, 41)] 1600 46000 (1200 + 212 * n + (W.2.1.1 - W.2.1.1)) (12200 + n * rMs n 7 + 10 * (W.2.1.1 - W.2.1.1)) [.ref x, .int p0, .long p1, .int p2, .ref ou] h (fun v h' => v = some (.int (xs_near S p0 p1 p2).1) ∧ ∃ fo' : Nat → Int64, JZ cy h' x y ou fo' gr (n + 1) (S) (W) S W ∧ ((xs_near S p0 p1 p2).1 = 0 → fo' 0 = (xs_near S p0 p1 p2).2)) := by
  refine q_ofWH (by decide) (by exact Nat.le_of_ble_eq_true rfl) ?_
  intro p e s m below meth c ls C hP hl
  have hx := C.1
  have hb := C.2.1
  have hS : va_S (qA N0) s.heap s.heap [] := va_S.rf
  have hl : lv_has ls 7 [(0, .ref x), (1, .int p0), (2, .long p1), (4, .int p2), (5, .ref ou)] := hl
  have j0 := j
  obtain ⟨mk, sl, bl, kr, vr, Ed, fs, bd, br, eb, Im, Xb, g, A, ra, rk, rv, pa, ad, hz, hQ, hA, hou, hmk, hEd, hrn, hdj, hno⟩ := j
  obtain ⟨K, dp, hpi⟩ := id hp
  refine lv_aload hx hb dL_near_0 (lv_at hl 4 rfl) ?_
  refine lv_iconst (v := nI 0) hx hb dL_near_2 (by decide) ?_
  refine lv_aload_n hx hb dL_near_3 rfl (lv_at hl 0 rfl) ?_
  refine lv_iload_n hx hb dL_near_4 rfl (lv_at hl 1 rfl) ?_
  refine lv_lload_n hx hb dL_near_5 rfl (lv_at hl 2 rfl) ?_
  refine lv_iload hx hb dL_near_6 (lv_at hl 3 rfl) ?_
  refine q_callV (rest := [.int (nI 0), .ref ou]) C (z_near l D cy N0 h x mk sl bl kr vr Ed fs bd br eb Im Xb g S W (n + 2) 1 (S 999).2.2.1 dp p0 p1 p2 hz hpi.hI hpi.hLn hpi.hV) kX6_near g817 g818 rfl g819 g1 hP hS hz.1.1 (by first | decide | omega) hl.1 rfl (by simp [q_catrf, q_cati, q_catl, q_cata, q_catn]) (by first | decide | omega) dL_near_8 (fun q ce E hX H locs hE hP hS hc1 hc2 hc3 => ?_) (fun v hh1 H locs hq hP hS => ?_)
  · obtain ⟨hE0, hpo⟩ := hE
    simp only [zXc, List.mem_cons, Prod.mk.injEq, List.not_mem_nil, or_false] at hE0
    rcases hE0 with ⟨hc9, rfl⟩ | ⟨hc9, rfl⟩ | ⟨hc9, rfl⟩
    · refine q_catch (hh := [(0, 12, 15, 13), (0, 12, 19, 18), (0, 12, 23, 41)]) C [] [(0, 12, 19, 18), (0, 12, 23, 41)] (0, 12, 15, 13) rfl (by decide) (by decide) g99 (by decide) (fun z hz => by cases hz) hc1 hc2 hc3 ?_
      have j1 : JZ cy hX x y ou fo gr (n + 1) (S) (W) S W := by exact JZ.cls hz hQ hA hou hmk hEd hrn hdj hno hpo
      refine lv_astore (lv' := [(6, .ref q), (0, .ref x), (1, .int p0), (2, .long p1), (4, .int p2), (5, .ref ou)]) hx hb dL_near_15 hl (by decide) rfl (fun ls hl => ?_)
      refine lv_iconst (v := nI 1) hx hb dL_near_17 (by decide) ?_
      have hc8 : (xs_near S p0 p1 p2).1 = 1 := hc9
      exact q_iret C hP hS ⟨by rw [hc8]; rfl, fo, j1, fun z => absurd (hc8.symm.trans z) (by decide)⟩ (by omega) dL_near_18
    · refine q_catch (hh := [(0, 12, 15, 13), (0, 12, 19, 18), (0, 12, 23, 41)]) C [(0, 12, 15, 13)] [(0, 12, 23, 41)] (0, 12, 19, 18) rfl (by decide) (by decide) g238 (by decide) (fun z hz => by simp only [List.mem_cons, List.not_mem_nil, or_false] at hz; subst hz; exact ⟨by decide, "java/lang/IllegalArgumentException", by decide, by decide, g99⟩) hc1 hc2 hc3 ?_
      have j1 : JZ cy hX x y ou fo gr (n + 1) (S) (W) S W := by exact JZ.cls hz hQ hA hou hmk hEd hrn hdj hno hpo
      refine lv_astore (lv' := [(6, .ref q), (0, .ref x), (1, .int p0), (2, .long p1), (4, .int p2), (5, .ref ou)]) hx hb dL_near_19 hl (by decide) rfl (fun ls hl => ?_)
      refine lv_iconst (v := nI 2) hx hb dL_near_21 (by decide) ?_
      have hc8 : (xs_near S p0 p1 p2).1 = 2 := hc9
      exact q_iret C hP hS ⟨by rw [hc8]; rfl, fo, j1, fun z => absurd (hc8.symm.trans z) (by decide)⟩ (by omega) dL_near_22
    · refine q_catch (hh := [(0, 12, 15, 13), (0, 12, 19, 18), (0, 12, 23, 41)]) C [(0, 12, 15, 13), (0, 12, 19, 18)] [] (0, 12, 23, 41) rfl (by decide) (by decide) g586 (by decide) (fun z hz => by simp only [List.mem_cons, List.not_mem_nil, or_false] at hz; rcases hz with rfl | rfl <;> first | exact ⟨by decide, "java/lang/IllegalArgumentException", by decide, by decide, g99⟩ | exact ⟨by decide, "java/lang/IllegalStateException", by decide, by decide, g238⟩) hc1 hc2 hc3 ?_
      have j1 : JZ cy hX x y ou fo gr (n + 1) (S) (W) S W := by exact JZ.cls hz hQ hA hou hmk hEd hrn hdj hno hpo
      refine lv_astore (lv' := [(6, .ref q), (0, .ref x), (1, .int p0), (2, .long p1), (4, .int p2), (5, .ref ou)]) hx hb dL_near_23 hl (by decide) rfl (fun ls hl => ?_)
      refine lv_iconst (v := nI 3) hx hb dL_near_25 (by decide) ?_
      have hc8 : (xs_near S p0 p1 p2).1 = 3 := hc9
      exact q_iret C hP hS ⟨by rw [hc8]; rfl, fo, j1, fun z => absurd (hc8.symm.trans z) (by decide)⟩ (by omega) dL_near_26
  · obtain ⟨hc0, rfl, hpo⟩ := hq
    have j1 : JZ cy hh1 x y ou fo gr (n + 1) (S) (W) S W := JZ.cls hz hQ hA hou hmk hEd hrn hdj hno hpo
    have hou1 := j1.ouf
    refine q_lastN C hP hS hou1 (by omega) (by omega) dL_near_11 (fun H locs hP hS => ?_)
    replace hou1 : (qs hh1 ou (.inl (cy 1, 1, .inr (.inl (vp_updL fo 0 ((xs_near S p0 p1 p2).2)))))) ou = some (.inl (cy 1, 1, .inr (.inl (vp_updL fo 0 ((xs_near S p0 p1 p2).2))))) := qs_self
    refine lv_goto (tgt := 27) hx hb dL_near_12 (by decide) ?_
    refine lv_iconst (v := nI 0) hx hb dL_near_27 (by decide) ?_
    have hc8 : (xs_near S p0 p1 p2).1 = 0 := hc0
    obtain ⟨K9, dp9, hp9⟩ : PI gr (n + 1) (S) (W) := hp.up
    have j2 := j1.out (f' := vp_updL fo 0 ((xs_near S p0 p1 p2).2)) hp9.hV
    exact q_iret C hP hS ⟨by rw [hc8]; rfl, vp_updL fo 0 ((xs_near S p0 p1 p2).2), j2, fun _ => rfl⟩ (by omega) dL_near_28
theorem dL_range_12 : decode cL_range 12 = .ok (.i2l, 1) := by decide +kernel
theorem dL_range_13 : decode cL_range 13 = .ok (.lastore, 1) := by decide +kernel
theorem dL_range_14 : decode cL_range 14 = .ok (.goto 15, 3) := by decide +kernel
theorem dL_range_25 : decode cL_range 25 = .ok (.astore 8, 2) := by decide +kernel
theorem dL_range_27 : decode cL_range 27 = .ok (.iconst 3, 1) := by decide +kernel
theorem dL_range_28 : decode cL_range 28 = .ok (.ireturn, 1) := by decide +kernel
theorem dL_range_29 : decode cL_range 29 = .ok (.iconst 0, 1) := by decide +kernel
theorem dL_range_30 : decode cL_range 30 = .ok (.ireturn, 1) := by decide +kernel
set_option maxRecDepth 100000 in
set_option maxHeartbeats 4000000 in
theorem zl_range (l : Launch) (D : va_G) (cy : Nat → ClassId) (N0 : Nat) (h : qH) (x y ou : Nat) (fo : Nat → Int64) (gr : Int32) (n : Nat) (S : Nat → qSlot) (W : qWo) (m0 : Nat) (p0 : Int32) (p1 : Int32) (p2 : Int64) (p3 : Int64) (j : JZ cy h x y ou fo gr n S W S W) (hp : PI gr n S W) (hn : n < 64) (hm0 : oMq W.1 = nI m0) (hm9 : m0 ≤ 20000) : qCW l D cy N0 yL_range cL_range 9 (some .int) [(0, 14, 17, 13), (0, 14, 21, 18), (0, 14, 25, 31)] 1600 46000 (1200 + 212 * n + (W.2.1.1 - W.2.1.1)) (12200 + n * rMs n 7 + 10 * (W.2.1.1 - W.2.1.1)) [.ref x, .int p0, .int p1, .long p2, .long p3, .ref ou] h (fun v h' => v = some (.int (xs_range S p0 p1 p2 p3 m0).1) ∧ ∃ fo' : Nat → Int64, JZ cy h' x y ou fo' gr (n + 1) ((xs_range S p0 p1 p2 p3 m0).2.1) ((oMv W.1 (nI (xs_range S p0 p1 p2 p3 m0).2.2.2), W.2)) S W ∧ ((xs_range S p0 p1 p2 p3 m0).1 = 0 → fo' 0 = ((xs_range S p0 p1 p2 p3 m0).2.2.1).toInt64)) := by
  refine q_ofWH (by decide) (by exact Nat.le_of_ble_eq_true rfl) ?_
  intro p e s m below meth c ls C hP hl
  have hx := C.1
  have hb := C.2.1
  have hS : va_S (qA N0) s.heap s.heap [] := va_S.rf
  have hl : lv_has ls 9 [(0, .ref x), (1, .int p0), (2, .int p1), (3, .long p2), (5, .long p3), (7, .ref ou)] := hl
  have j0 := j
  obtain ⟨mk, sl, bl, kr, vr, Ed, fs, bd, br, eb, Im, Xb, g, A, ra, rk, rv, pa, ad, hz, hQ, hA, hou, hmk, hEd, hrn, hdj, hno⟩ := j
  obtain ⟨K, dp, hpi⟩ := id hp
  have hm0 := hm0
  refine lv_aload hx hb dL_range_0 (lv_at hl 5 rfl) ?_
  refine lv_iconst (v := nI 0) hx hb dL_range_2 (by decide) ?_
  refine lv_aload_n hx hb dL_range_3 rfl (lv_at hl 0 rfl) ?_
  refine lv_iload_n hx hb dL_range_4 rfl (lv_at hl 1 rfl) ?_
  refine lv_iload_n hx hb dL_range_5 rfl (lv_at hl 2 rfl) ?_
  refine lv_lload_n hx hb dL_range_6 rfl (lv_at hl 3 rfl) ?_
  refine lv_lload hx hb dL_range_7 (lv_at hl 4 rfl) ?_
  refine q_callV (rest := [.int (nI 0), .ref ou]) C (z_range l D cy N0 h x mk sl bl kr vr Ed fs bd br eb Im Xb g S W (n + 2) 1 (S 999).2.2.1 dp m0 p0 p1 p2 p3 hz hpi.hI hpi.hLn hpi.hV hm0 hm9) kX6_range g827 g828 rfl g829 g1 hP hS hz.1.1 (by first | decide | omega) hl.1 rfl (by simp [q_catrf, q_cati, q_catl, q_cata, q_catn]) (by first | decide | omega) dL_range_9 (fun q ce E hX H locs hE hP hS hc1 hc2 hc3 => ?_) (fun v hh1 H locs hq hP hS => ?_)
  · obtain ⟨hE0, hpo⟩ := hE
    simp only [zXc, List.mem_cons, Prod.mk.injEq, List.not_mem_nil, or_false] at hE0
    rcases hE0 with ⟨hc9, rfl⟩ | ⟨hc9, rfl⟩ | ⟨hc9, rfl⟩
    · refine q_catch (hh := [(0, 14, 17, 13), (0, 14, 21, 18), (0, 14, 25, 31)]) C [] [(0, 14, 21, 18), (0, 14, 25, 31)] (0, 14, 17, 13) rfl (by decide) (by decide) g99 (by decide) (fun z hz => by cases hz) hc1 hc2 hc3 ?_
      have eb := xb_range (show (xs_range S p0 p1 p2 p3 m0).1 ≠ 0 by rw [hc9]; decide)
      have j1 : JZ cy hX x y ou fo gr (n + 1) ((xs_range S p0 p1 p2 p3 m0).2.1) ((oMv W.1 (nI (xs_range S p0 p1 p2 p3 m0).2.2.2), W.2)) S W := by rw [eb.1]; rw [eb.2, show (oMv W.1 (nI m0), W.2) = W by rw [← hm0]; rfl]; exact JZ.cls hz hQ hA hou hmk hEd hrn hdj hno hpo
      refine lv_astore (lv' := [(8, .ref q), (0, .ref x), (1, .int p0), (2, .int p1), (3, .long p2), (5, .long p3), (7, .ref ou)]) hx hb dL_range_17 hl (by decide) rfl (fun ls hl => ?_)
      refine lv_iconst (v := nI 1) hx hb dL_range_19 (by decide) ?_
      have hc8 : (xs_range S p0 p1 p2 p3 m0).1 = 1 := hc9
      exact q_iret C hP hS ⟨by rw [hc8]; rfl, fo, j1, fun z => absurd (hc8.symm.trans z) (by decide)⟩ (by omega) dL_range_20
    · refine q_catch (hh := [(0, 14, 17, 13), (0, 14, 21, 18), (0, 14, 25, 31)]) C [(0, 14, 17, 13)] [(0, 14, 25, 31)] (0, 14, 21, 18) rfl (by decide) (by decide) g238 (by decide) (fun z hz => by simp only [List.mem_cons, List.not_mem_nil, or_false] at hz; subst hz; exact ⟨by decide, "java/lang/IllegalArgumentException", by decide, by decide, g99⟩) hc1 hc2 hc3 ?_
      have eb := xb_range (show (xs_range S p0 p1 p2 p3 m0).1 ≠ 0 by rw [hc9]; decide)
      have j1 : JZ cy hX x y ou fo gr (n + 1) ((xs_range S p0 p1 p2 p3 m0).2.1) ((oMv W.1 (nI (xs_range S p0 p1 p2 p3 m0).2.2.2), W.2)) S W := by rw [eb.1]; rw [eb.2, show (oMv W.1 (nI m0), W.2) = W by rw [← hm0]; rfl]; exact JZ.cls hz hQ hA hou hmk hEd hrn hdj hno hpo
      refine lv_astore (lv' := [(8, .ref q), (0, .ref x), (1, .int p0), (2, .int p1), (3, .long p2), (5, .long p3), (7, .ref ou)]) hx hb dL_range_21 hl (by decide) rfl (fun ls hl => ?_)
      refine lv_iconst (v := nI 2) hx hb dL_range_23 (by decide) ?_
      have hc8 : (xs_range S p0 p1 p2 p3 m0).1 = 2 := hc9
      exact q_iret C hP hS ⟨by rw [hc8]; rfl, fo, j1, fun z => absurd (hc8.symm.trans z) (by decide)⟩ (by omega) dL_range_24
    · refine q_catch (hh := [(0, 14, 17, 13), (0, 14, 21, 18), (0, 14, 25, 31)]) C [(0, 14, 17, 13), (0, 14, 21, 18)] [] (0, 14, 25, 31) rfl (by decide) (by decide) g280 (by decide) (fun z hz => by simp only [List.mem_cons, List.not_mem_nil, or_false] at hz; rcases hz with rfl | rfl <;> first | exact ⟨by decide, "java/lang/IllegalArgumentException", by decide, by decide, g99⟩ | exact ⟨by decide, "java/lang/IllegalStateException", by decide, by decide, g238⟩) hc1 hc2 hc3 ?_
      have eb := xb_range (show (xs_range S p0 p1 p2 p3 m0).1 ≠ 0 by rw [hc9]; decide)
      have j1 : JZ cy hX x y ou fo gr (n + 1) ((xs_range S p0 p1 p2 p3 m0).2.1) ((oMv W.1 (nI (xs_range S p0 p1 p2 p3 m0).2.2.2), W.2)) S W := by rw [eb.1]; rw [eb.2, show (oMv W.1 (nI m0), W.2) = W by rw [← hm0]; rfl]; exact JZ.cls hz hQ hA hou hmk hEd hrn hdj hno hpo
      refine lv_astore (lv' := [(8, .ref q), (0, .ref x), (1, .int p0), (2, .int p1), (3, .long p2), (5, .long p3), (7, .ref ou)]) hx hb dL_range_25 hl (by decide) rfl (fun ls hl => ?_)
      refine lv_iconst (v := nI 3) hx hb dL_range_27 (by decide) ?_
      have hc8 : (xs_range S p0 p1 p2 p3 m0).1 = 3 := hc9
      exact q_iret C hP hS ⟨by rw [hc8]; rfl, fo, j1, fun z => absurd (hc8.symm.trans z) (by decide)⟩ (by omega) dL_range_28
  · obtain ⟨hc0, rfl, hpo⟩ := hq
    have j1 : JZ cy hh1 x y ou fo gr (n + 1) ((xs_range S p0 p1 p2 p3 m0).2.1) ((oMv W.1 (nI (xs_range S p0 p1 p2 p3 m0).2.2.2), W.2)) S W := JZ.cls hz hQ hA hou hmk hEd hrn hdj hno hpo
    have hou1 := j1.ouf
    refine lv_i2l hx hb dL_range_12 rfl ?_
    refine q_lastN C hP hS hou1 (by omega) (by omega) dL_range_13 (fun H locs hP hS => ?_)
    replace hou1 : (qs hh1 ou (.inl (cy 1, 1, .inr (.inl (vp_updL fo 0 ((((xs_range S p0 p1 p2 p3 m0).2.2.1)).toInt64)))))) ou = some (.inl (cy 1, 1, .inr (.inl (vp_updL fo 0 ((((xs_range S p0 p1 p2 p3 m0).2.2.1)).toInt64))))) := qs_self
    refine lv_goto (tgt := 29) hx hb dL_range_14 (by decide) ?_
    refine lv_iconst (v := nI 0) hx hb dL_range_29 (by decide) ?_
    have hc8 : (xs_range S p0 p1 p2 p3 m0).1 = 0 := hc0
    obtain ⟨K9, dp9, hp9⟩ : PI gr (n + 1) ((xs_range S p0 p1 p2 p3 m0).2.1) ((oMv W.1 (nI (xs_range S p0 p1 p2 p3 m0).2.2.2), W.2)) := (hp.range hm0 hm9)
    have j2 := j1.out (f' := vp_updL fo 0 (((xs_range S p0 p1 p2 p3 m0).2.2.1).toInt64)) hp9.hV
    exact q_iret C hP hS ⟨by rw [hc8]; rfl, vp_updL fo 0 (((xs_range S p0 p1 p2 p3 m0).2.2.1).toInt64), j2, fun _ => rfl⟩ (by omega) dL_range_30
theorem dL_join_10 : decode cL_join 10 = .ok (.i2l, 1) := by decide +kernel
theorem dL_join_11 : decode cL_join 11 = .ok (.lastore, 1) := by decide +kernel
theorem dL_join_12 : decode cL_join 12 = .ok (.goto 15, 3) := by decide +kernel
theorem dL_join_23 : decode cL_join 23 = .ok (.astore 5, 2) := by decide +kernel
theorem dL_join_25 : decode cL_join 25 = .ok (.iconst 3, 1) := by decide +kernel
theorem dL_join_26 : decode cL_join 26 = .ok (.ireturn, 1) := by decide +kernel
theorem dL_join_27 : decode cL_join 27 = .ok (.iconst 0, 1) := by decide +kernel
theorem dL_join_28 : decode cL_join 28 = .ok (.ireturn, 1) := by decide +kernel
set_option maxRecDepth 100000 in
set_option maxHeartbeats 4000000 in
theorem zl_join (l : Launch) (D : va_G) (cy : Nat → ClassId) (N0 : Nat) (h : qH) (x y ou : Nat) (fo : Nat → Int64) (gr : Int32) (n : Nat) (S : Nat → qSlot) (W : qWo) (p0 : Int32) (p1 : Int32) (p2 : Int32) (j : JZ cy h x y ou fo gr n S W S W) (hp : PI gr n S W) (hn : n < 64) : qCW l D cy N0 yL_join cL_join 6 (some .int) [(0, 12, 15, 13), (0, 12, 19, 18), (0, 12, 23, 31)] 1600 46000 (1200 + 212 * n + ((xs_join S W p0 p1 p2).2.2.2.2.1.1 - W.2.1.1)) (12200 + n * rMs n 7 + 10 * ((xs_join S W p0 p1 p2).2.2.2.2.1.1 - W.2.1.1)) [.ref x, .int p0, .int p1, .int p2, .ref ou] h (fun v h' => v = some (.int (xs_join S W p0 p1 p2).1) ∧ ∃ fo' : Nat → Int64, JZ cy h' x y ou fo' gr (n + 1) ((xs_join S W p0 p1 p2).2.2.1) ((xs_join S W p0 p1 p2).2.2.2) S W ∧ ((xs_join S W p0 p1 p2).1 = 0 → fo' 0 = ((xs_join S W p0 p1 p2).2.1).toInt64)) := by
  refine q_ofWH (by decide) (by exact Nat.le_of_ble_eq_true rfl) ?_
  intro p e s m below meth c ls C hP hl
  have hx := C.1
  have hb := C.2.1
  have hS : va_S (qA N0) s.heap s.heap [] := va_S.rf
  have hl : lv_has ls 6 [(0, .ref x), (1, .int p0), (2, .int p1), (3, .int p2), (4, .ref ou)] := hl
  have j0 := j
  obtain ⟨mk, sl, bl, kr, vr, Ed, fs, bd, br, eb, Im, Xb, g, A, ra, rk, rv, pa, ad, hz, hQ, hA, hou, hmk, hEd, hrn, hdj, hno⟩ := j
  obtain ⟨K, dp, hpi⟩ := id hp
  refine lv_aload hx hb dL_join_0 (lv_at hl 4 rfl) ?_
  refine lv_iconst (v := nI 0) hx hb dL_join_2 (by decide) ?_
  refine lv_aload_n hx hb dL_join_3 rfl (lv_at hl 0 rfl) ?_
  refine lv_iload_n hx hb dL_join_4 rfl (lv_at hl 1 rfl) ?_
  refine lv_iload_n hx hb dL_join_5 rfl (lv_at hl 2 rfl) ?_
  refine lv_iload_n hx hb dL_join_6 rfl (lv_at hl 3 rfl) ?_
  refine q_callV (rest := [.int (nI 0), .ref ou]) C (z_join l D cy N0 h x mk sl bl kr vr Ed fs bd br eb Im Xb g S W (n + 2) 0 (S 999).2.2.1 dp 100 gr n p0 p1 p2 hz hpi.hI hpi.hLn hpi.hV hpi.hSt hmk hpi.hAl hpi.h64 (by omega) (by omega) hpi.hDp hpi.2.2.2.2.2.2.1) kX6_join g836 g837 rfl g838 g1 hP hS hz.1.1 (by first | decide | omega) hl.1 rfl (by simp [q_catrf, q_cati, q_catl, q_cata, q_catn]) (by first | decide | omega) dL_join_7 (fun q ce E hX H locs hE hP hS hc1 hc2 hc3 => ?_) (fun v hh1 H locs hq hP hS => ?_)
  · obtain ⟨hE0, hpo⟩ := hE
    simp only [zXc, List.mem_cons, Prod.mk.injEq, List.not_mem_nil, or_false] at hE0
    rcases hE0 with ⟨hc9, rfl⟩ | ⟨hc9, rfl⟩ | ⟨hc9, rfl⟩
    · refine q_catch (hh := [(0, 12, 15, 13), (0, 12, 19, 18), (0, 12, 23, 31)]) C [] [(0, 12, 19, 18), (0, 12, 23, 31)] (0, 12, 15, 13) rfl (by decide) (by decide) g99 (by decide) (fun z hz => by cases hz) hc1 hc2 hc3 ?_
      have eb := xb_join (show (xs_join S W p0 p1 p2).1 ≠ 0 by rw [hc9]; decide)
      have j1 : JZ cy hX x y ou fo gr (n + 1) ((xs_join S W p0 p1 p2).2.2.1) ((xs_join S W p0 p1 p2).2.2.2) S W := by rw [eb]; exact JZ.cls hz hQ hA hou hmk hEd hrn hdj hno hpo
      refine lv_astore (lv' := [(5, .ref q), (0, .ref x), (1, .int p0), (2, .int p1), (3, .int p2), (4, .ref ou)]) hx hb dL_join_15 hl (by decide) rfl (fun ls hl => ?_)
      refine lv_iconst (v := nI 1) hx hb dL_join_17 (by decide) ?_
      have hc8 : (xs_join S W p0 p1 p2).1 = 1 := hc9
      exact q_iret C hP hS ⟨by rw [hc8]; rfl, fo, j1, fun z => absurd (hc8.symm.trans z) (by decide)⟩ (by omega) dL_join_18
    · refine q_catch (hh := [(0, 12, 15, 13), (0, 12, 19, 18), (0, 12, 23, 31)]) C [(0, 12, 15, 13)] [(0, 12, 23, 31)] (0, 12, 19, 18) rfl (by decide) (by decide) g238 (by decide) (fun z hz => by simp only [List.mem_cons, List.not_mem_nil, or_false] at hz; subst hz; exact ⟨by decide, "java/lang/IllegalArgumentException", by decide, by decide, g99⟩) hc1 hc2 hc3 ?_
      have eb := xb_join (show (xs_join S W p0 p1 p2).1 ≠ 0 by rw [hc9]; decide)
      have j1 : JZ cy hX x y ou fo gr (n + 1) ((xs_join S W p0 p1 p2).2.2.1) ((xs_join S W p0 p1 p2).2.2.2) S W := by rw [eb]; exact JZ.cls hz hQ hA hou hmk hEd hrn hdj hno hpo
      refine lv_astore (lv' := [(5, .ref q), (0, .ref x), (1, .int p0), (2, .int p1), (3, .int p2), (4, .ref ou)]) hx hb dL_join_19 hl (by decide) rfl (fun ls hl => ?_)
      refine lv_iconst (v := nI 2) hx hb dL_join_21 (by decide) ?_
      have hc8 : (xs_join S W p0 p1 p2).1 = 2 := hc9
      exact q_iret C hP hS ⟨by rw [hc8]; rfl, fo, j1, fun z => absurd (hc8.symm.trans z) (by decide)⟩ (by omega) dL_join_22
    · refine q_catch (hh := [(0, 12, 15, 13), (0, 12, 19, 18), (0, 12, 23, 31)]) C [(0, 12, 15, 13), (0, 12, 19, 18)] [] (0, 12, 23, 31) rfl (by decide) (by decide) g280 (by decide) (fun z hz => by simp only [List.mem_cons, List.not_mem_nil, or_false] at hz; rcases hz with rfl | rfl <;> first | exact ⟨by decide, "java/lang/IllegalArgumentException", by decide, by decide, g99⟩ | exact ⟨by decide, "java/lang/IllegalStateException", by decide, by decide, g238⟩) hc1 hc2 hc3 ?_
      have eb := xb_join (show (xs_join S W p0 p1 p2).1 ≠ 0 by rw [hc9]; decide)
      have j1 : JZ cy hX x y ou fo gr (n + 1) ((xs_join S W p0 p1 p2).2.2.1) ((xs_join S W p0 p1 p2).2.2.2) S W := by rw [eb]; exact JZ.cls hz hQ hA hou hmk hEd hrn hdj hno hpo
      refine lv_astore (lv' := [(5, .ref q), (0, .ref x), (1, .int p0), (2, .int p1), (3, .int p2), (4, .ref ou)]) hx hb dL_join_23 hl (by decide) rfl (fun ls hl => ?_)
      refine lv_iconst (v := nI 3) hx hb dL_join_25 (by decide) ?_
      have hc8 : (xs_join S W p0 p1 p2).1 = 3 := hc9
      exact q_iret C hP hS ⟨by rw [hc8]; rfl, fo, j1, fun z => absurd (hc8.symm.trans z) (by decide)⟩ (by omega) dL_join_26
  · obtain ⟨hc0, rfl, hpo⟩ := hq
    have j1 : JZ cy hh1 x y ou fo gr (n + 1) ((xs_join S W p0 p1 p2).2.2.1) ((xs_join S W p0 p1 p2).2.2.2) S W := JZ.cls hz hQ hA hou hmk hEd hrn hdj hno hpo
    have hou1 := j1.ouf
    refine lv_i2l hx hb dL_join_10 rfl ?_
    refine q_lastN C hP hS hou1 (by omega) (by omega) dL_join_11 (fun H locs hP hS => ?_)
    replace hou1 : (qs hh1 ou (.inl (cy 1, 1, .inr (.inl (vp_updL fo 0 ((((xs_join S W p0 p1 p2).2.1)).toInt64)))))) ou = some (.inl (cy 1, 1, .inr (.inl (vp_updL fo 0 ((((xs_join S W p0 p1 p2).2.1)).toInt64))))) := qs_self
    refine lv_goto (tgt := 27) hx hb dL_join_12 (by decide) ?_
    refine lv_iconst (v := nI 0) hx hb dL_join_27 (by decide) ?_
    have hc8 : (xs_join S W p0 p1 p2).1 = 0 := hc0
    obtain ⟨K9, dp9, hp9⟩ : PI gr (n + 1) ((xs_join S W p0 p1 p2).2.2.1) ((xs_join S W p0 p1 p2).2.2.2) := hp.join
    have j2 := j1.out (f' := vp_updL fo 0 (((xs_join S W p0 p1 p2).2.1).toInt64)) hp9.hV
    exact q_iret C hP hS ⟨by rw [hc8]; rfl, vp_updL fo 0 (((xs_join S W p0 p1 p2).2.1).toInt64), j2, fun _ => rfl⟩ (by omega) dL_join_28
theorem dL_meet_12 : decode cL_meet 12 = .ok (.i2l, 1) := by decide +kernel
theorem dL_meet_13 : decode cL_meet 13 = .ok (.lastore, 1) := by decide +kernel
theorem dL_meet_14 : decode cL_meet 14 = .ok (.goto 15, 3) := by decide +kernel
theorem dL_meet_25 : decode cL_meet 25 = .ok (.astore 6, 2) := by decide +kernel
theorem dL_meet_27 : decode cL_meet 27 = .ok (.iconst 3, 1) := by decide +kernel
theorem dL_meet_28 : decode cL_meet 28 = .ok (.ireturn, 1) := by decide +kernel
theorem dL_meet_29 : decode cL_meet 29 = .ok (.iconst 0, 1) := by decide +kernel
theorem dL_meet_30 : decode cL_meet 30 = .ok (.ireturn, 1) := by decide +kernel
set_option maxRecDepth 100000 in
set_option maxHeartbeats 4000000 in
theorem zl_meet (l : Launch) (D : va_G) (cy : Nat → ClassId) (N0 : Nat) (h : qH) (x y ou : Nat) (fo : Nat → Int64) (gr : Int32) (n : Nat) (S : Nat → qSlot) (W : qWo) (m0 : Nat) (p0 : Int32) (p1 : Int32) (p2 : Int32) (p3 : Int32) (j : JZ cy h x y ou fo gr n S W S W) (hp : PI gr n S W) (hn : n < 64) (hm0 : oMq W.1 = nI m0) (hm9 : m0 ≤ 20000) : qCW l D cy N0 yL_meet cL_meet 7 (some .int) [(0, 14, 17, 13), (0, 14, 21, 18), (0, 14, 25, 31)] 1600 46000 (1200 + 212 * n + (W.2.1.1 - W.2.1.1)) (12200 + n * rMs n 7 + 10 * (W.2.1.1 - W.2.1.1)) [.ref x, .int p0, .int p1, .int p2, .int p3, .ref ou] h (fun v h' => v = some (.int (xs_meet S p0 p1 p2 p3 m0).1) ∧ ∃ fo' : Nat → Int64, JZ cy h' x y ou fo' gr (n + 1) ((xs_meet S p0 p1 p2 p3 m0).2.1) ((oMv W.1 (nI (xs_meet S p0 p1 p2 p3 m0).2.2.2), W.2)) S W ∧ ((xs_meet S p0 p1 p2 p3 m0).1 = 0 → fo' 0 = ((xs_meet S p0 p1 p2 p3 m0).2.2.1).toInt64)) := by
  refine q_ofWH (by decide) (by exact Nat.le_of_ble_eq_true rfl) ?_
  intro p e s m below meth c ls C hP hl
  have hx := C.1
  have hb := C.2.1
  have hS : va_S (qA N0) s.heap s.heap [] := va_S.rf
  have hl : lv_has ls 7 [(0, .ref x), (1, .int p0), (2, .int p1), (3, .int p2), (4, .int p3), (5, .ref ou)] := hl
  have j0 := j
  obtain ⟨mk, sl, bl, kr, vr, Ed, fs, bd, br, eb, Im, Xb, g, A, ra, rk, rv, pa, ad, hz, hQ, hA, hou, hmk, hEd, hrn, hdj, hno⟩ := j
  obtain ⟨K, dp, hpi⟩ := id hp
  have hm0 := hm0
  refine lv_aload hx hb dL_meet_0 (lv_at hl 5 rfl) ?_
  refine lv_iconst (v := nI 0) hx hb dL_meet_2 (by decide) ?_
  refine lv_aload_n hx hb dL_meet_3 rfl (lv_at hl 0 rfl) ?_
  refine lv_iload_n hx hb dL_meet_4 rfl (lv_at hl 1 rfl) ?_
  refine lv_iload_n hx hb dL_meet_5 rfl (lv_at hl 2 rfl) ?_
  refine lv_iload_n hx hb dL_meet_6 rfl (lv_at hl 3 rfl) ?_
  refine lv_iload hx hb dL_meet_7 (lv_at hl 4 rfl) ?_
  refine q_callV (rest := [.int (nI 0), .ref ou]) C (z_meet l D cy N0 h x mk sl bl kr vr Ed fs bd br eb Im Xb g S W (n + 2) 1 (S 999).2.2.1 dp gr m0 n p0 p1 p2 p3 hz hpi.hI hpi.hLn hpi.hV hmk hpi.hAl hpi.h64 (by omega) (by omega) hm0 hm9) kX6_meet g881 g882 rfl g883 g1 hP hS hz.1.1 (by first | decide | omega) hl.1 rfl (by simp [q_catrf, q_cati, q_catl, q_cata, q_catn]) (by first | decide | omega) dL_meet_9 (fun q ce E hX H locs hE hP hS hc1 hc2 hc3 => ?_) (fun v hh1 H locs hq hP hS => ?_)
  · obtain ⟨hE0, hpo⟩ := hE
    simp only [zXc, List.mem_cons, Prod.mk.injEq, List.not_mem_nil, or_false] at hE0
    rcases hE0 with ⟨hc9, rfl⟩ | ⟨hc9, rfl⟩ | ⟨hc9, rfl⟩
    · refine q_catch (hh := [(0, 14, 17, 13), (0, 14, 21, 18), (0, 14, 25, 31)]) C [] [(0, 14, 21, 18), (0, 14, 25, 31)] (0, 14, 17, 13) rfl (by decide) (by decide) g99 (by decide) (fun z hz => by cases hz) hc1 hc2 hc3 ?_
      have eb := xb_meet (show (xs_meet S p0 p1 p2 p3 m0).1 ≠ 0 by rw [hc9]; decide)
      have j1 : JZ cy hX x y ou fo gr (n + 1) ((xs_meet S p0 p1 p2 p3 m0).2.1) ((oMv W.1 (nI (xs_meet S p0 p1 p2 p3 m0).2.2.2), W.2)) S W := by rw [eb.1]; rw [eb.2, show (oMv W.1 (nI m0), W.2) = W by rw [← hm0]; rfl]; exact JZ.cls hz hQ hA hou hmk hEd hrn hdj hno hpo
      refine lv_astore (lv' := [(6, .ref q), (0, .ref x), (1, .int p0), (2, .int p1), (3, .int p2), (4, .int p3), (5, .ref ou)]) hx hb dL_meet_17 hl (by decide) rfl (fun ls hl => ?_)
      refine lv_iconst (v := nI 1) hx hb dL_meet_19 (by decide) ?_
      have hc8 : (xs_meet S p0 p1 p2 p3 m0).1 = 1 := hc9
      exact q_iret C hP hS ⟨by rw [hc8]; rfl, fo, j1, fun z => absurd (hc8.symm.trans z) (by decide)⟩ (by omega) dL_meet_20
    · refine q_catch (hh := [(0, 14, 17, 13), (0, 14, 21, 18), (0, 14, 25, 31)]) C [(0, 14, 17, 13)] [(0, 14, 25, 31)] (0, 14, 21, 18) rfl (by decide) (by decide) g238 (by decide) (fun z hz => by simp only [List.mem_cons, List.not_mem_nil, or_false] at hz; subst hz; exact ⟨by decide, "java/lang/IllegalArgumentException", by decide, by decide, g99⟩) hc1 hc2 hc3 ?_
      have eb := xb_meet (show (xs_meet S p0 p1 p2 p3 m0).1 ≠ 0 by rw [hc9]; decide)
      have j1 : JZ cy hX x y ou fo gr (n + 1) ((xs_meet S p0 p1 p2 p3 m0).2.1) ((oMv W.1 (nI (xs_meet S p0 p1 p2 p3 m0).2.2.2), W.2)) S W := by rw [eb.1]; rw [eb.2, show (oMv W.1 (nI m0), W.2) = W by rw [← hm0]; rfl]; exact JZ.cls hz hQ hA hou hmk hEd hrn hdj hno hpo
      refine lv_astore (lv' := [(6, .ref q), (0, .ref x), (1, .int p0), (2, .int p1), (3, .int p2), (4, .int p3), (5, .ref ou)]) hx hb dL_meet_21 hl (by decide) rfl (fun ls hl => ?_)
      refine lv_iconst (v := nI 2) hx hb dL_meet_23 (by decide) ?_
      have hc8 : (xs_meet S p0 p1 p2 p3 m0).1 = 2 := hc9
      exact q_iret C hP hS ⟨by rw [hc8]; rfl, fo, j1, fun z => absurd (hc8.symm.trans z) (by decide)⟩ (by omega) dL_meet_24
    · refine q_catch (hh := [(0, 14, 17, 13), (0, 14, 21, 18), (0, 14, 25, 31)]) C [(0, 14, 17, 13), (0, 14, 21, 18)] [] (0, 14, 25, 31) rfl (by decide) (by decide) g280 (by decide) (fun z hz => by simp only [List.mem_cons, List.not_mem_nil, or_false] at hz; rcases hz with rfl | rfl <;> first | exact ⟨by decide, "java/lang/IllegalArgumentException", by decide, by decide, g99⟩ | exact ⟨by decide, "java/lang/IllegalStateException", by decide, by decide, g238⟩) hc1 hc2 hc3 ?_
      have eb := xb_meet (show (xs_meet S p0 p1 p2 p3 m0).1 ≠ 0 by rw [hc9]; decide)
      have j1 : JZ cy hX x y ou fo gr (n + 1) ((xs_meet S p0 p1 p2 p3 m0).2.1) ((oMv W.1 (nI (xs_meet S p0 p1 p2 p3 m0).2.2.2), W.2)) S W := by rw [eb.1]; rw [eb.2, show (oMv W.1 (nI m0), W.2) = W by rw [← hm0]; rfl]; exact JZ.cls hz hQ hA hou hmk hEd hrn hdj hno hpo
      refine lv_astore (lv' := [(6, .ref q), (0, .ref x), (1, .int p0), (2, .int p1), (3, .int p2), (4, .int p3), (5, .ref ou)]) hx hb dL_meet_25 hl (by decide) rfl (fun ls hl => ?_)
      refine lv_iconst (v := nI 3) hx hb dL_meet_27 (by decide) ?_
      have hc8 : (xs_meet S p0 p1 p2 p3 m0).1 = 3 := hc9
      exact q_iret C hP hS ⟨by rw [hc8]; rfl, fo, j1, fun z => absurd (hc8.symm.trans z) (by decide)⟩ (by omega) dL_meet_28
  · obtain ⟨hc0, rfl, hpo⟩ := hq
    have j1 : JZ cy hh1 x y ou fo gr (n + 1) ((xs_meet S p0 p1 p2 p3 m0).2.1) ((oMv W.1 (nI (xs_meet S p0 p1 p2 p3 m0).2.2.2), W.2)) S W := JZ.cls hz hQ hA hou hmk hEd hrn hdj hno hpo
    have hou1 := j1.ouf
    refine lv_i2l hx hb dL_meet_12 rfl ?_
    refine q_lastN C hP hS hou1 (by omega) (by omega) dL_meet_13 (fun H locs hP hS => ?_)
    replace hou1 : (qs hh1 ou (.inl (cy 1, 1, .inr (.inl (vp_updL fo 0 ((((xs_meet S p0 p1 p2 p3 m0).2.2.1)).toInt64)))))) ou = some (.inl (cy 1, 1, .inr (.inl (vp_updL fo 0 ((((xs_meet S p0 p1 p2 p3 m0).2.2.1)).toInt64))))) := qs_self
    refine lv_goto (tgt := 29) hx hb dL_meet_14 (by decide) ?_
    refine lv_iconst (v := nI 0) hx hb dL_meet_29 (by decide) ?_
    have hc8 : (xs_meet S p0 p1 p2 p3 m0).1 = 0 := hc0
    obtain ⟨K9, dp9, hp9⟩ : PI gr (n + 1) ((xs_meet S p0 p1 p2 p3 m0).2.1) ((oMv W.1 (nI (xs_meet S p0 p1 p2 p3 m0).2.2.2), W.2)) := (hp.meet hm0 hm9)
    have j2 := j1.out (f' := vp_updL fo 0 (((xs_meet S p0 p1 p2 p3 m0).2.2.1).toInt64)) hp9.hV
    exact q_iret C hP hS ⟨by rw [hc8]; rfl, vp_updL fo 0 (((xs_meet S p0 p1 p2 p3 m0).2.2.1).toInt64), j2, fun _ => rfl⟩ (by omega) dL_meet_30
theorem dL_shape_7 : decode cL_shape 7 = .ok (.i2l, 1) := by decide +kernel
theorem dL_shape_8 : decode cL_shape 8 = .ok (.lastore, 1) := by decide +kernel
theorem dL_shape_9 : decode cL_shape 9 = .ok (.goto 9, 3) := by decide +kernel
theorem dL_shape_18 : decode cL_shape 18 = .ok (.iconst 0, 1) := by decide +kernel
theorem dL_shape_19 : decode cL_shape 19 = .ok (.ireturn, 1) := by decide +kernel
set_option maxRecDepth 100000 in
set_option maxHeartbeats 4000000 in
theorem zl_shape (l : Launch) (D : va_G) (cy : Nat → ClassId) (N0 : Nat) (h : qH) (x y ou : Nat) (fo : Nat → Int64) (gr : Int32) (n : Nat) (S : Nat → qSlot) (W : qWo) (p0 : Int32) (j : JZ cy h x y ou fo gr n S W S W) (hp : PI gr n S W) (hn : n < 64) : qCW l D cy N0 yL_shape cL_shape 4 (some .int) [(0, 9, 12, 13), (0, 9, 15, 18)] 1600 46000 (1200 + 212 * n + (W.2.1.1 - W.2.1.1)) (12200 + n * rMs n 7 + 10 * (W.2.1.1 - W.2.1.1)) [.ref x, .int p0, .ref ou] h (fun v h' => v = some (.int (xs_shape gr S p0).1) ∧ ∃ fo' : Nat → Int64, JZ cy h' x y ou fo' gr (n + 1) (S) (W) S W ∧ ((xs_shape gr S p0).1 = 0 → fo' 0 = ((xs_shape gr S p0).2).toInt64)) := by
  refine q_ofWH (by decide) (by exact Nat.le_of_ble_eq_true rfl) ?_
  intro p e s m below meth c ls C hP hl
  have hx := C.1
  have hb := C.2.1
  have hS : va_S (qA N0) s.heap s.heap [] := va_S.rf
  have hl : lv_has ls 4 [(0, .ref x), (1, .int p0), (2, .ref ou)] := hl
  have j0 := j
  obtain ⟨mk, sl, bl, kr, vr, Ed, fs, bd, br, eb, Im, Xb, g, A, ra, rk, rv, pa, ad, hz, hQ, hA, hou, hmk, hEd, hrn, hdj, hno⟩ := j
  obtain ⟨K, dp, hpi⟩ := id hp
  refine lv_aload_n hx hb dL_shape_0 rfl (lv_at hl 2 rfl) ?_
  refine lv_iconst (v := nI 0) hx hb dL_shape_1 (by decide) ?_
  refine lv_aload_n hx hb dL_shape_2 rfl (lv_at hl 0 rfl) ?_
  refine lv_iload_n hx hb dL_shape_3 rfl (lv_at hl 1 rfl) ?_
  refine q_callV (rest := [.int (nI 0), .ref ou]) C (z_shape l D cy N0 h x mk sl bl kr vr Ed fs bd br eb Im Xb g S W (n + 2) 1 (S 999).2.2.1 dp gr p0 hz hpi.hI hpi.hLn hpi.hV hmk) kX6_shape g892 g893 rfl g894 g1 hP hS hz.1.1 (by first | decide | omega) hl.1 rfl (by simp [q_catrf, q_cati, q_catl, q_cata, q_catn]) (by first | decide | omega) dL_shape_4 (fun q ce E hX H locs hE hP hS hc1 hc2 hc3 => ?_) (fun v hh1 H locs hq hP hS => ?_)
  · obtain ⟨hE0, hpo⟩ := hE
    simp only [zXc, List.mem_cons, Prod.mk.injEq, List.not_mem_nil, or_false] at hE0
    rcases hE0 with ⟨hc9, rfl⟩ | ⟨hc9, rfl⟩
    · refine q_catch (hh := [(0, 9, 12, 13), (0, 9, 15, 18)]) C [] [(0, 9, 15, 18)] (0, 9, 12, 13) rfl (by decide) (by decide) g99 (by decide) (fun z hz => by cases hz) hc1 hc2 hc3 ?_
      have j1 : JZ cy hX x y ou fo gr (n + 1) (S) (W) S W := by exact JZ.cls hz hQ hA hou hmk hEd hrn hdj hno hpo
      refine lv_astore_n (lv' := [(3, .ref q), (0, .ref x), (1, .int p0), (2, .ref ou)]) hx hb dL_shape_12 rfl hl (by decide) rfl (fun ls hl => ?_)
      refine lv_iconst (v := nI 1) hx hb dL_shape_13 (by decide) ?_
      have hc8 : (xs_shape gr S p0).1 = 1 := hc9
      exact q_iret C hP hS ⟨by rw [hc8]; rfl, fo, j1, fun z => absurd (hc8.symm.trans z) (by decide)⟩ (by omega) dL_shape_14
    · refine q_catch (hh := [(0, 9, 12, 13), (0, 9, 15, 18)]) C [(0, 9, 12, 13)] [] (0, 9, 15, 18) rfl (by decide) (by decide) g238 (by decide) (fun z hz => by simp only [List.mem_cons, List.not_mem_nil, or_false] at hz; subst hz; exact ⟨by decide, "java/lang/IllegalArgumentException", by decide, by decide, g99⟩) hc1 hc2 hc3 ?_
      have j1 : JZ cy hX x y ou fo gr (n + 1) (S) (W) S W := by exact JZ.cls hz hQ hA hou hmk hEd hrn hdj hno hpo
      refine lv_astore_n (lv' := [(3, .ref q), (0, .ref x), (1, .int p0), (2, .ref ou)]) hx hb dL_shape_15 rfl hl (by decide) rfl (fun ls hl => ?_)
      refine lv_iconst (v := nI 2) hx hb dL_shape_16 (by decide) ?_
      have hc8 : (xs_shape gr S p0).1 = 2 := hc9
      exact q_iret C hP hS ⟨by rw [hc8]; rfl, fo, j1, fun z => absurd (hc8.symm.trans z) (by decide)⟩ (by omega) dL_shape_17
  · obtain ⟨hc0, rfl, hpo⟩ := hq
    have j1 : JZ cy hh1 x y ou fo gr (n + 1) (S) (W) S W := JZ.cls hz hQ hA hou hmk hEd hrn hdj hno hpo
    have hou1 := j1.ouf
    refine lv_i2l hx hb dL_shape_7 rfl ?_
    refine q_lastN C hP hS hou1 (by omega) (by omega) dL_shape_8 (fun H locs hP hS => ?_)
    replace hou1 : (qs hh1 ou (.inl (cy 1, 1, .inr (.inl (vp_updL fo 0 ((((xs_shape gr S p0).2)).toInt64)))))) ou = some (.inl (cy 1, 1, .inr (.inl (vp_updL fo 0 ((((xs_shape gr S p0).2)).toInt64))))) := qs_self
    refine lv_goto (tgt := 18) hx hb dL_shape_9 (by decide) ?_
    refine lv_iconst (v := nI 0) hx hb dL_shape_18 (by decide) ?_
    have hc8 : (xs_shape gr S p0).1 = 0 := hc0
    obtain ⟨K9, dp9, hp9⟩ : PI gr (n + 1) (S) (W) := hp.up
    have j2 := j1.out (f' := vp_updL fo 0 (((xs_shape gr S p0).2).toInt64)) hp9.hV
    exact q_iret C hP hS ⟨by rw [hc8]; rfl, vp_updL fo 0 (((xs_shape gr S p0).2).toInt64), j2, fun _ => rfl⟩ (by omega) dL_shape_19
theorem dL_same_8 : decode cL_same 8 = .ok (.ifCond .eq 7, 3) := by decide +kernel
theorem dL_same_11 : decode cL_same 11 = .ok (.lconst 1, 1) := by decide +kernel
theorem dL_same_12 : decode cL_same 12 = .ok (.goto 4, 3) := by decide +kernel
theorem dL_same_15 : decode cL_same 15 = .ok (.lconst 0, 1) := by decide +kernel
theorem dL_same_16 : decode cL_same 16 = .ok (.lastore, 1) := by decide +kernel
theorem dL_same_17 : decode cL_same 17 = .ok (.goto 15, 3) := by decide +kernel
theorem dL_same_28 : decode cL_same 28 = .ok (.astore 4, 2) := by decide +kernel
theorem dL_same_30 : decode cL_same 30 = .ok (.iconst 3, 1) := by decide +kernel
theorem dL_same_31 : decode cL_same 31 = .ok (.ireturn, 1) := by decide +kernel
theorem dL_same_32 : decode cL_same 32 = .ok (.iconst 0, 1) := by decide +kernel
theorem dL_same_33 : decode cL_same 33 = .ok (.ireturn, 1) := by decide +kernel
set_option maxRecDepth 100000 in
set_option maxHeartbeats 4000000 in
theorem zl_same (l : Launch) (D : va_G) (cy : Nat → ClassId) (N0 : Nat) (h : qH) (x y ou : Nat) (fo : Nat → Int64) (gr : Int32) (n : Nat) (S : Nat → qSlot) (W : qWo) (m0 : Nat) (p0 : Int32) (p1 : Int32) (j : JZ cy h x y ou fo gr n S W S W) (hp : PI gr n S W) (hn : n < 64) (hm0 : oMq W.1 = nI m0) (hm9 : m0 ≤ 20000) : qCW l D cy N0 yL_same cL_same 5 (some .int) [(0, 17, 20, 13), (0, 17, 24, 18), (0, 17, 28, 31)] 1600 46000 (1200 + 212 * n + (W.2.1.1 - W.2.1.1)) (12200 + n * rMs n 7 + 10 * (W.2.1.1 - W.2.1.1)) [.ref x, .int p0, .int p1, .ref ou] h (fun v h' => v = some (.int (xs_same S p0 p1 m0).1) ∧ ∃ fo' : Nat → Int64, JZ cy h' x y ou fo' gr (n + 1) (S) ((oMv W.1 (nI (xs_same S p0 p1 m0).2.2), W.2)) S W ∧ ((xs_same S p0 p1 m0).1 = 0 → fo' 0 = ((xs_same S p0 p1 m0).2.1).toInt64)) := by
  refine q_ofWH (by decide) (by exact Nat.le_of_ble_eq_true rfl) ?_
  intro p e s m below meth c ls C hP hl
  have hx := C.1
  have hb := C.2.1
  have hS : va_S (qA N0) s.heap s.heap [] := va_S.rf
  have hl : lv_has ls 5 [(0, .ref x), (1, .int p0), (2, .int p1), (3, .ref ou)] := hl
  have j0 := j
  obtain ⟨mk, sl, bl, kr, vr, Ed, fs, bd, br, eb, Im, Xb, g, A, ra, rk, rv, pa, ad, hz, hQ, hA, hou, hmk, hEd, hrn, hdj, hno⟩ := j
  obtain ⟨K, dp, hpi⟩ := id hp
  have hm0 := hm0
  refine lv_aload_n hx hb dL_same_0 rfl (lv_at hl 3 rfl) ?_
  refine lv_iconst (v := nI 0) hx hb dL_same_1 (by decide) ?_
  refine lv_aload_n hx hb dL_same_2 rfl (lv_at hl 0 rfl) ?_
  refine lv_iload_n hx hb dL_same_3 rfl (lv_at hl 1 rfl) ?_
  refine lv_iload_n hx hb dL_same_4 rfl (lv_at hl 2 rfl) ?_
  refine q_callV (rest := [.int (nI 0), .ref ou]) C (z_same l D cy N0 h x mk sl bl kr vr Ed fs bd br eb Im Xb g S W (n + 2) 1 (S 999).2.2.1 dp m0 p0 p1 hz hpi.hI hpi.hLn hpi.hV hm0 hm9 hQ.h0v) kX6_same g903 g904 rfl g905 g1 hP hS hz.1.1 (by first | decide | omega) hl.1 rfl (by simp [q_catrf, q_cati, q_catl, q_cata, q_catn]) (by first | decide | omega) dL_same_5 (fun q ce E hX H locs hE hP hS hc1 hc2 hc3 => ?_) (fun v hh1 H locs hq hP hS => ?_)
  · obtain ⟨hE0, hpo⟩ := hE
    simp only [zXc, List.mem_cons, Prod.mk.injEq, List.not_mem_nil, or_false] at hE0
    rcases hE0 with ⟨hc9, rfl⟩ | ⟨hc9, rfl⟩ | ⟨hc9, rfl⟩
    · refine q_catch (hh := [(0, 17, 20, 13), (0, 17, 24, 18), (0, 17, 28, 31)]) C [] [(0, 17, 24, 18), (0, 17, 28, 31)] (0, 17, 20, 13) rfl (by decide) (by decide) g99 (by decide) (fun z hz => by cases hz) hc1 hc2 hc3 ?_
      have eb := xb_same (show (xs_same S p0 p1 m0).1 ≠ 0 by rw [hc9]; decide)
      have j1 : JZ cy hX x y ou fo gr (n + 1) (S) ((oMv W.1 (nI (xs_same S p0 p1 m0).2.2), W.2)) S W := by rw [eb, show (oMv W.1 (nI m0), W.2) = W by rw [← hm0]; rfl]; exact JZ.cls hz hQ hA hou hmk hEd hrn hdj hno hpo
      refine lv_astore (lv' := [(4, .ref q), (0, .ref x), (1, .int p0), (2, .int p1), (3, .ref ou)]) hx hb dL_same_20 hl (by decide) rfl (fun ls hl => ?_)
      refine lv_iconst (v := nI 1) hx hb dL_same_22 (by decide) ?_
      have hc8 : (xs_same S p0 p1 m0).1 = 1 := hc9
      exact q_iret C hP hS ⟨by rw [hc8]; rfl, fo, j1, fun z => absurd (hc8.symm.trans z) (by decide)⟩ (by omega) dL_same_23
    · refine q_catch (hh := [(0, 17, 20, 13), (0, 17, 24, 18), (0, 17, 28, 31)]) C [(0, 17, 20, 13)] [(0, 17, 28, 31)] (0, 17, 24, 18) rfl (by decide) (by decide) g238 (by decide) (fun z hz => by simp only [List.mem_cons, List.not_mem_nil, or_false] at hz; subst hz; exact ⟨by decide, "java/lang/IllegalArgumentException", by decide, by decide, g99⟩) hc1 hc2 hc3 ?_
      have eb := xb_same (show (xs_same S p0 p1 m0).1 ≠ 0 by rw [hc9]; decide)
      have j1 : JZ cy hX x y ou fo gr (n + 1) (S) ((oMv W.1 (nI (xs_same S p0 p1 m0).2.2), W.2)) S W := by rw [eb, show (oMv W.1 (nI m0), W.2) = W by rw [← hm0]; rfl]; exact JZ.cls hz hQ hA hou hmk hEd hrn hdj hno hpo
      refine lv_astore (lv' := [(4, .ref q), (0, .ref x), (1, .int p0), (2, .int p1), (3, .ref ou)]) hx hb dL_same_24 hl (by decide) rfl (fun ls hl => ?_)
      refine lv_iconst (v := nI 2) hx hb dL_same_26 (by decide) ?_
      have hc8 : (xs_same S p0 p1 m0).1 = 2 := hc9
      exact q_iret C hP hS ⟨by rw [hc8]; rfl, fo, j1, fun z => absurd (hc8.symm.trans z) (by decide)⟩ (by omega) dL_same_27
    · refine q_catch (hh := [(0, 17, 20, 13), (0, 17, 24, 18), (0, 17, 28, 31)]) C [(0, 17, 20, 13), (0, 17, 24, 18)] [] (0, 17, 28, 31) rfl (by decide) (by decide) g280 (by decide) (fun z hz => by simp only [List.mem_cons, List.not_mem_nil, or_false] at hz; rcases hz with rfl | rfl <;> first | exact ⟨by decide, "java/lang/IllegalArgumentException", by decide, by decide, g99⟩ | exact ⟨by decide, "java/lang/IllegalStateException", by decide, by decide, g238⟩) hc1 hc2 hc3 ?_
      have eb := xb_same (show (xs_same S p0 p1 m0).1 ≠ 0 by rw [hc9]; decide)
      have j1 : JZ cy hX x y ou fo gr (n + 1) (S) ((oMv W.1 (nI (xs_same S p0 p1 m0).2.2), W.2)) S W := by rw [eb, show (oMv W.1 (nI m0), W.2) = W by rw [← hm0]; rfl]; exact JZ.cls hz hQ hA hou hmk hEd hrn hdj hno hpo
      refine lv_astore (lv' := [(4, .ref q), (0, .ref x), (1, .int p0), (2, .int p1), (3, .ref ou)]) hx hb dL_same_28 hl (by decide) rfl (fun ls hl => ?_)
      refine lv_iconst (v := nI 3) hx hb dL_same_30 (by decide) ?_
      have hc8 : (xs_same S p0 p1 m0).1 = 3 := hc9
      exact q_iret C hP hS ⟨by rw [hc8]; rfl, fo, j1, fun z => absurd (hc8.symm.trans z) (by decide)⟩ (by omega) dL_same_31
  · obtain ⟨hc0, rfl, hpo⟩ := hq
    have j1 : JZ cy hh1 x y ou fo gr (n + 1) (S) ((oMv W.1 (nI (xs_same S p0 p1 m0).2.2), W.2)) S W := JZ.cls hz hQ hA hou hmk hEd hrn hdj hno hpo
    have hou1 := j1.ouf
    have h01 := xs_same01 (S := S) (p0 := p0) (p1 := p1) (m := m0)
    rcases h01 with h01 | h01
    · rw [h01]
      refine lv_if_eq (tgt := 15) hx hb dL_same_8 (by decide) (fun c8 => ?_) (fun c8 => ?_)
      · replace c8 : 0 = 0 := (nI_eq (a := 0) (b := 0) (by omega) (by omega)).mp c8
        refine lv_lconst (v := 0) hx hb dL_same_15 (by decide) ?_
        refine q_lastN C hP hS hou1 (by omega) (by omega) dL_same_16 (fun H locs hP hS => ?_)
        replace hou1 : (qs hh1 ou (.inl (cy 1, 1, .inr (.inl (vp_updL fo 0 0))))) ou = some (.inl (cy 1, 1, .inr (.inl (vp_updL fo 0 0)))) := qs_self
        refine lv_goto (tgt := 32) hx hb dL_same_17 (by decide) ?_
        refine lv_iconst (v := nI 0) hx hb dL_same_32 (by decide) ?_
        have hc8 : (xs_same S p0 p1 m0).1 = 0 := hc0
        obtain ⟨K9, dp9, hp9⟩ : PI gr (n + 1) (S) ((oMv W.1 (nI (xs_same S p0 p1 m0).2.2), W.2)) := (hp.same hm0 hm9)
        have j2 := j1.out (f' := vp_updL fo 0 0) hp9.hV
        have ea : ((xs_same S p0 p1 m0).2.1).toInt64 = 0 := by rw [h01]; rfl
        exact q_iret C hP hS ⟨by rw [hc8]; rfl, vp_updL fo 0 0, j2, fun _ => rfl⟩ (by omega) dL_same_33
      · replace c8 : ¬ 0 = 0 := fun zq => c8 ((nI_eq (a := 0) (b := 0) (by omega) (by omega)).mpr zq)
        exfalso; omega
    · rw [h01]
      refine lv_if_eq (tgt := 15) hx hb dL_same_8 (by decide) (fun c8 => ?_) (fun c8 => ?_)
      · replace c8 : 1 = 0 := (nI_eq (a := 1) (b := 0) (by omega) (by omega)).mp c8
        exfalso; omega
      · replace c8 : ¬ 1 = 0 := fun zq => c8 ((nI_eq (a := 1) (b := 0) (by omega) (by omega)).mpr zq)
        refine lv_lconst (v := 1) hx hb dL_same_11 (by decide) ?_
        refine lv_goto (tgt := 16) hx hb dL_same_12 (by decide) ?_
        refine q_lastN C hP hS hou1 (by omega) (by omega) dL_same_16 (fun H locs hP hS => ?_)
        replace hou1 : (qs hh1 ou (.inl (cy 1, 1, .inr (.inl (vp_updL fo 0 1))))) ou = some (.inl (cy 1, 1, .inr (.inl (vp_updL fo 0 1)))) := qs_self
        refine lv_goto (tgt := 32) hx hb dL_same_17 (by decide) ?_
        refine lv_iconst (v := nI 0) hx hb dL_same_32 (by decide) ?_
        have hc8 : (xs_same S p0 p1 m0).1 = 0 := hc0
        obtain ⟨K9, dp9, hp9⟩ : PI gr (n + 1) (S) ((oMv W.1 (nI (xs_same S p0 p1 m0).2.2), W.2)) := (hp.same hm0 hm9)
        have j2 := j1.out (f' := vp_updL fo 0 1) hp9.hV
        have ea : ((xs_same S p0 p1 m0).2.1).toInt64 = 1 := by rw [h01]; rfl
        exact q_iret C hP hS ⟨by rw [hc8]; rfl, vp_updL fo 0 1, j2, fun _ => rfl⟩ (by omega) dL_same_33
theorem dL_map_9 : decode cL_map 9 = .ok (.goto 19, 3) := by decide +kernel
theorem dL_map_20 : decode cL_map 20 = .ok (.astore 6, 2) := by decide +kernel
theorem dL_map_22 : decode cL_map 22 = .ok (.iconst 3, 1) := by decide +kernel
theorem dL_map_23 : decode cL_map 23 = .ok (.ireturn, 1) := by decide +kernel
theorem dL_map_24 : decode cL_map 24 = .ok (.astore 6, 2) := by decide +kernel
theorem dL_map_26 : decode cL_map 26 = .ok (.iconst 4, 1) := by decide +kernel
theorem dL_map_27 : decode cL_map 27 = .ok (.ireturn, 1) := by decide +kernel
theorem dL_map_28 : decode cL_map 28 = .ok (.iconst 0, 1) := by decide +kernel
theorem dL_map_29 : decode cL_map 29 = .ok (.ireturn, 1) := by decide +kernel
set_option maxRecDepth 100000 in
set_option maxHeartbeats 4000000 in
theorem zl_map (l : Launch) (D : va_G) (cy : Nat → ClassId) (N0 : Nat) (h : qH) (x y ou : Nat) (fo : Nat → Int64) (gr : Int32) (n : Nat) (S : Nat → qSlot) (W : qWo) (p0 : Int32) (p1 : Int32) (p2 : Int32) (p3 : Int64) (j : JZ cy h x y ou fo gr n S W S W) (hp : PI gr n S W) (hn : n < 64) : qCW l D cy N0 yL_map cL_map 7 (some .int) [(0, 9, 12, 13), (0, 9, 16, 18), (0, 9, 20, 47), (0, 9, 24, 31)] 1600 46000 (1200 + 212 * n + ((xs_map S W p0 p1 p2 p3).2.2.2.1.1 - W.2.1.1)) (12200 + n * rMs n 7 + 10 * ((xs_map S W p0 p1 p2 p3).2.2.2.1.1 - W.2.1.1)) [.ref x, .int p0, .int p1, .int p2, .long p3] h (fun v h' => v = some (.int (xs_map S W p0 p1 p2 p3).1) ∧ JZ cy h' x y ou fo gr (n + 1) ((xs_map S W p0 p1 p2 p3).2.1) ((xs_map S W p0 p1 p2 p3).2.2) S W) := by
  refine q_ofWH (by decide) (by exact Nat.le_of_ble_eq_true rfl) ?_
  intro p e s m below meth c ls C hP hl
  have hx := C.1
  have hb := C.2.1
  have hS : va_S (qA N0) s.heap s.heap [] := va_S.rf
  have hl : lv_has ls 7 [(0, .ref x), (1, .int p0), (2, .int p1), (3, .int p2), (4, .long p3)] := hl
  have j0 := j
  obtain ⟨mk, sl, bl, kr, vr, Ed, fs, bd, br, eb, Im, Xb, g, A, ra, rk, rv, pa, ad, hz, hQ, hA, hou, hmk, hEd, hrn, hdj, hno⟩ := j
  obtain ⟨K, dp, hpi⟩ := id hp
  refine lv_aload_n hx hb dL_map_0 rfl (lv_at hl 0 rfl) ?_
  refine lv_iload_n hx hb dL_map_1 rfl (lv_at hl 1 rfl) ?_
  refine lv_iload_n hx hb dL_map_2 rfl (lv_at hl 2 rfl) ?_
  refine lv_iload_n hx hb dL_map_3 rfl (lv_at hl 3 rfl) ?_
  refine lv_lload hx hb dL_map_4 (lv_at hl 4 rfl) ?_
  refine q_callV (rest := []) C (z_map l D cy N0 h x mk sl bl kr vr Ed fs bd br eb Im Xb g S W (n + 2) 0 (S 999).2.2.1 dp 100 p0 p1 p2 p3 hz hpi.hI hpi.hLn hpi.hV hpi.hSt hpi.hDp) kX6_map g935 g936 rfl g937 g1 hP hS hz.1.1 (by first | decide | omega) hl.1 rfl (by decide) (by first | decide | omega) dL_map_6 (fun q ce E hX H locs hE hP hS hc1 hc2 hc3 => ?_) (fun v hh1 H locs hq hP hS => ?_)
  · obtain ⟨hE0, hpo⟩ := hE
    simp only [zXc, List.mem_cons, Prod.mk.injEq, List.not_mem_nil, or_false] at hE0
    rcases hE0 with ⟨hc9, rfl⟩ | ⟨hc9, rfl⟩ | ⟨hc9, rfl⟩ | ⟨hc9, rfl⟩
    · refine q_catch (hh := [(0, 9, 12, 13), (0, 9, 16, 18), (0, 9, 20, 47), (0, 9, 24, 31)]) C [] [(0, 9, 16, 18), (0, 9, 20, 47), (0, 9, 24, 31)] (0, 9, 12, 13) rfl (by decide) (by decide) g99 (by decide) (fun z hz => by cases hz) hc1 hc2 hc3 ?_
      have eb := xb_map (show (xs_map S W p0 p1 p2 p3).1 ≠ 0 by rw [hc9]; decide)
      have j1 : JZ cy hX x y ou fo gr (n + 1) ((xs_map S W p0 p1 p2 p3).2.1) ((xs_map S W p0 p1 p2 p3).2.2) S W := by rw [eb]; exact JZ.cls hz hQ hA hou hmk hEd hrn hdj hno hpo
      refine lv_astore (lv' := [(6, .ref q), (0, .ref x), (1, .int p0), (2, .int p1), (3, .int p2), (4, .long p3)]) hx hb dL_map_12 hl (by decide) rfl (fun ls hl => ?_)
      refine lv_iconst (v := nI 1) hx hb dL_map_14 (by decide) ?_
      have hc8 : (xs_map S W p0 p1 p2 p3).1 = 1 := hc9
      exact q_iret C hP hS ⟨by rw [hc8]; rfl, j1⟩ (by omega) dL_map_15
    · refine q_catch (hh := [(0, 9, 12, 13), (0, 9, 16, 18), (0, 9, 20, 47), (0, 9, 24, 31)]) C [(0, 9, 12, 13)] [(0, 9, 20, 47), (0, 9, 24, 31)] (0, 9, 16, 18) rfl (by decide) (by decide) g238 (by decide) (fun z hz => by simp only [List.mem_cons, List.not_mem_nil, or_false] at hz; subst hz; exact ⟨by decide, "java/lang/IllegalArgumentException", by decide, by decide, g99⟩) hc1 hc2 hc3 ?_
      have eb := xb_map (show (xs_map S W p0 p1 p2 p3).1 ≠ 0 by rw [hc9]; decide)
      have j1 : JZ cy hX x y ou fo gr (n + 1) ((xs_map S W p0 p1 p2 p3).2.1) ((xs_map S W p0 p1 p2 p3).2.2) S W := by rw [eb]; exact JZ.cls hz hQ hA hou hmk hEd hrn hdj hno hpo
      refine lv_astore (lv' := [(6, .ref q), (0, .ref x), (1, .int p0), (2, .int p1), (3, .int p2), (4, .long p3)]) hx hb dL_map_16 hl (by decide) rfl (fun ls hl => ?_)
      refine lv_iconst (v := nI 2) hx hb dL_map_18 (by decide) ?_
      have hc8 : (xs_map S W p0 p1 p2 p3).1 = 2 := hc9
      exact q_iret C hP hS ⟨by rw [hc8]; rfl, j1⟩ (by omega) dL_map_19
    · refine q_catch (hh := [(0, 9, 12, 13), (0, 9, 16, 18), (0, 9, 20, 47), (0, 9, 24, 31)]) C [(0, 9, 12, 13), (0, 9, 16, 18)] [(0, 9, 24, 31)] (0, 9, 20, 47) rfl (by decide) (by decide) g624 (by decide) (fun z hz => by simp only [List.mem_cons, List.not_mem_nil, or_false] at hz; rcases hz with rfl | rfl <;> first | exact ⟨by decide, "java/lang/IllegalArgumentException", by decide, by decide, g99⟩ | exact ⟨by decide, "java/lang/IllegalStateException", by decide, by decide, g238⟩) hc1 hc2 hc3 ?_
      have eb := xb_map (show (xs_map S W p0 p1 p2 p3).1 ≠ 0 by rw [hc9]; decide)
      have j1 : JZ cy hX x y ou fo gr (n + 1) ((xs_map S W p0 p1 p2 p3).2.1) ((xs_map S W p0 p1 p2 p3).2.2) S W := by rw [eb]; exact JZ.cls hz hQ hA hou hmk hEd hrn hdj hno hpo
      refine lv_astore (lv' := [(6, .ref q), (0, .ref x), (1, .int p0), (2, .int p1), (3, .int p2), (4, .long p3)]) hx hb dL_map_20 hl (by decide) rfl (fun ls hl => ?_)
      refine lv_iconst (v := nI 3) hx hb dL_map_22 (by decide) ?_
      have hc8 : (xs_map S W p0 p1 p2 p3).1 = 3 := hc9
      exact q_iret C hP hS ⟨by rw [hc8]; rfl, j1⟩ (by omega) dL_map_23
    · refine q_catch (hh := [(0, 9, 12, 13), (0, 9, 16, 18), (0, 9, 20, 47), (0, 9, 24, 31)]) C [(0, 9, 12, 13), (0, 9, 16, 18), (0, 9, 20, 47)] [] (0, 9, 24, 31) rfl (by decide) (by decide) g280 (by decide) (fun z hz => by simp only [List.mem_cons, List.not_mem_nil, or_false] at hz; rcases hz with rfl | rfl | rfl <;> first | exact ⟨by decide, "java/lang/IllegalArgumentException", by decide, by decide, g99⟩ | exact ⟨by decide, "java/lang/IllegalStateException", by decide, by decide, g238⟩ | exact ⟨by decide, "java/lang/ArithmeticException", by decide, by decide, g624⟩) hc1 hc2 hc3 ?_
      have eb := xb_map (show (xs_map S W p0 p1 p2 p3).1 ≠ 0 by rw [hc9]; decide)
      have j1 : JZ cy hX x y ou fo gr (n + 1) ((xs_map S W p0 p1 p2 p3).2.1) ((xs_map S W p0 p1 p2 p3).2.2) S W := by rw [eb]; exact JZ.cls hz hQ hA hou hmk hEd hrn hdj hno hpo
      refine lv_astore (lv' := [(6, .ref q), (0, .ref x), (1, .int p0), (2, .int p1), (3, .int p2), (4, .long p3)]) hx hb dL_map_24 hl (by decide) rfl (fun ls hl => ?_)
      refine lv_iconst (v := nI 4) hx hb dL_map_26 (by decide) ?_
      have hc8 : (xs_map S W p0 p1 p2 p3).1 = 4 := hc9
      exact q_iret C hP hS ⟨by rw [hc8]; rfl, j1⟩ (by omega) dL_map_27
  · obtain ⟨hc0, rfl, hpo⟩ := hq
    have j1 : JZ cy hh1 x y ou fo gr (n + 1) ((xs_map S W p0 p1 p2 p3).2.1) ((xs_map S W p0 p1 p2 p3).2.2) S W := JZ.cls hz hQ hA hou hmk hEd hrn hdj hno hpo
    refine lv_goto (tgt := 28) hx hb dL_map_9 (by decide) ?_
    refine lv_iconst (v := nI 0) hx hb dL_map_28 (by decide) ?_
    have hc8 : (xs_map S W p0 p1 p2 p3).1 = 0 := hc0
    exact q_iret C hP hS ⟨by rw [hc8]; rfl, j1⟩ (by omega) dL_map_29
theorem dL_filter_9 : decode cL_filter 9 = .ok (.goto 19, 3) := by decide +kernel
theorem dL_filter_20 : decode cL_filter 20 = .ok (.astore 6, 2) := by decide +kernel
theorem dL_filter_22 : decode cL_filter 22 = .ok (.iconst 3, 1) := by decide +kernel
theorem dL_filter_23 : decode cL_filter 23 = .ok (.ireturn, 1) := by decide +kernel
theorem dL_filter_24 : decode cL_filter 24 = .ok (.astore 6, 2) := by decide +kernel
theorem dL_filter_26 : decode cL_filter 26 = .ok (.iconst 4, 1) := by decide +kernel
theorem dL_filter_27 : decode cL_filter 27 = .ok (.ireturn, 1) := by decide +kernel
theorem dL_filter_28 : decode cL_filter 28 = .ok (.iconst 0, 1) := by decide +kernel
theorem dL_filter_29 : decode cL_filter 29 = .ok (.ireturn, 1) := by decide +kernel
set_option maxRecDepth 100000 in
set_option maxHeartbeats 4000000 in
theorem zl_filter (l : Launch) (D : va_G) (cy : Nat → ClassId) (N0 : Nat) (h : qH) (x y ou : Nat) (fo : Nat → Int64) (gr : Int32) (n : Nat) (S : Nat → qSlot) (W : qWo) (p0 : Int32) (p1 : Int32) (p2 : Int32) (p3 : Int64) (j : JZ cy h x y ou fo gr n S W S W) (hp : PI gr n S W) (hn : n < 64) : qCW l D cy N0 yL_filter cL_filter 7 (some .int) [(0, 9, 12, 13), (0, 9, 16, 18), (0, 9, 20, 47), (0, 9, 24, 31)] 1600 46000 (1200 + 212 * n + ((xs_filter (xF S) S W p0 p1 p2 p3).2.2.2.1.1 - W.2.1.1)) (12200 + n * rMs n 7 + 10 * ((xs_filter (xF S) S W p0 p1 p2 p3).2.2.2.1.1 - W.2.1.1)) [.ref x, .int p0, .int p1, .int p2, .long p3] h (fun v h' => v = some (.int (xs_filter (xF S) S W p0 p1 p2 p3).1) ∧ JZ cy h' x y ou fo gr (n + 1) ((xs_filter (xF S) S W p0 p1 p2 p3).2.1) ((xs_filter (xF S) S W p0 p1 p2 p3).2.2) S W) := by
  refine q_ofWH (by decide) (by exact Nat.le_of_ble_eq_true rfl) ?_
  intro p e s m below meth c ls C hP hl
  have hx := C.1
  have hb := C.2.1
  have hS : va_S (qA N0) s.heap s.heap [] := va_S.rf
  have hl : lv_has ls 7 [(0, .ref x), (1, .int p0), (2, .int p1), (3, .int p2), (4, .long p3)] := hl
  have j0 := j
  obtain ⟨mk, sl, bl, kr, vr, Ed, fs, bd, br, eb, Im, Xb, g, A, ra, rk, rv, pa, ad, hz, hQ, hA, hou, hmk, hEd, hrn, hdj, hno⟩ := j
  obtain ⟨K, dp, hpi⟩ := id hp
  refine lv_aload_n hx hb dL_filter_0 rfl (lv_at hl 0 rfl) ?_
  refine lv_iload_n hx hb dL_filter_1 rfl (lv_at hl 1 rfl) ?_
  refine lv_iload_n hx hb dL_filter_2 rfl (lv_at hl 2 rfl) ?_
  refine lv_iload_n hx hb dL_filter_3 rfl (lv_at hl 3 rfl) ?_
  refine lv_lload hx hb dL_filter_4 (lv_at hl 4 rfl) ?_
  refine q_callV (rest := []) C (z_filter l D cy N0 h x mk sl bl kr vr Ed fs bd br eb Im Xb g S W (n + 2) 0 (S 999).2.2.1 dp 100 101 (xF S) n p0 p1 p2 p3 hz hpi.hI hpi.hLn hpi.hV hpi.hSt (z_restAll l D cy N0 x mk sl bl kr vr (nI Ed) (n + 2) (S 999).2.2.1 (xRs S) hpi.2.2.2.2.1 101) hpi.G (by decide) hpi.hDp hpi.h64 (by omega) (by omega)) kX6_filter g950 g951 rfl g952 g1 hP hS hz.1.1 (by first | decide | omega) hl.1 rfl (by decide) (by first | decide | omega) dL_filter_6 (fun q ce E hX H locs hE hP hS hc1 hc2 hc3 => ?_) (fun v hh1 H locs hq hP hS => ?_)
  · obtain ⟨hE0, hpo⟩ := hE
    simp only [zXc, List.mem_cons, Prod.mk.injEq, List.not_mem_nil, or_false] at hE0
    rcases hE0 with ⟨hc9, rfl⟩ | ⟨hc9, rfl⟩ | ⟨hc9, rfl⟩ | ⟨hc9, rfl⟩
    · refine q_catch (hh := [(0, 9, 12, 13), (0, 9, 16, 18), (0, 9, 20, 47), (0, 9, 24, 31)]) C [] [(0, 9, 16, 18), (0, 9, 20, 47), (0, 9, 24, 31)] (0, 9, 12, 13) rfl (by decide) (by decide) g99 (by decide) (fun z hz => by cases hz) hc1 hc2 hc3 ?_
      have eb := xb_filter (show (xs_filter (xF S) S W p0 p1 p2 p3).1 ≠ 0 by rw [hc9]; decide)
      have j1 : JZ cy hX x y ou fo gr (n + 1) ((xs_filter (xF S) S W p0 p1 p2 p3).2.1) ((xs_filter (xF S) S W p0 p1 p2 p3).2.2) S W := by rw [eb]; exact JZ.cls hz hQ hA hou hmk hEd hrn hdj hno hpo
      refine lv_astore (lv' := [(6, .ref q), (0, .ref x), (1, .int p0), (2, .int p1), (3, .int p2), (4, .long p3)]) hx hb dL_filter_12 hl (by decide) rfl (fun ls hl => ?_)
      refine lv_iconst (v := nI 1) hx hb dL_filter_14 (by decide) ?_
      have hc8 : (xs_filter (xF S) S W p0 p1 p2 p3).1 = 1 := hc9
      exact q_iret C hP hS ⟨by rw [hc8]; rfl, j1⟩ (by omega) dL_filter_15
    · refine q_catch (hh := [(0, 9, 12, 13), (0, 9, 16, 18), (0, 9, 20, 47), (0, 9, 24, 31)]) C [(0, 9, 12, 13)] [(0, 9, 20, 47), (0, 9, 24, 31)] (0, 9, 16, 18) rfl (by decide) (by decide) g238 (by decide) (fun z hz => by simp only [List.mem_cons, List.not_mem_nil, or_false] at hz; subst hz; exact ⟨by decide, "java/lang/IllegalArgumentException", by decide, by decide, g99⟩) hc1 hc2 hc3 ?_
      have eb := xb_filter (show (xs_filter (xF S) S W p0 p1 p2 p3).1 ≠ 0 by rw [hc9]; decide)
      have j1 : JZ cy hX x y ou fo gr (n + 1) ((xs_filter (xF S) S W p0 p1 p2 p3).2.1) ((xs_filter (xF S) S W p0 p1 p2 p3).2.2) S W := by rw [eb]; exact JZ.cls hz hQ hA hou hmk hEd hrn hdj hno hpo
      refine lv_astore (lv' := [(6, .ref q), (0, .ref x), (1, .int p0), (2, .int p1), (3, .int p2), (4, .long p3)]) hx hb dL_filter_16 hl (by decide) rfl (fun ls hl => ?_)
      refine lv_iconst (v := nI 2) hx hb dL_filter_18 (by decide) ?_
      have hc8 : (xs_filter (xF S) S W p0 p1 p2 p3).1 = 2 := hc9
      exact q_iret C hP hS ⟨by rw [hc8]; rfl, j1⟩ (by omega) dL_filter_19
    · refine q_catch (hh := [(0, 9, 12, 13), (0, 9, 16, 18), (0, 9, 20, 47), (0, 9, 24, 31)]) C [(0, 9, 12, 13), (0, 9, 16, 18)] [(0, 9, 24, 31)] (0, 9, 20, 47) rfl (by decide) (by decide) g624 (by decide) (fun z hz => by simp only [List.mem_cons, List.not_mem_nil, or_false] at hz; rcases hz with rfl | rfl <;> first | exact ⟨by decide, "java/lang/IllegalArgumentException", by decide, by decide, g99⟩ | exact ⟨by decide, "java/lang/IllegalStateException", by decide, by decide, g238⟩) hc1 hc2 hc3 ?_
      have eb := xb_filter (show (xs_filter (xF S) S W p0 p1 p2 p3).1 ≠ 0 by rw [hc9]; decide)
      have j1 : JZ cy hX x y ou fo gr (n + 1) ((xs_filter (xF S) S W p0 p1 p2 p3).2.1) ((xs_filter (xF S) S W p0 p1 p2 p3).2.2) S W := by rw [eb]; exact JZ.cls hz hQ hA hou hmk hEd hrn hdj hno hpo
      refine lv_astore (lv' := [(6, .ref q), (0, .ref x), (1, .int p0), (2, .int p1), (3, .int p2), (4, .long p3)]) hx hb dL_filter_20 hl (by decide) rfl (fun ls hl => ?_)
      refine lv_iconst (v := nI 3) hx hb dL_filter_22 (by decide) ?_
      have hc8 : (xs_filter (xF S) S W p0 p1 p2 p3).1 = 3 := hc9
      exact q_iret C hP hS ⟨by rw [hc8]; rfl, j1⟩ (by omega) dL_filter_23
    · refine q_catch (hh := [(0, 9, 12, 13), (0, 9, 16, 18), (0, 9, 20, 47), (0, 9, 24, 31)]) C [(0, 9, 12, 13), (0, 9, 16, 18), (0, 9, 20, 47)] [] (0, 9, 24, 31) rfl (by decide) (by decide) g280 (by decide) (fun z hz => by simp only [List.mem_cons, List.not_mem_nil, or_false] at hz; rcases hz with rfl | rfl | rfl <;> first | exact ⟨by decide, "java/lang/IllegalArgumentException", by decide, by decide, g99⟩ | exact ⟨by decide, "java/lang/IllegalStateException", by decide, by decide, g238⟩ | exact ⟨by decide, "java/lang/ArithmeticException", by decide, by decide, g624⟩) hc1 hc2 hc3 ?_
      have eb := xb_filter (show (xs_filter (xF S) S W p0 p1 p2 p3).1 ≠ 0 by rw [hc9]; decide)
      have j1 : JZ cy hX x y ou fo gr (n + 1) ((xs_filter (xF S) S W p0 p1 p2 p3).2.1) ((xs_filter (xF S) S W p0 p1 p2 p3).2.2) S W := by rw [eb]; exact JZ.cls hz hQ hA hou hmk hEd hrn hdj hno hpo
      refine lv_astore (lv' := [(6, .ref q), (0, .ref x), (1, .int p0), (2, .int p1), (3, .int p2), (4, .long p3)]) hx hb dL_filter_24 hl (by decide) rfl (fun ls hl => ?_)
      refine lv_iconst (v := nI 4) hx hb dL_filter_26 (by decide) ?_
      have hc8 : (xs_filter (xF S) S W p0 p1 p2 p3).1 = 4 := hc9
      exact q_iret C hP hS ⟨by rw [hc8]; rfl, j1⟩ (by omega) dL_filter_27
  · obtain ⟨hc0, rfl, hpo⟩ := hq
    have j1 : JZ cy hh1 x y ou fo gr (n + 1) ((xs_filter (xF S) S W p0 p1 p2 p3).2.1) ((xs_filter (xF S) S W p0 p1 p2 p3).2.2) S W := JZ.cls hz hQ hA hou hmk hEd hrn hdj hno hpo
    refine lv_goto (tgt := 28) hx hb dL_filter_9 (by decide) ?_
    refine lv_iconst (v := nI 0) hx hb dL_filter_28 (by decide) ?_
    have hc8 : (xs_filter (xF S) S W p0 p1 p2 p3).1 = 0 := hc0
    exact q_iret C hP hS ⟨by rw [hc8]; rfl, j1⟩ (by omega) dL_filter_29

set_option maxRecDepth 100000 in
set_option maxHeartbeats 4000000 in
theorem zl_iterate (l : Launch) (D : va_G) (cy : Nat → ClassId) (N0 : Nat) (h : qH) (x y ou : Nat) (fo : Nat → Int64) (gr : Int32) (n : Nat) (S : Nat → qSlot) (W : qWo) (p0 : Int32) (p1 : Int64) (p2 : Int32) (p3 : Int64) (j : JZ cy h x y ou fo gr n S W S W) (hp : PI gr n S W) (hn : n < 64) : qCW l D cy N0 yL_iterate cL_iterate 8 (some .int) [(0, 10, 13, 13)] 1600 46000 (1200 + 212 * n + ((xs_iterate S W p0 p1 p2 p3).2.2.2.1.1 - W.2.1.1)) (12200 + n * rMs n 7 + 10 * ((xs_iterate S W p0 p1 p2 p3).2.2.2.1.1 - W.2.1.1)) [.ref x, .int p0, .long p1, .int p2, .long p3] h (fun v h' => v = some (.int (xs_iterate S W p0 p1 p2 p3).1) ∧ JZ cy h' x y ou fo gr (n + 1) ((xs_iterate S W p0 p1 p2 p3).2.1) ((xs_iterate S W p0 p1 p2 p3).2.2) S W) := by
  refine q_ofWH (by decide) (by exact Nat.le_of_ble_eq_true rfl) ?_
  intro p e s m below meth c ls C hP hl
  have hx := C.1
  have hb := C.2.1
  have hS : va_S (qA N0) s.heap s.heap [] := va_S.rf
  have hl : lv_has ls 8 [(0, .ref x), (1, .int p0), (2, .long p1), (4, .int p2), (5, .long p3)] := hl
  have j0 := j
  obtain ⟨mk, sl, bl, kr, vr, Ed, fs, bd, br, eb, Im, Xb, g, A, ra, rk, rv, pa, ad, hz, hQ, hA, hou, hmk, hEd, hrn, hdj, hno⟩ := j
  obtain ⟨K, dp, hpi⟩ := id hp
  refine lv_aload_n hx hb dL_iterate_0 rfl (lv_at hl 0 rfl) ?_
  refine lv_iload_n hx hb dL_iterate_1 rfl (lv_at hl 1 rfl) ?_
  refine lv_lload_n hx hb dL_iterate_2 rfl (lv_at hl 2 rfl) ?_
  refine lv_iload hx hb dL_iterate_3 (lv_at hl 3 rfl) ?_
  refine lv_lload hx hb dL_iterate_5 (lv_at hl 4 rfl) ?_
  refine q_callV (rest := []) C (z_iterate l D cy N0 h x mk sl bl kr vr Ed fs bd br eb Im Xb g S W (n + 2) 0 (S 999).2.2.1 dp 100 p0 p1 p2 p3 hz hpi.hI hpi.hLn hpi.hV hpi.hSt) kX6_iterate g969 g970 rfl g971 g1 hP hS hz.1.1 (by first | decide | omega) hl.1 rfl (by decide) (by first | decide | omega) dL_iterate_7 (fun q ce E hX H locs hE hP hS hc1 hc2 hc3 => ?_) (fun v hh1 H locs hq hP hS => ?_)
  · obtain ⟨hE0, hpo⟩ := hE
    simp only [zXc, List.mem_cons, Prod.mk.injEq, List.not_mem_nil, or_false] at hE0
    obtain ⟨hc9, rfl⟩ := hE0
    refine q_catch (hh := [(0, 10, 13, 13)]) C [] [] (0, 10, 13, 13) rfl (by decide) (by decide) g99 (by decide) (fun z hz => by cases hz) hc1 hc2 hc3 ?_
    have eb := xb_iterate (show (xs_iterate S W p0 p1 p2 p3).1 ≠ 0 by rw [hc9]; decide)
    have j1 : JZ cy hX x y ou fo gr (n + 1) ((xs_iterate S W p0 p1 p2 p3).2.1) ((xs_iterate S W p0 p1 p2 p3).2.2) S W := by rw [eb]; exact JZ.cls hz hQ hA hou hmk hEd hrn hdj hno hpo
    refine lv_astore (lv' := [(7, .ref q), (0, .ref x), (1, .int p0), (2, .long p1), (4, .int p2), (5, .long p3)]) hx hb dL_iterate_13 hl (by decide) rfl (fun ls hl => ?_)
    refine lv_iconst (v := nI 1) hx hb dL_iterate_15 (by decide) ?_
    have hc8 : (xs_iterate S W p0 p1 p2 p3).1 = 1 := hc9
    exact q_iret C hP hS ⟨by rw [hc8]; rfl, j1⟩ (by omega) dL_iterate_16
  · obtain ⟨hc0, rfl, hpo⟩ := hq
    have j1 : JZ cy hh1 x y ou fo gr (n + 1) ((xs_iterate S W p0 p1 p2 p3).2.1) ((xs_iterate S W p0 p1 p2 p3).2.2) S W := JZ.cls hz hQ hA hou hmk hEd hrn hdj hno hpo
    refine lv_goto (tgt := 17) hx hb dL_iterate_10 (by decide) ?_
    refine lv_iconst (v := nI 0) hx hb dL_iterate_17 (by decide) ?_
    have hc8 : (xs_iterate S W p0 p1 p2 p3).1 = 0 := hc0
    exact q_iret C hP hS ⟨by rw [hc8]; rfl, j1⟩ (by omega) dL_iterate_18
theorem dL_take_7 : decode cL_take 7 = .ok (.goto 15, 3) := by decide +kernel
theorem dL_take_18 : decode cL_take 18 = .ok (.astore 4, 2) := by decide +kernel
theorem dL_take_20 : decode cL_take 20 = .ok (.iconst 3, 1) := by decide +kernel
theorem dL_take_21 : decode cL_take 21 = .ok (.ireturn, 1) := by decide +kernel
theorem dL_take_22 : decode cL_take 22 = .ok (.iconst 0, 1) := by decide +kernel
theorem dL_take_23 : decode cL_take 23 = .ok (.ireturn, 1) := by decide +kernel
set_option maxRecDepth 100000 in
set_option maxHeartbeats 4000000 in
theorem zl_take (l : Launch) (D : va_G) (cy : Nat → ClassId) (N0 : Nat) (h : qH) (x y ou : Nat) (fo : Nat → Int64) (gr : Int32) (n : Nat) (S : Nat → qSlot) (W : qWo) (p0 : Int32) (p1 : Int32) (p2 : Int32) (j : JZ cy h x y ou fo gr n S W S W) (hp : PI gr n S W) (hn : n < 64) : qCW l D cy N0 yL_take cL_take 5 (some .int) [(0, 7, 10, 13), (0, 7, 14, 18), (0, 7, 18, 31)] 1600 46000 (1200 + 212 * n + ((xs_take S W p0 p1 p2).2.2.2.1.1 - W.2.1.1)) (12200 + n * rMs n 7 + 10 * ((xs_take S W p0 p1 p2).2.2.2.1.1 - W.2.1.1)) [.ref x, .int p0, .int p1, .int p2] h (fun v h' => v = some (.int (xs_take S W p0 p1 p2).1) ∧ JZ cy h' x y ou fo gr (n + 1) ((xs_take S W p0 p1 p2).2.1) ((xs_take S W p0 p1 p2).2.2) S W) := by
  refine q_ofWH (by decide) (by exact Nat.le_of_ble_eq_true rfl) ?_
  intro p e s m below meth c ls C hP hl
  have hx := C.1
  have hb := C.2.1
  have hS : va_S (qA N0) s.heap s.heap [] := va_S.rf
  have hl : lv_has ls 5 [(0, .ref x), (1, .int p0), (2, .int p1), (3, .int p2)] := hl
  have j0 := j
  obtain ⟨mk, sl, bl, kr, vr, Ed, fs, bd, br, eb, Im, Xb, g, A, ra, rk, rv, pa, ad, hz, hQ, hA, hou, hmk, hEd, hrn, hdj, hno⟩ := j
  obtain ⟨K, dp, hpi⟩ := id hp
  refine lv_aload_n hx hb dL_take_0 rfl (lv_at hl 0 rfl) ?_
  refine lv_iload_n hx hb dL_take_1 rfl (lv_at hl 1 rfl) ?_
  refine lv_iload_n hx hb dL_take_2 rfl (lv_at hl 2 rfl) ?_
  refine lv_iload_n hx hb dL_take_3 rfl (lv_at hl 3 rfl) ?_
  refine q_callV (rest := []) C (z_take l D cy N0 h x mk sl bl kr vr Ed fs bd br eb Im Xb g S W (n + 2) 0 (S 999).2.2.1 dp 100 p0 p1 p2 hz hpi.hI hpi.hLn hpi.hV hpi.hSt hpi.hDp) kX6_take g976 g977 rfl g978 g1 hP hS hz.1.1 (by first | decide | omega) hl.1 rfl (by decide) (by first | decide | omega) dL_take_4 (fun q ce E hX H locs hE hP hS hc1 hc2 hc3 => ?_) (fun v hh1 H locs hq hP hS => ?_)
  · obtain ⟨hE0, hpo⟩ := hE
    simp only [zXc, List.mem_cons, Prod.mk.injEq, List.not_mem_nil, or_false] at hE0
    rcases hE0 with ⟨hc9, rfl⟩ | ⟨hc9, rfl⟩ | ⟨hc9, rfl⟩
    · refine q_catch (hh := [(0, 7, 10, 13), (0, 7, 14, 18), (0, 7, 18, 31)]) C [] [(0, 7, 14, 18), (0, 7, 18, 31)] (0, 7, 10, 13) rfl (by decide) (by decide) g99 (by decide) (fun z hz => by cases hz) hc1 hc2 hc3 ?_
      have eb := xb_take (show (xs_take S W p0 p1 p2).1 ≠ 0 by rw [hc9]; decide)
      have j1 : JZ cy hX x y ou fo gr (n + 1) ((xs_take S W p0 p1 p2).2.1) ((xs_take S W p0 p1 p2).2.2) S W := by rw [eb]; exact JZ.cls hz hQ hA hou hmk hEd hrn hdj hno hpo
      refine lv_astore (lv' := [(4, .ref q), (0, .ref x), (1, .int p0), (2, .int p1), (3, .int p2)]) hx hb dL_take_10 hl (by decide) rfl (fun ls hl => ?_)
      refine lv_iconst (v := nI 1) hx hb dL_take_12 (by decide) ?_
      have hc8 : (xs_take S W p0 p1 p2).1 = 1 := hc9
      exact q_iret C hP hS ⟨by rw [hc8]; rfl, j1⟩ (by omega) dL_take_13
    · refine q_catch (hh := [(0, 7, 10, 13), (0, 7, 14, 18), (0, 7, 18, 31)]) C [(0, 7, 10, 13)] [(0, 7, 18, 31)] (0, 7, 14, 18) rfl (by decide) (by decide) g238 (by decide) (fun z hz => by simp only [List.mem_cons, List.not_mem_nil, or_false] at hz; subst hz; exact ⟨by decide, "java/lang/IllegalArgumentException", by decide, by decide, g99⟩) hc1 hc2 hc3 ?_
      have eb := xb_take (show (xs_take S W p0 p1 p2).1 ≠ 0 by rw [hc9]; decide)
      have j1 : JZ cy hX x y ou fo gr (n + 1) ((xs_take S W p0 p1 p2).2.1) ((xs_take S W p0 p1 p2).2.2) S W := by rw [eb]; exact JZ.cls hz hQ hA hou hmk hEd hrn hdj hno hpo
      refine lv_astore (lv' := [(4, .ref q), (0, .ref x), (1, .int p0), (2, .int p1), (3, .int p2)]) hx hb dL_take_14 hl (by decide) rfl (fun ls hl => ?_)
      refine lv_iconst (v := nI 2) hx hb dL_take_16 (by decide) ?_
      have hc8 : (xs_take S W p0 p1 p2).1 = 2 := hc9
      exact q_iret C hP hS ⟨by rw [hc8]; rfl, j1⟩ (by omega) dL_take_17
    · refine q_catch (hh := [(0, 7, 10, 13), (0, 7, 14, 18), (0, 7, 18, 31)]) C [(0, 7, 10, 13), (0, 7, 14, 18)] [] (0, 7, 18, 31) rfl (by decide) (by decide) g280 (by decide) (fun z hz => by simp only [List.mem_cons, List.not_mem_nil, or_false] at hz; rcases hz with rfl | rfl <;> first | exact ⟨by decide, "java/lang/IllegalArgumentException", by decide, by decide, g99⟩ | exact ⟨by decide, "java/lang/IllegalStateException", by decide, by decide, g238⟩) hc1 hc2 hc3 ?_
      have eb := xb_take (show (xs_take S W p0 p1 p2).1 ≠ 0 by rw [hc9]; decide)
      have j1 : JZ cy hX x y ou fo gr (n + 1) ((xs_take S W p0 p1 p2).2.1) ((xs_take S W p0 p1 p2).2.2) S W := by rw [eb]; exact JZ.cls hz hQ hA hou hmk hEd hrn hdj hno hpo
      refine lv_astore (lv' := [(4, .ref q), (0, .ref x), (1, .int p0), (2, .int p1), (3, .int p2)]) hx hb dL_take_18 hl (by decide) rfl (fun ls hl => ?_)
      refine lv_iconst (v := nI 3) hx hb dL_take_20 (by decide) ?_
      have hc8 : (xs_take S W p0 p1 p2).1 = 3 := hc9
      exact q_iret C hP hS ⟨by rw [hc8]; rfl, j1⟩ (by omega) dL_take_21
  · obtain ⟨hc0, rfl, hpo⟩ := hq
    have j1 : JZ cy hh1 x y ou fo gr (n + 1) ((xs_take S W p0 p1 p2).2.1) ((xs_take S W p0 p1 p2).2.2) S W := JZ.cls hz hQ hA hou hmk hEd hrn hdj hno hpo
    refine lv_goto (tgt := 22) hx hb dL_take_7 (by decide) ?_
    refine lv_iconst (v := nI 0) hx hb dL_take_22 (by decide) ?_
    have hc8 : (xs_take S W p0 p1 p2).1 = 0 := hc0
    exact q_iret C hP hS ⟨by rw [hc8]; rfl, j1⟩ (by omega) dL_take_23
theorem dL_list_10 : decode cL_list 10 = .ok (.i2l, 1) := by decide +kernel
theorem dL_list_11 : decode cL_list 11 = .ok (.lastore, 1) := by decide +kernel
theorem dL_list_12 : decode cL_list 12 = .ok (.goto 19, 3) := by decide +kernel
theorem dL_list_23 : decode cL_list 23 = .ok (.astore 5, 2) := by decide +kernel
theorem dL_list_25 : decode cL_list 25 = .ok (.iconst 3, 1) := by decide +kernel
theorem dL_list_26 : decode cL_list 26 = .ok (.ireturn, 1) := by decide +kernel
theorem dL_list_27 : decode cL_list 27 = .ok (.astore 5, 2) := by decide +kernel
theorem dL_list_29 : decode cL_list 29 = .ok (.iconst 4, 1) := by decide +kernel
theorem dL_list_30 : decode cL_list 30 = .ok (.ireturn, 1) := by decide +kernel
theorem dL_list_31 : decode cL_list 31 = .ok (.iconst 0, 1) := by decide +kernel
theorem dL_list_32 : decode cL_list 32 = .ok (.ireturn, 1) := by decide +kernel
set_option maxRecDepth 100000 in
set_option maxHeartbeats 4000000 in
theorem zl_list (l : Launch) (D : va_G) (cy : Nat → ClassId) (N0 : Nat) (h : qH) (x y ou : Nat) (fo : Nat → Int64) (gr : Int32) (n : Nat) (S : Nat → qSlot) (W : qWo) (p0 : Int32) (p1 : Int32) (p2 : Int32) (j : JZ cy h x y ou fo gr n S W S W) (hp : PI gr n S W) (hn : n < 64) : qCW l D cy N0 yL_list cL_list 6 (some .int) [(0, 12, 15, 13), (0, 12, 19, 18), (0, 12, 23, 47), (0, 12, 27, 31)] 1600 46000 (1200 + 212 * n + ((xs_list (xF S) S W p0 p1 p2).2.2.2.2.1.1 - W.2.1.1)) (12200 + n * rMs n 7 + 10 * ((xs_list (xF S) S W p0 p1 p2).2.2.2.2.1.1 - W.2.1.1)) [.ref x, .int p0, .int p1, .int p2, .ref ou] h (fun v h' => v = some (.int (xs_list (xF S) S W p0 p1 p2).1) ∧ ∃ fo' : Nat → Int64, JZ cy h' x y ou fo' gr (n + 1) ((xs_list (xF S) S W p0 p1 p2).2.2.1) ((xs_list (xF S) S W p0 p1 p2).2.2.2) S W ∧ ((xs_list (xF S) S W p0 p1 p2).1 = 0 → fo' 0 = ((xs_list (xF S) S W p0 p1 p2).2.1).toInt64)) := by
  refine q_ofWH (by decide) (by exact Nat.le_of_ble_eq_true rfl) ?_
  intro p e s m below meth c ls C hP hl
  have hx := C.1
  have hb := C.2.1
  have hS : va_S (qA N0) s.heap s.heap [] := va_S.rf
  have hl : lv_has ls 6 [(0, .ref x), (1, .int p0), (2, .int p1), (3, .int p2), (4, .ref ou)] := hl
  have j0 := j
  obtain ⟨mk, sl, bl, kr, vr, Ed, fs, bd, br, eb, Im, Xb, g, A, ra, rk, rv, pa, ad, hz, hQ, hA, hou, hmk, hEd, hrn, hdj, hno⟩ := j
  obtain ⟨K, dp, hpi⟩ := id hp
  refine lv_aload hx hb dL_list_0 (lv_at hl 4 rfl) ?_
  refine lv_iconst (v := nI 0) hx hb dL_list_2 (by decide) ?_
  refine lv_aload_n hx hb dL_list_3 rfl (lv_at hl 0 rfl) ?_
  refine lv_iload_n hx hb dL_list_4 rfl (lv_at hl 1 rfl) ?_
  refine lv_iload_n hx hb dL_list_5 rfl (lv_at hl 2 rfl) ?_
  refine lv_iload_n hx hb dL_list_6 rfl (lv_at hl 3 rfl) ?_
  refine q_callV (rest := [.int (nI 0), .ref ou]) C (z_list l D cy N0 h x mk sl bl kr vr Ed fs bd br eb Im Xb g S W (n + 2) 0 (S 999).2.2.1 dp 100 101 (xF S) p0 p1 p2 hz hpi.hI hpi.hLn hpi.hV hpi.hSt (z_restAll l D cy N0 x mk sl bl kr vr (nI Ed) (n + 2) (S 999).2.2.1 (xRs S) hpi.2.2.2.2.1 101) hpi.G (by decide)) kX6_list g983 g984 rfl g985 g1 hP hS hz.1.1 (by first | decide | omega) hl.1 rfl (by simp [q_catrf, q_cati, q_catl, q_cata, q_catn]) (by first | decide | omega) dL_list_7 (fun q ce E hX H locs hE hP hS hc1 hc2 hc3 => ?_) (fun v hh1 H locs hq hP hS => ?_)
  · obtain ⟨hE0, hpo⟩ := hE
    simp only [zXc, List.mem_cons, Prod.mk.injEq, List.not_mem_nil, or_false] at hE0
    rcases hE0 with ⟨hc9, rfl⟩ | ⟨hc9, rfl⟩ | ⟨hc9, rfl⟩ | ⟨hc9, rfl⟩
    · refine q_catch (hh := [(0, 12, 15, 13), (0, 12, 19, 18), (0, 12, 23, 47), (0, 12, 27, 31)]) C [] [(0, 12, 19, 18), (0, 12, 23, 47), (0, 12, 27, 31)] (0, 12, 15, 13) rfl (by decide) (by decide) g99 (by decide) (fun z hz => by cases hz) hc1 hc2 hc3 ?_
      have eb := xb_list (show (xs_list (xF S) S W p0 p1 p2).1 ≠ 0 by rw [hc9]; decide)
      have j1 : JZ cy hX x y ou fo gr (n + 1) ((xs_list (xF S) S W p0 p1 p2).2.2.1) ((xs_list (xF S) S W p0 p1 p2).2.2.2) S W := by rw [eb]; exact JZ.cls hz hQ hA hou hmk hEd hrn hdj hno hpo
      refine lv_astore (lv' := [(5, .ref q), (0, .ref x), (1, .int p0), (2, .int p1), (3, .int p2), (4, .ref ou)]) hx hb dL_list_15 hl (by decide) rfl (fun ls hl => ?_)
      refine lv_iconst (v := nI 1) hx hb dL_list_17 (by decide) ?_
      have hc8 : (xs_list (xF S) S W p0 p1 p2).1 = 1 := hc9
      exact q_iret C hP hS ⟨by rw [hc8]; rfl, fo, j1, fun z => absurd (hc8.symm.trans z) (by decide)⟩ (by omega) dL_list_18
    · refine q_catch (hh := [(0, 12, 15, 13), (0, 12, 19, 18), (0, 12, 23, 47), (0, 12, 27, 31)]) C [(0, 12, 15, 13)] [(0, 12, 23, 47), (0, 12, 27, 31)] (0, 12, 19, 18) rfl (by decide) (by decide) g238 (by decide) (fun z hz => by simp only [List.mem_cons, List.not_mem_nil, or_false] at hz; subst hz; exact ⟨by decide, "java/lang/IllegalArgumentException", by decide, by decide, g99⟩) hc1 hc2 hc3 ?_
      have eb := xb_list (show (xs_list (xF S) S W p0 p1 p2).1 ≠ 0 by rw [hc9]; decide)
      have j1 : JZ cy hX x y ou fo gr (n + 1) ((xs_list (xF S) S W p0 p1 p2).2.2.1) ((xs_list (xF S) S W p0 p1 p2).2.2.2) S W := by rw [eb]; exact JZ.cls hz hQ hA hou hmk hEd hrn hdj hno hpo
      refine lv_astore (lv' := [(5, .ref q), (0, .ref x), (1, .int p0), (2, .int p1), (3, .int p2), (4, .ref ou)]) hx hb dL_list_19 hl (by decide) rfl (fun ls hl => ?_)
      refine lv_iconst (v := nI 2) hx hb dL_list_21 (by decide) ?_
      have hc8 : (xs_list (xF S) S W p0 p1 p2).1 = 2 := hc9
      exact q_iret C hP hS ⟨by rw [hc8]; rfl, fo, j1, fun z => absurd (hc8.symm.trans z) (by decide)⟩ (by omega) dL_list_22
    · refine q_catch (hh := [(0, 12, 15, 13), (0, 12, 19, 18), (0, 12, 23, 47), (0, 12, 27, 31)]) C [(0, 12, 15, 13), (0, 12, 19, 18)] [(0, 12, 27, 31)] (0, 12, 23, 47) rfl (by decide) (by decide) g624 (by decide) (fun z hz => by simp only [List.mem_cons, List.not_mem_nil, or_false] at hz; rcases hz with rfl | rfl <;> first | exact ⟨by decide, "java/lang/IllegalArgumentException", by decide, by decide, g99⟩ | exact ⟨by decide, "java/lang/IllegalStateException", by decide, by decide, g238⟩) hc1 hc2 hc3 ?_
      have eb := xb_list (show (xs_list (xF S) S W p0 p1 p2).1 ≠ 0 by rw [hc9]; decide)
      have j1 : JZ cy hX x y ou fo gr (n + 1) ((xs_list (xF S) S W p0 p1 p2).2.2.1) ((xs_list (xF S) S W p0 p1 p2).2.2.2) S W := by rw [eb]; exact JZ.cls hz hQ hA hou hmk hEd hrn hdj hno hpo
      refine lv_astore (lv' := [(5, .ref q), (0, .ref x), (1, .int p0), (2, .int p1), (3, .int p2), (4, .ref ou)]) hx hb dL_list_23 hl (by decide) rfl (fun ls hl => ?_)
      refine lv_iconst (v := nI 3) hx hb dL_list_25 (by decide) ?_
      have hc8 : (xs_list (xF S) S W p0 p1 p2).1 = 3 := hc9
      exact q_iret C hP hS ⟨by rw [hc8]; rfl, fo, j1, fun z => absurd (hc8.symm.trans z) (by decide)⟩ (by omega) dL_list_26
    · refine q_catch (hh := [(0, 12, 15, 13), (0, 12, 19, 18), (0, 12, 23, 47), (0, 12, 27, 31)]) C [(0, 12, 15, 13), (0, 12, 19, 18), (0, 12, 23, 47)] [] (0, 12, 27, 31) rfl (by decide) (by decide) g280 (by decide) (fun z hz => by simp only [List.mem_cons, List.not_mem_nil, or_false] at hz; rcases hz with rfl | rfl | rfl <;> first | exact ⟨by decide, "java/lang/IllegalArgumentException", by decide, by decide, g99⟩ | exact ⟨by decide, "java/lang/IllegalStateException", by decide, by decide, g238⟩ | exact ⟨by decide, "java/lang/ArithmeticException", by decide, by decide, g624⟩) hc1 hc2 hc3 ?_
      have eb := xb_list (show (xs_list (xF S) S W p0 p1 p2).1 ≠ 0 by rw [hc9]; decide)
      have j1 : JZ cy hX x y ou fo gr (n + 1) ((xs_list (xF S) S W p0 p1 p2).2.2.1) ((xs_list (xF S) S W p0 p1 p2).2.2.2) S W := by rw [eb]; exact JZ.cls hz hQ hA hou hmk hEd hrn hdj hno hpo
      refine lv_astore (lv' := [(5, .ref q), (0, .ref x), (1, .int p0), (2, .int p1), (3, .int p2), (4, .ref ou)]) hx hb dL_list_27 hl (by decide) rfl (fun ls hl => ?_)
      refine lv_iconst (v := nI 4) hx hb dL_list_29 (by decide) ?_
      have hc8 : (xs_list (xF S) S W p0 p1 p2).1 = 4 := hc9
      exact q_iret C hP hS ⟨by rw [hc8]; rfl, fo, j1, fun z => absurd (hc8.symm.trans z) (by decide)⟩ (by omega) dL_list_30
  · obtain ⟨hc0, rfl, hpo⟩ := hq
    have j1 : JZ cy hh1 x y ou fo gr (n + 1) ((xs_list (xF S) S W p0 p1 p2).2.2.1) ((xs_list (xF S) S W p0 p1 p2).2.2.2) S W := JZ.cls hz hQ hA hou hmk hEd hrn hdj hno hpo
    have hou1 := j1.ouf
    refine lv_i2l hx hb dL_list_10 rfl ?_
    refine q_lastN C hP hS hou1 (by omega) (by omega) dL_list_11 (fun H locs hP hS => ?_)
    replace hou1 : (qs hh1 ou (.inl (cy 1, 1, .inr (.inl (vp_updL fo 0 ((((xs_list (xF S) S W p0 p1 p2).2.1)).toInt64)))))) ou = some (.inl (cy 1, 1, .inr (.inl (vp_updL fo 0 ((((xs_list (xF S) S W p0 p1 p2).2.1)).toInt64))))) := qs_self
    refine lv_goto (tgt := 31) hx hb dL_list_12 (by decide) ?_
    refine lv_iconst (v := nI 0) hx hb dL_list_31 (by decide) ?_
    have hc8 : (xs_list (xF S) S W p0 p1 p2).1 = 0 := hc0
    obtain ⟨K9, dp9, hp9⟩ : PI gr (n + 1) ((xs_list (xF S) S W p0 p1 p2).2.2.1) ((xs_list (xF S) S W p0 p1 p2).2.2.2) := hp.list
    have j2 := j1.out (f' := vp_updL fo 0 (((xs_list (xF S) S W p0 p1 p2).2.1).toInt64)) hp9.hV
    exact q_iret C hP hS ⟨by rw [hc8]; rfl, vp_updL fo 0 (((xs_list (xF S) S W p0 p1 p2).2.1).toInt64), j2, fun _ => rfl⟩ (by omega) dL_list_32
theorem dL_turn_6 : decode cL_turn 6 = .ok (.goto 12, 3) := by decide +kernel
theorem dL_turn_15 : decode cL_turn 15 = .ok (.astore_n 3, 1) := by decide +kernel
theorem dL_turn_16 : decode cL_turn 16 = .ok (.iconst 3, 1) := by decide +kernel
theorem dL_turn_17 : decode cL_turn 17 = .ok (.ireturn, 1) := by decide +kernel
theorem dL_turn_18 : decode cL_turn 18 = .ok (.iconst 0, 1) := by decide +kernel
theorem dL_turn_19 : decode cL_turn 19 = .ok (.ireturn, 1) := by decide +kernel
set_option maxRecDepth 100000 in
set_option maxHeartbeats 4000000 in
theorem zl_turn (l : Launch) (D : va_G) (cy : Nat → ClassId) (N0 : Nat) (h : qH) (x y ou : Nat) (fo : Nat → Int64) (gr : Int32) (n : Nat) (S : Nat → qSlot) (W : qWo) (p0 : Int32) (p1 : Int32) (j : JZ cy h x y ou fo gr n S W S W) (hp : PI gr n S W) (hn : n < 64) : qCW l D cy N0 yL_turn cL_turn 4 (some .int) [(0, 6, 9, 13), (0, 6, 12, 18), (0, 6, 15, 31)] 1600 46000 (1200 + 212 * n + (W.2.1.1 - W.2.1.1)) (12200 + n * rMs n 7 + 10 * (W.2.1.1 - W.2.1.1)) [.ref x, .int p0, .int p1] h (fun v h' => ∃ c : Int32, v = some (.int c) ∧ ∀ (S1 : Nat → qSlot) (rr : Nat), xTok S p0 p1 S1 rr → (xs_turn S S1 rr W p0 p1).1 = c ∧ JZ cy h' x y ou fo gr (n + 1) ((xs_turn S S1 rr W p0 p1).2.1) ((xs_turn S S1 rr W p0 p1).2.2) S W) := by
  refine q_ofWH (by decide) (by exact Nat.le_of_ble_eq_true rfl) ?_
  intro p e s m below meth c ls C hP hl
  have hx := C.1
  have hb := C.2.1
  have hS : va_S (qA N0) s.heap s.heap [] := va_S.rf
  have hl : lv_has ls 4 [(0, .ref x), (1, .int p0), (2, .int p1)] := hl
  have j0 := j
  obtain ⟨mk, sl, bl, kr, vr, Ed, fs, bd, br, eb, Im, Xb, g, A, ra, rk, rv, pa, ad, hz, hQ, hA, hou, hmk, hEd, hrn, hdj, hno⟩ := j
  obtain ⟨K, dp, hpi⟩ := id hp
  refine lv_aload_n hx hb dL_turn_0 rfl (lv_at hl 0 rfl) ?_
  refine lv_iload_n hx hb dL_turn_1 rfl (lv_at hl 1 rfl) ?_
  refine lv_iload_n hx hb dL_turn_2 rfl (lv_at hl 2 rfl) ?_
  refine q_callV (rest := []) C (z_turn l D cy N0 h x mk sl bl kr vr Ed fs bd br eb Im Xb g S W (n + 2) 0 (S 999).2.2.1 dp 100 p0 p1 hz hpi.hI hpi.hLn hpi.hV hpi.hSt (by rw [hpi.2.2.2.2.2.2.1]; exact hmk) rfl hpi.2.2.2.2.1) kX6_turn g990 g991 rfl g992 g1 hP hS hz.1.1 (by first | decide | omega) hl.1 rfl (by decide) (by first | decide | omega) dL_turn_3 (fun q ce E hX H locs hE hP hS hc1 hc2 hc3 => ?_) (fun v hh1 H locs hq hP hS => ?_)
  · obtain ⟨S0, r0, ht0⟩ := xTok_ex (S := S) (p0 := p0) (p1 := p1)
    have hE0 := (hE S0 r0 ht0).1
    simp only [zXc, List.mem_cons, Prod.mk.injEq, List.not_mem_nil, or_false] at hE0
    rcases hE0 with ⟨hc9, rfl⟩ | ⟨hc9, rfl⟩ | ⟨hc9, rfl⟩
    · refine q_catch (hh := [(0, 6, 9, 13), (0, 6, 12, 18), (0, 6, 15, 31)]) C [] [(0, 6, 12, 18), (0, 6, 15, 31)] (0, 6, 9, 13) rfl (by decide) (by decide) g99 (by decide) (fun z hz => by cases hz) hc1 hc2 hc3 ?_
      have j1 : ∀ (S1 : Nat → qSlot) (rr : Nat), xTok S p0 p1 S1 rr → (xs_turn S S1 rr W p0 p1).1 = 1 ∧ JZ cy hX x y ou fo gr (n + 1) ((xs_turn S S1 rr W p0 p1).2.1) ((xs_turn S S1 rr W p0 p1).2.2) S W := fun S1 rr htk => by have e1 : (xs_turn S S1 rr W p0 p1).1 = 1 := (xs_turnc (S1 := S1) (S2 := S0) (rr := rr) (r2 := r0)).trans hc9; have e2 := xb_turn (show (xs_turn S S1 rr W p0 p1).1 ≠ 0 by rw [e1]; decide); refine ⟨e1, ?_⟩; rw [e2]; exact JZ.cls hz hQ hA hou hmk hEd hrn hdj hno (hE S1 rr htk).2
      refine lv_astore_n (lv' := [(3, .ref q), (0, .ref x), (1, .int p0), (2, .int p1)]) hx hb dL_turn_9 rfl hl (by decide) rfl (fun ls hl => ?_)
      refine lv_iconst (v := nI 1) hx hb dL_turn_10 (by decide) ?_
      exact q_iret C hP hS ⟨1, rfl, j1⟩ (by omega) dL_turn_11
    · refine q_catch (hh := [(0, 6, 9, 13), (0, 6, 12, 18), (0, 6, 15, 31)]) C [(0, 6, 9, 13)] [(0, 6, 15, 31)] (0, 6, 12, 18) rfl (by decide) (by decide) g238 (by decide) (fun z hz => by simp only [List.mem_cons, List.not_mem_nil, or_false] at hz; subst hz; exact ⟨by decide, "java/lang/IllegalArgumentException", by decide, by decide, g99⟩) hc1 hc2 hc3 ?_
      have j1 : ∀ (S1 : Nat → qSlot) (rr : Nat), xTok S p0 p1 S1 rr → (xs_turn S S1 rr W p0 p1).1 = 2 ∧ JZ cy hX x y ou fo gr (n + 1) ((xs_turn S S1 rr W p0 p1).2.1) ((xs_turn S S1 rr W p0 p1).2.2) S W := fun S1 rr htk => by have e1 : (xs_turn S S1 rr W p0 p1).1 = 2 := (xs_turnc (S1 := S1) (S2 := S0) (rr := rr) (r2 := r0)).trans hc9; have e2 := xb_turn (show (xs_turn S S1 rr W p0 p1).1 ≠ 0 by rw [e1]; decide); refine ⟨e1, ?_⟩; rw [e2]; exact JZ.cls hz hQ hA hou hmk hEd hrn hdj hno (hE S1 rr htk).2
      refine lv_astore_n (lv' := [(3, .ref q), (0, .ref x), (1, .int p0), (2, .int p1)]) hx hb dL_turn_12 rfl hl (by decide) rfl (fun ls hl => ?_)
      refine lv_iconst (v := nI 2) hx hb dL_turn_13 (by decide) ?_
      exact q_iret C hP hS ⟨2, rfl, j1⟩ (by omega) dL_turn_14
    · refine q_catch (hh := [(0, 6, 9, 13), (0, 6, 12, 18), (0, 6, 15, 31)]) C [(0, 6, 9, 13), (0, 6, 12, 18)] [] (0, 6, 15, 31) rfl (by decide) (by decide) g280 (by decide) (fun z hz => by simp only [List.mem_cons, List.not_mem_nil, or_false] at hz; rcases hz with rfl | rfl <;> first | exact ⟨by decide, "java/lang/IllegalArgumentException", by decide, by decide, g99⟩ | exact ⟨by decide, "java/lang/IllegalStateException", by decide, by decide, g238⟩) hc1 hc2 hc3 ?_
      have j1 : ∀ (S1 : Nat → qSlot) (rr : Nat), xTok S p0 p1 S1 rr → (xs_turn S S1 rr W p0 p1).1 = 3 ∧ JZ cy hX x y ou fo gr (n + 1) ((xs_turn S S1 rr W p0 p1).2.1) ((xs_turn S S1 rr W p0 p1).2.2) S W := fun S1 rr htk => by have e1 : (xs_turn S S1 rr W p0 p1).1 = 3 := (xs_turnc (S1 := S1) (S2 := S0) (rr := rr) (r2 := r0)).trans hc9; have e2 := xb_turn (show (xs_turn S S1 rr W p0 p1).1 ≠ 0 by rw [e1]; decide); refine ⟨e1, ?_⟩; rw [e2]; exact JZ.cls hz hQ hA hou hmk hEd hrn hdj hno (hE S1 rr htk).2
      refine lv_astore_n (lv' := [(3, .ref q), (0, .ref x), (1, .int p0), (2, .int p1)]) hx hb dL_turn_15 rfl hl (by decide) rfl (fun ls hl => ?_)
      refine lv_iconst (v := nI 3) hx hb dL_turn_16 (by decide) ?_
      exact q_iret C hP hS ⟨3, rfl, j1⟩ (by omega) dL_turn_17
  · have j1 : ∀ (S1 : Nat → qSlot) (rr : Nat), xTok S p0 p1 S1 rr → (xs_turn S S1 rr W p0 p1).1 = 0 ∧ JZ cy hh1 x y ou fo gr (n + 1) ((xs_turn S S1 rr W p0 p1).2.1) ((xs_turn S S1 rr W p0 p1).2.2) S W := fun S1 rr htk => ⟨(hq S1 rr htk).1, JZ.cls hz hQ hA hou hmk hEd hrn hdj hno (hq S1 rr htk).2.2⟩
    obtain ⟨S1, rr, htk⟩ := xTok_ex (S := S) (p0 := p0) (p1 := p1)
    obtain ⟨-, rfl, -⟩ := hq S1 rr htk
    refine lv_goto (tgt := 18) hx hb dL_turn_6 (by decide) ?_
    refine lv_iconst (v := nI 0) hx hb dL_turn_18 (by decide) ?_
    exact q_iret C hP hS ⟨0, rfl, j1⟩ (by omega) dL_turn_19
theorem dL_open_6 : decode cL_open 6 = .ok (.goto 9, 3) := by decide +kernel
theorem dL_open_15 : decode cL_open 15 = .ok (.iconst 0, 1) := by decide +kernel
theorem dL_open_16 : decode cL_open 16 = .ok (.ireturn, 1) := by decide +kernel
set_option maxRecDepth 100000 in
set_option maxHeartbeats 4000000 in
theorem zl_open (l : Launch) (D : va_G) (cy : Nat → ClassId) (N0 : Nat) (h : qH) (x y ou : Nat) (fo : Nat → Int64) (gr : Int32) (n : Nat) (S : Nat → qSlot) (W : qWo) (p0 : Int32) (p1 : Int32) (j : JZ cy h x y ou fo gr n S W S W) (hp : PI gr n S W) (hn : n < 64) : qCW l D cy N0 yL_open cL_open 4 (some .int) [(0, 6, 9, 13), (0, 6, 12, 18)] 1600 46000 (1200 + 212 * n + (W.2.1.1 - W.2.1.1)) (12200 + n * rMs n 7 + 10 * (W.2.1.1 - W.2.1.1)) [.ref x, .int p0, .int p1] h (fun v h' => v = some (.int (xs_open S p0 p1).1) ∧ JZ cy h' x y ou fo gr (n + 1) ((xs_open S p0 p1).2) (W) S W) := by
  refine q_ofWH (by decide) (by exact Nat.le_of_ble_eq_true rfl) ?_
  intro p e s m below meth c ls C hP hl
  have hx := C.1
  have hb := C.2.1
  have hS : va_S (qA N0) s.heap s.heap [] := va_S.rf
  have hl : lv_has ls 4 [(0, .ref x), (1, .int p0), (2, .int p1)] := hl
  have j0 := j
  obtain ⟨mk, sl, bl, kr, vr, Ed, fs, bd, br, eb, Im, Xb, g, A, ra, rk, rv, pa, ad, hz, hQ, hA, hou, hmk, hEd, hrn, hdj, hno⟩ := j
  obtain ⟨K, dp, hpi⟩ := id hp
  refine lv_aload_n hx hb dL_open_0 rfl (lv_at hl 0 rfl) ?_
  refine lv_iload_n hx hb dL_open_1 rfl (lv_at hl 1 rfl) ?_
  refine lv_iload_n hx hb dL_open_2 rfl (lv_at hl 2 rfl) ?_
  refine q_callV (rest := []) C (z_open l D cy N0 h x mk sl bl kr vr Ed fs bd br eb Im Xb g S W (n + 2) 1 (S 999).2.2.1 dp gr p0 p1 hz hpi.hI hpi.hLn hpi.hV hmk hpi.hAl (fun i9 hi9 z9 => Nat.le_trans (hpi.h64 i9 hi9 z9) (by omega)) (by omega) hQ.h0v) kX6_open g997 g998 rfl g999 g1 hP hS hz.1.1 (by first | decide | omega) hl.1 rfl (by decide) (by first | decide | omega) dL_open_3 (fun q ce E hX H locs hE hP hS hc1 hc2 hc3 => ?_) (fun v hh1 H locs hq hP hS => ?_)
  · obtain ⟨hE0, hpo⟩ := hE
    simp only [zXc, List.mem_cons, Prod.mk.injEq, List.not_mem_nil, or_false] at hE0
    rcases hE0 with ⟨hc9, rfl⟩ | ⟨hc9, rfl⟩
    · refine q_catch (hh := [(0, 6, 9, 13), (0, 6, 12, 18)]) C [] [(0, 6, 12, 18)] (0, 6, 9, 13) rfl (by decide) (by decide) g99 (by decide) (fun z hz => by cases hz) hc1 hc2 hc3 ?_
      have eb := xb_open (show (xs_open S p0 p1).1 ≠ 0 by rw [hc9]; decide)
      have j1 : JZ cy hX x y ou fo gr (n + 1) ((xs_open S p0 p1).2) (W) S W := by rw [eb]; exact JZ.cls hz hQ hA hou hmk hEd hrn hdj hno hpo
      refine lv_astore_n (lv' := [(3, .ref q), (0, .ref x), (1, .int p0), (2, .int p1)]) hx hb dL_open_9 rfl hl (by decide) rfl (fun ls hl => ?_)
      refine lv_iconst (v := nI 1) hx hb dL_open_10 (by decide) ?_
      have hc8 : (xs_open S p0 p1).1 = 1 := hc9
      exact q_iret C hP hS ⟨by rw [hc8]; rfl, j1⟩ (by omega) dL_open_11
    · refine q_catch (hh := [(0, 6, 9, 13), (0, 6, 12, 18)]) C [(0, 6, 9, 13)] [] (0, 6, 12, 18) rfl (by decide) (by decide) g238 (by decide) (fun z hz => by simp only [List.mem_cons, List.not_mem_nil, or_false] at hz; subst hz; exact ⟨by decide, "java/lang/IllegalArgumentException", by decide, by decide, g99⟩) hc1 hc2 hc3 ?_
      have eb := xb_open (show (xs_open S p0 p1).1 ≠ 0 by rw [hc9]; decide)
      have j1 : JZ cy hX x y ou fo gr (n + 1) ((xs_open S p0 p1).2) (W) S W := by rw [eb]; exact JZ.cls hz hQ hA hou hmk hEd hrn hdj hno hpo
      refine lv_astore_n (lv' := [(3, .ref q), (0, .ref x), (1, .int p0), (2, .int p1)]) hx hb dL_open_12 rfl hl (by decide) rfl (fun ls hl => ?_)
      refine lv_iconst (v := nI 2) hx hb dL_open_13 (by decide) ?_
      have hc8 : (xs_open S p0 p1).1 = 2 := hc9
      exact q_iret C hP hS ⟨by rw [hc8]; rfl, j1⟩ (by omega) dL_open_14
  · obtain ⟨hc0, rfl, hpo⟩ := hq
    have j1 : JZ cy hh1 x y ou fo gr (n + 1) ((xs_open S p0 p1).2) (W) S W := JZ.cls hz hQ hA hou hmk hEd hrn hdj hno hpo
    refine lv_goto (tgt := 15) hx hb dL_open_6 (by decide) ?_
    refine lv_iconst (v := nI 0) hx hb dL_open_15 (by decide) ?_
    have hc8 : (xs_open S p0 p1).1 = 0 := hc0
    exact q_iret C hP hS ⟨by rw [hc8]; rfl, j1⟩ (by omega) dL_open_16
theorem dL_build_12 : decode cL_build 12 = .ok (.i2l, 1) := by decide +kernel
theorem dL_build_13 : decode cL_build 13 = .ok (.lastore, 1) := by decide +kernel
theorem dL_build_14 : decode cL_build 14 = .ok (.goto 23, 3) := by decide +kernel
theorem dL_build_25 : decode cL_build 25 = .ok (.astore 8, 2) := by decide +kernel
theorem dL_build_27 : decode cL_build 27 = .ok (.iconst 3, 1) := by decide +kernel
theorem dL_build_28 : decode cL_build 28 = .ok (.ireturn, 1) := by decide +kernel
theorem dL_build_29 : decode cL_build 29 = .ok (.astore 8, 2) := by decide +kernel
theorem dL_build_31 : decode cL_build 31 = .ok (.iconst 4, 1) := by decide +kernel
theorem dL_build_32 : decode cL_build 32 = .ok (.ireturn, 1) := by decide +kernel
theorem dL_build_33 : decode cL_build 33 = .ok (.astore 8, 2) := by decide +kernel
theorem dL_build_35 : decode cL_build 35 = .ok (.iconst 5, 1) := by decide +kernel
theorem dL_build_36 : decode cL_build 36 = .ok (.ireturn, 1) := by decide +kernel
theorem dL_build_37 : decode cL_build 37 = .ok (.iconst 0, 1) := by decide +kernel
theorem dL_build_38 : decode cL_build 38 = .ok (.ireturn, 1) := by decide +kernel
set_option maxRecDepth 100000 in
set_option maxHeartbeats 4000000 in
theorem zl_build (l : Launch) (D : va_G) (cy : Nat → ClassId) (N0 : Nat) (h : qH) (x y ou : Nat) (fo : Nat → Int64) (gr : Int32) (n : Nat) (S : Nat → qSlot) (W : qWo) (p0 : Int32) (p1 : Int32) (p2 : Int64) (p3 : Int64) (j : JZ cy h x y ou fo gr n S W S W) (hp : PI gr n S W) (hn : n < 64) : qCW l D cy N0 yL_build cL_build 9 (some .int) [(0, 14, 17, 13), (0, 14, 21, 18), (0, 14, 25, 119), (0, 14, 29, 41), (0, 14, 33, 31)] 1600 46000 (1200 + 212 * n + (W.2.1.1 - W.2.1.1)) (12200 + n * rMs n 7 + 10 * (W.2.1.1 - W.2.1.1)) [.ref x, .int p0, .int p1, .long p2, .long p3, .ref ou] h (fun v h' => v = some (.int (xs_build gr S p0 p1 p2 p3).1) ∧ ∃ fo' : Nat → Int64, JZ cy h' x y ou fo' gr (n + 1) ((xs_build gr S p0 p1 p2 p3).2.1) (W) S W ∧ ((xs_build gr S p0 p1 p2 p3).1 = 0 → fo' 0 = ((xs_build gr S p0 p1 p2 p3).2.2).toInt64)) := by
  refine q_ofWH (by decide) (by exact Nat.le_of_ble_eq_true rfl) ?_
  intro p e s m below meth c ls C hP hl
  have hx := C.1
  have hb := C.2.1
  have hS : va_S (qA N0) s.heap s.heap [] := va_S.rf
  have hl : lv_has ls 9 [(0, .ref x), (1, .int p0), (2, .int p1), (3, .long p2), (5, .long p3), (7, .ref ou)] := hl
  have j0 := j
  obtain ⟨mk, sl, bl, kr, vr, Ed, fs, bd, br, eb, Im, Xb, g, A, ra, rk, rv, pa, ad, hz, hQ, hA, hou, hmk, hEd, hrn, hdj, hno⟩ := j
  obtain ⟨K, dp, hpi⟩ := id hp
  refine lv_aload hx hb dL_build_0 (lv_at hl 5 rfl) ?_
  refine lv_iconst (v := nI 0) hx hb dL_build_2 (by decide) ?_
  refine lv_aload_n hx hb dL_build_3 rfl (lv_at hl 0 rfl) ?_
  refine lv_iload_n hx hb dL_build_4 rfl (lv_at hl 1 rfl) ?_
  refine lv_iload_n hx hb dL_build_5 rfl (lv_at hl 2 rfl) ?_
  refine lv_lload_n hx hb dL_build_6 rfl (lv_at hl 3 rfl) ?_
  refine lv_lload hx hb dL_build_7 (lv_at hl 4 rfl) ?_
  refine q_callV (rest := [.int (nI 0), .ref ou]) C (z_build l D cy N0 h x mk sl bl kr vr Ed fs bd br eb Im Xb g S W (n + 2) 1 (S 999).2.2.1 dp gr p0 p1 p2 p3 hz hpi.hI hpi.hLn hpi.hV hmk hpi.hAl (fun i9 hi9 z9 => Nat.le_trans (hpi.h64 i9 hi9 z9) (by omega)) (by omega)) kX6_build g1011 g1012 rfl g1013 g1 hP hS hz.1.1 (by first | decide | omega) hl.1 rfl (by simp [q_catrf, q_cati, q_catl, q_cata, q_catn]) (by first | decide | omega) dL_build_9 (fun q ce E hX H locs hE hP hS hc1 hc2 hc3 => ?_) (fun v hh1 H locs hq hP hS => ?_)
  · obtain ⟨hE0, hpo⟩ := hE
    simp only [zXc, List.mem_cons, Prod.mk.injEq, List.not_mem_nil, or_false] at hE0
    rcases hE0 with ⟨hc9, rfl⟩ | ⟨hc9, rfl⟩ | ⟨hc9, rfl⟩ | ⟨hc9, rfl⟩ | ⟨hc9, rfl⟩
    · refine q_catch (hh := [(0, 14, 17, 13), (0, 14, 21, 18), (0, 14, 25, 119), (0, 14, 29, 41), (0, 14, 33, 31)]) C [] [(0, 14, 21, 18), (0, 14, 25, 119), (0, 14, 29, 41), (0, 14, 33, 31)] (0, 14, 17, 13) rfl (by decide) (by decide) g99 (by decide) (fun z hz => by cases hz) hc1 hc2 hc3 ?_
      have eb := xb_build (show (xs_build gr S p0 p1 p2 p3).1 ≠ 0 by rw [hc9]; decide)
      have j1 : JZ cy hX x y ou fo gr (n + 1) ((xs_build gr S p0 p1 p2 p3).2.1) (W) S W := by rw [eb]; exact JZ.cls hz hQ hA hou hmk hEd hrn hdj hno hpo
      refine lv_astore (lv' := [(8, .ref q), (0, .ref x), (1, .int p0), (2, .int p1), (3, .long p2), (5, .long p3), (7, .ref ou)]) hx hb dL_build_17 hl (by decide) rfl (fun ls hl => ?_)
      refine lv_iconst (v := nI 1) hx hb dL_build_19 (by decide) ?_
      have hc8 : (xs_build gr S p0 p1 p2 p3).1 = 1 := hc9
      exact q_iret C hP hS ⟨by rw [hc8]; rfl, fo, j1, fun z => absurd (hc8.symm.trans z) (by decide)⟩ (by omega) dL_build_20
    · refine q_catch (hh := [(0, 14, 17, 13), (0, 14, 21, 18), (0, 14, 25, 119), (0, 14, 29, 41), (0, 14, 33, 31)]) C [(0, 14, 17, 13)] [(0, 14, 25, 119), (0, 14, 29, 41), (0, 14, 33, 31)] (0, 14, 21, 18) rfl (by decide) (by decide) g238 (by decide) (fun z hz => by simp only [List.mem_cons, List.not_mem_nil, or_false] at hz; subst hz; exact ⟨by decide, "java/lang/IllegalArgumentException", by decide, by decide, g99⟩) hc1 hc2 hc3 ?_
      have eb := xb_build (show (xs_build gr S p0 p1 p2 p3).1 ≠ 0 by rw [hc9]; decide)
      have j1 : JZ cy hX x y ou fo gr (n + 1) ((xs_build gr S p0 p1 p2 p3).2.1) (W) S W := by rw [eb]; exact JZ.cls hz hQ hA hou hmk hEd hrn hdj hno hpo
      refine lv_astore (lv' := [(8, .ref q), (0, .ref x), (1, .int p0), (2, .int p1), (3, .long p2), (5, .long p3), (7, .ref ou)]) hx hb dL_build_21 hl (by decide) rfl (fun ls hl => ?_)
      refine lv_iconst (v := nI 2) hx hb dL_build_23 (by decide) ?_
      have hc8 : (xs_build gr S p0 p1 p2 p3).1 = 2 := hc9
      exact q_iret C hP hS ⟨by rw [hc8]; rfl, fo, j1, fun z => absurd (hc8.symm.trans z) (by decide)⟩ (by omega) dL_build_24
    · refine q_catch (hh := [(0, 14, 17, 13), (0, 14, 21, 18), (0, 14, 25, 119), (0, 14, 29, 41), (0, 14, 33, 31)]) C [(0, 14, 17, 13), (0, 14, 21, 18)] [(0, 14, 29, 41), (0, 14, 33, 31)] (0, 14, 25, 119) rfl (by decide) (by decide) g1010 (by decide) (fun z hz => by simp only [List.mem_cons, List.not_mem_nil, or_false] at hz; rcases hz with rfl | rfl <;> first | exact ⟨by decide, "java/lang/IllegalArgumentException", by decide, by decide, g99⟩ | exact ⟨by decide, "java/lang/IllegalStateException", by decide, by decide, g238⟩) hc1 hc2 hc3 ?_
      have eb := xb_build (show (xs_build gr S p0 p1 p2 p3).1 ≠ 0 by rw [hc9]; decide)
      have j1 : JZ cy hX x y ou fo gr (n + 1) ((xs_build gr S p0 p1 p2 p3).2.1) (W) S W := by rw [eb]; exact JZ.cls hz hQ hA hou hmk hEd hrn hdj hno hpo
      refine lv_astore (lv' := [(8, .ref q), (0, .ref x), (1, .int p0), (2, .int p1), (3, .long p2), (5, .long p3), (7, .ref ou)]) hx hb dL_build_25 hl (by decide) rfl (fun ls hl => ?_)
      refine lv_iconst (v := nI 3) hx hb dL_build_27 (by decide) ?_
      have hc8 : (xs_build gr S p0 p1 p2 p3).1 = 3 := hc9
      exact q_iret C hP hS ⟨by rw [hc8]; rfl, fo, j1, fun z => absurd (hc8.symm.trans z) (by decide)⟩ (by omega) dL_build_28
    · refine q_catch (hh := [(0, 14, 17, 13), (0, 14, 21, 18), (0, 14, 25, 119), (0, 14, 29, 41), (0, 14, 33, 31)]) C [(0, 14, 17, 13), (0, 14, 21, 18), (0, 14, 25, 119)] [(0, 14, 33, 31)] (0, 14, 29, 41) rfl (by decide) (by decide) g586 (by decide) (fun z hz => by simp only [List.mem_cons, List.not_mem_nil, or_false] at hz; rcases hz with rfl | rfl | rfl <;> first | exact ⟨by decide, "java/lang/IllegalArgumentException", by decide, by decide, g99⟩ | exact ⟨by decide, "java/lang/IllegalStateException", by decide, by decide, g238⟩ | exact ⟨by decide, "java/lang/UnsupportedOperationException", by decide, by decide, g1010⟩) hc1 hc2 hc3 ?_
      have eb := xb_build (show (xs_build gr S p0 p1 p2 p3).1 ≠ 0 by rw [hc9]; decide)
      have j1 : JZ cy hX x y ou fo gr (n + 1) ((xs_build gr S p0 p1 p2 p3).2.1) (W) S W := by rw [eb]; exact JZ.cls hz hQ hA hou hmk hEd hrn hdj hno hpo
      refine lv_astore (lv' := [(8, .ref q), (0, .ref x), (1, .int p0), (2, .int p1), (3, .long p2), (5, .long p3), (7, .ref ou)]) hx hb dL_build_29 hl (by decide) rfl (fun ls hl => ?_)
      refine lv_iconst (v := nI 4) hx hb dL_build_31 (by decide) ?_
      have hc8 : (xs_build gr S p0 p1 p2 p3).1 = 4 := hc9
      exact q_iret C hP hS ⟨by rw [hc8]; rfl, fo, j1, fun z => absurd (hc8.symm.trans z) (by decide)⟩ (by omega) dL_build_32
    · refine q_catch (hh := [(0, 14, 17, 13), (0, 14, 21, 18), (0, 14, 25, 119), (0, 14, 29, 41), (0, 14, 33, 31)]) C [(0, 14, 17, 13), (0, 14, 21, 18), (0, 14, 25, 119), (0, 14, 29, 41)] [] (0, 14, 33, 31) rfl (by decide) (by decide) g280 (by decide) (fun z hz => by simp only [List.mem_cons, List.not_mem_nil, or_false] at hz; rcases hz with rfl | rfl | rfl | rfl <;> first | exact ⟨by decide, "java/lang/IllegalArgumentException", by decide, by decide, g99⟩ | exact ⟨by decide, "java/lang/IllegalStateException", by decide, by decide, g238⟩ | exact ⟨by decide, "java/lang/UnsupportedOperationException", by decide, by decide, g1010⟩ | exact ⟨by decide, "java/util/NoSuchElementException", by decide, by decide, g586⟩) hc1 hc2 hc3 ?_
      have eb := xb_build (show (xs_build gr S p0 p1 p2 p3).1 ≠ 0 by rw [hc9]; decide)
      have j1 : JZ cy hX x y ou fo gr (n + 1) ((xs_build gr S p0 p1 p2 p3).2.1) (W) S W := by rw [eb]; exact JZ.cls hz hQ hA hou hmk hEd hrn hdj hno hpo
      refine lv_astore (lv' := [(8, .ref q), (0, .ref x), (1, .int p0), (2, .int p1), (3, .long p2), (5, .long p3), (7, .ref ou)]) hx hb dL_build_33 hl (by decide) rfl (fun ls hl => ?_)
      refine lv_iconst (v := nI 5) hx hb dL_build_35 (by decide) ?_
      have hc8 : (xs_build gr S p0 p1 p2 p3).1 = 5 := hc9
      exact q_iret C hP hS ⟨by rw [hc8]; rfl, fo, j1, fun z => absurd (hc8.symm.trans z) (by decide)⟩ (by omega) dL_build_36
  · obtain ⟨hc0, rfl, hpo⟩ := hq
    have j1 : JZ cy hh1 x y ou fo gr (n + 1) ((xs_build gr S p0 p1 p2 p3).2.1) (W) S W := JZ.cls hz hQ hA hou hmk hEd hrn hdj hno hpo
    have hou1 := j1.ouf
    refine lv_i2l hx hb dL_build_12 rfl ?_
    refine q_lastN C hP hS hou1 (by omega) (by omega) dL_build_13 (fun H locs hP hS => ?_)
    replace hou1 : (qs hh1 ou (.inl (cy 1, 1, .inr (.inl (vp_updL fo 0 ((((xs_build gr S p0 p1 p2 p3).2.2)).toInt64)))))) ou = some (.inl (cy 1, 1, .inr (.inl (vp_updL fo 0 ((((xs_build gr S p0 p1 p2 p3).2.2)).toInt64))))) := qs_self
    refine lv_goto (tgt := 37) hx hb dL_build_14 (by decide) ?_
    refine lv_iconst (v := nI 0) hx hb dL_build_37 (by decide) ?_
    have hc8 : (xs_build gr S p0 p1 p2 p3).1 = 0 := hc0
    obtain ⟨K9, dp9, hp9⟩ : PI gr (n + 1) ((xs_build gr S p0 p1 p2 p3).2.1) (W) := hp.build
    have j2 := j1.out (f' := vp_updL fo 0 (((xs_build gr S p0 p1 p2 p3).2.2).toInt64)) hp9.hV
    exact q_iret C hP hS ⟨by rw [hc8]; rfl, vp_updL fo 0 (((xs_build gr S p0 p1 p2 p3).2.2).toInt64), j2, fun _ => rfl⟩ (by omega) dL_build_38
theorem dL_look_9 : decode cL_look 9 = .ok (.lastore, 1) := by decide +kernel
theorem dL_look_10 : decode cL_look 10 = .ok (.goto 15, 3) := by decide +kernel
theorem dL_look_21 : decode cL_look 21 = .ok (.astore 5, 2) := by decide +kernel
theorem dL_look_23 : decode cL_look 23 = .ok (.iconst 3, 1) := by decide +kernel
theorem dL_look_24 : decode cL_look 24 = .ok (.ireturn, 1) := by decide +kernel
theorem dL_look_25 : decode cL_look 25 = .ok (.iconst 0, 1) := by decide +kernel
theorem dL_look_26 : decode cL_look 26 = .ok (.ireturn, 1) := by decide +kernel
set_option maxRecDepth 100000 in
set_option maxHeartbeats 4000000 in
theorem zl_look (l : Launch) (D : va_G) (cy : Nat → ClassId) (N0 : Nat) (h : qH) (x y ou : Nat) (fo : Nat → Int64) (gr : Int32) (n : Nat) (S : Nat → qSlot) (W : qWo) (p0 : Int32) (p1 : Int64) (j : JZ cy h x y ou fo gr n S W S W) (hp : PI gr n S W) (hn : n < 64) : qCW l D cy N0 yL_look cL_look 6 (some .int) [(0, 10, 13, 13), (0, 10, 17, 18), (0, 10, 21, 41)] 1600 46000 (1200 + 212 * n + (W.2.1.1 - W.2.1.1)) (12200 + n * rMs n 7 + 10 * (W.2.1.1 - W.2.1.1)) [.ref x, .int p0, .long p1, .ref ou] h (fun v h' => v = some (.int (xs_look S p0 p1).1) ∧ ∃ fo' : Nat → Int64, JZ cy h' x y ou fo' gr (n + 1) (S) (W) S W ∧ ((xs_look S p0 p1).1 = 0 → fo' 0 = (xs_look S p0 p1).2)) := by
  refine q_ofWH (by decide) (by exact Nat.le_of_ble_eq_true rfl) ?_
  intro p e s m below meth c ls C hP hl
  have hx := C.1
  have hb := C.2.1
  have hS : va_S (qA N0) s.heap s.heap [] := va_S.rf
  have hl : lv_has ls 6 [(0, .ref x), (1, .int p0), (2, .long p1), (4, .ref ou)] := hl
  have j0 := j
  obtain ⟨mk, sl, bl, kr, vr, Ed, fs, bd, br, eb, Im, Xb, g, A, ra, rk, rv, pa, ad, hz, hQ, hA, hou, hmk, hEd, hrn, hdj, hno⟩ := j
  obtain ⟨K, dp, hpi⟩ := id hp
  refine lv_aload hx hb dL_look_0 (lv_at hl 3 rfl) ?_
  refine lv_iconst (v := nI 0) hx hb dL_look_2 (by decide) ?_
  refine lv_aload_n hx hb dL_look_3 rfl (lv_at hl 0 rfl) ?_
  refine lv_iload_n hx hb dL_look_4 rfl (lv_at hl 1 rfl) ?_
  refine lv_lload_n hx hb dL_look_5 rfl (lv_at hl 2 rfl) ?_
  refine q_callV (rest := [.int (nI 0), .ref ou]) C (z_look l D cy N0 h x mk sl bl kr vr Ed fs bd br eb Im Xb g S W (n + 2) 1 (S 999).2.2.1 dp p0 p1 hz hpi.hI hpi.hLn hpi.hV) kX6_look g1055 g1056 rfl g1057 g1 hP hS hz.1.1 (by first | decide | omega) hl.1 rfl (by simp [q_catrf, q_cati, q_catl, q_cata, q_catn]) (by first | decide | omega) dL_look_6 (fun q ce E hX H locs hE hP hS hc1 hc2 hc3 => ?_) (fun v hh1 H locs hq hP hS => ?_)
  · obtain ⟨hE0, hpo⟩ := hE
    simp only [zXc, List.mem_cons, Prod.mk.injEq, List.not_mem_nil, or_false] at hE0
    rcases hE0 with ⟨hc9, rfl⟩ | ⟨hc9, rfl⟩ | ⟨hc9, rfl⟩
    · refine q_catch (hh := [(0, 10, 13, 13), (0, 10, 17, 18), (0, 10, 21, 41)]) C [] [(0, 10, 17, 18), (0, 10, 21, 41)] (0, 10, 13, 13) rfl (by decide) (by decide) g99 (by decide) (fun z hz => by cases hz) hc1 hc2 hc3 ?_
      have j1 : JZ cy hX x y ou fo gr (n + 1) (S) (W) S W := by exact JZ.cls hz hQ hA hou hmk hEd hrn hdj hno hpo
      refine lv_astore (lv' := [(5, .ref q), (0, .ref x), (1, .int p0), (2, .long p1), (4, .ref ou)]) hx hb dL_look_13 hl (by decide) rfl (fun ls hl => ?_)
      refine lv_iconst (v := nI 1) hx hb dL_look_15 (by decide) ?_
      have hc8 : (xs_look S p0 p1).1 = 1 := hc9
      exact q_iret C hP hS ⟨by rw [hc8]; rfl, fo, j1, fun z => absurd (hc8.symm.trans z) (by decide)⟩ (by omega) dL_look_16
    · refine q_catch (hh := [(0, 10, 13, 13), (0, 10, 17, 18), (0, 10, 21, 41)]) C [(0, 10, 13, 13)] [(0, 10, 21, 41)] (0, 10, 17, 18) rfl (by decide) (by decide) g238 (by decide) (fun z hz => by simp only [List.mem_cons, List.not_mem_nil, or_false] at hz; subst hz; exact ⟨by decide, "java/lang/IllegalArgumentException", by decide, by decide, g99⟩) hc1 hc2 hc3 ?_
      have j1 : JZ cy hX x y ou fo gr (n + 1) (S) (W) S W := by exact JZ.cls hz hQ hA hou hmk hEd hrn hdj hno hpo
      refine lv_astore (lv' := [(5, .ref q), (0, .ref x), (1, .int p0), (2, .long p1), (4, .ref ou)]) hx hb dL_look_17 hl (by decide) rfl (fun ls hl => ?_)
      refine lv_iconst (v := nI 2) hx hb dL_look_19 (by decide) ?_
      have hc8 : (xs_look S p0 p1).1 = 2 := hc9
      exact q_iret C hP hS ⟨by rw [hc8]; rfl, fo, j1, fun z => absurd (hc8.symm.trans z) (by decide)⟩ (by omega) dL_look_20
    · refine q_catch (hh := [(0, 10, 13, 13), (0, 10, 17, 18), (0, 10, 21, 41)]) C [(0, 10, 13, 13), (0, 10, 17, 18)] [] (0, 10, 21, 41) rfl (by decide) (by decide) g586 (by decide) (fun z hz => by simp only [List.mem_cons, List.not_mem_nil, or_false] at hz; rcases hz with rfl | rfl <;> first | exact ⟨by decide, "java/lang/IllegalArgumentException", by decide, by decide, g99⟩ | exact ⟨by decide, "java/lang/IllegalStateException", by decide, by decide, g238⟩) hc1 hc2 hc3 ?_
      have j1 : JZ cy hX x y ou fo gr (n + 1) (S) (W) S W := by exact JZ.cls hz hQ hA hou hmk hEd hrn hdj hno hpo
      refine lv_astore (lv' := [(5, .ref q), (0, .ref x), (1, .int p0), (2, .long p1), (4, .ref ou)]) hx hb dL_look_21 hl (by decide) rfl (fun ls hl => ?_)
      refine lv_iconst (v := nI 3) hx hb dL_look_23 (by decide) ?_
      have hc8 : (xs_look S p0 p1).1 = 3 := hc9
      exact q_iret C hP hS ⟨by rw [hc8]; rfl, fo, j1, fun z => absurd (hc8.symm.trans z) (by decide)⟩ (by omega) dL_look_24
  · obtain ⟨hc0, rfl, hpo⟩ := hq
    have j1 : JZ cy hh1 x y ou fo gr (n + 1) (S) (W) S W := JZ.cls hz hQ hA hou hmk hEd hrn hdj hno hpo
    have hou1 := j1.ouf
    refine q_lastN C hP hS hou1 (by omega) (by omega) dL_look_9 (fun H locs hP hS => ?_)
    replace hou1 : (qs hh1 ou (.inl (cy 1, 1, .inr (.inl (vp_updL fo 0 ((xs_look S p0 p1).2)))))) ou = some (.inl (cy 1, 1, .inr (.inl (vp_updL fo 0 ((xs_look S p0 p1).2))))) := qs_self
    refine lv_goto (tgt := 25) hx hb dL_look_10 (by decide) ?_
    refine lv_iconst (v := nI 0) hx hb dL_look_25 (by decide) ?_
    have hc8 : (xs_look S p0 p1).1 = 0 := hc0
    obtain ⟨K9, dp9, hp9⟩ : PI gr (n + 1) (S) (W) := hp.up
    have j2 := j1.out (f' := vp_updL fo 0 ((xs_look S p0 p1).2)) hp9.hV
    exact q_iret C hP hS ⟨by rw [hc8]; rfl, vp_updL fo 0 ((xs_look S p0 p1).2), j2, fun _ => rfl⟩ (by omega) dL_look_26
theorem dL_freeze_8 : decode cL_freeze 8 = .ok (.i2l, 1) := by decide +kernel
theorem dL_freeze_9 : decode cL_freeze 9 = .ok (.lastore, 1) := by decide +kernel
theorem dL_freeze_10 : decode cL_freeze 10 = .ok (.goto 11, 3) := by decide +kernel
theorem dL_freeze_21 : decode cL_freeze 21 = .ok (.iconst 0, 1) := by decide +kernel
theorem dL_freeze_22 : decode cL_freeze 22 = .ok (.ireturn, 1) := by decide +kernel
set_option maxRecDepth 100000 in
set_option maxHeartbeats 4000000 in
theorem zl_freeze (l : Launch) (D : va_G) (cy : Nat → ClassId) (N0 : Nat) (h : qH) (x y ou : Nat) (fo : Nat → Int64) (gr : Int32) (n : Nat) (S : Nat → qSlot) (W : qWo) (p0 : Int32) (p1 : Int32) (j : JZ cy h x y ou fo gr n S W S W) (hp : PI gr n S W) (hn : n < 64) : qCW l D cy N0 yL_freeze cL_freeze 5 (some .int) [(0, 10, 13, 13), (0, 10, 17, 18)] 1600 46000 (1200 + 212 * n + (W.2.1.1 - W.2.1.1)) (12200 + n * rMs n 7 + 10 * (W.2.1.1 - W.2.1.1)) [.ref x, .int p0, .int p1, .ref ou] h (fun v h' => v = some (.int (xs_freeze S p0 p1).1) ∧ ∃ fo' : Nat → Int64, JZ cy h' x y ou fo' gr (n + 1) ((xs_freeze S p0 p1).2.1) (W) S W ∧ ((xs_freeze S p0 p1).1 = 0 → fo' 0 = ((xs_freeze S p0 p1).2.2).toInt64)) := by
  refine q_ofWH (by decide) (by exact Nat.le_of_ble_eq_true rfl) ?_
  intro p e s m below meth c ls C hP hl
  have hx := C.1
  have hb := C.2.1
  have hS : va_S (qA N0) s.heap s.heap [] := va_S.rf
  have hl : lv_has ls 5 [(0, .ref x), (1, .int p0), (2, .int p1), (3, .ref ou)] := hl
  have j0 := j
  obtain ⟨mk, sl, bl, kr, vr, Ed, fs, bd, br, eb, Im, Xb, g, A, ra, rk, rv, pa, ad, hz, hQ, hA, hou, hmk, hEd, hrn, hdj, hno⟩ := j
  obtain ⟨K, dp, hpi⟩ := id hp
  refine lv_aload_n hx hb dL_freeze_0 rfl (lv_at hl 3 rfl) ?_
  refine lv_iconst (v := nI 0) hx hb dL_freeze_1 (by decide) ?_
  refine lv_aload_n hx hb dL_freeze_2 rfl (lv_at hl 0 rfl) ?_
  refine lv_iload_n hx hb dL_freeze_3 rfl (lv_at hl 1 rfl) ?_
  refine lv_iload_n hx hb dL_freeze_4 rfl (lv_at hl 2 rfl) ?_
  refine q_callV (rest := [.int (nI 0), .ref ou]) C (z_freeze l D cy N0 h x mk sl bl kr vr Ed fs bd br eb Im Xb g S W (n + 2) 1 (S 999).2.2.1 dp p0 p1 hz hpi.hI hpi.hLn hpi.hV) kX6_freeze g1062 g1063 rfl g1064 g1 hP hS hz.1.1 (by first | decide | omega) hl.1 rfl (by simp [q_catrf, q_cati, q_catl, q_cata, q_catn]) (by first | decide | omega) dL_freeze_5 (fun q ce E hX H locs hE hP hS hc1 hc2 hc3 => ?_) (fun v hh1 H locs hq hP hS => ?_)
  · obtain ⟨hE0, hpo⟩ := hE
    simp only [zXc, List.mem_cons, Prod.mk.injEq, List.not_mem_nil, or_false] at hE0
    rcases hE0 with ⟨hc9, rfl⟩ | ⟨hc9, rfl⟩
    · refine q_catch (hh := [(0, 10, 13, 13), (0, 10, 17, 18)]) C [] [(0, 10, 17, 18)] (0, 10, 13, 13) rfl (by decide) (by decide) g99 (by decide) (fun z hz => by cases hz) hc1 hc2 hc3 ?_
      have eb := xb_freeze (show (xs_freeze S p0 p1).1 ≠ 0 by rw [hc9]; decide)
      have j1 : JZ cy hX x y ou fo gr (n + 1) ((xs_freeze S p0 p1).2.1) (W) S W := by rw [eb]; exact JZ.cls hz hQ hA hou hmk hEd hrn hdj hno hpo
      refine lv_astore (lv' := [(4, .ref q), (0, .ref x), (1, .int p0), (2, .int p1), (3, .ref ou)]) hx hb dL_freeze_13 hl (by decide) rfl (fun ls hl => ?_)
      refine lv_iconst (v := nI 1) hx hb dL_freeze_15 (by decide) ?_
      have hc8 : (xs_freeze S p0 p1).1 = 1 := hc9
      exact q_iret C hP hS ⟨by rw [hc8]; rfl, fo, j1, fun z => absurd (hc8.symm.trans z) (by decide)⟩ (by omega) dL_freeze_16
    · refine q_catch (hh := [(0, 10, 13, 13), (0, 10, 17, 18)]) C [(0, 10, 13, 13)] [] (0, 10, 17, 18) rfl (by decide) (by decide) g238 (by decide) (fun z hz => by simp only [List.mem_cons, List.not_mem_nil, or_false] at hz; subst hz; exact ⟨by decide, "java/lang/IllegalArgumentException", by decide, by decide, g99⟩) hc1 hc2 hc3 ?_
      have eb := xb_freeze (show (xs_freeze S p0 p1).1 ≠ 0 by rw [hc9]; decide)
      have j1 : JZ cy hX x y ou fo gr (n + 1) ((xs_freeze S p0 p1).2.1) (W) S W := by rw [eb]; exact JZ.cls hz hQ hA hou hmk hEd hrn hdj hno hpo
      refine lv_astore (lv' := [(4, .ref q), (0, .ref x), (1, .int p0), (2, .int p1), (3, .ref ou)]) hx hb dL_freeze_17 hl (by decide) rfl (fun ls hl => ?_)
      refine lv_iconst (v := nI 2) hx hb dL_freeze_19 (by decide) ?_
      have hc8 : (xs_freeze S p0 p1).1 = 2 := hc9
      exact q_iret C hP hS ⟨by rw [hc8]; rfl, fo, j1, fun z => absurd (hc8.symm.trans z) (by decide)⟩ (by omega) dL_freeze_20
  · obtain ⟨hc0, rfl, hpo⟩ := hq
    have j1 : JZ cy hh1 x y ou fo gr (n + 1) ((xs_freeze S p0 p1).2.1) (W) S W := JZ.cls hz hQ hA hou hmk hEd hrn hdj hno hpo
    have hou1 := j1.ouf
    refine lv_i2l hx hb dL_freeze_8 rfl ?_
    refine q_lastN C hP hS hou1 (by omega) (by omega) dL_freeze_9 (fun H locs hP hS => ?_)
    replace hou1 : (qs hh1 ou (.inl (cy 1, 1, .inr (.inl (vp_updL fo 0 ((((xs_freeze S p0 p1).2.2)).toInt64)))))) ou = some (.inl (cy 1, 1, .inr (.inl (vp_updL fo 0 ((((xs_freeze S p0 p1).2.2)).toInt64))))) := qs_self
    refine lv_goto (tgt := 21) hx hb dL_freeze_10 (by decide) ?_
    refine lv_iconst (v := nI 0) hx hb dL_freeze_21 (by decide) ?_
    have hc8 : (xs_freeze S p0 p1).1 = 0 := hc0
    obtain ⟨K9, dp9, hp9⟩ : PI gr (n + 1) ((xs_freeze S p0 p1).2.1) (W) := hp.freeze
    have j2 := j1.out (f' := vp_updL fo 0 (((xs_freeze S p0 p1).2.2).toInt64)) hp9.hV
    exact q_iret C hP hS ⟨by rw [hc8]; rfl, vp_updL fo 0 (((xs_freeze S p0 p1).2.2).toInt64), j2, fun _ => rfl⟩ (by omega) dL_freeze_22

set_option maxRecDepth 100000 in
set_option maxHeartbeats 4000000 in
theorem zl_count (l : Launch) (D : va_G) (cy : Nat → ClassId) (N0 : Nat) (h : qH) (x y ou : Nat) (fo : Nat → Int64) (gr : Int32) (n : Nat) (S : Nat → qSlot) (W : qWo) (p0 : Int32) (j : JZ cy h x y ou fo gr n S W S W) (hp : PI gr n S W) (hn : n < 64) : qCW l D cy N0 yL_count cL_count 4 (some .int) [(0, 9, 12, 13)] 1600 46000 (1200 + 212 * n + (W.2.1.1 - W.2.1.1)) (12200 + n * rMs n 7 + 10 * (W.2.1.1 - W.2.1.1)) [.ref x, .int p0, .ref ou] h (fun v h' => v = some (.int (xs_count S (oCq W.1) (oMq W.1) p0).1) ∧ ∃ fo' : Nat → Int64, JZ cy h' x y ou fo' gr (n + 1) (S) (W) S W ∧ ((xs_count S (oCq W.1) (oMq W.1) p0).1 = 0 → fo' 0 = ((xs_count S (oCq W.1) (oMq W.1) p0).2).toInt64)) := by
  refine q_ofWH (by decide) (by exact Nat.le_of_ble_eq_true rfl) ?_
  intro p e s m below meth c ls C hP hl
  have hx := C.1
  have hb := C.2.1
  have hS : va_S (qA N0) s.heap s.heap [] := va_S.rf
  have hl : lv_has ls 4 [(0, .ref x), (1, .int p0), (2, .ref ou)] := hl
  have j0 := j
  obtain ⟨mk, sl, bl, kr, vr, Ed, fs, bd, br, eb, Im, Xb, g, A, ra, rk, rv, pa, ad, hz, hQ, hA, hou, hmk, hEd, hrn, hdj, hno⟩ := j
  obtain ⟨K, dp, hpi⟩ := id hp
  refine lv_aload_n hx hb dL_count_0 rfl (lv_at hl 2 rfl) ?_
  refine lv_iconst (v := nI 0) hx hb dL_count_1 (by decide) ?_
  refine lv_aload_n hx hb dL_count_2 rfl (lv_at hl 0 rfl) ?_
  refine lv_iload_n hx hb dL_count_3 rfl (lv_at hl 1 rfl) ?_
  refine q_callV (rest := [.int (nI 0), .ref ou]) C (z_count l D cy N0 h x mk sl bl kr vr Ed fs bd br eb Im Xb g S W (n + 2) 1 (S 999).2.2.1 dp gr p0 hz hpi.hI hpi.hLn hpi.hV hpi.hDp hpi.hAl hmk) kX6_count g1076 g1077 rfl g1078 g1 hP hS hz.1.1 (by first | decide | omega) hl.1 rfl (by simp [q_catrf, q_cati, q_catl, q_cata, q_catn]) (by first | decide | omega) dL_count_4 (fun q ce E hX H locs hE hP hS hc1 hc2 hc3 => ?_) (fun v hh1 H locs hq hP hS => ?_)
  · obtain ⟨hE0, hpo⟩ := hE
    simp only [zXc, List.mem_cons, Prod.mk.injEq, List.not_mem_nil, or_false] at hE0
    obtain ⟨hc9, rfl⟩ := hE0
    refine q_catch (hh := [(0, 9, 12, 13)]) C [] [] (0, 9, 12, 13) rfl (by decide) (by decide) g99 (by decide) (fun z hz => by cases hz) hc1 hc2 hc3 ?_
    have j1 : JZ cy hX x y ou fo gr (n + 1) (S) (W) S W := by exact JZ.cls hz hQ hA hou hmk hEd hrn hdj hno hpo
    refine lv_astore_n (lv' := [(3, .ref q), (0, .ref x), (1, .int p0), (2, .ref ou)]) hx hb dL_count_12 rfl hl (by decide) rfl (fun ls hl => ?_)
    refine lv_iconst (v := nI 1) hx hb dL_count_13 (by decide) ?_
    have hc8 : (xs_count S (oCq W.1) (oMq W.1) p0).1 = 1 := hc9
    exact q_iret C hP hS ⟨by rw [hc8]; rfl, fo, j1, fun z => absurd (hc8.symm.trans z) (by decide)⟩ (by omega) dL_count_14
  · obtain ⟨hc0, rfl, hpo⟩ := hq
    have j1 : JZ cy hh1 x y ou fo gr (n + 1) (S) (W) S W := JZ.cls hz hQ hA hou hmk hEd hrn hdj hno hpo
    have hou1 := j1.ouf
    refine lv_i2l hx hb dL_count_7 rfl ?_
    refine q_lastN C hP hS hou1 (by omega) (by omega) dL_count_8 (fun H locs hP hS => ?_)
    replace hou1 : (qs hh1 ou (.inl (cy 1, 1, .inr (.inl (vp_updL fo 0 ((((xs_count S (oCq W.1) (oMq W.1) p0).2)).toInt64)))))) ou = some (.inl (cy 1, 1, .inr (.inl (vp_updL fo 0 ((((xs_count S (oCq W.1) (oMq W.1) p0).2)).toInt64))))) := qs_self
    refine lv_goto (tgt := 15) hx hb dL_count_9 (by decide) ?_
    refine lv_iconst (v := nI 0) hx hb dL_count_15 (by decide) ?_
    have hc8 : (xs_count S (oCq W.1) (oMq W.1) p0).1 = 0 := hc0
    obtain ⟨K9, dp9, hp9⟩ : PI gr (n + 1) (S) (W) := hp.up
    have j2 := j1.out (f' := vp_updL fo 0 (((xs_count S (oCq W.1) (oMq W.1) p0).2).toInt64)) hp9.hV
    exact q_iret C hP hS ⟨by rw [hc8]; rfl, vp_updL fo 0 (((xs_count S (oCq W.1) (oMq W.1) p0).2).toInt64), j2, fun _ => rfl⟩ (by omega) dL_count_16
