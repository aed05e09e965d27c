
set_option maxRecDepth 100000 in
set_option maxHeartbeats 4000000 in
theorem zl_turng (l : Launch) (D : va_G) (cy : Nat → ClassId) (N0 : Nat) (h : qH) (x y ou : Nat) (fo : Nat → Int64) (gr : Int32) (n : Nat) (S : Nat → qSlot) (W : qWo) (p0 : Int32) (p1 : Int32) (j : JZ cy h x y ou fo gr n S W S W) (hp : PI gr n S W) (hn : n < 64) : qCW l D cy N0 yL_turn cL_turn 4 (some .int) [(0, 6, 9, 13), (0, 6, 12, 18), (0, 6, 15, 31)] 1600 46000 (1200 + 212 * n + (W.2.1.1 - W.2.1.1)) (12200 + n * rMs n 7 + 10 * (W.2.1.1 - W.2.1.1)) [.ref x, .int p0, .int p1] h (fun v h' => ∃ c : Int32, v = some (.int c) ∧ ∃ A ra rk rv pa ad, ∀ (S1 : Nat → qSlot) (rr : Nat), xTok S p0 p1 S1 rr → (xs_turn S S1 rr W p0 p1).1 = c ∧ JZg cy h' x y ou fo gr (n + 1) ((xs_turn S S1 rr W p0 p1).2.1) ((xs_turn S S1 rr W p0 p1).2.2) S W A ra rk rv pa ad) := by
  refine q_ofWH (by decide) (by exact Nat.le_of_ble_eq_true rfl) ?_
  intro p e s m below meth c ls C hP hl
  have hx := C.1
  have hb := C.2.1
  have hS : va_S (qA N0) s.heap s.heap [] := va_S.rf
  have hl : lv_has ls 4 [(0, .ref x), (1, .int p0), (2, .int p1)] := hl
  have j0 := j
  obtain ⟨mk, sl, bl, kr, vr, Ed, fs, bd, br, eb, Im, Xb, g, A, ra, rk, rv, pa, ad, hz, hQ, hA, hou, hmk, hEd, hrn, hdj, hno⟩ := j
  obtain ⟨K, dp, hpi⟩ := id hp
  refine lv_aload_n hx hb dL_turn_0 rfl (lv_at hl 0 rfl) ?_
  refine lv_iload_n hx hb dL_turn_1 rfl (lv_at hl 1 rfl) ?_
  refine lv_iload_n hx hb dL_turn_2 rfl (lv_at hl 2 rfl) ?_
  refine q_callV (rest := []) C (z_turn l D cy N0 h x mk sl bl kr vr Ed fs bd br eb Im Xb g S W (n + 2) 0 (S 999).2.2.1 dp 100 p0 p1 hz hpi.hI hpi.hLn hpi.hV hpi.hSt (by rw [hpi.2.2.2.2.2.2.1]; exact hmk) rfl hpi.2.2.2.2.1) kX6_turn g990 g991 rfl g992 g1 hP hS hz.1.1 (by first | decide | omega) hl.1 rfl (by decide) (by first | decide | omega) dL_turn_3 (fun q ce E hX H locs hE hP hS hc1 hc2 hc3 => ?_) (fun v hh1 H locs hq hP hS => ?_)
  · obtain ⟨S0, r0, ht0⟩ := xTok_ex (S := S) (p0 := p0) (p1 := p1)
    have hE0 := (hE S0 r0 ht0).1
    simp only [zXc, List.mem_cons, Prod.mk.injEq, List.not_mem_nil, or_false] at hE0
    rcases hE0 with ⟨hc9, rfl⟩ | ⟨hc9, rfl⟩ | ⟨hc9, rfl⟩
    · refine q_catch (hh := [(0, 6, 9, 13), (0, 6, 12, 18), (0, 6, 15, 31)]) C [] [(0, 6, 12, 18), (0, 6, 15, 31)] (0, 6, 9, 13) rfl (by decide) (by decide) g99 (by decide) (fun z hz => by cases hz) hc1 hc2 hc3 ?_
      have j1 : ∀ (S1 : Nat → qSlot) (rr : Nat), xTok S p0 p1 S1 rr → (xs_turn S S1 rr W p0 p1).1 = 1 ∧ JZg cy hX x y ou fo gr (n + 1) ((xs_turn S S1 rr W p0 p1).2.1) ((xs_turn S S1 rr W p0 p1).2.2) S W A ra rk rv pa ad := fun S1 rr htk => by have e1 : (xs_turn S S1 rr W p0 p1).1 = 1 := (xs_turnc (S1 := S1) (S2 := S0) (rr := rr) (r2 := r0)).trans hc9; have e2 := xb_turn (show (xs_turn S S1 rr W p0 p1).1 ≠ 0 by rw [e1]; decide); refine ⟨e1, ?_⟩; rw [e2]; exact JZ.clsg hz hQ hA hou hmk hEd hrn hdj hno (hE S1 rr htk).2
      refine lv_astore_n (lv' := [(3, .ref q), (0, .ref x), (1, .int p0), (2, .int p1)]) hx hb dL_turn_9 rfl hl (by decide) rfl (fun ls hl => ?_)
      refine lv_iconst (v := nI 1) hx hb dL_turn_10 (by decide) ?_
      exact q_iret C hP hS ⟨1, rfl, A, ra, rk, rv, pa, ad, j1⟩ (by omega) dL_turn_11
    · refine q_catch (hh := [(0, 6, 9, 13), (0, 6, 12, 18), (0, 6, 15, 31)]) C [(0, 6, 9, 13)] [(0, 6, 15, 31)] (0, 6, 12, 18) rfl (by decide) (by decide) g238 (by decide) (fun z hz => by simp only [List.mem_cons, List.not_mem_nil, or_false] at hz; subst hz; exact ⟨by decide, "java/lang/IllegalArgumentException", by decide, by decide, g99⟩) hc1 hc2 hc3 ?_
      have j1 : ∀ (S1 : Nat → qSlot) (rr : Nat), xTok S p0 p1 S1 rr → (xs_turn S S1 rr W p0 p1).1 = 2 ∧ JZg cy hX x y ou fo gr (n + 1) ((xs_turn S S1 rr W p0 p1).2.1) ((xs_turn S S1 rr W p0 p1).2.2) S W A ra rk rv pa ad := fun S1 rr htk => by have e1 : (xs_turn S S1 rr W p0 p1).1 = 2 := (xs_turnc (S1 := S1) (S2 := S0) (rr := rr) (r2 := r0)).trans hc9; have e2 := xb_turn (show (xs_turn S S1 rr W p0 p1).1 ≠ 0 by rw [e1]; decide); refine ⟨e1, ?_⟩; rw [e2]; exact JZ.clsg hz hQ hA hou hmk hEd hrn hdj hno (hE S1 rr htk).2
      refine lv_astore_n (lv' := [(3, .ref q), (0, .ref x), (1, .int p0), (2, .int p1)]) hx hb dL_turn_12 rfl hl (by decide) rfl (fun ls hl => ?_)
      refine lv_iconst (v := nI 2) hx hb dL_turn_13 (by decide) ?_
      exact q_iret C hP hS ⟨2, rfl, A, ra, rk, rv, pa, ad, j1⟩ (by omega) dL_turn_14
    · refine q_catch (hh := [(0, 6, 9, 13), (0, 6, 12, 18), (0, 6, 15, 31)]) C [(0, 6, 9, 13), (0, 6, 12, 18)] [] (0, 6, 15, 31) rfl (by decide) (by decide) g280 (by decide) (fun z hz => by simp only [List.mem_cons, List.not_mem_nil, or_false] at hz; rcases hz with rfl | rfl <;> first | exact ⟨by decide, "java/lang/IllegalArgumentException", by decide, by decide, g99⟩ | exact ⟨by decide, "java/lang/IllegalStateException", by decide, by decide, g238⟩) hc1 hc2 hc3 ?_
      have j1 : ∀ (S1 : Nat → qSlot) (rr : Nat), xTok S p0 p1 S1 rr → (xs_turn S S1 rr W p0 p1).1 = 3 ∧ JZg cy hX x y ou fo gr (n + 1) ((xs_turn S S1 rr W p0 p1).2.1) ((xs_turn S S1 rr W p0 p1).2.2) S W A ra rk rv pa ad := fun S1 rr htk => by have e1 : (xs_turn S S1 rr W p0 p1).1 = 3 := (xs_turnc (S1 := S1) (S2 := S0) (rr := rr) (r2 := r0)).trans hc9; have e2 := xb_turn (show (xs_turn S S1 rr W p0 p1).1 ≠ 0 by rw [e1]; decide); refine ⟨e1, ?_⟩; rw [e2]; exact JZ.clsg hz hQ hA hou hmk hEd hrn hdj hno (hE S1 rr htk).2
      refine lv_astore_n (lv' := [(3, .ref q), (0, .ref x), (1, .int p0), (2, .int p1)]) hx hb dL_turn_15 rfl hl (by decide) rfl (fun ls hl => ?_)
      refine lv_iconst (v := nI 3) hx hb dL_turn_16 (by decide) ?_
      exact q_iret C hP hS ⟨3, rfl, A, ra, rk, rv, pa, ad, j1⟩ (by omega) dL_turn_17
  · have j1 : ∀ (S1 : Nat → qSlot) (rr : Nat), xTok S p0 p1 S1 rr → (xs_turn S S1 rr W p0 p1).1 = 0 ∧ JZg cy hh1 x y ou fo gr (n + 1) ((xs_turn S S1 rr W p0 p1).2.1) ((xs_turn S S1 rr W p0 p1).2.2) S W A ra rk rv pa ad := fun S1 rr htk => ⟨(hq S1 rr htk).1, JZ.clsg hz hQ hA hou hmk hEd hrn hdj hno (hq S1 rr htk).2.2⟩
    obtain ⟨S1, rr, htk⟩ := xTok_ex (S := S) (p0 := p0) (p1 := p1)
    obtain ⟨-, rfl, -⟩ := hq S1 rr htk
    refine lv_goto (tgt := 18) hx hb dL_turn_6 (by decide) ?_
    refine lv_iconst (v := nI 0) hx hb dL_turn_18 (by decide) ?_
    exact q_iret C hP hS ⟨0, rfl, A, ra, rk, rv, pa, ad, j1⟩ (by omega) dL_turn_19
set_option maxRecDepth 100000 in
set_option maxHeartbeats 4000000 in
theorem wl_turn (l : Launch) (D : va_G) (cy : Nat → ClassId) (N0 : Nat) (h : qH) (x y ou : Nat) (fo : Nat → Int64) (gr : Int32) (n : Nat) (S : Nat → qSlot) (W : qWo) (c p0 p1 : Int32) (j : ∃ A ra rk rv pa ad, ∀ (S1 : Nat → qSlot) (rr : Nat), xTok S p0 p1 S1 rr → (xs_turn S S1 rr W p0 p1).1 = c ∧ JZg cy h x y ou fo gr (n + 1) ((xs_turn S S1 rr W p0 p1).2.1) ((xs_turn S S1 rr W p0 p1).2.2) S W A ra rk rv pa ad) (hp : PI gr n S W) (hn : n < 64) : qC l D cy N0 yX8_turn cX8_turn 7 none 16 1000 (qP1 (xTa S W.2.1 W.2.2 p0 p1) - qP1 W.2.1 + 1) (qP2 (xTa S W.2.1 W.2.2 p0 p1) - qP2 W.2.1 + 1000) [.ref y, .int p0, .int p1] h (fun v h' => v = none ∧ ∃ (S9 : Nat → qSlot) (W' : qWo), JZ cy h' x y ou fo gr (n + 1) S9 W' S9 W' ∧ PI gr (n + 1) S9 W' ∧ W'.1.2.2.2.2.2.2.2.1 = c ∧ W'.2.1 = (xTa S W.2.1 W.2.2 p0 p1)) (fun E h' => False) := by
  obtain ⟨A, ra, rk, rv, pa, ad, j⟩ := j
  obtain ⟨K, dp, hpi⟩ := id hp
  obtain ⟨S0, r0, ht0⟩ := xTok_ex (S := S) (p0 := p0) (p1 := p1)
  obtain ⟨-, mk0, sl0, bl0, kr0, vr0, Ed0, fs0, bd0, br0, eb0, Im0, Xb0, g0, -, hQ, hA, -, -, -, hrn, -⟩ := j S0 r0 ht0
  obtain ⟨⟨ms, mb, mw, od, pt, ro, gr9, cd, ca, mv, ct, fau, rn⟩, a, k⟩ := W
  obtain rfl : gr9 = gr := hpi.2.2.2.2.2.2.1
  obtain ⟨fi, re, rc, rs, so, ot, cn, la, hY⟩ := hQ.1.yo2
  refine (w_turn l D cy N0 h y ms mb mw od pt fi re rc rs so ot cn la ro gr9 cd ca mv ct fau (nI a.1) (nI k.1) rn ra rk rv S pa A a k ad (n + 2) 1 101 100 dp (xF S) p0 p1 _ hY hQ hpi.hI hpi.hV (by omega) (by have := hpi.2.2.2.1; omega) hrn rfl).mono (fun v h' hq => ?_) (fun _ _ z => z)
  obtain ⟨rfl, A', S1, ad', rr, htk, ⟨ct', hQ9⟩, hf9, had⟩ := hq
  obtain ⟨hc, mk, sl, bl, kr, vr, Ed, fs, bd, br, eb, Im, Xb, g, hz, -, -, hou, hmk, hEd, -, hdj, hno⟩ := j S1 rr htk
  have hp9 : PI gr9 (n + 1) ((xs_turn S S1 rr ((ms, mb, mw, od, pt, ro, gr9, cd, ca, mv, ct, fau, rn), a, k) p0 p1).2.1) ((xs_turn S S1 rr ((ms, mb, mw, od, pt, ro, gr9, cd, ca, mv, ct, fau, rn), a, k) p0 p1).2.2) := hp.turn htk
  have hqs : QS ((ms, mb, mw, od, pt, ro, gr9, cd, ca, mv, ct, fau, rn), a, k) ((xs_turn S S1 rr ((ms, mb, mw, od, pt, ro, gr9, cd, ca, mv, ct, fau, rn), a, k) p0 p1).2.2) := qo_turn
  have h99 := xTok_9 (W := ((ms, mb, mw, od, pt, ro, gr9, cd, ca, mv, ct, fau, rn), a, k)) htk
  have hta := xTa_eq (W := ((ms, mb, mw, od, pt, ro, gr9, cd, ca, mv, ct, fau, rn), a, k)) htk
  generalize (xs_turn S S1 rr ((ms, mb, mw, od, pt, ro, gr9, cd, ca, mv, ct, fau, rn), a, k) p0 p1) = XX at hc hz hp9 hqs h99 hta hQ9
  obtain ⟨c0, SX, oX, aX, kX⟩ := XX
  dsimp only at hc hz hp9 hqs h99 hta hQ9
  have hp8 : PI gr9 (n + 1) SX (oRn (oCt (oCd oX c0) ct') (nI (S1 999).2.2.1), aX, kX) := hp9.obj rfl rfl
  obtain ⟨K9, dp9, hpi9⟩ := id hp8
  refine ⟨rfl, SX, (oRn (oCt (oCd oX c0) ct') (nI (S1 999).2.2.1), aX, kX), JZ.ref (W := ((ms, mb, mw, od, pt, ro, gr9, cd, ca, mv, ct, fau, rn), a, k)) hpi9.hV (hz.obj rfl rfl) hQ hA hou hmk hEd hdj hno hQ9 hf9 hqs.1 (by rw [h99]; rfl) (fun i9 hi9 => ?_), hp8, hc, hta⟩
  rw [h99] at hi9
  rcases had i9 with z | z | z
  · exact Or.inl z
  · exact Or.inr z
  · omega
theorem dL_law_2463 : decode cL_law 2463 = .ok (.aload_n 1, 1) := by decide +kernel
theorem dL_law_2464 : decode cL_law 2464 = .ok (.aload_n 0, 1) := by decide +kernel
theorem dL_law_2465 : decode cL_law 2465 = .ok (.iload 4, 2) := by decide +kernel
theorem dL_law_2467 : decode cL_law 2467 = .ok (.iconst 1, 1) := by decide +kernel
theorem dL_law_2468 : decode cL_law 2468 = .ok (.iadd, 1) := by decide +kernel
theorem dL_law_2469 : decode cL_law 2469 = .ok (.iaload, 1) := by decide +kernel
theorem dL_law_2470 : decode cL_law 2470 = .ok (.aload_n 0, 1) := by decide +kernel
theorem dL_law_2471 : decode cL_law 2471 = .ok (.iload 4, 2) := by decide +kernel
theorem dL_law_2473 : decode cL_law 2473 = .ok (.iconst 2, 1) := by decide +kernel
theorem dL_law_2474 : decode cL_law 2474 = .ok (.iadd, 1) := by decide +kernel
theorem dL_law_2475 : decode cL_law 2475 = .ok (.iaload, 1) := by decide +kernel
theorem dL_law_2476 : decode cL_law 2476 = .ok (.invokestatic 238, 3) := by decide +kernel
theorem dL_law_2479 : decode cL_law 2479 = .ok (.istore 5, 2) := by decide +kernel
theorem dL_law_2481 : decode cL_law 2481 = .ok (.aload_n 2, 1) := by decide +kernel
theorem dL_law_2482 : decode cL_law 2482 = .ok (.aload_n 0, 1) := by decide +kernel
theorem dL_law_2483 : decode cL_law 2483 = .ok (.iload 4, 2) := by decide +kernel
theorem dL_law_2485 : decode cL_law 2485 = .ok (.iconst 1, 1) := by decide +kernel
theorem dL_law_2486 : decode cL_law 2486 = .ok (.iadd, 1) := by decide +kernel
theorem dL_law_2487 : decode cL_law 2487 = .ok (.iaload, 1) := by decide +kernel
theorem dL_law_2488 : decode cL_law 2488 = .ok (.aload_n 0, 1) := by decide +kernel
theorem dL_law_2489 : decode cL_law 2489 = .ok (.iload 4, 2) := by decide +kernel
theorem dL_law_2491 : decode cL_law 2491 = .ok (.iconst 2, 1) := by decide +kernel
theorem dL_law_2492 : decode cL_law 2492 = .ok (.iadd, 1) := by decide +kernel
theorem dL_law_2493 : decode cL_law 2493 = .ok (.iaload, 1) := by decide +kernel
theorem dL_law_2494 : decode cL_law 2494 = .ok (.invokevirtual 240, 3) := by decide +kernel
theorem dL_law_2497 : decode cL_law 2497 = .ok (.aload_n 2, 1) := by decide +kernel
theorem dL_law_2498 : decode cL_law 2498 = .ok (.invokevirtual 147, 3) := by decide +kernel
theorem dL_law_2501 : decode cL_law 2501 = .ok (.iload 5, 2) := by decide +kernel
theorem dL_law_2503 : decode cL_law 2503 = .ok (.if_icmp .eq 5, 3) := by decide +kernel
theorem dL_law_2508 : decode cL_law 2508 = .ok (.goto 432, 3) := by decide +kernel
set_option maxRecDepth 100000 in
set_option maxHeartbeats 4000000 in
theorem lc_turn {p : Program} {l : Launch} {e : Env} {mc ms : Nat} {s : State} {m : MethodId} {below : List Frame} {meth : Method} {c : Code} {H : Heap} {locs : List Loc} {cells slots : Nat} {Q : State → Prop} {rt0 : Option FieldType} {nm0 : String} {D : va_G} {cy : Nat → ClassId} {N0 : Nat} {tb : List ExceptionTableEntry} {h : qH} {ls : Array Slot} {b L : Nat} {xs : Nat → Int32} {x y ou : Nat} {fo : Nat → Int64} {gr : Int32} {n i C1 C2 : Nat} {S : Nat → qSlot} {Wo : qWo} (C : qX p l s m #[Value.ref b] meth c RL cL_law 8 rt0 nm0 D cy N0 tb) (hX : va_X b L xs s s.heap) (hbl0 : b < s.heap.size) (hbA : ¬ qA N0 b) (hP : qP D N0 h H) (hS : va_S (qA N0) s.heap H locs) (hi : i + 7 ≤ L) (hL : L ≤ 449) (hn : n < 64) (j : JZ cy h x y ou fo gr n S Wo S Wo) (hp : PI gr n S Wo) (hc1 : cells ≤ C1 + t1 n + Wo.2.1.1 + qP1 Wo.2.1) (hc2 : slots ≤ C2 + t2 n + 10 * Wo.2.1.1 + qP2 Wo.2.1) (hmc : C1 + 530000 ≤ mc) (hms : C2 + 5520000 ≤ ms) (hl : lv_has ls 8 [(4, .int (nI i)), (3, .ref ou), (2, .ref y), (1, .ref x), (0, .ref b)]) (kend : ∀ (ls : Array Slot) (H : Heap) (locs : List Loc) (c1 c2 : Nat) (h : qH) (fo : Nat → Int64) (S : Nat → qSlot) (Wo : qWo), JZ cy h x y ou fo gr (n + 1) S Wo S Wo → PI gr (n + 1) S Wo → c1 ≤ C1 + t1 (n + 1) + Wo.2.1.1 + qP1 Wo.2.1 → c2 ≤ C2 + t2 (n + 1) + 10 * Wo.2.1.1 + qP2 Wo.2.1 → qP D N0 h H → va_S (qA N0) s.heap H locs → lv_has ls 8 [(4, .int (nI i)), (3, .ref ou), (2, .ref y), (1, .ref x), (0, .ref b)] → W p l e (qR 2048 84000 mc ms) s m #[Value.ref b] below meth c H locs c1 c2 Q (F0 m 2940 ls [])) : W p l e (qR 2048 84000 mc ms) s m #[Value.ref b] below meth c H locs cells slots Q (F0 m 2463 ls []) := by
  have hx := C.1
  have hb := C.2.1
  have h1L := t1_le (n + 1) (by omega)
  have h2L := t2_le (n + 1) (by omega)
  have e1L : t1 (n + 1) = t1 n + (1201 + 212 * n) := rfl
  have e2L : t2 (n + 1) = t2 n + (13300 + n * rMs n 7) := rfl
  have hb0 := hp.bnd (by omega)
  refine lv_aload_n hx hb dL_law_2463 rfl (lv_at hl 3 rfl) ?_
  refine lv_aload_n hx hb dL_law_2464 rfl (lv_at hl 4 rfl) ?_
  refine lv_iload hx hb dL_law_2465 (lv_at hl 0 rfl) ?_
  refine lv_iconst (v := nI 1) hx hb dL_law_2467 (by decide) ?_
  refine q_iaddN hx hb dL_law_2468 ?_
  refine va_sld hx hb hX hbl0 hbA hS (nI_in (by omega) (by omega)) dL_law_2469 ?_
  refine lv_topi (fun s1 es1 => ?_)
  refine lv_aload_n hx hb dL_law_2470 rfl (lv_at hl 4 rfl) ?_
  refine lv_iload hx hb dL_law_2471 (lv_at hl 0 rfl) ?_
  refine lv_iconst (v := nI 2) hx hb dL_law_2473 (by decide) ?_
  refine q_iaddN hx hb dL_law_2474 ?_
  refine va_sld hx hb hX hbl0 hbA hS (nI_in (by omega) (by omega)) dL_law_2475 ?_
  refine lv_topi (fun s2 es2 => ?_)
  obtain ⟨hTm, hTb, hTc⟩ := xTa_b (p0 := s1) (p1 := s2) hp hn
  refine q_callSW (rest := []) C (zl_turng l D cy N0 h x y ou fo gr n S Wo s1 s2 j hp hn) kwL_turn g987 g988 hP hS (by omega) hl.1 rfl (by decide) (by omega) dL_law_2476 (fun v hh1 H locs hq hP hS => ?_)
  obtain ⟨cT, rfl, j1⟩ := hq
  obtain ⟨S0, r0, ht0⟩ := xTok_ex (S := S) (p0 := s1) (p1 := s2)
  obtain ⟨fi, re, rc, rs, so, ot, cn, la, hy1⟩ := JT.yo j1 ht0
  refine lv_istore (lv' := [(5, .int cT), (4, .int (nI i)), (3, .ref ou), (2, .ref y), (1, .ref x), (0, .ref b)]) hx hb dL_law_2479 hl (by decide) rfl (fun ls hl => ?_)
  refine lv_aload_n hx hb dL_law_2481 rfl (lv_at hl 3 rfl) ?_
  refine lv_aload_n hx hb dL_law_2482 rfl (lv_at hl 5 rfl) ?_
  refine lv_iload hx hb dL_law_2483 (lv_at hl 1 rfl) ?_
  refine lv_iconst (v := nI 1) hx hb dL_law_2485 (by decide) ?_
  refine q_iaddN hx hb dL_law_2486 ?_
  refine va_sld hx hb hX hbl0 hbA hS (nI_in (by omega) (by omega)) dL_law_2487 ?_
  rw [← es1]
  refine lv_aload_n hx hb dL_law_2488 rfl (lv_at hl 5 rfl) ?_
  refine lv_iload hx hb dL_law_2489 (lv_at hl 1 rfl) ?_
  refine lv_iconst (v := nI 2) hx hb dL_law_2491 (by decide) ?_
  refine q_iaddN hx hb dL_law_2492 ?_
  refine va_sld hx hb hX hbl0 hbA hS (nI_in (by omega) (by omega)) dL_law_2493 ?_
  rw [← es2]
  refine q_callV (rest := []) C (wl_turn l D cy N0 hh1 x y ou fo gr n S Wo cT s1 s2 j1 hp hn) kX8_turn g1453 g1454 rfl g1455 g4 hP hS hy1 (by first | decide | omega) hl.1 rfl (by decide) (by first | decide | omega) dL_law_2494 (fun q ce E h' H1 locs1 hE => hE.elim) (fun v hh2 H locs hq hP hS => ?_)
  obtain ⟨rfl, SX9, W2, j2, p2, hcd, hb2⟩ := hq
  obtain ⟨fi2, re2, rc2, rs2, so2, ot2, cn2, la2, hy2⟩ := j2.yo
  refine lv_aload_n hx hb dL_law_2497 rfl (lv_at hl 3 rfl) ?_
  refine q_callV (rest := []) C (c_X8_thrown l D cy N0 hh2 y W2.1.1 W2.1.2.1 W2.1.2.2.1 W2.1.2.2.2.1 W2.1.2.2.2.2.1 fi2 re2 rc2 rs2 so2 ot2 cn2 la2 W2.1.2.2.2.2.2.1 W2.1.2.2.2.2.2.2.1 W2.1.2.2.2.2.2.2.2.1 W2.1.2.2.2.2.2.2.2.2.1 W2.1.2.2.2.2.2.2.2.2.2.1 W2.1.2.2.2.2.2.2.2.2.2.2.1 W2.1.2.2.2.2.2.2.2.2.2.2.2.1 (nI W2.2.1.1) (nI W2.2.2.1) W2.1.2.2.2.2.2.2.2.2.2.2.2.2 hy2) kX8_thrown g1238 g1239 rfl g1240 g4 hP hS hy2 (by first | decide | omega) hl.1 rfl (by decide) (by first | decide | omega) dL_law_2498 (fun q ce E h' H1 locs1 hE => hE.elim) (fun v hh3 H locs hq hP hS => ?_)
  obtain ⟨rfl, rfl⟩ := hq
  rw [hcd]
  refine lv_iload hx hb dL_law_2501 (lv_at hl 0 rfl) ?_
  refine lv_icmp_eq (tgt := 2508) hx hb dL_law_2503 (by decide) (fun _ => ?_) (fun c9 => absurd rfl c9)
  refine lv_goto (tgt := 2940) hx hb dL_law_2508 (by decide) ?_
  exact kend ls H locs _ _ _ fo SX9 W2 j2 p2 (by rw [hb2]; omega) (by rw [hb2]; omega) hP hS (lv_sub hl [1, 2, 3, 4, 5] rfl)
