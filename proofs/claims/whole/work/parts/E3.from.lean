theorem dX6_mappedFrom_0 : decode cX6_mappedFrom 0 = .ok (.aload_n 1, 1) := by decide +kernel
theorem dX6_mappedFrom_1 : decode cX6_mappedFrom 1 = .ok (.ifnonnull 7, 3) := by decide +kernel
theorem dX6_mappedFrom_4 : decode cX6_mappedFrom 4 = .ok (.aconst_null, 1) := by decide +kernel
theorem dX6_mappedFrom_5 : decode cX6_mappedFrom 5 = .ok (.goto 19, 3) := by decide +kernel
theorem dX6_mappedFrom_8 : decode cX6_mappedFrom 8 = .ok (.aload_n 0, 1) := by decide +kernel
theorem dX6_mappedFrom_9 : decode cX6_mappedFrom 9 = .ok (.iload_n 2, 1) := by decide +kernel
theorem dX6_mappedFrom_10 : decode cX6_mappedFrom 10 = .ok (.aload_n 1, 1) := by decide +kernel
theorem dX6_mappedFrom_11 : decode cX6_mappedFrom 11 = .ok (.getfield 159, 3) := by decide +kernel
theorem dX6_mappedFrom_14 : decode cX6_mappedFrom 14 = .ok (.lload_n 3, 1) := by decide +kernel
theorem dX6_mappedFrom_15 : decode cX6_mappedFrom 15 = .ok (.invokevirtual 505, 3) := by decide +kernel
theorem dX6_mappedFrom_18 : decode cX6_mappedFrom 18 = .ok (.iload_n 2, 1) := by decide +kernel
theorem dX6_mappedFrom_19 : decode cX6_mappedFrom 19 = .ok (.lload_n 3, 1) := by decide +kernel
theorem dX6_mappedFrom_20 : decode cX6_mappedFrom 20 = .ok (.aload_n 1, 1) := by decide +kernel
theorem dX6_mappedFrom_21 : decode cX6_mappedFrom 21 = .ok (.invokestatic 524, 3) := by decide +kernel
theorem dX6_mappedFrom_24 : decode cX6_mappedFrom 24 = .ok (.areturn, 1) := by decide +kernel
set_option maxRecDepth 100000 in
set_option maxHeartbeats 4000000 in
theorem z_mappedFrom (l : Launch) (D : va_G) (cy : Nat → ClassId) (N0 : Nat) (h : qH) (x : Nat) (mk : Int32) (sl bl kr vr : Nat) (ed : Int32) (g : Nat → Nat) (R : Nat → List Int64) (o : qYf) (a : qWd) (k : qKd) (Bd sk Rn : Nat) (dp : Nat → Nat) (ss wq : Nat) (c0 : Int64) (X : Nat × qWo) (hz : zW h x mk sl bl kr vr ed g R (o, a, k)) (hV : qWv Bd sk Rn dp (o, a, k)) (hfa : oFq o = 0) (hss : ss < a.1) (hwq : wq ≤ 6) (hX : xMap o a k ss wq c0 = X) : qC l D cy N0 yX6_mappedFrom cX6_mappedFrom 5 (some (.object RX5)) 10 180 (X.2.2.1.1 - a.1 + (if oFq X.2.1 = 0 then 0 else 1)) (10 * (X.2.2.1.1 - a.1) + (if oFq X.2.1 = 0 then 0 else 6)) [.ref x, va_rf (zO g ss), .int (nI wq), .long c0] h (fun v h' => zP h x mk sl bl kr vr ed g R a.1 X v h') (fun E h' => zE h x mk sl bl kr vr ed g R a.1 X E h') := by
  refine q_ofW (by decide) (by simp [lg_sl, q_catrf, q_cati, q_catl, q_cata, q_catn]) ?_
  intro p e s m below meth c ls C hP hl
  have hx := C.1
  have hb := C.2.1
  have hS : va_S (qA N0) s.heap s.heap [] := va_S.rf
  have hl : lv_has ls 5 [(0, .ref x), (1, va_rf (zO g ss)), (2, .int (nI wq)), (3, .long c0)] := by simpa [lv_args, q_catrf, q_cati, q_catl, q_cata, q_catn] using hl
  have hp9 : 1 ≤ a.1 ∧ a.1 ≤ a.2.1 := hV.p
  by_cases cs : ss = 0
  · have eX : X = (0, o, a, k) := by rw [← hX, xMap, if_pos cs]
    replace hl : lv_has ls 5 [(0, .ref x), (1, .null), (2, .int (nI wq)), (3, .long c0)] := by rw [cs, zO_z] at hl; exact hl
    refine lv_aload_nN hx hb dX6_mappedFrom_0 rfl (lv_at hl 1 rfl) ?_
    refine lv_ifnonnullN hx hb dX6_mappedFrom_1 ?_
    refine lv_null hx hb dX6_mappedFrom_4 ?_
    refine lv_goto (tgt := 24) hx hb dX6_mappedFrom_5 (by decide) ?_
    exact q_aret (v := none) C (Or.inl ⟨_, rfl⟩) hP hS ⟨by rw [eX]; exact hfa, g, fun _ _ => rfl, by rw [eX, zO_z], by rw [eX]; exact hz, zH.rf⟩ (by omega) dX6_mappedFrom_24
  · have ezo : zO g ss = some (g ss) := zO_s cs
    have hrr : a.2.2.2 ss = ss := hV.r ss hss
    by_cases hn : xFn wq c0 (a.2.2.1 ss) = none
    · obtain ⟨way, cod, cc, num, src, beh, row, dn, rst, fga, zr⟩ := hz.2.1 ss (by omega) hss
      obtain ⟨ga, ega⟩ : ∃ z, g ss = z := ⟨_, rfl⟩
      rw [ega] at fga
      have hxx := hz.1
      replace hl : lv_has ls 5 [(0, .ref x), (1, .ref ga), (2, .int (nI wq)), (3, .long c0)] := by rw [ezo, ega] at hl; exact hl
      have e6 : (if xFn wq c0 (a.2.2.1 ss) = none then 1 else 0) = 1 ∧ (if xFn wq c0 (a.2.2.1 ss) = none then 6 else 0) = 6 := ⟨if_pos hn, if_pos hn⟩
      have eX : X = (0, oFa (oCa o (oCq o + nI 1)) 1, a, k) := by rw [← hX, xMap, if_neg cs, if_pos hn]
      have eI : (if oFq X.2.1 = 0 then 0 else 1) = 1 ∧ (if oFq X.2.1 = 0 then 0 else 6) = 6 := by rw [eX]; exact ⟨if_neg (by decide : ¬ (1 : Int32) = 0), if_neg (by decide : ¬ (1 : Int32) = 0)⟩
      refine lv_aload_n hx hb dX6_mappedFrom_0 rfl (lv_at hl 1 rfl) ?_
      refine lv_ifnonnull (tgt := 8) hx hb dX6_mappedFrom_1 (by decide) ?_
      refine lv_aload_n hx hb dX6_mappedFrom_8 rfl (lv_at hl 0 rfl) ?_
      refine lv_iload_n hx hb dX6_mappedFrom_9 rfl (lv_at hl 2 rfl) ?_
      refine lv_aload_n hx hb dX6_mappedFrom_10 rfl (lv_at hl 1 rfl) ?_
      refine q_get C hP fga rfl inX5 0 (by decide) g536 rfl dX6_mappedFrom_11 ?_
      refine lv_lload_n hx hb dX6_mappedFrom_14 rfl (lv_at hl 3 rfl) ?_
      refine q_callV (rest := []) C (d_X6_called l D cy N0 h x sl bl kr vr mk (oCq o) (oMq o) ed wq (a.2.2.1 ss) c0 hxx hwq) kX6_called g646 g648 rfl gp16 g1 hP hS hxx (by first | decide | omega) hl.1 rfl (by decide) (by first | decide | omega) dX6_mappedFrom_15 (fun q ce E h' H1 locs1 hE hP hS hc1 hc2 hc3 => by obtain ⟨rfl, hn9, rfl⟩ := hE; exact q_out C hP hS hc1 hc2 hc3 (⟨Or.inl ⟨rfl, by rw [eX]; rfl⟩, g, fun _ _ => rfl, by rw [eX]; exact hz.setx (o' := oFa (oCa o (oCq o + nI 1)) 1) hV, zH.setx hz.1⟩) (by omega)) (fun v hh1 H locs hq hP hS => ?_)
      obtain ⟨r9, er9, -, -⟩ := hq
      rw [hn] at er9
      cases er9
    · obtain ⟨way, cod, cc, num, src, beh, row, dn, rst, fga, zr⟩ := hz.2.1 ss (by omega) hss
      obtain ⟨ga, ega⟩ : ∃ z, g ss = z := ⟨_, rfl⟩
      rw [ega] at fga
      have hxx := hz.1
      replace hl : lv_has ls 5 [(0, .ref x), (1, .ref ga), (2, .int (nI wq)), (3, .long c0)] := by rw [ezo, ega] at hl; exact hl
      have e6 : (if xFn wq c0 (a.2.2.1 ss) = none then 1 else 0) = 0 ∧ (if xFn wq c0 (a.2.2.1 ss) = none then 6 else 0) = 0 := ⟨if_neg hn, if_neg hn⟩
      have eX : X = (a.1, (oCa o (oCq o + nI 1)), xCons a ((xFn wq c0 (a.2.2.1 ss)).getD 0) k.1, xCell k 3 ss wq c0 0) := by rw [← hX, xMap, if_neg cs, if_neg hn, hrr]
      have eI : (if oFq X.2.1 = 0 then 0 else 1) = 0 ∧ (if oFq X.2.1 = 0 then 0 else 6) = 0 := by rw [eX]; exact ⟨if_pos hfa, if_pos hfa⟩
      have eA : X.2.2.1.1 = a.1 + 1 := by rw [eX]; rfl
      refine lv_aload_n hx hb dX6_mappedFrom_0 rfl (lv_at hl 1 rfl) ?_
      refine lv_ifnonnull (tgt := 8) hx hb dX6_mappedFrom_1 (by decide) ?_
      refine lv_aload_n hx hb dX6_mappedFrom_8 rfl (lv_at hl 0 rfl) ?_
      refine lv_iload_n hx hb dX6_mappedFrom_9 rfl (lv_at hl 2 rfl) ?_
      refine lv_aload_n hx hb dX6_mappedFrom_10 rfl (lv_at hl 1 rfl) ?_
      refine q_get C hP fga rfl inX5 0 (by decide) g536 rfl dX6_mappedFrom_11 ?_
      refine lv_lload_n hx hb dX6_mappedFrom_14 rfl (lv_at hl 3 rfl) ?_
      refine q_callV (rest := []) C (d_X6_called l D cy N0 h x sl bl kr vr mk (oCq o) (oMq o) ed wq (a.2.2.1 ss) c0 hxx hwq) kX6_called g646 g648 rfl gp16 g1 hP hS hxx (by first | decide | omega) hl.1 rfl (by decide) (by first | decide | omega) dX6_mappedFrom_15 (fun q ce E h' H1 locs1 hE hP hS hc1 hc2 hc3 => absurd hE.2.1 hn) (fun v hh2 H locs hq hP hS => ?_)
      obtain ⟨r9, er9, rfl, rfl⟩ := hq
      rw [er9] at eX
      replace hP : qP D N0 (qs h x (.inr (6, [.int mk, .ref sl, .ref bl, .ref kr, .ref vr, .int (oCq (oCa o (oCq o + nI 1))), .int (oMq (oCa o (oCq o + nI 1))), .int ed]))) H := hP
      have hz1 := hz.setx (o' := (oCa o (oCq o + nI 1))) hV
      have hV1 : qWv Bd sk Rn dp ((oCa o (oCq o + nI 1)), a, k) := hV.obj rfl
      refine lv_iload_n hx hb dX6_mappedFrom_18 rfl (lv_at hl 2 rfl) ?_
      refine lv_lload_n hx hb dX6_mappedFrom_19 rfl (lv_at hl 3 rfl) ?_
      refine lv_aload_n hx hb dX6_mappedFrom_20 rfl (lv_at hl 1 rfl) ?_
      refine q_callS (rest := []) C (c_X5_mapped l D cy N0 (qs h x (.inr (6, [.int mk, .ref sl, .ref bl, .ref kr, .ref vr, .int (oCq (oCa o (oCq o + nI 1))), .int (oMq (oCa o (oCq o + nI 1))), .int ed]))) r9 (nI wq) c0 ga) kX5_mapped g684 g685 hP hS (by first | decide | omega) hl.1 rfl (by decide) (by first | decide | omega) dX6_mappedFrom_21 (fun q ce E h' H1 locs1 hE => hE.elim) (fun v hh3 H locs hq hP hS => ?_)
      obtain ⟨q, rfl, oq, rfl⟩ := hq
      have hn2 := hz1.new hV1 (x0 := r9) (rr := k.1) (way := 3) (cod := nI wq) (cc := c0) (num := 0) (src := some ga) (beh := none) (row := none) (dn := 0) (rst := none) oq (xCell_u hV1 (kd := 3) (s := ss) (t := wq) (c := c0) (y := 0)) (Or.inr ⟨rfl, Or.inr (Or.inr (Or.inl ⟨rfl, rfl, rfl, rfl, by rw [qU_ne (by omega), ega], cs⟩))⟩)
      exact q_aret (v := some q) C (Or.inl ⟨_, rfl⟩) hP hS ⟨by rw [eX]; exact hfa, qU g a.1 q, fun s hs => qU_ne (by omega), by rw [eX, zO_s (by show ¬ a.1 = 0; omega)]; show _ = some (va_rf (some (qU g a.1 q a.1))); rw [qU_at], by rw [eX]; exact hn2, (zH.setx hz.1).tr (zH.new oq)⟩ (by omega) dX6_mappedFrom_24
/-- restOf, as the machine runs it, for streams less deep than d -/
def zCS (l : Launch) (D : va_G) (cy : Nat → ClassId) (N0 x : Nat) (mk : Int32) (sl bl kr vr : Nat) (ed : Int32) (Bd Rn : Nat) (R : Nat → List Int64) (F : qWo → Nat → Nat × qWo) (d : Nat) : Prop := ∀ (h : qH) (g : Nat → Nat) (o : qYf) (a : qWd) (k : qKd) (sk : Nat) (dp : Nat → Nat) (c : Nat), zW h x mk sl bl kr vr ed g R (o, a, k) → qWv Bd sk Rn dp (o, a, k) → oFq o = 0 → 1 ≤ c → c < a.1 → dp c < d →
  qC l D cy N0 yX6_restOf cX6_restOf 3 (some (.object RX5)) (4 * d + 12) (200 * d + 300) ((F (o, a, k) c).2.2.1.1 - a.1 + (if oFq (F (o, a, k) c).2.1 = 0 then 0 else 1)) (10 * ((F (o, a, k) c).2.2.1.1 - a.1) + (if oFq (F (o, a, k) c).2.1 = 0 then 0 else 6)) [.ref x, .ref (g c)] h (fun v h' => zP h x mk sl bl kr vr ed g R a.1 (F (o, a, k) c) v h') (fun E h' => zE h x mk sl bl kr vr ed g R a.1 (F (o, a, k) c) E h')
theorem dX6_siftedFrom_0 : decode cX6_siftedFrom 0 = .ok (.aload_n 1, 1) := by decide +kernel
theorem dX6_siftedFrom_1 : decode cX6_siftedFrom 1 = .ok (.astore 5, 2) := by decide +kernel
theorem dX6_siftedFrom_3 : decode cX6_siftedFrom 3 = .ok (.iconst 1, 1) := by decide +kernel
theorem dX6_siftedFrom_4 : decode cX6_siftedFrom 4 = .ok (.istore 6, 2) := by decide +kernel
theorem dX6_siftedFrom_6 : decode cX6_siftedFrom 6 = .ok (.aload 5, 2) := by decide +kernel
theorem dX6_siftedFrom_8 : decode cX6_siftedFrom 8 = .ok (.ifnull 59, 3) := by decide +kernel
theorem dX6_siftedFrom_11 : decode cX6_siftedFrom 11 = .ok (.iload 6, 2) := by decide +kernel
theorem dX6_siftedFrom_13 : decode cX6_siftedFrom 13 = .ok (.sipush 1000, 3) := by decide +kernel
theorem dX6_siftedFrom_16 : decode cX6_siftedFrom 16 = .ok (.if_icmp .gt 51, 3) := by decide +kernel
theorem dX6_siftedFrom_19 : decode cX6_siftedFrom 19 = .ok (.aload_n 0, 1) := by decide +kernel
theorem dX6_siftedFrom_20 : decode cX6_siftedFrom 20 = .ok (.iload_n 2, 1) := by decide +kernel
theorem dX6_siftedFrom_21 : decode cX6_siftedFrom 21 = .ok (.aload 5, 2) := by decide +kernel
theorem dX6_siftedFrom_23 : decode cX6_siftedFrom 23 = .ok (.getfield 159, 3) := by decide +kernel
theorem dX6_siftedFrom_26 : decode cX6_siftedFrom 26 = .ok (.lload_n 3, 1) := by decide +kernel
theorem dX6_siftedFrom_27 : decode cX6_siftedFrom 27 = .ok (.invokevirtual 528, 3) := by decide +kernel
theorem dX6_siftedFrom_30 : decode cX6_siftedFrom 30 = .ok (.ifCond .eq 11, 3) := by decide +kernel
theorem dX6_siftedFrom_33 : decode cX6_siftedFrom 33 = .ok (.iload_n 2, 1) := by decide +kernel
theorem dX6_siftedFrom_34 : decode cX6_siftedFrom 34 = .ok (.lload_n 3, 1) := by decide +kernel
theorem dX6_siftedFrom_35 : decode cX6_siftedFrom 35 = .ok (.aload 5, 2) := by decide +kernel
theorem dX6_siftedFrom_37 : decode cX6_siftedFrom 37 = .ok (.invokestatic 531, 3) := by decide +kernel
theorem dX6_siftedFrom_40 : decode cX6_siftedFrom 40 = .ok (.areturn, 1) := by decide +kernel
theorem dX6_siftedFrom_41 : decode cX6_siftedFrom 41 = .ok (.iload 6, 2) := by decide +kernel
theorem dX6_siftedFrom_43 : decode cX6_siftedFrom 43 = .ok (.sipush 1000, 3) := by decide +kernel
theorem dX6_siftedFrom_46 : decode cX6_siftedFrom 46 = .ok (.if_icmp .ge 12, 3) := by decide +kernel
theorem dX6_siftedFrom_49 : decode cX6_siftedFrom 49 = .ok (.aload_n 0, 1) := by decide +kernel
theorem dX6_siftedFrom_50 : decode cX6_siftedFrom 50 = .ok (.aload 5, 2) := by decide +kernel
theorem dX6_siftedFrom_52 : decode cX6_siftedFrom 52 = .ok (.invokevirtual 179, 3) := by decide +kernel
theorem dX6_siftedFrom_55 : decode cX6_siftedFrom 55 = .ok (.goto 4, 3) := by decide +kernel
theorem dX6_siftedFrom_58 : decode cX6_siftedFrom 58 = .ok (.aconst_null, 1) := by decide +kernel
theorem dX6_siftedFrom_59 : decode cX6_siftedFrom 59 = .ok (.astore 5, 2) := by decide +kernel
theorem dX6_siftedFrom_61 : decode cX6_siftedFrom 61 = .ok (.iinc 6 1, 3) := by decide +kernel
theorem dX6_siftedFrom_64 : decode cX6_siftedFrom 64 = .ok (.goto (-58), 3) := by decide +kernel
theorem dX6_siftedFrom_67 : decode cX6_siftedFrom 67 = .ok (.aconst_null, 1) := by decide +kernel
theorem dX6_siftedFrom_68 : decode cX6_siftedFrom 68 = .ok (.areturn, 1) := by decide +kernel
set_option maxRecDepth 100000 in
set_option maxHeartbeats 4000000 in
theorem z_siftedFrom (l : Launch) (D : va_G) (cy : Nat → ClassId) (N0 : Nat) (h : qH) (x : Nat) (mk : Int32) (sl bl kr vr : Nat) (ed : Int32) (g : Nat → Nat) (R : Nat → List Int64) (o : qYf) (a : qWd) (k : qKd) (Bd sk Rn : Nat) (dp : Nat → Nat) (d : Nat) (F : qWo → Nat → Nat × qWo) (ss wq : Nat) (c0 : Int64) (X : Nat × qWo) (hz : zW h x mk sl bl kr vr ed g R (o, a, k)) (hV : qWv Bd (sk + 1) Rn dp (o, a, k)) (hfa : oFq o = 0) (hF : zCS l D cy N0 x mk sl bl kr vr ed Bd Rn R F d) (hG : qFg Bd Rn F d) (hss : ss < a.1 ∧ dp ss < d) (hwq : wq ≤ 4) (hX : xFilt F wq c0 1000 (o, a, k) ss = X) : qC l D cy N0 yX6_siftedFrom cX6_siftedFrom 7 (some (.object RX5)) (4 * d + 14) (200 * d + 360) (X.2.2.1.1 - a.1 + (if oFq X.2.1 = 0 then 0 else 1)) (10 * (X.2.2.1.1 - a.1) + (if oFq X.2.1 = 0 then 0 else 6)) [.ref x, va_rf (zO g ss), .int (nI wq), .long c0] h (fun v h' => zP h x mk sl bl kr vr ed g R a.1 X v h') (fun E h' => zE h x mk sl bl kr vr ed g R a.1 X E h') := by
  refine q_ofW (by decide) (by simp [lg_sl, q_catrf, q_cati, q_catl, q_cata, q_catn]) ?_
  intro p e s m below meth c ls C hP hl
  have hx := C.1
  have hb := C.2.1
  have hS : va_S (qA N0) s.heap s.heap [] := va_S.rf
  have hl : lv_has ls 7 [(0, .ref x), (1, va_rf (zO g ss)), (2, .int (nI wq)), (3, .long c0)] := by simpa [lv_args, q_catrf, q_cati, q_catl, q_cata, q_catn] using hl
  have hp0 : 1 ≤ a.1 ∧ a.1 ≤ a.2.1 := hV.p
  obtain ⟨sr, esr⟩ : ∃ z, zO g ss = z := ⟨_, rfl⟩
  replace hl : lv_has ls 7 [(0, .ref x), (1, va_rf sr), (2, .int (nI wq)), (3, .long c0)] := by rw [esr] at hl; exact hl
  refine q_aload_n hx hb dX6_siftedFrom_0 rfl (lv_at hl 1 rfl) ?_
  refine q_astore (lv' := [(5, va_rf sr), (0, .ref x), (1, va_rf sr), (2, .int (nI wq)), (3, .long c0)]) hx hb dX6_siftedFrom_1 hl (by decide) rfl (fun ls hl => ?_)
  refine lv_iconst (v := nI 1) hx hb dX6_siftedFrom_3 (by decide) ?_
  refine lv_istore (lv' := [(6, .int (nI 1)), (5, va_rf sr), (0, .ref x), (1, va_rf sr), (2, .int (nI wq)), (3, .long c0)]) hx hb dX6_siftedFrom_4 hl (by decide) (by cases sr <;> rfl) (fun ls hl => ?_)
  refine (?_ : ∀ (u t : Nat) (H : Heap) (locs : List Loc) (ls : Array Slot) (hh : qH) (g9 : Nat → Nat) (o9 : qYf) (a9 : qWd) (k9 : qKd) (dp9 : Nat → Nat) (s9 c1 c2 : Nat), t < u → lv_has ls 7 [(6, .int (nI (1000 - t))), (5, va_rf (zO g9 s9)), (3, .long c0), (2, .int (nI wq)), (0, .ref x)] → t ≤ 999 → qP D N0 hh H → va_S (qA N0) s.heap H locs → zW hh x mk sl bl kr vr ed g9 R (o9, a9, k9) → qWv Bd (sk + 1) Rn dp9 (o9, a9, k9) → oFq o9 = 0 → s9 < a9.1 ∧ dp9 s9 < d → xFilt F wq c0 (t + 1) (o9, a9, k9) s9 = X → c1 + a.1 = a9.1 ∧ c2 + 10 * a.1 = 10 * a9.1 → (∀ s, s < a.1 → g9 s = g s) → zH h hh x → W p l e _ s m _ below meth c H locs c1 c2 _ (F0 m 6 ls [])) 1000 999 _ _ ls h g o a k dp ss 0 0 (by omega) (by rw [esr]; exact lv_sub hl [0, 1, 5, 4, 2] rfl) (by omega) hP hS hz hV hfa hss hX ⟨by omega, by omega⟩ (fun _ _ => rfl) zH.rf
  clear hl hP hS hz hV hfa hss hX
  intro u
  induction u with
  | zero => intro t _ _ _ _ _ _ _ _ _ _ _ _ h; exact absurd h (Nat.not_lt_zero _)
  | succ u ihu =>
    intro t H locs ls hh g9 o9 a9 k9 dp9 s9 c1 c2 htu hl ht9 hP hS hz hV hfa hss hX hcc hag hH9
    have hp9 : 1 ≤ a9.1 ∧ a9.1 ≤ a9.2.1 := hV.p
    have stX := xFilt_stp (dc := d) (c := c0) hG hwq (t + 1) s9 dp9 (o9, a9, k9) hV hfa ⟨hss.1, hss.2, hss.2⟩
    rw [hX] at stX
    have hmX : a9.1 ≤ X.2.2.1.1 := by obtain ⟨_, _, _, z, _⟩ := stX; exact z
    clear stX
    by_cases cs : s9 = 0
    · have eX : X = (0, o9, a9, k9) := by rw [← hX, xFilt, if_pos cs]
      replace hl : lv_has ls 7 [(6, .int (nI (1000 - t))), (5, .null), (3, .long c0), (2, .int (nI wq)), (0, .ref x)] := by rw [cs, zO_z] at hl; exact hl
      refine lv_aloadN hx hb dX6_siftedFrom_6 (lv_at hl 1 rfl) ?_
      refine lv_ifnullN (tgt := 67) hx hb dX6_siftedFrom_8 (by decide) ?_
      refine lv_null hx hb dX6_siftedFrom_67 ?_
      exact q_aret (v := none) C (Or.inl ⟨_, rfl⟩) hP hS ⟨by rw [eX]; exact hfa, g9, hag, by rw [eX, zO_z], by rw [eX]; exact hz, hH9⟩ (by omega) dX6_siftedFrom_68
    · obtain ⟨way, cod, cc, num, src, beh, row, dn, rst, fga, zr⟩ := hz.2.1 s9 (by omega) hss.1
      obtain ⟨ga, ega⟩ : ∃ z, g9 s9 = z := ⟨_, rfl⟩
      rw [ega] at fga
      have hxx := hz.1
      replace hl : lv_has ls 7 [(6, .int (nI (1000 - t))), (5, .ref ga), (3, .long c0), (2, .int (nI wq)), (0, .ref x)] := by rw [zO_s cs, ega] at hl; exact hl
      have hrr : a9.2.2.2 s9 = s9 := hV.r s9 hss.1
      cases hv : xTs wq c0 (a9.2.2.1 s9) with
      | none =>
        have e6 : (if xTs wq c0 (a9.2.2.1 s9) = none then 1 else 0) = 1 ∧ (if xTs wq c0 (a9.2.2.1 s9) = none then 6 else 0) = 6 := ⟨if_pos hv, if_pos hv⟩
        have eX : X = (0, oFa (oCa o9 (oCq o9 + nI 1)) 1, a9, k9) := by rw [← hX, xFilt, if_neg cs, if_pos hv]
        have eI : (if oFq X.2.1 = 0 then 0 else 1) = 1 ∧ (if oFq X.2.1 = 0 then 0 else 6) = 6 := by rw [eX]; exact ⟨if_neg (by decide : ¬ (1 : Int32) = 0), if_neg (by decide : ¬ (1 : Int32) = 0)⟩
        refine lv_aload hx hb dX6_siftedFrom_6 (lv_at hl 1 rfl) ?_
        refine lv_ifnull hx hb dX6_siftedFrom_8 ?_
        refine lv_iload hx hb dX6_siftedFrom_11 (lv_at hl 0 rfl) ?_
        refine lv_sipush (v := nI 1000) hx hb dX6_siftedFrom_13 (by decide) ?_
        refine lv_icmp_gt (tgt := 67) hx hb dX6_siftedFrom_16 (by decide) (fun c => absurd ((nI_ltI (a := 1000) (b := 1000 - t) (by omega) (by omega)).mp c) (by omega)) (fun _ => ?_)
        refine lv_aload_n hx hb dX6_siftedFrom_19 rfl (lv_at hl 4 rfl) ?_
        refine lv_iload_n hx hb dX6_siftedFrom_20 rfl (lv_at hl 3 rfl) ?_
        refine lv_aload hx hb dX6_siftedFrom_21 (lv_at hl 1 rfl) ?_
        refine q_get C hP fga rfl inX5 0 (by decide) g536 rfl dX6_siftedFrom_23 ?_
        refine lv_lload_n hx hb dX6_siftedFrom_26 rfl (lv_at hl 2 rfl) ?_
        refine q_callV (rest := []) C (d_X6_tested l D cy N0 hh x sl bl kr vr mk (oCq o9) (oMq o9) ed wq (a9.2.2.1 s9) c0 hxx hwq) kX6_tested g691 g693 rfl gp19 g1 hP hS hxx (by first | decide | omega) hl.1 rfl (by decide) (by first | decide | omega) dX6_siftedFrom_27 (fun q ce E h' H1 locs1 hE hP hS hc1 hc2 hc3 => by obtain ⟨rfl, hn9, rfl⟩ := hE; exact q_out C hP hS hc1 hc2 hc3 (⟨Or.inl ⟨rfl, by rw [eX]; rfl⟩, g9, hag, by rw [eX]; exact hz.setx (o' := oFa (oCa o9 (oCq o9 + nI 1)) 1) hV, hH9.tr (zH.setx hz.1)⟩) (by omega)) (fun v hh1 H locs hq hP hS => ?_)
        obtain ⟨r9, er9, -, -⟩ := hq
        rw [hv] at er9
        cases er9
      | some b =>
        have hv0 : ¬ xTs wq c0 (a9.2.2.1 s9) = none := by rw [hv]; exact fun z => by cases z
        have e6 : (if xTs wq c0 (a9.2.2.1 s9) = none then 1 else 0) = 0 ∧ (if xTs wq c0 (a9.2.2.1 s9) = none then 6 else 0) = 0 := ⟨if_neg hv0, if_neg hv0⟩
        cases b with
        | true =>
          have eX : X = (a9.1, (oCa o9 (oCq o9 + nI 1)), xCons a9 (a9.2.2.1 s9) k9.1, xCell k9 4 s9 wq c0 0) := by rw [← hX, xFilt, if_neg cs, if_neg hv0, if_pos hv]; dsimp only; rw [hrr]
          have eI : (if oFq X.2.1 = 0 then 0 else 1) = 0 ∧ (if oFq X.2.1 = 0 then 0 else 6) = 0 := by rw [eX]; exact ⟨if_pos hfa, if_pos hfa⟩
          have eA : X.2.2.1.1 = a9.1 + 1 := by rw [eX]; rfl
          refine lv_aload hx hb dX6_siftedFrom_6 (lv_at hl 1 rfl) ?_
          refine lv_ifnull hx hb dX6_siftedFrom_8 ?_
          refine lv_iload hx hb dX6_siftedFrom_11 (lv_at hl 0 rfl) ?_
          refine lv_sipush (v := nI 1000) hx hb dX6_siftedFrom_13 (by decide) ?_
          refine lv_icmp_gt (tgt := 67) hx hb dX6_siftedFrom_16 (by decide) (fun c => absurd ((nI_ltI (a := 1000) (b := 1000 - t) (by omega) (by omega)).mp c) (by omega)) (fun _ => ?_)
          refine lv_aload_n hx hb dX6_siftedFrom_19 rfl (lv_at hl 4 rfl) ?_
          refine lv_iload_n hx hb dX6_siftedFrom_20 rfl (lv_at hl 3 rfl) ?_
          refine lv_aload hx hb dX6_siftedFrom_21 (lv_at hl 1 rfl) ?_
          refine q_get C hP fga rfl inX5 0 (by decide) g536 rfl dX6_siftedFrom_23 ?_
          refine lv_lload_n hx hb dX6_siftedFrom_26 rfl (lv_at hl 2 rfl) ?_
          refine q_callV (rest := []) C (d_X6_tested l D cy N0 hh x sl bl kr vr mk (oCq o9) (oMq o9) ed wq (a9.2.2.1 s9) c0 hxx hwq) kX6_tested g691 g693 rfl gp19 g1 hP hS hxx (by first | decide | omega) hl.1 rfl (by decide) (by first | decide | omega) dX6_siftedFrom_27 (fun q ce E h' H1 locs1 hE hP hS hc1 hc2 hc3 => absurd hE.2.1 hv0) (fun v hh2 H locs hq hP hS => ?_)
          obtain ⟨r9, eb9, rfl, rfl⟩ := hq
          obtain rfl : r9 = true := Option.some.inj (eb9.symm.trans hv)
          rw [if_pos (show (true = true) from rfl)]
          replace hP : qP D N0 (qs hh x (.inr (6, [.int mk, .ref sl, .ref bl, .ref kr, .ref vr, .int (oCq (oCa o9 (oCq o9 + nI 1))), .int (oMq (oCa o9 (oCq o9 + nI 1))), .int ed]))) H := hP
          have hz1 := hz.setx (o' := (oCa o9 (oCq o9 + nI 1))) hV
          have hV1 : qWv Bd (sk + 1) Rn dp9 ((oCa o9 (oCq o9 + nI 1)), a9, k9) := hV.obj rfl
          have fgb := (qs_ne (h := hh) (a := x) (o := (.inr (6, [.int mk, .ref sl, .ref bl, .ref kr, .ref vr, .int (oCq (oCa o9 (oCq o9 + nI 1))), .int (oMq (oCa o9 (oCq o9 + nI 1))), .int ed]))) (fun z => by rw [z, hxx] at fga; simp at fga)).trans fga
          refine lv_if_eq (tgt := 41) hx hb dX6_siftedFrom_30 (by decide) (fun c30 => ?_) (fun c30 => ?_)
          · replace c30 : 1 = 0 := (nI_eq (a := 1) (b := 0) (by omega) (by omega)).mp c30
            exfalso; omega
          · replace c30 : ¬ 1 = 0 := fun zq => c30 ((nI_eq (a := 1) (b := 0) (by omega) (by omega)).mpr zq)
            refine lv_iload_n hx hb dX6_siftedFrom_33 rfl (lv_at hl 3 rfl) ?_
            refine lv_lload_n hx hb dX6_siftedFrom_34 rfl (lv_at hl 2 rfl) ?_
            refine lv_aload hx hb dX6_siftedFrom_35 (lv_at hl 1 rfl) ?_
            refine q_callS (rest := []) C (c_X5_sifted l D cy N0 (qs hh x (.inr (6, [.int mk, .ref sl, .ref bl, .ref kr, .ref vr, .int (oCq (oCa o9 (oCq o9 + nI 1))), .int (oMq (oCa o9 (oCq o9 + nI 1))), .int ed]))) (nI wq) c0 ga (a9.2.2.1 s9) cc way cod num dn (va_rf src) (va_rf beh) (va_rf row) (va_rf rst) fgb) kX5_sifted g698 g699 hP hS (by first | decide | omega) hl.1 rfl (by decide) (by first | decide | omega) dX6_siftedFrom_37 (fun q ce E h' H1 locs1 hE => hE.elim) (fun v hh3 H locs hq hP hS => ?_)
            obtain ⟨q, rfl, oq, rfl⟩ := hq
            have hn2 := hz1.new hV1 (x0 := a9.2.2.1 s9) (rr := k9.1) (way := 4) (cod := nI wq) (cc := c0) (num := 0) (src := some ga) (beh := none) (row := none) (dn := 0) (rst := none) oq (xCell_u hV1 (kd := 4) (s := s9) (t := wq) (c := c0) (y := 0)) (Or.inr ⟨rfl, Or.inr (Or.inr (Or.inr (Or.inl ⟨rfl, rfl, rfl, rfl, by rw [qU_ne (by omega), ega], cs⟩)))⟩)
            exact q_aret (v := some q) C (Or.inl ⟨_, rfl⟩) hP hS ⟨by rw [eX]; exact hfa, qU g9 a9.1 q, fun s hs => (qU_ne (by omega)).trans (hag s hs), by rw [eX, zO_s (by show ¬ a9.1 = 0; omega)]; show _ = some (va_rf (some (qU g9 a9.1 q a9.1))); rw [qU_at], by rw [eX]; exact hn2, (hH9.tr (zH.setx hz.1)).tr (zH.new oq)⟩ (by omega) dX6_siftedFrom_40
        | false =>
          have hvt : ¬ xTs wq c0 (a9.2.2.1 s9) = some true := by rw [hv]; exact fun z => by cases z
          by_cases ct : t = 0
          · have eX : X = (0, (oCa o9 (oCq o9 + nI 1)), a9, k9) := by rw [← hX, xFilt, if_neg cs, if_neg hv0, if_neg hvt, if_pos ct]
            refine lv_aload hx hb dX6_siftedFrom_6 (lv_at hl 1 rfl) ?_
            refine lv_ifnull hx hb dX6_siftedFrom_8 ?_
            refine lv_iload hx hb dX6_siftedFrom_11 (lv_at hl 0 rfl) ?_
            refine lv_sipush (v := nI 1000) hx hb dX6_siftedFrom_13 (by decide) ?_
            refine lv_icmp_gt (tgt := 67) hx hb dX6_siftedFrom_16 (by decide) (fun c => absurd ((nI_ltI (a := 1000) (b := 1000 - t) (by omega) (by omega)).mp c) (by omega)) (fun _ => ?_)
            refine lv_aload_n hx hb dX6_siftedFrom_19 rfl (lv_at hl 4 rfl) ?_
            refine lv_iload_n hx hb dX6_siftedFrom_20 rfl (lv_at hl 3 rfl) ?_
            refine lv_aload hx hb dX6_siftedFrom_21 (lv_at hl 1 rfl) ?_
            refine q_get C hP fga rfl inX5 0 (by decide) g536 rfl dX6_siftedFrom_23 ?_
            refine lv_lload_n hx hb dX6_siftedFrom_26 rfl (lv_at hl 2 rfl) ?_
            refine q_callV (rest := []) C (d_X6_tested l D cy N0 hh x sl bl kr vr mk (oCq o9) (oMq o9) ed wq (a9.2.2.1 s9) c0 hxx hwq) kX6_tested g691 g693 rfl gp19 g1 hP hS hxx (by first | decide | omega) hl.1 rfl (by decide) (by first | decide | omega) dX6_siftedFrom_27 (fun q ce E h' H1 locs1 hE hP hS hc1 hc2 hc3 => absurd hE.2.1 hv0) (fun v hh4 H locs hq hP hS => ?_)
            obtain ⟨r9, eb9, rfl, rfl⟩ := hq
            obtain rfl : r9 = false := Option.some.inj (eb9.symm.trans hv)
            rw [if_neg (show ¬ (false = true) by decide)]
            replace hP : qP D N0 (qs hh x (.inr (6, [.int mk, .ref sl, .ref bl, .ref kr, .ref vr, .int (oCq (oCa o9 (oCq o9 + nI 1))), .int (oMq (oCa o9 (oCq o9 + nI 1))), .int ed]))) H := hP
            have hz1 := hz.setx (o' := (oCa o9 (oCq o9 + nI 1))) hV
            have hV1 : qWv Bd (sk + 1) Rn dp9 ((oCa o9 (oCq o9 + nI 1)), a9, k9) := hV.obj rfl
            have fgb := (qs_ne (h := hh) (a := x) (o := (.inr (6, [.int mk, .ref sl, .ref bl, .ref kr, .ref vr, .int (oCq (oCa o9 (oCq o9 + nI 1))), .int (oMq (oCa o9 (oCq o9 + nI 1))), .int ed]))) (fun z => by rw [z, hxx] at fga; simp at fga)).trans fga
            refine lv_if_eq (tgt := 41) hx hb dX6_siftedFrom_30 (by decide) (fun c30 => ?_) (fun c30 => ?_)
            · replace c30 : 0 = 0 := (nI_eq (a := 0) (b := 0) (by omega) (by omega)).mp c30
              refine lv_iload hx hb dX6_siftedFrom_41 (lv_at hl 0 rfl) ?_
              refine lv_sipush (v := nI 1000) hx hb dX6_siftedFrom_43 (by decide) ?_
              refine lv_icmp_ge (tgt := 58) hx hb dX6_siftedFrom_46 (by decide) (fun _ => ?_) (fun c => absurd ((nI_leI (a := 1000) (b := 1000 - t) (by omega) (by omega)).mpr (by omega)) c)
              refine lv_null hx hb dX6_siftedFrom_58 ?_
              refine lv_astoreN (lv' := [(5, .null), (6, .int (nI (1000 - t))), (3, .long c0), (2, .int (nI wq)), (0, .ref x)]) hx hb dX6_siftedFrom_59 hl (by decide) rfl (fun ls hl => ?_)
              refine lv_iinc (v := nI ((1000 - t) + 1)) (lv' := [(6, .int (nI ((1000 - t) + 1))), (5, .null), (3, .long c0), (2, .int (nI wq)), (0, .ref x)]) hx hb dX6_siftedFrom_61 hl (k := 1) rfl (nI_1 (1000 - t)) (by decide) rfl (fun ls hl => ?_)
              refine lv_goto (tgt := 6) hx hb dX6_siftedFrom_64 (by decide) ?_
              refine lv_aloadN hx hb dX6_siftedFrom_6 (lv_at hl 1 rfl) ?_
              refine lv_ifnullN (tgt := 67) hx hb dX6_siftedFrom_8 (by decide) ?_
              refine lv_null hx hb dX6_siftedFrom_67 ?_
              exact q_aret (v := none) C (Or.inl ⟨_, rfl⟩) hP hS ⟨by rw [eX]; exact hfa, g9, hag, by rw [eX, zO_z], by rw [eX]; exact hz1, hH9.tr (zH.setx hz.1)⟩ (by omega) dX6_siftedFrom_68
            · replace c30 : ¬ 0 = 0 := fun zq => c30 ((nI_eq (a := 0) (b := 0) (by omega) (by omega)).mpr zq)
              exfalso; omega
          · obtain ⟨s2, o2, a2, k2, er9⟩ : ∃ z1 z2 z3 z4, F ((oCa o9 (oCq o9 + nI 1)), a9, k9) s9 = (z1, z2, z3, z4) := ⟨_, _, _, _, rfl⟩
            have hX2 : X = if ¬ oFq o2 = 0 then (0, o2, a2, k2) else xFilt F wq c0 t (o2, a2, k2) s2 := by rw [← hX, xFilt, if_neg cs, if_neg hv0, if_neg hvt, if_neg ct]; dsimp only; rw [hrr, er9]
            have hV1 : qWv Bd (sk + 1) Rn dp9 ((oCa o9 (oCq o9 + nI 1)), a9, k9) := hV.obj rfl
            have st9 := hG _ dp9 ((oCa o9 (oCq o9 + nI 1)), a9, k9) s9 hV1 hfa hss.1 hss.2
            rw [er9] at st9
            obtain ⟨dp2, d1, w2, d3, d4, d5, ⟨x6, y6, z6, e6b⟩, d7⟩ := st9
            dsimp only at d1 d3 d4 d5 w2
            have hm2 : a2.1 ≤ X.2.2.1.1 ∧ (if oFq o2 = 0 then 0 else 1) ≤ (if oFq X.2.1 = 0 then 0 else 1) ∧ (if oFq o2 = 0 then 0 else 6) ≤ (if oFq X.2.1 = 0 then 0 else 6) := by
              by_cases z : ¬ oFq o2 = 0
              · rw [hX2, if_pos z]; exact ⟨Nat.le_refl _, Nat.le_refl _, Nat.le_refl _⟩
              · have z1 := Decidable.not_not.mp z; have z2 := d5 z1; rw [if_pos z1, if_pos z1]; refine ⟨?_, Nat.zero_le _, Nat.zero_le _⟩; rw [hX2, if_neg z]; obtain ⟨_, _, _, z3, _⟩ := xFilt_stp (dc := d) (c := c0) hG hwq t s2 dp2 (o2, a2, k2) w2 z1 ⟨z2.1, by omega, by omega⟩; exact z3
            refine lv_aload hx hb dX6_siftedFrom_6 (lv_at hl 1 rfl) ?_
            refine lv_ifnull hx hb dX6_siftedFrom_8 ?_
            refine lv_iload hx hb dX6_siftedFrom_11 (lv_at hl 0 rfl) ?_
            refine lv_sipush (v := nI 1000) hx hb dX6_siftedFrom_13 (by decide) ?_
            refine lv_icmp_gt (tgt := 67) hx hb dX6_siftedFrom_16 (by decide) (fun c => absurd ((nI_ltI (a := 1000) (b := 1000 - t) (by omega) (by omega)).mp c) (by omega)) (fun _ => ?_)
            refine lv_aload_n hx hb dX6_siftedFrom_19 rfl (lv_at hl 4 rfl) ?_
            refine lv_iload_n hx hb dX6_siftedFrom_20 rfl (lv_at hl 3 rfl) ?_
            refine lv_aload hx hb dX6_siftedFrom_21 (lv_at hl 1 rfl) ?_
            refine q_get C hP fga rfl inX5 0 (by decide) g536 rfl dX6_siftedFrom_23 ?_
            refine lv_lload_n hx hb dX6_siftedFrom_26 rfl (lv_at hl 2 rfl) ?_
            refine q_callV (rest := []) C (d_X6_tested l D cy N0 hh x sl bl kr vr mk (oCq o9) (oMq o9) ed wq (a9.2.2.1 s9) c0 hxx hwq) kX6_tested g691 g693 rfl gp19 g1 hP hS hxx (by first | decide | omega) hl.1 rfl (by decide) (by first | decide | omega) dX6_siftedFrom_27 (fun q ce E h' H1 locs1 hE hP hS hc1 hc2 hc3 => absurd hE.2.1 hv0) (fun v hh5 H locs hq hP hS => ?_)
            obtain ⟨r9, eb9, rfl, rfl⟩ := hq
            obtain rfl : r9 = false := Option.some.inj (eb9.symm.trans hv)
            rw [if_neg (show ¬ (false = true) by decide)]
            replace hP : qP D N0 (qs hh x (.inr (6, [.int mk, .ref sl, .ref bl, .ref kr, .ref vr, .int (oCq (oCa o9 (oCq o9 + nI 1))), .int (oMq (oCa o9 (oCq o9 + nI 1))), .int ed]))) H := hP
            have hz1 := hz.setx (o' := (oCa o9 (oCq o9 + nI 1))) hV
            have fgb := (qs_ne (h := hh) (a := x) (o := (.inr (6, [.int mk, .ref sl, .ref bl, .ref kr, .ref vr, .int (oCq (oCa o9 (oCq o9 + nI 1))), .int (oMq (oCa o9 (oCq o9 + nI 1))), .int ed]))) (fun z => by rw [z, hxx] at fga; simp at fga)).trans fga
            refine lv_if_eq (tgt := 41) hx hb dX6_siftedFrom_30 (by decide) (fun c30 => ?_) (fun c30 => ?_)
            · replace c30 : 0 = 0 := (nI_eq (a := 0) (b := 0) (by omega) (by omega)).mp c30
              refine lv_iload hx hb dX6_siftedFrom_41 (lv_at hl 0 rfl) ?_
              refine lv_sipush (v := nI 1000) hx hb dX6_siftedFrom_43 (by decide) ?_
              refine lv_icmp_ge (tgt := 58) hx hb dX6_siftedFrom_46 (by decide) (fun c => absurd ((nI_leI (a := 1000) (b := 1000 - t) (by omega) (by omega)).mp c) (by omega)) (fun _ => ?_)
              refine lv_aload_n hx hb dX6_siftedFrom_49 rfl (lv_at hl 4 rfl) ?_
              refine lv_aload hx hb dX6_siftedFrom_50 (lv_at hl 1 rfl) ?_
              have hcall := hF (qs hh x (.inr (6, [.int mk, .ref sl, .ref bl, .ref kr, .ref vr, .int (oCq (oCa o9 (oCq o9 + nI 1))), .int (oMq (oCa o9 (oCq o9 + nI 1))), .int ed]))) g9 (oCa o9 (oCq o9 + nI 1)) a9 k9 _ dp9 s9 hz1 hV1 hfa (by omega) hss.1 hss.2
              rw [er9, ega] at hcall
              dsimp only at hcall
              refine q_callV (rest := []) C (hcall) kX6_restOf g637 g639 rfl gp14 g1 hP hS hz1.1 (by first | decide | omega) hl.1 rfl (by decide) (by first | decide | omega) dX6_siftedFrom_52 (fun q ce E h' H1 locs1 hE hP hS hc1 hc2 hc3 => by obtain ⟨hE1, g2, ag2, hz2, hH2⟩ := hE; have hf2 : ¬ oFq o2 = 0 := hE1.elim (fun y z => absurd (z.symm.trans y.2) (by decide)) (fun y z => absurd (z.symm.trans y.2) (by decide)); rw [if_pos hf2] at hX2; exact q_out C hP hS hc1 hc2 hc3 (by rw [hX2]; exact ⟨hE1, g2, fun s hs => (ag2 s (by omega)).trans (hag s hs), hz2, (hH9.tr (zH.setx hz.1)).tr hH2⟩) (by omega)) (fun v hh6 H locs hq hP hS => ?_)
              obtain ⟨hf2, g2, ag2, rfl, hz2, hH2⟩ := hq
              obtain ⟨sv, esv⟩ : ∃ z, zO g2 s2 = z := ⟨_, rfl⟩
              dsimp only
              rw [esv]
              have e60 : (if oFq o2 = 0 then 0 else 1) = 0 ∧ (if oFq o2 = 0 then 0 else 6) = 0 := ⟨if_pos hf2, if_pos hf2⟩
              refine lv_goto (tgt := 59) hx hb dX6_siftedFrom_55 (by decide) ?_
              refine q_astore (lv' := [(5, va_rf sv), (6, .int (nI (1000 - t))), (3, .long c0), (2, .int (nI wq)), (0, .ref x)]) hx hb dX6_siftedFrom_59 hl (by decide) rfl (fun ls hl => ?_)
              refine lv_iinc (v := nI ((1000 - t) + 1)) (lv' := [(6, .int (nI ((1000 - t) + 1))), (5, va_rf sv), (3, .long c0), (2, .int (nI wq)), (0, .ref x)]) hx hb dX6_siftedFrom_61 hl (k := 1) rfl (nI_1 (1000 - t)) (by decide) (by cases sv <;> rfl) (fun ls hl => ?_)
              refine lv_goto (tgt := 6) hx hb dX6_siftedFrom_64 (by decide) ?_
              obtain ⟨t8, rfl⟩ : ∃ z, t = z + 1 := ⟨t - 1, by omega⟩
              rw [show 1000 - (t8 + 1) + 1 = 1000 - t8 by omega] at hl
              have z2 := d5 hf2
              exact ihu t8 H locs ls _ g2 o2 a2 k2 dp2 s2 _ _ (by omega) (by rw [esv]; exact lv_sub hl [0, 1, 2, 3, 4] rfl) (by omega) hP hS hz2 w2 hf2 ⟨z2.1, by omega⟩ (by rw [hX2, if_neg (fun z => z hf2)]) ⟨by omega, by omega⟩ (fun s hs => (ag2 s (by omega)).trans (hag s hs)) ((hH9.tr (zH.setx hz.1)).tr hH2)
            · replace c30 : ¬ 0 = 0 := fun zq => c30 ((nI_eq (a := 0) (b := 0) (by omega) (by omega)).mpr zq)
              exfalso; omega
