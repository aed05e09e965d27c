theorem zbr0 {L : qKV} {f : Nat → Int64} {v : Int64} (h : ∀ j, j < L.length → L[j]? = some (f j, 0)) : ∀ j, j < (L ++ [(v, (0 : Int64))]).length → (L ++ [(v, (0 : Int64))])[j]? = some (vp_updL f L.length v j, 0) := fun j hj => by
  rw [List.length_append] at hj
  unfold vp_updL
  by_cases c : j = L.length
  · rw [if_pos c, c, List.getElem?_append_right (Nat.le_refl _), Nat.sub_self]; rfl
  · have : j < L.length := by have : j < L.length + 1 := hj; omega
    rw [if_neg c, List.getElem?_append_left this, h j this]
theorem zbr1 {L : qKV} {f : Nat → Int64} {v : Int64} {q : Nat} (h : ∀ j, j < L.length → L[j]? = some (f j, 0)) : ∀ j, j < (L.set q (v, (0 : Int64))).length → (L.set q (v, (0 : Int64)))[j]? = some (vp_updL f q v j, 0) := fun j hj => by
  rw [List.length_set] at hj
  unfold vp_updL
  by_cases c : j = q
  · subst c; rw [if_pos rfl, List.getElem?_set_self hj]
  · rw [if_neg c, List.getElem?_set_ne (fun z => c z.symm), h j hj]
theorem zbr2 {L : qKV} {f : Nat → Int64} {n : Nat} (h : ∀ j, j < L.length → L[j]? = some (f j, 0)) : ∀ j, j < (L.take n).length → (L.take n)[j]? = some (f j, 0) := fun j hj => by
  rw [List.length_take] at hj
  rw [List.getElem?_take, if_pos (by omega), h j (by omega)]
theorem zfis {h : qH} {r : Option Nat} {t : Int32} {a : Nat} {fs fs' : List Value} (f : qFi h 3 4 r t) (e : h a = some (.inr (1, fs))) : qFi (qs h a (.inr (1, fs'))) 3 4 r t := by
  rcases f with z | ⟨q, gs, e1, g1, g2⟩
  · exact Or.inl z
  · exact Or.inr ⟨q, gs, e1, (qs_ne (fun y => by rw [y, e] at g1; simp at g1)).trans g1, g2⟩
theorem dX6_build_15 : decode cX6_build 15 = .ok (.astore 7, 2) := by decide +kernel
theorem dX6_build_17 : decode cX6_build 17 = .ok (.aload 7, 2) := by decide +kernel
theorem dX6_build_19 : decode cX6_build 19 = .ok (.getfield 334, 3) := by decide +kernel
theorem dX6_build_22 : decode cX6_build 22 = .ok (.ifCond .ne 16, 3) := by decide +kernel
theorem dX6_build_25 : decode cX6_build 25 = .ok (.aload_n 0, 1) := by decide +kernel
theorem dX6_build_26 : decode cX6_build 26 = .ok (.aload 7, 2) := by decide +kernel
theorem dX6_build_28 : decode cX6_build 28 = .ok (.iload_n 2, 1) := by decide +kernel
theorem dX6_build_29 : decode cX6_build 29 = .ok (.lload_n 3, 1) := by decide +kernel
theorem dX6_build_30 : decode cX6_build 30 = .ok (.lload 5, 2) := by decide +kernel
theorem dX6_build_32 : decode cX6_build 32 = .ok (.invokevirtual 335, 3) := by decide +kernel
theorem dX6_build_35 : decode cX6_build 35 = .ok (.goto 13, 3) := by decide +kernel
theorem dX6_build_38 : decode cX6_build 38 = .ok (.aload_n 0, 1) := by decide +kernel
theorem dX6_build_39 : decode cX6_build 39 = .ok (.aload 7, 2) := by decide +kernel
theorem dX6_build_41 : decode cX6_build 41 = .ok (.iload_n 2, 1) := by decide +kernel
theorem dX6_build_42 : decode cX6_build 42 = .ok (.lload_n 3, 1) := by decide +kernel
theorem dX6_build_43 : decode cX6_build 43 = .ok (.lload 5, 2) := by decide +kernel
theorem dX6_build_45 : decode cX6_build 45 = .ok (.invokevirtual 339, 3) := by decide +kernel
theorem dX6_build_48 : decode cX6_build 48 = .ok (.aload 7, 2) := by decide +kernel
theorem dX6_build_50 : decode cX6_build 50 = .ok (.invokevirtual 342, 3) := by decide +kernel
theorem dX6_build_53 : decode cX6_build 53 = .ok (.ireturn, 1) := by decide +kernel
set_option maxRecDepth 100000 in
set_option maxHeartbeats 4000000 in
theorem z_build (l : Launch) (D : va_G) (cy : Nat → ClassId) (N0 : Nat) (h : qH) (x : Nat) (mk : Int32) (sl bl kr vr Ed : Nat) (fs : Nat → Option Nat) (bd br eb : Nat → Nat) (Im : Nat → Prop) (Xb : Nat → Nat → Prop) (g : Nat → Nat) (S : Nat → qSlot) (W : qWo) (Bd sk Rn : Nat) (dp : Nat → Nat) (gr : Int32) (p0 p1 : Int32) (p2 p3 : Int64) (hz : zQ cy h x mk sl bl kr vr Ed fs bd br eb Im Xb g S W) (hI : ∀ i, i < 28 → qOk (S i).1 (S i).2.1) (hLn : ∀ i, i < 28 → (S i).2.1.length ≤ 1000) (hV : qWv Bd sk Rn dp W) (hmk : qMk gr = mk) (hAl : ∀ i, i < 28 → ((S i).1 = 1 ∨ (S i).1 = 2) → ∀ k, xAl gr (S i).2.1 k ≤ 16) (h64 : ∀ i, i < 28 → ((S i).1 = 1 ∨ (S i).1 = 2 ∨ (S i).1 = 3) → (S i).2.1.length ≤ 64) (hE9 : Ed + 1 < 1000) : qC l D cy N0 yX6_build cX6_build 8 (some .int) 40 2400 90 4000 [.ref x, .int p0, .int p1, .long p2, .long p3] h (fun v h' => (xs_build gr S p0 p1 p2 p3).1 = 0 ∧ v = some (.int (xs_build gr S p0 p1 p2 p3).2.2) ∧ zPo cy h x mk sl bl kr vr Ed bd br Im Xb ((xs_build gr S p0 p1 p2 p3).2.1) W h') (fun E h' => zXc [(1, "java/lang/IllegalArgumentException"), (2, "java/lang/IllegalStateException"), (3, "java/lang/UnsupportedOperationException"), (4, "java/util/NoSuchElementException"), (5, "java/lang/IndexOutOfBoundsException")] E (xs_build gr S p0 p1 p2 p3).1 ∧ zPo cy h x mk sl bl kr vr Ed bd br Im Xb S W h') := by
  refine q_ofW (by decide) (by exact Nat.le_of_ble_eq_true rfl) ?_
  intro p e s m below meth c ls C hP hl
  have hx := C.1
  have hb := C.2.1
  have hS : va_S (qA N0) s.heap s.heap [] := va_S.rf
  have hl : lv_has ls 8 [(0, .ref x), (1, .int p0), (2, .int p1), (3, .long p2), (5, .long p3)] := hl
  have hf : zFr h h x sl kr vr bd br Xb := zFr.rf
  have hms := aMs64
  have hmr := rMs64
  refine lv_iload_n hx hb dX6_build_0 rfl (lv_at hl 1 rfl) ?_
  refine lv_iconst (v := nI 3) hx hb dX6_build_1 (by decide) ?_
  refine q_callS (rest := []) C (c_X6_needWithin l D cy N0 h p0 3) kX6_needWithin g107 g108 hP hS (by first | decide | omega) hl.1 rfl (by decide) (by first | decide | omega) dX6_build_2 (fun q ce E h' H1 locs1 hE hP hS hc1 hc2 hc3 => by obtain ⟨rfl, rfl, hn9⟩ := hE; exact q_out C hP hS hc1 hc2 hc3 (by have ex : (xs_build gr S p0 p1 p2 p3) = (1, S, 0) := (by unfold xs_build; rw [if_pos (Or.inl (bB3_f (fun z => hn9.elim z.1 (fun y => y z.2))))]); exact ⟨by rw [ex]; exact .head _, by exact hz.po hf⟩) (by omega)) (fun v hh1 H locs hq hP hS => ?_)
  obtain ⟨rfl, rfl, gw1, gw2⟩ := hq
  obtain ⟨bb, hbb, rfl⟩ := nI_of2 (M := 3) (n := 3) (by decide) gw1 gw2
  have ebb : bB3 (nI bb) = true := bB3_t ⟨gw1, gw2⟩
  have ecb : (nI bb).toNatClampNeg = bb := nI_clamp (by omega)
  refine lv_iload_n hx hb dX6_build_5 rfl (lv_at hl 2 rfl) ?_
  refine lv_iconst (v := nI 2) hx hb dX6_build_6 (by decide) ?_
  refine q_callS (rest := []) C (c_X6_needWithin l D cy N0 h p1 2) kX6_needWithin g107 g108 hP hS (by first | decide | omega) hl.1 rfl (by decide) (by first | decide | omega) dX6_build_7 (fun q ce E h' H1 locs1 hE hP hS hc1 hc2 hc3 => by obtain ⟨rfl, rfl, hn9⟩ := hE; exact q_out C hP hS hc1 hc2 hc3 (by have ex : (xs_build gr S (nI bb) p1 p2 p3) = (1, S, 0) := (by unfold xs_build; rw [if_pos (Or.inr (bIn_f (fun z => hn9.elim z.1 (fun y => y z.2))))]); exact ⟨by rw [ex]; exact .head _, by exact hz.po hf⟩) (by omega)) (fun v hh2 H locs hq hP hS => ?_)
  obtain ⟨rfl, rfl, gw1, gw2⟩ := hq
  obtain ⟨wn, hwn, rfl⟩ := nI_of2 (M := 2) (n := 2) (by decide) gw1 gw2
  have ebw : bIn (nI wn) 2 = true := bIn_t ⟨gw1, gw2⟩
  rcases (show wn = 0 ∨ wn = 1 ∨ wn = 2 by omega) with rfl | rfl | rfl
  · refine lv_aload_n hx hb dX6_build_10 rfl (lv_at hl 0 rfl) ?_
    refine lv_iload_n hx hb dX6_build_11 rfl (lv_at hl 1 rfl) ?_
    obtain ⟨q9, hbl, hqb⟩ := hz.2.1.2.1
    obtain ⟨op, kd, ln, ed9, rt, fb, fbo, fbr, hbc⟩ := hz.2.2.2.1 bb (by omega)
    obtain ⟨ab, eab⟩ : ∃ z, bd bb = z := ⟨_, rfl⟩
    obtain ⟨rb, erb⟩ : ∃ z, br bb = z := ⟨_, rfl⟩
    rw [eab, erb] at fbo
    rw [erb] at fbr
    refine q_callV (rest := []) C (c_X6_openBuilder l D cy N0 h x sl bl kr vr mk (oCq W.1) (oMq W.1) (nI Ed) fs q9 bb ab rb op kd ln ed9 rt hz.1.1 hz.2.1.1 hbl (by omega) ⟨by rw [hqb bb (by omega), eab], fbo⟩) kX6_openBuilder g1015 g1017 rfl gp31 g1 hP hS hz.1.1 (by first | decide | omega) hl.1 rfl (by decide) (by first | decide | omega) dX6_build_12 (fun q ce E h' H1 locs1 hE hP hS hc1 hc2 hc3 => by obtain ⟨rfl, rfl, hop⟩ := hE; have hlt : (S (24 + bb)).1 < 0 := hbc.elim (fun z => by rw [z.1]; decide) (fun z => absurd (z.1.symm.trans hop) (by decide)); exact q_out C hP hS hc1 hc2 hc3 (by have ex : (xs_build gr S (nI bb) (nI 0) p2 p3) = (2, S, 0) := (by unfold xs_build; rw [if_neg (by rw [ebb, ebw]; decide), ecb, if_pos hlt]); exact ⟨by rw [ex]; exact .tail _ (.head _), by exact hz.po hf⟩) (by omega)) (fun v hh3 H locs hq hP hS => ?_)
    obtain ⟨rfl, rfl, hop⟩ := hq
    rcases hbc with ⟨-, z, -⟩ | ⟨rfl, ekd, eed, hbc⟩
    · exact absurd z hop
    rcases hbc with ⟨hk9, rfl, hrow, hnx⟩ | ⟨hk9, rfl, hRb⟩
    · have hlb := hLn (24 + bb) (by omega)
      obtain rfl : kd = nI 0 := ekd.trans hk9
      have hlt : ¬ (S (24 + bb)).1 < 0 := by rw [hk9]; decide
      obtain rfl := eed
      refine lv_astore (lv' := [(7, .ref ab), (0, .ref x), (1, .int (nI bb)), (2, .int (nI 0)), (3, .long p2), (5, .long p3)]) hx hb dX6_build_15 hl (by decide) rfl (fun ls hl => ?_)
      refine lv_aload hx hb dX6_build_17 (lv_at hl 0 rfl) ?_
      refine q_getN C hP fbo rfl inX1 2 (by decide) (by decide +kernel) rfl dX6_build_19 ?_
      refine lv_if_ne (tgt := 38) hx hb dX6_build_22 (by decide) (fun c22 => ?_) (fun c22 => ?_)
      · replace c22 : ¬ 0 = 0 := fun zq => c22 ((nI_eq (a := 0) (b := 0) (by omega) (by omega)).mpr zq)
        exfalso; omega
      · replace c22 : 0 = 0 := (nI_eq (a := 0) (b := 0) (by omega) (by omega)).mp c22
        refine lv_aload_n hx hb dX6_build_25 rfl (lv_at hl 1 rfl) ?_
        refine lv_aload hx hb dX6_build_26 (lv_at hl 0 rfl) ?_
        refine lv_iload_n hx hb dX6_build_28 rfl (lv_at hl 3 rfl) ?_
        refine lv_lload_n hx hb dX6_build_29 rfl (lv_at hl 4 rfl) ?_
        refine lv_lload hx hb dX6_build_30 (lv_at hl 5 rfl) ?_
        refine q_callV (rest := []) C (z_bseq0 l D cy N0 h x ab rb (nI 0) (nI (eb bb)) (va_rf rt) fb (S (24 + bb)).2.1.length p2 p3 fbo fbr (by omega)) kX6_buildSequence g1020 g1022 rfl gp32 g1 hP hS hz.1.1 (by first | decide | omega) hl.1 rfl (by decide) (by first | decide | omega) dX6_build_32 (fun q ce E h' H1 locs1 hE hP hS hc1 hc2 hc3 => by obtain ⟨rfl, rfl, hn9⟩ := hE; exact q_out C hP hS hc1 hc2 hc3 (by have ex : (xs_build gr S (nI bb) (nI 0) p2 p3) = (5, S, 0) := (by unfold xs_build; rw [if_neg (by rw [ebb, ebw]; decide), ecb, if_neg hlt, if_pos hk9]; unfold xr_buildS; rw [show (nI 0).toNatClampNeg = 0 from rfl, if_neg (by decide : ¬ 0 = 1), if_neg (by decide : ¬ 0 = 2), if_neg (by omega)]); exact ⟨by rw [ex]; exact .tail _ (.tail _ (.tail _ (.tail _ (.head _)))), by exact hz.po hf⟩) (by omega)) (fun v hh4 H locs hq hP hS => ?_)
        have nbr : ab ≠ rb := fun z => by rw [z, fbr] at fbo; cases fbo
        obtain ⟨rfl, hr9, rfl⟩ := hq
        obtain ⟨h8, eh8⟩ : ∃ z, qs (qs h rb (.inl (cy 1, 1000, .inr (.inl (vp_updL fb (S (24 + bb)).2.1.length p3))))) ab (.inr (1, [.ref rb, .int 1, .int (nI 0), .int (nI ((S (24 + bb)).2.1.length + 1)), va_rf rt, .int (nI (eb bb))])) = z := ⟨_, rfl⟩
        rw [eh8] at hP
        have fb8 : h8 ab = some (.inr (1, [.ref rb, .int 1, .int (nI 0), .int (nI ((S (24 + bb)).2.1.length + 1)), va_rf rt, .int (nI (eb bb))])) := by rw [← eh8]; exact qs_self
        have fr8 : h8 rb = some (.inl (cy 1, 1000, .inr (.inl (vp_updL fb (S (24 + bb)).2.1.length p3)))) := by rw [← eh8]; exact (qs_ne nbr.symm).trans qs_self
        have kp8 : ∀ z o, h z = some o → z ≠ bd bb → z ≠ br bb → h8 z = some o := fun z o e n1 n2 => by rw [eab] at n1; rw [erb] at n2; rw [← eh8]; exact (qs_ne n1).trans ((qs_ne n2).trans e)
        have dm8 : ∀ z, h8 z = none → h z = none := fun z y => by rw [← eh8] at y; exact qs_none (qs_none y)
        have ln8 : (((S (24 + bb)).1, (S (24 + bb)).2.1 ++ [(p3, 0)], (S (24 + bb)).2.2)).2.1.length = (S (24 + bb)).2.1.length + 1 := by show ((S (24 + bb)).2.1 ++ [(p3, (0 : Int64))]).length = _; rw [List.length_append]; rfl
        have rw8 := zbr0 (v := p3) (f := fb) hrow
        have hz8 := hz.bob (h' := h8) hV (b := bb) (s' := ((S (24 + bb)).1, (S (24 + bb)).2.1 ++ [(p3, 0)], (S (24 + bb)).2.2)) (by omega) rfl kp8 ⟨1, nI 0, _, nI (eb bb), rt, _, by rw [eab, erb]; exact fb8, by rw [erb]; exact fr8, Or.inr ⟨rfl, hk9.symm, rfl, Or.inl ⟨hk9, by rw [ln8], rw8, hnx⟩⟩⟩
        have hpo := hz8.bobp (h := h) (by omega) kp8 dm8
        refine lv_goto (tgt := 48) hx hb dX6_build_35 (by decide) ?_
        refine lv_aload hx hb dX6_build_48 (lv_at hl 0 rfl) ?_
        refine q_callVN (host := RX6) (rest := []) C (z_bamount0 l D cy N0 h8 ab (.ref rb) 1 (nI ((S (24 + bb)).2.1.length + 1)) (nI (eb bb)) 0 rt fb8) kX1_amount (by decide +kernel) g1049 rfl gp34 hP hS fb8 (by first | decide | omega) hl.1 rfl (by decide) (by first | decide | omega) dX6_build_50 (fun v hh5 H locs hq hP hS => ?_)
        obtain ⟨rfl, rfl⟩ := hq
        have ex : (xs_build gr S (nI bb) (nI 0) p2 p3) = (0, qU S (24 + bb) ((S (24 + bb)).1, (S (24 + bb)).2.1 ++ [(p3, 0)], (S (24 + bb)).2.2), nI ((S (24 + bb)).2.1.length + 1)) := by unfold xs_build; rw [if_neg (by rw [ebb, ebw]; decide), ecb, if_neg hlt, if_pos hk9]; unfold xr_buildS; rw [show (nI 0).toNatClampNeg = 0 from rfl, if_neg (by decide : ¬ 0 = 1), if_neg (by decide : ¬ 0 = 2), if_pos (by omega)]
        exact q_iret C hP hS ⟨by rw [ex], by first | (rw [ex]; done) | (rw [ex]), by rw [ex]; exact hpo⟩ (by omega) dX6_build_53
    · have hlb := hLn (24 + bb) (by omega)
      have hlt : ¬ (S (24 + bb)).1 < 0 := by rcases hk9 with z | z <;> rw [z] <;> decide
      have hne0 : ¬ (S (24 + bb)).1 = 0 := by rcases hk9 with z | z <;> rw [z] <;> decide
      have hnob : qNo (S (24 + bb)).2.1 := (hI (24 + bb) (by omega)).2.1 (hk9.elim Or.inl (fun z => Or.inr (Or.inl z)))
      rcases hk9 with hk9 | hk9
      · obtain rfl : kd = nI 1 := ekd.trans hk9
        have hk12 : (S (24 + bb)).1 = 1 ∨ (S (24 + bb)).1 = 2 := Or.inl hk9
        obtain rfl := eed
        refine lv_astore (lv' := [(7, .ref ab), (0, .ref x), (1, .int (nI bb)), (2, .int (nI 0)), (3, .long p2), (5, .long p3)]) hx hb dX6_build_15 hl (by decide) rfl (fun ls hl => ?_)
        refine lv_aload hx hb dX6_build_17 (lv_at hl 0 rfl) ?_
        refine q_getN C hP fbo rfl inX1 2 (by decide) (by decide +kernel) rfl dX6_build_19 ?_
        refine lv_if_ne (tgt := 38) hx hb dX6_build_22 (by decide) (fun c22 => ?_) (fun c22 => ?_)
        · replace c22 : ¬ 1 = 0 := fun zq => c22 ((nI_eq (a := 1) (b := 0) (by omega) (by omega)).mpr zq)
          refine lv_aload_n hx hb dX6_build_38 rfl (lv_at hl 1 rfl) ?_
          refine lv_aload hx hb dX6_build_39 (lv_at hl 0 rfl) ?_
          refine lv_iload_n hx hb dX6_build_41 rfl (lv_at hl 3 rfl) ?_
          refine lv_lload_n hx hb dX6_build_42 rfl (lv_at hl 4 rfl) ?_
          refine lv_lload hx hb dX6_build_43 (lv_at hl 5 rfl) ?_
          refine q_callV (rest := []) C (z_bh01 l D cy N0 h Im (eb bb) (zOk Ed eb S) mk rt (zSv (S (24 + bb))) (Xb bb) x sl bl kr vr (oCq W.1) (oMq W.1) (nI Ed) ab rb p2 p3 64 hRb hz.1.1 (hz.2.2.2.2.2.2.2.1 bb (by omega)) (fun z => z.2 bb (by omega) hk12 rfl) (by have := (hz.2.2.2.2.2.2.2.2.1 bb (by omega) hk12).1; have := hz.2.2.2.2.2.2.2.2.2; omega) (by rw [zSv_len]; exact h64 (24 + bb) (by omega) (hk12.elim Or.inl (fun z => Or.inr (Or.inl z)))) (by omega) (zSv_no hnob) fbo (by rw [← eab]; exact (fun y => ((hz.2.2.2.2.2.1 _ (Or.inr ⟨bb, by omega, y⟩)).2.2.2.2.2.1 bb (by omega)).1 rfl))) kX6_buildHashed g1027 g1029 rfl gp33 g1 hP hS hz.1.1 (by first | decide | omega) hl.1 rfl (by decide) (by first | decide | omega) dX6_build_45 (fun q ce E h' H1 locs1 hE hP hS hc1 hc2 hc3 => by obtain ⟨rfl, rfl, hx8, hfl⟩ := hE; rw [zSv_has] at hx8; rw [zSv_len, zfilt hmk, zSv_al] at hfl; have hfull : ¬ (xHas (S (24 + bb)).2.1 p2 = true ∨ ((S (24 + bb)).2.1.length < 1000 ∧ ¬ 15 < xAl gr (S (24 + bb)).2.1 p2)) := fun z => z.elim (fun y => by rw [hx8] at y; cases y) (fun y => by omega); exact q_out C hP hS hc1 hc2 hc3 (by have ex : (xs_build gr S (nI bb) (nI 0) p2 p3) = (5, S, 0) := (by unfold xs_build; rw [if_neg (by rw [ebb, ebw]; decide), ecb, if_neg hlt, if_neg hne0]; unfold xr_buildH; rw [show (nI 0).toNatClampNeg = 0 from rfl, if_neg (by decide : ¬ 0 = 1), if_pos rfl, if_neg hfull]); exact ⟨by rw [ex]; exact .tail _ (.tail _ (.tail _ (.tail _ (.head _)))), by exact hz.po hf⟩) (by omega)) (fun v hh6 H locs hq hP hS => ?_)
          obtain ⟨rfl, hrm, h1, x8, X8, Im8, rfl, hR8, hE8, hC8⟩ := hq
          rw [zSv_has, zSv_len, zfilt hmk, zSv_al] at hrm
          have hroom : xHas (S (24 + bb)).2.1 p2 = true ∨ ((S (24 + bb)).2.1.length < 1000 ∧ ¬ 15 < xAl gr (S (24 + bb)).2.1 p2) := hrm.imp id (fun z => ⟨by omega, by omega⟩)
          rw [← zSv_put (v := xV (S (24 + bb)).1 p3) hk12 _ (by rw [if_neg (show ¬ (S (24 + bb)).1 = 2 from fun z => absurd (hk9.symm.trans z) (by decide)), show xV (S (24 + bb)).1 p3 = p3 from if_pos (Or.inl hk9)])] at hR8
          have hpo := hz.bed (b := bb) (rb := rb) (kd := nI 1) (ln := 0) hV (s' := ((S (24 + bb)).1, xPut (S (24 + bb)).1 false (S (24 + bb)).2.1 p2 (xV (S (24 + bb)).1 p3), (S (24 + bb)).2.2)) (f := fb) (by omega) rfl hk12 (by rw [eab, erb]; exact fbo) (by rw [erb]; exact fbr) hk9.symm rfl hR8 hE8 hC8
          rw [eab, erb] at hpo
          have fi8 : qFi (qs h1 ab (.inr (1, [.ref rb, .int 1, .int (nI 1), .int (nI 0), va_rf x8, .int (nI (eb bb))]))) 3 4 x8 (nI (zSv ((S (24 + bb)).1, xPut (S (24 + bb)).1 false (S (24 + bb)).2.1 p2 (xV (S (24 + bb)).1 p3), (S (24 + bb)).2.2)).length) := zfis hR8.fi (hC8.1 _ _ fbo (by rw [← eab]; exact (fun y => ((hz.2.2.2.2.2.1 _ (Or.inr ⟨bb, by omega, y⟩)).2.2.2.2.2.1 bb (by omega)).1 rfl)))
          rw [zSv_len] at fi8
          obtain ⟨h8, eh8⟩ : ∃ z, qs h1 ab (.inr (1, [.ref rb, .int 1, .int (nI 1), .int (nI 0), va_rf x8, .int (nI (eb bb))])) = z := ⟨_, rfl⟩
          rw [eh8] at hP hpo fi8
          have fb8 : h8 ab = some (.inr (1, [.ref rb, .int 1, .int (nI 1), .int (nI 0), va_rf x8, .int (nI (eb bb))])) := by rw [← eh8]; exact qs_self
          refine lv_aload hx hb dX6_build_48 (lv_at hl 0 rfl) ?_
          refine q_callVN (host := RX6) (rest := []) C (z_bamount1 l D cy N0 h8 ab (.ref rb) 1 (nI 0) (nI (eb bb)) (nI ((((S (24 + bb)).1, xPut (S (24 + bb)).1 false (S (24 + bb)).2.1 p2 (xV (S (24 + bb)).1 p3), (S (24 + bb)).2.2)).2.1.length)) x8 fb8 fi8) kX1_amount (by decide +kernel) g1049 rfl gp34 hP hS fb8 (by first | decide | omega) hl.1 rfl (by decide) (by first | decide | omega) dX6_build_50 (fun v hh7 H locs hq hP hS => ?_)
          obtain ⟨rfl, rfl⟩ := hq
          have ex : (xs_build gr S (nI bb) (nI 0) p2 p3) = (0, qU S (24 + bb) ((S (24 + bb)).1, xPut (S (24 + bb)).1 false (S (24 + bb)).2.1 p2 (xV (S (24 + bb)).1 p3), (S (24 + bb)).2.2), nI ((((S (24 + bb)).1, xPut (S (24 + bb)).1 false (S (24 + bb)).2.1 p2 (xV (S (24 + bb)).1 p3), (S (24 + bb)).2.2)).2.1.length)) := by unfold xs_build; rw [if_neg (by rw [ebb, ebw]; decide), ecb, if_neg hlt, if_neg hne0]; unfold xr_buildH; rw [show (nI 0).toNatClampNeg = 0 from rfl, if_neg (by decide : ¬ 0 = 1), if_pos rfl, if_pos hroom]
          exact q_iret C hP hS ⟨by rw [ex], by first | (rw [ex]; done) | (rw [ex]), by rw [ex]; exact hpo⟩ (by omega) dX6_build_53
        · replace c22 : 1 = 0 := (nI_eq (a := 1) (b := 0) (by omega) (by omega)).mp c22
          exfalso; omega
      · obtain rfl : kd = nI 2 := ekd.trans hk9
        have hk12 : (S (24 + bb)).1 = 1 ∨ (S (24 + bb)).1 = 2 := Or.inr hk9
        obtain rfl := eed
        refine lv_astore (lv' := [(7, .ref ab), (0, .ref x), (1, .int (nI bb)), (2, .int (nI 0)), (3, .long p2), (5, .long p3)]) hx hb dX6_build_15 hl (by decide) rfl (fun ls hl => ?_)
        refine lv_aload hx hb dX6_build_17 (lv_at hl 0 rfl) ?_
        refine q_getN C hP fbo rfl inX1 2 (by decide) (by decide +kernel) rfl dX6_build_19 ?_
        refine lv_if_ne (tgt := 38) hx hb dX6_build_22 (by decide) (fun c22 => ?_) (fun c22 => ?_)
        · replace c22 : ¬ 2 = 0 := fun zq => c22 ((nI_eq (a := 2) (b := 0) (by omega) (by omega)).mpr zq)
          refine lv_aload_n hx hb dX6_build_38 rfl (lv_at hl 1 rfl) ?_
          refine lv_aload hx hb dX6_build_39 (lv_at hl 0 rfl) ?_
          refine lv_iload_n hx hb dX6_build_41 rfl (lv_at hl 3 rfl) ?_
          refine lv_lload_n hx hb dX6_build_42 rfl (lv_at hl 4 rfl) ?_
          refine lv_lload hx hb dX6_build_43 (lv_at hl 5 rfl) ?_
          refine q_callV (rest := []) C (z_bh02 l D cy N0 h Im (eb bb) (zOk Ed eb S) mk rt (zSv (S (24 + bb))) (Xb bb) x sl bl kr vr (oCq W.1) (oMq W.1) (nI Ed) ab rb p2 p3 64 hRb hz.1.1 (hz.2.2.2.2.2.2.2.1 bb (by omega)) (fun z => z.2 bb (by omega) hk12 rfl) (by have := (hz.2.2.2.2.2.2.2.2.1 bb (by omega) hk12).1; have := hz.2.2.2.2.2.2.2.2.2; omega) (by rw [zSv_len]; exact h64 (24 + bb) (by omega) (hk12.elim Or.inl (fun z => Or.inr (Or.inl z)))) (by omega) (zSv_no hnob) fbo (by rw [← eab]; exact (fun y => ((hz.2.2.2.2.2.1 _ (Or.inr ⟨bb, by omega, y⟩)).2.2.2.2.2.1 bb (by omega)).1 rfl))) kX6_buildHashed g1027 g1029 rfl gp33 g1 hP hS hz.1.1 (by first | decide | omega) hl.1 rfl (by decide) (by first | decide | omega) dX6_build_45 (fun q ce E h' H1 locs1 hE hP hS hc1 hc2 hc3 => by obtain ⟨rfl, rfl, hx8, hfl⟩ := hE; rw [zSv_has] at hx8; rw [zSv_len, zfilt hmk, zSv_al] at hfl; have hfull : ¬ (xHas (S (24 + bb)).2.1 p2 = true ∨ ((S (24 + bb)).2.1.length < 1000 ∧ ¬ 15 < xAl gr (S (24 + bb)).2.1 p2)) := fun z => z.elim (fun y => by rw [hx8] at y; cases y) (fun y => by omega); exact q_out C hP hS hc1 hc2 hc3 (by have ex : (xs_build gr S (nI bb) (nI 0) p2 p3) = (5, S, 0) := (by unfold xs_build; rw [if_neg (by rw [ebb, ebw]; decide), ecb, if_neg hlt, if_neg hne0]; unfold xr_buildH; rw [show (nI 0).toNatClampNeg = 0 from rfl, if_neg (by decide : ¬ 0 = 1), if_pos rfl, if_neg hfull]); exact ⟨by rw [ex]; exact .tail _ (.tail _ (.tail _ (.tail _ (.head _)))), by exact hz.po hf⟩) (by omega)) (fun v hh8 H locs hq hP hS => ?_)
          obtain ⟨rfl, hrm, h1, x8, X8, Im8, rfl, hR8, hE8, hC8⟩ := hq
          rw [zSv_has, zSv_len, zfilt hmk, zSv_al] at hrm
          have hroom : xHas (S (24 + bb)).2.1 p2 = true ∨ ((S (24 + bb)).2.1.length < 1000 ∧ ¬ 15 < xAl gr (S (24 + bb)).2.1 p2) := hrm.imp id (fun z => ⟨by omega, by omega⟩)
          rw [← zSv_put (v := xV (S (24 + bb)).1 p3) hk12 _ (by rw [if_pos (show (S (24 + bb)).1 = 2 from hk9)])] at hR8
          have hpo := hz.bed (b := bb) (rb := rb) (kd := nI 2) (ln := 0) hV (s' := ((S (24 + bb)).1, xPut (S (24 + bb)).1 false (S (24 + bb)).2.1 p2 (xV (S (24 + bb)).1 p3), (S (24 + bb)).2.2)) (f := fb) (by omega) rfl hk12 (by rw [eab, erb]; exact fbo) (by rw [erb]; exact fbr) hk9.symm rfl hR8 hE8 hC8
          rw [eab, erb] at hpo
          have fi8 : qFi (qs h1 ab (.inr (1, [.ref rb, .int 1, .int (nI 2), .int (nI 0), va_rf x8, .int (nI (eb bb))]))) 3 4 x8 (nI (zSv ((S (24 + bb)).1, xPut (S (24 + bb)).1 false (S (24 + bb)).2.1 p2 (xV (S (24 + bb)).1 p3), (S (24 + bb)).2.2)).length) := zfis hR8.fi (hC8.1 _ _ fbo (by rw [← eab]; exact (fun y => ((hz.2.2.2.2.2.1 _ (Or.inr ⟨bb, by omega, y⟩)).2.2.2.2.2.1 bb (by omega)).1 rfl)))
          rw [zSv_len] at fi8
          obtain ⟨h8, eh8⟩ : ∃ z, qs h1 ab (.inr (1, [.ref rb, .int 1, .int (nI 2), .int (nI 0), va_rf x8, .int (nI (eb bb))])) = z := ⟨_, rfl⟩
          rw [eh8] at hP hpo fi8
          have fb8 : h8 ab = some (.inr (1, [.ref rb, .int 1, .int (nI 2), .int (nI 0), va_rf x8, .int (nI (eb bb))])) := by rw [← eh8]; exact qs_self
          refine lv_aload hx hb dX6_build_48 (lv_at hl 0 rfl) ?_
          refine q_callVN (host := RX6) (rest := []) C (z_bamount2 l D cy N0 h8 ab (.ref rb) 1 (nI 0) (nI (eb bb)) (nI ((((S (24 + bb)).1, xPut (S (24 + bb)).1 false (S (24 + bb)).2.1 p2 (xV (S (24 + bb)).1 p3), (S (24 + bb)).2.2)).2.1.length)) x8 fb8 fi8) kX1_amount (by decide +kernel) g1049 rfl gp34 hP hS fb8 (by first | decide | omega) hl.1 rfl (by decide) (by first | decide | omega) dX6_build_50 (fun v hh9 H locs hq hP hS => ?_)
          obtain ⟨rfl, rfl⟩ := hq
          have ex : (xs_build gr S (nI bb) (nI 0) p2 p3) = (0, qU S (24 + bb) ((S (24 + bb)).1, xPut (S (24 + bb)).1 false (S (24 + bb)).2.1 p2 (xV (S (24 + bb)).1 p3), (S (24 + bb)).2.2), nI ((((S (24 + bb)).1, xPut (S (24 + bb)).1 false (S (24 + bb)).2.1 p2 (xV (S (24 + bb)).1 p3), (S (24 + bb)).2.2)).2.1.length)) := by unfold xs_build; rw [if_neg (by rw [ebb, ebw]; decide), ecb, if_neg hlt, if_neg hne0]; unfold xr_buildH; rw [show (nI 0).toNatClampNeg = 0 from rfl, if_neg (by decide : ¬ 0 = 1), if_pos rfl, if_pos hroom]
          exact q_iret C hP hS ⟨by rw [ex], by first | (rw [ex]; done) | (rw [ex]), by rw [ex]; exact hpo⟩ (by omega) dX6_build_53
        · replace c22 : 2 = 0 := (nI_eq (a := 2) (b := 0) (by omega) (by omega)).mp c22
          exfalso; omega
  · refine lv_aload_n hx hb dX6_build_10 rfl (lv_at hl 0 rfl) ?_
    refine lv_iload_n hx hb dX6_build_11 rfl (lv_at hl 1 rfl) ?_
    obtain ⟨q9, hbl, hqb⟩ := hz.2.1.2.1
    obtain ⟨op, kd, ln, ed9, rt, fb, fbo, fbr, hbc⟩ := hz.2.2.2.1 bb (by omega)
    obtain ⟨ab, eab⟩ : ∃ z, bd bb = z := ⟨_, rfl⟩
    obtain ⟨rb, erb⟩ : ∃ z, br bb = z := ⟨_, rfl⟩
    rw [eab, erb] at fbo
    rw [erb] at fbr
    refine q_callV (rest := []) C (c_X6_openBuilder l D cy N0 h x sl bl kr vr mk (oCq W.1) (oMq W.1) (nI Ed) fs q9 bb ab rb op kd ln ed9 rt hz.1.1 hz.2.1.1 hbl (by omega) ⟨by rw [hqb bb (by omega), eab], fbo⟩) kX6_openBuilder g1015 g1017 rfl gp31 g1 hP hS hz.1.1 (by first | decide | omega) hl.1 rfl (by decide) (by first | decide | omega) dX6_build_12 (fun q ce E h' H1 locs1 hE hP hS hc1 hc2 hc3 => by obtain ⟨rfl, rfl, hop⟩ := hE; have hlt : (S (24 + bb)).1 < 0 := hbc.elim (fun z => by rw [z.1]; decide) (fun z => absurd (z.1.symm.trans hop) (by decide)); exact q_out C hP hS hc1 hc2 hc3 (by have ex : (xs_build gr S (nI bb) (nI 1) p2 p3) = (2, S, 0) := (by unfold xs_build; rw [if_neg (by rw [ebb, ebw]; decide), ecb, if_pos hlt]); exact ⟨by rw [ex]; exact .tail _ (.head _), by exact hz.po hf⟩) (by omega)) (fun v hh10 H locs hq hP hS => ?_)
    obtain ⟨rfl, rfl, hop⟩ := hq
    rcases hbc with ⟨-, z, -⟩ | ⟨rfl, ekd, eed, hbc⟩
    · exact absurd z hop
    rcases hbc with ⟨hk9, rfl, hrow, hnx⟩ | ⟨hk9, rfl, hRb⟩
    · have hlb := hLn (24 + bb) (by omega)
      obtain rfl : kd = nI 0 := ekd.trans hk9
      have hlt : ¬ (S (24 + bb)).1 < 0 := by rw [hk9]; decide
      obtain rfl := eed
      refine lv_astore (lv' := [(7, .ref ab), (0, .ref x), (1, .int (nI bb)), (2, .int (nI 1)), (3, .long p2), (5, .long p3)]) hx hb dX6_build_15 hl (by decide) rfl (fun ls hl => ?_)
      refine lv_aload hx hb dX6_build_17 (lv_at hl 0 rfl) ?_
      refine q_getN C hP fbo rfl inX1 2 (by decide) (by decide +kernel) rfl dX6_build_19 ?_
      refine lv_if_ne (tgt := 38) hx hb dX6_build_22 (by decide) (fun c22 => ?_) (fun c22 => ?_)
      · replace c22 : ¬ 0 = 0 := fun zq => c22 ((nI_eq (a := 0) (b := 0) (by omega) (by omega)).mpr zq)
        exfalso; omega
      · replace c22 : 0 = 0 := (nI_eq (a := 0) (b := 0) (by omega) (by omega)).mp c22
        refine lv_aload_n hx hb dX6_build_25 rfl (lv_at hl 1 rfl) ?_
        refine lv_aload hx hb dX6_build_26 (lv_at hl 0 rfl) ?_
        refine lv_iload_n hx hb dX6_build_28 rfl (lv_at hl 3 rfl) ?_
        refine lv_lload_n hx hb dX6_build_29 rfl (lv_at hl 4 rfl) ?_
        refine lv_lload hx hb dX6_build_30 (lv_at hl 5 rfl) ?_
        refine q_callV (rest := []) C (z_bseq1 l D cy N0 h x ab rb (nI 0) (nI (eb bb)) (va_rf rt) fb (S (24 + bb)).2.1.length p2 p3 fbo fbr (by omega)) kX6_buildSequence g1020 g1022 rfl gp32 g1 hP hS hz.1.1 (by first | decide | omega) hl.1 rfl (by decide) (by first | decide | omega) dX6_build_32 (fun q ce E h' H1 locs1 hE hP hS hc1 hc2 hc3 => by obtain ⟨rfl, rfl, hn9⟩ := hE; exact q_out C hP hS hc1 hc2 hc3 (by have ex : (xs_build gr S (nI bb) (nI 1) p2 p3) = (4, S, 0) := (by unfold xs_build; rw [if_neg (by rw [ebb, ebw]; decide), ecb, if_neg hlt, if_pos hk9]; unfold xr_buildS; rw [show (nI 1).toNatClampNeg = 1 from rfl, if_pos rfl, if_neg hn9]); exact ⟨by rw [ex]; exact .tail _ (.tail _ (.tail _ (.head _))), by exact hz.po hf⟩) (by omega)) (fun v hh11 H locs hq hP hS => ?_)
        have nbr : ab ≠ rb := fun z => by rw [z, fbr] at fbo; cases fbo
        obtain ⟨q7, eq7, hq7, rfl, rfl⟩ := hq
        obtain ⟨h8, eh8⟩ : ∃ z, qs h rb (.inl (cy 1, 1000, .inr (.inl (vp_updL fb q7 p3)))) = z := ⟨_, rfl⟩
        rw [eh8] at hP
        have fb8 : h8 ab = some (.inr (1, [.ref rb, .int 1, .int (nI 0), .int (nI (S (24 + bb)).2.1.length), va_rf rt, .int (nI (eb bb))])) := by rw [← eh8]; exact (qs_ne nbr).trans fbo
        have fr8 : h8 rb = some (.inl (cy 1, 1000, .inr (.inl (vp_updL fb q7 p3)))) := by rw [← eh8]; exact qs_self
        have kp8 : ∀ z o, h z = some o → z ≠ bd bb → z ≠ br bb → h8 z = some o := fun z o e n1 n2 => by rw [eab] at n1; rw [erb] at n2; rw [← eh8]; exact (qs_ne n2).trans e
        have dm8 : ∀ z, h8 z = none → h z = none := fun z y => by rw [← eh8] at y; exact qs_none y
        have ln8 : (((S (24 + bb)).1, (S (24 + bb)).2.1.set q7 (p3, 0), (S (24 + bb)).2.2)).2.1.length = (S (24 + bb)).2.1.length := by show ((S (24 + bb)).2.1.set q7 (p3, (0 : Int64))).length = _; rw [List.length_set]
        have rw8 := zbr1 (v := p3) (q := q7) (f := fb) hrow
        have hz8 := hz.bob (h' := h8) hV (b := bb) (s' := ((S (24 + bb)).1, (S (24 + bb)).2.1.set q7 (p3, 0), (S (24 + bb)).2.2)) (by omega) rfl kp8 ⟨1, nI 0, _, nI (eb bb), rt, _, by rw [eab, erb]; exact fb8, by rw [erb]; exact fr8, Or.inr ⟨rfl, hk9.symm, rfl, Or.inl ⟨hk9, by rw [ln8], rw8, hnx⟩⟩⟩
        have hpo := hz8.bobp (h := h) (by omega) kp8 dm8
        refine lv_goto (tgt := 48) hx hb dX6_build_35 (by decide) ?_
        refine lv_aload hx hb dX6_build_48 (lv_at hl 0 rfl) ?_
        refine q_callVN (host := RX6) (rest := []) C (z_bamount0 l D cy N0 h8 ab (.ref rb) 1 (nI ((S (24 + bb)).2.1.length)) (nI (eb bb)) 0 rt fb8) kX1_amount (by decide +kernel) g1049 rfl gp34 hP hS fb8 (by first | decide | omega) hl.1 rfl (by decide) (by first | decide | omega) dX6_build_50 (fun v hh12 H locs hq hP hS => ?_)
        obtain ⟨rfl, rfl⟩ := hq
        have ex : (xs_build gr S (nI bb) (nI 1) p2 p3) = (0, qU S (24 + bb) ((S (24 + bb)).1, (S (24 + bb)).2.1.set q7 (p3, 0), (S (24 + bb)).2.2), nI ((S (24 + bb)).2.1.length)) := by unfold xs_build; rw [if_neg (by rw [ebb, ebw]; decide), ecb, if_neg hlt, if_pos hk9]; unfold xr_buildS; rw [show (nI 1).toNatClampNeg = 1 from rfl, if_pos rfl, if_pos ⟨by omega, by omega⟩, eq7, show ((q7 : Int)).toNat = q7 from rfl]
        exact q_iret C hP hS ⟨by rw [ex], by first | (rw [ex]; done) | (rw [ex]), by rw [ex]; exact hpo⟩ (by omega) dX6_build_53
    · have hlb := hLn (24 + bb) (by omega)
      have hlt : ¬ (S (24 + bb)).1 < 0 := by rcases hk9 with z | z <;> rw [z] <;> decide
      have hne0 : ¬ (S (24 + bb)).1 = 0 := by rcases hk9 with z | z <;> rw [z] <;> decide
      have hnob : qNo (S (24 + bb)).2.1 := (hI (24 + bb) (by omega)).2.1 (hk9.elim Or.inl (fun z => Or.inr (Or.inl z)))
      rcases hk9 with hk9 | hk9
      · obtain rfl : kd = nI 1 := ekd.trans hk9
        have hk12 : (S (24 + bb)).1 = 1 ∨ (S (24 + bb)).1 = 2 := Or.inl hk9
        obtain rfl := eed
        refine lv_astore (lv' := [(7, .ref ab), (0, .ref x), (1, .int (nI bb)), (2, .int (nI 1)), (3, .long p2), (5, .long p3)]) hx hb dX6_build_15 hl (by decide) rfl (fun ls hl => ?_)
        refine lv_aload hx hb dX6_build_17 (lv_at hl 0 rfl) ?_
        refine q_getN C hP fbo rfl inX1 2 (by decide) (by decide +kernel) rfl dX6_build_19 ?_
        refine lv_if_ne (tgt := 38) hx hb dX6_build_22 (by decide) (fun c22 => ?_) (fun c22 => ?_)
        · replace c22 : ¬ 1 = 0 := fun zq => c22 ((nI_eq (a := 1) (b := 0) (by omega) (by omega)).mpr zq)
          refine lv_aload_n hx hb dX6_build_38 rfl (lv_at hl 1 rfl) ?_
          refine lv_aload hx hb dX6_build_39 (lv_at hl 0 rfl) ?_
          refine lv_iload_n hx hb dX6_build_41 rfl (lv_at hl 3 rfl) ?_
          refine lv_lload_n hx hb dX6_build_42 rfl (lv_at hl 4 rfl) ?_
          refine lv_lload hx hb dX6_build_43 (lv_at hl 5 rfl) ?_
          refine q_callV (rest := []) C (z_bh11 l D cy N0 h Im (eb bb) (zOk Ed eb S) mk rt (zSv (S (24 + bb))) (Xb bb) x sl bl kr vr (oCq W.1) (oMq W.1) (nI Ed) ab rb p2 p3 64 hRb hz.1.1 (hz.2.2.2.2.2.2.2.1 bb (by omega)) (fun z => z.2 bb (by omega) hk12 rfl) (by have := (hz.2.2.2.2.2.2.2.2.1 bb (by omega) hk12).1; have := hz.2.2.2.2.2.2.2.2.2; omega) (by rw [zSv_len]; exact h64 (24 + bb) (by omega) (hk12.elim Or.inl (fun z => Or.inr (Or.inl z)))) (by omega) (zSv_no hnob) fbo (by rw [← eab]; exact (fun y => ((hz.2.2.2.2.2.1 _ (Or.inr ⟨bb, by omega, y⟩)).2.2.2.2.2.1 bb (by omega)).1 rfl))) kX6_buildHashed g1027 g1029 rfl gp33 g1 hP hS hz.1.1 (by first | decide | omega) hl.1 rfl (by decide) (by first | decide | omega) dX6_build_45 (fun q ce E h' H1 locs1 hE hP hS hc1 hc2 hc3 => by obtain ⟨rfl, rfl⟩ := hE; exact q_out C hP hS hc1 hc2 hc3 (by have ex : (xs_build gr S (nI bb) (nI 1) p2 p3) = (3, S, 0) := (by unfold xs_build; rw [if_neg (by rw [ebb, ebw]; decide), ecb, if_neg hlt, if_neg hne0]; unfold xr_buildH; rw [show (nI 1).toNatClampNeg = 1 from rfl, if_pos rfl]); exact ⟨by rw [ex]; exact .tail _ (.tail _ (.head _)), by exact hz.po hf⟩) (by omega)) (fun v hh13 H locs hq hP hS => ?_)
          exact hq.elim
        · replace c22 : 1 = 0 := (nI_eq (a := 1) (b := 0) (by omega) (by omega)).mp c22
          exfalso; omega
      · obtain rfl : kd = nI 2 := ekd.trans hk9
        have hk12 : (S (24 + bb)).1 = 1 ∨ (S (24 + bb)).1 = 2 := Or.inr hk9
        obtain rfl := eed
        refine lv_astore (lv' := [(7, .ref ab), (0, .ref x), (1, .int (nI bb)), (2, .int (nI 1)), (3, .long p2), (5, .long p3)]) hx hb dX6_build_15 hl (by decide) rfl (fun ls hl => ?_)
        refine lv_aload hx hb dX6_build_17 (lv_at hl 0 rfl) ?_
        refine q_getN C hP fbo rfl inX1 2 (by decide) (by decide +kernel) rfl dX6_build_19 ?_
        refine lv_if_ne (tgt := 38) hx hb dX6_build_22 (by decide) (fun c22 => ?_) (fun c22 => ?_)
        · replace c22 : ¬ 2 = 0 := fun zq => c22 ((nI_eq (a := 2) (b := 0) (by omega) (by omega)).mpr zq)
          refine lv_aload_n hx hb dX6_build_38 rfl (lv_at hl 1 rfl) ?_
          refine lv_aload hx hb dX6_build_39 (lv_at hl 0 rfl) ?_
          refine lv_iload_n hx hb dX6_build_41 rfl (lv_at hl 3 rfl) ?_
          refine lv_lload_n hx hb dX6_build_42 rfl (lv_at hl 4 rfl) ?_
          refine lv_lload hx hb dX6_build_43 (lv_at hl 5 rfl) ?_
          refine q_callV (rest := []) C (z_bh12 l D cy N0 h Im (eb bb) (zOk Ed eb S) mk rt (zSv (S (24 + bb))) (Xb bb) x sl bl kr vr (oCq W.1) (oMq W.1) (nI Ed) ab rb p2 p3 64 hRb hz.1.1 (hz.2.2.2.2.2.2.2.1 bb (by omega)) (fun z => z.2 bb (by omega) hk12 rfl) (by have := (hz.2.2.2.2.2.2.2.2.1 bb (by omega) hk12).1; have := hz.2.2.2.2.2.2.2.2.2; omega) (by rw [zSv_len]; exact h64 (24 + bb) (by omega) (hk12.elim Or.inl (fun z => Or.inr (Or.inl z)))) (by omega) (zSv_no hnob) fbo (by rw [← eab]; exact (fun y => ((hz.2.2.2.2.2.1 _ (Or.inr ⟨bb, by omega, y⟩)).2.2.2.2.2.1 bb (by omega)).1 rfl))) kX6_buildHashed g1027 g1029 rfl gp33 g1 hP hS hz.1.1 (by first | decide | omega) hl.1 rfl (by decide) (by first | decide | omega) dX6_build_45 (fun q ce E h' H1 locs1 hE hP hS hc1 hc2 hc3 => by obtain ⟨rfl, rfl⟩ := hE; exact q_out C hP hS hc1 hc2 hc3 (by have ex : (xs_build gr S (nI bb) (nI 1) p2 p3) = (3, S, 0) := (by unfold xs_build; rw [if_neg (by rw [ebb, ebw]; decide), ecb, if_neg hlt, if_neg hne0]; unfold xr_buildH; rw [show (nI 1).toNatClampNeg = 1 from rfl, if_pos rfl]); exact ⟨by rw [ex]; exact .tail _ (.tail _ (.head _)), by exact hz.po hf⟩) (by omega)) (fun v hh14 H locs hq hP hS => ?_)
          exact hq.elim
        · replace c22 : 2 = 0 := (nI_eq (a := 2) (b := 0) (by omega) (by omega)).mp c22
          exfalso; omega
  · refine lv_aload_n hx hb dX6_build_10 rfl (lv_at hl 0 rfl) ?_
    refine lv_iload_n hx hb dX6_build_11 rfl (lv_at hl 1 rfl) ?_
    obtain ⟨q9, hbl, hqb⟩ := hz.2.1.2.1
    obtain ⟨op, kd, ln, ed9, rt, fb, fbo, fbr, hbc⟩ := hz.2.2.2.1 bb (by omega)
    obtain ⟨ab, eab⟩ : ∃ z, bd bb = z := ⟨_, rfl⟩
    obtain ⟨rb, erb⟩ : ∃ z, br bb = z := ⟨_, rfl⟩
    rw [eab, erb] at fbo
    rw [erb] at fbr
    refine q_callV (rest := []) C (c_X6_openBuilder l D cy N0 h x sl bl kr vr mk (oCq W.1) (oMq W.1) (nI Ed) fs q9 bb ab rb op kd ln ed9 rt hz.1.1 hz.2.1.1 hbl (by omega) ⟨by rw [hqb bb (by omega), eab], fbo⟩) kX6_openBuilder g1015 g1017 rfl gp31 g1 hP hS hz.1.1 (by first | decide | omega) hl.1 rfl (by decide) (by first | decide | omega) dX6_build_12 (fun q ce E h' H1 locs1 hE hP hS hc1 hc2 hc3 => by obtain ⟨rfl, rfl, hop⟩ := hE; have hlt : (S (24 + bb)).1 < 0 := hbc.elim (fun z => by rw [z.1]; decide) (fun z => absurd (z.1.symm.trans hop) (by decide)); exact q_out C hP hS hc1 hc2 hc3 (by have ex : (xs_build gr S (nI bb) (nI 2) p2 p3) = (2, S, 0) := (by unfold xs_build; rw [if_neg (by rw [ebb, ebw]; decide), ecb, if_pos hlt]); exact ⟨by rw [ex]; exact .tail _ (.head _), by exact hz.po hf⟩) (by omega)) (fun v hh15 H locs hq hP hS => ?_)
    obtain ⟨rfl, rfl, hop⟩ := hq
    rcases hbc with ⟨-, z, -⟩ | ⟨rfl, ekd, eed, hbc⟩
    · exact absurd z hop
    rcases hbc with ⟨hk9, rfl, hrow, hnx⟩ | ⟨hk9, rfl, hRb⟩
    · have hlb := hLn (24 + bb) (by omega)
      obtain rfl : kd = nI 0 := ekd.trans hk9
      have hlt : ¬ (S (24 + bb)).1 < 0 := by rw [hk9]; decide
      obtain rfl := eed
      refine lv_astore (lv' := [(7, .ref ab), (0, .ref x), (1, .int (nI bb)), (2, .int (nI 2)), (3, .long p2), (5, .long p3)]) hx hb dX6_build_15 hl (by decide) rfl (fun ls hl => ?_)
      refine lv_aload hx hb dX6_build_17 (lv_at hl 0 rfl) ?_
      refine q_getN C hP fbo rfl inX1 2 (by decide) (by decide +kernel) rfl dX6_build_19 ?_
      refine lv_if_ne (tgt := 38) hx hb dX6_build_22 (by decide) (fun c22 => ?_) (fun c22 => ?_)
      · replace c22 : ¬ 0 = 0 := fun zq => c22 ((nI_eq (a := 0) (b := 0) (by omega) (by omega)).mpr zq)
        exfalso; omega
      · replace c22 : 0 = 0 := (nI_eq (a := 0) (b := 0) (by omega) (by omega)).mp c22
        refine lv_aload_n hx hb dX6_build_25 rfl (lv_at hl 1 rfl) ?_
        refine lv_aload hx hb dX6_build_26 (lv_at hl 0 rfl) ?_
        refine lv_iload_n hx hb dX6_build_28 rfl (lv_at hl 3 rfl) ?_
        refine lv_lload_n hx hb dX6_build_29 rfl (lv_at hl 4 rfl) ?_
        refine lv_lload hx hb dX6_build_30 (lv_at hl 5 rfl) ?_
        refine q_callV (rest := []) C (z_bseq2 l D cy N0 h x ab rb (nI 0) (nI (eb bb)) (va_rf rt) fb (S (24 + bb)).2.1.length p2 p3 fbo fbr (by omega)) kX6_buildSequence g1020 g1022 rfl gp32 g1 hP hS hz.1.1 (by first | decide | omega) hl.1 rfl (by decide) (by first | decide | omega) dX6_build_32 (fun q ce E h' H1 locs1 hE hP hS hc1 hc2 hc3 => by obtain ⟨rfl, rfl, hn9⟩ := hE; exact q_out C hP hS hc1 hc2 hc3 (by have ex : (xs_build gr S (nI bb) (nI 2) p2 p3) = (4, S, 0) := (by unfold xs_build; rw [if_neg (by rw [ebb, ebw]; decide), ecb, if_neg hlt, if_pos hk9]; unfold xr_buildS; rw [show (nI 2).toNatClampNeg = 2 from rfl, if_neg (by decide : ¬ 2 = 1), if_pos rfl, if_neg hn9]); exact ⟨by rw [ex]; exact .tail _ (.tail _ (.tail _ (.head _))), by exact hz.po hf⟩) (by omega)) (fun v hh16 H locs hq hP hS => ?_)
        have nbr : ab ≠ rb := fun z => by rw [z, fbr] at fbo; cases fbo
        obtain ⟨rfl, hb7, rfl⟩ := hq
        obtain ⟨h8, eh8⟩ : ∃ z, qs h ab (.inr (1, [.ref rb, .int 1, .int (nI 0), .int (nI ((S (24 + bb)).2.1.length - 1)), va_rf rt, .int (nI (eb bb))])) = z := ⟨_, rfl⟩
        rw [eh8] at hP
        have fb8 : h8 ab = some (.inr (1, [.ref rb, .int 1, .int (nI 0), .int (nI ((S (24 + bb)).2.1.length - 1)), va_rf rt, .int (nI (eb bb))])) := by rw [← eh8]; exact qs_self
        have fr8 : h8 rb = some (.inl (cy 1, 1000, .inr (.inl (fb)))) := by rw [← eh8]; exact (qs_ne nbr.symm).trans fbr
        have kp8 : ∀ z o, h z = some o → z ≠ bd bb → z ≠ br bb → h8 z = some o := fun z o e n1 n2 => by rw [eab] at n1; rw [erb] at n2; rw [← eh8]; exact (qs_ne n1).trans e
        have dm8 : ∀ z, h8 z = none → h z = none := fun z y => by rw [← eh8] at y; exact qs_none y
        have ln8 : (((S (24 + bb)).1, (S (24 + bb)).2.1.take ((S (24 + bb)).2.1.length - 1), (S (24 + bb)).2.2)).2.1.length = (S (24 + bb)).2.1.length - 1 := by show ((S (24 + bb)).2.1.take ((S (24 + bb)).2.1.length - 1)).length = _; rw [List.length_take]; omega
        have rw8 := zbr2 (n := (S (24 + bb)).2.1.length - 1) (f := fb) hrow
        have hz8 := hz.bob (h' := h8) hV (b := bb) (s' := ((S (24 + bb)).1, (S (24 + bb)).2.1.take ((S (24 + bb)).2.1.length - 1), (S (24 + bb)).2.2)) (by omega) rfl kp8 ⟨1, nI 0, _, nI (eb bb), rt, _, by rw [eab, erb]; exact fb8, by rw [erb]; exact fr8, Or.inr ⟨rfl, hk9.symm, rfl, Or.inl ⟨hk9, by rw [ln8], rw8, hnx⟩⟩⟩
        have hpo := hz8.bobp (h := h) (by omega) kp8 dm8
        refine lv_goto (tgt := 48) hx hb dX6_build_35 (by decide) ?_
        refine lv_aload hx hb dX6_build_48 (lv_at hl 0 rfl) ?_
        refine q_callVN (host := RX6) (rest := []) C (z_bamount0 l D cy N0 h8 ab (.ref rb) 1 (nI ((S (24 + bb)).2.1.length - 1)) (nI (eb bb)) 0 rt fb8) kX1_amount (by decide +kernel) g1049 rfl gp34 hP hS fb8 (by first | decide | omega) hl.1 rfl (by decide) (by first | decide | omega) dX6_build_50 (fun v hh17 H locs hq hP hS => ?_)
        obtain ⟨rfl, rfl⟩ := hq
        have ex : (xs_build gr S (nI bb) (nI 2) p2 p3) = (0, qU S (24 + bb) ((S (24 + bb)).1, (S (24 + bb)).2.1.take ((S (24 + bb)).2.1.length - 1), (S (24 + bb)).2.2), nI ((S (24 + bb)).2.1.length - 1)) := by unfold xs_build; rw [if_neg (by rw [ebb, ebw]; decide), ecb, if_neg hlt, if_pos hk9]; unfold xr_buildS; rw [show (nI 2).toNatClampNeg = 2 from rfl, if_neg (by decide : ¬ 2 = 1), if_pos rfl, if_pos hb7]
        exact q_iret C hP hS ⟨by rw [ex], by first | (rw [ex]; done) | (rw [ex]), by rw [ex]; exact hpo⟩ (by omega) dX6_build_53
    · have hlb := hLn (24 + bb) (by omega)
      have hlt : ¬ (S (24 + bb)).1 < 0 := by rcases hk9 with z | z <;> rw [z] <;> decide
      have hne0 : ¬ (S (24 + bb)).1 = 0 := by rcases hk9 with z | z <;> rw [z] <;> decide
      have hnob : qNo (S (24 + bb)).2.1 := (hI (24 + bb) (by omega)).2.1 (hk9.elim Or.inl (fun z => Or.inr (Or.inl z)))
      rcases hk9 with hk9 | hk9
      · obtain rfl : kd = nI 1 := ekd.trans hk9
        have hk12 : (S (24 + bb)).1 = 1 ∨ (S (24 + bb)).1 = 2 := Or.inl hk9
        obtain rfl := eed
        refine lv_astore (lv' := [(7, .ref ab), (0, .ref x), (1, .int (nI bb)), (2, .int (nI 2)), (3, .long p2), (5, .long p3)]) hx hb dX6_build_15 hl (by decide) rfl (fun ls hl => ?_)
        refine lv_aload hx hb dX6_build_17 (lv_at hl 0 rfl) ?_
        refine q_getN C hP fbo rfl inX1 2 (by decide) (by decide +kernel) rfl dX6_build_19 ?_
        refine lv_if_ne (tgt := 38) hx hb dX6_build_22 (by decide) (fun c22 => ?_) (fun c22 => ?_)
        · replace c22 : ¬ 1 = 0 := fun zq => c22 ((nI_eq (a := 1) (b := 0) (by omega) (by omega)).mpr zq)
          refine lv_aload_n hx hb dX6_build_38 rfl (lv_at hl 1 rfl) ?_
          refine lv_aload hx hb dX6_build_39 (lv_at hl 0 rfl) ?_
          refine lv_iload_n hx hb dX6_build_41 rfl (lv_at hl 3 rfl) ?_
          refine lv_lload_n hx hb dX6_build_42 rfl (lv_at hl 4 rfl) ?_
          refine lv_lload hx hb dX6_build_43 (lv_at hl 5 rfl) ?_
          refine q_callV (rest := []) C (z_bh21 l D cy N0 h Im (eb bb) (zOk Ed eb S) mk rt (zSv (S (24 + bb))) (Xb bb) x sl bl kr vr (oCq W.1) (oMq W.1) (nI Ed) ab rb p2 p3 64 hRb hz.1.1 (hz.2.2.2.2.2.2.2.1 bb (by omega)) (fun z => z.2 bb (by omega) hk12 rfl) (by have := (hz.2.2.2.2.2.2.2.2.1 bb (by omega) hk12).1; have := hz.2.2.2.2.2.2.2.2.2; omega) (by rw [zSv_len]; exact h64 (24 + bb) (by omega) (hk12.elim Or.inl (fun z => Or.inr (Or.inl z)))) (by omega) (zSv_no hnob) fbo (by rw [← eab]; exact (fun y => ((hz.2.2.2.2.2.1 _ (Or.inr ⟨bb, by omega, y⟩)).2.2.2.2.2.1 bb (by omega)).1 rfl))) kX6_buildHashed g1027 g1029 rfl gp33 g1 hP hS hz.1.1 (by first | decide | omega) hl.1 rfl (by decide) (by first | decide | omega) dX6_build_45 (fun q ce E h' H1 locs1 hE hP hS hc1 hc2 hc3 => hE.elim) (fun v hh18 H locs hq hP hS => ?_)
          obtain ⟨rfl, h1, x8, X8, Im8, rfl, hR8, hE8, hC8⟩ := hq
          rw [← zSv_out (s := (S (24 + bb)))] at hR8
          have hpo := hz.bed (b := bb) (rb := rb) (kd := nI 1) (ln := 0) hV (s' := ((S (24 + bb)).1, (S (24 + bb)).2.1.filter (fun p => decide (p.1 ≠ p2)), (S (24 + bb)).2.2)) (f := fb) (by omega) rfl hk12 (by rw [eab, erb]; exact fbo) (by rw [erb]; exact fbr) hk9.symm rfl hR8 hE8 hC8
          rw [eab, erb] at hpo
          have fi8 : qFi (qs h1 ab (.inr (1, [.ref rb, .int 1, .int (nI 1), .int (nI 0), va_rf x8, .int (nI (eb bb))]))) 3 4 x8 (nI (zSv ((S (24 + bb)).1, (S (24 + bb)).2.1.filter (fun p => decide (p.1 ≠ p2)), (S (24 + bb)).2.2)).length) := zfis hR8.fi (hC8.1 _ _ fbo (by rw [← eab]; exact (fun y => ((hz.2.2.2.2.2.1 _ (Or.inr ⟨bb, by omega, y⟩)).2.2.2.2.2.1 bb (by omega)).1 rfl)))
          rw [zSv_len] at fi8
          obtain ⟨h8, eh8⟩ : ∃ z, qs h1 ab (.inr (1, [.ref rb, .int 1, .int (nI 1), .int (nI 0), va_rf x8, .int (nI (eb bb))])) = z := ⟨_, rfl⟩
          rw [eh8] at hP hpo fi8
          have fb8 : h8 ab = some (.inr (1, [.ref rb, .int 1, .int (nI 1), .int (nI 0), va_rf x8, .int (nI (eb bb))])) := by rw [← eh8]; exact qs_self
          refine lv_aload hx hb dX6_build_48 (lv_at hl 0 rfl) ?_
          refine q_callVN (host := RX6) (rest := []) C (z_bamount1 l D cy N0 h8 ab (.ref rb) 1 (nI 0) (nI (eb bb)) (nI ((((S (24 + bb)).1, (S (24 + bb)).2.1.filter (fun p => decide (p.1 ≠ p2)), (S (24 + bb)).2.2)).2.1.length)) x8 fb8 fi8) kX1_amount (by decide +kernel) g1049 rfl gp34 hP hS fb8 (by first | decide | omega) hl.1 rfl (by decide) (by first | decide | omega) dX6_build_50 (fun v hh19 H locs hq hP hS => ?_)
          obtain ⟨rfl, rfl⟩ := hq
          have ex : (xs_build gr S (nI bb) (nI 2) p2 p3) = (0, qU S (24 + bb) ((S (24 + bb)).1, (S (24 + bb)).2.1.filter (fun p => decide (p.1 ≠ p2)), (S (24 + bb)).2.2), nI ((((S (24 + bb)).1, (S (24 + bb)).2.1.filter (fun p => decide (p.1 ≠ p2)), (S (24 + bb)).2.2)).2.1.length)) := by unfold xs_build; rw [if_neg (by rw [ebb, ebw]; decide), ecb, if_neg hlt, if_neg hne0]; unfold xr_buildH; rw [show (nI 2).toNatClampNeg = 2 from rfl, if_neg (by decide : ¬ 2 = 1), if_neg (by decide : ¬ 2 = 0)]
          exact q_iret C hP hS ⟨by rw [ex], by first | (rw [ex]; done) | (rw [ex]), by rw [ex]; exact hpo⟩ (by omega) dX6_build_53
        · replace c22 : 1 = 0 := (nI_eq (a := 1) (b := 0) (by omega) (by omega)).mp c22
          exfalso; omega
      · obtain rfl : kd = nI 2 := ekd.trans hk9
        have hk12 : (S (24 + bb)).1 = 1 ∨ (S (24 + bb)).1 = 2 := Or.inr hk9
        obtain rfl := eed
        refine lv_astore (lv' := [(7, .ref ab), (0, .ref x), (1, .int (nI bb)), (2, .int (nI 2)), (3, .long p2), (5, .long p3)]) hx hb dX6_build_15 hl (by decide) rfl (fun ls hl => ?_)
        refine lv_aload hx hb dX6_build_17 (lv_at hl 0 rfl) ?_
        refine q_getN C hP fbo rfl inX1 2 (by decide) (by decide +kernel) rfl dX6_build_19 ?_
        refine lv_if_ne (tgt := 38) hx hb dX6_build_22 (by decide) (fun c22 => ?_) (fun c22 => ?_)
        · replace c22 : ¬ 2 = 0 := fun zq => c22 ((nI_eq (a := 2) (b := 0) (by omega) (by omega)).mpr zq)
          refine lv_aload_n hx hb dX6_build_38 rfl (lv_at hl 1 rfl) ?_
          refine lv_aload hx hb dX6_build_39 (lv_at hl 0 rfl) ?_
          refine lv_iload_n hx hb dX6_build_41 rfl (lv_at hl 3 rfl) ?_
          refine lv_lload_n hx hb dX6_build_42 rfl (lv_at hl 4 rfl) ?_
          refine lv_lload hx hb dX6_build_43 (lv_at hl 5 rfl) ?_
          refine q_callV (rest := []) C (z_bh22 l D cy N0 h Im (eb bb) (zOk Ed eb S) mk rt (zSv (S (24 + bb))) (Xb bb) x sl bl kr vr (oCq W.1) (oMq W.1) (nI Ed) ab rb p2 p3 64 hRb hz.1.1 (hz.2.2.2.2.2.2.2.1 bb (by omega)) (fun z => z.2 bb (by omega) hk12 rfl) (by have := (hz.2.2.2.2.2.2.2.2.1 bb (by omega) hk12).1; have := hz.2.2.2.2.2.2.2.2.2; omega) (by rw [zSv_len]; exact h64 (24 + bb) (by omega) (hk12.elim Or.inl (fun z => Or.inr (Or.inl z)))) (by omega) (zSv_no hnob) fbo (by rw [← eab]; exact (fun y => ((hz.2.2.2.2.2.1 _ (Or.inr ⟨bb, by omega, y⟩)).2.2.2.2.2.1 bb (by omega)).1 rfl))) kX6_buildHashed g1027 g1029 rfl gp33 g1 hP hS hz.1.1 (by first | decide | omega) hl.1 rfl (by decide) (by first | decide | omega) dX6_build_45 (fun q ce E h' H1 locs1 hE hP hS hc1 hc2 hc3 => hE.elim) (fun v hh20 H locs hq hP hS => ?_)
          obtain ⟨rfl, h1, x8, X8, Im8, rfl, hR8, hE8, hC8⟩ := hq
          rw [← zSv_out (s := (S (24 + bb)))] at hR8
          have hpo := hz.bed (b := bb) (rb := rb) (kd := nI 2) (ln := 0) hV (s' := ((S (24 + bb)).1, (S (24 + bb)).2.1.filter (fun p => decide (p.1 ≠ p2)), (S (24 + bb)).2.2)) (f := fb) (by omega) rfl hk12 (by rw [eab, erb]; exact fbo) (by rw [erb]; exact fbr) hk9.symm rfl hR8 hE8 hC8
          rw [eab, erb] at hpo
          have fi8 : qFi (qs h1 ab (.inr (1, [.ref rb, .int 1, .int (nI 2), .int (nI 0), va_rf x8, .int (nI (eb bb))]))) 3 4 x8 (nI (zSv ((S (24 + bb)).1, (S (24 + bb)).2.1.filter (fun p => decide (p.1 ≠ p2)), (S (24 + bb)).2.2)).length) := zfis hR8.fi (hC8.1 _ _ fbo (by rw [← eab]; exact (fun y => ((hz.2.2.2.2.2.1 _ (Or.inr ⟨bb, by omega, y⟩)).2.2.2.2.2.1 bb (by omega)).1 rfl)))
          rw [zSv_len] at fi8
          obtain ⟨h8, eh8⟩ : ∃ z, qs h1 ab (.inr (1, [.ref rb, .int 1, .int (nI 2), .int (nI 0), va_rf x8, .int (nI (eb bb))])) = z := ⟨_, rfl⟩
          rw [eh8] at hP hpo fi8
          have fb8 : h8 ab = some (.inr (1, [.ref rb, .int 1, .int (nI 2), .int (nI 0), va_rf x8, .int (nI (eb bb))])) := by rw [← eh8]; exact qs_self
          refine lv_aload hx hb dX6_build_48 (lv_at hl 0 rfl) ?_
          refine q_callVN (host := RX6) (rest := []) C (z_bamount2 l D cy N0 h8 ab (.ref rb) 1 (nI 0) (nI (eb bb)) (nI ((((S (24 + bb)).1, (S (24 + bb)).2.1.filter (fun p => decide (p.1 ≠ p2)), (S (24 + bb)).2.2)).2.1.length)) x8 fb8 fi8) kX1_amount (by decide +kernel) g1049 rfl gp34 hP hS fb8 (by first | decide | omega) hl.1 rfl (by decide) (by first | decide | omega) dX6_build_50 (fun v hh21 H locs hq hP hS => ?_)
          obtain ⟨rfl, rfl⟩ := hq
          have ex : (xs_build gr S (nI bb) (nI 2) p2 p3) = (0, qU S (24 + bb) ((S (24 + bb)).1, (S (24 + bb)).2.1.filter (fun p => decide (p.1 ≠ p2)), (S (24 + bb)).2.2), nI ((((S (24 + bb)).1, (S (24 + bb)).2.1.filter (fun p => decide (p.1 ≠ p2)), (S (24 + bb)).2.2)).2.1.length)) := by unfold xs_build; rw [if_neg (by rw [ebb, ebw]; decide), ecb, if_neg hlt, if_neg hne0]; unfold xr_buildH; rw [show (nI 2).toNatClampNeg = 2 from rfl, if_neg (by decide : ¬ 2 = 1), if_neg (by decide : ¬ 2 = 0)]
          exact q_iret C hP hS ⟨by rw [ex], by first | (rw [ex]; done) | (rw [ex]), by rw [ex]; exact hpo⟩ (by omega) dX6_build_53
        · replace c22 : 2 = 0 := (nI_eq (a := 2) (b := 0) (by omega) (by omega)).mp c22
          exfalso; omega
