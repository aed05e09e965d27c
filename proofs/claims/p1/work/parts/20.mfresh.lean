theorem qRo.re8 {h : qH} {f : Nat → Option Nat} {N y : Nat} {fs : List Value} {o o' : va_E} (g : qRo (qs h y o) f N) (hy : (qs h y o) y = some (.inr (8, fs))) : qRo (qs h y o') f N := fun i hi => by
  obtain ⟨r, k, v, n, st, dp, rw_, e1, e2⟩ := g i hi
  exact ⟨r, k, v, n, st, dp, rw_, e1, qs_re (fun q => by subst q; rw [hy] at e2; cases e2) e2⟩
theorem dX8_copy__0 : decode cX8_copy_ 0 = .ok (.aload_n 0, 1) := by decide +kernel
theorem dX8_copy__1 : decode cX8_copy_ 1 = .ok (.iload_n 1, 1) := by decide +kernel
theorem dX8_copy__2 : decode cX8_copy_ 2 = .ok (.invokestatic 96, 3) := by decide +kernel
theorem dX8_copy__5 : decode cX8_copy_ 5 = .ok (.ifCond .eq 14, 3) := by decide +kernel
theorem dX8_copy__8 : decode cX8_copy_ 8 = .ok (.iload_n 2, 1) := by decide +kernel
theorem dX8_copy__9 : decode cX8_copy_ 9 = .ok (.invokestatic 96, 3) := by decide +kernel
theorem dX8_copy__12 : decode cX8_copy_ 12 = .ok (.ifCond .eq 7, 3) := by decide +kernel
theorem dX8_copy__15 : decode cX8_copy_ 15 = .ok (.iconst 1, 1) := by decide +kernel
theorem dX8_copy__16 : decode cX8_copy_ 16 = .ok (.goto 4, 3) := by decide +kernel
theorem dX8_copy__19 : decode cX8_copy_ 19 = .ok (.iconst 0, 1) := by decide +kernel
theorem dX8_copy__20 : decode cX8_copy_ 20 = .ok (.iconst 1, 1) := by decide +kernel
theorem dX8_copy__21 : decode cX8_copy_ 21 = .ok (.invokevirtual 100, 3) := by decide +kernel
theorem dX8_copy__24 : decode cX8_copy_ 24 = .ok (.ifCond .eq 28, 3) := by decide +kernel
theorem dX8_copy__27 : decode cX8_copy_ 27 = .ok (.aload_n 0, 1) := by decide +kernel
theorem dX8_copy__28 : decode cX8_copy_ 28 = .ok (.aload_n 0, 1) := by decide +kernel
theorem dX8_copy__29 : decode cX8_copy_ 29 = .ok (.getfield 9, 3) := by decide +kernel
theorem dX8_copy__32 : decode cX8_copy_ 32 = .ok (.iload_n 2, 1) := by decide +kernel
theorem dX8_copy__33 : decode cX8_copy_ 33 = .ok (.aaload, 1) := by decide +kernel
theorem dX8_copy__34 : decode cX8_copy_ 34 = .ok (.getfield 75, 3) := by decide +kernel
theorem dX8_copy__37 : decode cX8_copy_ 37 = .ok (.ifCond .lt 7, 3) := by decide +kernel
theorem dX8_copy__44 : decode cX8_copy_ 44 = .ok (.iconst 0, 1) := by decide +kernel
theorem dX8_copy__45 : decode cX8_copy_ 45 = .ok (.iconst 2, 1) := by decide +kernel
theorem dX8_copy__46 : decode cX8_copy_ 46 = .ok (.invokevirtual 100, 3) := by decide +kernel
theorem dX8_copy__49 : decode cX8_copy_ 49 = .ok (.ifCond .ne 4, 3) := by decide +kernel
theorem dX8_copy__52 : decode cX8_copy_ 52 = .ok (.return_, 1) := by decide +kernel
set_option maxRecDepth 100000 in
set_option maxHeartbeats 4000000 in
theorem c_X8_copy__0 (l : Launch) (D : va_G) (cy : Nat → ClassId) (N0 : Nat) (h : qH) (y ms mb mw od pt fi re rc rs so ot cn la ro : Nat) (gr cd ca mv ct fa cs ce rn : Int32) (f g : Nat → Option Nat) (p0 : Int32) (p1 : Int32) (hY : h y = some (.inr (8, [.ref ms, .ref mb, .ref mw, .int gr, .int cd, .int ca, .int mv, .ref od, .ref pt, .int ct, .int fa, .ref fi, .ref re, .int cs, .ref rc, .ref rs, .ref so, .ref ot, .ref cn, .ref la, .int ce, .ref ro, .int rn]))) (hms : h ms = some (.inl (cy 5, 24, .inr (.inr (.inr (.inr f)))))) (hmb : h mb = some (.inl (cy 5, 4, .inr (.inr (.inr (.inr g)))))) (hR : qRo h f 24) (hRB : qRo h g 4) : qC l D cy N0 yX8_copy_ cX8_copy_ 3 none 1 60 0 0 [.ref y, .int p0, .int p1] h (fun v h' => ∃ cd', h' = qs h y (.inr (8, [.ref ms, .ref mb, .ref mw, .int gr, .int cd', .int ca, .int mv, .ref od, .ref pt, .int ct, .int fa, .ref fi, .ref re, .int cs, .ref rc, .ref rs, .ref so, .ref ot, .ref cn, .ref la, .int ce, .ref ro, .int rn])) ∧ v = none ∧ ((¬ (qSl p0 ∧ qSl p1) ∧ cd' = 1) ∨ ((qSl p0 ∧ qSl p1) ∧ cd' = 2))) (fun E h' => False) := by
  refine q_ofW (by decide) (by exact Nat.le_of_ble_eq_true rfl) ?_
  intro p e s m below meth c ls C hP hl
  have hx := C.1
  have hb := C.2.1
  have hS : va_S (qA N0) s.heap s.heap [] := va_S.rf
  have hl : lv_has ls 3 [(0, .ref y), (1, .int p0), (2, .int p1)] := hl
  refine lv_aload_n hx hb dX8_copy__0 rfl (lv_at hl 0 rfl) ?_
  refine lv_iload_n hx hb dX8_copy__1 rfl (lv_at hl 1 rfl) ?_
  refine q_callS (rest := [.ref y]) C (c_X8_isSlot l D cy N0 (h) p0) kX8_isSlot g1246 g1247 hP hS (by first | decide | omega) hl.1 rfl (by simp [q_catrf, q_cati, q_catl, q_cata, q_catn]) (by first | decide | omega) dX8_copy__2 (fun q ce E h' H1 locs1 hE => hE.elim) (fun v hh1 H locs hq hP hS => ?_)
  obtain ⟨rfl, hq⟩ := hq
  rcases hq with ⟨rfl, gg0⟩ | ⟨rfl, gg0⟩
  · refine lv_if_eq (tgt := 19) hx hb dX8_copy__5 (by decide) (fun c => absurd c (by decide)) (fun _ => ?_)
    refine lv_iload_n hx hb dX8_copy__8 rfl (lv_at hl 2 rfl) ?_
    refine q_callS (rest := [.ref y]) C (c_X8_isSlot l D cy N0 (h) p1) kX8_isSlot g1246 g1247 hP hS (by first | decide | omega) hl.1 rfl (by simp [q_catrf, q_cati, q_catl, q_cata, q_catn]) (by first | decide | omega) dX8_copy__9 (fun q ce E h' H1 locs1 hE => hE.elim) (fun v hh2 H locs hq hP hS => ?_)
    obtain ⟨rfl, hq⟩ := hq
    rcases hq with ⟨rfl, gg1⟩ | ⟨rfl, gg1⟩
    · refine lv_if_eq (tgt := 19) hx hb dX8_copy__12 (by decide) (fun c => absurd c (by decide)) (fun _ => ?_)
      refine lv_iconst (v := 1) hx hb dX8_copy__15 (by decide) ?_
      refine lv_goto (tgt := 20) hx hb dX8_copy__16 (by decide) ?_
      refine lv_iconst (v := 1) hx hb dX8_copy__20 (by decide) ?_
      have hY0 := hY
      refine q_callV (rest := []) C (c_X8_good1 l D cy N0 (h) y ms mb mw od pt fi re rc rs so ot cn la ro gr cd ca mv ct fa cs ce rn 1 hY) kX8_good g1249 g1251 rfl gp41 g4 hP hS hY (by first | decide | omega) hl.1 rfl (by decide) (by first | decide | omega) dX8_copy__21 (fun q ce E h' H1 locs1 hE => hE.elim) (fun v hh3 H locs hq hP hS => ?_)
      obtain ⟨rfl, rfl⟩ := hq
      replace hR := hR.set8 (o := (.inr (8, [.ref ms, .ref mb, .ref mw, .int gr, .int 0, .int ca, .int mv, .ref od, .ref pt, .int ct, .int fa, .ref fi, .ref re, .int cs, .ref rc, .ref rs, .ref so, .ref ot, .ref cn, .ref la, .int ce, .ref ro, .int rn]))) hY0
      replace hRB := hRB.set8 (o := (.inr (8, [.ref ms, .ref mb, .ref mw, .int gr, .int 0, .int ca, .int mv, .ref od, .ref pt, .int ct, .int fa, .ref fi, .ref re, .int cs, .ref rc, .ref rs, .ref so, .ref ot, .ref cn, .ref la, .int ce, .ref ro, .int rn]))) hY0
      replace hms := (qs_ne (h := h) (a := y) (o := (.inr (8, [.ref ms, .ref mb, .ref mw, .int gr, .int 0, .int ca, .int mv, .ref od, .ref pt, .int ct, .int fa, .ref fi, .ref re, .int cs, .ref rc, .ref rs, .ref so, .ref ot, .ref cn, .ref la, .int ce, .ref ro, .int rn]))) (fun q => by subst q; have := hms.symm.trans hY; first | cases this | simp at this)).trans hms
      replace hmb := (qs_ne (h := h) (a := y) (o := (.inr (8, [.ref ms, .ref mb, .ref mw, .int gr, .int 0, .int ca, .int mv, .ref od, .ref pt, .int ct, .int fa, .ref fi, .ref re, .int cs, .ref rc, .ref rs, .ref so, .ref ot, .ref cn, .ref la, .int ce, .ref ro, .int rn]))) (fun q => by subst q; have := hmb.symm.trans hY; first | cases this | simp at this)).trans hmb
      replace hY : (qs h y (.inr (8, [.ref ms, .ref mb, .ref mw, .int gr, .int 0, .int ca, .int mv, .ref od, .ref pt, .int ct, .int fa, .ref fi, .ref re, .int cs, .ref rc, .ref rs, .ref so, .ref ot, .ref cn, .ref la, .int ce, .ref ro, .int rn]))) y = some (.inr (8, [.ref ms, .ref mb, .ref mw, .int gr, .int 0, .int ca, .int mv, .ref od, .ref pt, .int ct, .int fa, .ref fi, .ref re, .int cs, .ref rc, .ref rs, .ref so, .ref ot, .ref cn, .ref la, .int ce, .ref ro, .int rn])) := qs_self
      refine lv_if_eq (tgt := 52) hx hb dX8_copy__24 (by decide) (fun c => absurd c (by decide)) (fun _ => ?_)
      refine lv_aload_n hx hb dX8_copy__27 rfl (lv_at hl 0 rfl) ?_
      refine lv_aload_n hx hb dX8_copy__28 rfl (lv_at hl 0 rfl) ?_
      refine q_get C hP hY rfl inX8 0 (by decide) g1167 rfl dX8_copy__29 ?_
      refine lv_iload_n hx hb dX8_copy__32 rfl (lv_at hl 2 rfl) ?_
      obtain ⟨i1, hi1, ei1⟩ := gg1.of
      subst ei1
      refine q_aaldN C hP hms rfl (by omega) (by omega) dX8_copy__33 ?_
      obtain ⟨r1, kr1, vr1, nr1, sr1, dr1, wr1, er1, or1⟩ := hR i1 (by omega)
      rw [er1]
      refine q_get C hP or1 rfl inX7 2 (by decide) g1142 rfl dX8_copy__34 ?_
      refine lv_if_lt (tgt := 44) hx hb dX8_copy__37 (by decide) (fun _ => ?_) (fun c => absurd (by decide) c)
      refine lv_iconst (v := 0) hx hb dX8_copy__44 (by decide) ?_
      refine lv_iconst (v := 2) hx hb dX8_copy__45 (by decide) ?_
      have hY0 := hY
      refine q_callV (rest := []) C (c_X8_good0 l D cy N0 (qs h y (.inr (8, [.ref ms, .ref mb, .ref mw, .int gr, .int 0, .int ca, .int mv, .ref od, .ref pt, .int ct, .int fa, .ref fi, .ref re, .int cs, .ref rc, .ref rs, .ref so, .ref ot, .ref cn, .ref la, .int ce, .ref ro, .int rn]))) y ms mb mw od pt fi re rc rs so ot cn la ro gr 0 ca mv ct fa cs ce rn 2 hY) kX8_good g1249 g1251 rfl gp41 g4 hP hS hY (by first | decide | omega) hl.1 rfl (by decide) (by first | decide | omega) dX8_copy__46 (fun q ce E h' H1 locs1 hE => hE.elim) (fun v hh4 H locs hq hP hS => ?_)
      obtain ⟨rfl, rfl⟩ := hq
      replace hR := hR.re8 (o' := (.inr (8, [.ref ms, .ref mb, .ref mw, .int gr, .int 2, .int ca, .int mv, .ref od, .ref pt, .int ct, .int fa, .ref fi, .ref re, .int cs, .ref rc, .ref rs, .ref so, .ref ot, .ref cn, .ref la, .int ce, .ref ro, .int rn]))) hY0
      replace hRB := hRB.re8 (o' := (.inr (8, [.ref ms, .ref mb, .ref mw, .int gr, .int 2, .int ca, .int mv, .ref od, .ref pt, .int ct, .int fa, .ref fi, .ref re, .int cs, .ref rc, .ref rs, .ref so, .ref ot, .ref cn, .ref la, .int ce, .ref ro, .int rn]))) hY0
      rw [qs_qs] at hP
      replace hms := qs_re (o' := (.inr (8, [.ref ms, .ref mb, .ref mw, .int gr, .int 2, .int ca, .int mv, .ref od, .ref pt, .int ct, .int fa, .ref fi, .ref re, .int cs, .ref rc, .ref rs, .ref so, .ref ot, .ref cn, .ref la, .int ce, .ref ro, .int rn]))) (fun q => by subst q; have := hms.symm.trans hY; first | cases this | simp at this) hms
      replace hmb := qs_re (o' := (.inr (8, [.ref ms, .ref mb, .ref mw, .int gr, .int 2, .int ca, .int mv, .ref od, .ref pt, .int ct, .int fa, .ref fi, .ref re, .int cs, .ref rc, .ref rs, .ref so, .ref ot, .ref cn, .ref la, .int ce, .ref ro, .int rn]))) (fun q => by subst q; have := hmb.symm.trans hY; first | cases this | simp at this) hmb
      replace or1 := qs_re (o' := (.inr (8, [.ref ms, .ref mb, .ref mw, .int gr, .int 2, .int ca, .int mv, .ref od, .ref pt, .int ct, .int fa, .ref fi, .ref re, .int cs, .ref rc, .ref rs, .ref so, .ref ot, .ref cn, .ref la, .int ce, .ref ro, .int rn]))) (fun q => by subst q; have := or1.symm.trans hY; first | cases this | simp at this) or1
      replace hY : (qs h y (.inr (8, [.ref ms, .ref mb, .ref mw, .int gr, .int 2, .int ca, .int mv, .ref od, .ref pt, .int ct, .int fa, .ref fi, .ref re, .int cs, .ref rc, .ref rs, .ref so, .ref ot, .ref cn, .ref la, .int ce, .ref ro, .int rn]))) y = some (.inr (8, [.ref ms, .ref mb, .ref mw, .int gr, .int 2, .int ca, .int mv, .ref od, .ref pt, .int ct, .int fa, .ref fi, .ref re, .int cs, .ref rc, .ref rs, .ref so, .ref ot, .ref cn, .ref la, .int ce, .ref ro, .int rn])) := qs_self
      refine lv_if_ne (tgt := 53) hx hb dX8_copy__49 (by decide) (fun c => absurd rfl c) (fun _ => ?_)
      exact q_vret C hP hS ⟨2, rfl, ⟨rfl, Or.inr ⟨⟨gg0, gg1⟩, rfl⟩⟩⟩ (by omega) dX8_copy__52
    · refine lv_if_eq (tgt := 19) hx hb dX8_copy__12 (by decide) (fun _ => ?_) (fun c => absurd (by decide) c)
      refine lv_iconst (v := 0) hx hb dX8_copy__19 (by decide) ?_
      refine lv_iconst (v := 1) hx hb dX8_copy__20 (by decide) ?_
      have hY0 := hY
      refine q_callV (rest := []) C (c_X8_good0 l D cy N0 (h) y ms mb mw od pt fi re rc rs so ot cn la ro gr cd ca mv ct fa cs ce rn 1 hY) kX8_good g1249 g1251 rfl gp41 g4 hP hS hY (by first | decide | omega) hl.1 rfl (by decide) (by first | decide | omega) dX8_copy__21 (fun q ce E h' H1 locs1 hE => hE.elim) (fun v hh5 H locs hq hP hS => ?_)
      obtain ⟨rfl, rfl⟩ := hq
      replace hR := hR.set8 (o := (.inr (8, [.ref ms, .ref mb, .ref mw, .int gr, .int 1, .int ca, .int mv, .ref od, .ref pt, .int ct, .int fa, .ref fi, .ref re, .int cs, .ref rc, .ref rs, .ref so, .ref ot, .ref cn, .ref la, .int ce, .ref ro, .int rn]))) hY0
      replace hRB := hRB.set8 (o := (.inr (8, [.ref ms, .ref mb, .ref mw, .int gr, .int 1, .int ca, .int mv, .ref od, .ref pt, .int ct, .int fa, .ref fi, .ref re, .int cs, .ref rc, .ref rs, .ref so, .ref ot, .ref cn, .ref la, .int ce, .ref ro, .int rn]))) hY0
      replace hms := (qs_ne (h := h) (a := y) (o := (.inr (8, [.ref ms, .ref mb, .ref mw, .int gr, .int 1, .int ca, .int mv, .ref od, .ref pt, .int ct, .int fa, .ref fi, .ref re, .int cs, .ref rc, .ref rs, .ref so, .ref ot, .ref cn, .ref la, .int ce, .ref ro, .int rn]))) (fun q => by subst q; have := hms.symm.trans hY; first | cases this | simp at this)).trans hms
      replace hmb := (qs_ne (h := h) (a := y) (o := (.inr (8, [.ref ms, .ref mb, .ref mw, .int gr, .int 1, .int ca, .int mv, .ref od, .ref pt, .int ct, .int fa, .ref fi, .ref re, .int cs, .ref rc, .ref rs, .ref so, .ref ot, .ref cn, .ref la, .int ce, .ref ro, .int rn]))) (fun q => by subst q; have := hmb.symm.trans hY; first | cases this | simp at this)).trans hmb
      replace hY : (qs h y (.inr (8, [.ref ms, .ref mb, .ref mw, .int gr, .int 1, .int ca, .int mv, .ref od, .ref pt, .int ct, .int fa, .ref fi, .ref re, .int cs, .ref rc, .ref rs, .ref so, .ref ot, .ref cn, .ref la, .int ce, .ref ro, .int rn]))) y = some (.inr (8, [.ref ms, .ref mb, .ref mw, .int gr, .int 1, .int ca, .int mv, .ref od, .ref pt, .int ct, .int fa, .ref fi, .ref re, .int cs, .ref rc, .ref rs, .ref so, .ref ot, .ref cn, .ref la, .int ce, .ref ro, .int rn])) := qs_self
      refine lv_if_eq (tgt := 52) hx hb dX8_copy__24 (by decide) (fun _ => ?_) (fun c => absurd (by decide) c)
      exact q_vret C hP hS ⟨1, rfl, ⟨rfl, Or.inl ⟨fun g9 => gg1 g9.2, rfl⟩⟩⟩ (by omega) dX8_copy__52
  · refine lv_if_eq (tgt := 19) hx hb dX8_copy__5 (by decide) (fun _ => ?_) (fun c => absurd (by decide) c)
    refine lv_iconst (v := 0) hx hb dX8_copy__19 (by decide) ?_
    refine lv_iconst (v := 1) hx hb dX8_copy__20 (by decide) ?_
    have hY0 := hY
    refine q_callV (rest := []) C (c_X8_good0 l D cy N0 (h) y ms mb mw od pt fi re rc rs so ot cn la ro gr cd ca mv ct fa cs ce rn 1 hY) kX8_good g1249 g1251 rfl gp41 g4 hP hS hY (by first | decide | omega) hl.1 rfl (by decide) (by first | decide | omega) dX8_copy__21 (fun q ce E h' H1 locs1 hE => hE.elim) (fun v hh6 H locs hq hP hS => ?_)
    obtain ⟨rfl, rfl⟩ := hq
    replace hR := hR.set8 (o := (.inr (8, [.ref ms, .ref mb, .ref mw, .int gr, .int 1, .int ca, .int mv, .ref od, .ref pt, .int ct, .int fa, .ref fi, .ref re, .int cs, .ref rc, .ref rs, .ref so, .ref ot, .ref cn, .ref la, .int ce, .ref ro, .int rn]))) hY0
    replace hRB := hRB.set8 (o := (.inr (8, [.ref ms, .ref mb, .ref mw, .int gr, .int 1, .int ca, .int mv, .ref od, .ref pt, .int ct, .int fa, .ref fi, .ref re, .int cs, .ref rc, .ref rs, .ref so, .ref ot, .ref cn, .ref la, .int ce, .ref ro, .int rn]))) hY0
    replace hms := (qs_ne (h := h) (a := y) (o := (.inr (8, [.ref ms, .ref mb, .ref mw, .int gr, .int 1, .int ca, .int mv, .ref od, .ref pt, .int ct, .int fa, .ref fi, .ref re, .int cs, .ref rc, .ref rs, .ref so, .ref ot, .ref cn, .ref la, .int ce, .ref ro, .int rn]))) (fun q => by subst q; have := hms.symm.trans hY; first | cases this | simp at this)).trans hms
    replace hmb := (qs_ne (h := h) (a := y) (o := (.inr (8, [.ref ms, .ref mb, .ref mw, .int gr, .int 1, .int ca, .int mv, .ref od, .ref pt, .int ct, .int fa, .ref fi, .ref re, .int cs, .ref rc, .ref rs, .ref so, .ref ot, .ref cn, .ref la, .int ce, .ref ro, .int rn]))) (fun q => by subst q; have := hmb.symm.trans hY; first | cases this | simp at this)).trans hmb
    replace hY : (qs h y (.inr (8, [.ref ms, .ref mb, .ref mw, .int gr, .int 1, .int ca, .int mv, .ref od, .ref pt, .int ct, .int fa, .ref fi, .ref re, .int cs, .ref rc, .ref rs, .ref so, .ref ot, .ref cn, .ref la, .int ce, .ref ro, .int rn]))) y = some (.inr (8, [.ref ms, .ref mb, .ref mw, .int gr, .int 1, .int ca, .int mv, .ref od, .ref pt, .int ct, .int fa, .ref fi, .ref re, .int cs, .ref rc, .ref rs, .ref so, .ref ot, .ref cn, .ref la, .int ce, .ref ro, .int rn])) := qs_self
    refine lv_if_eq (tgt := 52) hx hb dX8_copy__24 (by decide) (fun _ => ?_) (fun c => absurd (by decide) c)
    exact q_vret C hP hS ⟨1, rfl, ⟨rfl, Or.inl ⟨fun g9 => gg0 g9.1, rfl⟩⟩⟩ (by omega) dX8_copy__52

theorem dX8_size_0 : decode cX8_size 0 = .ok (.aload_n 0, 1) := by decide +kernel
theorem dX8_size_1 : decode cX8_size 1 = .ok (.iload_n 1, 1) := by decide +kernel
theorem dX8_size_2 : decode cX8_size 2 = .ok (.invokestatic 96, 3) := by decide +kernel
theorem dX8_size_5 : decode cX8_size 5 = .ok (.iconst 1, 1) := by decide +kernel
theorem dX8_size_6 : decode cX8_size 6 = .ok (.invokevirtual 100, 3) := by decide +kernel
theorem dX8_size_9 : decode cX8_size 9 = .ok (.ifCond .eq 18, 3) := by decide +kernel
theorem dX8_size_12 : decode cX8_size 12 = .ok (.aload_n 0, 1) := by decide +kernel
theorem dX8_size_13 : decode cX8_size 13 = .ok (.aload_n 0, 1) := by decide +kernel
theorem dX8_size_14 : decode cX8_size 14 = .ok (.iload_n 1, 1) := by decide +kernel
theorem dX8_size_15 : decode cX8_size 15 = .ok (.bipush 63, 2) := by decide +kernel
theorem dX8_size_17 : decode cX8_size 17 = .ok (.invokevirtual 108, 3) := by decide +kernel
theorem dX8_size_20 : decode cX8_size 20 = .ok (.iconst 2, 1) := by decide +kernel
theorem dX8_size_21 : decode cX8_size 21 = .ok (.invokevirtual 100, 3) := by decide +kernel
theorem dX8_size_24 : decode cX8_size 24 = .ok (.ifCond .ne 5, 3) := by decide +kernel
theorem dX8_size_27 : decode cX8_size 27 = .ok (.iconst 0, 1) := by decide +kernel
theorem dX8_size_28 : decode cX8_size 28 = .ok (.ireturn, 1) := by decide +kernel
set_option maxRecDepth 100000 in
set_option maxHeartbeats 4000000 in
theorem c_X8_size_0 (l : Launch) (D : va_G) (cy : Nat → ClassId) (N0 : Nat) (h : qH) (y ms mb mw od pt fi re rc rs so ot cn la ro : Nat) (gr cd ca mv ct fa cs ce rn : Int32) (f g : Nat → Option Nat) (p0 : Int32) (hY : h y = some (.inr (8, [.ref ms, .ref mb, .ref mw, .int gr, .int cd, .int ca, .int mv, .ref od, .ref pt, .int ct, .int fa, .ref fi, .ref re, .int cs, .ref rc, .ref rs, .ref so, .ref ot, .ref cn, .ref la, .int ce, .ref ro, .int rn]))) (hms : h ms = some (.inl (cy 5, 24, .inr (.inr (.inr (.inr f)))))) (hmb : h mb = some (.inl (cy 5, 4, .inr (.inr (.inr (.inr g)))))) (hR : qRo h f 24) (hRB : qRo h g 4) : qC l D cy N0 yX8_size cX8_size 2 (some .int) 1 60 0 0 [.ref y, .int p0] h (fun v h' => ∃ cd', h' = qs h y (.inr (8, [.ref ms, .ref mb, .ref mw, .int gr, .int cd', .int ca, .int mv, .ref od, .ref pt, .int ct, .int fa, .ref fi, .ref re, .int cs, .ref rc, .ref rs, .ref so, .ref ot, .ref cn, .ref la, .int ce, .ref ro, .int rn])) ∧ v = some (.int 0) ∧ ((¬ (qSl p0) ∧ cd' = 1) ∨ ((qSl p0) ∧ cd' = 2))) (fun E h' => False) := by
  refine q_ofW (by decide) (by exact Nat.le_of_ble_eq_true rfl) ?_
  intro p e s m below meth c ls C hP hl
  have hx := C.1
  have hb := C.2.1
  have hS : va_S (qA N0) s.heap s.heap [] := va_S.rf
  have hl : lv_has ls 2 [(0, .ref y), (1, .int p0)] := hl
  refine lv_aload_n hx hb dX8_size_0 rfl (lv_at hl 0 rfl) ?_
  refine lv_iload_n hx hb dX8_size_1 rfl (lv_at hl 1 rfl) ?_
  refine q_callS (rest := [.ref y]) C (c_X8_isSlot l D cy N0 (h) p0) kX8_isSlot g1246 g1247 hP hS (by first | decide | omega) hl.1 rfl (by simp [q_catrf, q_cati, q_catl, q_cata, q_catn]) (by first | decide | omega) dX8_size_2 (fun q ce E h' H1 locs1 hE => hE.elim) (fun v hh1 H locs hq hP hS => ?_)
  obtain ⟨rfl, hq⟩ := hq
  rcases hq with ⟨rfl, gg0⟩ | ⟨rfl, gg0⟩
  · refine lv_iconst (v := 1) hx hb dX8_size_5 (by decide) ?_
    have hY0 := hY
    refine q_callV (rest := []) C (c_X8_good1 l D cy N0 (h) y ms mb mw od pt fi re rc rs so ot cn la ro gr cd ca mv ct fa cs ce rn 1 hY) kX8_good g1249 g1251 rfl gp41 g4 hP hS hY (by first | decide | omega) hl.1 rfl (by decide) (by first | decide | omega) dX8_size_6 (fun q ce E h' H1 locs1 hE => hE.elim) (fun v hh2 H locs hq hP hS => ?_)
    obtain ⟨rfl, rfl⟩ := hq
    replace hR := hR.set8 (o := (.inr (8, [.ref ms, .ref mb, .ref mw, .int gr, .int 0, .int ca, .int mv, .ref od, .ref pt, .int ct, .int fa, .ref fi, .ref re, .int cs, .ref rc, .ref rs, .ref so, .ref ot, .ref cn, .ref la, .int ce, .ref ro, .int rn]))) hY0
    replace hRB := hRB.set8 (o := (.inr (8, [.ref ms, .ref mb, .ref mw, .int gr, .int 0, .int ca, .int mv, .ref od, .ref pt, .int ct, .int fa, .ref fi, .ref re, .int cs, .ref rc, .ref rs, .ref so, .ref ot, .ref cn, .ref la, .int ce, .ref ro, .int rn]))) hY0
    replace hms := (qs_ne (h := h) (a := y) (o := (.inr (8, [.ref ms, .ref mb, .ref mw, .int gr, .int 0, .int ca, .int mv, .ref od, .ref pt, .int ct, .int fa, .ref fi, .ref re, .int cs, .ref rc, .ref rs, .ref so, .ref ot, .ref cn, .ref la, .int ce, .ref ro, .int rn]))) (fun q => by subst q; have := hms.symm.trans hY; first | cases this | simp at this)).trans hms
    replace hmb := (qs_ne (h := h) (a := y) (o := (.inr (8, [.ref ms, .ref mb, .ref mw, .int gr, .int 0, .int ca, .int mv, .ref od, .ref pt, .int ct, .int fa, .ref fi, .ref re, .int cs, .ref rc, .ref rs, .ref so, .ref ot, .ref cn, .ref la, .int ce, .ref ro, .int rn]))) (fun q => by subst q; have := hmb.symm.trans hY; first | cases this | simp at this)).trans hmb
    replace hY : (qs h y (.inr (8, [.ref ms, .ref mb, .ref mw, .int gr, .int 0, .int ca, .int mv, .ref od, .ref pt, .int ct, .int fa, .ref fi, .ref re, .int cs, .ref rc, .ref rs, .ref so, .ref ot, .ref cn, .ref la, .int ce, .ref ro, .int rn]))) y = some (.inr (8, [.ref ms, .ref mb, .ref mw, .int gr, .int 0, .int ca, .int mv, .ref od, .ref pt, .int ct, .int fa, .ref fi, .ref re, .int cs, .ref rc, .ref rs, .ref so, .ref ot, .ref cn, .ref la, .int ce, .ref ro, .int rn])) := qs_self
    refine lv_if_eq (tgt := 27) hx hb dX8_size_9 (by decide) (fun c => absurd c (by decide)) (fun _ => ?_)
    refine lv_aload_n hx hb dX8_size_12 rfl (lv_at hl 0 rfl) ?_
    refine lv_aload_n hx hb dX8_size_13 rfl (lv_at hl 0 rfl) ?_
    refine lv_iload_n hx hb dX8_size_14 rfl (lv_at hl 1 rfl) ?_
    refine lv_bipush (v := 63) hx hb dX8_size_15 (by decide) ?_
    obtain ⟨i0, hi0, ei0⟩ := gg0.of
    subst ei0
    refine q_callV (rest := [.ref y]) C (c_X8_holds_0 l D cy N0 (qs h y (.inr (8, [.ref ms, .ref mb, .ref mw, .int gr, .int 0, .int ca, .int mv, .ref od, .ref pt, .int ct, .int fa, .ref fi, .ref re, .int cs, .ref rc, .ref rs, .ref so, .ref ot, .ref cn, .ref la, .int ce, .ref ro, .int rn]))) y ms mb mw od pt fi re rc rs so ot cn la ro gr 0 ca mv ct fa cs ce rn f g i0 63 hY hms hmb hR hRB hi0) kX8_holds g1264 g1266 rfl gp42 g4 hP hS hY (by first | decide | omega) hl.1 rfl (by simp [q_catrf, q_cati, q_catl, q_cata, q_catn]) (by first | decide | omega) dX8_size_17 (fun q ce E h' H1 locs1 hE => hE.elim) (fun v hh3 H locs hq hP hS => ?_)
    obtain ⟨rfl, rfl⟩ := hq
    refine lv_iconst (v := 2) hx hb dX8_size_20 (by decide) ?_
    have hY0 := hY
    refine q_callV (rest := []) C (c_X8_good0 l D cy N0 (qs h y (.inr (8, [.ref ms, .ref mb, .ref mw, .int gr, .int 0, .int ca, .int mv, .ref od, .ref pt, .int ct, .int fa, .ref fi, .ref re, .int cs, .ref rc, .ref rs, .ref so, .ref ot, .ref cn, .ref la, .int ce, .ref ro, .int rn]))) y ms mb mw od pt fi re rc rs so ot cn la ro gr 0 ca mv ct fa cs ce rn 2 hY) kX8_good g1249 g1251 rfl gp41 g4 hP hS hY (by first | decide | omega) hl.1 rfl (by decide) (by first | decide | omega) dX8_size_21 (fun q ce E h' H1 locs1 hE => hE.elim) (fun v hh4 H locs hq hP hS => ?_)
    obtain ⟨rfl, rfl⟩ := hq
    replace hR := hR.re8 (o' := (.inr (8, [.ref ms, .ref mb, .ref mw, .int gr, .int 2, .int ca, .int mv, .ref od, .ref pt, .int ct, .int fa, .ref fi, .ref re, .int cs, .ref rc, .ref rs, .ref so, .ref ot, .ref cn, .ref la, .int ce, .ref ro, .int rn]))) hY0
    replace hRB := hRB.re8 (o' := (.inr (8, [.ref ms, .ref mb, .ref mw, .int gr, .int 2, .int ca, .int mv, .ref od, .ref pt, .int ct, .int fa, .ref fi, .ref re, .int cs, .ref rc, .ref rs, .ref so, .ref ot, .ref cn, .ref la, .int ce, .ref ro, .int rn]))) hY0
    rw [qs_qs] at hP
    replace hms := qs_re (o' := (.inr (8, [.ref ms, .ref mb, .ref mw, .int gr, .int 2, .int ca, .int mv, .ref od, .ref pt, .int ct, .int fa, .ref fi, .ref re, .int cs, .ref rc, .ref rs, .ref so, .ref ot, .ref cn, .ref la, .int ce, .ref ro, .int rn]))) (fun q => by subst q; have := hms.symm.trans hY; first | cases this | simp at this) hms
    replace hmb := qs_re (o' := (.inr (8, [.ref ms, .ref mb, .ref mw, .int gr, .int 2, .int ca, .int mv, .ref od, .ref pt, .int ct, .int fa, .ref fi, .ref re, .int cs, .ref rc, .ref rs, .ref so, .ref ot, .ref cn, .ref la, .int ce, .ref ro, .int rn]))) (fun q => by subst q; have := hmb.symm.trans hY; first | cases this | simp at this) hmb
    replace hY : (qs h y (.inr (8, [.ref ms, .ref mb, .ref mw, .int gr, .int 2, .int ca, .int mv, .ref od, .ref pt, .int ct, .int fa, .ref fi, .ref re, .int cs, .ref rc, .ref rs, .ref so, .ref ot, .ref cn, .ref la, .int ce, .ref ro, .int rn]))) y = some (.inr (8, [.ref ms, .ref mb, .ref mw, .int gr, .int 2, .int ca, .int mv, .ref od, .ref pt, .int ct, .int fa, .ref fi, .ref re, .int cs, .ref rc, .ref rs, .ref so, .ref ot, .ref cn, .ref la, .int ce, .ref ro, .int rn])) := qs_self
    refine lv_if_ne (tgt := 29) hx hb dX8_size_24 (by decide) (fun c => absurd rfl c) (fun _ => ?_)
    refine lv_iconst (v := 0) hx hb dX8_size_27 (by decide) ?_
    exact q_iret C hP hS ⟨2, rfl, ⟨rfl, Or.inr ⟨gg0, rfl⟩⟩⟩ (by omega) dX8_size_28
  · refine lv_iconst (v := 1) hx hb dX8_size_5 (by decide) ?_
    have hY0 := hY
    refine q_callV (rest := []) C (c_X8_good0 l D cy N0 (h) y ms mb mw od pt fi re rc rs so ot cn la ro gr cd ca mv ct fa cs ce rn 1 hY) kX8_good g1249 g1251 rfl gp41 g4 hP hS hY (by first | decide | omega) hl.1 rfl (by decide) (by first | decide | omega) dX8_size_6 (fun q ce E h' H1 locs1 hE => hE.elim) (fun v hh5 H locs hq hP hS => ?_)
    obtain ⟨rfl, rfl⟩ := hq
    replace hR := hR.set8 (o := (.inr (8, [.ref ms, .ref mb, .ref mw, .int gr, .int 1, .int ca, .int mv, .ref od, .ref pt, .int ct, .int fa, .ref fi, .ref re, .int cs, .ref rc, .ref rs, .ref so, .ref ot, .ref cn, .ref la, .int ce, .ref ro, .int rn]))) hY0
    replace hRB := hRB.set8 (o := (.inr (8, [.ref ms, .ref mb, .ref mw, .int gr, .int 1, .int ca, .int mv, .ref od, .ref pt, .int ct, .int fa, .ref fi, .ref re, .int cs, .ref rc, .ref rs, .ref so, .ref ot, .ref cn, .ref la, .int ce, .ref ro, .int rn]))) hY0
    replace hms := (qs_ne (h := h) (a := y) (o := (.inr (8, [.ref ms, .ref mb, .ref mw, .int gr, .int 1, .int ca, .int mv, .ref od, .ref pt, .int ct, .int fa, .ref fi, .ref re, .int cs, .ref rc, .ref rs, .ref so, .ref ot, .ref cn, .ref la, .int ce, .ref ro, .int rn]))) (fun q => by subst q; have := hms.symm.trans hY; first | cases this | simp at this)).trans hms
    replace hmb := (qs_ne (h := h) (a := y) (o := (.inr (8, [.ref ms, .ref mb, .ref mw, .int gr, .int 1, .int ca, .int mv, .ref od, .ref pt, .int ct, .int fa, .ref fi, .ref re, .int cs, .ref rc, .ref rs, .ref so, .ref ot, .ref cn, .ref la, .int ce, .ref ro, .int rn]))) (fun q => by subst q; have := hmb.symm.trans hY; first | cases this | simp at this)).trans hmb
    replace hY : (qs h y (.inr (8, [.ref ms, .ref mb, .ref mw, .int gr, .int 1, .int ca, .int mv, .ref od, .ref pt, .int ct, .int fa, .ref fi, .ref re, .int cs, .ref rc, .ref rs, .ref so, .ref ot, .ref cn, .ref la, .int ce, .ref ro, .int rn]))) y = some (.inr (8, [.ref ms, .ref mb, .ref mw, .int gr, .int 1, .int ca, .int mv, .ref od, .ref pt, .int ct, .int fa, .ref fi, .ref re, .int cs, .ref rc, .ref rs, .ref so, .ref ot, .ref cn, .ref la, .int ce, .ref ro, .int rn])) := qs_self
    refine lv_if_eq (tgt := 27) hx hb dX8_size_9 (by decide) (fun _ => ?_) (fun c => absurd (by decide) c)
    refine lv_iconst (v := 0) hx hb dX8_size_27 (by decide) ?_
    exact q_iret C hP hS ⟨1, rfl, ⟨rfl, Or.inl ⟨fun g9 => gg0 g9, rfl⟩⟩⟩ (by omega) dX8_size_28

theorem dX8_add_0 : decode cX8_add 0 = .ok (.aload_n 0, 1) := by decide +kernel
theorem dX8_add_1 : decode cX8_add 1 = .ok (.iload_n 1, 1) := by decide +kernel
theorem dX8_add_2 : decode cX8_add 2 = .ok (.invokestatic 96, 3) := by decide +kernel
theorem dX8_add_5 : decode cX8_add 5 = .ok (.ifCond .eq 14, 3) := by decide +kernel
theorem dX8_add_8 : decode cX8_add 8 = .ok (.iload_n 2, 1) := by decide +kernel
theorem dX8_add_9 : decode cX8_add 9 = .ok (.invokestatic 96, 3) := by decide +kernel
theorem dX8_add_12 : decode cX8_add 12 = .ok (.ifCond .eq 7, 3) := by decide +kernel
theorem dX8_add_15 : decode cX8_add 15 = .ok (.iconst 1, 1) := by decide +kernel
theorem dX8_add_16 : decode cX8_add 16 = .ok (.goto 4, 3) := by decide +kernel
theorem dX8_add_19 : decode cX8_add 19 = .ok (.iconst 0, 1) := by decide +kernel
theorem dX8_add_20 : decode cX8_add 20 = .ok (.iconst 1, 1) := by decide +kernel
theorem dX8_add_21 : decode cX8_add 21 = .ok (.invokevirtual 100, 3) := by decide +kernel
theorem dX8_add_24 : decode cX8_add 24 = .ok (.ifCond .eq 18, 3) := by decide +kernel
theorem dX8_add_27 : decode cX8_add 27 = .ok (.aload_n 0, 1) := by decide +kernel
theorem dX8_add_28 : decode cX8_add 28 = .ok (.aload_n 0, 1) := by decide +kernel
theorem dX8_add_29 : decode cX8_add 29 = .ok (.iload_n 2, 1) := by decide +kernel
theorem dX8_add_30 : decode cX8_add 30 = .ok (.bipush 53, 2) := by decide +kernel
theorem dX8_add_32 : decode cX8_add 32 = .ok (.invokevirtual 108, 3) := by decide +kernel
theorem dX8_add_35 : decode cX8_add 35 = .ok (.iconst 2, 1) := by decide +kernel
theorem dX8_add_36 : decode cX8_add 36 = .ok (.invokevirtual 100, 3) := by decide +kernel
theorem dX8_add_39 : decode cX8_add 39 = .ok (.ifCond .ne 5, 3) := by decide +kernel
theorem dX8_add_42 : decode cX8_add 42 = .ok (.iconst 0, 1) := by decide +kernel
theorem dX8_add_43 : decode cX8_add 43 = .ok (.ireturn, 1) := by decide +kernel
set_option maxRecDepth 100000 in
set_option maxHeartbeats 4000000 in
theorem c_X8_add_0 (l : Launch) (D : va_G) (cy : Nat → ClassId) (N0 : Nat) (h : qH) (y ms mb mw od pt fi re rc rs so ot cn la ro : Nat) (gr cd ca mv ct fa cs ce rn : Int32) (f g : Nat → Option Nat) (p0 : Int32) (p1 : Int32) (p2 : Int64) (hY : h y = some (.inr (8, [.ref ms, .ref mb, .ref mw, .int gr, .int cd, .int ca, .int mv, .ref od, .ref pt, .int ct, .int fa, .ref fi, .ref re, .int cs, .ref rc, .ref rs, .ref so, .ref ot, .ref cn, .ref la, .int ce, .ref ro, .int rn]))) (hms : h ms = some (.inl (cy 5, 24, .inr (.inr (.inr (.inr f)))))) (hmb : h mb = some (.inl (cy 5, 4, .inr (.inr (.inr (.inr g)))))) (hR : qRo h f 24) (hRB : qRo h g 4) : qC l D cy N0 yX8_add cX8_add 5 (some .int) 1 60 0 0 [.ref y, .int p0, .int p1, .long p2] h (fun v h' => ∃ cd', h' = qs h y (.inr (8, [.ref ms, .ref mb, .ref mw, .int gr, .int cd', .int ca, .int mv, .ref od, .ref pt, .int ct, .int fa, .ref fi, .ref re, .int cs, .ref rc, .ref rs, .ref so, .ref ot, .ref cn, .ref la, .int ce, .ref ro, .int rn])) ∧ v = some (.int 0) ∧ ((¬ (qSl p0 ∧ qSl p1) ∧ cd' = 1) ∨ ((qSl p0 ∧ qSl p1) ∧ cd' = 2))) (fun E h' => False) := by
  refine q_ofW (by decide) (by exact Nat.le_of_ble_eq_true rfl) ?_
  intro p e s m below meth c ls C hP hl
  have hx := C.1
  have hb := C.2.1
  have hS : va_S (qA N0) s.heap s.heap [] := va_S.rf
  have hl : lv_has ls 5 [(0, .ref y), (1, .int p0), (2, .int p1), (3, .long p2)] := hl
  refine lv_aload_n hx hb dX8_add_0 rfl (lv_at hl 0 rfl) ?_
  refine lv_iload_n hx hb dX8_add_1 rfl (lv_at hl 1 rfl) ?_
  refine q_callS (rest := [.ref y]) C (c_X8_isSlot l D cy N0 (h) p0) kX8_isSlot g1246 g1247 hP hS (by first | decide | omega) hl.1 rfl (by simp [q_catrf, q_cati, q_catl, q_cata, q_catn]) (by first | decide | omega) dX8_add_2 (fun q ce E h' H1 locs1 hE => hE.elim) (fun v hh1 H locs hq hP hS => ?_)
  obtain ⟨rfl, hq⟩ := hq
  rcases hq with ⟨rfl, gg0⟩ | ⟨rfl, gg0⟩
  · refine lv_if_eq (tgt := 19) hx hb dX8_add_5 (by decide) (fun c => absurd c (by decide)) (fun _ => ?_)
    refine lv_iload_n hx hb dX8_add_8 rfl (lv_at hl 2 rfl) ?_
    refine q_callS (rest := [.ref y]) C (c_X8_isSlot l D cy N0 (h) p1) kX8_isSlot g1246 g1247 hP hS (by first | decide | omega) hl.1 rfl (by simp [q_catrf, q_cati, q_catl, q_cata, q_catn]) (by first | decide | omega) dX8_add_9 (fun q ce E h' H1 locs1 hE => hE.elim) (fun v hh2 H locs hq hP hS => ?_)
    obtain ⟨rfl, hq⟩ := hq
    rcases hq with ⟨rfl, gg1⟩ | ⟨rfl, gg1⟩
    · refine lv_if_eq (tgt := 19) hx hb dX8_add_12 (by decide) (fun c => absurd c (by decide)) (fun _ => ?_)
      refine lv_iconst (v := 1) hx hb dX8_add_15 (by decide) ?_
      refine lv_goto (tgt := 20) hx hb dX8_add_16 (by decide) ?_
      refine lv_iconst (v := 1) hx hb dX8_add_20 (by decide) ?_
      have hY0 := hY
      refine q_callV (rest := []) C (c_X8_good1 l D cy N0 (h) y ms mb mw od pt fi re rc rs so ot cn la ro gr cd ca mv ct fa cs ce rn 1 hY) kX8_good g1249 g1251 rfl gp41 g4 hP hS hY (by first | decide | omega) hl.1 rfl (by decide) (by first | decide | omega) dX8_add_21 (fun q ce E h' H1 locs1 hE => hE.elim) (fun v hh3 H locs hq hP hS => ?_)
      obtain ⟨rfl, rfl⟩ := hq
      replace hR := hR.set8 (o := (.inr (8, [.ref ms, .ref mb, .ref mw, .int gr, .int 0, .int ca, .int mv, .ref od, .ref pt, .int ct, .int fa, .ref fi, .ref re, .int cs, .ref rc, .ref rs, .ref so, .ref ot, .ref cn, .ref la, .int ce, .ref ro, .int rn]))) hY0
      replace hRB := hRB.set8 (o := (.inr (8, [.ref ms, .ref mb, .ref mw, .int gr, .int 0, .int ca, .int mv, .ref od, .ref pt, .int ct, .int fa, .ref fi, .ref re, .int cs, .ref rc, .ref rs, .ref so, .ref ot, .ref cn, .ref la, .int ce, .ref ro, .int rn]))) hY0
      replace hms := (qs_ne (h := h) (a := y) (o := (.inr (8, [.ref ms, .ref mb, .ref mw, .int gr, .int 0, .int ca, .int mv, .ref od, .ref pt, .int ct, .int fa, .ref fi, .ref re, .int cs, .ref rc, .ref rs, .ref so, .ref ot, .ref cn, .ref la, .int ce, .ref ro, .int rn]))) (fun q => by subst q; have := hms.symm.trans hY; first | cases this | simp at this)).trans hms
      replace hmb := (qs_ne (h := h) (a := y) (o := (.inr (8, [.ref ms, .ref mb, .ref mw, .int gr, .int 0, .int ca, .int mv, .ref od, .ref pt, .int ct, .int fa, .ref fi, .ref re, .int cs, .ref rc, .ref rs, .ref so, .ref ot, .ref cn, .ref la, .int ce, .ref ro, .int rn]))) (fun q => by subst q; have := hmb.symm.trans hY; first | cases this | simp at this)).trans hmb
      replace hY : (qs h y (.inr (8, [.ref ms, .ref mb, .ref mw, .int gr, .int 0, .int ca, .int mv, .ref od, .ref pt, .int ct, .int fa, .ref fi, .ref re, .int cs, .ref rc, .ref rs, .ref so, .ref ot, .ref cn, .ref la, .int ce, .ref ro, .int rn]))) y = some (.inr (8, [.ref ms, .ref mb, .ref mw, .int gr, .int 0, .int ca, .int mv, .ref od, .ref pt, .int ct, .int fa, .ref fi, .ref re, .int cs, .ref rc, .ref rs, .ref so, .ref ot, .ref cn, .ref la, .int ce, .ref ro, .int rn])) := qs_self
      refine lv_if_eq (tgt := 42) hx hb dX8_add_24 (by decide) (fun c => absurd c (by decide)) (fun _ => ?_)
      refine lv_aload_n hx hb dX8_add_27 rfl (lv_at hl 0 rfl) ?_
      refine lv_aload_n hx hb dX8_add_28 rfl (lv_at hl 0 rfl) ?_
      refine lv_iload_n hx hb dX8_add_29 rfl (lv_at hl 2 rfl) ?_
      refine lv_bipush (v := 53) hx hb dX8_add_30 (by decide) ?_
      obtain ⟨i1, hi1, ei1⟩ := gg1.of
      subst ei1
      refine q_callV (rest := [.ref y]) C (c_X8_holds_0 l D cy N0 (qs h y (.inr (8, [.ref ms, .ref mb, .ref mw, .int gr, .int 0, .int ca, .int mv, .ref od, .ref pt, .int ct, .int fa, .ref fi, .ref re, .int cs, .ref rc, .ref rs, .ref so, .ref ot, .ref cn, .ref la, .int ce, .ref ro, .int rn]))) y ms mb mw od pt fi re rc rs so ot cn la ro gr 0 ca mv ct fa cs ce rn f g i1 53 hY hms hmb hR hRB hi1) kX8_holds g1264 g1266 rfl gp42 g4 hP hS hY (by first | decide | omega) hl.1 rfl (by simp [q_catrf, q_cati, q_catl, q_cata, q_catn]) (by first | decide | omega) dX8_add_32 (fun q ce E h' H1 locs1 hE => hE.elim) (fun v hh4 H locs hq hP hS => ?_)
      obtain ⟨rfl, rfl⟩ := hq
      refine lv_iconst (v := 2) hx hb dX8_add_35 (by decide) ?_
      have hY0 := hY
      refine q_callV (rest := []) C (c_X8_good0 l D cy N0 (qs h y (.inr (8, [.ref ms, .ref mb, .ref mw, .int gr, .int 0, .int ca, .int mv, .ref od, .ref pt, .int ct, .int fa, .ref fi, .ref re, .int cs, .ref rc, .ref rs, .ref so, .ref ot, .ref cn, .ref la, .int ce, .ref ro, .int rn]))) y ms mb mw od pt fi re rc rs so ot cn la ro gr 0 ca mv ct fa cs ce rn 2 hY) kX8_good g1249 g1251 rfl gp41 g4 hP hS hY (by first | decide | omega) hl.1 rfl (by decide) (by first | decide | omega) dX8_add_36 (fun q ce E h' H1 locs1 hE => hE.elim) (fun v hh5 H locs hq hP hS => ?_)
      obtain ⟨rfl, rfl⟩ := hq
      replace hR := hR.re8 (o' := (.inr (8, [.ref ms, .ref mb, .ref mw, .int gr, .int 2, .int ca, .int mv, .ref od, .ref pt, .int ct, .int fa, .ref fi, .ref re, .int cs, .ref rc, .ref rs, .ref so, .ref ot, .ref cn, .ref la, .int ce, .ref ro, .int rn]))) hY0
      replace hRB := hRB.re8 (o' := (.inr (8, [.ref ms, .ref mb, .ref mw, .int gr, .int 2, .int ca, .int mv, .ref od, .ref pt, .int ct, .int fa, .ref fi, .ref re, .int cs, .ref rc, .ref rs, .ref so, .ref ot, .ref cn, .ref la, .int ce, .ref ro, .int rn]))) hY0
      rw [qs_qs] at hP
      replace hms := qs_re (o' := (.inr (8, [.ref ms, .ref mb, .ref mw, .int gr, .int 2, .int ca, .int mv, .ref od, .ref pt, .int ct, .int fa, .ref fi, .ref re, .int cs, .ref rc, .ref rs, .ref so, .ref ot, .ref cn, .ref la, .int ce, .ref ro, .int rn]))) (fun q => by subst q; have := hms.symm.trans hY; first | cases this | simp at this) hms
      replace hmb := qs_re (o' := (.inr (8, [.ref ms, .ref mb, .ref mw, .int gr, .int 2, .int ca, .int mv, .ref od, .ref pt, .int ct, .int fa, .ref fi, .ref re, .int cs, .ref rc, .ref rs, .ref so, .ref ot, .ref cn, .ref la, .int ce, .ref ro, .int rn]))) (fun q => by subst q; have := hmb.symm.trans hY; first | cases this | simp at this) hmb
      replace hY : (qs h y (.inr (8, [.ref ms, .ref mb, .ref mw, .int gr, .int 2, .int ca, .int mv, .ref od, .ref pt, .int ct, .int fa, .ref fi, .ref re, .int cs, .ref rc, .ref rs, .ref so, .ref ot, .ref cn, .ref la, .int ce, .ref ro, .int rn]))) y = some (.inr (8, [.ref ms, .ref mb, .ref mw, .int gr, .int 2, .int ca, .int mv, .ref od, .ref pt, .int ct, .int fa, .ref fi, .ref re, .int cs, .ref rc, .ref rs, .ref so, .ref ot, .ref cn, .ref la, .int ce, .ref ro, .int rn])) := qs_self
      refine lv_if_ne (tgt := 44) hx hb dX8_add_39 (by decide) (fun c => absurd rfl c) (fun _ => ?_)
      refine lv_iconst (v := 0) hx hb dX8_add_42 (by decide) ?_
      exact q_iret C hP hS ⟨2, rfl, ⟨rfl, Or.inr ⟨⟨gg0, gg1⟩, rfl⟩⟩⟩ (by omega) dX8_add_43
    · refine lv_if_eq (tgt := 19) hx hb dX8_add_12 (by decide) (fun _ => ?_) (fun c => absurd (by decide) c)
      refine lv_iconst (v := 0) hx hb dX8_add_19 (by decide) ?_
      refine lv_iconst (v := 1) hx hb dX8_add_20 (by decide) ?_
      have hY0 := hY
      refine q_callV (rest := []) C (c_X8_good0 l D cy N0 (h) y ms mb mw od pt fi re rc rs so ot cn la ro gr cd ca mv ct fa cs ce rn 1 hY) kX8_good g1249 g1251 rfl gp41 g4 hP hS hY (by first | decide | omega) hl.1 rfl (by decide) (by first | decide | omega) dX8_add_21 (fun q ce E h' H1 locs1 hE => hE.elim) (fun v hh6 H locs hq hP hS => ?_)
      obtain ⟨rfl, rfl⟩ := hq
      replace hR := hR.set8 (o := (.inr (8, [.ref ms, .ref mb, .ref mw, .int gr, .int 1, .int ca, .int mv, .ref od, .ref pt, .int ct, .int fa, .ref fi, .ref re, .int cs, .ref rc, .ref rs, .ref so, .ref ot, .ref cn, .ref la, .int ce, .ref ro, .int rn]))) hY0
      replace hRB := hRB.set8 (o := (.inr (8, [.ref ms, .ref mb, .ref mw, .int gr, .int 1, .int ca, .int mv, .ref od, .ref pt, .int ct, .int fa, .ref fi, .ref re, .int cs, .ref rc, .ref rs, .ref so, .ref ot, .ref cn, .ref la, .int ce, .ref ro, .int rn]))) hY0
      replace hms := (qs_ne (h := h) (a := y) (o := (.inr (8, [.ref ms, .ref mb, .ref mw, .int gr, .int 1, .int ca, .int mv, .ref od, .ref pt, .int ct, .int fa, .ref fi, .ref re, .int cs, .ref rc, .ref rs, .ref so, .ref ot, .ref cn, .ref la, .int ce, .ref ro, .int rn]))) (fun q => by subst q; have := hms.symm.trans hY; first | cases this | simp at this)).trans hms
      replace hmb := (qs_ne (h := h) (a := y) (o := (.inr (8, [.ref ms, .ref mb, .ref mw, .int gr, .int 1, .int ca, .int mv, .ref od, .ref pt, .int ct, .int fa, .ref fi, .ref re, .int cs, .ref rc, .ref rs, .ref so, .ref ot, .ref cn, .ref la, .int ce, .ref ro, .int rn]))) (fun q => by subst q; have := hmb.symm.trans hY; first | cases this | simp at this)).trans hmb
      replace hY : (qs h y (.inr (8, [.ref ms, .ref mb, .ref mw, .int gr, .int 1, .int ca, .int mv, .ref od, .ref pt, .int ct, .int fa, .ref fi, .ref re, .int cs, .ref rc, .ref rs, .ref so, .ref ot, .ref cn, .ref la, .int ce, .ref ro, .int rn]))) y = some (.inr (8, [.ref ms, .ref mb, .ref mw, .int gr, .int 1, .int ca, .int mv, .ref od, .ref pt, .int ct, .int fa, .ref fi, .ref re, .int cs, .ref rc, .ref rs, .ref so, .ref ot, .ref cn, .ref la, .int ce, .ref ro, .int rn])) := qs_self
      refine lv_if_eq (tgt := 42) hx hb dX8_add_24 (by decide) (fun _ => ?_) (fun c => absurd (by decide) c)
      refine lv_iconst (v := 0) hx hb dX8_add_42 (by decide) ?_
      exact q_iret C hP hS ⟨1, rfl, ⟨rfl, Or.inl ⟨fun g9 => gg1 g9.2, rfl⟩⟩⟩ (by omega) dX8_add_43
  · refine lv_if_eq (tgt := 19) hx hb dX8_add_5 (by decide) (fun _ => ?_) (fun c => absurd (by decide) c)
    refine lv_iconst (v := 0) hx hb dX8_add_19 (by decide) ?_
    refine lv_iconst (v := 1) hx hb dX8_add_20 (by decide) ?_
    have hY0 := hY
    refine q_callV (rest := []) C (c_X8_good0 l D cy N0 (h) y ms mb mw od pt fi re rc rs so ot cn la ro gr cd ca mv ct fa cs ce rn 1 hY) kX8_good g1249 g1251 rfl gp41 g4 hP hS hY (by first | decide | omega) hl.1 rfl (by decide) (by first | decide | omega) dX8_add_21 (fun q ce E h' H1 locs1 hE => hE.elim) (fun v hh7 H locs hq hP hS => ?_)
    obtain ⟨rfl, rfl⟩ := hq
    replace hR := hR.set8 (o := (.inr (8, [.ref ms, .ref mb, .ref mw, .int gr, .int 1, .int ca, .int mv, .ref od, .ref pt, .int ct, .int fa, .ref fi, .ref re, .int cs, .ref rc, .ref rs, .ref so, .ref ot, .ref cn, .ref la, .int ce, .ref ro, .int rn]))) hY0
    replace hRB := hRB.set8 (o := (.inr (8, [.ref ms, .ref mb, .ref mw, .int gr, .int 1, .int ca, .int mv, .ref od, .ref pt, .int ct, .int fa, .ref fi, .ref re, .int cs, .ref rc, .ref rs, .ref so, .ref ot, .ref cn, .ref la, .int ce, .ref ro, .int rn]))) hY0
    replace hms := (qs_ne (h := h) (a := y) (o := (.inr (8, [.ref ms, .ref mb, .ref mw, .int gr, .int 1, .int ca, .int mv, .ref od, .ref pt, .int ct, .int fa, .ref fi, .ref re, .int cs, .ref rc, .ref rs, .ref so, .ref ot, .ref cn, .ref la, .int ce, .ref ro, .int rn]))) (fun q => by subst q; have := hms.symm.trans hY; first | cases this | simp at this)).trans hms
    replace hmb := (qs_ne (h := h) (a := y) (o := (.inr (8, [.ref ms, .ref mb, .ref mw, .int gr, .int 1, .int ca, .int mv, .ref od, .ref pt, .int ct, .int fa, .ref fi, .ref re, .int cs, .ref rc, .ref rs, .ref so, .ref ot, .ref cn, .ref la, .int ce, .ref ro, .int rn]))) (fun q => by subst q; have := hmb.symm.trans hY; first | cases this | simp at this)).trans hmb
    replace hY : (qs h y (.inr (8, [.ref ms, .ref mb, .ref mw, .int gr, .int 1, .int ca, .int mv, .ref od, .ref pt, .int ct, .int fa, .ref fi, .ref re, .int cs, .ref rc, .ref rs, .ref so, .ref ot, .ref cn, .ref la, .int ce, .ref ro, .int rn]))) y = some (.inr (8, [.ref ms, .ref mb, .ref mw, .int gr, .int 1, .int ca, .int mv, .ref od, .ref pt, .int ct, .int fa, .ref fi, .ref re, .int cs, .ref rc, .ref rs, .ref so, .ref ot, .ref cn, .ref la, .int ce, .ref ro, .int rn])) := qs_self
    refine lv_if_eq (tgt := 42) hx hb dX8_add_24 (by decide) (fun _ => ?_) (fun c => absurd (by decide) c)
    refine lv_iconst (v := 0) hx hb dX8_add_42 (by decide) ?_
    exact q_iret C hP hS ⟨1, rfl, ⟨rfl, Or.inl ⟨fun g9 => gg0 g9.1, rfl⟩⟩⟩ (by omega) dX8_add_43

theorem dX8_push_0 : decode cX8_push 0 = .ok (.aload_n 0, 1) := by decide +kernel
theorem dX8_push_1 : decode cX8_push 1 = .ok (.iload_n 1, 1) := by decide +kernel
theorem dX8_push_2 : decode cX8_push 2 = .ok (.invokestatic 96, 3) := by decide +kernel
theorem dX8_push_5 : decode cX8_push 5 = .ok (.ifCond .eq 14, 3) := by decide +kernel
theorem dX8_push_8 : decode cX8_push 8 = .ok (.iload_n 2, 1) := by decide +kernel
theorem dX8_push_9 : decode cX8_push 9 = .ok (.invokestatic 96, 3) := by decide +kernel
theorem dX8_push_12 : decode cX8_push 12 = .ok (.ifCond .eq 7, 3) := by decide +kernel
theorem dX8_push_15 : decode cX8_push 15 = .ok (.iconst 1, 1) := by decide +kernel
theorem dX8_push_16 : decode cX8_push 16 = .ok (.goto 4, 3) := by decide +kernel
theorem dX8_push_19 : decode cX8_push 19 = .ok (.iconst 0, 1) := by decide +kernel
theorem dX8_push_20 : decode cX8_push 20 = .ok (.iconst 1, 1) := by decide +kernel
theorem dX8_push_21 : decode cX8_push 21 = .ok (.invokevirtual 100, 3) := by decide +kernel
theorem dX8_push_24 : decode cX8_push 24 = .ok (.ifCond .eq 18, 3) := by decide +kernel
theorem dX8_push_27 : decode cX8_push 27 = .ok (.aload_n 0, 1) := by decide +kernel
theorem dX8_push_28 : decode cX8_push 28 = .ok (.aload_n 0, 1) := by decide +kernel
theorem dX8_push_29 : decode cX8_push 29 = .ok (.iload_n 2, 1) := by decide +kernel
theorem dX8_push_30 : decode cX8_push 30 = .ok (.bipush 65, 2) := by decide +kernel
theorem dX8_push_32 : decode cX8_push 32 = .ok (.invokevirtual 108, 3) := by decide +kernel
theorem dX8_push_35 : decode cX8_push 35 = .ok (.iconst 2, 1) := by decide +kernel
theorem dX8_push_36 : decode cX8_push 36 = .ok (.invokevirtual 100, 3) := by decide +kernel
theorem dX8_push_39 : decode cX8_push 39 = .ok (.ifCond .ne 4, 3) := by decide +kernel
theorem dX8_push_42 : decode cX8_push 42 = .ok (.return_, 1) := by decide +kernel
set_option maxRecDepth 100000 in
set_option maxHeartbeats 4000000 in
theorem c_X8_push_0 (l : Launch) (D : va_G) (cy : Nat → ClassId) (N0 : Nat) (h : qH) (y ms mb mw od pt fi re rc rs so ot cn la ro : Nat) (gr cd ca mv ct fa cs ce rn : Int32) (f g : Nat → Option Nat) (p0 : Int32) (p1 : Int32) (p2 : Int64) (hY : h y = some (.inr (8, [.ref ms, .ref mb, .ref mw, .int gr, .int cd, .int ca, .int mv, .ref od, .ref pt, .int ct, .int fa, .ref fi, .ref re, .int cs, .ref rc, .ref rs, .ref so, .ref ot, .ref cn, .ref la, .int ce, .ref ro, .int rn]))) (hms : h ms = some (.inl (cy 5, 24, .inr (.inr (.inr (.inr f)))))) (hmb : h mb = some (.inl (cy 5, 4, .inr (.inr (.inr (.inr g)))))) (hR : qRo h f 24) (hRB : qRo h g 4) : qC l D cy N0 yX8_push cX8_push 5 none 1 60 0 0 [.ref y, .int p0, .int p1, .long p2] h (fun v h' => ∃ cd', h' = qs h y (.inr (8, [.ref ms, .ref mb, .ref mw, .int gr, .int cd', .int ca, .int mv, .ref od, .ref pt, .int ct, .int fa, .ref fi, .ref re, .int cs, .ref rc, .ref rs, .ref so, .ref ot, .ref cn, .ref la, .int ce, .ref ro, .int rn])) ∧ v = none ∧ ((¬ (qSl p0 ∧ qSl p1) ∧ cd' = 1) ∨ ((qSl p0 ∧ qSl p1) ∧ cd' = 2))) (fun E h' => False) := by
  refine q_ofW (by decide) (by exact Nat.le_of_ble_eq_true rfl) ?_
  intro p e s m below meth c ls C hP hl
  have hx := C.1
  have hb := C.2.1
  have hS : va_S (qA N0) s.heap s.heap [] := va_S.rf
  have hl : lv_has ls 5 [(0, .ref y), (1, .int p0), (2, .int p1), (3, .long p2)] := hl
  refine lv_aload_n hx hb dX8_push_0 rfl (lv_at hl 0 rfl) ?_
  refine lv_iload_n hx hb dX8_push_1 rfl (lv_at hl 1 rfl) ?_
  refine q_callS (rest := [.ref y]) C (c_X8_isSlot l D cy N0 (h) p0) kX8_isSlot g1246 g1247 hP hS (by first | decide | omega) hl.1 rfl (by simp [q_catrf, q_cati, q_catl, q_cata, q_catn]) (by first | decide | omega) dX8_push_2 (fun q ce E h' H1 locs1 hE => hE.elim) (fun v hh1 H locs hq hP hS => ?_)
  obtain ⟨rfl, hq⟩ := hq
  rcases hq with ⟨rfl, gg0⟩ | ⟨rfl, gg0⟩
  · refine lv_if_eq (tgt := 19) hx hb dX8_push_5 (by decide) (fun c => absurd c (by decide)) (fun _ => ?_)
    refine lv_iload_n hx hb dX8_push_8 rfl (lv_at hl 2 rfl) ?_
    refine q_callS (rest := [.ref y]) C (c_X8_isSlot l D cy N0 (h) p1) kX8_isSlot g1246 g1247 hP hS (by first | decide | omega) hl.1 rfl (by simp [q_catrf, q_cati, q_catl, q_cata, q_catn]) (by first | decide | omega) dX8_push_9 (fun q ce E h' H1 locs1 hE => hE.elim) (fun v hh2 H locs hq hP hS => ?_)
    obtain ⟨rfl, hq⟩ := hq
    rcases hq with ⟨rfl, gg1⟩ | ⟨rfl, gg1⟩
    · refine lv_if_eq (tgt := 19) hx hb dX8_push_12 (by decide) (fun c => absurd c (by decide)) (fun _ => ?_)
      refine lv_iconst (v := 1) hx hb dX8_push_15 (by decide) ?_
      refine lv_goto (tgt := 20) hx hb dX8_push_16 (by decide) ?_
      refine lv_iconst (v := 1) hx hb dX8_push_20 (by decide) ?_
      have hY0 := hY
      refine q_callV (rest := []) C (c_X8_good1 l D cy N0 (h) y ms mb mw od pt fi re rc rs so ot cn la ro gr cd ca mv ct fa cs ce rn 1 hY) kX8_good g1249 g1251 rfl gp41 g4 hP hS hY (by first | decide | omega) hl.1 rfl (by decide) (by first | decide | omega) dX8_push_21 (fun q ce E h' H1 locs1 hE => hE.elim) (fun v hh3 H locs hq hP hS => ?_)
      obtain ⟨rfl, rfl⟩ := hq
      replace hR := hR.set8 (o := (.inr (8, [.ref ms, .ref mb, .ref mw, .int gr, .int 0, .int ca, .int mv, .ref od, .ref pt, .int ct, .int fa, .ref fi, .ref re, .int cs, .ref rc, .ref rs, .ref so, .ref ot, .ref cn, .ref la, .int ce, .ref ro, .int rn]))) hY0
      replace hRB := hRB.set8 (o := (.inr (8, [.ref ms, .ref mb, .ref mw, .int gr, .int 0, .int ca, .int mv, .ref od, .ref pt, .int ct, .int fa, .ref fi, .ref re, .int cs, .ref rc, .ref rs, .ref so, .ref ot, .ref cn, .ref la, .int ce, .ref ro, .int rn]))) hY0
      replace hms := (qs_ne (h := h) (a := y) (o := (.inr (8, [.ref ms, .ref mb, .ref mw, .int gr, .int 0, .int ca, .int mv, .ref od, .ref pt, .int ct, .int fa, .ref fi, .ref re, .int cs, .ref rc, .ref rs, .ref so, .ref ot, .ref cn, .ref la, .int ce, .ref ro, .int rn]))) (fun q => by subst q; have := hms.symm.trans hY; first | cases this | simp at this)).trans hms
      replace hmb := (qs_ne (h := h) (a := y) (o := (.inr (8, [.ref ms, .ref mb, .ref mw, .int gr, .int 0, .int ca, .int mv, .ref od, .ref pt, .int ct, .int fa, .ref fi, .ref re, .int cs, .ref rc, .ref rs, .ref so, .ref ot, .ref cn, .ref la, .int ce, .ref ro, .int rn]))) (fun q => by subst q; have := hmb.symm.trans hY; first | cases this | simp at this)).trans hmb
      replace hY : (qs h y (.inr (8, [.ref ms, .ref mb, .ref mw, .int gr, .int 0, .int ca, .int mv, .ref od, .ref pt, .int ct, .int fa, .ref fi, .ref re, .int cs, .ref rc, .ref rs, .ref so, .ref ot, .ref cn, .ref la, .int ce, .ref ro, .int rn]))) y = some (.inr (8, [.ref ms, .ref mb, .ref mw, .int gr, .int 0, .int ca, .int mv, .ref od, .ref pt, .int ct, .int fa, .ref fi, .ref re, .int cs, .ref rc, .ref rs, .ref so, .ref ot, .ref cn, .ref la, .int ce, .ref ro, .int rn])) := qs_self
      refine lv_if_eq (tgt := 42) hx hb dX8_push_24 (by decide) (fun c => absurd c (by decide)) (fun _ => ?_)
      refine lv_aload_n hx hb dX8_push_27 rfl (lv_at hl 0 rfl) ?_
      refine lv_aload_n hx hb dX8_push_28 rfl (lv_at hl 0 rfl) ?_
      refine lv_iload_n hx hb dX8_push_29 rfl (lv_at hl 2 rfl) ?_
      refine lv_bipush (v := 65) hx hb dX8_push_30 (by decide) ?_
      obtain ⟨i1, hi1, ei1⟩ := gg1.of
      subst ei1
      refine q_callV (rest := [.ref y]) C (c_X8_holds_0 l D cy N0 (qs h y (.inr (8, [.ref ms, .ref mb, .ref mw, .int gr, .int 0, .int ca, .int mv, .ref od, .ref pt, .int ct, .int fa, .ref fi, .ref re, .int cs, .ref rc, .ref rs, .ref so, .ref ot, .ref cn, .ref la, .int ce, .ref ro, .int rn]))) y ms mb mw od pt fi re rc rs so ot cn la ro gr 0 ca mv ct fa cs ce rn f g i1 65 hY hms hmb hR hRB hi1) kX8_holds g1264 g1266 rfl gp42 g4 hP hS hY (by first | decide | omega) hl.1 rfl (by simp [q_catrf, q_cati, q_catl, q_cata, q_catn]) (by first | decide | omega) dX8_push_32 (fun q ce E h' H1 locs1 hE => hE.elim) (fun v hh4 H locs hq hP hS => ?_)
      obtain ⟨rfl, rfl⟩ := hq
      refine lv_iconst (v := 2) hx hb dX8_push_35 (by decide) ?_
      have hY0 := hY
      refine q_callV (rest := []) C (c_X8_good0 l D cy N0 (qs h y (.inr (8, [.ref ms, .ref mb, .ref mw, .int gr, .int 0, .int ca, .int mv, .ref od, .ref pt, .int ct, .int fa, .ref fi, .ref re, .int cs, .ref rc, .ref rs, .ref so, .ref ot, .ref cn, .ref la, .int ce, .ref ro, .int rn]))) y ms mb mw od pt fi re rc rs so ot cn la ro gr 0 ca mv ct fa cs ce rn 2 hY) kX8_good g1249 g1251 rfl gp41 g4 hP hS hY (by first | decide | omega) hl.1 rfl (by decide) (by first | decide | omega) dX8_push_36 (fun q ce E h' H1 locs1 hE => hE.elim) (fun v hh5 H locs hq hP hS => ?_)
      obtain ⟨rfl, rfl⟩ := hq
      replace hR := hR.re8 (o' := (.inr (8, [.ref ms, .ref mb, .ref mw, .int gr, .int 2, .int ca, .int mv, .ref od, .ref pt, .int ct, .int fa, .ref fi, .ref re, .int cs, .ref rc, .ref rs, .ref so, .ref ot, .ref cn, .ref la, .int ce, .ref ro, .int rn]))) hY0
      replace hRB := hRB.re8 (o' := (.inr (8, [.ref ms, .ref mb, .ref mw, .int gr, .int 2, .int ca, .int mv, .ref od, .ref pt, .int ct, .int fa, .ref fi, .ref re, .int cs, .ref rc, .ref rs, .ref so, .ref ot, .ref cn, .ref la, .int ce, .ref ro, .int rn]))) hY0
      rw [qs_qs] at hP
      replace hms := qs_re (o' := (.inr (8, [.ref ms, .ref mb, .ref mw, .int gr, .int 2, .int ca, .int mv, .ref od, .ref pt, .int ct, .int fa, .ref fi, .ref re, .int cs, .ref rc, .ref rs, .ref so, .ref ot, .ref cn, .ref la, .int ce, .ref ro, .int rn]))) (fun q => by subst q; have := hms.symm.trans hY; first | cases this | simp at this) hms
      replace hmb := qs_re (o' := (.inr (8, [.ref ms, .ref mb, .ref mw, .int gr, .int 2, .int ca, .int mv, .ref od, .ref pt, .int ct, .int fa, .ref fi, .ref re, .int cs, .ref rc, .ref rs, .ref so, .ref ot, .ref cn, .ref la, .int ce, .ref ro, .int rn]))) (fun q => by subst q; have := hmb.symm.trans hY; first | cases this | simp at this) hmb
      replace hY : (qs h y (.inr (8, [.ref ms, .ref mb, .ref mw, .int gr, .int 2, .int ca, .int mv, .ref od, .ref pt, .int ct, .int fa, .ref fi, .ref re, .int cs, .ref rc, .ref rs, .ref so, .ref ot, .ref cn, .ref la, .int ce, .ref ro, .int rn]))) y = some (.inr (8, [.ref ms, .ref mb, .ref mw, .int gr, .int 2, .int ca, .int mv, .ref od, .ref pt, .int ct, .int fa, .ref fi, .ref re, .int cs, .ref rc, .ref rs, .ref so, .ref ot, .ref cn, .ref la, .int ce, .ref ro, .int rn])) := qs_self
      refine lv_if_ne (tgt := 43) hx hb dX8_push_39 (by decide) (fun c => absurd rfl c) (fun _ => ?_)
      exact q_vret C hP hS ⟨2, rfl, ⟨rfl, Or.inr ⟨⟨gg0, gg1⟩, rfl⟩⟩⟩ (by omega) dX8_push_42
    · refine lv_if_eq (tgt := 19) hx hb dX8_push_12 (by decide) (fun _ => ?_) (fun c => absurd (by decide) c)
      refine lv_iconst (v := 0) hx hb dX8_push_19 (by decide) ?_
      refine lv_iconst (v := 1) hx hb dX8_push_20 (by decide) ?_
      have hY0 := hY
      refine q_callV (rest := []) C (c_X8_good0 l D cy N0 (h) y ms mb mw od pt fi re rc rs so ot cn la ro gr cd ca mv ct fa cs ce rn 1 hY) kX8_good g1249 g1251 rfl gp41 g4 hP hS hY (by first | decide | omega) hl.1 rfl (by decide) (by first | decide | omega) dX8_push_21 (fun q ce E h' H1 locs1 hE => hE.elim) (fun v hh6 H locs hq hP hS => ?_)
      obtain ⟨rfl, rfl⟩ := hq
      replace hR := hR.set8 (o := (.inr (8, [.ref ms, .ref mb, .ref mw, .int gr, .int 1, .int ca, .int mv, .ref od, .ref pt, .int ct, .int fa, .ref fi, .ref re, .int cs, .ref rc, .ref rs, .ref so, .ref ot, .ref cn, .ref la, .int ce, .ref ro, .int rn]))) hY0
      replace hRB := hRB.set8 (o := (.inr (8, [.ref ms, .ref mb, .ref mw, .int gr, .int 1, .int ca, .int mv, .ref od, .ref pt, .int ct, .int fa, .ref fi, .ref re, .int cs, .ref rc, .ref rs, .ref so, .ref ot, .ref cn, .ref la, .int ce, .ref ro, .int rn]))) hY0
      replace hms := (qs_ne (h := h) (a := y) (o := (.inr (8, [.ref ms, .ref mb, .ref mw, .int gr, .int 1, .int ca, .int mv, .ref od, .ref pt, .int ct, .int fa, .ref fi, .ref re, .int cs, .ref rc, .ref rs, .ref so, .ref ot, .ref cn, .ref la, .int ce, .ref ro, .int rn]))) (fun q => by subst q; have := hms.symm.trans hY; first | cases this | simp at this)).trans hms
      replace hmb := (qs_ne (h := h) (a := y) (o := (.inr (8, [.ref ms, .ref mb, .ref mw, .int gr, .int 1, .int ca, .int mv, .ref od, .ref pt, .int ct, .int fa, .ref fi, .ref re, .int cs, .ref rc, .ref rs, .ref so, .ref ot, .ref cn, .ref la, .int ce, .ref ro, .int rn]))) (fun q => by subst q; have := hmb.symm.trans hY; first | cases this | simp at this)).trans hmb
      replace hY : (qs h y (.inr (8, [.ref ms, .ref mb, .ref mw, .int gr, .int 1, .int ca, .int mv, .ref od, .ref pt, .int ct, .int fa, .ref fi, .ref re, .int cs, .ref rc, .ref rs, .ref so, .ref ot, .ref cn, .ref la, .int ce, .ref ro, .int rn]))) y = some (.inr (8, [.ref ms, .ref mb, .ref mw, .int gr, .int 1, .int ca, .int mv, .ref od, .ref pt, .int ct, .int fa, .ref fi, .ref re, .int cs, .ref rc, .ref rs, .ref so, .ref ot, .ref cn, .ref la, .int ce, .ref ro, .int rn])) := qs_self
      refine lv_if_eq (tgt := 42) hx hb dX8_push_24 (by decide) (fun _ => ?_) (fun c => absurd (by decide) c)
      exact q_vret C hP hS ⟨1, rfl, ⟨rfl, Or.inl ⟨fun g9 => gg1 g9.2, rfl⟩⟩⟩ (by omega) dX8_push_42
  · refine lv_if_eq (tgt := 19) hx hb dX8_push_5 (by decide) (fun _ => ?_) (fun c => absurd (by decide) c)
    refine lv_iconst (v := 0) hx hb dX8_push_19 (by decide) ?_
    refine lv_iconst (v := 1) hx hb dX8_push_20 (by decide) ?_
    have hY0 := hY
    refine q_callV (rest := []) C (c_X8_good0 l D cy N0 (h) y ms mb mw od pt fi re rc rs so ot cn la ro gr cd ca mv ct fa cs ce rn 1 hY) kX8_good g1249 g1251 rfl gp41 g4 hP hS hY (by first | decide | omega) hl.1 rfl (by decide) (by first | decide | omega) dX8_push_21 (fun q ce E h' H1 locs1 hE => hE.elim) (fun v hh7 H locs hq hP hS => ?_)
    obtain ⟨rfl, rfl⟩ := hq
    replace hR := hR.set8 (o := (.inr (8, [.ref ms, .ref mb, .ref mw, .int gr, .int 1, .int ca, .int mv, .ref od, .ref pt, .int ct, .int fa, .ref fi, .ref re, .int cs, .ref rc, .ref rs, .ref so, .ref ot, .ref cn, .ref la, .int ce, .ref ro, .int rn]))) hY0
    replace hRB := hRB.set8 (o := (.inr (8, [.ref ms, .ref mb, .ref mw, .int gr, .int 1, .int ca, .int mv, .ref od, .ref pt, .int ct, .int fa, .ref fi, .ref re, .int cs, .ref rc, .ref rs, .ref so, .ref ot, .ref cn, .ref la, .int ce, .ref ro, .int rn]))) hY0
    replace hms := (qs_ne (h := h) (a := y) (o := (.inr (8, [.ref ms, .ref mb, .ref mw, .int gr, .int 1, .int ca, .int mv, .ref od, .ref pt, .int ct, .int fa, .ref fi, .ref re, .int cs, .ref rc, .ref rs, .ref so, .ref ot, .ref cn, .ref la, .int ce, .ref ro, .int rn]))) (fun q => by subst q; have := hms.symm.trans hY; first | cases this | simp at this)).trans hms
    replace hmb := (qs_ne (h := h) (a := y) (o := (.inr (8, [.ref ms, .ref mb, .ref mw, .int gr, .int 1, .int ca, .int mv, .ref od, .ref pt, .int ct, .int fa, .ref fi, .ref re, .int cs, .ref rc, .ref rs, .ref so, .ref ot, .ref cn, .ref la, .int ce, .ref ro, .int rn]))) (fun q => by subst q; have := hmb.symm.trans hY; first | cases this | simp at this)).trans hmb
    replace hY : (qs h y (.inr (8, [.ref ms, .ref mb, .ref mw, .int gr, .int 1, .int ca, .int mv, .ref od, .ref pt, .int ct, .int fa, .ref fi, .ref re, .int cs, .ref rc, .ref rs, .ref so, .ref ot, .ref cn, .ref la, .int ce, .ref ro, .int rn]))) y = some (.inr (8, [.ref ms, .ref mb, .ref mw, .int gr, .int 1, .int ca, .int mv, .ref od, .ref pt, .int ct, .int fa, .ref fi, .ref re, .int cs, .ref rc, .ref rs, .ref so, .ref ot, .ref cn, .ref la, .int ce, .ref ro, .int rn])) := qs_self
    refine lv_if_eq (tgt := 42) hx hb dX8_push_24 (by decide) (fun _ => ?_) (fun c => absurd (by decide) c)
    exact q_vret C hP hS ⟨1, rfl, ⟨rfl, Or.inl ⟨fun g9 => gg0 g9.1, rfl⟩⟩⟩ (by omega) dX8_push_42

theorem dX8_set_0 : decode cX8_set 0 = .ok (.aload_n 0, 1) := by decide +kernel
theorem dX8_set_1 : decode cX8_set 1 = .ok (.iload_n 1, 1) := by decide +kernel
theorem dX8_set_2 : decode cX8_set 2 = .ok (.invokestatic 96, 3) := by decide +kernel
theorem dX8_set_5 : decode cX8_set 5 = .ok (.ifCond .eq 14, 3) := by decide +kernel
theorem dX8_set_8 : decode cX8_set 8 = .ok (.iload_n 2, 1) := by decide +kernel
theorem dX8_set_9 : decode cX8_set 9 = .ok (.invokestatic 96, 3) := by decide +kernel
theorem dX8_set_12 : decode cX8_set 12 = .ok (.ifCond .eq 7, 3) := by decide +kernel
theorem dX8_set_15 : decode cX8_set 15 = .ok (.iconst 1, 1) := by decide +kernel
theorem dX8_set_16 : decode cX8_set 16 = .ok (.goto 4, 3) := by decide +kernel
theorem dX8_set_19 : decode cX8_set 19 = .ok (.iconst 0, 1) := by decide +kernel
theorem dX8_set_20 : decode cX8_set 20 = .ok (.iconst 1, 1) := by decide +kernel
theorem dX8_set_21 : decode cX8_set 21 = .ok (.invokevirtual 100, 3) := by decide +kernel
theorem dX8_set_24 : decode cX8_set 24 = .ok (.ifCond .eq 47, 3) := by decide +kernel
theorem dX8_set_27 : decode cX8_set 27 = .ok (.aload_n 0, 1) := by decide +kernel
theorem dX8_set_28 : decode cX8_set 28 = .ok (.aload_n 0, 1) := by decide +kernel
theorem dX8_set_29 : decode cX8_set 29 = .ok (.iload_n 2, 1) := by decide +kernel
theorem dX8_set_30 : decode cX8_set 30 = .ok (.iconst 1, 1) := by decide +kernel
theorem dX8_set_31 : decode cX8_set 31 = .ok (.invokevirtual 108, 3) := by decide +kernel
theorem dX8_set_34 : decode cX8_set 34 = .ok (.iconst 2, 1) := by decide +kernel
theorem dX8_set_35 : decode cX8_set 35 = .ok (.invokevirtual 100, 3) := by decide +kernel
theorem dX8_set_38 : decode cX8_set 38 = .ok (.ifCond .eq 33, 3) := by decide +kernel
theorem dX8_set_71 : decode cX8_set 71 = .ok (.lconst 0, 1) := by decide +kernel
theorem dX8_set_72 : decode cX8_set 72 = .ok (.lreturn, 1) := by decide +kernel
set_option maxRecDepth 100000 in
set_option maxHeartbeats 4000000 in
theorem c_X8_set_0 (l : Launch) (D : va_G) (cy : Nat → ClassId) (N0 : Nat) (h : qH) (y ms mb mw od pt fi re rc rs so ot cn la ro : Nat) (gr cd ca mv ct fa cs ce rn : Int32) (f g : Nat → Option Nat) (p0 : Int32) (p1 : Int32) (p2 : Int32) (p3 : Int64) (hY : h y = some (.inr (8, [.ref ms, .ref mb, .ref mw, .int gr, .int cd, .int ca, .int mv, .ref od, .ref pt, .int ct, .int fa, .ref fi, .ref re, .int cs, .ref rc, .ref rs, .ref so, .ref ot, .ref cn, .ref la, .int ce, .ref ro, .int rn]))) (hms : h ms = some (.inl (cy 5, 24, .inr (.inr (.inr (.inr f)))))) (hmb : h mb = some (.inl (cy 5, 4, .inr (.inr (.inr (.inr g)))))) (hR : qRo h f 24) (hRB : qRo h g 4) : qC l D cy N0 yX8_set cX8_set 8 (some .long) 1 60 0 0 [.ref y, .int p0, .int p1, .int p2, .long p3] h (fun v h' => ∃ cd', h' = qs h y (.inr (8, [.ref ms, .ref mb, .ref mw, .int gr, .int cd', .int ca, .int mv, .ref od, .ref pt, .int ct, .int fa, .ref fi, .ref re, .int cs, .ref rc, .ref rs, .ref so, .ref ot, .ref cn, .ref la, .int ce, .ref ro, .int rn])) ∧ v = some (.long 0) ∧ ((¬ (qSl p0 ∧ qSl p1) ∧ cd' = 1) ∨ ((qSl p0 ∧ qSl p1) ∧ cd' = 2))) (fun E h' => False) := by
  refine q_ofW (by decide) (by exact Nat.le_of_ble_eq_true rfl) ?_
  intro p e s m below meth c ls C hP hl
  have hx := C.1
  have hb := C.2.1
  have hS : va_S (qA N0) s.heap s.heap [] := va_S.rf
  have hl : lv_has ls 8 [(0, .ref y), (1, .int p0), (2, .int p1), (3, .int p2), (4, .long p3)] := hl
  refine lv_aload_n hx hb dX8_set_0 rfl (lv_at hl 0 rfl) ?_
  refine lv_iload_n hx hb dX8_set_1 rfl (lv_at hl 1 rfl) ?_
  refine q_callS (rest := [.ref y]) C (c_X8_isSlot l D cy N0 (h) p0) kX8_isSlot g1246 g1247 hP hS (by first | decide | omega) hl.1 rfl (by simp [q_catrf, q_cati, q_catl, q_cata, q_catn]) (by first | decide | omega) dX8_set_2 (fun q ce E h' H1 locs1 hE => hE.elim) (fun v hh1 H locs hq hP hS => ?_)
  obtain ⟨rfl, hq⟩ := hq
  rcases hq with ⟨rfl, gg0⟩ | ⟨rfl, gg0⟩
  · refine lv_if_eq (tgt := 19) hx hb dX8_set_5 (by decide) (fun c => absurd c (by decide)) (fun _ => ?_)
    refine lv_iload_n hx hb dX8_set_8 rfl (lv_at hl 2 rfl) ?_
    refine q_callS (rest := [.ref y]) C (c_X8_isSlot l D cy N0 (h) p1) kX8_isSlot g1246 g1247 hP hS (by first | decide | omega) hl.1 rfl (by simp [q_catrf, q_cati, q_catl, q_cata, q_catn]) (by first | decide | omega) dX8_set_9 (fun q ce E h' H1 locs1 hE => hE.elim) (fun v hh2 H locs hq hP hS => ?_)
    obtain ⟨rfl, hq⟩ := hq
    rcases hq with ⟨rfl, gg1⟩ | ⟨rfl, gg1⟩
    · refine lv_if_eq (tgt := 19) hx hb dX8_set_12 (by decide) (fun c => absurd c (by decide)) (fun _ => ?_)
      refine lv_iconst (v := 1) hx hb dX8_set_15 (by decide) ?_
      refine lv_goto (tgt := 20) hx hb dX8_set_16 (by decide) ?_
      refine lv_iconst (v := 1) hx hb dX8_set_20 (by decide) ?_
      have hY0 := hY
      refine q_callV (rest := []) C (c_X8_good1 l D cy N0 (h) y ms mb mw od pt fi re rc rs so ot cn la ro gr cd ca mv ct fa cs ce rn 1 hY) kX8_good g1249 g1251 rfl gp41 g4 hP hS hY (by first | decide | omega) hl.1 rfl (by decide) (by first | decide | omega) dX8_set_21 (fun q ce E h' H1 locs1 hE => hE.elim) (fun v hh3 H locs hq hP hS => ?_)
      obtain ⟨rfl, rfl⟩ := hq
      replace hR := hR.set8 (o := (.inr (8, [.ref ms, .ref mb, .ref mw, .int gr, .int 0, .int ca, .int mv, .ref od, .ref pt, .int ct, .int fa, .ref fi, .ref re, .int cs, .ref rc, .ref rs, .ref so, .ref ot, .ref cn, .ref la, .int ce, .ref ro, .int rn]))) hY0
      replace hRB := hRB.set8 (o := (.inr (8, [.ref ms, .ref mb, .ref mw, .int gr, .int 0, .int ca, .int mv, .ref od, .ref pt, .int ct, .int fa, .ref fi, .ref re, .int cs, .ref rc, .ref rs, .ref so, .ref ot, .ref cn, .ref la, .int ce, .ref ro, .int rn]))) hY0
      replace hms := (qs_ne (h := h) (a := y) (o := (.inr (8, [.ref ms, .ref mb, .ref mw, .int gr, .int 0, .int ca, .int mv, .ref od, .ref pt, .int ct, .int fa, .ref fi, .ref re, .int cs, .ref rc, .ref rs, .ref so, .ref ot, .ref cn, .ref la, .int ce, .ref ro, .int rn]))) (fun q => by subst q; have := hms.symm.trans hY; first | cases this | simp at this)).trans hms
      replace hmb := (qs_ne (h := h) (a := y) (o := (.inr (8, [.ref ms, .ref mb, .ref mw, .int gr, .int 0, .int ca, .int mv, .ref od, .ref pt, .int ct, .int fa, .ref fi, .ref re, .int cs, .ref rc, .ref rs, .ref so, .ref ot, .ref cn, .ref la, .int ce, .ref ro, .int rn]))) (fun q => by subst q; have := hmb.symm.trans hY; first | cases this | simp at this)).trans hmb
      replace hY : (qs h y (.inr (8, [.ref ms, .ref mb, .ref mw, .int gr, .int 0, .int ca, .int mv, .ref od, .ref pt, .int ct, .int fa, .ref fi, .ref re, .int cs, .ref rc, .ref rs, .ref so, .ref ot, .ref cn, .ref la, .int ce, .ref ro, .int rn]))) y = some (.inr (8, [.ref ms, .ref mb, .ref mw, .int gr, .int 0, .int ca, .int mv, .ref od, .ref pt, .int ct, .int fa, .ref fi, .ref re, .int cs, .ref rc, .ref rs, .ref so, .ref ot, .ref cn, .ref la, .int ce, .ref ro, .int rn])) := qs_self
      refine lv_if_eq (tgt := 71) hx hb dX8_set_24 (by decide) (fun c => absurd c (by decide)) (fun _ => ?_)
      refine lv_aload_n hx hb dX8_set_27 rfl (lv_at hl 0 rfl) ?_
      refine lv_aload_n hx hb dX8_set_28 rfl (lv_at hl 0 rfl) ?_
      refine lv_iload_n hx hb dX8_set_29 rfl (lv_at hl 2 rfl) ?_
      refine lv_iconst (v := 1) hx hb dX8_set_30 (by decide) ?_
      obtain ⟨i1, hi1, ei1⟩ := gg1.of
      subst ei1
      refine q_callV (rest := [.ref y]) C (c_X8_holds_0 l D cy N0 (qs h y (.inr (8, [.ref ms, .ref mb, .ref mw, .int gr, .int 0, .int ca, .int mv, .ref od, .ref pt, .int ct, .int fa, .ref fi, .ref re, .int cs, .ref rc, .ref rs, .ref so, .ref ot, .ref cn, .ref la, .int ce, .ref ro, .int rn]))) y ms mb mw od pt fi re rc rs so ot cn la ro gr 0 ca mv ct fa cs ce rn f g i1 1 hY hms hmb hR hRB hi1) kX8_holds g1264 g1266 rfl gp42 g4 hP hS hY (by first | decide | omega) hl.1 rfl (by simp [q_catrf, q_cati, q_catl, q_cata, q_catn]) (by first | decide | omega) dX8_set_31 (fun q ce E h' H1 locs1 hE => hE.elim) (fun v hh4 H locs hq hP hS => ?_)
      obtain ⟨rfl, rfl⟩ := hq
      refine lv_iconst (v := 2) hx hb dX8_set_34 (by decide) ?_
      have hY0 := hY
      refine q_callV (rest := []) C (c_X8_good0 l D cy N0 (qs h y (.inr (8, [.ref ms, .ref mb, .ref mw, .int gr, .int 0, .int ca, .int mv, .ref od, .ref pt, .int ct, .int fa, .ref fi, .ref re, .int cs, .ref rc, .ref rs, .ref so, .ref ot, .ref cn, .ref la, .int ce, .ref ro, .int rn]))) y ms mb mw od pt fi re rc rs so ot cn la ro gr 0 ca mv ct fa cs ce rn 2 hY) kX8_good g1249 g1251 rfl gp41 g4 hP hS hY (by first | decide | omega) hl.1 rfl (by decide) (by first | decide | omega) dX8_set_35 (fun q ce E h' H1 locs1 hE => hE.elim) (fun v hh5 H locs hq hP hS => ?_)
      obtain ⟨rfl, rfl⟩ := hq
      replace hR := hR.re8 (o' := (.inr (8, [.ref ms, .ref mb, .ref mw, .int gr, .int 2, .int ca, .int mv, .ref od, .ref pt, .int ct, .int fa, .ref fi, .ref re, .int cs, .ref rc, .ref rs, .ref so, .ref ot, .ref cn, .ref la, .int ce, .ref ro, .int rn]))) hY0
      replace hRB := hRB.re8 (o' := (.inr (8, [.ref ms, .ref mb, .ref mw, .int gr, .int 2, .int ca, .int mv, .ref od, .ref pt, .int ct, .int fa, .ref fi, .ref re, .int cs, .ref rc, .ref rs, .ref so, .ref ot, .ref cn, .ref la, .int ce, .ref ro, .int rn]))) hY0
      rw [qs_qs] at hP
      replace hms := qs_re (o' := (.inr (8, [.ref ms, .ref mb, .ref mw, .int gr, .int 2, .int ca, .int mv, .ref od, .ref pt, .int ct, .int fa, .ref fi, .ref re, .int cs, .ref rc, .ref rs, .ref so, .ref ot, .ref cn, .ref la, .int ce, .ref ro, .int rn]))) (fun q => by subst q; have := hms.symm.trans hY; first | cases this | simp at this) hms
      replace hmb := qs_re (o' := (.inr (8, [.ref ms, .ref mb, .ref mw, .int gr, .int 2, .int ca, .int mv, .ref od, .ref pt, .int ct, .int fa, .ref fi, .ref re, .int cs, .ref rc, .ref rs, .ref so, .ref ot, .ref cn, .ref la, .int ce, .ref ro, .int rn]))) (fun q => by subst q; have := hmb.symm.trans hY; first | cases this | simp at this) hmb
      replace hY : (qs h y (.inr (8, [.ref ms, .ref mb, .ref mw, .int gr, .int 2, .int ca, .int mv, .ref od, .ref pt, .int ct, .int fa, .ref fi, .ref re, .int cs, .ref rc, .ref rs, .ref so, .ref ot, .ref cn, .ref la, .int ce, .ref ro, .int rn]))) y = some (.inr (8, [.ref ms, .ref mb, .ref mw, .int gr, .int 2, .int ca, .int mv, .ref od, .ref pt, .int ct, .int fa, .ref fi, .ref re, .int cs, .ref rc, .ref rs, .ref so, .ref ot, .ref cn, .ref la, .int ce, .ref ro, .int rn])) := qs_self
      refine lv_if_eq (tgt := 71) hx hb dX8_set_38 (by decide) (fun _ => ?_) (fun c => absurd (by decide) c)
      refine lv_lconst (v := 0) hx hb dX8_set_71 (by decide) ?_
      exact q_lret C hP hS ⟨2, rfl, ⟨rfl, Or.inr ⟨⟨gg0, gg1⟩, rfl⟩⟩⟩ (by omega) dX8_set_72
    · refine lv_if_eq (tgt := 19) hx hb dX8_set_12 (by decide) (fun _ => ?_) (fun c => absurd (by decide) c)
      refine lv_iconst (v := 0) hx hb dX8_set_19 (by decide) ?_
      refine lv_iconst (v := 1) hx hb dX8_set_20 (by decide) ?_
      have hY0 := hY
      refine q_callV (rest := []) C (c_X8_good0 l D cy N0 (h) y ms mb mw od pt fi re rc rs so ot cn la ro gr cd ca mv ct fa cs ce rn 1 hY) kX8_good g1249 g1251 rfl gp41 g4 hP hS hY (by first | decide | omega) hl.1 rfl (by decide) (by first | decide | omega) dX8_set_21 (fun q ce E h' H1 locs1 hE => hE.elim) (fun v hh6 H locs hq hP hS => ?_)
      obtain ⟨rfl, rfl⟩ := hq
      replace hR := hR.set8 (o := (.inr (8, [.ref ms, .ref mb, .ref mw, .int gr, .int 1, .int ca, .int mv, .ref od, .ref pt, .int ct, .int fa, .ref fi, .ref re, .int cs, .ref rc, .ref rs, .ref so, .ref ot, .ref cn, .ref la, .int ce, .ref ro, .int rn]))) hY0
      replace hRB := hRB.set8 (o := (.inr (8, [.ref ms, .ref mb, .ref mw, .int gr, .int 1, .int ca, .int mv, .ref od, .ref pt, .int ct, .int fa, .ref fi, .ref re, .int cs, .ref rc, .ref rs, .ref so, .ref ot, .ref cn, .ref la, .int ce, .ref ro, .int rn]))) hY0
      replace hms := (qs_ne (h := h) (a := y) (o := (.inr (8, [.ref ms, .ref mb, .ref mw, .int gr, .int 1, .int ca, .int mv, .ref od, .ref pt, .int ct, .int fa, .ref fi, .ref re, .int cs, .ref rc, .ref rs, .ref so, .ref ot, .ref cn, .ref la, .int ce, .ref ro, .int rn]))) (fun q => by subst q; have := hms.symm.trans hY; first | cases this | simp at this)).trans hms
      replace hmb := (qs_ne (h := h) (a := y) (o := (.inr (8, [.ref ms, .ref mb, .ref mw, .int gr, .int 1, .int ca, .int mv, .ref od, .ref pt, .int ct, .int fa, .ref fi, .ref re, .int cs, .ref rc, .ref rs, .ref so, .ref ot, .ref cn, .ref la, .int ce, .ref ro, .int rn]))) (fun q => by subst q; have := hmb.symm.trans hY; first | cases this | simp at this)).trans hmb
      replace hY : (qs h y (.inr (8, [.ref ms, .ref mb, .ref mw, .int gr, .int 1, .int ca, .int mv, .ref od, .ref pt, .int ct, .int fa, .ref fi, .ref re, .int cs, .ref rc, .ref rs, .ref so, .ref ot, .ref cn, .ref la, .int ce, .ref ro, .int rn]))) y = some (.inr (8, [.ref ms, .ref mb, .ref mw, .int gr, .int 1, .int ca, .int mv, .ref od, .ref pt, .int ct, .int fa, .ref fi, .ref re, .int cs, .ref rc, .ref rs, .ref so, .ref ot, .ref cn, .ref la, .int ce, .ref ro, .int rn])) := qs_self
      refine lv_if_eq (tgt := 71) hx hb dX8_set_24 (by decide) (fun _ => ?_) (fun c => absurd (by decide) c)
      refine lv_lconst (v := 0) hx hb dX8_set_71 (by decide) ?_
      exact q_lret C hP hS ⟨1, rfl, ⟨rfl, Or.inl ⟨fun g9 => gg1 g9.2, rfl⟩⟩⟩ (by omega) dX8_set_72
  · refine lv_if_eq (tgt := 19) hx hb dX8_set_5 (by decide) (fun _ => ?_) (fun c => absurd (by decide) c)
    refine lv_iconst (v := 0) hx hb dX8_set_19 (by decide) ?_
    refine lv_iconst (v := 1) hx hb dX8_set_20 (by decide) ?_
    have hY0 := hY
    refine q_callV (rest := []) C (c_X8_good0 l D cy N0 (h) y ms mb mw od pt fi re rc rs so ot cn la ro gr cd ca mv ct fa cs ce rn 1 hY) kX8_good g1249 g1251 rfl gp41 g4 hP hS hY (by first | decide | omega) hl.1 rfl (by decide) (by first | decide | omega) dX8_set_21 (fun q ce E h' H1 locs1 hE => hE.elim) (fun v hh7 H locs hq hP hS => ?_)
    obtain ⟨rfl, rfl⟩ := hq
    replace hR := hR.set8 (o := (.inr (8, [.ref ms, .ref mb, .ref mw, .int gr, .int 1, .int ca, .int mv, .ref od, .ref pt, .int ct, .int fa, .ref fi, .ref re, .int cs, .ref rc, .ref rs, .ref so, .ref ot, .ref cn, .ref la, .int ce, .ref ro, .int rn]))) hY0
    replace hRB := hRB.set8 (o := (.inr (8, [.ref ms, .ref mb, .ref mw, .int gr, .int 1, .int ca, .int mv, .ref od, .ref pt, .int ct, .int fa, .ref fi, .ref re, .int cs, .ref rc, .ref rs, .ref so, .ref ot, .ref cn, .ref la, .int ce, .ref ro, .int rn]))) hY0
    replace hms := (qs_ne (h := h) (a := y) (o := (.inr (8, [.ref ms, .ref mb, .ref mw, .int gr, .int 1, .int ca, .int mv, .ref od, .ref pt, .int ct, .int fa, .ref fi, .ref re, .int cs, .ref rc, .ref rs, .ref so, .ref ot, .ref cn, .ref la, .int ce, .ref ro, .int rn]))) (fun q => by subst q; have := hms.symm.trans hY; first | cases this | simp at this)).trans hms
    replace hmb := (qs_ne (h := h) (a := y) (o := (.inr (8, [.ref ms, .ref mb, .ref mw, .int gr, .int 1, .int ca, .int mv, .ref od, .ref pt, .int ct, .int fa, .ref fi, .ref re, .int cs, .ref rc, .ref rs, .ref so, .ref ot, .ref cn, .ref la, .int ce, .ref ro, .int rn]))) (fun q => by subst q; have := hmb.symm.trans hY; first | cases this | simp at this)).trans hmb
    replace hY : (qs h y (.inr (8, [.ref ms, .ref mb, .ref mw, .int gr, .int 1, .int ca, .int mv, .ref od, .ref pt, .int ct, .int fa, .ref fi, .ref re, .int cs, .ref rc, .ref rs, .ref so, .ref ot, .ref cn, .ref la, .int ce, .ref ro, .int rn]))) y = some (.inr (8, [.ref ms, .ref mb, .ref mw, .int gr, .int 1, .int ca, .int mv, .ref od, .ref pt, .int ct, .int fa, .ref fi, .ref re, .int cs, .ref rc, .ref rs, .ref so, .ref ot, .ref cn, .ref la, .int ce, .ref ro, .int rn])) := qs_self
    refine lv_if_eq (tgt := 71) hx hb dX8_set_24 (by decide) (fun _ => ?_) (fun c => absurd (by decide) c)
    refine lv_lconst (v := 0) hx hb dX8_set_71 (by decide) ?_
    exact q_lret C hP hS ⟨1, rfl, ⟨rfl, Or.inl ⟨fun g9 => gg0 g9.1, rfl⟩⟩⟩ (by omega) dX8_set_72

theorem dX8_at_0 : decode cX8_at 0 = .ok (.aload_n 0, 1) := by decide +kernel
theorem dX8_at_1 : decode cX8_at 1 = .ok (.iload_n 1, 1) := by decide +kernel
theorem dX8_at_2 : decode cX8_at 2 = .ok (.invokestatic 96, 3) := by decide +kernel
theorem dX8_at_5 : decode cX8_at 5 = .ok (.ifCond .eq 11, 3) := by decide +kernel
theorem dX8_at_8 : decode cX8_at 8 = .ok (.iload_n 2, 1) := by decide +kernel
theorem dX8_at_9 : decode cX8_at 9 = .ok (.ifCond .lt 7, 3) := by decide +kernel
theorem dX8_at_12 : decode cX8_at 12 = .ok (.iconst 1, 1) := by decide +kernel
theorem dX8_at_13 : decode cX8_at 13 = .ok (.goto 4, 3) := by decide +kernel
theorem dX8_at_16 : decode cX8_at 16 = .ok (.iconst 0, 1) := by decide +kernel
theorem dX8_at_17 : decode cX8_at 17 = .ok (.iconst 1, 1) := by decide +kernel
theorem dX8_at_18 : decode cX8_at 18 = .ok (.invokevirtual 100, 3) := by decide +kernel
theorem dX8_at_21 : decode cX8_at 21 = .ok (.ifCond .eq 18, 3) := by decide +kernel
theorem dX8_at_24 : decode cX8_at 24 = .ok (.aload_n 0, 1) := by decide +kernel
theorem dX8_at_25 : decode cX8_at 25 = .ok (.aload_n 0, 1) := by decide +kernel
theorem dX8_at_26 : decode cX8_at 26 = .ok (.iload_n 1, 1) := by decide +kernel
theorem dX8_at_27 : decode cX8_at 27 = .ok (.bipush 79, 2) := by decide +kernel
theorem dX8_at_29 : decode cX8_at 29 = .ok (.invokevirtual 108, 3) := by decide +kernel
theorem dX8_at_32 : decode cX8_at 32 = .ok (.iconst 2, 1) := by decide +kernel
theorem dX8_at_33 : decode cX8_at 33 = .ok (.invokevirtual 100, 3) := by decide +kernel
theorem dX8_at_36 : decode cX8_at 36 = .ok (.ifCond .ne 5, 3) := by decide +kernel
theorem dX8_at_39 : decode cX8_at 39 = .ok (.lconst 0, 1) := by decide +kernel
theorem dX8_at_40 : decode cX8_at 40 = .ok (.lreturn, 1) := by decide +kernel
set_option maxRecDepth 100000 in
set_option maxHeartbeats 4000000 in
theorem c_X8_at_0 (l : Launch) (D : va_G) (cy : Nat → ClassId) (N0 : Nat) (h : qH) (y ms mb mw od pt fi re rc rs so ot cn la ro : Nat) (gr cd ca mv ct fa cs ce rn : Int32) (f g : Nat → Option Nat) (p0 : Int32) (p1 : Int32) (hY : h y = some (.inr (8, [.ref ms, .ref mb, .ref mw, .int gr, .int cd, .int ca, .int mv, .ref od, .ref pt, .int ct, .int fa, .ref fi, .ref re, .int cs, .ref rc, .ref rs, .ref so, .ref ot, .ref cn, .ref la, .int ce, .ref ro, .int rn]))) (hms : h ms = some (.inl (cy 5, 24, .inr (.inr (.inr (.inr f)))))) (hmb : h mb = some (.inl (cy 5, 4, .inr (.inr (.inr (.inr g)))))) (hR : qRo h f 24) (hRB : qRo h g 4) : qC l D cy N0 yX8_at cX8_at 4 (some .long) 1 60 0 0 [.ref y, .int p0, .int p1] h (fun v h' => ∃ cd', h' = qs h y (.inr (8, [.ref ms, .ref mb, .ref mw, .int gr, .int cd', .int ca, .int mv, .ref od, .ref pt, .int ct, .int fa, .ref fi, .ref re, .int cs, .ref rc, .ref rs, .ref so, .ref ot, .ref cn, .ref la, .int ce, .ref ro, .int rn])) ∧ v = some (.long 0) ∧ ((¬ (qSl p0 ∧ ¬ p1 < 0) ∧ cd' = 1) ∨ ((qSl p0 ∧ ¬ p1 < 0) ∧ cd' = 2))) (fun E h' => False) := by
  refine q_ofW (by decide) (by exact Nat.le_of_ble_eq_true rfl) ?_
  intro p e s m below meth c ls C hP hl
  have hx := C.1
  have hb := C.2.1
  have hS : va_S (qA N0) s.heap s.heap [] := va_S.rf
  have hl : lv_has ls 4 [(0, .ref y), (1, .int p0), (2, .int p1)] := hl
  refine lv_aload_n hx hb dX8_at_0 rfl (lv_at hl 0 rfl) ?_
  refine lv_iload_n hx hb dX8_at_1 rfl (lv_at hl 1 rfl) ?_
  refine q_callS (rest := [.ref y]) C (c_X8_isSlot l D cy N0 (h) p0) kX8_isSlot g1246 g1247 hP hS (by first | decide | omega) hl.1 rfl (by simp [q_catrf, q_cati, q_catl, q_cata, q_catn]) (by first | decide | omega) dX8_at_2 (fun q ce E h' H1 locs1 hE => hE.elim) (fun v hh1 H locs hq hP hS => ?_)
  obtain ⟨rfl, hq⟩ := hq
  rcases hq with ⟨rfl, gg0⟩ | ⟨rfl, gg0⟩
  · refine lv_if_eq (tgt := 16) hx hb dX8_at_5 (by decide) (fun c => absurd c (by decide)) (fun _ => ?_)
    refine lv_iload_n hx hb dX8_at_8 rfl (lv_at hl 2 rfl) ?_
    refine lv_if_lt (tgt := 16) hx hb dX8_at_9 (by decide) (fun c9 => ?_) (fun c9 => ?_)
    · refine lv_iconst (v := 0) hx hb dX8_at_16 (by decide) ?_
      refine lv_iconst (v := 1) hx hb dX8_at_17 (by decide) ?_
      have hY0 := hY
      refine q_callV (rest := []) C (c_X8_good0 l D cy N0 (h) y ms mb mw od pt fi re rc rs so ot cn la ro gr cd ca mv ct fa cs ce rn 1 hY) kX8_good g1249 g1251 rfl gp41 g4 hP hS hY (by first | decide | omega) hl.1 rfl (by decide) (by first | decide | omega) dX8_at_18 (fun q ce E h' H1 locs1 hE => hE.elim) (fun v hh2 H locs hq hP hS => ?_)
      obtain ⟨rfl, rfl⟩ := hq
      replace hR := hR.set8 (o := (.inr (8, [.ref ms, .ref mb, .ref mw, .int gr, .int 1, .int ca, .int mv, .ref od, .ref pt, .int ct, .int fa, .ref fi, .ref re, .int cs, .ref rc, .ref rs, .ref so, .ref ot, .ref cn, .ref la, .int ce, .ref ro, .int rn]))) hY0
      replace hRB := hRB.set8 (o := (.inr (8, [.ref ms, .ref mb, .ref mw, .int gr, .int 1, .int ca, .int mv, .ref od, .ref pt, .int ct, .int fa, .ref fi, .ref re, .int cs, .ref rc, .ref rs, .ref so, .ref ot, .ref cn, .ref la, .int ce, .ref ro, .int rn]))) hY0
      replace hms := (qs_ne (h := h) (a := y) (o := (.inr (8, [.ref ms, .ref mb, .ref mw, .int gr, .int 1, .int ca, .int mv, .ref od, .ref pt, .int ct, .int fa, .ref fi, .ref re, .int cs, .ref rc, .ref rs, .ref so, .ref ot, .ref cn, .ref la, .int ce, .ref ro, .int rn]))) (fun q => by subst q; have := hms.symm.trans hY; first | cases this | simp at this)).trans hms
      replace hmb := (qs_ne (h := h) (a := y) (o := (.inr (8, [.ref ms, .ref mb, .ref mw, .int gr, .int 1, .int ca, .int mv, .ref od, .ref pt, .int ct, .int fa, .ref fi, .ref re, .int cs, .ref rc, .ref rs, .ref so, .ref ot, .ref cn, .ref la, .int ce, .ref ro, .int rn]))) (fun q => by subst q; have := hmb.symm.trans hY; first | cases this | simp at this)).trans hmb
      replace hY : (qs h y (.inr (8, [.ref ms, .ref mb, .ref mw, .int gr, .int 1, .int ca, .int mv, .ref od, .ref pt, .int ct, .int fa, .ref fi, .ref re, .int cs, .ref rc, .ref rs, .ref so, .ref ot, .ref cn, .ref la, .int ce, .ref ro, .int rn]))) y = some (.inr (8, [.ref ms, .ref mb, .ref mw, .int gr, .int 1, .int ca, .int mv, .ref od, .ref pt, .int ct, .int fa, .ref fi, .ref re, .int cs, .ref rc, .ref rs, .ref so, .ref ot, .ref cn, .ref la, .int ce, .ref ro, .int rn])) := qs_self
      refine lv_if_eq (tgt := 39) hx hb dX8_at_21 (by decide) (fun _ => ?_) (fun c => absurd (by decide) c)
      refine lv_lconst (v := 0) hx hb dX8_at_39 (by decide) ?_
      exact q_lret C hP hS ⟨1, rfl, ⟨rfl, Or.inl ⟨fun g9 => g9.2 c9, rfl⟩⟩⟩ (by omega) dX8_at_40
    · refine lv_iconst (v := 1) hx hb dX8_at_12 (by decide) ?_
      refine lv_goto (tgt := 17) hx hb dX8_at_13 (by decide) ?_
      refine lv_iconst (v := 1) hx hb dX8_at_17 (by decide) ?_
      have hY0 := hY
      refine q_callV (rest := []) C (c_X8_good1 l D cy N0 (h) y ms mb mw od pt fi re rc rs so ot cn la ro gr cd ca mv ct fa cs ce rn 1 hY) kX8_good g1249 g1251 rfl gp41 g4 hP hS hY (by first | decide | omega) hl.1 rfl (by decide) (by first | decide | omega) dX8_at_18 (fun q ce E h' H1 locs1 hE => hE.elim) (fun v hh3 H locs hq hP hS => ?_)
      obtain ⟨rfl, rfl⟩ := hq
      replace hR := hR.set8 (o := (.inr (8, [.ref ms, .ref mb, .ref mw, .int gr, .int 0, .int ca, .int mv, .ref od, .ref pt, .int ct, .int fa, .ref fi, .ref re, .int cs, .ref rc, .ref rs, .ref so, .ref ot, .ref cn, .ref la, .int ce, .ref ro, .int rn]))) hY0
      replace hRB := hRB.set8 (o := (.inr (8, [.ref ms, .ref mb, .ref mw, .int gr, .int 0, .int ca, .int mv, .ref od, .ref pt, .int ct, .int fa, .ref fi, .ref re, .int cs, .ref rc, .ref rs, .ref so, .ref ot, .ref cn, .ref la, .int ce, .ref ro, .int rn]))) hY0
      replace hms := (qs_ne (h := h) (a := y) (o := (.inr (8, [.ref ms, .ref mb, .ref mw, .int gr, .int 0, .int ca, .int mv, .ref od, .ref pt, .int ct, .int fa, .ref fi, .ref re, .int cs, .ref rc, .ref rs, .ref so, .ref ot, .ref cn, .ref la, .int ce, .ref ro, .int rn]))) (fun q => by subst q; have := hms.symm.trans hY; first | cases this | simp at this)).trans hms
      replace hmb := (qs_ne (h := h) (a := y) (o := (.inr (8, [.ref ms, .ref mb, .ref mw, .int gr, .int 0, .int ca, .int mv, .ref od, .ref pt, .int ct, .int fa, .ref fi, .ref re, .int cs, .ref rc, .ref rs, .ref so, .ref ot, .ref cn, .ref la, .int ce, .ref ro, .int rn]))) (fun q => by subst q; have := hmb.symm.trans hY; first | cases this | simp at this)).trans hmb
      replace hY : (qs h y (.inr (8, [.ref ms, .ref mb, .ref mw, .int gr, .int 0, .int ca, .int mv, .ref od, .ref pt, .int ct, .int fa, .ref fi, .ref re, .int cs, .ref rc, .ref rs, .ref so, .ref ot, .ref cn, .ref la, .int ce, .ref ro, .int rn]))) y = some (.inr (8, [.ref ms, .ref mb, .ref mw, .int gr, .int 0, .int ca, .int mv, .ref od, .ref pt, .int ct, .int fa, .ref fi, .ref re, .int cs, .ref rc, .ref rs, .ref so, .ref ot, .ref cn, .ref la, .int ce, .ref ro, .int rn])) := qs_self
      refine lv_if_eq (tgt := 39) hx hb dX8_at_21 (by decide) (fun c => absurd c (by decide)) (fun _ => ?_)
      refine lv_aload_n hx hb dX8_at_24 rfl (lv_at hl 0 rfl) ?_
      refine lv_aload_n hx hb dX8_at_25 rfl (lv_at hl 0 rfl) ?_
      refine lv_iload_n hx hb dX8_at_26 rfl (lv_at hl 1 rfl) ?_
      refine lv_bipush (v := 79) hx hb dX8_at_27 (by decide) ?_
      obtain ⟨i0, hi0, ei0⟩ := gg0.of
      subst ei0
      refine q_callV (rest := [.ref y]) C (c_X8_holds_0 l D cy N0 (qs h y (.inr (8, [.ref ms, .ref mb, .ref mw, .int gr, .int 0, .int ca, .int mv, .ref od, .ref pt, .int ct, .int fa, .ref fi, .ref re, .int cs, .ref rc, .ref rs, .ref so, .ref ot, .ref cn, .ref la, .int ce, .ref ro, .int rn]))) y ms mb mw od pt fi re rc rs so ot cn la ro gr 0 ca mv ct fa cs ce rn f g i0 79 hY hms hmb hR hRB hi0) kX8_holds g1264 g1266 rfl gp42 g4 hP hS hY (by first | decide | omega) hl.1 rfl (by simp [q_catrf, q_cati, q_catl, q_cata, q_catn]) (by first | decide | omega) dX8_at_29 (fun q ce E h' H1 locs1 hE => hE.elim) (fun v hh4 H locs hq hP hS => ?_)
      obtain ⟨rfl, rfl⟩ := hq
      refine lv_iconst (v := 2) hx hb dX8_at_32 (by decide) ?_
      have hY0 := hY
      refine q_callV (rest := []) C (c_X8_good0 l D cy N0 (qs h y (.inr (8, [.ref ms, .ref mb, .ref mw, .int gr, .int 0, .int ca, .int mv, .ref od, .ref pt, .int ct, .int fa, .ref fi, .ref re, .int cs, .ref rc, .ref rs, .ref so, .ref ot, .ref cn, .ref la, .int ce, .ref ro, .int rn]))) y ms mb mw od pt fi re rc rs so ot cn la ro gr 0 ca mv ct fa cs ce rn 2 hY) kX8_good g1249 g1251 rfl gp41 g4 hP hS hY (by first | decide | omega) hl.1 rfl (by decide) (by first | decide | omega) dX8_at_33 (fun q ce E h' H1 locs1 hE => hE.elim) (fun v hh5 H locs hq hP hS => ?_)
      obtain ⟨rfl, rfl⟩ := hq
      replace hR := hR.re8 (o' := (.inr (8, [.ref ms, .ref mb, .ref mw, .int gr, .int 2, .int ca, .int mv, .ref od, .ref pt, .int ct, .int fa, .ref fi, .ref re, .int cs, .ref rc, .ref rs, .ref so, .ref ot, .ref cn, .ref la, .int ce, .ref ro, .int rn]))) hY0
      replace hRB := hRB.re8 (o' := (.inr (8, [.ref ms, .ref mb, .ref mw, .int gr, .int 2, .int ca, .int mv, .ref od, .ref pt, .int ct, .int fa, .ref fi, .ref re, .int cs, .ref rc, .ref rs, .ref so, .ref ot, .ref cn, .ref la, .int ce, .ref ro, .int rn]))) hY0
      rw [qs_qs] at hP
      replace hms := qs_re (o' := (.inr (8, [.ref ms, .ref mb, .ref mw, .int gr, .int 2, .int ca, .int mv, .ref od, .ref pt, .int ct, .int fa, .ref fi, .ref re, .int cs, .ref rc, .ref rs, .ref so, .ref ot, .ref cn, .ref la, .int ce, .ref ro, .int rn]))) (fun q => by subst q; have := hms.symm.trans hY; first | cases this | simp at this) hms
      replace hmb := qs_re (o' := (.inr (8, [.ref ms, .ref mb, .ref mw, .int gr, .int 2, .int ca, .int mv, .ref od, .ref pt, .int ct, .int fa, .ref fi, .ref re, .int cs, .ref rc, .ref rs, .ref so, .ref ot, .ref cn, .ref la, .int ce, .ref ro, .int rn]))) (fun q => by subst q; have := hmb.symm.trans hY; first | cases this | simp at this) hmb
      replace hY : (qs h y (.inr (8, [.ref ms, .ref mb, .ref mw, .int gr, .int 2, .int ca, .int mv, .ref od, .ref pt, .int ct, .int fa, .ref fi, .ref re, .int cs, .ref rc, .ref rs, .ref so, .ref ot, .ref cn, .ref la, .int ce, .ref ro, .int rn]))) y = some (.inr (8, [.ref ms, .ref mb, .ref mw, .int gr, .int 2, .int ca, .int mv, .ref od, .ref pt, .int ct, .int fa, .ref fi, .ref re, .int cs, .ref rc, .ref rs, .ref so, .ref ot, .ref cn, .ref la, .int ce, .ref ro, .int rn])) := qs_self
      refine lv_if_ne (tgt := 41) hx hb dX8_at_36 (by decide) (fun c => absurd rfl c) (fun _ => ?_)
      refine lv_lconst (v := 0) hx hb dX8_at_39 (by decide) ?_
      exact q_lret C hP hS ⟨2, rfl, ⟨rfl, Or.inr ⟨⟨gg0, c9⟩, rfl⟩⟩⟩ (by omega) dX8_at_40
  · refine lv_if_eq (tgt := 16) hx hb dX8_at_5 (by decide) (fun _ => ?_) (fun c => absurd (by decide) c)
    refine lv_iconst (v := 0) hx hb dX8_at_16 (by decide) ?_
    refine lv_iconst (v := 1) hx hb dX8_at_17 (by decide) ?_
    have hY0 := hY
    refine q_callV (rest := []) C (c_X8_good0 l D cy N0 (h) y ms mb mw od pt fi re rc rs so ot cn la ro gr cd ca mv ct fa cs ce rn 1 hY) kX8_good g1249 g1251 rfl gp41 g4 hP hS hY (by first | decide | omega) hl.1 rfl (by decide) (by first | decide | omega) dX8_at_18 (fun q ce E h' H1 locs1 hE => hE.elim) (fun v hh6 H locs hq hP hS => ?_)
    obtain ⟨rfl, rfl⟩ := hq
    replace hR := hR.set8 (o := (.inr (8, [.ref ms, .ref mb, .ref mw, .int gr, .int 1, .int ca, .int mv, .ref od, .ref pt, .int ct, .int fa, .ref fi, .ref re, .int cs, .ref rc, .ref rs, .ref so, .ref ot, .ref cn, .ref la, .int ce, .ref ro, .int rn]))) hY0
    replace hRB := hRB.set8 (o := (.inr (8, [.ref ms, .ref mb, .ref mw, .int gr, .int 1, .int ca, .int mv, .ref od, .ref pt, .int ct, .int fa, .ref fi, .ref re, .int cs, .ref rc, .ref rs, .ref so, .ref ot, .ref cn, .ref la, .int ce, .ref ro, .int rn]))) hY0
    replace hms := (qs_ne (h := h) (a := y) (o := (.inr (8, [.ref ms, .ref mb, .ref mw, .int gr, .int 1, .int ca, .int mv, .ref od, .ref pt, .int ct, .int fa, .ref fi, .ref re, .int cs, .ref rc, .ref rs, .ref so, .ref ot, .ref cn, .ref la, .int ce, .ref ro, .int rn]))) (fun q => by subst q; have := hms.symm.trans hY; first | cases this | simp at this)).trans hms
    replace hmb := (qs_ne (h := h) (a := y) (o := (.inr (8, [.ref ms, .ref mb, .ref mw, .int gr, .int 1, .int ca, .int mv, .ref od, .ref pt, .int ct, .int fa, .ref fi, .ref re, .int cs, .ref rc, .ref rs, .ref so, .ref ot, .ref cn, .ref la, .int ce, .ref ro, .int rn]))) (fun q => by subst q; have := hmb.symm.trans hY; first | cases this | simp at this)).trans hmb
    replace hY : (qs h y (.inr (8, [.ref ms, .ref mb, .ref mw, .int gr, .int 1, .int ca, .int mv, .ref od, .ref pt, .int ct, .int fa, .ref fi, .ref re, .int cs, .ref rc, .ref rs, .ref so, .ref ot, .ref cn, .ref la, .int ce, .ref ro, .int rn]))) y = some (.inr (8, [.ref ms, .ref mb, .ref mw, .int gr, .int 1, .int ca, .int mv, .ref od, .ref pt, .int ct, .int fa, .ref fi, .ref re, .int cs, .ref rc, .ref rs, .ref so, .ref ot, .ref cn, .ref la, .int ce, .ref ro, .int rn])) := qs_self
    refine lv_if_eq (tgt := 39) hx hb dX8_at_21 (by decide) (fun _ => ?_) (fun c => absurd (by decide) c)
    refine lv_lconst (v := 0) hx hb dX8_at_39 (by decide) ?_
    exact q_lret C hP hS ⟨1, rfl, ⟨rfl, Or.inl ⟨fun g9 => gg0 g9.1, rfl⟩⟩⟩ (by omega) dX8_at_40

theorem dX8_drop_0 : decode cX8_drop 0 = .ok (.aload_n 0, 1) := by decide +kernel
theorem dX8_drop_1 : decode cX8_drop 1 = .ok (.iload_n 1, 1) := by decide +kernel
theorem dX8_drop_2 : decode cX8_drop 2 = .ok (.invokestatic 96, 3) := by decide +kernel
theorem dX8_drop_5 : decode cX8_drop 5 = .ok (.ifCond .eq 18, 3) := by decide +kernel
theorem dX8_drop_8 : decode cX8_drop 8 = .ok (.iload_n 2, 1) := by decide +kernel
theorem dX8_drop_9 : decode cX8_drop 9 = .ok (.invokestatic 96, 3) := by decide +kernel
theorem dX8_drop_12 : decode cX8_drop 12 = .ok (.ifCond .eq 11, 3) := by decide +kernel
theorem dX8_drop_15 : decode cX8_drop 15 = .ok (.iload_n 3, 1) := by decide +kernel
theorem dX8_drop_16 : decode cX8_drop 16 = .ok (.ifCond .lt 7, 3) := by decide +kernel
theorem dX8_drop_19 : decode cX8_drop 19 = .ok (.iconst 1, 1) := by decide +kernel
theorem dX8_drop_20 : decode cX8_drop 20 = .ok (.goto 4, 3) := by decide +kernel
theorem dX8_drop_23 : decode cX8_drop 23 = .ok (.iconst 0, 1) := by decide +kernel
theorem dX8_drop_24 : decode cX8_drop 24 = .ok (.iconst 1, 1) := by decide +kernel
theorem dX8_drop_25 : decode cX8_drop 25 = .ok (.invokevirtual 100, 3) := by decide +kernel
theorem dX8_drop_28 : decode cX8_drop 28 = .ok (.ifCond .eq 43, 3) := by decide +kernel
theorem dX8_drop_31 : decode cX8_drop 31 = .ok (.aload_n 0, 1) := by decide +kernel
theorem dX8_drop_32 : decode cX8_drop 32 = .ok (.aload_n 0, 1) := by decide +kernel
theorem dX8_drop_33 : decode cX8_drop 33 = .ok (.iload_n 2, 1) := by decide +kernel
theorem dX8_drop_34 : decode cX8_drop 34 = .ok (.iconst 1, 1) := by decide +kernel
theorem dX8_drop_35 : decode cX8_drop 35 = .ok (.invokevirtual 108, 3) := by decide +kernel
theorem dX8_drop_38 : decode cX8_drop 38 = .ok (.iconst 2, 1) := by decide +kernel
theorem dX8_drop_39 : decode cX8_drop 39 = .ok (.invokevirtual 100, 3) := by decide +kernel
theorem dX8_drop_42 : decode cX8_drop 42 = .ok (.ifCond .eq 29, 3) := by decide +kernel
theorem dX8_drop_71 : decode cX8_drop 71 = .ok (.iconst 0, 1) := by decide +kernel
theorem dX8_drop_72 : decode cX8_drop 72 = .ok (.ireturn, 1) := by decide +kernel
set_option maxRecDepth 100000 in
set_option maxHeartbeats 4000000 in
theorem c_X8_drop_0 (l : Launch) (D : va_G) (cy : Nat → ClassId) (N0 : Nat) (h : qH) (y ms mb mw od pt fi re rc rs so ot cn la ro : Nat) (gr cd ca mv ct fa cs ce rn : Int32) (f g : Nat → Option Nat) (p0 : Int32) (p1 : Int32) (p2 : Int32) (p3 : Int32) (hY : h y = some (.inr (8, [.ref ms, .ref mb, .ref mw, .int gr, .int cd, .int ca, .int mv, .ref od, .ref pt, .int ct, .int fa, .ref fi, .ref re, .int cs, .ref rc, .ref rs, .ref so, .ref ot, .ref cn, .ref la, .int ce, .ref ro, .int rn]))) (hms : h ms = some (.inl (cy 5, 24, .inr (.inr (.inr (.inr f)))))) (hmb : h mb = some (.inl (cy 5, 4, .inr (.inr (.inr (.inr g)))))) (hR : qRo h f 24) (hRB : qRo h g 4) : qC l D cy N0 yX8_drop cX8_drop 6 (some .int) 1 60 0 0 [.ref y, .int p0, .int p1, .int p2, .int p3] h (fun v h' => ∃ cd', h' = qs h y (.inr (8, [.ref ms, .ref mb, .ref mw, .int gr, .int cd', .int ca, .int mv, .ref od, .ref pt, .int ct, .int fa, .ref fi, .ref re, .int cs, .ref rc, .ref rs, .ref so, .ref ot, .ref cn, .ref la, .int ce, .ref ro, .int rn])) ∧ v = some (.int 0) ∧ ((¬ (qSl p0 ∧ qSl p1 ∧ ¬ p2 < 0) ∧ cd' = 1) ∨ ((qSl p0 ∧ qSl p1 ∧ ¬ p2 < 0) ∧ cd' = 2))) (fun E h' => False) := by
  refine q_ofW (by decide) (by exact Nat.le_of_ble_eq_true rfl) ?_
  intro p e s m below meth c ls C hP hl
  have hx := C.1
  have hb := C.2.1
  have hS : va_S (qA N0) s.heap s.heap [] := va_S.rf
  have hl : lv_has ls 6 [(0, .ref y), (1, .int p0), (2, .int p1), (3, .int p2), (4, .int p3)] := hl
  refine lv_aload_n hx hb dX8_drop_0 rfl (lv_at hl 0 rfl) ?_
  refine lv_iload_n hx hb dX8_drop_1 rfl (lv_at hl 1 rfl) ?_
  refine q_callS (rest := [.ref y]) C (c_X8_isSlot l D cy N0 (h) p0) kX8_isSlot g1246 g1247 hP hS (by first | decide | omega) hl.1 rfl (by simp [q_catrf, q_cati, q_catl, q_cata, q_catn]) (by first | decide | omega) dX8_drop_2 (fun q ce E h' H1 locs1 hE => hE.elim) (fun v hh1 H locs hq hP hS => ?_)
  obtain ⟨rfl, hq⟩ := hq
  rcases hq with ⟨rfl, gg0⟩ | ⟨rfl, gg0⟩
  · refine lv_if_eq (tgt := 23) hx hb dX8_drop_5 (by decide) (fun c => absurd c (by decide)) (fun _ => ?_)
    refine lv_iload_n hx hb dX8_drop_8 rfl (lv_at hl 2 rfl) ?_
    refine q_callS (rest := [.ref y]) C (c_X8_isSlot l D cy N0 (h) p1) kX8_isSlot g1246 g1247 hP hS (by first | decide | omega) hl.1 rfl (by simp [q_catrf, q_cati, q_catl, q_cata, q_catn]) (by first | decide | omega) dX8_drop_9 (fun q ce E h' H1 locs1 hE => hE.elim) (fun v hh2 H locs hq hP hS => ?_)
    obtain ⟨rfl, hq⟩ := hq
    rcases hq with ⟨rfl, gg1⟩ | ⟨rfl, gg1⟩
    · refine lv_if_eq (tgt := 23) hx hb dX8_drop_12 (by decide) (fun c => absurd c (by decide)) (fun _ => ?_)
      refine lv_iload_n hx hb dX8_drop_15 rfl (lv_at hl 3 rfl) ?_
      refine lv_if_lt (tgt := 23) hx hb dX8_drop_16 (by decide) (fun c16 => ?_) (fun c16 => ?_)
      · refine lv_iconst (v := 0) hx hb dX8_drop_23 (by decide) ?_
        refine lv_iconst (v := 1) hx hb dX8_drop_24 (by decide) ?_
        have hY0 := hY
        refine q_callV (rest := []) C (c_X8_good0 l D cy N0 (h) y ms mb mw od pt fi re rc rs so ot cn la ro gr cd ca mv ct fa cs ce rn 1 hY) kX8_good g1249 g1251 rfl gp41 g4 hP hS hY (by first | decide | omega) hl.1 rfl (by decide) (by first | decide | omega) dX8_drop_25 (fun q ce E h' H1 locs1 hE => hE.elim) (fun v hh3 H locs hq hP hS => ?_)
        obtain ⟨rfl, rfl⟩ := hq
        replace hR := hR.set8 (o := (.inr (8, [.ref ms, .ref mb, .ref mw, .int gr, .int 1, .int ca, .int mv, .ref od, .ref pt, .int ct, .int fa, .ref fi, .ref re, .int cs, .ref rc, .ref rs, .ref so, .ref ot, .ref cn, .ref la, .int ce, .ref ro, .int rn]))) hY0
        replace hRB := hRB.set8 (o := (.inr (8, [.ref ms, .ref mb, .ref mw, .int gr, .int 1, .int ca, .int mv, .ref od, .ref pt, .int ct, .int fa, .ref fi, .ref re, .int cs, .ref rc, .ref rs, .ref so, .ref ot, .ref cn, .ref la, .int ce, .ref ro, .int rn]))) hY0
        replace hms := (qs_ne (h := h) (a := y) (o := (.inr (8, [.ref ms, .ref mb, .ref mw, .int gr, .int 1, .int ca, .int mv, .ref od, .ref pt, .int ct, .int fa, .ref fi, .ref re, .int cs, .ref rc, .ref rs, .ref so, .ref ot, .ref cn, .ref la, .int ce, .ref ro, .int rn]))) (fun q => by subst q; have := hms.symm.trans hY; first | cases this | simp at this)).trans hms
        replace hmb := (qs_ne (h := h) (a := y) (o := (.inr (8, [.ref ms, .ref mb, .ref mw, .int gr, .int 1, .int ca, .int mv, .ref od, .ref pt, .int ct, .int fa, .ref fi, .ref re, .int cs, .ref rc, .ref rs, .ref so, .ref ot, .ref cn, .ref la, .int ce, .ref ro, .int rn]))) (fun q => by subst q; have := hmb.symm.trans hY; first | cases this | simp at this)).trans hmb
        replace hY : (qs h y (.inr (8, [.ref ms, .ref mb, .ref mw, .int gr, .int 1, .int ca, .int mv, .ref od, .ref pt, .int ct, .int fa, .ref fi, .ref re, .int cs, .ref rc, .ref rs, .ref so, .ref ot, .ref cn, .ref la, .int ce, .ref ro, .int rn]))) y = some (.inr (8, [.ref ms, .ref mb, .ref mw, .int gr, .int 1, .int ca, .int mv, .ref od, .ref pt, .int ct, .int fa, .ref fi, .ref re, .int cs, .ref rc, .ref rs, .ref so, .ref ot, .ref cn, .ref la, .int ce, .ref ro, .int rn])) := qs_self
        refine lv_if_eq (tgt := 71) hx hb dX8_drop_28 (by decide) (fun _ => ?_) (fun c => absurd (by decide) c)
        refine lv_iconst (v := 0) hx hb dX8_drop_71 (by decide) ?_
        exact q_iret C hP hS ⟨1, rfl, ⟨rfl, Or.inl ⟨fun g9 => g9.2.2 c16, rfl⟩⟩⟩ (by omega) dX8_drop_72
      · refine lv_iconst (v := 1) hx hb dX8_drop_19 (by decide) ?_
        refine lv_goto (tgt := 24) hx hb dX8_drop_20 (by decide) ?_
        refine lv_iconst (v := 1) hx hb dX8_drop_24 (by decide) ?_
        have hY0 := hY
        refine q_callV (rest := []) C (c_X8_good1 l D cy N0 (h) y ms mb mw od pt fi re rc rs so ot cn la ro gr cd ca mv ct fa cs ce rn 1 hY) kX8_good g1249 g1251 rfl gp41 g4 hP hS hY (by first | decide | omega) hl.1 rfl (by decide) (by first | decide | omega) dX8_drop_25 (fun q ce E h' H1 locs1 hE => hE.elim) (fun v hh4 H locs hq hP hS => ?_)
        obtain ⟨rfl, rfl⟩ := hq
        replace hR := hR.set8 (o := (.inr (8, [.ref ms, .ref mb, .ref mw, .int gr, .int 0, .int ca, .int mv, .ref od, .ref pt, .int ct, .int fa, .ref fi, .ref re, .int cs, .ref rc, .ref rs, .ref so, .ref ot, .ref cn, .ref la, .int ce, .ref ro, .int rn]))) hY0
        replace hRB := hRB.set8 (o := (.inr (8, [.ref ms, .ref mb, .ref mw, .int gr, .int 0, .int ca, .int mv, .ref od, .ref pt, .int ct, .int fa, .ref fi, .ref re, .int cs, .ref rc, .ref rs, .ref so, .ref ot, .ref cn, .ref la, .int ce, .ref ro, .int rn]))) hY0
        replace hms := (qs_ne (h := h) (a := y) (o := (.inr (8, [.ref ms, .ref mb, .ref mw, .int gr, .int 0, .int ca, .int mv, .ref od, .ref pt, .int ct, .int fa, .ref fi, .ref re, .int cs, .ref rc, .ref rs, .ref so, .ref ot, .ref cn, .ref la, .int ce, .ref ro, .int rn]))) (fun q => by subst q; have := hms.symm.trans hY; first | cases this | simp at this)).trans hms
        replace hmb := (qs_ne (h := h) (a := y) (o := (.inr (8, [.ref ms, .ref mb, .ref mw, .int gr, .int 0, .int ca, .int mv, .ref od, .ref pt, .int ct, .int fa, .ref fi, .ref re, .int cs, .ref rc, .ref rs, .ref so, .ref ot, .ref cn, .ref la, .int ce, .ref ro, .int rn]))) (fun q => by subst q; have := hmb.symm.trans hY; first | cases this | simp at this)).trans hmb
        replace hY : (qs h y (.inr (8, [.ref ms, .ref mb, .ref mw, .int gr, .int 0, .int ca, .int mv, .ref od, .ref pt, .int ct, .int fa, .ref fi, .ref re, .int cs, .ref rc, .ref rs, .ref so, .ref ot, .ref cn, .ref la, .int ce, .ref ro, .int rn]))) y = some (.inr (8, [.ref ms, .ref mb, .ref mw, .int gr, .int 0, .int ca, .int mv, .ref od, .ref pt, .int ct, .int fa, .ref fi, .ref re, .int cs, .ref rc, .ref rs, .ref so, .ref ot, .ref cn, .ref la, .int ce, .ref ro, .int rn])) := qs_self
        refine lv_if_eq (tgt := 71) hx hb dX8_drop_28 (by decide) (fun c => absurd c (by decide)) (fun _ => ?_)
        refine lv_aload_n hx hb dX8_drop_31 rfl (lv_at hl 0 rfl) ?_
        refine lv_aload_n hx hb dX8_drop_32 rfl (lv_at hl 0 rfl) ?_
        refine lv_iload_n hx hb dX8_drop_33 rfl (lv_at hl 2 rfl) ?_
        refine lv_iconst (v := 1) hx hb dX8_drop_34 (by decide) ?_
        obtain ⟨i1, hi1, ei1⟩ := gg1.of
        subst ei1
        refine q_callV (rest := [.ref y]) C (c_X8_holds_0 l D cy N0 (qs h y (.inr (8, [.ref ms, .ref mb, .ref mw, .int gr, .int 0, .int ca, .int mv, .ref od, .ref pt, .int ct, .int fa, .ref fi, .ref re, .int cs, .ref rc, .ref rs, .ref so, .ref ot, .ref cn, .ref la, .int ce, .ref ro, .int rn]))) y ms mb mw od pt fi re rc rs so ot cn la ro gr 0 ca mv ct fa cs ce rn f g i1 1 hY hms hmb hR hRB hi1) kX8_holds g1264 g1266 rfl gp42 g4 hP hS hY (by first | decide | omega) hl.1 rfl (by simp [q_catrf, q_cati, q_catl, q_cata, q_catn]) (by first | decide | omega) dX8_drop_35 (fun q ce E h' H1 locs1 hE => hE.elim) (fun v hh5 H locs hq hP hS => ?_)
        obtain ⟨rfl, rfl⟩ := hq
        refine lv_iconst (v := 2) hx hb dX8_drop_38 (by decide) ?_
        have hY0 := hY
        refine q_callV (rest := []) C (c_X8_good0 l D cy N0 (qs h y (.inr (8, [.ref ms, .ref mb, .ref mw, .int gr, .int 0, .int ca, .int mv, .ref od, .ref pt, .int ct, .int fa, .ref fi, .ref re, .int cs, .ref rc, .ref rs, .ref so, .ref ot, .ref cn, .ref la, .int ce, .ref ro, .int rn]))) y ms mb mw od pt fi re rc rs so ot cn la ro gr 0 ca mv ct fa cs ce rn 2 hY) kX8_good g1249 g1251 rfl gp41 g4 hP hS hY (by first | decide | omega) hl.1 rfl (by decide) (by first | decide | omega) dX8_drop_39 (fun q ce E h' H1 locs1 hE => hE.elim) (fun v hh6 H locs hq hP hS => ?_)
        obtain ⟨rfl, rfl⟩ := hq
        replace hR := hR.re8 (o' := (.inr (8, [.ref ms, .ref mb, .ref mw, .int gr, .int 2, .int ca, .int mv, .ref od, .ref pt, .int ct, .int fa, .ref fi, .ref re, .int cs, .ref rc, .ref rs, .ref so, .ref ot, .ref cn, .ref la, .int ce, .ref ro, .int rn]))) hY0
        replace hRB := hRB.re8 (o' := (.inr (8, [.ref ms, .ref mb, .ref mw, .int gr, .int 2, .int ca, .int mv, .ref od, .ref pt, .int ct, .int fa, .ref fi, .ref re, .int cs, .ref rc, .ref rs, .ref so, .ref ot, .ref cn, .ref la, .int ce, .ref ro, .int rn]))) hY0
        rw [qs_qs] at hP
        replace hms := qs_re (o' := (.inr (8, [.ref ms, .ref mb, .ref mw, .int gr, .int 2, .int ca, .int mv, .ref od, .ref pt, .int ct, .int fa, .ref fi, .ref re, .int cs, .ref rc, .ref rs, .ref so, .ref ot, .ref cn, .ref la, .int ce, .ref ro, .int rn]))) (fun q => by subst q; have := hms.symm.trans hY; first | cases this | simp at this) hms
        replace hmb := qs_re (o' := (.inr (8, [.ref ms, .ref mb, .ref mw, .int gr, .int 2, .int ca, .int mv, .ref od, .ref pt, .int ct, .int fa, .ref fi, .ref re, .int cs, .ref rc, .ref rs, .ref so, .ref ot, .ref cn, .ref la, .int ce, .ref ro, .int rn]))) (fun q => by subst q; have := hmb.symm.trans hY; first | cases this | simp at this) hmb
        replace hY : (qs h y (.inr (8, [.ref ms, .ref mb, .ref mw, .int gr, .int 2, .int ca, .int mv, .ref od, .ref pt, .int ct, .int fa, .ref fi, .ref re, .int cs, .ref rc, .ref rs, .ref so, .ref ot, .ref cn, .ref la, .int ce, .ref ro, .int rn]))) y = some (.inr (8, [.ref ms, .ref mb, .ref mw, .int gr, .int 2, .int ca, .int mv, .ref od, .ref pt, .int ct, .int fa, .ref fi, .ref re, .int cs, .ref rc, .ref rs, .ref so, .ref ot, .ref cn, .ref la, .int ce, .ref ro, .int rn])) := qs_self
        refine lv_if_eq (tgt := 71) hx hb dX8_drop_42 (by decide) (fun _ => ?_) (fun c => absurd (by decide) c)
        refine lv_iconst (v := 0) hx hb dX8_drop_71 (by decide) ?_
        exact q_iret C hP hS ⟨2, rfl, ⟨rfl, Or.inr ⟨⟨gg0, gg1, c16⟩, rfl⟩⟩⟩ (by omega) dX8_drop_72
    · refine lv_if_eq (tgt := 23) hx hb dX8_drop_12 (by decide) (fun _ => ?_) (fun c => absurd (by decide) c)
      refine lv_iconst (v := 0) hx hb dX8_drop_23 (by decide) ?_
      refine lv_iconst (v := 1) hx hb dX8_drop_24 (by decide) ?_
      have hY0 := hY
      refine q_callV (rest := []) C (c_X8_good0 l D cy N0 (h) y ms mb mw od pt fi re rc rs so ot cn la ro gr cd ca mv ct fa cs ce rn 1 hY) kX8_good g1249 g1251 rfl gp41 g4 hP hS hY (by first | decide | omega) hl.1 rfl (by decide) (by first | decide | omega) dX8_drop_25 (fun q ce E h' H1 locs1 hE => hE.elim) (fun v hh7 H locs hq hP hS => ?_)
      obtain ⟨rfl, rfl⟩ := hq
      replace hR := hR.set8 (o := (.inr (8, [.ref ms, .ref mb, .ref mw, .int gr, .int 1, .int ca, .int mv, .ref od, .ref pt, .int ct, .int fa, .ref fi, .ref re, .int cs, .ref rc, .ref rs, .ref so, .ref ot, .ref cn, .ref la, .int ce, .ref ro, .int rn]))) hY0
      replace hRB := hRB.set8 (o := (.inr (8, [.ref ms, .ref mb, .ref mw, .int gr, .int 1, .int ca, .int mv, .ref od, .ref pt, .int ct, .int fa, .ref fi, .ref re, .int cs, .ref rc, .ref rs, .ref so, .ref ot, .ref cn, .ref la, .int ce, .ref ro, .int rn]))) hY0
      replace hms := (qs_ne (h := h) (a := y) (o := (.inr (8, [.ref ms, .ref mb, .ref mw, .int gr, .int 1, .int ca, .int mv, .ref od, .ref pt, .int ct, .int fa, .ref fi, .ref re, .int cs, .ref rc, .ref rs, .ref so, .ref ot, .ref cn, .ref la, .int ce, .ref ro, .int rn]))) (fun q => by subst q; have := hms.symm.trans hY; first | cases this | simp at this)).trans hms
      replace hmb := (qs_ne (h := h) (a := y) (o := (.inr (8, [.ref ms, .ref mb, .ref mw, .int gr, .int 1, .int ca, .int mv, .ref od, .ref pt, .int ct, .int fa, .ref fi, .ref re, .int cs, .ref rc, .ref rs, .ref so, .ref ot, .ref cn, .ref la, .int ce, .ref ro, .int rn]))) (fun q => by subst q; have := hmb.symm.trans hY; first | cases this | simp at this)).trans hmb
      replace hY : (qs h y (.inr (8, [.ref ms, .ref mb, .ref mw, .int gr, .int 1, .int ca, .int mv, .ref od, .ref pt, .int ct, .int fa, .ref fi, .ref re, .int cs, .ref rc, .ref rs, .ref so, .ref ot, .ref cn, .ref la, .int ce, .ref ro, .int rn]))) y = some (.inr (8, [.ref ms, .ref mb, .ref mw, .int gr, .int 1, .int ca, .int mv, .ref od, .ref pt, .int ct, .int fa, .ref fi, .ref re, .int cs, .ref rc, .ref rs, .ref so, .ref ot, .ref cn, .ref la, .int ce, .ref ro, .int rn])) := qs_self
      refine lv_if_eq (tgt := 71) hx hb dX8_drop_28 (by decide) (fun _ => ?_) (fun c => absurd (by decide) c)
      refine lv_iconst (v := 0) hx hb dX8_drop_71 (by decide) ?_
      exact q_iret C hP hS ⟨1, rfl, ⟨rfl, Or.inl ⟨fun g9 => gg1 g9.2.1, rfl⟩⟩⟩ (by omega) dX8_drop_72
  · refine lv_if_eq (tgt := 23) hx hb dX8_drop_5 (by decide) (fun _ => ?_) (fun c => absurd (by decide) c)
    refine lv_iconst (v := 0) hx hb dX8_drop_23 (by decide) ?_
    refine lv_iconst (v := 1) hx hb dX8_drop_24 (by decide) ?_
    have hY0 := hY
    refine q_callV (rest := []) C (c_X8_good0 l D cy N0 (h) y ms mb mw od pt fi re rc rs so ot cn la ro gr cd ca mv ct fa cs ce rn 1 hY) kX8_good g1249 g1251 rfl gp41 g4 hP hS hY (by first | decide | omega) hl.1 rfl (by decide) (by first | decide | omega) dX8_drop_25 (fun q ce E h' H1 locs1 hE => hE.elim) (fun v hh8 H locs hq hP hS => ?_)
    obtain ⟨rfl, rfl⟩ := hq
    replace hR := hR.set8 (o := (.inr (8, [.ref ms, .ref mb, .ref mw, .int gr, .int 1, .int ca, .int mv, .ref od, .ref pt, .int ct, .int fa, .ref fi, .ref re, .int cs, .ref rc, .ref rs, .ref so, .ref ot, .ref cn, .ref la, .int ce, .ref ro, .int rn]))) hY0
    replace hRB := hRB.set8 (o := (.inr (8, [.ref ms, .ref mb, .ref mw, .int gr, .int 1, .int ca, .int mv, .ref od, .ref pt, .int ct, .int fa, .ref fi, .ref re, .int cs, .ref rc, .ref rs, .ref so, .ref ot, .ref cn, .ref la, .int ce, .ref ro, .int rn]))) hY0
    replace hms := (qs_ne (h := h) (a := y) (o := (.inr (8, [.ref ms, .ref mb, .ref mw, .int gr, .int 1, .int ca, .int mv, .ref od, .ref pt, .int ct, .int fa, .ref fi, .ref re, .int cs, .ref rc, .ref rs, .ref so, .ref ot, .ref cn, .ref la, .int ce, .ref ro, .int rn]))) (fun q => by subst q; have := hms.symm.trans hY; first | cases this | simp at this)).trans hms
    replace hmb := (qs_ne (h := h) (a := y) (o := (.inr (8, [.ref ms, .ref mb, .ref mw, .int gr, .int 1, .int ca, .int mv, .ref od, .ref pt, .int ct, .int fa, .ref fi, .ref re, .int cs, .ref rc, .ref rs, .ref so, .ref ot, .ref cn, .ref la, .int ce, .ref ro, .int rn]))) (fun q => by subst q; have := hmb.symm.trans hY; first | cases this | simp at this)).trans hmb
    replace hY : (qs h y (.inr (8, [.ref ms, .ref mb, .ref mw, .int gr, .int 1, .int ca, .int mv, .ref od, .ref pt, .int ct, .int fa, .ref fi, .ref re, .int cs, .ref rc, .ref rs, .ref so, .ref ot, .ref cn, .ref la, .int ce, .ref ro, .int rn]))) y = some (.inr (8, [.ref ms, .ref mb, .ref mw, .int gr, .int 1, .int ca, .int mv, .ref od, .ref pt, .int ct, .int fa, .ref fi, .ref re, .int cs, .ref rc, .ref rs, .ref so, .ref ot, .ref cn, .ref la, .int ce, .ref ro, .int rn])) := qs_self
    refine lv_if_eq (tgt := 71) hx hb dX8_drop_28 (by decide) (fun _ => ?_) (fun c => absurd (by decide) c)
    refine lv_iconst (v := 0) hx hb dX8_drop_71 (by decide) ?_
    exact q_iret C hP hS ⟨1, rfl, ⟨rfl, Or.inl ⟨fun g9 => gg0 g9.1, rfl⟩⟩⟩ (by omega) dX8_drop_72

theorem dX8_pop_0 : decode cX8_pop 0 = .ok (.aload_n 0, 1) := by decide +kernel
theorem dX8_pop_1 : decode cX8_pop 1 = .ok (.iload_n 1, 1) := by decide +kernel
theorem dX8_pop_2 : decode cX8_pop 2 = .ok (.invokestatic 96, 3) := by decide +kernel
theorem dX8_pop_5 : decode cX8_pop 5 = .ok (.ifCond .eq 14, 3) := by decide +kernel
theorem dX8_pop_8 : decode cX8_pop 8 = .ok (.iload_n 2, 1) := by decide +kernel
theorem dX8_pop_9 : decode cX8_pop 9 = .ok (.invokestatic 96, 3) := by decide +kernel
theorem dX8_pop_12 : decode cX8_pop 12 = .ok (.ifCond .eq 7, 3) := by decide +kernel
theorem dX8_pop_15 : decode cX8_pop 15 = .ok (.iconst 1, 1) := by decide +kernel
theorem dX8_pop_16 : decode cX8_pop 16 = .ok (.goto 4, 3) := by decide +kernel
theorem dX8_pop_19 : decode cX8_pop 19 = .ok (.iconst 0, 1) := by decide +kernel
theorem dX8_pop_20 : decode cX8_pop 20 = .ok (.iconst 1, 1) := by decide +kernel
theorem dX8_pop_21 : decode cX8_pop 21 = .ok (.invokevirtual 100, 3) := by decide +kernel
theorem dX8_pop_24 : decode cX8_pop 24 = .ok (.ifCond .eq 18, 3) := by decide +kernel
theorem dX8_pop_27 : decode cX8_pop 27 = .ok (.aload_n 0, 1) := by decide +kernel
theorem dX8_pop_28 : decode cX8_pop 28 = .ok (.aload_n 0, 1) := by decide +kernel
theorem dX8_pop_29 : decode cX8_pop 29 = .ok (.iload_n 2, 1) := by decide +kernel
theorem dX8_pop_30 : decode cX8_pop 30 = .ok (.bipush 113, 2) := by decide +kernel
theorem dX8_pop_32 : decode cX8_pop 32 = .ok (.invokevirtual 108, 3) := by decide +kernel
theorem dX8_pop_35 : decode cX8_pop 35 = .ok (.iconst 2, 1) := by decide +kernel
theorem dX8_pop_36 : decode cX8_pop 36 = .ok (.invokevirtual 100, 3) := by decide +kernel
theorem dX8_pop_39 : decode cX8_pop 39 = .ok (.ifCond .ne 5, 3) := by decide +kernel
theorem dX8_pop_42 : decode cX8_pop 42 = .ok (.lconst 0, 1) := by decide +kernel
theorem dX8_pop_43 : decode cX8_pop 43 = .ok (.lreturn, 1) := by decide +kernel
set_option maxRecDepth 100000 in
set_option maxHeartbeats 4000000 in
theorem c_X8_pop_0 (l : Launch) (D : va_G) (cy : Nat → ClassId) (N0 : Nat) (h : qH) (y ms mb mw od pt fi re rc rs so ot cn la ro : Nat) (gr cd ca mv ct fa cs ce rn : Int32) (f g : Nat → Option Nat) (p0 : Int32) (p1 : Int32) (hY : h y = some (.inr (8, [.ref ms, .ref mb, .ref mw, .int gr, .int cd, .int ca, .int mv, .ref od, .ref pt, .int ct, .int fa, .ref fi, .ref re, .int cs, .ref rc, .ref rs, .ref so, .ref ot, .ref cn, .ref la, .int ce, .ref ro, .int rn]))) (hms : h ms = some (.inl (cy 5, 24, .inr (.inr (.inr (.inr f)))))) (hmb : h mb = some (.inl (cy 5, 4, .inr (.inr (.inr (.inr g)))))) (hR : qRo h f 24) (hRB : qRo h g 4) : qC l D cy N0 yX8_pop cX8_pop 7 (some .long) 1 60 0 0 [.ref y, .int p0, .int p1] h (fun v h' => ∃ cd', h' = qs h y (.inr (8, [.ref ms, .ref mb, .ref mw, .int gr, .int cd', .int ca, .int mv, .ref od, .ref pt, .int ct, .int fa, .ref fi, .ref re, .int cs, .ref rc, .ref rs, .ref so, .ref ot, .ref cn, .ref la, .int ce, .ref ro, .int rn])) ∧ v = some (.long 0) ∧ ((¬ (qSl p0 ∧ qSl p1) ∧ cd' = 1) ∨ ((qSl p0 ∧ qSl p1) ∧ cd' = 2))) (fun E h' => False) := by
  refine q_ofW (by decide) (by exact Nat.le_of_ble_eq_true rfl) ?_
  intro p e s m below meth c ls C hP hl
  have hx := C.1
  have hb := C.2.1
  have hS : va_S (qA N0) s.heap s.heap [] := va_S.rf
  have hl : lv_has ls 7 [(0, .ref y), (1, .int p0), (2, .int p1)] := hl
  refine lv_aload_n hx hb dX8_pop_0 rfl (lv_at hl 0 rfl) ?_
  refine lv_iload_n hx hb dX8_pop_1 rfl (lv_at hl 1 rfl) ?_
  refine q_callS (rest := [.ref y]) C (c_X8_isSlot l D cy N0 (h) p0) kX8_isSlot g1246 g1247 hP hS (by first | decide | omega) hl.1 rfl (by simp [q_catrf, q_cati, q_catl, q_cata, q_catn]) (by first | decide | omega) dX8_pop_2 (fun q ce E h' H1 locs1 hE => hE.elim) (fun v hh1 H locs hq hP hS => ?_)
  obtain ⟨rfl, hq⟩ := hq
  rcases hq with ⟨rfl, gg0⟩ | ⟨rfl, gg0⟩
  · refine lv_if_eq (tgt := 19) hx hb dX8_pop_5 (by decide) (fun c => absurd c (by decide)) (fun _ => ?_)
    refine lv_iload_n hx hb dX8_pop_8 rfl (lv_at hl 2 rfl) ?_
    refine q_callS (rest := [.ref y]) C (c_X8_isSlot l D cy N0 (h) p1) kX8_isSlot g1246 g1247 hP hS (by first | decide | omega) hl.1 rfl (by simp [q_catrf, q_cati, q_catl, q_cata, q_catn]) (by first | decide | omega) dX8_pop_9 (fun q ce E h' H1 locs1 hE => hE.elim) (fun v hh2 H locs hq hP hS => ?_)
    obtain ⟨rfl, hq⟩ := hq
    rcases hq with ⟨rfl, gg1⟩ | ⟨rfl, gg1⟩
    · refine lv_if_eq (tgt := 19) hx hb dX8_pop_12 (by decide) (fun c => absurd c (by decide)) (fun _ => ?_)
      refine lv_iconst (v := 1) hx hb dX8_pop_15 (by decide) ?_
      refine lv_goto (tgt := 20) hx hb dX8_pop_16 (by decide) ?_
      refine lv_iconst (v := 1) hx hb dX8_pop_20 (by decide) ?_
      have hY0 := hY
      refine q_callV (rest := []) C (c_X8_good1 l D cy N0 (h) y ms mb mw od pt fi re rc rs so ot cn la ro gr cd ca mv ct fa cs ce rn 1 hY) kX8_good g1249 g1251 rfl gp41 g4 hP hS hY (by first | decide | omega) hl.1 rfl (by decide) (by first | decide | omega) dX8_pop_21 (fun q ce E h' H1 locs1 hE => hE.elim) (fun v hh3 H locs hq hP hS => ?_)
      obtain ⟨rfl, rfl⟩ := hq
      replace hR := hR.set8 (o := (.inr (8, [.ref ms, .ref mb, .ref mw, .int gr, .int 0, .int ca, .int mv, .ref od, .ref pt, .int ct, .int fa, .ref fi, .ref re, .int cs, .ref rc, .ref rs, .ref so, .ref ot, .ref cn, .ref la, .int ce, .ref ro, .int rn]))) hY0
      replace hRB := hRB.set8 (o := (.inr (8, [.ref ms, .ref mb, .ref mw, .int gr, .int 0, .int ca, .int mv, .ref od, .ref pt, .int ct, .int fa, .ref fi, .ref re, .int cs, .ref rc, .ref rs, .ref so, .ref ot, .ref cn, .ref la, .int ce, .ref ro, .int rn]))) hY0
      replace hms := (qs_ne (h := h) (a := y) (o := (.inr (8, [.ref ms, .ref mb, .ref mw, .int gr, .int 0, .int ca, .int mv, .ref od, .ref pt, .int ct, .int fa, .ref fi, .ref re, .int cs, .ref rc, .ref rs, .ref so, .ref ot, .ref cn, .ref la, .int ce, .ref ro, .int rn]))) (fun q => by subst q; have := hms.symm.trans hY; first | cases this | simp at this)).trans hms
      replace hmb := (qs_ne (h := h) (a := y) (o := (.inr (8, [.ref ms, .ref mb, .ref mw, .int gr, .int 0, .int ca, .int mv, .ref od, .ref pt, .int ct, .int fa, .ref fi, .ref re, .int cs, .ref rc, .ref rs, .ref so, .ref ot, .ref cn, .ref la, .int ce, .ref ro, .int rn]))) (fun q => by subst q; have := hmb.symm.trans hY; first | cases this | simp at this)).trans hmb
      replace hY : (qs h y (.inr (8, [.ref ms, .ref mb, .ref mw, .int gr, .int 0, .int ca, .int mv, .ref od, .ref pt, .int ct, .int fa, .ref fi, .ref re, .int cs, .ref rc, .ref rs, .ref so, .ref ot, .ref cn, .ref la, .int ce, .ref ro, .int rn]))) y = some (.inr (8, [.ref ms, .ref mb, .ref mw, .int gr, .int 0, .int ca, .int mv, .ref od, .ref pt, .int ct, .int fa, .ref fi, .ref re, .int cs, .ref rc, .ref rs, .ref so, .ref ot, .ref cn, .ref la, .int ce, .ref ro, .int rn])) := qs_self
      refine lv_if_eq (tgt := 42) hx hb dX8_pop_24 (by decide) (fun c => absurd c (by decide)) (fun _ => ?_)
      refine lv_aload_n hx hb dX8_pop_27 rfl (lv_at hl 0 rfl) ?_
      refine lv_aload_n hx hb dX8_pop_28 rfl (lv_at hl 0 rfl) ?_
      refine lv_iload_n hx hb dX8_pop_29 rfl (lv_at hl 2 rfl) ?_
      refine lv_bipush (v := 113) hx hb dX8_pop_30 (by decide) ?_
      obtain ⟨i1, hi1, ei1⟩ := gg1.of
      subst ei1
      refine q_callV (rest := [.ref y]) C (c_X8_holds_0 l D cy N0 (qs h y (.inr (8, [.ref ms, .ref mb, .ref mw, .int gr, .int 0, .int ca, .int mv, .ref od, .ref pt, .int ct, .int fa, .ref fi, .ref re, .int cs, .ref rc, .ref rs, .ref so, .ref ot, .ref cn, .ref la, .int ce, .ref ro, .int rn]))) y ms mb mw od pt fi re rc rs so ot cn la ro gr 0 ca mv ct fa cs ce rn f g i1 113 hY hms hmb hR hRB hi1) kX8_holds g1264 g1266 rfl gp42 g4 hP hS hY (by first | decide | omega) hl.1 rfl (by simp [q_catrf, q_cati, q_catl, q_cata, q_catn]) (by first | decide | omega) dX8_pop_32 (fun q ce E h' H1 locs1 hE => hE.elim) (fun v hh4 H locs hq hP hS => ?_)
      obtain ⟨rfl, rfl⟩ := hq
      refine lv_iconst (v := 2) hx hb dX8_pop_35 (by decide) ?_
      have hY0 := hY
      refine q_callV (rest := []) C (c_X8_good0 l D cy N0 (qs h y (.inr (8, [.ref ms, .ref mb, .ref mw, .int gr, .int 0, .int ca, .int mv, .ref od, .ref pt, .int ct, .int fa, .ref fi, .ref re, .int cs, .ref rc, .ref rs, .ref so, .ref ot, .ref cn, .ref la, .int ce, .ref ro, .int rn]))) y ms mb mw od pt fi re rc rs so ot cn la ro gr 0 ca mv ct fa cs ce rn 2 hY) kX8_good g1249 g1251 rfl gp41 g4 hP hS hY (by first | decide | omega) hl.1 rfl (by decide) (by first | decide | omega) dX8_pop_36 (fun q ce E h' H1 locs1 hE => hE.elim) (fun v hh5 H locs hq hP hS => ?_)
      obtain ⟨rfl, rfl⟩ := hq
      replace hR := hR.re8 (o' := (.inr (8, [.ref ms, .ref mb, .ref mw, .int gr, .int 2, .int ca, .int mv, .ref od, .ref pt, .int ct, .int fa, .ref fi, .ref re, .int cs, .ref rc, .ref rs, .ref so, .ref ot, .ref cn, .ref la, .int ce, .ref ro, .int rn]))) hY0
      replace hRB := hRB.re8 (o' := (.inr (8, [.ref ms, .ref mb, .ref mw, .int gr, .int 2, .int ca, .int mv, .ref od, .ref pt, .int ct, .int fa, .ref fi, .ref re, .int cs, .ref rc, .ref rs, .ref so, .ref ot, .ref cn, .ref la, .int ce, .ref ro, .int rn]))) hY0
      rw [qs_qs] at hP
      replace hms := qs_re (o' := (.inr (8, [.ref ms, .ref mb, .ref mw, .int gr, .int 2, .int ca, .int mv, .ref od, .ref pt, .int ct, .int fa, .ref fi, .ref re, .int cs, .ref rc, .ref rs, .ref so, .ref ot, .ref cn, .ref la, .int ce, .ref ro, .int rn]))) (fun q => by subst q; have := hms.symm.trans hY; first | cases this | simp at this) hms
      replace hmb := qs_re (o' := (.inr (8, [.ref ms, .ref mb, .ref mw, .int gr, .int 2, .int ca, .int mv, .ref od, .ref pt, .int ct, .int fa, .ref fi, .ref re, .int cs, .ref rc, .ref rs, .ref so, .ref ot, .ref cn, .ref la, .int ce, .ref ro, .int rn]))) (fun q => by subst q; have := hmb.symm.trans hY; first | cases this | simp at this) hmb
      replace hY : (qs h y (.inr (8, [.ref ms, .ref mb, .ref mw, .int gr, .int 2, .int ca, .int mv, .ref od, .ref pt, .int ct, .int fa, .ref fi, .ref re, .int cs, .ref rc, .ref rs, .ref so, .ref ot, .ref cn, .ref la, .int ce, .ref ro, .int rn]))) y = some (.inr (8, [.ref ms, .ref mb, .ref mw, .int gr, .int 2, .int ca, .int mv, .ref od, .ref pt, .int ct, .int fa, .ref fi, .ref re, .int cs, .ref rc, .ref rs, .ref so, .ref ot, .ref cn, .ref la, .int ce, .ref ro, .int rn])) := qs_self
      refine lv_if_ne (tgt := 44) hx hb dX8_pop_39 (by decide) (fun c => absurd rfl c) (fun _ => ?_)
      refine lv_lconst (v := 0) hx hb dX8_pop_42 (by decide) ?_
      exact q_lret C hP hS ⟨2, rfl, ⟨rfl, Or.inr ⟨⟨gg0, gg1⟩, rfl⟩⟩⟩ (by omega) dX8_pop_43
    · refine lv_if_eq (tgt := 19) hx hb dX8_pop_12 (by decide) (fun _ => ?_) (fun c => absurd (by decide) c)
      refine lv_iconst (v := 0) hx hb dX8_pop_19 (by decide) ?_
      refine lv_iconst (v := 1) hx hb dX8_pop_20 (by decide) ?_
      have hY0 := hY
      refine q_callV (rest := []) C (c_X8_good0 l D cy N0 (h) y ms mb mw od pt fi re rc rs so ot cn la ro gr cd ca mv ct fa cs ce rn 1 hY) kX8_good g1249 g1251 rfl gp41 g4 hP hS hY (by first | decide | omega) hl.1 rfl (by decide) (by first | decide | omega) dX8_pop_21 (fun q ce E h' H1 locs1 hE => hE.elim) (fun v hh6 H locs hq hP hS => ?_)
      obtain ⟨rfl, rfl⟩ := hq
      replace hR := hR.set8 (o := (.inr (8, [.ref ms, .ref mb, .ref mw, .int gr, .int 1, .int ca, .int mv, .ref od, .ref pt, .int ct, .int fa, .ref fi, .ref re, .int cs, .ref rc, .ref rs, .ref so, .ref ot, .ref cn, .ref la, .int ce, .ref ro, .int rn]))) hY0
      replace hRB := hRB.set8 (o := (.inr (8, [.ref ms, .ref mb, .ref mw, .int gr, .int 1, .int ca, .int mv, .ref od, .ref pt, .int ct, .int fa, .ref fi, .ref re, .int cs, .ref rc, .ref rs, .ref so, .ref ot, .ref cn, .ref la, .int ce, .ref ro, .int rn]))) hY0
      replace hms := (qs_ne (h := h) (a := y) (o := (.inr (8, [.ref ms, .ref mb, .ref mw, .int gr, .int 1, .int ca, .int mv, .ref od, .ref pt, .int ct, .int fa, .ref fi, .ref re, .int cs, .ref rc, .ref rs, .ref so, .ref ot, .ref cn, .ref la, .int ce, .ref ro, .int rn]))) (fun q => by subst q; have := hms.symm.trans hY; first | cases this | simp at this)).trans hms
      replace hmb := (qs_ne (h := h) (a := y) (o := (.inr (8, [.ref ms, .ref mb, .ref mw, .int gr, .int 1, .int ca, .int mv, .ref od, .ref pt, .int ct, .int fa, .ref fi, .ref re, .int cs, .ref rc, .ref rs, .ref so, .ref ot, .ref cn, .ref la, .int ce, .ref ro, .int rn]))) (fun q => by subst q; have := hmb.symm.trans hY; first | cases this | simp at this)).trans hmb
      replace hY : (qs h y (.inr (8, [.ref ms, .ref mb, .ref mw, .int gr, .int 1, .int ca, .int mv, .ref od, .ref pt, .int ct, .int fa, .ref fi, .ref re, .int cs, .ref rc, .ref rs, .ref so, .ref ot, .ref cn, .ref la, .int ce, .ref ro, .int rn]))) y = some (.inr (8, [.ref ms, .ref mb, .ref mw, .int gr, .int 1, .int ca, .int mv, .ref od, .ref pt, .int ct, .int fa, .ref fi, .ref re, .int cs, .ref rc, .ref rs, .ref so, .ref ot, .ref cn, .ref la, .int ce, .ref ro, .int rn])) := qs_self
      refine lv_if_eq (tgt := 42) hx hb dX8_pop_24 (by decide) (fun _ => ?_) (fun c => absurd (by decide) c)
      refine lv_lconst (v := 0) hx hb dX8_pop_42 (by decide) ?_
      exact q_lret C hP hS ⟨1, rfl, ⟨rfl, Or.inl ⟨fun g9 => gg1 g9.2, rfl⟩⟩⟩ (by omega) dX8_pop_43
  · refine lv_if_eq (tgt := 19) hx hb dX8_pop_5 (by decide) (fun _ => ?_) (fun c => absurd (by decide) c)
    refine lv_iconst (v := 0) hx hb dX8_pop_19 (by decide) ?_
    refine lv_iconst (v := 1) hx hb dX8_pop_20 (by decide) ?_
    have hY0 := hY
    refine q_callV (rest := []) C (c_X8_good0 l D cy N0 (h) y ms mb mw od pt fi re rc rs so ot cn la ro gr cd ca mv ct fa cs ce rn 1 hY) kX8_good g1249 g1251 rfl gp41 g4 hP hS hY (by first | decide | omega) hl.1 rfl (by decide) (by first | decide | omega) dX8_pop_21 (fun q ce E h' H1 locs1 hE => hE.elim) (fun v hh7 H locs hq hP hS => ?_)
    obtain ⟨rfl, rfl⟩ := hq
    replace hR := hR.set8 (o := (.inr (8, [.ref ms, .ref mb, .ref mw, .int gr, .int 1, .int ca, .int mv, .ref od, .ref pt, .int ct, .int fa, .ref fi, .ref re, .int cs, .ref rc, .ref rs, .ref so, .ref ot, .ref cn, .ref la, .int ce, .ref ro, .int rn]))) hY0
    replace hRB := hRB.set8 (o := (.inr (8, [.ref ms, .ref mb, .ref mw, .int gr, .int 1, .int ca, .int mv, .ref od, .ref pt, .int ct, .int fa, .ref fi, .ref re, .int cs, .ref rc, .ref rs, .ref so, .ref ot, .ref cn, .ref la, .int ce, .ref ro, .int rn]))) hY0
    replace hms := (qs_ne (h := h) (a := y) (o := (.inr (8, [.ref ms, .ref mb, .ref mw, .int gr, .int 1, .int ca, .int mv, .ref od, .ref pt, .int ct, .int fa, .ref fi, .ref re, .int cs, .ref rc, .ref rs, .ref so, .ref ot, .ref cn, .ref la, .int ce, .ref ro, .int rn]))) (fun q => by subst q; have := hms.symm.trans hY; first | cases this | simp at this)).trans hms
    replace hmb := (qs_ne (h := h) (a := y) (o := (.inr (8, [.ref ms, .ref mb, .ref mw, .int gr, .int 1, .int ca, .int mv, .ref od, .ref pt, .int ct, .int fa, .ref fi, .ref re, .int cs, .ref rc, .ref rs, .ref so, .ref ot, .ref cn, .ref la, .int ce, .ref ro, .int rn]))) (fun q => by subst q; have := hmb.symm.trans hY; first | cases this | simp at this)).trans hmb
    replace hY : (qs h y (.inr (8, [.ref ms, .ref mb, .ref mw, .int gr, .int 1, .int ca, .int mv, .ref od, .ref pt, .int ct, .int fa, .ref fi, .ref re, .int cs, .ref rc, .ref rs, .ref so, .ref ot, .ref cn, .ref la, .int ce, .ref ro, .int rn]))) y = some (.inr (8, [.ref ms, .ref mb, .ref mw, .int gr, .int 1, .int ca, .int mv, .ref od, .ref pt, .int ct, .int fa, .ref fi, .ref re, .int cs, .ref rc, .ref rs, .ref so, .ref ot, .ref cn, .ref la, .int ce, .ref ro, .int rn])) := qs_self
    refine lv_if_eq (tgt := 42) hx hb dX8_pop_24 (by decide) (fun _ => ?_) (fun c => absurd (by decide) c)
    refine lv_lconst (v := 0) hx hb dX8_pop_42 (by decide) ?_
    exact q_lret C hP hS ⟨1, rfl, ⟨rfl, Or.inl ⟨fun g9 => gg0 g9.1, rfl⟩⟩⟩ (by omega) dX8_pop_43

theorem dX8_front_0 : decode cX8_front 0 = .ok (.aload_n 0, 1) := by decide +kernel
theorem dX8_front_1 : decode cX8_front 1 = .ok (.iload_n 1, 1) := by decide +kernel
theorem dX8_front_2 : decode cX8_front 2 = .ok (.invokestatic 96, 3) := by decide +kernel
theorem dX8_front_5 : decode cX8_front 5 = .ok (.iconst 1, 1) := by decide +kernel
theorem dX8_front_6 : decode cX8_front 6 = .ok (.invokevirtual 100, 3) := by decide +kernel
theorem dX8_front_9 : decode cX8_front 9 = .ok (.ifCond .eq 18, 3) := by decide +kernel
theorem dX8_front_12 : decode cX8_front 12 = .ok (.aload_n 0, 1) := by decide +kernel
theorem dX8_front_13 : decode cX8_front 13 = .ok (.aload_n 0, 1) := by decide +kernel
theorem dX8_front_14 : decode cX8_front 14 = .ok (.iload_n 1, 1) := by decide +kernel
theorem dX8_front_15 : decode cX8_front 15 = .ok (.bipush 112, 2) := by decide +kernel
theorem dX8_front_17 : decode cX8_front 17 = .ok (.invokevirtual 108, 3) := by decide +kernel
theorem dX8_front_20 : decode cX8_front 20 = .ok (.iconst 2, 1) := by decide +kernel
theorem dX8_front_21 : decode cX8_front 21 = .ok (.invokevirtual 100, 3) := by decide +kernel
theorem dX8_front_24 : decode cX8_front 24 = .ok (.ifCond .ne 5, 3) := by decide +kernel
theorem dX8_front_27 : decode cX8_front 27 = .ok (.lconst 0, 1) := by decide +kernel
theorem dX8_front_28 : decode cX8_front 28 = .ok (.lreturn, 1) := by decide +kernel
set_option maxRecDepth 100000 in
set_option maxHeartbeats 4000000 in
theorem c_X8_front_0 (l : Launch) (D : va_G) (cy : Nat → ClassId) (N0 : Nat) (h : qH) (y ms mb mw od pt fi re rc rs so ot cn la ro : Nat) (gr cd ca mv ct fa cs ce rn : Int32) (f g : Nat → Option Nat) (p0 : Int32) (hY : h y = some (.inr (8, [.ref ms, .ref mb, .ref mw, .int gr, .int cd, .int ca, .int mv, .ref od, .ref pt, .int ct, .int fa, .ref fi, .ref re, .int cs, .ref rc, .ref rs, .ref so, .ref ot, .ref cn, .ref la, .int ce, .ref ro, .int rn]))) (hms : h ms = some (.inl (cy 5, 24, .inr (.inr (.inr (.inr f)))))) (hmb : h mb = some (.inl (cy 5, 4, .inr (.inr (.inr (.inr g)))))) (hR : qRo h f 24) (hRB : qRo h g 4) : qC l D cy N0 yX8_front cX8_front 3 (some .long) 1 60 0 0 [.ref y, .int p0] h (fun v h' => ∃ cd', h' = qs h y (.inr (8, [.ref ms, .ref mb, .ref mw, .int gr, .int cd', .int ca, .int mv, .ref od, .ref pt, .int ct, .int fa, .ref fi, .ref re, .int cs, .ref rc, .ref rs, .ref so, .ref ot, .ref cn, .ref la, .int ce, .ref ro, .int rn])) ∧ v = some (.long 0) ∧ ((¬ (qSl p0) ∧ cd' = 1) ∨ ((qSl p0) ∧ cd' = 2))) (fun E h' => False) := by
  refine q_ofW (by decide) (by exact Nat.le_of_ble_eq_true rfl) ?_
  intro p e s m below meth c ls C hP hl
  have hx := C.1
  have hb := C.2.1
  have hS : va_S (qA N0) s.heap s.heap [] := va_S.rf
  have hl : lv_has ls 3 [(0, .ref y), (1, .int p0)] := hl
  refine lv_aload_n hx hb dX8_front_0 rfl (lv_at hl 0 rfl) ?_
  refine lv_iload_n hx hb dX8_front_1 rfl (lv_at hl 1 rfl) ?_
  refine q_callS (rest := [.ref y]) C (c_X8_isSlot l D cy N0 (h) p0) kX8_isSlot g1246 g1247 hP hS (by first | decide | omega) hl.1 rfl (by simp [q_catrf, q_cati, q_catl, q_cata, q_catn]) (by first | decide | omega) dX8_front_2 (fun q ce E h' H1 locs1 hE => hE.elim) (fun v hh1 H locs hq hP hS => ?_)
  obtain ⟨rfl, hq⟩ := hq
  rcases hq with ⟨rfl, gg0⟩ | ⟨rfl, gg0⟩
  · refine lv_iconst (v := 1) hx hb dX8_front_5 (by decide) ?_
    have hY0 := hY
    refine q_callV (rest := []) C (c_X8_good1 l D cy N0 (h) y ms mb mw od pt fi re rc rs so ot cn la ro gr cd ca mv ct fa cs ce rn 1 hY) kX8_good g1249 g1251 rfl gp41 g4 hP hS hY (by first | decide | omega) hl.1 rfl (by decide) (by first | decide | omega) dX8_front_6 (fun q ce E h' H1 locs1 hE => hE.elim) (fun v hh2 H locs hq hP hS => ?_)
    obtain ⟨rfl, rfl⟩ := hq
    replace hR := hR.set8 (o := (.inr (8, [.ref ms, .ref mb, .ref mw, .int gr, .int 0, .int ca, .int mv, .ref od, .ref pt, .int ct, .int fa, .ref fi, .ref re, .int cs, .ref rc, .ref rs, .ref so, .ref ot, .ref cn, .ref la, .int ce, .ref ro, .int rn]))) hY0
    replace hRB := hRB.set8 (o := (.inr (8, [.ref ms, .ref mb, .ref mw, .int gr, .int 0, .int ca, .int mv, .ref od, .ref pt, .int ct, .int fa, .ref fi, .ref re, .int cs, .ref rc, .ref rs, .ref so, .ref ot, .ref cn, .ref la, .int ce, .ref ro, .int rn]))) hY0
    replace hms := (qs_ne (h := h) (a := y) (o := (.inr (8, [.ref ms, .ref mb, .ref mw, .int gr, .int 0, .int ca, .int mv, .ref od, .ref pt, .int ct, .int fa, .ref fi, .ref re, .int cs, .ref rc, .ref rs, .ref so, .ref ot, .ref cn, .ref la, .int ce, .ref ro, .int rn]))) (fun q => by subst q; have := hms.symm.trans hY; first | cases this | simp at this)).trans hms
    replace hmb := (qs_ne (h := h) (a := y) (o := (.inr (8, [.ref ms, .ref mb, .ref mw, .int gr, .int 0, .int ca, .int mv, .ref od, .ref pt, .int ct, .int fa, .ref fi, .ref re, .int cs, .ref rc, .ref rs, .ref so, .ref ot, .ref cn, .ref la, .int ce, .ref ro, .int rn]))) (fun q => by subst q; have := hmb.symm.trans hY; first | cases this | simp at this)).trans hmb
    replace hY : (qs h y (.inr (8, [.ref ms, .ref mb, .ref mw, .int gr, .int 0, .int ca, .int mv, .ref od, .ref pt, .int ct, .int fa, .ref fi, .ref re, .int cs, .ref rc, .ref rs, .ref so, .ref ot, .ref cn, .ref la, .int ce, .ref ro, .int rn]))) y = some (.inr (8, [.ref ms, .ref mb, .ref mw, .int gr, .int 0, .int ca, .int mv, .ref od, .ref pt, .int ct, .int fa, .ref fi, .ref re, .int cs, .ref rc, .ref rs, .ref so, .ref ot, .ref cn, .ref la, .int ce, .ref ro, .int rn])) := qs_self
    refine lv_if_eq (tgt := 27) hx hb dX8_front_9 (by decide) (fun c => absurd c (by decide)) (fun _ => ?_)
    refine lv_aload_n hx hb dX8_front_12 rfl (lv_at hl 0 rfl) ?_
    refine lv_aload_n hx hb dX8_front_13 rfl (lv_at hl 0 rfl) ?_
    refine lv_iload_n hx hb dX8_front_14 rfl (lv_at hl 1 rfl) ?_
    refine lv_bipush (v := 112) hx hb dX8_front_15 (by decide) ?_
    obtain ⟨i0, hi0, ei0⟩ := gg0.of
    subst ei0
    refine q_callV (rest := [.ref y]) C (c_X8_holds_0 l D cy N0 (qs h y (.inr (8, [.ref ms, .ref mb, .ref mw, .int gr, .int 0, .int ca, .int mv, .ref od, .ref pt, .int ct, .int fa, .ref fi, .ref re, .int cs, .ref rc, .ref rs, .ref so, .ref ot, .ref cn, .ref la, .int ce, .ref ro, .int rn]))) y ms mb mw od pt fi re rc rs so ot cn la ro gr 0 ca mv ct fa cs ce rn f g i0 112 hY hms hmb hR hRB hi0) kX8_holds g1264 g1266 rfl gp42 g4 hP hS hY (by first | decide | omega) hl.1 rfl (by simp [q_catrf, q_cati, q_catl, q_cata, q_catn]) (by first | decide | omega) dX8_front_17 (fun q ce E h' H1 locs1 hE => hE.elim) (fun v hh3 H locs hq hP hS => ?_)
    obtain ⟨rfl, rfl⟩ := hq
    refine lv_iconst (v := 2) hx hb dX8_front_20 (by decide) ?_
    have hY0 := hY
    refine q_callV (rest := []) C (c_X8_good0 l D cy N0 (qs h y (.inr (8, [.ref ms, .ref mb, .ref mw, .int gr, .int 0, .int ca, .int mv, .ref od, .ref pt, .int ct, .int fa, .ref fi, .ref re, .int cs, .ref rc, .ref rs, .ref so, .ref ot, .ref cn, .ref la, .int ce, .ref ro, .int rn]))) y ms mb mw od pt fi re rc rs so ot cn la ro gr 0 ca mv ct fa cs ce rn 2 hY) kX8_good g1249 g1251 rfl gp41 g4 hP hS hY (by first | decide | omega) hl.1 rfl (by decide) (by first | decide | omega) dX8_front_21 (fun q ce E h' H1 locs1 hE => hE.elim) (fun v hh4 H locs hq hP hS => ?_)
    obtain ⟨rfl, rfl⟩ := hq
    replace hR := hR.re8 (o' := (.inr (8, [.ref ms, .ref mb, .ref mw, .int gr, .int 2, .int ca, .int mv, .ref od, .ref pt, .int ct, .int fa, .ref fi, .ref re, .int cs, .ref rc, .ref rs, .ref so, .ref ot, .ref cn, .ref la, .int ce, .ref ro, .int rn]))) hY0
    replace hRB := hRB.re8 (o' := (.inr (8, [.ref ms, .ref mb, .ref mw, .int gr, .int 2, .int ca, .int mv, .ref od, .ref pt, .int ct, .int fa, .ref fi, .ref re, .int cs, .ref rc, .ref rs, .ref so, .ref ot, .ref cn, .ref la, .int ce, .ref ro, .int rn]))) hY0
    rw [qs_qs] at hP
    replace hms := qs_re (o' := (.inr (8, [.ref ms, .ref mb, .ref mw, .int gr, .int 2, .int ca, .int mv, .ref od, .ref pt, .int ct, .int fa, .ref fi, .ref re, .int cs, .ref rc, .ref rs, .ref so, .ref ot, .ref cn, .ref la, .int ce, .ref ro, .int rn]))) (fun q => by subst q; have := hms.symm.trans hY; first | cases this | simp at this) hms
    replace hmb := qs_re (o' := (.inr (8, [.ref ms, .ref mb, .ref mw, .int gr, .int 2, .int ca, .int mv, .ref od, .ref pt, .int ct, .int fa, .ref fi, .ref re, .int cs, .ref rc, .ref rs, .ref so, .ref ot, .ref cn, .ref la, .int ce, .ref ro, .int rn]))) (fun q => by subst q; have := hmb.symm.trans hY; first | cases this | simp at this) hmb
    replace hY : (qs h y (.inr (8, [.ref ms, .ref mb, .ref mw, .int gr, .int 2, .int ca, .int mv, .ref od, .ref pt, .int ct, .int fa, .ref fi, .ref re, .int cs, .ref rc, .ref rs, .ref so, .ref ot, .ref cn, .ref la, .int ce, .ref ro, .int rn]))) y = some (.inr (8, [.ref ms, .ref mb, .ref mw, .int gr, .int 2, .int ca, .int mv, .ref od, .ref pt, .int ct, .int fa, .ref fi, .ref re, .int cs, .ref rc, .ref rs, .ref so, .ref ot, .ref cn, .ref la, .int ce, .ref ro, .int rn])) := qs_self
    refine lv_if_ne (tgt := 29) hx hb dX8_front_24 (by decide) (fun c => absurd rfl c) (fun _ => ?_)
    refine lv_lconst (v := 0) hx hb dX8_front_27 (by decide) ?_
    exact q_lret C hP hS ⟨2, rfl, ⟨rfl, Or.inr ⟨gg0, rfl⟩⟩⟩ (by omega) dX8_front_28
  · refine lv_iconst (v := 1) hx hb dX8_front_5 (by decide) ?_
    have hY0 := hY
    refine q_callV (rest := []) C (c_X8_good0 l D cy N0 (h) y ms mb mw od pt fi re rc rs so ot cn la ro gr cd ca mv ct fa cs ce rn 1 hY) kX8_good g1249 g1251 rfl gp41 g4 hP hS hY (by first | decide | omega) hl.1 rfl (by decide) (by first | decide | omega) dX8_front_6 (fun q ce E h' H1 locs1 hE => hE.elim) (fun v hh5 H locs hq hP hS => ?_)
    obtain ⟨rfl, rfl⟩ := hq
    replace hR := hR.set8 (o := (.inr (8, [.ref ms, .ref mb, .ref mw, .int gr, .int 1, .int ca, .int mv, .ref od, .ref pt, .int ct, .int fa, .ref fi, .ref re, .int cs, .ref rc, .ref rs, .ref so, .ref ot, .ref cn, .ref la, .int ce, .ref ro, .int rn]))) hY0
    replace hRB := hRB.set8 (o := (.inr (8, [.ref ms, .ref mb, .ref mw, .int gr, .int 1, .int ca, .int mv, .ref od, .ref pt, .int ct, .int fa, .ref fi, .ref re, .int cs, .ref rc, .ref rs, .ref so, .ref ot, .ref cn, .ref la, .int ce, .ref ro, .int rn]))) hY0
    replace hms := (qs_ne (h := h) (a := y) (o := (.inr (8, [.ref ms, .ref mb, .ref mw, .int gr, .int 1, .int ca, .int mv, .ref od, .ref pt, .int ct, .int fa, .ref fi, .ref re, .int cs, .ref rc, .ref rs, .ref so, .ref ot, .ref cn, .ref la, .int ce, .ref ro, .int rn]))) (fun q => by subst q; have := hms.symm.trans hY; first | cases this | simp at this)).trans hms
    replace hmb := (qs_ne (h := h) (a := y) (o := (.inr (8, [.ref ms, .ref mb, .ref mw, .int gr, .int 1, .int ca, .int mv, .ref od, .ref pt, .int ct, .int fa, .ref fi, .ref re, .int cs, .ref rc, .ref rs, .ref so, .ref ot, .ref cn, .ref la, .int ce, .ref ro, .int rn]))) (fun q => by subst q; have := hmb.symm.trans hY; first | cases this | simp at this)).trans hmb
    replace hY : (qs h y (.inr (8, [.ref ms, .ref mb, .ref mw, .int gr, .int 1, .int ca, .int mv, .ref od, .ref pt, .int ct, .int fa, .ref fi, .ref re, .int cs, .ref rc, .ref rs, .ref so, .ref ot, .ref cn, .ref la, .int ce, .ref ro, .int rn]))) y = some (.inr (8, [.ref ms, .ref mb, .ref mw, .int gr, .int 1, .int ca, .int mv, .ref od, .ref pt, .int ct, .int fa, .ref fi, .ref re, .int cs, .ref rc, .ref rs, .ref so, .ref ot, .ref cn, .ref la, .int ce, .ref ro, .int rn])) := qs_self
    refine lv_if_eq (tgt := 27) hx hb dX8_front_9 (by decide) (fun _ => ?_) (fun c => absurd (by decide) c)
    refine lv_lconst (v := 0) hx hb dX8_front_27 (by decide) ?_
    exact q_lret C hP hS ⟨1, rfl, ⟨rfl, Or.inl ⟨fun g9 => gg0 g9, rfl⟩⟩⟩ (by omega) dX8_front_28

theorem dX8_put__0 : decode cX8_put_ 0 = .ok (.aload_n 0, 1) := by decide +kernel
theorem dX8_put__1 : decode cX8_put_ 1 = .ok (.iload_n 1, 1) := by decide +kernel
theorem dX8_put__2 : decode cX8_put_ 2 = .ok (.invokestatic 96, 3) := by decide +kernel
theorem dX8_put__5 : decode cX8_put_ 5 = .ok (.ifCond .eq 14, 3) := by decide +kernel
theorem dX8_put__8 : decode cX8_put_ 8 = .ok (.iload_n 2, 1) := by decide +kernel
theorem dX8_put__9 : decode cX8_put_ 9 = .ok (.invokestatic 96, 3) := by decide +kernel
theorem dX8_put__12 : decode cX8_put_ 12 = .ok (.ifCond .eq 7, 3) := by decide +kernel
theorem dX8_put__15 : decode cX8_put_ 15 = .ok (.iconst 1, 1) := by decide +kernel
theorem dX8_put__16 : decode cX8_put_ 16 = .ok (.goto 4, 3) := by decide +kernel
theorem dX8_put__19 : decode cX8_put_ 19 = .ok (.iconst 0, 1) := by decide +kernel
theorem dX8_put__20 : decode cX8_put_ 20 = .ok (.iconst 1, 1) := by decide +kernel
theorem dX8_put__21 : decode cX8_put_ 21 = .ok (.invokevirtual 100, 3) := by decide +kernel
theorem dX8_put__24 : decode cX8_put_ 24 = .ok (.ifCond .eq 18, 3) := by decide +kernel
theorem dX8_put__27 : decode cX8_put_ 27 = .ok (.aload_n 0, 1) := by decide +kernel
theorem dX8_put__28 : decode cX8_put_ 28 = .ok (.aload_n 0, 1) := by decide +kernel
theorem dX8_put__29 : decode cX8_put_ 29 = .ok (.iload_n 2, 1) := by decide +kernel
theorem dX8_put__30 : decode cX8_put_ 30 = .ok (.bipush 10, 2) := by decide +kernel
theorem dX8_put__32 : decode cX8_put_ 32 = .ok (.invokevirtual 108, 3) := by decide +kernel
theorem dX8_put__35 : decode cX8_put_ 35 = .ok (.iconst 2, 1) := by decide +kernel
theorem dX8_put__36 : decode cX8_put_ 36 = .ok (.invokevirtual 100, 3) := by decide +kernel
theorem dX8_put__39 : decode cX8_put_ 39 = .ok (.ifCond .ne 5, 3) := by decide +kernel
theorem dX8_put__42 : decode cX8_put_ 42 = .ok (.iconst 0, 1) := by decide +kernel
theorem dX8_put__43 : decode cX8_put_ 43 = .ok (.ireturn, 1) := by decide +kernel
set_option maxRecDepth 100000 in
set_option maxHeartbeats 4000000 in
theorem c_X8_put__0 (l : Launch) (D : va_G) (cy : Nat → ClassId) (N0 : Nat) (h : qH) (y ms mb mw od pt fi re rc rs so ot cn la ro : Nat) (gr cd ca mv ct fa cs ce rn : Int32) (f g : Nat → Option Nat) (p0 : Int32) (p1 : Int32) (p2 : Int64) (p3 : Int64) (hY : h y = some (.inr (8, [.ref ms, .ref mb, .ref mw, .int gr, .int cd, .int ca, .int mv, .ref od, .ref pt, .int ct, .int fa, .ref fi, .ref re, .int cs, .ref rc, .ref rs, .ref so, .ref ot, .ref cn, .ref la, .int ce, .ref ro, .int rn]))) (hms : h ms = some (.inl (cy 5, 24, .inr (.inr (.inr (.inr f)))))) (hmb : h mb = some (.inl (cy 5, 4, .inr (.inr (.inr (.inr g)))))) (hR : qRo h f 24) (hRB : qRo h g 4) : qC l D cy N0 yX8_put_ cX8_put_ 7 (some .int) 1 60 0 0 [.ref y, .int p0, .int p1, .long p2, .long p3] h (fun v h' => ∃ cd', h' = qs h y (.inr (8, [.ref ms, .ref mb, .ref mw, .int gr, .int cd', .int ca, .int mv, .ref od, .ref pt, .int ct, .int fa, .ref fi, .ref re, .int cs, .ref rc, .ref rs, .ref so, .ref ot, .ref cn, .ref la, .int ce, .ref ro, .int rn])) ∧ v = some (.int 0) ∧ ((¬ (qSl p0 ∧ qSl p1) ∧ cd' = 1) ∨ ((qSl p0 ∧ qSl p1) ∧ cd' = 2))) (fun E h' => False) := by
  refine q_ofW (by decide) (by exact Nat.le_of_ble_eq_true rfl) ?_
  intro p e s m below meth c ls C hP hl
  have hx := C.1
  have hb := C.2.1
  have hS : va_S (qA N0) s.heap s.heap [] := va_S.rf
  have hl : lv_has ls 7 [(0, .ref y), (1, .int p0), (2, .int p1), (3, .long p2), (5, .long p3)] := hl
  refine lv_aload_n hx hb dX8_put__0 rfl (lv_at hl 0 rfl) ?_
  refine lv_iload_n hx hb dX8_put__1 rfl (lv_at hl 1 rfl) ?_
  refine q_callS (rest := [.ref y]) C (c_X8_isSlot l D cy N0 (h) p0) kX8_isSlot g1246 g1247 hP hS (by first | decide | omega) hl.1 rfl (by simp [q_catrf, q_cati, q_catl, q_cata, q_catn]) (by first | decide | omega) dX8_put__2 (fun q ce E h' H1 locs1 hE => hE.elim) (fun v hh1 H locs hq hP hS => ?_)
  obtain ⟨rfl, hq⟩ := hq
  rcases hq with ⟨rfl, gg0⟩ | ⟨rfl, gg0⟩
  · refine lv_if_eq (tgt := 19) hx hb dX8_put__5 (by decide) (fun c => absurd c (by decide)) (fun _ => ?_)
    refine lv_iload_n hx hb dX8_put__8 rfl (lv_at hl 2 rfl) ?_
    refine q_callS (rest := [.ref y]) C (c_X8_isSlot l D cy N0 (h) p1) kX8_isSlot g1246 g1247 hP hS (by first | decide | omega) hl.1 rfl (by simp [q_catrf, q_cati, q_catl, q_cata, q_catn]) (by first | decide | omega) dX8_put__9 (fun q ce E h' H1 locs1 hE => hE.elim) (fun v hh2 H locs hq hP hS => ?_)
    obtain ⟨rfl, hq⟩ := hq
    rcases hq with ⟨rfl, gg1⟩ | ⟨rfl, gg1⟩
    · refine lv_if_eq (tgt := 19) hx hb dX8_put__12 (by decide) (fun c => absurd c (by decide)) (fun _ => ?_)
      refine lv_iconst (v := 1) hx hb dX8_put__15 (by decide) ?_
      refine lv_goto (tgt := 20) hx hb dX8_put__16 (by decide) ?_
      refine lv_iconst (v := 1) hx hb dX8_put__20 (by decide) ?_
      have hY0 := hY
      refine q_callV (rest := []) C (c_X8_good1 l D cy N0 (h) y ms mb mw od pt fi re rc rs so ot cn la ro gr cd ca mv ct fa cs ce rn 1 hY) kX8_good g1249 g1251 rfl gp41 g4 hP hS hY (by first | decide | omega) hl.1 rfl (by decide) (by first | decide | omega) dX8_put__21 (fun q ce E h' H1 locs1 hE => hE.elim) (fun v hh3 H locs hq hP hS => ?_)
      obtain ⟨rfl, rfl⟩ := hq
      replace hR := hR.set8 (o := (.inr (8, [.ref ms, .ref mb, .ref mw, .int gr, .int 0, .int ca, .int mv, .ref od, .ref pt, .int ct, .int fa, .ref fi, .ref re, .int cs, .ref rc, .ref rs, .ref so, .ref ot, .ref cn, .ref la, .int ce, .ref ro, .int rn]))) hY0
      replace hRB := hRB.set8 (o := (.inr (8, [.ref ms, .ref mb, .ref mw, .int gr, .int 0, .int ca, .int mv, .ref od, .ref pt, .int ct, .int fa, .ref fi, .ref re, .int cs, .ref rc, .ref rs, .ref so, .ref ot, .ref cn, .ref la, .int ce, .ref ro, .int rn]))) hY0
      replace hms := (qs_ne (h := h) (a := y) (o := (.inr (8, [.ref ms, .ref mb, .ref mw, .int gr, .int 0, .int ca, .int mv, .ref od, .ref pt, .int ct, .int fa, .ref fi, .ref re, .int cs, .ref rc, .ref rs, .ref so, .ref ot, .ref cn, .ref la, .int ce, .ref ro, .int rn]))) (fun q => by subst q; have := hms.symm.trans hY; first | cases this | simp at this)).trans hms
      replace hmb := (qs_ne (h := h) (a := y) (o := (.inr (8, [.ref ms, .ref mb, .ref mw, .int gr, .int 0, .int ca, .int mv, .ref od, .ref pt, .int ct, .int fa, .ref fi, .ref re, .int cs, .ref rc, .ref rs, .ref so, .ref ot, .ref cn, .ref la, .int ce, .ref ro, .int rn]))) (fun q => by subst q; have := hmb.symm.trans hY; first | cases this | simp at this)).trans hmb
      replace hY : (qs h y (.inr (8, [.ref ms, .ref mb, .ref mw, .int gr, .int 0, .int ca, .int mv, .ref od, .ref pt, .int ct, .int fa, .ref fi, .ref re, .int cs, .ref rc, .ref rs, .ref so, .ref ot, .ref cn, .ref la, .int ce, .ref ro, .int rn]))) y = some (.inr (8, [.ref ms, .ref mb, .ref mw, .int gr, .int 0, .int ca, .int mv, .ref od, .ref pt, .int ct, .int fa, .ref fi, .ref re, .int cs, .ref rc, .ref rs, .ref so, .ref ot, .ref cn, .ref la, .int ce, .ref ro, .int rn])) := qs_self
      refine lv_if_eq (tgt := 42) hx hb dX8_put__24 (by decide) (fun c => absurd c (by decide)) (fun _ => ?_)
      refine lv_aload_n hx hb dX8_put__27 rfl (lv_at hl 0 rfl) ?_
      refine lv_aload_n hx hb dX8_put__28 rfl (lv_at hl 0 rfl) ?_
      refine lv_iload_n hx hb dX8_put__29 rfl (lv_at hl 2 rfl) ?_
      refine lv_bipush (v := 10) hx hb dX8_put__30 (by decide) ?_
      obtain ⟨i1, hi1, ei1⟩ := gg1.of
      subst ei1
      refine q_callV (rest := [.ref y]) C (c_X8_holds_0 l D cy N0 (qs h y (.inr (8, [.ref ms, .ref mb, .ref mw, .int gr, .int 0, .int ca, .int mv, .ref od, .ref pt, .int ct, .int fa, .ref fi, .ref re, .int cs, .ref rc, .ref rs, .ref so, .ref ot, .ref cn, .ref la, .int ce, .ref ro, .int rn]))) y ms mb mw od pt fi re rc rs so ot cn la ro gr 0 ca mv ct fa cs ce rn f g i1 10 hY hms hmb hR hRB hi1) kX8_holds g1264 g1266 rfl gp42 g4 hP hS hY (by first | decide | omega) hl.1 rfl (by simp [q_catrf, q_cati, q_catl, q_cata, q_catn]) (by first | decide | omega) dX8_put__32 (fun q ce E h' H1 locs1 hE => hE.elim) (fun v hh4 H locs hq hP hS => ?_)
      obtain ⟨rfl, rfl⟩ := hq
      refine lv_iconst (v := 2) hx hb dX8_put__35 (by decide) ?_
      have hY0 := hY
      refine q_callV (rest := []) C (c_X8_good0 l D cy N0 (qs h y (.inr (8, [.ref ms, .ref mb, .ref mw, .int gr, .int 0, .int ca, .int mv, .ref od, .ref pt, .int ct, .int fa, .ref fi, .ref re, .int cs, .ref rc, .ref rs, .ref so, .ref ot, .ref cn, .ref la, .int ce, .ref ro, .int rn]))) y ms mb mw od pt fi re rc rs so ot cn la ro gr 0 ca mv ct fa cs ce rn 2 hY) kX8_good g1249 g1251 rfl gp41 g4 hP hS hY (by first | decide | omega) hl.1 rfl (by decide) (by first | decide | omega) dX8_put__36 (fun q ce E h' H1 locs1 hE => hE.elim) (fun v hh5 H locs hq hP hS => ?_)
      obtain ⟨rfl, rfl⟩ := hq
      replace hR := hR.re8 (o' := (.inr (8, [.ref ms, .ref mb, .ref mw, .int gr, .int 2, .int ca, .int mv, .ref od, .ref pt, .int ct, .int fa, .ref fi, .ref re, .int cs, .ref rc, .ref rs, .ref so, .ref ot, .ref cn, .ref la, .int ce, .ref ro, .int rn]))) hY0
      replace hRB := hRB.re8 (o' := (.inr (8, [.ref ms, .ref mb, .ref mw, .int gr, .int 2, .int ca, .int mv, .ref od, .ref pt, .int ct, .int fa, .ref fi, .ref re, .int cs, .ref rc, .ref rs, .ref so, .ref ot, .ref cn, .ref la, .int ce, .ref ro, .int rn]))) hY0
      rw [qs_qs] at hP
      replace hms := qs_re (o' := (.inr (8, [.ref ms, .ref mb, .ref mw, .int gr, .int 2, .int ca, .int mv, .ref od, .ref pt, .int ct, .int fa, .ref fi, .ref re, .int cs, .ref rc, .ref rs, .ref so, .ref ot, .ref cn, .ref la, .int ce, .ref ro, .int rn]))) (fun q => by subst q; have := hms.symm.trans hY; first | cases this | simp at this) hms
      replace hmb := qs_re (o' := (.inr (8, [.ref ms, .ref mb, .ref mw, .int gr, .int 2, .int ca, .int mv, .ref od, .ref pt, .int ct, .int fa, .ref fi, .ref re, .int cs, .ref rc, .ref rs, .ref so, .ref ot, .ref cn, .ref la, .int ce, .ref ro, .int rn]))) (fun q => by subst q; have := hmb.symm.trans hY; first | cases this | simp at this) hmb
      replace hY : (qs h y (.inr (8, [.ref ms, .ref mb, .ref mw, .int gr, .int 2, .int ca, .int mv, .ref od, .ref pt, .int ct, .int fa, .ref fi, .ref re, .int cs, .ref rc, .ref rs, .ref so, .ref ot, .ref cn, .ref la, .int ce, .ref ro, .int rn]))) y = some (.inr (8, [.ref ms, .ref mb, .ref mw, .int gr, .int 2, .int ca, .int mv, .ref od, .ref pt, .int ct, .int fa, .ref fi, .ref re, .int cs, .ref rc, .ref rs, .ref so, .ref ot, .ref cn, .ref la, .int ce, .ref ro, .int rn])) := qs_self
      refine lv_if_ne (tgt := 44) hx hb dX8_put__39 (by decide) (fun c => absurd rfl c) (fun _ => ?_)
      refine lv_iconst (v := 0) hx hb dX8_put__42 (by decide) ?_
      exact q_iret C hP hS ⟨2, rfl, ⟨rfl, Or.inr ⟨⟨gg0, gg1⟩, rfl⟩⟩⟩ (by omega) dX8_put__43
    · refine lv_if_eq (tgt := 19) hx hb dX8_put__12 (by decide) (fun _ => ?_) (fun c => absurd (by decide) c)
      refine lv_iconst (v := 0) hx hb dX8_put__19 (by decide) ?_
      refine lv_iconst (v := 1) hx hb dX8_put__20 (by decide) ?_
      have hY0 := hY
      refine q_callV (rest := []) C (c_X8_good0 l D cy N0 (h) y ms mb mw od pt fi re rc rs so ot cn la ro gr cd ca mv ct fa cs ce rn 1 hY) kX8_good g1249 g1251 rfl gp41 g4 hP hS hY (by first | decide | omega) hl.1 rfl (by decide) (by first | decide | omega) dX8_put__21 (fun q ce E h' H1 locs1 hE => hE.elim) (fun v hh6 H locs hq hP hS => ?_)
      obtain ⟨rfl, rfl⟩ := hq
      replace hR := hR.set8 (o := (.inr (8, [.ref ms, .ref mb, .ref mw, .int gr, .int 1, .int ca, .int mv, .ref od, .ref pt, .int ct, .int fa, .ref fi, .ref re, .int cs, .ref rc, .ref rs, .ref so, .ref ot, .ref cn, .ref la, .int ce, .ref ro, .int rn]))) hY0
      replace hRB := hRB.set8 (o := (.inr (8, [.ref ms, .ref mb, .ref mw, .int gr, .int 1, .int ca, .int mv, .ref od, .ref pt, .int ct, .int fa, .ref fi, .ref re, .int cs, .ref rc, .ref rs, .ref so, .ref ot, .ref cn, .ref la, .int ce, .ref ro, .int rn]))) hY0
      replace hms := (qs_ne (h := h) (a := y) (o := (.inr (8, [.ref ms, .ref mb, .ref mw, .int gr, .int 1, .int ca, .int mv, .ref od, .ref pt, .int ct, .int fa, .ref fi, .ref re, .int cs, .ref rc, .ref rs, .ref so, .ref ot, .ref cn, .ref la, .int ce, .ref ro, .int rn]))) (fun q => by subst q; have := hms.symm.trans hY; first | cases this | simp at this)).trans hms
      replace hmb := (qs_ne (h := h) (a := y) (o := (.inr (8, [.ref ms, .ref mb, .ref mw, .int gr, .int 1, .int ca, .int mv, .ref od, .ref pt, .int ct, .int fa, .ref fi, .ref re, .int cs, .ref rc, .ref rs, .ref so, .ref ot, .ref cn, .ref la, .int ce, .ref ro, .int rn]))) (fun q => by subst q; have := hmb.symm.trans hY; first | cases this | simp at this)).trans hmb
      replace hY : (qs h y (.inr (8, [.ref ms, .ref mb, .ref mw, .int gr, .int 1, .int ca, .int mv, .ref od, .ref pt, .int ct, .int fa, .ref fi, .ref re, .int cs, .ref rc, .ref rs, .ref so, .ref ot, .ref cn, .ref la, .int ce, .ref ro, .int rn]))) y = some (.inr (8, [.ref ms, .ref mb, .ref mw, .int gr, .int 1, .int ca, .int mv, .ref od, .ref pt, .int ct, .int fa, .ref fi, .ref re, .int cs, .ref rc, .ref rs, .ref so, .ref ot, .ref cn, .ref la, .int ce, .ref ro, .int rn])) := qs_self
      refine lv_if_eq (tgt := 42) hx hb dX8_put__24 (by decide) (fun _ => ?_) (fun c => absurd (by decide) c)
      refine lv_iconst (v := 0) hx hb dX8_put__42 (by decide) ?_
      exact q_iret C hP hS ⟨1, rfl, ⟨rfl, Or.inl ⟨fun g9 => gg1 g9.2, rfl⟩⟩⟩ (by omega) dX8_put__43
  · refine lv_if_eq (tgt := 19) hx hb dX8_put__5 (by decide) (fun _ => ?_) (fun c => absurd (by decide) c)
    refine lv_iconst (v := 0) hx hb dX8_put__19 (by decide) ?_
    refine lv_iconst (v := 1) hx hb dX8_put__20 (by decide) ?_
    have hY0 := hY
    refine q_callV (rest := []) C (c_X8_good0 l D cy N0 (h) y ms mb mw od pt fi re rc rs so ot cn la ro gr cd ca mv ct fa cs ce rn 1 hY) kX8_good g1249 g1251 rfl gp41 g4 hP hS hY (by first | decide | omega) hl.1 rfl (by decide) (by first | decide | omega) dX8_put__21 (fun q ce E h' H1 locs1 hE => hE.elim) (fun v hh7 H locs hq hP hS => ?_)
    obtain ⟨rfl, rfl⟩ := hq
    replace hR := hR.set8 (o := (.inr (8, [.ref ms, .ref mb, .ref mw, .int gr, .int 1, .int ca, .int mv, .ref od, .ref pt, .int ct, .int fa, .ref fi, .ref re, .int cs, .ref rc, .ref rs, .ref so, .ref ot, .ref cn, .ref la, .int ce, .ref ro, .int rn]))) hY0
    replace hRB := hRB.set8 (o := (.inr (8, [.ref ms, .ref mb, .ref mw, .int gr, .int 1, .int ca, .int mv, .ref od, .ref pt, .int ct, .int fa, .ref fi, .ref re, .int cs, .ref rc, .ref rs, .ref so, .ref ot, .ref cn, .ref la, .int ce, .ref ro, .int rn]))) hY0
    replace hms := (qs_ne (h := h) (a := y) (o := (.inr (8, [.ref ms, .ref mb, .ref mw, .int gr, .int 1, .int ca, .int mv, .ref od, .ref pt, .int ct, .int fa, .ref fi, .ref re, .int cs, .ref rc, .ref rs, .ref so, .ref ot, .ref cn, .ref la, .int ce, .ref ro, .int rn]))) (fun q => by subst q; have := hms.symm.trans hY; first | cases this | simp at this)).trans hms
    replace hmb := (qs_ne (h := h) (a := y) (o := (.inr (8, [.ref ms, .ref mb, .ref mw, .int gr, .int 1, .int ca, .int mv, .ref od, .ref pt, .int ct, .int fa, .ref fi, .ref re, .int cs, .ref rc, .ref rs, .ref so, .ref ot, .ref cn, .ref la, .int ce, .ref ro, .int rn]))) (fun q => by subst q; have := hmb.symm.trans hY; first | cases this | simp at this)).trans hmb
    replace hY : (qs h y (.inr (8, [.ref ms, .ref mb, .ref mw, .int gr, .int 1, .int ca, .int mv, .ref od, .ref pt, .int ct, .int fa, .ref fi, .ref re, .int cs, .ref rc, .ref rs, .ref so, .ref ot, .ref cn, .ref la, .int ce, .ref ro, .int rn]))) y = some (.inr (8, [.ref ms, .ref mb, .ref mw, .int gr, .int 1, .int ca, .int mv, .ref od, .ref pt, .int ct, .int fa, .ref fi, .ref re, .int cs, .ref rc, .ref rs, .ref so, .ref ot, .ref cn, .ref la, .int ce, .ref ro, .int rn])) := qs_self
    refine lv_if_eq (tgt := 42) hx hb dX8_put__24 (by decide) (fun _ => ?_) (fun c => absurd (by decide) c)
    refine lv_iconst (v := 0) hx hb dX8_put__42 (by decide) ?_
    exact q_iret C hP hS ⟨1, rfl, ⟨rfl, Or.inl ⟨fun g9 => gg0 g9.1, rfl⟩⟩⟩ (by omega) dX8_put__43

theorem dX8_find__0 : decode cX8_find_ 0 = .ok (.aload_n 0, 1) := by decide +kernel
theorem dX8_find__1 : decode cX8_find_ 1 = .ok (.iload_n 1, 1) := by decide +kernel
theorem dX8_find__2 : decode cX8_find_ 2 = .ok (.invokestatic 96, 3) := by decide +kernel
theorem dX8_find__5 : decode cX8_find_ 5 = .ok (.iconst 1, 1) := by decide +kernel
theorem dX8_find__6 : decode cX8_find_ 6 = .ok (.invokevirtual 100, 3) := by decide +kernel
theorem dX8_find__9 : decode cX8_find_ 9 = .ok (.ifCond .eq 18, 3) := by decide +kernel
theorem dX8_find__12 : decode cX8_find_ 12 = .ok (.aload_n 0, 1) := by decide +kernel
theorem dX8_find__13 : decode cX8_find_ 13 = .ok (.aload_n 0, 1) := by decide +kernel
theorem dX8_find__14 : decode cX8_find_ 14 = .ok (.iload_n 1, 1) := by decide +kernel
theorem dX8_find__15 : decode cX8_find_ 15 = .ok (.bipush 14, 2) := by decide +kernel
theorem dX8_find__17 : decode cX8_find_ 17 = .ok (.invokevirtual 108, 3) := by decide +kernel
theorem dX8_find__20 : decode cX8_find_ 20 = .ok (.iconst 2, 1) := by decide +kernel
theorem dX8_find__21 : decode cX8_find_ 21 = .ok (.invokevirtual 100, 3) := by decide +kernel
theorem dX8_find__24 : decode cX8_find_ 24 = .ok (.ifCond .ne 5, 3) := by decide +kernel
theorem dX8_find__27 : decode cX8_find_ 27 = .ok (.lconst 0, 1) := by decide +kernel
theorem dX8_find__28 : decode cX8_find_ 28 = .ok (.lreturn, 1) := by decide +kernel
set_option maxRecDepth 100000 in
set_option maxHeartbeats 4000000 in
theorem c_X8_find__0 (l : Launch) (D : va_G) (cy : Nat → ClassId) (N0 : Nat) (h : qH) (y ms mb mw od pt fi re rc rs so ot cn la ro : Nat) (gr cd ca mv ct fa cs ce rn : Int32) (f g : Nat → Option Nat) (p0 : Int32) (p1 : Int64) (hY : h y = some (.inr (8, [.ref ms, .ref mb, .ref mw, .int gr, .int cd, .int ca, .int mv, .ref od, .ref pt, .int ct, .int fa, .ref fi, .ref re, .int cs, .ref rc, .ref rs, .ref so, .ref ot, .ref cn, .ref la, .int ce, .ref ro, .int rn]))) (hms : h ms = some (.inl (cy 5, 24, .inr (.inr (.inr (.inr f)))))) (hmb : h mb = some (.inl (cy 5, 4, .inr (.inr (.inr (.inr g)))))) (hR : qRo h f 24) (hRB : qRo h g 4) : qC l D cy N0 yX8_find_ cX8_find_ 5 (some .long) 1 60 0 0 [.ref y, .int p0, .long p1] h (fun v h' => ∃ cd', h' = qs h y (.inr (8, [.ref ms, .ref mb, .ref mw, .int gr, .int cd', .int ca, .int mv, .ref od, .ref pt, .int ct, .int fa, .ref fi, .ref re, .int cs, .ref rc, .ref rs, .ref so, .ref ot, .ref cn, .ref la, .int ce, .ref ro, .int rn])) ∧ v = some (.long 0) ∧ ((¬ (qSl p0) ∧ cd' = 1) ∨ ((qSl p0) ∧ cd' = 2))) (fun E h' => False) := by
  refine q_ofW (by decide) (by exact Nat.le_of_ble_eq_true rfl) ?_
  intro p e s m below meth c ls C hP hl
  have hx := C.1
  have hb := C.2.1
  have hS : va_S (qA N0) s.heap s.heap [] := va_S.rf
  have hl : lv_has ls 5 [(0, .ref y), (1, .int p0), (2, .long p1)] := hl
  refine lv_aload_n hx hb dX8_find__0 rfl (lv_at hl 0 rfl) ?_
  refine lv_iload_n hx hb dX8_find__1 rfl (lv_at hl 1 rfl) ?_
  refine q_callS (rest := [.ref y]) C (c_X8_isSlot l D cy N0 (h) p0) kX8_isSlot g1246 g1247 hP hS (by first | decide | omega) hl.1 rfl (by simp [q_catrf, q_cati, q_catl, q_cata, q_catn]) (by first | decide | omega) dX8_find__2 (fun q ce E h' H1 locs1 hE => hE.elim) (fun v hh1 H locs hq hP hS => ?_)
  obtain ⟨rfl, hq⟩ := hq
  rcases hq with ⟨rfl, gg0⟩ | ⟨rfl, gg0⟩
  · refine lv_iconst (v := 1) hx hb dX8_find__5 (by decide) ?_
    have hY0 := hY
    refine q_callV (rest := []) C (c_X8_good1 l D cy N0 (h) y ms mb mw od pt fi re rc rs so ot cn la ro gr cd ca mv ct fa cs ce rn 1 hY) kX8_good g1249 g1251 rfl gp41 g4 hP hS hY (by first | decide | omega) hl.1 rfl (by decide) (by first | decide | omega) dX8_find__6 (fun q ce E h' H1 locs1 hE => hE.elim) (fun v hh2 H locs hq hP hS => ?_)
    obtain ⟨rfl, rfl⟩ := hq
    replace hR := hR.set8 (o := (.inr (8, [.ref ms, .ref mb, .ref mw, .int gr, .int 0, .int ca, .int mv, .ref od, .ref pt, .int ct, .int fa, .ref fi, .ref re, .int cs, .ref rc, .ref rs, .ref so, .ref ot, .ref cn, .ref la, .int ce, .ref ro, .int rn]))) hY0
    replace hRB := hRB.set8 (o := (.inr (8, [.ref ms, .ref mb, .ref mw, .int gr, .int 0, .int ca, .int mv, .ref od, .ref pt, .int ct, .int fa, .ref fi, .ref re, .int cs, .ref rc, .ref rs, .ref so, .ref ot, .ref cn, .ref la, .int ce, .ref ro, .int rn]))) hY0
    replace hms := (qs_ne (h := h) (a := y) (o := (.inr (8, [.ref ms, .ref mb, .ref mw, .int gr, .int 0, .int ca, .int mv, .ref od, .ref pt, .int ct, .int fa, .ref fi, .ref re, .int cs, .ref rc, .ref rs, .ref so, .ref ot, .ref cn, .ref la, .int ce, .ref ro, .int rn]))) (fun q => by subst q; have := hms.symm.trans hY; first | cases this | simp at this)).trans hms
    replace hmb := (qs_ne (h := h) (a := y) (o := (.inr (8, [.ref ms, .ref mb, .ref mw, .int gr, .int 0, .int ca, .int mv, .ref od, .ref pt, .int ct, .int fa, .ref fi, .ref re, .int cs, .ref rc, .ref rs, .ref so, .ref ot, .ref cn, .ref la, .int ce, .ref ro, .int rn]))) (fun q => by subst q; have := hmb.symm.trans hY; first | cases this | simp at this)).trans hmb
    replace hY : (qs h y (.inr (8, [.ref ms, .ref mb, .ref mw, .int gr, .int 0, .int ca, .int mv, .ref od, .ref pt, .int ct, .int fa, .ref fi, .ref re, .int cs, .ref rc, .ref rs, .ref so, .ref ot, .ref cn, .ref la, .int ce, .ref ro, .int rn]))) y = some (.inr (8, [.ref ms, .ref mb, .ref mw, .int gr, .int 0, .int ca, .int mv, .ref od, .ref pt, .int ct, .int fa, .ref fi, .ref re, .int cs, .ref rc, .ref rs, .ref so, .ref ot, .ref cn, .ref la, .int ce, .ref ro, .int rn])) := qs_self
    refine lv_if_eq (tgt := 27) hx hb dX8_find__9 (by decide) (fun c => absurd c (by decide)) (fun _ => ?_)
    refine lv_aload_n hx hb dX8_find__12 rfl (lv_at hl 0 rfl) ?_
    refine lv_aload_n hx hb dX8_find__13 rfl (lv_at hl 0 rfl) ?_
    refine lv_iload_n hx hb dX8_find__14 rfl (lv_at hl 1 rfl) ?_
    refine lv_bipush (v := 14) hx hb dX8_find__15 (by decide) ?_
    obtain ⟨i0, hi0, ei0⟩ := gg0.of
    subst ei0
    refine q_callV (rest := [.ref y]) C (c_X8_holds_0 l D cy N0 (qs h y (.inr (8, [.ref ms, .ref mb, .ref mw, .int gr, .int 0, .int ca, .int mv, .ref od, .ref pt, .int ct, .int fa, .ref fi, .ref re, .int cs, .ref rc, .ref rs, .ref so, .ref ot, .ref cn, .ref la, .int ce, .ref ro, .int rn]))) y ms mb mw od pt fi re rc rs so ot cn la ro gr 0 ca mv ct fa cs ce rn f g i0 14 hY hms hmb hR hRB hi0) kX8_holds g1264 g1266 rfl gp42 g4 hP hS hY (by first | decide | omega) hl.1 rfl (by simp [q_catrf, q_cati, q_catl, q_cata, q_catn]) (by first | decide | omega) dX8_find__17 (fun q ce E h' H1 locs1 hE => hE.elim) (fun v hh3 H locs hq hP hS => ?_)
    obtain ⟨rfl, rfl⟩ := hq
    refine lv_iconst (v := 2) hx hb dX8_find__20 (by decide) ?_
    have hY0 := hY
    refine q_callV (rest := []) C (c_X8_good0 l D cy N0 (qs h y (.inr (8, [.ref ms, .ref mb, .ref mw, .int gr, .int 0, .int ca, .int mv, .ref od, .ref pt, .int ct, .int fa, .ref fi, .ref re, .int cs, .ref rc, .ref rs, .ref so, .ref ot, .ref cn, .ref la, .int ce, .ref ro, .int rn]))) y ms mb mw od pt fi re rc rs so ot cn la ro gr 0 ca mv ct fa cs ce rn 2 hY) kX8_good g1249 g1251 rfl gp41 g4 hP hS hY (by first | decide | omega) hl.1 rfl (by decide) (by first | decide | omega) dX8_find__21 (fun q ce E h' H1 locs1 hE => hE.elim) (fun v hh4 H locs hq hP hS => ?_)
    obtain ⟨rfl, rfl⟩ := hq
    replace hR := hR.re8 (o' := (.inr (8, [.ref ms, .ref mb, .ref mw, .int gr, .int 2, .int ca, .int mv, .ref od, .ref pt, .int ct, .int fa, .ref fi, .ref re, .int cs, .ref rc, .ref rs, .ref so, .ref ot, .ref cn, .ref la, .int ce, .ref ro, .int rn]))) hY0
    replace hRB := hRB.re8 (o' := (.inr (8, [.ref ms, .ref mb, .ref mw, .int gr, .int 2, .int ca, .int mv, .ref od, .ref pt, .int ct, .int fa, .ref fi, .ref re, .int cs, .ref rc, .ref rs, .ref so, .ref ot, .ref cn, .ref la, .int ce, .ref ro, .int rn]))) hY0
    rw [qs_qs] at hP
    replace hms := qs_re (o' := (.inr (8, [.ref ms, .ref mb, .ref mw, .int gr, .int 2, .int ca, .int mv, .ref od, .ref pt, .int ct, .int fa, .ref fi, .ref re, .int cs, .ref rc, .ref rs, .ref so, .ref ot, .ref cn, .ref la, .int ce, .ref ro, .int rn]))) (fun q => by subst q; have := hms.symm.trans hY; first | cases this | simp at this) hms
    replace hmb := qs_re (o' := (.inr (8, [.ref ms, .ref mb, .ref mw, .int gr, .int 2, .int ca, .int mv, .ref od, .ref pt, .int ct, .int fa, .ref fi, .ref re, .int cs, .ref rc, .ref rs, .ref so, .ref ot, .ref cn, .ref la, .int ce, .ref ro, .int rn]))) (fun q => by subst q; have := hmb.symm.trans hY; first | cases this | simp at this) hmb
    replace hY : (qs h y (.inr (8, [.ref ms, .ref mb, .ref mw, .int gr, .int 2, .int ca, .int mv, .ref od, .ref pt, .int ct, .int fa, .ref fi, .ref re, .int cs, .ref rc, .ref rs, .ref so, .ref ot, .ref cn, .ref la, .int ce, .ref ro, .int rn]))) y = some (.inr (8, [.ref ms, .ref mb, .ref mw, .int gr, .int 2, .int ca, .int mv, .ref od, .ref pt, .int ct, .int fa, .ref fi, .ref re, .int cs, .ref rc, .ref rs, .ref so, .ref ot, .ref cn, .ref la, .int ce, .ref ro, .int rn])) := qs_self
    refine lv_if_ne (tgt := 29) hx hb dX8_find__24 (by decide) (fun c => absurd rfl c) (fun _ => ?_)
    refine lv_lconst (v := 0) hx hb dX8_find__27 (by decide) ?_
    exact q_lret C hP hS ⟨2, rfl, ⟨rfl, Or.inr ⟨gg0, rfl⟩⟩⟩ (by omega) dX8_find__28
  · refine lv_iconst (v := 1) hx hb dX8_find__5 (by decide) ?_
    have hY0 := hY
    refine q_callV (rest := []) C (c_X8_good0 l D cy N0 (h) y ms mb mw od pt fi re rc rs so ot cn la ro gr cd ca mv ct fa cs ce rn 1 hY) kX8_good g1249 g1251 rfl gp41 g4 hP hS hY (by first | decide | omega) hl.1 rfl (by decide) (by first | decide | omega) dX8_find__6 (fun q ce E h' H1 locs1 hE => hE.elim) (fun v hh5 H locs hq hP hS => ?_)
    obtain ⟨rfl, rfl⟩ := hq
    replace hR := hR.set8 (o := (.inr (8, [.ref ms, .ref mb, .ref mw, .int gr, .int 1, .int ca, .int mv, .ref od, .ref pt, .int ct, .int fa, .ref fi, .ref re, .int cs, .ref rc, .ref rs, .ref so, .ref ot, .ref cn, .ref la, .int ce, .ref ro, .int rn]))) hY0
    replace hRB := hRB.set8 (o := (.inr (8, [.ref ms, .ref mb, .ref mw, .int gr, .int 1, .int ca, .int mv, .ref od, .ref pt, .int ct, .int fa, .ref fi, .ref re, .int cs, .ref rc, .ref rs, .ref so, .ref ot, .ref cn, .ref la, .int ce, .ref ro, .int rn]))) hY0
    replace hms := (qs_ne (h := h) (a := y) (o := (.inr (8, [.ref ms, .ref mb, .ref mw, .int gr, .int 1, .int ca, .int mv, .ref od, .ref pt, .int ct, .int fa, .ref fi, .ref re, .int cs, .ref rc, .ref rs, .ref so, .ref ot, .ref cn, .ref la, .int ce, .ref ro, .int rn]))) (fun q => by subst q; have := hms.symm.trans hY; first | cases this | simp at this)).trans hms
    replace hmb := (qs_ne (h := h) (a := y) (o := (.inr (8, [.ref ms, .ref mb, .ref mw, .int gr, .int 1, .int ca, .int mv, .ref od, .ref pt, .int ct, .int fa, .ref fi, .ref re, .int cs, .ref rc, .ref rs, .ref so, .ref ot, .ref cn, .ref la, .int ce, .ref ro, .int rn]))) (fun q => by subst q; have := hmb.symm.trans hY; first | cases this | simp at this)).trans hmb
    replace hY : (qs h y (.inr (8, [.ref ms, .ref mb, .ref mw, .int gr, .int 1, .int ca, .int mv, .ref od, .ref pt, .int ct, .int fa, .ref fi, .ref re, .int cs, .ref rc, .ref rs, .ref so, .ref ot, .ref cn, .ref la, .int ce, .ref ro, .int rn]))) y = some (.inr (8, [.ref ms, .ref mb, .ref mw, .int gr, .int 1, .int ca, .int mv, .ref od, .ref pt, .int ct, .int fa, .ref fi, .ref re, .int cs, .ref rc, .ref rs, .ref so, .ref ot, .ref cn, .ref la, .int ce, .ref ro, .int rn])) := qs_self
    refine lv_if_eq (tgt := 27) hx hb dX8_find__9 (by decide) (fun _ => ?_) (fun c => absurd (by decide) c)
    refine lv_lconst (v := 0) hx hb dX8_find__27 (by decide) ?_
    exact q_lret C hP hS ⟨1, rfl, ⟨rfl, Or.inl ⟨fun g9 => gg0 g9, rfl⟩⟩⟩ (by omega) dX8_find__28

theorem dX8_out_0 : decode cX8_out 0 = .ok (.aload_n 0, 1) := by decide +kernel
theorem dX8_out_1 : decode cX8_out 1 = .ok (.iload_n 1, 1) := by decide +kernel
theorem dX8_out_2 : decode cX8_out 2 = .ok (.invokestatic 96, 3) := by decide +kernel
theorem dX8_out_5 : decode cX8_out 5 = .ok (.ifCond .eq 14, 3) := by decide +kernel
theorem dX8_out_8 : decode cX8_out 8 = .ok (.iload_n 2, 1) := by decide +kernel
theorem dX8_out_9 : decode cX8_out 9 = .ok (.invokestatic 96, 3) := by decide +kernel
theorem dX8_out_12 : decode cX8_out 12 = .ok (.ifCond .eq 7, 3) := by decide +kernel
theorem dX8_out_15 : decode cX8_out 15 = .ok (.iconst 1, 1) := by decide +kernel
theorem dX8_out_16 : decode cX8_out 16 = .ok (.goto 4, 3) := by decide +kernel
theorem dX8_out_19 : decode cX8_out 19 = .ok (.iconst 0, 1) := by decide +kernel
theorem dX8_out_20 : decode cX8_out 20 = .ok (.iconst 1, 1) := by decide +kernel
theorem dX8_out_21 : decode cX8_out 21 = .ok (.invokevirtual 100, 3) := by decide +kernel
theorem dX8_out_24 : decode cX8_out 24 = .ok (.ifCond .eq 18, 3) := by decide +kernel
theorem dX8_out_27 : decode cX8_out 27 = .ok (.aload_n 0, 1) := by decide +kernel
theorem dX8_out_28 : decode cX8_out 28 = .ok (.aload_n 0, 1) := by decide +kernel
theorem dX8_out_29 : decode cX8_out 29 = .ok (.iload_n 2, 1) := by decide +kernel
theorem dX8_out_30 : decode cX8_out 30 = .ok (.bipush 14, 2) := by decide +kernel
theorem dX8_out_32 : decode cX8_out 32 = .ok (.invokevirtual 108, 3) := by decide +kernel
theorem dX8_out_35 : decode cX8_out 35 = .ok (.iconst 2, 1) := by decide +kernel
theorem dX8_out_36 : decode cX8_out 36 = .ok (.invokevirtual 100, 3) := by decide +kernel
theorem dX8_out_39 : decode cX8_out 39 = .ok (.ifCond .ne 5, 3) := by decide +kernel
theorem dX8_out_42 : decode cX8_out 42 = .ok (.iconst 0, 1) := by decide +kernel
theorem dX8_out_43 : decode cX8_out 43 = .ok (.ireturn, 1) := by decide +kernel
set_option maxRecDepth 100000 in
set_option maxHeartbeats 4000000 in
theorem c_X8_out_0 (l : Launch) (D : va_G) (cy : Nat → ClassId) (N0 : Nat) (h : qH) (y ms mb mw od pt fi re rc rs so ot cn la ro : Nat) (gr cd ca mv ct fa cs ce rn : Int32) (f g : Nat → Option Nat) (p0 : Int32) (p1 : Int32) (p2 : Int64) (hY : h y = some (.inr (8, [.ref ms, .ref mb, .ref mw, .int gr, .int cd, .int ca, .int mv, .ref od, .ref pt, .int ct, .int fa, .ref fi, .ref re, .int cs, .ref rc, .ref rs, .ref so, .ref ot, .ref cn, .ref la, .int ce, .ref ro, .int rn]))) (hms : h ms = some (.inl (cy 5, 24, .inr (.inr (.inr (.inr f)))))) (hmb : h mb = some (.inl (cy 5, 4, .inr (.inr (.inr (.inr g)))))) (hR : qRo h f 24) (hRB : qRo h g 4) : qC l D cy N0 yX8_out cX8_out 6 (some .int) 1 60 0 0 [.ref y, .int p0, .int p1, .long p2] h (fun v h' => ∃ cd', h' = qs h y (.inr (8, [.ref ms, .ref mb, .ref mw, .int gr, .int cd', .int ca, .int mv, .ref od, .ref pt, .int ct, .int fa, .ref fi, .ref re, .int cs, .ref rc, .ref rs, .ref so, .ref ot, .ref cn, .ref la, .int ce, .ref ro, .int rn])) ∧ v = some (.int 0) ∧ ((¬ (qSl p0 ∧ qSl p1) ∧ cd' = 1) ∨ ((qSl p0 ∧ qSl p1) ∧ cd' = 2))) (fun E h' => False) := by
  refine q_ofW (by decide) (by exact Nat.le_of_ble_eq_true rfl) ?_
  intro p e s m below meth c ls C hP hl
  have hx := C.1
  have hb := C.2.1
  have hS : va_S (qA N0) s.heap s.heap [] := va_S.rf
  have hl : lv_has ls 6 [(0, .ref y), (1, .int p0), (2, .int p1), (3, .long p2)] := hl
  refine lv_aload_n hx hb dX8_out_0 rfl (lv_at hl 0 rfl) ?_
  refine lv_iload_n hx hb dX8_out_1 rfl (lv_at hl 1 rfl) ?_
  refine q_callS (rest := [.ref y]) C (c_X8_isSlot l D cy N0 (h) p0) kX8_isSlot g1246 g1247 hP hS (by first | decide | omega) hl.1 rfl (by simp [q_catrf, q_cati, q_catl, q_cata, q_catn]) (by first | decide | omega) dX8_out_2 (fun q ce E h' H1 locs1 hE => hE.elim) (fun v hh1 H locs hq hP hS => ?_)
  obtain ⟨rfl, hq⟩ := hq
  rcases hq with ⟨rfl, gg0⟩ | ⟨rfl, gg0⟩
  · refine lv_if_eq (tgt := 19) hx hb dX8_out_5 (by decide) (fun c => absurd c (by decide)) (fun _ => ?_)
    refine lv_iload_n hx hb dX8_out_8 rfl (lv_at hl 2 rfl) ?_
    refine q_callS (rest := [.ref y]) C (c_X8_isSlot l D cy N0 (h) p1) kX8_isSlot g1246 g1247 hP hS (by first | decide | omega) hl.1 rfl (by simp [q_catrf, q_cati, q_catl, q_cata, q_catn]) (by first | decide | omega) dX8_out_9 (fun q ce E h' H1 locs1 hE => hE.elim) (fun v hh2 H locs hq hP hS => ?_)
    obtain ⟨rfl, hq⟩ := hq
    rcases hq with ⟨rfl, gg1⟩ | ⟨rfl, gg1⟩
    · refine lv_if_eq (tgt := 19) hx hb dX8_out_12 (by decide) (fun c => absurd c (by decide)) (fun _ => ?_)
      refine lv_iconst (v := 1) hx hb dX8_out_15 (by decide) ?_
      refine lv_goto (tgt := 20) hx hb dX8_out_16 (by decide) ?_
      refine lv_iconst (v := 1) hx hb dX8_out_20 (by decide) ?_
      have hY0 := hY
      refine q_callV (rest := []) C (c_X8_good1 l D cy N0 (h) y ms mb mw od pt fi re rc rs so ot cn la ro gr cd ca mv ct fa cs ce rn 1 hY) kX8_good g1249 g1251 rfl gp41 g4 hP hS hY (by first | decide | omega) hl.1 rfl (by decide) (by first | decide | omega) dX8_out_21 (fun q ce E h' H1 locs1 hE => hE.elim) (fun v hh3 H locs hq hP hS => ?_)
      obtain ⟨rfl, rfl⟩ := hq
      replace hR := hR.set8 (o := (.inr (8, [.ref ms, .ref mb, .ref mw, .int gr, .int 0, .int ca, .int mv, .ref od, .ref pt, .int ct, .int fa, .ref fi, .ref re, .int cs, .ref rc, .ref rs, .ref so, .ref ot, .ref cn, .ref la, .int ce, .ref ro, .int rn]))) hY0
      replace hRB := hRB.set8 (o := (.inr (8, [.ref ms, .ref mb, .ref mw, .int gr, .int 0, .int ca, .int mv, .ref od, .ref pt, .int ct, .int fa, .ref fi, .ref re, .int cs, .ref rc, .ref rs, .ref so, .ref ot, .ref cn, .ref la, .int ce, .ref ro, .int rn]))) hY0
      replace hms := (qs_ne (h := h) (a := y) (o := (.inr (8, [.ref ms, .ref mb, .ref mw, .int gr, .int 0, .int ca, .int mv, .ref od, .ref pt, .int ct, .int fa, .ref fi, .ref re, .int cs, .ref rc, .ref rs, .ref so, .ref ot, .ref cn, .ref la, .int ce, .ref ro, .int rn]))) (fun q => by subst q; have := hms.symm.trans hY; first | cases this | simp at this)).trans hms
      replace hmb := (qs_ne (h := h) (a := y) (o := (.inr (8, [.ref ms, .ref mb, .ref mw, .int gr, .int 0, .int ca, .int mv, .ref od, .ref pt, .int ct, .int fa, .ref fi, .ref re, .int cs, .ref rc, .ref rs, .ref so, .ref ot, .ref cn, .ref la, .int ce, .ref ro, .int rn]))) (fun q => by subst q; have := hmb.symm.trans hY; first | cases this | simp at this)).trans hmb
      replace hY : (qs h y (.inr (8, [.ref ms, .ref mb, .ref mw, .int gr, .int 0, .int ca, .int mv, .ref od, .ref pt, .int ct, .int fa, .ref fi, .ref re, .int cs, .ref rc, .ref rs, .ref so, .ref ot, .ref cn, .ref la, .int ce, .ref ro, .int rn]))) y = some (.inr (8, [.ref ms, .ref mb, .ref mw, .int gr, .int 0, .int ca, .int mv, .ref od, .ref pt, .int ct, .int fa, .ref fi, .ref re, .int cs, .ref rc, .ref rs, .ref so, .ref ot, .ref cn, .ref la, .int ce, .ref ro, .int rn])) := qs_self
      refine lv_if_eq (tgt := 42) hx hb dX8_out_24 (by decide) (fun c => absurd c (by decide)) (fun _ => ?_)
      refine lv_aload_n hx hb dX8_out_27 rfl (lv_at hl 0 rfl) ?_
      refine lv_aload_n hx hb dX8_out_28 rfl (lv_at hl 0 rfl) ?_
      refine lv_iload_n hx hb dX8_out_29 rfl (lv_at hl 2 rfl) ?_
      refine lv_bipush (v := 14) hx hb dX8_out_30 (by decide) ?_
      obtain ⟨i1, hi1, ei1⟩ := gg1.of
      subst ei1
      refine q_callV (rest := [.ref y]) C (c_X8_holds_0 l D cy N0 (qs h y (.inr (8, [.ref ms, .ref mb, .ref mw, .int gr, .int 0, .int ca, .int mv, .ref od, .ref pt, .int ct, .int fa, .ref fi, .ref re, .int cs, .ref rc, .ref rs, .ref so, .ref ot, .ref cn, .ref la, .int ce, .ref ro, .int rn]))) y ms mb mw od pt fi re rc rs so ot cn la ro gr 0 ca mv ct fa cs ce rn f g i1 14 hY hms hmb hR hRB hi1) kX8_holds g1264 g1266 rfl gp42 g4 hP hS hY (by first | decide | omega) hl.1 rfl (by simp [q_catrf, q_cati, q_catl, q_cata, q_catn]) (by first | decide | omega) dX8_out_32 (fun q ce E h' H1 locs1 hE => hE.elim) (fun v hh4 H locs hq hP hS => ?_)
      obtain ⟨rfl, rfl⟩ := hq
      refine lv_iconst (v := 2) hx hb dX8_out_35 (by decide) ?_
      have hY0 := hY
      refine q_callV (rest := []) C (c_X8_good0 l D cy N0 (qs h y (.inr (8, [.ref ms, .ref mb, .ref mw, .int gr, .int 0, .int ca, .int mv, .ref od, .ref pt, .int ct, .int fa, .ref fi, .ref re, .int cs, .ref rc, .ref rs, .ref so, .ref ot, .ref cn, .ref la, .int ce, .ref ro, .int rn]))) y ms mb mw od pt fi re rc rs so ot cn la ro gr 0 ca mv ct fa cs ce rn 2 hY) kX8_good g1249 g1251 rfl gp41 g4 hP hS hY (by first | decide | omega) hl.1 rfl (by decide) (by first | decide | omega) dX8_out_36 (fun q ce E h' H1 locs1 hE => hE.elim) (fun v hh5 H locs hq hP hS => ?_)
      obtain ⟨rfl, rfl⟩ := hq
      replace hR := hR.re8 (o' := (.inr (8, [.ref ms, .ref mb, .ref mw, .int gr, .int 2, .int ca, .int mv, .ref od, .ref pt, .int ct, .int fa, .ref fi, .ref re, .int cs, .ref rc, .ref rs, .ref so, .ref ot, .ref cn, .ref la, .int ce, .ref ro, .int rn]))) hY0
      replace hRB := hRB.re8 (o' := (.inr (8, [.ref ms, .ref mb, .ref mw, .int gr, .int 2, .int ca, .int mv, .ref od, .ref pt, .int ct, .int fa, .ref fi, .ref re, .int cs, .ref rc, .ref rs, .ref so, .ref ot, .ref cn, .ref la, .int ce, .ref ro, .int rn]))) hY0
      rw [qs_qs] at hP
      replace hms := qs_re (o' := (.inr (8, [.ref ms, .ref mb, .ref mw, .int gr, .int 2, .int ca, .int mv, .ref od, .ref pt, .int ct, .int fa, .ref fi, .ref re, .int cs, .ref rc, .ref rs, .ref so, .ref ot, .ref cn, .ref la, .int ce, .ref ro, .int rn]))) (fun q => by subst q; have := hms.symm.trans hY; first | cases this | simp at this) hms
      replace hmb := qs_re (o' := (.inr (8, [.ref ms, .ref mb, .ref mw, .int gr, .int 2, .int ca, .int mv, .ref od, .ref pt, .int ct, .int fa, .ref fi, .ref re, .int cs, .ref rc, .ref rs, .ref so, .ref ot, .ref cn, .ref la, .int ce, .ref ro, .int rn]))) (fun q => by subst q; have := hmb.symm.trans hY; first | cases this | simp at this) hmb
      replace hY : (qs h y (.inr (8, [.ref ms, .ref mb, .ref mw, .int gr, .int 2, .int ca, .int mv, .ref od, .ref pt, .int ct, .int fa, .ref fi, .ref re, .int cs, .ref rc, .ref rs, .ref so, .ref ot, .ref cn, .ref la, .int ce, .ref ro, .int rn]))) y = some (.inr (8, [.ref ms, .ref mb, .ref mw, .int gr, .int 2, .int ca, .int mv, .ref od, .ref pt, .int ct, .int fa, .ref fi, .ref re, .int cs, .ref rc, .ref rs, .ref so, .ref ot, .ref cn, .ref la, .int ce, .ref ro, .int rn])) := qs_self
      refine lv_if_ne (tgt := 44) hx hb dX8_out_39 (by decide) (fun c => absurd rfl c) (fun _ => ?_)
      refine lv_iconst (v := 0) hx hb dX8_out_42 (by decide) ?_
      exact q_iret C hP hS ⟨2, rfl, ⟨rfl, Or.inr ⟨⟨gg0, gg1⟩, rfl⟩⟩⟩ (by omega) dX8_out_43
    · refine lv_if_eq (tgt := 19) hx hb dX8_out_12 (by decide) (fun _ => ?_) (fun c => absurd (by decide) c)
      refine lv_iconst (v := 0) hx hb dX8_out_19 (by decide) ?_
      refine lv_iconst (v := 1) hx hb dX8_out_20 (by decide) ?_
      have hY0 := hY
      refine q_callV (rest := []) C (c_X8_good0 l D cy N0 (h) y ms mb mw od pt fi re rc rs so ot cn la ro gr cd ca mv ct fa cs ce rn 1 hY) kX8_good g1249 g1251 rfl gp41 g4 hP hS hY (by first | decide | omega) hl.1 rfl (by decide) (by first | decide | omega) dX8_out_21 (fun q ce E h' H1 locs1 hE => hE.elim) (fun v hh6 H locs hq hP hS => ?_)
      obtain ⟨rfl, rfl⟩ := hq
      replace hR := hR.set8 (o := (.inr (8, [.ref ms, .ref mb, .ref mw, .int gr, .int 1, .int ca, .int mv, .ref od, .ref pt, .int ct, .int fa, .ref fi, .ref re, .int cs, .ref rc, .ref rs, .ref so, .ref ot, .ref cn, .ref la, .int ce, .ref ro, .int rn]))) hY0
      replace hRB := hRB.set8 (o := (.inr (8, [.ref ms, .ref mb, .ref mw, .int gr, .int 1, .int ca, .int mv, .ref od, .ref pt, .int ct, .int fa, .ref fi, .ref re, .int cs, .ref rc, .ref rs, .ref so, .ref ot, .ref cn, .ref la, .int ce, .ref ro, .int rn]))) hY0
      replace hms := (qs_ne (h := h) (a := y) (o := (.inr (8, [.ref ms, .ref mb, .ref mw, .int gr, .int 1, .int ca, .int mv, .ref od, .ref pt, .int ct, .int fa, .ref fi, .ref re, .int cs, .ref rc, .ref rs, .ref so, .ref ot, .ref cn, .ref la, .int ce, .ref ro, .int rn]))) (fun q => by subst q; have := hms.symm.trans hY; first | cases this | simp at this)).trans hms
      replace hmb := (qs_ne (h := h) (a := y) (o := (.inr (8, [.ref ms, .ref mb, .ref mw, .int gr, .int 1, .int ca, .int mv, .ref od, .ref pt, .int ct, .int fa, .ref fi, .ref re, .int cs, .ref rc, .ref rs, .ref so, .ref ot, .ref cn, .ref la, .int ce, .ref ro, .int rn]))) (fun q => by subst q; have := hmb.symm.trans hY; first | cases this | simp at this)).trans hmb
      replace hY : (qs h y (.inr (8, [.ref ms, .ref mb, .ref mw, .int gr, .int 1, .int ca, .int mv, .ref od, .ref pt, .int ct, .int fa, .ref fi, .ref re, .int cs, .ref rc, .ref rs, .ref so, .ref ot, .ref cn, .ref la, .int ce, .ref ro, .int rn]))) y = some (.inr (8, [.ref ms, .ref mb, .ref mw, .int gr, .int 1, .int ca, .int mv, .ref od, .ref pt, .int ct, .int fa, .ref fi, .ref re, .int cs, .ref rc, .ref rs, .ref so, .ref ot, .ref cn, .ref la, .int ce, .ref ro, .int rn])) := qs_self
      refine lv_if_eq (tgt := 42) hx hb dX8_out_24 (by decide) (fun _ => ?_) (fun c => absurd (by decide) c)
      refine lv_iconst (v := 0) hx hb dX8_out_42 (by decide) ?_
      exact q_iret C hP hS ⟨1, rfl, ⟨rfl, Or.inl ⟨fun g9 => gg1 g9.2, rfl⟩⟩⟩ (by omega) dX8_out_43
  · refine lv_if_eq (tgt := 19) hx hb dX8_out_5 (by decide) (fun _ => ?_) (fun c => absurd (by decide) c)
    refine lv_iconst (v := 0) hx hb dX8_out_19 (by decide) ?_
    refine lv_iconst (v := 1) hx hb dX8_out_20 (by decide) ?_
    have hY0 := hY
    refine q_callV (rest := []) C (c_X8_good0 l D cy N0 (h) y ms mb mw od pt fi re rc rs so ot cn la ro gr cd ca mv ct fa cs ce rn 1 hY) kX8_good g1249 g1251 rfl gp41 g4 hP hS hY (by first | decide | omega) hl.1 rfl (by decide) (by first | decide | omega) dX8_out_21 (fun q ce E h' H1 locs1 hE => hE.elim) (fun v hh7 H locs hq hP hS => ?_)
    obtain ⟨rfl, rfl⟩ := hq
    replace hR := hR.set8 (o := (.inr (8, [.ref ms, .ref mb, .ref mw, .int gr, .int 1, .int ca, .int mv, .ref od, .ref pt, .int ct, .int fa, .ref fi, .ref re, .int cs, .ref rc, .ref rs, .ref so, .ref ot, .ref cn, .ref la, .int ce, .ref ro, .int rn]))) hY0
    replace hRB := hRB.set8 (o := (.inr (8, [.ref ms, .ref mb, .ref mw, .int gr, .int 1, .int ca, .int mv, .ref od, .ref pt, .int ct, .int fa, .ref fi, .ref re, .int cs, .ref rc, .ref rs, .ref so, .ref ot, .ref cn, .ref la, .int ce, .ref ro, .int rn]))) hY0
    replace hms := (qs_ne (h := h) (a := y) (o := (.inr (8, [.ref ms, .ref mb, .ref mw, .int gr, .int 1, .int ca, .int mv, .ref od, .ref pt, .int ct, .int fa, .ref fi, .ref re, .int cs, .ref rc, .ref rs, .ref so, .ref ot, .ref cn, .ref la, .int ce, .ref ro, .int rn]))) (fun q => by subst q; have := hms.symm.trans hY; first | cases this | simp at this)).trans hms
    replace hmb := (qs_ne (h := h) (a := y) (o := (.inr (8, [.ref ms, .ref mb, .ref mw, .int gr, .int 1, .int ca, .int mv, .ref od, .ref pt, .int ct, .int fa, .ref fi, .ref re, .int cs, .ref rc, .ref rs, .ref so, .ref ot, .ref cn, .ref la, .int ce, .ref ro, .int rn]))) (fun q => by subst q; have := hmb.symm.trans hY; first | cases this | simp at this)).trans hmb
    replace hY : (qs h y (.inr (8, [.ref ms, .ref mb, .ref mw, .int gr, .int 1, .int ca, .int mv, .ref od, .ref pt, .int ct, .int fa, .ref fi, .ref re, .int cs, .ref rc, .ref rs, .ref so, .ref ot, .ref cn, .ref la, .int ce, .ref ro, .int rn]))) y = some (.inr (8, [.ref ms, .ref mb, .ref mw, .int gr, .int 1, .int ca, .int mv, .ref od, .ref pt, .int ct, .int fa, .ref fi, .ref re, .int cs, .ref rc, .ref rs, .ref so, .ref ot, .ref cn, .ref la, .int ce, .ref ro, .int rn])) := qs_self
    refine lv_if_eq (tgt := 42) hx hb dX8_out_24 (by decide) (fun _ => ?_) (fun c => absurd (by decide) c)
    refine lv_iconst (v := 0) hx hb dX8_out_42 (by decide) ?_
    exact q_iret C hP hS ⟨1, rfl, ⟨rfl, Or.inl ⟨fun g9 => gg0 g9.1, rfl⟩⟩⟩ (by omega) dX8_out_43

theorem dX8_near_0 : decode cX8_near 0 = .ok (.aload_n 0, 1) := by decide +kernel
theorem dX8_near_1 : decode cX8_near 1 = .ok (.iload_n 1, 1) := by decide +kernel
theorem dX8_near_2 : decode cX8_near 2 = .ok (.invokestatic 96, 3) := by decide +kernel
theorem dX8_near_5 : decode cX8_near 5 = .ok (.ifCond .eq 18, 3) := by decide +kernel
theorem dX8_near_8 : decode cX8_near 8 = .ok (.iload 4, 2) := by decide +kernel
theorem dX8_near_10 : decode cX8_near 10 = .ok (.ifCond .lt 13, 3) := by decide +kernel
theorem dX8_near_13 : decode cX8_near 13 = .ok (.iload 4, 2) := by decide +kernel
theorem dX8_near_15 : decode cX8_near 15 = .ok (.iconst 3, 1) := by decide +kernel
theorem dX8_near_16 : decode cX8_near 16 = .ok (.if_icmp .gt 7, 3) := by decide +kernel
theorem dX8_near_19 : decode cX8_near 19 = .ok (.iconst 1, 1) := by decide +kernel
theorem dX8_near_20 : decode cX8_near 20 = .ok (.goto 4, 3) := by decide +kernel
theorem dX8_near_23 : decode cX8_near 23 = .ok (.iconst 0, 1) := by decide +kernel
theorem dX8_near_24 : decode cX8_near 24 = .ok (.iconst 1, 1) := by decide +kernel
theorem dX8_near_25 : decode cX8_near 25 = .ok (.invokevirtual 100, 3) := by decide +kernel
theorem dX8_near_28 : decode cX8_near 28 = .ok (.ifCond .eq 18, 3) := by decide +kernel
theorem dX8_near_31 : decode cX8_near 31 = .ok (.aload_n 0, 1) := by decide +kernel
theorem dX8_near_32 : decode cX8_near 32 = .ok (.aload_n 0, 1) := by decide +kernel
theorem dX8_near_33 : decode cX8_near 33 = .ok (.iload_n 1, 1) := by decide +kernel
theorem dX8_near_34 : decode cX8_near 34 = .ok (.bipush 8, 2) := by decide +kernel
theorem dX8_near_36 : decode cX8_near 36 = .ok (.invokevirtual 108, 3) := by decide +kernel
theorem dX8_near_39 : decode cX8_near 39 = .ok (.iconst 2, 1) := by decide +kernel
theorem dX8_near_40 : decode cX8_near 40 = .ok (.invokevirtual 100, 3) := by decide +kernel
theorem dX8_near_43 : decode cX8_near 43 = .ok (.ifCond .ne 5, 3) := by decide +kernel
theorem dX8_near_46 : decode cX8_near 46 = .ok (.lconst 0, 1) := by decide +kernel
theorem dX8_near_47 : decode cX8_near 47 = .ok (.lreturn, 1) := by decide +kernel
set_option maxRecDepth 100000 in
set_option maxHeartbeats 4000000 in
theorem c_X8_near_0 (l : Launch) (D : va_G) (cy : Nat → ClassId) (N0 : Nat) (h : qH) (y ms mb mw od pt fi re rc rs so ot cn la ro : Nat) (gr cd ca mv ct fa cs ce rn : Int32) (f g : Nat → Option Nat) (p0 : Int32) (p1 : Int64) (p2 : Int32) (hY : h y = some (.inr (8, [.ref ms, .ref mb, .ref mw, .int gr, .int cd, .int ca, .int mv, .ref od, .ref pt, .int ct, .int fa, .ref fi, .ref re, .int cs, .ref rc, .ref rs, .ref so, .ref ot, .ref cn, .ref la, .int ce, .ref ro, .int rn]))) (hms : h ms = some (.inl (cy 5, 24, .inr (.inr (.inr (.inr f)))))) (hmb : h mb = some (.inl (cy 5, 4, .inr (.inr (.inr (.inr g)))))) (hR : qRo h f 24) (hRB : qRo h g 4) : qC l D cy N0 yX8_near cX8_near 10 (some .long) 1 60 0 0 [.ref y, .int p0, .long p1, .int p2] h (fun v h' => ∃ cd', h' = qs h y (.inr (8, [.ref ms, .ref mb, .ref mw, .int gr, .int cd', .int ca, .int mv, .ref od, .ref pt, .int ct, .int fa, .ref fi, .ref re, .int cs, .ref rc, .ref rs, .ref so, .ref ot, .ref cn, .ref la, .int ce, .ref ro, .int rn])) ∧ v = some (.long 0) ∧ ((¬ (qSl p0 ∧ qIn p2 3) ∧ cd' = 1) ∨ ((qSl p0 ∧ qIn p2 3) ∧ cd' = 2))) (fun E h' => False) := by
  refine q_ofW (by decide) (by exact Nat.le_of_ble_eq_true rfl) ?_
  intro p e s m below meth c ls C hP hl
  have hx := C.1
  have hb := C.2.1
  have hS : va_S (qA N0) s.heap s.heap [] := va_S.rf
  have hl : lv_has ls 10 [(0, .ref y), (1, .int p0), (2, .long p1), (4, .int p2)] := hl
  refine lv_aload_n hx hb dX8_near_0 rfl (lv_at hl 0 rfl) ?_
  refine lv_iload_n hx hb dX8_near_1 rfl (lv_at hl 1 rfl) ?_
  refine q_callS (rest := [.ref y]) C (c_X8_isSlot l D cy N0 (h) p0) kX8_isSlot g1246 g1247 hP hS (by first | decide | omega) hl.1 rfl (by simp [q_catrf, q_cati, q_catl, q_cata, q_catn]) (by first | decide | omega) dX8_near_2 (fun q ce E h' H1 locs1 hE => hE.elim) (fun v hh1 H locs hq hP hS => ?_)
  obtain ⟨rfl, hq⟩ := hq
  rcases hq with ⟨rfl, gg0⟩ | ⟨rfl, gg0⟩
  · refine lv_if_eq (tgt := 23) hx hb dX8_near_5 (by decide) (fun c => absurd c (by decide)) (fun _ => ?_)
    refine lv_iload hx hb dX8_near_8 (lv_at hl 3 rfl) ?_
    refine lv_if_lt (tgt := 23) hx hb dX8_near_10 (by decide) (fun c10 => ?_) (fun c10 => ?_)
    · refine lv_iconst (v := 0) hx hb dX8_near_23 (by decide) ?_
      refine lv_iconst (v := 1) hx hb dX8_near_24 (by decide) ?_
      have hY0 := hY
      refine q_callV (rest := []) C (c_X8_good0 l D cy N0 (h) y ms mb mw od pt fi re rc rs so ot cn la ro gr cd ca mv ct fa cs ce rn 1 hY) kX8_good g1249 g1251 rfl gp41 g4 hP hS hY (by first | decide | omega) hl.1 rfl (by decide) (by first | decide | omega) dX8_near_25 (fun q ce E h' H1 locs1 hE => hE.elim) (fun v hh2 H locs hq hP hS => ?_)
      obtain ⟨rfl, rfl⟩ := hq
      replace hR := hR.set8 (o := (.inr (8, [.ref ms, .ref mb, .ref mw, .int gr, .int 1, .int ca, .int mv, .ref od, .ref pt, .int ct, .int fa, .ref fi, .ref re, .int cs, .ref rc, .ref rs, .ref so, .ref ot, .ref cn, .ref la, .int ce, .ref ro, .int rn]))) hY0
      replace hRB := hRB.set8 (o := (.inr (8, [.ref ms, .ref mb, .ref mw, .int gr, .int 1, .int ca, .int mv, .ref od, .ref pt, .int ct, .int fa, .ref fi, .ref re, .int cs, .ref rc, .ref rs, .ref so, .ref ot, .ref cn, .ref la, .int ce, .ref ro, .int rn]))) hY0
      replace hms := (qs_ne (h := h) (a := y) (o := (.inr (8, [.ref ms, .ref mb, .ref mw, .int gr, .int 1, .int ca, .int mv, .ref od, .ref pt, .int ct, .int fa, .ref fi, .ref re, .int cs, .ref rc, .ref rs, .ref so, .ref ot, .ref cn, .ref la, .int ce, .ref ro, .int rn]))) (fun q => by subst q; have := hms.symm.trans hY; first | cases this | simp at this)).trans hms
      replace hmb := (qs_ne (h := h) (a := y) (o := (.inr (8, [.ref ms, .ref mb, .ref mw, .int gr, .int 1, .int ca, .int mv, .ref od, .ref pt, .int ct, .int fa, .ref fi, .ref re, .int cs, .ref rc, .ref rs, .ref so, .ref ot, .ref cn, .ref la, .int ce, .ref ro, .int rn]))) (fun q => by subst q; have := hmb.symm.trans hY; first | cases this | simp at this)).trans hmb
      replace hY : (qs h y (.inr (8, [.ref ms, .ref mb, .ref mw, .int gr, .int 1, .int ca, .int mv, .ref od, .ref pt, .int ct, .int fa, .ref fi, .ref re, .int cs, .ref rc, .ref rs, .ref so, .ref ot, .ref cn, .ref la, .int ce, .ref ro, .int rn]))) y = some (.inr (8, [.ref ms, .ref mb, .ref mw, .int gr, .int 1, .int ca, .int mv, .ref od, .ref pt, .int ct, .int fa, .ref fi, .ref re, .int cs, .ref rc, .ref rs, .ref so, .ref ot, .ref cn, .ref la, .int ce, .ref ro, .int rn])) := qs_self
      refine lv_if_eq (tgt := 46) hx hb dX8_near_28 (by decide) (fun _ => ?_) (fun c => absurd (by decide) c)
      refine lv_lconst (v := 0) hx hb dX8_near_46 (by decide) ?_
      exact q_lret C hP hS ⟨1, rfl, ⟨rfl, Or.inl ⟨fun g9 => g9.2.1 c10, rfl⟩⟩⟩ (by omega) dX8_near_47
    · refine lv_iload hx hb dX8_near_13 (lv_at hl 3 rfl) ?_
      refine lv_iconst (v := 3) hx hb dX8_near_15 (by decide) ?_
      refine lv_icmp_gt (tgt := 23) hx hb dX8_near_16 (by decide) (fun c16 => ?_) (fun c16 => ?_)
      · refine lv_iconst (v := 0) hx hb dX8_near_23 (by decide) ?_
        refine lv_iconst (v := 1) hx hb dX8_near_24 (by decide) ?_
        have hY0 := hY
        refine q_callV (rest := []) C (c_X8_good0 l D cy N0 (h) y ms mb mw od pt fi re rc rs so ot cn la ro gr cd ca mv ct fa cs ce rn 1 hY) kX8_good g1249 g1251 rfl gp41 g4 hP hS hY (by first | decide | omega) hl.1 rfl (by decide) (by first | decide | omega) dX8_near_25 (fun q ce E h' H1 locs1 hE => hE.elim) (fun v hh3 H locs hq hP hS => ?_)
        obtain ⟨rfl, rfl⟩ := hq
        replace hR := hR.set8 (o := (.inr (8, [.ref ms, .ref mb, .ref mw, .int gr, .int 1, .int ca, .int mv, .ref od, .ref pt, .int ct, .int fa, .ref fi, .ref re, .int cs, .ref rc, .ref rs, .ref so, .ref ot, .ref cn, .ref la, .int ce, .ref ro, .int rn]))) hY0
        replace hRB := hRB.set8 (o := (.inr (8, [.ref ms, .ref mb, .ref mw, .int gr, .int 1, .int ca, .int mv, .ref od, .ref pt, .int ct, .int fa, .ref fi, .ref re, .int cs, .ref rc, .ref rs, .ref so, .ref ot, .ref cn, .ref la, .int ce, .ref ro, .int rn]))) hY0
        replace hms := (qs_ne (h := h) (a := y) (o := (.inr (8, [.ref ms, .ref mb, .ref mw, .int gr, .int 1, .int ca, .int mv, .ref od, .ref pt, .int ct, .int fa, .ref fi, .ref re, .int cs, .ref rc, .ref rs, .ref so, .ref ot, .ref cn, .ref la, .int ce, .ref ro, .int rn]))) (fun q => by subst q; have := hms.symm.trans hY; first | cases this | simp at this)).trans hms
        replace hmb := (qs_ne (h := h) (a := y) (o := (.inr (8, [.ref ms, .ref mb, .ref mw, .int gr, .int 1, .int ca, .int mv, .ref od, .ref pt, .int ct, .int fa, .ref fi, .ref re, .int cs, .ref rc, .ref rs, .ref so, .ref ot, .ref cn, .ref la, .int ce, .ref ro, .int rn]))) (fun q => by subst q; have := hmb.symm.trans hY; first | cases this | simp at this)).trans hmb
        replace hY : (qs h y (.inr (8, [.ref ms, .ref mb, .ref mw, .int gr, .int 1, .int ca, .int mv, .ref od, .ref pt, .int ct, .int fa, .ref fi, .ref re, .int cs, .ref rc, .ref rs, .ref so, .ref ot, .ref cn, .ref la, .int ce, .ref ro, .int rn]))) y = some (.inr (8, [.ref ms, .ref mb, .ref mw, .int gr, .int 1, .int ca, .int mv, .ref od, .ref pt, .int ct, .int fa, .ref fi, .ref re, .int cs, .ref rc, .ref rs, .ref so, .ref ot, .ref cn, .ref la, .int ce, .ref ro, .int rn])) := qs_self
        refine lv_if_eq (tgt := 46) hx hb dX8_near_28 (by decide) (fun _ => ?_) (fun c => absurd (by decide) c)
        refine lv_lconst (v := 0) hx hb dX8_near_46 (by decide) ?_
        exact q_lret C hP hS ⟨1, rfl, ⟨rfl, Or.inl ⟨fun g9 => q32_no c16 g9.2.2, rfl⟩⟩⟩ (by omega) dX8_near_47
      · refine lv_iconst (v := 1) hx hb dX8_near_19 (by decide) ?_
        refine lv_goto (tgt := 24) hx hb dX8_near_20 (by decide) ?_
        refine lv_iconst (v := 1) hx hb dX8_near_24 (by decide) ?_
        have hY0 := hY
        refine q_callV (rest := []) C (c_X8_good1 l D cy N0 (h) y ms mb mw od pt fi re rc rs so ot cn la ro gr cd ca mv ct fa cs ce rn 1 hY) kX8_good g1249 g1251 rfl gp41 g4 hP hS hY (by first | decide | omega) hl.1 rfl (by decide) (by first | decide | omega) dX8_near_25 (fun q ce E h' H1 locs1 hE => hE.elim) (fun v hh4 H locs hq hP hS => ?_)
        obtain ⟨rfl, rfl⟩ := hq
        replace hR := hR.set8 (o := (.inr (8, [.ref ms, .ref mb, .ref mw, .int gr, .int 0, .int ca, .int mv, .ref od, .ref pt, .int ct, .int fa, .ref fi, .ref re, .int cs, .ref rc, .ref rs, .ref so, .ref ot, .ref cn, .ref la, .int ce, .ref ro, .int rn]))) hY0
        replace hRB := hRB.set8 (o := (.inr (8, [.ref ms, .ref mb, .ref mw, .int gr, .int 0, .int ca, .int mv, .ref od, .ref pt, .int ct, .int fa, .ref fi, .ref re, .int cs, .ref rc, .ref rs, .ref so, .ref ot, .ref cn, .ref la, .int ce, .ref ro, .int rn]))) hY0
        replace hms := (qs_ne (h := h) (a := y) (o := (.inr (8, [.ref ms, .ref mb, .ref mw, .int gr, .int 0, .int ca, .int mv, .ref od, .ref pt, .int ct, .int fa, .ref fi, .ref re, .int cs, .ref rc, .ref rs, .ref so, .ref ot, .ref cn, .ref la, .int ce, .ref ro, .int rn]))) (fun q => by subst q; have := hms.symm.trans hY; first | cases this | simp at this)).trans hms
        replace hmb := (qs_ne (h := h) (a := y) (o := (.inr (8, [.ref ms, .ref mb, .ref mw, .int gr, .int 0, .int ca, .int mv, .ref od, .ref pt, .int ct, .int fa, .ref fi, .ref re, .int cs, .ref rc, .ref rs, .ref so, .ref ot, .ref cn, .ref la, .int ce, .ref ro, .int rn]))) (fun q => by subst q; have := hmb.symm.trans hY; first | cases this | simp at this)).trans hmb
        replace hY : (qs h y (.inr (8, [.ref ms, .ref mb, .ref mw, .int gr, .int 0, .int ca, .int mv, .ref od, .ref pt, .int ct, .int fa, .ref fi, .ref re, .int cs, .ref rc, .ref rs, .ref so, .ref ot, .ref cn, .ref la, .int ce, .ref ro, .int rn]))) y = some (.inr (8, [.ref ms, .ref mb, .ref mw, .int gr, .int 0, .int ca, .int mv, .ref od, .ref pt, .int ct, .int fa, .ref fi, .ref re, .int cs, .ref rc, .ref rs, .ref so, .ref ot, .ref cn, .ref la, .int ce, .ref ro, .int rn])) := qs_self
        refine lv_if_eq (tgt := 46) hx hb dX8_near_28 (by decide) (fun c => absurd c (by decide)) (fun _ => ?_)
        refine lv_aload_n hx hb dX8_near_31 rfl (lv_at hl 0 rfl) ?_
        refine lv_aload_n hx hb dX8_near_32 rfl (lv_at hl 0 rfl) ?_
        refine lv_iload_n hx hb dX8_near_33 rfl (lv_at hl 1 rfl) ?_
        refine lv_bipush (v := 8) hx hb dX8_near_34 (by decide) ?_
        obtain ⟨i0, hi0, ei0⟩ := gg0.of
        subst ei0
        refine q_callV (rest := [.ref y]) C (c_X8_holds_0 l D cy N0 (qs h y (.inr (8, [.ref ms, .ref mb, .ref mw, .int gr, .int 0, .int ca, .int mv, .ref od, .ref pt, .int ct, .int fa, .ref fi, .ref re, .int cs, .ref rc, .ref rs, .ref so, .ref ot, .ref cn, .ref la, .int ce, .ref ro, .int rn]))) y ms mb mw od pt fi re rc rs so ot cn la ro gr 0 ca mv ct fa cs ce rn f g i0 8 hY hms hmb hR hRB hi0) kX8_holds g1264 g1266 rfl gp42 g4 hP hS hY (by first | decide | omega) hl.1 rfl (by simp [q_catrf, q_cati, q_catl, q_cata, q_catn]) (by first | decide | omega) dX8_near_36 (fun q ce E h' H1 locs1 hE => hE.elim) (fun v hh5 H locs hq hP hS => ?_)
        obtain ⟨rfl, rfl⟩ := hq
        refine lv_iconst (v := 2) hx hb dX8_near_39 (by decide) ?_
        have hY0 := hY
        refine q_callV (rest := []) C (c_X8_good0 l D cy N0 (qs h y (.inr (8, [.ref ms, .ref mb, .ref mw, .int gr, .int 0, .int ca, .int mv, .ref od, .ref pt, .int ct, .int fa, .ref fi, .ref re, .int cs, .ref rc, .ref rs, .ref so, .ref ot, .ref cn, .ref la, .int ce, .ref ro, .int rn]))) y ms mb mw od pt fi re rc rs so ot cn la ro gr 0 ca mv ct fa cs ce rn 2 hY) kX8_good g1249 g1251 rfl gp41 g4 hP hS hY (by first | decide | omega) hl.1 rfl (by decide) (by first | decide | omega) dX8_near_40 (fun q ce E h' H1 locs1 hE => hE.elim) (fun v hh6 H locs hq hP hS => ?_)
        obtain ⟨rfl, rfl⟩ := hq
        replace hR := hR.re8 (o' := (.inr (8, [.ref ms, .ref mb, .ref mw, .int gr, .int 2, .int ca, .int mv, .ref od, .ref pt, .int ct, .int fa, .ref fi, .ref re, .int cs, .ref rc, .ref rs, .ref so, .ref ot, .ref cn, .ref la, .int ce, .ref ro, .int rn]))) hY0
        replace hRB := hRB.re8 (o' := (.inr (8, [.ref ms, .ref mb, .ref mw, .int gr, .int 2, .int ca, .int mv, .ref od, .ref pt, .int ct, .int fa, .ref fi, .ref re, .int cs, .ref rc, .ref rs, .ref so, .ref ot, .ref cn, .ref la, .int ce, .ref ro, .int rn]))) hY0
        rw [qs_qs] at hP
        replace hms := qs_re (o' := (.inr (8, [.ref ms, .ref mb, .ref mw, .int gr, .int 2, .int ca, .int mv, .ref od, .ref pt, .int ct, .int fa, .ref fi, .ref re, .int cs, .ref rc, .ref rs, .ref so, .ref ot, .ref cn, .ref la, .int ce, .ref ro, .int rn]))) (fun q => by subst q; have := hms.symm.trans hY; first | cases this | simp at this) hms
        replace hmb := qs_re (o' := (.inr (8, [.ref ms, .ref mb, .ref mw, .int gr, .int 2, .int ca, .int mv, .ref od, .ref pt, .int ct, .int fa, .ref fi, .ref re, .int cs, .ref rc, .ref rs, .ref so, .ref ot, .ref cn, .ref la, .int ce, .ref ro, .int rn]))) (fun q => by subst q; have := hmb.symm.trans hY; first | cases this | simp at this) hmb
        replace hY : (qs h y (.inr (8, [.ref ms, .ref mb, .ref mw, .int gr, .int 2, .int ca, .int mv, .ref od, .ref pt, .int ct, .int fa, .ref fi, .ref re, .int cs, .ref rc, .ref rs, .ref so, .ref ot, .ref cn, .ref la, .int ce, .ref ro, .int rn]))) y = some (.inr (8, [.ref ms, .ref mb, .ref mw, .int gr, .int 2, .int ca, .int mv, .ref od, .ref pt, .int ct, .int fa, .ref fi, .ref re, .int cs, .ref rc, .ref rs, .ref so, .ref ot, .ref cn, .ref la, .int ce, .ref ro, .int rn])) := qs_self
        refine lv_if_ne (tgt := 48) hx hb dX8_near_43 (by decide) (fun c => absurd rfl c) (fun _ => ?_)
        refine lv_lconst (v := 0) hx hb dX8_near_46 (by decide) ?_
        exact q_lret C hP hS ⟨2, rfl, ⟨rfl, Or.inr ⟨⟨gg0, ⟨c10, q32_not c16⟩⟩, rfl⟩⟩⟩ (by omega) dX8_near_47
  · refine lv_if_eq (tgt := 23) hx hb dX8_near_5 (by decide) (fun _ => ?_) (fun c => absurd (by decide) c)
    refine lv_iconst (v := 0) hx hb dX8_near_23 (by decide) ?_
    refine lv_iconst (v := 1) hx hb dX8_near_24 (by decide) ?_
    have hY0 := hY
    refine q_callV (rest := []) C (c_X8_good0 l D cy N0 (h) y ms mb mw od pt fi re rc rs so ot cn la ro gr cd ca mv ct fa cs ce rn 1 hY) kX8_good g1249 g1251 rfl gp41 g4 hP hS hY (by first | decide | omega) hl.1 rfl (by decide) (by first | decide | omega) dX8_near_25 (fun q ce E h' H1 locs1 hE => hE.elim) (fun v hh7 H locs hq hP hS => ?_)
    obtain ⟨rfl, rfl⟩ := hq
    replace hR := hR.set8 (o := (.inr (8, [.ref ms, .ref mb, .ref mw, .int gr, .int 1, .int ca, .int mv, .ref od, .ref pt, .int ct, .int fa, .ref fi, .ref re, .int cs, .ref rc, .ref rs, .ref so, .ref ot, .ref cn, .ref la, .int ce, .ref ro, .int rn]))) hY0
    replace hRB := hRB.set8 (o := (.inr (8, [.ref ms, .ref mb, .ref mw, .int gr, .int 1, .int ca, .int mv, .ref od, .ref pt, .int ct, .int fa, .ref fi, .ref re, .int cs, .ref rc, .ref rs, .ref so, .ref ot, .ref cn, .ref la, .int ce, .ref ro, .int rn]))) hY0
    replace hms := (qs_ne (h := h) (a := y) (o := (.inr (8, [.ref ms, .ref mb, .ref mw, .int gr, .int 1, .int ca, .int mv, .ref od, .ref pt, .int ct, .int fa, .ref fi, .ref re, .int cs, .ref rc, .ref rs, .ref so, .ref ot, .ref cn, .ref la, .int ce, .ref ro, .int rn]))) (fun q => by subst q; have := hms.symm.trans hY; first | cases this | simp at this)).trans hms
    replace hmb := (qs_ne (h := h) (a := y) (o := (.inr (8, [.ref ms, .ref mb, .ref mw, .int gr, .int 1, .int ca, .int mv, .ref od, .ref pt, .int ct, .int fa, .ref fi, .ref re, .int cs, .ref rc, .ref rs, .ref so, .ref ot, .ref cn, .ref la, .int ce, .ref ro, .int rn]))) (fun q => by subst q; have := hmb.symm.trans hY; first | cases this | simp at this)).trans hmb
    replace hY : (qs h y (.inr (8, [.ref ms, .ref mb, .ref mw, .int gr, .int 1, .int ca, .int mv, .ref od, .ref pt, .int ct, .int fa, .ref fi, .ref re, .int cs, .ref rc, .ref rs, .ref so, .ref ot, .ref cn, .ref la, .int ce, .ref ro, .int rn]))) y = some (.inr (8, [.ref ms, .ref mb, .ref mw, .int gr, .int 1, .int ca, .int mv, .ref od, .ref pt, .int ct, .int fa, .ref fi, .ref re, .int cs, .ref rc, .ref rs, .ref so, .ref ot, .ref cn, .ref la, .int ce, .ref ro, .int rn])) := qs_self
    refine lv_if_eq (tgt := 46) hx hb dX8_near_28 (by decide) (fun _ => ?_) (fun c => absurd (by decide) c)
    refine lv_lconst (v := 0) hx hb dX8_near_46 (by decide) ?_
    exact q_lret C hP hS ⟨1, rfl, ⟨rfl, Or.inl ⟨fun g9 => gg0 g9.1, rfl⟩⟩⟩ (by omega) dX8_near_47

theorem dX8_range_0 : decode cX8_range 0 = .ok (.aload_n 0, 1) := by decide +kernel
theorem dX8_range_1 : decode cX8_range 1 = .ok (.iload_n 1, 1) := by decide +kernel
theorem dX8_range_2 : decode cX8_range 2 = .ok (.invokestatic 96, 3) := by decide +kernel
theorem dX8_range_5 : decode cX8_range 5 = .ok (.ifCond .eq 14, 3) := by decide +kernel
theorem dX8_range_8 : decode cX8_range 8 = .ok (.iload_n 2, 1) := by decide +kernel
theorem dX8_range_9 : decode cX8_range 9 = .ok (.invokestatic 96, 3) := by decide +kernel
theorem dX8_range_12 : decode cX8_range 12 = .ok (.ifCond .eq 7, 3) := by decide +kernel
theorem dX8_range_15 : decode cX8_range 15 = .ok (.iconst 1, 1) := by decide +kernel
theorem dX8_range_16 : decode cX8_range 16 = .ok (.goto 4, 3) := by decide +kernel
theorem dX8_range_19 : decode cX8_range 19 = .ok (.iconst 0, 1) := by decide +kernel
theorem dX8_range_20 : decode cX8_range 20 = .ok (.iconst 1, 1) := by decide +kernel
theorem dX8_range_21 : decode cX8_range 21 = .ok (.invokevirtual 100, 3) := by decide +kernel
theorem dX8_range_24 : decode cX8_range 24 = .ok (.ifCond .eq 18, 3) := by decide +kernel
theorem dX8_range_27 : decode cX8_range 27 = .ok (.aload_n 0, 1) := by decide +kernel
theorem dX8_range_28 : decode cX8_range 28 = .ok (.aload_n 0, 1) := by decide +kernel
theorem dX8_range_29 : decode cX8_range 29 = .ok (.iload_n 2, 1) := by decide +kernel
theorem dX8_range_30 : decode cX8_range 30 = .ok (.bipush 8, 2) := by decide +kernel
theorem dX8_range_32 : decode cX8_range 32 = .ok (.invokevirtual 108, 3) := by decide +kernel
theorem dX8_range_35 : decode cX8_range 35 = .ok (.iconst 2, 1) := by decide +kernel
theorem dX8_range_36 : decode cX8_range 36 = .ok (.invokevirtual 100, 3) := by decide +kernel
theorem dX8_range_39 : decode cX8_range 39 = .ok (.ifCond .ne 5, 3) := by decide +kernel
theorem dX8_range_42 : decode cX8_range 42 = .ok (.iconst 0, 1) := by decide +kernel
theorem dX8_range_43 : decode cX8_range 43 = .ok (.ireturn, 1) := by decide +kernel
set_option maxRecDepth 100000 in
set_option maxHeartbeats 4000000 in
theorem c_X8_range_0 (l : Launch) (D : va_G) (cy : Nat → ClassId) (N0 : Nat) (h : qH) (y ms mb mw od pt fi re rc rs so ot cn la ro : Nat) (gr cd ca mv ct fa cs ce rn : Int32) (f g : Nat → Option Nat) (p0 : Int32) (p1 : Int32) (p2 : Int64) (p3 : Int64) (hY : h y = some (.inr (8, [.ref ms, .ref mb, .ref mw, .int gr, .int cd, .int ca, .int mv, .ref od, .ref pt, .int ct, .int fa, .ref fi, .ref re, .int cs, .ref rc, .ref rs, .ref so, .ref ot, .ref cn, .ref la, .int ce, .ref ro, .int rn]))) (hms : h ms = some (.inl (cy 5, 24, .inr (.inr (.inr (.inr f)))))) (hmb : h mb = some (.inl (cy 5, 4, .inr (.inr (.inr (.inr g)))))) (hR : qRo h f 24) (hRB : qRo h g 4) : qC l D cy N0 yX8_range cX8_range 10 (some .int) 1 60 0 0 [.ref y, .int p0, .int p1, .long p2, .long p3] h (fun v h' => ∃ cd', h' = qs h y (.inr (8, [.ref ms, .ref mb, .ref mw, .int gr, .int cd', .int ca, .int mv, .ref od, .ref pt, .int ct, .int fa, .ref fi, .ref re, .int cs, .ref rc, .ref rs, .ref so, .ref ot, .ref cn, .ref la, .int ce, .ref ro, .int rn])) ∧ v = some (.int 0) ∧ ((¬ (qSl p0 ∧ qSl p1) ∧ cd' = 1) ∨ ((qSl p0 ∧ qSl p1) ∧ cd' = 2))) (fun E h' => False) := by
  refine q_ofW (by decide) (by exact Nat.le_of_ble_eq_true rfl) ?_
  intro p e s m below meth c ls C hP hl
  have hx := C.1
  have hb := C.2.1
  have hS : va_S (qA N0) s.heap s.heap [] := va_S.rf
  have hl : lv_has ls 10 [(0, .ref y), (1, .int p0), (2, .int p1), (3, .long p2), (5, .long p3)] := hl
  refine lv_aload_n hx hb dX8_range_0 rfl (lv_at hl 0 rfl) ?_
  refine lv_iload_n hx hb dX8_range_1 rfl (lv_at hl 1 rfl) ?_
  refine q_callS (rest := [.ref y]) C (c_X8_isSlot l D cy N0 (h) p0) kX8_isSlot g1246 g1247 hP hS (by first | decide | omega) hl.1 rfl (by simp [q_catrf, q_cati, q_catl, q_cata, q_catn]) (by first | decide | omega) dX8_range_2 (fun q ce E h' H1 locs1 hE => hE.elim) (fun v hh1 H locs hq hP hS => ?_)
  obtain ⟨rfl, hq⟩ := hq
  rcases hq with ⟨rfl, gg0⟩ | ⟨rfl, gg0⟩
  · refine lv_if_eq (tgt := 19) hx hb dX8_range_5 (by decide) (fun c => absurd c (by decide)) (fun _ => ?_)
    refine lv_iload_n hx hb dX8_range_8 rfl (lv_at hl 2 rfl) ?_
    refine q_callS (rest := [.ref y]) C (c_X8_isSlot l D cy N0 (h) p1) kX8_isSlot g1246 g1247 hP hS (by first | decide | omega) hl.1 rfl (by simp [q_catrf, q_cati, q_catl, q_cata, q_catn]) (by first | decide | omega) dX8_range_9 (fun q ce E h' H1 locs1 hE => hE.elim) (fun v hh2 H locs hq hP hS => ?_)
    obtain ⟨rfl, hq⟩ := hq
    rcases hq with ⟨rfl, gg1⟩ | ⟨rfl, gg1⟩
    · refine lv_if_eq (tgt := 19) hx hb dX8_range_12 (by decide) (fun c => absurd c (by decide)) (fun _ => ?_)
      refine lv_iconst (v := 1) hx hb dX8_range_15 (by decide) ?_
      refine lv_goto (tgt := 20) hx hb dX8_range_16 (by decide) ?_
      refine lv_iconst (v := 1) hx hb dX8_range_20 (by decide) ?_
      have hY0 := hY
      refine q_callV (rest := []) C (c_X8_good1 l D cy N0 (h) y ms mb mw od pt fi re rc rs so ot cn la ro gr cd ca mv ct fa cs ce rn 1 hY) kX8_good g1249 g1251 rfl gp41 g4 hP hS hY (by first | decide | omega) hl.1 rfl (by decide) (by first | decide | omega) dX8_range_21 (fun q ce E h' H1 locs1 hE => hE.elim) (fun v hh3 H locs hq hP hS => ?_)
      obtain ⟨rfl, rfl⟩ := hq
      replace hR := hR.set8 (o := (.inr (8, [.ref ms, .ref mb, .ref mw, .int gr, .int 0, .int ca, .int mv, .ref od, .ref pt, .int ct, .int fa, .ref fi, .ref re, .int cs, .ref rc, .ref rs, .ref so, .ref ot, .ref cn, .ref la, .int ce, .ref ro, .int rn]))) hY0
      replace hRB := hRB.set8 (o := (.inr (8, [.ref ms, .ref mb, .ref mw, .int gr, .int 0, .int ca, .int mv, .ref od, .ref pt, .int ct, .int fa, .ref fi, .ref re, .int cs, .ref rc, .ref rs, .ref so, .ref ot, .ref cn, .ref la, .int ce, .ref ro, .int rn]))) hY0
      replace hms := (qs_ne (h := h) (a := y) (o := (.inr (8, [.ref ms, .ref mb, .ref mw, .int gr, .int 0, .int ca, .int mv, .ref od, .ref pt, .int ct, .int fa, .ref fi, .ref re, .int cs, .ref rc, .ref rs, .ref so, .ref ot, .ref cn, .ref la, .int ce, .ref ro, .int rn]))) (fun q => by subst q; have := hms.symm.trans hY; first | cases this | simp at this)).trans hms
      replace hmb := (qs_ne (h := h) (a := y) (o := (.inr (8, [.ref ms, .ref mb, .ref mw, .int gr, .int 0, .int ca, .int mv, .ref od, .ref pt, .int ct, .int fa, .ref fi, .ref re, .int cs, .ref rc, .ref rs, .ref so, .ref ot, .ref cn, .ref la, .int ce, .ref ro, .int rn]))) (fun q => by subst q; have := hmb.symm.trans hY; first | cases this | simp at this)).trans hmb
      replace hY : (qs h y (.inr (8, [.ref ms, .ref mb, .ref mw, .int gr, .int 0, .int ca, .int mv, .ref od, .ref pt, .int ct, .int fa, .ref fi, .ref re, .int cs, .ref rc, .ref rs, .ref so, .ref ot, .ref cn, .ref la, .int ce, .ref ro, .int rn]))) y = some (.inr (8, [.ref ms, .ref mb, .ref mw, .int gr, .int 0, .int ca, .int mv, .ref od, .ref pt, .int ct, .int fa, .ref fi, .ref re, .int cs, .ref rc, .ref rs, .ref so, .ref ot, .ref cn, .ref la, .int ce, .ref ro, .int rn])) := qs_self
      refine lv_if_eq (tgt := 42) hx hb dX8_range_24 (by decide) (fun c => absurd c (by decide)) (fun _ => ?_)
      refine lv_aload_n hx hb dX8_range_27 rfl (lv_at hl 0 rfl) ?_
      refine lv_aload_n hx hb dX8_range_28 rfl (lv_at hl 0 rfl) ?_
      refine lv_iload_n hx hb dX8_range_29 rfl (lv_at hl 2 rfl) ?_
      refine lv_bipush (v := 8) hx hb dX8_range_30 (by decide) ?_
      obtain ⟨i1, hi1, ei1⟩ := gg1.of
      subst ei1
      refine q_callV (rest := [.ref y]) C (c_X8_holds_0 l D cy N0 (qs h y (.inr (8, [.ref ms, .ref mb, .ref mw, .int gr, .int 0, .int ca, .int mv, .ref od, .ref pt, .int ct, .int fa, .ref fi, .ref re, .int cs, .ref rc, .ref rs, .ref so, .ref ot, .ref cn, .ref la, .int ce, .ref ro, .int rn]))) y ms mb mw od pt fi re rc rs so ot cn la ro gr 0 ca mv ct fa cs ce rn f g i1 8 hY hms hmb hR hRB hi1) kX8_holds g1264 g1266 rfl gp42 g4 hP hS hY (by first | decide | omega) hl.1 rfl (by simp [q_catrf, q_cati, q_catl, q_cata, q_catn]) (by first | decide | omega) dX8_range_32 (fun q ce E h' H1 locs1 hE => hE.elim) (fun v hh4 H locs hq hP hS => ?_)
      obtain ⟨rfl, rfl⟩ := hq
      refine lv_iconst (v := 2) hx hb dX8_range_35 (by decide) ?_
      have hY0 := hY
      refine q_callV (rest := []) C (c_X8_good0 l D cy N0 (qs h y (.inr (8, [.ref ms, .ref mb, .ref mw, .int gr, .int 0, .int ca, .int mv, .ref od, .ref pt, .int ct, .int fa, .ref fi, .ref re, .int cs, .ref rc, .ref rs, .ref so, .ref ot, .ref cn, .ref la, .int ce, .ref ro, .int rn]))) y ms mb mw od pt fi re rc rs so ot cn la ro gr 0 ca mv ct fa cs ce rn 2 hY) kX8_good g1249 g1251 rfl gp41 g4 hP hS hY (by first | decide | omega) hl.1 rfl (by decide) (by first | decide | omega) dX8_range_36 (fun q ce E h' H1 locs1 hE => hE.elim) (fun v hh5 H locs hq hP hS => ?_)
      obtain ⟨rfl, rfl⟩ := hq
      replace hR := hR.re8 (o' := (.inr (8, [.ref ms, .ref mb, .ref mw, .int gr, .int 2, .int ca, .int mv, .ref od, .ref pt, .int ct, .int fa, .ref fi, .ref re, .int cs, .ref rc, .ref rs, .ref so, .ref ot, .ref cn, .ref la, .int ce, .ref ro, .int rn]))) hY0
      replace hRB := hRB.re8 (o' := (.inr (8, [.ref ms, .ref mb, .ref mw, .int gr, .int 2, .int ca, .int mv, .ref od, .ref pt, .int ct, .int fa, .ref fi, .ref re, .int cs, .ref rc, .ref rs, .ref so, .ref ot, .ref cn, .ref la, .int ce, .ref ro, .int rn]))) hY0
      rw [qs_qs] at hP
      replace hms := qs_re (o' := (.inr (8, [.ref ms, .ref mb, .ref mw, .int gr, .int 2, .int ca, .int mv, .ref od, .ref pt, .int ct, .int fa, .ref fi, .ref re, .int cs, .ref rc, .ref rs, .ref so, .ref ot, .ref cn, .ref la, .int ce, .ref ro, .int rn]))) (fun q => by subst q; have := hms.symm.trans hY; first | cases this | simp at this) hms
      replace hmb := qs_re (o' := (.inr (8, [.ref ms, .ref mb, .ref mw, .int gr, .int 2, .int ca, .int mv, .ref od, .ref pt, .int ct, .int fa, .ref fi, .ref re, .int cs, .ref rc, .ref rs, .ref so, .ref ot, .ref cn, .ref la, .int ce, .ref ro, .int rn]))) (fun q => by subst q; have := hmb.symm.trans hY; first | cases this | simp at this) hmb
      replace hY : (qs h y (.inr (8, [.ref ms, .ref mb, .ref mw, .int gr, .int 2, .int ca, .int mv, .ref od, .ref pt, .int ct, .int fa, .ref fi, .ref re, .int cs, .ref rc, .ref rs, .ref so, .ref ot, .ref cn, .ref la, .int ce, .ref ro, .int rn]))) y = some (.inr (8, [.ref ms, .ref mb, .ref mw, .int gr, .int 2, .int ca, .int mv, .ref od, .ref pt, .int ct, .int fa, .ref fi, .ref re, .int cs, .ref rc, .ref rs, .ref so, .ref ot, .ref cn, .ref la, .int ce, .ref ro, .int rn])) := qs_self
      refine lv_if_ne (tgt := 44) hx hb dX8_range_39 (by decide) (fun c => absurd rfl c) (fun _ => ?_)
      refine lv_iconst (v := 0) hx hb dX8_range_42 (by decide) ?_
      exact q_iret C hP hS ⟨2, rfl, ⟨rfl, Or.inr ⟨⟨gg0, gg1⟩, rfl⟩⟩⟩ (by omega) dX8_range_43
    · refine lv_if_eq (tgt := 19) hx hb dX8_range_12 (by decide) (fun _ => ?_) (fun c => absurd (by decide) c)
      refine lv_iconst (v := 0) hx hb dX8_range_19 (by decide) ?_
      refine lv_iconst (v := 1) hx hb dX8_range_20 (by decide) ?_
      have hY0 := hY
      refine q_callV (rest := []) C (c_X8_good0 l D cy N0 (h) y ms mb mw od pt fi re rc rs so ot cn la ro gr cd ca mv ct fa cs ce rn 1 hY) kX8_good g1249 g1251 rfl gp41 g4 hP hS hY (by first | decide | omega) hl.1 rfl (by decide) (by first | decide | omega) dX8_range_21 (fun q ce E h' H1 locs1 hE => hE.elim) (fun v hh6 H locs hq hP hS => ?_)
      obtain ⟨rfl, rfl⟩ := hq
      replace hR := hR.set8 (o := (.inr (8, [.ref ms, .ref mb, .ref mw, .int gr, .int 1, .int ca, .int mv, .ref od, .ref pt, .int ct, .int fa, .ref fi, .ref re, .int cs, .ref rc, .ref rs, .ref so, .ref ot, .ref cn, .ref la, .int ce, .ref ro, .int rn]))) hY0
      replace hRB := hRB.set8 (o := (.inr (8, [.ref ms, .ref mb, .ref mw, .int gr, .int 1, .int ca, .int mv, .ref od, .ref pt, .int ct, .int fa, .ref fi, .ref re, .int cs, .ref rc, .ref rs, .ref so, .ref ot, .ref cn, .ref la, .int ce, .ref ro, .int rn]))) hY0
      replace hms := (qs_ne (h := h) (a := y) (o := (.inr (8, [.ref ms, .ref mb, .ref mw, .int gr, .int 1, .int ca, .int mv, .ref od, .ref pt, .int ct, .int fa, .ref fi, .ref re, .int cs, .ref rc, .ref rs, .ref so, .ref ot, .ref cn, .ref la, .int ce, .ref ro, .int rn]))) (fun q => by subst q; have := hms.symm.trans hY; first | cases this | simp at this)).trans hms
      replace hmb := (qs_ne (h := h) (a := y) (o := (.inr (8, [.ref ms, .ref mb, .ref mw, .int gr, .int 1, .int ca, .int mv, .ref od, .ref pt, .int ct, .int fa, .ref fi, .ref re, .int cs, .ref rc, .ref rs, .ref so, .ref ot, .ref cn, .ref la, .int ce, .ref ro, .int rn]))) (fun q => by subst q; have := hmb.symm.trans hY; first | cases this | simp at this)).trans hmb
      replace hY : (qs h y (.inr (8, [.ref ms, .ref mb, .ref mw, .int gr, .int 1, .int ca, .int mv, .ref od, .ref pt, .int ct, .int fa, .ref fi, .ref re, .int cs, .ref rc, .ref rs, .ref so, .ref ot, .ref cn, .ref la, .int ce, .ref ro, .int rn]))) y = some (.inr (8, [.ref ms, .ref mb, .ref mw, .int gr, .int 1, .int ca, .int mv, .ref od, .ref pt, .int ct, .int fa, .ref fi, .ref re, .int cs, .ref rc, .ref rs, .ref so, .ref ot, .ref cn, .ref la, .int ce, .ref ro, .int rn])) := qs_self
      refine lv_if_eq (tgt := 42) hx hb dX8_range_24 (by decide) (fun _ => ?_) (fun c => absurd (by decide) c)
      refine lv_iconst (v := 0) hx hb dX8_range_42 (by decide) ?_
      exact q_iret C hP hS ⟨1, rfl, ⟨rfl, Or.inl ⟨fun g9 => gg1 g9.2, rfl⟩⟩⟩ (by omega) dX8_range_43
  · refine lv_if_eq (tgt := 19) hx hb dX8_range_5 (by decide) (fun _ => ?_) (fun c => absurd (by decide) c)
    refine lv_iconst (v := 0) hx hb dX8_range_19 (by decide) ?_
    refine lv_iconst (v := 1) hx hb dX8_range_20 (by decide) ?_
    have hY0 := hY
    refine q_callV (rest := []) C (c_X8_good0 l D cy N0 (h) y ms mb mw od pt fi re rc rs so ot cn la ro gr cd ca mv ct fa cs ce rn 1 hY) kX8_good g1249 g1251 rfl gp41 g4 hP hS hY (by first | decide | omega) hl.1 rfl (by decide) (by first | decide | omega) dX8_range_21 (fun q ce E h' H1 locs1 hE => hE.elim) (fun v hh7 H locs hq hP hS => ?_)
    obtain ⟨rfl, rfl⟩ := hq
    replace hR := hR.set8 (o := (.inr (8, [.ref ms, .ref mb, .ref mw, .int gr, .int 1, .int ca, .int mv, .ref od, .ref pt, .int ct, .int fa, .ref fi, .ref re, .int cs, .ref rc, .ref rs, .ref so, .ref ot, .ref cn, .ref la, .int ce, .ref ro, .int rn]))) hY0
    replace hRB := hRB.set8 (o := (.inr (8, [.ref ms, .ref mb, .ref mw, .int gr, .int 1, .int ca, .int mv, .ref od, .ref pt, .int ct, .int fa, .ref fi, .ref re, .int cs, .ref rc, .ref rs, .ref so, .ref ot, .ref cn, .ref la, .int ce, .ref ro, .int rn]))) hY0
    replace hms := (qs_ne (h := h) (a := y) (o := (.inr (8, [.ref ms, .ref mb, .ref mw, .int gr, .int 1, .int ca, .int mv, .ref od, .ref pt, .int ct, .int fa, .ref fi, .ref re, .int cs, .ref rc, .ref rs, .ref so, .ref ot, .ref cn, .ref la, .int ce, .ref ro, .int rn]))) (fun q => by subst q; have := hms.symm.trans hY; first | cases this | simp at this)).trans hms
    replace hmb := (qs_ne (h := h) (a := y) (o := (.inr (8, [.ref ms, .ref mb, .ref mw, .int gr, .int 1, .int ca, .int mv, .ref od, .ref pt, .int ct, .int fa, .ref fi, .ref re, .int cs, .ref rc, .ref rs, .ref so, .ref ot, .ref cn, .ref la, .int ce, .ref ro, .int rn]))) (fun q => by subst q; have := hmb.symm.trans hY; first | cases this | simp at this)).trans hmb
    replace hY : (qs h y (.inr (8, [.ref ms, .ref mb, .ref mw, .int gr, .int 1, .int ca, .int mv, .ref od, .ref pt, .int ct, .int fa, .ref fi, .ref re, .int cs, .ref rc, .ref rs, .ref so, .ref ot, .ref cn, .ref la, .int ce, .ref ro, .int rn]))) y = some (.inr (8, [.ref ms, .ref mb, .ref mw, .int gr, .int 1, .int ca, .int mv, .ref od, .ref pt, .int ct, .int fa, .ref fi, .ref re, .int cs, .ref rc, .ref rs, .ref so, .ref ot, .ref cn, .ref la, .int ce, .ref ro, .int rn])) := qs_self
    refine lv_if_eq (tgt := 42) hx hb dX8_range_24 (by decide) (fun _ => ?_) (fun c => absurd (by decide) c)
    refine lv_iconst (v := 0) hx hb dX8_range_42 (by decide) ?_
    exact q_iret C hP hS ⟨1, rfl, ⟨rfl, Or.inl ⟨fun g9 => gg0 g9.1, rfl⟩⟩⟩ (by omega) dX8_range_43

theorem dX8_join_0 : decode cX8_join 0 = .ok (.aload_n 0, 1) := by decide +kernel
theorem dX8_join_1 : decode cX8_join 1 = .ok (.iload_n 1, 1) := by decide +kernel
theorem dX8_join_2 : decode cX8_join 2 = .ok (.invokestatic 96, 3) := by decide +kernel
theorem dX8_join_5 : decode cX8_join 5 = .ok (.ifCond .eq 21, 3) := by decide +kernel
theorem dX8_join_8 : decode cX8_join 8 = .ok (.iload_n 2, 1) := by decide +kernel
theorem dX8_join_9 : decode cX8_join 9 = .ok (.invokestatic 96, 3) := by decide +kernel
theorem dX8_join_12 : decode cX8_join 12 = .ok (.ifCond .eq 14, 3) := by decide +kernel
theorem dX8_join_15 : decode cX8_join 15 = .ok (.iload_n 3, 1) := by decide +kernel
theorem dX8_join_16 : decode cX8_join 16 = .ok (.invokestatic 96, 3) := by decide +kernel
theorem dX8_join_19 : decode cX8_join 19 = .ok (.ifCond .eq 7, 3) := by decide +kernel
theorem dX8_join_22 : decode cX8_join 22 = .ok (.iconst 1, 1) := by decide +kernel
theorem dX8_join_23 : decode cX8_join 23 = .ok (.goto 4, 3) := by decide +kernel
theorem dX8_join_26 : decode cX8_join 26 = .ok (.iconst 0, 1) := by decide +kernel
theorem dX8_join_27 : decode cX8_join 27 = .ok (.iconst 1, 1) := by decide +kernel
theorem dX8_join_28 : decode cX8_join 28 = .ok (.invokevirtual 100, 3) := by decide +kernel
theorem dX8_join_31 : decode cX8_join 31 = .ok (.ifCond .eq 49, 3) := by decide +kernel
theorem dX8_join_34 : decode cX8_join 34 = .ok (.aload_n 0, 1) := by decide +kernel
theorem dX8_join_35 : decode cX8_join 35 = .ok (.aload_n 0, 1) := by decide +kernel
theorem dX8_join_36 : decode cX8_join 36 = .ok (.getfield 9, 3) := by decide +kernel
theorem dX8_join_39 : decode cX8_join 39 = .ok (.iload_n 2, 1) := by decide +kernel
theorem dX8_join_40 : decode cX8_join 40 = .ok (.aaload, 1) := by decide +kernel
theorem dX8_join_41 : decode cX8_join 41 = .ok (.getfield 75, 3) := by decide +kernel
theorem dX8_join_44 : decode cX8_join 44 = .ok (.ifCond .lt 28, 3) := by decide +kernel
theorem dX8_join_72 : decode cX8_join 72 = .ok (.iconst 0, 1) := by decide +kernel
theorem dX8_join_73 : decode cX8_join 73 = .ok (.iconst 2, 1) := by decide +kernel
theorem dX8_join_74 : decode cX8_join 74 = .ok (.invokevirtual 100, 3) := by decide +kernel
theorem dX8_join_77 : decode cX8_join 77 = .ok (.ifCond .ne 5, 3) := by decide +kernel
theorem dX8_join_80 : decode cX8_join 80 = .ok (.iconst 0, 1) := by decide +kernel
theorem dX8_join_81 : decode cX8_join 81 = .ok (.ireturn, 1) := by decide +kernel
set_option maxRecDepth 100000 in
set_option maxHeartbeats 4000000 in
theorem c_X8_join_0 (l : Launch) (D : va_G) (cy : Nat → ClassId) (N0 : Nat) (h : qH) (y ms mb mw od pt fi re rc rs so ot cn la ro : Nat) (gr cd ca mv ct fa cs ce rn : Int32) (f g : Nat → Option Nat) (p0 : Int32) (p1 : Int32) (p2 : Int32) (hY : h y = some (.inr (8, [.ref ms, .ref mb, .ref mw, .int gr, .int cd, .int ca, .int mv, .ref od, .ref pt, .int ct, .int fa, .ref fi, .ref re, .int cs, .ref rc, .ref rs, .ref so, .ref ot, .ref cn, .ref la, .int ce, .ref ro, .int rn]))) (hms : h ms = some (.inl (cy 5, 24, .inr (.inr (.inr (.inr f)))))) (hmb : h mb = some (.inl (cy 5, 4, .inr (.inr (.inr (.inr g)))))) (hR : qRo h f 24) (hRB : qRo h g 4) : qC l D cy N0 yX8_join cX8_join 10 (some .int) 1 60 0 0 [.ref y, .int p0, .int p1, .int p2] h (fun v h' => ∃ cd', h' = qs h y (.inr (8, [.ref ms, .ref mb, .ref mw, .int gr, .int cd', .int ca, .int mv, .ref od, .ref pt, .int ct, .int fa, .ref fi, .ref re, .int cs, .ref rc, .ref rs, .ref so, .ref ot, .ref cn, .ref la, .int ce, .ref ro, .int rn])) ∧ v = some (.int 0) ∧ ((¬ (qSl p0 ∧ qSl p1 ∧ qSl p2) ∧ cd' = 1) ∨ ((qSl p0 ∧ qSl p1 ∧ qSl p2) ∧ cd' = 2))) (fun E h' => False) := by
  refine q_ofW (by decide) (by exact Nat.le_of_ble_eq_true rfl) ?_
  intro p e s m below meth c ls C hP hl
  have hx := C.1
  have hb := C.2.1
  have hS : va_S (qA N0) s.heap s.heap [] := va_S.rf
  have hl : lv_has ls 10 [(0, .ref y), (1, .int p0), (2, .int p1), (3, .int p2)] := hl
  refine lv_aload_n hx hb dX8_join_0 rfl (lv_at hl 0 rfl) ?_
  refine lv_iload_n hx hb dX8_join_1 rfl (lv_at hl 1 rfl) ?_
  refine q_callS (rest := [.ref y]) C (c_X8_isSlot l D cy N0 (h) p0) kX8_isSlot g1246 g1247 hP hS (by first | decide | omega) hl.1 rfl (by simp [q_catrf, q_cati, q_catl, q_cata, q_catn]) (by first | decide | omega) dX8_join_2 (fun q ce E h' H1 locs1 hE => hE.elim) (fun v hh1 H locs hq hP hS => ?_)
  obtain ⟨rfl, hq⟩ := hq
  rcases hq with ⟨rfl, gg0⟩ | ⟨rfl, gg0⟩
  · refine lv_if_eq (tgt := 26) hx hb dX8_join_5 (by decide) (fun c => absurd c (by decide)) (fun _ => ?_)
    refine lv_iload_n hx hb dX8_join_8 rfl (lv_at hl 2 rfl) ?_
    refine q_callS (rest := [.ref y]) C (c_X8_isSlot l D cy N0 (h) p1) kX8_isSlot g1246 g1247 hP hS (by first | decide | omega) hl.1 rfl (by simp [q_catrf, q_cati, q_catl, q_cata, q_catn]) (by first | decide | omega) dX8_join_9 (fun q ce E h' H1 locs1 hE => hE.elim) (fun v hh2 H locs hq hP hS => ?_)
    obtain ⟨rfl, hq⟩ := hq
    rcases hq with ⟨rfl, gg1⟩ | ⟨rfl, gg1⟩
    · refine lv_if_eq (tgt := 26) hx hb dX8_join_12 (by decide) (fun c => absurd c (by decide)) (fun _ => ?_)
      refine lv_iload_n hx hb dX8_join_15 rfl (lv_at hl 3 rfl) ?_
      refine q_callS (rest := [.ref y]) C (c_X8_isSlot l D cy N0 (h) p2) kX8_isSlot g1246 g1247 hP hS (by first | decide | omega) hl.1 rfl (by simp [q_catrf, q_cati, q_catl, q_cata, q_catn]) (by first | decide | omega) dX8_join_16 (fun q ce E h' H1 locs1 hE => hE.elim) (fun v hh3 H locs hq hP hS => ?_)
      obtain ⟨rfl, hq⟩ := hq
      rcases hq with ⟨rfl, gg2⟩ | ⟨rfl, gg2⟩
      · refine lv_if_eq (tgt := 26) hx hb dX8_join_19 (by decide) (fun c => absurd c (by decide)) (fun _ => ?_)
        refine lv_iconst (v := 1) hx hb dX8_join_22 (by decide) ?_
        refine lv_goto (tgt := 27) hx hb dX8_join_23 (by decide) ?_
        refine lv_iconst (v := 1) hx hb dX8_join_27 (by decide) ?_
        have hY0 := hY
        refine q_callV (rest := []) C (c_X8_good1 l D cy N0 (h) y ms mb mw od pt fi re rc rs so ot cn la ro gr cd ca mv ct fa cs ce rn 1 hY) kX8_good g1249 g1251 rfl gp41 g4 hP hS hY (by first | decide | omega) hl.1 rfl (by decide) (by first | decide | omega) dX8_join_28 (fun q ce E h' H1 locs1 hE => hE.elim) (fun v hh4 H locs hq hP hS => ?_)
        obtain ⟨rfl, rfl⟩ := hq
        replace hR := hR.set8 (o := (.inr (8, [.ref ms, .ref mb, .ref mw, .int gr, .int 0, .int ca, .int mv, .ref od, .ref pt, .int ct, .int fa, .ref fi, .ref re, .int cs, .ref rc, .ref rs, .ref so, .ref ot, .ref cn, .ref la, .int ce, .ref ro, .int rn]))) hY0
        replace hRB := hRB.set8 (o := (.inr (8, [.ref ms, .ref mb, .ref mw, .int gr, .int 0, .int ca, .int mv, .ref od, .ref pt, .int ct, .int fa, .ref fi, .ref re, .int cs, .ref rc, .ref rs, .ref so, .ref ot, .ref cn, .ref la, .int ce, .ref ro, .int rn]))) hY0
        replace hms := (qs_ne (h := h) (a := y) (o := (.inr (8, [.ref ms, .ref mb, .ref mw, .int gr, .int 0, .int ca, .int mv, .ref od, .ref pt, .int ct, .int fa, .ref fi, .ref re, .int cs, .ref rc, .ref rs, .ref so, .ref ot, .ref cn, .ref la, .int ce, .ref ro, .int rn]))) (fun q => by subst q; have := hms.symm.trans hY; first | cases this | simp at this)).trans hms
        replace hmb := (qs_ne (h := h) (a := y) (o := (.inr (8, [.ref ms, .ref mb, .ref mw, .int gr, .int 0, .int ca, .int mv, .ref od, .ref pt, .int ct, .int fa, .ref fi, .ref re, .int cs, .ref rc, .ref rs, .ref so, .ref ot, .ref cn, .ref la, .int ce, .ref ro, .int rn]))) (fun q => by subst q; have := hmb.symm.trans hY; first | cases this | simp at this)).trans hmb
        replace hY : (qs h y (.inr (8, [.ref ms, .ref mb, .ref mw, .int gr, .int 0, .int ca, .int mv, .ref od, .ref pt, .int ct, .int fa, .ref fi, .ref re, .int cs, .ref rc, .ref rs, .ref so, .ref ot, .ref cn, .ref la, .int ce, .ref ro, .int rn]))) y = some (.inr (8, [.ref ms, .ref mb, .ref mw, .int gr, .int 0, .int ca, .int mv, .ref od, .ref pt, .int ct, .int fa, .ref fi, .ref re, .int cs, .ref rc, .ref rs, .ref so, .ref ot, .ref cn, .ref la, .int ce, .ref ro, .int rn])) := qs_self
        refine lv_if_eq (tgt := 80) hx hb dX8_join_31 (by decide) (fun c => absurd c (by decide)) (fun _ => ?_)
        refine lv_aload_n hx hb dX8_join_34 rfl (lv_at hl 0 rfl) ?_
        refine lv_aload_n hx hb dX8_join_35 rfl (lv_at hl 0 rfl) ?_
        refine q_get C hP hY rfl inX8 0 (by decide) g1167 rfl dX8_join_36 ?_
        refine lv_iload_n hx hb dX8_join_39 rfl (lv_at hl 2 rfl) ?_
        obtain ⟨i1, hi1, ei1⟩ := gg1.of
        subst ei1
        refine q_aaldN C hP hms rfl (by omega) (by omega) dX8_join_40 ?_
        obtain ⟨r1, kr1, vr1, nr1, sr1, dr1, wr1, er1, or1⟩ := hR i1 (by omega)
        rw [er1]
        refine q_get C hP or1 rfl inX7 2 (by decide) g1142 rfl dX8_join_41 ?_
        refine lv_if_lt (tgt := 72) hx hb dX8_join_44 (by decide) (fun _ => ?_) (fun c => absurd (by decide) c)
        refine lv_iconst (v := 0) hx hb dX8_join_72 (by decide) ?_
        refine lv_iconst (v := 2) hx hb dX8_join_73 (by decide) ?_
        have hY0 := hY
        refine q_callV (rest := []) C (c_X8_good0 l D cy N0 (qs h y (.inr (8, [.ref ms, .ref mb, .ref mw, .int gr, .int 0, .int ca, .int mv, .ref od, .ref pt, .int ct, .int fa, .ref fi, .ref re, .int cs, .ref rc, .ref rs, .ref so, .ref ot, .ref cn, .ref la, .int ce, .ref ro, .int rn]))) y ms mb mw od pt fi re rc rs so ot cn la ro gr 0 ca mv ct fa cs ce rn 2 hY) kX8_good g1249 g1251 rfl gp41 g4 hP hS hY (by first | decide | omega) hl.1 rfl (by decide) (by first | decide | omega) dX8_join_74 (fun q ce E h' H1 locs1 hE => hE.elim) (fun v hh5 H locs hq hP hS => ?_)
        obtain ⟨rfl, rfl⟩ := hq
        replace hR := hR.re8 (o' := (.inr (8, [.ref ms, .ref mb, .ref mw, .int gr, .int 2, .int ca, .int mv, .ref od, .ref pt, .int ct, .int fa, .ref fi, .ref re, .int cs, .ref rc, .ref rs, .ref so, .ref ot, .ref cn, .ref la, .int ce, .ref ro, .int rn]))) hY0
        replace hRB := hRB.re8 (o' := (.inr (8, [.ref ms, .ref mb, .ref mw, .int gr, .int 2, .int ca, .int mv, .ref od, .ref pt, .int ct, .int fa, .ref fi, .ref re, .int cs, .ref rc, .ref rs, .ref so, .ref ot, .ref cn, .ref la, .int ce, .ref ro, .int rn]))) hY0
        rw [qs_qs] at hP
        replace hms := qs_re (o' := (.inr (8, [.ref ms, .ref mb, .ref mw, .int gr, .int 2, .int ca, .int mv, .ref od, .ref pt, .int ct, .int fa, .ref fi, .ref re, .int cs, .ref rc, .ref rs, .ref so, .ref ot, .ref cn, .ref la, .int ce, .ref ro, .int rn]))) (fun q => by subst q; have := hms.symm.trans hY; first | cases this | simp at this) hms
        replace hmb := qs_re (o' := (.inr (8, [.ref ms, .ref mb, .ref mw, .int gr, .int 2, .int ca, .int mv, .ref od, .ref pt, .int ct, .int fa, .ref fi, .ref re, .int cs, .ref rc, .ref rs, .ref so, .ref ot, .ref cn, .ref la, .int ce, .ref ro, .int rn]))) (fun q => by subst q; have := hmb.symm.trans hY; first | cases this | simp at this) hmb
        replace or1 := qs_re (o' := (.inr (8, [.ref ms, .ref mb, .ref mw, .int gr, .int 2, .int ca, .int mv, .ref od, .ref pt, .int ct, .int fa, .ref fi, .ref re, .int cs, .ref rc, .ref rs, .ref so, .ref ot, .ref cn, .ref la, .int ce, .ref ro, .int rn]))) (fun q => by subst q; have := or1.symm.trans hY; first | cases this | simp at this) or1
        replace hY : (qs h y (.inr (8, [.ref ms, .ref mb, .ref mw, .int gr, .int 2, .int ca, .int mv, .ref od, .ref pt, .int ct, .int fa, .ref fi, .ref re, .int cs, .ref rc, .ref rs, .ref so, .ref ot, .ref cn, .ref la, .int ce, .ref ro, .int rn]))) y = some (.inr (8, [.ref ms, .ref mb, .ref mw, .int gr, .int 2, .int ca, .int mv, .ref od, .ref pt, .int ct, .int fa, .ref fi, .ref re, .int cs, .ref rc, .ref rs, .ref so, .ref ot, .ref cn, .ref la, .int ce, .ref ro, .int rn])) := qs_self
        refine lv_if_ne (tgt := 82) hx hb dX8_join_77 (by decide) (fun c => absurd rfl c) (fun _ => ?_)
        refine lv_iconst (v := 0) hx hb dX8_join_80 (by decide) ?_
        exact q_iret C hP hS ⟨2, rfl, ⟨rfl, Or.inr ⟨⟨gg0, gg1, gg2⟩, rfl⟩⟩⟩ (by omega) dX8_join_81
      · refine lv_if_eq (tgt := 26) hx hb dX8_join_19 (by decide) (fun _ => ?_) (fun c => absurd (by decide) c)
        refine lv_iconst (v := 0) hx hb dX8_join_26 (by decide) ?_
        refine lv_iconst (v := 1) hx hb dX8_join_27 (by decide) ?_
        have hY0 := hY
        refine q_callV (rest := []) C (c_X8_good0 l D cy N0 (h) y ms mb mw od pt fi re rc rs so ot cn la ro gr cd ca mv ct fa cs ce rn 1 hY) kX8_good g1249 g1251 rfl gp41 g4 hP hS hY (by first | decide | omega) hl.1 rfl (by decide) (by first | decide | omega) dX8_join_28 (fun q ce E h' H1 locs1 hE => hE.elim) (fun v hh6 H locs hq hP hS => ?_)
        obtain ⟨rfl, rfl⟩ := hq
        replace hR := hR.set8 (o := (.inr (8, [.ref ms, .ref mb, .ref mw, .int gr, .int 1, .int ca, .int mv, .ref od, .ref pt, .int ct, .int fa, .ref fi, .ref re, .int cs, .ref rc, .ref rs, .ref so, .ref ot, .ref cn, .ref la, .int ce, .ref ro, .int rn]))) hY0
        replace hRB := hRB.set8 (o := (.inr (8, [.ref ms, .ref mb, .ref mw, .int gr, .int 1, .int ca, .int mv, .ref od, .ref pt, .int ct, .int fa, .ref fi, .ref re, .int cs, .ref rc, .ref rs, .ref so, .ref ot, .ref cn, .ref la, .int ce, .ref ro, .int rn]))) hY0
        replace hms := (qs_ne (h := h) (a := y) (o := (.inr (8, [.ref ms, .ref mb, .ref mw, .int gr, .int 1, .int ca, .int mv, .ref od, .ref pt, .int ct, .int fa, .ref fi, .ref re, .int cs, .ref rc, .ref rs, .ref so, .ref ot, .ref cn, .ref la, .int ce, .ref ro, .int rn]))) (fun q => by subst q; have := hms.symm.trans hY; first | cases this | simp at this)).trans hms
        replace hmb := (qs_ne (h := h) (a := y) (o := (.inr (8, [.ref ms, .ref mb, .ref mw, .int gr, .int 1, .int ca, .int mv, .ref od, .ref pt, .int ct, .int fa, .ref fi, .ref re, .int cs, .ref rc, .ref rs, .ref so, .ref ot, .ref cn, .ref la, .int ce, .ref ro, .int rn]))) (fun q => by subst q; have := hmb.symm.trans hY; first | cases this | simp at this)).trans hmb
        replace hY : (qs h y (.inr (8, [.ref ms, .ref mb, .ref mw, .int gr, .int 1, .int ca, .int mv, .ref od, .ref pt, .int ct, .int fa, .ref fi, .ref re, .int cs, .ref rc, .ref rs, .ref so, .ref ot, .ref cn, .ref la, .int ce, .ref ro, .int rn]))) y = some (.inr (8, [.ref ms, .ref mb, .ref mw, .int gr, .int 1, .int ca, .int mv, .ref od, .ref pt, .int ct, .int fa, .ref fi, .ref re, .int cs, .ref rc, .ref rs, .ref so, .ref ot, .ref cn, .ref la, .int ce, .ref ro, .int rn])) := qs_self
        refine lv_if_eq (tgt := 80) hx hb dX8_join_31 (by decide) (fun _ => ?_) (fun c => absurd (by decide) c)
        refine lv_iconst (v := 0) hx hb dX8_join_80 (by decide) ?_
        exact q_iret C hP hS ⟨1, rfl, ⟨rfl, Or.inl ⟨fun g9 => gg2 g9.2.2, rfl⟩⟩⟩ (by omega) dX8_join_81
    · refine lv_if_eq (tgt := 26) hx hb dX8_join_12 (by decide) (fun _ => ?_) (fun c => absurd (by decide) c)
      refine lv_iconst (v := 0) hx hb dX8_join_26 (by decide) ?_
      refine lv_iconst (v := 1) hx hb dX8_join_27 (by decide) ?_
      have hY0 := hY
      refine q_callV (rest := []) C (c_X8_good0 l D cy N0 (h) y ms mb mw od pt fi re rc rs so ot cn la ro gr cd ca mv ct fa cs ce rn 1 hY) kX8_good g1249 g1251 rfl gp41 g4 hP hS hY (by first | decide | omega) hl.1 rfl (by decide) (by first | decide | omega) dX8_join_28 (fun q ce E h' H1 locs1 hE => hE.elim) (fun v hh7 H locs hq hP hS => ?_)
      obtain ⟨rfl, rfl⟩ := hq
      replace hR := hR.set8 (o := (.inr (8, [.ref ms, .ref mb, .ref mw, .int gr, .int 1, .int ca, .int mv, .ref od, .ref pt, .int ct, .int fa, .ref fi, .ref re, .int cs, .ref rc, .ref rs, .ref so, .ref ot, .ref cn, .ref la, .int ce, .ref ro, .int rn]))) hY0
      replace hRB := hRB.set8 (o := (.inr (8, [.ref ms, .ref mb, .ref mw, .int gr, .int 1, .int ca, .int mv, .ref od, .ref pt, .int ct, .int fa, .ref fi, .ref re, .int cs, .ref rc, .ref rs, .ref so, .ref ot, .ref cn, .ref la, .int ce, .ref ro, .int rn]))) hY0
      replace hms := (qs_ne (h := h) (a := y) (o := (.inr (8, [.ref ms, .ref mb, .ref mw, .int gr, .int 1, .int ca, .int mv, .ref od, .ref pt, .int ct, .int fa, .ref fi, .ref re, .int cs, .ref rc, .ref rs, .ref so, .ref ot, .ref cn, .ref la, .int ce, .ref ro, .int rn]))) (fun q => by subst q; have := hms.symm.trans hY; first | cases this | simp at this)).trans hms
      replace hmb := (qs_ne (h := h) (a := y) (o := (.inr (8, [.ref ms, .ref mb, .ref mw, .int gr, .int 1, .int ca, .int mv, .ref od, .ref pt, .int ct, .int fa, .ref fi, .ref re, .int cs, .ref rc, .ref rs, .ref so, .ref ot, .ref cn, .ref la, .int ce, .ref ro, .int rn]))) (fun q => by subst q; have := hmb.symm.trans hY; first | cases this | simp at this)).trans hmb
      replace hY : (qs h y (.inr (8, [.ref ms, .ref mb, .ref mw, .int gr, .int 1, .int ca, .int mv, .ref od, .ref pt, .int ct, .int fa, .ref fi, .ref re, .int cs, .ref rc, .ref rs, .ref so, .ref ot, .ref cn, .ref la, .int ce, .ref ro, .int rn]))) y = some (.inr (8, [.ref ms, .ref mb, .ref mw, .int gr, .int 1, .int ca, .int mv, .ref od, .ref pt, .int ct, .int fa, .ref fi, .ref re, .int cs, .ref rc, .ref rs, .ref so, .ref ot, .ref cn, .ref la, .int ce, .ref ro, .int rn])) := qs_self
      refine lv_if_eq (tgt := 80) hx hb dX8_join_31 (by decide) (fun _ => ?_) (fun c => absurd (by decide) c)
      refine lv_iconst (v := 0) hx hb dX8_join_80 (by decide) ?_
      exact q_iret C hP hS ⟨1, rfl, ⟨rfl, Or.inl ⟨fun g9 => gg1 g9.2.1, rfl⟩⟩⟩ (by omega) dX8_join_81
  · refine lv_if_eq (tgt := 26) hx hb dX8_join_5 (by decide) (fun _ => ?_) (fun c => absurd (by decide) c)
    refine lv_iconst (v := 0) hx hb dX8_join_26 (by decide) ?_
    refine lv_iconst (v := 1) hx hb dX8_join_27 (by decide) ?_
    have hY0 := hY
    refine q_callV (rest := []) C (c_X8_good0 l D cy N0 (h) y ms mb mw od pt fi re rc rs so ot cn la ro gr cd ca mv ct fa cs ce rn 1 hY) kX8_good g1249 g1251 rfl gp41 g4 hP hS hY (by first | decide | omega) hl.1 rfl (by decide) (by first | decide | omega) dX8_join_28 (fun q ce E h' H1 locs1 hE => hE.elim) (fun v hh8 H locs hq hP hS => ?_)
    obtain ⟨rfl, rfl⟩ := hq
    replace hR := hR.set8 (o := (.inr (8, [.ref ms, .ref mb, .ref mw, .int gr, .int 1, .int ca, .int mv, .ref od, .ref pt, .int ct, .int fa, .ref fi, .ref re, .int cs, .ref rc, .ref rs, .ref so, .ref ot, .ref cn, .ref la, .int ce, .ref ro, .int rn]))) hY0
    replace hRB := hRB.set8 (o := (.inr (8, [.ref ms, .ref mb, .ref mw, .int gr, .int 1, .int ca, .int mv, .ref od, .ref pt, .int ct, .int fa, .ref fi, .ref re, .int cs, .ref rc, .ref rs, .ref so, .ref ot, .ref cn, .ref la, .int ce, .ref ro, .int rn]))) hY0
    replace hms := (qs_ne (h := h) (a := y) (o := (.inr (8, [.ref ms, .ref mb, .ref mw, .int gr, .int 1, .int ca, .int mv, .ref od, .ref pt, .int ct, .int fa, .ref fi, .ref re, .int cs, .ref rc, .ref rs, .ref so, .ref ot, .ref cn, .ref la, .int ce, .ref ro, .int rn]))) (fun q => by subst q; have := hms.symm.trans hY; first | cases this | simp at this)).trans hms
    replace hmb := (qs_ne (h := h) (a := y) (o := (.inr (8, [.ref ms, .ref mb, .ref mw, .int gr, .int 1, .int ca, .int mv, .ref od, .ref pt, .int ct, .int fa, .ref fi, .ref re, .int cs, .ref rc, .ref rs, .ref so, .ref ot, .ref cn, .ref la, .int ce, .ref ro, .int rn]))) (fun q => by subst q; have := hmb.symm.trans hY; first | cases this | simp at this)).trans hmb
    replace hY : (qs h y (.inr (8, [.ref ms, .ref mb, .ref mw, .int gr, .int 1, .int ca, .int mv, .ref od, .ref pt, .int ct, .int fa, .ref fi, .ref re, .int cs, .ref rc, .ref rs, .ref so, .ref ot, .ref cn, .ref la, .int ce, .ref ro, .int rn]))) y = some (.inr (8, [.ref ms, .ref mb, .ref mw, .int gr, .int 1, .int ca, .int mv, .ref od, .ref pt, .int ct, .int fa, .ref fi, .ref re, .int cs, .ref rc, .ref rs, .ref so, .ref ot, .ref cn, .ref la, .int ce, .ref ro, .int rn])) := qs_self
    refine lv_if_eq (tgt := 80) hx hb dX8_join_31 (by decide) (fun _ => ?_) (fun c => absurd (by decide) c)
    refine lv_iconst (v := 0) hx hb dX8_join_80 (by decide) ?_
    exact q_iret C hP hS ⟨1, rfl, ⟨rfl, Or.inl ⟨fun g9 => gg0 g9.1, rfl⟩⟩⟩ (by omega) dX8_join_81

theorem dX8_meet_0 : decode cX8_meet 0 = .ok (.aload_n 0, 1) := by decide +kernel
theorem dX8_meet_1 : decode cX8_meet 1 = .ok (.iload_n 1, 1) := by decide +kernel
theorem dX8_meet_2 : decode cX8_meet 2 = .ok (.invokestatic 96, 3) := by decide +kernel
theorem dX8_meet_5 : decode cX8_meet 5 = .ok (.ifCond .eq 21, 3) := by decide +kernel
theorem dX8_meet_8 : decode cX8_meet 8 = .ok (.iload_n 2, 1) := by decide +kernel
theorem dX8_meet_9 : decode cX8_meet 9 = .ok (.invokestatic 96, 3) := by decide +kernel
theorem dX8_meet_12 : decode cX8_meet 12 = .ok (.ifCond .eq 14, 3) := by decide +kernel
theorem dX8_meet_15 : decode cX8_meet 15 = .ok (.iload_n 3, 1) := by decide +kernel
theorem dX8_meet_16 : decode cX8_meet 16 = .ok (.invokestatic 96, 3) := by decide +kernel
theorem dX8_meet_19 : decode cX8_meet 19 = .ok (.ifCond .eq 7, 3) := by decide +kernel
theorem dX8_meet_22 : decode cX8_meet 22 = .ok (.iconst 1, 1) := by decide +kernel
theorem dX8_meet_23 : decode cX8_meet 23 = .ok (.goto 4, 3) := by decide +kernel
theorem dX8_meet_26 : decode cX8_meet 26 = .ok (.iconst 0, 1) := by decide +kernel
theorem dX8_meet_27 : decode cX8_meet 27 = .ok (.iconst 1, 1) := by decide +kernel
theorem dX8_meet_28 : decode cX8_meet 28 = .ok (.invokevirtual 100, 3) := by decide +kernel
theorem dX8_meet_31 : decode cX8_meet 31 = .ok (.ifCond .eq 56, 3) := by decide +kernel
theorem dX8_meet_34 : decode cX8_meet 34 = .ok (.aload_n 0, 1) := by decide +kernel
theorem dX8_meet_35 : decode cX8_meet 35 = .ok (.aload_n 0, 1) := by decide +kernel
theorem dX8_meet_36 : decode cX8_meet 36 = .ok (.iload_n 2, 1) := by decide +kernel
theorem dX8_meet_37 : decode cX8_meet 37 = .ok (.iconst 4, 1) := by decide +kernel
theorem dX8_meet_38 : decode cX8_meet 38 = .ok (.invokevirtual 108, 3) := by decide +kernel
theorem dX8_meet_41 : decode cX8_meet 41 = .ok (.ifCond .eq 16, 3) := by decide +kernel
theorem dX8_meet_57 : decode cX8_meet 57 = .ok (.iconst 0, 1) := by decide +kernel
theorem dX8_meet_58 : decode cX8_meet 58 = .ok (.iconst 2, 1) := by decide +kernel
theorem dX8_meet_59 : decode cX8_meet 59 = .ok (.invokevirtual 100, 3) := by decide +kernel
theorem dX8_meet_62 : decode cX8_meet 62 = .ok (.ifCond .eq 25, 3) := by decide +kernel
theorem dX8_meet_87 : decode cX8_meet 87 = .ok (.iconst 0, 1) := by decide +kernel
theorem dX8_meet_88 : decode cX8_meet 88 = .ok (.ireturn, 1) := by decide +kernel
set_option maxRecDepth 100000 in
set_option maxHeartbeats 4000000 in
theorem c_X8_meet_0 (l : Launch) (D : va_G) (cy : Nat → ClassId) (N0 : Nat) (h : qH) (y ms mb mw od pt fi re rc rs so ot cn la ro : Nat) (gr cd ca mv ct fa cs ce rn : Int32) (f g : Nat → Option Nat) (p0 : Int32) (p1 : Int32) (p2 : Int32) (p3 : Int32) (hY : h y = some (.inr (8, [.ref ms, .ref mb, .ref mw, .int gr, .int cd, .int ca, .int mv, .ref od, .ref pt, .int ct, .int fa, .ref fi, .ref re, .int cs, .ref rc, .ref rs, .ref so, .ref ot, .ref cn, .ref la, .int ce, .ref ro, .int rn]))) (hms : h ms = some (.inl (cy 5, 24, .inr (.inr (.inr (.inr f)))))) (hmb : h mb = some (.inl (cy 5, 4, .inr (.inr (.inr (.inr g)))))) (hR : qRo h f 24) (hRB : qRo h g 4) : qC l D cy N0 yX8_meet cX8_meet 7 (some .int) 1 60 0 0 [.ref y, .int p0, .int p1, .int p2, .int p3] h (fun v h' => ∃ cd', h' = qs h y (.inr (8, [.ref ms, .ref mb, .ref mw, .int gr, .int cd', .int ca, .int mv, .ref od, .ref pt, .int ct, .int fa, .ref fi, .ref re, .int cs, .ref rc, .ref rs, .ref so, .ref ot, .ref cn, .ref la, .int ce, .ref ro, .int rn])) ∧ v = some (.int 0) ∧ ((¬ (qSl p0 ∧ qSl p1 ∧ qSl p2) ∧ cd' = 1) ∨ ((qSl p0 ∧ qSl p1 ∧ qSl p2) ∧ cd' = 2))) (fun E h' => False) := by
  refine q_ofW (by decide) (by exact Nat.le_of_ble_eq_true rfl) ?_
  intro p e s m below meth c ls C hP hl
  have hx := C.1
  have hb := C.2.1
  have hS : va_S (qA N0) s.heap s.heap [] := va_S.rf
  have hl : lv_has ls 7 [(0, .ref y), (1, .int p0), (2, .int p1), (3, .int p2), (4, .int p3)] := hl
  refine lv_aload_n hx hb dX8_meet_0 rfl (lv_at hl 0 rfl) ?_
  refine lv_iload_n hx hb dX8_meet_1 rfl (lv_at hl 1 rfl) ?_
  refine q_callS (rest := [.ref y]) C (c_X8_isSlot l D cy N0 (h) p0) kX8_isSlot g1246 g1247 hP hS (by first | decide | omega) hl.1 rfl (by simp [q_catrf, q_cati, q_catl, q_cata, q_catn]) (by first | decide | omega) dX8_meet_2 (fun q ce E h' H1 locs1 hE => hE.elim) (fun v hh1 H locs hq hP hS => ?_)
  obtain ⟨rfl, hq⟩ := hq
  rcases hq with ⟨rfl, gg0⟩ | ⟨rfl, gg0⟩
  · refine lv_if_eq (tgt := 26) hx hb dX8_meet_5 (by decide) (fun c => absurd c (by decide)) (fun _ => ?_)
    refine lv_iload_n hx hb dX8_meet_8 rfl (lv_at hl 2 rfl) ?_
    refine q_callS (rest := [.ref y]) C (c_X8_isSlot l D cy N0 (h) p1) kX8_isSlot g1246 g1247 hP hS (by first | decide | omega) hl.1 rfl (by simp [q_catrf, q_cati, q_catl, q_cata, q_catn]) (by first | decide | omega) dX8_meet_9 (fun q ce E h' H1 locs1 hE => hE.elim) (fun v hh2 H locs hq hP hS => ?_)
    obtain ⟨rfl, hq⟩ := hq
    rcases hq with ⟨rfl, gg1⟩ | ⟨rfl, gg1⟩
    · refine lv_if_eq (tgt := 26) hx hb dX8_meet_12 (by decide) (fun c => absurd c (by decide)) (fun _ => ?_)
      refine lv_iload_n hx hb dX8_meet_15 rfl (lv_at hl 3 rfl) ?_
      refine q_callS (rest := [.ref y]) C (c_X8_isSlot l D cy N0 (h) p2) kX8_isSlot g1246 g1247 hP hS (by first | decide | omega) hl.1 rfl (by simp [q_catrf, q_cati, q_catl, q_cata, q_catn]) (by first | decide | omega) dX8_meet_16 (fun q ce E h' H1 locs1 hE => hE.elim) (fun v hh3 H locs hq hP hS => ?_)
      obtain ⟨rfl, hq⟩ := hq
      rcases hq with ⟨rfl, gg2⟩ | ⟨rfl, gg2⟩
      · refine lv_if_eq (tgt := 26) hx hb dX8_meet_19 (by decide) (fun c => absurd c (by decide)) (fun _ => ?_)
        refine lv_iconst (v := 1) hx hb dX8_meet_22 (by decide) ?_
        refine lv_goto (tgt := 27) hx hb dX8_meet_23 (by decide) ?_
        refine lv_iconst (v := 1) hx hb dX8_meet_27 (by decide) ?_
        have hY0 := hY
        refine q_callV (rest := []) C (c_X8_good1 l D cy N0 (h) y ms mb mw od pt fi re rc rs so ot cn la ro gr cd ca mv ct fa cs ce rn 1 hY) kX8_good g1249 g1251 rfl gp41 g4 hP hS hY (by first | decide | omega) hl.1 rfl (by decide) (by first | decide | omega) dX8_meet_28 (fun q ce E h' H1 locs1 hE => hE.elim) (fun v hh4 H locs hq hP hS => ?_)
        obtain ⟨rfl, rfl⟩ := hq
        replace hR := hR.set8 (o := (.inr (8, [.ref ms, .ref mb, .ref mw, .int gr, .int 0, .int ca, .int mv, .ref od, .ref pt, .int ct, .int fa, .ref fi, .ref re, .int cs, .ref rc, .ref rs, .ref so, .ref ot, .ref cn, .ref la, .int ce, .ref ro, .int rn]))) hY0
        replace hRB := hRB.set8 (o := (.inr (8, [.ref ms, .ref mb, .ref mw, .int gr, .int 0, .int ca, .int mv, .ref od, .ref pt, .int ct, .int fa, .ref fi, .ref re, .int cs, .ref rc, .ref rs, .ref so, .ref ot, .ref cn, .ref la, .int ce, .ref ro, .int rn]))) hY0
        replace hms := (qs_ne (h := h) (a := y) (o := (.inr (8, [.ref ms, .ref mb, .ref mw, .int gr, .int 0, .int ca, .int mv, .ref od, .ref pt, .int ct, .int fa, .ref fi, .ref re, .int cs, .ref rc, .ref rs, .ref so, .ref ot, .ref cn, .ref la, .int ce, .ref ro, .int rn]))) (fun q => by subst q; have := hms.symm.trans hY; first | cases this | simp at this)).trans hms
        replace hmb := (qs_ne (h := h) (a := y) (o := (.inr (8, [.ref ms, .ref mb, .ref mw, .int gr, .int 0, .int ca, .int mv, .ref od, .ref pt, .int ct, .int fa, .ref fi, .ref re, .int cs, .ref rc, .ref rs, .ref so, .ref ot, .ref cn, .ref la, .int ce, .ref ro, .int rn]))) (fun q => by subst q; have := hmb.symm.trans hY; first | cases this | simp at this)).trans hmb
        replace hY : (qs h y (.inr (8, [.ref ms, .ref mb, .ref mw, .int gr, .int 0, .int ca, .int mv, .ref od, .ref pt, .int ct, .int fa, .ref fi, .ref re, .int cs, .ref rc, .ref rs, .ref so, .ref ot, .ref cn, .ref la, .int ce, .ref ro, .int rn]))) y = some (.inr (8, [.ref ms, .ref mb, .ref mw, .int gr, .int 0, .int ca, .int mv, .ref od, .ref pt, .int ct, .int fa, .ref fi, .ref re, .int cs, .ref rc, .ref rs, .ref so, .ref ot, .ref cn, .ref la, .int ce, .ref ro, .int rn])) := qs_self
        refine lv_if_eq (tgt := 87) hx hb dX8_meet_31 (by decide) (fun c => absurd c (by decide)) (fun _ => ?_)
        refine lv_aload_n hx hb dX8_meet_34 rfl (lv_at hl 0 rfl) ?_
        refine lv_aload_n hx hb dX8_meet_35 rfl (lv_at hl 0 rfl) ?_
        refine lv_iload_n hx hb dX8_meet_36 rfl (lv_at hl 2 rfl) ?_
        refine lv_iconst (v := 4) hx hb dX8_meet_37 (by decide) ?_
        obtain ⟨i1, hi1, ei1⟩ := gg1.of
        subst ei1
        refine q_callV (rest := [.ref y]) C (c_X8_holds_0 l D cy N0 (qs h y (.inr (8, [.ref ms, .ref mb, .ref mw, .int gr, .int 0, .int ca, .int mv, .ref od, .ref pt, .int ct, .int fa, .ref fi, .ref re, .int cs, .ref rc, .ref rs, .ref so, .ref ot, .ref cn, .ref la, .int ce, .ref ro, .int rn]))) y ms mb mw od pt fi re rc rs so ot cn la ro gr 0 ca mv ct fa cs ce rn f g i1 4 hY hms hmb hR hRB hi1) kX8_holds g1264 g1266 rfl gp42 g4 hP hS hY (by first | decide | omega) hl.1 rfl (by simp [q_catrf, q_cati, q_catl, q_cata, q_catn]) (by first | decide | omega) dX8_meet_38 (fun q ce E h' H1 locs1 hE => hE.elim) (fun v hh5 H locs hq hP hS => ?_)
        obtain ⟨rfl, rfl⟩ := hq
        refine lv_if_eq (tgt := 57) hx hb dX8_meet_41 (by decide) (fun _ => ?_) (fun c => absurd (by decide) c)
        refine lv_iconst (v := 0) hx hb dX8_meet_57 (by decide) ?_
        refine lv_iconst (v := 2) hx hb dX8_meet_58 (by decide) ?_
        have hY0 := hY
        refine q_callV (rest := []) C (c_X8_good0 l D cy N0 (qs h y (.inr (8, [.ref ms, .ref mb, .ref mw, .int gr, .int 0, .int ca, .int mv, .ref od, .ref pt, .int ct, .int fa, .ref fi, .ref re, .int cs, .ref rc, .ref rs, .ref so, .ref ot, .ref cn, .ref la, .int ce, .ref ro, .int rn]))) y ms mb mw od pt fi re rc rs so ot cn la ro gr 0 ca mv ct fa cs ce rn 2 hY) kX8_good g1249 g1251 rfl gp41 g4 hP hS hY (by first | decide | omega) hl.1 rfl (by decide) (by first | decide | omega) dX8_meet_59 (fun q ce E h' H1 locs1 hE => hE.elim) (fun v hh6 H locs hq hP hS => ?_)
        obtain ⟨rfl, rfl⟩ := hq
        replace hR := hR.re8 (o' := (.inr (8, [.ref ms, .ref mb, .ref mw, .int gr, .int 2, .int ca, .int mv, .ref od, .ref pt, .int ct, .int fa, .ref fi, .ref re, .int cs, .ref rc, .ref rs, .ref so, .ref ot, .ref cn, .ref la, .int ce, .ref ro, .int rn]))) hY0
        replace hRB := hRB.re8 (o' := (.inr (8, [.ref ms, .ref mb, .ref mw, .int gr, .int 2, .int ca, .int mv, .ref od, .ref pt, .int ct, .int fa, .ref fi, .ref re, .int cs, .ref rc, .ref rs, .ref so, .ref ot, .ref cn, .ref la, .int ce, .ref ro, .int rn]))) hY0
        rw [qs_qs] at hP
        replace hms := qs_re (o' := (.inr (8, [.ref ms, .ref mb, .ref mw, .int gr, .int 2, .int ca, .int mv, .ref od, .ref pt, .int ct, .int fa, .ref fi, .ref re, .int cs, .ref rc, .ref rs, .ref so, .ref ot, .ref cn, .ref la, .int ce, .ref ro, .int rn]))) (fun q => by subst q; have := hms.symm.trans hY; first | cases this | simp at this) hms
        replace hmb := qs_re (o' := (.inr (8, [.ref ms, .ref mb, .ref mw, .int gr, .int 2, .int ca, .int mv, .ref od, .ref pt, .int ct, .int fa, .ref fi, .ref re, .int cs, .ref rc, .ref rs, .ref so, .ref ot, .ref cn, .ref la, .int ce, .ref ro, .int rn]))) (fun q => by subst q; have := hmb.symm.trans hY; first | cases this | simp at this) hmb
        replace hY : (qs h y (.inr (8, [.ref ms, .ref mb, .ref mw, .int gr, .int 2, .int ca, .int mv, .ref od, .ref pt, .int ct, .int fa, .ref fi, .ref re, .int cs, .ref rc, .ref rs, .ref so, .ref ot, .ref cn, .ref la, .int ce, .ref ro, .int rn]))) y = some (.inr (8, [.ref ms, .ref mb, .ref mw, .int gr, .int 2, .int ca, .int mv, .ref od, .ref pt, .int ct, .int fa, .ref fi, .ref re, .int cs, .ref rc, .ref rs, .ref so, .ref ot, .ref cn, .ref la, .int ce, .ref ro, .int rn])) := qs_self
        refine lv_if_eq (tgt := 87) hx hb dX8_meet_62 (by decide) (fun _ => ?_) (fun c => absurd (by decide) c)
        refine lv_iconst (v := 0) hx hb dX8_meet_87 (by decide) ?_
        exact q_iret C hP hS ⟨2, rfl, ⟨rfl, Or.inr ⟨⟨gg0, gg1, gg2⟩, rfl⟩⟩⟩ (by omega) dX8_meet_88
      · refine lv_if_eq (tgt := 26) hx hb dX8_meet_19 (by decide) (fun _ => ?_) (fun c => absurd (by decide) c)
        refine lv_iconst (v := 0) hx hb dX8_meet_26 (by decide) ?_
        refine lv_iconst (v := 1) hx hb dX8_meet_27 (by decide) ?_
        have hY0 := hY
        refine q_callV (rest := []) C (c_X8_good0 l D cy N0 (h) y ms mb mw od pt fi re rc rs so ot cn la ro gr cd ca mv ct fa cs ce rn 1 hY) kX8_good g1249 g1251 rfl gp41 g4 hP hS hY (by first | decide | omega) hl.1 rfl (by decide) (by first | decide | omega) dX8_meet_28 (fun q ce E h' H1 locs1 hE => hE.elim) (fun v hh7 H locs hq hP hS => ?_)
        obtain ⟨rfl, rfl⟩ := hq
        replace hR := hR.set8 (o := (.inr (8, [.ref ms, .ref mb, .ref mw, .int gr, .int 1, .int ca, .int mv, .ref od, .ref pt, .int ct, .int fa, .ref fi, .ref re, .int cs, .ref rc, .ref rs, .ref so, .ref ot, .ref cn, .ref la, .int ce, .ref ro, .int rn]))) hY0
        replace hRB := hRB.set8 (o := (.inr (8, [.ref ms, .ref mb, .ref mw, .int gr, .int 1, .int ca, .int mv, .ref od, .ref pt, .int ct, .int fa, .ref fi, .ref re, .int cs, .ref rc, .ref rs, .ref so, .ref ot, .ref cn, .ref la, .int ce, .ref ro, .int rn]))) hY0
        replace hms := (qs_ne (h := h) (a := y) (o := (.inr (8, [.ref ms, .ref mb, .ref mw, .int gr, .int 1, .int ca, .int mv, .ref od, .ref pt, .int ct, .int fa, .ref fi, .ref re, .int cs, .ref rc, .ref rs, .ref so, .ref ot, .ref cn, .ref la, .int ce, .ref ro, .int rn]))) (fun q => by subst q; have := hms.symm.trans hY; first | cases this | simp at this)).trans hms
        replace hmb := (qs_ne (h := h) (a := y) (o := (.inr (8, [.ref ms, .ref mb, .ref mw, .int gr, .int 1, .int ca, .int mv, .ref od, .ref pt, .int ct, .int fa, .ref fi, .ref re, .int cs, .ref rc, .ref rs, .ref so, .ref ot, .ref cn, .ref la, .int ce, .ref ro, .int rn]))) (fun q => by subst q; have := hmb.symm.trans hY; first | cases this | simp at this)).trans hmb
        replace hY : (qs h y (.inr (8, [.ref ms, .ref mb, .ref mw, .int gr, .int 1, .int ca, .int mv, .ref od, .ref pt, .int ct, .int fa, .ref fi, .ref re, .int cs, .ref rc, .ref rs, .ref so, .ref ot, .ref cn, .ref la, .int ce, .ref ro, .int rn]))) y = some (.inr (8, [.ref ms, .ref mb, .ref mw, .int gr, .int 1, .int ca, .int mv, .ref od, .ref pt, .int ct, .int fa, .ref fi, .ref re, .int cs, .ref rc, .ref rs, .ref so, .ref ot, .ref cn, .ref la, .int ce, .ref ro, .int rn])) := qs_self
        refine lv_if_eq (tgt := 87) hx hb dX8_meet_31 (by decide) (fun _ => ?_) (fun c => absurd (by decide) c)
        refine lv_iconst (v := 0) hx hb dX8_meet_87 (by decide) ?_
        exact q_iret C hP hS ⟨1, rfl, ⟨rfl, Or.inl ⟨fun g9 => gg2 g9.2.2, rfl⟩⟩⟩ (by omega) dX8_meet_88
    · refine lv_if_eq (tgt := 26) hx hb dX8_meet_12 (by decide) (fun _ => ?_) (fun c => absurd (by decide) c)
      refine lv_iconst (v := 0) hx hb dX8_meet_26 (by decide) ?_
      refine lv_iconst (v := 1) hx hb dX8_meet_27 (by decide) ?_
      have hY0 := hY
      refine q_callV (rest := []) C (c_X8_good0 l D cy N0 (h) y ms mb mw od pt fi re rc rs so ot cn la ro gr cd ca mv ct fa cs ce rn 1 hY) kX8_good g1249 g1251 rfl gp41 g4 hP hS hY (by first | decide | omega) hl.1 rfl (by decide) (by first | decide | omega) dX8_meet_28 (fun q ce E h' H1 locs1 hE => hE.elim) (fun v hh8 H locs hq hP hS => ?_)
      obtain ⟨rfl, rfl⟩ := hq
      replace hR := hR.set8 (o := (.inr (8, [.ref ms, .ref mb, .ref mw, .int gr, .int 1, .int ca, .int mv, .ref od, .ref pt, .int ct, .int fa, .ref fi, .ref re, .int cs, .ref rc, .ref rs, .ref so, .ref ot, .ref cn, .ref la, .int ce, .ref ro, .int rn]))) hY0
      replace hRB := hRB.set8 (o := (.inr (8, [.ref ms, .ref mb, .ref mw, .int gr, .int 1, .int ca, .int mv, .ref od, .ref pt, .int ct, .int fa, .ref fi, .ref re, .int cs, .ref rc, .ref rs, .ref so, .ref ot, .ref cn, .ref la, .int ce, .ref ro, .int rn]))) hY0
      replace hms := (qs_ne (h := h) (a := y) (o := (.inr (8, [.ref ms, .ref mb, .ref mw, .int gr, .int 1, .int ca, .int mv, .ref od, .ref pt, .int ct, .int fa, .ref fi, .ref re, .int cs, .ref rc, .ref rs, .ref so, .ref ot, .ref cn, .ref la, .int ce, .ref ro, .int rn]))) (fun q => by subst q; have := hms.symm.trans hY; first | cases this | simp at this)).trans hms
      replace hmb := (qs_ne (h := h) (a := y) (o := (.inr (8, [.ref ms, .ref mb, .ref mw, .int gr, .int 1, .int ca, .int mv, .ref od, .ref pt, .int ct, .int fa, .ref fi, .ref re, .int cs, .ref rc, .ref rs, .ref so, .ref ot, .ref cn, .ref la, .int ce, .ref ro, .int rn]))) (fun q => by subst q; have := hmb.symm.trans hY; first | cases this | simp at this)).trans hmb
      replace hY : (qs h y (.inr (8, [.ref ms, .ref mb, .ref mw, .int gr, .int 1, .int ca, .int mv, .ref od, .ref pt, .int ct, .int fa, .ref fi, .ref re, .int cs, .ref rc, .ref rs, .ref so, .ref ot, .ref cn, .ref la, .int ce, .ref ro, .int rn]))) y = some (.inr (8, [.ref ms, .ref mb, .ref mw, .int gr, .int 1, .int ca, .int mv, .ref od, .ref pt, .int ct, .int fa, .ref fi, .ref re, .int cs, .ref rc, .ref rs, .ref so, .ref ot, .ref cn, .ref la, .int ce, .ref ro, .int rn])) := qs_self
      refine lv_if_eq (tgt := 87) hx hb dX8_meet_31 (by decide) (fun _ => ?_) (fun c => absurd (by decide) c)
      refine lv_iconst (v := 0) hx hb dX8_meet_87 (by decide) ?_
      exact q_iret C hP hS ⟨1, rfl, ⟨rfl, Or.inl ⟨fun g9 => gg1 g9.2.1, rfl⟩⟩⟩ (by omega) dX8_meet_88
  · refine lv_if_eq (tgt := 26) hx hb dX8_meet_5 (by decide) (fun _ => ?_) (fun c => absurd (by decide) c)
    refine lv_iconst (v := 0) hx hb dX8_meet_26 (by decide) ?_
    refine lv_iconst (v := 1) hx hb dX8_meet_27 (by decide) ?_
    have hY0 := hY
    refine q_callV (rest := []) C (c_X8_good0 l D cy N0 (h) y ms mb mw od pt fi re rc rs so ot cn la ro gr cd ca mv ct fa cs ce rn 1 hY) kX8_good g1249 g1251 rfl gp41 g4 hP hS hY (by first | decide | omega) hl.1 rfl (by decide) (by first | decide | omega) dX8_meet_28 (fun q ce E h' H1 locs1 hE => hE.elim) (fun v hh9 H locs hq hP hS => ?_)
    obtain ⟨rfl, rfl⟩ := hq
    replace hR := hR.set8 (o := (.inr (8, [.ref ms, .ref mb, .ref mw, .int gr, .int 1, .int ca, .int mv, .ref od, .ref pt, .int ct, .int fa, .ref fi, .ref re, .int cs, .ref rc, .ref rs, .ref so, .ref ot, .ref cn, .ref la, .int ce, .ref ro, .int rn]))) hY0
    replace hRB := hRB.set8 (o := (.inr (8, [.ref ms, .ref mb, .ref mw, .int gr, .int 1, .int ca, .int mv, .ref od, .ref pt, .int ct, .int fa, .ref fi, .ref re, .int cs, .ref rc, .ref rs, .ref so, .ref ot, .ref cn, .ref la, .int ce, .ref ro, .int rn]))) hY0
    replace hms := (qs_ne (h := h) (a := y) (o := (.inr (8, [.ref ms, .ref mb, .ref mw, .int gr, .int 1, .int ca, .int mv, .ref od, .ref pt, .int ct, .int fa, .ref fi, .ref re, .int cs, .ref rc, .ref rs, .ref so, .ref ot, .ref cn, .ref la, .int ce, .ref ro, .int rn]))) (fun q => by subst q; have := hms.symm.trans hY; first | cases this | simp at this)).trans hms
    replace hmb := (qs_ne (h := h) (a := y) (o := (.inr (8, [.ref ms, .ref mb, .ref mw, .int gr, .int 1, .int ca, .int mv, .ref od, .ref pt, .int ct, .int fa, .ref fi, .ref re, .int cs, .ref rc, .ref rs, .ref so, .ref ot, .ref cn, .ref la, .int ce, .ref ro, .int rn]))) (fun q => by subst q; have := hmb.symm.trans hY; first | cases this | simp at this)).trans hmb
    replace hY : (qs h y (.inr (8, [.ref ms, .ref mb, .ref mw, .int gr, .int 1, .int ca, .int mv, .ref od, .ref pt, .int ct, .int fa, .ref fi, .ref re, .int cs, .ref rc, .ref rs, .ref so, .ref ot, .ref cn, .ref la, .int ce, .ref ro, .int rn]))) y = some (.inr (8, [.ref ms, .ref mb, .ref mw, .int gr, .int 1, .int ca, .int mv, .ref od, .ref pt, .int ct, .int fa, .ref fi, .ref re, .int cs, .ref rc, .ref rs, .ref so, .ref ot, .ref cn, .ref la, .int ce, .ref ro, .int rn])) := qs_self
    refine lv_if_eq (tgt := 87) hx hb dX8_meet_31 (by decide) (fun _ => ?_) (fun c => absurd (by decide) c)
    refine lv_iconst (v := 0) hx hb dX8_meet_87 (by decide) ?_
    exact q_iret C hP hS ⟨1, rfl, ⟨rfl, Or.inl ⟨fun g9 => gg0 g9.1, rfl⟩⟩⟩ (by omega) dX8_meet_88

theorem dX8_shape_0 : decode cX8_shape 0 = .ok (.aload_n 0, 1) := by decide +kernel
theorem dX8_shape_1 : decode cX8_shape 1 = .ok (.iload_n 1, 1) := by decide +kernel
theorem dX8_shape_2 : decode cX8_shape 2 = .ok (.invokestatic 96, 3) := by decide +kernel
theorem dX8_shape_5 : decode cX8_shape 5 = .ok (.iconst 1, 1) := by decide +kernel
theorem dX8_shape_6 : decode cX8_shape 6 = .ok (.invokevirtual 100, 3) := by decide +kernel
theorem dX8_shape_9 : decode cX8_shape 9 = .ok (.ifCond .eq 18, 3) := by decide +kernel
theorem dX8_shape_12 : decode cX8_shape 12 = .ok (.aload_n 0, 1) := by decide +kernel
theorem dX8_shape_13 : decode cX8_shape 13 = .ok (.aload_n 0, 1) := by decide +kernel
theorem dX8_shape_14 : decode cX8_shape 14 = .ok (.iload_n 1, 1) := by decide +kernel
theorem dX8_shape_15 : decode cX8_shape 15 = .ok (.bipush 6, 2) := by decide +kernel
theorem dX8_shape_17 : decode cX8_shape 17 = .ok (.invokevirtual 108, 3) := by decide +kernel
theorem dX8_shape_20 : decode cX8_shape 20 = .ok (.iconst 2, 1) := by decide +kernel
theorem dX8_shape_21 : decode cX8_shape 21 = .ok (.invokevirtual 100, 3) := by decide +kernel
theorem dX8_shape_24 : decode cX8_shape 24 = .ok (.ifCond .ne 5, 3) := by decide +kernel
theorem dX8_shape_27 : decode cX8_shape 27 = .ok (.iconst 0, 1) := by decide +kernel
theorem dX8_shape_28 : decode cX8_shape 28 = .ok (.ireturn, 1) := by decide +kernel
set_option maxRecDepth 100000 in
set_option maxHeartbeats 4000000 in
theorem c_X8_shape_0 (l : Launch) (D : va_G) (cy : Nat → ClassId) (N0 : Nat) (h : qH) (y ms mb mw od pt fi re rc rs so ot cn la ro : Nat) (gr cd ca mv ct fa cs ce rn : Int32) (f g : Nat → Option Nat) (p0 : Int32) (hY : h y = some (.inr (8, [.ref ms, .ref mb, .ref mw, .int gr, .int cd, .int ca, .int mv, .ref od, .ref pt, .int ct, .int fa, .ref fi, .ref re, .int cs, .ref rc, .ref rs, .ref so, .ref ot, .ref cn, .ref la, .int ce, .ref ro, .int rn]))) (hms : h ms = some (.inl (cy 5, 24, .inr (.inr (.inr (.inr f)))))) (hmb : h mb = some (.inl (cy 5, 4, .inr (.inr (.inr (.inr g)))))) (hR : qRo h f 24) (hRB : qRo h g 4) : qC l D cy N0 yX8_shape cX8_shape 4 (some .int) 1 60 0 0 [.ref y, .int p0] h (fun v h' => ∃ cd', h' = qs h y (.inr (8, [.ref ms, .ref mb, .ref mw, .int gr, .int cd', .int ca, .int mv, .ref od, .ref pt, .int ct, .int fa, .ref fi, .ref re, .int cs, .ref rc, .ref rs, .ref so, .ref ot, .ref cn, .ref la, .int ce, .ref ro, .int rn])) ∧ v = some (.int 0) ∧ ((¬ (qSl p0) ∧ cd' = 1) ∨ ((qSl p0) ∧ cd' = 2))) (fun E h' => False) := by
  refine q_ofW (by decide) (by exact Nat.le_of_ble_eq_true rfl) ?_
  intro p e s m below meth c ls C hP hl
  have hx := C.1
  have hb := C.2.1
  have hS : va_S (qA N0) s.heap s.heap [] := va_S.rf
  have hl : lv_has ls 4 [(0, .ref y), (1, .int p0)] := hl
  refine lv_aload_n hx hb dX8_shape_0 rfl (lv_at hl 0 rfl) ?_
  refine lv_iload_n hx hb dX8_shape_1 rfl (lv_at hl 1 rfl) ?_
  refine q_callS (rest := [.ref y]) C (c_X8_isSlot l D cy N0 (h) p0) kX8_isSlot g1246 g1247 hP hS (by first | decide | omega) hl.1 rfl (by simp [q_catrf, q_cati, q_catl, q_cata, q_catn]) (by first | decide | omega) dX8_shape_2 (fun q ce E h' H1 locs1 hE => hE.elim) (fun v hh1 H locs hq hP hS => ?_)
  obtain ⟨rfl, hq⟩ := hq
  rcases hq with ⟨rfl, gg0⟩ | ⟨rfl, gg0⟩
  · refine lv_iconst (v := 1) hx hb dX8_shape_5 (by decide) ?_
    have hY0 := hY
    refine q_callV (rest := []) C (c_X8_good1 l D cy N0 (h) y ms mb mw od pt fi re rc rs so ot cn la ro gr cd ca mv ct fa cs ce rn 1 hY) kX8_good g1249 g1251 rfl gp41 g4 hP hS hY (by first | decide | omega) hl.1 rfl (by decide) (by first | decide | omega) dX8_shape_6 (fun q ce E h' H1 locs1 hE => hE.elim) (fun v hh2 H locs hq hP hS => ?_)
    obtain ⟨rfl, rfl⟩ := hq
    replace hR := hR.set8 (o := (.inr (8, [.ref ms, .ref mb, .ref mw, .int gr, .int 0, .int ca, .int mv, .ref od, .ref pt, .int ct, .int fa, .ref fi, .ref re, .int cs, .ref rc, .ref rs, .ref so, .ref ot, .ref cn, .ref la, .int ce, .ref ro, .int rn]))) hY0
    replace hRB := hRB.set8 (o := (.inr (8, [.ref ms, .ref mb, .ref mw, .int gr, .int 0, .int ca, .int mv, .ref od, .ref pt, .int ct, .int fa, .ref fi, .ref re, .int cs, .ref rc, .ref rs, .ref so, .ref ot, .ref cn, .ref la, .int ce, .ref ro, .int rn]))) hY0
    replace hms := (qs_ne (h := h) (a := y) (o := (.inr (8, [.ref ms, .ref mb, .ref mw, .int gr, .int 0, .int ca, .int mv, .ref od, .ref pt, .int ct, .int fa, .ref fi, .ref re, .int cs, .ref rc, .ref rs, .ref so, .ref ot, .ref cn, .ref la, .int ce, .ref ro, .int rn]))) (fun q => by subst q; have := hms.symm.trans hY; first | cases this | simp at this)).trans hms
    replace hmb := (qs_ne (h := h) (a := y) (o := (.inr (8, [.ref ms, .ref mb, .ref mw, .int gr, .int 0, .int ca, .int mv, .ref od, .ref pt, .int ct, .int fa, .ref fi, .ref re, .int cs, .ref rc, .ref rs, .ref so, .ref ot, .ref cn, .ref la, .int ce, .ref ro, .int rn]))) (fun q => by subst q; have := hmb.symm.trans hY; first | cases this | simp at this)).trans hmb
    replace hY : (qs h y (.inr (8, [.ref ms, .ref mb, .ref mw, .int gr, .int 0, .int ca, .int mv, .ref od, .ref pt, .int ct, .int fa, .ref fi, .ref re, .int cs, .ref rc, .ref rs, .ref so, .ref ot, .ref cn, .ref la, .int ce, .ref ro, .int rn]))) y = some (.inr (8, [.ref ms, .ref mb, .ref mw, .int gr, .int 0, .int ca, .int mv, .ref od, .ref pt, .int ct, .int fa, .ref fi, .ref re, .int cs, .ref rc, .ref rs, .ref so, .ref ot, .ref cn, .ref la, .int ce, .ref ro, .int rn])) := qs_self
    refine lv_if_eq (tgt := 27) hx hb dX8_shape_9 (by decide) (fun c => absurd c (by decide)) (fun _ => ?_)
    refine lv_aload_n hx hb dX8_shape_12 rfl (lv_at hl 0 rfl) ?_
    refine lv_aload_n hx hb dX8_shape_13 rfl (lv_at hl 0 rfl) ?_
    refine lv_iload_n hx hb dX8_shape_14 rfl (lv_at hl 1 rfl) ?_
    refine lv_bipush (v := 6) hx hb dX8_shape_15 (by decide) ?_
    obtain ⟨i0, hi0, ei0⟩ := gg0.of
    subst ei0
    refine q_callV (rest := [.ref y]) C (c_X8_holds_0 l D cy N0 (qs h y (.inr (8, [.ref ms, .ref mb, .ref mw, .int gr, .int 0, .int ca, .int mv, .ref od, .ref pt, .int ct, .int fa, .ref fi, .ref re, .int cs, .ref rc, .ref rs, .ref so, .ref ot, .ref cn, .ref la, .int ce, .ref ro, .int rn]))) y ms mb mw od pt fi re rc rs so ot cn la ro gr 0 ca mv ct fa cs ce rn f g i0 6 hY hms hmb hR hRB hi0) kX8_holds g1264 g1266 rfl gp42 g4 hP hS hY (by first | decide | omega) hl.1 rfl (by simp [q_catrf, q_cati, q_catl, q_cata, q_catn]) (by first | decide | omega) dX8_shape_17 (fun q ce E h' H1 locs1 hE => hE.elim) (fun v hh3 H locs hq hP hS => ?_)
    obtain ⟨rfl, rfl⟩ := hq
    refine lv_iconst (v := 2) hx hb dX8_shape_20 (by decide) ?_
    have hY0 := hY
    refine q_callV (rest := []) C (c_X8_good0 l D cy N0 (qs h y (.inr (8, [.ref ms, .ref mb, .ref mw, .int gr, .int 0, .int ca, .int mv, .ref od, .ref pt, .int ct, .int fa, .ref fi, .ref re, .int cs, .ref rc, .ref rs, .ref so, .ref ot, .ref cn, .ref la, .int ce, .ref ro, .int rn]))) y ms mb mw od pt fi re rc rs so ot cn la ro gr 0 ca mv ct fa cs ce rn 2 hY) kX8_good g1249 g1251 rfl gp41 g4 hP hS hY (by first | decide | omega) hl.1 rfl (by decide) (by first | decide | omega) dX8_shape_21 (fun q ce E h' H1 locs1 hE => hE.elim) (fun v hh4 H locs hq hP hS => ?_)
    obtain ⟨rfl, rfl⟩ := hq
    replace hR := hR.re8 (o' := (.inr (8, [.ref ms, .ref mb, .ref mw, .int gr, .int 2, .int ca, .int mv, .ref od, .ref pt, .int ct, .int fa, .ref fi, .ref re, .int cs, .ref rc, .ref rs, .ref so, .ref ot, .ref cn, .ref la, .int ce, .ref ro, .int rn]))) hY0
    replace hRB := hRB.re8 (o' := (.inr (8, [.ref ms, .ref mb, .ref mw, .int gr, .int 2, .int ca, .int mv, .ref od, .ref pt, .int ct, .int fa, .ref fi, .ref re, .int cs, .ref rc, .ref rs, .ref so, .ref ot, .ref cn, .ref la, .int ce, .ref ro, .int rn]))) hY0
    rw [qs_qs] at hP
    replace hms := qs_re (o' := (.inr (8, [.ref ms, .ref mb, .ref mw, .int gr, .int 2, .int ca, .int mv, .ref od, .ref pt, .int ct, .int fa, .ref fi, .ref re, .int cs, .ref rc, .ref rs, .ref so, .ref ot, .ref cn, .ref la, .int ce, .ref ro, .int rn]))) (fun q => by subst q; have := hms.symm.trans hY; first | cases this | simp at this) hms
    replace hmb := qs_re (o' := (.inr (8, [.ref ms, .ref mb, .ref mw, .int gr, .int 2, .int ca, .int mv, .ref od, .ref pt, .int ct, .int fa, .ref fi, .ref re, .int cs, .ref rc, .ref rs, .ref so, .ref ot, .ref cn, .ref la, .int ce, .ref ro, .int rn]))) (fun q => by subst q; have := hmb.symm.trans hY; first | cases this | simp at this) hmb
    replace hY : (qs h y (.inr (8, [.ref ms, .ref mb, .ref mw, .int gr, .int 2, .int ca, .int mv, .ref od, .ref pt, .int ct, .int fa, .ref fi, .ref re, .int cs, .ref rc, .ref rs, .ref so, .ref ot, .ref cn, .ref la, .int ce, .ref ro, .int rn]))) y = some (.inr (8, [.ref ms, .ref mb, .ref mw, .int gr, .int 2, .int ca, .int mv, .ref od, .ref pt, .int ct, .int fa, .ref fi, .ref re, .int cs, .ref rc, .ref rs, .ref so, .ref ot, .ref cn, .ref la, .int ce, .ref ro, .int rn])) := qs_self
    refine lv_if_ne (tgt := 29) hx hb dX8_shape_24 (by decide) (fun c => absurd rfl c) (fun _ => ?_)
    refine lv_iconst (v := 0) hx hb dX8_shape_27 (by decide) ?_
    exact q_iret C hP hS ⟨2, rfl, ⟨rfl, Or.inr ⟨gg0, rfl⟩⟩⟩ (by omega) dX8_shape_28
  · refine lv_iconst (v := 1) hx hb dX8_shape_5 (by decide) ?_
    have hY0 := hY
    refine q_callV (rest := []) C (c_X8_good0 l D cy N0 (h) y ms mb mw od pt fi re rc rs so ot cn la ro gr cd ca mv ct fa cs ce rn 1 hY) kX8_good g1249 g1251 rfl gp41 g4 hP hS hY (by first | decide | omega) hl.1 rfl (by decide) (by first | decide | omega) dX8_shape_6 (fun q ce E h' H1 locs1 hE => hE.elim) (fun v hh5 H locs hq hP hS => ?_)
    obtain ⟨rfl, rfl⟩ := hq
    replace hR := hR.set8 (o := (.inr (8, [.ref ms, .ref mb, .ref mw, .int gr, .int 1, .int ca, .int mv, .ref od, .ref pt, .int ct, .int fa, .ref fi, .ref re, .int cs, .ref rc, .ref rs, .ref so, .ref ot, .ref cn, .ref la, .int ce, .ref ro, .int rn]))) hY0
    replace hRB := hRB.set8 (o := (.inr (8, [.ref ms, .ref mb, .ref mw, .int gr, .int 1, .int ca, .int mv, .ref od, .ref pt, .int ct, .int fa, .ref fi, .ref re, .int cs, .ref rc, .ref rs, .ref so, .ref ot, .ref cn, .ref la, .int ce, .ref ro, .int rn]))) hY0
    replace hms := (qs_ne (h := h) (a := y) (o := (.inr (8, [.ref ms, .ref mb, .ref mw, .int gr, .int 1, .int ca, .int mv, .ref od, .ref pt, .int ct, .int fa, .ref fi, .ref re, .int cs, .ref rc, .ref rs, .ref so, .ref ot, .ref cn, .ref la, .int ce, .ref ro, .int rn]))) (fun q => by subst q; have := hms.symm.trans hY; first | cases this | simp at this)).trans hms
    replace hmb := (qs_ne (h := h) (a := y) (o := (.inr (8, [.ref ms, .ref mb, .ref mw, .int gr, .int 1, .int ca, .int mv, .ref od, .ref pt, .int ct, .int fa, .ref fi, .ref re, .int cs, .ref rc, .ref rs, .ref so, .ref ot, .ref cn, .ref la, .int ce, .ref ro, .int rn]))) (fun q => by subst q; have := hmb.symm.trans hY; first | cases this | simp at this)).trans hmb
    replace hY : (qs h y (.inr (8, [.ref ms, .ref mb, .ref mw, .int gr, .int 1, .int ca, .int mv, .ref od, .ref pt, .int ct, .int fa, .ref fi, .ref re, .int cs, .ref rc, .ref rs, .ref so, .ref ot, .ref cn, .ref la, .int ce, .ref ro, .int rn]))) y = some (.inr (8, [.ref ms, .ref mb, .ref mw, .int gr, .int 1, .int ca, .int mv, .ref od, .ref pt, .int ct, .int fa, .ref fi, .ref re, .int cs, .ref rc, .ref rs, .ref so, .ref ot, .ref cn, .ref la, .int ce, .ref ro, .int rn])) := qs_self
    refine lv_if_eq (tgt := 27) hx hb dX8_shape_9 (by decide) (fun _ => ?_) (fun c => absurd (by decide) c)
    refine lv_iconst (v := 0) hx hb dX8_shape_27 (by decide) ?_
    exact q_iret C hP hS ⟨1, rfl, ⟨rfl, Or.inl ⟨fun g9 => gg0 g9, rfl⟩⟩⟩ (by omega) dX8_shape_28

theorem dX8_same_0 : decode cX8_same 0 = .ok (.aload_n 0, 1) := by decide +kernel
theorem dX8_same_1 : decode cX8_same 1 = .ok (.iload_n 1, 1) := by decide +kernel
theorem dX8_same_2 : decode cX8_same 2 = .ok (.invokestatic 96, 3) := by decide +kernel
theorem dX8_same_5 : decode cX8_same 5 = .ok (.ifCond .eq 14, 3) := by decide +kernel
theorem dX8_same_8 : decode cX8_same 8 = .ok (.iload_n 2, 1) := by decide +kernel
theorem dX8_same_9 : decode cX8_same 9 = .ok (.invokestatic 96, 3) := by decide +kernel
theorem dX8_same_12 : decode cX8_same 12 = .ok (.ifCond .eq 7, 3) := by decide +kernel
theorem dX8_same_15 : decode cX8_same 15 = .ok (.iconst 1, 1) := by decide +kernel
theorem dX8_same_16 : decode cX8_same 16 = .ok (.goto 4, 3) := by decide +kernel
theorem dX8_same_19 : decode cX8_same 19 = .ok (.iconst 0, 1) := by decide +kernel
theorem dX8_same_20 : decode cX8_same 20 = .ok (.iconst 1, 1) := by decide +kernel
theorem dX8_same_21 : decode cX8_same 21 = .ok (.invokevirtual 100, 3) := by decide +kernel
theorem dX8_same_24 : decode cX8_same 24 = .ok (.ifCond .eq 47, 3) := by decide +kernel
theorem dX8_same_27 : decode cX8_same 27 = .ok (.aload_n 0, 1) := by decide +kernel
theorem dX8_same_28 : decode cX8_same 28 = .ok (.aload_n 0, 1) := by decide +kernel
theorem dX8_same_29 : decode cX8_same 29 = .ok (.iload_n 1, 1) := by decide +kernel
theorem dX8_same_30 : decode cX8_same 30 = .ok (.bipush 63, 2) := by decide +kernel
theorem dX8_same_32 : decode cX8_same 32 = .ok (.invokevirtual 108, 3) := by decide +kernel
theorem dX8_same_35 : decode cX8_same 35 = .ok (.ifCond .eq 28, 3) := by decide +kernel
theorem dX8_same_63 : decode cX8_same 63 = .ok (.iconst 0, 1) := by decide +kernel
theorem dX8_same_64 : decode cX8_same 64 = .ok (.iconst 2, 1) := by decide +kernel
theorem dX8_same_65 : decode cX8_same 65 = .ok (.invokevirtual 100, 3) := by decide +kernel
theorem dX8_same_68 : decode cX8_same 68 = .ok (.ifCond .ne 5, 3) := by decide +kernel
theorem dX8_same_71 : decode cX8_same 71 = .ok (.iconst 0, 1) := by decide +kernel
theorem dX8_same_72 : decode cX8_same 72 = .ok (.ireturn, 1) := by decide +kernel
set_option maxRecDepth 100000 in
set_option maxHeartbeats 4000000 in
theorem c_X8_same_0 (l : Launch) (D : va_G) (cy : Nat → ClassId) (N0 : Nat) (h : qH) (y ms mb mw od pt fi re rc rs so ot cn la ro : Nat) (gr cd ca mv ct fa cs ce rn : Int32) (f g : Nat → Option Nat) (p0 : Int32) (p1 : Int32) (hY : h y = some (.inr (8, [.ref ms, .ref mb, .ref mw, .int gr, .int cd, .int ca, .int mv, .ref od, .ref pt, .int ct, .int fa, .ref fi, .ref re, .int cs, .ref rc, .ref rs, .ref so, .ref ot, .ref cn, .ref la, .int ce, .ref ro, .int rn]))) (hms : h ms = some (.inl (cy 5, 24, .inr (.inr (.inr (.inr f)))))) (hmb : h mb = some (.inl (cy 5, 4, .inr (.inr (.inr (.inr g)))))) (hR : qRo h f 24) (hRB : qRo h g 4) : qC l D cy N0 yX8_same cX8_same 8 (some .boolean) 1 60 0 0 [.ref y, .int p0, .int p1] h (fun v h' => ∃ cd', h' = qs h y (.inr (8, [.ref ms, .ref mb, .ref mw, .int gr, .int cd', .int ca, .int mv, .ref od, .ref pt, .int ct, .int fa, .ref fi, .ref re, .int cs, .ref rc, .ref rs, .ref so, .ref ot, .ref cn, .ref la, .int ce, .ref ro, .int rn])) ∧ v = some (.int 0) ∧ ((¬ (qSl p0 ∧ qSl p1) ∧ cd' = 1) ∨ ((qSl p0 ∧ qSl p1) ∧ cd' = 2))) (fun E h' => False) := by
  refine q_ofW (by decide) (by exact Nat.le_of_ble_eq_true rfl) ?_
  intro p e s m below meth c ls C hP hl
  have hx := C.1
  have hb := C.2.1
  have hS : va_S (qA N0) s.heap s.heap [] := va_S.rf
  have hl : lv_has ls 8 [(0, .ref y), (1, .int p0), (2, .int p1)] := hl
  refine lv_aload_n hx hb dX8_same_0 rfl (lv_at hl 0 rfl) ?_
  refine lv_iload_n hx hb dX8_same_1 rfl (lv_at hl 1 rfl) ?_
  refine q_callS (rest := [.ref y]) C (c_X8_isSlot l D cy N0 (h) p0) kX8_isSlot g1246 g1247 hP hS (by first | decide | omega) hl.1 rfl (by simp [q_catrf, q_cati, q_catl, q_cata, q_catn]) (by first | decide | omega) dX8_same_2 (fun q ce E h' H1 locs1 hE => hE.elim) (fun v hh1 H locs hq hP hS => ?_)
  obtain ⟨rfl, hq⟩ := hq
  rcases hq with ⟨rfl, gg0⟩ | ⟨rfl, gg0⟩
  · refine lv_if_eq (tgt := 19) hx hb dX8_same_5 (by decide) (fun c => absurd c (by decide)) (fun _ => ?_)
    refine lv_iload_n hx hb dX8_same_8 rfl (lv_at hl 2 rfl) ?_
    refine q_callS (rest := [.ref y]) C (c_X8_isSlot l D cy N0 (h) p1) kX8_isSlot g1246 g1247 hP hS (by first | decide | omega) hl.1 rfl (by simp [q_catrf, q_cati, q_catl, q_cata, q_catn]) (by first | decide | omega) dX8_same_9 (fun q ce E h' H1 locs1 hE => hE.elim) (fun v hh2 H locs hq hP hS => ?_)
    obtain ⟨rfl, hq⟩ := hq
    rcases hq with ⟨rfl, gg1⟩ | ⟨rfl, gg1⟩
    · refine lv_if_eq (tgt := 19) hx hb dX8_same_12 (by decide) (fun c => absurd c (by decide)) (fun _ => ?_)
      refine lv_iconst (v := 1) hx hb dX8_same_15 (by decide) ?_
      refine lv_goto (tgt := 20) hx hb dX8_same_16 (by decide) ?_
      refine lv_iconst (v := 1) hx hb dX8_same_20 (by decide) ?_
      have hY0 := hY
      refine q_callV (rest := []) C (c_X8_good1 l D cy N0 (h) y ms mb mw od pt fi re rc rs so ot cn la ro gr cd ca mv ct fa cs ce rn 1 hY) kX8_good g1249 g1251 rfl gp41 g4 hP hS hY (by first | decide | omega) hl.1 rfl (by decide) (by first | decide | omega) dX8_same_21 (fun q ce E h' H1 locs1 hE => hE.elim) (fun v hh3 H locs hq hP hS => ?_)
      obtain ⟨rfl, rfl⟩ := hq
      replace hR := hR.set8 (o := (.inr (8, [.ref ms, .ref mb, .ref mw, .int gr, .int 0, .int ca, .int mv, .ref od, .ref pt, .int ct, .int fa, .ref fi, .ref re, .int cs, .ref rc, .ref rs, .ref so, .ref ot, .ref cn, .ref la, .int ce, .ref ro, .int rn]))) hY0
      replace hRB := hRB.set8 (o := (.inr (8, [.ref ms, .ref mb, .ref mw, .int gr, .int 0, .int ca, .int mv, .ref od, .ref pt, .int ct, .int fa, .ref fi, .ref re, .int cs, .ref rc, .ref rs, .ref so, .ref ot, .ref cn, .ref la, .int ce, .ref ro, .int rn]))) hY0
      replace hms := (qs_ne (h := h) (a := y) (o := (.inr (8, [.ref ms, .ref mb, .ref mw, .int gr, .int 0, .int ca, .int mv, .ref od, .ref pt, .int ct, .int fa, .ref fi, .ref re, .int cs, .ref rc, .ref rs, .ref so, .ref ot, .ref cn, .ref la, .int ce, .ref ro, .int rn]))) (fun q => by subst q; have := hms.symm.trans hY; first | cases this | simp at this)).trans hms
      replace hmb := (qs_ne (h := h) (a := y) (o := (.inr (8, [.ref ms, .ref mb, .ref mw, .int gr, .int 0, .int ca, .int mv, .ref od, .ref pt, .int ct, .int fa, .ref fi, .ref re, .int cs, .ref rc, .ref rs, .ref so, .ref ot, .ref cn, .ref la, .int ce, .ref ro, .int rn]))) (fun q => by subst q; have := hmb.symm.trans hY; first | cases this | simp at this)).trans hmb
      replace hY : (qs h y (.inr (8, [.ref ms, .ref mb, .ref mw, .int gr, .int 0, .int ca, .int mv, .ref od, .ref pt, .int ct, .int fa, .ref fi, .ref re, .int cs, .ref rc, .ref rs, .ref so, .ref ot, .ref cn, .ref la, .int ce, .ref ro, .int rn]))) y = some (.inr (8, [.ref ms, .ref mb, .ref mw, .int gr, .int 0, .int ca, .int mv, .ref od, .ref pt, .int ct, .int fa, .ref fi, .ref re, .int cs, .ref rc, .ref rs, .ref so, .ref ot, .ref cn, .ref la, .int ce, .ref ro, .int rn])) := qs_self
      refine lv_if_eq (tgt := 71) hx hb dX8_same_24 (by decide) (fun c => absurd c (by decide)) (fun _ => ?_)
      refine lv_aload_n hx hb dX8_same_27 rfl (lv_at hl 0 rfl) ?_
      refine lv_aload_n hx hb dX8_same_28 rfl (lv_at hl 0 rfl) ?_
      refine lv_iload_n hx hb dX8_same_29 rfl (lv_at hl 1 rfl) ?_
      refine lv_bipush (v := 63) hx hb dX8_same_30 (by decide) ?_
      obtain ⟨i0, hi0, ei0⟩ := gg0.of
      subst ei0
      refine q_callV (rest := [.ref y]) C (c_X8_holds_0 l D cy N0 (qs h y (.inr (8, [.ref ms, .ref mb, .ref mw, .int gr, .int 0, .int ca, .int mv, .ref od, .ref pt, .int ct, .int fa, .ref fi, .ref re, .int cs, .ref rc, .ref rs, .ref so, .ref ot, .ref cn, .ref la, .int ce, .ref ro, .int rn]))) y ms mb mw od pt fi re rc rs so ot cn la ro gr 0 ca mv ct fa cs ce rn f g i0 63 hY hms hmb hR hRB hi0) kX8_holds g1264 g1266 rfl gp42 g4 hP hS hY (by first | decide | omega) hl.1 rfl (by simp [q_catrf, q_cati, q_catl, q_cata, q_catn]) (by first | decide | omega) dX8_same_32 (fun q ce E h' H1 locs1 hE => hE.elim) (fun v hh4 H locs hq hP hS => ?_)
      obtain ⟨rfl, rfl⟩ := hq
      refine lv_if_eq (tgt := 63) hx hb dX8_same_35 (by decide) (fun _ => ?_) (fun c => absurd (by decide) c)
      refine lv_iconst (v := 0) hx hb dX8_same_63 (by decide) ?_
      refine lv_iconst (v := 2) hx hb dX8_same_64 (by decide) ?_
      have hY0 := hY
      refine q_callV (rest := []) C (c_X8_good0 l D cy N0 (qs h y (.inr (8, [.ref ms, .ref mb, .ref mw, .int gr, .int 0, .int ca, .int mv, .ref od, .ref pt, .int ct, .int fa, .ref fi, .ref re, .int cs, .ref rc, .ref rs, .ref so, .ref ot, .ref cn, .ref la, .int ce, .ref ro, .int rn]))) y ms mb mw od pt fi re rc rs so ot cn la ro gr 0 ca mv ct fa cs ce rn 2 hY) kX8_good g1249 g1251 rfl gp41 g4 hP hS hY (by first | decide | omega) hl.1 rfl (by decide) (by first | decide | omega) dX8_same_65 (fun q ce E h' H1 locs1 hE => hE.elim) (fun v hh5 H locs hq hP hS => ?_)
      obtain ⟨rfl, rfl⟩ := hq
      replace hR := hR.re8 (o' := (.inr (8, [.ref ms, .ref mb, .ref mw, .int gr, .int 2, .int ca, .int mv, .ref od, .ref pt, .int ct, .int fa, .ref fi, .ref re, .int cs, .ref rc, .ref rs, .ref so, .ref ot, .ref cn, .ref la, .int ce, .ref ro, .int rn]))) hY0
      replace hRB := hRB.re8 (o' := (.inr (8, [.ref ms, .ref mb, .ref mw, .int gr, .int 2, .int ca, .int mv, .ref od, .ref pt, .int ct, .int fa, .ref fi, .ref re, .int cs, .ref rc, .ref rs, .ref so, .ref ot, .ref cn, .ref la, .int ce, .ref ro, .int rn]))) hY0
      rw [qs_qs] at hP
      replace hms := qs_re (o' := (.inr (8, [.ref ms, .ref mb, .ref mw, .int gr, .int 2, .int ca, .int mv, .ref od, .ref pt, .int ct, .int fa, .ref fi, .ref re, .int cs, .ref rc, .ref rs, .ref so, .ref ot, .ref cn, .ref la, .int ce, .ref ro, .int rn]))) (fun q => by subst q; have := hms.symm.trans hY; first | cases this | simp at this) hms
      replace hmb := qs_re (o' := (.inr (8, [.ref ms, .ref mb, .ref mw, .int gr, .int 2, .int ca, .int mv, .ref od, .ref pt, .int ct, .int fa, .ref fi, .ref re, .int cs, .ref rc, .ref rs, .ref so, .ref ot, .ref cn, .ref la, .int ce, .ref ro, .int rn]))) (fun q => by subst q; have := hmb.symm.trans hY; first | cases this | simp at this) hmb
      replace hY : (qs h y (.inr (8, [.ref ms, .ref mb, .ref mw, .int gr, .int 2, .int ca, .int mv, .ref od, .ref pt, .int ct, .int fa, .ref fi, .ref re, .int cs, .ref rc, .ref rs, .ref so, .ref ot, .ref cn, .ref la, .int ce, .ref ro, .int rn]))) y = some (.inr (8, [.ref ms, .ref mb, .ref mw, .int gr, .int 2, .int ca, .int mv, .ref od, .ref pt, .int ct, .int fa, .ref fi, .ref re, .int cs, .ref rc, .ref rs, .ref so, .ref ot, .ref cn, .ref la, .int ce, .ref ro, .int rn])) := qs_self
      refine lv_if_ne (tgt := 73) hx hb dX8_same_68 (by decide) (fun c => absurd rfl c) (fun _ => ?_)
      refine lv_iconst (v := 0) hx hb dX8_same_71 (by decide) ?_
      exact q_zret C hP hS (Or.inl rfl) ⟨2, rfl, ⟨rfl, Or.inr ⟨⟨gg0, gg1⟩, rfl⟩⟩⟩ (by omega) dX8_same_72
    · refine lv_if_eq (tgt := 19) hx hb dX8_same_12 (by decide) (fun _ => ?_) (fun c => absurd (by decide) c)
      refine lv_iconst (v := 0) hx hb dX8_same_19 (by decide) ?_
      refine lv_iconst (v := 1) hx hb dX8_same_20 (by decide) ?_
      have hY0 := hY
      refine q_callV (rest := []) C (c_X8_good0 l D cy N0 (h) y ms mb mw od pt fi re rc rs so ot cn la ro gr cd ca mv ct fa cs ce rn 1 hY) kX8_good g1249 g1251 rfl gp41 g4 hP hS hY (by first | decide | omega) hl.1 rfl (by decide) (by first | decide | omega) dX8_same_21 (fun q ce E h' H1 locs1 hE => hE.elim) (fun v hh6 H locs hq hP hS => ?_)
      obtain ⟨rfl, rfl⟩ := hq
      replace hR := hR.set8 (o := (.inr (8, [.ref ms, .ref mb, .ref mw, .int gr, .int 1, .int ca, .int mv, .ref od, .ref pt, .int ct, .int fa, .ref fi, .ref re, .int cs, .ref rc, .ref rs, .ref so, .ref ot, .ref cn, .ref la, .int ce, .ref ro, .int rn]))) hY0
      replace hRB := hRB.set8 (o := (.inr (8, [.ref ms, .ref mb, .ref mw, .int gr, .int 1, .int ca, .int mv, .ref od, .ref pt, .int ct, .int fa, .ref fi, .ref re, .int cs, .ref rc, .ref rs, .ref so, .ref ot, .ref cn, .ref la, .int ce, .ref ro, .int rn]))) hY0
      replace hms := (qs_ne (h := h) (a := y) (o := (.inr (8, [.ref ms, .ref mb, .ref mw, .int gr, .int 1, .int ca, .int mv, .ref od, .ref pt, .int ct, .int fa, .ref fi, .ref re, .int cs, .ref rc, .ref rs, .ref so, .ref ot, .ref cn, .ref la, .int ce, .ref ro, .int rn]))) (fun q => by subst q; have := hms.symm.trans hY; first | cases this | simp at this)).trans hms
      replace hmb := (qs_ne (h := h) (a := y) (o := (.inr (8, [.ref ms, .ref mb, .ref mw, .int gr, .int 1, .int ca, .int mv, .ref od, .ref pt, .int ct, .int fa, .ref fi, .ref re, .int cs, .ref rc, .ref rs, .ref so, .ref ot, .ref cn, .ref la, .int ce, .ref ro, .int rn]))) (fun q => by subst q; have := hmb.symm.trans hY; first | cases this | simp at this)).trans hmb
      replace hY : (qs h y (.inr (8, [.ref ms, .ref mb, .ref mw, .int gr, .int 1, .int ca, .int mv, .ref od, .ref pt, .int ct, .int fa, .ref fi, .ref re, .int cs, .ref rc, .ref rs, .ref so, .ref ot, .ref cn, .ref la, .int ce, .ref ro, .int rn]))) y = some (.inr (8, [.ref ms, .ref mb, .ref mw, .int gr, .int 1, .int ca, .int mv, .ref od, .ref pt, .int ct, .int fa, .ref fi, .ref re, .int cs, .ref rc, .ref rs, .ref so, .ref ot, .ref cn, .ref la, .int ce, .ref ro, .int rn])) := qs_self
      refine lv_if_eq (tgt := 71) hx hb dX8_same_24 (by decide) (fun _ => ?_) (fun c => absurd (by decide) c)
      refine lv_iconst (v := 0) hx hb dX8_same_71 (by decide) ?_
      exact q_zret C hP hS (Or.inl rfl) ⟨1, rfl, ⟨rfl, Or.inl ⟨fun g9 => gg1 g9.2, rfl⟩⟩⟩ (by omega) dX8_same_72
  · refine lv_if_eq (tgt := 19) hx hb dX8_same_5 (by decide) (fun _ => ?_) (fun c => absurd (by decide) c)
    refine lv_iconst (v := 0) hx hb dX8_same_19 (by decide) ?_
    refine lv_iconst (v := 1) hx hb dX8_same_20 (by decide) ?_
    have hY0 := hY
    refine q_callV (rest := []) C (c_X8_good0 l D cy N0 (h) y ms mb mw od pt fi re rc rs so ot cn la ro gr cd ca mv ct fa cs ce rn 1 hY) kX8_good g1249 g1251 rfl gp41 g4 hP hS hY (by first | decide | omega) hl.1 rfl (by decide) (by first | decide | omega) dX8_same_21 (fun q ce E h' H1 locs1 hE => hE.elim) (fun v hh7 H locs hq hP hS => ?_)
    obtain ⟨rfl, rfl⟩ := hq
    replace hR := hR.set8 (o := (.inr (8, [.ref ms, .ref mb, .ref mw, .int gr, .int 1, .int ca, .int mv, .ref od, .ref pt, .int ct, .int fa, .ref fi, .ref re, .int cs, .ref rc, .ref rs, .ref so, .ref ot, .ref cn, .ref la, .int ce, .ref ro, .int rn]))) hY0
    replace hRB := hRB.set8 (o := (.inr (8, [.ref ms, .ref mb, .ref mw, .int gr, .int 1, .int ca, .int mv, .ref od, .ref pt, .int ct, .int fa, .ref fi, .ref re, .int cs, .ref rc, .ref rs, .ref so, .ref ot, .ref cn, .ref la, .int ce, .ref ro, .int rn]))) hY0
    replace hms := (qs_ne (h := h) (a := y) (o := (.inr (8, [.ref ms, .ref mb, .ref mw, .int gr, .int 1, .int ca, .int mv, .ref od, .ref pt, .int ct, .int fa, .ref fi, .ref re, .int cs, .ref rc, .ref rs, .ref so, .ref ot, .ref cn, .ref la, .int ce, .ref ro, .int rn]))) (fun q => by subst q; have := hms.symm.trans hY; first | cases this | simp at this)).trans hms
    replace hmb := (qs_ne (h := h) (a := y) (o := (.inr (8, [.ref ms, .ref mb, .ref mw, .int gr, .int 1, .int ca, .int mv, .ref od, .ref pt, .int ct, .int fa, .ref fi, .ref re, .int cs, .ref rc, .ref rs, .ref so, .ref ot, .ref cn, .ref la, .int ce, .ref ro, .int rn]))) (fun q => by subst q; have := hmb.symm.trans hY; first | cases this | simp at this)).trans hmb
    replace hY : (qs h y (.inr (8, [.ref ms, .ref mb, .ref mw, .int gr, .int 1, .int ca, .int mv, .ref od, .ref pt, .int ct, .int fa, .ref fi, .ref re, .int cs, .ref rc, .ref rs, .ref so, .ref ot, .ref cn, .ref la, .int ce, .ref ro, .int rn]))) y = some (.inr (8, [.ref ms, .ref mb, .ref mw, .int gr, .int 1, .int ca, .int mv, .ref od, .ref pt, .int ct, .int fa, .ref fi, .ref re, .int cs, .ref rc, .ref rs, .ref so, .ref ot, .ref cn, .ref la, .int ce, .ref ro, .int rn])) := qs_self
    refine lv_if_eq (tgt := 71) hx hb dX8_same_24 (by decide) (fun _ => ?_) (fun c => absurd (by decide) c)
    refine lv_iconst (v := 0) hx hb dX8_same_71 (by decide) ?_
    exact q_zret C hP hS (Or.inl rfl) ⟨1, rfl, ⟨rfl, Or.inl ⟨fun g9 => gg0 g9.1, rfl⟩⟩⟩ (by omega) dX8_same_72

theorem dX8_map_0 : decode cX8_map 0 = .ok (.aload_n 0, 1) := by decide +kernel
theorem dX8_map_1 : decode cX8_map 1 = .ok (.iload_n 1, 1) := by decide +kernel
theorem dX8_map_2 : decode cX8_map 2 = .ok (.invokestatic 96, 3) := by decide +kernel
theorem dX8_map_5 : decode cX8_map 5 = .ok (.ifCond .eq 24, 3) := by decide +kernel
theorem dX8_map_8 : decode cX8_map 8 = .ok (.iload_n 2, 1) := by decide +kernel
theorem dX8_map_9 : decode cX8_map 9 = .ok (.invokestatic 96, 3) := by decide +kernel
theorem dX8_map_12 : decode cX8_map 12 = .ok (.ifCond .eq 17, 3) := by decide +kernel
theorem dX8_map_15 : decode cX8_map 15 = .ok (.iload_n 3, 1) := by decide +kernel
theorem dX8_map_16 : decode cX8_map 16 = .ok (.ifCond .lt 13, 3) := by decide +kernel
theorem dX8_map_19 : decode cX8_map 19 = .ok (.iload_n 3, 1) := by decide +kernel
theorem dX8_map_20 : decode cX8_map 20 = .ok (.bipush 6, 2) := by decide +kernel
theorem dX8_map_22 : decode cX8_map 22 = .ok (.if_icmp .gt 7, 3) := by decide +kernel
theorem dX8_map_25 : decode cX8_map 25 = .ok (.iconst 1, 1) := by decide +kernel
theorem dX8_map_26 : decode cX8_map 26 = .ok (.goto 4, 3) := by decide +kernel
theorem dX8_map_29 : decode cX8_map 29 = .ok (.iconst 0, 1) := by decide +kernel
theorem dX8_map_30 : decode cX8_map 30 = .ok (.iconst 1, 1) := by decide +kernel
theorem dX8_map_31 : decode cX8_map 31 = .ok (.invokevirtual 100, 3) := by decide +kernel
theorem dX8_map_34 : decode cX8_map 34 = .ok (.ifCond .eq 18, 3) := by decide +kernel
theorem dX8_map_37 : decode cX8_map 37 = .ok (.aload_n 0, 1) := by decide +kernel
theorem dX8_map_38 : decode cX8_map 38 = .ok (.aload_n 0, 1) := by decide +kernel
theorem dX8_map_39 : decode cX8_map 39 = .ok (.iload_n 2, 1) := by decide +kernel
theorem dX8_map_40 : decode cX8_map 40 = .ok (.bipush 65, 2) := by decide +kernel
theorem dX8_map_42 : decode cX8_map 42 = .ok (.invokevirtual 108, 3) := by decide +kernel
theorem dX8_map_45 : decode cX8_map 45 = .ok (.iconst 2, 1) := by decide +kernel
theorem dX8_map_46 : decode cX8_map 46 = .ok (.invokevirtual 100, 3) := by decide +kernel
theorem dX8_map_49 : decode cX8_map 49 = .ok (.ifCond .ne 4, 3) := by decide +kernel
theorem dX8_map_52 : decode cX8_map 52 = .ok (.return_, 1) := by decide +kernel
set_option maxRecDepth 100000 in
set_option maxHeartbeats 4000000 in
theorem c_X8_map_0 (l : Launch) (D : va_G) (cy : Nat → ClassId) (N0 : Nat) (h : qH) (y ms mb mw od pt fi re rc rs so ot cn la ro : Nat) (gr cd ca mv ct fa cs ce rn : Int32) (f g : Nat → Option Nat) (p0 : Int32) (p1 : Int32) (p2 : Int32) (p3 : Int64) (hY : h y = some (.inr (8, [.ref ms, .ref mb, .ref mw, .int gr, .int cd, .int ca, .int mv, .ref od, .ref pt, .int ct, .int fa, .ref fi, .ref re, .int cs, .ref rc, .ref rs, .ref so, .ref ot, .ref cn, .ref la, .int ce, .ref ro, .int rn]))) (hms : h ms = some (.inl (cy 5, 24, .inr (.inr (.inr (.inr f)))))) (hmb : h mb = some (.inl (cy 5, 4, .inr (.inr (.inr (.inr g)))))) (hR : qRo h f 24) (hRB : qRo h g 4) : qC l D cy N0 yX8_map cX8_map 8 none 1 60 0 0 [.ref y, .int p0, .int p1, .int p2, .long p3] h (fun v h' => ∃ cd', h' = qs h y (.inr (8, [.ref ms, .ref mb, .ref mw, .int gr, .int cd', .int ca, .int mv, .ref od, .ref pt, .int ct, .int fa, .ref fi, .ref re, .int cs, .ref rc, .ref rs, .ref so, .ref ot, .ref cn, .ref la, .int ce, .ref ro, .int rn])) ∧ v = none ∧ ((¬ (qSl p0 ∧ qSl p1 ∧ qIn p2 6) ∧ cd' = 1) ∨ ((qSl p0 ∧ qSl p1 ∧ qIn p2 6) ∧ cd' = 2))) (fun E h' => False) := by
  refine q_ofW (by decide) (by exact Nat.le_of_ble_eq_true rfl) ?_
  intro p e s m below meth c ls C hP hl
  have hx := C.1
  have hb := C.2.1
  have hS : va_S (qA N0) s.heap s.heap [] := va_S.rf
  have hl : lv_has ls 8 [(0, .ref y), (1, .int p0), (2, .int p1), (3, .int p2), (4, .long p3)] := hl
  refine lv_aload_n hx hb dX8_map_0 rfl (lv_at hl 0 rfl) ?_
  refine lv_iload_n hx hb dX8_map_1 rfl (lv_at hl 1 rfl) ?_
  refine q_callS (rest := [.ref y]) C (c_X8_isSlot l D cy N0 (h) p0) kX8_isSlot g1246 g1247 hP hS (by first | decide | omega) hl.1 rfl (by simp [q_catrf, q_cati, q_catl, q_cata, q_catn]) (by first | decide | omega) dX8_map_2 (fun q ce E h' H1 locs1 hE => hE.elim) (fun v hh1 H locs hq hP hS => ?_)
  obtain ⟨rfl, hq⟩ := hq
  rcases hq with ⟨rfl, gg0⟩ | ⟨rfl, gg0⟩
  · refine lv_if_eq (tgt := 29) hx hb dX8_map_5 (by decide) (fun c => absurd c (by decide)) (fun _ => ?_)
    refine lv_iload_n hx hb dX8_map_8 rfl (lv_at hl 2 rfl) ?_
    refine q_callS (rest := [.ref y]) C (c_X8_isSlot l D cy N0 (h) p1) kX8_isSlot g1246 g1247 hP hS (by first | decide | omega) hl.1 rfl (by simp [q_catrf, q_cati, q_catl, q_cata, q_catn]) (by first | decide | omega) dX8_map_9 (fun q ce E h' H1 locs1 hE => hE.elim) (fun v hh2 H locs hq hP hS => ?_)
    obtain ⟨rfl, hq⟩ := hq
    rcases hq with ⟨rfl, gg1⟩ | ⟨rfl, gg1⟩
    · refine lv_if_eq (tgt := 29) hx hb dX8_map_12 (by decide) (fun c => absurd c (by decide)) (fun _ => ?_)
      refine lv_iload_n hx hb dX8_map_15 rfl (lv_at hl 3 rfl) ?_
      refine lv_if_lt (tgt := 29) hx hb dX8_map_16 (by decide) (fun c16 => ?_) (fun c16 => ?_)
      · refine lv_iconst (v := 0) hx hb dX8_map_29 (by decide) ?_
        refine lv_iconst (v := 1) hx hb dX8_map_30 (by decide) ?_
        have hY0 := hY
        refine q_callV (rest := []) C (c_X8_good0 l D cy N0 (h) y ms mb mw od pt fi re rc rs so ot cn la ro gr cd ca mv ct fa cs ce rn 1 hY) kX8_good g1249 g1251 rfl gp41 g4 hP hS hY (by first | decide | omega) hl.1 rfl (by decide) (by first | decide | omega) dX8_map_31 (fun q ce E h' H1 locs1 hE => hE.elim) (fun v hh3 H locs hq hP hS => ?_)
        obtain ⟨rfl, rfl⟩ := hq
        replace hR := hR.set8 (o := (.inr (8, [.ref ms, .ref mb, .ref mw, .int gr, .int 1, .int ca, .int mv, .ref od, .ref pt, .int ct, .int fa, .ref fi, .ref re, .int cs, .ref rc, .ref rs, .ref so, .ref ot, .ref cn, .ref la, .int ce, .ref ro, .int rn]))) hY0
        replace hRB := hRB.set8 (o := (.inr (8, [.ref ms, .ref mb, .ref mw, .int gr, .int 1, .int ca, .int mv, .ref od, .ref pt, .int ct, .int fa, .ref fi, .ref re, .int cs, .ref rc, .ref rs, .ref so, .ref ot, .ref cn, .ref la, .int ce, .ref ro, .int rn]))) hY0
        replace hms := (qs_ne (h := h) (a := y) (o := (.inr (8, [.ref ms, .ref mb, .ref mw, .int gr, .int 1, .int ca, .int mv, .ref od, .ref pt, .int ct, .int fa, .ref fi, .ref re, .int cs, .ref rc, .ref rs, .ref so, .ref ot, .ref cn, .ref la, .int ce, .ref ro, .int rn]))) (fun q => by subst q; have := hms.symm.trans hY; first | cases this | simp at this)).trans hms
        replace hmb := (qs_ne (h := h) (a := y) (o := (.inr (8, [.ref ms, .ref mb, .ref mw, .int gr, .int 1, .int ca, .int mv, .ref od, .ref pt, .int ct, .int fa, .ref fi, .ref re, .int cs, .ref rc, .ref rs, .ref so, .ref ot, .ref cn, .ref la, .int ce, .ref ro, .int rn]))) (fun q => by subst q; have := hmb.symm.trans hY; first | cases this | simp at this)).trans hmb
        replace hY : (qs h y (.inr (8, [.ref ms, .ref mb, .ref mw, .int gr, .int 1, .int ca, .int mv, .ref od, .ref pt, .int ct, .int fa, .ref fi, .ref re, .int cs, .ref rc, .ref rs, .ref so, .ref ot, .ref cn, .ref la, .int ce, .ref ro, .int rn]))) y = some (.inr (8, [.ref ms, .ref mb, .ref mw, .int gr, .int 1, .int ca, .int mv, .ref od, .ref pt, .int ct, .int fa, .ref fi, .ref re, .int cs, .ref rc, .ref rs, .ref so, .ref ot, .ref cn, .ref la, .int ce, .ref ro, .int rn])) := qs_self
        refine lv_if_eq (tgt := 52) hx hb dX8_map_34 (by decide) (fun _ => ?_) (fun c => absurd (by decide) c)
        exact q_vret C hP hS ⟨1, rfl, ⟨rfl, Or.inl ⟨fun g9 => g9.2.2.1 c16, rfl⟩⟩⟩ (by omega) dX8_map_52
      · refine lv_iload_n hx hb dX8_map_19 rfl (lv_at hl 3 rfl) ?_
        refine lv_bipush (v := 6) hx hb dX8_map_20 (by decide) ?_
        refine lv_icmp_gt (tgt := 29) hx hb dX8_map_22 (by decide) (fun c22 => ?_) (fun c22 => ?_)
        · refine lv_iconst (v := 0) hx hb dX8_map_29 (by decide) ?_
          refine lv_iconst (v := 1) hx hb dX8_map_30 (by decide) ?_
          have hY0 := hY
          refine q_callV (rest := []) C (c_X8_good0 l D cy N0 (h) y ms mb mw od pt fi re rc rs so ot cn la ro gr cd ca mv ct fa cs ce rn 1 hY) kX8_good g1249 g1251 rfl gp41 g4 hP hS hY (by first | decide | omega) hl.1 rfl (by decide) (by first | decide | omega) dX8_map_31 (fun q ce E h' H1 locs1 hE => hE.elim) (fun v hh4 H locs hq hP hS => ?_)
          obtain ⟨rfl, rfl⟩ := hq
          replace hR := hR.set8 (o := (.inr (8, [.ref ms, .ref mb, .ref mw, .int gr, .int 1, .int ca, .int mv, .ref od, .ref pt, .int ct, .int fa, .ref fi, .ref re, .int cs, .ref rc, .ref rs, .ref so, .ref ot, .ref cn, .ref la, .int ce, .ref ro, .int rn]))) hY0
          replace hRB := hRB.set8 (o := (.inr (8, [.ref ms, .ref mb, .ref mw, .int gr, .int 1, .int ca, .int mv, .ref od, .ref pt, .int ct, .int fa, .ref fi, .ref re, .int cs, .ref rc, .ref rs, .ref so, .ref ot, .ref cn, .ref la, .int ce, .ref ro, .int rn]))) hY0
          replace hms := (qs_ne (h := h) (a := y) (o := (.inr (8, [.ref ms, .ref mb, .ref mw, .int gr, .int 1, .int ca, .int mv, .ref od, .ref pt, .int ct, .int fa, .ref fi, .ref re, .int cs, .ref rc, .ref rs, .ref so, .ref ot, .ref cn, .ref la, .int ce, .ref ro, .int rn]))) (fun q => by subst q; have := hms.symm.trans hY; first | cases this | simp at this)).trans hms
          replace hmb := (qs_ne (h := h) (a := y) (o := (.inr (8, [.ref ms, .ref mb, .ref mw, .int gr, .int 1, .int ca, .int mv, .ref od, .ref pt, .int ct, .int fa, .ref fi, .ref re, .int cs, .ref rc, .ref rs, .ref so, .ref ot, .ref cn, .ref la, .int ce, .ref ro, .int rn]))) (fun q => by subst q; have := hmb.symm.trans hY; first | cases this | simp at this)).trans hmb
          replace hY : (qs h y (.inr (8, [.ref ms, .ref mb, .ref mw, .int gr, .int 1, .int ca, .int mv, .ref od, .ref pt, .int ct, .int fa, .ref fi, .ref re, .int cs, .ref rc, .ref rs, .ref so, .ref ot, .ref cn, .ref la, .int ce, .ref ro, .int rn]))) y = some (.inr (8, [.ref ms, .ref mb, .ref mw, .int gr, .int 1, .int ca, .int mv, .ref od, .ref pt, .int ct, .int fa, .ref fi, .ref re, .int cs, .ref rc, .ref rs, .ref so, .ref ot, .ref cn, .ref la, .int ce, .ref ro, .int rn])) := qs_self
          refine lv_if_eq (tgt := 52) hx hb dX8_map_34 (by decide) (fun _ => ?_) (fun c => absurd (by decide) c)
          exact q_vret C hP hS ⟨1, rfl, ⟨rfl, Or.inl ⟨fun g9 => q32_no c22 g9.2.2.2, rfl⟩⟩⟩ (by omega) dX8_map_52
        · refine lv_iconst (v := 1) hx hb dX8_map_25 (by decide) ?_
          refine lv_goto (tgt := 30) hx hb dX8_map_26 (by decide) ?_
          refine lv_iconst (v := 1) hx hb dX8_map_30 (by decide) ?_
          have hY0 := hY
          refine q_callV (rest := []) C (c_X8_good1 l D cy N0 (h) y ms mb mw od pt fi re rc rs so ot cn la ro gr cd ca mv ct fa cs ce rn 1 hY) kX8_good g1249 g1251 rfl gp41 g4 hP hS hY (by first | decide | omega) hl.1 rfl (by decide) (by first | decide | omega) dX8_map_31 (fun q ce E h' H1 locs1 hE => hE.elim) (fun v hh5 H locs hq hP hS => ?_)
          obtain ⟨rfl, rfl⟩ := hq
          replace hR := hR.set8 (o := (.inr (8, [.ref ms, .ref mb, .ref mw, .int gr, .int 0, .int ca, .int mv, .ref od, .ref pt, .int ct, .int fa, .ref fi, .ref re, .int cs, .ref rc, .ref rs, .ref so, .ref ot, .ref cn, .ref la, .int ce, .ref ro, .int rn]))) hY0
          replace hRB := hRB.set8 (o := (.inr (8, [.ref ms, .ref mb, .ref mw, .int gr, .int 0, .int ca, .int mv, .ref od, .ref pt, .int ct, .int fa, .ref fi, .ref re, .int cs, .ref rc, .ref rs, .ref so, .ref ot, .ref cn, .ref la, .int ce, .ref ro, .int rn]))) hY0
          replace hms := (qs_ne (h := h) (a := y) (o := (.inr (8, [.ref ms, .ref mb, .ref mw, .int gr, .int 0, .int ca, .int mv, .ref od, .ref pt, .int ct, .int fa, .ref fi, .ref re, .int cs, .ref rc, .ref rs, .ref so, .ref ot, .ref cn, .ref la, .int ce, .ref ro, .int rn]))) (fun q => by subst q; have := hms.symm.trans hY; first | cases this | simp at this)).trans hms
          replace hmb := (qs_ne (h := h) (a := y) (o := (.inr (8, [.ref ms, .ref mb, .ref mw, .int gr, .int 0, .int ca, .int mv, .ref od, .ref pt, .int ct, .int fa, .ref fi, .ref re, .int cs, .ref rc, .ref rs, .ref so, .ref ot, .ref cn, .ref la, .int ce, .ref ro, .int rn]))) (fun q => by subst q; have := hmb.symm.trans hY; first | cases this | simp at this)).trans hmb
          replace hY : (qs h y (.inr (8, [.ref ms, .ref mb, .ref mw, .int gr, .int 0, .int ca, .int mv, .ref od, .ref pt, .int ct, .int fa, .ref fi, .ref re, .int cs, .ref rc, .ref rs, .ref so, .ref ot, .ref cn, .ref la, .int ce, .ref ro, .int rn]))) y = some (.inr (8, [.ref ms, .ref mb, .ref mw, .int gr, .int 0, .int ca, .int mv, .ref od, .ref pt, .int ct, .int fa, .ref fi, .ref re, .int cs, .ref rc, .ref rs, .ref so, .ref ot, .ref cn, .ref la, .int ce, .ref ro, .int rn])) := qs_self
          refine lv_if_eq (tgt := 52) hx hb dX8_map_34 (by decide) (fun c => absurd c (by decide)) (fun _ => ?_)
          refine lv_aload_n hx hb dX8_map_37 rfl (lv_at hl 0 rfl) ?_
          refine lv_aload_n hx hb dX8_map_38 rfl (lv_at hl 0 rfl) ?_
          refine lv_iload_n hx hb dX8_map_39 rfl (lv_at hl 2 rfl) ?_
          refine lv_bipush (v := 65) hx hb dX8_map_40 (by decide) ?_
          obtain ⟨i1, hi1, ei1⟩ := gg1.of
          subst ei1
          refine q_callV (rest := [.ref y]) C (c_X8_holds_0 l D cy N0 (qs h y (.inr (8, [.ref ms, .ref mb, .ref mw, .int gr, .int 0, .int ca, .int mv, .ref od, .ref pt, .int ct, .int fa, .ref fi, .ref re, .int cs, .ref rc, .ref rs, .ref so, .ref ot, .ref cn, .ref la, .int ce, .ref ro, .int rn]))) y ms mb mw od pt fi re rc rs so ot cn la ro gr 0 ca mv ct fa cs ce rn f g i1 65 hY hms hmb hR hRB hi1) kX8_holds g1264 g1266 rfl gp42 g4 hP hS hY (by first | decide | omega) hl.1 rfl (by simp [q_catrf, q_cati, q_catl, q_cata, q_catn]) (by first | decide | omega) dX8_map_42 (fun q ce E h' H1 locs1 hE => hE.elim) (fun v hh6 H locs hq hP hS => ?_)
          obtain ⟨rfl, rfl⟩ := hq
          refine lv_iconst (v := 2) hx hb dX8_map_45 (by decide) ?_
          have hY0 := hY
          refine q_callV (rest := []) C (c_X8_good0 l D cy N0 (qs h y (.inr (8, [.ref ms, .ref mb, .ref mw, .int gr, .int 0, .int ca, .int mv, .ref od, .ref pt, .int ct, .int fa, .ref fi, .ref re, .int cs, .ref rc, .ref rs, .ref so, .ref ot, .ref cn, .ref la, .int ce, .ref ro, .int rn]))) y ms mb mw od pt fi re rc rs so ot cn la ro gr 0 ca mv ct fa cs ce rn 2 hY) kX8_good g1249 g1251 rfl gp41 g4 hP hS hY (by first | decide | omega) hl.1 rfl (by decide) (by first | decide | omega) dX8_map_46 (fun q ce E h' H1 locs1 hE => hE.elim) (fun v hh7 H locs hq hP hS => ?_)
          obtain ⟨rfl, rfl⟩ := hq
          replace hR := hR.re8 (o' := (.inr (8, [.ref ms, .ref mb, .ref mw, .int gr, .int 2, .int ca, .int mv, .ref od, .ref pt, .int ct, .int fa, .ref fi, .ref re, .int cs, .ref rc, .ref rs, .ref so, .ref ot, .ref cn, .ref la, .int ce, .ref ro, .int rn]))) hY0
          replace hRB := hRB.re8 (o' := (.inr (8, [.ref ms, .ref mb, .ref mw, .int gr, .int 2, .int ca, .int mv, .ref od, .ref pt, .int ct, .int fa, .ref fi, .ref re, .int cs, .ref rc, .ref rs, .ref so, .ref ot, .ref cn, .ref la, .int ce, .ref ro, .int rn]))) hY0
          rw [qs_qs] at hP
          replace hms := qs_re (o' := (.inr (8, [.ref ms, .ref mb, .ref mw, .int gr, .int 2, .int ca, .int mv, .ref od, .ref pt, .int ct, .int fa, .ref fi, .ref re, .int cs, .ref rc, .ref rs, .ref so, .ref ot, .ref cn, .ref la, .int ce, .ref ro, .int rn]))) (fun q => by subst q; have := hms.symm.trans hY; first | cases this | simp at this) hms
          replace hmb := qs_re (o' := (.inr (8, [.ref ms, .ref mb, .ref mw, .int gr, .int 2, .int ca, .int mv, .ref od, .ref pt, .int ct, .int fa, .ref fi, .ref re, .int cs, .ref rc, .ref rs, .ref so, .ref ot, .ref cn, .ref la, .int ce, .ref ro, .int rn]))) (fun q => by subst q; have := hmb.symm.trans hY; first | cases this | simp at this) hmb
          replace hY : (qs h y (.inr (8, [.ref ms, .ref mb, .ref mw, .int gr, .int 2, .int ca, .int mv, .ref od, .ref pt, .int ct, .int fa, .ref fi, .ref re, .int cs, .ref rc, .ref rs, .ref so, .ref ot, .ref cn, .ref la, .int ce, .ref ro, .int rn]))) y = some (.inr (8, [.ref ms, .ref mb, .ref mw, .int gr, .int 2, .int ca, .int mv, .ref od, .ref pt, .int ct, .int fa, .ref fi, .ref re, .int cs, .ref rc, .ref rs, .ref so, .ref ot, .ref cn, .ref la, .int ce, .ref ro, .int rn])) := qs_self
          refine lv_if_ne (tgt := 53) hx hb dX8_map_49 (by decide) (fun c => absurd rfl c) (fun _ => ?_)
          exact q_vret C hP hS ⟨2, rfl, ⟨rfl, Or.inr ⟨⟨gg0, gg1, ⟨c16, q32_not c22⟩⟩, rfl⟩⟩⟩ (by omega) dX8_map_52
    · refine lv_if_eq (tgt := 29) hx hb dX8_map_12 (by decide) (fun _ => ?_) (fun c => absurd (by decide) c)
      refine lv_iconst (v := 0) hx hb dX8_map_29 (by decide) ?_
      refine lv_iconst (v := 1) hx hb dX8_map_30 (by decide) ?_
      have hY0 := hY
      refine q_callV (rest := []) C (c_X8_good0 l D cy N0 (h) y ms mb mw od pt fi re rc rs so ot cn la ro gr cd ca mv ct fa cs ce rn 1 hY) kX8_good g1249 g1251 rfl gp41 g4 hP hS hY (by first | decide | omega) hl.1 rfl (by decide) (by first | decide | omega) dX8_map_31 (fun q ce E h' H1 locs1 hE => hE.elim) (fun v hh8 H locs hq hP hS => ?_)
      obtain ⟨rfl, rfl⟩ := hq
      replace hR := hR.set8 (o := (.inr (8, [.ref ms, .ref mb, .ref mw, .int gr, .int 1, .int ca, .int mv, .ref od, .ref pt, .int ct, .int fa, .ref fi, .ref re, .int cs, .ref rc, .ref rs, .ref so, .ref ot, .ref cn, .ref la, .int ce, .ref ro, .int rn]))) hY0
      replace hRB := hRB.set8 (o := (.inr (8, [.ref ms, .ref mb, .ref mw, .int gr, .int 1, .int ca, .int mv, .ref od, .ref pt, .int ct, .int fa, .ref fi, .ref re, .int cs, .ref rc, .ref rs, .ref so, .ref ot, .ref cn, .ref la, .int ce, .ref ro, .int rn]))) hY0
      replace hms := (qs_ne (h := h) (a := y) (o := (.inr (8, [.ref ms, .ref mb, .ref mw, .int gr, .int 1, .int ca, .int mv, .ref od, .ref pt, .int ct, .int fa, .ref fi, .ref re, .int cs, .ref rc, .ref rs, .ref so, .ref ot, .ref cn, .ref la, .int ce, .ref ro, .int rn]))) (fun q => by subst q; have := hms.symm.trans hY; first | cases this | simp at this)).trans hms
      replace hmb := (qs_ne (h := h) (a := y) (o := (.inr (8, [.ref ms, .ref mb, .ref mw, .int gr, .int 1, .int ca, .int mv, .ref od, .ref pt, .int ct, .int fa, .ref fi, .ref re, .int cs, .ref rc, .ref rs, .ref so, .ref ot, .ref cn, .ref la, .int ce, .ref ro, .int rn]))) (fun q => by subst q; have := hmb.symm.trans hY; first | cases this | simp at this)).trans hmb
      replace hY : (qs h y (.inr (8, [.ref ms, .ref mb, .ref mw, .int gr, .int 1, .int ca, .int mv, .ref od, .ref pt, .int ct, .int fa, .ref fi, .ref re, .int cs, .ref rc, .ref rs, .ref so, .ref ot, .ref cn, .ref la, .int ce, .ref ro, .int rn]))) y = some (.inr (8, [.ref ms, .ref mb, .ref mw, .int gr, .int 1, .int ca, .int mv, .ref od, .ref pt, .int ct, .int fa, .ref fi, .ref re, .int cs, .ref rc, .ref rs, .ref so, .ref ot, .ref cn, .ref la, .int ce, .ref ro, .int rn])) := qs_self
      refine lv_if_eq (tgt := 52) hx hb dX8_map_34 (by decide) (fun _ => ?_) (fun c => absurd (by decide) c)
      exact q_vret C hP hS ⟨1, rfl, ⟨rfl, Or.inl ⟨fun g9 => gg1 g9.2.1, rfl⟩⟩⟩ (by omega) dX8_map_52
  · refine lv_if_eq (tgt := 29) hx hb dX8_map_5 (by decide) (fun _ => ?_) (fun c => absurd (by decide) c)
    refine lv_iconst (v := 0) hx hb dX8_map_29 (by decide) ?_
    refine lv_iconst (v := 1) hx hb dX8_map_30 (by decide) ?_
    have hY0 := hY
    refine q_callV (rest := []) C (c_X8_good0 l D cy N0 (h) y ms mb mw od pt fi re rc rs so ot cn la ro gr cd ca mv ct fa cs ce rn 1 hY) kX8_good g1249 g1251 rfl gp41 g4 hP hS hY (by first | decide | omega) hl.1 rfl (by decide) (by first | decide | omega) dX8_map_31 (fun q ce E h' H1 locs1 hE => hE.elim) (fun v hh9 H locs hq hP hS => ?_)
    obtain ⟨rfl, rfl⟩ := hq
    replace hR := hR.set8 (o := (.inr (8, [.ref ms, .ref mb, .ref mw, .int gr, .int 1, .int ca, .int mv, .ref od, .ref pt, .int ct, .int fa, .ref fi, .ref re, .int cs, .ref rc, .ref rs, .ref so, .ref ot, .ref cn, .ref la, .int ce, .ref ro, .int rn]))) hY0
    replace hRB := hRB.set8 (o := (.inr (8, [.ref ms, .ref mb, .ref mw, .int gr, .int 1, .int ca, .int mv, .ref od, .ref pt, .int ct, .int fa, .ref fi, .ref re, .int cs, .ref rc, .ref rs, .ref so, .ref ot, .ref cn, .ref la, .int ce, .ref ro, .int rn]))) hY0
    replace hms := (qs_ne (h := h) (a := y) (o := (.inr (8, [.ref ms, .ref mb, .ref mw, .int gr, .int 1, .int ca, .int mv, .ref od, .ref pt, .int ct, .int fa, .ref fi, .ref re, .int cs, .ref rc, .ref rs, .ref so, .ref ot, .ref cn, .ref la, .int ce, .ref ro, .int rn]))) (fun q => by subst q; have := hms.symm.trans hY; first | cases this | simp at this)).trans hms
    replace hmb := (qs_ne (h := h) (a := y) (o := (.inr (8, [.ref ms, .ref mb, .ref mw, .int gr, .int 1, .int ca, .int mv, .ref od, .ref pt, .int ct, .int fa, .ref fi, .ref re, .int cs, .ref rc, .ref rs, .ref so, .ref ot, .ref cn, .ref la, .int ce, .ref ro, .int rn]))) (fun q => by subst q; have := hmb.symm.trans hY; first | cases this | simp at this)).trans hmb
    replace hY : (qs h y (.inr (8, [.ref ms, .ref mb, .ref mw, .int gr, .int 1, .int ca, .int mv, .ref od, .ref pt, .int ct, .int fa, .ref fi, .ref re, .int cs, .ref rc, .ref rs, .ref so, .ref ot, .ref cn, .ref la, .int ce, .ref ro, .int rn]))) y = some (.inr (8, [.ref ms, .ref mb, .ref mw, .int gr, .int 1, .int ca, .int mv, .ref od, .ref pt, .int ct, .int fa, .ref fi, .ref re, .int cs, .ref rc, .ref rs, .ref so, .ref ot, .ref cn, .ref la, .int ce, .ref ro, .int rn])) := qs_self
    refine lv_if_eq (tgt := 52) hx hb dX8_map_34 (by decide) (fun _ => ?_) (fun c => absurd (by decide) c)
    exact q_vret C hP hS ⟨1, rfl, ⟨rfl, Or.inl ⟨fun g9 => gg0 g9.1, rfl⟩⟩⟩ (by omega) dX8_map_52

theorem dX8_filter_0 : decode cX8_filter 0 = .ok (.aload_n 0, 1) := by decide +kernel
theorem dX8_filter_1 : decode cX8_filter 1 = .ok (.iload_n 1, 1) := by decide +kernel
theorem dX8_filter_2 : decode cX8_filter 2 = .ok (.invokestatic 96, 3) := by decide +kernel
theorem dX8_filter_5 : decode cX8_filter 5 = .ok (.ifCond .eq 23, 3) := by decide +kernel
theorem dX8_filter_8 : decode cX8_filter 8 = .ok (.iload_n 2, 1) := by decide +kernel
theorem dX8_filter_9 : decode cX8_filter 9 = .ok (.invokestatic 96, 3) := by decide +kernel
theorem dX8_filter_12 : decode cX8_filter 12 = .ok (.ifCond .eq 16, 3) := by decide +kernel
theorem dX8_filter_15 : decode cX8_filter 15 = .ok (.iload_n 3, 1) := by decide +kernel
theorem dX8_filter_16 : decode cX8_filter 16 = .ok (.ifCond .lt 12, 3) := by decide +kernel
theorem dX8_filter_19 : decode cX8_filter 19 = .ok (.iload_n 3, 1) := by decide +kernel
theorem dX8_filter_20 : decode cX8_filter 20 = .ok (.iconst 4, 1) := by decide +kernel
theorem dX8_filter_21 : decode cX8_filter 21 = .ok (.if_icmp .gt 7, 3) := by decide +kernel
theorem dX8_filter_24 : decode cX8_filter 24 = .ok (.iconst 1, 1) := by decide +kernel
theorem dX8_filter_25 : decode cX8_filter 25 = .ok (.goto 4, 3) := by decide +kernel
theorem dX8_filter_28 : decode cX8_filter 28 = .ok (.iconst 0, 1) := by decide +kernel
theorem dX8_filter_29 : decode cX8_filter 29 = .ok (.iconst 1, 1) := by decide +kernel
theorem dX8_filter_30 : decode cX8_filter 30 = .ok (.invokevirtual 100, 3) := by decide +kernel
theorem dX8_filter_33 : decode cX8_filter 33 = .ok (.ifCond .eq 18, 3) := by decide +kernel
theorem dX8_filter_36 : decode cX8_filter 36 = .ok (.aload_n 0, 1) := by decide +kernel
theorem dX8_filter_37 : decode cX8_filter 37 = .ok (.aload_n 0, 1) := by decide +kernel
theorem dX8_filter_38 : decode cX8_filter 38 = .ok (.iload_n 2, 1) := by decide +kernel
theorem dX8_filter_39 : decode cX8_filter 39 = .ok (.bipush 69, 2) := by decide +kernel
theorem dX8_filter_41 : decode cX8_filter 41 = .ok (.invokevirtual 108, 3) := by decide +kernel
theorem dX8_filter_44 : decode cX8_filter 44 = .ok (.iconst 2, 1) := by decide +kernel
theorem dX8_filter_45 : decode cX8_filter 45 = .ok (.invokevirtual 100, 3) := by decide +kernel
theorem dX8_filter_48 : decode cX8_filter 48 = .ok (.ifCond .ne 4, 3) := by decide +kernel
theorem dX8_filter_51 : decode cX8_filter 51 = .ok (.return_, 1) := by decide +kernel
set_option maxRecDepth 100000 in
set_option maxHeartbeats 4000000 in
theorem c_X8_filter_0 (l : Launch) (D : va_G) (cy : Nat → ClassId) (N0 : Nat) (h : qH) (y ms mb mw od pt fi re rc rs so ot cn la ro : Nat) (gr cd ca mv ct fa cs ce rn : Int32) (f g : Nat → Option Nat) (p0 : Int32) (p1 : Int32) (p2 : Int32) (p3 : Int64) (hY : h y = some (.inr (8, [.ref ms, .ref mb, .ref mw, .int gr, .int cd, .int ca, .int mv, .ref od, .ref pt, .int ct, .int fa, .ref fi, .ref re, .int cs, .ref rc, .ref rs, .ref so, .ref ot, .ref cn, .ref la, .int ce, .ref ro, .int rn]))) (hms : h ms = some (.inl (cy 5, 24, .inr (.inr (.inr (.inr f)))))) (hmb : h mb = some (.inl (cy 5, 4, .inr (.inr (.inr (.inr g)))))) (hR : qRo h f 24) (hRB : qRo h g 4) : qC l D cy N0 yX8_filter cX8_filter 9 none 1 60 0 0 [.ref y, .int p0, .int p1, .int p2, .long p3] h (fun v h' => ∃ cd', h' = qs h y (.inr (8, [.ref ms, .ref mb, .ref mw, .int gr, .int cd', .int ca, .int mv, .ref od, .ref pt, .int ct, .int fa, .ref fi, .ref re, .int cs, .ref rc, .ref rs, .ref so, .ref ot, .ref cn, .ref la, .int ce, .ref ro, .int rn])) ∧ v = none ∧ ((¬ (qSl p0 ∧ qSl p1 ∧ qIn p2 4) ∧ cd' = 1) ∨ ((qSl p0 ∧ qSl p1 ∧ qIn p2 4) ∧ cd' = 2))) (fun E h' => False) := by
  refine q_ofW (by decide) (by exact Nat.le_of_ble_eq_true rfl) ?_
  intro p e s m below meth c ls C hP hl
  have hx := C.1
  have hb := C.2.1
  have hS : va_S (qA N0) s.heap s.heap [] := va_S.rf
  have hl : lv_has ls 9 [(0, .ref y), (1, .int p0), (2, .int p1), (3, .int p2), (4, .long p3)] := hl
  refine lv_aload_n hx hb dX8_filter_0 rfl (lv_at hl 0 rfl) ?_
  refine lv_iload_n hx hb dX8_filter_1 rfl (lv_at hl 1 rfl) ?_
  refine q_callS (rest := [.ref y]) C (c_X8_isSlot l D cy N0 (h) p0) kX8_isSlot g1246 g1247 hP hS (by first | decide | omega) hl.1 rfl (by simp [q_catrf, q_cati, q_catl, q_cata, q_catn]) (by first | decide | omega) dX8_filter_2 (fun q ce E h' H1 locs1 hE => hE.elim) (fun v hh1 H locs hq hP hS => ?_)
  obtain ⟨rfl, hq⟩ := hq
  rcases hq with ⟨rfl, gg0⟩ | ⟨rfl, gg0⟩
  · refine lv_if_eq (tgt := 28) hx hb dX8_filter_5 (by decide) (fun c => absurd c (by decide)) (fun _ => ?_)
    refine lv_iload_n hx hb dX8_filter_8 rfl (lv_at hl 2 rfl) ?_
    refine q_callS (rest := [.ref y]) C (c_X8_isSlot l D cy N0 (h) p1) kX8_isSlot g1246 g1247 hP hS (by first | decide | omega) hl.1 rfl (by simp [q_catrf, q_cati, q_catl, q_cata, q_catn]) (by first | decide | omega) dX8_filter_9 (fun q ce E h' H1 locs1 hE => hE.elim) (fun v hh2 H locs hq hP hS => ?_)
    obtain ⟨rfl, hq⟩ := hq
    rcases hq with ⟨rfl, gg1⟩ | ⟨rfl, gg1⟩
    · refine lv_if_eq (tgt := 28) hx hb dX8_filter_12 (by decide) (fun c => absurd c (by decide)) (fun _ => ?_)
      refine lv_iload_n hx hb dX8_filter_15 rfl (lv_at hl 3 rfl) ?_
      refine lv_if_lt (tgt := 28) hx hb dX8_filter_16 (by decide) (fun c16 => ?_) (fun c16 => ?_)
      · refine lv_iconst (v := 0) hx hb dX8_filter_28 (by decide) ?_
        refine lv_iconst (v := 1) hx hb dX8_filter_29 (by decide) ?_
        have hY0 := hY
        refine q_callV (rest := []) C (c_X8_good0 l D cy N0 (h) y ms mb mw od pt fi re rc rs so ot cn la ro gr cd ca mv ct fa cs ce rn 1 hY) kX8_good g1249 g1251 rfl gp41 g4 hP hS hY (by first | decide | omega) hl.1 rfl (by decide) (by first | decide | omega) dX8_filter_30 (fun q ce E h' H1 locs1 hE => hE.elim) (fun v hh3 H locs hq hP hS => ?_)
        obtain ⟨rfl, rfl⟩ := hq
        replace hR := hR.set8 (o := (.inr (8, [.ref ms, .ref mb, .ref mw, .int gr, .int 1, .int ca, .int mv, .ref od, .ref pt, .int ct, .int fa, .ref fi, .ref re, .int cs, .ref rc, .ref rs, .ref so, .ref ot, .ref cn, .ref la, .int ce, .ref ro, .int rn]))) hY0
        replace hRB := hRB.set8 (o := (.inr (8, [.ref ms, .ref mb, .ref mw, .int gr, .int 1, .int ca, .int mv, .ref od, .ref pt, .int ct, .int fa, .ref fi, .ref re, .int cs, .ref rc, .ref rs, .ref so, .ref ot, .ref cn, .ref la, .int ce, .ref ro, .int rn]))) hY0
        replace hms := (qs_ne (h := h) (a := y) (o := (.inr (8, [.ref ms, .ref mb, .ref mw, .int gr, .int 1, .int ca, .int mv, .ref od, .ref pt, .int ct, .int fa, .ref fi, .ref re, .int cs, .ref rc, .ref rs, .ref so, .ref ot, .ref cn, .ref la, .int ce, .ref ro, .int rn]))) (fun q => by subst q; have := hms.symm.trans hY; first | cases this | simp at this)).trans hms
        replace hmb := (qs_ne (h := h) (a := y) (o := (.inr (8, [.ref ms, .ref mb, .ref mw, .int gr, .int 1, .int ca, .int mv, .ref od, .ref pt, .int ct, .int fa, .ref fi, .ref re, .int cs, .ref rc, .ref rs, .ref so, .ref ot, .ref cn, .ref la, .int ce, .ref ro, .int rn]))) (fun q => by subst q; have := hmb.symm.trans hY; first | cases this | simp at this)).trans hmb
        replace hY : (qs h y (.inr (8, [.ref ms, .ref mb, .ref mw, .int gr, .int 1, .int ca, .int mv, .ref od, .ref pt, .int ct, .int fa, .ref fi, .ref re, .int cs, .ref rc, .ref rs, .ref so, .ref ot, .ref cn, .ref la, .int ce, .ref ro, .int rn]))) y = some (.inr (8, [.ref ms, .ref mb, .ref mw, .int gr, .int 1, .int ca, .int mv, .ref od, .ref pt, .int ct, .int fa, .ref fi, .ref re, .int cs, .ref rc, .ref rs, .ref so, .ref ot, .ref cn, .ref la, .int ce, .ref ro, .int rn])) := qs_self
        refine lv_if_eq (tgt := 51) hx hb dX8_filter_33 (by decide) (fun _ => ?_) (fun c => absurd (by decide) c)
        exact q_vret C hP hS ⟨1, rfl, ⟨rfl, Or.inl ⟨fun g9 => g9.2.2.1 c16, rfl⟩⟩⟩ (by omega) dX8_filter_51
      · refine lv_iload_n hx hb dX8_filter_19 rfl (lv_at hl 3 rfl) ?_
        refine lv_iconst (v := 4) hx hb dX8_filter_20 (by decide) ?_
        refine lv_icmp_gt (tgt := 28) hx hb dX8_filter_21 (by decide) (fun c21 => ?_) (fun c21 => ?_)
        · refine lv_iconst (v := 0) hx hb dX8_filter_28 (by decide) ?_
          refine lv_iconst (v := 1) hx hb dX8_filter_29 (by decide) ?_
          have hY0 := hY
          refine q_callV (rest := []) C (c_X8_good0 l D cy N0 (h) y ms mb mw od pt fi re rc rs so ot cn la ro gr cd ca mv ct fa cs ce rn 1 hY) kX8_good g1249 g1251 rfl gp41 g4 hP hS hY (by first | decide | omega) hl.1 rfl (by decide) (by first | decide | omega) dX8_filter_30 (fun q ce E h' H1 locs1 hE => hE.elim) (fun v hh4 H locs hq hP hS => ?_)
          obtain ⟨rfl, rfl⟩ := hq
          replace hR := hR.set8 (o := (.inr (8, [.ref ms, .ref mb, .ref mw, .int gr, .int 1, .int ca, .int mv, .ref od, .ref pt, .int ct, .int fa, .ref fi, .ref re, .int cs, .ref rc, .ref rs, .ref so, .ref ot, .ref cn, .ref la, .int ce, .ref ro, .int rn]))) hY0
          replace hRB := hRB.set8 (o := (.inr (8, [.ref ms, .ref mb, .ref mw, .int gr, .int 1, .int ca, .int mv, .ref od, .ref pt, .int ct, .int fa, .ref fi, .ref re, .int cs, .ref rc, .ref rs, .ref so, .ref ot, .ref cn, .ref la, .int ce, .ref ro, .int rn]))) hY0
          replace hms := (qs_ne (h := h) (a := y) (o := (.inr (8, [.ref ms, .ref mb, .ref mw, .int gr, .int 1, .int ca, .int mv, .ref od, .ref pt, .int ct, .int fa, .ref fi, .ref re, .int cs, .ref rc, .ref rs, .ref so, .ref ot, .ref cn, .ref la, .int ce, .ref ro, .int rn]))) (fun q => by subst q; have := hms.symm.trans hY; first | cases this | simp at this)).trans hms
          replace hmb := (qs_ne (h := h) (a := y) (o := (.inr (8, [.ref ms, .ref mb, .ref mw, .int gr, .int 1, .int ca, .int mv, .ref od, .ref pt, .int ct, .int fa, .ref fi, .ref re, .int cs, .ref rc, .ref rs, .ref so, .ref ot, .ref cn, .ref la, .int ce, .ref ro, .int rn]))) (fun q => by subst q; have := hmb.symm.trans hY; first | cases this | simp at this)).trans hmb
          replace hY : (qs h y (.inr (8, [.ref ms, .ref mb, .ref mw, .int gr, .int 1, .int ca, .int mv, .ref od, .ref pt, .int ct, .int fa, .ref fi, .ref re, .int cs, .ref rc, .ref rs, .ref so, .ref ot, .ref cn, .ref la, .int ce, .ref ro, .int rn]))) y = some (.inr (8, [.ref ms, .ref mb, .ref mw, .int gr, .int 1, .int ca, .int mv, .ref od, .ref pt, .int ct, .int fa, .ref fi, .ref re, .int cs, .ref rc, .ref rs, .ref so, .ref ot, .ref cn, .ref la, .int ce, .ref ro, .int rn])) := qs_self
          refine lv_if_eq (tgt := 51) hx hb dX8_filter_33 (by decide) (fun _ => ?_) (fun c => absurd (by decide) c)
          exact q_vret C hP hS ⟨1, rfl, ⟨rfl, Or.inl ⟨fun g9 => q32_no c21 g9.2.2.2, rfl⟩⟩⟩ (by omega) dX8_filter_51
        · refine lv_iconst (v := 1) hx hb dX8_filter_24 (by decide) ?_
          refine lv_goto (tgt := 29) hx hb dX8_filter_25 (by decide) ?_
          refine lv_iconst (v := 1) hx hb dX8_filter_29 (by decide) ?_
          have hY0 := hY
          refine q_callV (rest := []) C (c_X8_good1 l D cy N0 (h) y ms mb mw od pt fi re rc rs so ot cn la ro gr cd ca mv ct fa cs ce rn 1 hY) kX8_good g1249 g1251 rfl gp41 g4 hP hS hY (by first | decide | omega) hl.1 rfl (by decide) (by first | decide | omega) dX8_filter_30 (fun q ce E h' H1 locs1 hE => hE.elim) (fun v hh5 H locs hq hP hS => ?_)
          obtain ⟨rfl, rfl⟩ := hq
          replace hR := hR.set8 (o := (.inr (8, [.ref ms, .ref mb, .ref mw, .int gr, .int 0, .int ca, .int mv, .ref od, .ref pt, .int ct, .int fa, .ref fi, .ref re, .int cs, .ref rc, .ref rs, .ref so, .ref ot, .ref cn, .ref la, .int ce, .ref ro, .int rn]))) hY0
          replace hRB := hRB.set8 (o := (.inr (8, [.ref ms, .ref mb, .ref mw, .int gr, .int 0, .int ca, .int mv, .ref od, .ref pt, .int ct, .int fa, .ref fi, .ref re, .int cs, .ref rc, .ref rs, .ref so, .ref ot, .ref cn, .ref la, .int ce, .ref ro, .int rn]))) hY0
          replace hms := (qs_ne (h := h) (a := y) (o := (.inr (8, [.ref ms, .ref mb, .ref mw, .int gr, .int 0, .int ca, .int mv, .ref od, .ref pt, .int ct, .int fa, .ref fi, .ref re, .int cs, .ref rc, .ref rs, .ref so, .ref ot, .ref cn, .ref la, .int ce, .ref ro, .int rn]))) (fun q => by subst q; have := hms.symm.trans hY; first | cases this | simp at this)).trans hms
          replace hmb := (qs_ne (h := h) (a := y) (o := (.inr (8, [.ref ms, .ref mb, .ref mw, .int gr, .int 0, .int ca, .int mv, .ref od, .ref pt, .int ct, .int fa, .ref fi, .ref re, .int cs, .ref rc, .ref rs, .ref so, .ref ot, .ref cn, .ref la, .int ce, .ref ro, .int rn]))) (fun q => by subst q; have := hmb.symm.trans hY; first | cases this | simp at this)).trans hmb
          replace hY : (qs h y (.inr (8, [.ref ms, .ref mb, .ref mw, .int gr, .int 0, .int ca, .int mv, .ref od, .ref pt, .int ct, .int fa, .ref fi, .ref re, .int cs, .ref rc, .ref rs, .ref so, .ref ot, .ref cn, .ref la, .int ce, .ref ro, .int rn]))) y = some (.inr (8, [.ref ms, .ref mb, .ref mw, .int gr, .int 0, .int ca, .int mv, .ref od, .ref pt, .int ct, .int fa, .ref fi, .ref re, .int cs, .ref rc, .ref rs, .ref so, .ref ot, .ref cn, .ref la, .int ce, .ref ro, .int rn])) := qs_self
          refine lv_if_eq (tgt := 51) hx hb dX8_filter_33 (by decide) (fun c => absurd c (by decide)) (fun _ => ?_)
          refine lv_aload_n hx hb dX8_filter_36 rfl (lv_at hl 0 rfl) ?_
          refine lv_aload_n hx hb dX8_filter_37 rfl (lv_at hl 0 rfl) ?_
          refine lv_iload_n hx hb dX8_filter_38 rfl (lv_at hl 2 rfl) ?_
          refine lv_bipush (v := 69) hx hb dX8_filter_39 (by decide) ?_
          obtain ⟨i1, hi1, ei1⟩ := gg1.of
          subst ei1
          refine q_callV (rest := [.ref y]) C (c_X8_holds_0 l D cy N0 (qs h y (.inr (8, [.ref ms, .ref mb, .ref mw, .int gr, .int 0, .int ca, .int mv, .ref od, .ref pt, .int ct, .int fa, .ref fi, .ref re, .int cs, .ref rc, .ref rs, .ref so, .ref ot, .ref cn, .ref la, .int ce, .ref ro, .int rn]))) y ms mb mw od pt fi re rc rs so ot cn la ro gr 0 ca mv ct fa cs ce rn f g i1 69 hY hms hmb hR hRB hi1) kX8_holds g1264 g1266 rfl gp42 g4 hP hS hY (by first | decide | omega) hl.1 rfl (by simp [q_catrf, q_cati, q_catl, q_cata, q_catn]) (by first | decide | omega) dX8_filter_41 (fun q ce E h' H1 locs1 hE => hE.elim) (fun v hh6 H locs hq hP hS => ?_)
          obtain ⟨rfl, rfl⟩ := hq
          refine lv_iconst (v := 2) hx hb dX8_filter_44 (by decide) ?_
          have hY0 := hY
          refine q_callV (rest := []) C (c_X8_good0 l D cy N0 (qs h y (.inr (8, [.ref ms, .ref mb, .ref mw, .int gr, .int 0, .int ca, .int mv, .ref od, .ref pt, .int ct, .int fa, .ref fi, .ref re, .int cs, .ref rc, .ref rs, .ref so, .ref ot, .ref cn, .ref la, .int ce, .ref ro, .int rn]))) y ms mb mw od pt fi re rc rs so ot cn la ro gr 0 ca mv ct fa cs ce rn 2 hY) kX8_good g1249 g1251 rfl gp41 g4 hP hS hY (by first | decide | omega) hl.1 rfl (by decide) (by first | decide | omega) dX8_filter_45 (fun q ce E h' H1 locs1 hE => hE.elim) (fun v hh7 H locs hq hP hS => ?_)
          obtain ⟨rfl, rfl⟩ := hq
          replace hR := hR.re8 (o' := (.inr (8, [.ref ms, .ref mb, .ref mw, .int gr, .int 2, .int ca, .int mv, .ref od, .ref pt, .int ct, .int fa, .ref fi, .ref re, .int cs, .ref rc, .ref rs, .ref so, .ref ot, .ref cn, .ref la, .int ce, .ref ro, .int rn]))) hY0
          replace hRB := hRB.re8 (o' := (.inr (8, [.ref ms, .ref mb, .ref mw, .int gr, .int 2, .int ca, .int mv, .ref od, .ref pt, .int ct, .int fa, .ref fi, .ref re, .int cs, .ref rc, .ref rs, .ref so, .ref ot, .ref cn, .ref la, .int ce, .ref ro, .int rn]))) hY0
          rw [qs_qs] at hP
          replace hms := qs_re (o' := (.inr (8, [.ref ms, .ref mb, .ref mw, .int gr, .int 2, .int ca, .int mv, .ref od, .ref pt, .int ct, .int fa, .ref fi, .ref re, .int cs, .ref rc, .ref rs, .ref so, .ref ot, .ref cn, .ref la, .int ce, .ref ro, .int rn]))) (fun q => by subst q; have := hms.symm.trans hY; first | cases this | simp at this) hms
          replace hmb := qs_re (o' := (.inr (8, [.ref ms, .ref mb, .ref mw, .int gr, .int 2, .int ca, .int mv, .ref od, .ref pt, .int ct, .int fa, .ref fi, .ref re, .int cs, .ref rc, .ref rs, .ref so, .ref ot, .ref cn, .ref la, .int ce, .ref ro, .int rn]))) (fun q => by subst q; have := hmb.symm.trans hY; first | cases this | simp at this) hmb
          replace hY : (qs h y (.inr (8, [.ref ms, .ref mb, .ref mw, .int gr, .int 2, .int ca, .int mv, .ref od, .ref pt, .int ct, .int fa, .ref fi, .ref re, .int cs, .ref rc, .ref rs, .ref so, .ref ot, .ref cn, .ref la, .int ce, .ref ro, .int rn]))) y = some (.inr (8, [.ref ms, .ref mb, .ref mw, .int gr, .int 2, .int ca, .int mv, .ref od, .ref pt, .int ct, .int fa, .ref fi, .ref re, .int cs, .ref rc, .ref rs, .ref so, .ref ot, .ref cn, .ref la, .int ce, .ref ro, .int rn])) := qs_self
          refine lv_if_ne (tgt := 52) hx hb dX8_filter_48 (by decide) (fun c => absurd rfl c) (fun _ => ?_)
          exact q_vret C hP hS ⟨2, rfl, ⟨rfl, Or.inr ⟨⟨gg0, gg1, ⟨c16, q32_not c21⟩⟩, rfl⟩⟩⟩ (by omega) dX8_filter_51
    · refine lv_if_eq (tgt := 28) hx hb dX8_filter_12 (by decide) (fun _ => ?_) (fun c => absurd (by decide) c)
      refine lv_iconst (v := 0) hx hb dX8_filter_28 (by decide) ?_
      refine lv_iconst (v := 1) hx hb dX8_filter_29 (by decide) ?_
      have hY0 := hY
      refine q_callV (rest := []) C (c_X8_good0 l D cy N0 (h) y ms mb mw od pt fi re rc rs so ot cn la ro gr cd ca mv ct fa cs ce rn 1 hY) kX8_good g1249 g1251 rfl gp41 g4 hP hS hY (by first | decide | omega) hl.1 rfl (by decide) (by first | decide | omega) dX8_filter_30 (fun q ce E h' H1 locs1 hE => hE.elim) (fun v hh8 H locs hq hP hS => ?_)
      obtain ⟨rfl, rfl⟩ := hq
      replace hR := hR.set8 (o := (.inr (8, [.ref ms, .ref mb, .ref mw, .int gr, .int 1, .int ca, .int mv, .ref od, .ref pt, .int ct, .int fa, .ref fi, .ref re, .int cs, .ref rc, .ref rs, .ref so, .ref ot, .ref cn, .ref la, .int ce, .ref ro, .int rn]))) hY0
      replace hRB := hRB.set8 (o := (.inr (8, [.ref ms, .ref mb, .ref mw, .int gr, .int 1, .int ca, .int mv, .ref od, .ref pt, .int ct, .int fa, .ref fi, .ref re, .int cs, .ref rc, .ref rs, .ref so, .ref ot, .ref cn, .ref la, .int ce, .ref ro, .int rn]))) hY0
      replace hms := (qs_ne (h := h) (a := y) (o := (.inr (8, [.ref ms, .ref mb, .ref mw, .int gr, .int 1, .int ca, .int mv, .ref od, .ref pt, .int ct, .int fa, .ref fi, .ref re, .int cs, .ref rc, .ref rs, .ref so, .ref ot, .ref cn, .ref la, .int ce, .ref ro, .int rn]))) (fun q => by subst q; have := hms.symm.trans hY; first | cases this | simp at this)).trans hms
      replace hmb := (qs_ne (h := h) (a := y) (o := (.inr (8, [.ref ms, .ref mb, .ref mw, .int gr, .int 1, .int ca, .int mv, .ref od, .ref pt, .int ct, .int fa, .ref fi, .ref re, .int cs, .ref rc, .ref rs, .ref so, .ref ot, .ref cn, .ref la, .int ce, .ref ro, .int rn]))) (fun q => by subst q; have := hmb.symm.trans hY; first | cases this | simp at this)).trans hmb
      replace hY : (qs h y (.inr (8, [.ref ms, .ref mb, .ref mw, .int gr, .int 1, .int ca, .int mv, .ref od, .ref pt, .int ct, .int fa, .ref fi, .ref re, .int cs, .ref rc, .ref rs, .ref so, .ref ot, .ref cn, .ref la, .int ce, .ref ro, .int rn]))) y = some (.inr (8, [.ref ms, .ref mb, .ref mw, .int gr, .int 1, .int ca, .int mv, .ref od, .ref pt, .int ct, .int fa, .ref fi, .ref re, .int cs, .ref rc, .ref rs, .ref so, .ref ot, .ref cn, .ref la, .int ce, .ref ro, .int rn])) := qs_self
      refine lv_if_eq (tgt := 51) hx hb dX8_filter_33 (by decide) (fun _ => ?_) (fun c => absurd (by decide) c)
      exact q_vret C hP hS ⟨1, rfl, ⟨rfl, Or.inl ⟨fun g9 => gg1 g9.2.1, rfl⟩⟩⟩ (by omega) dX8_filter_51
  · refine lv_if_eq (tgt := 28) hx hb dX8_filter_5 (by decide) (fun _ => ?_) (fun c => absurd (by decide) c)
    refine lv_iconst (v := 0) hx hb dX8_filter_28 (by decide) ?_
    refine lv_iconst (v := 1) hx hb dX8_filter_29 (by decide) ?_
    have hY0 := hY
    refine q_callV (rest := []) C (c_X8_good0 l D cy N0 (h) y ms mb mw od pt fi re rc rs so ot cn la ro gr cd ca mv ct fa cs ce rn 1 hY) kX8_good g1249 g1251 rfl gp41 g4 hP hS hY (by first | decide | omega) hl.1 rfl (by decide) (by first | decide | omega) dX8_filter_30 (fun q ce E h' H1 locs1 hE => hE.elim) (fun v hh9 H locs hq hP hS => ?_)
    obtain ⟨rfl, rfl⟩ := hq
    replace hR := hR.set8 (o := (.inr (8, [.ref ms, .ref mb, .ref mw, .int gr, .int 1, .int ca, .int mv, .ref od, .ref pt, .int ct, .int fa, .ref fi, .ref re, .int cs, .ref rc, .ref rs, .ref so, .ref ot, .ref cn, .ref la, .int ce, .ref ro, .int rn]))) hY0
    replace hRB := hRB.set8 (o := (.inr (8, [.ref ms, .ref mb, .ref mw, .int gr, .int 1, .int ca, .int mv, .ref od, .ref pt, .int ct, .int fa, .ref fi, .ref re, .int cs, .ref rc, .ref rs, .ref so, .ref ot, .ref cn, .ref la, .int ce, .ref ro, .int rn]))) hY0
    replace hms := (qs_ne (h := h) (a := y) (o := (.inr (8, [.ref ms, .ref mb, .ref mw, .int gr, .int 1, .int ca, .int mv, .ref od, .ref pt, .int ct, .int fa, .ref fi, .ref re, .int cs, .ref rc, .ref rs, .ref so, .ref ot, .ref cn, .ref la, .int ce, .ref ro, .int rn]))) (fun q => by subst q; have := hms.symm.trans hY; first | cases this | simp at this)).trans hms
    replace hmb := (qs_ne (h := h) (a := y) (o := (.inr (8, [.ref ms, .ref mb, .ref mw, .int gr, .int 1, .int ca, .int mv, .ref od, .ref pt, .int ct, .int fa, .ref fi, .ref re, .int cs, .ref rc, .ref rs, .ref so, .ref ot, .ref cn, .ref la, .int ce, .ref ro, .int rn]))) (fun q => by subst q; have := hmb.symm.trans hY; first | cases this | simp at this)).trans hmb
    replace hY : (qs h y (.inr (8, [.ref ms, .ref mb, .ref mw, .int gr, .int 1, .int ca, .int mv, .ref od, .ref pt, .int ct, .int fa, .ref fi, .ref re, .int cs, .ref rc, .ref rs, .ref so, .ref ot, .ref cn, .ref la, .int ce, .ref ro, .int rn]))) y = some (.inr (8, [.ref ms, .ref mb, .ref mw, .int gr, .int 1, .int ca, .int mv, .ref od, .ref pt, .int ct, .int fa, .ref fi, .ref re, .int cs, .ref rc, .ref rs, .ref so, .ref ot, .ref cn, .ref la, .int ce, .ref ro, .int rn])) := qs_self
    refine lv_if_eq (tgt := 51) hx hb dX8_filter_33 (by decide) (fun _ => ?_) (fun c => absurd (by decide) c)
    exact q_vret C hP hS ⟨1, rfl, ⟨rfl, Or.inl ⟨fun g9 => gg0 g9.1, rfl⟩⟩⟩ (by omega) dX8_filter_51

theorem dX8_take_0 : decode cX8_take 0 = .ok (.aload_n 0, 1) := by decide +kernel
theorem dX8_take_1 : decode cX8_take 1 = .ok (.iload_n 1, 1) := by decide +kernel
theorem dX8_take_2 : decode cX8_take 2 = .ok (.invokestatic 96, 3) := by decide +kernel
theorem dX8_take_5 : decode cX8_take 5 = .ok (.ifCond .eq 18, 3) := by decide +kernel
theorem dX8_take_8 : decode cX8_take 8 = .ok (.iload_n 2, 1) := by decide +kernel
theorem dX8_take_9 : decode cX8_take 9 = .ok (.invokestatic 96, 3) := by decide +kernel
theorem dX8_take_12 : decode cX8_take 12 = .ok (.ifCond .eq 11, 3) := by decide +kernel
theorem dX8_take_15 : decode cX8_take 15 = .ok (.iload_n 3, 1) := by decide +kernel
theorem dX8_take_16 : decode cX8_take 16 = .ok (.ifCond .lt 7, 3) := by decide +kernel
theorem dX8_take_19 : decode cX8_take 19 = .ok (.iconst 1, 1) := by decide +kernel
theorem dX8_take_20 : decode cX8_take 20 = .ok (.goto 4, 3) := by decide +kernel
theorem dX8_take_23 : decode cX8_take 23 = .ok (.iconst 0, 1) := by decide +kernel
theorem dX8_take_24 : decode cX8_take 24 = .ok (.iconst 1, 1) := by decide +kernel
theorem dX8_take_25 : decode cX8_take 25 = .ok (.invokevirtual 100, 3) := by decide +kernel
theorem dX8_take_28 : decode cX8_take 28 = .ok (.ifCond .eq 45, 3) := by decide +kernel
theorem dX8_take_31 : decode cX8_take 31 = .ok (.aload_n 0, 1) := by decide +kernel
theorem dX8_take_32 : decode cX8_take 32 = .ok (.aload_n 0, 1) := by decide +kernel
theorem dX8_take_33 : decode cX8_take 33 = .ok (.iload_n 2, 1) := by decide +kernel
theorem dX8_take_34 : decode cX8_take 34 = .ok (.bipush 64, 2) := by decide +kernel
theorem dX8_take_36 : decode cX8_take 36 = .ok (.invokevirtual 108, 3) := by decide +kernel
theorem dX8_take_39 : decode cX8_take 39 = .ok (.iconst 2, 1) := by decide +kernel
theorem dX8_take_40 : decode cX8_take 40 = .ok (.invokevirtual 100, 3) := by decide +kernel
theorem dX8_take_43 : decode cX8_take 43 = .ok (.ifCond .eq 30, 3) := by decide +kernel
theorem dX8_take_73 : decode cX8_take 73 = .ok (.return_, 1) := by decide +kernel
set_option maxRecDepth 100000 in
set_option maxHeartbeats 4000000 in
theorem c_X8_take_0 (l : Launch) (D : va_G) (cy : Nat → ClassId) (N0 : Nat) (h : qH) (y ms mb mw od pt fi re rc rs so ot cn la ro : Nat) (gr cd ca mv ct fa cs ce rn : Int32) (f g : Nat → Option Nat) (p0 : Int32) (p1 : Int32) (p2 : Int32) (hY : h y = some (.inr (8, [.ref ms, .ref mb, .ref mw, .int gr, .int cd, .int ca, .int mv, .ref od, .ref pt, .int ct, .int fa, .ref fi, .ref re, .int cs, .ref rc, .ref rs, .ref so, .ref ot, .ref cn, .ref la, .int ce, .ref ro, .int rn]))) (hms : h ms = some (.inl (cy 5, 24, .inr (.inr (.inr (.inr f)))))) (hmb : h mb = some (.inl (cy 5, 4, .inr (.inr (.inr (.inr g)))))) (hR : qRo h f 24) (hRB : qRo h g 4) : qC l D cy N0 yX8_take cX8_take 4 none 1 60 0 0 [.ref y, .int p0, .int p1, .int p2] h (fun v h' => ∃ cd', h' = qs h y (.inr (8, [.ref ms, .ref mb, .ref mw, .int gr, .int cd', .int ca, .int mv, .ref od, .ref pt, .int ct, .int fa, .ref fi, .ref re, .int cs, .ref rc, .ref rs, .ref so, .ref ot, .ref cn, .ref la, .int ce, .ref ro, .int rn])) ∧ v = none ∧ ((¬ (qSl p0 ∧ qSl p1 ∧ ¬ p2 < 0) ∧ cd' = 1) ∨ ((qSl p0 ∧ qSl p1 ∧ ¬ p2 < 0) ∧ cd' = 2))) (fun E h' => False) := by
  refine q_ofW (by decide) (by exact Nat.le_of_ble_eq_true rfl) ?_
  intro p e s m below meth c ls C hP hl
  have hx := C.1
  have hb := C.2.1
  have hS : va_S (qA N0) s.heap s.heap [] := va_S.rf
  have hl : lv_has ls 4 [(0, .ref y), (1, .int p0), (2, .int p1), (3, .int p2)] := hl
  refine lv_aload_n hx hb dX8_take_0 rfl (lv_at hl 0 rfl) ?_
  refine lv_iload_n hx hb dX8_take_1 rfl (lv_at hl 1 rfl) ?_
  refine q_callS (rest := [.ref y]) C (c_X8_isSlot l D cy N0 (h) p0) kX8_isSlot g1246 g1247 hP hS (by first | decide | omega) hl.1 rfl (by simp [q_catrf, q_cati, q_catl, q_cata, q_catn]) (by first | decide | omega) dX8_take_2 (fun q ce E h' H1 locs1 hE => hE.elim) (fun v hh1 H locs hq hP hS => ?_)
  obtain ⟨rfl, hq⟩ := hq
  rcases hq with ⟨rfl, gg0⟩ | ⟨rfl, gg0⟩
  · refine lv_if_eq (tgt := 23) hx hb dX8_take_5 (by decide) (fun c => absurd c (by decide)) (fun _ => ?_)
    refine lv_iload_n hx hb dX8_take_8 rfl (lv_at hl 2 rfl) ?_
    refine q_callS (rest := [.ref y]) C (c_X8_isSlot l D cy N0 (h) p1) kX8_isSlot g1246 g1247 hP hS (by first | decide | omega) hl.1 rfl (by simp [q_catrf, q_cati, q_catl, q_cata, q_catn]) (by first | decide | omega) dX8_take_9 (fun q ce E h' H1 locs1 hE => hE.elim) (fun v hh2 H locs hq hP hS => ?_)
    obtain ⟨rfl, hq⟩ := hq
    rcases hq with ⟨rfl, gg1⟩ | ⟨rfl, gg1⟩
    · refine lv_if_eq (tgt := 23) hx hb dX8_take_12 (by decide) (fun c => absurd c (by decide)) (fun _ => ?_)
      refine lv_iload_n hx hb dX8_take_15 rfl (lv_at hl 3 rfl) ?_
      refine lv_if_lt (tgt := 23) hx hb dX8_take_16 (by decide) (fun c16 => ?_) (fun c16 => ?_)
      · refine lv_iconst (v := 0) hx hb dX8_take_23 (by decide) ?_
        refine lv_iconst (v := 1) hx hb dX8_take_24 (by decide) ?_
        have hY0 := hY
        refine q_callV (rest := []) C (c_X8_good0 l D cy N0 (h) y ms mb mw od pt fi re rc rs so ot cn la ro gr cd ca mv ct fa cs ce rn 1 hY) kX8_good g1249 g1251 rfl gp41 g4 hP hS hY (by first | decide | omega) hl.1 rfl (by decide) (by first | decide | omega) dX8_take_25 (fun q ce E h' H1 locs1 hE => hE.elim) (fun v hh3 H locs hq hP hS => ?_)
        obtain ⟨rfl, rfl⟩ := hq
        replace hR := hR.set8 (o := (.inr (8, [.ref ms, .ref mb, .ref mw, .int gr, .int 1, .int ca, .int mv, .ref od, .ref pt, .int ct, .int fa, .ref fi, .ref re, .int cs, .ref rc, .ref rs, .ref so, .ref ot, .ref cn, .ref la, .int ce, .ref ro, .int rn]))) hY0
        replace hRB := hRB.set8 (o := (.inr (8, [.ref ms, .ref mb, .ref mw, .int gr, .int 1, .int ca, .int mv, .ref od, .ref pt, .int ct, .int fa, .ref fi, .ref re, .int cs, .ref rc, .ref rs, .ref so, .ref ot, .ref cn, .ref la, .int ce, .ref ro, .int rn]))) hY0
        replace hms := (qs_ne (h := h) (a := y) (o := (.inr (8, [.ref ms, .ref mb, .ref mw, .int gr, .int 1, .int ca, .int mv, .ref od, .ref pt, .int ct, .int fa, .ref fi, .ref re, .int cs, .ref rc, .ref rs, .ref so, .ref ot, .ref cn, .ref la, .int ce, .ref ro, .int rn]))) (fun q => by subst q; have := hms.symm.trans hY; first | cases this | simp at this)).trans hms
        replace hmb := (qs_ne (h := h) (a := y) (o := (.inr (8, [.ref ms, .ref mb, .ref mw, .int gr, .int 1, .int ca, .int mv, .ref od, .ref pt, .int ct, .int fa, .ref fi, .ref re, .int cs, .ref rc, .ref rs, .ref so, .ref ot, .ref cn, .ref la, .int ce, .ref ro, .int rn]))) (fun q => by subst q; have := hmb.symm.trans hY; first | cases this | simp at this)).trans hmb
        replace hY : (qs h y (.inr (8, [.ref ms, .ref mb, .ref mw, .int gr, .int 1, .int ca, .int mv, .ref od, .ref pt, .int ct, .int fa, .ref fi, .ref re, .int cs, .ref rc, .ref rs, .ref so, .ref ot, .ref cn, .ref la, .int ce, .ref ro, .int rn]))) y = some (.inr (8, [.ref ms, .ref mb, .ref mw, .int gr, .int 1, .int ca, .int mv, .ref od, .ref pt, .int ct, .int fa, .ref fi, .ref re, .int cs, .ref rc, .ref rs, .ref so, .ref ot, .ref cn, .ref la, .int ce, .ref ro, .int rn])) := qs_self
        refine lv_if_eq (tgt := 73) hx hb dX8_take_28 (by decide) (fun _ => ?_) (fun c => absurd (by decide) c)
        exact q_vret C hP hS ⟨1, rfl, ⟨rfl, Or.inl ⟨fun g9 => g9.2.2 c16, rfl⟩⟩⟩ (by omega) dX8_take_73
      · refine lv_iconst (v := 1) hx hb dX8_take_19 (by decide) ?_
        refine lv_goto (tgt := 24) hx hb dX8_take_20 (by decide) ?_
        refine lv_iconst (v := 1) hx hb dX8_take_24 (by decide) ?_
        have hY0 := hY
        refine q_callV (rest := []) C (c_X8_good1 l D cy N0 (h) y ms mb mw od pt fi re rc rs so ot cn la ro gr cd ca mv ct fa cs ce rn 1 hY) kX8_good g1249 g1251 rfl gp41 g4 hP hS hY (by first | decide | omega) hl.1 rfl (by decide) (by first | decide | omega) dX8_take_25 (fun q ce E h' H1 locs1 hE => hE.elim) (fun v hh4 H locs hq hP hS => ?_)
        obtain ⟨rfl, rfl⟩ := hq
        replace hR := hR.set8 (o := (.inr (8, [.ref ms, .ref mb, .ref mw, .int gr, .int 0, .int ca, .int mv, .ref od, .ref pt, .int ct, .int fa, .ref fi, .ref re, .int cs, .ref rc, .ref rs, .ref so, .ref ot, .ref cn, .ref la, .int ce, .ref ro, .int rn]))) hY0
        replace hRB := hRB.set8 (o := (.inr (8, [.ref ms, .ref mb, .ref mw, .int gr, .int 0, .int ca, .int mv, .ref od, .ref pt, .int ct, .int fa, .ref fi, .ref re, .int cs, .ref rc, .ref rs, .ref so, .ref ot, .ref cn, .ref la, .int ce, .ref ro, .int rn]))) hY0
        replace hms := (qs_ne (h := h) (a := y) (o := (.inr (8, [.ref ms, .ref mb, .ref mw, .int gr, .int 0, .int ca, .int mv, .ref od, .ref pt, .int ct, .int fa, .ref fi, .ref re, .int cs, .ref rc, .ref rs, .ref so, .ref ot, .ref cn, .ref la, .int ce, .ref ro, .int rn]))) (fun q => by subst q; have := hms.symm.trans hY; first | cases this | simp at this)).trans hms
        replace hmb := (qs_ne (h := h) (a := y) (o := (.inr (8, [.ref ms, .ref mb, .ref mw, .int gr, .int 0, .int ca, .int mv, .ref od, .ref pt, .int ct, .int fa, .ref fi, .ref re, .int cs, .ref rc, .ref rs, .ref so, .ref ot, .ref cn, .ref la, .int ce, .ref ro, .int rn]))) (fun q => by subst q; have := hmb.symm.trans hY; first | cases this | simp at this)).trans hmb
        replace hY : (qs h y (.inr (8, [.ref ms, .ref mb, .ref mw, .int gr, .int 0, .int ca, .int mv, .ref od, .ref pt, .int ct, .int fa, .ref fi, .ref re, .int cs, .ref rc, .ref rs, .ref so, .ref ot, .ref cn, .ref la, .int ce, .ref ro, .int rn]))) y = some (.inr (8, [.ref ms, .ref mb, .ref mw, .int gr, .int 0, .int ca, .int mv, .ref od, .ref pt, .int ct, .int fa, .ref fi, .ref re, .int cs, .ref rc, .ref rs, .ref so, .ref ot, .ref cn, .ref la, .int ce, .ref ro, .int rn])) := qs_self
        refine lv_if_eq (tgt := 73) hx hb dX8_take_28 (by decide) (fun c => absurd c (by decide)) (fun _ => ?_)
        refine lv_aload_n hx hb dX8_take_31 rfl (lv_at hl 0 rfl) ?_
        refine lv_aload_n hx hb dX8_take_32 rfl (lv_at hl 0 rfl) ?_
        refine lv_iload_n hx hb dX8_take_33 rfl (lv_at hl 2 rfl) ?_
        refine lv_bipush (v := 64) hx hb dX8_take_34 (by decide) ?_
        obtain ⟨i1, hi1, ei1⟩ := gg1.of
        subst ei1
        refine q_callV (rest := [.ref y]) C (c_X8_holds_0 l D cy N0 (qs h y (.inr (8, [.ref ms, .ref mb, .ref mw, .int gr, .int 0, .int ca, .int mv, .ref od, .ref pt, .int ct, .int fa, .ref fi, .ref re, .int cs, .ref rc, .ref rs, .ref so, .ref ot, .ref cn, .ref la, .int ce, .ref ro, .int rn]))) y ms mb mw od pt fi re rc rs so ot cn la ro gr 0 ca mv ct fa cs ce rn f g i1 64 hY hms hmb hR hRB hi1) kX8_holds g1264 g1266 rfl gp42 g4 hP hS hY (by first | decide | omega) hl.1 rfl (by simp [q_catrf, q_cati, q_catl, q_cata, q_catn]) (by first | decide | omega) dX8_take_36 (fun q ce E h' H1 locs1 hE => hE.elim) (fun v hh5 H locs hq hP hS => ?_)
        obtain ⟨rfl, rfl⟩ := hq
        refine lv_iconst (v := 2) hx hb dX8_take_39 (by decide) ?_
        have hY0 := hY
        refine q_callV (rest := []) C (c_X8_good0 l D cy N0 (qs h y (.inr (8, [.ref ms, .ref mb, .ref mw, .int gr, .int 0, .int ca, .int mv, .ref od, .ref pt, .int ct, .int fa, .ref fi, .ref re, .int cs, .ref rc, .ref rs, .ref so, .ref ot, .ref cn, .ref la, .int ce, .ref ro, .int rn]))) y ms mb mw od pt fi re rc rs so ot cn la ro gr 0 ca mv ct fa cs ce rn 2 hY) kX8_good g1249 g1251 rfl gp41 g4 hP hS hY (by first | decide | omega) hl.1 rfl (by decide) (by first | decide | omega) dX8_take_40 (fun q ce E h' H1 locs1 hE => hE.elim) (fun v hh6 H locs hq hP hS => ?_)
        obtain ⟨rfl, rfl⟩ := hq
        replace hR := hR.re8 (o' := (.inr (8, [.ref ms, .ref mb, .ref mw, .int gr, .int 2, .int ca, .int mv, .ref od, .ref pt, .int ct, .int fa, .ref fi, .ref re, .int cs, .ref rc, .ref rs, .ref so, .ref ot, .ref cn, .ref la, .int ce, .ref ro, .int rn]))) hY0
        replace hRB := hRB.re8 (o' := (.inr (8, [.ref ms, .ref mb, .ref mw, .int gr, .int 2, .int ca, .int mv, .ref od, .ref pt, .int ct, .int fa, .ref fi, .ref re, .int cs, .ref rc, .ref rs, .ref so, .ref ot, .ref cn, .ref la, .int ce, .ref ro, .int rn]))) hY0
        rw [qs_qs] at hP
        replace hms := qs_re (o' := (.inr (8, [.ref ms, .ref mb, .ref mw, .int gr, .int 2, .int ca, .int mv, .ref od, .ref pt, .int ct, .int fa, .ref fi, .ref re, .int cs, .ref rc, .ref rs, .ref so, .ref ot, .ref cn, .ref la, .int ce, .ref ro, .int rn]))) (fun q => by subst q; have := hms.symm.trans hY; first | cases this | simp at this) hms
        replace hmb := qs_re (o' := (.inr (8, [.ref ms, .ref mb, .ref mw, .int gr, .int 2, .int ca, .int mv, .ref od, .ref pt, .int ct, .int fa, .ref fi, .ref re, .int cs, .ref rc, .ref rs, .ref so, .ref ot, .ref cn, .ref la, .int ce, .ref ro, .int rn]))) (fun q => by subst q; have := hmb.symm.trans hY; first | cases this | simp at this) hmb
        replace hY : (qs h y (.inr (8, [.ref ms, .ref mb, .ref mw, .int gr, .int 2, .int ca, .int mv, .ref od, .ref pt, .int ct, .int fa, .ref fi, .ref re, .int cs, .ref rc, .ref rs, .ref so, .ref ot, .ref cn, .ref la, .int ce, .ref ro, .int rn]))) y = some (.inr (8, [.ref ms, .ref mb, .ref mw, .int gr, .int 2, .int ca, .int mv, .ref od, .ref pt, .int ct, .int fa, .ref fi, .ref re, .int cs, .ref rc, .ref rs, .ref so, .ref ot, .ref cn, .ref la, .int ce, .ref ro, .int rn])) := qs_self
        refine lv_if_eq (tgt := 73) hx hb dX8_take_43 (by decide) (fun _ => ?_) (fun c => absurd (by decide) c)
        exact q_vret C hP hS ⟨2, rfl, ⟨rfl, Or.inr ⟨⟨gg0, gg1, c16⟩, rfl⟩⟩⟩ (by omega) dX8_take_73
    · refine lv_if_eq (tgt := 23) hx hb dX8_take_12 (by decide) (fun _ => ?_) (fun c => absurd (by decide) c)
      refine lv_iconst (v := 0) hx hb dX8_take_23 (by decide) ?_
      refine lv_iconst (v := 1) hx hb dX8_take_24 (by decide) ?_
      have hY0 := hY
      refine q_callV (rest := []) C (c_X8_good0 l D cy N0 (h) y ms mb mw od pt fi re rc rs so ot cn la ro gr cd ca mv ct fa cs ce rn 1 hY) kX8_good g1249 g1251 rfl gp41 g4 hP hS hY (by first | decide | omega) hl.1 rfl (by decide) (by first | decide | omega) dX8_take_25 (fun q ce E h' H1 locs1 hE => hE.elim) (fun v hh7 H locs hq hP hS => ?_)
      obtain ⟨rfl, rfl⟩ := hq
      replace hR := hR.set8 (o := (.inr (8, [.ref ms, .ref mb, .ref mw, .int gr, .int 1, .int ca, .int mv, .ref od, .ref pt, .int ct, .int fa, .ref fi, .ref re, .int cs, .ref rc, .ref rs, .ref so, .ref ot, .ref cn, .ref la, .int ce, .ref ro, .int rn]))) hY0
      replace hRB := hRB.set8 (o := (.inr (8, [.ref ms, .ref mb, .ref mw, .int gr, .int 1, .int ca, .int mv, .ref od, .ref pt, .int ct, .int fa, .ref fi, .ref re, .int cs, .ref rc, .ref rs, .ref so, .ref ot, .ref cn, .ref la, .int ce, .ref ro, .int rn]))) hY0
      replace hms := (qs_ne (h := h) (a := y) (o := (.inr (8, [.ref ms, .ref mb, .ref mw, .int gr, .int 1, .int ca, .int mv, .ref od, .ref pt, .int ct, .int fa, .ref fi, .ref re, .int cs, .ref rc, .ref rs, .ref so, .ref ot, .ref cn, .ref la, .int ce, .ref ro, .int rn]))) (fun q => by subst q; have := hms.symm.trans hY; first | cases this | simp at this)).trans hms
      replace hmb := (qs_ne (h := h) (a := y) (o := (.inr (8, [.ref ms, .ref mb, .ref mw, .int gr, .int 1, .int ca, .int mv, .ref od, .ref pt, .int ct, .int fa, .ref fi, .ref re, .int cs, .ref rc, .ref rs, .ref so, .ref ot, .ref cn, .ref la, .int ce, .ref ro, .int rn]))) (fun q => by subst q; have := hmb.symm.trans hY; first | cases this | simp at this)).trans hmb
      replace hY : (qs h y (.inr (8, [.ref ms, .ref mb, .ref mw, .int gr, .int 1, .int ca, .int mv, .ref od, .ref pt, .int ct, .int fa, .ref fi, .ref re, .int cs, .ref rc, .ref rs, .ref so, .ref ot, .ref cn, .ref la, .int ce, .ref ro, .int rn]))) y = some (.inr (8, [.ref ms, .ref mb, .ref mw, .int gr, .int 1, .int ca, .int mv, .ref od, .ref pt, .int ct, .int fa, .ref fi, .ref re, .int cs, .ref rc, .ref rs, .ref so, .ref ot, .ref cn, .ref la, .int ce, .ref ro, .int rn])) := qs_self
      refine lv_if_eq (tgt := 73) hx hb dX8_take_28 (by decide) (fun _ => ?_) (fun c => absurd (by decide) c)
      exact q_vret C hP hS ⟨1, rfl, ⟨rfl, Or.inl ⟨fun g9 => gg1 g9.2.1, rfl⟩⟩⟩ (by omega) dX8_take_73
  · refine lv_if_eq (tgt := 23) hx hb dX8_take_5 (by decide) (fun _ => ?_) (fun c => absurd (by decide) c)
    refine lv_iconst (v := 0) hx hb dX8_take_23 (by decide) ?_
    refine lv_iconst (v := 1) hx hb dX8_take_24 (by decide) ?_
    have hY0 := hY
    refine q_callV (rest := []) C (c_X8_good0 l D cy N0 (h) y ms mb mw od pt fi re rc rs so ot cn la ro gr cd ca mv ct fa cs ce rn 1 hY) kX8_good g1249 g1251 rfl gp41 g4 hP hS hY (by first | decide | omega) hl.1 rfl (by decide) (by first | decide | omega) dX8_take_25 (fun q ce E h' H1 locs1 hE => hE.elim) (fun v hh8 H locs hq hP hS => ?_)
    obtain ⟨rfl, rfl⟩ := hq
    replace hR := hR.set8 (o := (.inr (8, [.ref ms, .ref mb, .ref mw, .int gr, .int 1, .int ca, .int mv, .ref od, .ref pt, .int ct, .int fa, .ref fi, .ref re, .int cs, .ref rc, .ref rs, .ref so, .ref ot, .ref cn, .ref la, .int ce, .ref ro, .int rn]))) hY0
    replace hRB := hRB.set8 (o := (.inr (8, [.ref ms, .ref mb, .ref mw, .int gr, .int 1, .int ca, .int mv, .ref od, .ref pt, .int ct, .int fa, .ref fi, .ref re, .int cs, .ref rc, .ref rs, .ref so, .ref ot, .ref cn, .ref la, .int ce, .ref ro, .int rn]))) hY0
    replace hms := (qs_ne (h := h) (a := y) (o := (.inr (8, [.ref ms, .ref mb, .ref mw, .int gr, .int 1, .int ca, .int mv, .ref od, .ref pt, .int ct, .int fa, .ref fi, .ref re, .int cs, .ref rc, .ref rs, .ref so, .ref ot, .ref cn, .ref la, .int ce, .ref ro, .int rn]))) (fun q => by subst q; have := hms.symm.trans hY; first | cases this | simp at this)).trans hms
    replace hmb := (qs_ne (h := h) (a := y) (o := (.inr (8, [.ref ms, .ref mb, .ref mw, .int gr, .int 1, .int ca, .int mv, .ref od, .ref pt, .int ct, .int fa, .ref fi, .ref re, .int cs, .ref rc, .ref rs, .ref so, .ref ot, .ref cn, .ref la, .int ce, .ref ro, .int rn]))) (fun q => by subst q; have := hmb.symm.trans hY; first | cases this | simp at this)).trans hmb
    replace hY : (qs h y (.inr (8, [.ref ms, .ref mb, .ref mw, .int gr, .int 1, .int ca, .int mv, .ref od, .ref pt, .int ct, .int fa, .ref fi, .ref re, .int cs, .ref rc, .ref rs, .ref so, .ref ot, .ref cn, .ref la, .int ce, .ref ro, .int rn]))) y = some (.inr (8, [.ref ms, .ref mb, .ref mw, .int gr, .int 1, .int ca, .int mv, .ref od, .ref pt, .int ct, .int fa, .ref fi, .ref re, .int cs, .ref rc, .ref rs, .ref so, .ref ot, .ref cn, .ref la, .int ce, .ref ro, .int rn])) := qs_self
    refine lv_if_eq (tgt := 73) hx hb dX8_take_28 (by decide) (fun _ => ?_) (fun c => absurd (by decide) c)
    exact q_vret C hP hS ⟨1, rfl, ⟨rfl, Or.inl ⟨fun g9 => gg0 g9.1, rfl⟩⟩⟩ (by omega) dX8_take_73

theorem dX8_list_0 : decode cX8_list 0 = .ok (.aload_n 0, 1) := by decide +kernel
theorem dX8_list_1 : decode cX8_list 1 = .ok (.iload_n 1, 1) := by decide +kernel
theorem dX8_list_2 : decode cX8_list 2 = .ok (.invokestatic 96, 3) := by decide +kernel
theorem dX8_list_5 : decode cX8_list 5 = .ok (.ifCond .eq 25, 3) := by decide +kernel
theorem dX8_list_8 : decode cX8_list 8 = .ok (.iload_n 2, 1) := by decide +kernel
theorem dX8_list_9 : decode cX8_list 9 = .ok (.invokestatic 96, 3) := by decide +kernel
theorem dX8_list_12 : decode cX8_list 12 = .ok (.ifCond .eq 18, 3) := by decide +kernel
theorem dX8_list_15 : decode cX8_list 15 = .ok (.iload_n 3, 1) := by decide +kernel
theorem dX8_list_16 : decode cX8_list 16 = .ok (.ifCond .lt 14, 3) := by decide +kernel
theorem dX8_list_19 : decode cX8_list 19 = .ok (.iload_n 3, 1) := by decide +kernel
theorem dX8_list_20 : decode cX8_list 20 = .ok (.sipush 1000, 3) := by decide +kernel
theorem dX8_list_23 : decode cX8_list 23 = .ok (.if_icmp .gt 7, 3) := by decide +kernel
theorem dX8_list_26 : decode cX8_list 26 = .ok (.iconst 1, 1) := by decide +kernel
theorem dX8_list_27 : decode cX8_list 27 = .ok (.goto 4, 3) := by decide +kernel
theorem dX8_list_30 : decode cX8_list 30 = .ok (.iconst 0, 1) := by decide +kernel
theorem dX8_list_31 : decode cX8_list 31 = .ok (.iconst 1, 1) := by decide +kernel
theorem dX8_list_32 : decode cX8_list 32 = .ok (.invokevirtual 100, 3) := by decide +kernel
theorem dX8_list_35 : decode cX8_list 35 = .ok (.ifCond .eq 18, 3) := by decide +kernel
theorem dX8_list_38 : decode cX8_list 38 = .ok (.aload_n 0, 1) := by decide +kernel
theorem dX8_list_39 : decode cX8_list 39 = .ok (.aload_n 0, 1) := by decide +kernel
theorem dX8_list_40 : decode cX8_list 40 = .ok (.iload_n 2, 1) := by decide +kernel
theorem dX8_list_41 : decode cX8_list 41 = .ok (.bipush 64, 2) := by decide +kernel
theorem dX8_list_43 : decode cX8_list 43 = .ok (.invokevirtual 108, 3) := by decide +kernel
theorem dX8_list_46 : decode cX8_list 46 = .ok (.iconst 2, 1) := by decide +kernel
theorem dX8_list_47 : decode cX8_list 47 = .ok (.invokevirtual 100, 3) := by decide +kernel
theorem dX8_list_50 : decode cX8_list 50 = .ok (.ifCond .ne 5, 3) := by decide +kernel
theorem dX8_list_53 : decode cX8_list 53 = .ok (.iconst 0, 1) := by decide +kernel
theorem dX8_list_54 : decode cX8_list 54 = .ok (.ireturn, 1) := by decide +kernel
set_option maxRecDepth 100000 in
set_option maxHeartbeats 4000000 in
theorem c_X8_list_0 (l : Launch) (D : va_G) (cy : Nat → ClassId) (N0 : Nat) (h : qH) (y ms mb mw od pt fi re rc rs so ot cn la ro : Nat) (gr cd ca mv ct fa cs ce rn : Int32) (f g : Nat → Option Nat) (p0 : Int32) (p1 : Int32) (p2 : Int32) (hY : h y = some (.inr (8, [.ref ms, .ref mb, .ref mw, .int gr, .int cd, .int ca, .int mv, .ref od, .ref pt, .int ct, .int fa, .ref fi, .ref re, .int cs, .ref rc, .ref rs, .ref so, .ref ot, .ref cn, .ref la, .int ce, .ref ro, .int rn]))) (hms : h ms = some (.inl (cy 5, 24, .inr (.inr (.inr (.inr f)))))) (hmb : h mb = some (.inl (cy 5, 4, .inr (.inr (.inr (.inr g)))))) (hR : qRo h f 24) (hRB : qRo h g 4) : qC l D cy N0 yX8_list cX8_list 5 (some .int) 1 60 0 0 [.ref y, .int p0, .int p1, .int p2] h (fun v h' => ∃ cd', h' = qs h y (.inr (8, [.ref ms, .ref mb, .ref mw, .int gr, .int cd', .int ca, .int mv, .ref od, .ref pt, .int ct, .int fa, .ref fi, .ref re, .int cs, .ref rc, .ref rs, .ref so, .ref ot, .ref cn, .ref la, .int ce, .ref ro, .int rn])) ∧ v = some (.int 0) ∧ ((¬ (qSl p0 ∧ qSl p1 ∧ qIn p2 1000) ∧ cd' = 1) ∨ ((qSl p0 ∧ qSl p1 ∧ qIn p2 1000) ∧ cd' = 2))) (fun E h' => False) := by
  refine q_ofW (by decide) (by exact Nat.le_of_ble_eq_true rfl) ?_
  intro p e s m below meth c ls C hP hl
  have hx := C.1
  have hb := C.2.1
  have hS : va_S (qA N0) s.heap s.heap [] := va_S.rf
  have hl : lv_has ls 5 [(0, .ref y), (1, .int p0), (2, .int p1), (3, .int p2)] := hl
  refine lv_aload_n hx hb dX8_list_0 rfl (lv_at hl 0 rfl) ?_
  refine lv_iload_n hx hb dX8_list_1 rfl (lv_at hl 1 rfl) ?_
  refine q_callS (rest := [.ref y]) C (c_X8_isSlot l D cy N0 (h) p0) kX8_isSlot g1246 g1247 hP hS (by first | decide | omega) hl.1 rfl (by simp [q_catrf, q_cati, q_catl, q_cata, q_catn]) (by first | decide | omega) dX8_list_2 (fun q ce E h' H1 locs1 hE => hE.elim) (fun v hh1 H locs hq hP hS => ?_)
  obtain ⟨rfl, hq⟩ := hq
  rcases hq with ⟨rfl, gg0⟩ | ⟨rfl, gg0⟩
  · refine lv_if_eq (tgt := 30) hx hb dX8_list_5 (by decide) (fun c => absurd c (by decide)) (fun _ => ?_)
    refine lv_iload_n hx hb dX8_list_8 rfl (lv_at hl 2 rfl) ?_
    refine q_callS (rest := [.ref y]) C (c_X8_isSlot l D cy N0 (h) p1) kX8_isSlot g1246 g1247 hP hS (by first | decide | omega) hl.1 rfl (by simp [q_catrf, q_cati, q_catl, q_cata, q_catn]) (by first | decide | omega) dX8_list_9 (fun q ce E h' H1 locs1 hE => hE.elim) (fun v hh2 H locs hq hP hS => ?_)
    obtain ⟨rfl, hq⟩ := hq
    rcases hq with ⟨rfl, gg1⟩ | ⟨rfl, gg1⟩
    · refine lv_if_eq (tgt := 30) hx hb dX8_list_12 (by decide) (fun c => absurd c (by decide)) (fun _ => ?_)
      refine lv_iload_n hx hb dX8_list_15 rfl (lv_at hl 3 rfl) ?_
      refine lv_if_lt (tgt := 30) hx hb dX8_list_16 (by decide) (fun c16 => ?_) (fun c16 => ?_)
      · refine lv_iconst (v := 0) hx hb dX8_list_30 (by decide) ?_
        refine lv_iconst (v := 1) hx hb dX8_list_31 (by decide) ?_
        have hY0 := hY
        refine q_callV (rest := []) C (c_X8_good0 l D cy N0 (h) y ms mb mw od pt fi re rc rs so ot cn la ro gr cd ca mv ct fa cs ce rn 1 hY) kX8_good g1249 g1251 rfl gp41 g4 hP hS hY (by first | decide | omega) hl.1 rfl (by decide) (by first | decide | omega) dX8_list_32 (fun q ce E h' H1 locs1 hE => hE.elim) (fun v hh3 H locs hq hP hS => ?_)
        obtain ⟨rfl, rfl⟩ := hq
        replace hR := hR.set8 (o := (.inr (8, [.ref ms, .ref mb, .ref mw, .int gr, .int 1, .int ca, .int mv, .ref od, .ref pt, .int ct, .int fa, .ref fi, .ref re, .int cs, .ref rc, .ref rs, .ref so, .ref ot, .ref cn, .ref la, .int ce, .ref ro, .int rn]))) hY0
        replace hRB := hRB.set8 (o := (.inr (8, [.ref ms, .ref mb, .ref mw, .int gr, .int 1, .int ca, .int mv, .ref od, .ref pt, .int ct, .int fa, .ref fi, .ref re, .int cs, .ref rc, .ref rs, .ref so, .ref ot, .ref cn, .ref la, .int ce, .ref ro, .int rn]))) hY0
        replace hms := (qs_ne (h := h) (a := y) (o := (.inr (8, [.ref ms, .ref mb, .ref mw, .int gr, .int 1, .int ca, .int mv, .ref od, .ref pt, .int ct, .int fa, .ref fi, .ref re, .int cs, .ref rc, .ref rs, .ref so, .ref ot, .ref cn, .ref la, .int ce, .ref ro, .int rn]))) (fun q => by subst q; have := hms.symm.trans hY; first | cases this | simp at this)).trans hms
        replace hmb := (qs_ne (h := h) (a := y) (o := (.inr (8, [.ref ms, .ref mb, .ref mw, .int gr, .int 1, .int ca, .int mv, .ref od, .ref pt, .int ct, .int fa, .ref fi, .ref re, .int cs, .ref rc, .ref rs, .ref so, .ref ot, .ref cn, .ref la, .int ce, .ref ro, .int rn]))) (fun q => by subst q; have := hmb.symm.trans hY; first | cases this | simp at this)).trans hmb
        replace hY : (qs h y (.inr (8, [.ref ms, .ref mb, .ref mw, .int gr, .int 1, .int ca, .int mv, .ref od, .ref pt, .int ct, .int fa, .ref fi, .ref re, .int cs, .ref rc, .ref rs, .ref so, .ref ot, .ref cn, .ref la, .int ce, .ref ro, .int rn]))) y = some (.inr (8, [.ref ms, .ref mb, .ref mw, .int gr, .int 1, .int ca, .int mv, .ref od, .ref pt, .int ct, .int fa, .ref fi, .ref re, .int cs, .ref rc, .ref rs, .ref so, .ref ot, .ref cn, .ref la, .int ce, .ref ro, .int rn])) := qs_self
        refine lv_if_eq (tgt := 53) hx hb dX8_list_35 (by decide) (fun _ => ?_) (fun c => absurd (by decide) c)
        refine lv_iconst (v := 0) hx hb dX8_list_53 (by decide) ?_
        exact q_iret C hP hS ⟨1, rfl, ⟨rfl, Or.inl ⟨fun g9 => g9.2.2.1 c16, rfl⟩⟩⟩ (by omega) dX8_list_54
      · refine lv_iload_n hx hb dX8_list_19 rfl (lv_at hl 3 rfl) ?_
        refine lv_sipush (v := 1000) hx hb dX8_list_20 (by decide) ?_
        refine lv_icmp_gt (tgt := 30) hx hb dX8_list_23 (by decide) (fun c23 => ?_) (fun c23 => ?_)
        · refine lv_iconst (v := 0) hx hb dX8_list_30 (by decide) ?_
          refine lv_iconst (v := 1) hx hb dX8_list_31 (by decide) ?_
          have hY0 := hY
          refine q_callV (rest := []) C (c_X8_good0 l D cy N0 (h) y ms mb mw od pt fi re rc rs so ot cn la ro gr cd ca mv ct fa cs ce rn 1 hY) kX8_good g1249 g1251 rfl gp41 g4 hP hS hY (by first | decide | omega) hl.1 rfl (by decide) (by first | decide | omega) dX8_list_32 (fun q ce E h' H1 locs1 hE => hE.elim) (fun v hh4 H locs hq hP hS => ?_)
          obtain ⟨rfl, rfl⟩ := hq
          replace hR := hR.set8 (o := (.inr (8, [.ref ms, .ref mb, .ref mw, .int gr, .int 1, .int ca, .int mv, .ref od, .ref pt, .int ct, .int fa, .ref fi, .ref re, .int cs, .ref rc, .ref rs, .ref so, .ref ot, .ref cn, .ref la, .int ce, .ref ro, .int rn]))) hY0
          replace hRB := hRB.set8 (o := (.inr (8, [.ref ms, .ref mb, .ref mw, .int gr, .int 1, .int ca, .int mv, .ref od, .ref pt, .int ct, .int fa, .ref fi, .ref re, .int cs, .ref rc, .ref rs, .ref so, .ref ot, .ref cn, .ref la, .int ce, .ref ro, .int rn]))) hY0
          replace hms := (qs_ne (h := h) (a := y) (o := (.inr (8, [.ref ms, .ref mb, .ref mw, .int gr, .int 1, .int ca, .int mv, .ref od, .ref pt, .int ct, .int fa, .ref fi, .ref re, .int cs, .ref rc, .ref rs, .ref so, .ref ot, .ref cn, .ref la, .int ce, .ref ro, .int rn]))) (fun q => by subst q; have := hms.symm.trans hY; first | cases this | simp at this)).trans hms
          replace hmb := (qs_ne (h := h) (a := y) (o := (.inr (8, [.ref ms, .ref mb, .ref mw, .int gr, .int 1, .int ca, .int mv, .ref od, .ref pt, .int ct, .int fa, .ref fi, .ref re, .int cs, .ref rc, .ref rs, .ref so, .ref ot, .ref cn, .ref la, .int ce, .ref ro, .int rn]))) (fun q => by subst q; have := hmb.symm.trans hY; first | cases this | simp at this)).trans hmb
          replace hY : (qs h y (.inr (8, [.ref ms, .ref mb, .ref mw, .int gr, .int 1, .int ca, .int mv, .ref od, .ref pt, .int ct, .int fa, .ref fi, .ref re, .int cs, .ref rc, .ref rs, .ref so, .ref ot, .ref cn, .ref la, .int ce, .ref ro, .int rn]))) y = some (.inr (8, [.ref ms, .ref mb, .ref mw, .int gr, .int 1, .int ca, .int mv, .ref od, .ref pt, .int ct, .int fa, .ref fi, .ref re, .int cs, .ref rc, .ref rs, .ref so, .ref ot, .ref cn, .ref la, .int ce, .ref ro, .int rn])) := qs_self
          refine lv_if_eq (tgt := 53) hx hb dX8_list_35 (by decide) (fun _ => ?_) (fun c => absurd (by decide) c)
          refine lv_iconst (v := 0) hx hb dX8_list_53 (by decide) ?_
          exact q_iret C hP hS ⟨1, rfl, ⟨rfl, Or.inl ⟨fun g9 => q32_no c23 g9.2.2.2, rfl⟩⟩⟩ (by omega) dX8_list_54
        · refine lv_iconst (v := 1) hx hb dX8_list_26 (by decide) ?_
          refine lv_goto (tgt := 31) hx hb dX8_list_27 (by decide) ?_
          refine lv_iconst (v := 1) hx hb dX8_list_31 (by decide) ?_
          have hY0 := hY
          refine q_callV (rest := []) C (c_X8_good1 l D cy N0 (h) y ms mb mw od pt fi re rc rs so ot cn la ro gr cd ca mv ct fa cs ce rn 1 hY) kX8_good g1249 g1251 rfl gp41 g4 hP hS hY (by first | decide | omega) hl.1 rfl (by decide) (by first | decide | omega) dX8_list_32 (fun q ce E h' H1 locs1 hE => hE.elim) (fun v hh5 H locs hq hP hS => ?_)
          obtain ⟨rfl, rfl⟩ := hq
          replace hR := hR.set8 (o := (.inr (8, [.ref ms, .ref mb, .ref mw, .int gr, .int 0, .int ca, .int mv, .ref od, .ref pt, .int ct, .int fa, .ref fi, .ref re, .int cs, .ref rc, .ref rs, .ref so, .ref ot, .ref cn, .ref la, .int ce, .ref ro, .int rn]))) hY0
          replace hRB := hRB.set8 (o := (.inr (8, [.ref ms, .ref mb, .ref mw, .int gr, .int 0, .int ca, .int mv, .ref od, .ref pt, .int ct, .int fa, .ref fi, .ref re, .int cs, .ref rc, .ref rs, .ref so, .ref ot, .ref cn, .ref la, .int ce, .ref ro, .int rn]))) hY0
          replace hms := (qs_ne (h := h) (a := y) (o := (.inr (8, [.ref ms, .ref mb, .ref mw, .int gr, .int 0, .int ca, .int mv, .ref od, .ref pt, .int ct, .int fa, .ref fi, .ref re, .int cs, .ref rc, .ref rs, .ref so, .ref ot, .ref cn, .ref la, .int ce, .ref ro, .int rn]))) (fun q => by subst q; have := hms.symm.trans hY; first | cases this | simp at this)).trans hms
          replace hmb := (qs_ne (h := h) (a := y) (o := (.inr (8, [.ref ms, .ref mb, .ref mw, .int gr, .int 0, .int ca, .int mv, .ref od, .ref pt, .int ct, .int fa, .ref fi, .ref re, .int cs, .ref rc, .ref rs, .ref so, .ref ot, .ref cn, .ref la, .int ce, .ref ro, .int rn]))) (fun q => by subst q; have := hmb.symm.trans hY; first | cases this | simp at this)).trans hmb
          replace hY : (qs h y (.inr (8, [.ref ms, .ref mb, .ref mw, .int gr, .int 0, .int ca, .int mv, .ref od, .ref pt, .int ct, .int fa, .ref fi, .ref re, .int cs, .ref rc, .ref rs, .ref so, .ref ot, .ref cn, .ref la, .int ce, .ref ro, .int rn]))) y = some (.inr (8, [.ref ms, .ref mb, .ref mw, .int gr, .int 0, .int ca, .int mv, .ref od, .ref pt, .int ct, .int fa, .ref fi, .ref re, .int cs, .ref rc, .ref rs, .ref so, .ref ot, .ref cn, .ref la, .int ce, .ref ro, .int rn])) := qs_self
          refine lv_if_eq (tgt := 53) hx hb dX8_list_35 (by decide) (fun c => absurd c (by decide)) (fun _ => ?_)
          refine lv_aload_n hx hb dX8_list_38 rfl (lv_at hl 0 rfl) ?_
          refine lv_aload_n hx hb dX8_list_39 rfl (lv_at hl 0 rfl) ?_
          refine lv_iload_n hx hb dX8_list_40 rfl (lv_at hl 2 rfl) ?_
          refine lv_bipush (v := 64) hx hb dX8_list_41 (by decide) ?_
          obtain ⟨i1, hi1, ei1⟩ := gg1.of
          subst ei1
          refine q_callV (rest := [.ref y]) C (c_X8_holds_0 l D cy N0 (qs h y (.inr (8, [.ref ms, .ref mb, .ref mw, .int gr, .int 0, .int ca, .int mv, .ref od, .ref pt, .int ct, .int fa, .ref fi, .ref re, .int cs, .ref rc, .ref rs, .ref so, .ref ot, .ref cn, .ref la, .int ce, .ref ro, .int rn]))) y ms mb mw od pt fi re rc rs so ot cn la ro gr 0 ca mv ct fa cs ce rn f g i1 64 hY hms hmb hR hRB hi1) kX8_holds g1264 g1266 rfl gp42 g4 hP hS hY (by first | decide | omega) hl.1 rfl (by simp [q_catrf, q_cati, q_catl, q_cata, q_catn]) (by first | decide | omega) dX8_list_43 (fun q ce E h' H1 locs1 hE => hE.elim) (fun v hh6 H locs hq hP hS => ?_)
          obtain ⟨rfl, rfl⟩ := hq
          refine lv_iconst (v := 2) hx hb dX8_list_46 (by decide) ?_
          have hY0 := hY
          refine q_callV (rest := []) C (c_X8_good0 l D cy N0 (qs h y (.inr (8, [.ref ms, .ref mb, .ref mw, .int gr, .int 0, .int ca, .int mv, .ref od, .ref pt, .int ct, .int fa, .ref fi, .ref re, .int cs, .ref rc, .ref rs, .ref so, .ref ot, .ref cn, .ref la, .int ce, .ref ro, .int rn]))) y ms mb mw od pt fi re rc rs so ot cn la ro gr 0 ca mv ct fa cs ce rn 2 hY) kX8_good g1249 g1251 rfl gp41 g4 hP hS hY (by first | decide | omega) hl.1 rfl (by decide) (by first | decide | omega) dX8_list_47 (fun q ce E h' H1 locs1 hE => hE.elim) (fun v hh7 H locs hq hP hS => ?_)
          obtain ⟨rfl, rfl⟩ := hq
          replace hR := hR.re8 (o' := (.inr (8, [.ref ms, .ref mb, .ref mw, .int gr, .int 2, .int ca, .int mv, .ref od, .ref pt, .int ct, .int fa, .ref fi, .ref re, .int cs, .ref rc, .ref rs, .ref so, .ref ot, .ref cn, .ref la, .int ce, .ref ro, .int rn]))) hY0
          replace hRB := hRB.re8 (o' := (.inr (8, [.ref ms, .ref mb, .ref mw, .int gr, .int 2, .int ca, .int mv, .ref od, .ref pt, .int ct, .int fa, .ref fi, .ref re, .int cs, .ref rc, .ref rs, .ref so, .ref ot, .ref cn, .ref la, .int ce, .ref ro, .int rn]))) hY0
          rw [qs_qs] at hP
          replace hms := qs_re (o' := (.inr (8, [.ref ms, .ref mb, .ref mw, .int gr, .int 2, .int ca, .int mv, .ref od, .ref pt, .int ct, .int fa, .ref fi, .ref re, .int cs, .ref rc, .ref rs, .ref so, .ref ot, .ref cn, .ref la, .int ce, .ref ro, .int rn]))) (fun q => by subst q; have := hms.symm.trans hY; first | cases this | simp at this) hms
          replace hmb := qs_re (o' := (.inr (8, [.ref ms, .ref mb, .ref mw, .int gr, .int 2, .int ca, .int mv, .ref od, .ref pt, .int ct, .int fa, .ref fi, .ref re, .int cs, .ref rc, .ref rs, .ref so, .ref ot, .ref cn, .ref la, .int ce, .ref ro, .int rn]))) (fun q => by subst q; have := hmb.symm.trans hY; first | cases this | simp at this) hmb
          replace hY : (qs h y (.inr (8, [.ref ms, .ref mb, .ref mw, .int gr, .int 2, .int ca, .int mv, .ref od, .ref pt, .int ct, .int fa, .ref fi, .ref re, .int cs, .ref rc, .ref rs, .ref so, .ref ot, .ref cn, .ref la, .int ce, .ref ro, .int rn]))) y = some (.inr (8, [.ref ms, .ref mb, .ref mw, .int gr, .int 2, .int ca, .int mv, .ref od, .ref pt, .int ct, .int fa, .ref fi, .ref re, .int cs, .ref rc, .ref rs, .ref so, .ref ot, .ref cn, .ref la, .int ce, .ref ro, .int rn])) := qs_self
          refine lv_if_ne (tgt := 55) hx hb dX8_list_50 (by decide) (fun c => absurd rfl c) (fun _ => ?_)
          refine lv_iconst (v := 0) hx hb dX8_list_53 (by decide) ?_
          exact q_iret C hP hS ⟨2, rfl, ⟨rfl, Or.inr ⟨⟨gg0, gg1, ⟨c16, q32_not c23⟩⟩, rfl⟩⟩⟩ (by omega) dX8_list_54
    · refine lv_if_eq (tgt := 30) hx hb dX8_list_12 (by decide) (fun _ => ?_) (fun c => absurd (by decide) c)
      refine lv_iconst (v := 0) hx hb dX8_list_30 (by decide) ?_
      refine lv_iconst (v := 1) hx hb dX8_list_31 (by decide) ?_
      have hY0 := hY
      refine q_callV (rest := []) C (c_X8_good0 l D cy N0 (h) y ms mb mw od pt fi re rc rs so ot cn la ro gr cd ca mv ct fa cs ce rn 1 hY) kX8_good g1249 g1251 rfl gp41 g4 hP hS hY (by first | decide | omega) hl.1 rfl (by decide) (by first | decide | omega) dX8_list_32 (fun q ce E h' H1 locs1 hE => hE.elim) (fun v hh8 H locs hq hP hS => ?_)
      obtain ⟨rfl, rfl⟩ := hq
      replace hR := hR.set8 (o := (.inr (8, [.ref ms, .ref mb, .ref mw, .int gr, .int 1, .int ca, .int mv, .ref od, .ref pt, .int ct, .int fa, .ref fi, .ref re, .int cs, .ref rc, .ref rs, .ref so, .ref ot, .ref cn, .ref la, .int ce, .ref ro, .int rn]))) hY0
      replace hRB := hRB.set8 (o := (.inr (8, [.ref ms, .ref mb, .ref mw, .int gr, .int 1, .int ca, .int mv, .ref od, .ref pt, .int ct, .int fa, .ref fi, .ref re, .int cs, .ref rc, .ref rs, .ref so, .ref ot, .ref cn, .ref la, .int ce, .ref ro, .int rn]))) hY0
      replace hms := (qs_ne (h := h) (a := y) (o := (.inr (8, [.ref ms, .ref mb, .ref mw, .int gr, .int 1, .int ca, .int mv, .ref od, .ref pt, .int ct, .int fa, .ref fi, .ref re, .int cs, .ref rc, .ref rs, .ref so, .ref ot, .ref cn, .ref la, .int ce, .ref ro, .int rn]))) (fun q => by subst q; have := hms.symm.trans hY; first | cases this | simp at this)).trans hms
      replace hmb := (qs_ne (h := h) (a := y) (o := (.inr (8, [.ref ms, .ref mb, .ref mw, .int gr, .int 1, .int ca, .int mv, .ref od, .ref pt, .int ct, .int fa, .ref fi, .ref re, .int cs, .ref rc, .ref rs, .ref so, .ref ot, .ref cn, .ref la, .int ce, .ref ro, .int rn]))) (fun q => by subst q; have := hmb.symm.trans hY; first | cases this | simp at this)).trans hmb
      replace hY : (qs h y (.inr (8, [.ref ms, .ref mb, .ref mw, .int gr, .int 1, .int ca, .int mv, .ref od, .ref pt, .int ct, .int fa, .ref fi, .ref re, .int cs, .ref rc, .ref rs, .ref so, .ref ot, .ref cn, .ref la, .int ce, .ref ro, .int rn]))) y = some (.inr (8, [.ref ms, .ref mb, .ref mw, .int gr, .int 1, .int ca, .int mv, .ref od, .ref pt, .int ct, .int fa, .ref fi, .ref re, .int cs, .ref rc, .ref rs, .ref so, .ref ot, .ref cn, .ref la, .int ce, .ref ro, .int rn])) := qs_self
      refine lv_if_eq (tgt := 53) hx hb dX8_list_35 (by decide) (fun _ => ?_) (fun c => absurd (by decide) c)
      refine lv_iconst (v := 0) hx hb dX8_list_53 (by decide) ?_
      exact q_iret C hP hS ⟨1, rfl, ⟨rfl, Or.inl ⟨fun g9 => gg1 g9.2.1, rfl⟩⟩⟩ (by omega) dX8_list_54
  · refine lv_if_eq (tgt := 30) hx hb dX8_list_5 (by decide) (fun _ => ?_) (fun c => absurd (by decide) c)
    refine lv_iconst (v := 0) hx hb dX8_list_30 (by decide) ?_
    refine lv_iconst (v := 1) hx hb dX8_list_31 (by decide) ?_
    have hY0 := hY
    refine q_callV (rest := []) C (c_X8_good0 l D cy N0 (h) y ms mb mw od pt fi re rc rs so ot cn la ro gr cd ca mv ct fa cs ce rn 1 hY) kX8_good g1249 g1251 rfl gp41 g4 hP hS hY (by first | decide | omega) hl.1 rfl (by decide) (by first | decide | omega) dX8_list_32 (fun q ce E h' H1 locs1 hE => hE.elim) (fun v hh9 H locs hq hP hS => ?_)
    obtain ⟨rfl, rfl⟩ := hq
    replace hR := hR.set8 (o := (.inr (8, [.ref ms, .ref mb, .ref mw, .int gr, .int 1, .int ca, .int mv, .ref od, .ref pt, .int ct, .int fa, .ref fi, .ref re, .int cs, .ref rc, .ref rs, .ref so, .ref ot, .ref cn, .ref la, .int ce, .ref ro, .int rn]))) hY0
    replace hRB := hRB.set8 (o := (.inr (8, [.ref ms, .ref mb, .ref mw, .int gr, .int 1, .int ca, .int mv, .ref od, .ref pt, .int ct, .int fa, .ref fi, .ref re, .int cs, .ref rc, .ref rs, .ref so, .ref ot, .ref cn, .ref la, .int ce, .ref ro, .int rn]))) hY0
    replace hms := (qs_ne (h := h) (a := y) (o := (.inr (8, [.ref ms, .ref mb, .ref mw, .int gr, .int 1, .int ca, .int mv, .ref od, .ref pt, .int ct, .int fa, .ref fi, .ref re, .int cs, .ref rc, .ref rs, .ref so, .ref ot, .ref cn, .ref la, .int ce, .ref ro, .int rn]))) (fun q => by subst q; have := hms.symm.trans hY; first | cases this | simp at this)).trans hms
    replace hmb := (qs_ne (h := h) (a := y) (o := (.inr (8, [.ref ms, .ref mb, .ref mw, .int gr, .int 1, .int ca, .int mv, .ref od, .ref pt, .int ct, .int fa, .ref fi, .ref re, .int cs, .ref rc, .ref rs, .ref so, .ref ot, .ref cn, .ref la, .int ce, .ref ro, .int rn]))) (fun q => by subst q; have := hmb.symm.trans hY; first | cases this | simp at this)).trans hmb
    replace hY : (qs h y (.inr (8, [.ref ms, .ref mb, .ref mw, .int gr, .int 1, .int ca, .int mv, .ref od, .ref pt, .int ct, .int fa, .ref fi, .ref re, .int cs, .ref rc, .ref rs, .ref so, .ref ot, .ref cn, .ref la, .int ce, .ref ro, .int rn]))) y = some (.inr (8, [.ref ms, .ref mb, .ref mw, .int gr, .int 1, .int ca, .int mv, .ref od, .ref pt, .int ct, .int fa, .ref fi, .ref re, .int cs, .ref rc, .ref rs, .ref so, .ref ot, .ref cn, .ref la, .int ce, .ref ro, .int rn])) := qs_self
    refine lv_if_eq (tgt := 53) hx hb dX8_list_35 (by decide) (fun _ => ?_) (fun c => absurd (by decide) c)
    refine lv_iconst (v := 0) hx hb dX8_list_53 (by decide) ?_
    exact q_iret C hP hS ⟨1, rfl, ⟨rfl, Or.inl ⟨fun g9 => gg0 g9.1, rfl⟩⟩⟩ (by omega) dX8_list_54

theorem dX8_turn_0 : decode cX8_turn 0 = .ok (.aload_n 0, 1) := by decide +kernel
theorem dX8_turn_1 : decode cX8_turn 1 = .ok (.iload_n 1, 1) := by decide +kernel
theorem dX8_turn_2 : decode cX8_turn 2 = .ok (.invokestatic 96, 3) := by decide +kernel
theorem dX8_turn_5 : decode cX8_turn 5 = .ok (.ifCond .eq 14, 3) := by decide +kernel
theorem dX8_turn_8 : decode cX8_turn 8 = .ok (.iload_n 2, 1) := by decide +kernel
theorem dX8_turn_9 : decode cX8_turn 9 = .ok (.invokestatic 96, 3) := by decide +kernel
theorem dX8_turn_12 : decode cX8_turn 12 = .ok (.ifCond .eq 7, 3) := by decide +kernel
theorem dX8_turn_15 : decode cX8_turn 15 = .ok (.iconst 1, 1) := by decide +kernel
theorem dX8_turn_16 : decode cX8_turn 16 = .ok (.goto 4, 3) := by decide +kernel
theorem dX8_turn_19 : decode cX8_turn 19 = .ok (.iconst 0, 1) := by decide +kernel
theorem dX8_turn_20 : decode cX8_turn 20 = .ok (.iconst 1, 1) := by decide +kernel
theorem dX8_turn_21 : decode cX8_turn 21 = .ok (.invokevirtual 100, 3) := by decide +kernel
theorem dX8_turn_24 : decode cX8_turn 24 = .ok (.ifCond .eq 18, 3) := by decide +kernel
theorem dX8_turn_27 : decode cX8_turn 27 = .ok (.aload_n 0, 1) := by decide +kernel
theorem dX8_turn_28 : decode cX8_turn 28 = .ok (.aload_n 0, 1) := by decide +kernel
theorem dX8_turn_29 : decode cX8_turn 29 = .ok (.iload_n 2, 1) := by decide +kernel
theorem dX8_turn_30 : decode cX8_turn 30 = .ok (.bipush 15, 2) := by decide +kernel
theorem dX8_turn_32 : decode cX8_turn 32 = .ok (.invokevirtual 108, 3) := by decide +kernel
theorem dX8_turn_35 : decode cX8_turn 35 = .ok (.iconst 2, 1) := by decide +kernel
theorem dX8_turn_36 : decode cX8_turn 36 = .ok (.invokevirtual 100, 3) := by decide +kernel
theorem dX8_turn_39 : decode cX8_turn 39 = .ok (.ifCond .ne 4, 3) := by decide +kernel
theorem dX8_turn_42 : decode cX8_turn 42 = .ok (.return_, 1) := by decide +kernel
set_option maxRecDepth 100000 in
set_option maxHeartbeats 4000000 in
theorem c_X8_turn_0 (l : Launch) (D : va_G) (cy : Nat → ClassId) (N0 : Nat) (h : qH) (y ms mb mw od pt fi re rc rs so ot cn la ro : Nat) (gr cd ca mv ct fa cs ce rn : Int32) (f g : Nat → Option Nat) (p0 : Int32) (p1 : Int32) (hY : h y = some (.inr (8, [.ref ms, .ref mb, .ref mw, .int gr, .int cd, .int ca, .int mv, .ref od, .ref pt, .int ct, .int fa, .ref fi, .ref re, .int cs, .ref rc, .ref rs, .ref so, .ref ot, .ref cn, .ref la, .int ce, .ref ro, .int rn]))) (hms : h ms = some (.inl (cy 5, 24, .inr (.inr (.inr (.inr f)))))) (hmb : h mb = some (.inl (cy 5, 4, .inr (.inr (.inr (.inr g)))))) (hR : qRo h f 24) (hRB : qRo h g 4) : qC l D cy N0 yX8_turn cX8_turn 7 none 1 60 0 0 [.ref y, .int p0, .int p1] h (fun v h' => ∃ cd', h' = qs h y (.inr (8, [.ref ms, .ref mb, .ref mw, .int gr, .int cd', .int ca, .int mv, .ref od, .ref pt, .int ct, .int fa, .ref fi, .ref re, .int cs, .ref rc, .ref rs, .ref so, .ref ot, .ref cn, .ref la, .int ce, .ref ro, .int rn])) ∧ v = none ∧ ((¬ (qSl p0 ∧ qSl p1) ∧ cd' = 1) ∨ ((qSl p0 ∧ qSl p1) ∧ cd' = 2))) (fun E h' => False) := by
  refine q_ofW (by decide) (by exact Nat.le_of_ble_eq_true rfl) ?_
  intro p e s m below meth c ls C hP hl
  have hx := C.1
  have hb := C.2.1
  have hS : va_S (qA N0) s.heap s.heap [] := va_S.rf
  have hl : lv_has ls 7 [(0, .ref y), (1, .int p0), (2, .int p1)] := hl
  refine lv_aload_n hx hb dX8_turn_0 rfl (lv_at hl 0 rfl) ?_
  refine lv_iload_n hx hb dX8_turn_1 rfl (lv_at hl 1 rfl) ?_
  refine q_callS (rest := [.ref y]) C (c_X8_isSlot l D cy N0 (h) p0) kX8_isSlot g1246 g1247 hP hS (by first | decide | omega) hl.1 rfl (by simp [q_catrf, q_cati, q_catl, q_cata, q_catn]) (by first | decide | omega) dX8_turn_2 (fun q ce E h' H1 locs1 hE => hE.elim) (fun v hh1 H locs hq hP hS => ?_)
  obtain ⟨rfl, hq⟩ := hq
  rcases hq with ⟨rfl, gg0⟩ | ⟨rfl, gg0⟩
  · refine lv_if_eq (tgt := 19) hx hb dX8_turn_5 (by decide) (fun c => absurd c (by decide)) (fun _ => ?_)
    refine lv_iload_n hx hb dX8_turn_8 rfl (lv_at hl 2 rfl) ?_
    refine q_callS (rest := [.ref y]) C (c_X8_isSlot l D cy N0 (h) p1) kX8_isSlot g1246 g1247 hP hS (by first | decide | omega) hl.1 rfl (by simp [q_catrf, q_cati, q_catl, q_cata, q_catn]) (by first | decide | omega) dX8_turn_9 (fun q ce E h' H1 locs1 hE => hE.elim) (fun v hh2 H locs hq hP hS => ?_)
    obtain ⟨rfl, hq⟩ := hq
    rcases hq with ⟨rfl, gg1⟩ | ⟨rfl, gg1⟩
    · refine lv_if_eq (tgt := 19) hx hb dX8_turn_12 (by decide) (fun c => absurd c (by decide)) (fun _ => ?_)
      refine lv_iconst (v := 1) hx hb dX8_turn_15 (by decide) ?_
      refine lv_goto (tgt := 20) hx hb dX8_turn_16 (by decide) ?_
      refine lv_iconst (v := 1) hx hb dX8_turn_20 (by decide) ?_
      have hY0 := hY
      refine q_callV (rest := []) C (c_X8_good1 l D cy N0 (h) y ms mb mw od pt fi re rc rs so ot cn la ro gr cd ca mv ct fa cs ce rn 1 hY) kX8_good g1249 g1251 rfl gp41 g4 hP hS hY (by first | decide | omega) hl.1 rfl (by decide) (by first | decide | omega) dX8_turn_21 (fun q ce E h' H1 locs1 hE => hE.elim) (fun v hh3 H locs hq hP hS => ?_)
      obtain ⟨rfl, rfl⟩ := hq
      replace hR := hR.set8 (o := (.inr (8, [.ref ms, .ref mb, .ref mw, .int gr, .int 0, .int ca, .int mv, .ref od, .ref pt, .int ct, .int fa, .ref fi, .ref re, .int cs, .ref rc, .ref rs, .ref so, .ref ot, .ref cn, .ref la, .int ce, .ref ro, .int rn]))) hY0
      replace hRB := hRB.set8 (o := (.inr (8, [.ref ms, .ref mb, .ref mw, .int gr, .int 0, .int ca, .int mv, .ref od, .ref pt, .int ct, .int fa, .ref fi, .ref re, .int cs, .ref rc, .ref rs, .ref so, .ref ot, .ref cn, .ref la, .int ce, .ref ro, .int rn]))) hY0
      replace hms := (qs_ne (h := h) (a := y) (o := (.inr (8, [.ref ms, .ref mb, .ref mw, .int gr, .int 0, .int ca, .int mv, .ref od, .ref pt, .int ct, .int fa, .ref fi, .ref re, .int cs, .ref rc, .ref rs, .ref so, .ref ot, .ref cn, .ref la, .int ce, .ref ro, .int rn]))) (fun q => by subst q; have := hms.symm.trans hY; first | cases this | simp at this)).trans hms
      replace hmb := (qs_ne (h := h) (a := y) (o := (.inr (8, [.ref ms, .ref mb, .ref mw, .int gr, .int 0, .int ca, .int mv, .ref od, .ref pt, .int ct, .int fa, .ref fi, .ref re, .int cs, .ref rc, .ref rs, .ref so, .ref ot, .ref cn, .ref la, .int ce, .ref ro, .int rn]))) (fun q => by subst q; have := hmb.symm.trans hY; first | cases this | simp at this)).trans hmb
      replace hY : (qs h y (.inr (8, [.ref ms, .ref mb, .ref mw, .int gr, .int 0, .int ca, .int mv, .ref od, .ref pt, .int ct, .int fa, .ref fi, .ref re, .int cs, .ref rc, .ref rs, .ref so, .ref ot, .ref cn, .ref la, .int ce, .ref ro, .int rn]))) y = some (.inr (8, [.ref ms, .ref mb, .ref mw, .int gr, .int 0, .int ca, .int mv, .ref od, .ref pt, .int ct, .int fa, .ref fi, .ref re, .int cs, .ref rc, .ref rs, .ref so, .ref ot, .ref cn, .ref la, .int ce, .ref ro, .int rn])) := qs_self
      refine lv_if_eq (tgt := 42) hx hb dX8_turn_24 (by decide) (fun c => absurd c (by decide)) (fun _ => ?_)
      refine lv_aload_n hx hb dX8_turn_27 rfl (lv_at hl 0 rfl) ?_
      refine lv_aload_n hx hb dX8_turn_28 rfl (lv_at hl 0 rfl) ?_
      refine lv_iload_n hx hb dX8_turn_29 rfl (lv_at hl 2 rfl) ?_
      refine lv_bipush (v := 15) hx hb dX8_turn_30 (by decide) ?_
      obtain ⟨i1, hi1, ei1⟩ := gg1.of
      subst ei1
      refine q_callV (rest := [.ref y]) C (c_X8_holds_0 l D cy N0 (qs h y (.inr (8, [.ref ms, .ref mb, .ref mw, .int gr, .int 0, .int ca, .int mv, .ref od, .ref pt, .int ct, .int fa, .ref fi, .ref re, .int cs, .ref rc, .ref rs, .ref so, .ref ot, .ref cn, .ref la, .int ce, .ref ro, .int rn]))) y ms mb mw od pt fi re rc rs so ot cn la ro gr 0 ca mv ct fa cs ce rn f g i1 15 hY hms hmb hR hRB hi1) kX8_holds g1264 g1266 rfl gp42 g4 hP hS hY (by first | decide | omega) hl.1 rfl (by simp [q_catrf, q_cati, q_catl, q_cata, q_catn]) (by first | decide | omega) dX8_turn_32 (fun q ce E h' H1 locs1 hE => hE.elim) (fun v hh4 H locs hq hP hS => ?_)
      obtain ⟨rfl, rfl⟩ := hq
      refine lv_iconst (v := 2) hx hb dX8_turn_35 (by decide) ?_
      have hY0 := hY
      refine q_callV (rest := []) C (c_X8_good0 l D cy N0 (qs h y (.inr (8, [.ref ms, .ref mb, .ref mw, .int gr, .int 0, .int ca, .int mv, .ref od, .ref pt, .int ct, .int fa, .ref fi, .ref re, .int cs, .ref rc, .ref rs, .ref so, .ref ot, .ref cn, .ref la, .int ce, .ref ro, .int rn]))) y ms mb mw od pt fi re rc rs so ot cn la ro gr 0 ca mv ct fa cs ce rn 2 hY) kX8_good g1249 g1251 rfl gp41 g4 hP hS hY (by first | decide | omega) hl.1 rfl (by decide) (by first | decide | omega) dX8_turn_36 (fun q ce E h' H1 locs1 hE => hE.elim) (fun v hh5 H locs hq hP hS => ?_)
      obtain ⟨rfl, rfl⟩ := hq
      replace hR := hR.re8 (o' := (.inr (8, [.ref ms, .ref mb, .ref mw, .int gr, .int 2, .int ca, .int mv, .ref od, .ref pt, .int ct, .int fa, .ref fi, .ref re, .int cs, .ref rc, .ref rs, .ref so, .ref ot, .ref cn, .ref la, .int ce, .ref ro, .int rn]))) hY0
      replace hRB := hRB.re8 (o' := (.inr (8, [.ref ms, .ref mb, .ref mw, .int gr, .int 2, .int ca, .int mv, .ref od, .ref pt, .int ct, .int fa, .ref fi, .ref re, .int cs, .ref rc, .ref rs, .ref so, .ref ot, .ref cn, .ref la, .int ce, .ref ro, .int rn]))) hY0
      rw [qs_qs] at hP
      replace hms := qs_re (o' := (.inr (8, [.ref ms, .ref mb, .ref mw, .int gr, .int 2, .int ca, .int mv, .ref od, .ref pt, .int ct, .int fa, .ref fi, .ref re, .int cs, .ref rc, .ref rs, .ref so, .ref ot, .ref cn, .ref la, .int ce, .ref ro, .int rn]))) (fun q => by subst q; have := hms.symm.trans hY; first | cases this | simp at this) hms
      replace hmb := qs_re (o' := (.inr (8, [.ref ms, .ref mb, .ref mw, .int gr, .int 2, .int ca, .int mv, .ref od, .ref pt, .int ct, .int fa, .ref fi, .ref re, .int cs, .ref rc, .ref rs, .ref so, .ref ot, .ref cn, .ref la, .int ce, .ref ro, .int rn]))) (fun q => by subst q; have := hmb.symm.trans hY; first | cases this | simp at this) hmb
      replace hY : (qs h y (.inr (8, [.ref ms, .ref mb, .ref mw, .int gr, .int 2, .int ca, .int mv, .ref od, .ref pt, .int ct, .int fa, .ref fi, .ref re, .int cs, .ref rc, .ref rs, .ref so, .ref ot, .ref cn, .ref la, .int ce, .ref ro, .int rn]))) y = some (.inr (8, [.ref ms, .ref mb, .ref mw, .int gr, .int 2, .int ca, .int mv, .ref od, .ref pt, .int ct, .int fa, .ref fi, .ref re, .int cs, .ref rc, .ref rs, .ref so, .ref ot, .ref cn, .ref la, .int ce, .ref ro, .int rn])) := qs_self
      refine lv_if_ne (tgt := 43) hx hb dX8_turn_39 (by decide) (fun c => absurd rfl c) (fun _ => ?_)
      exact q_vret C hP hS ⟨2, rfl, ⟨rfl, Or.inr ⟨⟨gg0, gg1⟩, rfl⟩⟩⟩ (by omega) dX8_turn_42
    · refine lv_if_eq (tgt := 19) hx hb dX8_turn_12 (by decide) (fun _ => ?_) (fun c => absurd (by decide) c)
      refine lv_iconst (v := 0) hx hb dX8_turn_19 (by decide) ?_
      refine lv_iconst (v := 1) hx hb dX8_turn_20 (by decide) ?_
      have hY0 := hY
      refine q_callV (rest := []) C (c_X8_good0 l D cy N0 (h) y ms mb mw od pt fi re rc rs so ot cn la ro gr cd ca mv ct fa cs ce rn 1 hY) kX8_good g1249 g1251 rfl gp41 g4 hP hS hY (by first | decide | omega) hl.1 rfl (by decide) (by first | decide | omega) dX8_turn_21 (fun q ce E h' H1 locs1 hE => hE.elim) (fun v hh6 H locs hq hP hS => ?_)
      obtain ⟨rfl, rfl⟩ := hq
      replace hR := hR.set8 (o := (.inr (8, [.ref ms, .ref mb, .ref mw, .int gr, .int 1, .int ca, .int mv, .ref od, .ref pt, .int ct, .int fa, .ref fi, .ref re, .int cs, .ref rc, .ref rs, .ref so, .ref ot, .ref cn, .ref la, .int ce, .ref ro, .int rn]))) hY0
      replace hRB := hRB.set8 (o := (.inr (8, [.ref ms, .ref mb, .ref mw, .int gr, .int 1, .int ca, .int mv, .ref od, .ref pt, .int ct, .int fa, .ref fi, .ref re, .int cs, .ref rc, .ref rs, .ref so, .ref ot, .ref cn, .ref la, .int ce, .ref ro, .int rn]))) hY0
      replace hms := (qs_ne (h := h) (a := y) (o := (.inr (8, [.ref ms, .ref mb, .ref mw, .int gr, .int 1, .int ca, .int mv, .ref od, .ref pt, .int ct, .int fa, .ref fi, .ref re, .int cs, .ref rc, .ref rs, .ref so, .ref ot, .ref cn, .ref la, .int ce, .ref ro, .int rn]))) (fun q => by subst q; have := hms.symm.trans hY; first | cases this | simp at this)).trans hms
      replace hmb := (qs_ne (h := h) (a := y) (o := (.inr (8, [.ref ms, .ref mb, .ref mw, .int gr, .int 1, .int ca, .int mv, .ref od, .ref pt, .int ct, .int fa, .ref fi, .ref re, .int cs, .ref rc, .ref rs, .ref so, .ref ot, .ref cn, .ref la, .int ce, .ref ro, .int rn]))) (fun q => by subst q; have := hmb.symm.trans hY; first | cases this | simp at this)).trans hmb
      replace hY : (qs h y (.inr (8, [.ref ms, .ref mb, .ref mw, .int gr, .int 1, .int ca, .int mv, .ref od, .ref pt, .int ct, .int fa, .ref fi, .ref re, .int cs, .ref rc, .ref rs, .ref so, .ref ot, .ref cn, .ref la, .int ce, .ref ro, .int rn]))) y = some (.inr (8, [.ref ms, .ref mb, .ref mw, .int gr, .int 1, .int ca, .int mv, .ref od, .ref pt, .int ct, .int fa, .ref fi, .ref re, .int cs, .ref rc, .ref rs, .ref so, .ref ot, .ref cn, .ref la, .int ce, .ref ro, .int rn])) := qs_self
      refine lv_if_eq (tgt := 42) hx hb dX8_turn_24 (by decide) (fun _ => ?_) (fun c => absurd (by decide) c)
      exact q_vret C hP hS ⟨1, rfl, ⟨rfl, Or.inl ⟨fun g9 => gg1 g9.2, rfl⟩⟩⟩ (by omega) dX8_turn_42
  · refine lv_if_eq (tgt := 19) hx hb dX8_turn_5 (by decide) (fun _ => ?_) (fun c => absurd (by decide) c)
    refine lv_iconst (v := 0) hx hb dX8_turn_19 (by decide) ?_
    refine lv_iconst (v := 1) hx hb dX8_turn_20 (by decide) ?_
    have hY0 := hY
    refine q_callV (rest := []) C (c_X8_good0 l D cy N0 (h) y ms mb mw od pt fi re rc rs so ot cn la ro gr cd ca mv ct fa cs ce rn 1 hY) kX8_good g1249 g1251 rfl gp41 g4 hP hS hY (by first | decide | omega) hl.1 rfl (by decide) (by first | decide | omega) dX8_turn_21 (fun q ce E h' H1 locs1 hE => hE.elim) (fun v hh7 H locs hq hP hS => ?_)
    obtain ⟨rfl, rfl⟩ := hq
    replace hR := hR.set8 (o := (.inr (8, [.ref ms, .ref mb, .ref mw, .int gr, .int 1, .int ca, .int mv, .ref od, .ref pt, .int ct, .int fa, .ref fi, .ref re, .int cs, .ref rc, .ref rs, .ref so, .ref ot, .ref cn, .ref la, .int ce, .ref ro, .int rn]))) hY0
    replace hRB := hRB.set8 (o := (.inr (8, [.ref ms, .ref mb, .ref mw, .int gr, .int 1, .int ca, .int mv, .ref od, .ref pt, .int ct, .int fa, .ref fi, .ref re, .int cs, .ref rc, .ref rs, .ref so, .ref ot, .ref cn, .ref la, .int ce, .ref ro, .int rn]))) hY0
    replace hms := (qs_ne (h := h) (a := y) (o := (.inr (8, [.ref ms, .ref mb, .ref mw, .int gr, .int 1, .int ca, .int mv, .ref od, .ref pt, .int ct, .int fa, .ref fi, .ref re, .int cs, .ref rc, .ref rs, .ref so, .ref ot, .ref cn, .ref la, .int ce, .ref ro, .int rn]))) (fun q => by subst q; have := hms.symm.trans hY; first | cases this | simp at this)).trans hms
    replace hmb := (qs_ne (h := h) (a := y) (o := (.inr (8, [.ref ms, .ref mb, .ref mw, .int gr, .int 1, .int ca, .int mv, .ref od, .ref pt, .int ct, .int fa, .ref fi, .ref re, .int cs, .ref rc, .ref rs, .ref so, .ref ot, .ref cn, .ref la, .int ce, .ref ro, .int rn]))) (fun q => by subst q; have := hmb.symm.trans hY; first | cases this | simp at this)).trans hmb
    replace hY : (qs h y (.inr (8, [.ref ms, .ref mb, .ref mw, .int gr, .int 1, .int ca, .int mv, .ref od, .ref pt, .int ct, .int fa, .ref fi, .ref re, .int cs, .ref rc, .ref rs, .ref so, .ref ot, .ref cn, .ref la, .int ce, .ref ro, .int rn]))) y = some (.inr (8, [.ref ms, .ref mb, .ref mw, .int gr, .int 1, .int ca, .int mv, .ref od, .ref pt, .int ct, .int fa, .ref fi, .ref re, .int cs, .ref rc, .ref rs, .ref so, .ref ot, .ref cn, .ref la, .int ce, .ref ro, .int rn])) := qs_self
    refine lv_if_eq (tgt := 42) hx hb dX8_turn_24 (by decide) (fun _ => ?_) (fun c => absurd (by decide) c)
    exact q_vret C hP hS ⟨1, rfl, ⟨rfl, Or.inl ⟨fun g9 => gg0 g9.1, rfl⟩⟩⟩ (by omega) dX8_turn_42

theorem dX8_open_0 : decode cX8_open 0 = .ok (.aload_n 0, 1) := by decide +kernel
theorem dX8_open_1 : decode cX8_open 1 = .ok (.iload_n 1, 1) := by decide +kernel
theorem dX8_open_2 : decode cX8_open 2 = .ok (.invokestatic 222, 3) := by decide +kernel
theorem dX8_open_5 : decode cX8_open 5 = .ok (.ifCond .eq 14, 3) := by decide +kernel
theorem dX8_open_8 : decode cX8_open 8 = .ok (.iload_n 2, 1) := by decide +kernel
theorem dX8_open_9 : decode cX8_open 9 = .ok (.invokestatic 96, 3) := by decide +kernel
theorem dX8_open_12 : decode cX8_open 12 = .ok (.ifCond .eq 7, 3) := by decide +kernel
theorem dX8_open_15 : decode cX8_open 15 = .ok (.iconst 1, 1) := by decide +kernel
theorem dX8_open_16 : decode cX8_open 16 = .ok (.goto 4, 3) := by decide +kernel
theorem dX8_open_19 : decode cX8_open 19 = .ok (.iconst 0, 1) := by decide +kernel
theorem dX8_open_20 : decode cX8_open 20 = .ok (.iconst 1, 1) := by decide +kernel
theorem dX8_open_21 : decode cX8_open 21 = .ok (.invokevirtual 100, 3) := by decide +kernel
theorem dX8_open_24 : decode cX8_open 24 = .ok (.ifCond .eq 38, 3) := by decide +kernel
theorem dX8_open_27 : decode cX8_open 27 = .ok (.aload_n 0, 1) := by decide +kernel
theorem dX8_open_28 : decode cX8_open 28 = .ok (.aload_n 0, 1) := by decide +kernel
theorem dX8_open_29 : decode cX8_open 29 = .ok (.iload_n 2, 1) := by decide +kernel
theorem dX8_open_30 : decode cX8_open 30 = .ok (.bipush 7, 2) := by decide +kernel
theorem dX8_open_32 : decode cX8_open 32 = .ok (.invokevirtual 108, 3) := by decide +kernel
theorem dX8_open_35 : decode cX8_open 35 = .ok (.ifCond .eq 19, 3) := by decide +kernel
theorem dX8_open_54 : decode cX8_open 54 = .ok (.iconst 0, 1) := by decide +kernel
theorem dX8_open_55 : decode cX8_open 55 = .ok (.iconst 2, 1) := by decide +kernel
theorem dX8_open_56 : decode cX8_open 56 = .ok (.invokevirtual 100, 3) := by decide +kernel
theorem dX8_open_59 : decode cX8_open 59 = .ok (.ifCond .ne 4, 3) := by decide +kernel
theorem dX8_open_62 : decode cX8_open 62 = .ok (.return_, 1) := by decide +kernel
set_option maxRecDepth 100000 in
set_option maxHeartbeats 4000000 in
theorem c_X8_open_0 (l : Launch) (D : va_G) (cy : Nat → ClassId) (N0 : Nat) (h : qH) (y ms mb mw od pt fi re rc rs so ot cn la ro : Nat) (gr cd ca mv ct fa cs ce rn : Int32) (f g : Nat → Option Nat) (p0 : Int32) (p1 : Int32) (hY : h y = some (.inr (8, [.ref ms, .ref mb, .ref mw, .int gr, .int cd, .int ca, .int mv, .ref od, .ref pt, .int ct, .int fa, .ref fi, .ref re, .int cs, .ref rc, .ref rs, .ref so, .ref ot, .ref cn, .ref la, .int ce, .ref ro, .int rn]))) (hms : h ms = some (.inl (cy 5, 24, .inr (.inr (.inr (.inr f)))))) (hmb : h mb = some (.inl (cy 5, 4, .inr (.inr (.inr (.inr g)))))) (hR : qRo h f 24) (hRB : qRo h g 4) : qC l D cy N0 yX8_open cX8_open 3 none 1 60 0 0 [.ref y, .int p0, .int p1] h (fun v h' => ∃ cd', h' = qs h y (.inr (8, [.ref ms, .ref mb, .ref mw, .int gr, .int cd', .int ca, .int mv, .ref od, .ref pt, .int ct, .int fa, .ref fi, .ref re, .int cs, .ref rc, .ref rs, .ref so, .ref ot, .ref cn, .ref la, .int ce, .ref ro, .int rn])) ∧ v = none ∧ ((¬ (qIn p0 3 ∧ qSl p1) ∧ cd' = 1) ∨ ((qIn p0 3 ∧ qSl p1) ∧ cd' = 2))) (fun E h' => False) := by
  refine q_ofW (by decide) (by exact Nat.le_of_ble_eq_true rfl) ?_
  intro p e s m below meth c ls C hP hl
  have hx := C.1
  have hb := C.2.1
  have hS : va_S (qA N0) s.heap s.heap [] := va_S.rf
  have hl : lv_has ls 3 [(0, .ref y), (1, .int p0), (2, .int p1)] := hl
  refine lv_aload_n hx hb dX8_open_0 rfl (lv_at hl 0 rfl) ?_
  refine lv_iload_n hx hb dX8_open_1 rfl (lv_at hl 1 rfl) ?_
  refine q_callS (rest := [.ref y]) C (c_X8_isBuilder l D cy N0 (h) p0) kX8_isBuilder g1461 g1462 hP hS (by first | decide | omega) hl.1 rfl (by simp [q_catrf, q_cati, q_catl, q_cata, q_catn]) (by first | decide | omega) dX8_open_2 (fun q ce E h' H1 locs1 hE => hE.elim) (fun v hh1 H locs hq hP hS => ?_)
  obtain ⟨rfl, hq⟩ := hq
  rcases hq with ⟨rfl, gg0⟩ | ⟨rfl, gg0⟩
  · refine lv_if_eq (tgt := 19) hx hb dX8_open_5 (by decide) (fun c => absurd c (by decide)) (fun _ => ?_)
    refine lv_iload_n hx hb dX8_open_8 rfl (lv_at hl 2 rfl) ?_
    refine q_callS (rest := [.ref y]) C (c_X8_isSlot l D cy N0 (h) p1) kX8_isSlot g1246 g1247 hP hS (by first | decide | omega) hl.1 rfl (by simp [q_catrf, q_cati, q_catl, q_cata, q_catn]) (by first | decide | omega) dX8_open_9 (fun q ce E h' H1 locs1 hE => hE.elim) (fun v hh2 H locs hq hP hS => ?_)
    obtain ⟨rfl, hq⟩ := hq
    rcases hq with ⟨rfl, gg1⟩ | ⟨rfl, gg1⟩
    · refine lv_if_eq (tgt := 19) hx hb dX8_open_12 (by decide) (fun c => absurd c (by decide)) (fun _ => ?_)
      refine lv_iconst (v := 1) hx hb dX8_open_15 (by decide) ?_
      refine lv_goto (tgt := 20) hx hb dX8_open_16 (by decide) ?_
      refine lv_iconst (v := 1) hx hb dX8_open_20 (by decide) ?_
      have hY0 := hY
      refine q_callV (rest := []) C (c_X8_good1 l D cy N0 (h) y ms mb mw od pt fi re rc rs so ot cn la ro gr cd ca mv ct fa cs ce rn 1 hY) kX8_good g1249 g1251 rfl gp41 g4 hP hS hY (by first | decide | omega) hl.1 rfl (by decide) (by first | decide | omega) dX8_open_21 (fun q ce E h' H1 locs1 hE => hE.elim) (fun v hh3 H locs hq hP hS => ?_)
      obtain ⟨rfl, rfl⟩ := hq
      replace hR := hR.set8 (o := (.inr (8, [.ref ms, .ref mb, .ref mw, .int gr, .int 0, .int ca, .int mv, .ref od, .ref pt, .int ct, .int fa, .ref fi, .ref re, .int cs, .ref rc, .ref rs, .ref so, .ref ot, .ref cn, .ref la, .int ce, .ref ro, .int rn]))) hY0
      replace hRB := hRB.set8 (o := (.inr (8, [.ref ms, .ref mb, .ref mw, .int gr, .int 0, .int ca, .int mv, .ref od, .ref pt, .int ct, .int fa, .ref fi, .ref re, .int cs, .ref rc, .ref rs, .ref so, .ref ot, .ref cn, .ref la, .int ce, .ref ro, .int rn]))) hY0
      replace hms := (qs_ne (h := h) (a := y) (o := (.inr (8, [.ref ms, .ref mb, .ref mw, .int gr, .int 0, .int ca, .int mv, .ref od, .ref pt, .int ct, .int fa, .ref fi, .ref re, .int cs, .ref rc, .ref rs, .ref so, .ref ot, .ref cn, .ref la, .int ce, .ref ro, .int rn]))) (fun q => by subst q; have := hms.symm.trans hY; first | cases this | simp at this)).trans hms
      replace hmb := (qs_ne (h := h) (a := y) (o := (.inr (8, [.ref ms, .ref mb, .ref mw, .int gr, .int 0, .int ca, .int mv, .ref od, .ref pt, .int ct, .int fa, .ref fi, .ref re, .int cs, .ref rc, .ref rs, .ref so, .ref ot, .ref cn, .ref la, .int ce, .ref ro, .int rn]))) (fun q => by subst q; have := hmb.symm.trans hY; first | cases this | simp at this)).trans hmb
      replace hY : (qs h y (.inr (8, [.ref ms, .ref mb, .ref mw, .int gr, .int 0, .int ca, .int mv, .ref od, .ref pt, .int ct, .int fa, .ref fi, .ref re, .int cs, .ref rc, .ref rs, .ref so, .ref ot, .ref cn, .ref la, .int ce, .ref ro, .int rn]))) y = some (.inr (8, [.ref ms, .ref mb, .ref mw, .int gr, .int 0, .int ca, .int mv, .ref od, .ref pt, .int ct, .int fa, .ref fi, .ref re, .int cs, .ref rc, .ref rs, .ref so, .ref ot, .ref cn, .ref la, .int ce, .ref ro, .int rn])) := qs_self
      refine lv_if_eq (tgt := 62) hx hb dX8_open_24 (by decide) (fun c => absurd c (by decide)) (fun _ => ?_)
      refine lv_aload_n hx hb dX8_open_27 rfl (lv_at hl 0 rfl) ?_
      refine lv_aload_n hx hb dX8_open_28 rfl (lv_at hl 0 rfl) ?_
      refine lv_iload_n hx hb dX8_open_29 rfl (lv_at hl 2 rfl) ?_
      refine lv_bipush (v := 7) hx hb dX8_open_30 (by decide) ?_
      obtain ⟨i1, hi1, ei1⟩ := gg1.of
      subst ei1
      refine q_callV (rest := [.ref y]) C (c_X8_holds_0 l D cy N0 (qs h y (.inr (8, [.ref ms, .ref mb, .ref mw, .int gr, .int 0, .int ca, .int mv, .ref od, .ref pt, .int ct, .int fa, .ref fi, .ref re, .int cs, .ref rc, .ref rs, .ref so, .ref ot, .ref cn, .ref la, .int ce, .ref ro, .int rn]))) y ms mb mw od pt fi re rc rs so ot cn la ro gr 0 ca mv ct fa cs ce rn f g i1 7 hY hms hmb hR hRB hi1) kX8_holds g1264 g1266 rfl gp42 g4 hP hS hY (by first | decide | omega) hl.1 rfl (by simp [q_catrf, q_cati, q_catl, q_cata, q_catn]) (by first | decide | omega) dX8_open_32 (fun q ce E h' H1 locs1 hE => hE.elim) (fun v hh4 H locs hq hP hS => ?_)
      obtain ⟨rfl, rfl⟩ := hq
      refine lv_if_eq (tgt := 54) hx hb dX8_open_35 (by decide) (fun _ => ?_) (fun c => absurd (by decide) c)
      refine lv_iconst (v := 0) hx hb dX8_open_54 (by decide) ?_
      refine lv_iconst (v := 2) hx hb dX8_open_55 (by decide) ?_
      have hY0 := hY
      refine q_callV (rest := []) C (c_X8_good0 l D cy N0 (qs h y (.inr (8, [.ref ms, .ref mb, .ref mw, .int gr, .int 0, .int ca, .int mv, .ref od, .ref pt, .int ct, .int fa, .ref fi, .ref re, .int cs, .ref rc, .ref rs, .ref so, .ref ot, .ref cn, .ref la, .int ce, .ref ro, .int rn]))) y ms mb mw od pt fi re rc rs so ot cn la ro gr 0 ca mv ct fa cs ce rn 2 hY) kX8_good g1249 g1251 rfl gp41 g4 hP hS hY (by first | decide | omega) hl.1 rfl (by decide) (by first | decide | omega) dX8_open_56 (fun q ce E h' H1 locs1 hE => hE.elim) (fun v hh5 H locs hq hP hS => ?_)
      obtain ⟨rfl, rfl⟩ := hq
      replace hR := hR.re8 (o' := (.inr (8, [.ref ms, .ref mb, .ref mw, .int gr, .int 2, .int ca, .int mv, .ref od, .ref pt, .int ct, .int fa, .ref fi, .ref re, .int cs, .ref rc, .ref rs, .ref so, .ref ot, .ref cn, .ref la, .int ce, .ref ro, .int rn]))) hY0
      replace hRB := hRB.re8 (o' := (.inr (8, [.ref ms, .ref mb, .ref mw, .int gr, .int 2, .int ca, .int mv, .ref od, .ref pt, .int ct, .int fa, .ref fi, .ref re, .int cs, .ref rc, .ref rs, .ref so, .ref ot, .ref cn, .ref la, .int ce, .ref ro, .int rn]))) hY0
      rw [qs_qs] at hP
      replace hms := qs_re (o' := (.inr (8, [.ref ms, .ref mb, .ref mw, .int gr, .int 2, .int ca, .int mv, .ref od, .ref pt, .int ct, .int fa, .ref fi, .ref re, .int cs, .ref rc, .ref rs, .ref so, .ref ot, .ref cn, .ref la, .int ce, .ref ro, .int rn]))) (fun q => by subst q; have := hms.symm.trans hY; first | cases this | simp at this) hms
      replace hmb := qs_re (o' := (.inr (8, [.ref ms, .ref mb, .ref mw, .int gr, .int 2, .int ca, .int mv, .ref od, .ref pt, .int ct, .int fa, .ref fi, .ref re, .int cs, .ref rc, .ref rs, .ref so, .ref ot, .ref cn, .ref la, .int ce, .ref ro, .int rn]))) (fun q => by subst q; have := hmb.symm.trans hY; first | cases this | simp at this) hmb
      replace hY : (qs h y (.inr (8, [.ref ms, .ref mb, .ref mw, .int gr, .int 2, .int ca, .int mv, .ref od, .ref pt, .int ct, .int fa, .ref fi, .ref re, .int cs, .ref rc, .ref rs, .ref so, .ref ot, .ref cn, .ref la, .int ce, .ref ro, .int rn]))) y = some (.inr (8, [.ref ms, .ref mb, .ref mw, .int gr, .int 2, .int ca, .int mv, .ref od, .ref pt, .int ct, .int fa, .ref fi, .ref re, .int cs, .ref rc, .ref rs, .ref so, .ref ot, .ref cn, .ref la, .int ce, .ref ro, .int rn])) := qs_self
      refine lv_if_ne (tgt := 63) hx hb dX8_open_59 (by decide) (fun c => absurd rfl c) (fun _ => ?_)
      exact q_vret C hP hS ⟨2, rfl, ⟨rfl, Or.inr ⟨⟨gg0, gg1⟩, rfl⟩⟩⟩ (by omega) dX8_open_62
    · refine lv_if_eq (tgt := 19) hx hb dX8_open_12 (by decide) (fun _ => ?_) (fun c => absurd (by decide) c)
      refine lv_iconst (v := 0) hx hb dX8_open_19 (by decide) ?_
      refine lv_iconst (v := 1) hx hb dX8_open_20 (by decide) ?_
      have hY0 := hY
      refine q_callV (rest := []) C (c_X8_good0 l D cy N0 (h) y ms mb mw od pt fi re rc rs so ot cn la ro gr cd ca mv ct fa cs ce rn 1 hY) kX8_good g1249 g1251 rfl gp41 g4 hP hS hY (by first | decide | omega) hl.1 rfl (by decide) (by first | decide | omega) dX8_open_21 (fun q ce E h' H1 locs1 hE => hE.elim) (fun v hh6 H locs hq hP hS => ?_)
      obtain ⟨rfl, rfl⟩ := hq
      replace hR := hR.set8 (o := (.inr (8, [.ref ms, .ref mb, .ref mw, .int gr, .int 1, .int ca, .int mv, .ref od, .ref pt, .int ct, .int fa, .ref fi, .ref re, .int cs, .ref rc, .ref rs, .ref so, .ref ot, .ref cn, .ref la, .int ce, .ref ro, .int rn]))) hY0
      replace hRB := hRB.set8 (o := (.inr (8, [.ref ms, .ref mb, .ref mw, .int gr, .int 1, .int ca, .int mv, .ref od, .ref pt, .int ct, .int fa, .ref fi, .ref re, .int cs, .ref rc, .ref rs, .ref so, .ref ot, .ref cn, .ref la, .int ce, .ref ro, .int rn]))) hY0
      replace hms := (qs_ne (h := h) (a := y) (o := (.inr (8, [.ref ms, .ref mb, .ref mw, .int gr, .int 1, .int ca, .int mv, .ref od, .ref pt, .int ct, .int fa, .ref fi, .ref re, .int cs, .ref rc, .ref rs, .ref so, .ref ot, .ref cn, .ref la, .int ce, .ref ro, .int rn]))) (fun q => by subst q; have := hms.symm.trans hY; first | cases this | simp at this)).trans hms
      replace hmb := (qs_ne (h := h) (a := y) (o := (.inr (8, [.ref ms, .ref mb, .ref mw, .int gr, .int 1, .int ca, .int mv, .ref od, .ref pt, .int ct, .int fa, .ref fi, .ref re, .int cs, .ref rc, .ref rs, .ref so, .ref ot, .ref cn, .ref la, .int ce, .ref ro, .int rn]))) (fun q => by subst q; have := hmb.symm.trans hY; first | cases this | simp at this)).trans hmb
      replace hY : (qs h y (.inr (8, [.ref ms, .ref mb, .ref mw, .int gr, .int 1, .int ca, .int mv, .ref od, .ref pt, .int ct, .int fa, .ref fi, .ref re, .int cs, .ref rc, .ref rs, .ref so, .ref ot, .ref cn, .ref la, .int ce, .ref ro, .int rn]))) y = some (.inr (8, [.ref ms, .ref mb, .ref mw, .int gr, .int 1, .int ca, .int mv, .ref od, .ref pt, .int ct, .int fa, .ref fi, .ref re, .int cs, .ref rc, .ref rs, .ref so, .ref ot, .ref cn, .ref la, .int ce, .ref ro, .int rn])) := qs_self
      refine lv_if_eq (tgt := 62) hx hb dX8_open_24 (by decide) (fun _ => ?_) (fun c => absurd (by decide) c)
      exact q_vret C hP hS ⟨1, rfl, ⟨rfl, Or.inl ⟨fun g9 => gg1 g9.2, rfl⟩⟩⟩ (by omega) dX8_open_62
  · refine lv_if_eq (tgt := 19) hx hb dX8_open_5 (by decide) (fun _ => ?_) (fun c => absurd (by decide) c)
    refine lv_iconst (v := 0) hx hb dX8_open_19 (by decide) ?_
    refine lv_iconst (v := 1) hx hb dX8_open_20 (by decide) ?_
    have hY0 := hY
    refine q_callV (rest := []) C (c_X8_good0 l D cy N0 (h) y ms mb mw od pt fi re rc rs so ot cn la ro gr cd ca mv ct fa cs ce rn 1 hY) kX8_good g1249 g1251 rfl gp41 g4 hP hS hY (by first | decide | omega) hl.1 rfl (by decide) (by first | decide | omega) dX8_open_21 (fun q ce E h' H1 locs1 hE => hE.elim) (fun v hh7 H locs hq hP hS => ?_)
    obtain ⟨rfl, rfl⟩ := hq
    replace hR := hR.set8 (o := (.inr (8, [.ref ms, .ref mb, .ref mw, .int gr, .int 1, .int ca, .int mv, .ref od, .ref pt, .int ct, .int fa, .ref fi, .ref re, .int cs, .ref rc, .ref rs, .ref so, .ref ot, .ref cn, .ref la, .int ce, .ref ro, .int rn]))) hY0
    replace hRB := hRB.set8 (o := (.inr (8, [.ref ms, .ref mb, .ref mw, .int gr, .int 1, .int ca, .int mv, .ref od, .ref pt, .int ct, .int fa, .ref fi, .ref re, .int cs, .ref rc, .ref rs, .ref so, .ref ot, .ref cn, .ref la, .int ce, .ref ro, .int rn]))) hY0
    replace hms := (qs_ne (h := h) (a := y) (o := (.inr (8, [.ref ms, .ref mb, .ref mw, .int gr, .int 1, .int ca, .int mv, .ref od, .ref pt, .int ct, .int fa, .ref fi, .ref re, .int cs, .ref rc, .ref rs, .ref so, .ref ot, .ref cn, .ref la, .int ce, .ref ro, .int rn]))) (fun q => by subst q; have := hms.symm.trans hY; first | cases this | simp at this)).trans hms
    replace hmb := (qs_ne (h := h) (a := y) (o := (.inr (8, [.ref ms, .ref mb, .ref mw, .int gr, .int 1, .int ca, .int mv, .ref od, .ref pt, .int ct, .int fa, .ref fi, .ref re, .int cs, .ref rc, .ref rs, .ref so, .ref ot, .ref cn, .ref la, .int ce, .ref ro, .int rn]))) (fun q => by subst q; have := hmb.symm.trans hY; first | cases this | simp at this)).trans hmb
    replace hY : (qs h y (.inr (8, [.ref ms, .ref mb, .ref mw, .int gr, .int 1, .int ca, .int mv, .ref od, .ref pt, .int ct, .int fa, .ref fi, .ref re, .int cs, .ref rc, .ref rs, .ref so, .ref ot, .ref cn, .ref la, .int ce, .ref ro, .int rn]))) y = some (.inr (8, [.ref ms, .ref mb, .ref mw, .int gr, .int 1, .int ca, .int mv, .ref od, .ref pt, .int ct, .int fa, .ref fi, .ref re, .int cs, .ref rc, .ref rs, .ref so, .ref ot, .ref cn, .ref la, .int ce, .ref ro, .int rn])) := qs_self
    refine lv_if_eq (tgt := 62) hx hb dX8_open_24 (by decide) (fun _ => ?_) (fun c => absurd (by decide) c)
    exact q_vret C hP hS ⟨1, rfl, ⟨rfl, Or.inl ⟨fun g9 => gg0 g9.1, rfl⟩⟩⟩ (by omega) dX8_open_62

theorem dX8_build_0 : decode cX8_build 0 = .ok (.aload_n 0, 1) := by decide +kernel
theorem dX8_build_1 : decode cX8_build 1 = .ok (.iload_n 1, 1) := by decide +kernel
theorem dX8_build_2 : decode cX8_build 2 = .ok (.invokestatic 222, 3) := by decide +kernel
theorem dX8_build_5 : decode cX8_build 5 = .ok (.ifCond .eq 16, 3) := by decide +kernel
theorem dX8_build_8 : decode cX8_build 8 = .ok (.iload_n 2, 1) := by decide +kernel
theorem dX8_build_9 : decode cX8_build 9 = .ok (.ifCond .lt 12, 3) := by decide +kernel
theorem dX8_build_12 : decode cX8_build 12 = .ok (.iload_n 2, 1) := by decide +kernel
theorem dX8_build_13 : decode cX8_build 13 = .ok (.iconst 2, 1) := by decide +kernel
theorem dX8_build_14 : decode cX8_build 14 = .ok (.if_icmp .gt 7, 3) := by decide +kernel
theorem dX8_build_17 : decode cX8_build 17 = .ok (.iconst 1, 1) := by decide +kernel
theorem dX8_build_18 : decode cX8_build 18 = .ok (.goto 4, 3) := by decide +kernel
theorem dX8_build_21 : decode cX8_build 21 = .ok (.iconst 0, 1) := by decide +kernel
theorem dX8_build_22 : decode cX8_build 22 = .ok (.iconst 1, 1) := by decide +kernel
theorem dX8_build_23 : decode cX8_build 23 = .ok (.invokevirtual 100, 3) := by decide +kernel
theorem dX8_build_26 : decode cX8_build 26 = .ok (.ifCond .eq 28, 3) := by decide +kernel
theorem dX8_build_29 : decode cX8_build 29 = .ok (.aload_n 0, 1) := by decide +kernel
theorem dX8_build_30 : decode cX8_build 30 = .ok (.aload_n 0, 1) := by decide +kernel
theorem dX8_build_31 : decode cX8_build 31 = .ok (.getfield 15, 3) := by decide +kernel
theorem dX8_build_34 : decode cX8_build 34 = .ok (.iload_n 1, 1) := by decide +kernel
theorem dX8_build_35 : decode cX8_build 35 = .ok (.aaload, 1) := by decide +kernel
theorem dX8_build_36 : decode cX8_build 36 = .ok (.getfield 75, 3) := by decide +kernel
theorem dX8_build_39 : decode cX8_build 39 = .ok (.ifCond .lt 7, 3) := by decide +kernel
theorem dX8_build_46 : decode cX8_build 46 = .ok (.iconst 0, 1) := by decide +kernel
theorem dX8_build_47 : decode cX8_build 47 = .ok (.iconst 2, 1) := by decide +kernel
theorem dX8_build_48 : decode cX8_build 48 = .ok (.invokevirtual 100, 3) := by decide +kernel
theorem dX8_build_51 : decode cX8_build 51 = .ok (.ifCond .ne 5, 3) := by decide +kernel
theorem dX8_build_54 : decode cX8_build 54 = .ok (.iconst 0, 1) := by decide +kernel
theorem dX8_build_55 : decode cX8_build 55 = .ok (.ireturn, 1) := by decide +kernel
set_option maxRecDepth 100000 in
set_option maxHeartbeats 4000000 in
theorem c_X8_build_0 (l : Launch) (D : va_G) (cy : Nat → ClassId) (N0 : Nat) (h : qH) (y ms mb mw od pt fi re rc rs so ot cn la ro : Nat) (gr cd ca mv ct fa cs ce rn : Int32) (f g : Nat → Option Nat) (p0 : Int32) (p1 : Int32) (p2 : Int64) (p3 : Int64) (hY : h y = some (.inr (8, [.ref ms, .ref mb, .ref mw, .int gr, .int cd, .int ca, .int mv, .ref od, .ref pt, .int ct, .int fa, .ref fi, .ref re, .int cs, .ref rc, .ref rs, .ref so, .ref ot, .ref cn, .ref la, .int ce, .ref ro, .int rn]))) (hms : h ms = some (.inl (cy 5, 24, .inr (.inr (.inr (.inr f)))))) (hmb : h mb = some (.inl (cy 5, 4, .inr (.inr (.inr (.inr g)))))) (hR : qRo h f 24) (hRB : qRo h g 4) : qC l D cy N0 yX8_build cX8_build 9 (some .int) 1 60 0 0 [.ref y, .int p0, .int p1, .long p2, .long p3] h (fun v h' => ∃ cd', h' = qs h y (.inr (8, [.ref ms, .ref mb, .ref mw, .int gr, .int cd', .int ca, .int mv, .ref od, .ref pt, .int ct, .int fa, .ref fi, .ref re, .int cs, .ref rc, .ref rs, .ref so, .ref ot, .ref cn, .ref la, .int ce, .ref ro, .int rn])) ∧ v = some (.int 0) ∧ ((¬ (qIn p0 3 ∧ qIn p1 2) ∧ cd' = 1) ∨ ((qIn p0 3 ∧ qIn p1 2) ∧ cd' = 2))) (fun E h' => False) := by
  refine q_ofW (by decide) (by exact Nat.le_of_ble_eq_true rfl) ?_
  intro p e s m below meth c ls C hP hl
  have hx := C.1
  have hb := C.2.1
  have hS : va_S (qA N0) s.heap s.heap [] := va_S.rf
  have hl : lv_has ls 9 [(0, .ref y), (1, .int p0), (2, .int p1), (3, .long p2), (5, .long p3)] := hl
  refine lv_aload_n hx hb dX8_build_0 rfl (lv_at hl 0 rfl) ?_
  refine lv_iload_n hx hb dX8_build_1 rfl (lv_at hl 1 rfl) ?_
  refine q_callS (rest := [.ref y]) C (c_X8_isBuilder l D cy N0 (h) p0) kX8_isBuilder g1461 g1462 hP hS (by first | decide | omega) hl.1 rfl (by simp [q_catrf, q_cati, q_catl, q_cata, q_catn]) (by first | decide | omega) dX8_build_2 (fun q ce E h' H1 locs1 hE => hE.elim) (fun v hh1 H locs hq hP hS => ?_)
  obtain ⟨rfl, hq⟩ := hq
  rcases hq with ⟨rfl, gg0⟩ | ⟨rfl, gg0⟩
  · refine lv_if_eq (tgt := 21) hx hb dX8_build_5 (by decide) (fun c => absurd c (by decide)) (fun _ => ?_)
    refine lv_iload_n hx hb dX8_build_8 rfl (lv_at hl 2 rfl) ?_
    refine lv_if_lt (tgt := 21) hx hb dX8_build_9 (by decide) (fun c9 => ?_) (fun c9 => ?_)
    · refine lv_iconst (v := 0) hx hb dX8_build_21 (by decide) ?_
      refine lv_iconst (v := 1) hx hb dX8_build_22 (by decide) ?_
      have hY0 := hY
      refine q_callV (rest := []) C (c_X8_good0 l D cy N0 (h) y ms mb mw od pt fi re rc rs so ot cn la ro gr cd ca mv ct fa cs ce rn 1 hY) kX8_good g1249 g1251 rfl gp41 g4 hP hS hY (by first | decide | omega) hl.1 rfl (by decide) (by first | decide | omega) dX8_build_23 (fun q ce E h' H1 locs1 hE => hE.elim) (fun v hh2 H locs hq hP hS => ?_)
      obtain ⟨rfl, rfl⟩ := hq
      replace hR := hR.set8 (o := (.inr (8, [.ref ms, .ref mb, .ref mw, .int gr, .int 1, .int ca, .int mv, .ref od, .ref pt, .int ct, .int fa, .ref fi, .ref re, .int cs, .ref rc, .ref rs, .ref so, .ref ot, .ref cn, .ref la, .int ce, .ref ro, .int rn]))) hY0
      replace hRB := hRB.set8 (o := (.inr (8, [.ref ms, .ref mb, .ref mw, .int gr, .int 1, .int ca, .int mv, .ref od, .ref pt, .int ct, .int fa, .ref fi, .ref re, .int cs, .ref rc, .ref rs, .ref so, .ref ot, .ref cn, .ref la, .int ce, .ref ro, .int rn]))) hY0
      replace hms := (qs_ne (h := h) (a := y) (o := (.inr (8, [.ref ms, .ref mb, .ref mw, .int gr, .int 1, .int ca, .int mv, .ref od, .ref pt, .int ct, .int fa, .ref fi, .ref re, .int cs, .ref rc, .ref rs, .ref so, .ref ot, .ref cn, .ref la, .int ce, .ref ro, .int rn]))) (fun q => by subst q; have := hms.symm.trans hY; first | cases this | simp at this)).trans hms
      replace hmb := (qs_ne (h := h) (a := y) (o := (.inr (8, [.ref ms, .ref mb, .ref mw, .int gr, .int 1, .int ca, .int mv, .ref od, .ref pt, .int ct, .int fa, .ref fi, .ref re, .int cs, .ref rc, .ref rs, .ref so, .ref ot, .ref cn, .ref la, .int ce, .ref ro, .int rn]))) (fun q => by subst q; have := hmb.symm.trans hY; first | cases this | simp at this)).trans hmb
      replace hY : (qs h y (.inr (8, [.ref ms, .ref mb, .ref mw, .int gr, .int 1, .int ca, .int mv, .ref od, .ref pt, .int ct, .int fa, .ref fi, .ref re, .int cs, .ref rc, .ref rs, .ref so, .ref ot, .ref cn, .ref la, .int ce, .ref ro, .int rn]))) y = some (.inr (8, [.ref ms, .ref mb, .ref mw, .int gr, .int 1, .int ca, .int mv, .ref od, .ref pt, .int ct, .int fa, .ref fi, .ref re, .int cs, .ref rc, .ref rs, .ref so, .ref ot, .ref cn, .ref la, .int ce, .ref ro, .int rn])) := qs_self
      refine lv_if_eq (tgt := 54) hx hb dX8_build_26 (by decide) (fun _ => ?_) (fun c => absurd (by decide) c)
      refine lv_iconst (v := 0) hx hb dX8_build_54 (by decide) ?_
      exact q_iret C hP hS ⟨1, rfl, ⟨rfl, Or.inl ⟨fun g9 => g9.2.1 c9, rfl⟩⟩⟩ (by omega) dX8_build_55
    · refine lv_iload_n hx hb dX8_build_12 rfl (lv_at hl 2 rfl) ?_
      refine lv_iconst (v := 2) hx hb dX8_build_13 (by decide) ?_
      refine lv_icmp_gt (tgt := 21) hx hb dX8_build_14 (by decide) (fun c14 => ?_) (fun c14 => ?_)
      · refine lv_iconst (v := 0) hx hb dX8_build_21 (by decide) ?_
        refine lv_iconst (v := 1) hx hb dX8_build_22 (by decide) ?_
        have hY0 := hY
        refine q_callV (rest := []) C (c_X8_good0 l D cy N0 (h) y ms mb mw od pt fi re rc rs so ot cn la ro gr cd ca mv ct fa cs ce rn 1 hY) kX8_good g1249 g1251 rfl gp41 g4 hP hS hY (by first | decide | omega) hl.1 rfl (by decide) (by first | decide | omega) dX8_build_23 (fun q ce E h' H1 locs1 hE => hE.elim) (fun v hh3 H locs hq hP hS => ?_)
        obtain ⟨rfl, rfl⟩ := hq
        replace hR := hR.set8 (o := (.inr (8, [.ref ms, .ref mb, .ref mw, .int gr, .int 1, .int ca, .int mv, .ref od, .ref pt, .int ct, .int fa, .ref fi, .ref re, .int cs, .ref rc, .ref rs, .ref so, .ref ot, .ref cn, .ref la, .int ce, .ref ro, .int rn]))) hY0
        replace hRB := hRB.set8 (o := (.inr (8, [.ref ms, .ref mb, .ref mw, .int gr, .int 1, .int ca, .int mv, .ref od, .ref pt, .int ct, .int fa, .ref fi, .ref re, .int cs, .ref rc, .ref rs, .ref so, .ref ot, .ref cn, .ref la, .int ce, .ref ro, .int rn]))) hY0
        replace hms := (qs_ne (h := h) (a := y) (o := (.inr (8, [.ref ms, .ref mb, .ref mw, .int gr, .int 1, .int ca, .int mv, .ref od, .ref pt, .int ct, .int fa, .ref fi, .ref re, .int cs, .ref rc, .ref rs, .ref so, .ref ot, .ref cn, .ref la, .int ce, .ref ro, .int rn]))) (fun q => by subst q; have := hms.symm.trans hY; first | cases this | simp at this)).trans hms
        replace hmb := (qs_ne (h := h) (a := y) (o := (.inr (8, [.ref ms, .ref mb, .ref mw, .int gr, .int 1, .int ca, .int mv, .ref od, .ref pt, .int ct, .int fa, .ref fi, .ref re, .int cs, .ref rc, .ref rs, .ref so, .ref ot, .ref cn, .ref la, .int ce, .ref ro, .int rn]))) (fun q => by subst q; have := hmb.symm.trans hY; first | cases this | simp at this)).trans hmb
        replace hY : (qs h y (.inr (8, [.ref ms, .ref mb, .ref mw, .int gr, .int 1, .int ca, .int mv, .ref od, .ref pt, .int ct, .int fa, .ref fi, .ref re, .int cs, .ref rc, .ref rs, .ref so, .ref ot, .ref cn, .ref la, .int ce, .ref ro, .int rn]))) y = some (.inr (8, [.ref ms, .ref mb, .ref mw, .int gr, .int 1, .int ca, .int mv, .ref od, .ref pt, .int ct, .int fa, .ref fi, .ref re, .int cs, .ref rc, .ref rs, .ref so, .ref ot, .ref cn, .ref la, .int ce, .ref ro, .int rn])) := qs_self
        refine lv_if_eq (tgt := 54) hx hb dX8_build_26 (by decide) (fun _ => ?_) (fun c => absurd (by decide) c)
        refine lv_iconst (v := 0) hx hb dX8_build_54 (by decide) ?_
        exact q_iret C hP hS ⟨1, rfl, ⟨rfl, Or.inl ⟨fun g9 => q32_no c14 g9.2.2, rfl⟩⟩⟩ (by omega) dX8_build_55
      · refine lv_iconst (v := 1) hx hb dX8_build_17 (by decide) ?_
        refine lv_goto (tgt := 22) hx hb dX8_build_18 (by decide) ?_
        refine lv_iconst (v := 1) hx hb dX8_build_22 (by decide) ?_
        have hY0 := hY
        refine q_callV (rest := []) C (c_X8_good1 l D cy N0 (h) y ms mb mw od pt fi re rc rs so ot cn la ro gr cd ca mv ct fa cs ce rn 1 hY) kX8_good g1249 g1251 rfl gp41 g4 hP hS hY (by first | decide | omega) hl.1 rfl (by decide) (by first | decide | omega) dX8_build_23 (fun q ce E h' H1 locs1 hE => hE.elim) (fun v hh4 H locs hq hP hS => ?_)
        obtain ⟨rfl, rfl⟩ := hq
        replace hR := hR.set8 (o := (.inr (8, [.ref ms, .ref mb, .ref mw, .int gr, .int 0, .int ca, .int mv, .ref od, .ref pt, .int ct, .int fa, .ref fi, .ref re, .int cs, .ref rc, .ref rs, .ref so, .ref ot, .ref cn, .ref la, .int ce, .ref ro, .int rn]))) hY0
        replace hRB := hRB.set8 (o := (.inr (8, [.ref ms, .ref mb, .ref mw, .int gr, .int 0, .int ca, .int mv, .ref od, .ref pt, .int ct, .int fa, .ref fi, .ref re, .int cs, .ref rc, .ref rs, .ref so, .ref ot, .ref cn, .ref la, .int ce, .ref ro, .int rn]))) hY0
        replace hms := (qs_ne (h := h) (a := y) (o := (.inr (8, [.ref ms, .ref mb, .ref mw, .int gr, .int 0, .int ca, .int mv, .ref od, .ref pt, .int ct, .int fa, .ref fi, .ref re, .int cs, .ref rc, .ref rs, .ref so, .ref ot, .ref cn, .ref la, .int ce, .ref ro, .int rn]))) (fun q => by subst q; have := hms.symm.trans hY; first | cases this | simp at this)).trans hms
        replace hmb := (qs_ne (h := h) (a := y) (o := (.inr (8, [.ref ms, .ref mb, .ref mw, .int gr, .int 0, .int ca, .int mv, .ref od, .ref pt, .int ct, .int fa, .ref fi, .ref re, .int cs, .ref rc, .ref rs, .ref so, .ref ot, .ref cn, .ref la, .int ce, .ref ro, .int rn]))) (fun q => by subst q; have := hmb.symm.trans hY; first | cases this | simp at this)).trans hmb
        replace hY : (qs h y (.inr (8, [.ref ms, .ref mb, .ref mw, .int gr, .int 0, .int ca, .int mv, .ref od, .ref pt, .int ct, .int fa, .ref fi, .ref re, .int cs, .ref rc, .ref rs, .ref so, .ref ot, .ref cn, .ref la, .int ce, .ref ro, .int rn]))) y = some (.inr (8, [.ref ms, .ref mb, .ref mw, .int gr, .int 0, .int ca, .int mv, .ref od, .ref pt, .int ct, .int fa, .ref fi, .ref re, .int cs, .ref rc, .ref rs, .ref so, .ref ot, .ref cn, .ref la, .int ce, .ref ro, .int rn])) := qs_self
        refine lv_if_eq (tgt := 54) hx hb dX8_build_26 (by decide) (fun c => absurd c (by decide)) (fun _ => ?_)
        refine lv_aload_n hx hb dX8_build_29 rfl (lv_at hl 0 rfl) ?_
        refine lv_aload_n hx hb dX8_build_30 rfl (lv_at hl 0 rfl) ?_
        refine q_get C hP hY rfl inX8 1 (by decide) g1168 rfl dX8_build_31 ?_
        refine lv_iload_n hx hb dX8_build_34 rfl (lv_at hl 1 rfl) ?_
        obtain ⟨i0, hi0, ei0⟩ := gg0.of3
        subst ei0
        refine q_aaldN C hP hmb rfl (by omega) (by omega) dX8_build_35 ?_
        obtain ⟨r1, kr1, vr1, nr1, sr1, dr1, wr1, er1, or1⟩ := hRB i0 (by omega)
        rw [er1]
        refine q_get C hP or1 rfl inX7 2 (by decide) g1142 rfl dX8_build_36 ?_
        refine lv_if_lt (tgt := 46) hx hb dX8_build_39 (by decide) (fun _ => ?_) (fun c => absurd (by decide) c)
        refine lv_iconst (v := 0) hx hb dX8_build_46 (by decide) ?_
        refine lv_iconst (v := 2) hx hb dX8_build_47 (by decide) ?_
        have hY0 := hY
        refine q_callV (rest := []) C (c_X8_good0 l D cy N0 (qs h y (.inr (8, [.ref ms, .ref mb, .ref mw, .int gr, .int 0, .int ca, .int mv, .ref od, .ref pt, .int ct, .int fa, .ref fi, .ref re, .int cs, .ref rc, .ref rs, .ref so, .ref ot, .ref cn, .ref la, .int ce, .ref ro, .int rn]))) y ms mb mw od pt fi re rc rs so ot cn la ro gr 0 ca mv ct fa cs ce rn 2 hY) kX8_good g1249 g1251 rfl gp41 g4 hP hS hY (by first | decide | omega) hl.1 rfl (by decide) (by first | decide | omega) dX8_build_48 (fun q ce E h' H1 locs1 hE => hE.elim) (fun v hh5 H locs hq hP hS => ?_)
        obtain ⟨rfl, rfl⟩ := hq
        replace hR := hR.re8 (o' := (.inr (8, [.ref ms, .ref mb, .ref mw, .int gr, .int 2, .int ca, .int mv, .ref od, .ref pt, .int ct, .int fa, .ref fi, .ref re, .int cs, .ref rc, .ref rs, .ref so, .ref ot, .ref cn, .ref la, .int ce, .ref ro, .int rn]))) hY0
        replace hRB := hRB.re8 (o' := (.inr (8, [.ref ms, .ref mb, .ref mw, .int gr, .int 2, .int ca, .int mv, .ref od, .ref pt, .int ct, .int fa, .ref fi, .ref re, .int cs, .ref rc, .ref rs, .ref so, .ref ot, .ref cn, .ref la, .int ce, .ref ro, .int rn]))) hY0
        rw [qs_qs] at hP
        replace hms := qs_re (o' := (.inr (8, [.ref ms, .ref mb, .ref mw, .int gr, .int 2, .int ca, .int mv, .ref od, .ref pt, .int ct, .int fa, .ref fi, .ref re, .int cs, .ref rc, .ref rs, .ref so, .ref ot, .ref cn, .ref la, .int ce, .ref ro, .int rn]))) (fun q => by subst q; have := hms.symm.trans hY; first | cases this | simp at this) hms
        replace hmb := qs_re (o' := (.inr (8, [.ref ms, .ref mb, .ref mw, .int gr, .int 2, .int ca, .int mv, .ref od, .ref pt, .int ct, .int fa, .ref fi, .ref re, .int cs, .ref rc, .ref rs, .ref so, .ref ot, .ref cn, .ref la, .int ce, .ref ro, .int rn]))) (fun q => by subst q; have := hmb.symm.trans hY; first | cases this | simp at this) hmb
        replace or1 := qs_re (o' := (.inr (8, [.ref ms, .ref mb, .ref mw, .int gr, .int 2, .int ca, .int mv, .ref od, .ref pt, .int ct, .int fa, .ref fi, .ref re, .int cs, .ref rc, .ref rs, .ref so, .ref ot, .ref cn, .ref la, .int ce, .ref ro, .int rn]))) (fun q => by subst q; have := or1.symm.trans hY; first | cases this | simp at this) or1
        replace hY : (qs h y (.inr (8, [.ref ms, .ref mb, .ref mw, .int gr, .int 2, .int ca, .int mv, .ref od, .ref pt, .int ct, .int fa, .ref fi, .ref re, .int cs, .ref rc, .ref rs, .ref so, .ref ot, .ref cn, .ref la, .int ce, .ref ro, .int rn]))) y = some (.inr (8, [.ref ms, .ref mb, .ref mw, .int gr, .int 2, .int ca, .int mv, .ref od, .ref pt, .int ct, .int fa, .ref fi, .ref re, .int cs, .ref rc, .ref rs, .ref so, .ref ot, .ref cn, .ref la, .int ce, .ref ro, .int rn])) := qs_self
        refine lv_if_ne (tgt := 56) hx hb dX8_build_51 (by decide) (fun c => absurd rfl c) (fun _ => ?_)
        refine lv_iconst (v := 0) hx hb dX8_build_54 (by decide) ?_
        exact q_iret C hP hS ⟨2, rfl, ⟨rfl, Or.inr ⟨⟨gg0, ⟨c9, q32_not c14⟩⟩, rfl⟩⟩⟩ (by omega) dX8_build_55
  · refine lv_if_eq (tgt := 21) hx hb dX8_build_5 (by decide) (fun _ => ?_) (fun c => absurd (by decide) c)
    refine lv_iconst (v := 0) hx hb dX8_build_21 (by decide) ?_
    refine lv_iconst (v := 1) hx hb dX8_build_22 (by decide) ?_
    have hY0 := hY
    refine q_callV (rest := []) C (c_X8_good0 l D cy N0 (h) y ms mb mw od pt fi re rc rs so ot cn la ro gr cd ca mv ct fa cs ce rn 1 hY) kX8_good g1249 g1251 rfl gp41 g4 hP hS hY (by first | decide | omega) hl.1 rfl (by decide) (by first | decide | omega) dX8_build_23 (fun q ce E h' H1 locs1 hE => hE.elim) (fun v hh6 H locs hq hP hS => ?_)
    obtain ⟨rfl, rfl⟩ := hq
    replace hR := hR.set8 (o := (.inr (8, [.ref ms, .ref mb, .ref mw, .int gr, .int 1, .int ca, .int mv, .ref od, .ref pt, .int ct, .int fa, .ref fi, .ref re, .int cs, .ref rc, .ref rs, .ref so, .ref ot, .ref cn, .ref la, .int ce, .ref ro, .int rn]))) hY0
    replace hRB := hRB.set8 (o := (.inr (8, [.ref ms, .ref mb, .ref mw, .int gr, .int 1, .int ca, .int mv, .ref od, .ref pt, .int ct, .int fa, .ref fi, .ref re, .int cs, .ref rc, .ref rs, .ref so, .ref ot, .ref cn, .ref la, .int ce, .ref ro, .int rn]))) hY0
    replace hms := (qs_ne (h := h) (a := y) (o := (.inr (8, [.ref ms, .ref mb, .ref mw, .int gr, .int 1, .int ca, .int mv, .ref od, .ref pt, .int ct, .int fa, .ref fi, .ref re, .int cs, .ref rc, .ref rs, .ref so, .ref ot, .ref cn, .ref la, .int ce, .ref ro, .int rn]))) (fun q => by subst q; have := hms.symm.trans hY; first | cases this | simp at this)).trans hms
    replace hmb := (qs_ne (h := h) (a := y) (o := (.inr (8, [.ref ms, .ref mb, .ref mw, .int gr, .int 1, .int ca, .int mv, .ref od, .ref pt, .int ct, .int fa, .ref fi, .ref re, .int cs, .ref rc, .ref rs, .ref so, .ref ot, .ref cn, .ref la, .int ce, .ref ro, .int rn]))) (fun q => by subst q; have := hmb.symm.trans hY; first | cases this | simp at this)).trans hmb
    replace hY : (qs h y (.inr (8, [.ref ms, .ref mb, .ref mw, .int gr, .int 1, .int ca, .int mv, .ref od, .ref pt, .int ct, .int fa, .ref fi, .ref re, .int cs, .ref rc, .ref rs, .ref so, .ref ot, .ref cn, .ref la, .int ce, .ref ro, .int rn]))) y = some (.inr (8, [.ref ms, .ref mb, .ref mw, .int gr, .int 1, .int ca, .int mv, .ref od, .ref pt, .int ct, .int fa, .ref fi, .ref re, .int cs, .ref rc, .ref rs, .ref so, .ref ot, .ref cn, .ref la, .int ce, .ref ro, .int rn])) := qs_self
    refine lv_if_eq (tgt := 54) hx hb dX8_build_26 (by decide) (fun _ => ?_) (fun c => absurd (by decide) c)
    refine lv_iconst (v := 0) hx hb dX8_build_54 (by decide) ?_
    exact q_iret C hP hS ⟨1, rfl, ⟨rfl, Or.inl ⟨fun g9 => gg0 g9.1, rfl⟩⟩⟩ (by omega) dX8_build_55

theorem dX8_look_0 : decode cX8_look 0 = .ok (.aload_n 0, 1) := by decide +kernel
theorem dX8_look_1 : decode cX8_look 1 = .ok (.iload_n 1, 1) := by decide +kernel
theorem dX8_look_2 : decode cX8_look 2 = .ok (.invokestatic 222, 3) := by decide +kernel
theorem dX8_look_5 : decode cX8_look 5 = .ok (.iconst 1, 1) := by decide +kernel
theorem dX8_look_6 : decode cX8_look 6 = .ok (.invokevirtual 100, 3) := by decide +kernel
theorem dX8_look_9 : decode cX8_look 9 = .ok (.ifCond .eq 28, 3) := by decide +kernel
theorem dX8_look_12 : decode cX8_look 12 = .ok (.aload_n 0, 1) := by decide +kernel
theorem dX8_look_13 : decode cX8_look 13 = .ok (.aload_n 0, 1) := by decide +kernel
theorem dX8_look_14 : decode cX8_look 14 = .ok (.getfield 15, 3) := by decide +kernel
theorem dX8_look_17 : decode cX8_look 17 = .ok (.iload_n 1, 1) := by decide +kernel
theorem dX8_look_18 : decode cX8_look 18 = .ok (.aaload, 1) := by decide +kernel
theorem dX8_look_19 : decode cX8_look 19 = .ok (.getfield 75, 3) := by decide +kernel
theorem dX8_look_22 : decode cX8_look 22 = .ok (.ifCond .lt 7, 3) := by decide +kernel
theorem dX8_look_29 : decode cX8_look 29 = .ok (.iconst 0, 1) := by decide +kernel
theorem dX8_look_30 : decode cX8_look 30 = .ok (.iconst 2, 1) := by decide +kernel
theorem dX8_look_31 : decode cX8_look 31 = .ok (.invokevirtual 100, 3) := by decide +kernel
theorem dX8_look_34 : decode cX8_look 34 = .ok (.ifCond .ne 5, 3) := by decide +kernel
theorem dX8_look_37 : decode cX8_look 37 = .ok (.lconst 0, 1) := by decide +kernel
theorem dX8_look_38 : decode cX8_look 38 = .ok (.lreturn, 1) := by decide +kernel
set_option maxRecDepth 100000 in
set_option maxHeartbeats 4000000 in
theorem c_X8_look_0 (l : Launch) (D : va_G) (cy : Nat → ClassId) (N0 : Nat) (h : qH) (y ms mb mw od pt fi re rc rs so ot cn la ro : Nat) (gr cd ca mv ct fa cs ce rn : Int32) (f g : Nat → Option Nat) (p0 : Int32) (p1 : Int64) (hY : h y = some (.inr (8, [.ref ms, .ref mb, .ref mw, .int gr, .int cd, .int ca, .int mv, .ref od, .ref pt, .int ct, .int fa, .ref fi, .ref re, .int cs, .ref rc, .ref rs, .ref so, .ref ot, .ref cn, .ref la, .int ce, .ref ro, .int rn]))) (hms : h ms = some (.inl (cy 5, 24, .inr (.inr (.inr (.inr f)))))) (hmb : h mb = some (.inl (cy 5, 4, .inr (.inr (.inr (.inr g)))))) (hR : qRo h f 24) (hRB : qRo h g 4) : qC l D cy N0 yX8_look cX8_look 6 (some .long) 1 60 0 0 [.ref y, .int p0, .long p1] h (fun v h' => ∃ cd', h' = qs h y (.inr (8, [.ref ms, .ref mb, .ref mw, .int gr, .int cd', .int ca, .int mv, .ref od, .ref pt, .int ct, .int fa, .ref fi, .ref re, .int cs, .ref rc, .ref rs, .ref so, .ref ot, .ref cn, .ref la, .int ce, .ref ro, .int rn])) ∧ v = some (.long 0) ∧ ((¬ (qIn p0 3) ∧ cd' = 1) ∨ ((qIn p0 3) ∧ cd' = 2))) (fun E h' => False) := by
  refine q_ofW (by decide) (by exact Nat.le_of_ble_eq_true rfl) ?_
  intro p e s m below meth c ls C hP hl
  have hx := C.1
  have hb := C.2.1
  have hS : va_S (qA N0) s.heap s.heap [] := va_S.rf
  have hl : lv_has ls 6 [(0, .ref y), (1, .int p0), (2, .long p1)] := hl
  refine lv_aload_n hx hb dX8_look_0 rfl (lv_at hl 0 rfl) ?_
  refine lv_iload_n hx hb dX8_look_1 rfl (lv_at hl 1 rfl) ?_
  refine q_callS (rest := [.ref y]) C (c_X8_isBuilder l D cy N0 (h) p0) kX8_isBuilder g1461 g1462 hP hS (by first | decide | omega) hl.1 rfl (by simp [q_catrf, q_cati, q_catl, q_cata, q_catn]) (by first | decide | omega) dX8_look_2 (fun q ce E h' H1 locs1 hE => hE.elim) (fun v hh1 H locs hq hP hS => ?_)
  obtain ⟨rfl, hq⟩ := hq
  rcases hq with ⟨rfl, gg0⟩ | ⟨rfl, gg0⟩
  · refine lv_iconst (v := 1) hx hb dX8_look_5 (by decide) ?_
    have hY0 := hY
    refine q_callV (rest := []) C (c_X8_good1 l D cy N0 (h) y ms mb mw od pt fi re rc rs so ot cn la ro gr cd ca mv ct fa cs ce rn 1 hY) kX8_good g1249 g1251 rfl gp41 g4 hP hS hY (by first | decide | omega) hl.1 rfl (by decide) (by first | decide | omega) dX8_look_6 (fun q ce E h' H1 locs1 hE => hE.elim) (fun v hh2 H locs hq hP hS => ?_)
    obtain ⟨rfl, rfl⟩ := hq
    replace hR := hR.set8 (o := (.inr (8, [.ref ms, .ref mb, .ref mw, .int gr, .int 0, .int ca, .int mv, .ref od, .ref pt, .int ct, .int fa, .ref fi, .ref re, .int cs, .ref rc, .ref rs, .ref so, .ref ot, .ref cn, .ref la, .int ce, .ref ro, .int rn]))) hY0
    replace hRB := hRB.set8 (o := (.inr (8, [.ref ms, .ref mb, .ref mw, .int gr, .int 0, .int ca, .int mv, .ref od, .ref pt, .int ct, .int fa, .ref fi, .ref re, .int cs, .ref rc, .ref rs, .ref so, .ref ot, .ref cn, .ref la, .int ce, .ref ro, .int rn]))) hY0
    replace hms := (qs_ne (h := h) (a := y) (o := (.inr (8, [.ref ms, .ref mb, .ref mw, .int gr, .int 0, .int ca, .int mv, .ref od, .ref pt, .int ct, .int fa, .ref fi, .ref re, .int cs, .ref rc, .ref rs, .ref so, .ref ot, .ref cn, .ref la, .int ce, .ref ro, .int rn]))) (fun q => by subst q; have := hms.symm.trans hY; first | cases this | simp at this)).trans hms
    replace hmb := (qs_ne (h := h) (a := y) (o := (.inr (8, [.ref ms, .ref mb, .ref mw, .int gr, .int 0, .int ca, .int mv, .ref od, .ref pt, .int ct, .int fa, .ref fi, .ref re, .int cs, .ref rc, .ref rs, .ref so, .ref ot, .ref cn, .ref la, .int ce, .ref ro, .int rn]))) (fun q => by subst q; have := hmb.symm.trans hY; first | cases this | simp at this)).trans hmb
    replace hY : (qs h y (.inr (8, [.ref ms, .ref mb, .ref mw, .int gr, .int 0, .int ca, .int mv, .ref od, .ref pt, .int ct, .int fa, .ref fi, .ref re, .int cs, .ref rc, .ref rs, .ref so, .ref ot, .ref cn, .ref la, .int ce, .ref ro, .int rn]))) y = some (.inr (8, [.ref ms, .ref mb, .ref mw, .int gr, .int 0, .int ca, .int mv, .ref od, .ref pt, .int ct, .int fa, .ref fi, .ref re, .int cs, .ref rc, .ref rs, .ref so, .ref ot, .ref cn, .ref la, .int ce, .ref ro, .int rn])) := qs_self
    refine lv_if_eq (tgt := 37) hx hb dX8_look_9 (by decide) (fun c => absurd c (by decide)) (fun _ => ?_)
    refine lv_aload_n hx hb dX8_look_12 rfl (lv_at hl 0 rfl) ?_
    refine lv_aload_n hx hb dX8_look_13 rfl (lv_at hl 0 rfl) ?_
    refine q_get C hP hY rfl inX8 1 (by decide) g1168 rfl dX8_look_14 ?_
    refine lv_iload_n hx hb dX8_look_17 rfl (lv_at hl 1 rfl) ?_
    obtain ⟨i0, hi0, ei0⟩ := gg0.of3
    subst ei0
    refine q_aaldN C hP hmb rfl (by omega) (by omega) dX8_look_18 ?_
    obtain ⟨r1, kr1, vr1, nr1, sr1, dr1, wr1, er1, or1⟩ := hRB i0 (by omega)
    rw [er1]
    refine q_get C hP or1 rfl inX7 2 (by decide) g1142 rfl dX8_look_19 ?_
    refine lv_if_lt (tgt := 29) hx hb dX8_look_22 (by decide) (fun _ => ?_) (fun c => absurd (by decide) c)
    refine lv_iconst (v := 0) hx hb dX8_look_29 (by decide) ?_
    refine lv_iconst (v := 2) hx hb dX8_look_30 (by decide) ?_
    have hY0 := hY
    refine q_callV (rest := []) C (c_X8_good0 l D cy N0 (qs h y (.inr (8, [.ref ms, .ref mb, .ref mw, .int gr, .int 0, .int ca, .int mv, .ref od, .ref pt, .int ct, .int fa, .ref fi, .ref re, .int cs, .ref rc, .ref rs, .ref so, .ref ot, .ref cn, .ref la, .int ce, .ref ro, .int rn]))) y ms mb mw od pt fi re rc rs so ot cn la ro gr 0 ca mv ct fa cs ce rn 2 hY) kX8_good g1249 g1251 rfl gp41 g4 hP hS hY (by first | decide | omega) hl.1 rfl (by decide) (by first | decide | omega) dX8_look_31 (fun q ce E h' H1 locs1 hE => hE.elim) (fun v hh3 H locs hq hP hS => ?_)
    obtain ⟨rfl, rfl⟩ := hq
    replace hR := hR.re8 (o' := (.inr (8, [.ref ms, .ref mb, .ref mw, .int gr, .int 2, .int ca, .int mv, .ref od, .ref pt, .int ct, .int fa, .ref fi, .ref re, .int cs, .ref rc, .ref rs, .ref so, .ref ot, .ref cn, .ref la, .int ce, .ref ro, .int rn]))) hY0
    replace hRB := hRB.re8 (o' := (.inr (8, [.ref ms, .ref mb, .ref mw, .int gr, .int 2, .int ca, .int mv, .ref od, .ref pt, .int ct, .int fa, .ref fi, .ref re, .int cs, .ref rc, .ref rs, .ref so, .ref ot, .ref cn, .ref la, .int ce, .ref ro, .int rn]))) hY0
    rw [qs_qs] at hP
    replace hms := qs_re (o' := (.inr (8, [.ref ms, .ref mb, .ref mw, .int gr, .int 2, .int ca, .int mv, .ref od, .ref pt, .int ct, .int fa, .ref fi, .ref re, .int cs, .ref rc, .ref rs, .ref so, .ref ot, .ref cn, .ref la, .int ce, .ref ro, .int rn]))) (fun q => by subst q; have := hms.symm.trans hY; first | cases this | simp at this) hms
    replace hmb := qs_re (o' := (.inr (8, [.ref ms, .ref mb, .ref mw, .int gr, .int 2, .int ca, .int mv, .ref od, .ref pt, .int ct, .int fa, .ref fi, .ref re, .int cs, .ref rc, .ref rs, .ref so, .ref ot, .ref cn, .ref la, .int ce, .ref ro, .int rn]))) (fun q => by subst q; have := hmb.symm.trans hY; first | cases this | simp at this) hmb
    replace or1 := qs_re (o' := (.inr (8, [.ref ms, .ref mb, .ref mw, .int gr, .int 2, .int ca, .int mv, .ref od, .ref pt, .int ct, .int fa, .ref fi, .ref re, .int cs, .ref rc, .ref rs, .ref so, .ref ot, .ref cn, .ref la, .int ce, .ref ro, .int rn]))) (fun q => by subst q; have := or1.symm.trans hY; first | cases this | simp at this) or1
    replace hY : (qs h y (.inr (8, [.ref ms, .ref mb, .ref mw, .int gr, .int 2, .int ca, .int mv, .ref od, .ref pt, .int ct, .int fa, .ref fi, .ref re, .int cs, .ref rc, .ref rs, .ref so, .ref ot, .ref cn, .ref la, .int ce, .ref ro, .int rn]))) y = some (.inr (8, [.ref ms, .ref mb, .ref mw, .int gr, .int 2, .int ca, .int mv, .ref od, .ref pt, .int ct, .int fa, .ref fi, .ref re, .int cs, .ref rc, .ref rs, .ref so, .ref ot, .ref cn, .ref la, .int ce, .ref ro, .int rn])) := qs_self
    refine lv_if_ne (tgt := 39) hx hb dX8_look_34 (by decide) (fun c => absurd rfl c) (fun _ => ?_)
    refine lv_lconst (v := 0) hx hb dX8_look_37 (by decide) ?_
    exact q_lret C hP hS ⟨2, rfl, ⟨rfl, Or.inr ⟨gg0, rfl⟩⟩⟩ (by omega) dX8_look_38
  · refine lv_iconst (v := 1) hx hb dX8_look_5 (by decide) ?_
    have hY0 := hY
    refine q_callV (rest := []) C (c_X8_good0 l D cy N0 (h) y ms mb mw od pt fi re rc rs so ot cn la ro gr cd ca mv ct fa cs ce rn 1 hY) kX8_good g1249 g1251 rfl gp41 g4 hP hS hY (by first | decide | omega) hl.1 rfl (by decide) (by first | decide | omega) dX8_look_6 (fun q ce E h' H1 locs1 hE => hE.elim) (fun v hh4 H locs hq hP hS => ?_)
    obtain ⟨rfl, rfl⟩ := hq
    replace hR := hR.set8 (o := (.inr (8, [.ref ms, .ref mb, .ref mw, .int gr, .int 1, .int ca, .int mv, .ref od, .ref pt, .int ct, .int fa, .ref fi, .ref re, .int cs, .ref rc, .ref rs, .ref so, .ref ot, .ref cn, .ref la, .int ce, .ref ro, .int rn]))) hY0
    replace hRB := hRB.set8 (o := (.inr (8, [.ref ms, .ref mb, .ref mw, .int gr, .int 1, .int ca, .int mv, .ref od, .ref pt, .int ct, .int fa, .ref fi, .ref re, .int cs, .ref rc, .ref rs, .ref so, .ref ot, .ref cn, .ref la, .int ce, .ref ro, .int rn]))) hY0
    replace hms := (qs_ne (h := h) (a := y) (o := (.inr (8, [.ref ms, .ref mb, .ref mw, .int gr, .int 1, .int ca, .int mv, .ref od, .ref pt, .int ct, .int fa, .ref fi, .ref re, .int cs, .ref rc, .ref rs, .ref so, .ref ot, .ref cn, .ref la, .int ce, .ref ro, .int rn]))) (fun q => by subst q; have := hms.symm.trans hY; first | cases this | simp at this)).trans hms
    replace hmb := (qs_ne (h := h) (a := y) (o := (.inr (8, [.ref ms, .ref mb, .ref mw, .int gr, .int 1, .int ca, .int mv, .ref od, .ref pt, .int ct, .int fa, .ref fi, .ref re, .int cs, .ref rc, .ref rs, .ref so, .ref ot, .ref cn, .ref la, .int ce, .ref ro, .int rn]))) (fun q => by subst q; have := hmb.symm.trans hY; first | cases this | simp at this)).trans hmb
    replace hY : (qs h y (.inr (8, [.ref ms, .ref mb, .ref mw, .int gr, .int 1, .int ca, .int mv, .ref od, .ref pt, .int ct, .int fa, .ref fi, .ref re, .int cs, .ref rc, .ref rs, .ref so, .ref ot, .ref cn, .ref la, .int ce, .ref ro, .int rn]))) y = some (.inr (8, [.ref ms, .ref mb, .ref mw, .int gr, .int 1, .int ca, .int mv, .ref od, .ref pt, .int ct, .int fa, .ref fi, .ref re, .int cs, .ref rc, .ref rs, .ref so, .ref ot, .ref cn, .ref la, .int ce, .ref ro, .int rn])) := qs_self
    refine lv_if_eq (tgt := 37) hx hb dX8_look_9 (by decide) (fun _ => ?_) (fun c => absurd (by decide) c)
    refine lv_lconst (v := 0) hx hb dX8_look_37 (by decide) ?_
    exact q_lret C hP hS ⟨1, rfl, ⟨rfl, Or.inl ⟨fun g9 => gg0 g9, rfl⟩⟩⟩ (by omega) dX8_look_38

theorem dX8_freeze_0 : decode cX8_freeze 0 = .ok (.aload_n 0, 1) := by decide +kernel
theorem dX8_freeze_1 : decode cX8_freeze 1 = .ok (.iload_n 1, 1) := by decide +kernel
theorem dX8_freeze_2 : decode cX8_freeze 2 = .ok (.invokestatic 222, 3) := by decide +kernel
theorem dX8_freeze_5 : decode cX8_freeze 5 = .ok (.ifCond .eq 14, 3) := by decide +kernel
theorem dX8_freeze_8 : decode cX8_freeze 8 = .ok (.iload_n 2, 1) := by decide +kernel
theorem dX8_freeze_9 : decode cX8_freeze 9 = .ok (.invokestatic 96, 3) := by decide +kernel
theorem dX8_freeze_12 : decode cX8_freeze 12 = .ok (.ifCond .eq 7, 3) := by decide +kernel
theorem dX8_freeze_15 : decode cX8_freeze 15 = .ok (.iconst 1, 1) := by decide +kernel
theorem dX8_freeze_16 : decode cX8_freeze 16 = .ok (.goto 4, 3) := by decide +kernel
theorem dX8_freeze_19 : decode cX8_freeze 19 = .ok (.iconst 0, 1) := by decide +kernel
theorem dX8_freeze_20 : decode cX8_freeze 20 = .ok (.iconst 1, 1) := by decide +kernel
theorem dX8_freeze_21 : decode cX8_freeze 21 = .ok (.invokevirtual 100, 3) := by decide +kernel
theorem dX8_freeze_24 : decode cX8_freeze 24 = .ok (.ifCond .eq 28, 3) := by decide +kernel
theorem dX8_freeze_27 : decode cX8_freeze 27 = .ok (.aload_n 0, 1) := by decide +kernel
theorem dX8_freeze_28 : decode cX8_freeze 28 = .ok (.aload_n 0, 1) := by decide +kernel
theorem dX8_freeze_29 : decode cX8_freeze 29 = .ok (.getfield 15, 3) := by decide +kernel
theorem dX8_freeze_32 : decode cX8_freeze 32 = .ok (.iload_n 1, 1) := by decide +kernel
theorem dX8_freeze_33 : decode cX8_freeze 33 = .ok (.aaload, 1) := by decide +kernel
theorem dX8_freeze_34 : decode cX8_freeze 34 = .ok (.getfield 75, 3) := by decide +kernel
theorem dX8_freeze_37 : decode cX8_freeze 37 = .ok (.ifCond .lt 7, 3) := by decide +kernel
theorem dX8_freeze_44 : decode cX8_freeze 44 = .ok (.iconst 0, 1) := by decide +kernel
theorem dX8_freeze_45 : decode cX8_freeze 45 = .ok (.iconst 2, 1) := by decide +kernel
theorem dX8_freeze_46 : decode cX8_freeze 46 = .ok (.invokevirtual 100, 3) := by decide +kernel
theorem dX8_freeze_49 : decode cX8_freeze 49 = .ok (.ifCond .ne 5, 3) := by decide +kernel
theorem dX8_freeze_52 : decode cX8_freeze 52 = .ok (.iconst 0, 1) := by decide +kernel
theorem dX8_freeze_53 : decode cX8_freeze 53 = .ok (.ireturn, 1) := by decide +kernel
set_option maxRecDepth 100000 in
set_option maxHeartbeats 4000000 in
theorem c_X8_freeze_0 (l : Launch) (D : va_G) (cy : Nat → ClassId) (N0 : Nat) (h : qH) (y ms mb mw od pt fi re rc rs so ot cn la ro : Nat) (gr cd ca mv ct fa cs ce rn : Int32) (f g : Nat → Option Nat) (p0 : Int32) (p1 : Int32) (hY : h y = some (.inr (8, [.ref ms, .ref mb, .ref mw, .int gr, .int cd, .int ca, .int mv, .ref od, .ref pt, .int ct, .int fa, .ref fi, .ref re, .int cs, .ref rc, .ref rs, .ref so, .ref ot, .ref cn, .ref la, .int ce, .ref ro, .int rn]))) (hms : h ms = some (.inl (cy 5, 24, .inr (.inr (.inr (.inr f)))))) (hmb : h mb = some (.inl (cy 5, 4, .inr (.inr (.inr (.inr g)))))) (hR : qRo h f 24) (hRB : qRo h g 4) : qC l D cy N0 yX8_freeze cX8_freeze 3 (some .int) 1 60 0 0 [.ref y, .int p0, .int p1] h (fun v h' => ∃ cd', h' = qs h y (.inr (8, [.ref ms, .ref mb, .ref mw, .int gr, .int cd', .int ca, .int mv, .ref od, .ref pt, .int ct, .int fa, .ref fi, .ref re, .int cs, .ref rc, .ref rs, .ref so, .ref ot, .ref cn, .ref la, .int ce, .ref ro, .int rn])) ∧ v = some (.int 0) ∧ ((¬ (qIn p0 3 ∧ qSl p1) ∧ cd' = 1) ∨ ((qIn p0 3 ∧ qSl p1) ∧ cd' = 2))) (fun E h' => False) := by
  refine q_ofW (by decide) (by exact Nat.le_of_ble_eq_true rfl) ?_
  intro p e s m below meth c ls C hP hl
  have hx := C.1
  have hb := C.2.1
  have hS : va_S (qA N0) s.heap s.heap [] := va_S.rf
  have hl : lv_has ls 3 [(0, .ref y), (1, .int p0), (2, .int p1)] := hl
  refine lv_aload_n hx hb dX8_freeze_0 rfl (lv_at hl 0 rfl) ?_
  refine lv_iload_n hx hb dX8_freeze_1 rfl (lv_at hl 1 rfl) ?_
  refine q_callS (rest := [.ref y]) C (c_X8_isBuilder l D cy N0 (h) p0) kX8_isBuilder g1461 g1462 hP hS (by first | decide | omega) hl.1 rfl (by simp [q_catrf, q_cati, q_catl, q_cata, q_catn]) (by first | decide | omega) dX8_freeze_2 (fun q ce E h' H1 locs1 hE => hE.elim) (fun v hh1 H locs hq hP hS => ?_)
  obtain ⟨rfl, hq⟩ := hq
  rcases hq with ⟨rfl, gg0⟩ | ⟨rfl, gg0⟩
  · refine lv_if_eq (tgt := 19) hx hb dX8_freeze_5 (by decide) (fun c => absurd c (by decide)) (fun _ => ?_)
    refine lv_iload_n hx hb dX8_freeze_8 rfl (lv_at hl 2 rfl) ?_
    refine q_callS (rest := [.ref y]) C (c_X8_isSlot l D cy N0 (h) p1) kX8_isSlot g1246 g1247 hP hS (by first | decide | omega) hl.1 rfl (by simp [q_catrf, q_cati, q_catl, q_cata, q_catn]) (by first | decide | omega) dX8_freeze_9 (fun q ce E h' H1 locs1 hE => hE.elim) (fun v hh2 H locs hq hP hS => ?_)
    obtain ⟨rfl, hq⟩ := hq
    rcases hq with ⟨rfl, gg1⟩ | ⟨rfl, gg1⟩
    · refine lv_if_eq (tgt := 19) hx hb dX8_freeze_12 (by decide) (fun c => absurd c (by decide)) (fun _ => ?_)
      refine lv_iconst (v := 1) hx hb dX8_freeze_15 (by decide) ?_
      refine lv_goto (tgt := 20) hx hb dX8_freeze_16 (by decide) ?_
      refine lv_iconst (v := 1) hx hb dX8_freeze_20 (by decide) ?_
      have hY0 := hY
      refine q_callV (rest := []) C (c_X8_good1 l D cy N0 (h) y ms mb mw od pt fi re rc rs so ot cn la ro gr cd ca mv ct fa cs ce rn 1 hY) kX8_good g1249 g1251 rfl gp41 g4 hP hS hY (by first | decide | omega) hl.1 rfl (by decide) (by first | decide | omega) dX8_freeze_21 (fun q ce E h' H1 locs1 hE => hE.elim) (fun v hh3 H locs hq hP hS => ?_)
      obtain ⟨rfl, rfl⟩ := hq
      replace hR := hR.set8 (o := (.inr (8, [.ref ms, .ref mb, .ref mw, .int gr, .int 0, .int ca, .int mv, .ref od, .ref pt, .int ct, .int fa, .ref fi, .ref re, .int cs, .ref rc, .ref rs, .ref so, .ref ot, .ref cn, .ref la, .int ce, .ref ro, .int rn]))) hY0
      replace hRB := hRB.set8 (o := (.inr (8, [.ref ms, .ref mb, .ref mw, .int gr, .int 0, .int ca, .int mv, .ref od, .ref pt, .int ct, .int fa, .ref fi, .ref re, .int cs, .ref rc, .ref rs, .ref so, .ref ot, .ref cn, .ref la, .int ce, .ref ro, .int rn]))) hY0
      replace hms := (qs_ne (h := h) (a := y) (o := (.inr (8, [.ref ms, .ref mb, .ref mw, .int gr, .int 0, .int ca, .int mv, .ref od, .ref pt, .int ct, .int fa, .ref fi, .ref re, .int cs, .ref rc, .ref rs, .ref so, .ref ot, .ref cn, .ref la, .int ce, .ref ro, .int rn]))) (fun q => by subst q; have := hms.symm.trans hY; first | cases this | simp at this)).trans hms
      replace hmb := (qs_ne (h := h) (a := y) (o := (.inr (8, [.ref ms, .ref mb, .ref mw, .int gr, .int 0, .int ca, .int mv, .ref od, .ref pt, .int ct, .int fa, .ref fi, .ref re, .int cs, .ref rc, .ref rs, .ref so, .ref ot, .ref cn, .ref la, .int ce, .ref ro, .int rn]))) (fun q => by subst q; have := hmb.symm.trans hY; first | cases this | simp at this)).trans hmb
      replace hY : (qs h y (.inr (8, [.ref ms, .ref mb, .ref mw, .int gr, .int 0, .int ca, .int mv, .ref od, .ref pt, .int ct, .int fa, .ref fi, .ref re, .int cs, .ref rc, .ref rs, .ref so, .ref ot, .ref cn, .ref la, .int ce, .ref ro, .int rn]))) y = some (.inr (8, [.ref ms, .ref mb, .ref mw, .int gr, .int 0, .int ca, .int mv, .ref od, .ref pt, .int ct, .int fa, .ref fi, .ref re, .int cs, .ref rc, .ref rs, .ref so, .ref ot, .ref cn, .ref la, .int ce, .ref ro, .int rn])) := qs_self
      refine lv_if_eq (tgt := 52) hx hb dX8_freeze_24 (by decide) (fun c => absurd c (by decide)) (fun _ => ?_)
      refine lv_aload_n hx hb dX8_freeze_27 rfl (lv_at hl 0 rfl) ?_
      refine lv_aload_n hx hb dX8_freeze_28 rfl (lv_at hl 0 rfl) ?_
      refine q_get C hP hY rfl inX8 1 (by decide) g1168 rfl dX8_freeze_29 ?_
      refine lv_iload_n hx hb dX8_freeze_32 rfl (lv_at hl 1 rfl) ?_
      obtain ⟨i0, hi0, ei0⟩ := gg0.of3
      subst ei0
      refine q_aaldN C hP hmb rfl (by omega) (by omega) dX8_freeze_33 ?_
      obtain ⟨r1, kr1, vr1, nr1, sr1, dr1, wr1, er1, or1⟩ := hRB i0 (by omega)
      rw [er1]
      refine q_get C hP or1 rfl inX7 2 (by decide) g1142 rfl dX8_freeze_34 ?_
      refine lv_if_lt (tgt := 44) hx hb dX8_freeze_37 (by decide) (fun _ => ?_) (fun c => absurd (by decide) c)
      refine lv_iconst (v := 0) hx hb dX8_freeze_44 (by decide) ?_
      refine lv_iconst (v := 2) hx hb dX8_freeze_45 (by decide) ?_
      have hY0 := hY
      refine q_callV (rest := []) C (c_X8_good0 l D cy N0 (qs h y (.inr (8, [.ref ms, .ref mb, .ref mw, .int gr, .int 0, .int ca, .int mv, .ref od, .ref pt, .int ct, .int fa, .ref fi, .ref re, .int cs, .ref rc, .ref rs, .ref so, .ref ot, .ref cn, .ref la, .int ce, .ref ro, .int rn]))) y ms mb mw od pt fi re rc rs so ot cn la ro gr 0 ca mv ct fa cs ce rn 2 hY) kX8_good g1249 g1251 rfl gp41 g4 hP hS hY (by first | decide | omega) hl.1 rfl (by decide) (by first | decide | omega) dX8_freeze_46 (fun q ce E h' H1 locs1 hE => hE.elim) (fun v hh4 H locs hq hP hS => ?_)
      obtain ⟨rfl, rfl⟩ := hq
      replace hR := hR.re8 (o' := (.inr (8, [.ref ms, .ref mb, .ref mw, .int gr, .int 2, .int ca, .int mv, .ref od, .ref pt, .int ct, .int fa, .ref fi, .ref re, .int cs, .ref rc, .ref rs, .ref so, .ref ot, .ref cn, .ref la, .int ce, .ref ro, .int rn]))) hY0
      replace hRB := hRB.re8 (o' := (.inr (8, [.ref ms, .ref mb, .ref mw, .int gr, .int 2, .int ca, .int mv, .ref od, .ref pt, .int ct, .int fa, .ref fi, .ref re, .int cs, .ref rc, .ref rs, .ref so, .ref ot, .ref cn, .ref la, .int ce, .ref ro, .int rn]))) hY0
      rw [qs_qs] at hP
      replace hms := qs_re (o' := (.inr (8, [.ref ms, .ref mb, .ref mw, .int gr, .int 2, .int ca, .int mv, .ref od, .ref pt, .int ct, .int fa, .ref fi, .ref re, .int cs, .ref rc, .ref rs, .ref so, .ref ot, .ref cn, .ref la, .int ce, .ref ro, .int rn]))) (fun q => by subst q; have := hms.symm.trans hY; first | cases this | simp at this) hms
      replace hmb := qs_re (o' := (.inr (8, [.ref ms, .ref mb, .ref mw, .int gr, .int 2, .int ca, .int mv, .ref od, .ref pt, .int ct, .int fa, .ref fi, .ref re, .int cs, .ref rc, .ref rs, .ref so, .ref ot, .ref cn, .ref la, .int ce, .ref ro, .int rn]))) (fun q => by subst q; have := hmb.symm.trans hY; first | cases this | simp at this) hmb
      replace or1 := qs_re (o' := (.inr (8, [.ref ms, .ref mb, .ref mw, .int gr, .int 2, .int ca, .int mv, .ref od, .ref pt, .int ct, .int fa, .ref fi, .ref re, .int cs, .ref rc, .ref rs, .ref so, .ref ot, .ref cn, .ref la, .int ce, .ref ro, .int rn]))) (fun q => by subst q; have := or1.symm.trans hY; first | cases this | simp at this) or1
      replace hY : (qs h y (.inr (8, [.ref ms, .ref mb, .ref mw, .int gr, .int 2, .int ca, .int mv, .ref od, .ref pt, .int ct, .int fa, .ref fi, .ref re, .int cs, .ref rc, .ref rs, .ref so, .ref ot, .ref cn, .ref la, .int ce, .ref ro, .int rn]))) y = some (.inr (8, [.ref ms, .ref mb, .ref mw, .int gr, .int 2, .int ca, .int mv, .ref od, .ref pt, .int ct, .int fa, .ref fi, .ref re, .int cs, .ref rc, .ref rs, .ref so, .ref ot, .ref cn, .ref la, .int ce, .ref ro, .int rn])) := qs_self
      refine lv_if_ne (tgt := 54) hx hb dX8_freeze_49 (by decide) (fun c => absurd rfl c) (fun _ => ?_)
      refine lv_iconst (v := 0) hx hb dX8_freeze_52 (by decide) ?_
      exact q_iret C hP hS ⟨2, rfl, ⟨rfl, Or.inr ⟨⟨gg0, gg1⟩, rfl⟩⟩⟩ (by omega) dX8_freeze_53
    · refine lv_if_eq (tgt := 19) hx hb dX8_freeze_12 (by decide) (fun _ => ?_) (fun c => absurd (by decide) c)
      refine lv_iconst (v := 0) hx hb dX8_freeze_19 (by decide) ?_
      refine lv_iconst (v := 1) hx hb dX8_freeze_20 (by decide) ?_
      have hY0 := hY
      refine q_callV (rest := []) C (c_X8_good0 l D cy N0 (h) y ms mb mw od pt fi re rc rs so ot cn la ro gr cd ca mv ct fa cs ce rn 1 hY) kX8_good g1249 g1251 rfl gp41 g4 hP hS hY (by first | decide | omega) hl.1 rfl (by decide) (by first | decide | omega) dX8_freeze_21 (fun q ce E h' H1 locs1 hE => hE.elim) (fun v hh5 H locs hq hP hS => ?_)
      obtain ⟨rfl, rfl⟩ := hq
      replace hR := hR.set8 (o := (.inr (8, [.ref ms, .ref mb, .ref mw, .int gr, .int 1, .int ca, .int mv, .ref od, .ref pt, .int ct, .int fa, .ref fi, .ref re, .int cs, .ref rc, .ref rs, .ref so, .ref ot, .ref cn, .ref la, .int ce, .ref ro, .int rn]))) hY0
      replace hRB := hRB.set8 (o := (.inr (8, [.ref ms, .ref mb, .ref mw, .int gr, .int 1, .int ca, .int mv, .ref od, .ref pt, .int ct, .int fa, .ref fi, .ref re, .int cs, .ref rc, .ref rs, .ref so, .ref ot, .ref cn, .ref la, .int ce, .ref ro, .int rn]))) hY0
      replace hms := (qs_ne (h := h) (a := y) (o := (.inr (8, [.ref ms, .ref mb, .ref mw, .int gr, .int 1, .int ca, .int mv, .ref od, .ref pt, .int ct, .int fa, .ref fi, .ref re, .int cs, .ref rc, .ref rs, .ref so, .ref ot, .ref cn, .ref la, .int ce, .ref ro, .int rn]))) (fun q => by subst q; have := hms.symm.trans hY; first | cases this | simp at this)).trans hms
      replace hmb := (qs_ne (h := h) (a := y) (o := (.inr (8, [.ref ms, .ref mb, .ref mw, .int gr, .int 1, .int ca, .int mv, .ref od, .ref pt, .int ct, .int fa, .ref fi, .ref re, .int cs, .ref rc, .ref rs, .ref so, .ref ot, .ref cn, .ref la, .int ce, .ref ro, .int rn]))) (fun q => by subst q; have := hmb.symm.trans hY; first | cases this | simp at this)).trans hmb
      replace hY : (qs h y (.inr (8, [.ref ms, .ref mb, .ref mw, .int gr, .int 1, .int ca, .int mv, .ref od, .ref pt, .int ct, .int fa, .ref fi, .ref re, .int cs, .ref rc, .ref rs, .ref so, .ref ot, .ref cn, .ref la, .int ce, .ref ro, .int rn]))) y = some (.inr (8, [.ref ms, .ref mb, .ref mw, .int gr, .int 1, .int ca, .int mv, .ref od, .ref pt, .int ct, .int fa, .ref fi, .ref re, .int cs, .ref rc, .ref rs, .ref so, .ref ot, .ref cn, .ref la, .int ce, .ref ro, .int rn])) := qs_self
      refine lv_if_eq (tgt := 52) hx hb dX8_freeze_24 (by decide) (fun _ => ?_) (fun c => absurd (by decide) c)
      refine lv_iconst (v := 0) hx hb dX8_freeze_52 (by decide) ?_
      exact q_iret C hP hS ⟨1, rfl, ⟨rfl, Or.inl ⟨fun g9 => gg1 g9.2, rfl⟩⟩⟩ (by omega) dX8_freeze_53
  · refine lv_if_eq (tgt := 19) hx hb dX8_freeze_5 (by decide) (fun _ => ?_) (fun c => absurd (by decide) c)
    refine lv_iconst (v := 0) hx hb dX8_freeze_19 (by decide) ?_
    refine lv_iconst (v := 1) hx hb dX8_freeze_20 (by decide) ?_
    have hY0 := hY
    refine q_callV (rest := []) C (c_X8_good0 l D cy N0 (h) y ms mb mw od pt fi re rc rs so ot cn la ro gr cd ca mv ct fa cs ce rn 1 hY) kX8_good g1249 g1251 rfl gp41 g4 hP hS hY (by first | decide | omega) hl.1 rfl (by decide) (by first | decide | omega) dX8_freeze_21 (fun q ce E h' H1 locs1 hE => hE.elim) (fun v hh6 H locs hq hP hS => ?_)
    obtain ⟨rfl, rfl⟩ := hq
    replace hR := hR.set8 (o := (.inr (8, [.ref ms, .ref mb, .ref mw, .int gr, .int 1, .int ca, .int mv, .ref od, .ref pt, .int ct, .int fa, .ref fi, .ref re, .int cs, .ref rc, .ref rs, .ref so, .ref ot, .ref cn, .ref la, .int ce, .ref ro, .int rn]))) hY0
    replace hRB := hRB.set8 (o := (.inr (8, [.ref ms, .ref mb, .ref mw, .int gr, .int 1, .int ca, .int mv, .ref od, .ref pt, .int ct, .int fa, .ref fi, .ref re, .int cs, .ref rc, .ref rs, .ref so, .ref ot, .ref cn, .ref la, .int ce, .ref ro, .int rn]))) hY0
    replace hms := (qs_ne (h := h) (a := y) (o := (.inr (8, [.ref ms, .ref mb, .ref mw, .int gr, .int 1, .int ca, .int mv, .ref od, .ref pt, .int ct, .int fa, .ref fi, .ref re, .int cs, .ref rc, .ref rs, .ref so, .ref ot, .ref cn, .ref la, .int ce, .ref ro, .int rn]))) (fun q => by subst q; have := hms.symm.trans hY; first | cases this | simp at this)).trans hms
    replace hmb := (qs_ne (h := h) (a := y) (o := (.inr (8, [.ref ms, .ref mb, .ref mw, .int gr, .int 1, .int ca, .int mv, .ref od, .ref pt, .int ct, .int fa, .ref fi, .ref re, .int cs, .ref rc, .ref rs, .ref so, .ref ot, .ref cn, .ref la, .int ce, .ref ro, .int rn]))) (fun q => by subst q; have := hmb.symm.trans hY; first | cases this | simp at this)).trans hmb
    replace hY : (qs h y (.inr (8, [.ref ms, .ref mb, .ref mw, .int gr, .int 1, .int ca, .int mv, .ref od, .ref pt, .int ct, .int fa, .ref fi, .ref re, .int cs, .ref rc, .ref rs, .ref so, .ref ot, .ref cn, .ref la, .int ce, .ref ro, .int rn]))) y = some (.inr (8, [.ref ms, .ref mb, .ref mw, .int gr, .int 1, .int ca, .int mv, .ref od, .ref pt, .int ct, .int fa, .ref fi, .ref re, .int cs, .ref rc, .ref rs, .ref so, .ref ot, .ref cn, .ref la, .int ce, .ref ro, .int rn])) := qs_self
    refine lv_if_eq (tgt := 52) hx hb dX8_freeze_24 (by decide) (fun _ => ?_) (fun c => absurd (by decide) c)
    refine lv_iconst (v := 0) hx hb dX8_freeze_52 (by decide) ?_
    exact q_iret C hP hS ⟨1, rfl, ⟨rfl, Or.inl ⟨fun g9 => gg0 g9.1, rfl⟩⟩⟩ (by omega) dX8_freeze_53
