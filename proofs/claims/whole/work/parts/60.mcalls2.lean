def xr_put (gr : Int32) (S : Nat → qSlot) (i j : Nat) (k v : Int64) : Int32 × (Nat → qSlot) × Int32 := if 1000 < (xPut (S j).1 false (S j).2.1 k (xV (S j).1 v)).length ∨ (16 < xAl gr (xPut (S j).1 false (S j).2.1 k (xV (S j).1 v)) k ∧ ((S j).1 = 1 ∨ (S j).1 = 2)) then (3, S, 0) else (0, qU S i ((S j).1, xPut (S j).1 false (S j).2.1 k (xV (S j).1 v), (S j).2.2), nI (xPut (S j).1 false (S j).2.1 k (xV (S j).1 v)).length)
def xs_put (gr : Int32) (S : Nat → qSlot) (p0 p1 : Int32) (k v : Int64) : Int32 × (Nat → qSlot) × Int32 := if bSl p0 = false ∨ bSl p1 = false then (1, S, 0) else if bHo (S p1.toNatClampNeg).1 10 = false then (2, S, 0) else xr_put gr S p0.toNatClampNeg p1.toNatClampNeg k v
def xs_find (S : Nat → qSlot) (p0 : Int32) (k : Int64) : Int32 × Int64 := if bSl p0 = false then (1, 0) else if bHo (S p0.toNatClampNeg).1 14 = false then (2, 0) else if xHas (S p0.toNatClampNeg).2.1 k = false then (3, 0) else (0, if (S p0.toNatClampNeg).1 = 2 then 1 else xLook (S p0.toNatClampNeg).2.1 k)
def xr_out (S : Nat → qSlot) (i j : Nat) (k : Int64) : Int32 × (Nat → qSlot) × Int32 := (0, qU S i ((S j).1, (S j).2.1.filter (fun p => decide (p.1 ≠ k)), (S j).2.2), nI ((S j).2.1.filter (fun p => decide (p.1 ≠ k))).length)
def xs_out (S : Nat → qSlot) (p0 p1 : Int32) (k : Int64) : Int32 × (Nat → qSlot) × Int32 := if bSl p0 = false ∨ bSl p1 = false then (1, S, 0) else if bHo (S p1.toNatClampNeg).1 14 = false then (2, S, 0) else xr_out S p0.toNatClampNeg p1.toNatClampNeg k
def xr_set (S : Nat → qSlot) (i j : Nat) (p2 : Int32) (v : Int64) : Int32 × (Nat → qSlot) × Int64 := if bIx p2 (S j).2.1.length = false then (3, S, 0) else (0, qU S i ((S j).1, (S j).2.1.set p2.toNatClampNeg (v, 0), (S j).2.2), ((S j).2.1.getD p2.toNatClampNeg (0, 0)).1)
def xs_set (S : Nat → qSlot) (p0 p1 p2 : Int32) (v : Int64) : Int32 × (Nat → qSlot) × Int64 := if bSl p0 = false ∨ bSl p1 = false then (1, S, 0) else if bHo (S p1.toNatClampNeg).1 1 = false then (2, S, 0) else xr_set S p0.toNatClampNeg p1.toNatClampNeg p2 v
theorem dX8_put__44 : decode cX8_put_ 44 = .ok (.aload_n 0, 1) := by decide +kernel
theorem dX8_put__45 : decode cX8_put_ 45 = .ok (.getfield 9, 3) := by decide +kernel
theorem dX8_put__48 : decode cX8_put_ 48 = .ok (.iload_n 2, 1) := by decide +kernel
theorem dX8_put__49 : decode cX8_put_ 49 = .ok (.aaload, 1) := by decide +kernel
theorem dX8_put__50 : decode cX8_put_ 50 = .ok (.aload_n 0, 1) := by decide +kernel
theorem dX8_put__51 : decode cX8_put_ 51 = .ok (.getfield 19, 3) := by decide +kernel
theorem dX8_put__54 : decode cX8_put_ 54 = .ok (.invokestatic 104, 3) := by decide +kernel
theorem dX8_put__57 : decode cX8_put_ 57 = .ok (.aload_n 0, 1) := by decide +kernel
theorem dX8_put__58 : decode cX8_put_ 58 = .ok (.getfield 19, 3) := by decide +kernel
theorem dX8_put__61 : decode cX8_put_ 61 = .ok (.lload_n 3, 1) := by decide +kernel
theorem dX8_put__62 : decode cX8_put_ 62 = .ok (.lload 5, 2) := by decide +kernel
theorem dX8_put__64 : decode cX8_put_ 64 = .ok (.iconst 0, 1) := by decide +kernel
theorem dX8_put__65 : decode cX8_put_ 65 = .ok (.invokestatic 127, 3) := by decide +kernel
theorem dX8_put__68 : decode cX8_put_ 68 = .ok (.aload_n 0, 1) := by decide +kernel
theorem dX8_put__69 : decode cX8_put_ 69 = .ok (.aload_n 0, 1) := by decide +kernel
theorem dX8_put__70 : decode cX8_put_ 70 = .ok (.getfield 19, 3) := by decide +kernel
theorem dX8_put__73 : decode cX8_put_ 73 = .ok (.getfield 78, 3) := by decide +kernel
theorem dX8_put__76 : decode cX8_put_ 76 = .ok (.sipush 1000, 3) := by decide +kernel
theorem dX8_put__79 : decode cX8_put_ 79 = .ok (.if_icmp .gt 19, 3) := by decide +kernel
theorem dX8_put__82 : decode cX8_put_ 82 = .ok (.aload_n 0, 1) := by decide +kernel
theorem dX8_put__83 : decode cX8_put_ 83 = .ok (.aload_n 0, 1) := by decide +kernel
theorem dX8_put__84 : decode cX8_put_ 84 = .ok (.getfield 19, 3) := by decide +kernel
theorem dX8_put__87 : decode cX8_put_ 87 = .ok (.lload_n 3, 1) := by decide +kernel
theorem dX8_put__88 : decode cX8_put_ 88 = .ok (.invokevirtual 131, 3) := by decide +kernel
theorem dX8_put__91 : decode cX8_put_ 91 = .ok (.ifCond .ne 7, 3) := by decide +kernel
theorem dX8_put__94 : decode cX8_put_ 94 = .ok (.iconst 1, 1) := by decide +kernel
theorem dX8_put__95 : decode cX8_put_ 95 = .ok (.goto 4, 3) := by decide +kernel
theorem dX8_put__98 : decode cX8_put_ 98 = .ok (.iconst 0, 1) := by decide +kernel
theorem dX8_put__99 : decode cX8_put_ 99 = .ok (.iconst 3, 1) := by decide +kernel
theorem dX8_put__100 : decode cX8_put_ 100 = .ok (.invokevirtual 100, 3) := by decide +kernel
theorem dX8_put__103 : decode cX8_put_ 103 = .ok (.ifCond .ne 5, 3) := by decide +kernel
theorem dX8_put__106 : decode cX8_put_ 106 = .ok (.iconst 0, 1) := by decide +kernel
theorem dX8_put__107 : decode cX8_put_ 107 = .ok (.ireturn, 1) := by decide +kernel
theorem dX8_put__108 : decode cX8_put_ 108 = .ok (.aload_n 0, 1) := by decide +kernel
theorem dX8_put__109 : decode cX8_put_ 109 = .ok (.iload_n 1, 1) := by decide +kernel
theorem dX8_put__110 : decode cX8_put_ 110 = .ok (.iconst 0, 1) := by decide +kernel
theorem dX8_put__111 : decode cX8_put_ 111 = .ok (.invokevirtual 135, 3) := by decide +kernel
theorem dX8_put__114 : decode cX8_put_ 114 = .ok (.ireturn, 1) := by decide +kernel
set_option maxRecDepth 100000 in
set_option maxHeartbeats 4000000 in
theorem c_X8_put_ (l : Launch) (D : va_G) (cy : Nat → ClassId) (N0 : Nat) (h : qH) (y ms mb mw od pt fi re rc rs so ot cn la ro : Nat) (gr cd ca mv ct fau cs ce rn : Int32) (ra rk rv : Nat → Nat) (S : Nat → qSlot) (p0 p1 : Int32) (p2 p3 : Int64) (hY : h y = some (.inr (8, [.ref ms, .ref mb, .ref mw, .int gr, .int cd, .int ca, .int mv, .ref od, .ref pt, .int ct, .int fau, .ref fi, .ref re, .int cs, .ref rc, .ref rs, .ref so, .ref ot, .ref cn, .ref la, .int ce, .ref ro, .int rn]))) (hM : qMR cy h ms mb mw ra rk rv S) (hI : ∀ i, i < 28 → qOk (S i).1 (S i).2.1) : qC l D cy N0 yX8_put_ cX8_put_ 7 (some .int) 2 60 0 0 [.ref y, .int p0, .int p1, .long p2, .long p3] h (fun v h' => v = some (.int (xs_put gr S p0 p1 p2 p3).2.2) ∧ h' y = some (.inr (8, [.ref ms, .ref mb, .ref mw, .int gr, .int (xs_put gr S p0 p1 p2 p3).1, .int ca, .int mv, .ref od, .ref pt, .int ct, .int fau, .ref fi, .ref re, .int cs, .ref rc, .ref rs, .ref so, .ref ot, .ref cn, .ref la, .int ce, .ref ro, .int rn])) ∧ qMR cy h' ms mb mw ra rk rv ((xs_put gr S p0 p1 p2 p3).2.1) ∧ qFm h h' y ra rk rv) (fun E h' => False) := by
  refine q_ofW (by decide) (by exact Nat.le_of_ble_eq_true rfl) ?_
  intro p e s m below meth c ls C hP hl
  have hx := C.1
  have hb := C.2.1
  have hS : va_S (qA N0) s.heap s.heap [] := va_S.rf
  have hl : lv_has ls 7 [(0, .ref y), (1, .int p0), (2, .int p1), (3, .long p2), (5, .long p3)] := hl
  have hle : qle h h := qle_rf
  have hY0 := hY
  obtain ⟨hms, hmb, hmw, hmd, hrs, kdw, smw, dpw, rww, nw, fw, gw, hRw⟩ := id hM
  subst hmw
  have fr : ∀ b o, h b = some o → b ≠ y → qOf (ra 28) (rk 28) (rv 28) b → h b = some o := fun b o hb _ _ => hb
  have faw := hRw.2.2.2.1
  have fkw := hRw.2.2.2.2.1
  have fvw := hRw.2.2.2.2.2
  unfold qRb at faw
  unfold qJr at fkw fvw
  refine lv_aload_n hx hb dX8_put__0 rfl (lv_at hl 0 rfl) ?_
  refine lv_iload_n hx hb dX8_put__1 rfl (lv_at hl 1 rfl) ?_
  refine q_callS (rest := [.ref y]) C (c_X8_isSlot l D cy N0 h p0) kX8_isSlot g1246 g1247 hP hS (by first | decide | omega) hl.1 rfl (by simp [q_catrf, q_cati, q_catl, q_cata, q_catn]) (by first | decide | omega) dX8_put__2 (fun q ce E h' H1 locs1 hE => hE.elim) (fun v hh1 H locs hq hP hS => ?_)
  obtain ⟨rfl, ⟨rfl, sl9⟩ | ⟨rfl, sl9⟩⟩ := hq
  · obtain ⟨i, hi, rfl⟩ := sl9.of
    have ebi : bSl (nI i) = true := bSl_t sl9
    have eci : (nI i).toNatClampNeg = i := nI_clamp (by omega)
    refine lv_if_eq (tgt := 19) hx hb dX8_put__5 (by decide) (fun c5 => ?_) (fun c5 => ?_)
    · replace c5 : 1 = 0 := (nI_eq (a := 1) (b := 0) (by omega) (by omega)).mp c5
      exfalso; omega
    · replace c5 : ¬ 1 = 0 := fun zq => c5 ((nI_eq (a := 1) (b := 0) (by omega) (by omega)).mpr zq)
      refine lv_iload_n hx hb dX8_put__8 rfl (lv_at hl 2 rfl) ?_
      refine q_callS (rest := [.ref y]) C (c_X8_isSlot l D cy N0 h p1) kX8_isSlot g1246 g1247 hP hS (by first | decide | omega) hl.1 rfl (by simp [q_catrf, q_cati, q_catl, q_cata, q_catn]) (by first | decide | omega) dX8_put__9 (fun q ce E h' H1 locs1 hE => hE.elim) (fun v hh2 H locs hq hP hS => ?_)
      obtain ⟨rfl, ⟨rfl, sl9⟩ | ⟨rfl, sl9⟩⟩ := hq
      · obtain ⟨j, hj, rfl⟩ := sl9.of
        have ebj : bSl (nI j) = true := bSl_t sl9
        have ecj : (nI j).toNatClampNeg = j := nI_clamp (by omega)
        refine lv_if_eq (tgt := 19) hx hb dX8_put__12 (by decide) (fun c12 => ?_) (fun c12 => ?_)
        · replace c12 : 1 = 0 := (nI_eq (a := 1) (b := 0) (by omega) (by omega)).mp c12
          exfalso; omega
        · replace c12 : ¬ 1 = 0 := fun zq => c12 ((nI_eq (a := 1) (b := 0) (by omega) (by omega)).mpr zq)
          refine lv_iconst (v := nI 1) hx hb dX8_put__15 (by decide) ?_
          refine lv_goto (tgt := 20) hx hb dX8_put__16 (by decide) ?_
          refine lv_iconst (v := nI 1) hx hb dX8_put__20 (by decide) ?_
          refine q_callV (rest := []) C (c_X8_good1 l D cy N0 h y ms mb (ra 28) od pt fi re rc rs so ot cn la ro gr cd ca mv ct fau cs ce rn (nI 1) hY) kX8_good g1249 g1251 rfl gp41 g4 hP hS hY (by first | decide | omega) hl.1 rfl (by decide) (by first | decide | omega) dX8_put__21 (fun q ce E h' H1 locs1 hE => hE.elim) (fun v hh3 H locs hq hP hS => ?_)
          obtain ⟨rfl, rfl⟩ := hq
          replace hP : qP D N0 (qs h y (.inr (8, [.ref ms, .ref mb, .ref (ra 28), .int gr, .int 0, .int ca, .int mv, .ref od, .ref pt, .int ct, .int fau, .ref fi, .ref re, .int cs, .ref rc, .ref rs, .ref so, .ref ot, .ref cn, .ref la, .int ce, .ref ro, .int rn]))) H := hP
          obtain ⟨hv1, ehv1⟩ : ∃ z : qH, z = qs h y (.inr (8, [.ref ms, .ref mb, .ref (ra 28), .int gr, .int 0, .int ca, .int mv, .ref od, .ref pt, .int ct, .int fau, .ref fi, .ref re, .int cs, .ref rc, .ref rs, .ref so, .ref ot, .ref cn, .ref la, .int ce, .ref ro, .int rn])) := ⟨_, rfl⟩
          rw [← ehv1] at hP
          have khv1 : ∀ b o, b ≠ y → h b = some o → hv1 b = some o := by rw [ehv1]; exact fun b o nb hb => (qs_ne nb).trans hb
          replace hms := khv1 _ _ (fun q => by subst q; have := hms.symm.trans hY; first | cases this | simp at this) hms
          replace hmb := khv1 _ _ (fun q => by subst q; have := hmb.symm.trans hY; first | cases this | simp at this) hmb
          replace faw := khv1 _ _ (fun q => by have z9 := faw; rw [q] at z9; have := z9.symm.trans hY; first | cases this | simp at this) faw
          replace fkw := khv1 _ _ (fun q => by have z9 := fkw; rw [q] at z9; have := z9.symm.trans hY; first | cases this | simp at this) fkw
          replace fvw := khv1 _ _ (fun q => by have z9 := fvw; rw [q] at z9; have := z9.symm.trans hY; first | cases this | simp at this) fvw
          replace hY : hv1 y = some (.inr (8, [.ref ms, .ref mb, .ref (ra 28), .int gr, .int 0, .int ca, .int mv, .ref od, .ref pt, .int ct, .int fau, .ref fi, .ref re, .int cs, .ref rc, .ref rs, .ref so, .ref ot, .ref cn, .ref la, .int ce, .ref ro, .int rn])) := by rw [ehv1]; exact qs_self
          clear ehv1
          replace fr := fun b o hb n1 n2 => khv1 b o n1 (fr b o hb n1 n2)
          refine lv_if_eq (tgt := 42) hx hb dX8_put__24 (by decide) (fun c24 => ?_) (fun c24 => ?_)
          · replace c24 : 1 = 0 := (nI_eq (a := 1) (b := 0) (by omega) (by omega)).mp c24
            exfalso; omega
          · replace c24 : ¬ 1 = 0 := fun zq => c24 ((nI_eq (a := 1) (b := 0) (by omega) (by omega)).mpr zq)
            refine lv_aload_n hx hb dX8_put__27 rfl (lv_at hl 0 rfl) ?_
            refine lv_aload_n hx hb dX8_put__28 rfl (lv_at hl 0 rfl) ?_
            refine lv_iload_n hx hb dX8_put__29 rfl (lv_at hl 2 rfl) ?_
            refine lv_bipush (v := nI 10) hx hb dX8_put__30 (by decide) ?_
            obtain ⟨nj, rwj, Fj, Gj, hRj, hnj, hLj, hKj⟩ := hrs j (by omega)
            have apj := hRj.apart hRw (hmd.two (i := j) (j := 28) (by omega) (by omega) (by omega))
            replace hRj := hRj.keep2 (fun b o hb ho => fr b o ho (hRj.ney hY0 hb) (hb.elim (fun q => q ▸ apj.1) (fun hb => hb.elim (fun q => q ▸ apj.2.1) (fun q => q ▸ apj.2.2))))
            have faj := hRj.2.2.2.1
            have fkj := hRj.2.2.2.2.1
            have fvj := hRj.2.2.2.2.2
            unfold qRb at faj
            unfold qJr at fkj fvj
            refine q_callV (rest := [.ref y]) C (c_X8_holds l D cy N0 hv1 y ms ra rk rv j 10 _ _ _ _ _ _ _ _ hY rfl hms ⟨hRj.1, hRj.2.1, hRj.2.2.1, faj, fkj, fvj⟩ (by omega)) kX8_holds g1264 g1266 rfl gp42 g4 hP hS hY (by first | decide | omega) hl.1 rfl (by simp [q_catrf, q_cati, q_catl, q_cata, q_catn]) (by first | decide | omega) dX8_put__32 (fun q ce E h' H1 locs1 hE => hE.elim) (fun v hh4 H locs hq hP hS => ?_)
            obtain ⟨rfl, rfl⟩ := hq
            cases hoj : bHo (S j).1 10 with
            | false =>
              refine lv_iconst (v := nI 2) hx hb dX8_put__35 (by decide) ?_
              refine q_callV (rest := []) C (c_X8_good0 l D cy N0 hv1 y ms mb (ra 28) od pt fi re rc rs so ot cn la ro gr 0 ca mv ct fau cs ce rn (nI 2) hY) kX8_good g1249 g1251 rfl gp41 g4 hP hS hY (by first | decide | omega) hl.1 rfl (by decide) (by first | decide | omega) dX8_put__36 (fun q ce E h' H1 locs1 hE => hE.elim) (fun v hh5 H locs hq hP hS => ?_)
              obtain ⟨rfl, rfl⟩ := hq
              replace hP : qP D N0 (qs hv1 y (.inr (8, [.ref ms, .ref mb, .ref (ra 28), .int gr, .int (nI 2), .int ca, .int mv, .ref od, .ref pt, .int ct, .int fau, .ref fi, .ref re, .int cs, .ref rc, .ref rs, .ref so, .ref ot, .ref cn, .ref la, .int ce, .ref ro, .int rn]))) H := hP
              obtain ⟨hv2, ehv2⟩ : ∃ z : qH, z = qs hv1 y (.inr (8, [.ref ms, .ref mb, .ref (ra 28), .int gr, .int (nI 2), .int ca, .int mv, .ref od, .ref pt, .int ct, .int fau, .ref fi, .ref re, .int cs, .ref rc, .ref rs, .ref so, .ref ot, .ref cn, .ref la, .int ce, .ref ro, .int rn])) := ⟨_, rfl⟩
              rw [← ehv2] at hP
              have khv2 : ∀ b o, b ≠ y → hv1 b = some o → hv2 b = some o := by rw [ehv2]; exact fun b o nb hb => (qs_ne nb).trans hb
              replace hms := khv2 _ _ (fun q => by subst q; have := hms.symm.trans hY; first | cases this | simp at this) hms
              replace hmb := khv2 _ _ (fun q => by subst q; have := hmb.symm.trans hY; first | cases this | simp at this) hmb
              replace faw := khv2 _ _ (fun q => by have z9 := faw; rw [q] at z9; have := z9.symm.trans hY; first | cases this | simp at this) faw
              replace fkw := khv2 _ _ (fun q => by have z9 := fkw; rw [q] at z9; have := z9.symm.trans hY; first | cases this | simp at this) fkw
              replace fvw := khv2 _ _ (fun q => by have z9 := fvw; rw [q] at z9; have := z9.symm.trans hY; first | cases this | simp at this) fvw
              replace faj := khv2 _ _ (fun q => by have z9 := faj; rw [q] at z9; have := z9.symm.trans hY; first | cases this | simp at this) faj
              replace fkj := khv2 _ _ (fun q => by have z9 := fkj; rw [q] at z9; have := z9.symm.trans hY; first | cases this | simp at this) fkj
              replace fvj := khv2 _ _ (fun q => by have z9 := fvj; rw [q] at z9; have := z9.symm.trans hY; first | cases this | simp at this) fvj
              replace hY : hv2 y = some (.inr (8, [.ref ms, .ref mb, .ref (ra 28), .int gr, .int (nI 2), .int ca, .int mv, .ref od, .ref pt, .int ct, .int fau, .ref fi, .ref re, .int cs, .ref rc, .ref rs, .ref so, .ref ot, .ref cn, .ref la, .int ce, .ref ro, .int rn])) := by rw [ehv2]; exact qs_self
              clear ehv2
              replace fr := fun b o hb n1 n2 => khv2 b o n1 (fr b o hb n1 n2)
              refine lv_if_ne (tgt := 44) hx hb dX8_put__39 (by decide) (fun c39 => ?_) (fun c39 => ?_)
              · replace c39 : ¬ 0 = 0 := fun zq => c39 ((nI_eq (a := 0) (b := 0) (by omega) (by omega)).mpr zq)
                exfalso; omega
              · replace c39 : 0 = 0 := (nI_eq (a := 0) (b := 0) (by omega) (by omega)).mp c39
                refine lv_iconst (v := nI 0) hx hb dX8_put__42 (by decide) ?_
                have ex : xs_put gr S (nI i) (nI j) p2 p3 = (2, S, 0) := by (unfold xs_put; rw [if_neg (by simp [ebi, ebj]), ecj, if_pos (by simp [hoj])])
                obtain ⟨m9, f9⟩ := hM.fin0 hY0 (h' := hv2) ⟨hRw.1, hRw.2.1, hRw.2.2.1, faw, fkw, fvw⟩ fr
                exact q_iret C hP hS ⟨by first | (rw [ex]; done) | (rw [ex]; rfl), by rw [ex]; exact hY, by first | exact m9 | (rw [ex]; exact m9), f9⟩ (by omega) dX8_put__43
            | true =>
              refine lv_iconst (v := nI 2) hx hb dX8_put__35 (by decide) ?_
              refine q_callV (rest := []) C (c_X8_good1 l D cy N0 hv1 y ms mb (ra 28) od pt fi re rc rs so ot cn la ro gr 0 ca mv ct fau cs ce rn (nI 2) hY) kX8_good g1249 g1251 rfl gp41 g4 hP hS hY (by first | decide | omega) hl.1 rfl (by decide) (by first | decide | omega) dX8_put__36 (fun q ce E h' H1 locs1 hE => hE.elim) (fun v hh6 H locs hq hP hS => ?_)
              obtain ⟨rfl, rfl⟩ := hq
              replace hP : qP D N0 (qs hv1 y (.inr (8, [.ref ms, .ref mb, .ref (ra 28), .int gr, .int 0, .int ca, .int mv, .ref od, .ref pt, .int ct, .int fau, .ref fi, .ref re, .int cs, .ref rc, .ref rs, .ref so, .ref ot, .ref cn, .ref la, .int ce, .ref ro, .int rn]))) H := hP
              obtain ⟨hv3, ehv3⟩ : ∃ z : qH, z = qs hv1 y (.inr (8, [.ref ms, .ref mb, .ref (ra 28), .int gr, .int 0, .int ca, .int mv, .ref od, .ref pt, .int ct, .int fau, .ref fi, .ref re, .int cs, .ref rc, .ref rs, .ref so, .ref ot, .ref cn, .ref la, .int ce, .ref ro, .int rn])) := ⟨_, rfl⟩
              rw [← ehv3] at hP
              have khv3 : ∀ b o, b ≠ y → hv1 b = some o → hv3 b = some o := by rw [ehv3]; exact fun b o nb hb => (qs_ne nb).trans hb
              replace hms := khv3 _ _ (fun q => by subst q; have := hms.symm.trans hY; first | cases this | simp at this) hms
              replace hmb := khv3 _ _ (fun q => by subst q; have := hmb.symm.trans hY; first | cases this | simp at this) hmb
              replace faw := khv3 _ _ (fun q => by have z9 := faw; rw [q] at z9; have := z9.symm.trans hY; first | cases this | simp at this) faw
              replace fkw := khv3 _ _ (fun q => by have z9 := fkw; rw [q] at z9; have := z9.symm.trans hY; first | cases this | simp at this) fkw
              replace fvw := khv3 _ _ (fun q => by have z9 := fvw; rw [q] at z9; have := z9.symm.trans hY; first | cases this | simp at this) fvw
              replace faj := khv3 _ _ (fun q => by have z9 := faj; rw [q] at z9; have := z9.symm.trans hY; first | cases this | simp at this) faj
              replace fkj := khv3 _ _ (fun q => by have z9 := fkj; rw [q] at z9; have := z9.symm.trans hY; first | cases this | simp at this) fkj
              replace fvj := khv3 _ _ (fun q => by have z9 := fvj; rw [q] at z9; have := z9.symm.trans hY; first | cases this | simp at this) fvj
              replace hY : hv3 y = some (.inr (8, [.ref ms, .ref mb, .ref (ra 28), .int gr, .int 0, .int ca, .int mv, .ref od, .ref pt, .int ct, .int fau, .ref fi, .ref re, .int cs, .ref rc, .ref rs, .ref so, .ref ot, .ref cn, .ref la, .int ce, .ref ro, .int rn])) := by rw [ehv3]; exact qs_self
              clear ehv3
              replace fr := fun b o hb n1 n2 => khv3 b o n1 (fr b o hb n1 n2)
              refine lv_if_ne (tgt := 44) hx hb dX8_put__39 (by decide) (fun c39 => ?_) (fun c39 => ?_)
              · replace c39 : ¬ 1 = 0 := fun zq => c39 ((nI_eq (a := 1) (b := 0) (by omega) (by omega)).mpr zq)
                refine lv_aload_n hx hb dX8_put__44 rfl (lv_at hl 0 rfl) ?_
                refine q_get C hP hY rfl inX8 0 (by decide) g1167 rfl dX8_put__45 ?_
                refine lv_iload_n hx hb dX8_put__48 rfl (lv_at hl 2 rfl) ?_
                refine q_aaldR C hP hms rfl (by omega) (by omega) rfl dX8_put__49 ?_
                refine lv_aload_n hx hb dX8_put__50 rfl (lv_at hl 0 rfl) ?_
                refine q_get C hP hY rfl inX8 2 (by decide) g1169 rfl dX8_put__51 ?_
                refine q_callS (rest := []) C (c_X8_copy l D cy N0 hv3 (ra j) (rk j) (rv j) (S j).1 (nI (S j).2.2.1) (nI (S j).2.2.2) rwj nj Fj Gj (ra 28) (rk 28) (rv 28) kdw smw dpw rww nw fw gw ⟨hRj.1, hRj.2.1, hRj.2.2.1, faj, fkj, fvj⟩ ⟨hRw.1, hRw.2.1, hRw.2.2.1, faw, fkw, fvw⟩ apj (by omega)) kX8_copy g1257 g1258 hP hS (by first | decide | omega) hl.1 rfl (by decide) (by first | decide | omega) dX8_put__54 (fun q ce E h' H1 locs1 hE => hE.elim) (fun v hh7 H locs hq hP hS => ?_)
                obtain ⟨rfl, rfl⟩ := hq
                obtain ⟨hv4, ehv4⟩ : ∃ z : qH, z = qRh cy hv3 (ra 28) (rk 28) (rv 28) ((S j).1) (nI nj) (nI (S j).2.2.1) (nI (S j).2.2.2) rwj (qCp Fj fw nj) (qCp Gj gw nj) := ⟨_, rfl⟩
                rw [← ehv4] at hP
                have r9 : qRw cy hv4 (ra 28) (rk 28) (rv 28) ((S j).1) (nI nj) (nI (S j).2.2.1) (nI (S j).2.2.2) rwj (qCp Fj fw nj) (qCp Gj gw nj) := by rw [ehv4]; exact qRw.new (cy := cy) (h := hv3) (kd := kdw) (n := (nI nw)) (sm := smw) (dp := dpw) (rw := rww) (f := fw) (g := gw) ⟨hRw.1, hRw.2.1, hRw.2.2.1, faw, fkw, fvw⟩
                have khv4 : ∀ b o, qOf (ra 28) (rk 28) (rv 28) b → hv3 b = some o → hv4 b = some o := by rw [ehv4]; exact fun b o q hb => (qRh_o q.1 q.2.1 q.2.2).trans hb
                replace hY := khv4 _ _ ⟨fun q => by rw [q] at hY; have := faw.symm.trans hY; first | cases this | simp at this, fun q => by rw [q] at hY; have := fkw.symm.trans hY; first | cases this | simp at this, fun q => by rw [q] at hY; have := fvw.symm.trans hY; first | cases this | simp at this⟩ hY
                replace hms := khv4 _ _ ⟨fun q => by rw [q] at hms; have := faw.symm.trans hms; first | cases this | simp at this, fun q => by rw [q] at hms; have := fkw.symm.trans hms; first | cases this | simp at this, fun q => by rw [q] at hms; have := fvw.symm.trans hms; first | cases this | simp at this⟩ hms
                replace hmb := khv4 _ _ ⟨fun q => by rw [q] at hmb; have := faw.symm.trans hmb; first | cases this | simp at this, fun q => by rw [q] at hmb; have := fkw.symm.trans hmb; first | cases this | simp at this, fun q => by rw [q] at hmb; have := fvw.symm.trans hmb; first | cases this | simp at this⟩ hmb
                replace faj := khv4 _ _ apj.1 faj
                replace fkj := khv4 _ _ apj.2.1 fkj
                replace fvj := khv4 _ _ apj.2.2 fvj
                replace fr := fun b o hb n1 n2 => khv4 b o n2 (fr b o hb n1 n2)
                clear faw fkw fvw
                have faw := r9.2.2.2.1
                have fkw := r9.2.2.2.2.1
                have fvw := r9.2.2.2.2.2
                unfold qRb at faw
                unfold qJr at fkw fvw
                clear r9 ehv4
                have lw : qLs ((S j).1) (qCp Fj fw nj) (qCp Gj gw nj) nj = (S j).2.1 := by rw [qLs_cp]; exact hLj.symm
                refine lv_aload_n hx hb dX8_put__57 rfl (lv_at hl 0 rfl) ?_
                refine q_get C hP hY rfl inX8 2 (by decide) g1169 rfl dX8_put__58 ?_
                refine lv_lload_n hx hb dX8_put__61 rfl (lv_at hl 3 rfl) ?_
                refine lv_lload hx hb dX8_put__62 (lv_at hl 4 rfl) ?_
                refine lv_iconst (v := nI 0) hx hb dX8_put__64 (by decide) ?_
                refine q_callS (rest := []) C (c_X8_put l D cy N0 hv4 (ra 28) (rk 28) (rv 28) ((S j).1) (nI (S j).2.2.1) (nI (S j).2.2.2) rwj nj (qCp Fj fw nj) (qCp Gj gw nj) p2 p3 0 ⟨hRw.1, hRw.2.1, hRw.2.2.1, faw, fkw, fvw⟩ (by omega) (by decide)) kX8_put g1276 g1277 hP hS (by first | decide | omega) hl.1 rfl (by decide) (by first | decide | omega) dX8_put__65 (fun q ce E h' H1 locs1 hE => hE.elim) (fun v hh8 H locs hq hP hS => ?_)
                obtain ⟨rfl, hq⟩ := hq
                rcases hq with ⟨hz9, j9, hj9, e9, m9, rfl⟩ | ⟨hno9, p9, hp9, hs9, ht9, rfl⟩
                · obtain ⟨hv5, ehv5⟩ : ∃ z : qH, z = qRh cy hv4 (ra 28) (rk 28) (rv 28) ((S j).1) (nI nj) (nI (S j).2.2.1) (nI (S j).2.2.2) rwj (qCp Fj fw nj) (vp_updL (qCp Gj gw nj) j9 p3) := ⟨_, rfl⟩
                  rw [← ehv5] at hP
                  have r9 : qRw cy hv5 (ra 28) (rk 28) (rv 28) ((S j).1) (nI nj) (nI (S j).2.2.1) (nI (S j).2.2.2) rwj (qCp Fj fw nj) (vp_updL (qCp Gj gw nj) j9 p3) := by rw [ehv5]; exact qRw.new (cy := cy) (h := hv4) (kd := (S j).1) (n := (nI nj)) (sm := (nI (S j).2.2.1)) (dp := (nI (S j).2.2.2)) (rw := rwj) (f := (qCp Fj fw nj)) (g := (qCp Gj gw nj)) ⟨hRw.1, hRw.2.1, hRw.2.2.1, faw, fkw, fvw⟩
                  have khv5 : ∀ b o, qOf (ra 28) (rk 28) (rv 28) b → hv4 b = some o → hv5 b = some o := by rw [ehv5]; exact fun b o q hb => (qRh_o q.1 q.2.1 q.2.2).trans hb
                  replace hY := khv5 _ _ ⟨fun q => by rw [q] at hY; have := faw.symm.trans hY; first | cases this | simp at this, fun q => by rw [q] at hY; have := fkw.symm.trans hY; first | cases this | simp at this, fun q => by rw [q] at hY; have := fvw.symm.trans hY; first | cases this | simp at this⟩ hY
                  replace hms := khv5 _ _ ⟨fun q => by rw [q] at hms; have := faw.symm.trans hms; first | cases this | simp at this, fun q => by rw [q] at hms; have := fkw.symm.trans hms; first | cases this | simp at this, fun q => by rw [q] at hms; have := fvw.symm.trans hms; first | cases this | simp at this⟩ hms
                  replace hmb := khv5 _ _ ⟨fun q => by rw [q] at hmb; have := faw.symm.trans hmb; first | cases this | simp at this, fun q => by rw [q] at hmb; have := fkw.symm.trans hmb; first | cases this | simp at this, fun q => by rw [q] at hmb; have := fvw.symm.trans hmb; first | cases this | simp at this⟩ hmb
                  replace faj := khv5 _ _ apj.1 faj
                  replace fkj := khv5 _ _ apj.2.1 fkj
                  replace fvj := khv5 _ _ apj.2.2 fvj
                  replace fr := fun b o hb n1 n2 => khv5 b o n2 (fr b o hb n1 n2)
                  clear faw fkw fvw
                  have faw := r9.2.2.2.1
                  have fkw := r9.2.2.2.2.1
                  have fvw := r9.2.2.2.2.2
                  unfold qRb at faw
                  unfold qJr at fkw fvw
                  clear r9 ehv5
                  replace lw : qLs ((S j).1) (qCp Fj fw nj) (vp_updL (qCp Gj gw nj) j9 p3) nj = xPut ((S j).1) false ((S j).2.1) p2 (xV ((S j).1) p3) := by rw [qLs_re (lw ▸ (hI j (by omega)).2.1 ((bHo_10 (hI j (by omega)).2.2 hoj).elim Or.inl (fun z => Or.inr (Or.inr z)))) hj9 e9, lw, xPut, if_pos ⟨rfl, by rw [← lw]; exact xHas_t hj9 e9⟩]
                  refine lv_aload_n hx hb dX8_put__68 rfl (lv_at hl 0 rfl) ?_
                  refine lv_aload_n hx hb dX8_put__69 rfl (lv_at hl 0 rfl) ?_
                  refine q_get C hP hY rfl inX8 2 (by decide) g1169 rfl dX8_put__70 ?_
                  refine q_get C hP faw rfl inX7 3 (by decide) g1143 rfl dX8_put__73 ?_
                  refine lv_sipush (v := nI 1000) hx hb dX8_put__76 (by decide) ?_
                  refine lv_icmp_gt (tgt := 98) hx hb dX8_put__79 (by decide) (fun c79 => ?_) (fun c79 => ?_)
                  · replace c79 : 1000 < nj := (nI_ltI (a := 1000) (b := nj) (by omega) (by omega)).mp c79
                    refine lv_iconst (v := nI 0) hx hb dX8_put__98 (by decide) ?_
                    refine lv_iconst (v := nI 3) hx hb dX8_put__99 (by decide) ?_
                    refine q_callV (rest := []) C (c_X8_good0 l D cy N0 hv5 y ms mb (ra 28) od pt fi re rc rs so ot cn la ro gr 0 ca mv ct fau cs ce rn (nI 3) hY) kX8_good g1249 g1251 rfl gp41 g4 hP hS hY (by first | decide | omega) hl.1 rfl (by decide) (by first | decide | omega) dX8_put__100 (fun q ce E h' H1 locs1 hE => hE.elim) (fun v hh9 H locs hq hP hS => ?_)
                    obtain ⟨rfl, rfl⟩ := hq
                    replace hP : qP D N0 (qs hv5 y (.inr (8, [.ref ms, .ref mb, .ref (ra 28), .int gr, .int (nI 3), .int ca, .int mv, .ref od, .ref pt, .int ct, .int fau, .ref fi, .ref re, .int cs, .ref rc, .ref rs, .ref so, .ref ot, .ref cn, .ref la, .int ce, .ref ro, .int rn]))) H := hP
                    obtain ⟨hv6, ehv6⟩ : ∃ z : qH, z = qs hv5 y (.inr (8, [.ref ms, .ref mb, .ref (ra 28), .int gr, .int (nI 3), .int ca, .int mv, .ref od, .ref pt, .int ct, .int fau, .ref fi, .ref re, .int cs, .ref rc, .ref rs, .ref so, .ref ot, .ref cn, .ref la, .int ce, .ref ro, .int rn])) := ⟨_, rfl⟩
                    rw [← ehv6] at hP
                    have khv6 : ∀ b o, b ≠ y → hv5 b = some o → hv6 b = some o := by rw [ehv6]; exact fun b o nb hb => (qs_ne nb).trans hb
                    replace hms := khv6 _ _ (fun q => by subst q; have := hms.symm.trans hY; first | cases this | simp at this) hms
                    replace hmb := khv6 _ _ (fun q => by subst q; have := hmb.symm.trans hY; first | cases this | simp at this) hmb
                    replace faw := khv6 _ _ (fun q => by have z9 := faw; rw [q] at z9; have := z9.symm.trans hY; first | cases this | simp at this) faw
                    replace fkw := khv6 _ _ (fun q => by have z9 := fkw; rw [q] at z9; have := z9.symm.trans hY; first | cases this | simp at this) fkw
                    replace fvw := khv6 _ _ (fun q => by have z9 := fvw; rw [q] at z9; have := z9.symm.trans hY; first | cases this | simp at this) fvw
                    replace faj := khv6 _ _ (fun q => by have z9 := faj; rw [q] at z9; have := z9.symm.trans hY; first | cases this | simp at this) faj
                    replace fkj := khv6 _ _ (fun q => by have z9 := fkj; rw [q] at z9; have := z9.symm.trans hY; first | cases this | simp at this) fkj
                    replace fvj := khv6 _ _ (fun q => by have z9 := fvj; rw [q] at z9; have := z9.symm.trans hY; first | cases this | simp at this) fvj
                    replace hY : hv6 y = some (.inr (8, [.ref ms, .ref mb, .ref (ra 28), .int gr, .int (nI 3), .int ca, .int mv, .ref od, .ref pt, .int ct, .int fau, .ref fi, .ref re, .int cs, .ref rc, .ref rs, .ref so, .ref ot, .ref cn, .ref la, .int ce, .ref ro, .int rn])) := by rw [ehv6]; exact qs_self
                    clear ehv6
                    replace fr := fun b o hb n1 n2 => khv6 b o n1 (fr b o hb n1 n2)
                    refine lv_if_ne (tgt := 108) hx hb dX8_put__103 (by decide) (fun c103 => ?_) (fun c103 => ?_)
                    · replace c103 : ¬ 0 = 0 := fun zq => c103 ((nI_eq (a := 0) (b := 0) (by omega) (by omega)).mpr zq)
                      exfalso; omega
                    · replace c103 : 0 = 0 := (nI_eq (a := 0) (b := 0) (by omega) (by omega)).mp c103
                      refine lv_iconst (v := nI 0) hx hb dX8_put__106 (by decide) ?_
                      have el : (xPut ((S j).1) false ((S j).2.1) p2 (xV ((S j).1) p3)).length = nj := by rw [← lw, qLs_len]
                      have ex : xs_put gr S (nI i) (nI j) p2 p3 = (3, S, 0) := by (unfold xs_put; rw [if_neg (by simp [ebi, ebj]), ecj, if_neg (by simp [hoj]), eci]; unfold xr_put; rw [if_pos (by first | exact Or.inl (by omega) | exact Or.inr cr)])
                      obtain ⟨m9, f9⟩ := hM.fin0 hY0 (h' := hv6) ⟨hRw.1, hRw.2.1, hRw.2.2.1, faw, fkw, fvw⟩ fr
                      exact q_iret C hP hS ⟨by first | (rw [ex]; done) | (rw [ex]; rfl), by rw [ex]; exact hY, by first | exact m9 | (rw [ex]; exact m9), f9⟩ (by omega) dX8_put__107
                  · replace c79 : ¬ 1000 < nj := fun zq => c79 ((nI_ltI (a := 1000) (b := nj) (by omega) (by omega)).mpr zq)
                    refine lv_aload_n hx hb dX8_put__82 rfl (lv_at hl 0 rfl) ?_
                    refine lv_aload_n hx hb dX8_put__83 rfl (lv_at hl 0 rfl) ?_
                    refine q_get C hP hY rfl inX8 2 (by decide) g1169 rfl dX8_put__84 ?_
                    refine lv_lload_n hx hb dX8_put__87 rfl (lv_at hl 3 rfl) ?_
                    refine q_callV (rest := [.ref y]) C (c_X8_crowded l D cy N0 hv5 y ms mb (ra 28) od pt fi re rc rs so ot cn la ro gr 0 ca mv ct fau cs ce rn (ra 28) (rk 28) (rv 28) ((S j).1) (nI (S j).2.2.1) (nI (S j).2.2.2) rwj nj (qCp Fj fw nj) (vp_updL (qCp Gj gw nj) j9 p3) p2 hY ⟨hRw.1, hRw.2.1, hRw.2.2.1, faw, fkw, fvw⟩ (by omega)) kX8_crowded g1285 g1287 rfl gp43 g4 hP hS hY (by first | decide | omega) hl.1 rfl (by simp [q_catrf, q_cati, q_catl, q_cata, q_catn]) (by first | decide | omega) dX8_put__88 (fun q ce E h' H1 locs1 hE => hE.elim) (fun v hh10 H locs hq hP hS => ?_)
                    obtain ⟨rfl, rfl⟩ := hq
                    rw [xAl_row (kd := (S j).1) (g := (vp_updL (qCp Gj gw nj) j9 p3)), lw]
                    by_cases cr : 16 < xAl gr (xPut ((S j).1) false ((S j).2.1) p2 (xV ((S j).1) p3)) p2 ∧ (((S j).1) = 1 ∨ ((S j).1) = 2)
                    · rw [if_pos cr]
                      refine lv_if_ne (tgt := 98) hx hb dX8_put__91 (by decide) (fun c91 => ?_) (fun c91 => ?_)
                      · replace c91 : ¬ 1 = 0 := fun zq => c91 ((nI_eq (a := 1) (b := 0) (by omega) (by omega)).mpr zq)
                        refine lv_iconst (v := nI 0) hx hb dX8_put__98 (by decide) ?_
                        refine lv_iconst (v := nI 3) hx hb dX8_put__99 (by decide) ?_
                        refine q_callV (rest := []) C (c_X8_good0 l D cy N0 hv5 y ms mb (ra 28) od pt fi re rc rs so ot cn la ro gr 0 ca mv ct fau cs ce rn (nI 3) hY) kX8_good g1249 g1251 rfl gp41 g4 hP hS hY (by first | decide | omega) hl.1 rfl (by decide) (by first | decide | omega) dX8_put__100 (fun q ce E h' H1 locs1 hE => hE.elim) (fun v hh11 H locs hq hP hS => ?_)
                        obtain ⟨rfl, rfl⟩ := hq
                        replace hP : qP D N0 (qs hv5 y (.inr (8, [.ref ms, .ref mb, .ref (ra 28), .int gr, .int (nI 3), .int ca, .int mv, .ref od, .ref pt, .int ct, .int fau, .ref fi, .ref re, .int cs, .ref rc, .ref rs, .ref so, .ref ot, .ref cn, .ref la, .int ce, .ref ro, .int rn]))) H := hP
                        obtain ⟨hv7, ehv7⟩ : ∃ z : qH, z = qs hv5 y (.inr (8, [.ref ms, .ref mb, .ref (ra 28), .int gr, .int (nI 3), .int ca, .int mv, .ref od, .ref pt, .int ct, .int fau, .ref fi, .ref re, .int cs, .ref rc, .ref rs, .ref so, .ref ot, .ref cn, .ref la, .int ce, .ref ro, .int rn])) := ⟨_, rfl⟩
                        rw [← ehv7] at hP
                        have khv7 : ∀ b o, b ≠ y → hv5 b = some o → hv7 b = some o := by rw [ehv7]; exact fun b o nb hb => (qs_ne nb).trans hb
                        replace hms := khv7 _ _ (fun q => by subst q; have := hms.symm.trans hY; first | cases this | simp at this) hms
                        replace hmb := khv7 _ _ (fun q => by subst q; have := hmb.symm.trans hY; first | cases this | simp at this) hmb
                        replace faw := khv7 _ _ (fun q => by have z9 := faw; rw [q] at z9; have := z9.symm.trans hY; first | cases this | simp at this) faw
                        replace fkw := khv7 _ _ (fun q => by have z9 := fkw; rw [q] at z9; have := z9.symm.trans hY; first | cases this | simp at this) fkw
                        replace fvw := khv7 _ _ (fun q => by have z9 := fvw; rw [q] at z9; have := z9.symm.trans hY; first | cases this | simp at this) fvw
                        replace faj := khv7 _ _ (fun q => by have z9 := faj; rw [q] at z9; have := z9.symm.trans hY; first | cases this | simp at this) faj
                        replace fkj := khv7 _ _ (fun q => by have z9 := fkj; rw [q] at z9; have := z9.symm.trans hY; first | cases this | simp at this) fkj
                        replace fvj := khv7 _ _ (fun q => by have z9 := fvj; rw [q] at z9; have := z9.symm.trans hY; first | cases this | simp at this) fvj
                        replace hY : hv7 y = some (.inr (8, [.ref ms, .ref mb, .ref (ra 28), .int gr, .int (nI 3), .int ca, .int mv, .ref od, .ref pt, .int ct, .int fau, .ref fi, .ref re, .int cs, .ref rc, .ref rs, .ref so, .ref ot, .ref cn, .ref la, .int ce, .ref ro, .int rn])) := by rw [ehv7]; exact qs_self
                        clear ehv7
                        replace fr := fun b o hb n1 n2 => khv7 b o n1 (fr b o hb n1 n2)
                        refine lv_if_ne (tgt := 108) hx hb dX8_put__103 (by decide) (fun c103 => ?_) (fun c103 => ?_)
                        · replace c103 : ¬ 0 = 0 := fun zq => c103 ((nI_eq (a := 0) (b := 0) (by omega) (by omega)).mpr zq)
                          exfalso; omega
                        · replace c103 : 0 = 0 := (nI_eq (a := 0) (b := 0) (by omega) (by omega)).mp c103
                          refine lv_iconst (v := nI 0) hx hb dX8_put__106 (by decide) ?_
                          have el : (xPut ((S j).1) false ((S j).2.1) p2 (xV ((S j).1) p3)).length = nj := by rw [← lw, qLs_len]
                          have ex : xs_put gr S (nI i) (nI j) p2 p3 = (3, S, 0) := by (unfold xs_put; rw [if_neg (by simp [ebi, ebj]), ecj, if_neg (by simp [hoj]), eci]; unfold xr_put; rw [if_pos (by first | exact Or.inl (by omega) | exact Or.inr cr)])
                          obtain ⟨m9, f9⟩ := hM.fin0 hY0 (h' := hv7) ⟨hRw.1, hRw.2.1, hRw.2.2.1, faw, fkw, fvw⟩ fr
                          exact q_iret C hP hS ⟨by first | (rw [ex]; done) | (rw [ex]; rfl), by rw [ex]; exact hY, by first | exact m9 | (rw [ex]; exact m9), f9⟩ (by omega) dX8_put__107
                      · replace c91 : 1 = 0 := (nI_eq (a := 1) (b := 0) (by omega) (by omega)).mp c91
                        exfalso; omega
                    · rw [if_neg cr]
                      refine lv_if_ne (tgt := 98) hx hb dX8_put__91 (by decide) (fun c91 => ?_) (fun c91 => ?_)
                      · replace c91 : ¬ 0 = 0 := fun zq => c91 ((nI_eq (a := 0) (b := 0) (by omega) (by omega)).mpr zq)
                        exfalso; omega
                      · replace c91 : 0 = 0 := (nI_eq (a := 0) (b := 0) (by omega) (by omega)).mp c91
                        refine lv_iconst (v := nI 1) hx hb dX8_put__94 (by decide) ?_
                        refine lv_goto (tgt := 99) hx hb dX8_put__95 (by decide) ?_
                        refine lv_iconst (v := nI 3) hx hb dX8_put__99 (by decide) ?_
                        refine q_callV (rest := []) C (c_X8_good1 l D cy N0 hv5 y ms mb (ra 28) od pt fi re rc rs so ot cn la ro gr 0 ca mv ct fau cs ce rn (nI 3) hY) kX8_good g1249 g1251 rfl gp41 g4 hP hS hY (by first | decide | omega) hl.1 rfl (by decide) (by first | decide | omega) dX8_put__100 (fun q ce E h' H1 locs1 hE => hE.elim) (fun v hh12 H locs hq hP hS => ?_)
                        obtain ⟨rfl, rfl⟩ := hq
                        replace hP : qP D N0 (qs hv5 y (.inr (8, [.ref ms, .ref mb, .ref (ra 28), .int gr, .int 0, .int ca, .int mv, .ref od, .ref pt, .int ct, .int fau, .ref fi, .ref re, .int cs, .ref rc, .ref rs, .ref so, .ref ot, .ref cn, .ref la, .int ce, .ref ro, .int rn]))) H := hP
                        obtain ⟨hv8, ehv8⟩ : ∃ z : qH, z = qs hv5 y (.inr (8, [.ref ms, .ref mb, .ref (ra 28), .int gr, .int 0, .int ca, .int mv, .ref od, .ref pt, .int ct, .int fau, .ref fi, .ref re, .int cs, .ref rc, .ref rs, .ref so, .ref ot, .ref cn, .ref la, .int ce, .ref ro, .int rn])) := ⟨_, rfl⟩
                        rw [← ehv8] at hP
                        have khv8 : ∀ b o, b ≠ y → hv5 b = some o → hv8 b = some o := by rw [ehv8]; exact fun b o nb hb => (qs_ne nb).trans hb
                        replace hms := khv8 _ _ (fun q => by subst q; have := hms.symm.trans hY; first | cases this | simp at this) hms
                        replace hmb := khv8 _ _ (fun q => by subst q; have := hmb.symm.trans hY; first | cases this | simp at this) hmb
                        replace faw := khv8 _ _ (fun q => by have z9 := faw; rw [q] at z9; have := z9.symm.trans hY; first | cases this | simp at this) faw
                        replace fkw := khv8 _ _ (fun q => by have z9 := fkw; rw [q] at z9; have := z9.symm.trans hY; first | cases this | simp at this) fkw
                        replace fvw := khv8 _ _ (fun q => by have z9 := fvw; rw [q] at z9; have := z9.symm.trans hY; first | cases this | simp at this) fvw
                        replace faj := khv8 _ _ (fun q => by have z9 := faj; rw [q] at z9; have := z9.symm.trans hY; first | cases this | simp at this) faj
                        replace fkj := khv8 _ _ (fun q => by have z9 := fkj; rw [q] at z9; have := z9.symm.trans hY; first | cases this | simp at this) fkj
                        replace fvj := khv8 _ _ (fun q => by have z9 := fvj; rw [q] at z9; have := z9.symm.trans hY; first | cases this | simp at this) fvj
                        replace hY : hv8 y = some (.inr (8, [.ref ms, .ref mb, .ref (ra 28), .int gr, .int 0, .int ca, .int mv, .ref od, .ref pt, .int ct, .int fau, .ref fi, .ref re, .int cs, .ref rc, .ref rs, .ref so, .ref ot, .ref cn, .ref la, .int ce, .ref ro, .int rn])) := by rw [ehv8]; exact qs_self
                        clear ehv8
                        replace fr := fun b o hb n1 n2 => khv8 b o n1 (fr b o hb n1 n2)
                        refine lv_if_ne (tgt := 108) hx hb dX8_put__103 (by decide) (fun c103 => ?_) (fun c103 => ?_)
                        · replace c103 : ¬ 1 = 0 := fun zq => c103 ((nI_eq (a := 1) (b := 0) (by omega) (by omega)).mpr zq)
                          refine lv_aload_n hx hb dX8_put__108 rfl (lv_at hl 0 rfl) ?_
                          refine lv_iload_n hx hb dX8_put__109 rfl (lv_at hl 1 rfl) ?_
                          refine lv_iconst (v := nI 0) hx hb dX8_put__110 (by decide) ?_
                          obtain ⟨ni, rwi, Fi, Gi, hRi, hni, hLi, hKi⟩ := hrs i (by omega)
                          have api := hRi.apart hRw (hmd.two (i := i) (j := 28) (by omega) (by omega) (by omega))
                          replace hRi := hRi.keep2 (fun b o hb ho => fr b o ho (hRi.ney hY0 hb) (hb.elim (fun q => q ▸ api.1) (fun hb => hb.elim (fun q => q ▸ api.2.1) (fun q => q ▸ api.2.2))))
                          have fai := hRi.2.2.2.1
                          have fki := hRi.2.2.2.2.1
                          have fvi := hRi.2.2.2.2.2
                          unfold qRb at fai
                          unfold qJr at fki fvi
                          refine q_callV (rest := []) C (c_X8_done l D cy N0 hv8 y ms mb od pt fi re rc rs so ot cn la ro gr 0 ca mv ct fau cs ce rn ra rk rv i (nI 0) (S j).1 (nI (S j).2.2.1) (nI (S j).2.2.2) rwj nj (qCp Fj fw nj) (vp_updL (qCp Gj gw nj) j9 p3) (S i).1 (nI (S i).2.2.1) (nI (S i).2.2.2) rwi ni Fi Gi hY hms hmd ⟨hRw.1, hRw.2.1, hRw.2.2.1, faw, fkw, fvw⟩ ⟨hRi.1, hRi.2.1, hRi.2.2.1, fai, fki, fvi⟩ (by omega) (by omega)) kX8_done g1293 g1295 rfl gp45 g4 hP hS hY (by first | decide | omega) hl.1 rfl (by decide) (by first | decide | omega) dX8_put__111 (fun q ce E h' H1 locs1 hE => hE.elim) (fun v hh13 H locs hq hP hS => ?_)
                          obtain ⟨rfl, hY9, hw9, hi9, fr9⟩ := hq
                          replace fr := fun b o hb n1 n2 n3 => fr9 b o (fr b o hb n1 n2) n1 n2 n3
                          rw [show mv + nI 0 = mv from Int32.add_zero _] at hY9
                          have el : (xPut ((S j).1) false ((S j).2.1) p2 (xV ((S j).1) p3)).length = nj := by rw [← lw, qLs_len]
                          have ex : xs_put gr S (nI i) (nI j) p2 p3 = (0, qU S i ((S j).1, (xPut ((S j).1) false ((S j).2.1) p2 (xV ((S j).1) p3)), (S j).2.2), nI nj) := by (unfold xs_put; rw [if_neg (by simp [ebi, ebj]), ecj, if_neg (by simp [hoj]), eci]; unfold xr_put; rw [if_neg (fun z => by rcases z with z | z <;> first | omega | exact cr z), el])
                          obtain ⟨m9, f9⟩ := hM.fin hY0 (i := i) (by omega) (s := ((S j).1, (xPut ((S j).1) false ((S j).2.1) p2 (xV ((S j).1) p3)), (S j).2.2.1, (S j).2.2.2)) ⟨nj, _, _, _, hi9, by omega, by rw [qLs_cp]; exact lw.symm, Or.inl rfl⟩ hw9 fr
                          exact q_iret C hP hS ⟨by first | (rw [ex]; done) | (rw [ex]; rfl), by rw [ex]; exact hY9, by first | exact m9 | (rw [ex]; exact m9), f9⟩ (by omega) dX8_put__114
                        · replace c103 : 1 = 0 := (nI_eq (a := 1) (b := 0) (by omega) (by omega)).mp c103
                          exfalso; omega
                · obtain ⟨hv9, ehv9⟩ : ∃ z : qH, z = qRh cy hv4 (ra 28) (rk 28) (rv 28) ((S j).1) (nI (nj + 1)) (nI (S j).2.2.1) (nI (S j).2.2.2) rwj (vp_updL (qSh (qCp Fj fw nj) p9 nj) p9 p2) (vp_updL (qSh (qCp Gj gw nj) p9 nj) p9 p3) := ⟨_, rfl⟩
                  rw [← ehv9] at hP
                  have r9 : qRw cy hv9 (ra 28) (rk 28) (rv 28) ((S j).1) (nI (nj + 1)) (nI (S j).2.2.1) (nI (S j).2.2.2) rwj (vp_updL (qSh (qCp Fj fw nj) p9 nj) p9 p2) (vp_updL (qSh (qCp Gj gw nj) p9 nj) p9 p3) := by rw [ehv9]; exact qRw.new (cy := cy) (h := hv4) (kd := (S j).1) (n := (nI nj)) (sm := (nI (S j).2.2.1)) (dp := (nI (S j).2.2.2)) (rw := rwj) (f := (qCp Fj fw nj)) (g := (qCp Gj gw nj)) ⟨hRw.1, hRw.2.1, hRw.2.2.1, faw, fkw, fvw⟩
                  have khv9 : ∀ b o, qOf (ra 28) (rk 28) (rv 28) b → hv4 b = some o → hv9 b = some o := by rw [ehv9]; exact fun b o q hb => (qRh_o q.1 q.2.1 q.2.2).trans hb
                  replace hY := khv9 _ _ ⟨fun q => by rw [q] at hY; have := faw.symm.trans hY; first | cases this | simp at this, fun q => by rw [q] at hY; have := fkw.symm.trans hY; first | cases this | simp at this, fun q => by rw [q] at hY; have := fvw.symm.trans hY; first | cases this | simp at this⟩ hY
                  replace hms := khv9 _ _ ⟨fun q => by rw [q] at hms; have := faw.symm.trans hms; first | cases this | simp at this, fun q => by rw [q] at hms; have := fkw.symm.trans hms; first | cases this | simp at this, fun q => by rw [q] at hms; have := fvw.symm.trans hms; first | cases this | simp at this⟩ hms
                  replace hmb := khv9 _ _ ⟨fun q => by rw [q] at hmb; have := faw.symm.trans hmb; first | cases this | simp at this, fun q => by rw [q] at hmb; have := fkw.symm.trans hmb; first | cases this | simp at this, fun q => by rw [q] at hmb; have := fvw.symm.trans hmb; first | cases this | simp at this⟩ hmb
                  replace faj := khv9 _ _ apj.1 faj
                  replace fkj := khv9 _ _ apj.2.1 fkj
                  replace fvj := khv9 _ _ apj.2.2 fvj
                  replace fr := fun b o hb n1 n2 => khv9 b o n2 (fr b o hb n1 n2)
                  clear faw fkw fvw
                  have faw := r9.2.2.2.1
                  have fkw := r9.2.2.2.2.1
                  have fvw := r9.2.2.2.2.2
                  unfold qRb at faw
                  unfold qJr at fkw fvw
                  clear r9 ehv9
                  replace lw : qLs ((S j).1) (vp_updL (qSh (qCp Fj fw nj) p9 nj) p9 p2) (vp_updL (qSh (qCp Gj gw nj) p9 nj) p9 p3) (nj + 1) = xPut ((S j).1) false ((S j).2.1) p2 (xV ((S j).1) p3) := by
                    rw [xPut, if_neg (fun q => by have := q.2; rw [← lw, xHas_f (hno9.resolve_right (by decide))] at this; cases this), qLs_ins hp9]
                    by_cases z9 : ((S j).1) = 3 ∨ ((S j).1) = 5
                    · rw [if_pos z9, ← lw]; exact xSi_row (lw ▸ (hI j (by omega)).1 z9) hp9 (hs9 z9).1 (hs9 z9).2
                    · rw [if_neg z9, ht9 z9, lw, List.take_of_length_le (by rw [← lw, qLs_len]; omega), List.drop_of_length_le (by rw [← lw, qLs_len]; omega)]
                  refine lv_aload_n hx hb dX8_put__68 rfl (lv_at hl 0 rfl) ?_
                  refine lv_aload_n hx hb dX8_put__69 rfl (lv_at hl 0 rfl) ?_
                  refine q_get C hP hY rfl inX8 2 (by decide) g1169 rfl dX8_put__70 ?_
                  refine q_get C hP faw rfl inX7 3 (by decide) g1143 rfl dX8_put__73 ?_
                  refine lv_sipush (v := nI 1000) hx hb dX8_put__76 (by decide) ?_
                  refine lv_icmp_gt (tgt := 98) hx hb dX8_put__79 (by decide) (fun c79 => ?_) (fun c79 => ?_)
                  · replace c79 : 1000 < (nj + 1) := (nI_ltI (a := 1000) (b := (nj + 1)) (by omega) (by omega)).mp c79
                    refine lv_iconst (v := nI 0) hx hb dX8_put__98 (by decide) ?_
                    refine lv_iconst (v := nI 3) hx hb dX8_put__99 (by decide) ?_
                    refine q_callV (rest := []) C (c_X8_good0 l D cy N0 hv9 y ms mb (ra 28) od pt fi re rc rs so ot cn la ro gr 0 ca mv ct fau cs ce rn (nI 3) hY) kX8_good g1249 g1251 rfl gp41 g4 hP hS hY (by first | decide | omega) hl.1 rfl (by decide) (by first | decide | omega) dX8_put__100 (fun q ce E h' H1 locs1 hE => hE.elim) (fun v hh14 H locs hq hP hS => ?_)
                    obtain ⟨rfl, rfl⟩ := hq
                    replace hP : qP D N0 (qs hv9 y (.inr (8, [.ref ms, .ref mb, .ref (ra 28), .int gr, .int (nI 3), .int ca, .int mv, .ref od, .ref pt, .int ct, .int fau, .ref fi, .ref re, .int cs, .ref rc, .ref rs, .ref so, .ref ot, .ref cn, .ref la, .int ce, .ref ro, .int rn]))) H := hP
                    obtain ⟨hv10, ehv10⟩ : ∃ z : qH, z = qs hv9 y (.inr (8, [.ref ms, .ref mb, .ref (ra 28), .int gr, .int (nI 3), .int ca, .int mv, .ref od, .ref pt, .int ct, .int fau, .ref fi, .ref re, .int cs, .ref rc, .ref rs, .ref so, .ref ot, .ref cn, .ref la, .int ce, .ref ro, .int rn])) := ⟨_, rfl⟩
                    rw [← ehv10] at hP
                    have khv10 : ∀ b o, b ≠ y → hv9 b = some o → hv10 b = some o := by rw [ehv10]; exact fun b o nb hb => (qs_ne nb).trans hb
                    replace hms := khv10 _ _ (fun q => by subst q; have := hms.symm.trans hY; first | cases this | simp at this) hms
                    replace hmb := khv10 _ _ (fun q => by subst q; have := hmb.symm.trans hY; first | cases this | simp at this) hmb
                    replace faw := khv10 _ _ (fun q => by have z9 := faw; rw [q] at z9; have := z9.symm.trans hY; first | cases this | simp at this) faw
                    replace fkw := khv10 _ _ (fun q => by have z9 := fkw; rw [q] at z9; have := z9.symm.trans hY; first | cases this | simp at this) fkw
                    replace fvw := khv10 _ _ (fun q => by have z9 := fvw; rw [q] at z9; have := z9.symm.trans hY; first | cases this | simp at this) fvw
                    replace faj := khv10 _ _ (fun q => by have z9 := faj; rw [q] at z9; have := z9.symm.trans hY; first | cases this | simp at this) faj
                    replace fkj := khv10 _ _ (fun q => by have z9 := fkj; rw [q] at z9; have := z9.symm.trans hY; first | cases this | simp at this) fkj
                    replace fvj := khv10 _ _ (fun q => by have z9 := fvj; rw [q] at z9; have := z9.symm.trans hY; first | cases this | simp at this) fvj
                    replace hY : hv10 y = some (.inr (8, [.ref ms, .ref mb, .ref (ra 28), .int gr, .int (nI 3), .int ca, .int mv, .ref od, .ref pt, .int ct, .int fau, .ref fi, .ref re, .int cs, .ref rc, .ref rs, .ref so, .ref ot, .ref cn, .ref la, .int ce, .ref ro, .int rn])) := by rw [ehv10]; exact qs_self
                    clear ehv10
                    replace fr := fun b o hb n1 n2 => khv10 b o n1 (fr b o hb n1 n2)
                    refine lv_if_ne (tgt := 108) hx hb dX8_put__103 (by decide) (fun c103 => ?_) (fun c103 => ?_)
                    · replace c103 : ¬ 0 = 0 := fun zq => c103 ((nI_eq (a := 0) (b := 0) (by omega) (by omega)).mpr zq)
                      exfalso; omega
                    · replace c103 : 0 = 0 := (nI_eq (a := 0) (b := 0) (by omega) (by omega)).mp c103
                      refine lv_iconst (v := nI 0) hx hb dX8_put__106 (by decide) ?_
                      have el : (xPut ((S j).1) false ((S j).2.1) p2 (xV ((S j).1) p3)).length = (nj + 1) := by rw [← lw, qLs_len]
                      have ex : xs_put gr S (nI i) (nI j) p2 p3 = (3, S, 0) := by (unfold xs_put; rw [if_neg (by simp [ebi, ebj]), ecj, if_neg (by simp [hoj]), eci]; unfold xr_put; rw [if_pos (by first | exact Or.inl (by omega) | exact Or.inr cr)])
                      obtain ⟨m9, f9⟩ := hM.fin0 hY0 (h' := hv10) ⟨hRw.1, hRw.2.1, hRw.2.2.1, faw, fkw, fvw⟩ fr
                      exact q_iret C hP hS ⟨by first | (rw [ex]; done) | (rw [ex]; rfl), by rw [ex]; exact hY, by first | exact m9 | (rw [ex]; exact m9), f9⟩ (by omega) dX8_put__107
                  · replace c79 : ¬ 1000 < (nj + 1) := fun zq => c79 ((nI_ltI (a := 1000) (b := (nj + 1)) (by omega) (by omega)).mpr zq)
                    refine lv_aload_n hx hb dX8_put__82 rfl (lv_at hl 0 rfl) ?_
                    refine lv_aload_n hx hb dX8_put__83 rfl (lv_at hl 0 rfl) ?_
                    refine q_get C hP hY rfl inX8 2 (by decide) g1169 rfl dX8_put__84 ?_
                    refine lv_lload_n hx hb dX8_put__87 rfl (lv_at hl 3 rfl) ?_
                    refine q_callV (rest := [.ref y]) C (c_X8_crowded l D cy N0 hv9 y ms mb (ra 28) od pt fi re rc rs so ot cn la ro gr 0 ca mv ct fau cs ce rn (ra 28) (rk 28) (rv 28) ((S j).1) (nI (S j).2.2.1) (nI (S j).2.2.2) rwj (nj + 1) (vp_updL (qSh (qCp Fj fw nj) p9 nj) p9 p2) (vp_updL (qSh (qCp Gj gw nj) p9 nj) p9 p3) p2 hY ⟨hRw.1, hRw.2.1, hRw.2.2.1, faw, fkw, fvw⟩ (by omega)) kX8_crowded g1285 g1287 rfl gp43 g4 hP hS hY (by first | decide | omega) hl.1 rfl (by simp [q_catrf, q_cati, q_catl, q_cata, q_catn]) (by first | decide | omega) dX8_put__88 (fun q ce E h' H1 locs1 hE => hE.elim) (fun v hh15 H locs hq hP hS => ?_)
                    obtain ⟨rfl, rfl⟩ := hq
                    rw [xAl_row (kd := (S j).1) (g := (vp_updL (qSh (qCp Gj gw nj) p9 nj) p9 p3)), lw]
                    by_cases cr : 16 < xAl gr (xPut ((S j).1) false ((S j).2.1) p2 (xV ((S j).1) p3)) p2 ∧ (((S j).1) = 1 ∨ ((S j).1) = 2)
                    · rw [if_pos cr]
                      refine lv_if_ne (tgt := 98) hx hb dX8_put__91 (by decide) (fun c91 => ?_) (fun c91 => ?_)
                      · replace c91 : ¬ 1 = 0 := fun zq => c91 ((nI_eq (a := 1) (b := 0) (by omega) (by omega)).mpr zq)
                        refine lv_iconst (v := nI 0) hx hb dX8_put__98 (by decide) ?_
                        refine lv_iconst (v := nI 3) hx hb dX8_put__99 (by decide) ?_
                        refine q_callV (rest := []) C (c_X8_good0 l D cy N0 hv9 y ms mb (ra 28) od pt fi re rc rs so ot cn la ro gr 0 ca mv ct fau cs ce rn (nI 3) hY) kX8_good g1249 g1251 rfl gp41 g4 hP hS hY (by first | decide | omega) hl.1 rfl (by decide) (by first | decide | omega) dX8_put__100 (fun q ce E h' H1 locs1 hE => hE.elim) (fun v hh16 H locs hq hP hS => ?_)
                        obtain ⟨rfl, rfl⟩ := hq
                        replace hP : qP D N0 (qs hv9 y (.inr (8, [.ref ms, .ref mb, .ref (ra 28), .int gr, .int (nI 3), .int ca, .int mv, .ref od, .ref pt, .int ct, .int fau, .ref fi, .ref re, .int cs, .ref rc, .ref rs, .ref so, .ref ot, .ref cn, .ref la, .int ce, .ref ro, .int rn]))) H := hP
                        obtain ⟨hv11, ehv11⟩ : ∃ z : qH, z = qs hv9 y (.inr (8, [.ref ms, .ref mb, .ref (ra 28), .int gr, .int (nI 3), .int ca, .int mv, .ref od, .ref pt, .int ct, .int fau, .ref fi, .ref re, .int cs, .ref rc, .ref rs, .ref so, .ref ot, .ref cn, .ref la, .int ce, .ref ro, .int rn])) := ⟨_, rfl⟩
                        rw [← ehv11] at hP
                        have khv11 : ∀ b o, b ≠ y → hv9 b = some o → hv11 b = some o := by rw [ehv11]; exact fun b o nb hb => (qs_ne nb).trans hb
                        replace hms := khv11 _ _ (fun q => by subst q; have := hms.symm.trans hY; first | cases this | simp at this) hms
                        replace hmb := khv11 _ _ (fun q => by subst q; have := hmb.symm.trans hY; first | cases this | simp at this) hmb
                        replace faw := khv11 _ _ (fun q => by have z9 := faw; rw [q] at z9; have := z9.symm.trans hY; first | cases this | simp at this) faw
                        replace fkw := khv11 _ _ (fun q => by have z9 := fkw; rw [q] at z9; have := z9.symm.trans hY; first | cases this | simp at this) fkw
                        replace fvw := khv11 _ _ (fun q => by have z9 := fvw; rw [q] at z9; have := z9.symm.trans hY; first | cases this | simp at this) fvw
                        replace faj := khv11 _ _ (fun q => by have z9 := faj; rw [q] at z9; have := z9.symm.trans hY; first | cases this | simp at this) faj
                        replace fkj := khv11 _ _ (fun q => by have z9 := fkj; rw [q] at z9; have := z9.symm.trans hY; first | cases this | simp at this) fkj
                        replace fvj := khv11 _ _ (fun q => by have z9 := fvj; rw [q] at z9; have := z9.symm.trans hY; first | cases this | simp at this) fvj
                        replace hY : hv11 y = some (.inr (8, [.ref ms, .ref mb, .ref (ra 28), .int gr, .int (nI 3), .int ca, .int mv, .ref od, .ref pt, .int ct, .int fau, .ref fi, .ref re, .int cs, .ref rc, .ref rs, .ref so, .ref ot, .ref cn, .ref la, .int ce, .ref ro, .int rn])) := by rw [ehv11]; exact qs_self
                        clear ehv11
                        replace fr := fun b o hb n1 n2 => khv11 b o n1 (fr b o hb n1 n2)
                        refine lv_if_ne (tgt := 108) hx hb dX8_put__103 (by decide) (fun c103 => ?_) (fun c103 => ?_)
                        · replace c103 : ¬ 0 = 0 := fun zq => c103 ((nI_eq (a := 0) (b := 0) (by omega) (by omega)).mpr zq)
                          exfalso; omega
                        · replace c103 : 0 = 0 := (nI_eq (a := 0) (b := 0) (by omega) (by omega)).mp c103
                          refine lv_iconst (v := nI 0) hx hb dX8_put__106 (by decide) ?_
                          have el : (xPut ((S j).1) false ((S j).2.1) p2 (xV ((S j).1) p3)).length = (nj + 1) := by rw [← lw, qLs_len]
                          have ex : xs_put gr S (nI i) (nI j) p2 p3 = (3, S, 0) := by (unfold xs_put; rw [if_neg (by simp [ebi, ebj]), ecj, if_neg (by simp [hoj]), eci]; unfold xr_put; rw [if_pos (by first | exact Or.inl (by omega) | exact Or.inr cr)])
                          obtain ⟨m9, f9⟩ := hM.fin0 hY0 (h' := hv11) ⟨hRw.1, hRw.2.1, hRw.2.2.1, faw, fkw, fvw⟩ fr
                          exact q_iret C hP hS ⟨by first | (rw [ex]; done) | (rw [ex]; rfl), by rw [ex]; exact hY, by first | exact m9 | (rw [ex]; exact m9), f9⟩ (by omega) dX8_put__107
                      · replace c91 : 1 = 0 := (nI_eq (a := 1) (b := 0) (by omega) (by omega)).mp c91
                        exfalso; omega
                    · rw [if_neg cr]
                      refine lv_if_ne (tgt := 98) hx hb dX8_put__91 (by decide) (fun c91 => ?_) (fun c91 => ?_)
                      · replace c91 : ¬ 0 = 0 := fun zq => c91 ((nI_eq (a := 0) (b := 0) (by omega) (by omega)).mpr zq)
                        exfalso; omega
                      · replace c91 : 0 = 0 := (nI_eq (a := 0) (b := 0) (by omega) (by omega)).mp c91
                        refine lv_iconst (v := nI 1) hx hb dX8_put__94 (by decide) ?_
                        refine lv_goto (tgt := 99) hx hb dX8_put__95 (by decide) ?_
                        refine lv_iconst (v := nI 3) hx hb dX8_put__99 (by decide) ?_
                        refine q_callV (rest := []) C (c_X8_good1 l D cy N0 hv9 y ms mb (ra 28) od pt fi re rc rs so ot cn la ro gr 0 ca mv ct fau cs ce rn (nI 3) hY) kX8_good g1249 g1251 rfl gp41 g4 hP hS hY (by first | decide | omega) hl.1 rfl (by decide) (by first | decide | omega) dX8_put__100 (fun q ce E h' H1 locs1 hE => hE.elim) (fun v hh17 H locs hq hP hS => ?_)
                        obtain ⟨rfl, rfl⟩ := hq
                        replace hP : qP D N0 (qs hv9 y (.inr (8, [.ref ms, .ref mb, .ref (ra 28), .int gr, .int 0, .int ca, .int mv, .ref od, .ref pt, .int ct, .int fau, .ref fi, .ref re, .int cs, .ref rc, .ref rs, .ref so, .ref ot, .ref cn, .ref la, .int ce, .ref ro, .int rn]))) H := hP
                        obtain ⟨hv12, ehv12⟩ : ∃ z : qH, z = qs hv9 y (.inr (8, [.ref ms, .ref mb, .ref (ra 28), .int gr, .int 0, .int ca, .int mv, .ref od, .ref pt, .int ct, .int fau, .ref fi, .ref re, .int cs, .ref rc, .ref rs, .ref so, .ref ot, .ref cn, .ref la, .int ce, .ref ro, .int rn])) := ⟨_, rfl⟩
                        rw [← ehv12] at hP
                        have khv12 : ∀ b o, b ≠ y → hv9 b = some o → hv12 b = some o := by rw [ehv12]; exact fun b o nb hb => (qs_ne nb).trans hb
                        replace hms := khv12 _ _ (fun q => by subst q; have := hms.symm.trans hY; first | cases this | simp at this) hms
                        replace hmb := khv12 _ _ (fun q => by subst q; have := hmb.symm.trans hY; first | cases this | simp at this) hmb
                        replace faw := khv12 _ _ (fun q => by have z9 := faw; rw [q] at z9; have := z9.symm.trans hY; first | cases this | simp at this) faw
                        replace fkw := khv12 _ _ (fun q => by have z9 := fkw; rw [q] at z9; have := z9.symm.trans hY; first | cases this | simp at this) fkw
                        replace fvw := khv12 _ _ (fun q => by have z9 := fvw; rw [q] at z9; have := z9.symm.trans hY; first | cases this | simp at this) fvw
                        replace faj := khv12 _ _ (fun q => by have z9 := faj; rw [q] at z9; have := z9.symm.trans hY; first | cases this | simp at this) faj
                        replace fkj := khv12 _ _ (fun q => by have z9 := fkj; rw [q] at z9; have := z9.symm.trans hY; first | cases this | simp at this) fkj
                        replace fvj := khv12 _ _ (fun q => by have z9 := fvj; rw [q] at z9; have := z9.symm.trans hY; first | cases this | simp at this) fvj
                        replace hY : hv12 y = some (.inr (8, [.ref ms, .ref mb, .ref (ra 28), .int gr, .int 0, .int ca, .int mv, .ref od, .ref pt, .int ct, .int fau, .ref fi, .ref re, .int cs, .ref rc, .ref rs, .ref so, .ref ot, .ref cn, .ref la, .int ce, .ref ro, .int rn])) := by rw [ehv12]; exact qs_self
                        clear ehv12
                        replace fr := fun b o hb n1 n2 => khv12 b o n1 (fr b o hb n1 n2)
                        refine lv_if_ne (tgt := 108) hx hb dX8_put__103 (by decide) (fun c103 => ?_) (fun c103 => ?_)
                        · replace c103 : ¬ 1 = 0 := fun zq => c103 ((nI_eq (a := 1) (b := 0) (by omega) (by omega)).mpr zq)
                          refine lv_aload_n hx hb dX8_put__108 rfl (lv_at hl 0 rfl) ?_
                          refine lv_iload_n hx hb dX8_put__109 rfl (lv_at hl 1 rfl) ?_
                          refine lv_iconst (v := nI 0) hx hb dX8_put__110 (by decide) ?_
                          obtain ⟨ni, rwi, Fi, Gi, hRi, hni, hLi, hKi⟩ := hrs i (by omega)
                          have api := hRi.apart hRw (hmd.two (i := i) (j := 28) (by omega) (by omega) (by omega))
                          replace hRi := hRi.keep2 (fun b o hb ho => fr b o ho (hRi.ney hY0 hb) (hb.elim (fun q => q ▸ api.1) (fun hb => hb.elim (fun q => q ▸ api.2.1) (fun q => q ▸ api.2.2))))
                          have fai := hRi.2.2.2.1
                          have fki := hRi.2.2.2.2.1
                          have fvi := hRi.2.2.2.2.2
                          unfold qRb at fai
                          unfold qJr at fki fvi
                          refine q_callV (rest := []) C (c_X8_done l D cy N0 hv12 y ms mb od pt fi re rc rs so ot cn la ro gr 0 ca mv ct fau cs ce rn ra rk rv i (nI 0) (S j).1 (nI (S j).2.2.1) (nI (S j).2.2.2) rwj (nj + 1) (vp_updL (qSh (qCp Fj fw nj) p9 nj) p9 p2) (vp_updL (qSh (qCp Gj gw nj) p9 nj) p9 p3) (S i).1 (nI (S i).2.2.1) (nI (S i).2.2.2) rwi ni Fi Gi hY hms hmd ⟨hRw.1, hRw.2.1, hRw.2.2.1, faw, fkw, fvw⟩ ⟨hRi.1, hRi.2.1, hRi.2.2.1, fai, fki, fvi⟩ (by omega) (by omega)) kX8_done g1293 g1295 rfl gp45 g4 hP hS hY (by first | decide | omega) hl.1 rfl (by decide) (by first | decide | omega) dX8_put__111 (fun q ce E h' H1 locs1 hE => hE.elim) (fun v hh18 H locs hq hP hS => ?_)
                          obtain ⟨rfl, hY9, hw9, hi9, fr9⟩ := hq
                          replace fr := fun b o hb n1 n2 n3 => fr9 b o (fr b o hb n1 n2) n1 n2 n3
                          rw [show mv + nI 0 = mv from Int32.add_zero _] at hY9
                          have el : (xPut ((S j).1) false ((S j).2.1) p2 (xV ((S j).1) p3)).length = (nj + 1) := by rw [← lw, qLs_len]
                          have ex : xs_put gr S (nI i) (nI j) p2 p3 = (0, qU S i ((S j).1, (xPut ((S j).1) false ((S j).2.1) p2 (xV ((S j).1) p3)), (S j).2.2), nI (nj + 1)) := by (unfold xs_put; rw [if_neg (by simp [ebi, ebj]), ecj, if_neg (by simp [hoj]), eci]; unfold xr_put; rw [if_neg (fun z => by rcases z with z | z <;> first | omega | exact cr z), el])
                          obtain ⟨m9, f9⟩ := hM.fin hY0 (i := i) (by omega) (s := ((S j).1, (xPut ((S j).1) false ((S j).2.1) p2 (xV ((S j).1) p3)), (S j).2.2.1, (S j).2.2.2)) ⟨(nj + 1), _, _, _, hi9, by omega, by rw [qLs_cp]; exact lw.symm, Or.inl rfl⟩ hw9 fr
                          exact q_iret C hP hS ⟨by first | (rw [ex]; done) | (rw [ex]; rfl), by rw [ex]; exact hY9, by first | exact m9 | (rw [ex]; exact m9), f9⟩ (by omega) dX8_put__114
                        · replace c103 : 1 = 0 := (nI_eq (a := 1) (b := 0) (by omega) (by omega)).mp c103
                          exfalso; omega
              · replace c39 : 1 = 0 := (nI_eq (a := 1) (b := 0) (by omega) (by omega)).mp c39
                exfalso; omega
      · have ebj : bSl p1 = false := bSl_f sl9
        refine lv_if_eq (tgt := 19) hx hb dX8_put__12 (by decide) (fun c12 => ?_) (fun c12 => ?_)
        · replace c12 : 0 = 0 := (nI_eq (a := 0) (b := 0) (by omega) (by omega)).mp c12
          refine lv_iconst (v := nI 0) hx hb dX8_put__19 (by decide) ?_
          refine lv_iconst (v := nI 1) hx hb dX8_put__20 (by decide) ?_
          refine q_callV (rest := []) C (c_X8_good0 l D cy N0 h y ms mb (ra 28) od pt fi re rc rs so ot cn la ro gr cd ca mv ct fau cs ce rn (nI 1) hY) kX8_good g1249 g1251 rfl gp41 g4 hP hS hY (by first | decide | omega) hl.1 rfl (by decide) (by first | decide | omega) dX8_put__21 (fun q ce E h' H1 locs1 hE => hE.elim) (fun v hh19 H locs hq hP hS => ?_)
          obtain ⟨rfl, rfl⟩ := hq
          replace hP : qP D N0 (qs h y (.inr (8, [.ref ms, .ref mb, .ref (ra 28), .int gr, .int (nI 1), .int ca, .int mv, .ref od, .ref pt, .int ct, .int fau, .ref fi, .ref re, .int cs, .ref rc, .ref rs, .ref so, .ref ot, .ref cn, .ref la, .int ce, .ref ro, .int rn]))) H := hP
          obtain ⟨hv13, ehv13⟩ : ∃ z : qH, z = qs h y (.inr (8, [.ref ms, .ref mb, .ref (ra 28), .int gr, .int (nI 1), .int ca, .int mv, .ref od, .ref pt, .int ct, .int fau, .ref fi, .ref re, .int cs, .ref rc, .ref rs, .ref so, .ref ot, .ref cn, .ref la, .int ce, .ref ro, .int rn])) := ⟨_, rfl⟩
          rw [← ehv13] at hP
          have khv13 : ∀ b o, b ≠ y → h b = some o → hv13 b = some o := by rw [ehv13]; exact fun b o nb hb => (qs_ne nb).trans hb
          replace hms := khv13 _ _ (fun q => by subst q; have := hms.symm.trans hY; first | cases this | simp at this) hms
          replace hmb := khv13 _ _ (fun q => by subst q; have := hmb.symm.trans hY; first | cases this | simp at this) hmb
          replace faw := khv13 _ _ (fun q => by have z9 := faw; rw [q] at z9; have := z9.symm.trans hY; first | cases this | simp at this) faw
          replace fkw := khv13 _ _ (fun q => by have z9 := fkw; rw [q] at z9; have := z9.symm.trans hY; first | cases this | simp at this) fkw
          replace fvw := khv13 _ _ (fun q => by have z9 := fvw; rw [q] at z9; have := z9.symm.trans hY; first | cases this | simp at this) fvw
          replace hY : hv13 y = some (.inr (8, [.ref ms, .ref mb, .ref (ra 28), .int gr, .int (nI 1), .int ca, .int mv, .ref od, .ref pt, .int ct, .int fau, .ref fi, .ref re, .int cs, .ref rc, .ref rs, .ref so, .ref ot, .ref cn, .ref la, .int ce, .ref ro, .int rn])) := by rw [ehv13]; exact qs_self
          clear ehv13
          replace fr := fun b o hb n1 n2 => khv13 b o n1 (fr b o hb n1 n2)
          refine lv_if_eq (tgt := 42) hx hb dX8_put__24 (by decide) (fun c24 => ?_) (fun c24 => ?_)
          · replace c24 : 0 = 0 := (nI_eq (a := 0) (b := 0) (by omega) (by omega)).mp c24
            refine lv_iconst (v := nI 0) hx hb dX8_put__42 (by decide) ?_
            have ex : xs_put gr S (nI i) p1 p2 p3 = (1, S, 0) := by (unfold xs_put; rw [if_pos (by simp [ebi, ebj])])
            obtain ⟨m9, f9⟩ := hM.fin0 hY0 (h' := hv13) ⟨hRw.1, hRw.2.1, hRw.2.2.1, faw, fkw, fvw⟩ fr
            exact q_iret C hP hS ⟨by first | (rw [ex]; done) | (rw [ex]; rfl), by rw [ex]; exact hY, by first | exact m9 | (rw [ex]; exact m9), f9⟩ (by omega) dX8_put__43
          · replace c24 : ¬ 0 = 0 := fun zq => c24 ((nI_eq (a := 0) (b := 0) (by omega) (by omega)).mpr zq)
            exfalso; omega
        · replace c12 : ¬ 0 = 0 := fun zq => c12 ((nI_eq (a := 0) (b := 0) (by omega) (by omega)).mpr zq)
          exfalso; omega
  · have ebi : bSl p0 = false := bSl_f sl9
    refine lv_if_eq (tgt := 19) hx hb dX8_put__5 (by decide) (fun c5 => ?_) (fun c5 => ?_)
    · replace c5 : 0 = 0 := (nI_eq (a := 0) (b := 0) (by omega) (by omega)).mp c5
      refine lv_iconst (v := nI 0) hx hb dX8_put__19 (by decide) ?_
      refine lv_iconst (v := nI 1) hx hb dX8_put__20 (by decide) ?_
      refine q_callV (rest := []) C (c_X8_good0 l D cy N0 h y ms mb (ra 28) od pt fi re rc rs so ot cn la ro gr cd ca mv ct fau cs ce rn (nI 1) hY) kX8_good g1249 g1251 rfl gp41 g4 hP hS hY (by first | decide | omega) hl.1 rfl (by decide) (by first | decide | omega) dX8_put__21 (fun q ce E h' H1 locs1 hE => hE.elim) (fun v hh20 H locs hq hP hS => ?_)
      obtain ⟨rfl, rfl⟩ := hq
      replace hP : qP D N0 (qs h y (.inr (8, [.ref ms, .ref mb, .ref (ra 28), .int gr, .int (nI 1), .int ca, .int mv, .ref od, .ref pt, .int ct, .int fau, .ref fi, .ref re, .int cs, .ref rc, .ref rs, .ref so, .ref ot, .ref cn, .ref la, .int ce, .ref ro, .int rn]))) H := hP
      obtain ⟨hv14, ehv14⟩ : ∃ z : qH, z = qs h y (.inr (8, [.ref ms, .ref mb, .ref (ra 28), .int gr, .int (nI 1), .int ca, .int mv, .ref od, .ref pt, .int ct, .int fau, .ref fi, .ref re, .int cs, .ref rc, .ref rs, .ref so, .ref ot, .ref cn, .ref la, .int ce, .ref ro, .int rn])) := ⟨_, rfl⟩
      rw [← ehv14] at hP
      have khv14 : ∀ b o, b ≠ y → h b = some o → hv14 b = some o := by rw [ehv14]; exact fun b o nb hb => (qs_ne nb).trans hb
      replace hms := khv14 _ _ (fun q => by subst q; have := hms.symm.trans hY; first | cases this | simp at this) hms
      replace hmb := khv14 _ _ (fun q => by subst q; have := hmb.symm.trans hY; first | cases this | simp at this) hmb
      replace faw := khv14 _ _ (fun q => by have z9 := faw; rw [q] at z9; have := z9.symm.trans hY; first | cases this | simp at this) faw
      replace fkw := khv14 _ _ (fun q => by have z9 := fkw; rw [q] at z9; have := z9.symm.trans hY; first | cases this | simp at this) fkw
      replace fvw := khv14 _ _ (fun q => by have z9 := fvw; rw [q] at z9; have := z9.symm.trans hY; first | cases this | simp at this) fvw
      replace hY : hv14 y = some (.inr (8, [.ref ms, .ref mb, .ref (ra 28), .int gr, .int (nI 1), .int ca, .int mv, .ref od, .ref pt, .int ct, .int fau, .ref fi, .ref re, .int cs, .ref rc, .ref rs, .ref so, .ref ot, .ref cn, .ref la, .int ce, .ref ro, .int rn])) := by rw [ehv14]; exact qs_self
      clear ehv14
      replace fr := fun b o hb n1 n2 => khv14 b o n1 (fr b o hb n1 n2)
      refine lv_if_eq (tgt := 42) hx hb dX8_put__24 (by decide) (fun c24 => ?_) (fun c24 => ?_)
      · replace c24 : 0 = 0 := (nI_eq (a := 0) (b := 0) (by omega) (by omega)).mp c24
        refine lv_iconst (v := nI 0) hx hb dX8_put__42 (by decide) ?_
        have ex : xs_put gr S p0 p1 p2 p3 = (1, S, 0) := by (unfold xs_put; rw [if_pos (by simp [ebi])])
        obtain ⟨m9, f9⟩ := hM.fin0 hY0 (h' := hv14) ⟨hRw.1, hRw.2.1, hRw.2.2.1, faw, fkw, fvw⟩ fr
        exact q_iret C hP hS ⟨by first | (rw [ex]; done) | (rw [ex]; rfl), by rw [ex]; exact hY, by first | exact m9 | (rw [ex]; exact m9), f9⟩ (by omega) dX8_put__43
      · replace c24 : ¬ 0 = 0 := fun zq => c24 ((nI_eq (a := 0) (b := 0) (by omega) (by omega)).mpr zq)
        exfalso; omega
    · replace c5 : ¬ 0 = 0 := fun zq => c5 ((nI_eq (a := 0) (b := 0) (by omega) (by omega)).mpr zq)
      exfalso; omega

theorem dX8_find__29 : decode cX8_find_ 29 = .ok (.aload_n 0, 1) := by decide +kernel
theorem dX8_find__30 : decode cX8_find_ 30 = .ok (.getfield 9, 3) := by decide +kernel
theorem dX8_find__33 : decode cX8_find_ 33 = .ok (.iload_n 1, 1) := by decide +kernel
theorem dX8_find__34 : decode cX8_find_ 34 = .ok (.aaload, 1) := by decide +kernel
theorem dX8_find__35 : decode cX8_find_ 35 = .ok (.lload_n 2, 1) := by decide +kernel
theorem dX8_find__36 : decode cX8_find_ 36 = .ok (.invokestatic 112, 3) := by decide +kernel
theorem dX8_find__39 : decode cX8_find_ 39 = .ok (.istore 4, 2) := by decide +kernel
theorem dX8_find__41 : decode cX8_find_ 41 = .ok (.aload_n 0, 1) := by decide +kernel
theorem dX8_find__42 : decode cX8_find_ 42 = .ok (.iload 4, 2) := by decide +kernel
theorem dX8_find__44 : decode cX8_find_ 44 = .ok (.ifCond .lt 7, 3) := by decide +kernel
theorem dX8_find__47 : decode cX8_find_ 47 = .ok (.iconst 1, 1) := by decide +kernel
theorem dX8_find__48 : decode cX8_find_ 48 = .ok (.goto 4, 3) := by decide +kernel
theorem dX8_find__51 : decode cX8_find_ 51 = .ok (.iconst 0, 1) := by decide +kernel
theorem dX8_find__52 : decode cX8_find_ 52 = .ok (.iconst 3, 1) := by decide +kernel
theorem dX8_find__53 : decode cX8_find_ 53 = .ok (.invokevirtual 100, 3) := by decide +kernel
theorem dX8_find__56 : decode cX8_find_ 56 = .ok (.ifCond .ne 5, 3) := by decide +kernel
theorem dX8_find__59 : decode cX8_find_ 59 = .ok (.lconst 0, 1) := by decide +kernel
theorem dX8_find__60 : decode cX8_find_ 60 = .ok (.lreturn, 1) := by decide +kernel
theorem dX8_find__61 : decode cX8_find_ 61 = .ok (.aload_n 0, 1) := by decide +kernel
theorem dX8_find__62 : decode cX8_find_ 62 = .ok (.getfield 9, 3) := by decide +kernel
theorem dX8_find__65 : decode cX8_find_ 65 = .ok (.iload_n 1, 1) := by decide +kernel
theorem dX8_find__66 : decode cX8_find_ 66 = .ok (.aaload, 1) := by decide +kernel
theorem dX8_find__67 : decode cX8_find_ 67 = .ok (.getfield 75, 3) := by decide +kernel
theorem dX8_find__70 : decode cX8_find_ 70 = .ok (.iconst 2, 1) := by decide +kernel
theorem dX8_find__71 : decode cX8_find_ 71 = .ok (.if_icmp .ne 7, 3) := by decide +kernel
theorem dX8_find__74 : decode cX8_find_ 74 = .ok (.lconst 1, 1) := by decide +kernel
theorem dX8_find__75 : decode cX8_find_ 75 = .ok (.goto 15, 3) := by decide +kernel
theorem dX8_find__78 : decode cX8_find_ 78 = .ok (.aload_n 0, 1) := by decide +kernel
theorem dX8_find__79 : decode cX8_find_ 79 = .ok (.getfield 9, 3) := by decide +kernel
theorem dX8_find__82 : decode cX8_find_ 82 = .ok (.iload_n 1, 1) := by decide +kernel
theorem dX8_find__83 : decode cX8_find_ 83 = .ok (.aaload, 1) := by decide +kernel
theorem dX8_find__84 : decode cX8_find_ 84 = .ok (.getfield 93, 3) := by decide +kernel
theorem dX8_find__87 : decode cX8_find_ 87 = .ok (.iload 4, 2) := by decide +kernel
theorem dX8_find__89 : decode cX8_find_ 89 = .ok (.laload, 1) := by decide +kernel
theorem dX8_find__90 : decode cX8_find_ 90 = .ok (.lreturn, 1) := by decide +kernel
set_option maxRecDepth 100000 in
set_option maxHeartbeats 4000000 in
theorem c_X8_find_ (l : Launch) (D : va_G) (cy : Nat → ClassId) (N0 : Nat) (h : qH) (y ms mb mw od pt fi re rc rs so ot cn la ro : Nat) (gr cd ca mv ct fau cs ce rn : Int32) (ra rk rv : Nat → Nat) (S : Nat → qSlot) (p0 : Int32) (p1 : Int64) (hY : h y = some (.inr (8, [.ref ms, .ref mb, .ref mw, .int gr, .int cd, .int ca, .int mv, .ref od, .ref pt, .int ct, .int fau, .ref fi, .ref re, .int cs, .ref rc, .ref rs, .ref so, .ref ot, .ref cn, .ref la, .int ce, .ref ro, .int rn]))) (hM : qMR cy h ms mb mw ra rk rv S) (hI : ∀ i, i < 28 → qOk (S i).1 (S i).2.1) : qC l D cy N0 yX8_find_ cX8_find_ 5 (some .long) 1 24 0 0 [.ref y, .int p0, .long p1] h (fun v h' => v = some (.long (xs_find S p0 p1).2) ∧ h' y = some (.inr (8, [.ref ms, .ref mb, .ref mw, .int gr, .int (xs_find S p0 p1).1, .int ca, .int mv, .ref od, .ref pt, .int ct, .int fau, .ref fi, .ref re, .int cs, .ref rc, .ref rs, .ref so, .ref ot, .ref cn, .ref la, .int ce, .ref ro, .int rn])) ∧ qMR cy h' ms mb mw ra rk rv (S) ∧ qFm h h' y ra rk rv) (fun E h' => False) := by
  refine q_ofW (by decide) (by exact Nat.le_of_ble_eq_true rfl) ?_
  intro p e s m below meth c ls C hP hl
  have hx := C.1
  have hb := C.2.1
  have hS : va_S (qA N0) s.heap s.heap [] := va_S.rf
  have hl : lv_has ls 5 [(0, .ref y), (1, .int p0), (2, .long p1)] := hl
  have hle : qle h h := qle_rf
  have hY0 := hY
  obtain ⟨hms, hmb, hmw, hmd, hrs, kdw, smw, dpw, rww, nw, fw, gw, hRw⟩ := id hM
  subst hmw
  have fr : ∀ b o, h b = some o → b ≠ y → qOf (ra 28) (rk 28) (rv 28) b → h b = some o := fun b o hb _ _ => hb
  have faw := hRw.2.2.2.1
  have fkw := hRw.2.2.2.2.1
  have fvw := hRw.2.2.2.2.2
  unfold qRb at faw
  unfold qJr at fkw fvw
  refine lv_aload_n hx hb dX8_find__0 rfl (lv_at hl 0 rfl) ?_
  refine lv_iload_n hx hb dX8_find__1 rfl (lv_at hl 1 rfl) ?_
  refine q_callS (rest := [.ref y]) C (c_X8_isSlot l D cy N0 h p0) kX8_isSlot g1246 g1247 hP hS (by first | decide | omega) hl.1 rfl (by simp [q_catrf, q_cati, q_catl, q_cata, q_catn]) (by first | decide | omega) dX8_find__2 (fun q ce E h' H1 locs1 hE => hE.elim) (fun v hh1 H locs hq hP hS => ?_)
  obtain ⟨rfl, ⟨rfl, sl9⟩ | ⟨rfl, sl9⟩⟩ := hq
  · obtain ⟨i, hi, rfl⟩ := sl9.of
    have ebi : bSl (nI i) = true := bSl_t sl9
    have eci : (nI i).toNatClampNeg = i := nI_clamp (by omega)
    refine lv_iconst (v := nI 1) hx hb dX8_find__5 (by decide) ?_
    refine q_callV (rest := []) C (c_X8_good1 l D cy N0 h y ms mb (ra 28) od pt fi re rc rs so ot cn la ro gr cd ca mv ct fau cs ce rn (nI 1) hY) kX8_good g1249 g1251 rfl gp41 g4 hP hS hY (by first | decide | omega) hl.1 rfl (by decide) (by first | decide | omega) dX8_find__6 (fun q ce E h' H1 locs1 hE => hE.elim) (fun v hh2 H locs hq hP hS => ?_)
    obtain ⟨rfl, rfl⟩ := hq
    replace hP : qP D N0 (qs h y (.inr (8, [.ref ms, .ref mb, .ref (ra 28), .int gr, .int 0, .int ca, .int mv, .ref od, .ref pt, .int ct, .int fau, .ref fi, .ref re, .int cs, .ref rc, .ref rs, .ref so, .ref ot, .ref cn, .ref la, .int ce, .ref ro, .int rn]))) H := hP
    obtain ⟨hv1, ehv1⟩ : ∃ z : qH, z = qs h y (.inr (8, [.ref ms, .ref mb, .ref (ra 28), .int gr, .int 0, .int ca, .int mv, .ref od, .ref pt, .int ct, .int fau, .ref fi, .ref re, .int cs, .ref rc, .ref rs, .ref so, .ref ot, .ref cn, .ref la, .int ce, .ref ro, .int rn])) := ⟨_, rfl⟩
    rw [← ehv1] at hP
    have khv1 : ∀ b o, b ≠ y → h b = some o → hv1 b = some o := by rw [ehv1]; exact fun b o nb hb => (qs_ne nb).trans hb
    replace hms := khv1 _ _ (fun q => by subst q; have := hms.symm.trans hY; first | cases this | simp at this) hms
    replace hmb := khv1 _ _ (fun q => by subst q; have := hmb.symm.trans hY; first | cases this | simp at this) hmb
    replace faw := khv1 _ _ (fun q => by have z9 := faw; rw [q] at z9; have := z9.symm.trans hY; first | cases this | simp at this) faw
    replace fkw := khv1 _ _ (fun q => by have z9 := fkw; rw [q] at z9; have := z9.symm.trans hY; first | cases this | simp at this) fkw
    replace fvw := khv1 _ _ (fun q => by have z9 := fvw; rw [q] at z9; have := z9.symm.trans hY; first | cases this | simp at this) fvw
    replace hY : hv1 y = some (.inr (8, [.ref ms, .ref mb, .ref (ra 28), .int gr, .int 0, .int ca, .int mv, .ref od, .ref pt, .int ct, .int fau, .ref fi, .ref re, .int cs, .ref rc, .ref rs, .ref so, .ref ot, .ref cn, .ref la, .int ce, .ref ro, .int rn])) := by rw [ehv1]; exact qs_self
    clear ehv1
    replace fr := fun b o hb n1 n2 => khv1 b o n1 (fr b o hb n1 n2)
    refine lv_if_eq (tgt := 27) hx hb dX8_find__9 (by decide) (fun c9 => ?_) (fun c9 => ?_)
    · replace c9 : 1 = 0 := (nI_eq (a := 1) (b := 0) (by omega) (by omega)).mp c9
      exfalso; omega
    · replace c9 : ¬ 1 = 0 := fun zq => c9 ((nI_eq (a := 1) (b := 0) (by omega) (by omega)).mpr zq)
      refine lv_aload_n hx hb dX8_find__12 rfl (lv_at hl 0 rfl) ?_
      refine lv_aload_n hx hb dX8_find__13 rfl (lv_at hl 0 rfl) ?_
      refine lv_iload_n hx hb dX8_find__14 rfl (lv_at hl 1 rfl) ?_
      refine lv_bipush (v := nI 14) hx hb dX8_find__15 (by decide) ?_
      obtain ⟨ni, rwi, Fi, Gi, hRi, hni, hLi, hKi⟩ := hrs i (by omega)
      have api := hRi.apart hRw (hmd.two (i := i) (j := 28) (by omega) (by omega) (by omega))
      replace hRi := hRi.keep2 (fun b o hb ho => fr b o ho (hRi.ney hY0 hb) (hb.elim (fun q => q ▸ api.1) (fun hb => hb.elim (fun q => q ▸ api.2.1) (fun q => q ▸ api.2.2))))
      have fai := hRi.2.2.2.1
      have fki := hRi.2.2.2.2.1
      have fvi := hRi.2.2.2.2.2
      unfold qRb at fai
      unfold qJr at fki fvi
      refine q_callV (rest := [.ref y]) C (c_X8_holds l D cy N0 hv1 y ms ra rk rv i 14 _ _ _ _ _ _ _ _ hY rfl hms ⟨hRi.1, hRi.2.1, hRi.2.2.1, fai, fki, fvi⟩ (by omega)) kX8_holds g1264 g1266 rfl gp42 g4 hP hS hY (by first | decide | omega) hl.1 rfl (by simp [q_catrf, q_cati, q_catl, q_cata, q_catn]) (by first | decide | omega) dX8_find__17 (fun q ce E h' H1 locs1 hE => hE.elim) (fun v hh3 H locs hq hP hS => ?_)
      obtain ⟨rfl, rfl⟩ := hq
      cases hoi : bHo (S i).1 14 with
      | false =>
        refine lv_iconst (v := nI 2) hx hb dX8_find__20 (by decide) ?_
        refine q_callV (rest := []) C (c_X8_good0 l D cy N0 hv1 y ms mb (ra 28) od pt fi re rc rs so ot cn la ro gr 0 ca mv ct fau cs ce rn (nI 2) hY) kX8_good g1249 g1251 rfl gp41 g4 hP hS hY (by first | decide | omega) hl.1 rfl (by decide) (by first | decide | omega) dX8_find__21 (fun q ce E h' H1 locs1 hE => hE.elim) (fun v hh4 H locs hq hP hS => ?_)
        obtain ⟨rfl, rfl⟩ := hq
        replace hP : qP D N0 (qs hv1 y (.inr (8, [.ref ms, .ref mb, .ref (ra 28), .int gr, .int (nI 2), .int ca, .int mv, .ref od, .ref pt, .int ct, .int fau, .ref fi, .ref re, .int cs, .ref rc, .ref rs, .ref so, .ref ot, .ref cn, .ref la, .int ce, .ref ro, .int rn]))) H := hP
        obtain ⟨hv2, ehv2⟩ : ∃ z : qH, z = qs hv1 y (.inr (8, [.ref ms, .ref mb, .ref (ra 28), .int gr, .int (nI 2), .int ca, .int mv, .ref od, .ref pt, .int ct, .int fau, .ref fi, .ref re, .int cs, .ref rc, .ref rs, .ref so, .ref ot, .ref cn, .ref la, .int ce, .ref ro, .int rn])) := ⟨_, rfl⟩
        rw [← ehv2] at hP
        have khv2 : ∀ b o, b ≠ y → hv1 b = some o → hv2 b = some o := by rw [ehv2]; exact fun b o nb hb => (qs_ne nb).trans hb
        replace hms := khv2 _ _ (fun q => by subst q; have := hms.symm.trans hY; first | cases this | simp at this) hms
        replace hmb := khv2 _ _ (fun q => by subst q; have := hmb.symm.trans hY; first | cases this | simp at this) hmb
        replace faw := khv2 _ _ (fun q => by have z9 := faw; rw [q] at z9; have := z9.symm.trans hY; first | cases this | simp at this) faw
        replace fkw := khv2 _ _ (fun q => by have z9 := fkw; rw [q] at z9; have := z9.symm.trans hY; first | cases this | simp at this) fkw
        replace fvw := khv2 _ _ (fun q => by have z9 := fvw; rw [q] at z9; have := z9.symm.trans hY; first | cases this | simp at this) fvw
        replace fai := khv2 _ _ (fun q => by have z9 := fai; rw [q] at z9; have := z9.symm.trans hY; first | cases this | simp at this) fai
        replace fki := khv2 _ _ (fun q => by have z9 := fki; rw [q] at z9; have := z9.symm.trans hY; first | cases this | simp at this) fki
        replace fvi := khv2 _ _ (fun q => by have z9 := fvi; rw [q] at z9; have := z9.symm.trans hY; first | cases this | simp at this) fvi
        replace hY : hv2 y = some (.inr (8, [.ref ms, .ref mb, .ref (ra 28), .int gr, .int (nI 2), .int ca, .int mv, .ref od, .ref pt, .int ct, .int fau, .ref fi, .ref re, .int cs, .ref rc, .ref rs, .ref so, .ref ot, .ref cn, .ref la, .int ce, .ref ro, .int rn])) := by rw [ehv2]; exact qs_self
        clear ehv2
        replace fr := fun b o hb n1 n2 => khv2 b o n1 (fr b o hb n1 n2)
        refine lv_if_ne (tgt := 29) hx hb dX8_find__24 (by decide) (fun c24 => ?_) (fun c24 => ?_)
        · replace c24 : ¬ 0 = 0 := fun zq => c24 ((nI_eq (a := 0) (b := 0) (by omega) (by omega)).mpr zq)
          exfalso; omega
        · replace c24 : 0 = 0 := (nI_eq (a := 0) (b := 0) (by omega) (by omega)).mp c24
          refine lv_lconst (v := 0) hx hb dX8_find__27 (by decide) ?_
          have ex : xs_find S (nI i) p1 = (2, 0) := by simp [xs_find, ebi, eci, hoi]
          obtain ⟨m9, f9⟩ := hM.fin0 hY0 (h' := hv2) ⟨hRw.1, hRw.2.1, hRw.2.2.1, faw, fkw, fvw⟩ fr
          exact q_lret C hP hS ⟨by first | (rw [ex]; done) | (rw [ex]; rfl), by rw [ex]; exact hY, by first | exact m9 | (rw [ex]; exact m9), f9⟩ (by omega) dX8_find__28
      | true =>
        refine lv_iconst (v := nI 2) hx hb dX8_find__20 (by decide) ?_
        refine q_callV (rest := []) C (c_X8_good1 l D cy N0 hv1 y ms mb (ra 28) od pt fi re rc rs so ot cn la ro gr 0 ca mv ct fau cs ce rn (nI 2) hY) kX8_good g1249 g1251 rfl gp41 g4 hP hS hY (by first | decide | omega) hl.1 rfl (by decide) (by first | decide | omega) dX8_find__21 (fun q ce E h' H1 locs1 hE => hE.elim) (fun v hh5 H locs hq hP hS => ?_)
        obtain ⟨rfl, rfl⟩ := hq
        replace hP : qP D N0 (qs hv1 y (.inr (8, [.ref ms, .ref mb, .ref (ra 28), .int gr, .int 0, .int ca, .int mv, .ref od, .ref pt, .int ct, .int fau, .ref fi, .ref re, .int cs, .ref rc, .ref rs, .ref so, .ref ot, .ref cn, .ref la, .int ce, .ref ro, .int rn]))) H := hP
        obtain ⟨hv3, ehv3⟩ : ∃ z : qH, z = qs hv1 y (.inr (8, [.ref ms, .ref mb, .ref (ra 28), .int gr, .int 0, .int ca, .int mv, .ref od, .ref pt, .int ct, .int fau, .ref fi, .ref re, .int cs, .ref rc, .ref rs, .ref so, .ref ot, .ref cn, .ref la, .int ce, .ref ro, .int rn])) := ⟨_, rfl⟩
        rw [← ehv3] at hP
        have khv3 : ∀ b o, b ≠ y → hv1 b = some o → hv3 b = some o := by rw [ehv3]; exact fun b o nb hb => (qs_ne nb).trans hb
        replace hms := khv3 _ _ (fun q => by subst q; have := hms.symm.trans hY; first | cases this | simp at this) hms
        replace hmb := khv3 _ _ (fun q => by subst q; have := hmb.symm.trans hY; first | cases this | simp at this) hmb
        replace faw := khv3 _ _ (fun q => by have z9 := faw; rw [q] at z9; have := z9.symm.trans hY; first | cases this | simp at this) faw
        replace fkw := khv3 _ _ (fun q => by have z9 := fkw; rw [q] at z9; have := z9.symm.trans hY; first | cases this | simp at this) fkw
        replace fvw := khv3 _ _ (fun q => by have z9 := fvw; rw [q] at z9; have := z9.symm.trans hY; first | cases this | simp at this) fvw
        replace fai := khv3 _ _ (fun q => by have z9 := fai; rw [q] at z9; have := z9.symm.trans hY; first | cases this | simp at this) fai
        replace fki := khv3 _ _ (fun q => by have z9 := fki; rw [q] at z9; have := z9.symm.trans hY; first | cases this | simp at this) fki
        replace fvi := khv3 _ _ (fun q => by have z9 := fvi; rw [q] at z9; have := z9.symm.trans hY; first | cases this | simp at this) fvi
        replace hY : hv3 y = some (.inr (8, [.ref ms, .ref mb, .ref (ra 28), .int gr, .int 0, .int ca, .int mv, .ref od, .ref pt, .int ct, .int fau, .ref fi, .ref re, .int cs, .ref rc, .ref rs, .ref so, .ref ot, .ref cn, .ref la, .int ce, .ref ro, .int rn])) := by rw [ehv3]; exact qs_self
        clear ehv3
        replace fr := fun b o hb n1 n2 => khv3 b o n1 (fr b o hb n1 n2)
        refine lv_if_ne (tgt := 29) hx hb dX8_find__24 (by decide) (fun c24 => ?_) (fun c24 => ?_)
        · replace c24 : ¬ 1 = 0 := fun zq => c24 ((nI_eq (a := 1) (b := 0) (by omega) (by omega)).mpr zq)
          refine lv_aload_n hx hb dX8_find__29 rfl (lv_at hl 0 rfl) ?_
          refine q_get C hP hY rfl inX8 0 (by decide) g1167 rfl dX8_find__30 ?_
          refine lv_iload_n hx hb dX8_find__33 rfl (lv_at hl 1 rfl) ?_
          refine q_aaldR C hP hms rfl (by omega) (by omega) rfl dX8_find__34 ?_
          refine lv_lload_n hx hb dX8_find__35 rfl (lv_at hl 2 rfl) ?_
          refine q_callS (rest := []) C (c_X8_find l D cy N0 hv3 (ra i) (rk i) (rv i) ((S i).1) (nI (S i).2.2.1) (nI (S i).2.2.2) rwi ni Fi Gi p1 ⟨hRi.1, hRi.2.1, hRi.2.2.1, fai, fki, fvi⟩ (by omega)) kX8_find g1279 g1280 hP hS (by first | decide | omega) hl.1 rfl (by decide) (by first | decide | omega) dX8_find__36 (fun q ce E h' H1 locs1 hE => hE.elim) (fun v hh6 H locs hq hP hS => ?_)
          obtain ⟨rfl, hq⟩ := hq
          rcases hq with ⟨j8, rfl, hj8, e8, m8⟩ | ⟨rfl, m8⟩
          · have hx8 := xHas_t (kd := (S i).1) (g := Gi) hj8 e8
            rw [← hLi] at hx8
            refine lv_istore (lv' := [(4, .int (nI j8)), (0, .ref y), (1, .int (nI i)), (2, .long p1)]) hx hb dX8_find__39 hl (by decide) rfl (fun ls hl => ?_)
            refine lv_aload_n hx hb dX8_find__41 rfl (lv_at hl 1 rfl) ?_
            refine lv_iload hx hb dX8_find__42 (lv_at hl 0 rfl) ?_
            refine lv_if_lt (tgt := 51) hx hb dX8_find__44 (by decide) (fun c44 => ?_) (fun c44 => ?_)
            · replace c44 : j8 < 0 := (nI_ltI (a := j8) (b := 0) (by omega) (by omega)).mp c44
              exfalso; omega
            · replace c44 : ¬ j8 < 0 := fun zq => c44 ((nI_ltI (a := j8) (b := 0) (by omega) (by omega)).mpr zq)
              refine lv_iconst (v := nI 1) hx hb dX8_find__47 (by decide) ?_
              refine lv_goto (tgt := 52) hx hb dX8_find__48 (by decide) ?_
              refine lv_iconst (v := nI 3) hx hb dX8_find__52 (by decide) ?_
              refine q_callV (rest := []) C (c_X8_good1 l D cy N0 hv3 y ms mb (ra 28) od pt fi re rc rs so ot cn la ro gr 0 ca mv ct fau cs ce rn (nI 3) hY) kX8_good g1249 g1251 rfl gp41 g4 hP hS hY (by first | decide | omega) hl.1 rfl (by decide) (by first | decide | omega) dX8_find__53 (fun q ce E h' H1 locs1 hE => hE.elim) (fun v hh7 H locs hq hP hS => ?_)
              obtain ⟨rfl, rfl⟩ := hq
              replace hP : qP D N0 (qs hv3 y (.inr (8, [.ref ms, .ref mb, .ref (ra 28), .int gr, .int 0, .int ca, .int mv, .ref od, .ref pt, .int ct, .int fau, .ref fi, .ref re, .int cs, .ref rc, .ref rs, .ref so, .ref ot, .ref cn, .ref la, .int ce, .ref ro, .int rn]))) H := hP
              obtain ⟨hv4, ehv4⟩ : ∃ z : qH, z = qs hv3 y (.inr (8, [.ref ms, .ref mb, .ref (ra 28), .int gr, .int 0, .int ca, .int mv, .ref od, .ref pt, .int ct, .int fau, .ref fi, .ref re, .int cs, .ref rc, .ref rs, .ref so, .ref ot, .ref cn, .ref la, .int ce, .ref ro, .int rn])) := ⟨_, rfl⟩
              rw [← ehv4] at hP
              have khv4 : ∀ b o, b ≠ y → hv3 b = some o → hv4 b = some o := by rw [ehv4]; exact fun b o nb hb => (qs_ne nb).trans hb
              replace hms := khv4 _ _ (fun q => by subst q; have := hms.symm.trans hY; first | cases this | simp at this) hms
              replace hmb := khv4 _ _ (fun q => by subst q; have := hmb.symm.trans hY; first | cases this | simp at this) hmb
              replace faw := khv4 _ _ (fun q => by have z9 := faw; rw [q] at z9; have := z9.symm.trans hY; first | cases this | simp at this) faw
              replace fkw := khv4 _ _ (fun q => by have z9 := fkw; rw [q] at z9; have := z9.symm.trans hY; first | cases this | simp at this) fkw
              replace fvw := khv4 _ _ (fun q => by have z9 := fvw; rw [q] at z9; have := z9.symm.trans hY; first | cases this | simp at this) fvw
              replace fai := khv4 _ _ (fun q => by have z9 := fai; rw [q] at z9; have := z9.symm.trans hY; first | cases this | simp at this) fai
              replace fki := khv4 _ _ (fun q => by have z9 := fki; rw [q] at z9; have := z9.symm.trans hY; first | cases this | simp at this) fki
              replace fvi := khv4 _ _ (fun q => by have z9 := fvi; rw [q] at z9; have := z9.symm.trans hY; first | cases this | simp at this) fvi
              replace hY : hv4 y = some (.inr (8, [.ref ms, .ref mb, .ref (ra 28), .int gr, .int 0, .int ca, .int mv, .ref od, .ref pt, .int ct, .int fau, .ref fi, .ref re, .int cs, .ref rc, .ref rs, .ref so, .ref ot, .ref cn, .ref la, .int ce, .ref ro, .int rn])) := by rw [ehv4]; exact qs_self
              clear ehv4
              replace fr := fun b o hb n1 n2 => khv4 b o n1 (fr b o hb n1 n2)
              refine lv_if_ne (tgt := 61) hx hb dX8_find__56 (by decide) (fun c56 => ?_) (fun c56 => ?_)
              · replace c56 : ¬ 1 = 0 := fun zq => c56 ((nI_eq (a := 1) (b := 0) (by omega) (by omega)).mpr zq)
                refine lv_aload_n hx hb dX8_find__61 rfl (lv_at hl 1 rfl) ?_
                refine q_get C hP hY rfl inX8 0 (by decide) g1167 rfl dX8_find__62 ?_
                refine lv_iload_n hx hb dX8_find__65 rfl (lv_at hl 2 rfl) ?_
                refine q_aaldR C hP hms rfl (by omega) (by omega) rfl dX8_find__66 ?_
                refine q_get C hP fai rfl inX7 2 (by decide) g1142 rfl dX8_find__67 ?_
                refine lv_iconst (v := 2) hx hb dX8_find__70 (by decide) ?_
                refine lv_icmp_ne (tgt := 78) hx hb dX8_find__71 (by decide) (fun c71 => ?_) (fun c71 => ?_)
                · refine lv_aload_n hx hb dX8_find__78 rfl (lv_at hl 1 rfl) ?_
                  refine q_get C hP hY rfl inX8 0 (by decide) g1167 rfl dX8_find__79 ?_
                  refine lv_iload_n hx hb dX8_find__82 rfl (lv_at hl 2 rfl) ?_
                  refine q_aaldR C hP hms rfl (by omega) (by omega) rfl dX8_find__83 ?_
                  refine q_get C hP fai rfl inX7 1 (by decide) g1140 rfl dX8_find__84 ?_
                  refine lv_iload hx hb dX8_find__87 (lv_at hl 0 rfl) ?_
                  refine q_laldN C hP fvi (by omega) (by omega) dX8_find__89 ?_
                  have ex : xs_find S (nI i) p1 = (0, Gi j8) := by (unfold xs_find; rw [if_neg (by simp [ebi]), eci, if_neg (by simp [hoi]), if_neg (by simp [hx8]), if_neg c71, hLi, xLook_row hj8 e8 m8]; unfold xV; rw [if_pos ((bHo_14 (hI i (by omega)).2.2 hoi).elim Or.inl (fun z => z.elim (fun z => absurd z c71) Or.inr))])
                  obtain ⟨m9, f9⟩ := hM.fin0 hY0 (h' := hv4) ⟨hRw.1, hRw.2.1, hRw.2.2.1, faw, fkw, fvw⟩ fr
                  exact q_lret C hP hS ⟨by first | (rw [ex]; done) | (rw [ex]; rfl), by rw [ex]; exact hY, by first | exact m9 | (rw [ex]; exact m9), f9⟩ (by omega) dX8_find__90
                · refine lv_lconst (v := 1) hx hb dX8_find__74 (by decide) ?_
                  refine lv_goto (tgt := 90) hx hb dX8_find__75 (by decide) ?_
                  have ex : xs_find S (nI i) p1 = (0, 1) := by (unfold xs_find; rw [if_neg (by simp [ebi]), eci, if_neg (by simp [hoi]), if_neg (by simp [hx8]), if_pos c71])
                  obtain ⟨m9, f9⟩ := hM.fin0 hY0 (h' := hv4) ⟨hRw.1, hRw.2.1, hRw.2.2.1, faw, fkw, fvw⟩ fr
                  exact q_lret C hP hS ⟨by first | (rw [ex]; done) | (rw [ex]; rfl), by rw [ex]; exact hY, by first | exact m9 | (rw [ex]; exact m9), f9⟩ (by omega) dX8_find__90
              · replace c56 : 1 = 0 := (nI_eq (a := 1) (b := 0) (by omega) (by omega)).mp c56
                exfalso; omega
          · have hx8 := xHas_f (kd := (S i).1) (g := Gi) m8
            rw [← hLi] at hx8
            refine lv_istore (lv' := [(4, .int (-1)), (0, .ref y), (1, .int (nI i)), (2, .long p1)]) hx hb dX8_find__39 hl (by decide) rfl (fun ls hl => ?_)
            refine lv_aload_n hx hb dX8_find__41 rfl (lv_at hl 1 rfl) ?_
            refine lv_iload hx hb dX8_find__42 (lv_at hl 0 rfl) ?_
            refine lv_if_lt (tgt := 51) hx hb dX8_find__44 (by decide) (fun _ => ?_) (fun c => absurd (by decide) c)
            refine lv_iconst (v := nI 0) hx hb dX8_find__51 (by decide) ?_
            refine lv_iconst (v := nI 3) hx hb dX8_find__52 (by decide) ?_
            refine q_callV (rest := []) C (c_X8_good0 l D cy N0 hv3 y ms mb (ra 28) od pt fi re rc rs so ot cn la ro gr 0 ca mv ct fau cs ce rn (nI 3) hY) kX8_good g1249 g1251 rfl gp41 g4 hP hS hY (by first | decide | omega) hl.1 rfl (by decide) (by first | decide | omega) dX8_find__53 (fun q ce E h' H1 locs1 hE => hE.elim) (fun v hh8 H locs hq hP hS => ?_)
            obtain ⟨rfl, rfl⟩ := hq
            replace hP : qP D N0 (qs hv3 y (.inr (8, [.ref ms, .ref mb, .ref (ra 28), .int gr, .int (nI 3), .int ca, .int mv, .ref od, .ref pt, .int ct, .int fau, .ref fi, .ref re, .int cs, .ref rc, .ref rs, .ref so, .ref ot, .ref cn, .ref la, .int ce, .ref ro, .int rn]))) H := hP
            obtain ⟨hv5, ehv5⟩ : ∃ z : qH, z = qs hv3 y (.inr (8, [.ref ms, .ref mb, .ref (ra 28), .int gr, .int (nI 3), .int ca, .int mv, .ref od, .ref pt, .int ct, .int fau, .ref fi, .ref re, .int cs, .ref rc, .ref rs, .ref so, .ref ot, .ref cn, .ref la, .int ce, .ref ro, .int rn])) := ⟨_, rfl⟩
            rw [← ehv5] at hP
            have khv5 : ∀ b o, b ≠ y → hv3 b = some o → hv5 b = some o := by rw [ehv5]; exact fun b o nb hb => (qs_ne nb).trans hb
            replace hms := khv5 _ _ (fun q => by subst q; have := hms.symm.trans hY; first | cases this | simp at this) hms
            replace hmb := khv5 _ _ (fun q => by subst q; have := hmb.symm.trans hY; first | cases this | simp at this) hmb
            replace faw := khv5 _ _ (fun q => by have z9 := faw; rw [q] at z9; have := z9.symm.trans hY; first | cases this | simp at this) faw
            replace fkw := khv5 _ _ (fun q => by have z9 := fkw; rw [q] at z9; have := z9.symm.trans hY; first | cases this | simp at this) fkw
            replace fvw := khv5 _ _ (fun q => by have z9 := fvw; rw [q] at z9; have := z9.symm.trans hY; first | cases this | simp at this) fvw
            replace fai := khv5 _ _ (fun q => by have z9 := fai; rw [q] at z9; have := z9.symm.trans hY; first | cases this | simp at this) fai
            replace fki := khv5 _ _ (fun q => by have z9 := fki; rw [q] at z9; have := z9.symm.trans hY; first | cases this | simp at this) fki
            replace fvi := khv5 _ _ (fun q => by have z9 := fvi; rw [q] at z9; have := z9.symm.trans hY; first | cases this | simp at this) fvi
            replace hY : hv5 y = some (.inr (8, [.ref ms, .ref mb, .ref (ra 28), .int gr, .int (nI 3), .int ca, .int mv, .ref od, .ref pt, .int ct, .int fau, .ref fi, .ref re, .int cs, .ref rc, .ref rs, .ref so, .ref ot, .ref cn, .ref la, .int ce, .ref ro, .int rn])) := by rw [ehv5]; exact qs_self
            clear ehv5
            replace fr := fun b o hb n1 n2 => khv5 b o n1 (fr b o hb n1 n2)
            refine lv_if_ne (tgt := 61) hx hb dX8_find__56 (by decide) (fun c56 => ?_) (fun c56 => ?_)
            · replace c56 : ¬ 0 = 0 := fun zq => c56 ((nI_eq (a := 0) (b := 0) (by omega) (by omega)).mpr zq)
              exfalso; omega
            · replace c56 : 0 = 0 := (nI_eq (a := 0) (b := 0) (by omega) (by omega)).mp c56
              refine lv_lconst (v := 0) hx hb dX8_find__59 (by decide) ?_
              have ex : xs_find S (nI i) p1 = (3, 0) := by simp [xs_find, ebi, eci, hoi, hx8]
              obtain ⟨m9, f9⟩ := hM.fin0 hY0 (h' := hv5) ⟨hRw.1, hRw.2.1, hRw.2.2.1, faw, fkw, fvw⟩ fr
              exact q_lret C hP hS ⟨by first | (rw [ex]; done) | (rw [ex]; rfl), by rw [ex]; exact hY, by first | exact m9 | (rw [ex]; exact m9), f9⟩ (by omega) dX8_find__60
        · replace c24 : 1 = 0 := (nI_eq (a := 1) (b := 0) (by omega) (by omega)).mp c24
          exfalso; omega
  · have ebi : bSl p0 = false := bSl_f sl9
    refine lv_iconst (v := nI 1) hx hb dX8_find__5 (by decide) ?_
    refine q_callV (rest := []) C (c_X8_good0 l D cy N0 h y ms mb (ra 28) od pt fi re rc rs so ot cn la ro gr cd ca mv ct fau cs ce rn (nI 1) hY) kX8_good g1249 g1251 rfl gp41 g4 hP hS hY (by first | decide | omega) hl.1 rfl (by decide) (by first | decide | omega) dX8_find__6 (fun q ce E h' H1 locs1 hE => hE.elim) (fun v hh9 H locs hq hP hS => ?_)
    obtain ⟨rfl, rfl⟩ := hq
    replace hP : qP D N0 (qs h y (.inr (8, [.ref ms, .ref mb, .ref (ra 28), .int gr, .int (nI 1), .int ca, .int mv, .ref od, .ref pt, .int ct, .int fau, .ref fi, .ref re, .int cs, .ref rc, .ref rs, .ref so, .ref ot, .ref cn, .ref la, .int ce, .ref ro, .int rn]))) H := hP
    obtain ⟨hv6, ehv6⟩ : ∃ z : qH, z = qs h y (.inr (8, [.ref ms, .ref mb, .ref (ra 28), .int gr, .int (nI 1), .int ca, .int mv, .ref od, .ref pt, .int ct, .int fau, .ref fi, .ref re, .int cs, .ref rc, .ref rs, .ref so, .ref ot, .ref cn, .ref la, .int ce, .ref ro, .int rn])) := ⟨_, rfl⟩
    rw [← ehv6] at hP
    have khv6 : ∀ b o, b ≠ y → h b = some o → hv6 b = some o := by rw [ehv6]; exact fun b o nb hb => (qs_ne nb).trans hb
    replace hms := khv6 _ _ (fun q => by subst q; have := hms.symm.trans hY; first | cases this | simp at this) hms
    replace hmb := khv6 _ _ (fun q => by subst q; have := hmb.symm.trans hY; first | cases this | simp at this) hmb
    replace faw := khv6 _ _ (fun q => by have z9 := faw; rw [q] at z9; have := z9.symm.trans hY; first | cases this | simp at this) faw
    replace fkw := khv6 _ _ (fun q => by have z9 := fkw; rw [q] at z9; have := z9.symm.trans hY; first | cases this | simp at this) fkw
    replace fvw := khv6 _ _ (fun q => by have z9 := fvw; rw [q] at z9; have := z9.symm.trans hY; first | cases this | simp at this) fvw
    replace hY : hv6 y = some (.inr (8, [.ref ms, .ref mb, .ref (ra 28), .int gr, .int (nI 1), .int ca, .int mv, .ref od, .ref pt, .int ct, .int fau, .ref fi, .ref re, .int cs, .ref rc, .ref rs, .ref so, .ref ot, .ref cn, .ref la, .int ce, .ref ro, .int rn])) := by rw [ehv6]; exact qs_self
    clear ehv6
    replace fr := fun b o hb n1 n2 => khv6 b o n1 (fr b o hb n1 n2)
    refine lv_if_eq (tgt := 27) hx hb dX8_find__9 (by decide) (fun c9 => ?_) (fun c9 => ?_)
    · replace c9 : 0 = 0 := (nI_eq (a := 0) (b := 0) (by omega) (by omega)).mp c9
      refine lv_lconst (v := 0) hx hb dX8_find__27 (by decide) ?_
      have ex : xs_find S p0 p1 = (1, 0) := by simp [xs_find, ebi]
      obtain ⟨m9, f9⟩ := hM.fin0 hY0 (h' := hv6) ⟨hRw.1, hRw.2.1, hRw.2.2.1, faw, fkw, fvw⟩ fr
      exact q_lret C hP hS ⟨by first | (rw [ex]; done) | (rw [ex]; rfl), by rw [ex]; exact hY, by first | exact m9 | (rw [ex]; exact m9), f9⟩ (by omega) dX8_find__28
    · replace c9 : ¬ 0 = 0 := fun zq => c9 ((nI_eq (a := 0) (b := 0) (by omega) (by omega)).mpr zq)
      exfalso; omega

theorem dX8_out_44 : decode cX8_out 44 = .ok (.aload_n 0, 1) := by decide +kernel
theorem dX8_out_45 : decode cX8_out 45 = .ok (.getfield 9, 3) := by decide +kernel
theorem dX8_out_48 : decode cX8_out 48 = .ok (.iload_n 2, 1) := by decide +kernel
theorem dX8_out_49 : decode cX8_out 49 = .ok (.aaload, 1) := by decide +kernel
theorem dX8_out_50 : decode cX8_out 50 = .ok (.aload_n 0, 1) := by decide +kernel
theorem dX8_out_51 : decode cX8_out 51 = .ok (.getfield 19, 3) := by decide +kernel
theorem dX8_out_54 : decode cX8_out 54 = .ok (.invokestatic 104, 3) := by decide +kernel
theorem dX8_out_57 : decode cX8_out 57 = .ok (.aload_n 0, 1) := by decide +kernel
theorem dX8_out_58 : decode cX8_out 58 = .ok (.getfield 19, 3) := by decide +kernel
theorem dX8_out_61 : decode cX8_out 61 = .ok (.lload_n 3, 1) := by decide +kernel
theorem dX8_out_62 : decode cX8_out 62 = .ok (.invokestatic 112, 3) := by decide +kernel
theorem dX8_out_65 : decode cX8_out 65 = .ok (.istore 5, 2) := by decide +kernel
theorem dX8_out_67 : decode cX8_out 67 = .ok (.iload 5, 2) := by decide +kernel
theorem dX8_out_69 : decode cX8_out 69 = .ok (.ifCond .lt 12, 3) := by decide +kernel
theorem dX8_out_72 : decode cX8_out 72 = .ok (.aload_n 0, 1) := by decide +kernel
theorem dX8_out_73 : decode cX8_out 73 = .ok (.getfield 19, 3) := by decide +kernel
theorem dX8_out_76 : decode cX8_out 76 = .ok (.iload 5, 2) := by decide +kernel
theorem dX8_out_78 : decode cX8_out 78 = .ok (.invokestatic 161, 3) := by decide +kernel
theorem dX8_out_81 : decode cX8_out 81 = .ok (.aload_n 0, 1) := by decide +kernel
theorem dX8_out_82 : decode cX8_out 82 = .ok (.iload_n 1, 1) := by decide +kernel
theorem dX8_out_83 : decode cX8_out 83 = .ok (.iconst 0, 1) := by decide +kernel
theorem dX8_out_84 : decode cX8_out 84 = .ok (.invokevirtual 135, 3) := by decide +kernel
theorem dX8_out_87 : decode cX8_out 87 = .ok (.ireturn, 1) := by decide +kernel
set_option maxRecDepth 100000 in
set_option maxHeartbeats 4000000 in
theorem c_X8_out (l : Launch) (D : va_G) (cy : Nat → ClassId) (N0 : Nat) (h : qH) (y ms mb mw od pt fi re rc rs so ot cn la ro : Nat) (gr cd ca mv ct fau cs ce rn : Int32) (ra rk rv : Nat → Nat) (S : Nat → qSlot) (p0 p1 : Int32) (p2 : Int64) (hY : h y = some (.inr (8, [.ref ms, .ref mb, .ref mw, .int gr, .int cd, .int ca, .int mv, .ref od, .ref pt, .int ct, .int fau, .ref fi, .ref re, .int cs, .ref rc, .ref rs, .ref so, .ref ot, .ref cn, .ref la, .int ce, .ref ro, .int rn]))) (hM : qMR cy h ms mb mw ra rk rv S) (hI : ∀ i, i < 28 → qOk (S i).1 (S i).2.1) : qC l D cy N0 yX8_out cX8_out 6 (some .int) 2 60 0 0 [.ref y, .int p0, .int p1, .long p2] h (fun v h' => v = some (.int (xs_out S p0 p1 p2).2.2) ∧ h' y = some (.inr (8, [.ref ms, .ref mb, .ref mw, .int gr, .int (xs_out S p0 p1 p2).1, .int ca, .int mv, .ref od, .ref pt, .int ct, .int fau, .ref fi, .ref re, .int cs, .ref rc, .ref rs, .ref so, .ref ot, .ref cn, .ref la, .int ce, .ref ro, .int rn])) ∧ qMR cy h' ms mb mw ra rk rv ((xs_out S p0 p1 p2).2.1) ∧ qFm h h' y ra rk rv) (fun E h' => False) := by
  refine q_ofW (by decide) (by exact Nat.le_of_ble_eq_true rfl) ?_
  intro p e s m below meth c ls C hP hl
  have hx := C.1
  have hb := C.2.1
  have hS : va_S (qA N0) s.heap s.heap [] := va_S.rf
  have hl : lv_has ls 6 [(0, .ref y), (1, .int p0), (2, .int p1), (3, .long p2)] := hl
  have hle : qle h h := qle_rf
  have hY0 := hY
  obtain ⟨hms, hmb, hmw, hmd, hrs, kdw, smw, dpw, rww, nw, fw, gw, hRw⟩ := id hM
  subst hmw
  have fr : ∀ b o, h b = some o → b ≠ y → qOf (ra 28) (rk 28) (rv 28) b → h b = some o := fun b o hb _ _ => hb
  have faw := hRw.2.2.2.1
  have fkw := hRw.2.2.2.2.1
  have fvw := hRw.2.2.2.2.2
  unfold qRb at faw
  unfold qJr at fkw fvw
  refine lv_aload_n hx hb dX8_out_0 rfl (lv_at hl 0 rfl) ?_
  refine lv_iload_n hx hb dX8_out_1 rfl (lv_at hl 1 rfl) ?_
  refine q_callS (rest := [.ref y]) C (c_X8_isSlot l D cy N0 h p0) kX8_isSlot g1246 g1247 hP hS (by first | decide | omega) hl.1 rfl (by simp [q_catrf, q_cati, q_catl, q_cata, q_catn]) (by first | decide | omega) dX8_out_2 (fun q ce E h' H1 locs1 hE => hE.elim) (fun v hh1 H locs hq hP hS => ?_)
  obtain ⟨rfl, ⟨rfl, sl9⟩ | ⟨rfl, sl9⟩⟩ := hq
  · obtain ⟨i, hi, rfl⟩ := sl9.of
    have ebi : bSl (nI i) = true := bSl_t sl9
    have eci : (nI i).toNatClampNeg = i := nI_clamp (by omega)
    refine lv_if_eq (tgt := 19) hx hb dX8_out_5 (by decide) (fun c5 => ?_) (fun c5 => ?_)
    · replace c5 : 1 = 0 := (nI_eq (a := 1) (b := 0) (by omega) (by omega)).mp c5
      exfalso; omega
    · replace c5 : ¬ 1 = 0 := fun zq => c5 ((nI_eq (a := 1) (b := 0) (by omega) (by omega)).mpr zq)
      refine lv_iload_n hx hb dX8_out_8 rfl (lv_at hl 2 rfl) ?_
      refine q_callS (rest := [.ref y]) C (c_X8_isSlot l D cy N0 h p1) kX8_isSlot g1246 g1247 hP hS (by first | decide | omega) hl.1 rfl (by simp [q_catrf, q_cati, q_catl, q_cata, q_catn]) (by first | decide | omega) dX8_out_9 (fun q ce E h' H1 locs1 hE => hE.elim) (fun v hh2 H locs hq hP hS => ?_)
      obtain ⟨rfl, ⟨rfl, sl9⟩ | ⟨rfl, sl9⟩⟩ := hq
      · obtain ⟨j, hj, rfl⟩ := sl9.of
        have ebj : bSl (nI j) = true := bSl_t sl9
        have ecj : (nI j).toNatClampNeg = j := nI_clamp (by omega)
        refine lv_if_eq (tgt := 19) hx hb dX8_out_12 (by decide) (fun c12 => ?_) (fun c12 => ?_)
        · replace c12 : 1 = 0 := (nI_eq (a := 1) (b := 0) (by omega) (by omega)).mp c12
          exfalso; omega
        · replace c12 : ¬ 1 = 0 := fun zq => c12 ((nI_eq (a := 1) (b := 0) (by omega) (by omega)).mpr zq)
          refine lv_iconst (v := nI 1) hx hb dX8_out_15 (by decide) ?_
          refine lv_goto (tgt := 20) hx hb dX8_out_16 (by decide) ?_
          refine lv_iconst (v := nI 1) hx hb dX8_out_20 (by decide) ?_
          refine q_callV (rest := []) C (c_X8_good1 l D cy N0 h y ms mb (ra 28) od pt fi re rc rs so ot cn la ro gr cd ca mv ct fau cs ce rn (nI 1) hY) kX8_good g1249 g1251 rfl gp41 g4 hP hS hY (by first | decide | omega) hl.1 rfl (by decide) (by first | decide | omega) dX8_out_21 (fun q ce E h' H1 locs1 hE => hE.elim) (fun v hh3 H locs hq hP hS => ?_)
          obtain ⟨rfl, rfl⟩ := hq
          replace hP : qP D N0 (qs h y (.inr (8, [.ref ms, .ref mb, .ref (ra 28), .int gr, .int 0, .int ca, .int mv, .ref od, .ref pt, .int ct, .int fau, .ref fi, .ref re, .int cs, .ref rc, .ref rs, .ref so, .ref ot, .ref cn, .ref la, .int ce, .ref ro, .int rn]))) H := hP
          obtain ⟨hv1, ehv1⟩ : ∃ z : qH, z = qs h y (.inr (8, [.ref ms, .ref mb, .ref (ra 28), .int gr, .int 0, .int ca, .int mv, .ref od, .ref pt, .int ct, .int fau, .ref fi, .ref re, .int cs, .ref rc, .ref rs, .ref so, .ref ot, .ref cn, .ref la, .int ce, .ref ro, .int rn])) := ⟨_, rfl⟩
          rw [← ehv1] at hP
          have khv1 : ∀ b o, b ≠ y → h b = some o → hv1 b = some o := by rw [ehv1]; exact fun b o nb hb => (qs_ne nb).trans hb
          replace hms := khv1 _ _ (fun q => by subst q; have := hms.symm.trans hY; first | cases this | simp at this) hms
          replace hmb := khv1 _ _ (fun q => by subst q; have := hmb.symm.trans hY; first | cases this | simp at this) hmb
          replace faw := khv1 _ _ (fun q => by have z9 := faw; rw [q] at z9; have := z9.symm.trans hY; first | cases this | simp at this) faw
          replace fkw := khv1 _ _ (fun q => by have z9 := fkw; rw [q] at z9; have := z9.symm.trans hY; first | cases this | simp at this) fkw
          replace fvw := khv1 _ _ (fun q => by have z9 := fvw; rw [q] at z9; have := z9.symm.trans hY; first | cases this | simp at this) fvw
          replace hY : hv1 y = some (.inr (8, [.ref ms, .ref mb, .ref (ra 28), .int gr, .int 0, .int ca, .int mv, .ref od, .ref pt, .int ct, .int fau, .ref fi, .ref re, .int cs, .ref rc, .ref rs, .ref so, .ref ot, .ref cn, .ref la, .int ce, .ref ro, .int rn])) := by rw [ehv1]; exact qs_self
          clear ehv1
          replace fr := fun b o hb n1 n2 => khv1 b o n1 (fr b o hb n1 n2)
          refine lv_if_eq (tgt := 42) hx hb dX8_out_24 (by decide) (fun c24 => ?_) (fun c24 => ?_)
          · replace c24 : 1 = 0 := (nI_eq (a := 1) (b := 0) (by omega) (by omega)).mp c24
            exfalso; omega
          · replace c24 : ¬ 1 = 0 := fun zq => c24 ((nI_eq (a := 1) (b := 0) (by omega) (by omega)).mpr zq)
            refine lv_aload_n hx hb dX8_out_27 rfl (lv_at hl 0 rfl) ?_
            refine lv_aload_n hx hb dX8_out_28 rfl (lv_at hl 0 rfl) ?_
            refine lv_iload_n hx hb dX8_out_29 rfl (lv_at hl 2 rfl) ?_
            refine lv_bipush (v := nI 14) hx hb dX8_out_30 (by decide) ?_
            obtain ⟨nj, rwj, Fj, Gj, hRj, hnj, hLj, hKj⟩ := hrs j (by omega)
            have apj := hRj.apart hRw (hmd.two (i := j) (j := 28) (by omega) (by omega) (by omega))
            replace hRj := hRj.keep2 (fun b o hb ho => fr b o ho (hRj.ney hY0 hb) (hb.elim (fun q => q ▸ apj.1) (fun hb => hb.elim (fun q => q ▸ apj.2.1) (fun q => q ▸ apj.2.2))))
            have faj := hRj.2.2.2.1
            have fkj := hRj.2.2.2.2.1
            have fvj := hRj.2.2.2.2.2
            unfold qRb at faj
            unfold qJr at fkj fvj
            refine q_callV (rest := [.ref y]) C (c_X8_holds l D cy N0 hv1 y ms ra rk rv j 14 _ _ _ _ _ _ _ _ hY rfl hms ⟨hRj.1, hRj.2.1, hRj.2.2.1, faj, fkj, fvj⟩ (by omega)) kX8_holds g1264 g1266 rfl gp42 g4 hP hS hY (by first | decide | omega) hl.1 rfl (by simp [q_catrf, q_cati, q_catl, q_cata, q_catn]) (by first | decide | omega) dX8_out_32 (fun q ce E h' H1 locs1 hE => hE.elim) (fun v hh4 H locs hq hP hS => ?_)
            obtain ⟨rfl, rfl⟩ := hq
            cases hoj : bHo (S j).1 14 with
            | false =>
              refine lv_iconst (v := nI 2) hx hb dX8_out_35 (by decide) ?_
              refine q_callV (rest := []) C (c_X8_good0 l D cy N0 hv1 y ms mb (ra 28) od pt fi re rc rs so ot cn la ro gr 0 ca mv ct fau cs ce rn (nI 2) hY) kX8_good g1249 g1251 rfl gp41 g4 hP hS hY (by first | decide | omega) hl.1 rfl (by decide) (by first | decide | omega) dX8_out_36 (fun q ce E h' H1 locs1 hE => hE.elim) (fun v hh5 H locs hq hP hS => ?_)
              obtain ⟨rfl, rfl⟩ := hq
              replace hP : qP D N0 (qs hv1 y (.inr (8, [.ref ms, .ref mb, .ref (ra 28), .int gr, .int (nI 2), .int ca, .int mv, .ref od, .ref pt, .int ct, .int fau, .ref fi, .ref re, .int cs, .ref rc, .ref rs, .ref so, .ref ot, .ref cn, .ref la, .int ce, .ref ro, .int rn]))) H := hP
              obtain ⟨hv2, ehv2⟩ : ∃ z : qH, z = qs hv1 y (.inr (8, [.ref ms, .ref mb, .ref (ra 28), .int gr, .int (nI 2), .int ca, .int mv, .ref od, .ref pt, .int ct, .int fau, .ref fi, .ref re, .int cs, .ref rc, .ref rs, .ref so, .ref ot, .ref cn, .ref la, .int ce, .ref ro, .int rn])) := ⟨_, rfl⟩
              rw [← ehv2] at hP
              have khv2 : ∀ b o, b ≠ y → hv1 b = some o → hv2 b = some o := by rw [ehv2]; exact fun b o nb hb => (qs_ne nb).trans hb
              replace hms := khv2 _ _ (fun q => by subst q; have := hms.symm.trans hY; first | cases this | simp at this) hms
              replace hmb := khv2 _ _ (fun q => by subst q; have := hmb.symm.trans hY; first | cases this | simp at this) hmb
              replace faw := khv2 _ _ (fun q => by have z9 := faw; rw [q] at z9; have := z9.symm.trans hY; first | cases this | simp at this) faw
              replace fkw := khv2 _ _ (fun q => by have z9 := fkw; rw [q] at z9; have := z9.symm.trans hY; first | cases this | simp at this) fkw
              replace fvw := khv2 _ _ (fun q => by have z9 := fvw; rw [q] at z9; have := z9.symm.trans hY; first | cases this | simp at this) fvw
              replace faj := khv2 _ _ (fun q => by have z9 := faj; rw [q] at z9; have := z9.symm.trans hY; first | cases this | simp at this) faj
              replace fkj := khv2 _ _ (fun q => by have z9 := fkj; rw [q] at z9; have := z9.symm.trans hY; first | cases this | simp at this) fkj
              replace fvj := khv2 _ _ (fun q => by have z9 := fvj; rw [q] at z9; have := z9.symm.trans hY; first | cases this | simp at this) fvj
              replace hY : hv2 y = some (.inr (8, [.ref ms, .ref mb, .ref (ra 28), .int gr, .int (nI 2), .int ca, .int mv, .ref od, .ref pt, .int ct, .int fau, .ref fi, .ref re, .int cs, .ref rc, .ref rs, .ref so, .ref ot, .ref cn, .ref la, .int ce, .ref ro, .int rn])) := by rw [ehv2]; exact qs_self
              clear ehv2
              replace fr := fun b o hb n1 n2 => khv2 b o n1 (fr b o hb n1 n2)
              refine lv_if_ne (tgt := 44) hx hb dX8_out_39 (by decide) (fun c39 => ?_) (fun c39 => ?_)
              · replace c39 : ¬ 0 = 0 := fun zq => c39 ((nI_eq (a := 0) (b := 0) (by omega) (by omega)).mpr zq)
                exfalso; omega
              · replace c39 : 0 = 0 := (nI_eq (a := 0) (b := 0) (by omega) (by omega)).mp c39
                refine lv_iconst (v := nI 0) hx hb dX8_out_42 (by decide) ?_
                have ex : xs_out S (nI i) (nI j) p2 = (2, S, 0) := by (unfold xs_out; rw [if_neg (by simp [ebi, ebj]), ecj, if_pos (by simp [hoj])])
                obtain ⟨m9, f9⟩ := hM.fin0 hY0 (h' := hv2) ⟨hRw.1, hRw.2.1, hRw.2.2.1, faw, fkw, fvw⟩ fr
                exact q_iret C hP hS ⟨by first | (rw [ex]; done) | (rw [ex]; rfl), by rw [ex]; exact hY, by first | exact m9 | (rw [ex]; exact m9), f9⟩ (by omega) dX8_out_43
            | true =>
              refine lv_iconst (v := nI 2) hx hb dX8_out_35 (by decide) ?_
              refine q_callV (rest := []) C (c_X8_good1 l D cy N0 hv1 y ms mb (ra 28) od pt fi re rc rs so ot cn la ro gr 0 ca mv ct fau cs ce rn (nI 2) hY) kX8_good g1249 g1251 rfl gp41 g4 hP hS hY (by first | decide | omega) hl.1 rfl (by decide) (by first | decide | omega) dX8_out_36 (fun q ce E h' H1 locs1 hE => hE.elim) (fun v hh6 H locs hq hP hS => ?_)
              obtain ⟨rfl, rfl⟩ := hq
              replace hP : qP D N0 (qs hv1 y (.inr (8, [.ref ms, .ref mb, .ref (ra 28), .int gr, .int 0, .int ca, .int mv, .ref od, .ref pt, .int ct, .int fau, .ref fi, .ref re, .int cs, .ref rc, .ref rs, .ref so, .ref ot, .ref cn, .ref la, .int ce, .ref ro, .int rn]))) H := hP
              obtain ⟨hv3, ehv3⟩ : ∃ z : qH, z = qs hv1 y (.inr (8, [.ref ms, .ref mb, .ref (ra 28), .int gr, .int 0, .int ca, .int mv, .ref od, .ref pt, .int ct, .int fau, .ref fi, .ref re, .int cs, .ref rc, .ref rs, .ref so, .ref ot, .ref cn, .ref la, .int ce, .ref ro, .int rn])) := ⟨_, rfl⟩
              rw [← ehv3] at hP
              have khv3 : ∀ b o, b ≠ y → hv1 b = some o → hv3 b = some o := by rw [ehv3]; exact fun b o nb hb => (qs_ne nb).trans hb
              replace hms := khv3 _ _ (fun q => by subst q; have := hms.symm.trans hY; first | cases this | simp at this) hms
              replace hmb := khv3 _ _ (fun q => by subst q; have := hmb.symm.trans hY; first | cases this | simp at this) hmb
              replace faw := khv3 _ _ (fun q => by have z9 := faw; rw [q] at z9; have := z9.symm.trans hY; first | cases this | simp at this) faw
              replace fkw := khv3 _ _ (fun q => by have z9 := fkw; rw [q] at z9; have := z9.symm.trans hY; first | cases this | simp at this) fkw
              replace fvw := khv3 _ _ (fun q => by have z9 := fvw; rw [q] at z9; have := z9.symm.trans hY; first | cases this | simp at this) fvw
              replace faj := khv3 _ _ (fun q => by have z9 := faj; rw [q] at z9; have := z9.symm.trans hY; first | cases this | simp at this) faj
              replace fkj := khv3 _ _ (fun q => by have z9 := fkj; rw [q] at z9; have := z9.symm.trans hY; first | cases this | simp at this) fkj
              replace fvj := khv3 _ _ (fun q => by have z9 := fvj; rw [q] at z9; have := z9.symm.trans hY; first | cases this | simp at this) fvj
              replace hY : hv3 y = some (.inr (8, [.ref ms, .ref mb, .ref (ra 28), .int gr, .int 0, .int ca, .int mv, .ref od, .ref pt, .int ct, .int fau, .ref fi, .ref re, .int cs, .ref rc, .ref rs, .ref so, .ref ot, .ref cn, .ref la, .int ce, .ref ro, .int rn])) := by rw [ehv3]; exact qs_self
              clear ehv3
              replace fr := fun b o hb n1 n2 => khv3 b o n1 (fr b o hb n1 n2)
              refine lv_if_ne (tgt := 44) hx hb dX8_out_39 (by decide) (fun c39 => ?_) (fun c39 => ?_)
              · replace c39 : ¬ 1 = 0 := fun zq => c39 ((nI_eq (a := 1) (b := 0) (by omega) (by omega)).mpr zq)
                refine lv_aload_n hx hb dX8_out_44 rfl (lv_at hl 0 rfl) ?_
                refine q_get C hP hY rfl inX8 0 (by decide) g1167 rfl dX8_out_45 ?_
                refine lv_iload_n hx hb dX8_out_48 rfl (lv_at hl 2 rfl) ?_
                refine q_aaldR C hP hms rfl (by omega) (by omega) rfl dX8_out_49 ?_
                refine lv_aload_n hx hb dX8_out_50 rfl (lv_at hl 0 rfl) ?_
                refine q_get C hP hY rfl inX8 2 (by decide) g1169 rfl dX8_out_51 ?_
                refine q_callS (rest := []) C (c_X8_copy l D cy N0 hv3 (ra j) (rk j) (rv j) (S j).1 (nI (S j).2.2.1) (nI (S j).2.2.2) rwj nj Fj Gj (ra 28) (rk 28) (rv 28) kdw smw dpw rww nw fw gw ⟨hRj.1, hRj.2.1, hRj.2.2.1, faj, fkj, fvj⟩ ⟨hRw.1, hRw.2.1, hRw.2.2.1, faw, fkw, fvw⟩ apj (by omega)) kX8_copy g1257 g1258 hP hS (by first | decide | omega) hl.1 rfl (by decide) (by first | decide | omega) dX8_out_54 (fun q ce E h' H1 locs1 hE => hE.elim) (fun v hh7 H locs hq hP hS => ?_)
                obtain ⟨rfl, rfl⟩ := hq
                obtain ⟨hv4, ehv4⟩ : ∃ z : qH, z = qRh cy hv3 (ra 28) (rk 28) (rv 28) ((S j).1) (nI nj) (nI (S j).2.2.1) (nI (S j).2.2.2) rwj (qCp Fj fw nj) (qCp Gj gw nj) := ⟨_, rfl⟩
                rw [← ehv4] at hP
                have r9 : qRw cy hv4 (ra 28) (rk 28) (rv 28) ((S j).1) (nI nj) (nI (S j).2.2.1) (nI (S j).2.2.2) rwj (qCp Fj fw nj) (qCp Gj gw nj) := by rw [ehv4]; exact qRw.new (cy := cy) (h := hv3) (kd := kdw) (n := (nI nw)) (sm := smw) (dp := dpw) (rw := rww) (f := fw) (g := gw) ⟨hRw.1, hRw.2.1, hRw.2.2.1, faw, fkw, fvw⟩
                have khv4 : ∀ b o, qOf (ra 28) (rk 28) (rv 28) b → hv3 b = some o → hv4 b = some o := by rw [ehv4]; exact fun b o q hb => (qRh_o q.1 q.2.1 q.2.2).trans hb
                replace hY := khv4 _ _ ⟨fun q => by rw [q] at hY; have := faw.symm.trans hY; first | cases this | simp at this, fun q => by rw [q] at hY; have := fkw.symm.trans hY; first | cases this | simp at this, fun q => by rw [q] at hY; have := fvw.symm.trans hY; first | cases this | simp at this⟩ hY
                replace hms := khv4 _ _ ⟨fun q => by rw [q] at hms; have := faw.symm.trans hms; first | cases this | simp at this, fun q => by rw [q] at hms; have := fkw.symm.trans hms; first | cases this | simp at this, fun q => by rw [q] at hms; have := fvw.symm.trans hms; first | cases this | simp at this⟩ hms
                replace hmb := khv4 _ _ ⟨fun q => by rw [q] at hmb; have := faw.symm.trans hmb; first | cases this | simp at this, fun q => by rw [q] at hmb; have := fkw.symm.trans hmb; first | cases this | simp at this, fun q => by rw [q] at hmb; have := fvw.symm.trans hmb; first | cases this | simp at this⟩ hmb
                replace faj := khv4 _ _ apj.1 faj
                replace fkj := khv4 _ _ apj.2.1 fkj
                replace fvj := khv4 _ _ apj.2.2 fvj
                replace fr := fun b o hb n1 n2 => khv4 b o n2 (fr b o hb n1 n2)
                clear faw fkw fvw
                have faw := r9.2.2.2.1
                have fkw := r9.2.2.2.2.1
                have fvw := r9.2.2.2.2.2
                unfold qRb at faw
                unfold qJr at fkw fvw
                clear r9 ehv4
                have lw : qLs ((S j).1) (qCp Fj fw nj) (qCp Gj gw nj) nj = (S j).2.1 := by rw [qLs_cp]; exact hLj.symm
                refine lv_aload_n hx hb dX8_out_57 rfl (lv_at hl 0 rfl) ?_
                refine q_get C hP hY rfl inX8 2 (by decide) g1169 rfl dX8_out_58 ?_
                refine lv_lload_n hx hb dX8_out_61 rfl (lv_at hl 3 rfl) ?_
                refine q_callS (rest := []) C (c_X8_find l D cy N0 hv4 (ra 28) (rk 28) (rv 28) ((S j).1) (nI (S j).2.2.1) (nI (S j).2.2.2) rwj nj (qCp Fj fw nj) (qCp Gj gw nj) p2 ⟨hRw.1, hRw.2.1, hRw.2.2.1, faw, fkw, fvw⟩ (by omega)) kX8_find g1279 g1280 hP hS (by first | decide | omega) hl.1 rfl (by decide) (by first | decide | omega) dX8_out_62 (fun q ce E h' H1 locs1 hE => hE.elim) (fun v hh8 H locs hq hP hS => ?_)
                obtain ⟨rfl, hq⟩ := hq
                rcases hq with ⟨j8, rfl, hj8, e8, m8⟩ | ⟨rfl, m8⟩
                · have hx8 := xHas_t (kd := (S j).1) (g := (qCp Gj gw nj)) hj8 e8
                  rw [lw] at hx8
                  refine lv_istore (lv' := [(5, .int (nI j8)), (0, .ref y), (1, .int (nI i)), (2, .int (nI j)), (3, .long p2)]) hx hb dX8_out_65 hl (by decide) rfl (fun ls hl => ?_)
                  refine lv_iload hx hb dX8_out_67 (lv_at hl 0 rfl) ?_
                  refine lv_if_lt (tgt := 81) hx hb dX8_out_69 (by decide) (fun c69 => ?_) (fun c69 => ?_)
                  · replace c69 : j8 < 0 := (nI_ltI (a := j8) (b := 0) (by omega) (by omega)).mp c69
                    exfalso; omega
                  · replace c69 : ¬ j8 < 0 := fun zq => c69 ((nI_ltI (a := j8) (b := 0) (by omega) (by omega)).mpr zq)
                    refine lv_aload_n hx hb dX8_out_72 rfl (lv_at hl 1 rfl) ?_
                    refine q_get C hP hY rfl inX8 2 (by decide) g1169 rfl dX8_out_73 ?_
                    refine lv_iload hx hb dX8_out_76 (lv_at hl 0 rfl) ?_
                    refine q_callS (rest := []) C (c_X8_remove l D cy N0 hv4 (ra 28) (rk 28) (rv 28) ((S j).1) (nI (S j).2.2.1) (nI (S j).2.2.2) rwj nj (qCp Fj fw nj) (qCp Gj gw nj) j8 ⟨hRw.1, hRw.2.1, hRw.2.2.1, faw, fkw, fvw⟩ (by omega) (by omega)) kX8_remove g1386 g1387 hP hS (by first | decide | omega) hl.1 rfl (by decide) (by first | decide | omega) dX8_out_78 (fun q ce E h' H1 locs1 hE => hE.elim) (fun v hh9 H locs hq hP hS => ?_)
                    obtain ⟨rfl, rfl⟩ := hq
                    obtain ⟨hv5, ehv5⟩ : ∃ z : qH, z = qRh cy hv4 (ra 28) (rk 28) (rv 28) ((S j).1) (nI (nj - 1)) (nI (S j).2.2.1) (nI (S j).2.2.2) rwj (qSd (qCp Fj fw nj) j8 (nj - 1)) (qSd (qCp Gj gw nj) j8 (nj - 1)) := ⟨_, rfl⟩
                    rw [← ehv5] at hP
                    have r9 : qRw cy hv5 (ra 28) (rk 28) (rv 28) ((S j).1) (nI (nj - 1)) (nI (S j).2.2.1) (nI (S j).2.2.2) rwj (qSd (qCp Fj fw nj) j8 (nj - 1)) (qSd (qCp Gj gw nj) j8 (nj - 1)) := by rw [ehv5]; exact qRw.new (cy := cy) (h := hv4) (kd := (S j).1) (n := (nI nj)) (sm := (nI (S j).2.2.1)) (dp := (nI (S j).2.2.2)) (rw := rwj) (f := (qCp Fj fw nj)) (g := (qCp Gj gw nj)) ⟨hRw.1, hRw.2.1, hRw.2.2.1, faw, fkw, fvw⟩
                    have khv5 : ∀ b o, qOf (ra 28) (rk 28) (rv 28) b → hv4 b = some o → hv5 b = some o := by rw [ehv5]; exact fun b o q hb => (qRh_o q.1 q.2.1 q.2.2).trans hb
                    replace hY := khv5 _ _ ⟨fun q => by rw [q] at hY; have := faw.symm.trans hY; first | cases this | simp at this, fun q => by rw [q] at hY; have := fkw.symm.trans hY; first | cases this | simp at this, fun q => by rw [q] at hY; have := fvw.symm.trans hY; first | cases this | simp at this⟩ hY
                    replace hms := khv5 _ _ ⟨fun q => by rw [q] at hms; have := faw.symm.trans hms; first | cases this | simp at this, fun q => by rw [q] at hms; have := fkw.symm.trans hms; first | cases this | simp at this, fun q => by rw [q] at hms; have := fvw.symm.trans hms; first | cases this | simp at this⟩ hms
                    replace hmb := khv5 _ _ ⟨fun q => by rw [q] at hmb; have := faw.symm.trans hmb; first | cases this | simp at this, fun q => by rw [q] at hmb; have := fkw.symm.trans hmb; first | cases this | simp at this, fun q => by rw [q] at hmb; have := fvw.symm.trans hmb; first | cases this | simp at this⟩ hmb
                    replace faj := khv5 _ _ apj.1 faj
                    replace fkj := khv5 _ _ apj.2.1 fkj
                    replace fvj := khv5 _ _ apj.2.2 fvj
                    replace fr := fun b o hb n1 n2 => khv5 b o n2 (fr b o hb n1 n2)
                    clear faw fkw fvw
                    have faw := r9.2.2.2.1
                    have fkw := r9.2.2.2.2.1
                    have fvw := r9.2.2.2.2.2
                    unfold qRb at faw
                    unfold qJr at fkw fvw
                    clear r9 ehv5
                    replace lw : qLs ((S j).1) (qSd (qCp Fj fw nj) j8 (nj - 1)) (qSd (qCp Gj gw nj) j8 (nj - 1)) (nj - 1) = ((S j).2.1).eraseIdx j8 := by rw [qLs_rem (by omega), lw]
                    replace lw : qLs ((S j).1) (qSd (qCp Fj fw nj) j8 (nj - 1)) (qSd (qCp Gj gw nj) j8 (nj - 1)) (nj - 1) = ((S j).2.1.filter (fun p => decide (p.1 ≠ p2))) := by rw [lw, hLj]; exact qerase_f (hLj ▸ (hI j (by omega)).2.1 (bHo_14 (hI j (by omega)).2.2 hoj)) hj8 (by have := e8; unfold qCp at this; rwa [if_pos hj8] at this)
                    refine lv_aload_n hx hb dX8_out_81 rfl (lv_at hl 1 rfl) ?_
                    refine lv_iload_n hx hb dX8_out_82 rfl (lv_at hl 2 rfl) ?_
                    refine lv_iconst (v := nI 0) hx hb dX8_out_83 (by decide) ?_
                    obtain ⟨ni, rwi, Fi, Gi, hRi, hni, hLi, hKi⟩ := hrs i (by omega)
                    have api := hRi.apart hRw (hmd.two (i := i) (j := 28) (by omega) (by omega) (by omega))
                    replace hRi := hRi.keep2 (fun b o hb ho => fr b o ho (hRi.ney hY0 hb) (hb.elim (fun q => q ▸ api.1) (fun hb => hb.elim (fun q => q ▸ api.2.1) (fun q => q ▸ api.2.2))))
                    have fai := hRi.2.2.2.1
                    have fki := hRi.2.2.2.2.1
                    have fvi := hRi.2.2.2.2.2
                    unfold qRb at fai
                    unfold qJr at fki fvi
                    refine q_callV (rest := []) C (c_X8_done l D cy N0 hv5 y ms mb od pt fi re rc rs so ot cn la ro gr 0 ca mv ct fau cs ce rn ra rk rv i (nI 0) (S j).1 (nI (S j).2.2.1) (nI (S j).2.2.2) rwj (nj - 1) (qSd (qCp Fj fw nj) j8 (nj - 1)) (qSd (qCp Gj gw nj) j8 (nj - 1)) (S i).1 (nI (S i).2.2.1) (nI (S i).2.2.2) rwi ni Fi Gi hY hms hmd ⟨hRw.1, hRw.2.1, hRw.2.2.1, faw, fkw, fvw⟩ ⟨hRi.1, hRi.2.1, hRi.2.2.1, fai, fki, fvi⟩ (by omega) (by omega)) kX8_done g1293 g1295 rfl gp45 g4 hP hS hY (by first | decide | omega) hl.1 rfl (by decide) (by first | decide | omega) dX8_out_84 (fun q ce E h' H1 locs1 hE => hE.elim) (fun v hh10 H locs hq hP hS => ?_)
                    obtain ⟨rfl, hY9, hw9, hi9, fr9⟩ := hq
                    replace fr := fun b o hb n1 n2 n3 => fr9 b o (fr b o hb n1 n2) n1 n2 n3
                    rw [show mv + nI 0 = mv from Int32.add_zero _] at hY9
                    have el : ((S j).2.1.filter (fun p => decide (p.1 ≠ p2))).length = (nj - 1) := by rw [← lw, qLs_len]
                    have ex : xs_out S (nI i) (nI j) p2 = (0, qU S i ((S j).1, ((S j).2.1.filter (fun p => decide (p.1 ≠ p2))), (S j).2.2), nI (nj - 1)) := by (unfold xs_out; rw [if_neg (by simp [ebi, ebj]), ecj, if_neg (by simp [hoj]), eci]; unfold xr_out; rw [el])
                    obtain ⟨m9, f9⟩ := hM.fin hY0 (i := i) (by omega) (s := ((S j).1, ((S j).2.1.filter (fun p => decide (p.1 ≠ p2))), (S j).2.2.1, (S j).2.2.2)) ⟨(nj - 1), _, _, _, hi9, by omega, by rw [qLs_cp]; exact lw.symm, Or.inl rfl⟩ hw9 fr
                    exact q_iret C hP hS ⟨by first | (rw [ex]; done) | (rw [ex]; rfl), by rw [ex]; exact hY9, by first | exact m9 | (rw [ex]; exact m9), f9⟩ (by omega) dX8_out_87
                · have hx8 := xHas_f (kd := (S j).1) (g := (qCp Gj gw nj)) m8
                  rw [lw] at hx8
                  refine lv_istore (lv' := [(5, .int (-1)), (0, .ref y), (1, .int (nI i)), (2, .int (nI j)), (3, .long p2)]) hx hb dX8_out_65 hl (by decide) rfl (fun ls hl => ?_)
                  refine lv_iload hx hb dX8_out_67 (lv_at hl 0 rfl) ?_
                  refine lv_if_lt (tgt := 81) hx hb dX8_out_69 (by decide) (fun _ => ?_) (fun c => absurd (by decide) c)
                  replace lw : qLs ((S j).1) (qCp Fj fw nj) (qCp Gj gw nj) nj = ((S j).2.1.filter (fun p => decide (p.1 ≠ p2))) := by rw [lw, hLj]; exact (qnot_f (fun q hq => by have := m8 q hq; unfold qCp at this; rwa [if_pos hq] at this)).symm
                  refine lv_aload_n hx hb dX8_out_81 rfl (lv_at hl 1 rfl) ?_
                  refine lv_iload_n hx hb dX8_out_82 rfl (lv_at hl 2 rfl) ?_
                  refine lv_iconst (v := nI 0) hx hb dX8_out_83 (by decide) ?_
                  obtain ⟨ni, rwi, Fi, Gi, hRi, hni, hLi, hKi⟩ := hrs i (by omega)
                  have api := hRi.apart hRw (hmd.two (i := i) (j := 28) (by omega) (by omega) (by omega))
                  replace hRi := hRi.keep2 (fun b o hb ho => fr b o ho (hRi.ney hY0 hb) (hb.elim (fun q => q ▸ api.1) (fun hb => hb.elim (fun q => q ▸ api.2.1) (fun q => q ▸ api.2.2))))
                  have fai := hRi.2.2.2.1
                  have fki := hRi.2.2.2.2.1
                  have fvi := hRi.2.2.2.2.2
                  unfold qRb at fai
                  unfold qJr at fki fvi
                  refine q_callV (rest := []) C (c_X8_done l D cy N0 hv4 y ms mb od pt fi re rc rs so ot cn la ro gr 0 ca mv ct fau cs ce rn ra rk rv i (nI 0) (S j).1 (nI (S j).2.2.1) (nI (S j).2.2.2) rwj nj (qCp Fj fw nj) (qCp Gj gw nj) (S i).1 (nI (S i).2.2.1) (nI (S i).2.2.2) rwi ni Fi Gi hY hms hmd ⟨hRw.1, hRw.2.1, hRw.2.2.1, faw, fkw, fvw⟩ ⟨hRi.1, hRi.2.1, hRi.2.2.1, fai, fki, fvi⟩ (by omega) (by omega)) kX8_done g1293 g1295 rfl gp45 g4 hP hS hY (by first | decide | omega) hl.1 rfl (by decide) (by first | decide | omega) dX8_out_84 (fun q ce E h' H1 locs1 hE => hE.elim) (fun v hh11 H locs hq hP hS => ?_)
                  obtain ⟨rfl, hY9, hw9, hi9, fr9⟩ := hq
                  replace fr := fun b o hb n1 n2 n3 => fr9 b o (fr b o hb n1 n2) n1 n2 n3
                  rw [show mv + nI 0 = mv from Int32.add_zero _] at hY9
                  have el : ((S j).2.1.filter (fun p => decide (p.1 ≠ p2))).length = nj := by rw [← lw, qLs_len]
                  have ex : xs_out S (nI i) (nI j) p2 = (0, qU S i ((S j).1, ((S j).2.1.filter (fun p => decide (p.1 ≠ p2))), (S j).2.2), nI nj) := by (unfold xs_out; rw [if_neg (by simp [ebi, ebj]), ecj, if_neg (by simp [hoj]), eci]; unfold xr_out; rw [el])
                  obtain ⟨m9, f9⟩ := hM.fin hY0 (i := i) (by omega) (s := ((S j).1, ((S j).2.1.filter (fun p => decide (p.1 ≠ p2))), (S j).2.2.1, (S j).2.2.2)) ⟨nj, _, _, _, hi9, by omega, by rw [qLs_cp]; exact lw.symm, Or.inl rfl⟩ hw9 fr
                  exact q_iret C hP hS ⟨by first | (rw [ex]; done) | (rw [ex]; rfl), by rw [ex]; exact hY9, by first | exact m9 | (rw [ex]; exact m9), f9⟩ (by omega) dX8_out_87
              · replace c39 : 1 = 0 := (nI_eq (a := 1) (b := 0) (by omega) (by omega)).mp c39
                exfalso; omega
      · have ebj : bSl p1 = false := bSl_f sl9
        refine lv_if_eq (tgt := 19) hx hb dX8_out_12 (by decide) (fun c12 => ?_) (fun c12 => ?_)
        · replace c12 : 0 = 0 := (nI_eq (a := 0) (b := 0) (by omega) (by omega)).mp c12
          refine lv_iconst (v := nI 0) hx hb dX8_out_19 (by decide) ?_
          refine lv_iconst (v := nI 1) hx hb dX8_out_20 (by decide) ?_
          refine q_callV (rest := []) C (c_X8_good0 l D cy N0 h y ms mb (ra 28) od pt fi re rc rs so ot cn la ro gr cd ca mv ct fau cs ce rn (nI 1) hY) kX8_good g1249 g1251 rfl gp41 g4 hP hS hY (by first | decide | omega) hl.1 rfl (by decide) (by first | decide | omega) dX8_out_21 (fun q ce E h' H1 locs1 hE => hE.elim) (fun v hh12 H locs hq hP hS => ?_)
          obtain ⟨rfl, rfl⟩ := hq
          replace hP : qP D N0 (qs h y (.inr (8, [.ref ms, .ref mb, .ref (ra 28), .int gr, .int (nI 1), .int ca, .int mv, .ref od, .ref pt, .int ct, .int fau, .ref fi, .ref re, .int cs, .ref rc, .ref rs, .ref so, .ref ot, .ref cn, .ref la, .int ce, .ref ro, .int rn]))) H := hP
          obtain ⟨hv6, ehv6⟩ : ∃ z : qH, z = qs h y (.inr (8, [.ref ms, .ref mb, .ref (ra 28), .int gr, .int (nI 1), .int ca, .int mv, .ref od, .ref pt, .int ct, .int fau, .ref fi, .ref re, .int cs, .ref rc, .ref rs, .ref so, .ref ot, .ref cn, .ref la, .int ce, .ref ro, .int rn])) := ⟨_, rfl⟩
          rw [← ehv6] at hP
          have khv6 : ∀ b o, b ≠ y → h b = some o → hv6 b = some o := by rw [ehv6]; exact fun b o nb hb => (qs_ne nb).trans hb
          replace hms := khv6 _ _ (fun q => by subst q; have := hms.symm.trans hY; first | cases this | simp at this) hms
          replace hmb := khv6 _ _ (fun q => by subst q; have := hmb.symm.trans hY; first | cases this | simp at this) hmb
          replace faw := khv6 _ _ (fun q => by have z9 := faw; rw [q] at z9; have := z9.symm.trans hY; first | cases this | simp at this) faw
          replace fkw := khv6 _ _ (fun q => by have z9 := fkw; rw [q] at z9; have := z9.symm.trans hY; first | cases this | simp at this) fkw
          replace fvw := khv6 _ _ (fun q => by have z9 := fvw; rw [q] at z9; have := z9.symm.trans hY; first | cases this | simp at this) fvw
          replace hY : hv6 y = some (.inr (8, [.ref ms, .ref mb, .ref (ra 28), .int gr, .int (nI 1), .int ca, .int mv, .ref od, .ref pt, .int ct, .int fau, .ref fi, .ref re, .int cs, .ref rc, .ref rs, .ref so, .ref ot, .ref cn, .ref la, .int ce, .ref ro, .int rn])) := by rw [ehv6]; exact qs_self
          clear ehv6
          replace fr := fun b o hb n1 n2 => khv6 b o n1 (fr b o hb n1 n2)
          refine lv_if_eq (tgt := 42) hx hb dX8_out_24 (by decide) (fun c24 => ?_) (fun c24 => ?_)
          · replace c24 : 0 = 0 := (nI_eq (a := 0) (b := 0) (by omega) (by omega)).mp c24
            refine lv_iconst (v := nI 0) hx hb dX8_out_42 (by decide) ?_
            have ex : xs_out S (nI i) p1 p2 = (1, S, 0) := by (unfold xs_out; rw [if_pos (by simp [ebi, ebj])])
            obtain ⟨m9, f9⟩ := hM.fin0 hY0 (h' := hv6) ⟨hRw.1, hRw.2.1, hRw.2.2.1, faw, fkw, fvw⟩ fr
            exact q_iret C hP hS ⟨by first | (rw [ex]; done) | (rw [ex]; rfl), by rw [ex]; exact hY, by first | exact m9 | (rw [ex]; exact m9), f9⟩ (by omega) dX8_out_43
          · replace c24 : ¬ 0 = 0 := fun zq => c24 ((nI_eq (a := 0) (b := 0) (by omega) (by omega)).mpr zq)
            exfalso; omega
        · replace c12 : ¬ 0 = 0 := fun zq => c12 ((nI_eq (a := 0) (b := 0) (by omega) (by omega)).mpr zq)
          exfalso; omega
  · have ebi : bSl p0 = false := bSl_f sl9
    refine lv_if_eq (tgt := 19) hx hb dX8_out_5 (by decide) (fun c5 => ?_) (fun c5 => ?_)
    · replace c5 : 0 = 0 := (nI_eq (a := 0) (b := 0) (by omega) (by omega)).mp c5
      refine lv_iconst (v := nI 0) hx hb dX8_out_19 (by decide) ?_
      refine lv_iconst (v := nI 1) hx hb dX8_out_20 (by decide) ?_
      refine q_callV (rest := []) C (c_X8_good0 l D cy N0 h y ms mb (ra 28) od pt fi re rc rs so ot cn la ro gr cd ca mv ct fau cs ce rn (nI 1) hY) kX8_good g1249 g1251 rfl gp41 g4 hP hS hY (by first | decide | omega) hl.1 rfl (by decide) (by first | decide | omega) dX8_out_21 (fun q ce E h' H1 locs1 hE => hE.elim) (fun v hh13 H locs hq hP hS => ?_)
      obtain ⟨rfl, rfl⟩ := hq
      replace hP : qP D N0 (qs h y (.inr (8, [.ref ms, .ref mb, .ref (ra 28), .int gr, .int (nI 1), .int ca, .int mv, .ref od, .ref pt, .int ct, .int fau, .ref fi, .ref re, .int cs, .ref rc, .ref rs, .ref so, .ref ot, .ref cn, .ref la, .int ce, .ref ro, .int rn]))) H := hP
      obtain ⟨hv7, ehv7⟩ : ∃ z : qH, z = qs h y (.inr (8, [.ref ms, .ref mb, .ref (ra 28), .int gr, .int (nI 1), .int ca, .int mv, .ref od, .ref pt, .int ct, .int fau, .ref fi, .ref re, .int cs, .ref rc, .ref rs, .ref so, .ref ot, .ref cn, .ref la, .int ce, .ref ro, .int rn])) := ⟨_, rfl⟩
      rw [← ehv7] at hP
      have khv7 : ∀ b o, b ≠ y → h b = some o → hv7 b = some o := by rw [ehv7]; exact fun b o nb hb => (qs_ne nb).trans hb
      replace hms := khv7 _ _ (fun q => by subst q; have := hms.symm.trans hY; first | cases this | simp at this) hms
      replace hmb := khv7 _ _ (fun q => by subst q; have := hmb.symm.trans hY; first | cases this | simp at this) hmb
      replace faw := khv7 _ _ (fun q => by have z9 := faw; rw [q] at z9; have := z9.symm.trans hY; first | cases this | simp at this) faw
      replace fkw := khv7 _ _ (fun q => by have z9 := fkw; rw [q] at z9; have := z9.symm.trans hY; first | cases this | simp at this) fkw
      replace fvw := khv7 _ _ (fun q => by have z9 := fvw; rw [q] at z9; have := z9.symm.trans hY; first | cases this | simp at this) fvw
      replace hY : hv7 y = some (.inr (8, [.ref ms, .ref mb, .ref (ra 28), .int gr, .int (nI 1), .int ca, .int mv, .ref od, .ref pt, .int ct, .int fau, .ref fi, .ref re, .int cs, .ref rc, .ref rs, .ref so, .ref ot, .ref cn, .ref la, .int ce, .ref ro, .int rn])) := by rw [ehv7]; exact qs_self
      clear ehv7
      replace fr := fun b o hb n1 n2 => khv7 b o n1 (fr b o hb n1 n2)
      refine lv_if_eq (tgt := 42) hx hb dX8_out_24 (by decide) (fun c24 => ?_) (fun c24 => ?_)
      · replace c24 : 0 = 0 := (nI_eq (a := 0) (b := 0) (by omega) (by omega)).mp c24
        refine lv_iconst (v := nI 0) hx hb dX8_out_42 (by decide) ?_
        have ex : xs_out S p0 p1 p2 = (1, S, 0) := by (unfold xs_out; rw [if_pos (by simp [ebi])])
        obtain ⟨m9, f9⟩ := hM.fin0 hY0 (h' := hv7) ⟨hRw.1, hRw.2.1, hRw.2.2.1, faw, fkw, fvw⟩ fr
        exact q_iret C hP hS ⟨by first | (rw [ex]; done) | (rw [ex]; rfl), by rw [ex]; exact hY, by first | exact m9 | (rw [ex]; exact m9), f9⟩ (by omega) dX8_out_43
      · replace c24 : ¬ 0 = 0 := fun zq => c24 ((nI_eq (a := 0) (b := 0) (by omega) (by omega)).mpr zq)
        exfalso; omega
    · replace c5 : ¬ 0 = 0 := fun zq => c5 ((nI_eq (a := 0) (b := 0) (by omega) (by omega)).mpr zq)
      exfalso; omega

theorem dX8_set_41 : decode cX8_set 41 = .ok (.aload_n 0, 1) := by decide +kernel
theorem dX8_set_42 : decode cX8_set 42 = .ok (.iload_n 3, 1) := by decide +kernel
theorem dX8_set_43 : decode cX8_set 43 = .ok (.ifCond .lt 20, 3) := by decide +kernel
theorem dX8_set_46 : decode cX8_set 46 = .ok (.iload_n 3, 1) := by decide +kernel
theorem dX8_set_47 : decode cX8_set 47 = .ok (.aload_n 0, 1) := by decide +kernel
theorem dX8_set_48 : decode cX8_set 48 = .ok (.getfield 9, 3) := by decide +kernel
theorem dX8_set_51 : decode cX8_set 51 = .ok (.iload_n 2, 1) := by decide +kernel
theorem dX8_set_52 : decode cX8_set 52 = .ok (.aaload, 1) := by decide +kernel
theorem dX8_set_53 : decode cX8_set 53 = .ok (.getfield 78, 3) := by decide +kernel
theorem dX8_set_56 : decode cX8_set 56 = .ok (.if_icmp .ge 7, 3) := by decide +kernel
theorem dX8_set_59 : decode cX8_set 59 = .ok (.iconst 1, 1) := by decide +kernel
theorem dX8_set_60 : decode cX8_set 60 = .ok (.goto 4, 3) := by decide +kernel
theorem dX8_set_63 : decode cX8_set 63 = .ok (.iconst 0, 1) := by decide +kernel
theorem dX8_set_64 : decode cX8_set 64 = .ok (.iconst 3, 1) := by decide +kernel
theorem dX8_set_65 : decode cX8_set 65 = .ok (.invokevirtual 100, 3) := by decide +kernel
theorem dX8_set_68 : decode cX8_set 68 = .ok (.ifCond .ne 5, 3) := by decide +kernel
theorem dX8_set_73 : decode cX8_set 73 = .ok (.aload_n 0, 1) := by decide +kernel
theorem dX8_set_74 : decode cX8_set 74 = .ok (.getfield 9, 3) := by decide +kernel
theorem dX8_set_77 : decode cX8_set 77 = .ok (.iload_n 2, 1) := by decide +kernel
theorem dX8_set_78 : decode cX8_set 78 = .ok (.aaload, 1) := by decide +kernel
theorem dX8_set_79 : decode cX8_set 79 = .ok (.aload_n 0, 1) := by decide +kernel
theorem dX8_set_80 : decode cX8_set 80 = .ok (.getfield 19, 3) := by decide +kernel
theorem dX8_set_83 : decode cX8_set 83 = .ok (.invokestatic 104, 3) := by decide +kernel
theorem dX8_set_86 : decode cX8_set 86 = .ok (.aload_n 0, 1) := by decide +kernel
theorem dX8_set_87 : decode cX8_set 87 = .ok (.getfield 19, 3) := by decide +kernel
theorem dX8_set_90 : decode cX8_set 90 = .ok (.getfield 90, 3) := by decide +kernel
theorem dX8_set_93 : decode cX8_set 93 = .ok (.iload_n 3, 1) := by decide +kernel
theorem dX8_set_94 : decode cX8_set 94 = .ok (.laload, 1) := by decide +kernel
theorem dX8_set_95 : decode cX8_set 95 = .ok (.lstore 6, 2) := by decide +kernel
theorem dX8_set_97 : decode cX8_set 97 = .ok (.aload_n 0, 1) := by decide +kernel
theorem dX8_set_98 : decode cX8_set 98 = .ok (.getfield 19, 3) := by decide +kernel
theorem dX8_set_101 : decode cX8_set 101 = .ok (.getfield 90, 3) := by decide +kernel
theorem dX8_set_104 : decode cX8_set 104 = .ok (.iload_n 3, 1) := by decide +kernel
theorem dX8_set_105 : decode cX8_set 105 = .ok (.lload 4, 2) := by decide +kernel
theorem dX8_set_107 : decode cX8_set 107 = .ok (.lastore, 1) := by decide +kernel
theorem dX8_set_108 : decode cX8_set 108 = .ok (.aload_n 0, 1) := by decide +kernel
theorem dX8_set_109 : decode cX8_set 109 = .ok (.iload_n 1, 1) := by decide +kernel
theorem dX8_set_110 : decode cX8_set 110 = .ok (.iconst 0, 1) := by decide +kernel
theorem dX8_set_111 : decode cX8_set 111 = .ok (.invokevirtual 135, 3) := by decide +kernel
theorem dX8_set_114 : decode cX8_set 114 = .ok (.pop, 1) := by decide +kernel
theorem dX8_set_115 : decode cX8_set 115 = .ok (.lload 6, 2) := by decide +kernel
theorem dX8_set_117 : decode cX8_set 117 = .ok (.lreturn, 1) := by decide +kernel
set_option maxRecDepth 100000 in
set_option maxHeartbeats 4000000 in
theorem c_X8_set (l : Launch) (D : va_G) (cy : Nat → ClassId) (N0 : Nat) (h : qH) (y ms mb mw od pt fi re rc rs so ot cn la ro : Nat) (gr cd ca mv ct fau cs ce rn : Int32) (ra rk rv : Nat → Nat) (S : Nat → qSlot) (p0 p1 p2 : Int32) (p3 : Int64) (hY : h y = some (.inr (8, [.ref ms, .ref mb, .ref mw, .int gr, .int cd, .int ca, .int mv, .ref od, .ref pt, .int ct, .int fau, .ref fi, .ref re, .int cs, .ref rc, .ref rs, .ref so, .ref ot, .ref cn, .ref la, .int ce, .ref ro, .int rn]))) (hM : qMR cy h ms mb mw ra rk rv S) (hI : ∀ i, i < 28 → qOk (S i).1 (S i).2.1) : qC l D cy N0 yX8_set cX8_set 8 (some .long) 2 60 0 0 [.ref y, .int p0, .int p1, .int p2, .long p3] h (fun v h' => v = some (.long (xs_set S p0 p1 p2 p3).2.2) ∧ h' y = some (.inr (8, [.ref ms, .ref mb, .ref mw, .int gr, .int (xs_set S p0 p1 p2 p3).1, .int ca, .int mv, .ref od, .ref pt, .int ct, .int fau, .ref fi, .ref re, .int cs, .ref rc, .ref rs, .ref so, .ref ot, .ref cn, .ref la, .int ce, .ref ro, .int rn])) ∧ qMR cy h' ms mb mw ra rk rv ((xs_set S p0 p1 p2 p3).2.1) ∧ qFm h h' y ra rk rv) (fun E h' => False) := by
  refine q_ofW (by decide) (by exact Nat.le_of_ble_eq_true rfl) ?_
  intro p e s m below meth c ls C hP hl
  have hx := C.1
  have hb := C.2.1
  have hS : va_S (qA N0) s.heap s.heap [] := va_S.rf
  have hl : lv_has ls 8 [(0, .ref y), (1, .int p0), (2, .int p1), (3, .int p2), (4, .long p3)] := hl
  have hle : qle h h := qle_rf
  have hY0 := hY
  obtain ⟨hms, hmb, hmw, hmd, hrs, kdw, smw, dpw, rww, nw, fw, gw, hRw⟩ := id hM
  subst hmw
  have fr : ∀ b o, h b = some o → b ≠ y → qOf (ra 28) (rk 28) (rv 28) b → h b = some o := fun b o hb _ _ => hb
  have faw := hRw.2.2.2.1
  have fkw := hRw.2.2.2.2.1
  have fvw := hRw.2.2.2.2.2
  unfold qRb at faw
  unfold qJr at fkw fvw
  refine lv_aload_n hx hb dX8_set_0 rfl (lv_at hl 0 rfl) ?_
  refine lv_iload_n hx hb dX8_set_1 rfl (lv_at hl 1 rfl) ?_
  refine q_callS (rest := [.ref y]) C (c_X8_isSlot l D cy N0 h p0) kX8_isSlot g1246 g1247 hP hS (by first | decide | omega) hl.1 rfl (by simp [q_catrf, q_cati, q_catl, q_cata, q_catn]) (by first | decide | omega) dX8_set_2 (fun q ce E h' H1 locs1 hE => hE.elim) (fun v hh1 H locs hq hP hS => ?_)
  obtain ⟨rfl, ⟨rfl, sl9⟩ | ⟨rfl, sl9⟩⟩ := hq
  · obtain ⟨i, hi, rfl⟩ := sl9.of
    have ebi : bSl (nI i) = true := bSl_t sl9
    have eci : (nI i).toNatClampNeg = i := nI_clamp (by omega)
    refine lv_if_eq (tgt := 19) hx hb dX8_set_5 (by decide) (fun c5 => ?_) (fun c5 => ?_)
    · replace c5 : 1 = 0 := (nI_eq (a := 1) (b := 0) (by omega) (by omega)).mp c5
      exfalso; omega
    · replace c5 : ¬ 1 = 0 := fun zq => c5 ((nI_eq (a := 1) (b := 0) (by omega) (by omega)).mpr zq)
      refine lv_iload_n hx hb dX8_set_8 rfl (lv_at hl 2 rfl) ?_
      refine q_callS (rest := [.ref y]) C (c_X8_isSlot l D cy N0 h p1) kX8_isSlot g1246 g1247 hP hS (by first | decide | omega) hl.1 rfl (by simp [q_catrf, q_cati, q_catl, q_cata, q_catn]) (by first | decide | omega) dX8_set_9 (fun q ce E h' H1 locs1 hE => hE.elim) (fun v hh2 H locs hq hP hS => ?_)
      obtain ⟨rfl, ⟨rfl, sl9⟩ | ⟨rfl, sl9⟩⟩ := hq
      · obtain ⟨j, hj, rfl⟩ := sl9.of
        have ebj : bSl (nI j) = true := bSl_t sl9
        have ecj : (nI j).toNatClampNeg = j := nI_clamp (by omega)
        refine lv_if_eq (tgt := 19) hx hb dX8_set_12 (by decide) (fun c12 => ?_) (fun c12 => ?_)
        · replace c12 : 1 = 0 := (nI_eq (a := 1) (b := 0) (by omega) (by omega)).mp c12
          exfalso; omega
        · replace c12 : ¬ 1 = 0 := fun zq => c12 ((nI_eq (a := 1) (b := 0) (by omega) (by omega)).mpr zq)
          refine lv_iconst (v := nI 1) hx hb dX8_set_15 (by decide) ?_
          refine lv_goto (tgt := 20) hx hb dX8_set_16 (by decide) ?_
          refine lv_iconst (v := nI 1) hx hb dX8_set_20 (by decide) ?_
          refine q_callV (rest := []) C (c_X8_good1 l D cy N0 h y ms mb (ra 28) od pt fi re rc rs so ot cn la ro gr cd ca mv ct fau cs ce rn (nI 1) hY) kX8_good g1249 g1251 rfl gp41 g4 hP hS hY (by first | decide | omega) hl.1 rfl (by decide) (by first | decide | omega) dX8_set_21 (fun q ce E h' H1 locs1 hE => hE.elim) (fun v hh3 H locs hq hP hS => ?_)
          obtain ⟨rfl, rfl⟩ := hq
          replace hP : qP D N0 (qs h y (.inr (8, [.ref ms, .ref mb, .ref (ra 28), .int gr, .int 0, .int ca, .int mv, .ref od, .ref pt, .int ct, .int fau, .ref fi, .ref re, .int cs, .ref rc, .ref rs, .ref so, .ref ot, .ref cn, .ref la, .int ce, .ref ro, .int rn]))) H := hP
          obtain ⟨hv1, ehv1⟩ : ∃ z : qH, z = qs h y (.inr (8, [.ref ms, .ref mb, .ref (ra 28), .int gr, .int 0, .int ca, .int mv, .ref od, .ref pt, .int ct, .int fau, .ref fi, .ref re, .int cs, .ref rc, .ref rs, .ref so, .ref ot, .ref cn, .ref la, .int ce, .ref ro, .int rn])) := ⟨_, rfl⟩
          rw [← ehv1] at hP
          have khv1 : ∀ b o, b ≠ y → h b = some o → hv1 b = some o := by rw [ehv1]; exact fun b o nb hb => (qs_ne nb).trans hb
          replace hms := khv1 _ _ (fun q => by subst q; have := hms.symm.trans hY; first | cases this | simp at this) hms
          replace hmb := khv1 _ _ (fun q => by subst q; have := hmb.symm.trans hY; first | cases this | simp at this) hmb
          replace faw := khv1 _ _ (fun q => by have z9 := faw; rw [q] at z9; have := z9.symm.trans hY; first | cases this | simp at this) faw
          replace fkw := khv1 _ _ (fun q => by have z9 := fkw; rw [q] at z9; have := z9.symm.trans hY; first | cases this | simp at this) fkw
          replace fvw := khv1 _ _ (fun q => by have z9 := fvw; rw [q] at z9; have := z9.symm.trans hY; first | cases this | simp at this) fvw
          replace hY : hv1 y = some (.inr (8, [.ref ms, .ref mb, .ref (ra 28), .int gr, .int 0, .int ca, .int mv, .ref od, .ref pt, .int ct, .int fau, .ref fi, .ref re, .int cs, .ref rc, .ref rs, .ref so, .ref ot, .ref cn, .ref la, .int ce, .ref ro, .int rn])) := by rw [ehv1]; exact qs_self
          clear ehv1
          replace fr := fun b o hb n1 n2 => khv1 b o n1 (fr b o hb n1 n2)
          refine lv_if_eq (tgt := 71) hx hb dX8_set_24 (by decide) (fun c24 => ?_) (fun c24 => ?_)
          · replace c24 : 1 = 0 := (nI_eq (a := 1) (b := 0) (by omega) (by omega)).mp c24
            exfalso; omega
          · replace c24 : ¬ 1 = 0 := fun zq => c24 ((nI_eq (a := 1) (b := 0) (by omega) (by omega)).mpr zq)
            refine lv_aload_n hx hb dX8_set_27 rfl (lv_at hl 0 rfl) ?_
            refine lv_aload_n hx hb dX8_set_28 rfl (lv_at hl 0 rfl) ?_
            refine lv_iload_n hx hb dX8_set_29 rfl (lv_at hl 2 rfl) ?_
            refine lv_iconst (v := nI 1) hx hb dX8_set_30 (by decide) ?_
            obtain ⟨nj, rwj, Fj, Gj, hRj, hnj, hLj, hKj⟩ := hrs j (by omega)
            have apj := hRj.apart hRw (hmd.two (i := j) (j := 28) (by omega) (by omega) (by omega))
            replace hRj := hRj.keep2 (fun b o hb ho => fr b o ho (hRj.ney hY0 hb) (hb.elim (fun q => q ▸ apj.1) (fun hb => hb.elim (fun q => q ▸ apj.2.1) (fun q => q ▸ apj.2.2))))
            have faj := hRj.2.2.2.1
            have fkj := hRj.2.2.2.2.1
            have fvj := hRj.2.2.2.2.2
            unfold qRb at faj
            unfold qJr at fkj fvj
            refine q_callV (rest := [.ref y]) C (c_X8_holds l D cy N0 hv1 y ms ra rk rv j 1 _ _ _ _ _ _ _ _ hY rfl hms ⟨hRj.1, hRj.2.1, hRj.2.2.1, faj, fkj, fvj⟩ (by omega)) kX8_holds g1264 g1266 rfl gp42 g4 hP hS hY (by first | decide | omega) hl.1 rfl (by simp [q_catrf, q_cati, q_catl, q_cata, q_catn]) (by first | decide | omega) dX8_set_31 (fun q ce E h' H1 locs1 hE => hE.elim) (fun v hh4 H locs hq hP hS => ?_)
            obtain ⟨rfl, rfl⟩ := hq
            cases hoj : bHo (S j).1 1 with
            | false =>
              refine lv_iconst (v := nI 2) hx hb dX8_set_34 (by decide) ?_
              refine q_callV (rest := []) C (c_X8_good0 l D cy N0 hv1 y ms mb (ra 28) od pt fi re rc rs so ot cn la ro gr 0 ca mv ct fau cs ce rn (nI 2) hY) kX8_good g1249 g1251 rfl gp41 g4 hP hS hY (by first | decide | omega) hl.1 rfl (by decide) (by first | decide | omega) dX8_set_35 (fun q ce E h' H1 locs1 hE => hE.elim) (fun v hh5 H locs hq hP hS => ?_)
              obtain ⟨rfl, rfl⟩ := hq
              replace hP : qP D N0 (qs hv1 y (.inr (8, [.ref ms, .ref mb, .ref (ra 28), .int gr, .int (nI 2), .int ca, .int mv, .ref od, .ref pt, .int ct, .int fau, .ref fi, .ref re, .int cs, .ref rc, .ref rs, .ref so, .ref ot, .ref cn, .ref la, .int ce, .ref ro, .int rn]))) H := hP
              obtain ⟨hv2, ehv2⟩ : ∃ z : qH, z = qs hv1 y (.inr (8, [.ref ms, .ref mb, .ref (ra 28), .int gr, .int (nI 2), .int ca, .int mv, .ref od, .ref pt, .int ct, .int fau, .ref fi, .ref re, .int cs, .ref rc, .ref rs, .ref so, .ref ot, .ref cn, .ref la, .int ce, .ref ro, .int rn])) := ⟨_, rfl⟩
              rw [← ehv2] at hP
              have khv2 : ∀ b o, b ≠ y → hv1 b = some o → hv2 b = some o := by rw [ehv2]; exact fun b o nb hb => (qs_ne nb).trans hb
              replace hms := khv2 _ _ (fun q => by subst q; have := hms.symm.trans hY; first | cases this | simp at this) hms
              replace hmb := khv2 _ _ (fun q => by subst q; have := hmb.symm.trans hY; first | cases this | simp at this) hmb
              replace faw := khv2 _ _ (fun q => by have z9 := faw; rw [q] at z9; have := z9.symm.trans hY; first | cases this | simp at this) faw
              replace fkw := khv2 _ _ (fun q => by have z9 := fkw; rw [q] at z9; have := z9.symm.trans hY; first | cases this | simp at this) fkw
              replace fvw := khv2 _ _ (fun q => by have z9 := fvw; rw [q] at z9; have := z9.symm.trans hY; first | cases this | simp at this) fvw
              replace faj := khv2 _ _ (fun q => by have z9 := faj; rw [q] at z9; have := z9.symm.trans hY; first | cases this | simp at this) faj
              replace fkj := khv2 _ _ (fun q => by have z9 := fkj; rw [q] at z9; have := z9.symm.trans hY; first | cases this | simp at this) fkj
              replace fvj := khv2 _ _ (fun q => by have z9 := fvj; rw [q] at z9; have := z9.symm.trans hY; first | cases this | simp at this) fvj
              replace hY : hv2 y = some (.inr (8, [.ref ms, .ref mb, .ref (ra 28), .int gr, .int (nI 2), .int ca, .int mv, .ref od, .ref pt, .int ct, .int fau, .ref fi, .ref re, .int cs, .ref rc, .ref rs, .ref so, .ref ot, .ref cn, .ref la, .int ce, .ref ro, .int rn])) := by rw [ehv2]; exact qs_self
              clear ehv2
              replace fr := fun b o hb n1 n2 => khv2 b o n1 (fr b o hb n1 n2)
              refine lv_if_eq (tgt := 71) hx hb dX8_set_38 (by decide) (fun c38 => ?_) (fun c38 => ?_)
              · replace c38 : 0 = 0 := (nI_eq (a := 0) (b := 0) (by omega) (by omega)).mp c38
                refine lv_lconst (v := 0) hx hb dX8_set_71 (by decide) ?_
                have ex : xs_set S (nI i) (nI j) p2 p3 = (2, S, 0) := by (unfold xs_set; rw [if_neg (by simp [ebi, ebj]), ecj, if_pos (by simp [hoj])])
                obtain ⟨m9, f9⟩ := hM.fin0 hY0 (h' := hv2) ⟨hRw.1, hRw.2.1, hRw.2.2.1, faw, fkw, fvw⟩ fr
                exact q_lret C hP hS ⟨by first | (rw [ex]; done) | (rw [ex]; rfl), by rw [ex]; exact hY, by first | exact m9 | (rw [ex]; exact m9), f9⟩ (by omega) dX8_set_72
              · replace c38 : ¬ 0 = 0 := fun zq => c38 ((nI_eq (a := 0) (b := 0) (by omega) (by omega)).mpr zq)
                exfalso; omega
            | true =>
              refine lv_iconst (v := nI 2) hx hb dX8_set_34 (by decide) ?_
              refine q_callV (rest := []) C (c_X8_good1 l D cy N0 hv1 y ms mb (ra 28) od pt fi re rc rs so ot cn la ro gr 0 ca mv ct fau cs ce rn (nI 2) hY) kX8_good g1249 g1251 rfl gp41 g4 hP hS hY (by first | decide | omega) hl.1 rfl (by decide) (by first | decide | omega) dX8_set_35 (fun q ce E h' H1 locs1 hE => hE.elim) (fun v hh6 H locs hq hP hS => ?_)
              obtain ⟨rfl, rfl⟩ := hq
              replace hP : qP D N0 (qs hv1 y (.inr (8, [.ref ms, .ref mb, .ref (ra 28), .int gr, .int 0, .int ca, .int mv, .ref od, .ref pt, .int ct, .int fau, .ref fi, .ref re, .int cs, .ref rc, .ref rs, .ref so, .ref ot, .ref cn, .ref la, .int ce, .ref ro, .int rn]))) H := hP
              obtain ⟨hv3, ehv3⟩ : ∃ z : qH, z = qs hv1 y (.inr (8, [.ref ms, .ref mb, .ref (ra 28), .int gr, .int 0, .int ca, .int mv, .ref od, .ref pt, .int ct, .int fau, .ref fi, .ref re, .int cs, .ref rc, .ref rs, .ref so, .ref ot, .ref cn, .ref la, .int ce, .ref ro, .int rn])) := ⟨_, rfl⟩
              rw [← ehv3] at hP
              have khv3 : ∀ b o, b ≠ y → hv1 b = some o → hv3 b = some o := by rw [ehv3]; exact fun b o nb hb => (qs_ne nb).trans hb
              replace hms := khv3 _ _ (fun q => by subst q; have := hms.symm.trans hY; first | cases this | simp at this) hms
              replace hmb := khv3 _ _ (fun q => by subst q; have := hmb.symm.trans hY; first | cases this | simp at this) hmb
              replace faw := khv3 _ _ (fun q => by have z9 := faw; rw [q] at z9; have := z9.symm.trans hY; first | cases this | simp at this) faw
              replace fkw := khv3 _ _ (fun q => by have z9 := fkw; rw [q] at z9; have := z9.symm.trans hY; first | cases this | simp at this) fkw
              replace fvw := khv3 _ _ (fun q => by have z9 := fvw; rw [q] at z9; have := z9.symm.trans hY; first | cases this | simp at this) fvw
              replace faj := khv3 _ _ (fun q => by have z9 := faj; rw [q] at z9; have := z9.symm.trans hY; first | cases this | simp at this) faj
              replace fkj := khv3 _ _ (fun q => by have z9 := fkj; rw [q] at z9; have := z9.symm.trans hY; first | cases this | simp at this) fkj
              replace fvj := khv3 _ _ (fun q => by have z9 := fvj; rw [q] at z9; have := z9.symm.trans hY; first | cases this | simp at this) fvj
              replace hY : hv3 y = some (.inr (8, [.ref ms, .ref mb, .ref (ra 28), .int gr, .int 0, .int ca, .int mv, .ref od, .ref pt, .int ct, .int fau, .ref fi, .ref re, .int cs, .ref rc, .ref rs, .ref so, .ref ot, .ref cn, .ref la, .int ce, .ref ro, .int rn])) := by rw [ehv3]; exact qs_self
              clear ehv3
              replace fr := fun b o hb n1 n2 => khv3 b o n1 (fr b o hb n1 n2)
              refine lv_if_eq (tgt := 71) hx hb dX8_set_38 (by decide) (fun c38 => ?_) (fun c38 => ?_)
              · replace c38 : 1 = 0 := (nI_eq (a := 1) (b := 0) (by omega) (by omega)).mp c38
                exfalso; omega
              · replace c38 : ¬ 1 = 0 := fun zq => c38 ((nI_eq (a := 1) (b := 0) (by omega) (by omega)).mpr zq)
                refine lv_aload_n hx hb dX8_set_41 rfl (lv_at hl 0 rfl) ?_
                refine lv_iload_n hx hb dX8_set_42 rfl (lv_at hl 3 rfl) ?_
                refine lv_if_lt (tgt := 63) hx hb dX8_set_43 (by decide) (fun c43 => ?_) (fun c43 => ?_)
                · have eix : bIx p2 (S j).2.1.length = false := decide_eq_false (fun z => z.1 c43)
                  refine lv_iconst (v := nI 0) hx hb dX8_set_63 (by decide) ?_
                  refine lv_iconst (v := nI 3) hx hb dX8_set_64 (by decide) ?_
                  refine q_callV (rest := []) C (c_X8_good0 l D cy N0 hv3 y ms mb (ra 28) od pt fi re rc rs so ot cn la ro gr 0 ca mv ct fau cs ce rn (nI 3) hY) kX8_good g1249 g1251 rfl gp41 g4 hP hS hY (by first | decide | omega) hl.1 rfl (by decide) (by first | decide | omega) dX8_set_65 (fun q ce E h' H1 locs1 hE => hE.elim) (fun v hh7 H locs hq hP hS => ?_)
                  obtain ⟨rfl, rfl⟩ := hq
                  replace hP : qP D N0 (qs hv3 y (.inr (8, [.ref ms, .ref mb, .ref (ra 28), .int gr, .int (nI 3), .int ca, .int mv, .ref od, .ref pt, .int ct, .int fau, .ref fi, .ref re, .int cs, .ref rc, .ref rs, .ref so, .ref ot, .ref cn, .ref la, .int ce, .ref ro, .int rn]))) H := hP
                  obtain ⟨hv4, ehv4⟩ : ∃ z : qH, z = qs hv3 y (.inr (8, [.ref ms, .ref mb, .ref (ra 28), .int gr, .int (nI 3), .int ca, .int mv, .ref od, .ref pt, .int ct, .int fau, .ref fi, .ref re, .int cs, .ref rc, .ref rs, .ref so, .ref ot, .ref cn, .ref la, .int ce, .ref ro, .int rn])) := ⟨_, rfl⟩
                  rw [← ehv4] at hP
                  have khv4 : ∀ b o, b ≠ y → hv3 b = some o → hv4 b = some o := by rw [ehv4]; exact fun b o nb hb => (qs_ne nb).trans hb
                  replace hms := khv4 _ _ (fun q => by subst q; have := hms.symm.trans hY; first | cases this | simp at this) hms
                  replace hmb := khv4 _ _ (fun q => by subst q; have := hmb.symm.trans hY; first | cases this | simp at this) hmb
                  replace faw := khv4 _ _ (fun q => by have z9 := faw; rw [q] at z9; have := z9.symm.trans hY; first | cases this | simp at this) faw
                  replace fkw := khv4 _ _ (fun q => by have z9 := fkw; rw [q] at z9; have := z9.symm.trans hY; first | cases this | simp at this) fkw
                  replace fvw := khv4 _ _ (fun q => by have z9 := fvw; rw [q] at z9; have := z9.symm.trans hY; first | cases this | simp at this) fvw
                  replace faj := khv4 _ _ (fun q => by have z9 := faj; rw [q] at z9; have := z9.symm.trans hY; first | cases this | simp at this) faj
                  replace fkj := khv4 _ _ (fun q => by have z9 := fkj; rw [q] at z9; have := z9.symm.trans hY; first | cases this | simp at this) fkj
                  replace fvj := khv4 _ _ (fun q => by have z9 := fvj; rw [q] at z9; have := z9.symm.trans hY; first | cases this | simp at this) fvj
                  replace hY : hv4 y = some (.inr (8, [.ref ms, .ref mb, .ref (ra 28), .int gr, .int (nI 3), .int ca, .int mv, .ref od, .ref pt, .int ct, .int fau, .ref fi, .ref re, .int cs, .ref rc, .ref rs, .ref so, .ref ot, .ref cn, .ref la, .int ce, .ref ro, .int rn])) := by rw [ehv4]; exact qs_self
                  clear ehv4
                  replace fr := fun b o hb n1 n2 => khv4 b o n1 (fr b o hb n1 n2)
                  refine lv_if_ne (tgt := 73) hx hb dX8_set_68 (by decide) (fun c68 => ?_) (fun c68 => ?_)
                  · replace c68 : ¬ 0 = 0 := fun zq => c68 ((nI_eq (a := 0) (b := 0) (by omega) (by omega)).mpr zq)
                    exfalso; omega
                  · replace c68 : 0 = 0 := (nI_eq (a := 0) (b := 0) (by omega) (by omega)).mp c68
                    refine lv_lconst (v := 0) hx hb dX8_set_71 (by decide) ?_
                    have ex : xs_set S (nI i) (nI j) p2 p3 = (3, S, 0) := by (unfold xs_set; rw [if_neg (by simp [ebi, ebj]), ecj, if_neg (by simp [hoj]), eci]; unfold xr_set; rw [if_pos eix])
                    obtain ⟨m9, f9⟩ := hM.fin0 hY0 (h' := hv4) ⟨hRw.1, hRw.2.1, hRw.2.2.1, faw, fkw, fvw⟩ fr
                    exact q_lret C hP hS ⟨by first | (rw [ex]; done) | (rw [ex]; rfl), by rw [ex]; exact hY, by first | exact m9 | (rw [ex]; exact m9), f9⟩ (by omega) dX8_set_72
                · obtain ⟨q, hq9, rfl⟩ := nI_of c43
                  have ecq : (nI q).toNatClampNeg = q := nI_clamp hq9
                  refine lv_iload_n hx hb dX8_set_46 rfl (lv_at hl 3 rfl) ?_
                  refine lv_aload_n hx hb dX8_set_47 rfl (lv_at hl 0 rfl) ?_
                  refine q_get C hP hY rfl inX8 0 (by decide) g1167 rfl dX8_set_48 ?_
                  refine lv_iload_n hx hb dX8_set_51 rfl (lv_at hl 2 rfl) ?_
                  refine q_aaldR C hP hms rfl (by omega) (by omega) rfl dX8_set_52 ?_
                  refine q_get C hP faj rfl inX7 3 (by decide) g1143 rfl dX8_set_53 ?_
                  refine lv_icmp_ge (tgt := 63) hx hb dX8_set_56 (by decide) (fun c56 => ?_) (fun c56 => ?_)
                  · replace c56 : nj ≤ q := (nI_leI (a := nj) (b := q) (by omega) (by omega)).mp c56
                    have eix : bIx (nI q) (S j).2.1.length = false := by unfold bIx; rw [ecq, hLj, qLs_len]; exact decide_eq_false (fun z => by omega)
                    refine lv_iconst (v := nI 0) hx hb dX8_set_63 (by decide) ?_
                    refine lv_iconst (v := nI 3) hx hb dX8_set_64 (by decide) ?_
                    refine q_callV (rest := []) C (c_X8_good0 l D cy N0 hv3 y ms mb (ra 28) od pt fi re rc rs so ot cn la ro gr 0 ca mv ct fau cs ce rn (nI 3) hY) kX8_good g1249 g1251 rfl gp41 g4 hP hS hY (by first | decide | omega) hl.1 rfl (by decide) (by first | decide | omega) dX8_set_65 (fun q ce E h' H1 locs1 hE => hE.elim) (fun v hh8 H locs hq hP hS => ?_)
                    obtain ⟨rfl, rfl⟩ := hq
                    replace hP : qP D N0 (qs hv3 y (.inr (8, [.ref ms, .ref mb, .ref (ra 28), .int gr, .int (nI 3), .int ca, .int mv, .ref od, .ref pt, .int ct, .int fau, .ref fi, .ref re, .int cs, .ref rc, .ref rs, .ref so, .ref ot, .ref cn, .ref la, .int ce, .ref ro, .int rn]))) H := hP
                    obtain ⟨hv5, ehv5⟩ : ∃ z : qH, z = qs hv3 y (.inr (8, [.ref ms, .ref mb, .ref (ra 28), .int gr, .int (nI 3), .int ca, .int mv, .ref od, .ref pt, .int ct, .int fau, .ref fi, .ref re, .int cs, .ref rc, .ref rs, .ref so, .ref ot, .ref cn, .ref la, .int ce, .ref ro, .int rn])) := ⟨_, rfl⟩
                    rw [← ehv5] at hP
                    have khv5 : ∀ b o, b ≠ y → hv3 b = some o → hv5 b = some o := by rw [ehv5]; exact fun b o nb hb => (qs_ne nb).trans hb
                    replace hms := khv5 _ _ (fun q => by subst q; have := hms.symm.trans hY; first | cases this | simp at this) hms
                    replace hmb := khv5 _ _ (fun q => by subst q; have := hmb.symm.trans hY; first | cases this | simp at this) hmb
                    replace faw := khv5 _ _ (fun q => by have z9 := faw; rw [q] at z9; have := z9.symm.trans hY; first | cases this | simp at this) faw
                    replace fkw := khv5 _ _ (fun q => by have z9 := fkw; rw [q] at z9; have := z9.symm.trans hY; first | cases this | simp at this) fkw
                    replace fvw := khv5 _ _ (fun q => by have z9 := fvw; rw [q] at z9; have := z9.symm.trans hY; first | cases this | simp at this) fvw
                    replace faj := khv5 _ _ (fun q => by have z9 := faj; rw [q] at z9; have := z9.symm.trans hY; first | cases this | simp at this) faj
                    replace fkj := khv5 _ _ (fun q => by have z9 := fkj; rw [q] at z9; have := z9.symm.trans hY; first | cases this | simp at this) fkj
                    replace fvj := khv5 _ _ (fun q => by have z9 := fvj; rw [q] at z9; have := z9.symm.trans hY; first | cases this | simp at this) fvj
                    replace hY : hv5 y = some (.inr (8, [.ref ms, .ref mb, .ref (ra 28), .int gr, .int (nI 3), .int ca, .int mv, .ref od, .ref pt, .int ct, .int fau, .ref fi, .ref re, .int cs, .ref rc, .ref rs, .ref so, .ref ot, .ref cn, .ref la, .int ce, .ref ro, .int rn])) := by rw [ehv5]; exact qs_self
                    clear ehv5
                    replace fr := fun b o hb n1 n2 => khv5 b o n1 (fr b o hb n1 n2)
                    refine lv_if_ne (tgt := 73) hx hb dX8_set_68 (by decide) (fun c68 => ?_) (fun c68 => ?_)
                    · replace c68 : ¬ 0 = 0 := fun zq => c68 ((nI_eq (a := 0) (b := 0) (by omega) (by omega)).mpr zq)
                      exfalso; omega
                    · replace c68 : 0 = 0 := (nI_eq (a := 0) (b := 0) (by omega) (by omega)).mp c68
                      refine lv_lconst (v := 0) hx hb dX8_set_71 (by decide) ?_
                      have ex : xs_set S (nI i) (nI j) (nI q) p3 = (3, S, 0) := by (unfold xs_set; rw [if_neg (by simp [ebi, ebj]), ecj, if_neg (by simp [hoj]), eci]; unfold xr_set; rw [if_pos eix])
                      obtain ⟨m9, f9⟩ := hM.fin0 hY0 (h' := hv5) ⟨hRw.1, hRw.2.1, hRw.2.2.1, faw, fkw, fvw⟩ fr
                      exact q_lret C hP hS ⟨by first | (rw [ex]; done) | (rw [ex]; rfl), by rw [ex]; exact hY, by first | exact m9 | (rw [ex]; exact m9), f9⟩ (by omega) dX8_set_72
                  · replace c56 : ¬ nj ≤ q := fun zq => c56 ((nI_leI (a := nj) (b := q) (by omega) (by omega)).mpr zq)
                    have eix : bIx (nI q) (S j).2.1.length = true := by unfold bIx; rw [ecq, hLj, qLs_len]; exact decide_eq_true ⟨nI_pos hq9, by omega⟩
                    refine lv_iconst (v := nI 1) hx hb dX8_set_59 (by decide) ?_
                    refine lv_goto (tgt := 64) hx hb dX8_set_60 (by decide) ?_
                    refine lv_iconst (v := nI 3) hx hb dX8_set_64 (by decide) ?_
                    refine q_callV (rest := []) C (c_X8_good1 l D cy N0 hv3 y ms mb (ra 28) od pt fi re rc rs so ot cn la ro gr 0 ca mv ct fau cs ce rn (nI 3) hY) kX8_good g1249 g1251 rfl gp41 g4 hP hS hY (by first | decide | omega) hl.1 rfl (by decide) (by first | decide | omega) dX8_set_65 (fun q ce E h' H1 locs1 hE => hE.elim) (fun v hh9 H locs hq hP hS => ?_)
                    obtain ⟨rfl, rfl⟩ := hq
                    replace hP : qP D N0 (qs hv3 y (.inr (8, [.ref ms, .ref mb, .ref (ra 28), .int gr, .int 0, .int ca, .int mv, .ref od, .ref pt, .int ct, .int fau, .ref fi, .ref re, .int cs, .ref rc, .ref rs, .ref so, .ref ot, .ref cn, .ref la, .int ce, .ref ro, .int rn]))) H := hP
                    obtain ⟨hv6, ehv6⟩ : ∃ z : qH, z = qs hv3 y (.inr (8, [.ref ms, .ref mb, .ref (ra 28), .int gr, .int 0, .int ca, .int mv, .ref od, .ref pt, .int ct, .int fau, .ref fi, .ref re, .int cs, .ref rc, .ref rs, .ref so, .ref ot, .ref cn, .ref la, .int ce, .ref ro, .int rn])) := ⟨_, rfl⟩
                    rw [← ehv6] at hP
                    have khv6 : ∀ b o, b ≠ y → hv3 b = some o → hv6 b = some o := by rw [ehv6]; exact fun b o nb hb => (qs_ne nb).trans hb
                    replace hms := khv6 _ _ (fun q => by subst q; have := hms.symm.trans hY; first | cases this | simp at this) hms
                    replace hmb := khv6 _ _ (fun q => by subst q; have := hmb.symm.trans hY; first | cases this | simp at this) hmb
                    replace faw := khv6 _ _ (fun q => by have z9 := faw; rw [q] at z9; have := z9.symm.trans hY; first | cases this | simp at this) faw
                    replace fkw := khv6 _ _ (fun q => by have z9 := fkw; rw [q] at z9; have := z9.symm.trans hY; first | cases this | simp at this) fkw
                    replace fvw := khv6 _ _ (fun q => by have z9 := fvw; rw [q] at z9; have := z9.symm.trans hY; first | cases this | simp at this) fvw
                    replace faj := khv6 _ _ (fun q => by have z9 := faj; rw [q] at z9; have := z9.symm.trans hY; first | cases this | simp at this) faj
                    replace fkj := khv6 _ _ (fun q => by have z9 := fkj; rw [q] at z9; have := z9.symm.trans hY; first | cases this | simp at this) fkj
                    replace fvj := khv6 _ _ (fun q => by have z9 := fvj; rw [q] at z9; have := z9.symm.trans hY; first | cases this | simp at this) fvj
                    replace hY : hv6 y = some (.inr (8, [.ref ms, .ref mb, .ref (ra 28), .int gr, .int 0, .int ca, .int mv, .ref od, .ref pt, .int ct, .int fau, .ref fi, .ref re, .int cs, .ref rc, .ref rs, .ref so, .ref ot, .ref cn, .ref la, .int ce, .ref ro, .int rn])) := by rw [ehv6]; exact qs_self
                    clear ehv6
                    replace fr := fun b o hb n1 n2 => khv6 b o n1 (fr b o hb n1 n2)
                    refine lv_if_ne (tgt := 73) hx hb dX8_set_68 (by decide) (fun c68 => ?_) (fun c68 => ?_)
                    · replace c68 : ¬ 1 = 0 := fun zq => c68 ((nI_eq (a := 1) (b := 0) (by omega) (by omega)).mpr zq)
                      refine lv_aload_n hx hb dX8_set_73 rfl (lv_at hl 0 rfl) ?_
                      refine q_get C hP hY rfl inX8 0 (by decide) g1167 rfl dX8_set_74 ?_
                      refine lv_iload_n hx hb dX8_set_77 rfl (lv_at hl 2 rfl) ?_
                      refine q_aaldR C hP hms rfl (by omega) (by omega) rfl dX8_set_78 ?_
                      refine lv_aload_n hx hb dX8_set_79 rfl (lv_at hl 0 rfl) ?_
                      refine q_get C hP hY rfl inX8 2 (by decide) g1169 rfl dX8_set_80 ?_
                      refine q_callS (rest := []) C (c_X8_copy l D cy N0 hv6 (ra j) (rk j) (rv j) (S j).1 (nI (S j).2.2.1) (nI (S j).2.2.2) rwj nj Fj Gj (ra 28) (rk 28) (rv 28) kdw smw dpw rww nw fw gw ⟨hRj.1, hRj.2.1, hRj.2.2.1, faj, fkj, fvj⟩ ⟨hRw.1, hRw.2.1, hRw.2.2.1, faw, fkw, fvw⟩ apj (by omega)) kX8_copy g1257 g1258 hP hS (by first | decide | omega) hl.1 rfl (by decide) (by first | decide | omega) dX8_set_83 (fun q ce E h' H1 locs1 hE => hE.elim) (fun v hh10 H locs hq hP hS => ?_)
                      obtain ⟨rfl, rfl⟩ := hq
                      obtain ⟨hv7, ehv7⟩ : ∃ z : qH, z = qRh cy hv6 (ra 28) (rk 28) (rv 28) ((S j).1) (nI nj) (nI (S j).2.2.1) (nI (S j).2.2.2) rwj (qCp Fj fw nj) (qCp Gj gw nj) := ⟨_, rfl⟩
                      rw [← ehv7] at hP
                      have r9 : qRw cy hv7 (ra 28) (rk 28) (rv 28) ((S j).1) (nI nj) (nI (S j).2.2.1) (nI (S j).2.2.2) rwj (qCp Fj fw nj) (qCp Gj gw nj) := by rw [ehv7]; exact qRw.new (cy := cy) (h := hv6) (kd := kdw) (n := (nI nw)) (sm := smw) (dp := dpw) (rw := rww) (f := fw) (g := gw) ⟨hRw.1, hRw.2.1, hRw.2.2.1, faw, fkw, fvw⟩
                      have khv7 : ∀ b o, qOf (ra 28) (rk 28) (rv 28) b → hv6 b = some o → hv7 b = some o := by rw [ehv7]; exact fun b o q hb => (qRh_o q.1 q.2.1 q.2.2).trans hb
                      replace hY := khv7 _ _ ⟨fun q => by rw [q] at hY; have := faw.symm.trans hY; first | cases this | simp at this, fun q => by rw [q] at hY; have := fkw.symm.trans hY; first | cases this | simp at this, fun q => by rw [q] at hY; have := fvw.symm.trans hY; first | cases this | simp at this⟩ hY
                      replace hms := khv7 _ _ ⟨fun q => by rw [q] at hms; have := faw.symm.trans hms; first | cases this | simp at this, fun q => by rw [q] at hms; have := fkw.symm.trans hms; first | cases this | simp at this, fun q => by rw [q] at hms; have := fvw.symm.trans hms; first | cases this | simp at this⟩ hms
                      replace hmb := khv7 _ _ ⟨fun q => by rw [q] at hmb; have := faw.symm.trans hmb; first | cases this | simp at this, fun q => by rw [q] at hmb; have := fkw.symm.trans hmb; first | cases this | simp at this, fun q => by rw [q] at hmb; have := fvw.symm.trans hmb; first | cases this | simp at this⟩ hmb
                      replace faj := khv7 _ _ apj.1 faj
                      replace fkj := khv7 _ _ apj.2.1 fkj
                      replace fvj := khv7 _ _ apj.2.2 fvj
                      replace fr := fun b o hb n1 n2 => khv7 b o n2 (fr b o hb n1 n2)
                      clear faw fkw fvw
                      have faw := r9.2.2.2.1
                      have fkw := r9.2.2.2.2.1
                      have fvw := r9.2.2.2.2.2
                      unfold qRb at faw
                      unfold qJr at fkw fvw
                      clear r9 ehv7
                      have lw : qLs ((S j).1) (qCp Fj fw nj) (qCp Gj gw nj) nj = (S j).2.1 := by rw [qLs_cp]; exact hLj.symm
                      refine lv_aload_n hx hb dX8_set_86 rfl (lv_at hl 0 rfl) ?_
                      refine q_get C hP hY rfl inX8 2 (by decide) g1169 rfl dX8_set_87 ?_
                      refine q_get C hP faw rfl inX7 0 (by decide) g1138 rfl dX8_set_90 ?_
                      refine lv_iload_n hx hb dX8_set_93 rfl (lv_at hl 3 rfl) ?_
                      refine q_laldN C hP fkw (by omega) (by omega) dX8_set_94 ?_
                      refine lv_lstore (lv' := [(6, .long ((qCp Fj fw nj) q)), (0, .ref y), (1, .int (nI i)), (2, .int (nI j)), (3, .int (nI q)), (4, .long p3)]) hx hb dX8_set_95 hl (by decide) rfl (fun ls hl => ?_)
                      refine lv_aload_n hx hb dX8_set_97 rfl (lv_at hl 1 rfl) ?_
                      refine q_get C hP hY rfl inX8 2 (by decide) g1169 rfl dX8_set_98 ?_
                      refine q_get C hP faw rfl inX7 0 (by decide) g1138 rfl dX8_set_101 ?_
                      refine lv_iload_n hx hb dX8_set_104 rfl (lv_at hl 4 rfl) ?_
                      refine lv_lload hx hb dX8_set_105 (lv_at hl 5 rfl) ?_
                      refine q_lastN C hP hS fkw (by omega) (by omega) dX8_set_107 (fun H locs hP hS => ?_)
                      obtain ⟨hv8, ehv8⟩ : ∃ z : qH, z = qs hv7 (rk 28) (.inl (cy 1, 1001, .inr (.inl (vp_updL (qCp Fj fw nj) q p3)))) := ⟨_, rfl⟩
                      rw [← ehv8] at hP
                      have khv8 : ∀ b o, b ≠ (rk 28) → hv7 b = some o → hv8 b = some o := by rw [ehv8]; exact fun b o nb hb => (qs_ne nb).trans hb
                      replace hY := khv8 _ _ (fun q => by have z9 := hY; rw [q] at z9; have := z9.symm.trans fkw; first | cases this | simp at this) hY
                      replace hms := khv8 _ _ (fun q => by have z9 := hms; rw [q] at z9; have := z9.symm.trans fkw; first | cases this | simp at this) hms
                      replace hmb := khv8 _ _ (fun q => by have z9 := hmb; rw [q] at z9; have := z9.symm.trans fkw; first | cases this | simp at this) hmb
                      replace faw := khv8 _ _ (fun q => by have z9 := faw; rw [q] at z9; have := z9.symm.trans fkw; first | cases this | simp at this) faw
                      replace fvw := khv8 _ _ hRw.1.symm fvw
                      replace faj := khv8 _ _ apj.1.2.1 faj
                      replace fkj := khv8 _ _ apj.2.1.2.1 fkj
                      replace fvj := khv8 _ _ apj.2.2.2.1 fvj
                      replace fkw : hv8 (rk 28) = some (.inl (cy 1, 1001, .inr (.inl (vp_updL (qCp Fj fw nj) q p3)))) := by rw [ehv8]; exact qs_self
                      clear ehv8
                      replace fr := fun b o hb n1 n2 => khv8 b o n2.2.1 (fr b o hb n1 n2)
                      replace lw : qLs ((S j).1) (vp_updL (qCp Fj fw nj) q p3) (qCp Gj gw nj) nj = ((S j).2.1.set q (p3, 0)) := by rw [qLs_setk (by omega), lw, xV, if_neg (by rw [bHo_1 (hI j (by omega)).2.2 hoj]; decide)]
                      refine lv_aload_n hx hb dX8_set_108 rfl (lv_at hl 1 rfl) ?_
                      refine lv_iload_n hx hb dX8_set_109 rfl (lv_at hl 2 rfl) ?_
                      refine lv_iconst (v := nI 0) hx hb dX8_set_110 (by decide) ?_
                      obtain ⟨ni, rwi, Fi, Gi, hRi, hni, hLi, hKi⟩ := hrs i (by omega)
                      have api := hRi.apart hRw (hmd.two (i := i) (j := 28) (by omega) (by omega) (by omega))
                      replace hRi := hRi.keep2 (fun b o hb ho => fr b o ho (hRi.ney hY0 hb) (hb.elim (fun q => q ▸ api.1) (fun hb => hb.elim (fun q => q ▸ api.2.1) (fun q => q ▸ api.2.2))))
                      have fai := hRi.2.2.2.1
                      have fki := hRi.2.2.2.2.1
                      have fvi := hRi.2.2.2.2.2
                      unfold qRb at fai
                      unfold qJr at fki fvi
                      refine q_callV (rest := []) C (c_X8_done l D cy N0 hv8 y ms mb od pt fi re rc rs so ot cn la ro gr 0 ca mv ct fau cs ce rn ra rk rv i (nI 0) (S j).1 (nI (S j).2.2.1) (nI (S j).2.2.2) rwj nj (vp_updL (qCp Fj fw nj) q p3) (qCp Gj gw nj) (S i).1 (nI (S i).2.2.1) (nI (S i).2.2.2) rwi ni Fi Gi hY hms hmd ⟨hRw.1, hRw.2.1, hRw.2.2.1, faw, fkw, fvw⟩ ⟨hRi.1, hRi.2.1, hRi.2.2.1, fai, fki, fvi⟩ (by omega) (by omega)) kX8_done g1293 g1295 rfl gp45 g4 hP hS hY (by first | decide | omega) hl.1 rfl (by decide) (by first | decide | omega) dX8_set_111 (fun q ce E h' H1 locs1 hE => hE.elim) (fun v hh11 H locs hq hP hS => ?_)
                      obtain ⟨rfl, hY9, hw9, hi9, fr9⟩ := hq
                      replace fr := fun b o hb n1 n2 n3 => fr9 b o (fr b o hb n1 n2) n1 n2 n3
                      rw [show mv + nI 0 = mv from Int32.add_zero _] at hY9
                      refine lv_pop hx hb dX8_set_114 rfl ?_
                      refine lv_lload hx hb dX8_set_115 (lv_at hl 0 rfl) ?_
                      have ex : xs_set S (nI i) (nI j) (nI q) p3 = (0, qU S i ((S j).1, ((S j).2.1.set q (p3, 0)), (S j).2.2), qCp Fj fw nj q) := by (unfold xs_set; rw [if_neg (by simp [ebi, ebj]), ecj, if_neg (by simp [hoj]), eci]; unfold xr_set; rw [if_neg (by simp [eix]), ecq]; congr 3; rw [List.getD_eq_getElem?_getD, hLj, qLs_get2 (by omega)]; exact (if_pos (by omega)).symm)
                      obtain ⟨m9, f9⟩ := hM.fin hY0 (i := i) (by omega) (s := ((S j).1, ((S j).2.1.set q (p3, 0)), (S j).2.2.1, (S j).2.2.2)) ⟨nj, _, _, _, hi9, by omega, by rw [qLs_cp]; exact lw.symm, Or.inl rfl⟩ hw9 fr
                      exact q_lret C hP hS ⟨by first | (rw [ex]; done) | (rw [ex]; rfl), by rw [ex]; exact hY9, by first | exact m9 | (rw [ex]; exact m9), f9⟩ (by omega) dX8_set_117
                    · replace c68 : 1 = 0 := (nI_eq (a := 1) (b := 0) (by omega) (by omega)).mp c68
                      exfalso; omega
      · have ebj : bSl p1 = false := bSl_f sl9
        refine lv_if_eq (tgt := 19) hx hb dX8_set_12 (by decide) (fun c12 => ?_) (fun c12 => ?_)
        · replace c12 : 0 = 0 := (nI_eq (a := 0) (b := 0) (by omega) (by omega)).mp c12
          refine lv_iconst (v := nI 0) hx hb dX8_set_19 (by decide) ?_
          refine lv_iconst (v := nI 1) hx hb dX8_set_20 (by decide) ?_
          refine q_callV (rest := []) C (c_X8_good0 l D cy N0 h y ms mb (ra 28) od pt fi re rc rs so ot cn la ro gr cd ca mv ct fau cs ce rn (nI 1) hY) kX8_good g1249 g1251 rfl gp41 g4 hP hS hY (by first | decide | omega) hl.1 rfl (by decide) (by first | decide | omega) dX8_set_21 (fun q ce E h' H1 locs1 hE => hE.elim) (fun v hh12 H locs hq hP hS => ?_)
          obtain ⟨rfl, rfl⟩ := hq
          replace hP : qP D N0 (qs h y (.inr (8, [.ref ms, .ref mb, .ref (ra 28), .int gr, .int (nI 1), .int ca, .int mv, .ref od, .ref pt, .int ct, .int fau, .ref fi, .ref re, .int cs, .ref rc, .ref rs, .ref so, .ref ot, .ref cn, .ref la, .int ce, .ref ro, .int rn]))) H := hP
          obtain ⟨hv9, ehv9⟩ : ∃ z : qH, z = qs h y (.inr (8, [.ref ms, .ref mb, .ref (ra 28), .int gr, .int (nI 1), .int ca, .int mv, .ref od, .ref pt, .int ct, .int fau, .ref fi, .ref re, .int cs, .ref rc, .ref rs, .ref so, .ref ot, .ref cn, .ref la, .int ce, .ref ro, .int rn])) := ⟨_, rfl⟩
          rw [← ehv9] at hP
          have khv9 : ∀ b o, b ≠ y → h b = some o → hv9 b = some o := by rw [ehv9]; exact fun b o nb hb => (qs_ne nb).trans hb
          replace hms := khv9 _ _ (fun q => by subst q; have := hms.symm.trans hY; first | cases this | simp at this) hms
          replace hmb := khv9 _ _ (fun q => by subst q; have := hmb.symm.trans hY; first | cases this | simp at this) hmb
          replace faw := khv9 _ _ (fun q => by have z9 := faw; rw [q] at z9; have := z9.symm.trans hY; first | cases this | simp at this) faw
          replace fkw := khv9 _ _ (fun q => by have z9 := fkw; rw [q] at z9; have := z9.symm.trans hY; first | cases this | simp at this) fkw
          replace fvw := khv9 _ _ (fun q => by have z9 := fvw; rw [q] at z9; have := z9.symm.trans hY; first | cases this | simp at this) fvw
          replace hY : hv9 y = some (.inr (8, [.ref ms, .ref mb, .ref (ra 28), .int gr, .int (nI 1), .int ca, .int mv, .ref od, .ref pt, .int ct, .int fau, .ref fi, .ref re, .int cs, .ref rc, .ref rs, .ref so, .ref ot, .ref cn, .ref la, .int ce, .ref ro, .int rn])) := by rw [ehv9]; exact qs_self
          clear ehv9
          replace fr := fun b o hb n1 n2 => khv9 b o n1 (fr b o hb n1 n2)
          refine lv_if_eq (tgt := 71) hx hb dX8_set_24 (by decide) (fun c24 => ?_) (fun c24 => ?_)
          · replace c24 : 0 = 0 := (nI_eq (a := 0) (b := 0) (by omega) (by omega)).mp c24
            refine lv_lconst (v := 0) hx hb dX8_set_71 (by decide) ?_
            have ex : xs_set S (nI i) p1 p2 p3 = (1, S, 0) := by (unfold xs_set; rw [if_pos (by simp [ebi, ebj])])
            obtain ⟨m9, f9⟩ := hM.fin0 hY0 (h' := hv9) ⟨hRw.1, hRw.2.1, hRw.2.2.1, faw, fkw, fvw⟩ fr
            exact q_lret C hP hS ⟨by first | (rw [ex]; done) | (rw [ex]; rfl), by rw [ex]; exact hY, by first | exact m9 | (rw [ex]; exact m9), f9⟩ (by omega) dX8_set_72
          · replace c24 : ¬ 0 = 0 := fun zq => c24 ((nI_eq (a := 0) (b := 0) (by omega) (by omega)).mpr zq)
            exfalso; omega
        · replace c12 : ¬ 0 = 0 := fun zq => c12 ((nI_eq (a := 0) (b := 0) (by omega) (by omega)).mpr zq)
          exfalso; omega
  · have ebi : bSl p0 = false := bSl_f sl9
    refine lv_if_eq (tgt := 19) hx hb dX8_set_5 (by decide) (fun c5 => ?_) (fun c5 => ?_)
    · replace c5 : 0 = 0 := (nI_eq (a := 0) (b := 0) (by omega) (by omega)).mp c5
      refine lv_iconst (v := nI 0) hx hb dX8_set_19 (by decide) ?_
      refine lv_iconst (v := nI 1) hx hb dX8_set_20 (by decide) ?_
      refine q_callV (rest := []) C (c_X8_good0 l D cy N0 h y ms mb (ra 28) od pt fi re rc rs so ot cn la ro gr cd ca mv ct fau cs ce rn (nI 1) hY) kX8_good g1249 g1251 rfl gp41 g4 hP hS hY (by first | decide | omega) hl.1 rfl (by decide) (by first | decide | omega) dX8_set_21 (fun q ce E h' H1 locs1 hE => hE.elim) (fun v hh13 H locs hq hP hS => ?_)
      obtain ⟨rfl, rfl⟩ := hq
      replace hP : qP D N0 (qs h y (.inr (8, [.ref ms, .ref mb, .ref (ra 28), .int gr, .int (nI 1), .int ca, .int mv, .ref od, .ref pt, .int ct, .int fau, .ref fi, .ref re, .int cs, .ref rc, .ref rs, .ref so, .ref ot, .ref cn, .ref la, .int ce, .ref ro, .int rn]))) H := hP
      obtain ⟨hv10, ehv10⟩ : ∃ z : qH, z = qs h y (.inr (8, [.ref ms, .ref mb, .ref (ra 28), .int gr, .int (nI 1), .int ca, .int mv, .ref od, .ref pt, .int ct, .int fau, .ref fi, .ref re, .int cs, .ref rc, .ref rs, .ref so, .ref ot, .ref cn, .ref la, .int ce, .ref ro, .int rn])) := ⟨_, rfl⟩
      rw [← ehv10] at hP
      have khv10 : ∀ b o, b ≠ y → h b = some o → hv10 b = some o := by rw [ehv10]; exact fun b o nb hb => (qs_ne nb).trans hb
      replace hms := khv10 _ _ (fun q => by subst q; have := hms.symm.trans hY; first | cases this | simp at this) hms
      replace hmb := khv10 _ _ (fun q => by subst q; have := hmb.symm.trans hY; first | cases this | simp at this) hmb
      replace faw := khv10 _ _ (fun q => by have z9 := faw; rw [q] at z9; have := z9.symm.trans hY; first | cases this | simp at this) faw
      replace fkw := khv10 _ _ (fun q => by have z9 := fkw; rw [q] at z9; have := z9.symm.trans hY; first | cases this | simp at this) fkw
      replace fvw := khv10 _ _ (fun q => by have z9 := fvw; rw [q] at z9; have := z9.symm.trans hY; first | cases this | simp at this) fvw
      replace hY : hv10 y = some (.inr (8, [.ref ms, .ref mb, .ref (ra 28), .int gr, .int (nI 1), .int ca, .int mv, .ref od, .ref pt, .int ct, .int fau, .ref fi, .ref re, .int cs, .ref rc, .ref rs, .ref so, .ref ot, .ref cn, .ref la, .int ce, .ref ro, .int rn])) := by rw [ehv10]; exact qs_self
      clear ehv10
      replace fr := fun b o hb n1 n2 => khv10 b o n1 (fr b o hb n1 n2)
      refine lv_if_eq (tgt := 71) hx hb dX8_set_24 (by decide) (fun c24 => ?_) (fun c24 => ?_)
      · replace c24 : 0 = 0 := (nI_eq (a := 0) (b := 0) (by omega) (by omega)).mp c24
        refine lv_lconst (v := 0) hx hb dX8_set_71 (by decide) ?_
        have ex : xs_set S p0 p1 p2 p3 = (1, S, 0) := by (unfold xs_set; rw [if_pos (by simp [ebi])])
        obtain ⟨m9, f9⟩ := hM.fin0 hY0 (h' := hv10) ⟨hRw.1, hRw.2.1, hRw.2.2.1, faw, fkw, fvw⟩ fr
        exact q_lret C hP hS ⟨by first | (rw [ex]; done) | (rw [ex]; rfl), by rw [ex]; exact hY, by first | exact m9 | (rw [ex]; exact m9), f9⟩ (by omega) dX8_set_72
      · replace c24 : ¬ 0 = 0 := fun zq => c24 ((nI_eq (a := 0) (b := 0) (by omega) (by omega)).mpr zq)
        exfalso; omega
    · replace c5 : ¬ 0 = 0 := fun zq => c5 ((nI_eq (a := 0) (b := 0) (by omega) (by omega)).mpr zq)
      exfalso; omega
