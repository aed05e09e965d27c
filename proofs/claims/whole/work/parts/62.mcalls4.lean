theorem qFm.tr {h h1 h2 : qH} {y : Nat} {ra rk rv : Nat → Nat} (a : qFm h h1 y ra rk rv) (b : qFm h1 h2 y ra rk rv) : qFm h h2 y ra rk rv := fun c o hc n1 n2 => b c o (a c o hc n1 n2) n1 n2
theorem qLs_m1 {kd : Int32} {f g : Nat → Int64} {n : Nat} : (qLs kd f g n).map (fun p => (p.1, (0 : Int64))) = qLs (-1) f g n := by
  rw [qLs_def, qLs_def, List.map_map]
  rfl
theorem q_l2i {x : Int64} {q : Nat} (h : x.toInt = q) (hq : q < 2 ^ 31) : x.toInt32 = nI q := by
  apply Int32.toInt_inj.mp
  rw [Int64.toInt_toInt32, h, nI_toInt hq]
  unfold Int.bmod
  simp only []
  split <;> omega
theorem q_i2l {n : Nat} (h : n < 2 ^ 31) : ((nI n).toInt64).toInt = (n : Int) := by rw [Int32.toInt_toInt64, nI_toInt h]
def xs_open (S : Nat → qSlot) (p0 p1 : Int32) : Int32 × (Nat → qSlot) := if bB3 p0 = false ∨ bSl p1 = false then (1, S) else if bHo (S p1.toNatClampNeg).1 7 = false ∨ 0 ≤ (S (24 + p0.toNatClampNeg)).1 then (2, S) else (0, qU S (24 + p0.toNatClampNeg) (S p1.toNatClampNeg))
def xs_freeze (S : Nat → qSlot) (p0 p1 : Int32) : Int32 × (Nat → qSlot) × Int32 := if bB3 p0 = false ∨ bSl p1 = false then (1, S, 0) else if (S (24 + p0.toNatClampNeg)).1 < 0 then (2, S, 0) else (0, qU (qU S p1.toNatClampNeg (S (24 + p0.toNatClampNeg))) (24 + p0.toNatClampNeg) (-1, (S (24 + p0.toNatClampNeg)).2.1.map (fun p => (p.1, (0 : Int64))), (S (24 + p0.toNatClampNeg)).2.2), nI (S (24 + p0.toNatClampNeg)).2.1.length)
/-- how many builders are open -/
def xOp (S : Nat → qSlot) : Nat → Nat
  | 0 => 0
  | n + 1 => xOp S n + (if (S (24 + n)).1 < 0 then 0 else 1)
theorem xOp_le {S : Nat → qSlot} : ∀ n : Nat, xOp S n ≤ n
  | 0 => Nat.le_refl _
  | n + 1 => by
    show xOp S n + (if (S (24 + n)).1 < 0 then 0 else 1) ≤ n + 1
    have := xOp_le (S := S) n
    split <;> omega
def xs_count (S : Nat → qSlot) (ca mv p0 : Int32) : Int32 × Int32 := if bIn p0 3 = false then (1, 0) else (0, if p0 = 0 then ca else if p0 = 1 then mv else if p0 = 3 then 0 else nI (xOp S 4))
theorem dX8_open_38 : decode cX8_open 38 = .ok (.aload_n 0, 1) := by decide +kernel
theorem dX8_open_39 : decode cX8_open 39 = .ok (.getfield 15, 3) := by decide +kernel
theorem dX8_open_42 : decode cX8_open 42 = .ok (.iload_n 1, 1) := by decide +kernel
theorem dX8_open_43 : decode cX8_open 43 = .ok (.aaload, 1) := by decide +kernel
theorem dX8_open_44 : decode cX8_open 44 = .ok (.getfield 75, 3) := by decide +kernel
theorem dX8_open_47 : decode cX8_open 47 = .ok (.ifCond .ge 7, 3) := by decide +kernel
theorem dX8_open_50 : decode cX8_open 50 = .ok (.iconst 1, 1) := by decide +kernel
theorem dX8_open_51 : decode cX8_open 51 = .ok (.goto 4, 3) := by decide +kernel
theorem dX8_open_63 : decode cX8_open 63 = .ok (.aload_n 0, 1) := by decide +kernel
theorem dX8_open_64 : decode cX8_open 64 = .ok (.getfield 9, 3) := by decide +kernel
theorem dX8_open_67 : decode cX8_open 67 = .ok (.iload_n 2, 1) := by decide +kernel
theorem dX8_open_68 : decode cX8_open 68 = .ok (.aaload, 1) := by decide +kernel
theorem dX8_open_69 : decode cX8_open 69 = .ok (.aload_n 0, 1) := by decide +kernel
theorem dX8_open_70 : decode cX8_open 70 = .ok (.getfield 15, 3) := by decide +kernel
theorem dX8_open_73 : decode cX8_open 73 = .ok (.iload_n 1, 1) := by decide +kernel
theorem dX8_open_74 : decode cX8_open 74 = .ok (.aaload, 1) := by decide +kernel
theorem dX8_open_75 : decode cX8_open 75 = .ok (.invokestatic 104, 3) := by decide +kernel
theorem dX8_open_78 : decode cX8_open 78 = .ok (.aload_n 0, 1) := by decide +kernel
theorem dX8_open_79 : decode cX8_open 79 = .ok (.getfield 15, 3) := by decide +kernel
theorem dX8_open_82 : decode cX8_open 82 = .ok (.iload_n 1, 1) := by decide +kernel
theorem dX8_open_83 : decode cX8_open 83 = .ok (.aaload, 1) := by decide +kernel
theorem dX8_open_84 : decode cX8_open 84 = .ok (.iconst (-1), 1) := by decide +kernel
theorem dX8_open_85 : decode cX8_open 85 = .ok (.putfield 87, 3) := by decide +kernel
theorem dX8_open_88 : decode cX8_open 88 = .ok (.return_, 1) := by decide +kernel
set_option maxRecDepth 100000 in
set_option maxHeartbeats 4000000 in
theorem c_X8_open (l : Launch) (D : va_G) (cy : Nat → ClassId) (N0 : Nat) (h : qH) (y ms mb mw od pt fi re rc rs so ot cn la ro : Nat) (gr cd ca mv ct fau cs ce rn : Int32) (ra rk rv : Nat → Nat) (S : Nat → qSlot) (p0 p1 : Int32) (hY : h y = some (.inr (8, [.ref ms, .ref mb, .ref mw, .int gr, .int cd, .int ca, .int mv, .ref od, .ref pt, .int ct, .int fau, .ref fi, .ref re, .int cs, .ref rc, .ref rs, .ref so, .ref ot, .ref cn, .ref la, .int ce, .ref ro, .int rn]))) (hM : qMR cy h ms mb mw ra rk rv S) : qC l D cy N0 yX8_open cX8_open 3 none 1 22 0 0 [.ref y, .int p0, .int p1] h (fun v h' => v = none ∧ h' y = some (.inr (8, [.ref ms, .ref mb, .ref mw, .int gr, .int (xs_open S p0 p1).1, .int ca, .int mv, .ref od, .ref pt, .int ct, .int fau, .ref fi, .ref re, .int cs, .ref rc, .ref rs, .ref so, .ref ot, .ref cn, .ref la, .int ce, .ref ro, .int rn])) ∧ qMR cy h' ms mb mw ra rk rv ((xs_open S p0 p1).2) ∧ qFm h h' y ra rk rv) (fun E h' => False) := by
  refine q_ofW (by decide) (by exact Nat.le_of_ble_eq_true rfl) ?_
  intro p e s m below meth c ls C hP hl
  have hx := C.1
  have hb := C.2.1
  have hS : va_S (qA N0) s.heap s.heap [] := va_S.rf
  have hl : lv_has ls 3 [(0, .ref y), (1, .int p0), (2, .int p1)] := hl
  have hle : qle h h := qle_rf
  have hY0 := hY
  obtain ⟨hms, hmb, hmw, hmd, hrs, kdw, smw, dpw, rww, nw, fw, gw, hRw⟩ := id hM
  subst hmw
  have fr : ∀ b o, h b = some o → b ≠ y → qOf (ra 28) (rk 28) (rv 28) b → h b = some o := fun b o hb _ _ => hb
  have faw := hRw.2.2.2.1
  have fkw := hRw.2.2.2.2.1
  have fvw := hRw.2.2.2.2.2
  unfold qRb at faw
  unfold qJr at fkw fvw
  refine lv_aload_n hx hb dX8_open_0 rfl (lv_at hl 0 rfl) ?_
  refine lv_iload_n hx hb dX8_open_1 rfl (lv_at hl 1 rfl) ?_
  refine q_callS (rest := [.ref y]) C (c_X8_isBuilder l D cy N0 h p0) kX8_isBuilder g1461 g1462 hP hS (by first | decide | omega) hl.1 rfl (by simp [q_catrf, q_cati, q_catl, q_cata, q_catn]) (by first | decide | omega) dX8_open_2 (fun q ce E h' H1 locs1 hE => hE.elim) (fun v hh1 H locs hq hP hS => ?_)
  obtain ⟨rfl, ⟨rfl, sl9⟩ | ⟨rfl, sl9⟩⟩ := hq
  · obtain ⟨bb, hb9, rfl⟩ := nI_of2 (M := 3) (n := 3) (by decide) sl9.1 sl9.2
    have ebb : bB3 (nI bb) = true := bB3_t sl9
    have ecb : (nI bb).toNatClampNeg = bb := nI_clamp (by omega)
    refine lv_if_eq (tgt := 19) hx hb dX8_open_5 (by decide) (fun c5 => ?_) (fun c5 => ?_)
    · replace c5 : 1 = 0 := (nI_eq (a := 1) (b := 0) (by omega) (by omega)).mp c5
      exfalso; omega
    · replace c5 : ¬ 1 = 0 := fun zq => c5 ((nI_eq (a := 1) (b := 0) (by omega) (by omega)).mpr zq)
      refine lv_iload_n hx hb dX8_open_8 rfl (lv_at hl 2 rfl) ?_
      refine q_callS (rest := [.ref y]) C (c_X8_isSlot l D cy N0 h p1) kX8_isSlot g1246 g1247 hP hS (by first | decide | omega) hl.1 rfl (by simp [q_catrf, q_cati, q_catl, q_cata, q_catn]) (by first | decide | omega) dX8_open_9 (fun q ce E h' H1 locs1 hE => hE.elim) (fun v hh2 H locs hq hP hS => ?_)
      obtain ⟨rfl, ⟨rfl, sl9⟩ | ⟨rfl, sl9⟩⟩ := hq
      · obtain ⟨j, hj, rfl⟩ := sl9.of
        have ebj : bSl (nI j) = true := bSl_t sl9
        have ecj : (nI j).toNatClampNeg = j := nI_clamp (by omega)
        refine lv_if_eq (tgt := 19) hx hb dX8_open_12 (by decide) (fun c12 => ?_) (fun c12 => ?_)
        · replace c12 : 1 = 0 := (nI_eq (a := 1) (b := 0) (by omega) (by omega)).mp c12
          exfalso; omega
        · replace c12 : ¬ 1 = 0 := fun zq => c12 ((nI_eq (a := 1) (b := 0) (by omega) (by omega)).mpr zq)
          refine lv_iconst (v := nI 1) hx hb dX8_open_15 (by decide) ?_
          refine lv_goto (tgt := 20) hx hb dX8_open_16 (by decide) ?_
          refine lv_iconst (v := nI 1) hx hb dX8_open_20 (by decide) ?_
          refine q_callV (rest := []) C (c_X8_good1 l D cy N0 h y ms mb (ra 28) od pt fi re rc rs so ot cn la ro gr cd ca mv ct fau cs ce rn (nI 1) hY) kX8_good g1249 g1251 rfl gp41 g4 hP hS hY (by first | decide | omega) hl.1 rfl (by decide) (by first | decide | omega) dX8_open_21 (fun q ce E h' H1 locs1 hE => hE.elim) (fun v hh3 H locs hq hP hS => ?_)
          obtain ⟨rfl, rfl⟩ := hq
          replace hP : qP D N0 (qs h y (.inr (8, [.ref ms, .ref mb, .ref (ra 28), .int gr, .int 0, .int ca, .int mv, .ref od, .ref pt, .int ct, .int fau, .ref fi, .ref re, .int cs, .ref rc, .ref rs, .ref so, .ref ot, .ref cn, .ref la, .int ce, .ref ro, .int rn]))) H := hP
          obtain ⟨hv1, ehv1⟩ : ∃ z : qH, z = qs h y (.inr (8, [.ref ms, .ref mb, .ref (ra 28), .int gr, .int 0, .int ca, .int mv, .ref od, .ref pt, .int ct, .int fau, .ref fi, .ref re, .int cs, .ref rc, .ref rs, .ref so, .ref ot, .ref cn, .ref la, .int ce, .ref ro, .int rn])) := ⟨_, rfl⟩
          rw [← ehv1] at hP
          have khv1 : ∀ b o, b ≠ y → h b = some o → hv1 b = some o := by rw [ehv1]; exact fun b o nb hb => (qs_ne nb).trans hb
          replace hms := khv1 _ _ (fun q => by subst q; have := hms.symm.trans hY; first | cases this | simp at this) hms
          replace hmb := khv1 _ _ (fun q => by subst q; have := hmb.symm.trans hY; first | cases this | simp at this) hmb
          replace faw := khv1 _ _ (fun q => by have z9 := faw; rw [q] at z9; have := z9.symm.trans hY; first | cases this | simp at this) faw
          replace fkw := khv1 _ _ (fun q => by have z9 := fkw; rw [q] at z9; have := z9.symm.trans hY; first | cases this | simp at this) fkw
          replace fvw := khv1 _ _ (fun q => by have z9 := fvw; rw [q] at z9; have := z9.symm.trans hY; first | cases this | simp at this) fvw
          replace hY : hv1 y = some (.inr (8, [.ref ms, .ref mb, .ref (ra 28), .int gr, .int 0, .int ca, .int mv, .ref od, .ref pt, .int ct, .int fau, .ref fi, .ref re, .int cs, .ref rc, .ref rs, .ref so, .ref ot, .ref cn, .ref la, .int ce, .ref ro, .int rn])) := by rw [ehv1]; exact qs_self
          clear ehv1
          replace fr := fun b o hb n1 n2 => khv1 b o n1 (fr b o hb n1 n2)
          refine lv_if_eq (tgt := 62) hx hb dX8_open_24 (by decide) (fun c24 => ?_) (fun c24 => ?_)
          · replace c24 : 1 = 0 := (nI_eq (a := 1) (b := 0) (by omega) (by omega)).mp c24
            exfalso; omega
          · replace c24 : ¬ 1 = 0 := fun zq => c24 ((nI_eq (a := 1) (b := 0) (by omega) (by omega)).mpr zq)
            refine lv_aload_n hx hb dX8_open_27 rfl (lv_at hl 0 rfl) ?_
            refine lv_aload_n hx hb dX8_open_28 rfl (lv_at hl 0 rfl) ?_
            refine lv_iload_n hx hb dX8_open_29 rfl (lv_at hl 2 rfl) ?_
            refine lv_bipush (v := nI 7) hx hb dX8_open_30 (by decide) ?_
            obtain ⟨nj, rwj, Fj, Gj, hRj, hnj, hLj, hKj⟩ := hrs j (by omega)
            have apj := hRj.apart hRw (hmd.two (i := j) (j := 28) (by omega) (by omega) (by omega))
            replace hRj := hRj.keep2 (fun b o hb ho => fr b o ho (hRj.ney hY0 hb) (hb.elim (fun q => q ▸ apj.1) (fun hb => hb.elim (fun q => q ▸ apj.2.1) (fun q => q ▸ apj.2.2))))
            have faj := hRj.2.2.2.1
            have fkj := hRj.2.2.2.2.1
            have fvj := hRj.2.2.2.2.2
            unfold qRb at faj
            unfold qJr at fkj fvj
            refine q_callV (rest := [.ref y]) C (c_X8_holds l D cy N0 hv1 y ms ra rk rv j 7 _ _ _ _ _ _ _ _ hY rfl hms ⟨hRj.1, hRj.2.1, hRj.2.2.1, faj, fkj, fvj⟩ (by omega)) kX8_holds g1264 g1266 rfl gp42 g4 hP hS hY (by first | decide | omega) hl.1 rfl (by simp [q_catrf, q_cati, q_catl, q_cata, q_catn]) (by first | decide | omega) dX8_open_32 (fun q ce E h' H1 locs1 hE => hE.elim) (fun v hh4 H locs hq hP hS => ?_)
            obtain ⟨rfl, rfl⟩ := hq
            cases hoj : bHo (S j).1 7 with
            | false =>
              refine lv_if_eq (tgt := 54) hx hb dX8_open_35 (by decide) (fun c35 => ?_) (fun c35 => ?_)
              · replace c35 : 0 = 0 := (nI_eq (a := 0) (b := 0) (by omega) (by omega)).mp c35
                refine lv_iconst (v := nI 0) hx hb dX8_open_54 (by decide) ?_
                refine lv_iconst (v := nI 2) hx hb dX8_open_55 (by decide) ?_
                refine q_callV (rest := []) C (c_X8_good0 l D cy N0 hv1 y ms mb (ra 28) od pt fi re rc rs so ot cn la ro gr 0 ca mv ct fau cs ce rn (nI 2) hY) kX8_good g1249 g1251 rfl gp41 g4 hP hS hY (by first | decide | omega) hl.1 rfl (by decide) (by first | decide | omega) dX8_open_56 (fun q ce E h' H1 locs1 hE => hE.elim) (fun v hh5 H locs hq hP hS => ?_)
                obtain ⟨rfl, rfl⟩ := hq
                replace hP : qP D N0 (qs hv1 y (.inr (8, [.ref ms, .ref mb, .ref (ra 28), .int gr, .int (nI 2), .int ca, .int mv, .ref od, .ref pt, .int ct, .int fau, .ref fi, .ref re, .int cs, .ref rc, .ref rs, .ref so, .ref ot, .ref cn, .ref la, .int ce, .ref ro, .int rn]))) H := hP
                obtain ⟨hv2, ehv2⟩ : ∃ z : qH, z = qs hv1 y (.inr (8, [.ref ms, .ref mb, .ref (ra 28), .int gr, .int (nI 2), .int ca, .int mv, .ref od, .ref pt, .int ct, .int fau, .ref fi, .ref re, .int cs, .ref rc, .ref rs, .ref so, .ref ot, .ref cn, .ref la, .int ce, .ref ro, .int rn])) := ⟨_, rfl⟩
                rw [← ehv2] at hP
                have khv2 : ∀ b o, b ≠ y → hv1 b = some o → hv2 b = some o := by rw [ehv2]; exact fun b o nb hb => (qs_ne nb).trans hb
                replace hms := khv2 _ _ (fun q => by subst q; have := hms.symm.trans hY; first | cases this | simp at this) hms
                replace hmb := khv2 _ _ (fun q => by subst q; have := hmb.symm.trans hY; first | cases this | simp at this) hmb
                replace faw := khv2 _ _ (fun q => by have z9 := faw; rw [q] at z9; have := z9.symm.trans hY; first | cases this | simp at this) faw
                replace fkw := khv2 _ _ (fun q => by have z9 := fkw; rw [q] at z9; have := z9.symm.trans hY; first | cases this | simp at this) fkw
                replace fvw := khv2 _ _ (fun q => by have z9 := fvw; rw [q] at z9; have := z9.symm.trans hY; first | cases this | simp at this) fvw
                replace faj := khv2 _ _ (fun q => by have z9 := faj; rw [q] at z9; have := z9.symm.trans hY; first | cases this | simp at this) faj
                replace fkj := khv2 _ _ (fun q => by have z9 := fkj; rw [q] at z9; have := z9.symm.trans hY; first | cases this | simp at this) fkj
                replace fvj := khv2 _ _ (fun q => by have z9 := fvj; rw [q] at z9; have := z9.symm.trans hY; first | cases this | simp at this) fvj
                replace hY : hv2 y = some (.inr (8, [.ref ms, .ref mb, .ref (ra 28), .int gr, .int (nI 2), .int ca, .int mv, .ref od, .ref pt, .int ct, .int fau, .ref fi, .ref re, .int cs, .ref rc, .ref rs, .ref so, .ref ot, .ref cn, .ref la, .int ce, .ref ro, .int rn])) := by rw [ehv2]; exact qs_self
                clear ehv2
                replace fr := fun b o hb n1 n2 => khv2 b o n1 (fr b o hb n1 n2)
                refine lv_if_ne (tgt := 63) hx hb dX8_open_59 (by decide) (fun c59 => ?_) (fun c59 => ?_)
                · replace c59 : ¬ 0 = 0 := fun zq => c59 ((nI_eq (a := 0) (b := 0) (by omega) (by omega)).mpr zq)
                  exfalso; omega
                · replace c59 : 0 = 0 := (nI_eq (a := 0) (b := 0) (by omega) (by omega)).mp c59
                  have ex : xs_open S (nI bb) (nI j) = (2, S) := by unfold xs_open; rw [if_neg (by simp [ebb, ebj]), ecb, ecj, if_pos (by first | exact Or.inl hoj | exact Or.inr c47)]
                  obtain ⟨m9, f9⟩ := hM.fin0 hY0 (h' := hv2) ⟨hRw.1, hRw.2.1, hRw.2.2.1, faw, fkw, fvw⟩ fr
                  exact q_vret C hP hS ⟨rfl, by rw [ex]; exact hY, by first | exact m9 | (rw [ex]; exact m9), f9⟩ (by omega) dX8_open_62
              · replace c35 : ¬ 0 = 0 := fun zq => c35 ((nI_eq (a := 0) (b := 0) (by omega) (by omega)).mpr zq)
                exfalso; omega
            | true =>
              refine lv_if_eq (tgt := 54) hx hb dX8_open_35 (by decide) (fun c35 => ?_) (fun c35 => ?_)
              · replace c35 : 1 = 0 := (nI_eq (a := 1) (b := 0) (by omega) (by omega)).mp c35
                exfalso; omega
              · replace c35 : ¬ 1 = 0 := fun zq => c35 ((nI_eq (a := 1) (b := 0) (by omega) (by omega)).mpr zq)
                refine lv_aload_n hx hb dX8_open_38 rfl (lv_at hl 0 rfl) ?_
                refine q_get C hP hY rfl inX8 1 (by decide) g1168 rfl dX8_open_39 ?_
                refine lv_iload_n hx hb dX8_open_42 rfl (lv_at hl 1 rfl) ?_
                refine q_aaldR C hP hmb rfl (by omega) (by omega) rfl dX8_open_43 ?_
                obtain ⟨nbb, rwbb, Fbb, Gbb, hRbb, hnbb, hLbb, hKbb⟩ := hrs (24 + bb) (by omega)
                have apbb := hRbb.apart hRw (hmd.two (i := (24 + bb)) (j := 28) (by omega) (by omega) (by omega))
                replace hRbb := hRbb.keep2 (fun b o hb ho => fr b o ho (hRbb.ney hY0 hb) (hb.elim (fun q => q ▸ apbb.1) (fun hb => hb.elim (fun q => q ▸ apbb.2.1) (fun q => q ▸ apbb.2.2))))
                have fabb := hRbb.2.2.2.1
                have fkbb := hRbb.2.2.2.2.1
                have fvbb := hRbb.2.2.2.2.2
                unfold qRb at fabb
                unfold qJr at fkbb fvbb
                refine q_get C hP fabb rfl inX7 2 (by decide) g1142 rfl dX8_open_44 ?_
                refine lv_if_ge (tgt := 54) hx hb dX8_open_47 (by decide) (fun c47 => ?_) (fun c47 => ?_)
                · refine lv_iconst (v := nI 0) hx hb dX8_open_54 (by decide) ?_
                  refine lv_iconst (v := nI 2) hx hb dX8_open_55 (by decide) ?_
                  refine q_callV (rest := []) C (c_X8_good0 l D cy N0 hv1 y ms mb (ra 28) od pt fi re rc rs so ot cn la ro gr 0 ca mv ct fau cs ce rn (nI 2) hY) kX8_good g1249 g1251 rfl gp41 g4 hP hS hY (by first | decide | omega) hl.1 rfl (by decide) (by first | decide | omega) dX8_open_56 (fun q ce E h' H1 locs1 hE => hE.elim) (fun v hh6 H locs hq hP hS => ?_)
                  obtain ⟨rfl, rfl⟩ := hq
                  replace hP : qP D N0 (qs hv1 y (.inr (8, [.ref ms, .ref mb, .ref (ra 28), .int gr, .int (nI 2), .int ca, .int mv, .ref od, .ref pt, .int ct, .int fau, .ref fi, .ref re, .int cs, .ref rc, .ref rs, .ref so, .ref ot, .ref cn, .ref la, .int ce, .ref ro, .int rn]))) H := hP
                  obtain ⟨hv3, ehv3⟩ : ∃ z : qH, z = qs hv1 y (.inr (8, [.ref ms, .ref mb, .ref (ra 28), .int gr, .int (nI 2), .int ca, .int mv, .ref od, .ref pt, .int ct, .int fau, .ref fi, .ref re, .int cs, .ref rc, .ref rs, .ref so, .ref ot, .ref cn, .ref la, .int ce, .ref ro, .int rn])) := ⟨_, rfl⟩
                  rw [← ehv3] at hP
                  have khv3 : ∀ b o, b ≠ y → hv1 b = some o → hv3 b = some o := by rw [ehv3]; exact fun b o nb hb => (qs_ne nb).trans hb
                  replace hms := khv3 _ _ (fun q => by subst q; have := hms.symm.trans hY; first | cases this | simp at this) hms
                  replace hmb := khv3 _ _ (fun q => by subst q; have := hmb.symm.trans hY; first | cases this | simp at this) hmb
                  replace faw := khv3 _ _ (fun q => by have z9 := faw; rw [q] at z9; have := z9.symm.trans hY; first | cases this | simp at this) faw
                  replace fkw := khv3 _ _ (fun q => by have z9 := fkw; rw [q] at z9; have := z9.symm.trans hY; first | cases this | simp at this) fkw
                  replace fvw := khv3 _ _ (fun q => by have z9 := fvw; rw [q] at z9; have := z9.symm.trans hY; first | cases this | simp at this) fvw
                  replace faj := khv3 _ _ (fun q => by have z9 := faj; rw [q] at z9; have := z9.symm.trans hY; first | cases this | simp at this) faj
                  replace fkj := khv3 _ _ (fun q => by have z9 := fkj; rw [q] at z9; have := z9.symm.trans hY; first | cases this | simp at this) fkj
                  replace fvj := khv3 _ _ (fun q => by have z9 := fvj; rw [q] at z9; have := z9.symm.trans hY; first | cases this | simp at this) fvj
                  replace fabb := khv3 _ _ (fun q => by have z9 := fabb; rw [q] at z9; have := z9.symm.trans hY; first | cases this | simp at this) fabb
                  replace fkbb := khv3 _ _ (fun q => by have z9 := fkbb; rw [q] at z9; have := z9.symm.trans hY; first | cases this | simp at this) fkbb
                  replace fvbb := khv3 _ _ (fun q => by have z9 := fvbb; rw [q] at z9; have := z9.symm.trans hY; first | cases this | simp at this) fvbb
                  replace hY : hv3 y = some (.inr (8, [.ref ms, .ref mb, .ref (ra 28), .int gr, .int (nI 2), .int ca, .int mv, .ref od, .ref pt, .int ct, .int fau, .ref fi, .ref re, .int cs, .ref rc, .ref rs, .ref so, .ref ot, .ref cn, .ref la, .int ce, .ref ro, .int rn])) := by rw [ehv3]; exact qs_self
                  clear ehv3
                  replace fr := fun b o hb n1 n2 => khv3 b o n1 (fr b o hb n1 n2)
                  refine lv_if_ne (tgt := 63) hx hb dX8_open_59 (by decide) (fun c59 => ?_) (fun c59 => ?_)
                  · replace c59 : ¬ 0 = 0 := fun zq => c59 ((nI_eq (a := 0) (b := 0) (by omega) (by omega)).mpr zq)
                    exfalso; omega
                  · replace c59 : 0 = 0 := (nI_eq (a := 0) (b := 0) (by omega) (by omega)).mp c59
                    have ex : xs_open S (nI bb) (nI j) = (2, S) := by unfold xs_open; rw [if_neg (by simp [ebb, ebj]), ecb, ecj, if_pos (by first | exact Or.inl hoj | exact Or.inr c47)]
                    obtain ⟨m9, f9⟩ := hM.fin0 hY0 (h' := hv3) ⟨hRw.1, hRw.2.1, hRw.2.2.1, faw, fkw, fvw⟩ fr
                    exact q_vret C hP hS ⟨rfl, by rw [ex]; exact hY, by first | exact m9 | (rw [ex]; exact m9), f9⟩ (by omega) dX8_open_62
                · refine lv_iconst (v := nI 1) hx hb dX8_open_50 (by decide) ?_
                  refine lv_goto (tgt := 55) hx hb dX8_open_51 (by decide) ?_
                  refine lv_iconst (v := nI 2) hx hb dX8_open_55 (by decide) ?_
                  refine q_callV (rest := []) C (c_X8_good1 l D cy N0 hv1 y ms mb (ra 28) od pt fi re rc rs so ot cn la ro gr 0 ca mv ct fau cs ce rn (nI 2) hY) kX8_good g1249 g1251 rfl gp41 g4 hP hS hY (by first | decide | omega) hl.1 rfl (by decide) (by first | decide | omega) dX8_open_56 (fun q ce E h' H1 locs1 hE => hE.elim) (fun v hh7 H locs hq hP hS => ?_)
                  obtain ⟨rfl, rfl⟩ := hq
                  replace hP : qP D N0 (qs hv1 y (.inr (8, [.ref ms, .ref mb, .ref (ra 28), .int gr, .int 0, .int ca, .int mv, .ref od, .ref pt, .int ct, .int fau, .ref fi, .ref re, .int cs, .ref rc, .ref rs, .ref so, .ref ot, .ref cn, .ref la, .int ce, .ref ro, .int rn]))) H := hP
                  obtain ⟨hv4, ehv4⟩ : ∃ z : qH, z = qs hv1 y (.inr (8, [.ref ms, .ref mb, .ref (ra 28), .int gr, .int 0, .int ca, .int mv, .ref od, .ref pt, .int ct, .int fau, .ref fi, .ref re, .int cs, .ref rc, .ref rs, .ref so, .ref ot, .ref cn, .ref la, .int ce, .ref ro, .int rn])) := ⟨_, rfl⟩
                  rw [← ehv4] at hP
                  have khv4 : ∀ b o, b ≠ y → hv1 b = some o → hv4 b = some o := by rw [ehv4]; exact fun b o nb hb => (qs_ne nb).trans hb
                  replace hms := khv4 _ _ (fun q => by subst q; have := hms.symm.trans hY; first | cases this | simp at this) hms
                  replace hmb := khv4 _ _ (fun q => by subst q; have := hmb.symm.trans hY; first | cases this | simp at this) hmb
                  replace faw := khv4 _ _ (fun q => by have z9 := faw; rw [q] at z9; have := z9.symm.trans hY; first | cases this | simp at this) faw
                  replace fkw := khv4 _ _ (fun q => by have z9 := fkw; rw [q] at z9; have := z9.symm.trans hY; first | cases this | simp at this) fkw
                  replace fvw := khv4 _ _ (fun q => by have z9 := fvw; rw [q] at z9; have := z9.symm.trans hY; first | cases this | simp at this) fvw
                  replace faj := khv4 _ _ (fun q => by have z9 := faj; rw [q] at z9; have := z9.symm.trans hY; first | cases this | simp at this) faj
                  replace fkj := khv4 _ _ (fun q => by have z9 := fkj; rw [q] at z9; have := z9.symm.trans hY; first | cases this | simp at this) fkj
                  replace fvj := khv4 _ _ (fun q => by have z9 := fvj; rw [q] at z9; have := z9.symm.trans hY; first | cases this | simp at this) fvj
                  replace fabb := khv4 _ _ (fun q => by have z9 := fabb; rw [q] at z9; have := z9.symm.trans hY; first | cases this | simp at this) fabb
                  replace fkbb := khv4 _ _ (fun q => by have z9 := fkbb; rw [q] at z9; have := z9.symm.trans hY; first | cases this | simp at this) fkbb
                  replace fvbb := khv4 _ _ (fun q => by have z9 := fvbb; rw [q] at z9; have := z9.symm.trans hY; first | cases this | simp at this) fvbb
                  replace hY : hv4 y = some (.inr (8, [.ref ms, .ref mb, .ref (ra 28), .int gr, .int 0, .int ca, .int mv, .ref od, .ref pt, .int ct, .int fau, .ref fi, .ref re, .int cs, .ref rc, .ref rs, .ref so, .ref ot, .ref cn, .ref la, .int ce, .ref ro, .int rn])) := by rw [ehv4]; exact qs_self
                  clear ehv4
                  replace fr := fun b o hb n1 n2 => khv4 b o n1 (fr b o hb n1 n2)
                  refine lv_if_ne (tgt := 63) hx hb dX8_open_59 (by decide) (fun c59 => ?_) (fun c59 => ?_)
                  · replace c59 : ¬ 1 = 0 := fun zq => c59 ((nI_eq (a := 1) (b := 0) (by omega) (by omega)).mpr zq)
                    refine lv_aload_n hx hb dX8_open_63 rfl (lv_at hl 0 rfl) ?_
                    refine q_get C hP hY rfl inX8 0 (by decide) g1167 rfl dX8_open_64 ?_
                    refine lv_iload_n hx hb dX8_open_67 rfl (lv_at hl 2 rfl) ?_
                    refine q_aaldR C hP hms rfl (by omega) (by omega) rfl dX8_open_68 ?_
                    refine lv_aload_n hx hb dX8_open_69 rfl (lv_at hl 0 rfl) ?_
                    refine q_get C hP hY rfl inX8 1 (by decide) g1168 rfl dX8_open_70 ?_
                    refine lv_iload_n hx hb dX8_open_73 rfl (lv_at hl 1 rfl) ?_
                    refine q_aaldR C hP hmb rfl (by omega) (by omega) rfl dX8_open_74 ?_
                    have ajb := qRw.apart (⟨hRj.1, hRj.2.1, hRj.2.2.1, faj, fkj, fvj⟩ : qRw cy hv4 (ra j) (rk j) (rv j) ((S j).1) (nI nj) (nI (S j).2.2.1) (nI (S j).2.2.2) rwj Fj Gj) (⟨hRbb.1, hRbb.2.1, hRbb.2.2.1, fabb, fkbb, fvbb⟩ : qRw cy hv4 (ra (24 + bb)) (rk (24 + bb)) (rv (24 + bb)) ((S (24 + bb)).1) (nI nbb) (nI (S (24 + bb)).2.2.1) (nI (S (24 + bb)).2.2.2) rwbb Fbb Gbb) (hmd.two (by omega) (by omega) (by omega))
                    have awbb : qOf (ra (24 + bb)) (rk (24 + bb)) (rv (24 + bb)) (ra 28) ∧ qOf (ra (24 + bb)) (rk (24 + bb)) (rv (24 + bb)) (rk 28) ∧ qOf (ra (24 + bb)) (rk (24 + bb)) (rv (24 + bb)) (rv 28) := ⟨⟨Ne.symm apbb.1.1, Ne.symm apbb.2.1.1, Ne.symm apbb.2.2.1⟩, ⟨Ne.symm apbb.1.2.1, Ne.symm apbb.2.1.2.1, Ne.symm apbb.2.2.2.1⟩, ⟨Ne.symm apbb.1.2.2, Ne.symm apbb.2.1.2.2, Ne.symm apbb.2.2.2.2⟩⟩
                    refine q_callS (rest := []) C (c_X8_copy l D cy N0 hv4 (ra j) (rk j) (rv j) (S j).1 (nI (S j).2.2.1) (nI (S j).2.2.2) rwj nj Fj Gj (ra (24 + bb)) (rk (24 + bb)) (rv (24 + bb)) (S (24 + bb)).1 (nI (S (24 + bb)).2.2.1) (nI (S (24 + bb)).2.2.2) rwbb nbb Fbb Gbb ⟨hRj.1, hRj.2.1, hRj.2.2.1, faj, fkj, fvj⟩ ⟨hRbb.1, hRbb.2.1, hRbb.2.2.1, fabb, fkbb, fvbb⟩ ajb (by omega)) kX8_copy g1257 g1258 hP hS (by first | decide | omega) hl.1 rfl (by decide) (by first | decide | omega) dX8_open_75 (fun q ce E h' H1 locs1 hE => hE.elim) (fun v hh8 H locs hq hP hS => ?_)
                    obtain ⟨rfl, rfl⟩ := hq
                    replace fr := fun b o hb n1 n2 (n3 : qOf (ra (24 + bb)) (rk (24 + bb)) (rv (24 + bb)) b) => fr b o hb n1 n2
                    obtain ⟨hv5, ehv5⟩ : ∃ z : qH, z = qRh cy hv4 (ra (24 + bb)) (rk (24 + bb)) (rv (24 + bb)) ((S j).1) (nI nj) (nI (S j).2.2.1) (nI (S j).2.2.2) rwj (qCp Fj Fbb nj) (qCp Gj Gbb nj) := ⟨_, rfl⟩
                    rw [← ehv5] at hP
                    have r9 : qRw cy hv5 (ra (24 + bb)) (rk (24 + bb)) (rv (24 + bb)) ((S j).1) (nI nj) (nI (S j).2.2.1) (nI (S j).2.2.2) rwj (qCp Fj Fbb nj) (qCp Gj Gbb nj) := by rw [ehv5]; exact qRw.new (cy := cy) (h := hv4) (kd := (S (24 + bb)).1) (n := (nI nbb)) (sm := (nI (S (24 + bb)).2.2.1)) (dp := (nI (S (24 + bb)).2.2.2)) (rw := rwbb) (f := Fbb) (g := Gbb) ⟨hRbb.1, hRbb.2.1, hRbb.2.2.1, fabb, fkbb, fvbb⟩
                    have khv5 : ∀ b o, qOf (ra (24 + bb)) (rk (24 + bb)) (rv (24 + bb)) b → hv4 b = some o → hv5 b = some o := by rw [ehv5]; exact fun b o q hb => (qRh_o q.1 q.2.1 q.2.2).trans hb
                    replace hY := khv5 _ _ ⟨fun q => by rw [q] at hY; have := fabb.symm.trans hY; first | cases this | simp at this, fun q => by rw [q] at hY; have := fkbb.symm.trans hY; first | cases this | simp at this, fun q => by rw [q] at hY; have := fvbb.symm.trans hY; first | cases this | simp at this⟩ hY
                    replace hms := khv5 _ _ ⟨fun q => by rw [q] at hms; have := fabb.symm.trans hms; first | cases this | simp at this, fun q => by rw [q] at hms; have := fkbb.symm.trans hms; first | cases this | simp at this, fun q => by rw [q] at hms; have := fvbb.symm.trans hms; first | cases this | simp at this⟩ hms
                    replace hmb := khv5 _ _ ⟨fun q => by rw [q] at hmb; have := fabb.symm.trans hmb; first | cases this | simp at this, fun q => by rw [q] at hmb; have := fkbb.symm.trans hmb; first | cases this | simp at this, fun q => by rw [q] at hmb; have := fvbb.symm.trans hmb; first | cases this | simp at this⟩ hmb
                    replace faw := khv5 _ _ awbb.1 faw
                    replace fkw := khv5 _ _ awbb.2.1 fkw
                    replace fvw := khv5 _ _ awbb.2.2 fvw
                    replace faj := khv5 _ _ ajb.1 faj
                    replace fkj := khv5 _ _ ajb.2.1 fkj
                    replace fvj := khv5 _ _ ajb.2.2 fvj
                    replace fr := fun b o hb n1 n2 n3 => khv5 b o n3 (fr b o hb n1 n2 n3)
                    clear fabb fkbb fvbb
                    have fabb := r9.2.2.2.1
                    have fkbb := r9.2.2.2.2.1
                    have fvbb := r9.2.2.2.2.2
                    unfold qRb at fabb
                    unfold qJr at fkbb fvbb
                    clear r9 ehv5
                    refine lv_aload_n hx hb dX8_open_78 rfl (lv_at hl 0 rfl) ?_
                    refine q_get C hP hY rfl inX8 1 (by decide) g1168 rfl dX8_open_79 ?_
                    refine lv_iload_n hx hb dX8_open_82 rfl (lv_at hl 1 rfl) ?_
                    refine q_aaldR C hP hmb rfl (by omega) (by omega) rfl dX8_open_83 ?_
                    refine lv_iconst (v := -1) hx hb dX8_open_84 (by decide) ?_
                    refine q_put C hP hS fabb rfl inX7 tyX7 tyX7_ok nmX7 6 (by decide) g1147 rfl rfl rfl (Nat.le_of_ble_eq_true rfl) dX8_open_85 (fun H locs hP hS => ?_)
                    replace hP : qP D N0 (qs hv5 (ra (24 + bb)) (.inr (7, [.ref (rk (24 + bb)), .ref (rv (24 + bb)), .int (S j).1, .int (nI nj), .int (nI (S j).2.2.1), .int (nI (S j).2.2.2), .int (-1)]))) H := hP
                    obtain ⟨hv6, ehv6⟩ : ∃ z : qH, z = qs hv5 (ra (24 + bb)) (.inr (7, [.ref (rk (24 + bb)), .ref (rv (24 + bb)), .int (S j).1, .int (nI nj), .int (nI (S j).2.2.1), .int (nI (S j).2.2.2), .int (-1)])) := ⟨_, rfl⟩
                    rw [← ehv6] at hP
                    have khv6 : ∀ b o, b ≠ (ra (24 + bb)) → hv5 b = some o → hv6 b = some o := by rw [ehv6]; exact fun b o nb hb => (qs_ne nb).trans hb
                    replace hY := khv6 _ _ (fun q => by have z9 := hY; rw [q] at z9; have := z9.symm.trans fabb; first | cases this | simp at this) hY
                    replace hms := khv6 _ _ (fun q => by have z9 := hms; rw [q] at z9; have := z9.symm.trans fabb; first | cases this | simp at this) hms
                    replace hmb := khv6 _ _ (fun q => by have z9 := hmb; rw [q] at z9; have := z9.symm.trans fabb; first | cases this | simp at this) hmb
                    replace faw := khv6 _ _ (Ne.symm apbb.1.1) faw
                    replace fkw := khv6 _ _ (Ne.symm apbb.1.2.1) fkw
                    replace fvw := khv6 _ _ (Ne.symm apbb.1.2.2) fvw
                    replace faj := khv6 _ _ ajb.1.1 faj
                    replace fkj := khv6 _ _ (fun q => by have z9 := fkj; rw [q] at z9; have := z9.symm.trans fabb; first | cases this | simp at this) fkj
                    replace fvj := khv6 _ _ (fun q => by have z9 := fvj; rw [q] at z9; have := z9.symm.trans fabb; first | cases this | simp at this) fvj
                    replace fkbb := khv6 _ _ (fun q => by have z9 := fkbb; rw [q] at z9; have := z9.symm.trans fabb; first | cases this | simp at this) fkbb
                    replace fvbb := khv6 _ _ (fun q => by have z9 := fvbb; rw [q] at z9; have := z9.symm.trans fabb; first | cases this | simp at this) fvbb
                    replace fabb : hv6 (ra (24 + bb)) = some (.inr (7, [.ref (rk (24 + bb)), .ref (rv (24 + bb)), .int (S j).1, .int (nI nj), .int (nI (S j).2.2.1), .int (nI (S j).2.2.2), .int (-1)])) := by rw [ehv6]; exact qs_self
                    clear ehv6
                    replace fr := fun b o hb n1 n2 n3 => khv6 b o n3.1 (fr b o hb n1 n2 n3)
                    have ex : xs_open S (nI bb) (nI j) = (0, qU S (24 + bb) (S j)) := by unfold xs_open; rw [if_neg (by simp [ebb, ebj]), ecb, ecj, if_neg (by exact fun z => z.elim (fun z => by rw [hoj] at z; cases z) c47)]
                    obtain ⟨m9, f9⟩ := hM.fin hY0 (i := (24 + bb)) (by omega) (s := (S j)) ⟨nj, _, _, _, ⟨hRbb.1, hRbb.2.1, hRbb.2.2.1, fabb, fkbb, fvbb⟩, by omega, by rw [qLs_cp]; exact hLj, by first | exact Or.inl rfl | exact xRo.mv (by omega) hKj | exact xRo.bl (by omega) hKbb⟩ ⟨hRw.1, hRw.2.1, hRw.2.2.1, faw, fkw, fvw⟩ fr
                    exact q_vret C hP hS ⟨rfl, by rw [ex]; exact hY, by rw [ex]; exact m9, f9⟩ (by omega) dX8_open_88
                  · replace c59 : 1 = 0 := (nI_eq (a := 1) (b := 0) (by omega) (by omega)).mp c59
                    exfalso; omega
      · have ebj : bSl p1 = false := bSl_f sl9
        refine lv_if_eq (tgt := 19) hx hb dX8_open_12 (by decide) (fun c12 => ?_) (fun c12 => ?_)
        · replace c12 : 0 = 0 := (nI_eq (a := 0) (b := 0) (by omega) (by omega)).mp c12
          refine lv_iconst (v := nI 0) hx hb dX8_open_19 (by decide) ?_
          refine lv_iconst (v := nI 1) hx hb dX8_open_20 (by decide) ?_
          refine q_callV (rest := []) C (c_X8_good0 l D cy N0 h y ms mb (ra 28) od pt fi re rc rs so ot cn la ro gr cd ca mv ct fau cs ce rn (nI 1) hY) kX8_good g1249 g1251 rfl gp41 g4 hP hS hY (by first | decide | omega) hl.1 rfl (by decide) (by first | decide | omega) dX8_open_21 (fun q ce E h' H1 locs1 hE => hE.elim) (fun v hh9 H locs hq hP hS => ?_)
          obtain ⟨rfl, rfl⟩ := hq
          replace hP : qP D N0 (qs h y (.inr (8, [.ref ms, .ref mb, .ref (ra 28), .int gr, .int (nI 1), .int ca, .int mv, .ref od, .ref pt, .int ct, .int fau, .ref fi, .ref re, .int cs, .ref rc, .ref rs, .ref so, .ref ot, .ref cn, .ref la, .int ce, .ref ro, .int rn]))) H := hP
          obtain ⟨hv7, ehv7⟩ : ∃ z : qH, z = qs h y (.inr (8, [.ref ms, .ref mb, .ref (ra 28), .int gr, .int (nI 1), .int ca, .int mv, .ref od, .ref pt, .int ct, .int fau, .ref fi, .ref re, .int cs, .ref rc, .ref rs, .ref so, .ref ot, .ref cn, .ref la, .int ce, .ref ro, .int rn])) := ⟨_, rfl⟩
          rw [← ehv7] at hP
          have khv7 : ∀ b o, b ≠ y → h b = some o → hv7 b = some o := by rw [ehv7]; exact fun b o nb hb => (qs_ne nb).trans hb
          replace hms := khv7 _ _ (fun q => by subst q; have := hms.symm.trans hY; first | cases this | simp at this) hms
          replace hmb := khv7 _ _ (fun q => by subst q; have := hmb.symm.trans hY; first | cases this | simp at this) hmb
          replace faw := khv7 _ _ (fun q => by have z9 := faw; rw [q] at z9; have := z9.symm.trans hY; first | cases this | simp at this) faw
          replace fkw := khv7 _ _ (fun q => by have z9 := fkw; rw [q] at z9; have := z9.symm.trans hY; first | cases this | simp at this) fkw
          replace fvw := khv7 _ _ (fun q => by have z9 := fvw; rw [q] at z9; have := z9.symm.trans hY; first | cases this | simp at this) fvw
          replace hY : hv7 y = some (.inr (8, [.ref ms, .ref mb, .ref (ra 28), .int gr, .int (nI 1), .int ca, .int mv, .ref od, .ref pt, .int ct, .int fau, .ref fi, .ref re, .int cs, .ref rc, .ref rs, .ref so, .ref ot, .ref cn, .ref la, .int ce, .ref ro, .int rn])) := by rw [ehv7]; exact qs_self
          clear ehv7
          replace fr := fun b o hb n1 n2 => khv7 b o n1 (fr b o hb n1 n2)
          refine lv_if_eq (tgt := 62) hx hb dX8_open_24 (by decide) (fun c24 => ?_) (fun c24 => ?_)
          · replace c24 : 0 = 0 := (nI_eq (a := 0) (b := 0) (by omega) (by omega)).mp c24
            have ex : xs_open S (nI bb) p1 = (1, S) := by unfold xs_open; rw [if_pos (by simp [ebb, ebj])]
            obtain ⟨m9, f9⟩ := hM.fin0 hY0 (h' := hv7) ⟨hRw.1, hRw.2.1, hRw.2.2.1, faw, fkw, fvw⟩ fr
            exact q_vret C hP hS ⟨rfl, by rw [ex]; exact hY, by first | exact m9 | (rw [ex]; exact m9), f9⟩ (by omega) dX8_open_62
          · replace c24 : ¬ 0 = 0 := fun zq => c24 ((nI_eq (a := 0) (b := 0) (by omega) (by omega)).mpr zq)
            exfalso; omega
        · replace c12 : ¬ 0 = 0 := fun zq => c12 ((nI_eq (a := 0) (b := 0) (by omega) (by omega)).mpr zq)
          exfalso; omega
  · have ebb : bB3 p0 = false := bB3_f sl9
    refine lv_if_eq (tgt := 19) hx hb dX8_open_5 (by decide) (fun c5 => ?_) (fun c5 => ?_)
    · replace c5 : 0 = 0 := (nI_eq (a := 0) (b := 0) (by omega) (by omega)).mp c5
      refine lv_iconst (v := nI 0) hx hb dX8_open_19 (by decide) ?_
      refine lv_iconst (v := nI 1) hx hb dX8_open_20 (by decide) ?_
      refine q_callV (rest := []) C (c_X8_good0 l D cy N0 h y ms mb (ra 28) od pt fi re rc rs so ot cn la ro gr cd ca mv ct fau cs ce rn (nI 1) hY) kX8_good g1249 g1251 rfl gp41 g4 hP hS hY (by first | decide | omega) hl.1 rfl (by decide) (by first | decide | omega) dX8_open_21 (fun q ce E h' H1 locs1 hE => hE.elim) (fun v hh10 H locs hq hP hS => ?_)
      obtain ⟨rfl, rfl⟩ := hq
      replace hP : qP D N0 (qs h y (.inr (8, [.ref ms, .ref mb, .ref (ra 28), .int gr, .int (nI 1), .int ca, .int mv, .ref od, .ref pt, .int ct, .int fau, .ref fi, .ref re, .int cs, .ref rc, .ref rs, .ref so, .ref ot, .ref cn, .ref la, .int ce, .ref ro, .int rn]))) H := hP
      obtain ⟨hv8, ehv8⟩ : ∃ z : qH, z = qs h y (.inr (8, [.ref ms, .ref mb, .ref (ra 28), .int gr, .int (nI 1), .int ca, .int mv, .ref od, .ref pt, .int ct, .int fau, .ref fi, .ref re, .int cs, .ref rc, .ref rs, .ref so, .ref ot, .ref cn, .ref la, .int ce, .ref ro, .int rn])) := ⟨_, rfl⟩
      rw [← ehv8] at hP
      have khv8 : ∀ b o, b ≠ y → h b = some o → hv8 b = some o := by rw [ehv8]; exact fun b o nb hb => (qs_ne nb).trans hb
      replace hms := khv8 _ _ (fun q => by subst q; have := hms.symm.trans hY; first | cases this | simp at this) hms
      replace hmb := khv8 _ _ (fun q => by subst q; have := hmb.symm.trans hY; first | cases this | simp at this) hmb
      replace faw := khv8 _ _ (fun q => by have z9 := faw; rw [q] at z9; have := z9.symm.trans hY; first | cases this | simp at this) faw
      replace fkw := khv8 _ _ (fun q => by have z9 := fkw; rw [q] at z9; have := z9.symm.trans hY; first | cases this | simp at this) fkw
      replace fvw := khv8 _ _ (fun q => by have z9 := fvw; rw [q] at z9; have := z9.symm.trans hY; first | cases this | simp at this) fvw
      replace hY : hv8 y = some (.inr (8, [.ref ms, .ref mb, .ref (ra 28), .int gr, .int (nI 1), .int ca, .int mv, .ref od, .ref pt, .int ct, .int fau, .ref fi, .ref re, .int cs, .ref rc, .ref rs, .ref so, .ref ot, .ref cn, .ref la, .int ce, .ref ro, .int rn])) := by rw [ehv8]; exact qs_self
      clear ehv8
      replace fr := fun b o hb n1 n2 => khv8 b o n1 (fr b o hb n1 n2)
      refine lv_if_eq (tgt := 62) hx hb dX8_open_24 (by decide) (fun c24 => ?_) (fun c24 => ?_)
      · replace c24 : 0 = 0 := (nI_eq (a := 0) (b := 0) (by omega) (by omega)).mp c24
        have ex : xs_open S p0 p1 = (1, S) := by unfold xs_open; rw [if_pos (by simp [ebb])]
        obtain ⟨m9, f9⟩ := hM.fin0 hY0 (h' := hv8) ⟨hRw.1, hRw.2.1, hRw.2.2.1, faw, fkw, fvw⟩ fr
        exact q_vret C hP hS ⟨rfl, by rw [ex]; exact hY, by first | exact m9 | (rw [ex]; exact m9), f9⟩ (by omega) dX8_open_62
      · replace c24 : ¬ 0 = 0 := fun zq => c24 ((nI_eq (a := 0) (b := 0) (by omega) (by omega)).mpr zq)
        exfalso; omega
    · replace c5 : ¬ 0 = 0 := fun zq => c5 ((nI_eq (a := 0) (b := 0) (by omega) (by omega)).mpr zq)
      exfalso; omega

theorem dX8_freeze_40 : decode cX8_freeze 40 = .ok (.iconst 1, 1) := by decide +kernel
theorem dX8_freeze_41 : decode cX8_freeze 41 = .ok (.goto 4, 3) := by decide +kernel
theorem dX8_freeze_54 : decode cX8_freeze 54 = .ok (.aload_n 0, 1) := by decide +kernel
theorem dX8_freeze_55 : decode cX8_freeze 55 = .ok (.getfield 15, 3) := by decide +kernel
theorem dX8_freeze_58 : decode cX8_freeze 58 = .ok (.iload_n 1, 1) := by decide +kernel
theorem dX8_freeze_59 : decode cX8_freeze 59 = .ok (.aaload, 1) := by decide +kernel
theorem dX8_freeze_60 : decode cX8_freeze 60 = .ok (.aload_n 0, 1) := by decide +kernel
theorem dX8_freeze_61 : decode cX8_freeze 61 = .ok (.getfield 9, 3) := by decide +kernel
theorem dX8_freeze_64 : decode cX8_freeze 64 = .ok (.iload_n 2, 1) := by decide +kernel
theorem dX8_freeze_65 : decode cX8_freeze 65 = .ok (.aaload, 1) := by decide +kernel
theorem dX8_freeze_66 : decode cX8_freeze 66 = .ok (.invokestatic 104, 3) := by decide +kernel
theorem dX8_freeze_69 : decode cX8_freeze 69 = .ok (.aload_n 0, 1) := by decide +kernel
theorem dX8_freeze_70 : decode cX8_freeze 70 = .ok (.getfield 15, 3) := by decide +kernel
theorem dX8_freeze_73 : decode cX8_freeze 73 = .ok (.iload_n 1, 1) := by decide +kernel
theorem dX8_freeze_74 : decode cX8_freeze 74 = .ok (.aaload, 1) := by decide +kernel
theorem dX8_freeze_75 : decode cX8_freeze 75 = .ok (.iconst (-1), 1) := by decide +kernel
theorem dX8_freeze_76 : decode cX8_freeze 76 = .ok (.putfield 75, 3) := by decide +kernel
theorem dX8_freeze_79 : decode cX8_freeze 79 = .ok (.aload_n 0, 1) := by decide +kernel
theorem dX8_freeze_80 : decode cX8_freeze 80 = .ok (.getfield 9, 3) := by decide +kernel
theorem dX8_freeze_83 : decode cX8_freeze 83 = .ok (.iload_n 2, 1) := by decide +kernel
theorem dX8_freeze_84 : decode cX8_freeze 84 = .ok (.aaload, 1) := by decide +kernel
theorem dX8_freeze_85 : decode cX8_freeze 85 = .ok (.getfield 78, 3) := by decide +kernel
theorem dX8_freeze_88 : decode cX8_freeze 88 = .ok (.ireturn, 1) := by decide +kernel
set_option maxRecDepth 100000 in
set_option maxHeartbeats 4000000 in
theorem c_X8_freeze (l : Launch) (D : va_G) (cy : Nat → ClassId) (N0 : Nat) (h : qH) (y ms mb mw od pt fi re rc rs so ot cn la ro : Nat) (gr cd ca mv ct fau cs ce rn : Int32) (ra rk rv : Nat → Nat) (S : Nat → qSlot) (p0 p1 : Int32) (hY : h y = some (.inr (8, [.ref ms, .ref mb, .ref mw, .int gr, .int cd, .int ca, .int mv, .ref od, .ref pt, .int ct, .int fau, .ref fi, .ref re, .int cs, .ref rc, .ref rs, .ref so, .ref ot, .ref cn, .ref la, .int ce, .ref ro, .int rn]))) (hM : qMR cy h ms mb mw ra rk rv S) : qC l D cy N0 yX8_freeze cX8_freeze 3 (some .int) 1 22 0 0 [.ref y, .int p0, .int p1] h (fun v h' => v = some (.int (xs_freeze S p0 p1).2.2) ∧ h' y = some (.inr (8, [.ref ms, .ref mb, .ref mw, .int gr, .int (xs_freeze S p0 p1).1, .int ca, .int mv, .ref od, .ref pt, .int ct, .int fau, .ref fi, .ref re, .int cs, .ref rc, .ref rs, .ref so, .ref ot, .ref cn, .ref la, .int ce, .ref ro, .int rn])) ∧ qMR cy h' ms mb mw ra rk rv ((xs_freeze S p0 p1).2.1) ∧ qFm h h' y ra rk rv) (fun E h' => False) := by
  refine q_ofW (by decide) (by exact Nat.le_of_ble_eq_true rfl) ?_
  intro p e s m below meth c ls C hP hl
  have hx := C.1
  have hb := C.2.1
  have hS : va_S (qA N0) s.heap s.heap [] := va_S.rf
  have hl : lv_has ls 3 [(0, .ref y), (1, .int p0), (2, .int p1)] := hl
  have hle : qle h h := qle_rf
  have hY0 := hY
  obtain ⟨hms, hmb, hmw, hmd, hrs, kdw, smw, dpw, rww, nw, fw, gw, hRw⟩ := id hM
  subst hmw
  have fr : ∀ b o, h b = some o → b ≠ y → qOf (ra 28) (rk 28) (rv 28) b → h b = some o := fun b o hb _ _ => hb
  have faw := hRw.2.2.2.1
  have fkw := hRw.2.2.2.2.1
  have fvw := hRw.2.2.2.2.2
  unfold qRb at faw
  unfold qJr at fkw fvw
  refine lv_aload_n hx hb dX8_freeze_0 rfl (lv_at hl 0 rfl) ?_
  refine lv_iload_n hx hb dX8_freeze_1 rfl (lv_at hl 1 rfl) ?_
  refine q_callS (rest := [.ref y]) C (c_X8_isBuilder l D cy N0 h p0) kX8_isBuilder g1461 g1462 hP hS (by first | decide | omega) hl.1 rfl (by simp [q_catrf, q_cati, q_catl, q_cata, q_catn]) (by first | decide | omega) dX8_freeze_2 (fun q ce E h' H1 locs1 hE => hE.elim) (fun v hh1 H locs hq hP hS => ?_)
  obtain ⟨rfl, ⟨rfl, sl9⟩ | ⟨rfl, sl9⟩⟩ := hq
  · obtain ⟨bb, hb9, rfl⟩ := nI_of2 (M := 3) (n := 3) (by decide) sl9.1 sl9.2
    have ebb : bB3 (nI bb) = true := bB3_t sl9
    have ecb : (nI bb).toNatClampNeg = bb := nI_clamp (by omega)
    refine lv_if_eq (tgt := 19) hx hb dX8_freeze_5 (by decide) (fun c5 => ?_) (fun c5 => ?_)
    · replace c5 : 1 = 0 := (nI_eq (a := 1) (b := 0) (by omega) (by omega)).mp c5
      exfalso; omega
    · replace c5 : ¬ 1 = 0 := fun zq => c5 ((nI_eq (a := 1) (b := 0) (by omega) (by omega)).mpr zq)
      refine lv_iload_n hx hb dX8_freeze_8 rfl (lv_at hl 2 rfl) ?_
      refine q_callS (rest := [.ref y]) C (c_X8_isSlot l D cy N0 h p1) kX8_isSlot g1246 g1247 hP hS (by first | decide | omega) hl.1 rfl (by simp [q_catrf, q_cati, q_catl, q_cata, q_catn]) (by first | decide | omega) dX8_freeze_9 (fun q ce E h' H1 locs1 hE => hE.elim) (fun v hh2 H locs hq hP hS => ?_)
      obtain ⟨rfl, ⟨rfl, sl9⟩ | ⟨rfl, sl9⟩⟩ := hq
      · obtain ⟨j, hj, rfl⟩ := sl9.of
        have ebj : bSl (nI j) = true := bSl_t sl9
        have ecj : (nI j).toNatClampNeg = j := nI_clamp (by omega)
        refine lv_if_eq (tgt := 19) hx hb dX8_freeze_12 (by decide) (fun c12 => ?_) (fun c12 => ?_)
        · replace c12 : 1 = 0 := (nI_eq (a := 1) (b := 0) (by omega) (by omega)).mp c12
          exfalso; omega
        · replace c12 : ¬ 1 = 0 := fun zq => c12 ((nI_eq (a := 1) (b := 0) (by omega) (by omega)).mpr zq)
          refine lv_iconst (v := nI 1) hx hb dX8_freeze_15 (by decide) ?_
          refine lv_goto (tgt := 20) hx hb dX8_freeze_16 (by decide) ?_
          refine lv_iconst (v := nI 1) hx hb dX8_freeze_20 (by decide) ?_
          refine q_callV (rest := []) C (c_X8_good1 l D cy N0 h y ms mb (ra 28) od pt fi re rc rs so ot cn la ro gr cd ca mv ct fau cs ce rn (nI 1) hY) kX8_good g1249 g1251 rfl gp41 g4 hP hS hY (by first | decide | omega) hl.1 rfl (by decide) (by first | decide | omega) dX8_freeze_21 (fun q ce E h' H1 locs1 hE => hE.elim) (fun v hh3 H locs hq hP hS => ?_)
          obtain ⟨rfl, rfl⟩ := hq
          replace hP : qP D N0 (qs h y (.inr (8, [.ref ms, .ref mb, .ref (ra 28), .int gr, .int 0, .int ca, .int mv, .ref od, .ref pt, .int ct, .int fau, .ref fi, .ref re, .int cs, .ref rc, .ref rs, .ref so, .ref ot, .ref cn, .ref la, .int ce, .ref ro, .int rn]))) H := hP
          obtain ⟨hv1, ehv1⟩ : ∃ z : qH, z = qs h y (.inr (8, [.ref ms, .ref mb, .ref (ra 28), .int gr, .int 0, .int ca, .int mv, .ref od, .ref pt, .int ct, .int fau, .ref fi, .ref re, .int cs, .ref rc, .ref rs, .ref so, .ref ot, .ref cn, .ref la, .int ce, .ref ro, .int rn])) := ⟨_, rfl⟩
          rw [← ehv1] at hP
          have khv1 : ∀ b o, b ≠ y → h b = some o → hv1 b = some o := by rw [ehv1]; exact fun b o nb hb => (qs_ne nb).trans hb
          replace hms := khv1 _ _ (fun q => by subst q; have := hms.symm.trans hY; first | cases this | simp at this) hms
          replace hmb := khv1 _ _ (fun q => by subst q; have := hmb.symm.trans hY; first | cases this | simp at this) hmb
          replace faw := khv1 _ _ (fun q => by have z9 := faw; rw [q] at z9; have := z9.symm.trans hY; first | cases this | simp at this) faw
          replace fkw := khv1 _ _ (fun q => by have z9 := fkw; rw [q] at z9; have := z9.symm.trans hY; first | cases this | simp at this) fkw
          replace fvw := khv1 _ _ (fun q => by have z9 := fvw; rw [q] at z9; have := z9.symm.trans hY; first | cases this | simp at this) fvw
          replace hY : hv1 y = some (.inr (8, [.ref ms, .ref mb, .ref (ra 28), .int gr, .int 0, .int ca, .int mv, .ref od, .ref pt, .int ct, .int fau, .ref fi, .ref re, .int cs, .ref rc, .ref rs, .ref so, .ref ot, .ref cn, .ref la, .int ce, .ref ro, .int rn])) := by rw [ehv1]; exact qs_self
          clear ehv1
          replace fr := fun b o hb n1 n2 => khv1 b o n1 (fr b o hb n1 n2)
          refine lv_if_eq (tgt := 52) hx hb dX8_freeze_24 (by decide) (fun c24 => ?_) (fun c24 => ?_)
          · replace c24 : 1 = 0 := (nI_eq (a := 1) (b := 0) (by omega) (by omega)).mp c24
            exfalso; omega
          · replace c24 : ¬ 1 = 0 := fun zq => c24 ((nI_eq (a := 1) (b := 0) (by omega) (by omega)).mpr zq)
            refine lv_aload_n hx hb dX8_freeze_27 rfl (lv_at hl 0 rfl) ?_
            refine lv_aload_n hx hb dX8_freeze_28 rfl (lv_at hl 0 rfl) ?_
            refine q_get C hP hY rfl inX8 1 (by decide) g1168 rfl dX8_freeze_29 ?_
            refine lv_iload_n hx hb dX8_freeze_32 rfl (lv_at hl 1 rfl) ?_
            refine q_aaldR C hP hmb rfl (by omega) (by omega) rfl dX8_freeze_33 ?_
            obtain ⟨nbb, rwbb, Fbb, Gbb, hRbb, hnbb, hLbb, hKbb⟩ := hrs (24 + bb) (by omega)
            have apbb := hRbb.apart hRw (hmd.two (i := (24 + bb)) (j := 28) (by omega) (by omega) (by omega))
            replace hRbb := hRbb.keep2 (fun b o hb ho => fr b o ho (hRbb.ney hY0 hb) (hb.elim (fun q => q ▸ apbb.1) (fun hb => hb.elim (fun q => q ▸ apbb.2.1) (fun q => q ▸ apbb.2.2))))
            have fabb := hRbb.2.2.2.1
            have fkbb := hRbb.2.2.2.2.1
            have fvbb := hRbb.2.2.2.2.2
            unfold qRb at fabb
            unfold qJr at fkbb fvbb
            refine q_get C hP fabb rfl inX7 2 (by decide) g1142 rfl dX8_freeze_34 ?_
            refine lv_if_lt (tgt := 44) hx hb dX8_freeze_37 (by decide) (fun c37 => ?_) (fun c37 => ?_)
            · refine lv_iconst (v := nI 0) hx hb dX8_freeze_44 (by decide) ?_
              refine lv_iconst (v := nI 2) hx hb dX8_freeze_45 (by decide) ?_
              refine q_callV (rest := []) C (c_X8_good0 l D cy N0 hv1 y ms mb (ra 28) od pt fi re rc rs so ot cn la ro gr 0 ca mv ct fau cs ce rn (nI 2) hY) kX8_good g1249 g1251 rfl gp41 g4 hP hS hY (by first | decide | omega) hl.1 rfl (by decide) (by first | decide | omega) dX8_freeze_46 (fun q ce E h' H1 locs1 hE => hE.elim) (fun v hh4 H locs hq hP hS => ?_)
              obtain ⟨rfl, rfl⟩ := hq
              replace hP : qP D N0 (qs hv1 y (.inr (8, [.ref ms, .ref mb, .ref (ra 28), .int gr, .int (nI 2), .int ca, .int mv, .ref od, .ref pt, .int ct, .int fau, .ref fi, .ref re, .int cs, .ref rc, .ref rs, .ref so, .ref ot, .ref cn, .ref la, .int ce, .ref ro, .int rn]))) H := hP
              obtain ⟨hv2, ehv2⟩ : ∃ z : qH, z = qs hv1 y (.inr (8, [.ref ms, .ref mb, .ref (ra 28), .int gr, .int (nI 2), .int ca, .int mv, .ref od, .ref pt, .int ct, .int fau, .ref fi, .ref re, .int cs, .ref rc, .ref rs, .ref so, .ref ot, .ref cn, .ref la, .int ce, .ref ro, .int rn])) := ⟨_, rfl⟩
              rw [← ehv2] at hP
              have khv2 : ∀ b o, b ≠ y → hv1 b = some o → hv2 b = some o := by rw [ehv2]; exact fun b o nb hb => (qs_ne nb).trans hb
              replace hms := khv2 _ _ (fun q => by subst q; have := hms.symm.trans hY; first | cases this | simp at this) hms
              replace hmb := khv2 _ _ (fun q => by subst q; have := hmb.symm.trans hY; first | cases this | simp at this) hmb
              replace faw := khv2 _ _ (fun q => by have z9 := faw; rw [q] at z9; have := z9.symm.trans hY; first | cases this | simp at this) faw
              replace fkw := khv2 _ _ (fun q => by have z9 := fkw; rw [q] at z9; have := z9.symm.trans hY; first | cases this | simp at this) fkw
              replace fvw := khv2 _ _ (fun q => by have z9 := fvw; rw [q] at z9; have := z9.symm.trans hY; first | cases this | simp at this) fvw
              replace fabb := khv2 _ _ (fun q => by have z9 := fabb; rw [q] at z9; have := z9.symm.trans hY; first | cases this | simp at this) fabb
              replace fkbb := khv2 _ _ (fun q => by have z9 := fkbb; rw [q] at z9; have := z9.symm.trans hY; first | cases this | simp at this) fkbb
              replace fvbb := khv2 _ _ (fun q => by have z9 := fvbb; rw [q] at z9; have := z9.symm.trans hY; first | cases this | simp at this) fvbb
              replace hY : hv2 y = some (.inr (8, [.ref ms, .ref mb, .ref (ra 28), .int gr, .int (nI 2), .int ca, .int mv, .ref od, .ref pt, .int ct, .int fau, .ref fi, .ref re, .int cs, .ref rc, .ref rs, .ref so, .ref ot, .ref cn, .ref la, .int ce, .ref ro, .int rn])) := by rw [ehv2]; exact qs_self
              clear ehv2
              replace fr := fun b o hb n1 n2 => khv2 b o n1 (fr b o hb n1 n2)
              refine lv_if_ne (tgt := 54) hx hb dX8_freeze_49 (by decide) (fun c49 => ?_) (fun c49 => ?_)
              · replace c49 : ¬ 0 = 0 := fun zq => c49 ((nI_eq (a := 0) (b := 0) (by omega) (by omega)).mpr zq)
                exfalso; omega
              · replace c49 : 0 = 0 := (nI_eq (a := 0) (b := 0) (by omega) (by omega)).mp c49
                refine lv_iconst (v := nI 0) hx hb dX8_freeze_52 (by decide) ?_
                have ex : xs_freeze S (nI bb) (nI j) = (2, S, 0) := by unfold xs_freeze; rw [if_neg (by simp [ebb, ebj]), ecb, if_pos c37]
                obtain ⟨m9, f9⟩ := hM.fin0 hY0 (h' := hv2) ⟨hRw.1, hRw.2.1, hRw.2.2.1, faw, fkw, fvw⟩ fr
                exact q_iret C hP hS ⟨by first | (rw [ex]; done) | (rw [ex]; rfl), by rw [ex]; exact hY, by first | exact m9 | (rw [ex]; exact m9), f9⟩ (by omega) dX8_freeze_53
            · refine lv_iconst (v := nI 1) hx hb dX8_freeze_40 (by decide) ?_
              refine lv_goto (tgt := 45) hx hb dX8_freeze_41 (by decide) ?_
              refine lv_iconst (v := nI 2) hx hb dX8_freeze_45 (by decide) ?_
              refine q_callV (rest := []) C (c_X8_good1 l D cy N0 hv1 y ms mb (ra 28) od pt fi re rc rs so ot cn la ro gr 0 ca mv ct fau cs ce rn (nI 2) hY) kX8_good g1249 g1251 rfl gp41 g4 hP hS hY (by first | decide | omega) hl.1 rfl (by decide) (by first | decide | omega) dX8_freeze_46 (fun q ce E h' H1 locs1 hE => hE.elim) (fun v hh5 H locs hq hP hS => ?_)
              obtain ⟨rfl, rfl⟩ := hq
              replace hP : qP D N0 (qs hv1 y (.inr (8, [.ref ms, .ref mb, .ref (ra 28), .int gr, .int 0, .int ca, .int mv, .ref od, .ref pt, .int ct, .int fau, .ref fi, .ref re, .int cs, .ref rc, .ref rs, .ref so, .ref ot, .ref cn, .ref la, .int ce, .ref ro, .int rn]))) H := hP
              obtain ⟨hv3, ehv3⟩ : ∃ z : qH, z = qs hv1 y (.inr (8, [.ref ms, .ref mb, .ref (ra 28), .int gr, .int 0, .int ca, .int mv, .ref od, .ref pt, .int ct, .int fau, .ref fi, .ref re, .int cs, .ref rc, .ref rs, .ref so, .ref ot, .ref cn, .ref la, .int ce, .ref ro, .int rn])) := ⟨_, rfl⟩
              rw [← ehv3] at hP
              have khv3 : ∀ b o, b ≠ y → hv1 b = some o → hv3 b = some o := by rw [ehv3]; exact fun b o nb hb => (qs_ne nb).trans hb
              replace hms := khv3 _ _ (fun q => by subst q; have := hms.symm.trans hY; first | cases this | simp at this) hms
              replace hmb := khv3 _ _ (fun q => by subst q; have := hmb.symm.trans hY; first | cases this | simp at this) hmb
              replace faw := khv3 _ _ (fun q => by have z9 := faw; rw [q] at z9; have := z9.symm.trans hY; first | cases this | simp at this) faw
              replace fkw := khv3 _ _ (fun q => by have z9 := fkw; rw [q] at z9; have := z9.symm.trans hY; first | cases this | simp at this) fkw
              replace fvw := khv3 _ _ (fun q => by have z9 := fvw; rw [q] at z9; have := z9.symm.trans hY; first | cases this | simp at this) fvw
              replace fabb := khv3 _ _ (fun q => by have z9 := fabb; rw [q] at z9; have := z9.symm.trans hY; first | cases this | simp at this) fabb
              replace fkbb := khv3 _ _ (fun q => by have z9 := fkbb; rw [q] at z9; have := z9.symm.trans hY; first | cases this | simp at this) fkbb
              replace fvbb := khv3 _ _ (fun q => by have z9 := fvbb; rw [q] at z9; have := z9.symm.trans hY; first | cases this | simp at this) fvbb
              replace hY : hv3 y = some (.inr (8, [.ref ms, .ref mb, .ref (ra 28), .int gr, .int 0, .int ca, .int mv, .ref od, .ref pt, .int ct, .int fau, .ref fi, .ref re, .int cs, .ref rc, .ref rs, .ref so, .ref ot, .ref cn, .ref la, .int ce, .ref ro, .int rn])) := by rw [ehv3]; exact qs_self
              clear ehv3
              replace fr := fun b o hb n1 n2 => khv3 b o n1 (fr b o hb n1 n2)
              refine lv_if_ne (tgt := 54) hx hb dX8_freeze_49 (by decide) (fun c49 => ?_) (fun c49 => ?_)
              · replace c49 : ¬ 1 = 0 := fun zq => c49 ((nI_eq (a := 1) (b := 0) (by omega) (by omega)).mpr zq)
                refine lv_aload_n hx hb dX8_freeze_54 rfl (lv_at hl 0 rfl) ?_
                refine q_get C hP hY rfl inX8 1 (by decide) g1168 rfl dX8_freeze_55 ?_
                refine lv_iload_n hx hb dX8_freeze_58 rfl (lv_at hl 1 rfl) ?_
                refine q_aaldR C hP hmb rfl (by omega) (by omega) rfl dX8_freeze_59 ?_
                refine lv_aload_n hx hb dX8_freeze_60 rfl (lv_at hl 0 rfl) ?_
                refine q_get C hP hY rfl inX8 0 (by decide) g1167 rfl dX8_freeze_61 ?_
                refine lv_iload_n hx hb dX8_freeze_64 rfl (lv_at hl 2 rfl) ?_
                refine q_aaldR C hP hms rfl (by omega) (by omega) rfl dX8_freeze_65 ?_
                obtain ⟨nj, rwj, Fj, Gj, hRj, hnj, hLj, hKj⟩ := hrs j (by omega)
                have apj := hRj.apart hRw (hmd.two (i := j) (j := 28) (by omega) (by omega) (by omega))
                replace hRj := hRj.keep2 (fun b o hb ho => fr b o ho (hRj.ney hY0 hb) (hb.elim (fun q => q ▸ apj.1) (fun hb => hb.elim (fun q => q ▸ apj.2.1) (fun q => q ▸ apj.2.2))))
                have faj := hRj.2.2.2.1
                have fkj := hRj.2.2.2.2.1
                have fvj := hRj.2.2.2.2.2
                unfold qRb at faj
                unfold qJr at fkj fvj
                have abj := qRw.apart (⟨hRbb.1, hRbb.2.1, hRbb.2.2.1, fabb, fkbb, fvbb⟩ : qRw cy hv3 (ra (24 + bb)) (rk (24 + bb)) (rv (24 + bb)) ((S (24 + bb)).1) (nI nbb) (nI (S (24 + bb)).2.2.1) (nI (S (24 + bb)).2.2.2) rwbb Fbb Gbb) (⟨hRj.1, hRj.2.1, hRj.2.2.1, faj, fkj, fvj⟩ : qRw cy hv3 (ra j) (rk j) (rv j) ((S j).1) (nI nj) (nI (S j).2.2.1) (nI (S j).2.2.2) rwj Fj Gj) (hmd.two (by omega) (by omega) (by omega))
                have awj : qOf (ra j) (rk j) (rv j) (ra 28) ∧ qOf (ra j) (rk j) (rv j) (rk 28) ∧ qOf (ra j) (rk j) (rv j) (rv 28) := ⟨⟨Ne.symm apj.1.1, Ne.symm apj.2.1.1, Ne.symm apj.2.2.1⟩, ⟨Ne.symm apj.1.2.1, Ne.symm apj.2.1.2.1, Ne.symm apj.2.2.2.1⟩, ⟨Ne.symm apj.1.2.2, Ne.symm apj.2.1.2.2, Ne.symm apj.2.2.2.2⟩⟩
                refine q_callS (rest := []) C (c_X8_copy l D cy N0 hv3 (ra (24 + bb)) (rk (24 + bb)) (rv (24 + bb)) (S (24 + bb)).1 (nI (S (24 + bb)).2.2.1) (nI (S (24 + bb)).2.2.2) rwbb nbb Fbb Gbb (ra j) (rk j) (rv j) (S j).1 (nI (S j).2.2.1) (nI (S j).2.2.2) rwj nj Fj Gj ⟨hRbb.1, hRbb.2.1, hRbb.2.2.1, fabb, fkbb, fvbb⟩ ⟨hRj.1, hRj.2.1, hRj.2.2.1, faj, fkj, fvj⟩ abj (by omega)) kX8_copy g1257 g1258 hP hS (by first | decide | omega) hl.1 rfl (by decide) (by first | decide | omega) dX8_freeze_66 (fun q ce E h' H1 locs1 hE => hE.elim) (fun v hh6 H locs hq hP hS => ?_)
                obtain ⟨rfl, rfl⟩ := hq
                replace fr := fun b o hb n1 n2 (n3 : qOf (ra j) (rk j) (rv j) b) => fr b o hb n1 n2
                obtain ⟨hv4, ehv4⟩ : ∃ z : qH, z = qRh cy hv3 (ra j) (rk j) (rv j) ((S (24 + bb)).1) (nI nbb) (nI (S (24 + bb)).2.2.1) (nI (S (24 + bb)).2.2.2) rwbb (qCp Fbb Fj nbb) (qCp Gbb Gj nbb) := ⟨_, rfl⟩
                rw [← ehv4] at hP
                have r9 : qRw cy hv4 (ra j) (rk j) (rv j) ((S (24 + bb)).1) (nI nbb) (nI (S (24 + bb)).2.2.1) (nI (S (24 + bb)).2.2.2) rwbb (qCp Fbb Fj nbb) (qCp Gbb Gj nbb) := by rw [ehv4]; exact qRw.new (cy := cy) (h := hv3) (kd := (S j).1) (n := (nI nj)) (sm := (nI (S j).2.2.1)) (dp := (nI (S j).2.2.2)) (rw := rwj) (f := Fj) (g := Gj) ⟨hRj.1, hRj.2.1, hRj.2.2.1, faj, fkj, fvj⟩
                have khv4 : ∀ b o, qOf (ra j) (rk j) (rv j) b → hv3 b = some o → hv4 b = some o := by rw [ehv4]; exact fun b o q hb => (qRh_o q.1 q.2.1 q.2.2).trans hb
                replace hY := khv4 _ _ ⟨fun q => by rw [q] at hY; have := faj.symm.trans hY; first | cases this | simp at this, fun q => by rw [q] at hY; have := fkj.symm.trans hY; first | cases this | simp at this, fun q => by rw [q] at hY; have := fvj.symm.trans hY; first | cases this | simp at this⟩ hY
                replace hms := khv4 _ _ ⟨fun q => by rw [q] at hms; have := faj.symm.trans hms; first | cases this | simp at this, fun q => by rw [q] at hms; have := fkj.symm.trans hms; first | cases this | simp at this, fun q => by rw [q] at hms; have := fvj.symm.trans hms; first | cases this | simp at this⟩ hms
                replace hmb := khv4 _ _ ⟨fun q => by rw [q] at hmb; have := faj.symm.trans hmb; first | cases this | simp at this, fun q => by rw [q] at hmb; have := fkj.symm.trans hmb; first | cases this | simp at this, fun q => by rw [q] at hmb; have := fvj.symm.trans hmb; first | cases this | simp at this⟩ hmb
                replace faw := khv4 _ _ awj.1 faw
                replace fkw := khv4 _ _ awj.2.1 fkw
                replace fvw := khv4 _ _ awj.2.2 fvw
                replace fabb := khv4 _ _ abj.1 fabb
                replace fkbb := khv4 _ _ abj.2.1 fkbb
                replace fvbb := khv4 _ _ abj.2.2 fvbb
                replace fr := fun b o hb n1 n2 n3 => khv4 b o n3 (fr b o hb n1 n2 n3)
                clear faj fkj fvj
                have faj := r9.2.2.2.1
                have fkj := r9.2.2.2.2.1
                have fvj := r9.2.2.2.2.2
                unfold qRb at faj
                unfold qJr at fkj fvj
                clear r9 ehv4
                obtain ⟨m9, f9⟩ := hM.fin hY0 (i := j) (by omega) (s := (S (24 + bb))) ⟨nbb, _, _, _, ⟨hRj.1, hRj.2.1, hRj.2.2.1, faj, fkj, fvj⟩, by omega, by rw [qLs_cp]; exact hLbb, by first | exact Or.inl rfl | exact xRo.mv (by omega) hKj | exact xRo.bl (by omega) hKbb⟩ ⟨hRw.1, hRw.2.1, hRw.2.2.1, faw, fkw, fvw⟩ fr
                have hM1 := m9
                have f8 := f9
                clear m9 f9 hM
                replace hY0 := hY
                replace fr : ∀ b o, hv4 b = some o → b ≠ y → qOf (ra 28) (rk 28) (rv 28) b → hv4 b = some o := fun b o hb _ _ => hb
                replace fr := fun b o hb n1 n2 (n3 : qOf (ra (24 + bb)) (rk (24 + bb)) (rv (24 + bb)) b) => fr b o hb n1 n2
                refine lv_aload_n hx hb dX8_freeze_69 rfl (lv_at hl 0 rfl) ?_
                refine q_get C hP hY rfl inX8 1 (by decide) g1168 rfl dX8_freeze_70 ?_
                refine lv_iload_n hx hb dX8_freeze_73 rfl (lv_at hl 1 rfl) ?_
                refine q_aaldR C hP hmb rfl (by omega) (by omega) rfl dX8_freeze_74 ?_
                refine lv_iconst (v := -1) hx hb dX8_freeze_75 (by decide) ?_
                refine q_put C hP hS fabb rfl inX7 tyX7 tyX7_ok nmX7 2 (by decide) g1142 rfl rfl rfl (Nat.le_of_ble_eq_true rfl) dX8_freeze_76 (fun H locs hP hS => ?_)
                replace hP : qP D N0 (qs hv4 (ra (24 + bb)) (.inr (7, [.ref (rk (24 + bb)), .ref (rv (24 + bb)), .int (-1), .int (nI nbb), .int (nI (S (24 + bb)).2.2.1), .int (nI (S (24 + bb)).2.2.2), .int rwbb]))) H := hP
                obtain ⟨hv5, ehv5⟩ : ∃ z : qH, z = qs hv4 (ra (24 + bb)) (.inr (7, [.ref (rk (24 + bb)), .ref (rv (24 + bb)), .int (-1), .int (nI nbb), .int (nI (S (24 + bb)).2.2.1), .int (nI (S (24 + bb)).2.2.2), .int rwbb])) := ⟨_, rfl⟩
                rw [← ehv5] at hP
                have khv5 : ∀ b o, b ≠ (ra (24 + bb)) → hv4 b = some o → hv5 b = some o := by rw [ehv5]; exact fun b o nb hb => (qs_ne nb).trans hb
                replace hY := khv5 _ _ (fun q => by have z9 := hY; rw [q] at z9; have := z9.symm.trans fabb; first | cases this | simp at this) hY
                replace hms := khv5 _ _ (fun q => by have z9 := hms; rw [q] at z9; have := z9.symm.trans fabb; first | cases this | simp at this) hms
                replace hmb := khv5 _ _ (fun q => by have z9 := hmb; rw [q] at z9; have := z9.symm.trans fabb; first | cases this | simp at this) hmb
                replace faw := khv5 _ _ (Ne.symm apbb.1.1) faw
                replace fkw := khv5 _ _ (Ne.symm apbb.1.2.1) fkw
                replace fvw := khv5 _ _ (Ne.symm apbb.1.2.2) fvw
                replace fkbb := khv5 _ _ (fun q => by have z9 := fkbb; rw [q] at z9; have := z9.symm.trans fabb; first | cases this | simp at this) fkbb
                replace fvbb := khv5 _ _ (fun q => by have z9 := fvbb; rw [q] at z9; have := z9.symm.trans fabb; first | cases this | simp at this) fvbb
                replace faj := khv5 _ _ (Ne.symm abj.1.1) faj
                replace fkj := khv5 _ _ (fun q => by have z9 := fkj; rw [q] at z9; have := z9.symm.trans fabb; first | cases this | simp at this) fkj
                replace fvj := khv5 _ _ (fun q => by have z9 := fvj; rw [q] at z9; have := z9.symm.trans fabb; first | cases this | simp at this) fvj
                replace fabb : hv5 (ra (24 + bb)) = some (.inr (7, [.ref (rk (24 + bb)), .ref (rv (24 + bb)), .int (-1), .int (nI nbb), .int (nI (S (24 + bb)).2.2.1), .int (nI (S (24 + bb)).2.2.2), .int rwbb])) := by rw [ehv5]; exact qs_self
                clear ehv5
                replace fr := fun b o hb n1 n2 n3 => khv5 b o n3.1 (fr b o hb n1 n2 n3)
                refine lv_aload_n hx hb dX8_freeze_79 rfl (lv_at hl 0 rfl) ?_
                refine q_get C hP hY rfl inX8 0 (by decide) g1167 rfl dX8_freeze_80 ?_
                refine lv_iload_n hx hb dX8_freeze_83 rfl (lv_at hl 2 rfl) ?_
                refine q_aaldR C hP hms rfl (by omega) (by omega) rfl dX8_freeze_84 ?_
                refine q_get C hP faj rfl inX7 3 (by decide) g1143 rfl dX8_freeze_85 ?_
                have ex : xs_freeze S (nI bb) (nI j) = (0, qU (qU S j (S (24 + bb))) (24 + bb) (-1, (S (24 + bb)).2.1.map (fun p => (p.1, (0 : Int64))), (S (24 + bb)).2.2), nI nbb) := by unfold xs_freeze; rw [if_neg (by simp [ebb, ebj]), ecb, ecj, if_neg c37, show (S (24 + bb)).2.1.length = nbb from by rw [hLbb, qLs_len]]
                obtain ⟨m9, f9⟩ := hM1.fin hY0 (i := (24 + bb)) (by omega) (s := (-1, (S (24 + bb)).2.1.map (fun p => (p.1, (0 : Int64))), (S (24 + bb)).2.2)) ⟨nbb, _, _, _, ⟨hRbb.1, hRbb.2.1, hRbb.2.2.1, fabb, fkbb, fvbb⟩, by omega, by rw [hLbb]; exact qLs_m1, by first | exact Or.inl rfl | exact xRo.mv (by omega) hKj | exact xRo.bl (by omega) hKbb⟩ ⟨hRw.1, hRw.2.1, hRw.2.2.1, faw, fkw, fvw⟩ fr
                exact q_iret C hP hS ⟨by rw [ex], by rw [ex]; exact hY, by rw [ex]; exact m9, f8.tr f9⟩ (by omega) dX8_freeze_88
              · replace c49 : 1 = 0 := (nI_eq (a := 1) (b := 0) (by omega) (by omega)).mp c49
                exfalso; omega
      · have ebj : bSl p1 = false := bSl_f sl9
        refine lv_if_eq (tgt := 19) hx hb dX8_freeze_12 (by decide) (fun c12 => ?_) (fun c12 => ?_)
        · replace c12 : 0 = 0 := (nI_eq (a := 0) (b := 0) (by omega) (by omega)).mp c12
          refine lv_iconst (v := nI 0) hx hb dX8_freeze_19 (by decide) ?_
          refine lv_iconst (v := nI 1) hx hb dX8_freeze_20 (by decide) ?_
          refine q_callV (rest := []) C (c_X8_good0 l D cy N0 h y ms mb (ra 28) od pt fi re rc rs so ot cn la ro gr cd ca mv ct fau cs ce rn (nI 1) hY) kX8_good g1249 g1251 rfl gp41 g4 hP hS hY (by first | decide | omega) hl.1 rfl (by decide) (by first | decide | omega) dX8_freeze_21 (fun q ce E h' H1 locs1 hE => hE.elim) (fun v hh7 H locs hq hP hS => ?_)
          obtain ⟨rfl, rfl⟩ := hq
          replace hP : qP D N0 (qs h y (.inr (8, [.ref ms, .ref mb, .ref (ra 28), .int gr, .int (nI 1), .int ca, .int mv, .ref od, .ref pt, .int ct, .int fau, .ref fi, .ref re, .int cs, .ref rc, .ref rs, .ref so, .ref ot, .ref cn, .ref la, .int ce, .ref ro, .int rn]))) H := hP
          obtain ⟨hv6, ehv6⟩ : ∃ z : qH, z = qs h y (.inr (8, [.ref ms, .ref mb, .ref (ra 28), .int gr, .int (nI 1), .int ca, .int mv, .ref od, .ref pt, .int ct, .int fau, .ref fi, .ref re, .int cs, .ref rc, .ref rs, .ref so, .ref ot, .ref cn, .ref la, .int ce, .ref ro, .int rn])) := ⟨_, rfl⟩
          rw [← ehv6] at hP
          have khv6 : ∀ b o, b ≠ y → h b = some o → hv6 b = some o := by rw [ehv6]; exact fun b o nb hb => (qs_ne nb).trans hb
          replace hms := khv6 _ _ (fun q => by subst q; have := hms.symm.trans hY; first | cases this | simp at this) hms
          replace hmb := khv6 _ _ (fun q => by subst q; have := hmb.symm.trans hY; first | cases this | simp at this) hmb
          replace faw := khv6 _ _ (fun q => by have z9 := faw; rw [q] at z9; have := z9.symm.trans hY; first | cases this | simp at this) faw
          replace fkw := khv6 _ _ (fun q => by have z9 := fkw; rw [q] at z9; have := z9.symm.trans hY; first | cases this | simp at this) fkw
          replace fvw := khv6 _ _ (fun q => by have z9 := fvw; rw [q] at z9; have := z9.symm.trans hY; first | cases this | simp at this) fvw
          replace hY : hv6 y = some (.inr (8, [.ref ms, .ref mb, .ref (ra 28), .int gr, .int (nI 1), .int ca, .int mv, .ref od, .ref pt, .int ct, .int fau, .ref fi, .ref re, .int cs, .ref rc, .ref rs, .ref so, .ref ot, .ref cn, .ref la, .int ce, .ref ro, .int rn])) := by rw [ehv6]; exact qs_self
          clear ehv6
          replace fr := fun b o hb n1 n2 => khv6 b o n1 (fr b o hb n1 n2)
          refine lv_if_eq (tgt := 52) hx hb dX8_freeze_24 (by decide) (fun c24 => ?_) (fun c24 => ?_)
          · replace c24 : 0 = 0 := (nI_eq (a := 0) (b := 0) (by omega) (by omega)).mp c24
            refine lv_iconst (v := nI 0) hx hb dX8_freeze_52 (by decide) ?_
            have ex : xs_freeze S (nI bb) p1 = (1, S, 0) := by unfold xs_freeze; rw [if_pos (by simp [ebb, ebj])]
            obtain ⟨m9, f9⟩ := hM.fin0 hY0 (h' := hv6) ⟨hRw.1, hRw.2.1, hRw.2.2.1, faw, fkw, fvw⟩ fr
            exact q_iret C hP hS ⟨by first | (rw [ex]; done) | (rw [ex]; rfl), by rw [ex]; exact hY, by first | exact m9 | (rw [ex]; exact m9), f9⟩ (by omega) dX8_freeze_53
          · replace c24 : ¬ 0 = 0 := fun zq => c24 ((nI_eq (a := 0) (b := 0) (by omega) (by omega)).mpr zq)
            exfalso; omega
        · replace c12 : ¬ 0 = 0 := fun zq => c12 ((nI_eq (a := 0) (b := 0) (by omega) (by omega)).mpr zq)
          exfalso; omega
  · have ebb : bB3 p0 = false := bB3_f sl9
    refine lv_if_eq (tgt := 19) hx hb dX8_freeze_5 (by decide) (fun c5 => ?_) (fun c5 => ?_)
    · replace c5 : 0 = 0 := (nI_eq (a := 0) (b := 0) (by omega) (by omega)).mp c5
      refine lv_iconst (v := nI 0) hx hb dX8_freeze_19 (by decide) ?_
      refine lv_iconst (v := nI 1) hx hb dX8_freeze_20 (by decide) ?_
      refine q_callV (rest := []) C (c_X8_good0 l D cy N0 h y ms mb (ra 28) od pt fi re rc rs so ot cn la ro gr cd ca mv ct fau cs ce rn (nI 1) hY) kX8_good g1249 g1251 rfl gp41 g4 hP hS hY (by first | decide | omega) hl.1 rfl (by decide) (by first | decide | omega) dX8_freeze_21 (fun q ce E h' H1 locs1 hE => hE.elim) (fun v hh8 H locs hq hP hS => ?_)
      obtain ⟨rfl, rfl⟩ := hq
      replace hP : qP D N0 (qs h y (.inr (8, [.ref ms, .ref mb, .ref (ra 28), .int gr, .int (nI 1), .int ca, .int mv, .ref od, .ref pt, .int ct, .int fau, .ref fi, .ref re, .int cs, .ref rc, .ref rs, .ref so, .ref ot, .ref cn, .ref la, .int ce, .ref ro, .int rn]))) H := hP
      obtain ⟨hv7, ehv7⟩ : ∃ z : qH, z = qs h y (.inr (8, [.ref ms, .ref mb, .ref (ra 28), .int gr, .int (nI 1), .int ca, .int mv, .ref od, .ref pt, .int ct, .int fau, .ref fi, .ref re, .int cs, .ref rc, .ref rs, .ref so, .ref ot, .ref cn, .ref la, .int ce, .ref ro, .int rn])) := ⟨_, rfl⟩
      rw [← ehv7] at hP
      have khv7 : ∀ b o, b ≠ y → h b = some o → hv7 b = some o := by rw [ehv7]; exact fun b o nb hb => (qs_ne nb).trans hb
      replace hms := khv7 _ _ (fun q => by subst q; have := hms.symm.trans hY; first | cases this | simp at this) hms
      replace hmb := khv7 _ _ (fun q => by subst q; have := hmb.symm.trans hY; first | cases this | simp at this) hmb
      replace faw := khv7 _ _ (fun q => by have z9 := faw; rw [q] at z9; have := z9.symm.trans hY; first | cases this | simp at this) faw
      replace fkw := khv7 _ _ (fun q => by have z9 := fkw; rw [q] at z9; have := z9.symm.trans hY; first | cases this | simp at this) fkw
      replace fvw := khv7 _ _ (fun q => by have z9 := fvw; rw [q] at z9; have := z9.symm.trans hY; first | cases this | simp at this) fvw
      replace hY : hv7 y = some (.inr (8, [.ref ms, .ref mb, .ref (ra 28), .int gr, .int (nI 1), .int ca, .int mv, .ref od, .ref pt, .int ct, .int fau, .ref fi, .ref re, .int cs, .ref rc, .ref rs, .ref so, .ref ot, .ref cn, .ref la, .int ce, .ref ro, .int rn])) := by rw [ehv7]; exact qs_self
      clear ehv7
      replace fr := fun b o hb n1 n2 => khv7 b o n1 (fr b o hb n1 n2)
      refine lv_if_eq (tgt := 52) hx hb dX8_freeze_24 (by decide) (fun c24 => ?_) (fun c24 => ?_)
      · replace c24 : 0 = 0 := (nI_eq (a := 0) (b := 0) (by omega) (by omega)).mp c24
        refine lv_iconst (v := nI 0) hx hb dX8_freeze_52 (by decide) ?_
        have ex : xs_freeze S p0 p1 = (1, S, 0) := by unfold xs_freeze; rw [if_pos (by simp [ebb])]
        obtain ⟨m9, f9⟩ := hM.fin0 hY0 (h' := hv7) ⟨hRw.1, hRw.2.1, hRw.2.2.1, faw, fkw, fvw⟩ fr
        exact q_iret C hP hS ⟨by first | (rw [ex]; done) | (rw [ex]; rfl), by rw [ex]; exact hY, by first | exact m9 | (rw [ex]; exact m9), f9⟩ (by omega) dX8_freeze_53
      · replace c24 : ¬ 0 = 0 := fun zq => c24 ((nI_eq (a := 0) (b := 0) (by omega) (by omega)).mpr zq)
        exfalso; omega
    · replace c5 : ¬ 0 = 0 := fun zq => c5 ((nI_eq (a := 0) (b := 0) (by omega) (by omega)).mpr zq)
      exfalso; omega
