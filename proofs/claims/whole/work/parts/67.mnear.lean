/-- bx is the best place so far -/
def qNb (P : Nat → Bool) (way j : Nat) (bx : Int32) : Prop := (bx = -1 ∧ ∀ q, q < j → P q = false) ∨ ∃ b : Nat, bx = nI b ∧ b < j ∧ P b = true ∧ (way < 2 → ∀ q, b < q → q < j → P q = false) ∧ (¬ way < 2 → ∀ q, q < b → P q = false)
theorem qNb.up {P : Nat → Bool} {way j : Nat} (hw : way < 2) (h : P j = true) : qNb P way (j + 1) (nI j) := Or.inr ⟨j, rfl, by omega, h, fun _ q h1 h2 => by omega, fun z => absurd hw z⟩
theorem qNb.dn {P : Nat → Bool} {way j : Nat} {bx : Int32} (hw : ¬ way < 2) (hj : j < 2 ^ 31) (h : P j = true) (g : qNb P way j bx) (hb : ¬ 0 ≤ bx) : qNb P way (j + 1) (nI j) := by
  refine Or.inr ⟨j, rfl, by omega, h, fun z => absurd z hw, fun _ q hq => ?_⟩
  rcases g with ⟨-, g⟩ | ⟨b, rfl, hbj, -⟩
  · exact g q hq
  · exact absurd (nI_pos' (by omega)) hb
theorem qNb.no {P : Nat → Bool} {way j : Nat} {bx : Int32} (h : P j = false) (g : qNb P way j bx) : qNb P way (j + 1) bx := by
  rcases g with ⟨e, g⟩ | ⟨b, e, hb, hp, g1, g2⟩
  · exact Or.inl ⟨e, fun q hq => if z : q = j then by rw [z]; exact h else g q (by omega)⟩
  · exact Or.inr ⟨b, e, by omega, hp, fun hw q h1 h2 => if z : q = j then by rw [z]; exact h else g1 hw q h1 (by omega), g2⟩
theorem qNb.keep {P : Nat → Bool} {way j : Nat} {bx : Int32} (hw : ¬ way < 2) (hb : 0 ≤ bx) (g : qNb P way j bx) : qNb P way (j + 1) bx := by
  rcases g with ⟨e, g⟩ | ⟨b, e, hb2, hp, g1, g2⟩
  · rw [e] at hb; exact absurd hb (by decide)
  · exact Or.inr ⟨b, e, by omega, hp, fun z => absurd z hw, g2⟩
theorem qFit_1 {k : Int64} {way : Nat} {a : Int64} {u v : Int64} : qFit k way (a, u) = qFit k way (a, v) := rfl
theorem qBest_none {k : Int64} {way : Nat} {L : qKV} (h : ∀ p ∈ L, qFit k way p = false) : qBest k way L = none := by
  unfold qBest
  rw [List.filter_eq_nil_iff.mpr (fun p hp => by rw [h p hp]; decide)]
  split <;> rfl
theorem qNb.best {kd : Int32} {f g : Nat → Int64} {k : Int64} {way n b : Nat} (hb : b < n) (hp : qFit k way (f b, 0) = true) (h1 : way < 2 → ∀ q, b < q → q < n → qFit k way (f q, 0) = false) (h2 : ¬ way < 2 → ∀ q, q < b → qFit k way (f q, 0) = false) : qBest k way (qLs kd f g n) = some (f b, xV kd (g b)) := by
  have eD : (qLs kd f g n).drop b = (f b, xV kd (g b)) :: (qLs kd f g n).drop (b + 1) := by
    rw [List.drop_eq_getElem_cons (by rw [qLs_len]; exact hb)]
    congr 1
    exact (List.getElem?_eq_some_iff.mp (qLs_get2 hb)).2
  conv => lhs; rw [← List.take_append_drop b (qLs kd f g n), eD]
  by_cases hw : way < 2
  · rw [qBest_up (p := (f b, xV kd (g b))) hw hp, qBest_none]
    · rfl
    · intro p hp
      obtain ⟨q, hq, rfl⟩ := List.mem_iff_getElem.mp hp
      rw [List.length_drop, qLs_len] at hq
      rw [List.getElem_drop]
      have e1 : (qLs kd f g n)[b + 1 + q]'(by rw [qLs_len]; omega) = (f (b + 1 + q), xV kd (g (b + 1 + q))) := (List.getElem?_eq_some_iff.mp (qLs_get2 (by omega))).2
      rw [e1]
      exact h1 hw (b + 1 + q) (by omega) (by omega)
  · rw [qBest_dn (p := (f b, xV kd (g b))) hw hp, qBest_none]
    · rfl
    · intro p hp
      obtain ⟨q, hq, rfl⟩ := List.mem_iff_getElem.mp hp
      rw [List.length_take, qLs_len] at hq
      rw [List.getElem_take]
      have e1 : (qLs kd f g n)[q]'(by rw [qLs_len]; omega) = (f q, xV kd (g q)) := (List.getElem?_eq_some_iff.mp (qLs_get2 (by omega))).2
      rw [e1]
      exact h2 hw q (by omega)
theorem qNb.nope {kd : Int32} {f g : Nat → Int64} {k : Int64} {way n : Nat} (h : ∀ q, q < n → qFit k way (f q, 0) = false) : qBest k way (qLs kd f g n) = none := qBest_none (fun p hp => by
  obtain ⟨q, hq, rfl⟩ := List.mem_map.mp hp
  exact h q (List.mem_range.mp hq))
def xs_near (S : Nat → qSlot) (p0 : Int32) (k : Int64) (p2 : Int32) : Int32 × Int64 := if bSl p0 = false ∨ bIn p2 3 = false then (1, 0) else if bHo (S p0.toNatClampNeg).1 8 = false then (2, 0) else if qBest k p2.toNatClampNeg (S p0.toNatClampNeg).2.1 = none then (3, 0) else (0, ((qBest k p2.toNatClampNeg (S p0.toNatClampNeg).2.1).getD (0, 0)).1)
theorem dX8_near_48 : decode cX8_near 48 = .ok (.aload_n 0, 1) := by decide +kernel
theorem dX8_near_49 : decode cX8_near 49 = .ok (.getfield 9, 3) := by decide +kernel
theorem dX8_near_52 : decode cX8_near 52 = .ok (.iload_n 1, 1) := by decide +kernel
theorem dX8_near_53 : decode cX8_near 53 = .ok (.aaload, 1) := by decide +kernel
theorem dX8_near_54 : decode cX8_near 54 = .ok (.astore 5, 2) := by decide +kernel
theorem dX8_near_56 : decode cX8_near 56 = .ok (.iconst (-1), 1) := by decide +kernel
theorem dX8_near_57 : decode cX8_near 57 = .ok (.istore 6, 2) := by decide +kernel
theorem dX8_near_59 : decode cX8_near 59 = .ok (.iconst 0, 1) := by decide +kernel
theorem dX8_near_60 : decode cX8_near 60 = .ok (.istore 7, 2) := by decide +kernel
theorem dX8_near_62 : decode cX8_near 62 = .ok (.iload 7, 2) := by decide +kernel
theorem dX8_near_64 : decode cX8_near 64 = .ok (.aload 5, 2) := by decide +kernel
theorem dX8_near_66 : decode cX8_near 66 = .ok (.getfield 78, 3) := by decide +kernel
theorem dX8_near_69 : decode cX8_near 69 = .ok (.if_icmp .ge 84, 3) := by decide +kernel
theorem dX8_near_72 : decode cX8_near 72 = .ok (.aload 5, 2) := by decide +kernel
theorem dX8_near_74 : decode cX8_near 74 = .ok (.getfield 90, 3) := by decide +kernel
theorem dX8_near_77 : decode cX8_near 77 = .ok (.iload 7, 2) := by decide +kernel
theorem dX8_near_79 : decode cX8_near 79 = .ok (.laload, 1) := by decide +kernel
theorem dX8_near_80 : decode cX8_near 80 = .ok (.lstore 8, 2) := by decide +kernel
theorem dX8_near_82 : decode cX8_near 82 = .ok (.iload 4, 2) := by decide +kernel
theorem dX8_near_84 : decode cX8_near 84 = .ok (.iconst 2, 1) := by decide +kernel
theorem dX8_near_85 : decode cX8_near 85 = .ok (.if_icmp .ge 27, 3) := by decide +kernel
theorem dX8_near_88 : decode cX8_near 88 = .ok (.lload 8, 2) := by decide +kernel
theorem dX8_near_90 : decode cX8_near 90 = .ok (.lload_n 2, 1) := by decide +kernel
theorem dX8_near_91 : decode cX8_near 91 = .ok (.lcmp, 1) := by decide +kernel
theorem dX8_near_92 : decode cX8_near 92 = .ok (.ifCond .lt 16, 3) := by decide +kernel
theorem dX8_near_95 : decode cX8_near 95 = .ok (.iload 4, 2) := by decide +kernel
theorem dX8_near_97 : decode cX8_near 97 = .ok (.iconst 1, 1) := by decide +kernel
theorem dX8_near_98 : decode cX8_near 98 = .ok (.if_icmp .ne 14, 3) := by decide +kernel
theorem dX8_near_101 : decode cX8_near 101 = .ok (.lload 8, 2) := by decide +kernel
theorem dX8_near_103 : decode cX8_near 103 = .ok (.lload_n 2, 1) := by decide +kernel
theorem dX8_near_104 : decode cX8_near 104 = .ok (.lcmp, 1) := by decide +kernel
theorem dX8_near_105 : decode cX8_near 105 = .ok (.ifCond .ne 7, 3) := by decide +kernel
theorem dX8_near_108 : decode cX8_near 108 = .ok (.iload 7, 2) := by decide +kernel
theorem dX8_near_110 : decode cX8_near 110 = .ok (.istore 6, 2) := by decide +kernel
theorem dX8_near_112 : decode cX8_near 112 = .ok (.iload 4, 2) := by decide +kernel
theorem dX8_near_114 : decode cX8_near 114 = .ok (.iconst 1, 1) := by decide +kernel
theorem dX8_near_115 : decode cX8_near 115 = .ok (.if_icmp .le 32, 3) := by decide +kernel
theorem dX8_near_118 : decode cX8_near 118 = .ok (.iload 6, 2) := by decide +kernel
theorem dX8_near_120 : decode cX8_near 120 = .ok (.ifCond .ge 27, 3) := by decide +kernel
theorem dX8_near_123 : decode cX8_near 123 = .ok (.lload 8, 2) := by decide +kernel
theorem dX8_near_125 : decode cX8_near 125 = .ok (.lload_n 2, 1) := by decide +kernel
theorem dX8_near_126 : decode cX8_near 126 = .ok (.lcmp, 1) := by decide +kernel
theorem dX8_near_127 : decode cX8_near 127 = .ok (.ifCond .gt 16, 3) := by decide +kernel
theorem dX8_near_130 : decode cX8_near 130 = .ok (.iload 4, 2) := by decide +kernel
theorem dX8_near_132 : decode cX8_near 132 = .ok (.iconst 2, 1) := by decide +kernel
theorem dX8_near_133 : decode cX8_near 133 = .ok (.if_icmp .ne 14, 3) := by decide +kernel
theorem dX8_near_136 : decode cX8_near 136 = .ok (.lload 8, 2) := by decide +kernel
theorem dX8_near_138 : decode cX8_near 138 = .ok (.lload_n 2, 1) := by decide +kernel
theorem dX8_near_139 : decode cX8_near 139 = .ok (.lcmp, 1) := by decide +kernel
theorem dX8_near_140 : decode cX8_near 140 = .ok (.ifCond .ne 7, 3) := by decide +kernel
theorem dX8_near_143 : decode cX8_near 143 = .ok (.iload 7, 2) := by decide +kernel
theorem dX8_near_145 : decode cX8_near 145 = .ok (.istore 6, 2) := by decide +kernel
theorem dX8_near_147 : decode cX8_near 147 = .ok (.iinc 7 1, 3) := by decide +kernel
theorem dX8_near_150 : decode cX8_near 150 = .ok (.goto (-88), 3) := by decide +kernel
theorem dX8_near_153 : decode cX8_near 153 = .ok (.aload_n 0, 1) := by decide +kernel
theorem dX8_near_154 : decode cX8_near 154 = .ok (.iload 6, 2) := by decide +kernel
theorem dX8_near_156 : decode cX8_near 156 = .ok (.ifCond .lt 7, 3) := by decide +kernel
theorem dX8_near_159 : decode cX8_near 159 = .ok (.iconst 1, 1) := by decide +kernel
theorem dX8_near_160 : decode cX8_near 160 = .ok (.goto 4, 3) := by decide +kernel
theorem dX8_near_163 : decode cX8_near 163 = .ok (.iconst 0, 1) := by decide +kernel
theorem dX8_near_164 : decode cX8_near 164 = .ok (.iconst 3, 1) := by decide +kernel
theorem dX8_near_165 : decode cX8_near 165 = .ok (.invokevirtual 100, 3) := by decide +kernel
theorem dX8_near_168 : decode cX8_near 168 = .ok (.ifCond .eq 14, 3) := by decide +kernel
theorem dX8_near_171 : decode cX8_near 171 = .ok (.aload 5, 2) := by decide +kernel
theorem dX8_near_173 : decode cX8_near 173 = .ok (.getfield 90, 3) := by decide +kernel
theorem dX8_near_176 : decode cX8_near 176 = .ok (.iload 6, 2) := by decide +kernel
theorem dX8_near_178 : decode cX8_near 178 = .ok (.laload, 1) := by decide +kernel
theorem dX8_near_179 : decode cX8_near 179 = .ok (.goto 4, 3) := by decide +kernel
theorem dX8_near_182 : decode cX8_near 182 = .ok (.lconst 0, 1) := by decide +kernel
theorem dX8_near_183 : decode cX8_near 183 = .ok (.lreturn, 1) := by decide +kernel
set_option maxRecDepth 100000 in
set_option maxHeartbeats 4000000 in
theorem c_X8_near (l : Launch) (D : va_G) (cy : Nat → ClassId) (N0 : Nat) (h : qH) (y ms mb mw od pt fi re rc rs so ot cn la ro : Nat) (gr cd ca mv ct fau cs ce rn : Int32) (ra rk rv : Nat → Nat) (S : Nat → qSlot) (p0 : Int32) (p1 : Int64) (p2 : Int32) (hY : h y = some (.inr (8, [.ref ms, .ref mb, .ref mw, .int gr, .int cd, .int ca, .int mv, .ref od, .ref pt, .int ct, .int fau, .ref fi, .ref re, .int cs, .ref rc, .ref rs, .ref so, .ref ot, .ref cn, .ref la, .int ce, .ref ro, .int rn]))) (hM : qMR cy h ms mb mw ra rk rv S) : qC l D cy N0 yX8_near cX8_near 10 (some .long) 2 60 0 0 [.ref y, .int p0, .long p1, .int p2] h (fun v h' => v = some (.long (xs_near S p0 p1 p2).2) ∧ h' y = some (.inr (8, [.ref ms, .ref mb, .ref mw, .int gr, .int (xs_near S p0 p1 p2).1, .int ca, .int mv, .ref od, .ref pt, .int ct, .int fau, .ref fi, .ref re, .int cs, .ref rc, .ref rs, .ref so, .ref ot, .ref cn, .ref la, .int ce, .ref ro, .int rn])) ∧ qMR cy h' ms mb mw ra rk rv (S) ∧ qFm h h' y ra rk rv) (fun E h' => False) := by
  refine q_ofW (by decide) (by exact Nat.le_of_ble_eq_true rfl) ?_
  intro p e s m below meth c ls C hP hl
  have hx := C.1
  have hb := C.2.1
  have hS : va_S (qA N0) s.heap s.heap [] := va_S.rf
  have hl : lv_has ls 10 [(0, .ref y), (1, .int p0), (2, .long p1), (4, .int p2)] := hl
  have hle : qle h h := qle_rf
  have hY0 := hY
  obtain ⟨hms, hmb, hmw, hmd, hrs, kdw, smw, dpw, rww, nw, fw, gw, hRw⟩ := id hM
  subst hmw
  have fr : ∀ b o, h b = some o → b ≠ y → qOf (ra 28) (rk 28) (rv 28) b → h b = some o := fun b o hb _ _ => hb
  have faw := hRw.2.2.2.1
  have fkw := hRw.2.2.2.2.1
  have fvw := hRw.2.2.2.2.2
  unfold qRb at faw
  unfold qJr at fkw fvw
  refine lv_aload_n hx hb dX8_near_0 rfl (lv_at hl 0 rfl) ?_
  refine lv_iload_n hx hb dX8_near_1 rfl (lv_at hl 1 rfl) ?_
  refine q_callS (rest := [.ref y]) C (c_X8_isSlot l D cy N0 h p0) kX8_isSlot g1246 g1247 hP hS (by first | decide | omega) hl.1 rfl (by simp [q_catrf, q_cati, q_catl, q_cata, q_catn]) (by first | decide | omega) dX8_near_2 (fun q ce E h' H1 locs1 hE => hE.elim) (fun v hh1 H locs hq hP hS => ?_)
  obtain ⟨rfl, ⟨rfl, sl9⟩ | ⟨rfl, sl9⟩⟩ := hq
  · obtain ⟨i, hi, rfl⟩ := sl9.of
    have ebi : bSl (nI i) = true := bSl_t sl9
    have eci : (nI i).toNatClampNeg = i := nI_clamp (by omega)
    refine lv_if_eq (tgt := 23) hx hb dX8_near_5 (by decide) (fun c5 => ?_) (fun c5 => ?_)
    · replace c5 : 1 = 0 := (nI_eq (a := 1) (b := 0) (by omega) (by omega)).mp c5
      exfalso; omega
    · replace c5 : ¬ 1 = 0 := fun zq => c5 ((nI_eq (a := 1) (b := 0) (by omega) (by omega)).mpr zq)
      refine lv_iload hx hb dX8_near_8 (lv_at hl 3 rfl) ?_
      refine lv_if_lt (tgt := 23) hx hb dX8_near_10 (by decide) (fun c10 => ?_) (fun c10 => ?_)
      · have ebk : bIn p2 3 = false := bIn_f (fun z => z.1 c10)
        refine lv_iconst (v := nI 0) hx hb dX8_near_23 (by decide) ?_
        refine lv_iconst (v := nI 1) hx hb dX8_near_24 (by decide) ?_
        refine q_callV (rest := []) C (c_X8_good0 l D cy N0 h y ms mb (ra 28) od pt fi re rc rs so ot cn la ro gr cd ca mv ct fau cs ce rn (nI 1) hY) kX8_good g1249 g1251 rfl gp41 g4 hP hS hY (by first | decide | omega) hl.1 rfl (by decide) (by first | decide | omega) dX8_near_25 (fun q ce E h' H1 locs1 hE => hE.elim) (fun v hh2 H locs hq hP hS => ?_)
        obtain ⟨rfl, rfl⟩ := hq
        replace hP : qP D N0 (qs h y (.inr (8, [.ref ms, .ref mb, .ref (ra 28), .int gr, .int (nI 1), .int ca, .int mv, .ref od, .ref pt, .int ct, .int fau, .ref fi, .ref re, .int cs, .ref rc, .ref rs, .ref so, .ref ot, .ref cn, .ref la, .int ce, .ref ro, .int rn]))) H := hP
        obtain ⟨hv1, ehv1⟩ : ∃ z : qH, z = qs h y (.inr (8, [.ref ms, .ref mb, .ref (ra 28), .int gr, .int (nI 1), .int ca, .int mv, .ref od, .ref pt, .int ct, .int fau, .ref fi, .ref re, .int cs, .ref rc, .ref rs, .ref so, .ref ot, .ref cn, .ref la, .int ce, .ref ro, .int rn])) := ⟨_, rfl⟩
        rw [← ehv1] at hP
        have khv1 : ∀ b o, b ≠ y → h b = some o → hv1 b = some o := by rw [ehv1]; exact fun b o nb hb => (qs_ne nb).trans hb
        replace hms := khv1 _ _ (fun q => by subst q; have := hms.symm.trans hY; first | cases this | simp at this) hms
        replace hmb := khv1 _ _ (fun q => by subst q; have := hmb.symm.trans hY; first | cases this | simp at this) hmb
        replace faw := khv1 _ _ (fun q => by have z9 := faw; rw [q] at z9; have := z9.symm.trans hY; first | cases this | simp at this) faw
        replace fkw := khv1 _ _ (fun q => by have z9 := fkw; rw [q] at z9; have := z9.symm.trans hY; first | cases this | simp at this) fkw
        replace fvw := khv1 _ _ (fun q => by have z9 := fvw; rw [q] at z9; have := z9.symm.trans hY; first | cases this | simp at this) fvw
        replace hY : hv1 y = some (.inr (8, [.ref ms, .ref mb, .ref (ra 28), .int gr, .int (nI 1), .int ca, .int mv, .ref od, .ref pt, .int ct, .int fau, .ref fi, .ref re, .int cs, .ref rc, .ref rs, .ref so, .ref ot, .ref cn, .ref la, .int ce, .ref ro, .int rn])) := by rw [ehv1]; exact qs_self
        clear ehv1
        replace fr := fun b o hb n1 n2 => khv1 b o n1 (fr b o hb n1 n2)
        refine lv_if_eq (tgt := 46) hx hb dX8_near_28 (by decide) (fun c28 => ?_) (fun c28 => ?_)
        · replace c28 : 0 = 0 := (nI_eq (a := 0) (b := 0) (by omega) (by omega)).mp c28
          refine lv_lconst (v := 0) hx hb dX8_near_46 (by decide) ?_
          have ex : xs_near S (nI i) p1 p2 = (1, 0) := by unfold xs_near; rw [if_pos (by simp [ebi, ebk])]
          obtain ⟨m9, f9⟩ := hM.fin0 hY0 (h' := hv1) ⟨hRw.1, hRw.2.1, hRw.2.2.1, faw, fkw, fvw⟩ fr
          exact q_lret C hP hS ⟨by first | (rw [ex]; done) | (rw [ex]; rfl), by rw [ex]; exact hY, by first | exact m9 | (rw [ex]; exact m9), f9⟩ (by omega) dX8_near_47
        · replace c28 : ¬ 0 = 0 := fun zq => c28 ((nI_eq (a := 0) (b := 0) (by omega) (by omega)).mpr zq)
          exfalso; omega
      · refine lv_iload hx hb dX8_near_13 (lv_at hl 3 rfl) ?_
        refine lv_iconst (v := 3) hx hb dX8_near_15 (by decide) ?_
        refine lv_icmp_gt (tgt := 23) hx hb dX8_near_16 (by decide) (fun c16 => ?_) (fun c16 => ?_)
        · have ebk : bIn p2 3 = false := bIn_f (fun z => q32_no c16 z.2)
          refine lv_iconst (v := nI 0) hx hb dX8_near_23 (by decide) ?_
          refine lv_iconst (v := nI 1) hx hb dX8_near_24 (by decide) ?_
          refine q_callV (rest := []) C (c_X8_good0 l D cy N0 h y ms mb (ra 28) od pt fi re rc rs so ot cn la ro gr cd ca mv ct fau cs ce rn (nI 1) hY) kX8_good g1249 g1251 rfl gp41 g4 hP hS hY (by first | decide | omega) hl.1 rfl (by decide) (by first | decide | omega) dX8_near_25 (fun q ce E h' H1 locs1 hE => hE.elim) (fun v hh3 H locs hq hP hS => ?_)
          obtain ⟨rfl, rfl⟩ := hq
          replace hP : qP D N0 (qs h y (.inr (8, [.ref ms, .ref mb, .ref (ra 28), .int gr, .int (nI 1), .int ca, .int mv, .ref od, .ref pt, .int ct, .int fau, .ref fi, .ref re, .int cs, .ref rc, .ref rs, .ref so, .ref ot, .ref cn, .ref la, .int ce, .ref ro, .int rn]))) H := hP
          obtain ⟨hv2, ehv2⟩ : ∃ z : qH, z = qs h y (.inr (8, [.ref ms, .ref mb, .ref (ra 28), .int gr, .int (nI 1), .int ca, .int mv, .ref od, .ref pt, .int ct, .int fau, .ref fi, .ref re, .int cs, .ref rc, .ref rs, .ref so, .ref ot, .ref cn, .ref la, .int ce, .ref ro, .int rn])) := ⟨_, rfl⟩
          rw [← ehv2] at hP
          have khv2 : ∀ b o, b ≠ y → h b = some o → hv2 b = some o := by rw [ehv2]; exact fun b o nb hb => (qs_ne nb).trans hb
          replace hms := khv2 _ _ (fun q => by subst q; have := hms.symm.trans hY; first | cases this | simp at this) hms
          replace hmb := khv2 _ _ (fun q => by subst q; have := hmb.symm.trans hY; first | cases this | simp at this) hmb
          replace faw := khv2 _ _ (fun q => by have z9 := faw; rw [q] at z9; have := z9.symm.trans hY; first | cases this | simp at this) faw
          replace fkw := khv2 _ _ (fun q => by have z9 := fkw; rw [q] at z9; have := z9.symm.trans hY; first | cases this | simp at this) fkw
          replace fvw := khv2 _ _ (fun q => by have z9 := fvw; rw [q] at z9; have := z9.symm.trans hY; first | cases this | simp at this) fvw
          replace hY : hv2 y = some (.inr (8, [.ref ms, .ref mb, .ref (ra 28), .int gr, .int (nI 1), .int ca, .int mv, .ref od, .ref pt, .int ct, .int fau, .ref fi, .ref re, .int cs, .ref rc, .ref rs, .ref so, .ref ot, .ref cn, .ref la, .int ce, .ref ro, .int rn])) := by rw [ehv2]; exact qs_self
          clear ehv2
          replace fr := fun b o hb n1 n2 => khv2 b o n1 (fr b o hb n1 n2)
          refine lv_if_eq (tgt := 46) hx hb dX8_near_28 (by decide) (fun c28 => ?_) (fun c28 => ?_)
          · replace c28 : 0 = 0 := (nI_eq (a := 0) (b := 0) (by omega) (by omega)).mp c28
            refine lv_lconst (v := 0) hx hb dX8_near_46 (by decide) ?_
            have ex : xs_near S (nI i) p1 p2 = (1, 0) := by unfold xs_near; rw [if_pos (by simp [ebi, ebk])]
            obtain ⟨m9, f9⟩ := hM.fin0 hY0 (h' := hv2) ⟨hRw.1, hRw.2.1, hRw.2.2.1, faw, fkw, fvw⟩ fr
            exact q_lret C hP hS ⟨by first | (rw [ex]; done) | (rw [ex]; rfl), by rw [ex]; exact hY, by first | exact m9 | (rw [ex]; exact m9), f9⟩ (by omega) dX8_near_47
          · replace c28 : ¬ 0 = 0 := fun zq => c28 ((nI_eq (a := 0) (b := 0) (by omega) (by omega)).mpr zq)
            exfalso; omega
        · have ebk : bIn p2 3 = true := bIn_t ⟨c10, q32_not c16⟩
          obtain ⟨wq, hwq, rfl⟩ := nI_of2 (M := 3) (n := 3) (by decide) c10 (q32_not c16)
          have ecw : (nI wq).toNatClampNeg = wq := nI_clamp (by omega)
          rcases (show wq = 0 ∨ wq = 1 ∨ wq = 2 ∨ wq = 3 by omega) with rfl | rfl | rfl | rfl
          · refine lv_iconst (v := nI 1) hx hb dX8_near_19 (by decide) ?_
            refine lv_goto (tgt := 24) hx hb dX8_near_20 (by decide) ?_
            refine lv_iconst (v := nI 1) hx hb dX8_near_24 (by decide) ?_
            refine q_callV (rest := []) C (c_X8_good1 l D cy N0 h y ms mb (ra 28) od pt fi re rc rs so ot cn la ro gr cd ca mv ct fau cs ce rn (nI 1) hY) kX8_good g1249 g1251 rfl gp41 g4 hP hS hY (by first | decide | omega) hl.1 rfl (by decide) (by first | decide | omega) dX8_near_25 (fun q ce E h' H1 locs1 hE => hE.elim) (fun v hh4 H locs hq hP hS => ?_)
            obtain ⟨rfl, rfl⟩ := hq
            replace hP : qP D N0 (qs h y (.inr (8, [.ref ms, .ref mb, .ref (ra 28), .int gr, .int 0, .int ca, .int mv, .ref od, .ref pt, .int ct, .int fau, .ref fi, .ref re, .int cs, .ref rc, .ref rs, .ref so, .ref ot, .ref cn, .ref la, .int ce, .ref ro, .int rn]))) H := hP
            obtain ⟨hv3, ehv3⟩ : ∃ z : qH, z = qs h y (.inr (8, [.ref ms, .ref mb, .ref (ra 28), .int gr, .int 0, .int ca, .int mv, .ref od, .ref pt, .int ct, .int fau, .ref fi, .ref re, .int cs, .ref rc, .ref rs, .ref so, .ref ot, .ref cn, .ref la, .int ce, .ref ro, .int rn])) := ⟨_, rfl⟩
            rw [← ehv3] at hP
            have khv3 : ∀ b o, b ≠ y → h b = some o → hv3 b = some o := by rw [ehv3]; exact fun b o nb hb => (qs_ne nb).trans hb
            replace hms := khv3 _ _ (fun q => by subst q; have := hms.symm.trans hY; first | cases this | simp at this) hms
            replace hmb := khv3 _ _ (fun q => by subst q; have := hmb.symm.trans hY; first | cases this | simp at this) hmb
            replace faw := khv3 _ _ (fun q => by have z9 := faw; rw [q] at z9; have := z9.symm.trans hY; first | cases this | simp at this) faw
            replace fkw := khv3 _ _ (fun q => by have z9 := fkw; rw [q] at z9; have := z9.symm.trans hY; first | cases this | simp at this) fkw
            replace fvw := khv3 _ _ (fun q => by have z9 := fvw; rw [q] at z9; have := z9.symm.trans hY; first | cases this | simp at this) fvw
            replace hY : hv3 y = some (.inr (8, [.ref ms, .ref mb, .ref (ra 28), .int gr, .int 0, .int ca, .int mv, .ref od, .ref pt, .int ct, .int fau, .ref fi, .ref re, .int cs, .ref rc, .ref rs, .ref so, .ref ot, .ref cn, .ref la, .int ce, .ref ro, .int rn])) := by rw [ehv3]; exact qs_self
            clear ehv3
            replace fr := fun b o hb n1 n2 => khv3 b o n1 (fr b o hb n1 n2)
            refine lv_if_eq (tgt := 46) hx hb dX8_near_28 (by decide) (fun c28 => ?_) (fun c28 => ?_)
            · replace c28 : 1 = 0 := (nI_eq (a := 1) (b := 0) (by omega) (by omega)).mp c28
              exfalso; omega
            · replace c28 : ¬ 1 = 0 := fun zq => c28 ((nI_eq (a := 1) (b := 0) (by omega) (by omega)).mpr zq)
              refine lv_aload_n hx hb dX8_near_31 rfl (lv_at hl 0 rfl) ?_
              refine lv_aload_n hx hb dX8_near_32 rfl (lv_at hl 0 rfl) ?_
              refine lv_iload_n hx hb dX8_near_33 rfl (lv_at hl 1 rfl) ?_
              refine lv_bipush (v := nI 8) hx hb dX8_near_34 (by decide) ?_
              obtain ⟨ni, rwi, Fi, Gi, hRi, hni, hLi, hKi⟩ := hrs i (by omega)
              have api := hRi.apart hRw (hmd.two (i := i) (j := 28) (by omega) (by omega) (by omega))
              replace hRi := hRi.keep2 (fun b o hb ho => fr b o ho (hRi.ney hY0 hb) (hb.elim (fun q => q ▸ api.1) (fun hb => hb.elim (fun q => q ▸ api.2.1) (fun q => q ▸ api.2.2))))
              have fai := hRi.2.2.2.1
              have fki := hRi.2.2.2.2.1
              have fvi := hRi.2.2.2.2.2
              unfold qRb at fai
              unfold qJr at fki fvi
              refine q_callV (rest := [.ref y]) C (c_X8_holds l D cy N0 hv3 y ms ra rk rv i 8 _ _ _ _ _ _ _ _ hY rfl hms ⟨hRi.1, hRi.2.1, hRi.2.2.1, fai, fki, fvi⟩ (by omega)) kX8_holds g1264 g1266 rfl gp42 g4 hP hS hY (by first | decide | omega) hl.1 rfl (by simp [q_catrf, q_cati, q_catl, q_cata, q_catn]) (by first | decide | omega) dX8_near_36 (fun q ce E h' H1 locs1 hE => hE.elim) (fun v hh5 H locs hq hP hS => ?_)
              obtain ⟨rfl, rfl⟩ := hq
              cases hoi : bHo (S i).1 8 with
              | false =>
                refine lv_iconst (v := nI 2) hx hb dX8_near_39 (by decide) ?_
                refine q_callV (rest := []) C (c_X8_good0 l D cy N0 hv3 y ms mb (ra 28) od pt fi re rc rs so ot cn la ro gr 0 ca mv ct fau cs ce rn (nI 2) hY) kX8_good g1249 g1251 rfl gp41 g4 hP hS hY (by first | decide | omega) hl.1 rfl (by decide) (by first | decide | omega) dX8_near_40 (fun q ce E h' H1 locs1 hE => hE.elim) (fun v hh6 H locs hq hP hS => ?_)
                obtain ⟨rfl, rfl⟩ := hq
                replace hP : qP D N0 (qs hv3 y (.inr (8, [.ref ms, .ref mb, .ref (ra 28), .int gr, .int (nI 2), .int ca, .int mv, .ref od, .ref pt, .int ct, .int fau, .ref fi, .ref re, .int cs, .ref rc, .ref rs, .ref so, .ref ot, .ref cn, .ref la, .int ce, .ref ro, .int rn]))) H := hP
                obtain ⟨hv4, ehv4⟩ : ∃ z : qH, z = qs hv3 y (.inr (8, [.ref ms, .ref mb, .ref (ra 28), .int gr, .int (nI 2), .int ca, .int mv, .ref od, .ref pt, .int ct, .int fau, .ref fi, .ref re, .int cs, .ref rc, .ref rs, .ref so, .ref ot, .ref cn, .ref la, .int ce, .ref ro, .int rn])) := ⟨_, rfl⟩
                rw [← ehv4] at hP
                have khv4 : ∀ b o, b ≠ y → hv3 b = some o → hv4 b = some o := by rw [ehv4]; exact fun b o nb hb => (qs_ne nb).trans hb
                replace hms := khv4 _ _ (fun q => by subst q; have := hms.symm.trans hY; first | cases this | simp at this) hms
                replace hmb := khv4 _ _ (fun q => by subst q; have := hmb.symm.trans hY; first | cases this | simp at this) hmb
                replace faw := khv4 _ _ (fun q => by have z9 := faw; rw [q] at z9; have := z9.symm.trans hY; first | cases this | simp at this) faw
                replace fkw := khv4 _ _ (fun q => by have z9 := fkw; rw [q] at z9; have := z9.symm.trans hY; first | cases this | simp at this) fkw
                replace fvw := khv4 _ _ (fun q => by have z9 := fvw; rw [q] at z9; have := z9.symm.trans hY; first | cases this | simp at this) fvw
                replace fai := khv4 _ _ (fun q => by have z9 := fai; rw [q] at z9; have := z9.symm.trans hY; first | cases this | simp at this) fai
                replace fki := khv4 _ _ (fun q => by have z9 := fki; rw [q] at z9; have := z9.symm.trans hY; first | cases this | simp at this) fki
                replace fvi := khv4 _ _ (fun q => by have z9 := fvi; rw [q] at z9; have := z9.symm.trans hY; first | cases this | simp at this) fvi
                replace hY : hv4 y = some (.inr (8, [.ref ms, .ref mb, .ref (ra 28), .int gr, .int (nI 2), .int ca, .int mv, .ref od, .ref pt, .int ct, .int fau, .ref fi, .ref re, .int cs, .ref rc, .ref rs, .ref so, .ref ot, .ref cn, .ref la, .int ce, .ref ro, .int rn])) := by rw [ehv4]; exact qs_self
                clear ehv4
                replace fr := fun b o hb n1 n2 => khv4 b o n1 (fr b o hb n1 n2)
                refine lv_if_ne (tgt := 48) hx hb dX8_near_43 (by decide) (fun c43 => ?_) (fun c43 => ?_)
                · replace c43 : ¬ 0 = 0 := fun zq => c43 ((nI_eq (a := 0) (b := 0) (by omega) (by omega)).mpr zq)
                  exfalso; omega
                · replace c43 : 0 = 0 := (nI_eq (a := 0) (b := 0) (by omega) (by omega)).mp c43
                  refine lv_lconst (v := 0) hx hb dX8_near_46 (by decide) ?_
                  have ex : xs_near S (nI i) p1 (nI 0) = (2, 0) := by unfold xs_near; rw [if_neg (by simp [ebi, ebk]), eci, if_pos (by simp [hoi])]
                  obtain ⟨m9, f9⟩ := hM.fin0 hY0 (h' := hv4) ⟨hRw.1, hRw.2.1, hRw.2.2.1, faw, fkw, fvw⟩ fr
                  exact q_lret C hP hS ⟨by first | (rw [ex]; done) | (rw [ex]; rfl), by rw [ex]; exact hY, by first | exact m9 | (rw [ex]; exact m9), f9⟩ (by omega) dX8_near_47
              | true =>
                refine lv_iconst (v := nI 2) hx hb dX8_near_39 (by decide) ?_
                refine q_callV (rest := []) C (c_X8_good1 l D cy N0 hv3 y ms mb (ra 28) od pt fi re rc rs so ot cn la ro gr 0 ca mv ct fau cs ce rn (nI 2) hY) kX8_good g1249 g1251 rfl gp41 g4 hP hS hY (by first | decide | omega) hl.1 rfl (by decide) (by first | decide | omega) dX8_near_40 (fun q ce E h' H1 locs1 hE => hE.elim) (fun v hh7 H locs hq hP hS => ?_)
                obtain ⟨rfl, rfl⟩ := hq
                replace hP : qP D N0 (qs hv3 y (.inr (8, [.ref ms, .ref mb, .ref (ra 28), .int gr, .int 0, .int ca, .int mv, .ref od, .ref pt, .int ct, .int fau, .ref fi, .ref re, .int cs, .ref rc, .ref rs, .ref so, .ref ot, .ref cn, .ref la, .int ce, .ref ro, .int rn]))) H := hP
                obtain ⟨hv5, ehv5⟩ : ∃ z : qH, z = qs hv3 y (.inr (8, [.ref ms, .ref mb, .ref (ra 28), .int gr, .int 0, .int ca, .int mv, .ref od, .ref pt, .int ct, .int fau, .ref fi, .ref re, .int cs, .ref rc, .ref rs, .ref so, .ref ot, .ref cn, .ref la, .int ce, .ref ro, .int rn])) := ⟨_, rfl⟩
                rw [← ehv5] at hP
                have khv5 : ∀ b o, b ≠ y → hv3 b = some o → hv5 b = some o := by rw [ehv5]; exact fun b o nb hb => (qs_ne nb).trans hb
                replace hms := khv5 _ _ (fun q => by subst q; have := hms.symm.trans hY; first | cases this | simp at this) hms
                replace hmb := khv5 _ _ (fun q => by subst q; have := hmb.symm.trans hY; first | cases this | simp at this) hmb
                replace faw := khv5 _ _ (fun q => by have z9 := faw; rw [q] at z9; have := z9.symm.trans hY; first | cases this | simp at this) faw
                replace fkw := khv5 _ _ (fun q => by have z9 := fkw; rw [q] at z9; have := z9.symm.trans hY; first | cases this | simp at this) fkw
                replace fvw := khv5 _ _ (fun q => by have z9 := fvw; rw [q] at z9; have := z9.symm.trans hY; first | cases this | simp at this) fvw
                replace fai := khv5 _ _ (fun q => by have z9 := fai; rw [q] at z9; have := z9.symm.trans hY; first | cases this | simp at this) fai
                replace fki := khv5 _ _ (fun q => by have z9 := fki; rw [q] at z9; have := z9.symm.trans hY; first | cases this | simp at this) fki
                replace fvi := khv5 _ _ (fun q => by have z9 := fvi; rw [q] at z9; have := z9.symm.trans hY; first | cases this | simp at this) fvi
                replace hY : hv5 y = some (.inr (8, [.ref ms, .ref mb, .ref (ra 28), .int gr, .int 0, .int ca, .int mv, .ref od, .ref pt, .int ct, .int fau, .ref fi, .ref re, .int cs, .ref rc, .ref rs, .ref so, .ref ot, .ref cn, .ref la, .int ce, .ref ro, .int rn])) := by rw [ehv5]; exact qs_self
                clear ehv5
                replace fr := fun b o hb n1 n2 => khv5 b o n1 (fr b o hb n1 n2)
                refine lv_if_ne (tgt := 48) hx hb dX8_near_43 (by decide) (fun c43 => ?_) (fun c43 => ?_)
                · replace c43 : ¬ 1 = 0 := fun zq => c43 ((nI_eq (a := 1) (b := 0) (by omega) (by omega)).mpr zq)
                  refine lv_aload_n hx hb dX8_near_48 rfl (lv_at hl 0 rfl) ?_
                  refine q_get C hP hY rfl inX8 0 (by decide) g1167 rfl dX8_near_49 ?_
                  refine lv_iload_n hx hb dX8_near_52 rfl (lv_at hl 1 rfl) ?_
                  refine q_aaldR C hP hms rfl (by omega) (by omega) rfl dX8_near_53 ?_
                  refine lv_astore (lv' := [(5, .ref (ra i)), (0, .ref y), (1, .int (nI i)), (2, .long p1), (4, .int (nI 0))]) hx hb dX8_near_54 hl (by decide) rfl (fun ls hl => ?_)
                  refine lv_iconst (v := -1) hx hb dX8_near_56 (by decide) ?_
                  refine lv_istore (lv' := [(6, .int (-1)), (5, .ref (ra i)), (0, .ref y), (1, .int (nI i)), (2, .long p1), (4, .int (nI 0))]) hx hb dX8_near_57 hl (by decide) rfl (fun ls hl => ?_)
                  refine lv_iconst (v := nI 0) hx hb dX8_near_59 (by decide) ?_
                  refine lv_istore (lv' := [(7, .int (nI 0)), (6, .int (-1)), (5, .ref (ra i)), (0, .ref y), (1, .int (nI i)), (2, .long p1), (4, .int (nI 0))]) hx hb dX8_near_60 hl (by decide) rfl (fun ls hl => ?_)
                  refine (?_ : ∀ (t : Nat) (H : Heap) (locs : List Loc) (ls : Array Slot) (bx : Int32) (jj : Nat), ni - jj < t → qNb (fun q => qFit p1 0 (Fi q, 0)) 0 jj bx → jj ≤ ni → lv_has ls 10 [(7, .int (nI jj)), (6, .int bx), (5, .ref (ra i)), (4, .int (nI 0)), (0, .ref y), (2, .long p1)] → qP D N0 hv5 H → va_S (qA N0) s.heap H locs → W p l e _ s m _ below meth c H locs 0 0 _ (F0 m 62 ls [])) _ H locs ls (-1) 0 (Nat.lt_succ_self _) (Or.inl ⟨rfl, fun q hq => absurd hq (Nat.not_lt_zero _)⟩) (Nat.zero_le _) (lv_sub hl [0, 1, 2, 6, 3, 5] rfl) hP hS
                  clear hl hP hS
                  intro t
                  induction t with
                  | zero => intro H locs ls bx jj ht; exact absurd ht (Nat.not_lt_zero _)
                  | succ t ihl =>
                    intro H locs ls bx jj ht hnb hjj hl hP hS
                    refine lv_iload hx hb dX8_near_62 (lv_at hl 0 rfl) ?_
                    refine lv_aload hx hb dX8_near_64 (lv_at hl 2 rfl) ?_
                    refine q_get C hP fai rfl inX7 3 (by decide) g1143 rfl dX8_near_66 ?_
                    refine lv_icmp_ge (tgt := 153) hx hb dX8_near_69 (by decide) (fun c69 => ?_) (fun c69 => ?_)
                    · replace c69 : ni ≤ jj := (nI_leI (a := ni) (b := jj) (by omega) (by omega)).mp c69
                      rcases hnb with ⟨rfl, hno⟩ | ⟨b9, rfl, hb9, hp9, hu9, hd9⟩
                      · have eij : jj = ni := by omega
                        subst eij
                        refine lv_aload_n hx hb dX8_near_153 rfl (lv_at hl 4 rfl) ?_
                        refine lv_iload hx hb dX8_near_154 (lv_at hl 1 rfl) ?_
                        refine lv_if_lt (tgt := 163) hx hb dX8_near_156 (by decide) (fun _ => ?_) (fun c => absurd (by decide) c)
                        refine lv_iconst (v := nI 0) hx hb dX8_near_163 (by decide) ?_
                        refine lv_iconst (v := nI 3) hx hb dX8_near_164 (by decide) ?_
                        refine q_callV (rest := []) C (c_X8_good0 l D cy N0 hv5 y ms mb (ra 28) od pt fi re rc rs so ot cn la ro gr 0 ca mv ct fau cs ce rn (nI 3) hY) kX8_good g1249 g1251 rfl gp41 g4 hP hS hY (by first | decide | omega) hl.1 rfl (by decide) (by first | decide | omega) dX8_near_165 (fun q ce E h' H1 locs1 hE => hE.elim) (fun v hh8 H locs hq hP hS => ?_)
                        obtain ⟨rfl, rfl⟩ := hq
                        replace hP : qP D N0 (qs hv5 y (.inr (8, [.ref ms, .ref mb, .ref (ra 28), .int gr, .int (nI 3), .int ca, .int mv, .ref od, .ref pt, .int ct, .int fau, .ref fi, .ref re, .int cs, .ref rc, .ref rs, .ref so, .ref ot, .ref cn, .ref la, .int ce, .ref ro, .int rn]))) H := hP
                        obtain ⟨hv6, ehv6⟩ : ∃ z : qH, z = qs hv5 y (.inr (8, [.ref ms, .ref mb, .ref (ra 28), .int gr, .int (nI 3), .int ca, .int mv, .ref od, .ref pt, .int ct, .int fau, .ref fi, .ref re, .int cs, .ref rc, .ref rs, .ref so, .ref ot, .ref cn, .ref la, .int ce, .ref ro, .int rn])) := ⟨_, rfl⟩
                        rw [← ehv6] at hP
                        have khv6 : ∀ b o, b ≠ y → hv5 b = some o → hv6 b = some o := by rw [ehv6]; exact fun b o nb hb => (qs_ne nb).trans hb
                        replace hms := khv6 _ _ (fun q => by subst q; have := hms.symm.trans hY; first | cases this | simp at this) hms
                        replace hmb := khv6 _ _ (fun q => by subst q; have := hmb.symm.trans hY; first | cases this | simp at this) hmb
                        replace faw := khv6 _ _ (fun q => by have z9 := faw; rw [q] at z9; have := z9.symm.trans hY; first | cases this | simp at this) faw
                        replace fkw := khv6 _ _ (fun q => by have z9 := fkw; rw [q] at z9; have := z9.symm.trans hY; first | cases this | simp at this) fkw
                        replace fvw := khv6 _ _ (fun q => by have z9 := fvw; rw [q] at z9; have := z9.symm.trans hY; first | cases this | simp at this) fvw
                        replace fai := khv6 _ _ (fun q => by have z9 := fai; rw [q] at z9; have := z9.symm.trans hY; first | cases this | simp at this) fai
                        replace fki := khv6 _ _ (fun q => by have z9 := fki; rw [q] at z9; have := z9.symm.trans hY; first | cases this | simp at this) fki
                        replace fvi := khv6 _ _ (fun q => by have z9 := fvi; rw [q] at z9; have := z9.symm.trans hY; first | cases this | simp at this) fvi
                        replace hY : hv6 y = some (.inr (8, [.ref ms, .ref mb, .ref (ra 28), .int gr, .int (nI 3), .int ca, .int mv, .ref od, .ref pt, .int ct, .int fau, .ref fi, .ref re, .int cs, .ref rc, .ref rs, .ref so, .ref ot, .ref cn, .ref la, .int ce, .ref ro, .int rn])) := by rw [ehv6]; exact qs_self
                        clear ehv6
                        replace fr := fun b o hb n1 n2 => khv6 b o n1 (fr b o hb n1 n2)
                        refine lv_if_eq (tgt := 182) hx hb dX8_near_168 (by decide) (fun c168 => ?_) (fun c168 => ?_)
                        · replace c168 : 0 = 0 := (nI_eq (a := 0) (b := 0) (by omega) (by omega)).mp c168
                          refine lv_lconst (v := 0) hx hb dX8_near_182 (by decide) ?_
                          have ex : xs_near S (nI i) p1 (nI 0) = (3, 0) := by unfold xs_near; rw [if_neg (by simp [ebi, ebk]), eci, if_neg (by simp [hoi]), ecw, hLi, qNb.nope hno]; rfl
                          obtain ⟨m9, f9⟩ := hM.fin0 hY0 (h' := hv6) ⟨hRw.1, hRw.2.1, hRw.2.2.1, faw, fkw, fvw⟩ fr
                          exact q_lret C hP hS ⟨by first | (rw [ex]; done) | (rw [ex]; rfl), by rw [ex]; exact hY, by first | exact m9 | (rw [ex]; exact m9), f9⟩ (by omega) dX8_near_183
                        · replace c168 : ¬ 0 = 0 := fun zq => c168 ((nI_eq (a := 0) (b := 0) (by omega) (by omega)).mpr zq)
                          exfalso; omega
                      · have eij : jj = ni := by omega
                        subst eij
                        refine lv_aload_n hx hb dX8_near_153 rfl (lv_at hl 4 rfl) ?_
                        refine lv_iload hx hb dX8_near_154 (lv_at hl 1 rfl) ?_
                        refine lv_if_lt (tgt := 163) hx hb dX8_near_156 (by decide) (fun c156 => ?_) (fun c156 => ?_)
                        · replace c156 : b9 < 0 := (nI_ltI (a := b9) (b := 0) (by omega) (by omega)).mp c156
                          exfalso; omega
                        · replace c156 : ¬ b9 < 0 := fun zq => c156 ((nI_ltI (a := b9) (b := 0) (by omega) (by omega)).mpr zq)
                          refine lv_iconst (v := nI 1) hx hb dX8_near_159 (by decide) ?_
                          refine lv_goto (tgt := 164) hx hb dX8_near_160 (by decide) ?_
                          refine lv_iconst (v := nI 3) hx hb dX8_near_164 (by decide) ?_
                          refine q_callV (rest := []) C (c_X8_good1 l D cy N0 hv5 y ms mb (ra 28) od pt fi re rc rs so ot cn la ro gr 0 ca mv ct fau cs ce rn (nI 3) hY) kX8_good g1249 g1251 rfl gp41 g4 hP hS hY (by first | decide | omega) hl.1 rfl (by decide) (by first | decide | omega) dX8_near_165 (fun q ce E h' H1 locs1 hE => hE.elim) (fun v hh9 H locs hq hP hS => ?_)
                          obtain ⟨rfl, rfl⟩ := hq
                          replace hP : qP D N0 (qs hv5 y (.inr (8, [.ref ms, .ref mb, .ref (ra 28), .int gr, .int 0, .int ca, .int mv, .ref od, .ref pt, .int ct, .int fau, .ref fi, .ref re, .int cs, .ref rc, .ref rs, .ref so, .ref ot, .ref cn, .ref la, .int ce, .ref ro, .int rn]))) H := hP
                          obtain ⟨hv7, ehv7⟩ : ∃ z : qH, z = qs hv5 y (.inr (8, [.ref ms, .ref mb, .ref (ra 28), .int gr, .int 0, .int ca, .int mv, .ref od, .ref pt, .int ct, .int fau, .ref fi, .ref re, .int cs, .ref rc, .ref rs, .ref so, .ref ot, .ref cn, .ref la, .int ce, .ref ro, .int rn])) := ⟨_, rfl⟩
                          rw [← ehv7] at hP
                          have khv7 : ∀ b o, b ≠ y → hv5 b = some o → hv7 b = some o := by rw [ehv7]; exact fun b o nb hb => (qs_ne nb).trans hb
                          replace hms := khv7 _ _ (fun q => by subst q; have := hms.symm.trans hY; first | cases this | simp at this) hms
                          replace hmb := khv7 _ _ (fun q => by subst q; have := hmb.symm.trans hY; first | cases this | simp at this) hmb
                          replace faw := khv7 _ _ (fun q => by have z9 := faw; rw [q] at z9; have := z9.symm.trans hY; first | cases this | simp at this) faw
                          replace fkw := khv7 _ _ (fun q => by have z9 := fkw; rw [q] at z9; have := z9.symm.trans hY; first | cases this | simp at this) fkw
                          replace fvw := khv7 _ _ (fun q => by have z9 := fvw; rw [q] at z9; have := z9.symm.trans hY; first | cases this | simp at this) fvw
                          replace fai := khv7 _ _ (fun q => by have z9 := fai; rw [q] at z9; have := z9.symm.trans hY; first | cases this | simp at this) fai
                          replace fki := khv7 _ _ (fun q => by have z9 := fki; rw [q] at z9; have := z9.symm.trans hY; first | cases this | simp at this) fki
                          replace fvi := khv7 _ _ (fun q => by have z9 := fvi; rw [q] at z9; have := z9.symm.trans hY; first | cases this | simp at this) fvi
                          replace hY : hv7 y = some (.inr (8, [.ref ms, .ref mb, .ref (ra 28), .int gr, .int 0, .int ca, .int mv, .ref od, .ref pt, .int ct, .int fau, .ref fi, .ref re, .int cs, .ref rc, .ref rs, .ref so, .ref ot, .ref cn, .ref la, .int ce, .ref ro, .int rn])) := by rw [ehv7]; exact qs_self
                          clear ehv7
                          replace fr := fun b o hb n1 n2 => khv7 b o n1 (fr b o hb n1 n2)
                          refine lv_if_eq (tgt := 182) hx hb dX8_near_168 (by decide) (fun c168 => ?_) (fun c168 => ?_)
                          · replace c168 : 1 = 0 := (nI_eq (a := 1) (b := 0) (by omega) (by omega)).mp c168
                            exfalso; omega
                          · replace c168 : ¬ 1 = 0 := fun zq => c168 ((nI_eq (a := 1) (b := 0) (by omega) (by omega)).mpr zq)
                            refine lv_aload hx hb dX8_near_171 (lv_at hl 2 rfl) ?_
                            refine q_get C hP fai rfl inX7 0 (by decide) g1138 rfl dX8_near_173 ?_
                            refine lv_iload hx hb dX8_near_176 (lv_at hl 1 rfl) ?_
                            refine q_laldN C hP fki (by omega) (by omega) dX8_near_178 ?_
                            refine lv_goto (tgt := 183) hx hb dX8_near_179 (by decide) ?_
                            have ex : xs_near S (nI i) p1 (nI 0) = (0, Fi b9) := by unfold xs_near; rw [if_neg (by simp [ebi, ebk]), eci, if_neg (by simp [hoi]), ecw, hLi, qNb.best hb9 hp9 hu9 hd9]; rfl
                            obtain ⟨m9, f9⟩ := hM.fin0 hY0 (h' := hv7) ⟨hRw.1, hRw.2.1, hRw.2.2.1, faw, fkw, fvw⟩ fr
                            exact q_lret C hP hS ⟨by first | (rw [ex]; done) | (rw [ex]; rfl), by rw [ex]; exact hY, by first | exact m9 | (rw [ex]; exact m9), f9⟩ (by omega) dX8_near_183
                    · replace c69 : ¬ ni ≤ jj := fun zq => c69 ((nI_leI (a := ni) (b := jj) (by omega) (by omega)).mpr zq)
                      refine lv_aload hx hb dX8_near_72 (lv_at hl 2 rfl) ?_
                      refine q_get C hP fai rfl inX7 0 (by decide) g1138 rfl dX8_near_74 ?_
                      refine lv_iload hx hb dX8_near_77 (lv_at hl 0 rfl) ?_
                      refine q_laldN C hP fki (by omega) (by omega) dX8_near_79 ?_
                      refine lv_lstore (lv' := [(8, .long (Fi jj)), (7, .int (nI jj)), (6, .int bx), (5, .ref (ra i)), (4, .int (nI 0)), (0, .ref y), (2, .long p1)]) hx hb dX8_near_80 hl (by decide) rfl (fun ls hl => ?_)
                      refine lv_iload hx hb dX8_near_82 (lv_at hl 4 rfl) ?_
                      refine lv_iconst (v := nI 2) hx hb dX8_near_84 (by decide) ?_
                      refine lv_icmp_ge (tgt := 112) hx hb dX8_near_85 (by decide) (fun c85 => ?_) (fun c85 => ?_)
                      · replace c85 : 2 ≤ 0 := (nI_leI (a := 2) (b := 0) (by omega) (by omega)).mp c85
                        exfalso; omega
                      · replace c85 : ¬ 2 ≤ 0 := fun zq => c85 ((nI_leI (a := 2) (b := 0) (by omega) (by omega)).mpr zq)
                        refine lv_lload hx hb dX8_near_88 (lv_at hl 0 rfl) ?_
                        refine lv_lload_n hx hb dX8_near_90 rfl (lv_at hl 6 rfl) ?_
                        refine W.lcmp hx hb dX8_near_91 ?_
                        refine lv_if_lt (tgt := 108) hx hb dX8_near_92 (by decide) (fun c92 => ?_) (fun c92 => ?_)
                        · replace c92 : (Fi jj).toInt < p1.toInt := Int64.lt_iff_toInt_lt.mp ((lg_cmp_lt _ _).mp c92)
                          refine lv_iload hx hb dX8_near_108 (lv_at hl 1 rfl) ?_
                          refine lv_istore (lv' := [(6, .int (nI jj)), (8, .long (Fi jj)), (7, .int (nI jj)), (5, .ref (ra i)), (4, .int (nI 0)), (0, .ref y), (2, .long p1)]) hx hb dX8_near_110 hl (by decide) rfl (fun ls hl => ?_)
                          refine lv_iload hx hb dX8_near_112 (lv_at hl 4 rfl) ?_
                          refine lv_iconst (v := nI 1) hx hb dX8_near_114 (by decide) ?_
                          refine lv_icmp_le (tgt := 147) hx hb dX8_near_115 (by decide) (fun c115 => ?_) (fun c115 => ?_)
                          · replace c115 : 0 ≤ 1 := (nI_leI (a := 0) (b := 1) (by omega) (by omega)).mp c115
                            refine lv_iinc (v := nI (jj + 1)) (lv' := [(7, .int (nI (jj + 1))), (6, .int (nI jj)), (8, .long (Fi jj)), (5, .ref (ra i)), (4, .int (nI 0)), (0, .ref y), (2, .long p1)]) hx hb dX8_near_147 hl (k := 2) rfl (nI_1 jj) (by decide) rfl (fun ls hl => ?_)
                            refine lv_goto (tgt := 62) hx hb dX8_near_150 (by decide) ?_
                            exact ihl H locs ls (nI jj) (jj + 1) (by omega) (qNb.up (by decide) (by unfold qFit; simp; omega)) (by omega) (lv_sub hl [0, 1, 3, 4, 5, 6] rfl) hP hS
                          · replace c115 : ¬ 0 ≤ 1 := fun zq => c115 ((nI_leI (a := 0) (b := 1) (by omega) (by omega)).mpr zq)
                            exfalso; omega
                        · replace c92 : ¬ (Fi jj).toInt < p1.toInt := fun zq => c92 ((lg_cmp_lt _ _).mpr (Int64.lt_iff_toInt_lt.mpr zq))
                          refine lv_iload hx hb dX8_near_95 (lv_at hl 4 rfl) ?_
                          refine lv_iconst (v := nI 1) hx hb dX8_near_97 (by decide) ?_
                          refine lv_icmp_ne (tgt := 112) hx hb dX8_near_98 (by decide) (fun c98 => ?_) (fun c98 => ?_)
                          · replace c98 : ¬ 0 = 1 := fun zq => c98 ((nI_eq (a := 0) (b := 1) (by omega) (by omega)).mpr zq)
                            refine lv_iload hx hb dX8_near_112 (lv_at hl 4 rfl) ?_
                            refine lv_iconst (v := nI 1) hx hb dX8_near_114 (by decide) ?_
                            refine lv_icmp_le (tgt := 147) hx hb dX8_near_115 (by decide) (fun c115 => ?_) (fun c115 => ?_)
                            · replace c115 : 0 ≤ 1 := (nI_leI (a := 0) (b := 1) (by omega) (by omega)).mp c115
                              refine lv_iinc (v := nI (jj + 1)) (lv' := [(7, .int (nI (jj + 1))), (8, .long (Fi jj)), (6, .int bx), (5, .ref (ra i)), (4, .int (nI 0)), (0, .ref y), (2, .long p1)]) hx hb dX8_near_147 hl (k := 1) rfl (nI_1 jj) (by decide) rfl (fun ls hl => ?_)
                              refine lv_goto (tgt := 62) hx hb dX8_near_150 (by decide) ?_
                              exact ihl H locs ls bx (jj + 1) (by omega) (qNb.no (by unfold qFit; simp; omega) hnb) (by omega) (lv_sub hl [0, 2, 3, 4, 5, 6] rfl) hP hS
                            · replace c115 : ¬ 0 ≤ 1 := fun zq => c115 ((nI_leI (a := 0) (b := 1) (by omega) (by omega)).mpr zq)
                              exfalso; omega
                          · replace c98 : 0 = 1 := (nI_eq (a := 0) (b := 1) (by omega) (by omega)).mp c98
                            exfalso; omega
                · replace c43 : 1 = 0 := (nI_eq (a := 1) (b := 0) (by omega) (by omega)).mp c43
                  exfalso; omega
          · refine lv_iconst (v := nI 1) hx hb dX8_near_19 (by decide) ?_
            refine lv_goto (tgt := 24) hx hb dX8_near_20 (by decide) ?_
            refine lv_iconst (v := nI 1) hx hb dX8_near_24 (by decide) ?_
            refine q_callV (rest := []) C (c_X8_good1 l D cy N0 h y ms mb (ra 28) od pt fi re rc rs so ot cn la ro gr cd ca mv ct fau cs ce rn (nI 1) hY) kX8_good g1249 g1251 rfl gp41 g4 hP hS hY (by first | decide | omega) hl.1 rfl (by decide) (by first | decide | omega) dX8_near_25 (fun q ce E h' H1 locs1 hE => hE.elim) (fun v hh10 H locs hq hP hS => ?_)
            obtain ⟨rfl, rfl⟩ := hq
            replace hP : qP D N0 (qs h y (.inr (8, [.ref ms, .ref mb, .ref (ra 28), .int gr, .int 0, .int ca, .int mv, .ref od, .ref pt, .int ct, .int fau, .ref fi, .ref re, .int cs, .ref rc, .ref rs, .ref so, .ref ot, .ref cn, .ref la, .int ce, .ref ro, .int rn]))) H := hP
            obtain ⟨hv8, ehv8⟩ : ∃ z : qH, z = qs h y (.inr (8, [.ref ms, .ref mb, .ref (ra 28), .int gr, .int 0, .int ca, .int mv, .ref od, .ref pt, .int ct, .int fau, .ref fi, .ref re, .int cs, .ref rc, .ref rs, .ref so, .ref ot, .ref cn, .ref la, .int ce, .ref ro, .int rn])) := ⟨_, rfl⟩
            rw [← ehv8] at hP
            have khv8 : ∀ b o, b ≠ y → h b = some o → hv8 b = some o := by rw [ehv8]; exact fun b o nb hb => (qs_ne nb).trans hb
            replace hms := khv8 _ _ (fun q => by subst q; have := hms.symm.trans hY; first | cases this | simp at this) hms
            replace hmb := khv8 _ _ (fun q => by subst q; have := hmb.symm.trans hY; first | cases this | simp at this) hmb
            replace faw := khv8 _ _ (fun q => by have z9 := faw; rw [q] at z9; have := z9.symm.trans hY; first | cases this | simp at this) faw
            replace fkw := khv8 _ _ (fun q => by have z9 := fkw; rw [q] at z9; have := z9.symm.trans hY; first | cases this | simp at this) fkw
            replace fvw := khv8 _ _ (fun q => by have z9 := fvw; rw [q] at z9; have := z9.symm.trans hY; first | cases this | simp at this) fvw
            replace hY : hv8 y = some (.inr (8, [.ref ms, .ref mb, .ref (ra 28), .int gr, .int 0, .int ca, .int mv, .ref od, .ref pt, .int ct, .int fau, .ref fi, .ref re, .int cs, .ref rc, .ref rs, .ref so, .ref ot, .ref cn, .ref la, .int ce, .ref ro, .int rn])) := by rw [ehv8]; exact qs_self
            clear ehv8
            replace fr := fun b o hb n1 n2 => khv8 b o n1 (fr b o hb n1 n2)
            refine lv_if_eq (tgt := 46) hx hb dX8_near_28 (by decide) (fun c28 => ?_) (fun c28 => ?_)
            · replace c28 : 1 = 0 := (nI_eq (a := 1) (b := 0) (by omega) (by omega)).mp c28
              exfalso; omega
            · replace c28 : ¬ 1 = 0 := fun zq => c28 ((nI_eq (a := 1) (b := 0) (by omega) (by omega)).mpr zq)
              refine lv_aload_n hx hb dX8_near_31 rfl (lv_at hl 0 rfl) ?_
              refine lv_aload_n hx hb dX8_near_32 rfl (lv_at hl 0 rfl) ?_
              refine lv_iload_n hx hb dX8_near_33 rfl (lv_at hl 1 rfl) ?_
              refine lv_bipush (v := nI 8) hx hb dX8_near_34 (by decide) ?_
              obtain ⟨ni, rwi, Fi, Gi, hRi, hni, hLi, hKi⟩ := hrs i (by omega)
              have api := hRi.apart hRw (hmd.two (i := i) (j := 28) (by omega) (by omega) (by omega))
              replace hRi := hRi.keep2 (fun b o hb ho => fr b o ho (hRi.ney hY0 hb) (hb.elim (fun q => q ▸ api.1) (fun hb => hb.elim (fun q => q ▸ api.2.1) (fun q => q ▸ api.2.2))))
              have fai := hRi.2.2.2.1
              have fki := hRi.2.2.2.2.1
              have fvi := hRi.2.2.2.2.2
              unfold qRb at fai
              unfold qJr at fki fvi
              refine q_callV (rest := [.ref y]) C (c_X8_holds l D cy N0 hv8 y ms ra rk rv i 8 _ _ _ _ _ _ _ _ hY rfl hms ⟨hRi.1, hRi.2.1, hRi.2.2.1, fai, fki, fvi⟩ (by omega)) kX8_holds g1264 g1266 rfl gp42 g4 hP hS hY (by first | decide | omega) hl.1 rfl (by simp [q_catrf, q_cati, q_catl, q_cata, q_catn]) (by first | decide | omega) dX8_near_36 (fun q ce E h' H1 locs1 hE => hE.elim) (fun v hh11 H locs hq hP hS => ?_)
              obtain ⟨rfl, rfl⟩ := hq
              cases hoi : bHo (S i).1 8 with
              | false =>
                refine lv_iconst (v := nI 2) hx hb dX8_near_39 (by decide) ?_
                refine q_callV (rest := []) C (c_X8_good0 l D cy N0 hv8 y ms mb (ra 28) od pt fi re rc rs so ot cn la ro gr 0 ca mv ct fau cs ce rn (nI 2) hY) kX8_good g1249 g1251 rfl gp41 g4 hP hS hY (by first | decide | omega) hl.1 rfl (by decide) (by first | decide | omega) dX8_near_40 (fun q ce E h' H1 locs1 hE => hE.elim) (fun v hh12 H locs hq hP hS => ?_)
                obtain ⟨rfl, rfl⟩ := hq
                replace hP : qP D N0 (qs hv8 y (.inr (8, [.ref ms, .ref mb, .ref (ra 28), .int gr, .int (nI 2), .int ca, .int mv, .ref od, .ref pt, .int ct, .int fau, .ref fi, .ref re, .int cs, .ref rc, .ref rs, .ref so, .ref ot, .ref cn, .ref la, .int ce, .ref ro, .int rn]))) H := hP
                obtain ⟨hv9, ehv9⟩ : ∃ z : qH, z = qs hv8 y (.inr (8, [.ref ms, .ref mb, .ref (ra 28), .int gr, .int (nI 2), .int ca, .int mv, .ref od, .ref pt, .int ct, .int fau, .ref fi, .ref re, .int cs, .ref rc, .ref rs, .ref so, .ref ot, .ref cn, .ref la, .int ce, .ref ro, .int rn])) := ⟨_, rfl⟩
                rw [← ehv9] at hP
                have khv9 : ∀ b o, b ≠ y → hv8 b = some o → hv9 b = some o := by rw [ehv9]; exact fun b o nb hb => (qs_ne nb).trans hb
                replace hms := khv9 _ _ (fun q => by subst q; have := hms.symm.trans hY; first | cases this | simp at this) hms
                replace hmb := khv9 _ _ (fun q => by subst q; have := hmb.symm.trans hY; first | cases this | simp at this) hmb
                replace faw := khv9 _ _ (fun q => by have z9 := faw; rw [q] at z9; have := z9.symm.trans hY; first | cases this | simp at this) faw
                replace fkw := khv9 _ _ (fun q => by have z9 := fkw; rw [q] at z9; have := z9.symm.trans hY; first | cases this | simp at this) fkw
                replace fvw := khv9 _ _ (fun q => by have z9 := fvw; rw [q] at z9; have := z9.symm.trans hY; first | cases this | simp at this) fvw
                replace fai := khv9 _ _ (fun q => by have z9 := fai; rw [q] at z9; have := z9.symm.trans hY; first | cases this | simp at this) fai
                replace fki := khv9 _ _ (fun q => by have z9 := fki; rw [q] at z9; have := z9.symm.trans hY; first | cases this | simp at this) fki
                replace fvi := khv9 _ _ (fun q => by have z9 := fvi; rw [q] at z9; have := z9.symm.trans hY; first | cases this | simp at this) fvi
                replace hY : hv9 y = some (.inr (8, [.ref ms, .ref mb, .ref (ra 28), .int gr, .int (nI 2), .int ca, .int mv, .ref od, .ref pt, .int ct, .int fau, .ref fi, .ref re, .int cs, .ref rc, .ref rs, .ref so, .ref ot, .ref cn, .ref la, .int ce, .ref ro, .int rn])) := by rw [ehv9]; exact qs_self
                clear ehv9
                replace fr := fun b o hb n1 n2 => khv9 b o n1 (fr b o hb n1 n2)
                refine lv_if_ne (tgt := 48) hx hb dX8_near_43 (by decide) (fun c43 => ?_) (fun c43 => ?_)
                · replace c43 : ¬ 0 = 0 := fun zq => c43 ((nI_eq (a := 0) (b := 0) (by omega) (by omega)).mpr zq)
                  exfalso; omega
                · replace c43 : 0 = 0 := (nI_eq (a := 0) (b := 0) (by omega) (by omega)).mp c43
                  refine lv_lconst (v := 0) hx hb dX8_near_46 (by decide) ?_
                  have ex : xs_near S (nI i) p1 (nI 1) = (2, 0) := by unfold xs_near; rw [if_neg (by simp [ebi, ebk]), eci, if_pos (by simp [hoi])]
                  obtain ⟨m9, f9⟩ := hM.fin0 hY0 (h' := hv9) ⟨hRw.1, hRw.2.1, hRw.2.2.1, faw, fkw, fvw⟩ fr
                  exact q_lret C hP hS ⟨by first | (rw [ex]; done) | (rw [ex]; rfl), by rw [ex]; exact hY, by first | exact m9 | (rw [ex]; exact m9), f9⟩ (by omega) dX8_near_47
              | true =>
                refine lv_iconst (v := nI 2) hx hb dX8_near_39 (by decide) ?_
                refine q_callV (rest := []) C (c_X8_good1 l D cy N0 hv8 y ms mb (ra 28) od pt fi re rc rs so ot cn la ro gr 0 ca mv ct fau cs ce rn (nI 2) hY) kX8_good g1249 g1251 rfl gp41 g4 hP hS hY (by first | decide | omega) hl.1 rfl (by decide) (by first | decide | omega) dX8_near_40 (fun q ce E h' H1 locs1 hE => hE.elim) (fun v hh13 H locs hq hP hS => ?_)
                obtain ⟨rfl, rfl⟩ := hq
                replace hP : qP D N0 (qs hv8 y (.inr (8, [.ref ms, .ref mb, .ref (ra 28), .int gr, .int 0, .int ca, .int mv, .ref od, .ref pt, .int ct, .int fau, .ref fi, .ref re, .int cs, .ref rc, .ref rs, .ref so, .ref ot, .ref cn, .ref la, .int ce, .ref ro, .int rn]))) H := hP
                obtain ⟨hv10, ehv10⟩ : ∃ z : qH, z = qs hv8 y (.inr (8, [.ref ms, .ref mb, .ref (ra 28), .int gr, .int 0, .int ca, .int mv, .ref od, .ref pt, .int ct, .int fau, .ref fi, .ref re, .int cs, .ref rc, .ref rs, .ref so, .ref ot, .ref cn, .ref la, .int ce, .ref ro, .int rn])) := ⟨_, rfl⟩
                rw [← ehv10] at hP
                have khv10 : ∀ b o, b ≠ y → hv8 b = some o → hv10 b = some o := by rw [ehv10]; exact fun b o nb hb => (qs_ne nb).trans hb
                replace hms := khv10 _ _ (fun q => by subst q; have := hms.symm.trans hY; first | cases this | simp at this) hms
                replace hmb := khv10 _ _ (fun q => by subst q; have := hmb.symm.trans hY; first | cases this | simp at this) hmb
                replace faw := khv10 _ _ (fun q => by have z9 := faw; rw [q] at z9; have := z9.symm.trans hY; first | cases this | simp at this) faw
                replace fkw := khv10 _ _ (fun q => by have z9 := fkw; rw [q] at z9; have := z9.symm.trans hY; first | cases this | simp at this) fkw
                replace fvw := khv10 _ _ (fun q => by have z9 := fvw; rw [q] at z9; have := z9.symm.trans hY; first | cases this | simp at this) fvw
                replace fai := khv10 _ _ (fun q => by have z9 := fai; rw [q] at z9; have := z9.symm.trans hY; first | cases this | simp at this) fai
                replace fki := khv10 _ _ (fun q => by have z9 := fki; rw [q] at z9; have := z9.symm.trans hY; first | cases this | simp at this) fki
                replace fvi := khv10 _ _ (fun q => by have z9 := fvi; rw [q] at z9; have := z9.symm.trans hY; first | cases this | simp at this) fvi
                replace hY : hv10 y = some (.inr (8, [.ref ms, .ref mb, .ref (ra 28), .int gr, .int 0, .int ca, .int mv, .ref od, .ref pt, .int ct, .int fau, .ref fi, .ref re, .int cs, .ref rc, .ref rs, .ref so, .ref ot, .ref cn, .ref la, .int ce, .ref ro, .int rn])) := by rw [ehv10]; exact qs_self
                clear ehv10
                replace fr := fun b o hb n1 n2 => khv10 b o n1 (fr b o hb n1 n2)
                refine lv_if_ne (tgt := 48) hx hb dX8_near_43 (by decide) (fun c43 => ?_) (fun c43 => ?_)
                · replace c43 : ¬ 1 = 0 := fun zq => c43 ((nI_eq (a := 1) (b := 0) (by omega) (by omega)).mpr zq)
                  refine lv_aload_n hx hb dX8_near_48 rfl (lv_at hl 0 rfl) ?_
                  refine q_get C hP hY rfl inX8 0 (by decide) g1167 rfl dX8_near_49 ?_
                  refine lv_iload_n hx hb dX8_near_52 rfl (lv_at hl 1 rfl) ?_
                  refine q_aaldR C hP hms rfl (by omega) (by omega) rfl dX8_near_53 ?_
                  refine lv_astore (lv' := [(5, .ref (ra i)), (0, .ref y), (1, .int (nI i)), (2, .long p1), (4, .int (nI 1))]) hx hb dX8_near_54 hl (by decide) rfl (fun ls hl => ?_)
                  refine lv_iconst (v := -1) hx hb dX8_near_56 (by decide) ?_
                  refine lv_istore (lv' := [(6, .int (-1)), (5, .ref (ra i)), (0, .ref y), (1, .int (nI i)), (2, .long p1), (4, .int (nI 1))]) hx hb dX8_near_57 hl (by decide) rfl (fun ls hl => ?_)
                  refine lv_iconst (v := nI 0) hx hb dX8_near_59 (by decide) ?_
                  refine lv_istore (lv' := [(7, .int (nI 0)), (6, .int (-1)), (5, .ref (ra i)), (0, .ref y), (1, .int (nI i)), (2, .long p1), (4, .int (nI 1))]) hx hb dX8_near_60 hl (by decide) rfl (fun ls hl => ?_)
                  refine (?_ : ∀ (t : Nat) (H : Heap) (locs : List Loc) (ls : Array Slot) (bx : Int32) (jj : Nat), ni - jj < t → qNb (fun q => qFit p1 1 (Fi q, 0)) 1 jj bx → jj ≤ ni → lv_has ls 10 [(7, .int (nI jj)), (6, .int bx), (5, .ref (ra i)), (4, .int (nI 1)), (0, .ref y), (2, .long p1)] → qP D N0 hv10 H → va_S (qA N0) s.heap H locs → W p l e _ s m _ below meth c H locs 0 0 _ (F0 m 62 ls [])) _ H locs ls (-1) 0 (Nat.lt_succ_self _) (Or.inl ⟨rfl, fun q hq => absurd hq (Nat.not_lt_zero _)⟩) (Nat.zero_le _) (lv_sub hl [0, 1, 2, 6, 3, 5] rfl) hP hS
                  clear hl hP hS
                  intro t
                  induction t with
                  | zero => intro H locs ls bx jj ht; exact absurd ht (Nat.not_lt_zero _)
                  | succ t ihl =>
                    intro H locs ls bx jj ht hnb hjj hl hP hS
                    refine lv_iload hx hb dX8_near_62 (lv_at hl 0 rfl) ?_
                    refine lv_aload hx hb dX8_near_64 (lv_at hl 2 rfl) ?_
                    refine q_get C hP fai rfl inX7 3 (by decide) g1143 rfl dX8_near_66 ?_
                    refine lv_icmp_ge (tgt := 153) hx hb dX8_near_69 (by decide) (fun c69 => ?_) (fun c69 => ?_)
                    · replace c69 : ni ≤ jj := (nI_leI (a := ni) (b := jj) (by omega) (by omega)).mp c69
                      rcases hnb with ⟨rfl, hno⟩ | ⟨b9, rfl, hb9, hp9, hu9, hd9⟩
                      · have eij : jj = ni := by omega
                        subst eij
                        refine lv_aload_n hx hb dX8_near_153 rfl (lv_at hl 4 rfl) ?_
                        refine lv_iload hx hb dX8_near_154 (lv_at hl 1 rfl) ?_
                        refine lv_if_lt (tgt := 163) hx hb dX8_near_156 (by decide) (fun _ => ?_) (fun c => absurd (by decide) c)
                        refine lv_iconst (v := nI 0) hx hb dX8_near_163 (by decide) ?_
                        refine lv_iconst (v := nI 3) hx hb dX8_near_164 (by decide) ?_
                        refine q_callV (rest := []) C (c_X8_good0 l D cy N0 hv10 y ms mb (ra 28) od pt fi re rc rs so ot cn la ro gr 0 ca mv ct fau cs ce rn (nI 3) hY) kX8_good g1249 g1251 rfl gp41 g4 hP hS hY (by first | decide | omega) hl.1 rfl (by decide) (by first | decide | omega) dX8_near_165 (fun q ce E h' H1 locs1 hE => hE.elim) (fun v hh14 H locs hq hP hS => ?_)
                        obtain ⟨rfl, rfl⟩ := hq
                        replace hP : qP D N0 (qs hv10 y (.inr (8, [.ref ms, .ref mb, .ref (ra 28), .int gr, .int (nI 3), .int ca, .int mv, .ref od, .ref pt, .int ct, .int fau, .ref fi, .ref re, .int cs, .ref rc, .ref rs, .ref so, .ref ot, .ref cn, .ref la, .int ce, .ref ro, .int rn]))) H := hP
                        obtain ⟨hv11, ehv11⟩ : ∃ z : qH, z = qs hv10 y (.inr (8, [.ref ms, .ref mb, .ref (ra 28), .int gr, .int (nI 3), .int ca, .int mv, .ref od, .ref pt, .int ct, .int fau, .ref fi, .ref re, .int cs, .ref rc, .ref rs, .ref so, .ref ot, .ref cn, .ref la, .int ce, .ref ro, .int rn])) := ⟨_, rfl⟩
                        rw [← ehv11] at hP
                        have khv11 : ∀ b o, b ≠ y → hv10 b = some o → hv11 b = some o := by rw [ehv11]; exact fun b o nb hb => (qs_ne nb).trans hb
                        replace hms := khv11 _ _ (fun q => by subst q; have := hms.symm.trans hY; first | cases this | simp at this) hms
                        replace hmb := khv11 _ _ (fun q => by subst q; have := hmb.symm.trans hY; first | cases this | simp at this) hmb
                        replace faw := khv11 _ _ (fun q => by have z9 := faw; rw [q] at z9; have := z9.symm.trans hY; first | cases this | simp at this) faw
                        replace fkw := khv11 _ _ (fun q => by have z9 := fkw; rw [q] at z9; have := z9.symm.trans hY; first | cases this | simp at this) fkw
                        replace fvw := khv11 _ _ (fun q => by have z9 := fvw; rw [q] at z9; have := z9.symm.trans hY; first | cases this | simp at this) fvw
                        replace fai := khv11 _ _ (fun q => by have z9 := fai; rw [q] at z9; have := z9.symm.trans hY; first | cases this | simp at this) fai
                        replace fki := khv11 _ _ (fun q => by have z9 := fki; rw [q] at z9; have := z9.symm.trans hY; first | cases this | simp at this) fki
                        replace fvi := khv11 _ _ (fun q => by have z9 := fvi; rw [q] at z9; have := z9.symm.trans hY; first | cases this | simp at this) fvi
                        replace hY : hv11 y = some (.inr (8, [.ref ms, .ref mb, .ref (ra 28), .int gr, .int (nI 3), .int ca, .int mv, .ref od, .ref pt, .int ct, .int fau, .ref fi, .ref re, .int cs, .ref rc, .ref rs, .ref so, .ref ot, .ref cn, .ref la, .int ce, .ref ro, .int rn])) := by rw [ehv11]; exact qs_self
                        clear ehv11
                        replace fr := fun b o hb n1 n2 => khv11 b o n1 (fr b o hb n1 n2)
                        refine lv_if_eq (tgt := 182) hx hb dX8_near_168 (by decide) (fun c168 => ?_) (fun c168 => ?_)
                        · replace c168 : 0 = 0 := (nI_eq (a := 0) (b := 0) (by omega) (by omega)).mp c168
                          refine lv_lconst (v := 0) hx hb dX8_near_182 (by decide) ?_
                          have ex : xs_near S (nI i) p1 (nI 1) = (3, 0) := by unfold xs_near; rw [if_neg (by simp [ebi, ebk]), eci, if_neg (by simp [hoi]), ecw, hLi, qNb.nope hno]; rfl
                          obtain ⟨m9, f9⟩ := hM.fin0 hY0 (h' := hv11) ⟨hRw.1, hRw.2.1, hRw.2.2.1, faw, fkw, fvw⟩ fr
                          exact q_lret C hP hS ⟨by first | (rw [ex]; done) | (rw [ex]; rfl), by rw [ex]; exact hY, by first | exact m9 | (rw [ex]; exact m9), f9⟩ (by omega) dX8_near_183
                        · replace c168 : ¬ 0 = 0 := fun zq => c168 ((nI_eq (a := 0) (b := 0) (by omega) (by omega)).mpr zq)
                          exfalso; omega
                      · have eij : jj = ni := by omega
                        subst eij
                        refine lv_aload_n hx hb dX8_near_153 rfl (lv_at hl 4 rfl) ?_
                        refine lv_iload hx hb dX8_near_154 (lv_at hl 1 rfl) ?_
                        refine lv_if_lt (tgt := 163) hx hb dX8_near_156 (by decide) (fun c156 => ?_) (fun c156 => ?_)
                        · replace c156 : b9 < 0 := (nI_ltI (a := b9) (b := 0) (by omega) (by omega)).mp c156
                          exfalso; omega
                        · replace c156 : ¬ b9 < 0 := fun zq => c156 ((nI_ltI (a := b9) (b := 0) (by omega) (by omega)).mpr zq)
                          refine lv_iconst (v := nI 1) hx hb dX8_near_159 (by decide) ?_
                          refine lv_goto (tgt := 164) hx hb dX8_near_160 (by decide) ?_
                          refine lv_iconst (v := nI 3) hx hb dX8_near_164 (by decide) ?_
                          refine q_callV (rest := []) C (c_X8_good1 l D cy N0 hv10 y ms mb (ra 28) od pt fi re rc rs so ot cn la ro gr 0 ca mv ct fau cs ce rn (nI 3) hY) kX8_good g1249 g1251 rfl gp41 g4 hP hS hY (by first | decide | omega) hl.1 rfl (by decide) (by first | decide | omega) dX8_near_165 (fun q ce E h' H1 locs1 hE => hE.elim) (fun v hh15 H locs hq hP hS => ?_)
                          obtain ⟨rfl, rfl⟩ := hq
                          replace hP : qP D N0 (qs hv10 y (.inr (8, [.ref ms, .ref mb, .ref (ra 28), .int gr, .int 0, .int ca, .int mv, .ref od, .ref pt, .int ct, .int fau, .ref fi, .ref re, .int cs, .ref rc, .ref rs, .ref so, .ref ot, .ref cn, .ref la, .int ce, .ref ro, .int rn]))) H := hP
                          obtain ⟨hv12, ehv12⟩ : ∃ z : qH, z = qs hv10 y (.inr (8, [.ref ms, .ref mb, .ref (ra 28), .int gr, .int 0, .int ca, .int mv, .ref od, .ref pt, .int ct, .int fau, .ref fi, .ref re, .int cs, .ref rc, .ref rs, .ref so, .ref ot, .ref cn, .ref la, .int ce, .ref ro, .int rn])) := ⟨_, rfl⟩
                          rw [← ehv12] at hP
                          have khv12 : ∀ b o, b ≠ y → hv10 b = some o → hv12 b = some o := by rw [ehv12]; exact fun b o nb hb => (qs_ne nb).trans hb
                          replace hms := khv12 _ _ (fun q => by subst q; have := hms.symm.trans hY; first | cases this | simp at this) hms
                          replace hmb := khv12 _ _ (fun q => by subst q; have := hmb.symm.trans hY; first | cases this | simp at this) hmb
                          replace faw := khv12 _ _ (fun q => by have z9 := faw; rw [q] at z9; have := z9.symm.trans hY; first | cases this | simp at this) faw
                          replace fkw := khv12 _ _ (fun q => by have z9 := fkw; rw [q] at z9; have := z9.symm.trans hY; first | cases this | simp at this) fkw
                          replace fvw := khv12 _ _ (fun q => by have z9 := fvw; rw [q] at z9; have := z9.symm.trans hY; first | cases this | simp at this) fvw
                          replace fai := khv12 _ _ (fun q => by have z9 := fai; rw [q] at z9; have := z9.symm.trans hY; first | cases this | simp at this) fai
                          replace fki := khv12 _ _ (fun q => by have z9 := fki; rw [q] at z9; have := z9.symm.trans hY; first | cases this | simp at this) fki
                          replace fvi := khv12 _ _ (fun q => by have z9 := fvi; rw [q] at z9; have := z9.symm.trans hY; first | cases this | simp at this) fvi
                          replace hY : hv12 y = some (.inr (8, [.ref ms, .ref mb, .ref (ra 28), .int gr, .int 0, .int ca, .int mv, .ref od, .ref pt, .int ct, .int fau, .ref fi, .ref re, .int cs, .ref rc, .ref rs, .ref so, .ref ot, .ref cn, .ref la, .int ce, .ref ro, .int rn])) := by rw [ehv12]; exact qs_self
                          clear ehv12
                          replace fr := fun b o hb n1 n2 => khv12 b o n1 (fr b o hb n1 n2)
                          refine lv_if_eq (tgt := 182) hx hb dX8_near_168 (by decide) (fun c168 => ?_) (fun c168 => ?_)
                          · replace c168 : 1 = 0 := (nI_eq (a := 1) (b := 0) (by omega) (by omega)).mp c168
                            exfalso; omega
                          · replace c168 : ¬ 1 = 0 := fun zq => c168 ((nI_eq (a := 1) (b := 0) (by omega) (by omega)).mpr zq)
                            refine lv_aload hx hb dX8_near_171 (lv_at hl 2 rfl) ?_
                            refine q_get C hP fai rfl inX7 0 (by decide) g1138 rfl dX8_near_173 ?_
                            refine lv_iload hx hb dX8_near_176 (lv_at hl 1 rfl) ?_
                            refine q_laldN C hP fki (by omega) (by omega) dX8_near_178 ?_
                            refine lv_goto (tgt := 183) hx hb dX8_near_179 (by decide) ?_
                            have ex : xs_near S (nI i) p1 (nI 1) = (0, Fi b9) := by unfold xs_near; rw [if_neg (by simp [ebi, ebk]), eci, if_neg (by simp [hoi]), ecw, hLi, qNb.best hb9 hp9 hu9 hd9]; rfl
                            obtain ⟨m9, f9⟩ := hM.fin0 hY0 (h' := hv12) ⟨hRw.1, hRw.2.1, hRw.2.2.1, faw, fkw, fvw⟩ fr
                            exact q_lret C hP hS ⟨by first | (rw [ex]; done) | (rw [ex]; rfl), by rw [ex]; exact hY, by first | exact m9 | (rw [ex]; exact m9), f9⟩ (by omega) dX8_near_183
                    · replace c69 : ¬ ni ≤ jj := fun zq => c69 ((nI_leI (a := ni) (b := jj) (by omega) (by omega)).mpr zq)
                      refine lv_aload hx hb dX8_near_72 (lv_at hl 2 rfl) ?_
                      refine q_get C hP fai rfl inX7 0 (by decide) g1138 rfl dX8_near_74 ?_
                      refine lv_iload hx hb dX8_near_77 (lv_at hl 0 rfl) ?_
                      refine q_laldN C hP fki (by omega) (by omega) dX8_near_79 ?_
                      refine lv_lstore (lv' := [(8, .long (Fi jj)), (7, .int (nI jj)), (6, .int bx), (5, .ref (ra i)), (4, .int (nI 1)), (0, .ref y), (2, .long p1)]) hx hb dX8_near_80 hl (by decide) rfl (fun ls hl => ?_)
                      refine lv_iload hx hb dX8_near_82 (lv_at hl 4 rfl) ?_
                      refine lv_iconst (v := nI 2) hx hb dX8_near_84 (by decide) ?_
                      refine lv_icmp_ge (tgt := 112) hx hb dX8_near_85 (by decide) (fun c85 => ?_) (fun c85 => ?_)
                      · replace c85 : 2 ≤ 1 := (nI_leI (a := 2) (b := 1) (by omega) (by omega)).mp c85
                        exfalso; omega
                      · replace c85 : ¬ 2 ≤ 1 := fun zq => c85 ((nI_leI (a := 2) (b := 1) (by omega) (by omega)).mpr zq)
                        refine lv_lload hx hb dX8_near_88 (lv_at hl 0 rfl) ?_
                        refine lv_lload_n hx hb dX8_near_90 rfl (lv_at hl 6 rfl) ?_
                        refine W.lcmp hx hb dX8_near_91 ?_
                        refine lv_if_lt (tgt := 108) hx hb dX8_near_92 (by decide) (fun c92 => ?_) (fun c92 => ?_)
                        · replace c92 : (Fi jj).toInt < p1.toInt := Int64.lt_iff_toInt_lt.mp ((lg_cmp_lt _ _).mp c92)
                          refine lv_iload hx hb dX8_near_108 (lv_at hl 1 rfl) ?_
                          refine lv_istore (lv' := [(6, .int (nI jj)), (8, .long (Fi jj)), (7, .int (nI jj)), (5, .ref (ra i)), (4, .int (nI 1)), (0, .ref y), (2, .long p1)]) hx hb dX8_near_110 hl (by decide) rfl (fun ls hl => ?_)
                          refine lv_iload hx hb dX8_near_112 (lv_at hl 4 rfl) ?_
                          refine lv_iconst (v := nI 1) hx hb dX8_near_114 (by decide) ?_
                          refine lv_icmp_le (tgt := 147) hx hb dX8_near_115 (by decide) (fun c115 => ?_) (fun c115 => ?_)
                          · replace c115 : 1 ≤ 1 := (nI_leI (a := 1) (b := 1) (by omega) (by omega)).mp c115
                            refine lv_iinc (v := nI (jj + 1)) (lv' := [(7, .int (nI (jj + 1))), (6, .int (nI jj)), (8, .long (Fi jj)), (5, .ref (ra i)), (4, .int (nI 1)), (0, .ref y), (2, .long p1)]) hx hb dX8_near_147 hl (k := 2) rfl (nI_1 jj) (by decide) rfl (fun ls hl => ?_)
                            refine lv_goto (tgt := 62) hx hb dX8_near_150 (by decide) ?_
                            exact ihl H locs ls (nI jj) (jj + 1) (by omega) (qNb.up (by decide) (by unfold qFit; simp; omega)) (by omega) (lv_sub hl [0, 1, 3, 4, 5, 6] rfl) hP hS
                          · replace c115 : ¬ 1 ≤ 1 := fun zq => c115 ((nI_leI (a := 1) (b := 1) (by omega) (by omega)).mpr zq)
                            exfalso; omega
                        · replace c92 : ¬ (Fi jj).toInt < p1.toInt := fun zq => c92 ((lg_cmp_lt _ _).mpr (Int64.lt_iff_toInt_lt.mpr zq))
                          refine lv_iload hx hb dX8_near_95 (lv_at hl 4 rfl) ?_
                          refine lv_iconst (v := nI 1) hx hb dX8_near_97 (by decide) ?_
                          refine lv_icmp_ne (tgt := 112) hx hb dX8_near_98 (by decide) (fun c98 => ?_) (fun c98 => ?_)
                          · replace c98 : ¬ 1 = 1 := fun zq => c98 ((nI_eq (a := 1) (b := 1) (by omega) (by omega)).mpr zq)
                            exfalso; omega
                          · replace c98 : 1 = 1 := (nI_eq (a := 1) (b := 1) (by omega) (by omega)).mp c98
                            refine lv_lload hx hb dX8_near_101 (lv_at hl 0 rfl) ?_
                            refine lv_lload_n hx hb dX8_near_103 rfl (lv_at hl 6 rfl) ?_
                            refine W.lcmp hx hb dX8_near_104 ?_
                            refine lv_if_ne (tgt := 112) hx hb dX8_near_105 (by decide) (fun c105 => ?_) (fun c105 => ?_)
                            · replace c105 : ¬ (Fi jj).toInt = p1.toInt := fun zq => c105 ((lg_cmp_eq _ _).mpr (Int64.toInt_inj.symm.mpr zq))
                              refine lv_iload hx hb dX8_near_112 (lv_at hl 4 rfl) ?_
                              refine lv_iconst (v := nI 1) hx hb dX8_near_114 (by decide) ?_
                              refine lv_icmp_le (tgt := 147) hx hb dX8_near_115 (by decide) (fun c115 => ?_) (fun c115 => ?_)
                              · replace c115 : 1 ≤ 1 := (nI_leI (a := 1) (b := 1) (by omega) (by omega)).mp c115
                                refine lv_iinc (v := nI (jj + 1)) (lv' := [(7, .int (nI (jj + 1))), (8, .long (Fi jj)), (6, .int bx), (5, .ref (ra i)), (4, .int (nI 1)), (0, .ref y), (2, .long p1)]) hx hb dX8_near_147 hl (k := 1) rfl (nI_1 jj) (by decide) rfl (fun ls hl => ?_)
                                refine lv_goto (tgt := 62) hx hb dX8_near_150 (by decide) ?_
                                exact ihl H locs ls bx (jj + 1) (by omega) (qNb.no (by unfold qFit; simp; omega) hnb) (by omega) (lv_sub hl [0, 2, 3, 4, 5, 6] rfl) hP hS
                              · replace c115 : ¬ 1 ≤ 1 := fun zq => c115 ((nI_leI (a := 1) (b := 1) (by omega) (by omega)).mpr zq)
                                exfalso; omega
                            · replace c105 : (Fi jj).toInt = p1.toInt := Int64.toInt_inj.symm.mp ((lg_cmp_eq _ _).mp c105)
                              refine lv_iload hx hb dX8_near_108 (lv_at hl 1 rfl) ?_
                              refine lv_istore (lv' := [(6, .int (nI jj)), (8, .long (Fi jj)), (7, .int (nI jj)), (5, .ref (ra i)), (4, .int (nI 1)), (0, .ref y), (2, .long p1)]) hx hb dX8_near_110 hl (by decide) rfl (fun ls hl => ?_)
                              refine lv_iload hx hb dX8_near_112 (lv_at hl 4 rfl) ?_
                              refine lv_iconst (v := nI 1) hx hb dX8_near_114 (by decide) ?_
                              refine lv_icmp_le (tgt := 147) hx hb dX8_near_115 (by decide) (fun c115 => ?_) (fun c115 => ?_)
                              · replace c115 : 1 ≤ 1 := (nI_leI (a := 1) (b := 1) (by omega) (by omega)).mp c115
                                refine lv_iinc (v := nI (jj + 1)) (lv' := [(7, .int (nI (jj + 1))), (6, .int (nI jj)), (8, .long (Fi jj)), (5, .ref (ra i)), (4, .int (nI 1)), (0, .ref y), (2, .long p1)]) hx hb dX8_near_147 hl (k := 2) rfl (nI_1 jj) (by decide) rfl (fun ls hl => ?_)
                                refine lv_goto (tgt := 62) hx hb dX8_near_150 (by decide) ?_
                                exact ihl H locs ls (nI jj) (jj + 1) (by omega) (qNb.up (by decide) (by unfold qFit; simp; omega)) (by omega) (lv_sub hl [0, 1, 3, 4, 5, 6] rfl) hP hS
                              · replace c115 : ¬ 1 ≤ 1 := fun zq => c115 ((nI_leI (a := 1) (b := 1) (by omega) (by omega)).mpr zq)
                                exfalso; omega
                · replace c43 : 1 = 0 := (nI_eq (a := 1) (b := 0) (by omega) (by omega)).mp c43
                  exfalso; omega
          · refine lv_iconst (v := nI 1) hx hb dX8_near_19 (by decide) ?_
            refine lv_goto (tgt := 24) hx hb dX8_near_20 (by decide) ?_
            refine lv_iconst (v := nI 1) hx hb dX8_near_24 (by decide) ?_
            refine q_callV (rest := []) C (c_X8_good1 l D cy N0 h y ms mb (ra 28) od pt fi re rc rs so ot cn la ro gr cd ca mv ct fau cs ce rn (nI 1) hY) kX8_good g1249 g1251 rfl gp41 g4 hP hS hY (by first | decide | omega) hl.1 rfl (by decide) (by first | decide | omega) dX8_near_25 (fun q ce E h' H1 locs1 hE => hE.elim) (fun v hh16 H locs hq hP hS => ?_)
            obtain ⟨rfl, rfl⟩ := hq
            replace hP : qP D N0 (qs h y (.inr (8, [.ref ms, .ref mb, .ref (ra 28), .int gr, .int 0, .int ca, .int mv, .ref od, .ref pt, .int ct, .int fau, .ref fi, .ref re, .int cs, .ref rc, .ref rs, .ref so, .ref ot, .ref cn, .ref la, .int ce, .ref ro, .int rn]))) H := hP
            obtain ⟨hv13, ehv13⟩ : ∃ z : qH, z = qs h y (.inr (8, [.ref ms, .ref mb, .ref (ra 28), .int gr, .int 0, .int ca, .int mv, .ref od, .ref pt, .int ct, .int fau, .ref fi, .ref re, .int cs, .ref rc, .ref rs, .ref so, .ref ot, .ref cn, .ref la, .int ce, .ref ro, .int rn])) := ⟨_, rfl⟩
            rw [← ehv13] at hP
            have khv13 : ∀ b o, b ≠ y → h b = some o → hv13 b = some o := by rw [ehv13]; exact fun b o nb hb => (qs_ne nb).trans hb
            replace hms := khv13 _ _ (fun q => by subst q; have := hms.symm.trans hY; first | cases this | simp at this) hms
            replace hmb := khv13 _ _ (fun q => by subst q; have := hmb.symm.trans hY; first | cases this | simp at this) hmb
            replace faw := khv13 _ _ (fun q => by have z9 := faw; rw [q] at z9; have := z9.symm.trans hY; first | cases this | simp at this) faw
            replace fkw := khv13 _ _ (fun q => by have z9 := fkw; rw [q] at z9; have := z9.symm.trans hY; first | cases this | simp at this) fkw
            replace fvw := khv13 _ _ (fun q => by have z9 := fvw; rw [q] at z9; have := z9.symm.trans hY; first | cases this | simp at this) fvw
            replace hY : hv13 y = some (.inr (8, [.ref ms, .ref mb, .ref (ra 28), .int gr, .int 0, .int ca, .int mv, .ref od, .ref pt, .int ct, .int fau, .ref fi, .ref re, .int cs, .ref rc, .ref rs, .ref so, .ref ot, .ref cn, .ref la, .int ce, .ref ro, .int rn])) := by rw [ehv13]; exact qs_self
            clear ehv13
            replace fr := fun b o hb n1 n2 => khv13 b o n1 (fr b o hb n1 n2)
            refine lv_if_eq (tgt := 46) hx hb dX8_near_28 (by decide) (fun c28 => ?_) (fun c28 => ?_)
            · replace c28 : 1 = 0 := (nI_eq (a := 1) (b := 0) (by omega) (by omega)).mp c28
              exfalso; omega
            · replace c28 : ¬ 1 = 0 := fun zq => c28 ((nI_eq (a := 1) (b := 0) (by omega) (by omega)).mpr zq)
              refine lv_aload_n hx hb dX8_near_31 rfl (lv_at hl 0 rfl) ?_
              refine lv_aload_n hx hb dX8_near_32 rfl (lv_at hl 0 rfl) ?_
              refine lv_iload_n hx hb dX8_near_33 rfl (lv_at hl 1 rfl) ?_
              refine lv_bipush (v := nI 8) hx hb dX8_near_34 (by decide) ?_
              obtain ⟨ni, rwi, Fi, Gi, hRi, hni, hLi, hKi⟩ := hrs i (by omega)
              have api := hRi.apart hRw (hmd.two (i := i) (j := 28) (by omega) (by omega) (by omega))
              replace hRi := hRi.keep2 (fun b o hb ho => fr b o ho (hRi.ney hY0 hb) (hb.elim (fun q => q ▸ api.1) (fun hb => hb.elim (fun q => q ▸ api.2.1) (fun q => q ▸ api.2.2))))
              have fai := hRi.2.2.2.1
              have fki := hRi.2.2.2.2.1
              have fvi := hRi.2.2.2.2.2
              unfold qRb at fai
              unfold qJr at fki fvi
              refine q_callV (rest := [.ref y]) C (c_X8_holds l D cy N0 hv13 y ms ra rk rv i 8 _ _ _ _ _ _ _ _ hY rfl hms ⟨hRi.1, hRi.2.1, hRi.2.2.1, fai, fki, fvi⟩ (by omega)) kX8_holds g1264 g1266 rfl gp42 g4 hP hS hY (by first | decide | omega) hl.1 rfl (by simp [q_catrf, q_cati, q_catl, q_cata, q_catn]) (by first | decide | omega) dX8_near_36 (fun q ce E h' H1 locs1 hE => hE.elim) (fun v hh17 H locs hq hP hS => ?_)
              obtain ⟨rfl, rfl⟩ := hq
              cases hoi : bHo (S i).1 8 with
              | false =>
                refine lv_iconst (v := nI 2) hx hb dX8_near_39 (by decide) ?_
                refine q_callV (rest := []) C (c_X8_good0 l D cy N0 hv13 y ms mb (ra 28) od pt fi re rc rs so ot cn la ro gr 0 ca mv ct fau cs ce rn (nI 2) hY) kX8_good g1249 g1251 rfl gp41 g4 hP hS hY (by first | decide | omega) hl.1 rfl (by decide) (by first | decide | omega) dX8_near_40 (fun q ce E h' H1 locs1 hE => hE.elim) (fun v hh18 H locs hq hP hS => ?_)
                obtain ⟨rfl, rfl⟩ := hq
                replace hP : qP D N0 (qs hv13 y (.inr (8, [.ref ms, .ref mb, .ref (ra 28), .int gr, .int (nI 2), .int ca, .int mv, .ref od, .ref pt, .int ct, .int fau, .ref fi, .ref re, .int cs, .ref rc, .ref rs, .ref so, .ref ot, .ref cn, .ref la, .int ce, .ref ro, .int rn]))) H := hP
                obtain ⟨hv14, ehv14⟩ : ∃ z : qH, z = qs hv13 y (.inr (8, [.ref ms, .ref mb, .ref (ra 28), .int gr, .int (nI 2), .int ca, .int mv, .ref od, .ref pt, .int ct, .int fau, .ref fi, .ref re, .int cs, .ref rc, .ref rs, .ref so, .ref ot, .ref cn, .ref la, .int ce, .ref ro, .int rn])) := ⟨_, rfl⟩
                rw [← ehv14] at hP
                have khv14 : ∀ b o, b ≠ y → hv13 b = some o → hv14 b = some o := by rw [ehv14]; exact fun b o nb hb => (qs_ne nb).trans hb
                replace hms := khv14 _ _ (fun q => by subst q; have := hms.symm.trans hY; first | cases this | simp at this) hms
                replace hmb := khv14 _ _ (fun q => by subst q; have := hmb.symm.trans hY; first | cases this | simp at this) hmb
                replace faw := khv14 _ _ (fun q => by have z9 := faw; rw [q] at z9; have := z9.symm.trans hY; first | cases this | simp at this) faw
                replace fkw := khv14 _ _ (fun q => by have z9 := fkw; rw [q] at z9; have := z9.symm.trans hY; first | cases this | simp at this) fkw
                replace fvw := khv14 _ _ (fun q => by have z9 := fvw; rw [q] at z9; have := z9.symm.trans hY; first | cases this | simp at this) fvw
                replace fai := khv14 _ _ (fun q => by have z9 := fai; rw [q] at z9; have := z9.symm.trans hY; first | cases this | simp at this) fai
                replace fki := khv14 _ _ (fun q => by have z9 := fki; rw [q] at z9; have := z9.symm.trans hY; first | cases this | simp at this) fki
                replace fvi := khv14 _ _ (fun q => by have z9 := fvi; rw [q] at z9; have := z9.symm.trans hY; first | cases this | simp at this) fvi
                replace hY : hv14 y = some (.inr (8, [.ref ms, .ref mb, .ref (ra 28), .int gr, .int (nI 2), .int ca, .int mv, .ref od, .ref pt, .int ct, .int fau, .ref fi, .ref re, .int cs, .ref rc, .ref rs, .ref so, .ref ot, .ref cn, .ref la, .int ce, .ref ro, .int rn])) := by rw [ehv14]; exact qs_self
                clear ehv14
                replace fr := fun b o hb n1 n2 => khv14 b o n1 (fr b o hb n1 n2)
                refine lv_if_ne (tgt := 48) hx hb dX8_near_43 (by decide) (fun c43 => ?_) (fun c43 => ?_)
                · replace c43 : ¬ 0 = 0 := fun zq => c43 ((nI_eq (a := 0) (b := 0) (by omega) (by omega)).mpr zq)
                  exfalso; omega
                · replace c43 : 0 = 0 := (nI_eq (a := 0) (b := 0) (by omega) (by omega)).mp c43
                  refine lv_lconst (v := 0) hx hb dX8_near_46 (by decide) ?_
                  have ex : xs_near S (nI i) p1 (nI 2) = (2, 0) := by unfold xs_near; rw [if_neg (by simp [ebi, ebk]), eci, if_pos (by simp [hoi])]
                  obtain ⟨m9, f9⟩ := hM.fin0 hY0 (h' := hv14) ⟨hRw.1, hRw.2.1, hRw.2.2.1, faw, fkw, fvw⟩ fr
                  exact q_lret C hP hS ⟨by first | (rw [ex]; done) | (rw [ex]; rfl), by rw [ex]; exact hY, by first | exact m9 | (rw [ex]; exact m9), f9⟩ (by omega) dX8_near_47
              | true =>
                refine lv_iconst (v := nI 2) hx hb dX8_near_39 (by decide) ?_
                refine q_callV (rest := []) C (c_X8_good1 l D cy N0 hv13 y ms mb (ra 28) od pt fi re rc rs so ot cn la ro gr 0 ca mv ct fau cs ce rn (nI 2) hY) kX8_good g1249 g1251 rfl gp41 g4 hP hS hY (by first | decide | omega) hl.1 rfl (by decide) (by first | decide | omega) dX8_near_40 (fun q ce E h' H1 locs1 hE => hE.elim) (fun v hh19 H locs hq hP hS => ?_)
                obtain ⟨rfl, rfl⟩ := hq
                replace hP : qP D N0 (qs hv13 y (.inr (8, [.ref ms, .ref mb, .ref (ra 28), .int gr, .int 0, .int ca, .int mv, .ref od, .ref pt, .int ct, .int fau, .ref fi, .ref re, .int cs, .ref rc, .ref rs, .ref so, .ref ot, .ref cn, .ref la, .int ce, .ref ro, .int rn]))) H := hP
                obtain ⟨hv15, ehv15⟩ : ∃ z : qH, z = qs hv13 y (.inr (8, [.ref ms, .ref mb, .ref (ra 28), .int gr, .int 0, .int ca, .int mv, .ref od, .ref pt, .int ct, .int fau, .ref fi, .ref re, .int cs, .ref rc, .ref rs, .ref so, .ref ot, .ref cn, .ref la, .int ce, .ref ro, .int rn])) := ⟨_, rfl⟩
                rw [← ehv15] at hP
                have khv15 : ∀ b o, b ≠ y → hv13 b = some o → hv15 b = some o := by rw [ehv15]; exact fun b o nb hb => (qs_ne nb).trans hb
                replace hms := khv15 _ _ (fun q => by subst q; have := hms.symm.trans hY; first | cases this | simp at this) hms
                replace hmb := khv15 _ _ (fun q => by subst q; have := hmb.symm.trans hY; first | cases this | simp at this) hmb
                replace faw := khv15 _ _ (fun q => by have z9 := faw; rw [q] at z9; have := z9.symm.trans hY; first | cases this | simp at this) faw
                replace fkw := khv15 _ _ (fun q => by have z9 := fkw; rw [q] at z9; have := z9.symm.trans hY; first | cases this | simp at this) fkw
                replace fvw := khv15 _ _ (fun q => by have z9 := fvw; rw [q] at z9; have := z9.symm.trans hY; first | cases this | simp at this) fvw
                replace fai := khv15 _ _ (fun q => by have z9 := fai; rw [q] at z9; have := z9.symm.trans hY; first | cases this | simp at this) fai
                replace fki := khv15 _ _ (fun q => by have z9 := fki; rw [q] at z9; have := z9.symm.trans hY; first | cases this | simp at this) fki
                replace fvi := khv15 _ _ (fun q => by have z9 := fvi; rw [q] at z9; have := z9.symm.trans hY; first | cases this | simp at this) fvi
                replace hY : hv15 y = some (.inr (8, [.ref ms, .ref mb, .ref (ra 28), .int gr, .int 0, .int ca, .int mv, .ref od, .ref pt, .int ct, .int fau, .ref fi, .ref re, .int cs, .ref rc, .ref rs, .ref so, .ref ot, .ref cn, .ref la, .int ce, .ref ro, .int rn])) := by rw [ehv15]; exact qs_self
                clear ehv15
                replace fr := fun b o hb n1 n2 => khv15 b o n1 (fr b o hb n1 n2)
                refine lv_if_ne (tgt := 48) hx hb dX8_near_43 (by decide) (fun c43 => ?_) (fun c43 => ?_)
                · replace c43 : ¬ 1 = 0 := fun zq => c43 ((nI_eq (a := 1) (b := 0) (by omega) (by omega)).mpr zq)
                  refine lv_aload_n hx hb dX8_near_48 rfl (lv_at hl 0 rfl) ?_
                  refine q_get C hP hY rfl inX8 0 (by decide) g1167 rfl dX8_near_49 ?_
                  refine lv_iload_n hx hb dX8_near_52 rfl (lv_at hl 1 rfl) ?_
                  refine q_aaldR C hP hms rfl (by omega) (by omega) rfl dX8_near_53 ?_
                  refine lv_astore (lv' := [(5, .ref (ra i)), (0, .ref y), (1, .int (nI i)), (2, .long p1), (4, .int (nI 2))]) hx hb dX8_near_54 hl (by decide) rfl (fun ls hl => ?_)
                  refine lv_iconst (v := -1) hx hb dX8_near_56 (by decide) ?_
                  refine lv_istore (lv' := [(6, .int (-1)), (5, .ref (ra i)), (0, .ref y), (1, .int (nI i)), (2, .long p1), (4, .int (nI 2))]) hx hb dX8_near_57 hl (by decide) rfl (fun ls hl => ?_)
                  refine lv_iconst (v := nI 0) hx hb dX8_near_59 (by decide) ?_
                  refine lv_istore (lv' := [(7, .int (nI 0)), (6, .int (-1)), (5, .ref (ra i)), (0, .ref y), (1, .int (nI i)), (2, .long p1), (4, .int (nI 2))]) hx hb dX8_near_60 hl (by decide) rfl (fun ls hl => ?_)
                  refine (?_ : ∀ (t : Nat) (H : Heap) (locs : List Loc) (ls : Array Slot) (bx : Int32) (jj : Nat), ni - jj < t → qNb (fun q => qFit p1 2 (Fi q, 0)) 2 jj bx → jj ≤ ni → lv_has ls 10 [(7, .int (nI jj)), (6, .int bx), (5, .ref (ra i)), (4, .int (nI 2)), (0, .ref y), (2, .long p1)] → qP D N0 hv15 H → va_S (qA N0) s.heap H locs → W p l e _ s m _ below meth c H locs 0 0 _ (F0 m 62 ls [])) _ H locs ls (-1) 0 (Nat.lt_succ_self _) (Or.inl ⟨rfl, fun q hq => absurd hq (Nat.not_lt_zero _)⟩) (Nat.zero_le _) (lv_sub hl [0, 1, 2, 6, 3, 5] rfl) hP hS
                  clear hl hP hS
                  intro t
                  induction t with
                  | zero => intro H locs ls bx jj ht; exact absurd ht (Nat.not_lt_zero _)
                  | succ t ihl =>
                    intro H locs ls bx jj ht hnb hjj hl hP hS
                    refine lv_iload hx hb dX8_near_62 (lv_at hl 0 rfl) ?_
                    refine lv_aload hx hb dX8_near_64 (lv_at hl 2 rfl) ?_
                    refine q_get C hP fai rfl inX7 3 (by decide) g1143 rfl dX8_near_66 ?_
                    refine lv_icmp_ge (tgt := 153) hx hb dX8_near_69 (by decide) (fun c69 => ?_) (fun c69 => ?_)
                    · replace c69 : ni ≤ jj := (nI_leI (a := ni) (b := jj) (by omega) (by omega)).mp c69
                      rcases hnb with ⟨rfl, hno⟩ | ⟨b9, rfl, hb9, hp9, hu9, hd9⟩
                      · have eij : jj = ni := by omega
                        subst eij
                        refine lv_aload_n hx hb dX8_near_153 rfl (lv_at hl 4 rfl) ?_
                        refine lv_iload hx hb dX8_near_154 (lv_at hl 1 rfl) ?_
                        refine lv_if_lt (tgt := 163) hx hb dX8_near_156 (by decide) (fun _ => ?_) (fun c => absurd (by decide) c)
                        refine lv_iconst (v := nI 0) hx hb dX8_near_163 (by decide) ?_
                        refine lv_iconst (v := nI 3) hx hb dX8_near_164 (by decide) ?_
                        refine q_callV (rest := []) C (c_X8_good0 l D cy N0 hv15 y ms mb (ra 28) od pt fi re rc rs so ot cn la ro gr 0 ca mv ct fau cs ce rn (nI 3) hY) kX8_good g1249 g1251 rfl gp41 g4 hP hS hY (by first | decide | omega) hl.1 rfl (by decide) (by first | decide | omega) dX8_near_165 (fun q ce E h' H1 locs1 hE => hE.elim) (fun v hh20 H locs hq hP hS => ?_)
                        obtain ⟨rfl, rfl⟩ := hq
                        replace hP : qP D N0 (qs hv15 y (.inr (8, [.ref ms, .ref mb, .ref (ra 28), .int gr, .int (nI 3), .int ca, .int mv, .ref od, .ref pt, .int ct, .int fau, .ref fi, .ref re, .int cs, .ref rc, .ref rs, .ref so, .ref ot, .ref cn, .ref la, .int ce, .ref ro, .int rn]))) H := hP
                        obtain ⟨hv16, ehv16⟩ : ∃ z : qH, z = qs hv15 y (.inr (8, [.ref ms, .ref mb, .ref (ra 28), .int gr, .int (nI 3), .int ca, .int mv, .ref od, .ref pt, .int ct, .int fau, .ref fi, .ref re, .int cs, .ref rc, .ref rs, .ref so, .ref ot, .ref cn, .ref la, .int ce, .ref ro, .int rn])) := ⟨_, rfl⟩
                        rw [← ehv16] at hP
                        have khv16 : ∀ b o, b ≠ y → hv15 b = some o → hv16 b = some o := by rw [ehv16]; exact fun b o nb hb => (qs_ne nb).trans hb
                        replace hms := khv16 _ _ (fun q => by subst q; have := hms.symm.trans hY; first | cases this | simp at this) hms
                        replace hmb := khv16 _ _ (fun q => by subst q; have := hmb.symm.trans hY; first | cases this | simp at this) hmb
                        replace faw := khv16 _ _ (fun q => by have z9 := faw; rw [q] at z9; have := z9.symm.trans hY; first | cases this | simp at this) faw
                        replace fkw := khv16 _ _ (fun q => by have z9 := fkw; rw [q] at z9; have := z9.symm.trans hY; first | cases this | simp at this) fkw
                        replace fvw := khv16 _ _ (fun q => by have z9 := fvw; rw [q] at z9; have := z9.symm.trans hY; first | cases this | simp at this) fvw
                        replace fai := khv16 _ _ (fun q => by have z9 := fai; rw [q] at z9; have := z9.symm.trans hY; first | cases this | simp at this) fai
                        replace fki := khv16 _ _ (fun q => by have z9 := fki; rw [q] at z9; have := z9.symm.trans hY; first | cases this | simp at this) fki
                        replace fvi := khv16 _ _ (fun q => by have z9 := fvi; rw [q] at z9; have := z9.symm.trans hY; first | cases this | simp at this) fvi
                        replace hY : hv16 y = some (.inr (8, [.ref ms, .ref mb, .ref (ra 28), .int gr, .int (nI 3), .int ca, .int mv, .ref od, .ref pt, .int ct, .int fau, .ref fi, .ref re, .int cs, .ref rc, .ref rs, .ref so, .ref ot, .ref cn, .ref la, .int ce, .ref ro, .int rn])) := by rw [ehv16]; exact qs_self
                        clear ehv16
                        replace fr := fun b o hb n1 n2 => khv16 b o n1 (fr b o hb n1 n2)
                        refine lv_if_eq (tgt := 182) hx hb dX8_near_168 (by decide) (fun c168 => ?_) (fun c168 => ?_)
                        · replace c168 : 0 = 0 := (nI_eq (a := 0) (b := 0) (by omega) (by omega)).mp c168
                          refine lv_lconst (v := 0) hx hb dX8_near_182 (by decide) ?_
                          have ex : xs_near S (nI i) p1 (nI 2) = (3, 0) := by unfold xs_near; rw [if_neg (by simp [ebi, ebk]), eci, if_neg (by simp [hoi]), ecw, hLi, qNb.nope hno]; rfl
                          obtain ⟨m9, f9⟩ := hM.fin0 hY0 (h' := hv16) ⟨hRw.1, hRw.2.1, hRw.2.2.1, faw, fkw, fvw⟩ fr
                          exact q_lret C hP hS ⟨by first | (rw [ex]; done) | (rw [ex]; rfl), by rw [ex]; exact hY, by first | exact m9 | (rw [ex]; exact m9), f9⟩ (by omega) dX8_near_183
                        · replace c168 : ¬ 0 = 0 := fun zq => c168 ((nI_eq (a := 0) (b := 0) (by omega) (by omega)).mpr zq)
                          exfalso; omega
                      · have eij : jj = ni := by omega
                        subst eij
                        refine lv_aload_n hx hb dX8_near_153 rfl (lv_at hl 4 rfl) ?_
                        refine lv_iload hx hb dX8_near_154 (lv_at hl 1 rfl) ?_
                        refine lv_if_lt (tgt := 163) hx hb dX8_near_156 (by decide) (fun c156 => ?_) (fun c156 => ?_)
                        · replace c156 : b9 < 0 := (nI_ltI (a := b9) (b := 0) (by omega) (by omega)).mp c156
                          exfalso; omega
                        · replace c156 : ¬ b9 < 0 := fun zq => c156 ((nI_ltI (a := b9) (b := 0) (by omega) (by omega)).mpr zq)
                          refine lv_iconst (v := nI 1) hx hb dX8_near_159 (by decide) ?_
                          refine lv_goto (tgt := 164) hx hb dX8_near_160 (by decide) ?_
                          refine lv_iconst (v := nI 3) hx hb dX8_near_164 (by decide) ?_
                          refine q_callV (rest := []) C (c_X8_good1 l D cy N0 hv15 y ms mb (ra 28) od pt fi re rc rs so ot cn la ro gr 0 ca mv ct fau cs ce rn (nI 3) hY) kX8_good g1249 g1251 rfl gp41 g4 hP hS hY (by first | decide | omega) hl.1 rfl (by decide) (by first | decide | omega) dX8_near_165 (fun q ce E h' H1 locs1 hE => hE.elim) (fun v hh21 H locs hq hP hS => ?_)
                          obtain ⟨rfl, rfl⟩ := hq
                          replace hP : qP D N0 (qs hv15 y (.inr (8, [.ref ms, .ref mb, .ref (ra 28), .int gr, .int 0, .int ca, .int mv, .ref od, .ref pt, .int ct, .int fau, .ref fi, .ref re, .int cs, .ref rc, .ref rs, .ref so, .ref ot, .ref cn, .ref la, .int ce, .ref ro, .int rn]))) H := hP
                          obtain ⟨hv17, ehv17⟩ : ∃ z : qH, z = qs hv15 y (.inr (8, [.ref ms, .ref mb, .ref (ra 28), .int gr, .int 0, .int ca, .int mv, .ref od, .ref pt, .int ct, .int fau, .ref fi, .ref re, .int cs, .ref rc, .ref rs, .ref so, .ref ot, .ref cn, .ref la, .int ce, .ref ro, .int rn])) := ⟨_, rfl⟩
                          rw [← ehv17] at hP
                          have khv17 : ∀ b o, b ≠ y → hv15 b = some o → hv17 b = some o := by rw [ehv17]; exact fun b o nb hb => (qs_ne nb).trans hb
                          replace hms := khv17 _ _ (fun q => by subst q; have := hms.symm.trans hY; first | cases this | simp at this) hms
                          replace hmb := khv17 _ _ (fun q => by subst q; have := hmb.symm.trans hY; first | cases this | simp at this) hmb
                          replace faw := khv17 _ _ (fun q => by have z9 := faw; rw [q] at z9; have := z9.symm.trans hY; first | cases this | simp at this) faw
                          replace fkw := khv17 _ _ (fun q => by have z9 := fkw; rw [q] at z9; have := z9.symm.trans hY; first | cases this | simp at this) fkw
                          replace fvw := khv17 _ _ (fun q => by have z9 := fvw; rw [q] at z9; have := z9.symm.trans hY; first | cases this | simp at this) fvw
                          replace fai := khv17 _ _ (fun q => by have z9 := fai; rw [q] at z9; have := z9.symm.trans hY; first | cases this | simp at this) fai
                          replace fki := khv17 _ _ (fun q => by have z9 := fki; rw [q] at z9; have := z9.symm.trans hY; first | cases this | simp at this) fki
                          replace fvi := khv17 _ _ (fun q => by have z9 := fvi; rw [q] at z9; have := z9.symm.trans hY; first | cases this | simp at this) fvi
                          replace hY : hv17 y = some (.inr (8, [.ref ms, .ref mb, .ref (ra 28), .int gr, .int 0, .int ca, .int mv, .ref od, .ref pt, .int ct, .int fau, .ref fi, .ref re, .int cs, .ref rc, .ref rs, .ref so, .ref ot, .ref cn, .ref la, .int ce, .ref ro, .int rn])) := by rw [ehv17]; exact qs_self
                          clear ehv17
                          replace fr := fun b o hb n1 n2 => khv17 b o n1 (fr b o hb n1 n2)
                          refine lv_if_eq (tgt := 182) hx hb dX8_near_168 (by decide) (fun c168 => ?_) (fun c168 => ?_)
                          · replace c168 : 1 = 0 := (nI_eq (a := 1) (b := 0) (by omega) (by omega)).mp c168
                            exfalso; omega
                          · replace c168 : ¬ 1 = 0 := fun zq => c168 ((nI_eq (a := 1) (b := 0) (by omega) (by omega)).mpr zq)
                            refine lv_aload hx hb dX8_near_171 (lv_at hl 2 rfl) ?_
                            refine q_get C hP fai rfl inX7 0 (by decide) g1138 rfl dX8_near_173 ?_
                            refine lv_iload hx hb dX8_near_176 (lv_at hl 1 rfl) ?_
                            refine q_laldN C hP fki (by omega) (by omega) dX8_near_178 ?_
                            refine lv_goto (tgt := 183) hx hb dX8_near_179 (by decide) ?_
                            have ex : xs_near S (nI i) p1 (nI 2) = (0, Fi b9) := by unfold xs_near; rw [if_neg (by simp [ebi, ebk]), eci, if_neg (by simp [hoi]), ecw, hLi, qNb.best hb9 hp9 hu9 hd9]; rfl
                            obtain ⟨m9, f9⟩ := hM.fin0 hY0 (h' := hv17) ⟨hRw.1, hRw.2.1, hRw.2.2.1, faw, fkw, fvw⟩ fr
                            exact q_lret C hP hS ⟨by first | (rw [ex]; done) | (rw [ex]; rfl), by rw [ex]; exact hY, by first | exact m9 | (rw [ex]; exact m9), f9⟩ (by omega) dX8_near_183
                    · replace c69 : ¬ ni ≤ jj := fun zq => c69 ((nI_leI (a := ni) (b := jj) (by omega) (by omega)).mpr zq)
                      refine lv_aload hx hb dX8_near_72 (lv_at hl 2 rfl) ?_
                      refine q_get C hP fai rfl inX7 0 (by decide) g1138 rfl dX8_near_74 ?_
                      refine lv_iload hx hb dX8_near_77 (lv_at hl 0 rfl) ?_
                      refine q_laldN C hP fki (by omega) (by omega) dX8_near_79 ?_
                      refine lv_lstore (lv' := [(8, .long (Fi jj)), (7, .int (nI jj)), (6, .int bx), (5, .ref (ra i)), (4, .int (nI 2)), (0, .ref y), (2, .long p1)]) hx hb dX8_near_80 hl (by decide) rfl (fun ls hl => ?_)
                      refine lv_iload hx hb dX8_near_82 (lv_at hl 4 rfl) ?_
                      refine lv_iconst (v := nI 2) hx hb dX8_near_84 (by decide) ?_
                      refine lv_icmp_ge (tgt := 112) hx hb dX8_near_85 (by decide) (fun c85 => ?_) (fun c85 => ?_)
                      · replace c85 : 2 ≤ 2 := (nI_leI (a := 2) (b := 2) (by omega) (by omega)).mp c85
                        refine lv_iload hx hb dX8_near_112 (lv_at hl 4 rfl) ?_
                        refine lv_iconst (v := nI 1) hx hb dX8_near_114 (by decide) ?_
                        refine lv_icmp_le (tgt := 147) hx hb dX8_near_115 (by decide) (fun c115 => ?_) (fun c115 => ?_)
                        · replace c115 : 2 ≤ 1 := (nI_leI (a := 2) (b := 1) (by omega) (by omega)).mp c115
                          exfalso; omega
                        · replace c115 : ¬ 2 ≤ 1 := fun zq => c115 ((nI_leI (a := 2) (b := 1) (by omega) (by omega)).mpr zq)
                          refine lv_iload hx hb dX8_near_118 (lv_at hl 2 rfl) ?_
                          refine lv_if_ge (tgt := 147) hx hb dX8_near_120 (by decide) (fun c120 => ?_) (fun c120 => ?_)
                          · refine lv_iinc (v := nI (jj + 1)) (lv' := [(7, .int (nI (jj + 1))), (8, .long (Fi jj)), (6, .int bx), (5, .ref (ra i)), (4, .int (nI 2)), (0, .ref y), (2, .long p1)]) hx hb dX8_near_147 hl (k := 1) rfl (nI_1 jj) (by decide) rfl (fun ls hl => ?_)
                            refine lv_goto (tgt := 62) hx hb dX8_near_150 (by decide) ?_
                            exact ihl H locs ls bx (jj + 1) (by omega) (qNb.keep (by decide) c120 hnb) (by omega) (lv_sub hl [0, 2, 3, 4, 5, 6] rfl) hP hS
                          · refine lv_lload hx hb dX8_near_123 (lv_at hl 0 rfl) ?_
                            refine lv_lload_n hx hb dX8_near_125 rfl (lv_at hl 6 rfl) ?_
                            refine W.lcmp hx hb dX8_near_126 ?_
                            refine lv_if_gt (tgt := 143) hx hb dX8_near_127 (by decide) (fun c127 => ?_) (fun c127 => ?_)
                            · replace c127 : p1.toInt < (Fi jj).toInt := Int64.lt_iff_toInt_lt.mp ((lg_cmp_gt _ _).mp c127)
                              refine lv_iload hx hb dX8_near_143 (lv_at hl 1 rfl) ?_
                              refine lv_istore (lv' := [(6, .int (nI jj)), (8, .long (Fi jj)), (7, .int (nI jj)), (5, .ref (ra i)), (4, .int (nI 2)), (0, .ref y), (2, .long p1)]) hx hb dX8_near_145 hl (by decide) rfl (fun ls hl => ?_)
                              refine lv_iinc (v := nI (jj + 1)) (lv' := [(7, .int (nI (jj + 1))), (6, .int (nI jj)), (8, .long (Fi jj)), (5, .ref (ra i)), (4, .int (nI 2)), (0, .ref y), (2, .long p1)]) hx hb dX8_near_147 hl (k := 2) rfl (nI_1 jj) (by decide) rfl (fun ls hl => ?_)
                              refine lv_goto (tgt := 62) hx hb dX8_near_150 (by decide) ?_
                              exact ihl H locs ls (nI jj) (jj + 1) (by omega) (qNb.dn (by decide) (by omega) (by unfold qFit; simp; omega) hnb c120) (by omega) (lv_sub hl [0, 1, 3, 4, 5, 6] rfl) hP hS
                            · replace c127 : ¬ p1.toInt < (Fi jj).toInt := fun zq => c127 ((lg_cmp_gt _ _).mpr (Int64.lt_iff_toInt_lt.mpr zq))
                              refine lv_iload hx hb dX8_near_130 (lv_at hl 4 rfl) ?_
                              refine lv_iconst (v := nI 2) hx hb dX8_near_132 (by decide) ?_
                              refine lv_icmp_ne (tgt := 147) hx hb dX8_near_133 (by decide) (fun c133 => ?_) (fun c133 => ?_)
                              · replace c133 : ¬ 2 = 2 := fun zq => c133 ((nI_eq (a := 2) (b := 2) (by omega) (by omega)).mpr zq)
                                exfalso; omega
                              · replace c133 : 2 = 2 := (nI_eq (a := 2) (b := 2) (by omega) (by omega)).mp c133
                                refine lv_lload hx hb dX8_near_136 (lv_at hl 0 rfl) ?_
                                refine lv_lload_n hx hb dX8_near_138 rfl (lv_at hl 6 rfl) ?_
                                refine W.lcmp hx hb dX8_near_139 ?_
                                refine lv_if_ne (tgt := 147) hx hb dX8_near_140 (by decide) (fun c140 => ?_) (fun c140 => ?_)
                                · replace c140 : ¬ (Fi jj).toInt = p1.toInt := fun zq => c140 ((lg_cmp_eq _ _).mpr (Int64.toInt_inj.symm.mpr zq))
                                  refine lv_iinc (v := nI (jj + 1)) (lv' := [(7, .int (nI (jj + 1))), (8, .long (Fi jj)), (6, .int bx), (5, .ref (ra i)), (4, .int (nI 2)), (0, .ref y), (2, .long p1)]) hx hb dX8_near_147 hl (k := 1) rfl (nI_1 jj) (by decide) rfl (fun ls hl => ?_)
                                  refine lv_goto (tgt := 62) hx hb dX8_near_150 (by decide) ?_
                                  exact ihl H locs ls bx (jj + 1) (by omega) (qNb.no (by unfold qFit; simp; omega) hnb) (by omega) (lv_sub hl [0, 2, 3, 4, 5, 6] rfl) hP hS
                                · replace c140 : (Fi jj).toInt = p1.toInt := Int64.toInt_inj.symm.mp ((lg_cmp_eq _ _).mp c140)
                                  refine lv_iload hx hb dX8_near_143 (lv_at hl 1 rfl) ?_
                                  refine lv_istore (lv' := [(6, .int (nI jj)), (8, .long (Fi jj)), (7, .int (nI jj)), (5, .ref (ra i)), (4, .int (nI 2)), (0, .ref y), (2, .long p1)]) hx hb dX8_near_145 hl (by decide) rfl (fun ls hl => ?_)
                                  refine lv_iinc (v := nI (jj + 1)) (lv' := [(7, .int (nI (jj + 1))), (6, .int (nI jj)), (8, .long (Fi jj)), (5, .ref (ra i)), (4, .int (nI 2)), (0, .ref y), (2, .long p1)]) hx hb dX8_near_147 hl (k := 2) rfl (nI_1 jj) (by decide) rfl (fun ls hl => ?_)
                                  refine lv_goto (tgt := 62) hx hb dX8_near_150 (by decide) ?_
                                  exact ihl H locs ls (nI jj) (jj + 1) (by omega) (qNb.dn (by decide) (by omega) (by unfold qFit; simp; omega) hnb c120) (by omega) (lv_sub hl [0, 1, 3, 4, 5, 6] rfl) hP hS
                      · replace c85 : ¬ 2 ≤ 2 := fun zq => c85 ((nI_leI (a := 2) (b := 2) (by omega) (by omega)).mpr zq)
                        exfalso; omega
                · replace c43 : 1 = 0 := (nI_eq (a := 1) (b := 0) (by omega) (by omega)).mp c43
                  exfalso; omega
          · refine lv_iconst (v := nI 1) hx hb dX8_near_19 (by decide) ?_
            refine lv_goto (tgt := 24) hx hb dX8_near_20 (by decide) ?_
            refine lv_iconst (v := nI 1) hx hb dX8_near_24 (by decide) ?_
            refine q_callV (rest := []) C (c_X8_good1 l D cy N0 h y ms mb (ra 28) od pt fi re rc rs so ot cn la ro gr cd ca mv ct fau cs ce rn (nI 1) hY) kX8_good g1249 g1251 rfl gp41 g4 hP hS hY (by first | decide | omega) hl.1 rfl (by decide) (by first | decide | omega) dX8_near_25 (fun q ce E h' H1 locs1 hE => hE.elim) (fun v hh22 H locs hq hP hS => ?_)
            obtain ⟨rfl, rfl⟩ := hq
            replace hP : qP D N0 (qs h y (.inr (8, [.ref ms, .ref mb, .ref (ra 28), .int gr, .int 0, .int ca, .int mv, .ref od, .ref pt, .int ct, .int fau, .ref fi, .ref re, .int cs, .ref rc, .ref rs, .ref so, .ref ot, .ref cn, .ref la, .int ce, .ref ro, .int rn]))) H := hP
            obtain ⟨hv18, ehv18⟩ : ∃ z : qH, z = qs h y (.inr (8, [.ref ms, .ref mb, .ref (ra 28), .int gr, .int 0, .int ca, .int mv, .ref od, .ref pt, .int ct, .int fau, .ref fi, .ref re, .int cs, .ref rc, .ref rs, .ref so, .ref ot, .ref cn, .ref la, .int ce, .ref ro, .int rn])) := ⟨_, rfl⟩
            rw [← ehv18] at hP
            have khv18 : ∀ b o, b ≠ y → h b = some o → hv18 b = some o := by rw [ehv18]; exact fun b o nb hb => (qs_ne nb).trans hb
            replace hms := khv18 _ _ (fun q => by subst q; have := hms.symm.trans hY; first | cases this | simp at this) hms
            replace hmb := khv18 _ _ (fun q => by subst q; have := hmb.symm.trans hY; first | cases this | simp at this) hmb
            replace faw := khv18 _ _ (fun q => by have z9 := faw; rw [q] at z9; have := z9.symm.trans hY; first | cases this | simp at this) faw
            replace fkw := khv18 _ _ (fun q => by have z9 := fkw; rw [q] at z9; have := z9.symm.trans hY; first | cases this | simp at this) fkw
            replace fvw := khv18 _ _ (fun q => by have z9 := fvw; rw [q] at z9; have := z9.symm.trans hY; first | cases this | simp at this) fvw
            replace hY : hv18 y = some (.inr (8, [.ref ms, .ref mb, .ref (ra 28), .int gr, .int 0, .int ca, .int mv, .ref od, .ref pt, .int ct, .int fau, .ref fi, .ref re, .int cs, .ref rc, .ref rs, .ref so, .ref ot, .ref cn, .ref la, .int ce, .ref ro, .int rn])) := by rw [ehv18]; exact qs_self
            clear ehv18
            replace fr := fun b o hb n1 n2 => khv18 b o n1 (fr b o hb n1 n2)
            refine lv_if_eq (tgt := 46) hx hb dX8_near_28 (by decide) (fun c28 => ?_) (fun c28 => ?_)
            · replace c28 : 1 = 0 := (nI_eq (a := 1) (b := 0) (by omega) (by omega)).mp c28
              exfalso; omega
            · replace c28 : ¬ 1 = 0 := fun zq => c28 ((nI_eq (a := 1) (b := 0) (by omega) (by omega)).mpr zq)
              refine lv_aload_n hx hb dX8_near_31 rfl (lv_at hl 0 rfl) ?_
              refine lv_aload_n hx hb dX8_near_32 rfl (lv_at hl 0 rfl) ?_
              refine lv_iload_n hx hb dX8_near_33 rfl (lv_at hl 1 rfl) ?_
              refine lv_bipush (v := nI 8) hx hb dX8_near_34 (by decide) ?_
              obtain ⟨ni, rwi, Fi, Gi, hRi, hni, hLi, hKi⟩ := hrs i (by omega)
              have api := hRi.apart hRw (hmd.two (i := i) (j := 28) (by omega) (by omega) (by omega))
              replace hRi := hRi.keep2 (fun b o hb ho => fr b o ho (hRi.ney hY0 hb) (hb.elim (fun q => q ▸ api.1) (fun hb => hb.elim (fun q => q ▸ api.2.1) (fun q => q ▸ api.2.2))))
              have fai := hRi.2.2.2.1
              have fki := hRi.2.2.2.2.1
              have fvi := hRi.2.2.2.2.2
              unfold qRb at fai
              unfold qJr at fki fvi
              refine q_callV (rest := [.ref y]) C (c_X8_holds l D cy N0 hv18 y ms ra rk rv i 8 _ _ _ _ _ _ _ _ hY rfl hms ⟨hRi.1, hRi.2.1, hRi.2.2.1, fai, fki, fvi⟩ (by omega)) kX8_holds g1264 g1266 rfl gp42 g4 hP hS hY (by first | decide | omega) hl.1 rfl (by simp [q_catrf, q_cati, q_catl, q_cata, q_catn]) (by first | decide | omega) dX8_near_36 (fun q ce E h' H1 locs1 hE => hE.elim) (fun v hh23 H locs hq hP hS => ?_)
              obtain ⟨rfl, rfl⟩ := hq
              cases hoi : bHo (S i).1 8 with
              | false =>
                refine lv_iconst (v := nI 2) hx hb dX8_near_39 (by decide) ?_
                refine q_callV (rest := []) C (c_X8_good0 l D cy N0 hv18 y ms mb (ra 28) od pt fi re rc rs so ot cn la ro gr 0 ca mv ct fau cs ce rn (nI 2) hY) kX8_good g1249 g1251 rfl gp41 g4 hP hS hY (by first | decide | omega) hl.1 rfl (by decide) (by first | decide | omega) dX8_near_40 (fun q ce E h' H1 locs1 hE => hE.elim) (fun v hh24 H locs hq hP hS => ?_)
                obtain ⟨rfl, rfl⟩ := hq
                replace hP : qP D N0 (qs hv18 y (.inr (8, [.ref ms, .ref mb, .ref (ra 28), .int gr, .int (nI 2), .int ca, .int mv, .ref od, .ref pt, .int ct, .int fau, .ref fi, .ref re, .int cs, .ref rc, .ref rs, .ref so, .ref ot, .ref cn, .ref la, .int ce, .ref ro, .int rn]))) H := hP
                obtain ⟨hv19, ehv19⟩ : ∃ z : qH, z = qs hv18 y (.inr (8, [.ref ms, .ref mb, .ref (ra 28), .int gr, .int (nI 2), .int ca, .int mv, .ref od, .ref pt, .int ct, .int fau, .ref fi, .ref re, .int cs, .ref rc, .ref rs, .ref so, .ref ot, .ref cn, .ref la, .int ce, .ref ro, .int rn])) := ⟨_, rfl⟩
                rw [← ehv19] at hP
                have khv19 : ∀ b o, b ≠ y → hv18 b = some o → hv19 b = some o := by rw [ehv19]; exact fun b o nb hb => (qs_ne nb).trans hb
                replace hms := khv19 _ _ (fun q => by subst q; have := hms.symm.trans hY; first | cases this | simp at this) hms
                replace hmb := khv19 _ _ (fun q => by subst q; have := hmb.symm.trans hY; first | cases this | simp at this) hmb
                replace faw := khv19 _ _ (fun q => by have z9 := faw; rw [q] at z9; have := z9.symm.trans hY; first | cases this | simp at this) faw
                replace fkw := khv19 _ _ (fun q => by have z9 := fkw; rw [q] at z9; have := z9.symm.trans hY; first | cases this | simp at this) fkw
                replace fvw := khv19 _ _ (fun q => by have z9 := fvw; rw [q] at z9; have := z9.symm.trans hY; first | cases this | simp at this) fvw
                replace fai := khv19 _ _ (fun q => by have z9 := fai; rw [q] at z9; have := z9.symm.trans hY; first | cases this | simp at this) fai
                replace fki := khv19 _ _ (fun q => by have z9 := fki; rw [q] at z9; have := z9.symm.trans hY; first | cases this | simp at this) fki
                replace fvi := khv19 _ _ (fun q => by have z9 := fvi; rw [q] at z9; have := z9.symm.trans hY; first | cases this | simp at this) fvi
                replace hY : hv19 y = some (.inr (8, [.ref ms, .ref mb, .ref (ra 28), .int gr, .int (nI 2), .int ca, .int mv, .ref od, .ref pt, .int ct, .int fau, .ref fi, .ref re, .int cs, .ref rc, .ref rs, .ref so, .ref ot, .ref cn, .ref la, .int ce, .ref ro, .int rn])) := by rw [ehv19]; exact qs_self
                clear ehv19
                replace fr := fun b o hb n1 n2 => khv19 b o n1 (fr b o hb n1 n2)
                refine lv_if_ne (tgt := 48) hx hb dX8_near_43 (by decide) (fun c43 => ?_) (fun c43 => ?_)
                · replace c43 : ¬ 0 = 0 := fun zq => c43 ((nI_eq (a := 0) (b := 0) (by omega) (by omega)).mpr zq)
                  exfalso; omega
                · replace c43 : 0 = 0 := (nI_eq (a := 0) (b := 0) (by omega) (by omega)).mp c43
                  refine lv_lconst (v := 0) hx hb dX8_near_46 (by decide) ?_
                  have ex : xs_near S (nI i) p1 (nI 3) = (2, 0) := by unfold xs_near; rw [if_neg (by simp [ebi, ebk]), eci, if_pos (by simp [hoi])]
                  obtain ⟨m9, f9⟩ := hM.fin0 hY0 (h' := hv19) ⟨hRw.1, hRw.2.1, hRw.2.2.1, faw, fkw, fvw⟩ fr
                  exact q_lret C hP hS ⟨by first | (rw [ex]; done) | (rw [ex]; rfl), by rw [ex]; exact hY, by first | exact m9 | (rw [ex]; exact m9), f9⟩ (by omega) dX8_near_47
              | true =>
                refine lv_iconst (v := nI 2) hx hb dX8_near_39 (by decide) ?_
                refine q_callV (rest := []) C (c_X8_good1 l D cy N0 hv18 y ms mb (ra 28) od pt fi re rc rs so ot cn la ro gr 0 ca mv ct fau cs ce rn (nI 2) hY) kX8_good g1249 g1251 rfl gp41 g4 hP hS hY (by first | decide | omega) hl.1 rfl (by decide) (by first | decide | omega) dX8_near_40 (fun q ce E h' H1 locs1 hE => hE.elim) (fun v hh25 H locs hq hP hS => ?_)
                obtain ⟨rfl, rfl⟩ := hq
                replace hP : qP D N0 (qs hv18 y (.inr (8, [.ref ms, .ref mb, .ref (ra 28), .int gr, .int 0, .int ca, .int mv, .ref od, .ref pt, .int ct, .int fau, .ref fi, .ref re, .int cs, .ref rc, .ref rs, .ref so, .ref ot, .ref cn, .ref la, .int ce, .ref ro, .int rn]))) H := hP
                obtain ⟨hv20, ehv20⟩ : ∃ z : qH, z = qs hv18 y (.inr (8, [.ref ms, .ref mb, .ref (ra 28), .int gr, .int 0, .int ca, .int mv, .ref od, .ref pt, .int ct, .int fau, .ref fi, .ref re, .int cs, .ref rc, .ref rs, .ref so, .ref ot, .ref cn, .ref la, .int ce, .ref ro, .int rn])) := ⟨_, rfl⟩
                rw [← ehv20] at hP
                have khv20 : ∀ b o, b ≠ y → hv18 b = some o → hv20 b = some o := by rw [ehv20]; exact fun b o nb hb => (qs_ne nb).trans hb
                replace hms := khv20 _ _ (fun q => by subst q; have := hms.symm.trans hY; first | cases this | simp at this) hms
                replace hmb := khv20 _ _ (fun q => by subst q; have := hmb.symm.trans hY; first | cases this | simp at this) hmb
                replace faw := khv20 _ _ (fun q => by have z9 := faw; rw [q] at z9; have := z9.symm.trans hY; first | cases this | simp at this) faw
                replace fkw := khv20 _ _ (fun q => by have z9 := fkw; rw [q] at z9; have := z9.symm.trans hY; first | cases this | simp at this) fkw
                replace fvw := khv20 _ _ (fun q => by have z9 := fvw; rw [q] at z9; have := z9.symm.trans hY; first | cases this | simp at this) fvw
                replace fai := khv20 _ _ (fun q => by have z9 := fai; rw [q] at z9; have := z9.symm.trans hY; first | cases this | simp at this) fai
                replace fki := khv20 _ _ (fun q => by have z9 := fki; rw [q] at z9; have := z9.symm.trans hY; first | cases this | simp at this) fki
                replace fvi := khv20 _ _ (fun q => by have z9 := fvi; rw [q] at z9; have := z9.symm.trans hY; first | cases this | simp at this) fvi
                replace hY : hv20 y = some (.inr (8, [.ref ms, .ref mb, .ref (ra 28), .int gr, .int 0, .int ca, .int mv, .ref od, .ref pt, .int ct, .int fau, .ref fi, .ref re, .int cs, .ref rc, .ref rs, .ref so, .ref ot, .ref cn, .ref la, .int ce, .ref ro, .int rn])) := by rw [ehv20]; exact qs_self
                clear ehv20
                replace fr := fun b o hb n1 n2 => khv20 b o n1 (fr b o hb n1 n2)
                refine lv_if_ne (tgt := 48) hx hb dX8_near_43 (by decide) (fun c43 => ?_) (fun c43 => ?_)
                · replace c43 : ¬ 1 = 0 := fun zq => c43 ((nI_eq (a := 1) (b := 0) (by omega) (by omega)).mpr zq)
                  refine lv_aload_n hx hb dX8_near_48 rfl (lv_at hl 0 rfl) ?_
                  refine q_get C hP hY rfl inX8 0 (by decide) g1167 rfl dX8_near_49 ?_
                  refine lv_iload_n hx hb dX8_near_52 rfl (lv_at hl 1 rfl) ?_
                  refine q_aaldR C hP hms rfl (by omega) (by omega) rfl dX8_near_53 ?_
                  refine lv_astore (lv' := [(5, .ref (ra i)), (0, .ref y), (1, .int (nI i)), (2, .long p1), (4, .int (nI 3))]) hx hb dX8_near_54 hl (by decide) rfl (fun ls hl => ?_)
                  refine lv_iconst (v := -1) hx hb dX8_near_56 (by decide) ?_
                  refine lv_istore (lv' := [(6, .int (-1)), (5, .ref (ra i)), (0, .ref y), (1, .int (nI i)), (2, .long p1), (4, .int (nI 3))]) hx hb dX8_near_57 hl (by decide) rfl (fun ls hl => ?_)
                  refine lv_iconst (v := nI 0) hx hb dX8_near_59 (by decide) ?_
                  refine lv_istore (lv' := [(7, .int (nI 0)), (6, .int (-1)), (5, .ref (ra i)), (0, .ref y), (1, .int (nI i)), (2, .long p1), (4, .int (nI 3))]) hx hb dX8_near_60 hl (by decide) rfl (fun ls hl => ?_)
                  refine (?_ : ∀ (t : Nat) (H : Heap) (locs : List Loc) (ls : Array Slot) (bx : Int32) (jj : Nat), ni - jj < t → qNb (fun q => qFit p1 3 (Fi q, 0)) 3 jj bx → jj ≤ ni → lv_has ls 10 [(7, .int (nI jj)), (6, .int bx), (5, .ref (ra i)), (4, .int (nI 3)), (0, .ref y), (2, .long p1)] → qP D N0 hv20 H → va_S (qA N0) s.heap H locs → W p l e _ s m _ below meth c H locs 0 0 _ (F0 m 62 ls [])) _ H locs ls (-1) 0 (Nat.lt_succ_self _) (Or.inl ⟨rfl, fun q hq => absurd hq (Nat.not_lt_zero _)⟩) (Nat.zero_le _) (lv_sub hl [0, 1, 2, 6, 3, 5] rfl) hP hS
                  clear hl hP hS
                  intro t
                  induction t with
                  | zero => intro H locs ls bx jj ht; exact absurd ht (Nat.not_lt_zero _)
                  | succ t ihl =>
                    intro H locs ls bx jj ht hnb hjj hl hP hS
                    refine lv_iload hx hb dX8_near_62 (lv_at hl 0 rfl) ?_
                    refine lv_aload hx hb dX8_near_64 (lv_at hl 2 rfl) ?_
                    refine q_get C hP fai rfl inX7 3 (by decide) g1143 rfl dX8_near_66 ?_
                    refine lv_icmp_ge (tgt := 153) hx hb dX8_near_69 (by decide) (fun c69 => ?_) (fun c69 => ?_)
                    · replace c69 : ni ≤ jj := (nI_leI (a := ni) (b := jj) (by omega) (by omega)).mp c69
                      rcases hnb with ⟨rfl, hno⟩ | ⟨b9, rfl, hb9, hp9, hu9, hd9⟩
                      · have eij : jj = ni := by omega
                        subst eij
                        refine lv_aload_n hx hb dX8_near_153 rfl (lv_at hl 4 rfl) ?_
                        refine lv_iload hx hb dX8_near_154 (lv_at hl 1 rfl) ?_
                        refine lv_if_lt (tgt := 163) hx hb dX8_near_156 (by decide) (fun _ => ?_) (fun c => absurd (by decide) c)
                        refine lv_iconst (v := nI 0) hx hb dX8_near_163 (by decide) ?_
                        refine lv_iconst (v := nI 3) hx hb dX8_near_164 (by decide) ?_
                        refine q_callV (rest := []) C (c_X8_good0 l D cy N0 hv20 y ms mb (ra 28) od pt fi re rc rs so ot cn la ro gr 0 ca mv ct fau cs ce rn (nI 3) hY) kX8_good g1249 g1251 rfl gp41 g4 hP hS hY (by first | decide | omega) hl.1 rfl (by decide) (by first | decide | omega) dX8_near_165 (fun q ce E h' H1 locs1 hE => hE.elim) (fun v hh26 H locs hq hP hS => ?_)
                        obtain ⟨rfl, rfl⟩ := hq
                        replace hP : qP D N0 (qs hv20 y (.inr (8, [.ref ms, .ref mb, .ref (ra 28), .int gr, .int (nI 3), .int ca, .int mv, .ref od, .ref pt, .int ct, .int fau, .ref fi, .ref re, .int cs, .ref rc, .ref rs, .ref so, .ref ot, .ref cn, .ref la, .int ce, .ref ro, .int rn]))) H := hP
                        obtain ⟨hv21, ehv21⟩ : ∃ z : qH, z = qs hv20 y (.inr (8, [.ref ms, .ref mb, .ref (ra 28), .int gr, .int (nI 3), .int ca, .int mv, .ref od, .ref pt, .int ct, .int fau, .ref fi, .ref re, .int cs, .ref rc, .ref rs, .ref so, .ref ot, .ref cn, .ref la, .int ce, .ref ro, .int rn])) := ⟨_, rfl⟩
                        rw [← ehv21] at hP
                        have khv21 : ∀ b o, b ≠ y → hv20 b = some o → hv21 b = some o := by rw [ehv21]; exact fun b o nb hb => (qs_ne nb).trans hb
                        replace hms := khv21 _ _ (fun q => by subst q; have := hms.symm.trans hY; first | cases this | simp at this) hms
                        replace hmb := khv21 _ _ (fun q => by subst q; have := hmb.symm.trans hY; first | cases this | simp at this) hmb
                        replace faw := khv21 _ _ (fun q => by have z9 := faw; rw [q] at z9; have := z9.symm.trans hY; first | cases this | simp at this) faw
                        replace fkw := khv21 _ _ (fun q => by have z9 := fkw; rw [q] at z9; have := z9.symm.trans hY; first | cases this | simp at this) fkw
                        replace fvw := khv21 _ _ (fun q => by have z9 := fvw; rw [q] at z9; have := z9.symm.trans hY; first | cases this | simp at this) fvw
                        replace fai := khv21 _ _ (fun q => by have z9 := fai; rw [q] at z9; have := z9.symm.trans hY; first | cases this | simp at this) fai
                        replace fki := khv21 _ _ (fun q => by have z9 := fki; rw [q] at z9; have := z9.symm.trans hY; first | cases this | simp at this) fki
                        replace fvi := khv21 _ _ (fun q => by have z9 := fvi; rw [q] at z9; have := z9.symm.trans hY; first | cases this | simp at this) fvi
                        replace hY : hv21 y = some (.inr (8, [.ref ms, .ref mb, .ref (ra 28), .int gr, .int (nI 3), .int ca, .int mv, .ref od, .ref pt, .int ct, .int fau, .ref fi, .ref re, .int cs, .ref rc, .ref rs, .ref so, .ref ot, .ref cn, .ref la, .int ce, .ref ro, .int rn])) := by rw [ehv21]; exact qs_self
                        clear ehv21
                        replace fr := fun b o hb n1 n2 => khv21 b o n1 (fr b o hb n1 n2)
                        refine lv_if_eq (tgt := 182) hx hb dX8_near_168 (by decide) (fun c168 => ?_) (fun c168 => ?_)
                        · replace c168 : 0 = 0 := (nI_eq (a := 0) (b := 0) (by omega) (by omega)).mp c168
                          refine lv_lconst (v := 0) hx hb dX8_near_182 (by decide) ?_
                          have ex : xs_near S (nI i) p1 (nI 3) = (3, 0) := by unfold xs_near; rw [if_neg (by simp [ebi, ebk]), eci, if_neg (by simp [hoi]), ecw, hLi, qNb.nope hno]; rfl
                          obtain ⟨m9, f9⟩ := hM.fin0 hY0 (h' := hv21) ⟨hRw.1, hRw.2.1, hRw.2.2.1, faw, fkw, fvw⟩ fr
                          exact q_lret C hP hS ⟨by first | (rw [ex]; done) | (rw [ex]; rfl), by rw [ex]; exact hY, by first | exact m9 | (rw [ex]; exact m9), f9⟩ (by omega) dX8_near_183
                        · replace c168 : ¬ 0 = 0 := fun zq => c168 ((nI_eq (a := 0) (b := 0) (by omega) (by omega)).mpr zq)
                          exfalso; omega
                      · have eij : jj = ni := by omega
                        subst eij
                        refine lv_aload_n hx hb dX8_near_153 rfl (lv_at hl 4 rfl) ?_
                        refine lv_iload hx hb dX8_near_154 (lv_at hl 1 rfl) ?_
                        refine lv_if_lt (tgt := 163) hx hb dX8_near_156 (by decide) (fun c156 => ?_) (fun c156 => ?_)
                        · replace c156 : b9 < 0 := (nI_ltI (a := b9) (b := 0) (by omega) (by omega)).mp c156
                          exfalso; omega
                        · replace c156 : ¬ b9 < 0 := fun zq => c156 ((nI_ltI (a := b9) (b := 0) (by omega) (by omega)).mpr zq)
                          refine lv_iconst (v := nI 1) hx hb dX8_near_159 (by decide) ?_
                          refine lv_goto (tgt := 164) hx hb dX8_near_160 (by decide) ?_
                          refine lv_iconst (v := nI 3) hx hb dX8_near_164 (by decide) ?_
                          refine q_callV (rest := []) C (c_X8_good1 l D cy N0 hv20 y ms mb (ra 28) od pt fi re rc rs so ot cn la ro gr 0 ca mv ct fau cs ce rn (nI 3) hY) kX8_good g1249 g1251 rfl gp41 g4 hP hS hY (by first | decide | omega) hl.1 rfl (by decide) (by first | decide | omega) dX8_near_165 (fun q ce E h' H1 locs1 hE => hE.elim) (fun v hh27 H locs hq hP hS => ?_)
                          obtain ⟨rfl, rfl⟩ := hq
                          replace hP : qP D N0 (qs hv20 y (.inr (8, [.ref ms, .ref mb, .ref (ra 28), .int gr, .int 0, .int ca, .int mv, .ref od, .ref pt, .int ct, .int fau, .ref fi, .ref re, .int cs, .ref rc, .ref rs, .ref so, .ref ot, .ref cn, .ref la, .int ce, .ref ro, .int rn]))) H := hP
                          obtain ⟨hv22, ehv22⟩ : ∃ z : qH, z = qs hv20 y (.inr (8, [.ref ms, .ref mb, .ref (ra 28), .int gr, .int 0, .int ca, .int mv, .ref od, .ref pt, .int ct, .int fau, .ref fi, .ref re, .int cs, .ref rc, .ref rs, .ref so, .ref ot, .ref cn, .ref la, .int ce, .ref ro, .int rn])) := ⟨_, rfl⟩
                          rw [← ehv22] at hP
                          have khv22 : ∀ b o, b ≠ y → hv20 b = some o → hv22 b = some o := by rw [ehv22]; exact fun b o nb hb => (qs_ne nb).trans hb
                          replace hms := khv22 _ _ (fun q => by subst q; have := hms.symm.trans hY; first | cases this | simp at this) hms
                          replace hmb := khv22 _ _ (fun q => by subst q; have := hmb.symm.trans hY; first | cases this | simp at this) hmb
                          replace faw := khv22 _ _ (fun q => by have z9 := faw; rw [q] at z9; have := z9.symm.trans hY; first | cases this | simp at this) faw
                          replace fkw := khv22 _ _ (fun q => by have z9 := fkw; rw [q] at z9; have := z9.symm.trans hY; first | cases this | simp at this) fkw
                          replace fvw := khv22 _ _ (fun q => by have z9 := fvw; rw [q] at z9; have := z9.symm.trans hY; first | cases this | simp at this) fvw
                          replace fai := khv22 _ _ (fun q => by have z9 := fai; rw [q] at z9; have := z9.symm.trans hY; first | cases this | simp at this) fai
                          replace fki := khv22 _ _ (fun q => by have z9 := fki; rw [q] at z9; have := z9.symm.trans hY; first | cases this | simp at this) fki
                          replace fvi := khv22 _ _ (fun q => by have z9 := fvi; rw [q] at z9; have := z9.symm.trans hY; first | cases this | simp at this) fvi
                          replace hY : hv22 y = some (.inr (8, [.ref ms, .ref mb, .ref (ra 28), .int gr, .int 0, .int ca, .int mv, .ref od, .ref pt, .int ct, .int fau, .ref fi, .ref re, .int cs, .ref rc, .ref rs, .ref so, .ref ot, .ref cn, .ref la, .int ce, .ref ro, .int rn])) := by rw [ehv22]; exact qs_self
                          clear ehv22
                          replace fr := fun b o hb n1 n2 => khv22 b o n1 (fr b o hb n1 n2)
                          refine lv_if_eq (tgt := 182) hx hb dX8_near_168 (by decide) (fun c168 => ?_) (fun c168 => ?_)
                          · replace c168 : 1 = 0 := (nI_eq (a := 1) (b := 0) (by omega) (by omega)).mp c168
                            exfalso; omega
                          · replace c168 : ¬ 1 = 0 := fun zq => c168 ((nI_eq (a := 1) (b := 0) (by omega) (by omega)).mpr zq)
                            refine lv_aload hx hb dX8_near_171 (lv_at hl 2 rfl) ?_
                            refine q_get C hP fai rfl inX7 0 (by decide) g1138 rfl dX8_near_173 ?_
                            refine lv_iload hx hb dX8_near_176 (lv_at hl 1 rfl) ?_
                            refine q_laldN C hP fki (by omega) (by omega) dX8_near_178 ?_
                            refine lv_goto (tgt := 183) hx hb dX8_near_179 (by decide) ?_
                            have ex : xs_near S (nI i) p1 (nI 3) = (0, Fi b9) := by unfold xs_near; rw [if_neg (by simp [ebi, ebk]), eci, if_neg (by simp [hoi]), ecw, hLi, qNb.best hb9 hp9 hu9 hd9]; rfl
                            obtain ⟨m9, f9⟩ := hM.fin0 hY0 (h' := hv22) ⟨hRw.1, hRw.2.1, hRw.2.2.1, faw, fkw, fvw⟩ fr
                            exact q_lret C hP hS ⟨by first | (rw [ex]; done) | (rw [ex]; rfl), by rw [ex]; exact hY, by first | exact m9 | (rw [ex]; exact m9), f9⟩ (by omega) dX8_near_183
                    · replace c69 : ¬ ni ≤ jj := fun zq => c69 ((nI_leI (a := ni) (b := jj) (by omega) (by omega)).mpr zq)
                      refine lv_aload hx hb dX8_near_72 (lv_at hl 2 rfl) ?_
                      refine q_get C hP fai rfl inX7 0 (by decide) g1138 rfl dX8_near_74 ?_
                      refine lv_iload hx hb dX8_near_77 (lv_at hl 0 rfl) ?_
                      refine q_laldN C hP fki (by omega) (by omega) dX8_near_79 ?_
                      refine lv_lstore (lv' := [(8, .long (Fi jj)), (7, .int (nI jj)), (6, .int bx), (5, .ref (ra i)), (4, .int (nI 3)), (0, .ref y), (2, .long p1)]) hx hb dX8_near_80 hl (by decide) rfl (fun ls hl => ?_)
                      refine lv_iload hx hb dX8_near_82 (lv_at hl 4 rfl) ?_
                      refine lv_iconst (v := nI 2) hx hb dX8_near_84 (by decide) ?_
                      refine lv_icmp_ge (tgt := 112) hx hb dX8_near_85 (by decide) (fun c85 => ?_) (fun c85 => ?_)
                      · replace c85 : 2 ≤ 3 := (nI_leI (a := 2) (b := 3) (by omega) (by omega)).mp c85
                        refine lv_iload hx hb dX8_near_112 (lv_at hl 4 rfl) ?_
                        refine lv_iconst (v := nI 1) hx hb dX8_near_114 (by decide) ?_
                        refine lv_icmp_le (tgt := 147) hx hb dX8_near_115 (by decide) (fun c115 => ?_) (fun c115 => ?_)
                        · replace c115 : 3 ≤ 1 := (nI_leI (a := 3) (b := 1) (by omega) (by omega)).mp c115
                          exfalso; omega
                        · replace c115 : ¬ 3 ≤ 1 := fun zq => c115 ((nI_leI (a := 3) (b := 1) (by omega) (by omega)).mpr zq)
                          refine lv_iload hx hb dX8_near_118 (lv_at hl 2 rfl) ?_
                          refine lv_if_ge (tgt := 147) hx hb dX8_near_120 (by decide) (fun c120 => ?_) (fun c120 => ?_)
                          · refine lv_iinc (v := nI (jj + 1)) (lv' := [(7, .int (nI (jj + 1))), (8, .long (Fi jj)), (6, .int bx), (5, .ref (ra i)), (4, .int (nI 3)), (0, .ref y), (2, .long p1)]) hx hb dX8_near_147 hl (k := 1) rfl (nI_1 jj) (by decide) rfl (fun ls hl => ?_)
                            refine lv_goto (tgt := 62) hx hb dX8_near_150 (by decide) ?_
                            exact ihl H locs ls bx (jj + 1) (by omega) (qNb.keep (by decide) c120 hnb) (by omega) (lv_sub hl [0, 2, 3, 4, 5, 6] rfl) hP hS
                          · refine lv_lload hx hb dX8_near_123 (lv_at hl 0 rfl) ?_
                            refine lv_lload_n hx hb dX8_near_125 rfl (lv_at hl 6 rfl) ?_
                            refine W.lcmp hx hb dX8_near_126 ?_
                            refine lv_if_gt (tgt := 143) hx hb dX8_near_127 (by decide) (fun c127 => ?_) (fun c127 => ?_)
                            · replace c127 : p1.toInt < (Fi jj).toInt := Int64.lt_iff_toInt_lt.mp ((lg_cmp_gt _ _).mp c127)
                              refine lv_iload hx hb dX8_near_143 (lv_at hl 1 rfl) ?_
                              refine lv_istore (lv' := [(6, .int (nI jj)), (8, .long (Fi jj)), (7, .int (nI jj)), (5, .ref (ra i)), (4, .int (nI 3)), (0, .ref y), (2, .long p1)]) hx hb dX8_near_145 hl (by decide) rfl (fun ls hl => ?_)
                              refine lv_iinc (v := nI (jj + 1)) (lv' := [(7, .int (nI (jj + 1))), (6, .int (nI jj)), (8, .long (Fi jj)), (5, .ref (ra i)), (4, .int (nI 3)), (0, .ref y), (2, .long p1)]) hx hb dX8_near_147 hl (k := 2) rfl (nI_1 jj) (by decide) rfl (fun ls hl => ?_)
                              refine lv_goto (tgt := 62) hx hb dX8_near_150 (by decide) ?_
                              exact ihl H locs ls (nI jj) (jj + 1) (by omega) (qNb.dn (by decide) (by omega) (by unfold qFit; simp; omega) hnb c120) (by omega) (lv_sub hl [0, 1, 3, 4, 5, 6] rfl) hP hS
                            · replace c127 : ¬ p1.toInt < (Fi jj).toInt := fun zq => c127 ((lg_cmp_gt _ _).mpr (Int64.lt_iff_toInt_lt.mpr zq))
                              refine lv_iload hx hb dX8_near_130 (lv_at hl 4 rfl) ?_
                              refine lv_iconst (v := nI 2) hx hb dX8_near_132 (by decide) ?_
                              refine lv_icmp_ne (tgt := 147) hx hb dX8_near_133 (by decide) (fun c133 => ?_) (fun c133 => ?_)
                              · replace c133 : ¬ 3 = 2 := fun zq => c133 ((nI_eq (a := 3) (b := 2) (by omega) (by omega)).mpr zq)
                                refine lv_iinc (v := nI (jj + 1)) (lv' := [(7, .int (nI (jj + 1))), (8, .long (Fi jj)), (6, .int bx), (5, .ref (ra i)), (4, .int (nI 3)), (0, .ref y), (2, .long p1)]) hx hb dX8_near_147 hl (k := 1) rfl (nI_1 jj) (by decide) rfl (fun ls hl => ?_)
                                refine lv_goto (tgt := 62) hx hb dX8_near_150 (by decide) ?_
                                exact ihl H locs ls bx (jj + 1) (by omega) (qNb.no (by unfold qFit; simp; omega) hnb) (by omega) (lv_sub hl [0, 2, 3, 4, 5, 6] rfl) hP hS
                              · replace c133 : 3 = 2 := (nI_eq (a := 3) (b := 2) (by omega) (by omega)).mp c133
                                exfalso; omega
                      · replace c85 : ¬ 2 ≤ 3 := fun zq => c85 ((nI_leI (a := 2) (b := 3) (by omega) (by omega)).mpr zq)
                        exfalso; omega
                · replace c43 : 1 = 0 := (nI_eq (a := 1) (b := 0) (by omega) (by omega)).mp c43
                  exfalso; omega
  · have ebi : bSl p0 = false := bSl_f sl9
    refine lv_if_eq (tgt := 23) hx hb dX8_near_5 (by decide) (fun c5 => ?_) (fun c5 => ?_)
    · replace c5 : 0 = 0 := (nI_eq (a := 0) (b := 0) (by omega) (by omega)).mp c5
      refine lv_iconst (v := nI 0) hx hb dX8_near_23 (by decide) ?_
      refine lv_iconst (v := nI 1) hx hb dX8_near_24 (by decide) ?_
      refine q_callV (rest := []) C (c_X8_good0 l D cy N0 h y ms mb (ra 28) od pt fi re rc rs so ot cn la ro gr cd ca mv ct fau cs ce rn (nI 1) hY) kX8_good g1249 g1251 rfl gp41 g4 hP hS hY (by first | decide | omega) hl.1 rfl (by decide) (by first | decide | omega) dX8_near_25 (fun q ce E h' H1 locs1 hE => hE.elim) (fun v hh28 H locs hq hP hS => ?_)
      obtain ⟨rfl, rfl⟩ := hq
      replace hP : qP D N0 (qs h y (.inr (8, [.ref ms, .ref mb, .ref (ra 28), .int gr, .int (nI 1), .int ca, .int mv, .ref od, .ref pt, .int ct, .int fau, .ref fi, .ref re, .int cs, .ref rc, .ref rs, .ref so, .ref ot, .ref cn, .ref la, .int ce, .ref ro, .int rn]))) H := hP
      obtain ⟨hv23, ehv23⟩ : ∃ z : qH, z = qs h y (.inr (8, [.ref ms, .ref mb, .ref (ra 28), .int gr, .int (nI 1), .int ca, .int mv, .ref od, .ref pt, .int ct, .int fau, .ref fi, .ref re, .int cs, .ref rc, .ref rs, .ref so, .ref ot, .ref cn, .ref la, .int ce, .ref ro, .int rn])) := ⟨_, rfl⟩
      rw [← ehv23] at hP
      have khv23 : ∀ b o, b ≠ y → h b = some o → hv23 b = some o := by rw [ehv23]; exact fun b o nb hb => (qs_ne nb).trans hb
      replace hms := khv23 _ _ (fun q => by subst q; have := hms.symm.trans hY; first | cases this | simp at this) hms
      replace hmb := khv23 _ _ (fun q => by subst q; have := hmb.symm.trans hY; first | cases this | simp at this) hmb
      replace faw := khv23 _ _ (fun q => by have z9 := faw; rw [q] at z9; have := z9.symm.trans hY; first | cases this | simp at this) faw
      replace fkw := khv23 _ _ (fun q => by have z9 := fkw; rw [q] at z9; have := z9.symm.trans hY; first | cases this | simp at this) fkw
      replace fvw := khv23 _ _ (fun q => by have z9 := fvw; rw [q] at z9; have := z9.symm.trans hY; first | cases this | simp at this) fvw
      replace hY : hv23 y = some (.inr (8, [.ref ms, .ref mb, .ref (ra 28), .int gr, .int (nI 1), .int ca, .int mv, .ref od, .ref pt, .int ct, .int fau, .ref fi, .ref re, .int cs, .ref rc, .ref rs, .ref so, .ref ot, .ref cn, .ref la, .int ce, .ref ro, .int rn])) := by rw [ehv23]; exact qs_self
      clear ehv23
      replace fr := fun b o hb n1 n2 => khv23 b o n1 (fr b o hb n1 n2)
      refine lv_if_eq (tgt := 46) hx hb dX8_near_28 (by decide) (fun c28 => ?_) (fun c28 => ?_)
      · replace c28 : 0 = 0 := (nI_eq (a := 0) (b := 0) (by omega) (by omega)).mp c28
        refine lv_lconst (v := 0) hx hb dX8_near_46 (by decide) ?_
        have ex : xs_near S p0 p1 p2 = (1, 0) := by unfold xs_near; rw [if_pos (by simp [ebi])]
        obtain ⟨m9, f9⟩ := hM.fin0 hY0 (h' := hv23) ⟨hRw.1, hRw.2.1, hRw.2.2.1, faw, fkw, fvw⟩ fr
        exact q_lret C hP hS ⟨by first | (rw [ex]; done) | (rw [ex]; rfl), by rw [ex]; exact hY, by first | exact m9 | (rw [ex]; exact m9), f9⟩ (by omega) dX8_near_47
      · replace c28 : ¬ 0 = 0 := fun zq => c28 ((nI_eq (a := 0) (b := 0) (by omega) (by omega)).mpr zq)
        exfalso; omega
    · replace c5 : ¬ 0 = 0 := fun zq => c5 ((nI_eq (a := 0) (b := 0) (by omega) (by omega)).mpr zq)
      exfalso; omega
