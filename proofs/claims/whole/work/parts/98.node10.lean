theorem dX3_adding_0 : decode cX3_adding 0 = .ok (.aload_n 0, 1) := by decide +kernel
theorem dX3_adding_1 : decode cX3_adding 1 = .ok (.iload_n 1, 1) := by decide +kernel
theorem dX3_adding_2 : decode cX3_adding 2 = .ok (.invokevirtual 77, 3) := by decide +kernel
theorem dX3_adding_5 : decode cX3_adding 5 = .ok (.astore 7, 2) := by decide +kernel
theorem dX3_adding_7 : decode cX3_adding 7 = .ok (.lload_n 3, 1) := by decide +kernel
theorem dX3_adding_8 : decode cX3_adding 8 = .ok (.iload_n 2, 1) := by decide +kernel
theorem dX3_adding_9 : decode cX3_adding 9 = .ok (.invokestatic 41, 3) := by decide +kernel
theorem dX3_adding_12 : decode cX3_adding 12 = .ok (.aload 7, 2) := by decide +kernel
theorem dX3_adding_14 : decode cX3_adding 14 = .ok (.getfield 21, 3) := by decide +kernel
theorem dX3_adding_17 : decode cX3_adding 17 = .ok (.invokestatic 48, 3) := by decide +kernel
theorem dX3_adding_20 : decode cX3_adding 20 = .ok (.istore 8, 2) := by decide +kernel
theorem dX3_adding_22 : decode cX3_adding 22 = .ok (.aload 7, 2) := by decide +kernel
theorem dX3_adding_24 : decode cX3_adding 24 = .ok (.iload_n 2, 1) := by decide +kernel
theorem dX3_adding_25 : decode cX3_adding 25 = .ok (.lload_n 3, 1) := by decide +kernel
theorem dX3_adding_26 : decode cX3_adding 26 = .ok (.invokevirtual 66, 3) := by decide +kernel
theorem dX3_adding_29 : decode cX3_adding 29 = .ok (.istore 9, 2) := by decide +kernel
theorem dX3_adding_31 : decode cX3_adding 31 = .ok (.iload 9, 2) := by decide +kernel
theorem dX3_adding_33 : decode cX3_adding 33 = .ok (.ifCond .lt 16, 3) := by decide +kernel
theorem dX3_adding_36 : decode cX3_adding 36 = .ok (.aload 7, 2) := by decide +kernel
theorem dX3_adding_38 : decode cX3_adding 38 = .ok (.getfield 18, 3) := by decide +kernel
theorem dX3_adding_41 : decode cX3_adding 41 = .ok (.iload 9, 2) := by decide +kernel
theorem dX3_adding_43 : decode cX3_adding 43 = .ok (.lload 5, 2) := by decide +kernel
theorem dX3_adding_45 : decode cX3_adding 45 = .ok (.lastore, 1) := by decide +kernel
theorem dX3_adding_46 : decode cX3_adding 46 = .ok (.goto 74, 3) := by decide +kernel
theorem dX3_adding_49 : decode cX3_adding 49 = .ok (.aload 7, 2) := by decide +kernel
theorem dX3_adding_51 : decode cX3_adding 51 = .ok (.getfield 45, 3) := by decide +kernel
theorem dX3_adding_54 : decode cX3_adding 54 = .ok (.iload 8, 2) := by decide +kernel
theorem dX3_adding_56 : decode cX3_adding 56 = .ok (.iand, 1) := by decide +kernel
theorem dX3_adding_57 : decode cX3_adding 57 = .ok (.ifCond .eq 17, 3) := by decide +kernel
theorem dX3_adding_60 : decode cX3_adding 60 = .ok (.aload 7, 2) := by decide +kernel
theorem dX3_adding_62 : decode cX3_adding 62 = .ok (.iload 8, 2) := by decide +kernel
theorem dX3_adding_64 : decode cX3_adding 64 = .ok (.iload_n 2, 1) := by decide +kernel
theorem dX3_adding_65 : decode cX3_adding 65 = .ok (.lload_n 3, 1) := by decide +kernel
theorem dX3_adding_66 : decode cX3_adding 66 = .ok (.lload 5, 2) := by decide +kernel
theorem dX3_adding_68 : decode cX3_adding 68 = .ok (.invokevirtual 81, 3) := by decide +kernel
theorem dX3_adding_71 : decode cX3_adding 71 = .ok (.goto 49, 3) := by decide +kernel
theorem dX3_adding_74 : decode cX3_adding 74 = .ok (.aload 7, 2) := by decide +kernel
theorem dX3_adding_76 : decode cX3_adding 76 = .ok (.getfield 55, 3) := by decide +kernel
theorem dX3_adding_79 : decode cX3_adding 79 = .ok (.iload 8, 2) := by decide +kernel
theorem dX3_adding_81 : decode cX3_adding 81 = .ok (.iand, 1) := by decide +kernel
theorem dX3_adding_82 : decode cX3_adding 82 = .ok (.ifCond .eq 17, 3) := by decide +kernel
theorem dX3_adding_85 : decode cX3_adding 85 = .ok (.aload 7, 2) := by decide +kernel
theorem dX3_adding_87 : decode cX3_adding 87 = .ok (.iload 8, 2) := by decide +kernel
theorem dX3_adding_89 : decode cX3_adding 89 = .ok (.iload_n 2, 1) := by decide +kernel
theorem dX3_adding_90 : decode cX3_adding 90 = .ok (.lload_n 3, 1) := by decide +kernel
theorem dX3_adding_91 : decode cX3_adding 91 = .ok (.lload 5, 2) := by decide +kernel
theorem dX3_adding_93 : decode cX3_adding 93 = .ok (.invokevirtual 85, 3) := by decide +kernel
theorem dX3_adding_96 : decode cX3_adding 96 = .ok (.goto 24, 3) := by decide +kernel
theorem dX3_adding_99 : decode cX3_adding 99 = .ok (.aload 7, 2) := by decide +kernel
theorem dX3_adding_101 : decode cX3_adding 101 = .ok (.iload 8, 2) := by decide +kernel
theorem dX3_adding_103 : decode cX3_adding 103 = .ok (.lload_n 3, 1) := by decide +kernel
theorem dX3_adding_104 : decode cX3_adding 104 = .ok (.lload 5, 2) := by decide +kernel
theorem dX3_adding_106 : decode cX3_adding 106 = .ok (.invokevirtual 88, 3) := by decide +kernel
theorem dX3_adding_109 : decode cX3_adding 109 = .ok (.aload 7, 2) := by decide +kernel
theorem dX3_adding_111 : decode cX3_adding 111 = .ok (.dup, 1) := by decide +kernel
theorem dX3_adding_112 : decode cX3_adding 112 = .ok (.getfield 32, 3) := by decide +kernel
theorem dX3_adding_115 : decode cX3_adding 115 = .ok (.iconst 1, 1) := by decide +kernel
theorem dX3_adding_116 : decode cX3_adding 116 = .ok (.iadd, 1) := by decide +kernel
theorem dX3_adding_117 : decode cX3_adding 117 = .ok (.putfield 32, 3) := by decide +kernel
theorem dX3_adding_120 : decode cX3_adding 120 = .ok (.aload 7, 2) := by decide +kernel
theorem dX3_adding_122 : decode cX3_adding 122 = .ok (.areturn, 1) := by decide +kernel
set_option maxRecDepth 100000 in
set_option maxHeartbeats 4000000 in
theorem c_X3_adding_open (l : Launch) (D : va_G) (cy : Nat → ClassId) (N0 : Nat) (h : qH) (Im : Nat → Prop) (e9 : Nat) (Ok : Nat → Prop) (m9 : Int32) (r a : Nat) (L : qKV) (X : Nat → Prop) (k x : Int64) (N : Nat) (hT : qTr cy h Im e9 Ok m9 r a L X) (hE : qEd cy h Im X) (hO : ¬ Ok e9) (he9 : e9 < 2 ^ 31) (hr : r ≤ 7) (hN : L.length ≤ N) (hN9 : N < 100000) (hno : qNo L) (ih : ∀ r', r = r' + 1 → r' ≤ 7 → qAddC l D cy N0 e9 Ok m9 N r') : qC l D cy N0 yX3_adding cX3_adding 10 (some (.object RX3)) (8 + 2 * r) (400 + 150 * r) (5 * r + 10) (aMs N r) [.ref a, .int (nI e9), .int m9, .long k, .long x] h (fun v h' => ∃ (a1 : Nat) (X2 Im2 : Nat → Prop), v = some (.ref a1) ∧ qTr cy h' Im2 e9 Ok m9 r a1 (thP L k x) X2 ∧ qEd cy h' Im2 X2 ∧ qCh h Im X h' Im2 X2) (fun E h' => False) := by
  refine q_ofW (by decide) (by exact Nat.le_of_ble_eq_true rfl) ?_
  intro p e s m below meth c ls C hP hl
  have hx := C.1
  have hb := C.2.1
  have hS : va_S (qA N0) s.heap s.heap [] := va_S.rf
  have hl : lv_has ls 10 [(0, .ref a), (1, .int (nI e9)), (2, .int m9), (3, .long k), (5, .long x)] := hl
  obtain ⟨hra, fsa, fa⟩ := hT.root
  have hkl0 := trK_len (m := m9) (r := 0) (L := L)
  cases r with
  | zero =>
    have hkl := trK_len (m := m9) (r := 0) (L := L)
    have hams := aMs_ge (N := N) 0
    refine lv_aload_n hx hb dX3_adding_0 rfl (lv_at hl 0 rfl) ?_
    refine lv_iload_n hx hb dX3_adding_1 rfl (lv_at hl 1 rfl) ?_
    refine q_callV (rest := []) C (c_X3_ownedBy l D cy N0 h Im e9 Ok m9 0 a L X hT (by omega) (by omega) hE he9) kX3_ownedBy g390 g392 rfl gp7 g12 hP hS fa (by first | decide | omega) hl.1 rfl (by decide) (by first | decide | omega) dX3_adding_2 (fun q ce E h' H1 locs1 hE => hE.elim) (fun v hh1 H locs hq hP hS => ?_)
    obtain ⟨a1, ka1, va1, na1, C1, Xs1, X1, rfl, hle1, hW, hEw, hchw⟩ := hq
    have f1 := hW.1.1
    have fk1 := hW.1.2.1
    have fv1 := hW.1.2.2.1
    have fn1 := hW.1.2.2.2.1
    unfold thNo at f1
    unfold thJ at fk1 fv1
    unfold thA at fn1
    rw [List.length_map] at fk1 fv1
    have ow0 := hW.own hO
    refine lv_astore (lv' := [(7, .ref a1), (0, .ref a), (1, .int (nI e9)), (2, .int m9), (3, .long k), (5, .long x)]) hx hb dX3_adding_5 hl (by decide) rfl (fun ls hl => ?_)
    refine lv_lload_n hx hb dX3_adding_7 rfl (lv_at hl 4 rfl) ?_
    refine lv_iload_n hx hb dX3_adding_8 rfl (lv_at hl 3 rfl) ?_
    refine q_callS (rest := []) C (c_X3_hashOf l D cy N0 hh1 k m9) kX3_hashOf g299 g300 hP hS (by first | decide | omega) hl.1 rfl (by decide) (by first | decide | omega) dX3_adding_9 (fun q ce E h' H1 locs1 hE => hE.elim) (fun v hh2 H locs hq hP hS => ?_)
    obtain ⟨rfl, rfl⟩ := hq
    refine lv_aload hx hb dX3_adding_12 (lv_at hl 0 rfl) ?_
    refine q_get C hP f1 rfl inX3 0 (by decide) g361 rfl dX3_adding_14 ?_
    refine q_callS (rest := []) C (c_X3_bitOf l D cy N0 hh1 k m9 (7 - 0) (by omega)) kX3_bitOf g302 g303 hP hS (by first | decide | omega) hl.1 rfl (by decide) (by first | decide | omega) dX3_adding_17 (fun q ce E h' H1 locs1 hE => hE.elim) (fun v hh3 H locs hq hP hS => ?_)
    obtain ⟨rfl, rfl⟩ := hq
    rw [thB_0]
    refine lv_istore (lv' := [(8, .int (nI 0)), (7, .ref a1), (0, .ref a), (1, .int (nI e9)), (2, .int m9), (3, .long k), (5, .long x)]) hx hb dX3_adding_20 hl (by decide) rfl (fun ls hl => ?_)
    refine lv_aload hx hb dX3_adding_22 (lv_at hl 1 rfl) ?_
    refine lv_iload_n hx hb dX3_adding_24 rfl (lv_at hl 4 rfl) ?_
    refine lv_lload_n hx hb dX3_adding_25 rfl (lv_at hl 5 rfl) ?_
    refine q_callV (rest := []) C (c_X3_placeOf l D cy N0 hh1 Im e9 Ok m9 0 a1 L L.length X1 e9 ka1 va1 na1 C1 k hW.1 (by omega) (by omega) (by omega)) kX3_placeOf g314 g316 rfl gp5 g12 hP hS f1 (by first | decide | omega) hl.1 rfl (by decide) (by first | decide | omega) dX3_adding_26 (fun q ce E h' H1 locs1 hE => hE.elim) (fun v hh4 H locs hq hP hS => ?_)
    obtain ⟨rfl, hq⟩ := hq
    rcases hq with ⟨j9, x9, rfl, ex9⟩ | ⟨rfl, no9⟩
    · have hjl := (List.getElem?_eq_some_iff.mp ex9).1
      refine lv_istore (lv' := [(9, .int (nI j9)), (8, .int (nI 0)), (7, .ref a1), (0, .ref a), (1, .int (nI e9)), (2, .int m9), (3, .long k), (5, .long x)]) hx hb dX3_adding_29 hl (by decide) rfl (fun ls hl => ?_)
      refine lv_iload hx hb dX3_adding_31 (lv_at hl 0 rfl) ?_
      refine lv_if_lt (tgt := 49) hx hb dX3_adding_33 (by decide) (fun c33 => ?_) (fun c33 => ?_)
      · replace c33 : j9 < 0 := (nI_ltI (a := j9) (b := 0) (by omega) (by omega)).mp c33
        exfalso; omega
      · replace c33 : ¬ j9 < 0 := fun zq => c33 ((nI_ltI (a := j9) (b := 0) (by omega) (by omega)).mpr zq)
        have fr : ∀ b o, hh1 b = some o → b ≠ va1 → hh1 b = some o := fun b o hb _ => hb
        have fd : ∀ b o, hh1 b = some o → ∃ o', hh1 b = some o' := fun b o hb => ⟨o, hb⟩
        refine lv_aload hx hb dX3_adding_36 (lv_at hl 2 rfl) ?_
        refine q_get C hP f1 rfl inX3 6 (by decide) g367 rfl dX3_adding_38 ?_
        refine lv_iload hx hb dX3_adding_41 (lv_at hl 0 rfl) ?_
        refine lv_lload hx hb dX3_adding_43 (lv_at hl 7 rfl) ?_
        refine q_lastN C hP hS fv1 (by omega) (by omega) dX3_adding_45 (fun H locs hP hS => ?_)
        replace hP : qP D N0 (qs hh1 va1 (thJ cy ((List.map Prod.snd (trK m9 0 L)).set j9 x))) H := by have z := hP.setJ (K := (List.map Prod.snd (trK m9 0 L)).set j9 x) qs_self (by rw [List.length_set, List.length_map]) (fun i hi => th_setJ (by rw [List.length_map]; exact hi)); rw [qs_qs] at z; exact z
        obtain ⟨hv1, ehv1⟩ : ∃ z : qH, z = qs hh1 va1 (thJ cy ((List.map Prod.snd (trK m9 0 L)).set j9 x)) := ⟨_, rfl⟩
        rw [← ehv1] at hP
        have khv1 : ∀ b o, b ≠ va1 → hh1 b = some o → hv1 b = some o := by rw [ehv1]; exact fun b o nb hb => (qs_ne nb).trans hb
        replace f1 := khv1 _ _ (fun q => by subst q; have := f1.symm.trans fv1; first | cases this | simp at this) f1
        replace fv1 : hv1 va1 = some (thJ cy ((List.map Prod.snd (trK m9 0 L)).set j9 x)) := by rw [ehv1]; exact qs_self
        clear ehv1
        replace fr : ∀ b o, hh1 b = some o → b ≠ va1 → hv1 b = some o := fun b o hb n0_ => khv1 b o n0_ (fr b o hb n0_)
        replace fd : ∀ b o, hh1 b = some o → ∃ o', hv1 b = some o' := fun b o hb => if z9 : b = va1 then ⟨_, (congrArg hv1 z9).trans fv1⟩ else (fd b o hb).elim (fun o9 h9 => ⟨o9, khv1 b o9 z9 h9⟩)
        refine lv_goto (tgt := 120) hx hb dX3_adding_46 (by decide) ?_
        refine lv_aload hx hb dX3_adding_120 (lv_at hl 2 rfl) ?_
        obtain ⟨X2, Im2, hr1, hr2, hr3⟩ := own_set (x := x) hW hEw hO hno ex9 fr fv1
        exact q_aret (v := some a1) C (Or.inl ⟨_, rfl⟩) hP hS ⟨a1, X2, Im2, rfl, hr1, hr2, hchw.tr hr3⟩ (by omega) dX3_adding_122
    · refine lv_istore (lv' := [(9, .int (-1)), (8, .int (nI 0)), (7, .ref a1), (0, .ref a), (1, .int (nI e9)), (2, .int m9), (3, .long k), (5, .long x)]) hx hb dX3_adding_29 hl (by decide) rfl (fun ls hl => ?_)
      refine lv_iload hx hb dX3_adding_31 (lv_at hl 0 rfl) ?_
      refine lv_if_lt (tgt := 49) hx hb dX3_adding_33 (by decide) (fun _ => ?_) (fun c => absurd (by decide) c)
      refine lv_aload hx hb dX3_adding_49 (lv_at hl 2 rfl) ?_
      refine q_get C hP f1 rfl inX3 3 (by decide) g364 rfl dX3_adding_51 ?_
      refine lv_iload hx hb dX3_adding_54 (lv_at hl 1 rfl) ?_
      refine lv_iand hx hb dX3_adding_56 ?_
      refine lv_if_eq (tgt := 74) hx hb dX3_adding_57 (by decide) (fun _ => ?_) (fun c => absurd (show nI 0 &&& nI 0 = 0 by decide) c)
      refine lv_aload hx hb dX3_adding_74 (lv_at hl 2 rfl) ?_
      refine q_get C hP f1 rfl inX3 2 (by decide) g363 rfl dX3_adding_76 ?_
      refine lv_iload hx hb dX3_adding_79 (lv_at hl 1 rfl) ?_
      refine lv_iand hx hb dX3_adding_81 ?_
      refine lv_if_eq (tgt := 99) hx hb dX3_adding_82 (by decide) (fun _ => ?_) (fun c => absurd (show nI 0 &&& nI 0 = 0 by decide) c)
      refine lv_aload hx hb dX3_adding_99 (lv_at hl 2 rfl) ?_
      refine lv_iload hx hb dX3_adding_101 (lv_at hl 1 rfl) ?_
      refine lv_lload_n hx hb dX3_adding_103 rfl (lv_at hl 6 rfl) ?_
      refine lv_lload hx hb dX3_adding_104 (lv_at hl 7 rfl) ?_
      refine q_callV (rest := []) C (c_X3_insertKey0 l D cy N0 hh1 Im e9 Ok m9 a1 L L.length X1 e9 ka1 va1 na1 C1 k x hW.1 (by omega)) kX3_insertKey g430 g432 rfl gp11 g12 hP hS f1 (by first | decide | omega) hl.1 rfl (by decide) (by first | decide | omega) dX3_adding_106 (fun q ce E h' H1 locs1 hE => hE.elim) (fun v hh5 H locs hq hP hS => ?_)
      obtain ⟨rfl, j9, hj9, k9, g9, ka3, va3, n1, n2, n3, g3, gk3, gv3, fr, fd⟩ := hq
      refine lv_aload hx hb dX3_adding_109 (lv_at hl 2 rfl) ?_
      refine lv_dup hx hb dX3_adding_111 rfl ?_
      refine q_get C hP g3 rfl inX3 4 (by decide) g365 rfl dX3_adding_112 ?_
      refine lv_iconst (v := nI 1) hx hb dX3_adding_115 (by decide) ?_
      refine q_iaddN hx hb dX3_adding_116 ?_
      refine q_put C hP hS g3 rfl inX3 tyX3 tyX3_ok nmX3 4 (by decide) g365 rfl rfl rfl (Nat.le_of_ble_eq_true rfl) dX3_adding_117 (fun H locs hP hS => ?_)
      replace hP : qP D N0 (qs hh5 a1 (.inr (3, [.int (nI (7 - 0)), .int (nI e9), .int ((nI (trKb m9 0 L)) ||| nI 0), .int (nI (trNb m9 0 L)), .int (nI ((L.length) + 1)), .ref ka3, .ref va3, .ref na1]))) H := hP
      obtain ⟨hv2, ehv2⟩ : ∃ z : qH, z = qs hh5 a1 (.inr (3, [.int (nI (7 - 0)), .int (nI e9), .int ((nI (trKb m9 0 L)) ||| nI 0), .int (nI (trNb m9 0 L)), .int (nI ((L.length) + 1)), .ref ka3, .ref va3, .ref na1])) := ⟨_, rfl⟩
      rw [← ehv2] at hP
      have khv2 : ∀ b o, b ≠ a1 → hh5 b = some o → hv2 b = some o := by rw [ehv2]; exact fun b o nb hb => (qs_ne nb).trans hb
      replace gk3 := khv2 _ _ (fun q => by subst q; have := gk3.symm.trans g3; first | cases this | simp at this) gk3
      replace gv3 := khv2 _ _ (fun q => by subst q; have := gv3.symm.trans g3; first | cases this | simp at this) gv3
      replace g3 : hv2 a1 = some (.inr (3, [.int (nI (7 - 0)), .int (nI e9), .int ((nI (trKb m9 0 L)) ||| nI 0), .int (nI (trNb m9 0 L)), .int (nI ((L.length) + 1)), .ref ka3, .ref va3, .ref na1])) := by rw [ehv2]; exact qs_self
      clear ehv2
      replace fr : ∀ b o, hh1 b = some o → b ≠ a1 → hv2 b = some o := fun b o hb n0_ => khv2 b o n0_ (fr b o hb n0_)
      replace fd : ∀ b o, hh1 b = some o → ∃ o', hv2 b = some o' := fun b o hb => if z9 : b = a1 then ⟨_, (congrArg hv2 z9).trans g3⟩ else (fd b o hb).elim (fun o9 h9 => ⟨o9, khv2 b o9 z9 h9⟩)
      refine lv_aload hx hb dX3_adding_120 (lv_at hl 2 rfl) ?_
      have hnk : xHas L k = false := xHas_no.mpr (fun p hp => no9 p ((thO_perm L).mem_iff.mpr hp))
      have eP : thP L k x = L ++ [(k, x)] := thP_no hnk
      have hlp : (thP L k x).length = L.length + 1 := by rw [eP, List.length_append]; rfl
      have hne9 : j9 < (trK m9 0 L).length → k.toInt < ((List.map Prod.fst (trK m9 0 L)).getD j9 0).toInt := fun z => by have h8 := g9 z; have h7 : ((List.map Prod.fst (trK m9 0 L)).getD j9 0) ≠ k := by { rw [th_key (List.getElem?_eq_getElem z)]; exact no9 _ (List.getElem_mem z) }; have h6 : ((List.map Prod.fst (trK m9 0 L)).getD j9 0).toInt ≠ k.toInt := fun q => h7 (Int64.toInt_inj.mp q); omega
      have eK : trK m9 0 (thP L k x) = (trK m9 0 L).take j9 ++ (k, x) :: (trK m9 0 L).drop j9 := by rw [eP]; show thO (L ++ [(k, x)]) = _; rw [thO_put hno hnk]; exact xSi_at (thO_up L) hj9 k9 hne9
      obtain ⟨X2, Im2, hr1, hr2, hr3⟩ := own_ins (L' := thP L k x) (j := j9) (p := (k, x)) hW hEw hO eK rfl rfl (fun v r9 e9 => by cases e9) n1 n2 n3 fr fd (by unfold thNo; rw [hlp, show nI (trKb m9 0 (thP L k x)) = nI (trKb m9 0 L) ||| nI 0 from show nI 0 = nI 0 ||| nI 0 by decide]; exact g3) gk3 gv3
      exact q_aret (v := some a1) C (Or.inl ⟨_, rfl⟩) hP hS ⟨a1, X2, Im2, rfl, hr1, hr2, hchw.tr hr3⟩ (by omega) dX3_adding_122
  | succ r =>
    have hkl := trK_len (m := m9) (r := (r + 1)) (L := L)
    have hams := aMs_ge (N := N) r
    have hams1 := aMs_s (N := N) (r := r)
    refine lv_aload_n hx hb dX3_adding_0 rfl (lv_at hl 0 rfl) ?_
    refine lv_iload_n hx hb dX3_adding_1 rfl (lv_at hl 1 rfl) ?_
    refine q_callV (rest := []) C (c_X3_ownedBy l D cy N0 h Im e9 Ok m9 (r + 1) a L X hT (by omega) (by omega) hE he9) kX3_ownedBy g390 g392 rfl gp7 g12 hP hS fa (by first | decide | omega) hl.1 rfl (by decide) (by first | decide | omega) dX3_adding_2 (fun q ce E h' H1 locs1 hE => hE.elim) (fun v hh6 H locs hq hP hS => ?_)
    obtain ⟨a1, ka1, va1, na1, C1, Xs1, X1, rfl, hle1, hW, hEw, hchw⟩ := hq
    have f1 := hW.1.1
    have fk1 := hW.1.2.1
    have fv1 := hW.1.2.2.1
    have fn1 := hW.1.2.2.2.1
    unfold thNo at f1
    unfold thJ at fk1 fv1
    unfold thA at fn1
    rw [List.length_map] at fk1 fv1
    have ow0 := hW.own hO
    refine lv_astore (lv' := [(7, .ref a1), (0, .ref a), (1, .int (nI e9)), (2, .int m9), (3, .long k), (5, .long x)]) hx hb dX3_adding_5 hl (by decide) rfl (fun ls hl => ?_)
    refine lv_lload_n hx hb dX3_adding_7 rfl (lv_at hl 4 rfl) ?_
    refine lv_iload_n hx hb dX3_adding_8 rfl (lv_at hl 3 rfl) ?_
    refine q_callS (rest := []) C (c_X3_hashOf l D cy N0 hh6 k m9) kX3_hashOf g299 g300 hP hS (by first | decide | omega) hl.1 rfl (by decide) (by first | decide | omega) dX3_adding_9 (fun q ce E h' H1 locs1 hE => hE.elim) (fun v hh7 H locs hq hP hS => ?_)
    obtain ⟨rfl, rfl⟩ := hq
    refine lv_aload hx hb dX3_adding_12 (lv_at hl 0 rfl) ?_
    refine q_get C hP f1 rfl inX3 0 (by decide) g361 rfl dX3_adding_14 ?_
    refine q_callS (rest := []) C (c_X3_bitOf l D cy N0 hh6 k m9 (7 - (r + 1)) (by omega)) kX3_bitOf g302 g303 hP hS (by first | decide | omega) hl.1 rfl (by decide) (by first | decide | omega) dX3_adding_17 (fun q ce E h' H1 locs1 hE => hE.elim) (fun v hh8 H locs hq hP hS => ?_)
    obtain ⟨rfl, rfl⟩ := hq
    rw [thB_s (m := m9) (k := k) (r := r) (by omega)]
    refine lv_istore (lv' := [(8, .int (nI (2 ^ thN m9 (6 - r) k))), (7, .ref a1), (0, .ref a), (1, .int (nI e9)), (2, .int m9), (3, .long k), (5, .long x)]) hx hb dX3_adding_20 hl (by decide) rfl (fun ls hl => ?_)
    refine lv_aload hx hb dX3_adding_22 (lv_at hl 1 rfl) ?_
    refine lv_iload_n hx hb dX3_adding_24 rfl (lv_at hl 4 rfl) ?_
    refine lv_lload_n hx hb dX3_adding_25 rfl (lv_at hl 5 rfl) ?_
    refine q_callV (rest := []) C (c_X3_placeOf l D cy N0 hh6 Im e9 Ok m9 (r + 1) a1 L L.length X1 e9 ka1 va1 na1 C1 k hW.1 (by omega) (by omega) (by omega)) kX3_placeOf g314 g316 rfl gp5 g12 hP hS f1 (by first | decide | omega) hl.1 rfl (by decide) (by first | decide | omega) dX3_adding_26 (fun q ce E h' H1 locs1 hE => hE.elim) (fun v hh9 H locs hq hP hS => ?_)
    obtain ⟨rfl, hq⟩ := hq
    rcases hq with ⟨j9, x9, rfl, ex9⟩ | ⟨rfl, no9⟩
    · have hjl := (List.getElem?_eq_some_iff.mp ex9).1
      refine lv_istore (lv' := [(9, .int (nI j9)), (8, .int (nI (2 ^ thN m9 (6 - r) k))), (7, .ref a1), (0, .ref a), (1, .int (nI e9)), (2, .int m9), (3, .long k), (5, .long x)]) hx hb dX3_adding_29 hl (by decide) rfl (fun ls hl => ?_)
      refine lv_iload hx hb dX3_adding_31 (lv_at hl 0 rfl) ?_
      refine lv_if_lt (tgt := 49) hx hb dX3_adding_33 (by decide) (fun c33 => ?_) (fun c33 => ?_)
      · replace c33 : j9 < 0 := (nI_ltI (a := j9) (b := 0) (by omega) (by omega)).mp c33
        exfalso; omega
      · replace c33 : ¬ j9 < 0 := fun zq => c33 ((nI_ltI (a := j9) (b := 0) (by omega) (by omega)).mpr zq)
        have fr : ∀ b o, hh6 b = some o → b ≠ va1 → hh6 b = some o := fun b o hb _ => hb
        have fd : ∀ b o, hh6 b = some o → ∃ o', hh6 b = some o' := fun b o hb => ⟨o, hb⟩
        refine lv_aload hx hb dX3_adding_36 (lv_at hl 2 rfl) ?_
        refine q_get C hP f1 rfl inX3 6 (by decide) g367 rfl dX3_adding_38 ?_
        refine lv_iload hx hb dX3_adding_41 (lv_at hl 0 rfl) ?_
        refine lv_lload hx hb dX3_adding_43 (lv_at hl 7 rfl) ?_
        refine q_lastN C hP hS fv1 (by omega) (by omega) dX3_adding_45 (fun H locs hP hS => ?_)
        replace hP : qP D N0 (qs hh6 va1 (thJ cy ((List.map Prod.snd (trK m9 (r + 1) L)).set j9 x))) H := by have z := hP.setJ (K := (List.map Prod.snd (trK m9 (r + 1) L)).set j9 x) qs_self (by rw [List.length_set, List.length_map]) (fun i hi => th_setJ (by rw [List.length_map]; exact hi)); rw [qs_qs] at z; exact z
        obtain ⟨hv3, ehv3⟩ : ∃ z : qH, z = qs hh6 va1 (thJ cy ((List.map Prod.snd (trK m9 (r + 1) L)).set j9 x)) := ⟨_, rfl⟩
        rw [← ehv3] at hP
        have khv3 : ∀ b o, b ≠ va1 → hh6 b = some o → hv3 b = some o := by rw [ehv3]; exact fun b o nb hb => (qs_ne nb).trans hb
        replace f1 := khv3 _ _ (fun q => by subst q; have := f1.symm.trans fv1; first | cases this | simp at this) f1
        replace fv1 : hv3 va1 = some (thJ cy ((List.map Prod.snd (trK m9 (r + 1) L)).set j9 x)) := by rw [ehv3]; exact qs_self
        clear ehv3
        replace fr : ∀ b o, hh6 b = some o → b ≠ va1 → hv3 b = some o := fun b o hb n0_ => khv3 b o n0_ (fr b o hb n0_)
        replace fd : ∀ b o, hh6 b = some o → ∃ o', hv3 b = some o' := fun b o hb => if z9 : b = va1 then ⟨_, (congrArg hv3 z9).trans fv1⟩ else (fd b o hb).elim (fun o9 h9 => ⟨o9, khv3 b o9 z9 h9⟩)
        refine lv_goto (tgt := 120) hx hb dX3_adding_46 (by decide) ?_
        refine lv_aload hx hb dX3_adding_120 (lv_at hl 2 rfl) ?_
        obtain ⟨X2, Im2, hr1, hr2, hr3⟩ := own_set (x := x) hW hEw hO hno ex9 fr fv1
        exact q_aret (v := some a1) C (Or.inl ⟨_, rfl⟩) hP hS ⟨a1, X2, Im2, rfl, hr1, hr2, hchw.tr hr3⟩ (by omega) dX3_adding_122
    · refine lv_istore (lv' := [(9, .int (-1)), (8, .int (nI (2 ^ thN m9 (6 - r) k))), (7, .ref a1), (0, .ref a), (1, .int (nI e9)), (2, .int m9), (3, .long k), (5, .long x)]) hx hb dX3_adding_29 hl (by decide) rfl (fun ls hl => ?_)
      refine lv_iload hx hb dX3_adding_31 (lv_at hl 0 rfl) ?_
      refine lv_if_lt (tgt := 49) hx hb dX3_adding_33 (by decide) (fun _ => ?_) (fun c => absurd (by decide) c)
      refine lv_aload hx hb dX3_adding_49 (lv_at hl 2 rfl) ?_
      refine q_get C hP f1 rfl inX3 3 (by decide) g364 rfl dX3_adding_51 ?_
      refine lv_iload hx hb dX3_adding_54 (lv_at hl 1 rfl) ?_
      refine lv_iand hx hb dX3_adding_56 ?_
      refine lv_if_eq (tgt := 74) hx hb dX3_adding_57 (by decide) (fun c57 => ?_) (fun c57 => ?_)
      · have hmf := (trNb_has thN_lt).mp c57
        refine lv_aload hx hb dX3_adding_74 (lv_at hl 2 rfl) ?_
        refine q_get C hP f1 rfl inX3 2 (by decide) g363 rfl dX3_adding_76 ?_
        refine lv_iload hx hb dX3_adding_79 (lv_at hl 1 rfl) ?_
        refine lv_iand hx hb dX3_adding_81 ?_
        refine lv_if_eq (tgt := 99) hx hb dX3_adding_82 (by decide) (fun c82 => ?_) (fun c82 => ?_)
        · have hsf := (trKb_has thN_lt).mp c82
          refine lv_aload hx hb dX3_adding_99 (lv_at hl 2 rfl) ?_
          refine lv_iload hx hb dX3_adding_101 (lv_at hl 1 rfl) ?_
          refine lv_lload_n hx hb dX3_adding_103 rfl (lv_at hl 6 rfl) ?_
          refine lv_lload hx hb dX3_adding_104 (lv_at hl 7 rfl) ?_
          have hrs : (tqC (thS m9 (6 - r) L) (thN m9 (6 - r) k)) ≤ (trK m9 (r + 1) L).length := by obtain ⟨P2, Q2, f1, -, f3⟩ := trK_two (m := m9) (r := r) (L := L) (L' := L) (fun _ _ => rfl) (thN_lt (m := m9) (d := 6 - r) (k := k)); rw [f1, ← f3, List.length_append]; omega
          have hl1 : (List.map Prod.fst (trK m9 (r + 1) L)).length = (trK m9 (r + 1) L).length := List.length_map _
          have hl2 : (List.map Prod.snd (trK m9 (r + 1) L)).length = (trK m9 (r + 1) L).length := List.length_map _
          refine q_callV (rest := []) C (c_X3_insertKey l D cy N0 hh6 a1 (7 - (r + 1)) e9 L.length ka1 va1 na1 (thS m9 (6 - r) L) (thN m9 (6 - r) k) (nI (trNb m9 (r + 1) L)) (List.map Prod.fst (trK m9 (r + 1) L)) (List.map Prod.snd (trK m9 (r + 1) L)) k x f1 hW.1.2.1 hW.1.2.2.1 (by omega) thN_lt (by omega) (by omega) (by omega)) kX3_insertKey g430 g432 rfl gp11 g12 hP hS f1 (by first | decide | omega) hl.1 rfl (by decide) (by first | decide | omega) dX3_adding_106 (fun q ce E h' H1 locs1 hE => hE.elim) (fun v hh10 H locs hq hP hS => ?_)
          obtain ⟨rfl, ka3, va3, n1, n2, n3, g3, gk3, gv3, fr, fd⟩ := hq
          refine lv_aload hx hb dX3_adding_109 (lv_at hl 2 rfl) ?_
          refine lv_dup hx hb dX3_adding_111 rfl ?_
          refine q_get C hP g3 rfl inX3 4 (by decide) g365 rfl dX3_adding_112 ?_
          refine lv_iconst (v := nI 1) hx hb dX3_adding_115 (by decide) ?_
          refine q_iaddN hx hb dX3_adding_116 ?_
          refine q_put C hP hS g3 rfl inX3 tyX3 tyX3_ok nmX3 4 (by decide) g365 rfl rfl rfl (Nat.le_of_ble_eq_true rfl) dX3_adding_117 (fun H locs hP hS => ?_)
          replace hP : qP D N0 (qs hh10 a1 (.inr (3, [.int (nI (7 - (r + 1))), .int (nI e9), .int ((nI (trKb m9 (r + 1) L)) ||| nI (2 ^ thN m9 (6 - r) k)), .int (nI (trNb m9 (r + 1) L)), .int (nI ((L.length) + 1)), .ref ka3, .ref va3, .ref na1]))) H := hP
          obtain ⟨hv4, ehv4⟩ : ∃ z : qH, z = qs hh10 a1 (.inr (3, [.int (nI (7 - (r + 1))), .int (nI e9), .int ((nI (trKb m9 (r + 1) L)) ||| nI (2 ^ thN m9 (6 - r) k)), .int (nI (trNb m9 (r + 1) L)), .int (nI ((L.length) + 1)), .ref ka3, .ref va3, .ref na1])) := ⟨_, rfl⟩
          rw [← ehv4] at hP
          have khv4 : ∀ b o, b ≠ a1 → hh10 b = some o → hv4 b = some o := by rw [ehv4]; exact fun b o nb hb => (qs_ne nb).trans hb
          replace gk3 := khv4 _ _ (fun q => by subst q; have := gk3.symm.trans g3; first | cases this | simp at this) gk3
          replace gv3 := khv4 _ _ (fun q => by subst q; have := gv3.symm.trans g3; first | cases this | simp at this) gv3
          replace g3 : hv4 a1 = some (.inr (3, [.int (nI (7 - (r + 1))), .int (nI e9), .int ((nI (trKb m9 (r + 1) L)) ||| nI (2 ^ thN m9 (6 - r) k)), .int (nI (trNb m9 (r + 1) L)), .int (nI ((L.length) + 1)), .ref ka3, .ref va3, .ref na1])) := by rw [ehv4]; exact qs_self
          clear ehv4
          replace fr : ∀ b o, hh6 b = some o → b ≠ a1 → hv4 b = some o := fun b o hb n0_ => khv4 b o n0_ (fr b o hb n0_)
          replace fd : ∀ b o, hh6 b = some o → ∃ o', hv4 b = some o' := fun b o hb => if z9 : b = a1 then ⟨_, (congrArg hv4 z9).trans g3⟩ else (fd b o hb).elim (fun o9 h9 => ⟨o9, khv4 b o9 z9 h9⟩)
          refine lv_aload hx hb dX3_adding_120 (lv_at hl 2 rfl) ?_
          have hb0 : thK m9 (6 - r) (thN m9 (6 - r) k) L = [] := by unfold thM at hmf; unfold thS at hsf; have h8 := of_decide_eq_false hmf; have h9 := of_decide_eq_false hsf; exact List.eq_nil_of_length_eq_zero (by omega)
          have hnk : xHas L k = false := by rw [← thK_has (m := m9) (d := 6 - r), hb0]; rfl
          have eP : thP L k x = L ++ [(k, x)] := thP_no hnk
          have hlp : (thP L k x).length = L.length + 1 := by rw [eP, List.length_append]; rfl
          have hu9 : ∀ u, u ≠ (thN m9 (6 - r) k) → thK m9 (6 - r) u (thP L k x) = thK m9 (6 - r) u L := fun u hu => thK_put2 hu
          have hb1 : thK m9 (6 - r) (thN m9 (6 - r) k) (thP L k x) = [(k, x)] := by rw [thK_put, hb0]; rfl
          have hS2 : thS m9 (6 - r) (thP L k x) (thN m9 (6 - r) k) = true := by unfold thS; rw [hb1]; rfl
          have hM2 : thM m9 (6 - r) (thP L k x) (thN m9 (6 - r) k) = false := by unfold thM; rw [hb1]; rfl
          have eK : trK m9 (r + 1) (thP L k x) = (trK m9 (r + 1) L).take (tqC (thS m9 (6 - r) L) (thN m9 (6 - r) k)) ++ (k, x) :: (trK m9 (r + 1) L).drop (tqC (thS m9 (6 - r) L) (thN m9 (6 - r) k)) := by obtain ⟨P2, Q2, f1, f2, f3⟩ := trK_two hu9 thN_lt; rw [f1, f2]; unfold thF; rw [hS2, hsf, if_pos rfl, hb1]; exact (take_at f3.symm (k, x)).symm
          have eM : trM m9 (r + 1) (thP L k x) = trM m9 (r + 1) L := by obtain ⟨P2, Q2, f1, f2, -, -⟩ := trM_two hu9 thN_lt; rw [f1, f2]; unfold thG; rw [hM2, hmf]
          have eN := (trNb_two hu9 thN_lt).1 (by rw [hM2, hmf])
          have eB := (trKb_two hu9 thN_lt).2.1 hS2
          obtain ⟨X2, Im2, hr1, hr2, hr3⟩ := own_ins (L' := thP L k x) (j := (tqC (thS m9 (6 - r) L) (thN m9 (6 - r) k))) (p := (k, x)) hW hEw hO eK eM eN (fun v r9 e8 hv => by cases e8; exact hu9 v (fun z => by rw [z, trM_mem, hmf] at hv; cases hv.2)) n1 n2 n3 fr fd (by unfold thNo; rw [hlp, eN, ← eB]; exact g3) gk3 gv3
          exact q_aret (v := some a1) C (Or.inl ⟨_, rfl⟩) hP hS ⟨a1, X2, Im2, rfl, hr1, hr2, hchw.tr hr3⟩ (by omega) dX3_adding_122
        · have hst : thS m9 (6 - r) L (thN m9 (6 - r) k) = true := by
            cases z : thS m9 (6 - r) L (thN m9 (6 - r) k) with
            | true => rfl
            | false => exact absurd ((trKb_has thN_lt).mpr z) c82
          refine lv_aload hx hb dX3_adding_85 (lv_at hl 2 rfl) ?_
          refine lv_iload hx hb dX3_adding_87 (lv_at hl 1 rfl) ?_
          refine lv_iload_n hx hb dX3_adding_89 rfl (lv_at hl 5 rfl) ?_
          refine lv_lload_n hx hb dX3_adding_90 rfl (lv_at hl 6 rfl) ?_
          refine lv_lload hx hb dX3_adding_91 (lv_at hl 7 rfl) ?_
          obtain ⟨⟨kq, xq⟩, hp1, hp2⟩ := thS_one hst
          have hp3 := trK_at (r := r) thN_lt hp2
          have hkq : kq ≠ k := no9 _ (List.mem_of_getElem? hp3)
          refine q_callV (rest := []) C (c_X3_pushDown l D cy N0 hh6 Im e9 Ok m9 r a1 L X1 ka1 va1 na1 C1 Xs1 kq xq k x hW hEw hO he9 (by omega) (by omega) hno hp1 hkq) kX3_pushDown g410 g412 rfl gp9 g12 hP hS f1 (by first | decide | omega) hl.1 rfl (by decide) (by first | decide | omega) dX3_adding_93 (fun q ce E h' H1 locs1 hE => hE.elim) (fun v hh11 H locs hq hP hS => ?_)
          obtain ⟨rfl, X2, Im2, hr1, hr2, hr3⟩ := hq
          refine lv_goto (tgt := 120) hx hb dX3_adding_96 (by decide) ?_
          refine lv_aload hx hb dX3_adding_120 (lv_at hl 2 rfl) ?_
          exact q_aret (v := some a1) C (Or.inl ⟨_, rfl⟩) hP hS ⟨a1, X2, Im2, rfl, hr1, hr2, hchw.tr hr3⟩ (by omega) dX3_adding_122
      · have hmt : thM m9 (6 - r) L (thN m9 (6 - r) k) = true := by
          cases z : thM m9 (6 - r) L (thN m9 (6 - r) k) with
          | true => rfl
          | false => exact absurd ((trNb_has thN_lt).mpr z) c57
        refine lv_aload hx hb dX3_adding_60 (lv_at hl 2 rfl) ?_
        refine lv_iload hx hb dX3_adding_62 (lv_at hl 1 rfl) ?_
        refine lv_iload_n hx hb dX3_adding_64 rfl (lv_at hl 5 rfl) ?_
        refine lv_lload_n hx hb dX3_adding_65 rfl (lv_at hl 6 rfl) ?_
        refine lv_lload hx hb dX3_adding_66 (lv_at hl 7 rfl) ?_
        refine q_callV (rest := []) C (c_X3_addBelow l D cy N0 hh6 Im e9 Ok m9 r a1 L X1 ka1 va1 na1 C1 Xs1 k x N hW hEw hO he9 (by omega) (by omega) hno hmt hN (ih r (by omega) (by omega))) kX3_addBelow g406 g408 rfl gp8 g12 hP hS f1 (by first | decide | omega) hl.1 rfl (by decide) (by first | decide | omega) dX3_adding_68 (fun q ce E h' H1 locs1 hE => hE.elim) (fun v hh12 H locs hq hP hS => ?_)
        obtain ⟨rfl, X2, Im2, hr1, hr2, hr3⟩ := hq
        refine lv_goto (tgt := 120) hx hb dX3_adding_71 (by decide) ?_
        refine lv_aload hx hb dX3_adding_120 (lv_at hl 2 rfl) ?_
        exact q_aret (v := some a1) C (Or.inl ⟨_, rfl⟩) hP hS ⟨a1, X2, Im2, rfl, hr1, hr2, hchw.tr hr3⟩ (by omega) dX3_adding_122
theorem c_X3_adding (l : Launch) (D : va_G) (cy : Nat → ClassId) (N0 : Nat) (e9 : Nat) (Ok : Nat → Prop) (m9 : Int32) (N : Nat) (hO : ¬ Ok e9) (he9 : e9 < 2 ^ 31) (hN9 : N < 100000) : ∀ r : Nat, r ≤ 7 → qAddC l D cy N0 e9 Ok m9 N r
  | 0, _ => fun h Im a L X k x hT hE hN hno => c_X3_adding_open l D cy N0 h Im e9 Ok m9 0 a L X k x N hT hE hO he9 (by omega) hN hN9 hno (fun r' e => by cases e)
  | r + 1, hr => fun h Im a L X k x hT hE hN hno => c_X3_adding_open l D cy N0 h Im e9 Ok m9 (r + 1) a L X k x N hT hE hO he9 hr hN hN9 hno (fun r' e hr' => by cases e; exact c_X3_adding l D cy N0 e9 Ok m9 N hO he9 hN9 r hr')
