theorem dX3_removing_0 : decode cX3_removing 0 = .ok (.aload_n 0, 1) := by decide +kernel
theorem dX3_removing_1 : decode cX3_removing 1 = .ok (.iload_n 1, 1) := by decide +kernel
theorem dX3_removing_2 : decode cX3_removing 2 = .ok (.invokevirtual 77, 3) := by decide +kernel
theorem dX3_removing_5 : decode cX3_removing 5 = .ok (.astore 5, 2) := by decide +kernel
theorem dX3_removing_7 : decode cX3_removing 7 = .ok (.aload 5, 2) := by decide +kernel
theorem dX3_removing_9 : decode cX3_removing 9 = .ok (.dup, 1) := by decide +kernel
theorem dX3_removing_10 : decode cX3_removing 10 = .ok (.getfield 32, 3) := by decide +kernel
theorem dX3_removing_13 : decode cX3_removing 13 = .ok (.iconst 1, 1) := by decide +kernel
theorem dX3_removing_14 : decode cX3_removing 14 = .ok (.isub, 1) := by decide +kernel
theorem dX3_removing_15 : decode cX3_removing 15 = .ok (.putfield 32, 3) := by decide +kernel
theorem dX3_removing_18 : decode cX3_removing 18 = .ok (.lload_n 3, 1) := by decide +kernel
theorem dX3_removing_19 : decode cX3_removing 19 = .ok (.iload_n 2, 1) := by decide +kernel
theorem dX3_removing_20 : decode cX3_removing 20 = .ok (.invokestatic 41, 3) := by decide +kernel
theorem dX3_removing_23 : decode cX3_removing 23 = .ok (.aload 5, 2) := by decide +kernel
theorem dX3_removing_25 : decode cX3_removing 25 = .ok (.getfield 21, 3) := by decide +kernel
theorem dX3_removing_28 : decode cX3_removing 28 = .ok (.invokestatic 48, 3) := by decide +kernel
theorem dX3_removing_31 : decode cX3_removing 31 = .ok (.istore 6, 2) := by decide +kernel
theorem dX3_removing_33 : decode cX3_removing 33 = .ok (.aload 5, 2) := by decide +kernel
theorem dX3_removing_35 : decode cX3_removing 35 = .ok (.iload_n 2, 1) := by decide +kernel
theorem dX3_removing_36 : decode cX3_removing 36 = .ok (.lload_n 3, 1) := by decide +kernel
theorem dX3_removing_37 : decode cX3_removing 37 = .ok (.invokevirtual 66, 3) := by decide +kernel
theorem dX3_removing_40 : decode cX3_removing 40 = .ok (.istore 7, 2) := by decide +kernel
theorem dX3_removing_42 : decode cX3_removing 42 = .ok (.iload 7, 2) := by decide +kernel
theorem dX3_removing_44 : decode cX3_removing 44 = .ok (.ifCond .lt 15, 3) := by decide +kernel
theorem dX3_removing_47 : decode cX3_removing 47 = .ok (.aload 5, 2) := by decide +kernel
theorem dX3_removing_49 : decode cX3_removing 49 = .ok (.iload 7, 2) := by decide +kernel
theorem dX3_removing_51 : decode cX3_removing 51 = .ok (.iload 6, 2) := by decide +kernel
theorem dX3_removing_53 : decode cX3_removing 53 = .ok (.invokevirtual 96, 3) := by decide +kernel
theorem dX3_removing_56 : decode cX3_removing 56 = .ok (.goto 12, 3) := by decide +kernel
theorem dX3_removing_59 : decode cX3_removing 59 = .ok (.aload 5, 2) := by decide +kernel
theorem dX3_removing_61 : decode cX3_removing 61 = .ok (.iload 6, 2) := by decide +kernel
theorem dX3_removing_63 : decode cX3_removing 63 = .ok (.iload_n 2, 1) := by decide +kernel
theorem dX3_removing_64 : decode cX3_removing 64 = .ok (.lload_n 3, 1) := by decide +kernel
theorem dX3_removing_65 : decode cX3_removing 65 = .ok (.invokevirtual 120, 3) := by decide +kernel
theorem dX3_removing_68 : decode cX3_removing 68 = .ok (.aload 5, 2) := by decide +kernel
theorem dX3_removing_70 : decode cX3_removing 70 = .ok (.areturn, 1) := by decide +kernel
set_option maxRecDepth 100000 in
set_option maxHeartbeats 4000000 in
theorem c_X3_removing_open (l : Launch) (D : va_G) (cy : Nat → ClassId) (N0 : Nat) (h : qH) (Im : Nat → Prop) (e9 : Nat) (Ok : Nat → Prop) (m9 : Int32) (r a : Nat) (L : qKV) (X : Nat → Prop) (k : Int64) (N : Nat) (hT : qTr cy h Im e9 Ok m9 r a L X) (hE : qEd cy h Im X) (hO : ¬ Ok e9) (he9 : e9 < 2 ^ 31) (hr : r ≤ 7) (hN : L.length ≤ N) (hN9 : N < 100000) (hno : qNo L) (hk : xHas L k = true) (ih : ∀ r', r = r' + 1 → r' ≤ 7 → qRemC l D cy N0 e9 Ok m9 N r') : qC l D cy N0 yX3_removing cX3_removing 8 (some (.object RX3)) (8 + 2 * r) (400 + 150 * r) (6 * r + 8) (rMs N r) [.ref a, .int (nI e9), .int m9, .long k] h (fun v h' => ∃ (a1 : Nat) (X2 Im2 : Nat → Prop), v = some (.ref a1) ∧ qTr cy h' Im2 e9 Ok m9 r a1 (thD L k) X2 ∧ qEd cy h' Im2 X2 ∧ qCh h Im X h' Im2 X2) (fun E h' => False) := by
  refine q_ofW (by decide) (by exact Nat.le_of_ble_eq_true rfl) ?_
  intro p e s m below meth c ls C hP hl
  have hx := C.1
  have hb := C.2.1
  have hS : va_S (qA N0) s.heap s.heap [] := va_S.rf
  have hl : lv_has ls 8 [(0, .ref a), (1, .int (nI e9)), (2, .int m9), (3, .long k)] := hl
  have hdl2 := thD_len (L := L) (k := k) hno hk
  obtain ⟨hra, fsa, fa⟩ := hT.root
  cases r with
  | zero =>
    have hkl := trK_len (m := m9) (r := 0) (L := L)
    have hrms := rMs_ge (N := N) 0
    refine lv_aload_n hx hb dX3_removing_0 rfl (lv_at hl 0 rfl) ?_
    refine lv_iload_n hx hb dX3_removing_1 rfl (lv_at hl 1 rfl) ?_
    refine q_callV (rest := []) C (c_X3_ownedBy l D cy N0 h Im e9 Ok m9 0 a L X hT (by omega) (by omega) hE he9) kX3_ownedBy g390 g392 rfl gp7 g12 hP hS fa (by first | decide | omega) hl.1 rfl (by decide) (by first | decide | omega) dX3_removing_2 (fun q ce E h' H1 locs1 hE => hE.elim) (fun v hh1 H locs hq hP hS => ?_)
    obtain ⟨a1, ka1, va1, na1, C1, Xs1, X1, rfl, hle1, hW, hEw, hchw⟩ := hq
    have f1 := hW.1.1
    have fk1 := hW.1.2.1
    have fv1 := hW.1.2.2.1
    have fn1 := hW.1.2.2.2.1
    unfold thNo at f1
    unfold thJ at fk1 fv1
    unfold thA at fn1
    rw [List.length_map] at fk1 fv1
    have ow0 := hW.own hO
    refine lv_astore (lv' := [(5, .ref a1), (0, .ref a), (1, .int (nI e9)), (2, .int m9), (3, .long k)]) hx hb dX3_removing_5 hl (by decide) rfl (fun ls hl => ?_)
    have fr : ∀ b o, hh1 b = some o → b ≠ a1 → hh1 b = some o := fun b o hb _ => hb
    have fd : ∀ b o, hh1 b = some o → ∃ o', hh1 b = some o' := fun b o hb => ⟨o, hb⟩
    refine lv_aload hx hb dX3_removing_7 (lv_at hl 0 rfl) ?_
    refine lv_dup hx hb dX3_removing_9 rfl ?_
    refine q_get C hP f1 rfl inX3 4 (by decide) g365 rfl dX3_removing_10 ?_
    refine lv_iconst (v := nI 1) hx hb dX3_removing_13 (by decide) ?_
    refine q_isubN hx hb dX3_removing_14 (by omega) ?_
    refine q_put C hP hS f1 rfl inX3 tyX3 tyX3_ok nmX3 4 (by decide) g365 rfl rfl rfl (Nat.le_of_ble_eq_true rfl) dX3_removing_15 (fun H locs hP hS => ?_)
    replace hP : qP D N0 (qs hh1 a1 (.inr (3, [.int (nI (7 - 0)), .int (nI e9), .int (nI (trKb m9 0 L)), .int (nI (trNb m9 0 L)), .int (nI ((L.length) - 1)), .ref ka1, .ref va1, .ref na1]))) H := hP
    obtain ⟨hv1, ehv1⟩ : ∃ z : qH, z = qs hh1 a1 (.inr (3, [.int (nI (7 - 0)), .int (nI e9), .int (nI (trKb m9 0 L)), .int (nI (trNb m9 0 L)), .int (nI ((L.length) - 1)), .ref ka1, .ref va1, .ref na1])) := ⟨_, rfl⟩
    rw [← ehv1] at hP
    have khv1 : ∀ b o, b ≠ a1 → hh1 b = some o → hv1 b = some o := by rw [ehv1]; exact fun b o nb hb => (qs_ne nb).trans hb
    replace f1 : hv1 a1 = some (.inr (3, [.int (nI (7 - 0)), .int (nI e9), .int (nI (trKb m9 0 L)), .int (nI (trNb m9 0 L)), .int (nI ((L.length) - 1)), .ref ka1, .ref va1, .ref na1])) := by rw [ehv1]; exact qs_self
    clear ehv1
    replace fr : ∀ b o, hh1 b = some o → b ≠ a1 → hv1 b = some o := fun b o hb n0_ => khv1 b o n0_ (fr b o hb n0_)
    replace fd : ∀ b o, hh1 b = some o → ∃ o', hv1 b = some o' := fun b o hb => if z9 : b = a1 then ⟨_, (congrArg hv1 z9).trans f1⟩ else (fd b o hb).elim (fun o9 h9 => ⟨o9, khv1 b o9 z9 h9⟩)
    obtain ⟨hW2, hE2, hch2⟩ := hW.tot (n' := L.length - 1) hEw hO fr fd f1
    clear fr fd
    obtain ⟨n8, hn8⟩ : ∃ n, n = L.length - 1 := ⟨_, rfl⟩
    rw [← hn8] at hW2 f1
    refine lv_lload_n hx hb dX3_removing_18 rfl (lv_at hl 4 rfl) ?_
    refine lv_iload_n hx hb dX3_removing_19 rfl (lv_at hl 3 rfl) ?_
    refine q_callS (rest := []) C (c_X3_hashOf l D cy N0 hv1 k m9) kX3_hashOf g299 g300 hP hS (by first | decide | omega) hl.1 rfl (by decide) (by first | decide | omega) dX3_removing_20 (fun q ce E h' H1 locs1 hE => hE.elim) (fun v hh2 H locs hq hP hS => ?_)
    obtain ⟨rfl, rfl⟩ := hq
    refine lv_aload hx hb dX3_removing_23 (lv_at hl 0 rfl) ?_
    refine q_get C hP f1 rfl inX3 0 (by decide) g361 rfl dX3_removing_25 ?_
    refine q_callS (rest := []) C (c_X3_bitOf l D cy N0 hv1 k m9 (7 - 0) (by omega)) kX3_bitOf g302 g303 hP hS (by first | decide | omega) hl.1 rfl (by decide) (by first | decide | omega) dX3_removing_28 (fun q ce E h' H1 locs1 hE => hE.elim) (fun v hh3 H locs hq hP hS => ?_)
    obtain ⟨rfl, rfl⟩ := hq
    rw [thB_0]
    refine lv_istore (lv' := [(6, .int (nI 0)), (5, .ref a1), (0, .ref a), (1, .int (nI e9)), (2, .int m9), (3, .long k)]) hx hb dX3_removing_31 hl (by decide) rfl (fun ls hl => ?_)
    refine lv_aload hx hb dX3_removing_33 (lv_at hl 1 rfl) ?_
    refine lv_iload_n hx hb dX3_removing_35 rfl (lv_at hl 4 rfl) ?_
    refine lv_lload_n hx hb dX3_removing_36 rfl (lv_at hl 5 rfl) ?_
    refine q_callV (rest := []) C (c_X3_placeOf l D cy N0 hv1 Im e9 Ok m9 0 a1 L n8 X1 e9 ka1 va1 na1 C1 k hW2.1 (by omega) (by omega) (by omega)) kX3_placeOf g314 g316 rfl gp5 g12 hP hS f1 (by first | decide | omega) hl.1 rfl (by decide) (by first | decide | omega) dX3_removing_37 (fun q ce E h' H1 locs1 hE => hE.elim) (fun v hh4 H locs hq hP hS => ?_)
    obtain ⟨rfl, hq⟩ := hq
    rcases hq with ⟨j9, x9, rfl, ex9⟩ | ⟨rfl, no9⟩
    · have hjl := (List.getElem?_eq_some_iff.mp ex9).1
      refine lv_istore (lv' := [(7, .int (nI j9)), (6, .int (nI 0)), (5, .ref a1), (0, .ref a), (1, .int (nI e9)), (2, .int m9), (3, .long k)]) hx hb dX3_removing_40 hl (by decide) rfl (fun ls hl => ?_)
      refine lv_iload hx hb dX3_removing_42 (lv_at hl 0 rfl) ?_
      refine lv_if_lt (tgt := 59) hx hb dX3_removing_44 (by decide) (fun c44 => ?_) (fun c44 => ?_)
      · replace c44 : j9 < 0 := (nI_ltI (a := j9) (b := 0) (by omega) (by omega)).mp c44
        exfalso; omega
      · replace c44 : ¬ j9 < 0 := fun zq => c44 ((nI_ltI (a := j9) (b := 0) (by omega) (by omega)).mpr zq)
        refine lv_aload hx hb dX3_removing_47 (lv_at hl 2 rfl) ?_
        refine lv_iload hx hb dX3_removing_49 (lv_at hl 0 rfl) ?_
        refine lv_iload hx hb dX3_removing_51 (lv_at hl 1 rfl) ?_
        have hl1 : (List.map Prod.fst (trK m9 0 L)).length = (trK m9 0 L).length := List.length_map _
        have hl2 : (List.map Prod.snd (trK m9 0 L)).length = (trK m9 0 L).length := List.length_map _
        refine q_callV (rest := []) C (c_X3_removeKey l D cy N0 hv1 a1 (7 - 0) e9 n8 ka1 va1 na1 (nI (trKb m9 0 L)) (nI (trNb m9 0 L)) (nI 0) (List.map Prod.fst (trK m9 0 L)) (List.map Prod.snd (trK m9 0 L)) j9 f1 hW2.1.2.1 hW2.1.2.2.1 hE2.2.2.1 (by omega) (by omega) (by omega)) kX3_removeKey g417 g419 rfl gp10 g12 hP hS f1 (by first | decide | omega) hl.1 rfl (by decide) (by first | decide | omega) dX3_removing_53 (fun q ce E h' H1 locs1 hE => hE.elim) (fun v hh5 H locs hq hP hS => ?_)
        obtain ⟨rfl, ka3, va3, ho3, g3, gk3, gv3, frq, fdq⟩ := hq
        refine lv_goto (tgt := 68) hx hb dX3_removing_56 (by decide) ?_
        refine lv_aload hx hb dX3_removing_68 (lv_at hl 2 rfl) ?_
        have hkk : ∀ v r9, 0 = r9 + 1 → v ∈ trM m9 0 L → thK m9 (6 - r9) v (thD L k) = thK m9 (6 - r9) v L := fun v r9 e8 => by cases e8
        have eK : trK m9 0 (thD L k) = (trK m9 0 L).eraseIdx j9 := by show thO (thD L k) = _; rw [thO_del hno]; exact thD_er (trK_no (r := 0) hno) ex9
        have eM : trM m9 0 (thD L k) = trM m9 0 L := rfl
        have eN : trNb m9 0 (thD L k) = trNb m9 0 L := rfl
        have eB : nI (trKb m9 0 L) &&& (nI 0 ^^^ (-1)) = nI (trKb m9 0 (thD L k)) := show nI 0 &&& (nI 0 ^^^ (-1)) = nI 0 by decide
        obtain ⟨X2, Im2, hr1, hr2, hr3⟩ := own_del (L' := thD L k) (j := j9) hW2 hE2 hO hjl eK eM eN hkk (by rw [hl1] at ho3; exact ho3) frq fdq (by unfold thNo; rw [← eB, eN, show (thD L k).length = n8 by omega]; exact g3) gk3 gv3
        exact q_aret (v := some a1) C (Or.inl ⟨_, rfl⟩) hP hS ⟨a1, X2, Im2, rfl, hr1, hr2, (hchw.tr hch2).tr hr3⟩ (by omega) dX3_removing_70
    · refine lv_istore (lv' := [(7, .int (-1)), (6, .int (nI 0)), (5, .ref a1), (0, .ref a), (1, .int (nI e9)), (2, .int m9), (3, .long k)]) hx hb dX3_removing_40 hl (by decide) rfl (fun ls hl => ?_)
      refine lv_iload hx hb dX3_removing_42 (lv_at hl 0 rfl) ?_
      refine lv_if_lt (tgt := 59) hx hb dX3_removing_44 (by decide) (fun _ => ?_) (fun c => absurd (by decide) c)
      exfalso; obtain ⟨p8, hp8, ek8⟩ := xHas_iff.mp hk; exact no9 p8 ((thO_perm L).mem_iff.mpr hp8) ek8
  | succ r =>
    have hkl := trK_len (m := m9) (r := (r + 1)) (L := L)
    have hrms := rMs_ge (N := N) r
    have hrms1 := rMs_s (N := N) (r := r)
    refine lv_aload_n hx hb dX3_removing_0 rfl (lv_at hl 0 rfl) ?_
    refine lv_iload_n hx hb dX3_removing_1 rfl (lv_at hl 1 rfl) ?_
    refine q_callV (rest := []) C (c_X3_ownedBy l D cy N0 h Im e9 Ok m9 (r + 1) a L X hT (by omega) (by omega) hE he9) kX3_ownedBy g390 g392 rfl gp7 g12 hP hS fa (by first | decide | omega) hl.1 rfl (by decide) (by first | decide | omega) dX3_removing_2 (fun q ce E h' H1 locs1 hE => hE.elim) (fun v hh6 H locs hq hP hS => ?_)
    obtain ⟨a1, ka1, va1, na1, C1, Xs1, X1, rfl, hle1, hW, hEw, hchw⟩ := hq
    have f1 := hW.1.1
    have fk1 := hW.1.2.1
    have fv1 := hW.1.2.2.1
    have fn1 := hW.1.2.2.2.1
    unfold thNo at f1
    unfold thJ at fk1 fv1
    unfold thA at fn1
    rw [List.length_map] at fk1 fv1
    have ow0 := hW.own hO
    refine lv_astore (lv' := [(5, .ref a1), (0, .ref a), (1, .int (nI e9)), (2, .int m9), (3, .long k)]) hx hb dX3_removing_5 hl (by decide) rfl (fun ls hl => ?_)
    have fr : ∀ b o, hh6 b = some o → b ≠ a1 → hh6 b = some o := fun b o hb _ => hb
    have fd : ∀ b o, hh6 b = some o → ∃ o', hh6 b = some o' := fun b o hb => ⟨o, hb⟩
    refine lv_aload hx hb dX3_removing_7 (lv_at hl 0 rfl) ?_
    refine lv_dup hx hb dX3_removing_9 rfl ?_
    refine q_get C hP f1 rfl inX3 4 (by decide) g365 rfl dX3_removing_10 ?_
    refine lv_iconst (v := nI 1) hx hb dX3_removing_13 (by decide) ?_
    refine q_isubN hx hb dX3_removing_14 (by omega) ?_
    refine q_put C hP hS f1 rfl inX3 tyX3 tyX3_ok nmX3 4 (by decide) g365 rfl rfl rfl (Nat.le_of_ble_eq_true rfl) dX3_removing_15 (fun H locs hP hS => ?_)
    replace hP : qP D N0 (qs hh6 a1 (.inr (3, [.int (nI (7 - (r + 1))), .int (nI e9), .int (nI (trKb m9 (r + 1) L)), .int (nI (trNb m9 (r + 1) L)), .int (nI ((L.length) - 1)), .ref ka1, .ref va1, .ref na1]))) H := hP
    obtain ⟨hv2, ehv2⟩ : ∃ z : qH, z = qs hh6 a1 (.inr (3, [.int (nI (7 - (r + 1))), .int (nI e9), .int (nI (trKb m9 (r + 1) L)), .int (nI (trNb m9 (r + 1) L)), .int (nI ((L.length) - 1)), .ref ka1, .ref va1, .ref na1])) := ⟨_, rfl⟩
    rw [← ehv2] at hP
    have khv2 : ∀ b o, b ≠ a1 → hh6 b = some o → hv2 b = some o := by rw [ehv2]; exact fun b o nb hb => (qs_ne nb).trans hb
    replace f1 : hv2 a1 = some (.inr (3, [.int (nI (7 - (r + 1))), .int (nI e9), .int (nI (trKb m9 (r + 1) L)), .int (nI (trNb m9 (r + 1) L)), .int (nI ((L.length) - 1)), .ref ka1, .ref va1, .ref na1])) := by rw [ehv2]; exact qs_self
    clear ehv2
    replace fr : ∀ b o, hh6 b = some o → b ≠ a1 → hv2 b = some o := fun b o hb n0_ => khv2 b o n0_ (fr b o hb n0_)
    replace fd : ∀ b o, hh6 b = some o → ∃ o', hv2 b = some o' := fun b o hb => if z9 : b = a1 then ⟨_, (congrArg hv2 z9).trans f1⟩ else (fd b o hb).elim (fun o9 h9 => ⟨o9, khv2 b o9 z9 h9⟩)
    obtain ⟨hW2, hE2, hch2⟩ := hW.tot (n' := L.length - 1) hEw hO fr fd f1
    clear fr fd
    obtain ⟨n8, hn8⟩ : ∃ n, n = L.length - 1 := ⟨_, rfl⟩
    rw [← hn8] at hW2 f1
    refine lv_lload_n hx hb dX3_removing_18 rfl (lv_at hl 4 rfl) ?_
    refine lv_iload_n hx hb dX3_removing_19 rfl (lv_at hl 3 rfl) ?_
    refine q_callS (rest := []) C (c_X3_hashOf l D cy N0 hv2 k m9) kX3_hashOf g299 g300 hP hS (by first | decide | omega) hl.1 rfl (by decide) (by first | decide | omega) dX3_removing_20 (fun q ce E h' H1 locs1 hE => hE.elim) (fun v hh7 H locs hq hP hS => ?_)
    obtain ⟨rfl, rfl⟩ := hq
    refine lv_aload hx hb dX3_removing_23 (lv_at hl 0 rfl) ?_
    refine q_get C hP f1 rfl inX3 0 (by decide) g361 rfl dX3_removing_25 ?_
    refine q_callS (rest := []) C (c_X3_bitOf l D cy N0 hv2 k m9 (7 - (r + 1)) (by omega)) kX3_bitOf g302 g303 hP hS (by first | decide | omega) hl.1 rfl (by decide) (by first | decide | omega) dX3_removing_28 (fun q ce E h' H1 locs1 hE => hE.elim) (fun v hh8 H locs hq hP hS => ?_)
    obtain ⟨rfl, rfl⟩ := hq
    rw [thB_s (m := m9) (k := k) (r := r) (by omega)]
    refine lv_istore (lv' := [(6, .int (nI (2 ^ thN m9 (6 - r) k))), (5, .ref a1), (0, .ref a), (1, .int (nI e9)), (2, .int m9), (3, .long k)]) hx hb dX3_removing_31 hl (by decide) rfl (fun ls hl => ?_)
    refine lv_aload hx hb dX3_removing_33 (lv_at hl 1 rfl) ?_
    refine lv_iload_n hx hb dX3_removing_35 rfl (lv_at hl 4 rfl) ?_
    refine lv_lload_n hx hb dX3_removing_36 rfl (lv_at hl 5 rfl) ?_
    refine q_callV (rest := []) C (c_X3_placeOf l D cy N0 hv2 Im e9 Ok m9 (r + 1) a1 L n8 X1 e9 ka1 va1 na1 C1 k hW2.1 (by omega) (by omega) (by omega)) kX3_placeOf g314 g316 rfl gp5 g12 hP hS f1 (by first | decide | omega) hl.1 rfl (by decide) (by first | decide | omega) dX3_removing_37 (fun q ce E h' H1 locs1 hE => hE.elim) (fun v hh9 H locs hq hP hS => ?_)
    obtain ⟨rfl, hq⟩ := hq
    rcases hq with ⟨j9, x9, rfl, ex9⟩ | ⟨rfl, no9⟩
    · have hjl := (List.getElem?_eq_some_iff.mp ex9).1
      refine lv_istore (lv' := [(7, .int (nI j9)), (6, .int (nI (2 ^ thN m9 (6 - r) k))), (5, .ref a1), (0, .ref a), (1, .int (nI e9)), (2, .int m9), (3, .long k)]) hx hb dX3_removing_40 hl (by decide) rfl (fun ls hl => ?_)
      refine lv_iload hx hb dX3_removing_42 (lv_at hl 0 rfl) ?_
      refine lv_if_lt (tgt := 59) hx hb dX3_removing_44 (by decide) (fun c44 => ?_) (fun c44 => ?_)
      · replace c44 : j9 < 0 := (nI_ltI (a := j9) (b := 0) (by omega) (by omega)).mp c44
        exfalso; omega
      · replace c44 : ¬ j9 < 0 := fun zq => c44 ((nI_ltI (a := j9) (b := 0) (by omega) (by omega)).mpr zq)
        refine lv_aload hx hb dX3_removing_47 (lv_at hl 2 rfl) ?_
        refine lv_iload hx hb dX3_removing_49 (lv_at hl 0 rfl) ?_
        refine lv_iload hx hb dX3_removing_51 (lv_at hl 1 rfl) ?_
        have hl1 : (List.map Prod.fst (trK m9 (r + 1) L)).length = (trK m9 (r + 1) L).length := List.length_map _
        have hl2 : (List.map Prod.snd (trK m9 (r + 1) L)).length = (trK m9 (r + 1) L).length := List.length_map _
        refine q_callV (rest := []) C (c_X3_removeKey l D cy N0 hv2 a1 (7 - (r + 1)) e9 n8 ka1 va1 na1 (nI (trKb m9 (r + 1) L)) (nI (trNb m9 (r + 1) L)) (nI (2 ^ thN m9 (6 - r) k)) (List.map Prod.fst (trK m9 (r + 1) L)) (List.map Prod.snd (trK m9 (r + 1) L)) j9 f1 hW2.1.2.1 hW2.1.2.2.1 hE2.2.2.1 (by omega) (by omega) (by omega)) kX3_removeKey g417 g419 rfl gp10 g12 hP hS f1 (by first | decide | omega) hl.1 rfl (by decide) (by first | decide | omega) dX3_removing_53 (fun q ce E h' H1 locs1 hE => hE.elim) (fun v hh10 H locs hq hP hS => ?_)
        obtain ⟨rfl, ka3, va3, ho3, g3, gk3, gv3, frq, fdq⟩ := hq
        refine lv_goto (tgt := 68) hx hb dX3_removing_56 (by decide) ?_
        refine lv_aload hx hb dX3_removing_68 (lv_at hl 2 rfl) ?_
        skip
        have hS1 := (trK_mem.mp (List.mem_of_getElem? ex9)).2
        dsimp only at hS1
        obtain ⟨p8, hp8, hf8⟩ := thS_one hS1
        have hpk : p8 = (k, x9) := (List.mem_singleton.mp (hp8 ▸ (thK_mem.mpr ⟨(trK_mem.mp (List.mem_of_getElem? ex9)).1, rfl⟩))).symm
        have hM1 : thM m9 (6 - r) L (thN m9 (6 - r) k) = false := by unfold thM; rw [hp8]; rfl
        have hu9 : ∀ u, u ≠ (thN m9 (6 - r) k) → thK m9 (6 - r) u (thD L k) = thK m9 (6 - r) u L := fun u hu => thK_del2 hu
        have hb0 : thK m9 (6 - r) (thN m9 (6 - r) k) (thD L k) = [] := by rw [thK_del, hp8, hpk]; unfold thD; simp
        have hS2 : thS m9 (6 - r) (thD L k) (thN m9 (6 - r) k) = false := by unfold thS; rw [hb0]; rfl
        have hM2 : thM m9 (6 - r) (thD L k) (thN m9 (6 - r) k) = false := by unfold thM; rw [hb0]; rfl
        have hj9 : j9 = (tqC (thS m9 (6 - r) L) (thN m9 (6 - r) k)) := qNo_idx (trK_no hno) ex9 (trK_at thN_lt hf8) (by rw [hpk])
        have eK : trK m9 (r + 1) (thD L k) = (trK m9 (r + 1) L).eraseIdx j9 := by obtain ⟨P2, Q2, f1, f2, f3⟩ := trK_two hu9 thN_lt; rw [hf8] at f1; rw [f1, f2]; unfold thF; rw [hS2]; exact (thEr_at (hj9.trans f3.symm)).symm
        have eM : trM m9 (r + 1) (thD L k) = trM m9 (r + 1) L := by obtain ⟨P2, Q2, f1, f2, -, -⟩ := trM_two hu9 thN_lt; rw [f1, f2]; unfold thG; rw [hM2, hM1]
        have eN := (trNb_two hu9 thN_lt).1 (by rw [hM2, hM1])
        have eB := (trKb_two hu9 thN_lt).2.2 hS2
        have hkk : ∀ v r9, r + 1 = r9 + 1 → v ∈ trM m9 (r + 1) L → thK m9 (6 - r9) v (thD L k) = thK m9 (6 - r9) v L := fun v r9 e8 hv => by cases e8; exact hu9 v (fun z => by rw [z, trM_mem, hM1] at hv; cases hv.2)
        obtain ⟨X2, Im2, hr1, hr2, hr3⟩ := own_del (L' := thD L k) (j := j9) hW2 hE2 hO hjl eK eM eN hkk (by rw [hl1] at ho3; exact ho3) frq fdq (by unfold thNo; rw [← eB, eN, show (thD L k).length = n8 by omega]; exact g3) gk3 gv3
        exact q_aret (v := some a1) C (Or.inl ⟨_, rfl⟩) hP hS ⟨a1, X2, Im2, rfl, hr1, hr2, (hchw.tr hch2).tr hr3⟩ (by omega) dX3_removing_70
    · refine lv_istore (lv' := [(7, .int (-1)), (6, .int (nI (2 ^ thN m9 (6 - r) k))), (5, .ref a1), (0, .ref a), (1, .int (nI e9)), (2, .int m9), (3, .long k)]) hx hb dX3_removing_40 hl (by decide) rfl (fun ls hl => ?_)
      refine lv_iload hx hb dX3_removing_42 (lv_at hl 0 rfl) ?_
      refine lv_if_lt (tgt := 59) hx hb dX3_removing_44 (by decide) (fun _ => ?_) (fun c => absurd (by decide) c)
      refine lv_aload hx hb dX3_removing_59 (lv_at hl 2 rfl) ?_
      refine lv_iload hx hb dX3_removing_61 (lv_at hl 1 rfl) ?_
      refine lv_iload_n hx hb dX3_removing_63 rfl (lv_at hl 5 rfl) ?_
      refine lv_lload_n hx hb dX3_removing_64 rfl (lv_at hl 6 rfl) ?_
      have hm1 : thM m9 (6 - r) L (thN m9 (6 - r) k) = true := by
        cases z : thM m9 (6 - r) L (thN m9 (6 - r) k) with
        | true => rfl
        | false =>
          obtain ⟨p8, hp8, ek8⟩ := xHas_iff.mp hk
          exact absurd ek8 (no9 p8 ((thEnd_has (r := r + 1) (fun r9 e8 => by cases e8; exact z) p8 ek8).mp hp8))
      refine q_callV (rest := []) C (c_X3_removeBelow l D cy N0 hv2 Im e9 Ok m9 r a1 L X1 ka1 va1 na1 C1 Xs1 k N n8 hW2 (by omega) hE2 hO he9 (by omega) (by omega) hno hm1 hk hN (ih r rfl (by omega))) kX3_removeBelow g804 g806 rfl gp21 g12 hP hS f1 (by first | decide | omega) hl.1 rfl (by decide) (by first | decide | omega) dX3_removing_65 (fun q ce E h' H1 locs1 hE => hE.elim) (fun v hh11 H locs hq hP hS => ?_)
      obtain ⟨rfl, X2, Im2, hr1, hr2, hr3⟩ := hq
      refine lv_aload hx hb dX3_removing_68 (lv_at hl 2 rfl) ?_
      exact q_aret (v := some a1) C (Or.inl ⟨_, rfl⟩) hP hS ⟨a1, X2, Im2, rfl, hr1, hr2, (hchw.tr hch2).tr hr3⟩ (by omega) dX3_removing_70
theorem c_X3_removing (l : Launch) (D : va_G) (cy : Nat → ClassId) (N0 : Nat) (e9 : Nat) (Ok : Nat → Prop) (m9 : Int32) (N : Nat) (hO : ¬ Ok e9) (he9 : e9 < 2 ^ 31) (hN9 : N < 100000) : ∀ r : Nat, r ≤ 7 → qRemC l D cy N0 e9 Ok m9 N r
  | 0, _ => fun h Im a L X k hT hE hN hno hk => c_X3_removing_open l D cy N0 h Im e9 Ok m9 0 a L X k N hT hE hO he9 (by omega) hN hN9 hno hk (fun r' e => by cases e)
  | r + 1, hr => fun h Im a L X k hT hE hN hno hk => c_X3_removing_open l D cy N0 h Im e9 Ok m9 (r + 1) a L X k N hT hE hO he9 hr hN hN9 hno hk (fun r' e hr' => by cases e; exact c_X3_removing l D cy N0 e9 Ok m9 N hO he9 hN9 r hr')
theorem dX3_removed_0 : decode cX3_removed 0 = .ok (.aload_n 0, 1) := by decide +kernel
theorem dX3_removed_1 : decode cX3_removed 1 = .ok (.ifnull 12, 3) := by decide +kernel
theorem dX3_removed_4 : decode cX3_removed 4 = .ok (.aload_n 0, 1) := by decide +kernel
theorem dX3_removed_5 : decode cX3_removed 5 = .ok (.iload_n 2, 1) := by decide +kernel
theorem dX3_removed_6 : decode cX3_removed 6 = .ok (.lload_n 3, 1) := by decide +kernel
theorem dX3_removed_7 : decode cX3_removed 7 = .ok (.invokestatic 112, 3) := by decide +kernel
theorem dX3_removed_10 : decode cX3_removed 10 = .ok (.ifCond .ne 5, 3) := by decide +kernel
theorem dX3_removed_13 : decode cX3_removed 13 = .ok (.aload_n 0, 1) := by decide +kernel
theorem dX3_removed_14 : decode cX3_removed 14 = .ok (.areturn, 1) := by decide +kernel
theorem dX3_removed_15 : decode cX3_removed 15 = .ok (.aload_n 0, 1) := by decide +kernel
theorem dX3_removed_16 : decode cX3_removed 16 = .ok (.getfield 32, 3) := by decide +kernel
theorem dX3_removed_19 : decode cX3_removed 19 = .ok (.iconst 1, 1) := by decide +kernel
theorem dX3_removed_20 : decode cX3_removed 20 = .ok (.if_icmp .ne 7, 3) := by decide +kernel
theorem dX3_removed_23 : decode cX3_removed 23 = .ok (.aconst_null, 1) := by decide +kernel
theorem dX3_removed_24 : decode cX3_removed 24 = .ok (.goto 10, 3) := by decide +kernel
theorem dX3_removed_27 : decode cX3_removed 27 = .ok (.aload_n 0, 1) := by decide +kernel
theorem dX3_removed_28 : decode cX3_removed 28 = .ok (.iload_n 1, 1) := by decide +kernel
theorem dX3_removed_29 : decode cX3_removed 29 = .ok (.iload_n 2, 1) := by decide +kernel
theorem dX3_removed_30 : decode cX3_removed 30 = .ok (.lload_n 3, 1) := by decide +kernel
theorem dX3_removed_31 : decode cX3_removed 31 = .ok (.invokestatic 116, 3) := by decide +kernel
theorem dX3_removed_34 : decode cX3_removed 34 = .ok (.areturn, 1) := by decide +kernel
set_option maxRecDepth 100000 in
set_option maxHeartbeats 4000000 in
theorem c_X3_removed (l : Launch) (D : va_G) (cy : Nat → ClassId) (N0 : Nat) (h : qH) (Im : Nat → Prop) (e9 : Nat) (Ok : Nat → Prop) (m9 : Int32) (x : Option Nat) (L : qKV) (X : Nat → Prop) (k : Int64) (N : Nat) (hR : qRt cy h Im e9 Ok m9 x L X) (hE : qEd cy h Im X) (hO : ¬ Ok e9) (he9 : e9 < 2 ^ 31) (hN : L.length ≤ N) (hN9 : N < 100000) (hno : qNo L) : qC l D cy N0 yX3_removed cX3_removed 5 (some (.object RX3)) 24 1600 50 (rMs N 7) [va_rf x, .int (nI e9), .int m9, .long k] h (fun v h' => ∃ (x2 : Option Nat) (X2 Im2 : Nat → Prop), v = some (va_rf x2) ∧ qRt cy h' Im2 e9 Ok m9 x2 (thD L k) X2 ∧ qEd cy h' Im2 X2 ∧ qCh h Im X h' Im2 X2) (fun E h' => False) := by
  refine q_ofW (by decide) (by simp [lg_sl, q_catrf, q_cati, q_catl, q_cata, q_catn]) ?_
  intro p e s m below meth c ls C hP hl
  have hx := C.1
  have hb := C.2.1
  have hS : va_S (qA N0) s.heap s.heap [] := va_S.rf
  have hl : lv_has ls 5 [(0, va_rf x), (1, .int (nI e9)), (2, .int m9), (3, .long k)] := by simpa [lv_args, q_catrf, q_cati, q_catl, q_cata, q_catn] using hl
  rcases hR with ⟨rfl, rfl⟩ | ⟨aR, rfl, hneR, hTR⟩
  · refine lv_aload_nN hx hb dX3_removed_0 rfl (lv_at hl 0 rfl) ?_
    refine lv_ifnullN (tgt := 13) hx hb dX3_removed_1 (by decide) ?_
    refine lv_aload_nN hx hb dX3_removed_13 rfl (lv_at hl 0 rfl) ?_
    exact q_aret (v := none) C (Or.inl ⟨_, rfl⟩) hP hS ⟨none, X, Im, rfl, Or.inl ⟨rfl, rfl⟩, hE, qCh.rf⟩ (by omega) dX3_removed_14
  · obtain ⟨owR, kaR, vaR, naR, CR, XsR, hnR, -, -⟩ := hTR.inv
    have fR := hnR.1
    unfold thNo at fR
    refine lv_aload_n hx hb dX3_removed_0 rfl (lv_at hl 0 rfl) ?_
    refine lv_ifnull hx hb dX3_removed_1 ?_
    refine lv_aload_n hx hb dX3_removed_4 rfl (lv_at hl 0 rfl) ?_
    refine lv_iload_n hx hb dX3_removed_5 rfl (lv_at hl 2 rfl) ?_
    refine lv_lload_n hx hb dX3_removed_6 rfl (lv_at hl 3 rfl) ?_
    refine q_callS (rest := []) C (c_X3_holds l D cy N0 h Im e9 Ok m9 (some aR) L X k (Or.inr ⟨aR, rfl, hneR, hTR⟩) (by omega)) kX3_holds g800 g294 hP hS (by first | decide | omega) hl.1 rfl (by decide) (by first | decide | omega) dX3_removed_7 (fun q ce E h' H1 locs1 hE => hE.elim) (fun v hh1 H locs hq hP hS => ?_)
    obtain ⟨rfl, rfl⟩ := hq
    cases hk : xHas L k with
    | false =>
      refine lv_if_ne (tgt := 15) hx hb dX3_removed_10 (by decide) (fun c10 => ?_) (fun c10 => ?_)
      · replace c10 : ¬ 0 = 0 := fun zq => c10 ((nI_eq (a := 0) (b := 0) (by omega) (by omega)).mpr zq)
        exfalso; omega
      · replace c10 : 0 = 0 := (nI_eq (a := 0) (b := 0) (by omega) (by omega)).mp c10
        refine lv_aload_n hx hb dX3_removed_13 rfl (lv_at hl 0 rfl) ?_
        exact q_aret (v := some aR) C (Or.inl ⟨_, rfl⟩) hP hS ⟨some aR, X, Im, rfl, by rw [thD_no hk]; exact Or.inr ⟨aR, rfl, hneR, hTR⟩, hE, qCh.rf⟩ (by omega) dX3_removed_14
    | true =>
      refine lv_if_ne (tgt := 15) hx hb dX3_removed_10 (by decide) (fun c10 => ?_) (fun c10 => ?_)
      · replace c10 : ¬ 1 = 0 := fun zq => c10 ((nI_eq (a := 1) (b := 0) (by omega) (by omega)).mpr zq)
        refine lv_aload_n hx hb dX3_removed_15 rfl (lv_at hl 0 rfl) ?_
        refine q_get C hP fR rfl inX3 4 (by decide) g365 rfl dX3_removed_16 ?_
        refine lv_iconst (v := nI 1) hx hb dX3_removed_19 (by decide) ?_
        refine lv_icmp_ne (tgt := 27) hx hb dX3_removed_20 (by decide) (fun c20 => ?_) (fun c20 => ?_)
        · replace c20 : ¬ (L.length) = 1 := fun zq => c20 ((nI_eq (a := L.length) (b := 1) (by omega) (by omega)).mpr zq)
          refine lv_aload_n hx hb dX3_removed_27 rfl (lv_at hl 0 rfl) ?_
          refine lv_iload_n hx hb dX3_removed_28 rfl (lv_at hl 1 rfl) ?_
          refine lv_iload_n hx hb dX3_removed_29 rfl (lv_at hl 2 rfl) ?_
          refine lv_lload_n hx hb dX3_removed_30 rfl (lv_at hl 3 rfl) ?_
          refine q_callS (rest := []) C (c_X3_removing l D cy N0 e9 Ok m9 N hO he9 hN9 7 (Nat.le_refl _) h Im aR L X k hTR hE hN hno hk) kX3_removing g801 g802 hP hS (by first | decide | omega) hl.1 rfl (by decide) (by first | decide | omega) dX3_removed_31 (fun q ce E h' H1 locs1 hE => hE.elim) (fun v hh2 H locs hq hP hS => ?_)
          obtain ⟨a2, X2, Im2, rfl, hr1, hr2, hr3⟩ := hq
          have hdl := thD_len (L := L) (k := k) hno hk
          have hl0 : L.length ≠ 0 := fun z => hneR (List.eq_nil_of_length_eq_zero z)
          exact q_aret (v := some a2) C (Or.inl ⟨_, rfl⟩) hP hS ⟨some a2, X2, Im2, rfl, Or.inr ⟨a2, rfl, fun z => by (rw [z] at hdl; simp only [List.length_nil] at hdl; omega), hr1⟩, hr2, hr3⟩ (by omega) dX3_removed_34
        · replace c20 : (L.length) = 1 := (nI_eq (a := L.length) (b := 1) (by omega) (by omega)).mp c20
          refine lv_null hx hb dX3_removed_23 ?_
          refine lv_goto (tgt := 34) hx hb dX3_removed_24 (by decide) ?_
          have hdl := thD_len (L := L) (k := k) hno hk
          exact q_aret (v := none) C (Or.inl ⟨_, rfl⟩) hP hS ⟨none, X, Im, rfl, Or.inl ⟨rfl, List.eq_nil_of_length_eq_zero (by omega)⟩, hE, qCh.rf⟩ (by omega) dX3_removed_34
      · replace c10 : 1 = 0 := (nI_eq (a := 1) (b := 0) (by omega) (by omega)).mp c10
        exfalso; omega
