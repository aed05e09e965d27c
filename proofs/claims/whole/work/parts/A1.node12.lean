theorem dX3_removeBelow_0 : decode cX3_removeBelow 0 = .ok (.iload_n 1, 1) := by decide +kernel
theorem dX3_removeBelow_1 : decode cX3_removeBelow 1 = .ok (.aload_n 0, 1) := by decide +kernel
theorem dX3_removeBelow_2 : decode cX3_removeBelow 2 = .ok (.getfield 45, 3) := by decide +kernel
theorem dX3_removeBelow_5 : decode cX3_removeBelow 5 = .ok (.invokestatic 52, 3) := by decide +kernel
theorem dX3_removeBelow_8 : decode cX3_removeBelow 8 = .ok (.istore 5, 2) := by decide +kernel
theorem dX3_removeBelow_10 : decode cX3_removeBelow 10 = .ok (.aload_n 0, 1) := by decide +kernel
theorem dX3_removeBelow_11 : decode cX3_removeBelow 11 = .ok (.getfield 28, 3) := by decide +kernel
theorem dX3_removeBelow_14 : decode cX3_removeBelow 14 = .ok (.iload 5, 2) := by decide +kernel
theorem dX3_removeBelow_16 : decode cX3_removeBelow 16 = .ok (.aaload, 1) := by decide +kernel
theorem dX3_removeBelow_17 : decode cX3_removeBelow 17 = .ok (.aload_n 0, 1) := by decide +kernel
theorem dX3_removeBelow_18 : decode cX3_removeBelow 18 = .ok (.getfield 25, 3) := by decide +kernel
theorem dX3_removeBelow_21 : decode cX3_removeBelow 21 = .ok (.iload_n 2, 1) := by decide +kernel
theorem dX3_removeBelow_22 : decode cX3_removeBelow 22 = .ok (.lload_n 3, 1) := by decide +kernel
theorem dX3_removeBelow_23 : decode cX3_removeBelow 23 = .ok (.invokestatic 116, 3) := by decide +kernel
theorem dX3_removeBelow_26 : decode cX3_removeBelow 26 = .ok (.astore 6, 2) := by decide +kernel
theorem dX3_removeBelow_28 : decode cX3_removeBelow 28 = .ok (.aload 6, 2) := by decide +kernel
theorem dX3_removeBelow_30 : decode cX3_removeBelow 30 = .ok (.getfield 32, 3) := by decide +kernel
theorem dX3_removeBelow_33 : decode cX3_removeBelow 33 = .ok (.iconst 1, 1) := by decide +kernel
theorem dX3_removeBelow_34 : decode cX3_removeBelow 34 = .ok (.if_icmp .le 13, 3) := by decide +kernel
theorem dX3_removeBelow_37 : decode cX3_removeBelow 37 = .ok (.aload_n 0, 1) := by decide +kernel
theorem dX3_removeBelow_38 : decode cX3_removeBelow 38 = .ok (.getfield 28, 3) := by decide +kernel
theorem dX3_removeBelow_41 : decode cX3_removeBelow 41 = .ok (.iload 5, 2) := by decide +kernel
theorem dX3_removeBelow_43 : decode cX3_removeBelow 43 = .ok (.aload 6, 2) := by decide +kernel
theorem dX3_removeBelow_45 : decode cX3_removeBelow 45 = .ok (.aastore, 1) := by decide +kernel
theorem dX3_removeBelow_46 : decode cX3_removeBelow 46 = .ok (.return_, 1) := by decide +kernel
theorem dX3_removeBelow_47 : decode cX3_removeBelow 47 = .ok (.aload_n 0, 1) := by decide +kernel
theorem dX3_removeBelow_48 : decode cX3_removeBelow 48 = .ok (.aload_n 0, 1) := by decide +kernel
theorem dX3_removeBelow_49 : decode cX3_removeBelow 49 = .ok (.getfield 28, 3) := by decide +kernel
theorem dX3_removeBelow_52 : decode cX3_removeBelow 52 = .ok (.iload 5, 2) := by decide +kernel
theorem dX3_removeBelow_54 : decode cX3_removeBelow 54 = .ok (.invokestatic 124, 3) := by decide +kernel
theorem dX3_removeBelow_57 : decode cX3_removeBelow 57 = .ok (.putfield 28, 3) := by decide +kernel
theorem dX3_removeBelow_60 : decode cX3_removeBelow 60 = .ok (.aload_n 0, 1) := by decide +kernel
theorem dX3_removeBelow_61 : decode cX3_removeBelow 61 = .ok (.dup, 1) := by decide +kernel
theorem dX3_removeBelow_62 : decode cX3_removeBelow 62 = .ok (.getfield 45, 3) := by decide +kernel
theorem dX3_removeBelow_65 : decode cX3_removeBelow 65 = .ok (.iload_n 1, 1) := by decide +kernel
theorem dX3_removeBelow_66 : decode cX3_removeBelow 66 = .ok (.iconst (-1), 1) := by decide +kernel
theorem dX3_removeBelow_67 : decode cX3_removeBelow 67 = .ok (.ixor, 1) := by decide +kernel
theorem dX3_removeBelow_68 : decode cX3_removeBelow 68 = .ok (.iand, 1) := by decide +kernel
theorem dX3_removeBelow_69 : decode cX3_removeBelow 69 = .ok (.putfield 45, 3) := by decide +kernel
theorem dX3_removeBelow_72 : decode cX3_removeBelow 72 = .ok (.aload_n 0, 1) := by decide +kernel
theorem dX3_removeBelow_73 : decode cX3_removeBelow 73 = .ok (.iload_n 1, 1) := by decide +kernel
theorem dX3_removeBelow_74 : decode cX3_removeBelow 74 = .ok (.aload 6, 2) := by decide +kernel
theorem dX3_removeBelow_76 : decode cX3_removeBelow 76 = .ok (.getfield 15, 3) := by decide +kernel
theorem dX3_removeBelow_79 : decode cX3_removeBelow 79 = .ok (.iconst 0, 1) := by decide +kernel
theorem dX3_removeBelow_80 : decode cX3_removeBelow 80 = .ok (.laload, 1) := by decide +kernel
theorem dX3_removeBelow_81 : decode cX3_removeBelow 81 = .ok (.aload 6, 2) := by decide +kernel
theorem dX3_removeBelow_83 : decode cX3_removeBelow 83 = .ok (.getfield 18, 3) := by decide +kernel
theorem dX3_removeBelow_86 : decode cX3_removeBelow 86 = .ok (.iconst 0, 1) := by decide +kernel
theorem dX3_removeBelow_87 : decode cX3_removeBelow 87 = .ok (.laload, 1) := by decide +kernel
theorem dX3_removeBelow_88 : decode cX3_removeBelow 88 = .ok (.invokevirtual 88, 3) := by decide +kernel
theorem dX3_removeBelow_91 : decode cX3_removeBelow 91 = .ok (.return_, 1) := by decide +kernel
set_option maxRecDepth 100000 in
set_option maxHeartbeats 4000000 in
theorem c_X3_removeBelow (l : Launch) (D : va_G) (cy : Nat → ClassId) (N0 : Nat) (h : qH) (Im : Nat → Prop) (e9 : Nat) (Ok : Nat → Prop) (m9 : Int32) (r a : Nat) (L : qKV) (X : Nat → Prop) (ka1 va1 na1 : Nat) (C1 : Nat → Nat) (Xs1 : Nat → Nat → Prop) (k : Int64) (N n8 : Nat) (hW : qOw cy h Im e9 Ok m9 (r + 1) a L n8 X ka1 va1 na1 C1 Xs1) (hn9 : n8 + 1 = L.length) (hE : qEd cy h Im X) (hO : ¬ Ok e9) (he9 : e9 < 2 ^ 31) (hr : r + 1 ≤ 7) (hL : L.length < 100000) (hno : qNo L) (hM1 : thM m9 (6 - r) L (thN m9 (6 - r) k) = true) (hk : xHas L k = true) (hN : L.length ≤ N) (ih : qRemC l D cy N0 e9 Ok m9 N r) : qC l D cy N0 yX3_removeBelow cX3_removeBelow 7 none (9 + 2 * r) (460 + 150 * r) (6 * r + 11) (rMs N r + 2 * N + 40) [.ref a, .int (nI (2 ^ thN m9 (6 - r) k)), .int m9, .long k] h (fun v h' => v = none ∧ ∃ (X2 Im2 : Nat → Prop), qTr cy h' Im2 e9 Ok m9 (r + 1) a (thD L k) X2 ∧ qEd cy h' Im2 X2 ∧ qCh h Im X h' Im2 X2) (fun E h' => False) := by
  refine q_ofW (by decide) (by exact Nat.le_of_ble_eq_true rfl) ?_
  intro p e s m below meth c ls C hP hl
  have hx := C.1
  have hb := C.2.1
  have hS : va_S (qA N0) s.heap s.heap [] := va_S.rf
  have hl : lv_has ls 7 [(0, .ref a), (1, .int (nI (2 ^ thN m9 (6 - r) k))), (2, .int m9), (3, .long k)] := hl
  have ow0 := hW.own hO
  have hW1 := hW.1
  have f1 := hW.1.1
  have fk1 := hW.1.2.1
  have fv1 := hW.1.2.2.1
  have fn1 := hW.1.2.2.2.1
  unfold thNo at f1
  unfold thJ at fk1 fv1
  unfold thA at fn1
  rw [List.length_map] at fk1 fv1
  have hat := trM_at (r := r) thN_lt hM1
  have hlt := (List.getElem?_eq_some_iff.mp hat).1
  have hml := trM_len (m := m9) (r := r + 1) (L := L)
  have hbl := thK_len (m := m9) (d := 6 - r) (v := (thN m9 (6 - r) k)) (L := L)
  have hTc : qTr cy h Im e9 Ok m9 r (C1 (tqC (thM m9 (6 - r) L) (thN m9 (6 - r) k))) (thK m9 (6 - r) (thN m9 (6 - r) k) L) (Xs1 (tqC (thM m9 (6 - r) L) (thN m9 (6 - r) k))) := by obtain ⟨r9, er, t9⟩ := hW.2.2 _ _ hat; cases er; exact t9
  have hxa : ∀ b, Xs1 (tqC (thM m9 (6 - r) L) (thN m9 (6 - r) k)) b → X b ∧ b ≠ a ∧ b ≠ va1 ∧ b ≠ na1 := hW.2.1.1 _ hlt
  have hEc : qEd cy h Im (Xs1 (tqC (thM m9 (6 - r) L) (thN m9 (6 - r) k))) := ⟨fun b z => hE.1 b (hxa b z).1, fun b z => hE.2.1 b (z.imp_right (fun q => (hxa b q).1)), hE.2.2.1, hE.2.2.2⟩
  obtain ⟨owc, kac, vac, nac, Cc, Xsc, hnc, -, -⟩ := hTc.inv
  have fc := hnc.1
  unfold thNo at fc
  have hdl := thD_len (L := (thK m9 (6 - r) (thN m9 (6 - r) k) L)) (k := k) (qNo_k hno) (by rw [thK_has]; exact hk)
  have hdl2 := thD_len (L := L) (k := k) hno hk
  have hb2 : 2 ≤ (thK m9 (6 - r) (thN m9 (6 - r) k) L).length := by unfold thM at hM1; exact of_decide_eq_true hM1
  refine lv_iload_n hx hb dX3_removeBelow_0 rfl (lv_at hl 1 rfl) ?_
  refine lv_aload_n hx hb dX3_removeBelow_1 rfl (lv_at hl 0 rfl) ?_
  refine q_get C hP f1 rfl inX3 3 (by decide) g364 rfl dX3_removeBelow_2 ?_
  refine q_callS (rest := []) C (c_X3_rankOf l D cy N0 h (thM m9 (6 - r) L) (thN m9 (6 - r) k) thN_lt) kX3_rankOf g305 g306 hP hS (by first | decide | omega) hl.1 rfl (by decide) (by first | decide | omega) dX3_removeBelow_5 (fun q ce E h' H1 locs1 hE => hE.elim) (fun v hh1 H locs hq hP hS => ?_)
  obtain ⟨rfl, rfl⟩ := hq
  refine lv_istore (lv' := [(5, .int (nI (tqC (thM m9 (6 - r) L) (thN m9 (6 - r) k)))), (0, .ref a), (1, .int (nI (2 ^ thN m9 (6 - r) k))), (2, .int m9), (3, .long k)]) hx hb dX3_removeBelow_8 hl (by decide) rfl (fun ls hl => ?_)
  refine lv_aload_n hx hb dX3_removeBelow_10 rfl (lv_at hl 1 rfl) ?_
  refine q_get C hP f1 rfl inX3 7 (by decide) g369 rfl dX3_removeBelow_11 ?_
  refine lv_iload hx hb dX3_removeBelow_14 (lv_at hl 0 rfl) ?_
  refine q_aaldR C hP fn1 rfl hlt (by omega) rfl dX3_removeBelow_16 ?_
  refine lv_aload_n hx hb dX3_removeBelow_17 rfl (lv_at hl 1 rfl) ?_
  refine q_get C hP f1 rfl inX3 1 (by decide) g362 rfl dX3_removeBelow_18 ?_
  refine lv_iload_n hx hb dX3_removeBelow_21 rfl (lv_at hl 3 rfl) ?_
  refine lv_lload_n hx hb dX3_removeBelow_22 rfl (lv_at hl 4 rfl) ?_
  refine q_callS (rest := []) C (ih h Im (C1 (tqC (thM m9 (6 - r) L) (thN m9 (6 - r) k))) (thK m9 (6 - r) (thN m9 (6 - r) k) L) (Xs1 (tqC (thM m9 (6 - r) L) (thN m9 (6 - r) k))) k hTc hEc (by omega) (qNo_k hno) (by rw [thK_has]; exact hk)) kX3_removing g801 g802 hP hS (by first | decide | omega) hl.1 rfl (by decide) (by first | decide | omega) dX3_removeBelow_23 (fun q ce E h' H1 locs1 hE => hE.elim) (fun v hh2 H locs hq hP hS => ?_)
  obtain ⟨a2, X1, Im1, rfl, hT1, hE1, hch1⟩ := hq
  replace f1 := hch1.1 _ _ f1 (fun q => (hxa _ q).2.1 rfl)
  replace fn1 := hch1.1 _ _ fn1 (fun q => (hxa _ q).2.2.2 rfl)
  obtain ⟨ow2, ka2, va2, na2, C2, Xs2, hn2, -, -⟩ := hT1.inv
  have fa2 := hn2.1
  unfold thNo at fa2
  have n_a_a2 : a2 ≠ a := fun z => by
    have ha9 : h a ≠ none := by rw [hW1.1]; exact fun z => by cases z
    rcases hT1.root.1 with q | q
    · rcases hch1.2.2.1 _ q with q | q
      · exact hE.1 a ow0.1 (z ▸ q)
      · exact ha9 (z ▸ q)
    · rcases hch1.2.2.2.1 _ q with q | q
      · exact (hxa _ q).2.1 z
      · exact ha9 (z ▸ q)
  have kp9 : ∀ b o, hh2 b = some o → b ≠ a → b ≠ na1 → hh2 b = some o := fun b o hb _ _ => hb
  have kd9 : ∀ b o, hh2 b = some o → ∃ o', hh2 b = some o' := fun b o hb => ⟨o, hb⟩
  have kq9 : ∀ b o, hh2 b = some o → b ≠ a → hh2 b = some o := fun b o hb _ => hb
  have ke9 : ∀ b o, hh2 b = some o → ∃ o', hh2 b = some o' := fun b o hb => ⟨o, hb⟩
  refine lv_astore (lv' := [(6, .ref a2), (5, .int (nI (tqC (thM m9 (6 - r) L) (thN m9 (6 - r) k)))), (0, .ref a), (1, .int (nI (2 ^ thN m9 (6 - r) k))), (2, .int m9), (3, .long k)]) hx hb dX3_removeBelow_26 hl (by decide) rfl (fun ls hl => ?_)
  refine lv_aload hx hb dX3_removeBelow_28 (lv_at hl 0 rfl) ?_
  refine q_get C hP fa2 rfl inX3 4 (by decide) g365 rfl dX3_removeBelow_30 ?_
  refine lv_iconst (v := nI 1) hx hb dX3_removeBelow_33 (by decide) ?_
  refine lv_icmp_le (tgt := 47) hx hb dX3_removeBelow_34 (by decide) (fun c34 => ?_) (fun c34 => ?_)
  · replace c34 : ((thD (thK m9 (6 - r) (thN m9 (6 - r) k) L) k).length) ≤ 1 := (nI_leI (a := (thD (thK m9 (6 - r) (thN m9 (6 - r) k) L) k).length) (b := 1) (by omega) (by omega)).mp c34
    obtain ⟨p9, hp9⟩ := thLen1 (L := (thD (thK m9 (6 - r) (thN m9 (6 - r) k) L) k)) (by omega)
    have hkk2 := hn2.2.1
    have hvv2 := hn2.2.2.1
    rw [hp9, trK_one] at hkk2 hvv2
    unfold thJ at hkk2 hvv2
    replace hkk2 : hh2 ka2 = some (.inl (cy 1, 1, .inr (.inl (fun j => [p9.1].getD j 0)))) := hkk2
    replace hvv2 : hh2 va2 = some (.inl (cy 1, 1, .inr (.inl (fun j => [p9.2].getD j 0)))) := hvv2
    have hl1 : (List.map Prod.fst (trK m9 (r + 1) L)).length = (trK m9 (r + 1) L).length := List.length_map _
    have hl2 : (List.map Prod.snd (trK m9 (r + 1) L)).length = (trK m9 (r + 1) L).length := List.length_map _
    have hkl := trK_len (m := m9) (r := r + 1) (L := L)
    have hka9 := hch1.1 _ _ hW1.2.1 (fun q => hE.1 _ (hxa _ q).1 hW1.2.2.2.2.1)
    have hva9 := hch1.1 _ _ hW1.2.2.1 (fun q => (hxa _ q).2.2.1 rfl)
    refine lv_aload_n hx hb dX3_removeBelow_47 rfl (lv_at hl 2 rfl) ?_
    refine lv_aload_n hx hb dX3_removeBelow_48 rfl (lv_at hl 2 rfl) ?_
    refine q_get C hP f1 rfl inX3 7 (by decide) g369 rfl dX3_removeBelow_49 ?_
    refine lv_iload hx hb dX3_removeBelow_52 (lv_at hl 1 rfl) ?_
    have hCf : ∀ j, j < (trM m9 (r + 1) L).length → j ≠ (tqC (thM m9 (6 - r) L) (thN m9 (6 - r) k)) → ∃ fs, hh2 (C1 j) = some (.inr (3, fs)) := fun j hj cj => by
      obtain ⟨nj, fs, hf⟩ := hW.child hO hE hj; refine ⟨fs, hch1.1 _ _ hf (fun q => ?_)⟩
      obtain ⟨r9, er, t9⟩ := hW.2.2 j _ (List.getElem?_eq_getElem hj); cases er
      rcases t9.root.1 with z | z
      · exact hE.1 _ (hxa _ q).1 z
      · exact hW.2.1.2 j _ hj hlt cj _ z q
    refine q_callS (rest := [.ref a]) C (c_X3_withoutNode l D cy N0 hh2 na1 (trM m9 (r + 1) L).length (tqC (thM m9 (6 - r) L) (thN m9 (6 - r) k)) C1 fn1 hCf (by omega) hlt) kX3_withoutNode g808 g809 hP hS (by first | decide | omega) hl.1 rfl (by simp [q_catrf, q_cati, q_catl, q_cata, q_catn]) (by first | decide | omega) dX3_removeBelow_54 (fun q ce E h' H1 locs1 hE => hE.elim) (fun v hh3 H locs hq hP hS => ?_)
    obtain ⟨na3, rfl, ena3, rfl⟩ := hq
    obtain ⟨hv1, ehv1⟩ : ∃ z : qH, z = qs hh2 na3 (thA cy ((trM m9 (r + 1) L).length - 1) (thCe C1 (tqC (thM m9 (6 - r) L) (thN m9 (6 - r) k)))) := ⟨_, rfl⟩
    rw [← ehv1] at hP
    have khv1 : ∀ b o, b ≠ na3 → hh2 b = some o → hv1 b = some o := by rw [ehv1]; exact fun b o nb hb => (qs_ne nb).trans hb
    have n_na3_a : a ≠ na3 := qne_of ena3 f1
    replace f1 := khv1 _ _ n_na3_a f1
    have n_na3_na1 : na1 ≠ na3 := qne_of ena3 fn1
    replace fn1 := khv1 _ _ n_na3_na1 fn1
    have n_na3_a2 : a2 ≠ na3 := qne_of ena3 fa2
    replace fa2 := khv1 _ _ n_na3_a2 fa2
    have n_na3_ka2 : ka2 ≠ na3 := qne_of ena3 hkk2
    replace hkk2 := khv1 _ _ n_na3_ka2 hkk2
    have n_na3_va2 : va2 ≠ na3 := qne_of ena3 hvv2
    replace hvv2 := khv1 _ _ n_na3_va2 hvv2
    have n_na3_ka1 : ka1 ≠ na3 := qne_of ena3 hka9
    replace hka9 := khv1 _ _ n_na3_ka1 hka9
    have n_na3_va1 : va1 ≠ na3 := qne_of ena3 hva9
    replace hva9 := khv1 _ _ n_na3_va1 hva9
    have fna3 : hv1 na3 = some (thA cy ((trM m9 (r + 1) L).length - 1) (thCe C1 (tqC (thM m9 (6 - r) L) (thN m9 (6 - r) k)))) := by rw [ehv1]; exact qs_self
    clear ehv1
    have tna3 : hh2 na3 = none := qno ke9 ena3
    replace kq9 : ∀ b o, hh2 b = some o → b ≠ a → hv1 b = some o := fun b o hb n0_ => khv1 b o (qne_of tna3 hb) (kq9 b o hb n0_)
    replace ke9 : ∀ b o, hh2 b = some o → ∃ o', hv1 b = some o' := fun b o hb => (ke9 b o hb).elim (fun o9 h9 => ⟨o9, khv1 b o9 (qne_of tna3 hb) h9⟩)
    refine q_put C hP hS f1 rfl inX3 tyX3 tyX3_ok nmX3 7 (by decide) g369 rfl rfl rfl (Nat.le_of_ble_eq_true rfl) dX3_removeBelow_57 (fun H locs hP hS => ?_)
    replace hP : qP D N0 (qs hv1 a (.inr (3, [.int (nI (7 - (r + 1))), .int (nI e9), .int (nI (trKb m9 (r + 1) L)), .int (nI (trNb m9 (r + 1) L)), .int (nI n8), .ref ka1, .ref va1, .ref na3]))) H := hP
    obtain ⟨hv2, ehv2⟩ : ∃ z : qH, z = qs hv1 a (.inr (3, [.int (nI (7 - (r + 1))), .int (nI e9), .int (nI (trKb m9 (r + 1) L)), .int (nI (trNb m9 (r + 1) L)), .int (nI n8), .ref ka1, .ref va1, .ref na3])) := ⟨_, rfl⟩
    rw [← ehv2] at hP
    have khv2 : ∀ b o, b ≠ a → hv1 b = some o → hv2 b = some o := by rw [ehv2]; exact fun b o nb hb => (qs_ne nb).trans hb
    replace fn1 := khv2 _ _ (fun q => by subst q; have := fn1.symm.trans f1; first | cases this | simp at this) fn1
    replace fa2 := khv2 _ _ n_a_a2 fa2
    replace hkk2 := khv2 _ _ (fun q => by subst q; have := hkk2.symm.trans f1; first | cases this | simp at this) hkk2
    replace hvv2 := khv2 _ _ (fun q => by subst q; have := hvv2.symm.trans f1; first | cases this | simp at this) hvv2
    replace hka9 := khv2 _ _ (fun q => by subst q; have := hka9.symm.trans f1; first | cases this | simp at this) hka9
    replace hva9 := khv2 _ _ (fun q => by subst q; have := hva9.symm.trans f1; first | cases this | simp at this) hva9
    replace fna3 := khv2 _ _ n_na3_a.symm fna3
    replace f1 : hv2 a = some (.inr (3, [.int (nI (7 - (r + 1))), .int (nI e9), .int (nI (trKb m9 (r + 1) L)), .int (nI (trNb m9 (r + 1) L)), .int (nI n8), .ref ka1, .ref va1, .ref na3])) := by rw [ehv2]; exact qs_self
    clear ehv2
    replace kq9 : ∀ b o, hh2 b = some o → b ≠ a → hv2 b = some o := fun b o hb n0_ => khv2 b o n0_ (kq9 b o hb n0_)
    replace ke9 : ∀ b o, hh2 b = some o → ∃ o', hv2 b = some o' := fun b o hb => if z9 : b = a then ⟨_, (congrArg hv2 z9).trans f1⟩ else (ke9 b o hb).elim (fun o9 h9 => ⟨o9, khv2 b o9 z9 h9⟩)
    refine lv_aload_n hx hb dX3_removeBelow_60 rfl (lv_at hl 2 rfl) ?_
    refine lv_dup hx hb dX3_removeBelow_61 rfl ?_
    refine q_get C hP f1 rfl inX3 3 (by decide) g364 rfl dX3_removeBelow_62 ?_
    refine lv_iload_n hx hb dX3_removeBelow_65 rfl (lv_at hl 3 rfl) ?_
    refine lv_iconst (v := -1) hx hb dX3_removeBelow_66 (by decide) ?_
    refine lv_ixor hx hb dX3_removeBelow_67 ?_
    refine lv_iand hx hb dX3_removeBelow_68 ?_
    refine q_put C hP hS f1 rfl inX3 tyX3 tyX3_ok nmX3 3 (by decide) g364 rfl rfl rfl (Nat.le_of_ble_eq_true rfl) dX3_removeBelow_69 (fun H locs hP hS => ?_)
    replace hP : qP D N0 (qs hv2 a (.inr (3, [.int (nI (7 - (r + 1))), .int (nI e9), .int (nI (trKb m9 (r + 1) L)), .int ((nI (trNb m9 (r + 1) L)) &&& ((nI (2 ^ thN m9 (6 - r) k)) ^^^ (-1))), .int (nI n8), .ref ka1, .ref va1, .ref na3]))) H := hP
    obtain ⟨hv3, ehv3⟩ : ∃ z : qH, z = qs hv2 a (.inr (3, [.int (nI (7 - (r + 1))), .int (nI e9), .int (nI (trKb m9 (r + 1) L)), .int ((nI (trNb m9 (r + 1) L)) &&& ((nI (2 ^ thN m9 (6 - r) k)) ^^^ (-1))), .int (nI n8), .ref ka1, .ref va1, .ref na3])) := ⟨_, rfl⟩
    rw [← ehv3] at hP
    have khv3 : ∀ b o, b ≠ a → hv2 b = some o → hv3 b = some o := by rw [ehv3]; exact fun b o nb hb => (qs_ne nb).trans hb
    replace fn1 := khv3 _ _ (fun q => by subst q; have := fn1.symm.trans f1; first | cases this | simp at this) fn1
    replace fa2 := khv3 _ _ n_a_a2 fa2
    replace hkk2 := khv3 _ _ (fun q => by subst q; have := hkk2.symm.trans f1; first | cases this | simp at this) hkk2
    replace hvv2 := khv3 _ _ (fun q => by subst q; have := hvv2.symm.trans f1; first | cases this | simp at this) hvv2
    replace hka9 := khv3 _ _ (fun q => by subst q; have := hka9.symm.trans f1; first | cases this | simp at this) hka9
    replace hva9 := khv3 _ _ (fun q => by subst q; have := hva9.symm.trans f1; first | cases this | simp at this) hva9
    replace fna3 := khv3 _ _ n_na3_a.symm fna3
    replace f1 : hv3 a = some (.inr (3, [.int (nI (7 - (r + 1))), .int (nI e9), .int (nI (trKb m9 (r + 1) L)), .int ((nI (trNb m9 (r + 1) L)) &&& ((nI (2 ^ thN m9 (6 - r) k)) ^^^ (-1))), .int (nI n8), .ref ka1, .ref va1, .ref na3])) := by rw [ehv3]; exact qs_self
    clear ehv3
    replace kq9 : ∀ b o, hh2 b = some o → b ≠ a → hv3 b = some o := fun b o hb n0_ => khv3 b o n0_ (kq9 b o hb n0_)
    replace ke9 : ∀ b o, hh2 b = some o → ∃ o', hv3 b = some o' := fun b o hb => if z9 : b = a then ⟨_, (congrArg hv3 z9).trans f1⟩ else (ke9 b o hb).elim (fun o9 h9 => ⟨o9, khv3 b o9 z9 h9⟩)
    refine lv_aload_n hx hb dX3_removeBelow_72 rfl (lv_at hl 2 rfl) ?_
    refine lv_iload_n hx hb dX3_removeBelow_73 rfl (lv_at hl 3 rfl) ?_
    refine lv_aload hx hb dX3_removeBelow_74 (lv_at hl 0 rfl) ?_
    refine q_get C hP fa2 rfl inX3 5 (by decide) g366 rfl dX3_removeBelow_76 ?_
    refine lv_iconst (v := nI 0) hx hb dX3_removeBelow_79 (by decide) ?_
    refine q_laldN C hP hkk2 (by omega) (by omega) dX3_removeBelow_80 ?_
    refine lv_aload hx hb dX3_removeBelow_81 (lv_at hl 0 rfl) ?_
    refine q_get C hP fa2 rfl inX3 6 (by decide) g367 rfl dX3_removeBelow_83 ?_
    refine lv_iconst (v := nI 0) hx hb dX3_removeBelow_86 (by decide) ?_
    refine q_laldN C hP hvv2 (by omega) (by omega) dX3_removeBelow_87 ?_
    have hrs : (tqC (thS m9 (6 - r) L) (thN m9 (6 - r) k)) ≤ (trK m9 (r + 1) L).length := by obtain ⟨P2, Q2, f1, -, f3⟩ := trK_two (m := m9) (r := r) (L := L) (L' := L) (fun _ _ => rfl) (thN_lt (m := m9) (d := 6 - r) (k := k)); rw [f1, ← f3, List.length_append]; omega
    refine q_callV (rest := []) C (c_X3_insertKey l D cy N0 hv3 a (7 - (r + 1)) e9 n8 ka1 va1 na3 (thS m9 (6 - r) L) (thN m9 (6 - r) k) ((nI (trNb m9 (r + 1) L)) &&& ((nI (2 ^ thN m9 (6 - r) k)) ^^^ (-1))) (List.map Prod.fst (trK m9 (r + 1) L)) (List.map Prod.snd (trK m9 (r + 1) L)) p9.1 p9.2 f1 hka9 hva9 (by omega) thN_lt (by omega) (by omega) (by omega)) kX3_insertKey g430 g432 rfl gp11 g12 hP hS f1 (by first | decide | omega) hl.1 rfl (by decide) (by first | decide | omega) dX3_removeBelow_88 (fun q ce E h' H1 locs1 hE => hE.elim) (fun v hh4 H locs hq hP hS => ?_)
    obtain ⟨rfl, ka3, va3, n1, n2, n3, g3, gk3, gv3, frq, fdq⟩ := hq
    have gn3 := frq _ _ fna3 n_na3_a.symm
    have nk3 : na3 ≠ ka3 := qne_of n1 fna3
    have nv3 : na3 ≠ va3 := qne_of n2 fna3
    have tka : hh2 ka3 = none := qno ke9 n1
    have tva : hh2 va3 = none := qno ke9 n2
    replace kq9 : ∀ b o, hh2 b = some o → b ≠ a → hh4 b = some o := fun b o hb n => frq b o (kq9 b o hb n) n
    replace ke9 : ∀ b o, hh2 b = some o → ∃ o', hh4 b = some o' := fun b o hb => (ke9 b o hb).elim (fun o9 h9 => fdq b o9 h9)
    have hu9 : ∀ u, u ≠ (thN m9 (6 - r) k) → thK m9 (6 - r) u (thD L k) = thK m9 (6 - r) u L := fun u hu => thK_del2 hu
    have hn8 : n8 = (thD L k).length := by omega
    have hp8 : thK m9 (6 - r) (thN m9 (6 - r) k) (thD L k) = [p9] := by rw [thK_del]; exact hp9
    have hS2 : thS m9 (6 - r) (thD L k) (thN m9 (6 - r) k) = true := by unfold thS; rw [hp8]; rfl
    have hM2 : thM m9 (6 - r) (thD L k) (thN m9 (6 - r) k) = false := by unfold thM; rw [hp8]; rfl
    have hkb9 := (trKb_two hu9 thN_lt).2.1 hS2
    have hnb9 := (trNb_two hu9 thN_lt).2.2 hM2
    obtain ⟨X2, Im2, hr1, hr2, hr3⟩ := own_pull hW hE hO thN_lt hu9 hM1 hp8 hch1 hE1 kq9 ke9 tka tva tna3 ⟨nk3, nv3, n3⟩ (by unfold thNo; rw [← hkb9, ← hnb9, ← hn8]; exact g3) gk3 gv3 gn3
    exact q_vret C hP hS ⟨rfl, X2, Im2, hr1, hr2, hr3⟩ (by omega) dX3_removeBelow_91
  · replace c34 : ¬ ((thD (thK m9 (6 - r) (thN m9 (6 - r) k) L) k).length) ≤ 1 := fun zq => c34 ((nI_leI (a := (thD (thK m9 (6 - r) (thN m9 (6 - r) k) L) k).length) (b := 1) (by omega) (by omega)).mpr zq)
    refine lv_aload_n hx hb dX3_removeBelow_37 rfl (lv_at hl 2 rfl) ?_
    refine q_get C hP f1 rfl inX3 7 (by decide) g369 rfl dX3_removeBelow_38 ?_
    refine lv_iload hx hb dX3_removeBelow_41 (lv_at hl 1 rfl) ?_
    refine lv_aload hx hb dX3_removeBelow_43 (lv_at hl 0 rfl) ?_
    refine q_aastN (rc := (RX3, TX3, 8)) C rfl rfl hP hS fn1 fa2 (by omega) (by omega) dX3_removeBelow_45 (fun H locs hP hS => ?_)
    rw [va_up_q] at hP
    obtain ⟨hv4, ehv4⟩ : ∃ z : qH, z = qs hh2 na1 (.inl (cy 4, (trM m9 (r + 1) L).length, .inr (.inr (.inr (.inr (fun i => some (qU C1 (tqC (thM m9 (6 - r) L) (thN m9 (6 - r) k)) a2 i))))))) := ⟨_, rfl⟩
    rw [← ehv4] at hP
    have khv4 : ∀ b o, b ≠ na1 → hh2 b = some o → hv4 b = some o := by rw [ehv4]; exact fun b o nb hb => (qs_ne nb).trans hb
    replace f1 := khv4 _ _ (fun q => by subst q; have := f1.symm.trans fn1; first | cases this | simp at this) f1
    replace fa2 := khv4 _ _ (fun q => by subst q; have := fa2.symm.trans fn1; first | cases this | simp at this) fa2
    replace fn1 : hv4 na1 = some (.inl (cy 4, (trM m9 (r + 1) L).length, .inr (.inr (.inr (.inr (fun i => some (qU C1 (tqC (thM m9 (6 - r) L) (thN m9 (6 - r) k)) a2 i))))))) := by rw [ehv4]; exact qs_self
    clear ehv4
    replace kp9 : ∀ b o, hh2 b = some o → b ≠ a → b ≠ na1 → hv4 b = some o := fun b o hb n0_ n1_ => khv4 b o n1_ (kp9 b o hb n0_ n1_)
    replace kd9 : ∀ b o, hh2 b = some o → ∃ o', hv4 b = some o' := fun b o hb => if z9 : b = na1 then ⟨_, (congrArg hv4 z9).trans fn1⟩ else (kd9 b o hb).elim (fun o9 h9 => ⟨o9, khv4 b o9 z9 h9⟩)
    have hu9 : ∀ u, u ≠ (thN m9 (6 - r) k) → thK m9 (6 - r) u (thD L k) = thK m9 (6 - r) u L := fun u hu => thK_del2 hu
    have hn8 : n8 = (thD L k).length := by omega
    have hM2 : thM m9 (6 - r) (thD L k) (thN m9 (6 - r) k) = true := by unfold thM; rw [thK_del]; exact decide_eq_true (by omega)
    obtain ⟨X2, Im2, hr1, hr2, hr3⟩ := own_below hW hE hO thN_lt hu9 hM1 hM2 hch1 hE1 (by rw [thK_del]; exact hT1) kp9 kd9 (by unfold thNo; rw [← hn8]; exact f1) fn1
    exact q_vret C hP hS ⟨rfl, X2, Im2, hr1, hr2, hr3⟩ (by omega) dX3_removeBelow_46
