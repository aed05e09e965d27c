theorem dX3_pushDown_0 : decode cX3_pushDown 0 = .ok (.iload_n 1, 1) := by decide +kernel
theorem dX3_pushDown_1 : decode cX3_pushDown 1 = .ok (.aload_n 0, 1) := by decide +kernel
theorem dX3_pushDown_2 : decode cX3_pushDown 2 = .ok (.getfield 55, 3) := by decide +kernel
theorem dX3_pushDown_5 : decode cX3_pushDown 5 = .ok (.invokestatic 52, 3) := by decide +kernel
theorem dX3_pushDown_8 : decode cX3_pushDown 8 = .ok (.istore 7, 2) := by decide +kernel
theorem dX3_pushDown_10 : decode cX3_pushDown 10 = .ok (.aload_n 0, 1) := by decide +kernel
theorem dX3_pushDown_11 : decode cX3_pushDown 11 = .ok (.getfield 21, 3) := by decide +kernel
theorem dX3_pushDown_14 : decode cX3_pushDown 14 = .ok (.iconst 1, 1) := by decide +kernel
theorem dX3_pushDown_15 : decode cX3_pushDown 15 = .ok (.iadd, 1) := by decide +kernel
theorem dX3_pushDown_16 : decode cX3_pushDown 16 = .ok (.aload_n 0, 1) := by decide +kernel
theorem dX3_pushDown_17 : decode cX3_pushDown 17 = .ok (.getfield 25, 3) := by decide +kernel
theorem dX3_pushDown_20 : decode cX3_pushDown 20 = .ok (.iload_n 2, 1) := by decide +kernel
theorem dX3_pushDown_21 : decode cX3_pushDown 21 = .ok (.aload_n 0, 1) := by decide +kernel
theorem dX3_pushDown_22 : decode cX3_pushDown 22 = .ok (.getfield 15, 3) := by decide +kernel
theorem dX3_pushDown_25 : decode cX3_pushDown 25 = .ok (.iload 7, 2) := by decide +kernel
theorem dX3_pushDown_27 : decode cX3_pushDown 27 = .ok (.laload, 1) := by decide +kernel
theorem dX3_pushDown_28 : decode cX3_pushDown 28 = .ok (.aload_n 0, 1) := by decide +kernel
theorem dX3_pushDown_29 : decode cX3_pushDown 29 = .ok (.getfield 18, 3) := by decide +kernel
theorem dX3_pushDown_32 : decode cX3_pushDown 32 = .ok (.iload 7, 2) := by decide +kernel
theorem dX3_pushDown_34 : decode cX3_pushDown 34 = .ok (.laload, 1) := by decide +kernel
theorem dX3_pushDown_35 : decode cX3_pushDown 35 = .ok (.lload_n 3, 1) := by decide +kernel
theorem dX3_pushDown_36 : decode cX3_pushDown 36 = .ok (.lload 5, 2) := by decide +kernel
theorem dX3_pushDown_38 : decode cX3_pushDown 38 = .ok (.invokestatic 92, 3) := by decide +kernel
theorem dX3_pushDown_41 : decode cX3_pushDown 41 = .ok (.astore 8, 2) := by decide +kernel
theorem dX3_pushDown_43 : decode cX3_pushDown 43 = .ok (.aload_n 0, 1) := by decide +kernel
theorem dX3_pushDown_44 : decode cX3_pushDown 44 = .ok (.iload 7, 2) := by decide +kernel
theorem dX3_pushDown_46 : decode cX3_pushDown 46 = .ok (.iload_n 1, 1) := by decide +kernel
theorem dX3_pushDown_47 : decode cX3_pushDown 47 = .ok (.invokevirtual 96, 3) := by decide +kernel
theorem dX3_pushDown_50 : decode cX3_pushDown 50 = .ok (.aload_n 0, 1) := by decide +kernel
theorem dX3_pushDown_51 : decode cX3_pushDown 51 = .ok (.aload_n 0, 1) := by decide +kernel
theorem dX3_pushDown_52 : decode cX3_pushDown 52 = .ok (.getfield 28, 3) := by decide +kernel
theorem dX3_pushDown_55 : decode cX3_pushDown 55 = .ok (.iload_n 1, 1) := by decide +kernel
theorem dX3_pushDown_56 : decode cX3_pushDown 56 = .ok (.aload_n 0, 1) := by decide +kernel
theorem dX3_pushDown_57 : decode cX3_pushDown 57 = .ok (.getfield 45, 3) := by decide +kernel
theorem dX3_pushDown_60 : decode cX3_pushDown 60 = .ok (.invokestatic 52, 3) := by decide +kernel
theorem dX3_pushDown_63 : decode cX3_pushDown 63 = .ok (.aload 8, 2) := by decide +kernel
theorem dX3_pushDown_65 : decode cX3_pushDown 65 = .ok (.invokestatic 100, 3) := by decide +kernel
theorem dX3_pushDown_68 : decode cX3_pushDown 68 = .ok (.putfield 28, 3) := by decide +kernel
theorem dX3_pushDown_71 : decode cX3_pushDown 71 = .ok (.aload_n 0, 1) := by decide +kernel
theorem dX3_pushDown_72 : decode cX3_pushDown 72 = .ok (.dup, 1) := by decide +kernel
theorem dX3_pushDown_73 : decode cX3_pushDown 73 = .ok (.getfield 45, 3) := by decide +kernel
theorem dX3_pushDown_76 : decode cX3_pushDown 76 = .ok (.iload_n 1, 1) := by decide +kernel
theorem dX3_pushDown_77 : decode cX3_pushDown 77 = .ok (.ior, 1) := by decide +kernel
theorem dX3_pushDown_78 : decode cX3_pushDown 78 = .ok (.putfield 45, 3) := by decide +kernel
theorem dX3_pushDown_81 : decode cX3_pushDown 81 = .ok (.aload_n 0, 1) := by decide +kernel
theorem dX3_pushDown_82 : decode cX3_pushDown 82 = .ok (.dup, 1) := by decide +kernel
theorem dX3_pushDown_83 : decode cX3_pushDown 83 = .ok (.getfield 32, 3) := by decide +kernel
theorem dX3_pushDown_86 : decode cX3_pushDown 86 = .ok (.iconst 1, 1) := by decide +kernel
theorem dX3_pushDown_87 : decode cX3_pushDown 87 = .ok (.iadd, 1) := by decide +kernel
theorem dX3_pushDown_88 : decode cX3_pushDown 88 = .ok (.putfield 32, 3) := by decide +kernel
theorem dX3_pushDown_91 : decode cX3_pushDown 91 = .ok (.return_, 1) := by decide +kernel
set_option maxRecDepth 100000 in
set_option maxHeartbeats 4000000 in
theorem c_X3_pushDown (l : Launch) (D : va_G) (cy : Nat → ClassId) (N0 : Nat) (h : qH) (Im : Nat → Prop) (e9 : Nat) (Ok : Nat → Prop) (m9 : Int32) (r a : Nat) (L : qKV) (X : Nat → Prop) (ka1 va1 na1 : Nat) (C1 : Nat → Nat) (Xs1 : Nat → Nat → Prop) (kq xq k x : Int64) (hW : qOw cy h Im e9 Ok m9 (r + 1) a L (L.length) X ka1 va1 na1 C1 Xs1) (hE : qEd cy h Im X) (hO : ¬ Ok e9) (he9 : e9 < 2 ^ 31) (hr : r + 1 ≤ 7) (hL : L.length < 100000) (hno : qNo L) (hbk : thK m9 (6 - r) (thN m9 (6 - r) k) L = [(kq, xq)]) (hkq : kq ≠ k) : qC l D cy N0 yX3_pushDown cX3_pushDown 9 none (5 + r) (250 + 60 * r) (2 * r + 7) (2 * L.length + 9 * r + 50) [.ref a, .int (nI (2 ^ thN m9 (6 - r) k)), .int m9, .long k, .long x] h (fun v h' => v = none ∧ ∃ (X2 Im2 : Nat → Prop), qTr cy h' Im2 e9 Ok m9 (r + 1) a (thP L k x) X2 ∧ qEd cy h' Im2 X2 ∧ qCh h Im X h' Im2 X2) (fun E h' => False) := by
  refine q_ofW (by decide) (by exact Nat.le_of_ble_eq_true rfl) ?_
  intro p e s m below meth c ls C hP hl
  have hx := C.1
  have hb := C.2.1
  have hS : va_S (qA N0) s.heap s.heap [] := va_S.rf
  have hl : lv_has ls 9 [(0, .ref a), (1, .int (nI (2 ^ thN m9 (6 - r) k))), (2, .int m9), (3, .long k), (5, .long x)] := hl
  have ow0 := hW.own hO
  have hW1 := hW.1
  have f1 := hW.1.1
  have fk1 := hW.1.2.1
  have fv1 := hW.1.2.2.1
  have fn1 := hW.1.2.2.2.1
  unfold thNo at f1
  unfold thJ at fk1 fv1
  unfold thA at fn1
  rw [List.length_map] at fk1 fv1
  have hS1 : thS m9 (6 - r) L (thN m9 (6 - r) k) = true := by unfold thS; rw [hbk]; rfl
  obtain ⟨p8, hp8, hf8⟩ := thS_one hS1
  rw [hbk] at hp8
  cases hp8
  have hat := trK_at (r := r) thN_lt hf8
  have hlt := (List.getElem?_eq_some_iff.mp hat).1
  have hkl := trK_len (m := m9) (r := r + 1) (L := L)
  have hml := trM_len (m := m9) (r := r + 1) (L := L)
  have hl1 : (List.map Prod.fst (trK m9 (r + 1) L)).length = (trK m9 (r + 1) L).length := List.length_map _
  have hl2 : (List.map Prod.snd (trK m9 (r + 1) L)).length = (trK m9 (r + 1) L).length := List.length_map _
  have hrm : (tqC (thM m9 (6 - r) L) (thN m9 (6 - r) k)) ≤ (trM m9 (r + 1) L).length := by obtain ⟨P2, Q2, f1, -, f3, -⟩ := trM_two (m := m9) (r := r) (L := L) (L' := L) (fun _ _ => rfl) (thN_lt (m := m9) (d := 6 - r) (k := k)); rw [f1, ← f3, List.length_append]; omega
  have fr : ∀ b o, h b = some o → b ≠ a → h b = some o := fun b o hb _ => hb
  have fd : ∀ b o, h b = some o → ∃ o', h b = some o' := fun b o hb => ⟨o, hb⟩
  refine lv_iload_n hx hb dX3_pushDown_0 rfl (lv_at hl 1 rfl) ?_
  refine lv_aload_n hx hb dX3_pushDown_1 rfl (lv_at hl 0 rfl) ?_
  refine q_get C hP f1 rfl inX3 2 (by decide) g363 rfl dX3_pushDown_2 ?_
  refine q_callS (rest := []) C (c_X3_rankOf l D cy N0 h (thS m9 (6 - r) L) (thN m9 (6 - r) k) thN_lt) kX3_rankOf g305 g306 hP hS (by first | decide | omega) hl.1 rfl (by decide) (by first | decide | omega) dX3_pushDown_5 (fun q ce E h' H1 locs1 hE => hE.elim) (fun v hh1 H locs hq hP hS => ?_)
  obtain ⟨rfl, rfl⟩ := hq
  refine lv_istore (lv' := [(7, .int (nI (tqC (thS m9 (6 - r) L) (thN m9 (6 - r) k)))), (0, .ref a), (1, .int (nI (2 ^ thN m9 (6 - r) k))), (2, .int m9), (3, .long k), (5, .long x)]) hx hb dX3_pushDown_8 hl (by decide) rfl (fun ls hl => ?_)
  refine lv_aload_n hx hb dX3_pushDown_10 rfl (lv_at hl 1 rfl) ?_
  refine q_get C hP f1 rfl inX3 0 (by decide) g361 rfl dX3_pushDown_11 ?_
  refine lv_iconst (v := nI 1) hx hb dX3_pushDown_14 (by decide) ?_
  refine q_iaddN hx hb dX3_pushDown_15 ?_
  refine lv_aload_n hx hb dX3_pushDown_16 rfl (lv_at hl 1 rfl) ?_
  refine q_get C hP f1 rfl inX3 1 (by decide) g362 rfl dX3_pushDown_17 ?_
  refine lv_iload_n hx hb dX3_pushDown_20 rfl (lv_at hl 3 rfl) ?_
  refine lv_aload_n hx hb dX3_pushDown_21 rfl (lv_at hl 1 rfl) ?_
  refine q_get C hP f1 rfl inX3 5 (by decide) g366 rfl dX3_pushDown_22 ?_
  refine lv_iload hx hb dX3_pushDown_25 (lv_at hl 0 rfl) ?_
  refine q_laldN C hP fk1 (by omega) (by omega) dX3_pushDown_27 ?_
  rw [th_key hat]
  refine lv_aload_n hx hb dX3_pushDown_28 rfl (lv_at hl 1 rfl) ?_
  refine q_get C hP f1 rfl inX3 6 (by decide) g367 rfl dX3_pushDown_29 ?_
  refine lv_iload hx hb dX3_pushDown_32 (lv_at hl 0 rfl) ?_
  refine q_laldN C hP fv1 (by omega) (by omega) dX3_pushDown_34 ?_
  rw [th_val hat]
  refine lv_lload_n hx hb dX3_pushDown_35 rfl (lv_at hl 4 rfl) ?_
  refine lv_lload hx hb dX3_pushDown_36 (lv_at hl 5 rfl) ?_
  refine q_callS (rest := []) C (c_X3_pairOf l D cy N0 e9 Ok m9 he9 _ h Im r ((7 - (r + 1)) + 1) kq xq k x hE.no (by omega) hkq (Nat.lt_succ_self _)) kX3_pairOf g414 g415 hP hS (by first | decide | omega) hl.1 rfl (by decide) (by first | decide | omega) dX3_pushDown_38 (fun q ce E h' H1 locs1 hE => hE.elim) (fun v hh2 H locs hq hP hS => ?_)
  obtain ⟨a2, X1, Im1, rfl, hT1, hE1, hch1⟩ := hq
  have hle1 : qle h hh2 := fun b o hb => hch1.1 b o hb (fun z => z)
  replace f1 := hle1 _ _ f1
  replace fk1 := hle1 _ _ fk1
  replace fv1 := hle1 _ _ fv1
  replace fn1 := hle1 _ _ fn1
  replace fr : ∀ b o, h b = some o → b ≠ a → hh2 b = some o := fun b o hb n => hle1 b o (fr b o hb n)
  replace fd : ∀ b o, h b = some o → ∃ o', hh2 b = some o' := hch1.2.2.2.2
  have hka9 := hle1 _ _ hW.1.2.1
  have hva9 := hle1 _ _ hW.1.2.2.1
  obtain ⟨hr2, fs2, fa2⟩ := hT1.root
  have n_a_a2 : a2 ≠ a := fun z => by
    have ha9 : h a ≠ none := by rw [hW1.1]; exact fun z => by cases z
    rcases hr2 with q | q
    · rcases hch1.2.2.1 _ q with q | q
      · exact hE.1 a ow0.1 (z ▸ q)
      · exact ha9 (z ▸ q)
    · rcases hch1.2.2.2.1 _ q with q | q
      · exact q
      · exact ha9 (z ▸ q)
  have kp9 : ∀ b o, hh2 b = some o → b ≠ a → hh2 b = some o := fun b o hb _ => hb
  have kd9 : ∀ b o, hh2 b = some o → ∃ o', hh2 b = some o' := fun b o hb => ⟨o, hb⟩
  refine lv_astore (lv' := [(8, .ref a2), (7, .int (nI (tqC (thS m9 (6 - r) L) (thN m9 (6 - r) k)))), (0, .ref a), (1, .int (nI (2 ^ thN m9 (6 - r) k))), (2, .int m9), (3, .long k), (5, .long x)]) hx hb dX3_pushDown_41 hl (by decide) rfl (fun ls hl => ?_)
  refine lv_aload_n hx hb dX3_pushDown_43 rfl (lv_at hl 2 rfl) ?_
  refine lv_iload hx hb dX3_pushDown_44 (lv_at hl 1 rfl) ?_
  refine lv_iload_n hx hb dX3_pushDown_46 rfl (lv_at hl 3 rfl) ?_
  refine q_callV (rest := []) C (c_X3_removeKey l D cy N0 hh2 a (7 - (r + 1)) e9 L.length ka1 va1 na1 (nI (trKb m9 (r + 1) L)) (nI (trNb m9 (r + 1) L)) (nI (2 ^ thN m9 (6 - r) k)) (List.map Prod.fst (trK m9 (r + 1) L)) (List.map Prod.snd (trK m9 (r + 1) L)) (tqC (thS m9 (6 - r) L) (thN m9 (6 - r) k)) f1 hka9 hva9 (hle1 _ _ hE.2.2.1) (by omega) (by omega) (by omega)) kX3_removeKey g417 g419 rfl gp10 g12 hP hS f1 (by first | decide | omega) hl.1 rfl (by decide) (by first | decide | omega) dX3_pushDown_47 (fun q ce E h' H1 locs1 hE => hE.elim) (fun v hh3 H locs hq hP hS => ?_)
  obtain ⟨rfl, ka3, va3, ho3, g3, gk3, gv3, frq, fdq⟩ := hq
  replace fn1 := frq _ _ fn1 (fun q => by subst q; have := fn1.symm.trans f1; first | cases this | simp at this)
  replace fa2 := frq _ _ fa2 n_a_a2
  replace f1 := g3
  replace fr : ∀ b o, h b = some o → b ≠ a → hh3 b = some o := fun b o hb n => frq b o (fr b o hb n) n
  replace fd : ∀ b o, h b = some o → ∃ o', hh3 b = some o' := fun b o hb => (fd b o hb).elim (fun o9 h9 => fdq b o9 h9)
  replace kp9 : ∀ b o, hh2 b = some o → b ≠ a → hh3 b = some o := fun b o hb n => frq b o (kp9 b o hb n) n
  replace kd9 : ∀ b o, hh2 b = some o → ∃ o', hh3 b = some o' := fun b o hb => (kd9 b o hb).elim (fun o9 h9 => fdq b o9 h9)
  refine lv_aload_n hx hb dX3_pushDown_50 rfl (lv_at hl 2 rfl) ?_
  refine lv_aload_n hx hb dX3_pushDown_51 rfl (lv_at hl 2 rfl) ?_
  refine q_get C hP f1 rfl inX3 7 (by decide) g369 rfl dX3_pushDown_52 ?_
  refine lv_iload_n hx hb dX3_pushDown_55 rfl (lv_at hl 3 rfl) ?_
  refine lv_aload_n hx hb dX3_pushDown_56 rfl (lv_at hl 2 rfl) ?_
  refine q_get C hP f1 rfl inX3 3 (by decide) g364 rfl dX3_pushDown_57 ?_
  refine q_callS (rest := [.ref na1, .ref a]) C (c_X3_rankOf l D cy N0 hh3 (thM m9 (6 - r) L) (thN m9 (6 - r) k) thN_lt) kX3_rankOf g305 g306 hP hS (by first | decide | omega) hl.1 rfl (by simp [q_catrf, q_cati, q_catl, q_cata, q_catn]) (by first | decide | omega) dX3_pushDown_60 (fun q ce E h' H1 locs1 hE => hE.elim) (fun v hh4 H locs hq hP hS => ?_)
  obtain ⟨rfl, rfl⟩ := hq
  refine lv_aload hx hb dX3_pushDown_63 (lv_at hl 0 rfl) ?_
  have hCf : ∀ j, j < (trM m9 (r + 1) L).length → ∃ fs, hh3 (C1 j) = some (.inr (3, fs)) := fun j hj => by obtain ⟨nj, fs, hf⟩ := hW.child hO hE hj; exact ⟨fs, fr _ _ hf nj⟩
  refine q_callS (rest := [.ref a]) C (c_X3_withNode l D cy N0 hh3 na1 (trM m9 (r + 1) L).length (tqC (thM m9 (6 - r) L) (thN m9 (6 - r) k)) a2 C1 _ fn1 hCf fa2 (by omega) (by omega)) kX3_withNode g427 g428 hP hS (by first | decide | omega) hl.1 rfl (by simp [q_catrf, q_cati, q_catl, q_cata, q_catn]) (by first | decide | omega) dX3_pushDown_65 (fun q ce E h' H1 locs1 hE => hE.elim) (fun v hh5 H locs hq hP hS => ?_)
  obtain ⟨na3, rfl, ena3, rfl⟩ := hq
  obtain ⟨hv1, ehv1⟩ : ∃ z : qH, z = qs hh3 na3 (thA cy ((trM m9 (r + 1) L).length + 1) (thCi C1 (tqC (thM m9 (6 - r) L) (thN m9 (6 - r) k)) a2)) := ⟨_, rfl⟩
  rw [← ehv1] at hP
  have khv1 : ∀ b o, b ≠ na3 → hh3 b = some o → hv1 b = some o := by rw [ehv1]; exact fun b o nb hb => (qs_ne nb).trans hb
  have n_na3_a : a ≠ na3 := qne_of ena3 f1
  replace f1 := khv1 _ _ n_na3_a f1
  have n_na3_na1 : na1 ≠ na3 := qne_of ena3 fn1
  replace fn1 := khv1 _ _ n_na3_na1 fn1
  have n_na3_a2 : a2 ≠ na3 := qne_of ena3 fa2
  replace fa2 := khv1 _ _ n_na3_a2 fa2
  have n_na3_ka3 : ka3 ≠ na3 := qne_of ena3 gk3
  replace gk3 := khv1 _ _ n_na3_ka3 gk3
  have n_na3_va3 : va3 ≠ na3 := qne_of ena3 gv3
  replace gv3 := khv1 _ _ n_na3_va3 gv3
  have fna3 : hv1 na3 = some (thA cy ((trM m9 (r + 1) L).length + 1) (thCi C1 (tqC (thM m9 (6 - r) L) (thN m9 (6 - r) k)) a2)) := by rw [ehv1]; exact qs_self
  clear ehv1
  have ona3 : h na3 = none := qno fd ena3
  replace fr : ∀ b o, h b = some o → b ≠ a → hv1 b = some o := fun b o hb n0_ => khv1 b o (qne_of ona3 hb) (fr b o hb n0_)
  replace fd : ∀ b o, h b = some o → ∃ o', hv1 b = some o' := fun b o hb => (fd b o hb).elim (fun o9 h9 => ⟨o9, khv1 b o9 (qne_of ona3 hb) h9⟩)
  have pna3 : hh2 na3 = none := qno kd9 ena3
  replace kp9 : ∀ b o, hh2 b = some o → b ≠ a → hv1 b = some o := fun b o hb n0_ => khv1 b o (qne_of pna3 hb) (kp9 b o hb n0_)
  replace kd9 : ∀ b o, hh2 b = some o → ∃ o', hv1 b = some o' := fun b o hb => (kd9 b o hb).elim (fun o9 h9 => ⟨o9, khv1 b o9 (qne_of pna3 hb) h9⟩)
  refine q_put C hP hS f1 rfl inX3 tyX3 tyX3_ok nmX3 7 (by decide) g369 rfl rfl rfl (Nat.le_of_ble_eq_true rfl) dX3_pushDown_68 (fun H locs hP hS => ?_)
  replace hP : qP D N0 (qs hv1 a (.inr (3, [.int (nI (7 - (r + 1))), .int (nI e9), .int ((nI (trKb m9 (r + 1) L)) &&& ((nI (2 ^ thN m9 (6 - r) k)) ^^^ (-1))), .int (nI (trNb m9 (r + 1) L)), .int (nI L.length), .ref ka3, .ref va3, .ref na3]))) H := hP
  obtain ⟨hv2, ehv2⟩ : ∃ z : qH, z = qs hv1 a (.inr (3, [.int (nI (7 - (r + 1))), .int (nI e9), .int ((nI (trKb m9 (r + 1) L)) &&& ((nI (2 ^ thN m9 (6 - r) k)) ^^^ (-1))), .int (nI (trNb m9 (r + 1) L)), .int (nI L.length), .ref ka3, .ref va3, .ref na3])) := ⟨_, rfl⟩
  rw [← ehv2] at hP
  have khv2 : ∀ b o, b ≠ a → hv1 b = some o → hv2 b = some o := by rw [ehv2]; exact fun b o nb hb => (qs_ne nb).trans hb
  replace fn1 := khv2 _ _ (fun q => by subst q; have := fn1.symm.trans f1; first | cases this | simp at this) fn1
  replace fa2 := khv2 _ _ n_a_a2 fa2
  replace gk3 := khv2 _ _ (fun q => by subst q; have := gk3.symm.trans f1; first | cases this | simp at this) gk3
  replace gv3 := khv2 _ _ (fun q => by subst q; have := gv3.symm.trans f1; first | cases this | simp at this) gv3
  replace fna3 := khv2 _ _ n_na3_a.symm fna3
  replace f1 : hv2 a = some (.inr (3, [.int (nI (7 - (r + 1))), .int (nI e9), .int ((nI (trKb m9 (r + 1) L)) &&& ((nI (2 ^ thN m9 (6 - r) k)) ^^^ (-1))), .int (nI (trNb m9 (r + 1) L)), .int (nI L.length), .ref ka3, .ref va3, .ref na3])) := by rw [ehv2]; exact qs_self
  clear ehv2
  replace fr : ∀ b o, h b = some o → b ≠ a → hv2 b = some o := fun b o hb n0_ => khv2 b o n0_ (fr b o hb n0_)
  replace fd : ∀ b o, h b = some o → ∃ o', hv2 b = some o' := fun b o hb => if z9 : b = a then ⟨_, (congrArg hv2 z9).trans f1⟩ else (fd b o hb).elim (fun o9 h9 => ⟨o9, khv2 b o9 z9 h9⟩)
  replace kp9 : ∀ b o, hh2 b = some o → b ≠ a → hv2 b = some o := fun b o hb n0_ => khv2 b o n0_ (kp9 b o hb n0_)
  replace kd9 : ∀ b o, hh2 b = some o → ∃ o', hv2 b = some o' := fun b o hb => if z9 : b = a then ⟨_, (congrArg hv2 z9).trans f1⟩ else (kd9 b o hb).elim (fun o9 h9 => ⟨o9, khv2 b o9 z9 h9⟩)
  refine lv_aload_n hx hb dX3_pushDown_71 rfl (lv_at hl 2 rfl) ?_
  refine lv_dup hx hb dX3_pushDown_72 rfl ?_
  refine q_get C hP f1 rfl inX3 3 (by decide) g364 rfl dX3_pushDown_73 ?_
  refine lv_iload_n hx hb dX3_pushDown_76 rfl (lv_at hl 3 rfl) ?_
  refine lv_ior hx hb dX3_pushDown_77 ?_
  refine q_put C hP hS f1 rfl inX3 tyX3 tyX3_ok nmX3 3 (by decide) g364 rfl rfl rfl (Nat.le_of_ble_eq_true rfl) dX3_pushDown_78 (fun H locs hP hS => ?_)
  replace hP : qP D N0 (qs hv2 a (.inr (3, [.int (nI (7 - (r + 1))), .int (nI e9), .int ((nI (trKb m9 (r + 1) L)) &&& ((nI (2 ^ thN m9 (6 - r) k)) ^^^ (-1))), .int ((nI (trNb m9 (r + 1) L)) ||| (nI (2 ^ thN m9 (6 - r) k))), .int (nI L.length), .ref ka3, .ref va3, .ref na3]))) H := hP
  obtain ⟨hv3, ehv3⟩ : ∃ z : qH, z = qs hv2 a (.inr (3, [.int (nI (7 - (r + 1))), .int (nI e9), .int ((nI (trKb m9 (r + 1) L)) &&& ((nI (2 ^ thN m9 (6 - r) k)) ^^^ (-1))), .int ((nI (trNb m9 (r + 1) L)) ||| (nI (2 ^ thN m9 (6 - r) k))), .int (nI L.length), .ref ka3, .ref va3, .ref na3])) := ⟨_, rfl⟩
  rw [← ehv3] at hP
  have khv3 : ∀ b o, b ≠ a → hv2 b = some o → hv3 b = some o := by rw [ehv3]; exact fun b o nb hb => (qs_ne nb).trans hb
  replace fn1 := khv3 _ _ (fun q => by subst q; have := fn1.symm.trans f1; first | cases this | simp at this) fn1
  replace fa2 := khv3 _ _ n_a_a2 fa2
  replace gk3 := khv3 _ _ (fun q => by subst q; have := gk3.symm.trans f1; first | cases this | simp at this) gk3
  replace gv3 := khv3 _ _ (fun q => by subst q; have := gv3.symm.trans f1; first | cases this | simp at this) gv3
  replace fna3 := khv3 _ _ n_na3_a.symm fna3
  replace f1 : hv3 a = some (.inr (3, [.int (nI (7 - (r + 1))), .int (nI e9), .int ((nI (trKb m9 (r + 1) L)) &&& ((nI (2 ^ thN m9 (6 - r) k)) ^^^ (-1))), .int ((nI (trNb m9 (r + 1) L)) ||| (nI (2 ^ thN m9 (6 - r) k))), .int (nI L.length), .ref ka3, .ref va3, .ref na3])) := by rw [ehv3]; exact qs_self
  clear ehv3
  replace fr : ∀ b o, h b = some o → b ≠ a → hv3 b = some o := fun b o hb n0_ => khv3 b o n0_ (fr b o hb n0_)
  replace fd : ∀ b o, h b = some o → ∃ o', hv3 b = some o' := fun b o hb => if z9 : b = a then ⟨_, (congrArg hv3 z9).trans f1⟩ else (fd b o hb).elim (fun o9 h9 => ⟨o9, khv3 b o9 z9 h9⟩)
  replace kp9 : ∀ b o, hh2 b = some o → b ≠ a → hv3 b = some o := fun b o hb n0_ => khv3 b o n0_ (kp9 b o hb n0_)
  replace kd9 : ∀ b o, hh2 b = some o → ∃ o', hv3 b = some o' := fun b o hb => if z9 : b = a then ⟨_, (congrArg hv3 z9).trans f1⟩ else (kd9 b o hb).elim (fun o9 h9 => ⟨o9, khv3 b o9 z9 h9⟩)
  refine lv_aload_n hx hb dX3_pushDown_81 rfl (lv_at hl 2 rfl) ?_
  refine lv_dup hx hb dX3_pushDown_82 rfl ?_
  refine q_get C hP f1 rfl inX3 4 (by decide) g365 rfl dX3_pushDown_83 ?_
  refine lv_iconst (v := nI 1) hx hb dX3_pushDown_86 (by decide) ?_
  refine q_iaddN hx hb dX3_pushDown_87 ?_
  refine q_put C hP hS f1 rfl inX3 tyX3 tyX3_ok nmX3 4 (by decide) g365 rfl rfl rfl (Nat.le_of_ble_eq_true rfl) dX3_pushDown_88 (fun H locs hP hS => ?_)
  replace hP : qP D N0 (qs hv3 a (.inr (3, [.int (nI (7 - (r + 1))), .int (nI e9), .int ((nI (trKb m9 (r + 1) L)) &&& ((nI (2 ^ thN m9 (6 - r) k)) ^^^ (-1))), .int ((nI (trNb m9 (r + 1) L)) ||| (nI (2 ^ thN m9 (6 - r) k))), .int (nI ((L.length) + 1)), .ref ka3, .ref va3, .ref na3]))) H := hP
  obtain ⟨hv4, ehv4⟩ : ∃ z : qH, z = qs hv3 a (.inr (3, [.int (nI (7 - (r + 1))), .int (nI e9), .int ((nI (trKb m9 (r + 1) L)) &&& ((nI (2 ^ thN m9 (6 - r) k)) ^^^ (-1))), .int ((nI (trNb m9 (r + 1) L)) ||| (nI (2 ^ thN m9 (6 - r) k))), .int (nI ((L.length) + 1)), .ref ka3, .ref va3, .ref na3])) := ⟨_, rfl⟩
  rw [← ehv4] at hP
  have khv4 : ∀ b o, b ≠ a → hv3 b = some o → hv4 b = some o := by rw [ehv4]; exact fun b o nb hb => (qs_ne nb).trans hb
  replace fn1 := khv4 _ _ (fun q => by subst q; have := fn1.symm.trans f1; first | cases this | simp at this) fn1
  replace fa2 := khv4 _ _ n_a_a2 fa2
  replace gk3 := khv4 _ _ (fun q => by subst q; have := gk3.symm.trans f1; first | cases this | simp at this) gk3
  replace gv3 := khv4 _ _ (fun q => by subst q; have := gv3.symm.trans f1; first | cases this | simp at this) gv3
  replace fna3 := khv4 _ _ n_na3_a.symm fna3
  replace f1 : hv4 a = some (.inr (3, [.int (nI (7 - (r + 1))), .int (nI e9), .int ((nI (trKb m9 (r + 1) L)) &&& ((nI (2 ^ thN m9 (6 - r) k)) ^^^ (-1))), .int ((nI (trNb m9 (r + 1) L)) ||| (nI (2 ^ thN m9 (6 - r) k))), .int (nI ((L.length) + 1)), .ref ka3, .ref va3, .ref na3])) := by rw [ehv4]; exact qs_self
  clear ehv4
  replace fr : ∀ b o, h b = some o → b ≠ a → hv4 b = some o := fun b o hb n0_ => khv4 b o n0_ (fr b o hb n0_)
  replace fd : ∀ b o, h b = some o → ∃ o', hv4 b = some o' := fun b o hb => if z9 : b = a then ⟨_, (congrArg hv4 z9).trans f1⟩ else (fd b o hb).elim (fun o9 h9 => ⟨o9, khv4 b o9 z9 h9⟩)
  replace kp9 : ∀ b o, hh2 b = some o → b ≠ a → hv4 b = some o := fun b o hb n0_ => khv4 b o n0_ (kp9 b o hb n0_)
  replace kd9 : ∀ b o, hh2 b = some o → ∃ o', hv4 b = some o' := fun b o hb => if z9 : b = a then ⟨_, (congrArg hv4 z9).trans f1⟩ else (kd9 b o hb).elim (fun o9 h9 => ⟨o9, khv4 b o9 z9 h9⟩)
  have hP9 : thP L k x = L ++ [(k, x)] := thP_no (by rw [← thK_has (m := m9) (d := 6 - r), hbk]; simp [xHas, hkq])
  have hbk2 : thK m9 (6 - r) (thN m9 (6 - r) k) (thP L k x) = [(kq, xq), (k, x)] := by rw [thK_put, hbk, thP_no (by simp [xHas, hkq])]; rfl
  have hM2 : thM m9 (6 - r) (thP L k x) (thN m9 (6 - r) k) = true := by unfold thM; rw [hbk2]; rfl
  have hS2 : thS m9 (6 - r) (thP L k x) (thN m9 (6 - r) k) = false := by unfold thS; rw [hbk2]; rfl
  have hu9 : ∀ u, u ≠ (thN m9 (6 - r) k) → thK m9 (6 - r) u (thP L k x) = thK m9 (6 - r) u L := fun u hu => thK_put2 hu
  have hlp : (thP L k x).length = L.length + 1 := by rw [hP9, List.length_append]; rfl
  have hkb9 := (trKb_two hu9 thN_lt).2.2 hS2
  have hnb9 := (trNb_two hu9 thN_lt).2.1 hM2
  obtain ⟨X2, Im2, hr1, hr2, hr3⟩ := own_push hW hE hO thN_lt hu9 hS1 hM2 hch1 hE1 (by rw [hbk2]; exact hT1) kp9 kd9 (by rw [hl1] at ho3; exact ho3) pna3 ⟨fun z => n_na3_ka3 z.symm, fun z => n_na3_va3 z.symm⟩ (by unfold thNo; rw [← hkb9, ← hnb9, hlp]; exact f1) gk3 gv3 fna3
  exact q_vret C hP hS ⟨rfl, X2, Im2, hr1, hr2, hr3⟩ (by omega) dX3_pushDown_91
