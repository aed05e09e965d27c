theorem dX3_insertKey_0 : decode cX3_insertKey 0 = .ok (.aload_n 0, 1) := by decide +kernel
theorem dX3_insertKey_1 : decode cX3_insertKey 1 = .ok (.getfield 21, 3) := by decide +kernel
theorem dX3_insertKey_4 : decode cX3_insertKey 4 = .ok (.bipush 7, 2) := by decide +kernel
theorem dX3_insertKey_6 : decode cX3_insertKey 6 = .ok (.if_icmp .ge 14, 3) := by decide +kernel
theorem dX3_insertKey_9 : decode cX3_insertKey 9 = .ok (.iload_n 1, 1) := by decide +kernel
theorem dX3_insertKey_10 : decode cX3_insertKey 10 = .ok (.aload_n 0, 1) := by decide +kernel
theorem dX3_insertKey_11 : decode cX3_insertKey 11 = .ok (.getfield 55, 3) := by decide +kernel
theorem dX3_insertKey_14 : decode cX3_insertKey 14 = .ok (.invokestatic 52, 3) := by decide +kernel
theorem dX3_insertKey_17 : decode cX3_insertKey 17 = .ok (.goto 8, 3) := by decide +kernel
theorem dX3_insertKey_25 : decode cX3_insertKey 25 = .ok (.istore 6, 2) := by decide +kernel
theorem dX3_insertKey_27 : decode cX3_insertKey 27 = .ok (.aload_n 0, 1) := by decide +kernel
theorem dX3_insertKey_28 : decode cX3_insertKey 28 = .ok (.aload_n 0, 1) := by decide +kernel
theorem dX3_insertKey_29 : decode cX3_insertKey 29 = .ok (.getfield 15, 3) := by decide +kernel
theorem dX3_insertKey_32 : decode cX3_insertKey 32 = .ok (.iload 6, 2) := by decide +kernel
theorem dX3_insertKey_34 : decode cX3_insertKey 34 = .ok (.lload_n 2, 1) := by decide +kernel
theorem dX3_insertKey_35 : decode cX3_insertKey 35 = .ok (.invokestatic 104, 3) := by decide +kernel
theorem dX3_insertKey_38 : decode cX3_insertKey 38 = .ok (.putfield 15, 3) := by decide +kernel
theorem dX3_insertKey_41 : decode cX3_insertKey 41 = .ok (.aload_n 0, 1) := by decide +kernel
theorem dX3_insertKey_42 : decode cX3_insertKey 42 = .ok (.aload_n 0, 1) := by decide +kernel
theorem dX3_insertKey_43 : decode cX3_insertKey 43 = .ok (.getfield 18, 3) := by decide +kernel
theorem dX3_insertKey_46 : decode cX3_insertKey 46 = .ok (.iload 6, 2) := by decide +kernel
theorem dX3_insertKey_48 : decode cX3_insertKey 48 = .ok (.lload 4, 2) := by decide +kernel
theorem dX3_insertKey_50 : decode cX3_insertKey 50 = .ok (.invokestatic 104, 3) := by decide +kernel
theorem dX3_insertKey_53 : decode cX3_insertKey 53 = .ok (.putfield 18, 3) := by decide +kernel
theorem dX3_insertKey_56 : decode cX3_insertKey 56 = .ok (.aload_n 0, 1) := by decide +kernel
theorem dX3_insertKey_57 : decode cX3_insertKey 57 = .ok (.dup, 1) := by decide +kernel
theorem dX3_insertKey_58 : decode cX3_insertKey 58 = .ok (.getfield 55, 3) := by decide +kernel
theorem dX3_insertKey_61 : decode cX3_insertKey 61 = .ok (.iload_n 1, 1) := by decide +kernel
theorem dX3_insertKey_62 : decode cX3_insertKey 62 = .ok (.ior, 1) := by decide +kernel
theorem dX3_insertKey_63 : decode cX3_insertKey 63 = .ok (.putfield 55, 3) := by decide +kernel
theorem dX3_insertKey_66 : decode cX3_insertKey 66 = .ok (.return_, 1) := by decide +kernel
set_option maxRecDepth 100000 in
set_option maxHeartbeats 4000000 in
theorem c_X3_insertKey (l : Launch) (D : va_G) (cy : Nat → ClassId) (N0 : Nat) (h : qH) (a d ow n ka va na : Nat) (p9 : Nat → Bool) (v9 : Nat) (nbI : Int32) (KK VV : List Int64) (k x : Int64) (ha : h a = some (.inr (3, [.int (nI d), .int (nI ow), .int (nI (tqB p9 32)), .int nbI, .int (nI n), .ref ka, .ref va, .ref na]))) (hka : h ka = some (thJ cy KK)) (hva : h va = some (thJ cy VV)) (hd : d < 7) (hv9 : v9 < 32) (hj : tqC p9 v9 ≤ KK.length) (hVl : VV.length = KK.length) (hKl : KK.length < 1000000) : qC l D cy N0 yX3_insertKey cX3_insertKey 7 none 3 90 2 (2 * KK.length + 2) [.ref a, .int (nI (2 ^ v9)), .long k, .long x] h (fun v h' => v = none ∧ ∃ ka1 va1, h ka1 = none ∧ h va1 = none ∧ ka1 ≠ va1 ∧ h' a = some (.inr (3, [.int (nI d), .int (nI ow), .int (nI (tqB p9 32) ||| nI (2 ^ v9)), .int nbI, .int (nI n), .ref ka1, .ref va1, .ref na])) ∧ h' ka1 = some (thJ cy (thIn KK (tqC p9 v9) k)) ∧ h' va1 = some (thJ cy (thIn VV (tqC p9 v9) x)) ∧ (∀ b o, h b = some o → b ≠ a → h' b = some o) ∧ (∀ b o, h b = some o → ∃ o', h' b = some o')) (fun E h' => False) := by
  refine q_ofW (by decide) (by exact Nat.le_of_ble_eq_true rfl) ?_
  intro p e s m below meth c ls C hP hl
  have hx := C.1
  have hb := C.2.1
  have hS : va_S (qA N0) s.heap s.heap [] := va_S.rf
  have hl : lv_has ls 7 [(0, .ref a), (1, .int (nI (2 ^ v9))), (2, .long k), (4, .long x)] := hl
  have fr : ∀ b o, h b = some o → b ≠ a → h b = some o := fun b o hb _ => hb
  have fd : ∀ b o, h b = some o → ∃ o', h b = some o' := fun b o hb => ⟨o, hb⟩
  refine lv_aload_n hx hb dX3_insertKey_0 rfl (lv_at hl 0 rfl) ?_
  refine q_get C hP ha rfl inX3 0 (by decide) g361 rfl dX3_insertKey_1 ?_
  refine lv_bipush (v := nI 7) hx hb dX3_insertKey_4 (by decide) ?_
  refine lv_icmp_ge (tgt := 20) hx hb dX3_insertKey_6 (by decide) (fun c6 => ?_) (fun c6 => ?_)
  · replace c6 : 7 ≤ d := (nI_leI (a := 7) (b := d) (by omega) (by omega)).mp c6
    exfalso; omega
  · replace c6 : ¬ 7 ≤ d := fun zq => c6 ((nI_leI (a := 7) (b := d) (by omega) (by omega)).mpr zq)
    refine lv_iload_n hx hb dX3_insertKey_9 rfl (lv_at hl 1 rfl) ?_
    refine lv_aload_n hx hb dX3_insertKey_10 rfl (lv_at hl 0 rfl) ?_
    refine q_get C hP ha rfl inX3 2 (by decide) g363 rfl dX3_insertKey_11 ?_
    refine q_callS (rest := []) C (c_X3_rankOf l D cy N0 h p9 v9 hv9) kX3_rankOf g305 g306 hP hS (by first | decide | omega) hl.1 rfl (by decide) (by first | decide | omega) dX3_insertKey_14 (fun q ce E h' H1 locs1 hE => hE.elim) (fun v hh1 H locs hq hP hS => ?_)
    obtain ⟨rfl, rfl⟩ := hq
    refine lv_goto (tgt := 25) hx hb dX3_insertKey_17 (by decide) ?_
    refine lv_istore (lv' := [(6, .int (nI (tqC p9 v9))), (0, .ref a), (1, .int (nI (2 ^ v9))), (2, .long k), (4, .long x)]) hx hb dX3_insertKey_25 hl (by decide) rfl (fun ls hl => ?_)
    refine lv_aload_n hx hb dX3_insertKey_27 rfl (lv_at hl 1 rfl) ?_
    refine lv_aload_n hx hb dX3_insertKey_28 rfl (lv_at hl 1 rfl) ?_
    refine q_get C hP ha rfl inX3 5 (by decide) g366 rfl dX3_insertKey_29 ?_
    refine lv_iload hx hb dX3_insertKey_32 (lv_at hl 0 rfl) ?_
    refine lv_lload_n hx hb dX3_insertKey_34 rfl (lv_at hl 3 rfl) ?_
    refine q_callS (rest := [.ref a]) C (c_X3_withNumber l D cy N0 h ka KK (tqC p9 v9) k hka (by omega) (by omega)) kX3_withNumber g434 g435 hP hS (by first | decide | omega) hl.1 rfl (by simp [q_catrf, q_cati, q_catl, q_cata, q_catn]) (by first | decide | omega) dX3_insertKey_35 (fun q ce E h' H1 locs1 hE => hE.elim) (fun v hh2 H locs hq hP hS => ?_)
    obtain ⟨w35, rfl, ew35, rfl⟩ := hq
    obtain ⟨hv1, ehv1⟩ : ∃ z : qH, z = qs h w35 (thJ cy (thIn KK (tqC p9 v9) k)) := ⟨_, rfl⟩
    rw [← ehv1] at hP
    have khv1 : ∀ b o, b ≠ w35 → h b = some o → hv1 b = some o := by rw [ehv1]; exact fun b o nb hb => (qs_ne nb).trans hb
    have n_w35_a : a ≠ w35 := qne_of ew35 ha
    replace ha := khv1 _ _ n_w35_a ha
    have n_w35_ka : ka ≠ w35 := qne_of ew35 hka
    replace hka := khv1 _ _ n_w35_ka hka
    have n_w35_va : va ≠ w35 := qne_of ew35 hva
    replace hva := khv1 _ _ n_w35_va hva
    have fw35 : hv1 w35 = some (thJ cy (thIn KK (tqC p9 v9) k)) := by rw [ehv1]; exact qs_self
    clear ehv1
    have ow35 : h w35 = none := qno fd ew35
    replace fr : ∀ b o, h b = some o → b ≠ a → hv1 b = some o := fun b o hb n0_ => khv1 b o (qne_of ow35 hb) (fr b o hb n0_)
    replace fd : ∀ b o, h b = some o → ∃ o', hv1 b = some o' := fun b o hb => (fd b o hb).elim (fun o9 h9 => ⟨o9, khv1 b o9 (qne_of ow35 hb) h9⟩)
    refine q_put C hP hS ha rfl inX3 tyX3 tyX3_ok nmX3 5 (by decide) g366 rfl rfl rfl (Nat.le_of_ble_eq_true rfl) dX3_insertKey_38 (fun H locs hP hS => ?_)
    replace hP : qP D N0 (qs hv1 a (.inr (3, [.int (nI d), .int (nI ow), .int (nI (tqB p9 32)), .int nbI, .int (nI n), .ref w35, .ref va, .ref na]))) H := hP
    obtain ⟨hv2, ehv2⟩ : ∃ z : qH, z = qs hv1 a (.inr (3, [.int (nI d), .int (nI ow), .int (nI (tqB p9 32)), .int nbI, .int (nI n), .ref w35, .ref va, .ref na])) := ⟨_, rfl⟩
    rw [← ehv2] at hP
    have khv2 : ∀ b o, b ≠ a → hv1 b = some o → hv2 b = some o := by rw [ehv2]; exact fun b o nb hb => (qs_ne nb).trans hb
    replace hka := khv2 _ _ (fun q => by subst q; have := hka.symm.trans ha; first | cases this | simp at this) hka
    replace hva := khv2 _ _ (fun q => by subst q; have := hva.symm.trans ha; first | cases this | simp at this) hva
    replace fw35 := khv2 _ _ n_w35_a.symm fw35
    replace ha : hv2 a = some (.inr (3, [.int (nI d), .int (nI ow), .int (nI (tqB p9 32)), .int nbI, .int (nI n), .ref w35, .ref va, .ref na])) := by rw [ehv2]; exact qs_self
    clear ehv2
    replace fr : ∀ b o, h b = some o → b ≠ a → hv2 b = some o := fun b o hb n0_ => khv2 b o n0_ (fr b o hb n0_)
    replace fd : ∀ b o, h b = some o → ∃ o', hv2 b = some o' := fun b o hb => if z9 : b = a then ⟨_, (congrArg hv2 z9).trans ha⟩ else (fd b o hb).elim (fun o9 h9 => ⟨o9, khv2 b o9 z9 h9⟩)
    refine lv_aload_n hx hb dX3_insertKey_41 rfl (lv_at hl 1 rfl) ?_
    refine lv_aload_n hx hb dX3_insertKey_42 rfl (lv_at hl 1 rfl) ?_
    refine q_get C hP ha rfl inX3 6 (by decide) g367 rfl dX3_insertKey_43 ?_
    refine lv_iload hx hb dX3_insertKey_46 (lv_at hl 0 rfl) ?_
    refine lv_lload hx hb dX3_insertKey_48 (lv_at hl 4 rfl) ?_
    refine q_callS (rest := [.ref a]) C (c_X3_withNumber l D cy N0 hv2 va VV (tqC p9 v9) x hva (by omega) (by omega)) kX3_withNumber g434 g435 hP hS (by first | decide | omega) hl.1 rfl (by simp [q_catrf, q_cati, q_catl, q_cata, q_catn]) (by first | decide | omega) dX3_insertKey_50 (fun q ce E h' H1 locs1 hE => hE.elim) (fun v hh3 H locs hq hP hS => ?_)
    obtain ⟨w50, rfl, ew50, rfl⟩ := hq
    obtain ⟨hv3, ehv3⟩ : ∃ z : qH, z = qs hv2 w50 (thJ cy (thIn VV (tqC p9 v9) x)) := ⟨_, rfl⟩
    rw [← ehv3] at hP
    have khv3 : ∀ b o, b ≠ w50 → hv2 b = some o → hv3 b = some o := by rw [ehv3]; exact fun b o nb hb => (qs_ne nb).trans hb
    have n_w50_a : a ≠ w50 := qne_of ew50 ha
    replace ha := khv3 _ _ n_w50_a ha
    have n_w50_ka : ka ≠ w50 := qne_of ew50 hka
    replace hka := khv3 _ _ n_w50_ka hka
    have n_w50_va : va ≠ w50 := qne_of ew50 hva
    replace hva := khv3 _ _ n_w50_va hva
    have n_w50_w35 : w35 ≠ w50 := qne_of ew50 fw35
    replace fw35 := khv3 _ _ n_w50_w35 fw35
    have fw50 : hv3 w50 = some (thJ cy (thIn VV (tqC p9 v9) x)) := by rw [ehv3]; exact qs_self
    clear ehv3
    have ow50 : h w50 = none := qno fd ew50
    replace fr : ∀ b o, h b = some o → b ≠ a → hv3 b = some o := fun b o hb n0_ => khv3 b o (qne_of ow50 hb) (fr b o hb n0_)
    replace fd : ∀ b o, h b = some o → ∃ o', hv3 b = some o' := fun b o hb => (fd b o hb).elim (fun o9 h9 => ⟨o9, khv3 b o9 (qne_of ow50 hb) h9⟩)
    refine q_put C hP hS ha rfl inX3 tyX3 tyX3_ok nmX3 6 (by decide) g367 rfl rfl rfl (Nat.le_of_ble_eq_true rfl) dX3_insertKey_53 (fun H locs hP hS => ?_)
    replace hP : qP D N0 (qs hv3 a (.inr (3, [.int (nI d), .int (nI ow), .int (nI (tqB p9 32)), .int nbI, .int (nI n), .ref w35, .ref w50, .ref na]))) H := hP
    obtain ⟨hv4, ehv4⟩ : ∃ z : qH, z = qs hv3 a (.inr (3, [.int (nI d), .int (nI ow), .int (nI (tqB p9 32)), .int nbI, .int (nI n), .ref w35, .ref w50, .ref na])) := ⟨_, rfl⟩
    rw [← ehv4] at hP
    have khv4 : ∀ b o, b ≠ a → hv3 b = some o → hv4 b = some o := by rw [ehv4]; exact fun b o nb hb => (qs_ne nb).trans hb
    replace hka := khv4 _ _ (fun q => by subst q; have := hka.symm.trans ha; first | cases this | simp at this) hka
    replace hva := khv4 _ _ (fun q => by subst q; have := hva.symm.trans ha; first | cases this | simp at this) hva
    replace fw35 := khv4 _ _ n_w35_a.symm fw35
    replace fw50 := khv4 _ _ n_w50_a.symm fw50
    replace ha : hv4 a = some (.inr (3, [.int (nI d), .int (nI ow), .int (nI (tqB p9 32)), .int nbI, .int (nI n), .ref w35, .ref w50, .ref na])) := by rw [ehv4]; exact qs_self
    clear ehv4
    replace fr : ∀ b o, h b = some o → b ≠ a → hv4 b = some o := fun b o hb n0_ => khv4 b o n0_ (fr b o hb n0_)
    replace fd : ∀ b o, h b = some o → ∃ o', hv4 b = some o' := fun b o hb => if z9 : b = a then ⟨_, (congrArg hv4 z9).trans ha⟩ else (fd b o hb).elim (fun o9 h9 => ⟨o9, khv4 b o9 z9 h9⟩)
    refine lv_aload_n hx hb dX3_insertKey_56 rfl (lv_at hl 1 rfl) ?_
    refine lv_dup hx hb dX3_insertKey_57 rfl ?_
    refine q_get C hP ha rfl inX3 2 (by decide) g363 rfl dX3_insertKey_58 ?_
    refine lv_iload_n hx hb dX3_insertKey_61 rfl (lv_at hl 2 rfl) ?_
    refine lv_ior hx hb dX3_insertKey_62 ?_
    refine q_put C hP hS ha rfl inX3 tyX3 tyX3_ok nmX3 2 (by decide) g363 rfl rfl rfl (Nat.le_of_ble_eq_true rfl) dX3_insertKey_63 (fun H locs hP hS => ?_)
    replace hP : qP D N0 (qs hv4 a (.inr (3, [.int (nI d), .int (nI ow), .int ((nI (tqB p9 32)) ||| (nI (2 ^ v9))), .int nbI, .int (nI n), .ref w35, .ref w50, .ref na]))) H := hP
    obtain ⟨hv5, ehv5⟩ : ∃ z : qH, z = qs hv4 a (.inr (3, [.int (nI d), .int (nI ow), .int ((nI (tqB p9 32)) ||| (nI (2 ^ v9))), .int nbI, .int (nI n), .ref w35, .ref w50, .ref na])) := ⟨_, rfl⟩
    rw [← ehv5] at hP
    have khv5 : ∀ b o, b ≠ a → hv4 b = some o → hv5 b = some o := by rw [ehv5]; exact fun b o nb hb => (qs_ne nb).trans hb
    replace hka := khv5 _ _ (fun q => by subst q; have := hka.symm.trans ha; first | cases this | simp at this) hka
    replace hva := khv5 _ _ (fun q => by subst q; have := hva.symm.trans ha; first | cases this | simp at this) hva
    replace fw35 := khv5 _ _ n_w35_a.symm fw35
    replace fw50 := khv5 _ _ n_w50_a.symm fw50
    replace ha : hv5 a = some (.inr (3, [.int (nI d), .int (nI ow), .int ((nI (tqB p9 32)) ||| (nI (2 ^ v9))), .int nbI, .int (nI n), .ref w35, .ref w50, .ref na])) := by rw [ehv5]; exact qs_self
    clear ehv5
    replace fr : ∀ b o, h b = some o → b ≠ a → hv5 b = some o := fun b o hb n0_ => khv5 b o n0_ (fr b o hb n0_)
    replace fd : ∀ b o, h b = some o → ∃ o', hv5 b = some o' := fun b o hb => if z9 : b = a then ⟨_, (congrArg hv5 z9).trans ha⟩ else (fd b o hb).elim (fun o9 h9 => ⟨o9, khv5 b o9 z9 h9⟩)
    exact q_vret C hP hS ⟨rfl, w35, w50, ow35, ow50, n_w50_w35, ha, fw35, fw50, fr, fd⟩ (by omega) dX3_insertKey_66
theorem dX3_insertKey_20 : decode cX3_insertKey 20 = .ok (.aload_n 0, 1) := by decide +kernel
theorem dX3_insertKey_21 : decode cX3_insertKey 21 = .ok (.lload_n 2, 1) := by decide +kernel
theorem dX3_insertKey_22 : decode cX3_insertKey 22 = .ok (.invokevirtual 58, 3) := by decide +kernel
set_option maxRecDepth 100000 in
set_option maxHeartbeats 4000000 in
theorem c_X3_insertKey0 (l : Launch) (D : va_G) (cy : Nat → ClassId) (N0 : Nat) (h : qH) (Im : Nat → Prop) (e9 : Nat) (Ok : Nat → Prop) (m9 : Int32) (a : Nat) (L : qKV) (n1 : Nat) (X : Nat → Prop) (ow1 ka1 va1 na1 : Nat) (C1 : Nat → Nat) (k x : Int64) (hn1 : thNd cy h Im e9 Ok m9 0 a L n1 X ow1 ka1 va1 na1 C1) (hL : L.length < 1000000) : qC l D cy N0 yX3_insertKey cX3_insertKey 7 none 3 90 2 (2 * L.length + 2) [.ref a, .int (nI 0), .long k, .long x] h (fun v h' => v = none ∧ ∃ j, j ≤ (trK m9 0 L).length ∧ (∀ q, q < j → ((List.map Prod.fst (trK m9 0 L)).getD q 0).toInt < k.toInt) ∧ (j < (trK m9 0 L).length → k.toInt ≤ ((List.map Prod.fst (trK m9 0 L)).getD j 0).toInt) ∧ ∃ ka2 va2, h ka2 = none ∧ h va2 = none ∧ ka2 ≠ va2 ∧ h' a = some (.inr (3, [.int (nI (7 - 0)), .int (nI ow1), .int (nI (trKb m9 0 L) ||| nI 0), .int (nI (trNb m9 0 L)), .int (nI n1), .ref ka2, .ref va2, .ref na1])) ∧ h' ka2 = some (thJ cy (thIn (List.map Prod.fst (trK m9 0 L)) j k)) ∧ h' va2 = some (thJ cy (thIn (List.map Prod.snd (trK m9 0 L)) j x)) ∧ (∀ b o, h b = some o → b ≠ a → h' b = some o) ∧ (∀ b o, h b = some o → ∃ o', h' b = some o')) (fun E h' => False) := by
  refine q_ofW (by decide) (by exact Nat.le_of_ble_eq_true rfl) ?_
  intro p e s m below meth c ls C hP hl
  have hx := C.1
  have hb := C.2.1
  have hS : va_S (qA N0) s.heap s.heap [] := va_S.rf
  have hl : lv_has ls 7 [(0, .ref a), (1, .int (nI 0)), (2, .long k), (4, .long x)] := hl
  have ha := hn1.1
  unfold thNo at ha
  have hka := hn1.2.1
  have hva := hn1.2.2.1
  have hlen : (trK m9 0 L).length = L.length := thO_len
  have hl1 : (List.map Prod.fst (trK m9 0 L)).length = L.length := by rw [List.length_map, hlen]
  have hl2 : (List.map Prod.snd (trK m9 0 L)).length = L.length := by rw [List.length_map, hlen]
  have fr : ∀ b o, h b = some o → b ≠ a → h b = some o := fun b o hb _ => hb
  have fd : ∀ b o, h b = some o → ∃ o', h b = some o' := fun b o hb => ⟨o, hb⟩
  refine lv_aload_n hx hb dX3_insertKey_0 rfl (lv_at hl 0 rfl) ?_
  refine q_get C hP ha rfl inX3 0 (by decide) g361 rfl dX3_insertKey_1 ?_
  refine lv_bipush (v := nI 7) hx hb dX3_insertKey_4 (by decide) ?_
  refine lv_icmp_ge (tgt := 20) hx hb dX3_insertKey_6 (by decide) (fun c6 => ?_) (fun c6 => ?_)
  · replace c6 : 7 ≤ (7 - 0) := (nI_leI (a := 7) (b := (7 - 0)) (by omega) (by omega)).mp c6
    refine lv_aload_n hx hb dX3_insertKey_20 rfl (lv_at hl 0 rfl) ?_
    refine lv_lload_n hx hb dX3_insertKey_21 rfl (lv_at hl 2 rfl) ?_
    refine q_callV (rest := []) C (c_X3_sortedPlace l D cy N0 h Im e9 Ok m9 a L n1 X ow1 ka1 va1 na1 C1 k hn1 (by omega)) kX3_sortedPlace g319 g321 rfl gp6 g12 hP hS ha (by first | decide | omega) hl.1 rfl (by decide) (by first | decide | omega) dX3_insertKey_22 (fun q ce E h' H1 locs1 hE => hE.elim) (fun v hh1 H locs hq hP hS => ?_)
    obtain ⟨j9, rfl, rfl, hj9, k9, g9⟩ := hq
    refine lv_istore (lv' := [(6, .int (nI j9)), (0, .ref a), (1, .int (nI 0)), (2, .long k), (4, .long x)]) hx hb dX3_insertKey_25 hl (by decide) rfl (fun ls hl => ?_)
    refine lv_aload_n hx hb dX3_insertKey_27 rfl (lv_at hl 1 rfl) ?_
    refine lv_aload_n hx hb dX3_insertKey_28 rfl (lv_at hl 1 rfl) ?_
    refine q_get C hP ha rfl inX3 5 (by decide) g366 rfl dX3_insertKey_29 ?_
    refine lv_iload hx hb dX3_insertKey_32 (lv_at hl 0 rfl) ?_
    refine lv_lload_n hx hb dX3_insertKey_34 rfl (lv_at hl 3 rfl) ?_
    refine q_callS (rest := [.ref a]) C (c_X3_withNumber l D cy N0 h ka1 (List.map Prod.fst (trK m9 0 L)) j9 k hka (by omega) (by omega)) kX3_withNumber g434 g435 hP hS (by first | decide | omega) hl.1 rfl (by simp [q_catrf, q_cati, q_catl, q_cata, q_catn]) (by first | decide | omega) dX3_insertKey_35 (fun q ce E h' H1 locs1 hE => hE.elim) (fun v hh2 H locs hq hP hS => ?_)
    obtain ⟨w35, rfl, ew35, rfl⟩ := hq
    obtain ⟨hv1, ehv1⟩ : ∃ z : qH, z = qs h w35 (thJ cy (thIn (List.map Prod.fst (trK m9 0 L)) j9 k)) := ⟨_, rfl⟩
    rw [← ehv1] at hP
    have khv1 : ∀ b o, b ≠ w35 → h b = some o → hv1 b = some o := by rw [ehv1]; exact fun b o nb hb => (qs_ne nb).trans hb
    have n_w35_a : a ≠ w35 := qne_of ew35 ha
    replace ha := khv1 _ _ n_w35_a ha
    have n_w35_ka1 : ka1 ≠ w35 := qne_of ew35 hka
    replace hka := khv1 _ _ n_w35_ka1 hka
    have n_w35_va1 : va1 ≠ w35 := qne_of ew35 hva
    replace hva := khv1 _ _ n_w35_va1 hva
    have fw35 : hv1 w35 = some (thJ cy (thIn (List.map Prod.fst (trK m9 0 L)) j9 k)) := by rw [ehv1]; exact qs_self
    clear ehv1
    have ow35 : h w35 = none := qno fd ew35
    replace fr : ∀ b o, h b = some o → b ≠ a → hv1 b = some o := fun b o hb n0_ => khv1 b o (qne_of ow35 hb) (fr b o hb n0_)
    replace fd : ∀ b o, h b = some o → ∃ o', hv1 b = some o' := fun b o hb => (fd b o hb).elim (fun o9 h9 => ⟨o9, khv1 b o9 (qne_of ow35 hb) h9⟩)
    refine q_put C hP hS ha rfl inX3 tyX3 tyX3_ok nmX3 5 (by decide) g366 rfl rfl rfl (Nat.le_of_ble_eq_true rfl) dX3_insertKey_38 (fun H locs hP hS => ?_)
    replace hP : qP D N0 (qs hv1 a (.inr (3, [.int (nI (7 - 0)), .int (nI ow1), .int (nI (trKb m9 0 L)), .int (nI (trNb m9 0 L)), .int (nI n1), .ref w35, .ref va1, .ref na1]))) H := hP
    obtain ⟨hv2, ehv2⟩ : ∃ z : qH, z = qs hv1 a (.inr (3, [.int (nI (7 - 0)), .int (nI ow1), .int (nI (trKb m9 0 L)), .int (nI (trNb m9 0 L)), .int (nI n1), .ref w35, .ref va1, .ref na1])) := ⟨_, rfl⟩
    rw [← ehv2] at hP
    have khv2 : ∀ b o, b ≠ a → hv1 b = some o → hv2 b = some o := by rw [ehv2]; exact fun b o nb hb => (qs_ne nb).trans hb
    replace hka := khv2 _ _ (fun q => by subst q; have := hka.symm.trans ha; first | cases this | simp at this) hka
    replace hva := khv2 _ _ (fun q => by subst q; have := hva.symm.trans ha; first | cases this | simp at this) hva
    replace fw35 := khv2 _ _ n_w35_a.symm fw35
    replace ha : hv2 a = some (.inr (3, [.int (nI (7 - 0)), .int (nI ow1), .int (nI (trKb m9 0 L)), .int (nI (trNb m9 0 L)), .int (nI n1), .ref w35, .ref va1, .ref na1])) := by rw [ehv2]; exact qs_self
    clear ehv2
    replace fr : ∀ b o, h b = some o → b ≠ a → hv2 b = some o := fun b o hb n0_ => khv2 b o n0_ (fr b o hb n0_)
    replace fd : ∀ b o, h b = some o → ∃ o', hv2 b = some o' := fun b o hb => if z9 : b = a then ⟨_, (congrArg hv2 z9).trans ha⟩ else (fd b o hb).elim (fun o9 h9 => ⟨o9, khv2 b o9 z9 h9⟩)
    refine lv_aload_n hx hb dX3_insertKey_41 rfl (lv_at hl 1 rfl) ?_
    refine lv_aload_n hx hb dX3_insertKey_42 rfl (lv_at hl 1 rfl) ?_
    refine q_get C hP ha rfl inX3 6 (by decide) g367 rfl dX3_insertKey_43 ?_
    refine lv_iload hx hb dX3_insertKey_46 (lv_at hl 0 rfl) ?_
    refine lv_lload hx hb dX3_insertKey_48 (lv_at hl 4 rfl) ?_
    refine q_callS (rest := [.ref a]) C (c_X3_withNumber l D cy N0 hv2 va1 (List.map Prod.snd (trK m9 0 L)) j9 x hva (by omega) (by omega)) kX3_withNumber g434 g435 hP hS (by first | decide | omega) hl.1 rfl (by simp [q_catrf, q_cati, q_catl, q_cata, q_catn]) (by first | decide | omega) dX3_insertKey_50 (fun q ce E h' H1 locs1 hE => hE.elim) (fun v hh3 H locs hq hP hS => ?_)
    obtain ⟨w50, rfl, ew50, rfl⟩ := hq
    obtain ⟨hv3, ehv3⟩ : ∃ z : qH, z = qs hv2 w50 (thJ cy (thIn (List.map Prod.snd (trK m9 0 L)) j9 x)) := ⟨_, rfl⟩
    rw [← ehv3] at hP
    have khv3 : ∀ b o, b ≠ w50 → hv2 b = some o → hv3 b = some o := by rw [ehv3]; exact fun b o nb hb => (qs_ne nb).trans hb
    have n_w50_a : a ≠ w50 := qne_of ew50 ha
    replace ha := khv3 _ _ n_w50_a ha
    have n_w50_ka1 : ka1 ≠ w50 := qne_of ew50 hka
    replace hka := khv3 _ _ n_w50_ka1 hka
    have n_w50_va1 : va1 ≠ w50 := qne_of ew50 hva
    replace hva := khv3 _ _ n_w50_va1 hva
    have n_w50_w35 : w35 ≠ w50 := qne_of ew50 fw35
    replace fw35 := khv3 _ _ n_w50_w35 fw35
    have fw50 : hv3 w50 = some (thJ cy (thIn (List.map Prod.snd (trK m9 0 L)) j9 x)) := by rw [ehv3]; exact qs_self
    clear ehv3
    have ow50 : h w50 = none := qno fd ew50
    replace fr : ∀ b o, h b = some o → b ≠ a → hv3 b = some o := fun b o hb n0_ => khv3 b o (qne_of ow50 hb) (fr b o hb n0_)
    replace fd : ∀ b o, h b = some o → ∃ o', hv3 b = some o' := fun b o hb => (fd b o hb).elim (fun o9 h9 => ⟨o9, khv3 b o9 (qne_of ow50 hb) h9⟩)
    refine q_put C hP hS ha rfl inX3 tyX3 tyX3_ok nmX3 6 (by decide) g367 rfl rfl rfl (Nat.le_of_ble_eq_true rfl) dX3_insertKey_53 (fun H locs hP hS => ?_)
    replace hP : qP D N0 (qs hv3 a (.inr (3, [.int (nI (7 - 0)), .int (nI ow1), .int (nI (trKb m9 0 L)), .int (nI (trNb m9 0 L)), .int (nI n1), .ref w35, .ref w50, .ref na1]))) H := hP
    obtain ⟨hv4, ehv4⟩ : ∃ z : qH, z = qs hv3 a (.inr (3, [.int (nI (7 - 0)), .int (nI ow1), .int (nI (trKb m9 0 L)), .int (nI (trNb m9 0 L)), .int (nI n1), .ref w35, .ref w50, .ref na1])) := ⟨_, rfl⟩
    rw [← ehv4] at hP
    have khv4 : ∀ b o, b ≠ a → hv3 b = some o → hv4 b = some o := by rw [ehv4]; exact fun b o nb hb => (qs_ne nb).trans hb
    replace hka := khv4 _ _ (fun q => by subst q; have := hka.symm.trans ha; first | cases this | simp at this) hka
    replace hva := khv4 _ _ (fun q => by subst q; have := hva.symm.trans ha; first | cases this | simp at this) hva
    replace fw35 := khv4 _ _ n_w35_a.symm fw35
    replace fw50 := khv4 _ _ n_w50_a.symm fw50
    replace ha : hv4 a = some (.inr (3, [.int (nI (7 - 0)), .int (nI ow1), .int (nI (trKb m9 0 L)), .int (nI (trNb m9 0 L)), .int (nI n1), .ref w35, .ref w50, .ref na1])) := by rw [ehv4]; exact qs_self
    clear ehv4
    replace fr : ∀ b o, h b = some o → b ≠ a → hv4 b = some o := fun b o hb n0_ => khv4 b o n0_ (fr b o hb n0_)
    replace fd : ∀ b o, h b = some o → ∃ o', hv4 b = some o' := fun b o hb => if z9 : b = a then ⟨_, (congrArg hv4 z9).trans ha⟩ else (fd b o hb).elim (fun o9 h9 => ⟨o9, khv4 b o9 z9 h9⟩)
    refine lv_aload_n hx hb dX3_insertKey_56 rfl (lv_at hl 1 rfl) ?_
    refine lv_dup hx hb dX3_insertKey_57 rfl ?_
    refine q_get C hP ha rfl inX3 2 (by decide) g363 rfl dX3_insertKey_58 ?_
    refine lv_iload_n hx hb dX3_insertKey_61 rfl (lv_at hl 2 rfl) ?_
    refine lv_ior hx hb dX3_insertKey_62 ?_
    refine q_put C hP hS ha rfl inX3 tyX3 tyX3_ok nmX3 2 (by decide) g363 rfl rfl rfl (Nat.le_of_ble_eq_true rfl) dX3_insertKey_63 (fun H locs hP hS => ?_)
    replace hP : qP D N0 (qs hv4 a (.inr (3, [.int (nI (7 - 0)), .int (nI ow1), .int ((nI (trKb m9 0 L)) ||| (nI 0)), .int (nI (trNb m9 0 L)), .int (nI n1), .ref w35, .ref w50, .ref na1]))) H := hP
    obtain ⟨hv5, ehv5⟩ : ∃ z : qH, z = qs hv4 a (.inr (3, [.int (nI (7 - 0)), .int (nI ow1), .int ((nI (trKb m9 0 L)) ||| (nI 0)), .int (nI (trNb m9 0 L)), .int (nI n1), .ref w35, .ref w50, .ref na1])) := ⟨_, rfl⟩
    rw [← ehv5] at hP
    have khv5 : ∀ b o, b ≠ a → hv4 b = some o → hv5 b = some o := by rw [ehv5]; exact fun b o nb hb => (qs_ne nb).trans hb
    replace hka := khv5 _ _ (fun q => by subst q; have := hka.symm.trans ha; first | cases this | simp at this) hka
    replace hva := khv5 _ _ (fun q => by subst q; have := hva.symm.trans ha; first | cases this | simp at this) hva
    replace fw35 := khv5 _ _ n_w35_a.symm fw35
    replace fw50 := khv5 _ _ n_w50_a.symm fw50
    replace ha : hv5 a = some (.inr (3, [.int (nI (7 - 0)), .int (nI ow1), .int ((nI (trKb m9 0 L)) ||| (nI 0)), .int (nI (trNb m9 0 L)), .int (nI n1), .ref w35, .ref w50, .ref na1])) := by rw [ehv5]; exact qs_self
    clear ehv5
    replace fr : ∀ b o, h b = some o → b ≠ a → hv5 b = some o := fun b o hb n0_ => khv5 b o n0_ (fr b o hb n0_)
    replace fd : ∀ b o, h b = some o → ∃ o', hv5 b = some o' := fun b o hb => if z9 : b = a then ⟨_, (congrArg hv5 z9).trans ha⟩ else (fd b o hb).elim (fun o9 h9 => ⟨o9, khv5 b o9 z9 h9⟩)
    exact q_vret C hP hS ⟨rfl, j9, hj9, k9, g9, w35, w50, ow35, ow50, n_w50_w35, ha, fw35, fw50, fr, fd⟩ (by omega) dX3_insertKey_66
  · replace c6 : ¬ 7 ≤ (7 - 0) := fun zq => c6 ((nI_leI (a := 7) (b := (7 - 0)) (by omega) (by omega)).mpr zq)
    exfalso; omega
theorem dX3_removeKey_0 : decode cX3_removeKey 0 = .ok (.aload_n 0, 1) := by decide +kernel
theorem dX3_removeKey_1 : decode cX3_removeKey 1 = .ok (.aload_n 0, 1) := by decide +kernel
theorem dX3_removeKey_2 : decode cX3_removeKey 2 = .ok (.getfield 15, 3) := by decide +kernel
theorem dX3_removeKey_5 : decode cX3_removeKey 5 = .ok (.iload_n 1, 1) := by decide +kernel
theorem dX3_removeKey_6 : decode cX3_removeKey 6 = .ok (.invokestatic 108, 3) := by decide +kernel
theorem dX3_removeKey_9 : decode cX3_removeKey 9 = .ok (.putfield 15, 3) := by decide +kernel
theorem dX3_removeKey_12 : decode cX3_removeKey 12 = .ok (.aload_n 0, 1) := by decide +kernel
theorem dX3_removeKey_13 : decode cX3_removeKey 13 = .ok (.aload_n 0, 1) := by decide +kernel
theorem dX3_removeKey_14 : decode cX3_removeKey 14 = .ok (.getfield 18, 3) := by decide +kernel
theorem dX3_removeKey_17 : decode cX3_removeKey 17 = .ok (.iload_n 1, 1) := by decide +kernel
theorem dX3_removeKey_18 : decode cX3_removeKey 18 = .ok (.invokestatic 108, 3) := by decide +kernel
theorem dX3_removeKey_21 : decode cX3_removeKey 21 = .ok (.putfield 18, 3) := by decide +kernel
theorem dX3_removeKey_24 : decode cX3_removeKey 24 = .ok (.aload_n 0, 1) := by decide +kernel
theorem dX3_removeKey_25 : decode cX3_removeKey 25 = .ok (.dup, 1) := by decide +kernel
theorem dX3_removeKey_26 : decode cX3_removeKey 26 = .ok (.getfield 55, 3) := by decide +kernel
theorem dX3_removeKey_29 : decode cX3_removeKey 29 = .ok (.iload_n 2, 1) := by decide +kernel
theorem dX3_removeKey_30 : decode cX3_removeKey 30 = .ok (.iconst (-1), 1) := by decide +kernel
theorem dX3_removeKey_31 : decode cX3_removeKey 31 = .ok (.ixor, 1) := by decide +kernel
theorem dX3_removeKey_32 : decode cX3_removeKey 32 = .ok (.iand, 1) := by decide +kernel
theorem dX3_removeKey_33 : decode cX3_removeKey 33 = .ok (.putfield 55, 3) := by decide +kernel
theorem dX3_removeKey_36 : decode cX3_removeKey 36 = .ok (.return_, 1) := by decide +kernel
set_option maxRecDepth 100000 in
set_option maxHeartbeats 4000000 in
theorem c_X3_removeKey (l : Launch) (D : va_G) (cy : Nat → ClassId) (N0 : Nat) (h : qH) (a d ow n ka va na : Nat) (kbI nbI bI : Int32) (KK VV : List Int64) (p0 : Nat) (ha : h a = some (.inr (3, [.int (nI d), .int (nI ow), .int kbI, .int nbI, .int (nI n), .ref ka, .ref va, .ref na]))) (hka : h ka = some (thJ cy KK)) (hva : h va = some (thJ cy VV)) (h99 : h (cy 99) = some (thJ cy [])) (hp : p0 < KK.length) (hVl : VV.length = KK.length) (hKl : KK.length < 1000000) : qC l D cy N0 yX3_removeKey cX3_removeKey 3 none 3 90 2 (2 * KK.length) [.ref a, .int (nI p0), .int bI] h (fun v h' => v = none ∧ ∃ ka1 va1, ((KK.length ≤ 1 ∧ ka1 = cy 99 ∧ va1 = cy 99) ∨ (1 < KK.length ∧ h ka1 = none ∧ h va1 = none ∧ ka1 ≠ va1)) ∧ h' a = some (.inr (3, [.int (nI d), .int (nI ow), .int (kbI &&& (bI ^^^ (-1))), .int nbI, .int (nI n), .ref ka1, .ref va1, .ref na])) ∧ h' ka1 = some (thJ cy (KK.eraseIdx p0)) ∧ h' va1 = some (thJ cy (VV.eraseIdx p0)) ∧ (∀ b o, h b = some o → b ≠ a → h' b = some o) ∧ (∀ b o, h b = some o → ∃ o', h' b = some o')) (fun E h' => False) := by
  refine q_ofW (by decide) (by exact Nat.le_of_ble_eq_true rfl) ?_
  intro p e s m below meth c ls C hP hl
  have hx := C.1
  have hb := C.2.1
  have hS : va_S (qA N0) s.heap s.heap [] := va_S.rf
  have hl : lv_has ls 3 [(0, .ref a), (1, .int (nI p0)), (2, .int bI)] := hl
  have ha0 := ha
  have fr : ∀ b o, h b = some o → b ≠ a → h b = some o := fun b o hb _ => hb
  have fd : ∀ b o, h b = some o → ∃ o', h b = some o' := fun b o hb => ⟨o, hb⟩
  refine lv_aload_n hx hb dX3_removeKey_0 rfl (lv_at hl 0 rfl) ?_
  refine lv_aload_n hx hb dX3_removeKey_1 rfl (lv_at hl 0 rfl) ?_
  refine q_get C hP ha rfl inX3 5 (by decide) g366 rfl dX3_removeKey_2 ?_
  refine lv_iload_n hx hb dX3_removeKey_5 rfl (lv_at hl 1 rfl) ?_
  refine q_callS (rest := [.ref a]) C (c_X3_withoutNumber l D cy N0 h ka KK p0 hka (by omega) (by omega)) kX3_withoutNumber g421 g422 hP hS (by first | decide | omega) hl.1 rfl (by simp [q_catrf, q_cati, q_catl, q_cata, q_catn]) (by first | decide | omega) dX3_removeKey_6 (fun q ce E h' H1 locs1 hE => hE.elim) (fun v hh1 H locs hq hP hS => ?_)
  obtain ⟨w6, rfl, hq⟩ := hq
  rcases hq with ⟨rfl, hltw6, herw6, rfl⟩ | ⟨hltw6, ew6, rfl⟩
  · refine q_put C hP hS ha rfl inX3 tyX3 tyX3_ok nmX3 5 (by decide) g366 rfl rfl rfl (Nat.le_of_ble_eq_true rfl) dX3_removeKey_9 (fun H locs hP hS => ?_)
    replace hP : qP D N0 (qs h a (.inr (3, [.int (nI d), .int (nI ow), .int kbI, .int nbI, .int (nI n), .ref (cy 99), .ref va, .ref na]))) H := hP
    obtain ⟨hv1, ehv1⟩ : ∃ z : qH, z = qs h a (.inr (3, [.int (nI d), .int (nI ow), .int kbI, .int nbI, .int (nI n), .ref (cy 99), .ref va, .ref na])) := ⟨_, rfl⟩
    rw [← ehv1] at hP
    have khv1 : ∀ b o, b ≠ a → h b = some o → hv1 b = some o := by rw [ehv1]; exact fun b o nb hb => (qs_ne nb).trans hb
    replace hka := khv1 _ _ (fun q => by subst q; have := hka.symm.trans ha; first | cases this | simp at this) hka
    replace hva := khv1 _ _ (fun q => by subst q; have := hva.symm.trans ha; first | cases this | simp at this) hva
    replace ha : hv1 a = some (.inr (3, [.int (nI d), .int (nI ow), .int kbI, .int nbI, .int (nI n), .ref (cy 99), .ref va, .ref na])) := by rw [ehv1]; exact qs_self
    clear ehv1
    replace fr : ∀ b o, h b = some o → b ≠ a → hv1 b = some o := fun b o hb n0_ => khv1 b o n0_ (fr b o hb n0_)
    replace fd : ∀ b o, h b = some o → ∃ o', hv1 b = some o' := fun b o hb => if z9 : b = a then ⟨_, (congrArg hv1 z9).trans ha⟩ else (fd b o hb).elim (fun o9 h9 => ⟨o9, khv1 b o9 z9 h9⟩)
    refine lv_aload_n hx hb dX3_removeKey_12 rfl (lv_at hl 0 rfl) ?_
    refine lv_aload_n hx hb dX3_removeKey_13 rfl (lv_at hl 0 rfl) ?_
    refine q_get C hP ha rfl inX3 6 (by decide) g367 rfl dX3_removeKey_14 ?_
    refine lv_iload_n hx hb dX3_removeKey_17 rfl (lv_at hl 1 rfl) ?_
    refine q_callS (rest := [.ref a]) C (c_X3_withoutNumber l D cy N0 hv1 va VV p0 hva (by omega) (by omega)) kX3_withoutNumber g421 g422 hP hS (by first | decide | omega) hl.1 rfl (by simp [q_catrf, q_cati, q_catl, q_cata, q_catn]) (by first | decide | omega) dX3_removeKey_18 (fun q ce E h' H1 locs1 hE => hE.elim) (fun v hh2 H locs hq hP hS => ?_)
    obtain ⟨w18, rfl, hq⟩ := hq
    rcases hq with ⟨rfl, hltw18, herw18, rfl⟩ | ⟨hltw18, ew18, rfl⟩
    · refine q_put C hP hS ha rfl inX3 tyX3 tyX3_ok nmX3 6 (by decide) g367 rfl rfl rfl (Nat.le_of_ble_eq_true rfl) dX3_removeKey_21 (fun H locs hP hS => ?_)
      replace hP : qP D N0 (qs hv1 a (.inr (3, [.int (nI d), .int (nI ow), .int kbI, .int nbI, .int (nI n), .ref (cy 99), .ref (cy 99), .ref na]))) H := hP
      obtain ⟨hv2, ehv2⟩ : ∃ z : qH, z = qs hv1 a (.inr (3, [.int (nI d), .int (nI ow), .int kbI, .int nbI, .int (nI n), .ref (cy 99), .ref (cy 99), .ref na])) := ⟨_, rfl⟩
      rw [← ehv2] at hP
      have khv2 : ∀ b o, b ≠ a → hv1 b = some o → hv2 b = some o := by rw [ehv2]; exact fun b o nb hb => (qs_ne nb).trans hb
      replace hka := khv2 _ _ (fun q => by subst q; have := hka.symm.trans ha; first | cases this | simp at this) hka
      replace hva := khv2 _ _ (fun q => by subst q; have := hva.symm.trans ha; first | cases this | simp at this) hva
      replace ha : hv2 a = some (.inr (3, [.int (nI d), .int (nI ow), .int kbI, .int nbI, .int (nI n), .ref (cy 99), .ref (cy 99), .ref na])) := by rw [ehv2]; exact qs_self
      clear ehv2
      replace fr : ∀ b o, h b = some o → b ≠ a → hv2 b = some o := fun b o hb n0_ => khv2 b o n0_ (fr b o hb n0_)
      replace fd : ∀ b o, h b = some o → ∃ o', hv2 b = some o' := fun b o hb => if z9 : b = a then ⟨_, (congrArg hv2 z9).trans ha⟩ else (fd b o hb).elim (fun o9 h9 => ⟨o9, khv2 b o9 z9 h9⟩)
      refine lv_aload_n hx hb dX3_removeKey_24 rfl (lv_at hl 0 rfl) ?_
      refine lv_dup hx hb dX3_removeKey_25 rfl ?_
      refine q_get C hP ha rfl inX3 2 (by decide) g363 rfl dX3_removeKey_26 ?_
      refine lv_iload_n hx hb dX3_removeKey_29 rfl (lv_at hl 2 rfl) ?_
      refine lv_iconst (v := -1) hx hb dX3_removeKey_30 (by decide) ?_
      refine lv_ixor hx hb dX3_removeKey_31 ?_
      refine lv_iand hx hb dX3_removeKey_32 ?_
      refine q_put C hP hS ha rfl inX3 tyX3 tyX3_ok nmX3 2 (by decide) g363 rfl rfl rfl (Nat.le_of_ble_eq_true rfl) dX3_removeKey_33 (fun H locs hP hS => ?_)
      replace hP : qP D N0 (qs hv2 a (.inr (3, [.int (nI d), .int (nI ow), .int (kbI &&& (bI ^^^ (-1))), .int nbI, .int (nI n), .ref (cy 99), .ref (cy 99), .ref na]))) H := hP
      obtain ⟨hv3, ehv3⟩ : ∃ z : qH, z = qs hv2 a (.inr (3, [.int (nI d), .int (nI ow), .int (kbI &&& (bI ^^^ (-1))), .int nbI, .int (nI n), .ref (cy 99), .ref (cy 99), .ref na])) := ⟨_, rfl⟩
      rw [← ehv3] at hP
      have khv3 : ∀ b o, b ≠ a → hv2 b = some o → hv3 b = some o := by rw [ehv3]; exact fun b o nb hb => (qs_ne nb).trans hb
      replace hka := khv3 _ _ (fun q => by subst q; have := hka.symm.trans ha; first | cases this | simp at this) hka
      replace hva := khv3 _ _ (fun q => by subst q; have := hva.symm.trans ha; first | cases this | simp at this) hva
      replace ha : hv3 a = some (.inr (3, [.int (nI d), .int (nI ow), .int (kbI &&& (bI ^^^ (-1))), .int nbI, .int (nI n), .ref (cy 99), .ref (cy 99), .ref na])) := by rw [ehv3]; exact qs_self
      clear ehv3
      replace fr : ∀ b o, h b = some o → b ≠ a → hv3 b = some o := fun b o hb n0_ => khv3 b o n0_ (fr b o hb n0_)
      replace fd : ∀ b o, h b = some o → ∃ o', hv3 b = some o' := fun b o hb => if z9 : b = a then ⟨_, (congrArg hv3 z9).trans ha⟩ else (fd b o hb).elim (fun o9 h9 => ⟨o9, khv3 b o9 z9 h9⟩)
      have n99 : cy 99 ≠ a := fun z => by rw [z, ha0] at h99; cases h99
      exact q_vret C hP hS ⟨rfl, cy 99, cy 99, Or.inl ⟨hltw6, rfl, rfl⟩, ha, by rw [herw6]; exact fr _ _ h99 n99, by rw [herw18]; exact fr _ _ h99 n99, fr, fd⟩ (by omega) dX3_removeKey_36
    · exfalso; omega
  · obtain ⟨hv4, ehv4⟩ : ∃ z : qH, z = qs h w6 (thJ cy (KK.eraseIdx p0)) := ⟨_, rfl⟩
    rw [← ehv4] at hP
    have khv4 : ∀ b o, b ≠ w6 → h b = some o → hv4 b = some o := by rw [ehv4]; exact fun b o nb hb => (qs_ne nb).trans hb
    have n_w6_a : a ≠ w6 := qne_of ew6 ha
    replace ha := khv4 _ _ n_w6_a ha
    have n_w6_ka : ka ≠ w6 := qne_of ew6 hka
    replace hka := khv4 _ _ n_w6_ka hka
    have n_w6_va : va ≠ w6 := qne_of ew6 hva
    replace hva := khv4 _ _ n_w6_va hva
    have fw6 : hv4 w6 = some (thJ cy (KK.eraseIdx p0)) := by rw [ehv4]; exact qs_self
    clear ehv4
    have ow6 : h w6 = none := qno fd ew6
    replace fr : ∀ b o, h b = some o → b ≠ a → hv4 b = some o := fun b o hb n0_ => khv4 b o (qne_of ow6 hb) (fr b o hb n0_)
    replace fd : ∀ b o, h b = some o → ∃ o', hv4 b = some o' := fun b o hb => (fd b o hb).elim (fun o9 h9 => ⟨o9, khv4 b o9 (qne_of ow6 hb) h9⟩)
    refine q_put C hP hS ha rfl inX3 tyX3 tyX3_ok nmX3 5 (by decide) g366 rfl rfl rfl (Nat.le_of_ble_eq_true rfl) dX3_removeKey_9 (fun H locs hP hS => ?_)
    replace hP : qP D N0 (qs hv4 a (.inr (3, [.int (nI d), .int (nI ow), .int kbI, .int nbI, .int (nI n), .ref w6, .ref va, .ref na]))) H := hP
    obtain ⟨hv5, ehv5⟩ : ∃ z : qH, z = qs hv4 a (.inr (3, [.int (nI d), .int (nI ow), .int kbI, .int nbI, .int (nI n), .ref w6, .ref va, .ref na])) := ⟨_, rfl⟩
    rw [← ehv5] at hP
    have khv5 : ∀ b o, b ≠ a → hv4 b = some o → hv5 b = some o := by rw [ehv5]; exact fun b o nb hb => (qs_ne nb).trans hb
    replace hka := khv5 _ _ (fun q => by subst q; have := hka.symm.trans ha; first | cases this | simp at this) hka
    replace hva := khv5 _ _ (fun q => by subst q; have := hva.symm.trans ha; first | cases this | simp at this) hva
    replace fw6 := khv5 _ _ n_w6_a.symm fw6
    replace ha : hv5 a = some (.inr (3, [.int (nI d), .int (nI ow), .int kbI, .int nbI, .int (nI n), .ref w6, .ref va, .ref na])) := by rw [ehv5]; exact qs_self
    clear ehv5
    replace fr : ∀ b o, h b = some o → b ≠ a → hv5 b = some o := fun b o hb n0_ => khv5 b o n0_ (fr b o hb n0_)
    replace fd : ∀ b o, h b = some o → ∃ o', hv5 b = some o' := fun b o hb => if z9 : b = a then ⟨_, (congrArg hv5 z9).trans ha⟩ else (fd b o hb).elim (fun o9 h9 => ⟨o9, khv5 b o9 z9 h9⟩)
    refine lv_aload_n hx hb dX3_removeKey_12 rfl (lv_at hl 0 rfl) ?_
    refine lv_aload_n hx hb dX3_removeKey_13 rfl (lv_at hl 0 rfl) ?_
    refine q_get C hP ha rfl inX3 6 (by decide) g367 rfl dX3_removeKey_14 ?_
    refine lv_iload_n hx hb dX3_removeKey_17 rfl (lv_at hl 1 rfl) ?_
    refine q_callS (rest := [.ref a]) C (c_X3_withoutNumber l D cy N0 hv5 va VV p0 hva (by omega) (by omega)) kX3_withoutNumber g421 g422 hP hS (by first | decide | omega) hl.1 rfl (by simp [q_catrf, q_cati, q_catl, q_cata, q_catn]) (by first | decide | omega) dX3_removeKey_18 (fun q ce E h' H1 locs1 hE => hE.elim) (fun v hh3 H locs hq hP hS => ?_)
    obtain ⟨w18, rfl, hq⟩ := hq
    rcases hq with ⟨rfl, hltw18, herw18, rfl⟩ | ⟨hltw18, ew18, rfl⟩
    · exfalso; omega
    · obtain ⟨hv6, ehv6⟩ : ∃ z : qH, z = qs hv5 w18 (thJ cy (VV.eraseIdx p0)) := ⟨_, rfl⟩
      rw [← ehv6] at hP
      have khv6 : ∀ b o, b ≠ w18 → hv5 b = some o → hv6 b = some o := by rw [ehv6]; exact fun b o nb hb => (qs_ne nb).trans hb
      have n_w18_a : a ≠ w18 := qne_of ew18 ha
      replace ha := khv6 _ _ n_w18_a ha
      have n_w18_ka : ka ≠ w18 := qne_of ew18 hka
      replace hka := khv6 _ _ n_w18_ka hka
      have n_w18_va : va ≠ w18 := qne_of ew18 hva
      replace hva := khv6 _ _ n_w18_va hva
      have n_w18_w6 : w6 ≠ w18 := qne_of ew18 fw6
      replace fw6 := khv6 _ _ n_w18_w6 fw6
      have fw18 : hv6 w18 = some (thJ cy (VV.eraseIdx p0)) := by rw [ehv6]; exact qs_self
      clear ehv6
      have ow18 : h w18 = none := qno fd ew18
      replace fr : ∀ b o, h b = some o → b ≠ a → hv6 b = some o := fun b o hb n0_ => khv6 b o (qne_of ow18 hb) (fr b o hb n0_)
      replace fd : ∀ b o, h b = some o → ∃ o', hv6 b = some o' := fun b o hb => (fd b o hb).elim (fun o9 h9 => ⟨o9, khv6 b o9 (qne_of ow18 hb) h9⟩)
      refine q_put C hP hS ha rfl inX3 tyX3 tyX3_ok nmX3 6 (by decide) g367 rfl rfl rfl (Nat.le_of_ble_eq_true rfl) dX3_removeKey_21 (fun H locs hP hS => ?_)
      replace hP : qP D N0 (qs hv6 a (.inr (3, [.int (nI d), .int (nI ow), .int kbI, .int nbI, .int (nI n), .ref w6, .ref w18, .ref na]))) H := hP
      obtain ⟨hv7, ehv7⟩ : ∃ z : qH, z = qs hv6 a (.inr (3, [.int (nI d), .int (nI ow), .int kbI, .int nbI, .int (nI n), .ref w6, .ref w18, .ref na])) := ⟨_, rfl⟩
      rw [← ehv7] at hP
      have khv7 : ∀ b o, b ≠ a → hv6 b = some o → hv7 b = some o := by rw [ehv7]; exact fun b o nb hb => (qs_ne nb).trans hb
      replace hka := khv7 _ _ (fun q => by subst q; have := hka.symm.trans ha; first | cases this | simp at this) hka
      replace hva := khv7 _ _ (fun q => by subst q; have := hva.symm.trans ha; first | cases this | simp at this) hva
      replace fw6 := khv7 _ _ n_w6_a.symm fw6
      replace fw18 := khv7 _ _ n_w18_a.symm fw18
      replace ha : hv7 a = some (.inr (3, [.int (nI d), .int (nI ow), .int kbI, .int nbI, .int (nI n), .ref w6, .ref w18, .ref na])) := by rw [ehv7]; exact qs_self
      clear ehv7
      replace fr : ∀ b o, h b = some o → b ≠ a → hv7 b = some o := fun b o hb n0_ => khv7 b o n0_ (fr b o hb n0_)
      replace fd : ∀ b o, h b = some o → ∃ o', hv7 b = some o' := fun b o hb => if z9 : b = a then ⟨_, (congrArg hv7 z9).trans ha⟩ else (fd b o hb).elim (fun o9 h9 => ⟨o9, khv7 b o9 z9 h9⟩)
      refine lv_aload_n hx hb dX3_removeKey_24 rfl (lv_at hl 0 rfl) ?_
      refine lv_dup hx hb dX3_removeKey_25 rfl ?_
      refine q_get C hP ha rfl inX3 2 (by decide) g363 rfl dX3_removeKey_26 ?_
      refine lv_iload_n hx hb dX3_removeKey_29 rfl (lv_at hl 2 rfl) ?_
      refine lv_iconst (v := -1) hx hb dX3_removeKey_30 (by decide) ?_
      refine lv_ixor hx hb dX3_removeKey_31 ?_
      refine lv_iand hx hb dX3_removeKey_32 ?_
      refine q_put C hP hS ha rfl inX3 tyX3 tyX3_ok nmX3 2 (by decide) g363 rfl rfl rfl (Nat.le_of_ble_eq_true rfl) dX3_removeKey_33 (fun H locs hP hS => ?_)
      replace hP : qP D N0 (qs hv7 a (.inr (3, [.int (nI d), .int (nI ow), .int (kbI &&& (bI ^^^ (-1))), .int nbI, .int (nI n), .ref w6, .ref w18, .ref na]))) H := hP
      obtain ⟨hv8, ehv8⟩ : ∃ z : qH, z = qs hv7 a (.inr (3, [.int (nI d), .int (nI ow), .int (kbI &&& (bI ^^^ (-1))), .int nbI, .int (nI n), .ref w6, .ref w18, .ref na])) := ⟨_, rfl⟩
      rw [← ehv8] at hP
      have khv8 : ∀ b o, b ≠ a → hv7 b = some o → hv8 b = some o := by rw [ehv8]; exact fun b o nb hb => (qs_ne nb).trans hb
      replace hka := khv8 _ _ (fun q => by subst q; have := hka.symm.trans ha; first | cases this | simp at this) hka
      replace hva := khv8 _ _ (fun q => by subst q; have := hva.symm.trans ha; first | cases this | simp at this) hva
      replace fw6 := khv8 _ _ n_w6_a.symm fw6
      replace fw18 := khv8 _ _ n_w18_a.symm fw18
      replace ha : hv8 a = some (.inr (3, [.int (nI d), .int (nI ow), .int (kbI &&& (bI ^^^ (-1))), .int nbI, .int (nI n), .ref w6, .ref w18, .ref na])) := by rw [ehv8]; exact qs_self
      clear ehv8
      replace fr : ∀ b o, h b = some o → b ≠ a → hv8 b = some o := fun b o hb n0_ => khv8 b o n0_ (fr b o hb n0_)
      replace fd : ∀ b o, h b = some o → ∃ o', hv8 b = some o' := fun b o hb => if z9 : b = a then ⟨_, (congrArg hv8 z9).trans ha⟩ else (fd b o hb).elim (fun o9 h9 => ⟨o9, khv8 b o9 z9 h9⟩)
      exact q_vret C hP hS ⟨rfl, w6, w18, Or.inr ⟨hltw6, ow6, ow18, n_w18_w6⟩, ha, fw6, fw18, fr, fd⟩ (by omega) dX3_removeKey_36
