theorem dX5_given_0 : decode cX5_given 0 = .ok (.new 8, 3) := by decide +kernel
theorem dX5_given_3 : decode cX5_given 3 = .ok (.dup, 1) := by decide +kernel
theorem dX5_given_4 : decode cX5_given 4 = .ok (.lload_n 0, 1) := by decide +kernel
theorem dX5_given_5 : decode cX5_given 5 = .ok (.iconst 0, 1) := by decide +kernel
theorem dX5_given_6 : decode cX5_given 6 = .ok (.invokespecial 25, 3) := by decide +kernel
theorem dX5_given_9 : decode cX5_given 9 = .ok (.astore_n 3, 1) := by decide +kernel
theorem dX5_given_10 : decode cX5_given 10 = .ok (.aload_n 3, 1) := by decide +kernel
theorem dX5_given_11 : decode cX5_given 11 = .ok (.aload_n 2, 1) := by decide +kernel
theorem dX5_given_12 : decode cX5_given 12 = .ok (.invokevirtual 28, 3) := by decide +kernel
theorem dX5_given_15 : decode cX5_given 15 = .ok (.aload_n 3, 1) := by decide +kernel
theorem dX5_given_16 : decode cX5_given 16 = .ok (.areturn, 1) := by decide +kernel
set_option maxRecDepth 100000 in
set_option maxHeartbeats 4000000 in
theorem c_X5_given (l : Launch) (D : va_G) (cy : Nat → ClassId) (N0 : Nat) (h : qH) (v0 : Int64) (pr : Option Nat) : qC l D cy N0 yX5_given cX5_given 4 (some (.object RX5)) 2 47 1 10 [.long v0, va_rf pr] h (fun v h' => ∃ q, v = some (.ref q) ∧ h q = none ∧ h' = qs h q (.inr (5, [.long v0, .int 0, .int 0, .long 0, .int 0, .null, .null, .null, .int 1, va_rf pr]))) (fun E h' => False) := by
  refine q_ofW (by decide) (by simp [lg_sl, q_catrf, q_cati, q_catl, q_cata, q_catn]) ?_
  intro p e s m below meth c ls C hP hl
  have hx := C.1
  have hb := C.2.1
  have hS : va_S (qA N0) s.heap s.heap [] := va_S.rf
  have hl : lv_has ls 4 [(0, .long v0), (2, va_rf pr)] := by simpa [lv_args, q_catrf, q_cati, q_catl, q_cata, q_catn] using hl
  have hle : qle h h := qle_rf
  refine q_new (ci := 5) (fs := [.long 0, .int 0, .int 0, .long 0, .int 0, .null, .null, .null, .int 0, .null]) C hP hS rfl inX5 tyX5 tyX5_ok g529 g530 g18 (fun j hj => by rcases (show j = 0 ∨ j = 1 ∨ j = 2 ∨ j = 3 ∨ j = 4 ∨ j = 5 ∨ j = 6 ∨ j = 7 ∨ j = 8 ∨ j = 9 by omega) with rfl | rfl | rfl | rfl | rfl | rfl | rfl | rfl | rfl | rfl <;> rfl) (by first | decide | omega) (by first | decide | omega) dX5_given_0 (fun q0 H eq0 hP hS => ?_)
  have hb_q0 := hle
  have oq0 := qle_none hle eq0
  replace hle := qle_tr hle (qle_new (o := (.inr (5, [.long 0, .int 0, .int 0, .long 0, .int 0, .null, .null, .null, .int 0, .null]))) eq0)
  have fq0 : (qs h q0 (.inr (5, [.long 0, .int 0, .int 0, .long 0, .int 0, .null, .null, .null, .int 0, .null]))) q0 = some (.inr (5, [.long 0, .int 0, .int 0, .long 0, .int 0, .null, .null, .null, .int 0, .null])) := qs_self
  refine lv_dup hx hb dX5_given_3 rfl ?_
  refine lv_lload_n hx hb dX5_given_4 rfl (lv_at hl 0 rfl) ?_
  refine lv_iconst (v := 0) hx hb dX5_given_5 (by decide) ?_
  refine q_callI (rest := [.ref q0]) C (c_X5_init l D cy N0 (qs h q0 (.inr (5, [.long 0, .int 0, .int 0, .long 0, .int 0, .null, .null, .null, .int 0, .null]))) q0 v0 0 fq0) kX5_init g531 g532 rfl hP hS (by first | decide | omega) hl.1 rfl (by simp [q_catrf, q_cati, q_catl, q_cata, q_catn]) (by first | decide | omega) dX5_given_6 (fun v hh1 H locs hq hP hS => ?_)
  obtain ⟨rfl, rfl⟩ := hq
  rw [qs_qs] at hP
  replace hle : qle h (qs h q0 (.inr (5, [.long v0, .int 0, .int 0, .long 0, .int 0, .null, .null, .null, .int 0, .null]))) := qle_set oq0 hb_q0
  replace fq0 : (qs h q0 (.inr (5, [.long v0, .int 0, .int 0, .long 0, .int 0, .null, .null, .null, .int 0, .null]))) q0 = some (.inr (5, [.long v0, .int 0, .int 0, .long 0, .int 0, .null, .null, .null, .int 0, .null])) := qs_self
  refine lv_astore_n (lv' := [(3, .ref q0), (0, .long v0), (2, va_rf pr)]) hx hb dX5_given_9 rfl hl (by decide) (by cases pr <;> rfl) (fun ls hl => ?_)
  refine lv_aload_n hx hb dX5_given_10 rfl (lv_at hl 0 rfl) ?_
  refine q_aload_n hx hb dX5_given_11 rfl (lv_at hl 2 rfl) ?_
  refine q_callV (rest := []) C (c_X5_finish l D cy N0 (qs h q0 (.inr (5, [.long v0, .int 0, .int 0, .long 0, .int 0, .null, .null, .null, .int 0, .null]))) pr q0 v0 0 0 0 0 0 (.null) (.null) (.null) (.null) fq0) kX5_finish g576 g578 rfl gp12 g18 hP hS fq0 (by first | decide | omega) hl.1 rfl (by decide) (by first | decide | omega) dX5_given_12 (fun q ce E h' H1 locs1 hE => hE.elim) (fun v hh2 H locs hq hP hS => ?_)
  obtain ⟨rfl, rfl⟩ := hq
  rw [qs_qs] at hP
  replace hP : qP D N0 (qs h q0 (.inr (5, [.long v0, .int 0, .int 0, .long 0, .int 0, .null, .null, .null, .int 1, va_rf pr]))) H := hP
  refine lv_aload_n hx hb dX5_given_15 rfl (lv_at hl 0 rfl) ?_
  exact q_aret (v := some q0) C (Or.inl ⟨_, rfl⟩) hP hS ⟨q0, rfl, oq0, rfl⟩ (by omega) dX5_given_16
theorem dX5_turned_0 : decode cX5_turned 0 = .ok (.aload_n 0, 1) := by decide +kernel
theorem dX5_turned_1 : decode cX5_turned 1 = .ok (.iload_n 1, 1) := by decide +kernel
theorem dX5_turned_2 : decode cX5_turned 2 = .ok (.invokestatic 38, 3) := by decide +kernel
theorem dX5_turned_5 : decode cX5_turned 5 = .ok (.astore_n 2, 1) := by decide +kernel
theorem dX5_turned_6 : decode cX5_turned 6 = .ok (.aload_n 2, 1) := by decide +kernel
theorem dX5_turned_7 : decode cX5_turned 7 = .ok (.ifnonnull 5, 3) := by decide +kernel
theorem dX5_turned_10 : decode cX5_turned 10 = .ok (.aconst_null, 1) := by decide +kernel
theorem dX5_turned_11 : decode cX5_turned 11 = .ok (.areturn, 1) := by decide +kernel
theorem dX5_turned_12 : decode cX5_turned 12 = .ok (.new 8, 3) := by decide +kernel
theorem dX5_turned_15 : decode cX5_turned 15 = .ok (.dup, 1) := by decide +kernel
theorem dX5_turned_16 : decode cX5_turned 16 = .ok (.aload_n 2, 1) := by decide +kernel
theorem dX5_turned_17 : decode cX5_turned 17 = .ok (.getfield 44, 3) := by decide +kernel
theorem dX5_turned_20 : decode cX5_turned 20 = .ok (.iconst 2, 1) := by decide +kernel
theorem dX5_turned_21 : decode cX5_turned 21 = .ok (.invokespecial 25, 3) := by decide +kernel
theorem dX5_turned_24 : decode cX5_turned 24 = .ok (.astore_n 3, 1) := by decide +kernel
theorem dX5_turned_25 : decode cX5_turned 25 = .ok (.aload_n 3, 1) := by decide +kernel
theorem dX5_turned_26 : decode cX5_turned 26 = .ok (.aload_n 0, 1) := by decide +kernel
theorem dX5_turned_27 : decode cX5_turned 27 = .ok (.putfield 47, 3) := by decide +kernel
theorem dX5_turned_30 : decode cX5_turned 30 = .ok (.aload_n 3, 1) := by decide +kernel
theorem dX5_turned_31 : decode cX5_turned 31 = .ok (.iload_n 1, 1) := by decide +kernel
theorem dX5_turned_32 : decode cX5_turned 32 = .ok (.putfield 51, 3) := by decide +kernel
theorem dX5_turned_35 : decode cX5_turned 35 = .ok (.aload_n 3, 1) := by decide +kernel
theorem dX5_turned_36 : decode cX5_turned 36 = .ok (.areturn, 1) := by decide +kernel
set_option maxRecDepth 100000 in
set_option maxHeartbeats 4000000 in
theorem c_X5_turned (l : Launch) (D : va_G) (cy : Nat → ClassId) (N0 : Nat) (h : qH) (r0 : Option Nat) (n0 jj : Nat) (A0 : qKV) (hA : qBr h n0 r0 A0) (hL : A0.length ≤ 1000) (hj : jj ≤ 1001) : qC l D cy N0 yX5_turned cX5_turned 4 (some (.object RX5)) 3 60 (if A0.length ≤ jj then 0 else 1) (if A0.length ≤ jj then 0 else 10) [va_rf r0, .int (nI jj)] h (fun v h' => (v = some .null ∧ h = h' ∧ A0.length ≤ jj) ∨ ∃ q k0 v0, A0[jj]? = some (k0, v0) ∧ v = some (.ref q) ∧ h q = none ∧ h' = qs h q (.inr (5, [.long v0, .int 2, .int 0, .long 0, .int (nI jj), .null, .null, va_rf r0, .int 0, .null]))) (fun E h' => False) := by
  refine q_ofW (by decide) (by simp [lg_sl, q_catrf, q_cati, q_catl, q_cata, q_catn]) ?_
  intro p e s m below meth c ls C hP hl
  have hx := C.1
  have hb := C.2.1
  have hS : va_S (qA N0) s.heap s.heap [] := va_S.rf
  have hl : lv_has ls 4 [(0, va_rf r0), (1, .int (nI jj))] := by simpa [lv_args, q_catrf, q_cati, q_catl, q_cata, q_catn] using hl
  have hle : qle h h := qle_rf
  refine q_aload_n hx hb dX5_turned_0 rfl (lv_at hl 0 rfl) ?_
  refine lv_iload_n hx hb dX5_turned_1 rfl (lv_at hl 1 rfl) ?_
  refine q_callS (rest := []) C (c_X0_branchAt l D cy N0 h r0 n0 A0 (nI jj) hA (by omega)) kX0_branchAt g679 g592 hP hS (by first | decide | omega) hl.1 rfl (by decide) (by first | decide | omega) dX5_turned_2 (fun q ce E h' H1 locs1 hE => hE.elim) (fun v hh1 H locs hq hP hS => ?_)
  obtain ⟨r9, rfl, rfl, hat⟩ := hq
  rcases hat with ⟨j9, a9, k9, v9, x9, y9, z9, w9, ej9, eL9, rfl, ha9⟩ | ⟨rfl, hno⟩
  · have ej : jj = j9 := nI_inj32 (by omega) (by have := (List.getElem?_eq_some_iff.mp eL9).1; omega) ej9
    have hjl := (List.getElem?_eq_some_iff.mp eL9).1
    have e10 : (if A0.length ≤ jj then 0 else 1) = 1 ∧ (if A0.length ≤ jj then 0 else 10) = 10 := ⟨if_neg (by omega), if_neg (by omega)⟩
    refine lv_astore_n (lv' := [(2, .ref a9), (0, va_rf r0), (1, .int (nI jj))]) hx hb dX5_turned_5 rfl hl (by decide) rfl (fun ls hl => ?_)
    refine lv_aload_n hx hb dX5_turned_6 rfl (lv_at hl 0 rfl) ?_
    refine lv_ifnonnull (tgt := 12) hx hb dX5_turned_7 (by decide) ?_
    refine q_new (ci := 5) (fs := [.long 0, .int 0, .int 0, .long 0, .int 0, .null, .null, .null, .int 0, .null]) C hP hS rfl inX5 tyX5 tyX5_ok g529 g530 g18 (fun j hj => by rcases (show j = 0 ∨ j = 1 ∨ j = 2 ∨ j = 3 ∨ j = 4 ∨ j = 5 ∨ j = 6 ∨ j = 7 ∨ j = 8 ∨ j = 9 by omega) with rfl | rfl | rfl | rfl | rfl | rfl | rfl | rfl | rfl | rfl <;> rfl) (by first | decide | omega) (by first | decide | omega) dX5_turned_12 (fun q12 H eq12 hP hS => ?_)
    have n_q12_a9 : a9 ≠ q12 := qne_of eq12 ha9
    replace ha9 := qle_new (o := (.inr (5, [.long 0, .int 0, .int 0, .long 0, .int 0, .null, .null, .null, .int 0, .null]))) eq12 _ _ ha9
    have hb_q12 := hle
    have oq12 := qle_none hle eq12
    replace hle := qle_tr hle (qle_new (o := (.inr (5, [.long 0, .int 0, .int 0, .long 0, .int 0, .null, .null, .null, .int 0, .null]))) eq12)
    have fq12 : (qs h q12 (.inr (5, [.long 0, .int 0, .int 0, .long 0, .int 0, .null, .null, .null, .int 0, .null]))) q12 = some (.inr (5, [.long 0, .int 0, .int 0, .long 0, .int 0, .null, .null, .null, .int 0, .null])) := qs_self
    refine lv_dup hx hb dX5_turned_15 rfl ?_
    refine lv_aload_n hx hb dX5_turned_16 rfl (lv_at hl 0 rfl) ?_
    refine q_get C hP ha9 rfl inX0 2 (by decide) g495 rfl dX5_turned_17 ?_
    refine lv_iconst (v := 2) hx hb dX5_turned_20 (by decide) ?_
    refine q_callI (rest := [.ref q12]) C (c_X5_init l D cy N0 (qs h q12 (.inr (5, [.long 0, .int 0, .int 0, .long 0, .int 0, .null, .null, .null, .int 0, .null]))) q12 v9 2 fq12) kX5_init g531 g532 rfl hP hS (by first | decide | omega) hl.1 rfl (by simp [q_catrf, q_cati, q_catl, q_cata, q_catn]) (by first | decide | omega) dX5_turned_21 (fun v hh2 H locs hq hP hS => ?_)
    obtain ⟨rfl, rfl⟩ := hq
    rw [qs_qs] at hP
    replace ha9 := qs_re (o' := (.inr (5, [.long v9, .int 2, .int 0, .long 0, .int 0, .null, .null, .null, .int 0, .null]))) n_q12_a9 ha9
    replace hle : qle h (qs h q12 (.inr (5, [.long v9, .int 2, .int 0, .long 0, .int 0, .null, .null, .null, .int 0, .null]))) := qle_set oq12 hb_q12
    replace fq12 : (qs h q12 (.inr (5, [.long v9, .int 2, .int 0, .long 0, .int 0, .null, .null, .null, .int 0, .null]))) q12 = some (.inr (5, [.long v9, .int 2, .int 0, .long 0, .int 0, .null, .null, .null, .int 0, .null])) := qs_self
    refine lv_astore_n (lv' := [(3, .ref q12), (2, .ref a9), (0, va_rf r0), (1, .int (nI jj))]) hx hb dX5_turned_24 rfl hl (by decide) rfl (fun ls hl => ?_)
    refine lv_aload_n hx hb dX5_turned_25 rfl (lv_at hl 0 rfl) ?_
    refine q_aload_n hx hb dX5_turned_26 rfl (lv_at hl 2 rfl) ?_
    refine q_put C hP hS fq12 rfl inX5 tyX5 tyX5_ok nmX5 7 (by decide) g549 rfl (q_narf _) (q_firf _) (Nat.le_of_ble_eq_true rfl) dX5_turned_27 (fun H locs hP hS => ?_)
    rw [qs_qs] at hP
    replace ha9 := qs_re (o' := (.inr (5, [.long v9, .int 2, .int 0, .long 0, .int 0, .null, .null, va_rf r0, .int 0, .null]))) n_q12_a9 ha9
    replace hle : qle h (qs h q12 (.inr (5, [.long v9, .int 2, .int 0, .long 0, .int 0, .null, .null, va_rf r0, .int 0, .null]))) := qle_set oq12 hb_q12
    replace fq12 : (qs h q12 (.inr (5, [.long v9, .int 2, .int 0, .long 0, .int 0, .null, .null, va_rf r0, .int 0, .null]))) q12 = some (.inr (5, [.long v9, .int 2, .int 0, .long 0, .int 0, .null, .null, va_rf r0, .int 0, .null])) := qs_self
    replace hP : qP D N0 (qs h q12 (.inr (5, [.long v9, .int 2, .int 0, .long 0, .int 0, .null, .null, va_rf r0, .int 0, .null]))) H := hP
    refine lv_aload_n hx hb dX5_turned_30 rfl (lv_at hl 0 rfl) ?_
    refine lv_iload_n hx hb dX5_turned_31 rfl (lv_at hl 3 rfl) ?_
    refine q_put C hP hS fq12 rfl inX5 tyX5 tyX5_ok nmX5 4 (by decide) g543 rfl rfl rfl (Nat.le_of_ble_eq_true rfl) dX5_turned_32 (fun H locs hP hS => ?_)
    rw [qs_qs] at hP
    replace ha9 := qs_re (o' := (.inr (5, [.long v9, .int 2, .int 0, .long 0, .int (nI jj), .null, .null, va_rf r0, .int 0, .null]))) n_q12_a9 ha9
    replace hle : qle h (qs h q12 (.inr (5, [.long v9, .int 2, .int 0, .long 0, .int (nI jj), .null, .null, va_rf r0, .int 0, .null]))) := qle_set oq12 hb_q12
    replace fq12 : (qs h q12 (.inr (5, [.long v9, .int 2, .int 0, .long 0, .int (nI jj), .null, .null, va_rf r0, .int 0, .null]))) q12 = some (.inr (5, [.long v9, .int 2, .int 0, .long 0, .int (nI jj), .null, .null, va_rf r0, .int 0, .null])) := qs_self
    replace hP : qP D N0 (qs h q12 (.inr (5, [.long v9, .int 2, .int 0, .long 0, .int (nI jj), .null, .null, va_rf r0, .int 0, .null]))) H := hP
    refine lv_aload_n hx hb dX5_turned_35 rfl (lv_at hl 0 rfl) ?_
    exact q_aret (v := some q12) C (Or.inl ⟨_, rfl⟩) hP hS (Or.inr ⟨q12, k9, v9, by rw [ej]; exact eL9, rfl, oq12, rfl⟩) (by omega) dX5_turned_36
  · refine lv_astore_nN (lv' := [(2, .null), (0, va_rf r0), (1, .int (nI jj))]) hx hb dX5_turned_5 rfl hl (by decide) rfl (fun ls hl => ?_)
    refine lv_aload_nN hx hb dX5_turned_6 rfl (lv_at hl 0 rfl) ?_
    refine lv_ifnonnullN hx hb dX5_turned_7 ?_
    refine lv_null hx hb dX5_turned_10 ?_
    have hn9 : A0.length ≤ jj := by
      rcases hno with z | ⟨j9, z, h1, h2⟩
      · exact absurd z (nI_pos (by omega))
      · rw [nI_inj32 (by omega) (by omega) z]; exact h1
    exact q_aret (v := none) C (Or.inl ⟨_, rfl⟩) hP hS (Or.inl ⟨rfl, rfl, hn9⟩) (by omega) dX5_turned_11
theorem dX5_taken_0 : decode cX5_taken 0 = .ok (.aload_n 0, 1) := by decide +kernel
theorem dX5_taken_1 : decode cX5_taken 1 = .ok (.ifnull 7, 3) := by decide +kernel
theorem dX5_taken_4 : decode cX5_taken 4 = .ok (.iload_n 1, 1) := by decide +kernel
theorem dX5_taken_5 : decode cX5_taken 5 = .ok (.ifCond .gt 5, 3) := by decide +kernel
theorem dX5_taken_8 : decode cX5_taken 8 = .ok (.aconst_null, 1) := by decide +kernel
theorem dX5_taken_9 : decode cX5_taken 9 = .ok (.areturn, 1) := by decide +kernel
theorem dX5_taken_10 : decode cX5_taken 10 = .ok (.iload_n 1, 1) := by decide +kernel
theorem dX5_taken_11 : decode cX5_taken 11 = .ok (.iconst 1, 1) := by decide +kernel
theorem dX5_taken_12 : decode cX5_taken 12 = .ok (.if_icmp .ne 12, 3) := by decide +kernel
theorem dX5_taken_15 : decode cX5_taken 15 = .ok (.aload_n 0, 1) := by decide +kernel
theorem dX5_taken_16 : decode cX5_taken 16 = .ok (.getfield 7, 3) := by decide +kernel
theorem dX5_taken_19 : decode cX5_taken 19 = .ok (.aconst_null, 1) := by decide +kernel
theorem dX5_taken_20 : decode cX5_taken 20 = .ok (.invokestatic 57, 3) := by decide +kernel
theorem dX5_taken_23 : decode cX5_taken 23 = .ok (.areturn, 1) := by decide +kernel
theorem dX5_taken_24 : decode cX5_taken 24 = .ok (.new 8, 3) := by decide +kernel
theorem dX5_taken_27 : decode cX5_taken 27 = .ok (.dup, 1) := by decide +kernel
theorem dX5_taken_28 : decode cX5_taken 28 = .ok (.aload_n 0, 1) := by decide +kernel
theorem dX5_taken_29 : decode cX5_taken 29 = .ok (.getfield 7, 3) := by decide +kernel
theorem dX5_taken_32 : decode cX5_taken 32 = .ok (.iconst 5, 1) := by decide +kernel
theorem dX5_taken_33 : decode cX5_taken 33 = .ok (.invokespecial 25, 3) := by decide +kernel
theorem dX5_taken_36 : decode cX5_taken 36 = .ok (.astore_n 2, 1) := by decide +kernel
theorem dX5_taken_37 : decode cX5_taken 37 = .ok (.aload_n 2, 1) := by decide +kernel
theorem dX5_taken_38 : decode cX5_taken 38 = .ok (.iload_n 1, 1) := by decide +kernel
theorem dX5_taken_39 : decode cX5_taken 39 = .ok (.putfield 51, 3) := by decide +kernel
theorem dX5_taken_42 : decode cX5_taken 42 = .ok (.aload_n 2, 1) := by decide +kernel
theorem dX5_taken_43 : decode cX5_taken 43 = .ok (.aload_n 0, 1) := by decide +kernel
theorem dX5_taken_44 : decode cX5_taken 44 = .ok (.putfield 54, 3) := by decide +kernel
theorem dX5_taken_47 : decode cX5_taken 47 = .ok (.aload_n 2, 1) := by decide +kernel
theorem dX5_taken_48 : decode cX5_taken 48 = .ok (.areturn, 1) := by decide +kernel
set_option maxRecDepth 100000 in
set_option maxHeartbeats 4000000 in
theorem c_X5_taken (l : Launch) (D : va_G) (cy : Nat → ClassId) (N0 : Nat) (h : qH) (sr : Option Nat) (jj : Nat) (x1 c1 : Int64) (w1 f1 n1 d1 : Int32) (s1 b1 r1 t1 : Value) (hs : ∀ sq, sr = some sq → h sq = some (.inr (5, [.long x1, .int w1, .int f1, .long c1, .int n1, s1, b1, r1, .int d1, t1]))) (hj : jj < 2147483648) : qC l D cy N0 yX5_taken cX5_taken 3 (some (.object RX5)) 3 70 (if sr = none ∨ jj = 0 then 0 else 1) (if sr = none ∨ jj = 0 then 0 else 10) [va_rf sr, .int (nI jj)] h (fun v h' => (v = some .null ∧ h = h' ∧ (sr = none ∨ jj = 0)) ∨ ∃ sq q, sr = some sq ∧ v = some (.ref q) ∧ h q = none ∧ ((jj = 1 ∧ h' = qs h q (.inr (5, [.long x1, .int 0, .int 0, .long 0, .int 0, .null, .null, .null, .int 1, .null]))) ∨ (2 ≤ jj ∧ h' = qs h q (.inr (5, [.long x1, .int 5, .int 0, .long 0, .int (nI jj), .ref sq, .null, .null, .int 0, .null]))))) (fun E h' => False) := by
  refine q_ofW (by decide) (by simp [lg_sl, q_catrf, q_cati, q_catl, q_cata, q_catn]) ?_
  intro p e s m below meth c ls C hP hl
  have hx := C.1
  have hb := C.2.1
  have hS : va_S (qA N0) s.heap s.heap [] := va_S.rf
  have hl : lv_has ls 3 [(0, va_rf sr), (1, .int (nI jj))] := by simpa [lv_args, q_catrf, q_cati, q_catl, q_cata, q_catn] using hl
  have hle : qle h h := qle_rf
  cases sr with
  | none =>
    refine lv_aload_nN hx hb dX5_taken_0 rfl (lv_at hl 0 rfl) ?_
    refine lv_ifnullN (tgt := 8) hx hb dX5_taken_1 (by decide) ?_
    refine lv_null hx hb dX5_taken_8 ?_
    exact q_aret (v := none) C (Or.inl ⟨_, rfl⟩) hP hS (Or.inl ⟨rfl, rfl, Or.inl rfl⟩) (by omega) dX5_taken_9
  | some sq =>
    have fsq := hs sq rfl
    refine lv_aload_n hx hb dX5_taken_0 rfl (lv_at hl 0 rfl) ?_
    refine lv_ifnull hx hb dX5_taken_1 ?_
    refine lv_iload_n hx hb dX5_taken_4 rfl (lv_at hl 1 rfl) ?_
    refine lv_if_gt (tgt := 10) hx hb dX5_taken_5 (by decide) (fun c5 => ?_) (fun c5 => ?_)
    · replace c5 : 0 < jj := (nI_ltI (a := 0) (b := jj) (by omega) (by omega)).mp c5
      have e10 : (if some sq = none ∨ jj = 0 then 0 else 1) = 1 ∧ (if some sq = none ∨ jj = 0 then 0 else 10) = 10 := ⟨if_neg (fun z => z.elim (fun z => by cases z) (fun z => by omega)), if_neg (fun z => z.elim (fun z => by cases z) (fun z => by omega))⟩
      refine lv_iload_n hx hb dX5_taken_10 rfl (lv_at hl 1 rfl) ?_
      refine lv_iconst (v := nI 1) hx hb dX5_taken_11 (by decide) ?_
      refine lv_icmp_ne (tgt := 24) hx hb dX5_taken_12 (by decide) (fun c12 => ?_) (fun c12 => ?_)
      · replace c12 : ¬ jj = 1 := fun zq => c12 ((nI_eq (a := jj) (b := 1) (by omega) (by omega)).mpr zq)
        refine q_new (ci := 5) (fs := [.long 0, .int 0, .int 0, .long 0, .int 0, .null, .null, .null, .int 0, .null]) C hP hS rfl inX5 tyX5 tyX5_ok g529 g530 g18 (fun j hj => by rcases (show j = 0 ∨ j = 1 ∨ j = 2 ∨ j = 3 ∨ j = 4 ∨ j = 5 ∨ j = 6 ∨ j = 7 ∨ j = 8 ∨ j = 9 by omega) with rfl | rfl | rfl | rfl | rfl | rfl | rfl | rfl | rfl | rfl <;> rfl) (by first | decide | omega) (by first | decide | omega) dX5_taken_24 (fun q24 H eq24 hP hS => ?_)
        have n_q24_sq : sq ≠ q24 := qne_of eq24 fsq
        replace fsq := qle_new (o := (.inr (5, [.long 0, .int 0, .int 0, .long 0, .int 0, .null, .null, .null, .int 0, .null]))) eq24 _ _ fsq
        have hb_q24 := hle
        have oq24 := qle_none hle eq24
        replace hle := qle_tr hle (qle_new (o := (.inr (5, [.long 0, .int 0, .int 0, .long 0, .int 0, .null, .null, .null, .int 0, .null]))) eq24)
        have fq24 : (qs h q24 (.inr (5, [.long 0, .int 0, .int 0, .long 0, .int 0, .null, .null, .null, .int 0, .null]))) q24 = some (.inr (5, [.long 0, .int 0, .int 0, .long 0, .int 0, .null, .null, .null, .int 0, .null])) := qs_self
        refine lv_dup hx hb dX5_taken_27 rfl ?_
        refine lv_aload_n hx hb dX5_taken_28 rfl (lv_at hl 0 rfl) ?_
        refine q_get C hP fsq rfl inX5 0 (by decide) g535 rfl dX5_taken_29 ?_
        refine lv_iconst (v := nI 5) hx hb dX5_taken_32 (by decide) ?_
        refine q_callI (rest := [.ref q24]) C (c_X5_init l D cy N0 (qs h q24 (.inr (5, [.long 0, .int 0, .int 0, .long 0, .int 0, .null, .null, .null, .int 0, .null]))) q24 x1 (nI 5) fq24) kX5_init g531 g532 rfl hP hS (by first | decide | omega) hl.1 rfl (by simp [q_catrf, q_cati, q_catl, q_cata, q_catn]) (by first | decide | omega) dX5_taken_33 (fun v hh1 H locs hq hP hS => ?_)
        obtain ⟨rfl, rfl⟩ := hq
        rw [qs_qs] at hP
        replace fsq := qs_re (o' := (.inr (5, [.long x1, .int (nI 5), .int 0, .long 0, .int 0, .null, .null, .null, .int 0, .null]))) n_q24_sq fsq
        replace hle : qle h (qs h q24 (.inr (5, [.long x1, .int (nI 5), .int 0, .long 0, .int 0, .null, .null, .null, .int 0, .null]))) := qle_set oq24 hb_q24
        replace fq24 : (qs h q24 (.inr (5, [.long x1, .int (nI 5), .int 0, .long 0, .int 0, .null, .null, .null, .int 0, .null]))) q24 = some (.inr (5, [.long x1, .int (nI 5), .int 0, .long 0, .int 0, .null, .null, .null, .int 0, .null])) := qs_self
        refine lv_astore_n (lv' := [(2, .ref q24), (0, .ref sq), (1, .int (nI jj))]) hx hb dX5_taken_36 rfl hl (by decide) rfl (fun ls hl => ?_)
        refine lv_aload_n hx hb dX5_taken_37 rfl (lv_at hl 0 rfl) ?_
        refine lv_iload_n hx hb dX5_taken_38 rfl (lv_at hl 2 rfl) ?_
        refine q_put C hP hS fq24 rfl inX5 tyX5 tyX5_ok nmX5 4 (by decide) g543 rfl rfl rfl (Nat.le_of_ble_eq_true rfl) dX5_taken_39 (fun H locs hP hS => ?_)
        rw [qs_qs] at hP
        replace fsq := qs_re (o' := (.inr (5, [.long x1, .int (nI 5), .int 0, .long 0, .int (nI jj), .null, .null, .null, .int 0, .null]))) n_q24_sq fsq
        replace hle : qle h (qs h q24 (.inr (5, [.long x1, .int (nI 5), .int 0, .long 0, .int (nI jj), .null, .null, .null, .int 0, .null]))) := qle_set oq24 hb_q24
        replace fq24 : (qs h q24 (.inr (5, [.long x1, .int (nI 5), .int 0, .long 0, .int (nI jj), .null, .null, .null, .int 0, .null]))) q24 = some (.inr (5, [.long x1, .int (nI 5), .int 0, .long 0, .int (nI jj), .null, .null, .null, .int 0, .null])) := qs_self
        replace hP : qP D N0 (qs h q24 (.inr (5, [.long x1, .int (nI 5), .int 0, .long 0, .int (nI jj), .null, .null, .null, .int 0, .null]))) H := hP
        refine lv_aload_n hx hb dX5_taken_42 rfl (lv_at hl 0 rfl) ?_
        refine lv_aload_n hx hb dX5_taken_43 rfl (lv_at hl 1 rfl) ?_
        refine q_put C hP hS fq24 rfl inX5 tyX5 tyX5_ok nmX5 5 (by decide) g545 rfl rfl rfl (Nat.le_of_ble_eq_true rfl) dX5_taken_44 (fun H locs hP hS => ?_)
        rw [qs_qs] at hP
        replace fsq := qs_re (o' := (.inr (5, [.long x1, .int (nI 5), .int 0, .long 0, .int (nI jj), .ref sq, .null, .null, .int 0, .null]))) n_q24_sq fsq
        replace hle : qle h (qs h q24 (.inr (5, [.long x1, .int (nI 5), .int 0, .long 0, .int (nI jj), .ref sq, .null, .null, .int 0, .null]))) := qle_set oq24 hb_q24
        replace fq24 : (qs h q24 (.inr (5, [.long x1, .int (nI 5), .int 0, .long 0, .int (nI jj), .ref sq, .null, .null, .int 0, .null]))) q24 = some (.inr (5, [.long x1, .int (nI 5), .int 0, .long 0, .int (nI jj), .ref sq, .null, .null, .int 0, .null])) := qs_self
        replace hP : qP D N0 (qs h q24 (.inr (5, [.long x1, .int (nI 5), .int 0, .long 0, .int (nI jj), .ref sq, .null, .null, .int 0, .null]))) H := hP
        refine lv_aload_n hx hb dX5_taken_47 rfl (lv_at hl 0 rfl) ?_
        exact q_aret (v := some q24) C (Or.inl ⟨_, rfl⟩) hP hS (Or.inr ⟨sq, q24, rfl, rfl, oq24, Or.inr ⟨by omega, rfl⟩⟩) (by omega) dX5_taken_48
      · replace c12 : jj = 1 := (nI_eq (a := jj) (b := 1) (by omega) (by omega)).mp c12
        refine lv_aload_n hx hb dX5_taken_15 rfl (lv_at hl 0 rfl) ?_
        refine q_get C hP fsq rfl inX5 0 (by decide) g535 rfl dX5_taken_16 ?_
        refine lv_null hx hb dX5_taken_19 ?_
        refine q_callS (rest := []) C (c_X5_given l D cy N0 h x1 none) kX5_given g704 g527 hP hS (by first | decide | omega) hl.1 rfl (by decide) (by first | decide | omega) dX5_taken_20 (fun q ce E h' H1 locs1 hE => hE.elim) (fun v hh2 H locs hq hP hS => ?_)
        obtain ⟨q, rfl, oq, rfl⟩ := hq
        exact q_aret (v := some q) C (Or.inl ⟨_, rfl⟩) hP hS (Or.inr ⟨sq, q, rfl, rfl, oq, Or.inl ⟨by omega, rfl⟩⟩) (by omega) dX5_taken_23
    · replace c5 : ¬ 0 < jj := fun zq => c5 ((nI_ltI (a := 0) (b := jj) (by omega) (by omega)).mpr zq)
      refine lv_null hx hb dX5_taken_8 ?_
      exact q_aret (v := none) C (Or.inl ⟨_, rfl⟩) hP hS (Or.inl ⟨rfl, rfl, Or.inr (by omega)⟩) (by omega) dX5_taken_9
theorem dX5_joined_0 : decode cX5_joined 0 = .ok (.aload_n 0, 1) := by decide +kernel
theorem dX5_joined_1 : decode cX5_joined 1 = .ok (.ifnonnull 5, 3) := by decide +kernel
theorem dX5_joined_4 : decode cX5_joined 4 = .ok (.aload_n 1, 1) := by decide +kernel
theorem dX5_joined_5 : decode cX5_joined 5 = .ok (.areturn, 1) := by decide +kernel
theorem dX5_joined_6 : decode cX5_joined 6 = .ok (.new 8, 3) := by decide +kernel
theorem dX5_joined_9 : decode cX5_joined 9 = .ok (.dup, 1) := by decide +kernel
theorem dX5_joined_10 : decode cX5_joined 10 = .ok (.aload_n 0, 1) := by decide +kernel
theorem dX5_joined_11 : decode cX5_joined 11 = .ok (.getfield 7, 3) := by decide +kernel
theorem dX5_joined_14 : decode cX5_joined 14 = .ok (.bipush 6, 2) := by decide +kernel
theorem dX5_joined_16 : decode cX5_joined 16 = .ok (.invokespecial 25, 3) := by decide +kernel
theorem dX5_joined_19 : decode cX5_joined 19 = .ok (.astore_n 2, 1) := by decide +kernel
theorem dX5_joined_20 : decode cX5_joined 20 = .ok (.aload_n 2, 1) := by decide +kernel
theorem dX5_joined_21 : decode cX5_joined 21 = .ok (.aload_n 0, 1) := by decide +kernel
theorem dX5_joined_22 : decode cX5_joined 22 = .ok (.putfield 54, 3) := by decide +kernel
theorem dX5_joined_25 : decode cX5_joined 25 = .ok (.aload_n 2, 1) := by decide +kernel
theorem dX5_joined_26 : decode cX5_joined 26 = .ok (.aload_n 1, 1) := by decide +kernel
theorem dX5_joined_27 : decode cX5_joined 27 = .ok (.putfield 61, 3) := by decide +kernel
theorem dX5_joined_30 : decode cX5_joined 30 = .ok (.aload_n 2, 1) := by decide +kernel
theorem dX5_joined_31 : decode cX5_joined 31 = .ok (.areturn, 1) := by decide +kernel
set_option maxRecDepth 100000 in
set_option maxHeartbeats 4000000 in
theorem c_X5_joined (l : Launch) (D : va_G) (cy : Nat → ClassId) (N0 : Nat) (h : qH) (sr br : Option Nat) (x1 c1 : Int64) (w1 f1 n1 d1 : Int32) (s1 b1 r1 t1 : Value) (hs : ∀ sq, sr = some sq → h sq = some (.inr (5, [.long x1, .int w1, .int f1, .long c1, .int n1, s1, b1, r1, .int d1, t1]))) : qC l D cy N0 yX5_joined cX5_joined 3 (some (.object RX5)) 2 47 (if sr = none then 0 else 1) (if sr = none then 0 else 10) [va_rf sr, va_rf br] h (fun v h' => (v = some (va_rf br) ∧ h = h' ∧ sr = none) ∨ ∃ sq q, sr = some sq ∧ v = some (.ref q) ∧ h q = none ∧ h' = qs h q (.inr (5, [.long x1, .int 6, .int 0, .long 0, .int 0, .ref sq, va_rf br, .null, .int 0, .null]))) (fun E h' => False) := by
  refine q_ofW (by decide) (by simp [lg_sl, q_catrf, q_cati, q_catl, q_cata, q_catn]) ?_
  intro p e s m below meth c ls C hP hl
  have hx := C.1
  have hb := C.2.1
  have hS : va_S (qA N0) s.heap s.heap [] := va_S.rf
  have hl : lv_has ls 3 [(0, va_rf sr), (1, va_rf br)] := by simpa [lv_args, q_catrf, q_cati, q_catl, q_cata, q_catn] using hl
  have hle : qle h h := qle_rf
  cases sr with
  | none =>
    refine lv_aload_nN hx hb dX5_joined_0 rfl (lv_at hl 0 rfl) ?_
    refine lv_ifnonnullN hx hb dX5_joined_1 ?_
    refine q_aload_n hx hb dX5_joined_4 rfl (lv_at hl 1 rfl) ?_
    exact q_aret (v := br) C (Or.inl ⟨_, rfl⟩) hP hS (Or.inl ⟨rfl, rfl, rfl⟩) (by omega) dX5_joined_5
  | some sq =>
    have fsq := hs sq rfl
    have e10 : (if some sq = none then 0 else 1) = 1 ∧ (if some sq = none then 0 else 10) = 10 := ⟨if_neg (fun z => by cases z), if_neg (fun z => by cases z)⟩
    refine lv_aload_n hx hb dX5_joined_0 rfl (lv_at hl 0 rfl) ?_
    refine lv_ifnonnull (tgt := 6) hx hb dX5_joined_1 (by decide) ?_
    refine q_new (ci := 5) (fs := [.long 0, .int 0, .int 0, .long 0, .int 0, .null, .null, .null, .int 0, .null]) C hP hS rfl inX5 tyX5 tyX5_ok g529 g530 g18 (fun j hj => by rcases (show j = 0 ∨ j = 1 ∨ j = 2 ∨ j = 3 ∨ j = 4 ∨ j = 5 ∨ j = 6 ∨ j = 7 ∨ j = 8 ∨ j = 9 by omega) with rfl | rfl | rfl | rfl | rfl | rfl | rfl | rfl | rfl | rfl <;> rfl) (by first | decide | omega) (by first | decide | omega) dX5_joined_6 (fun q6 H eq6 hP hS => ?_)
    have n_q6_sq : sq ≠ q6 := qne_of eq6 fsq
    replace fsq := qle_new (o := (.inr (5, [.long 0, .int 0, .int 0, .long 0, .int 0, .null, .null, .null, .int 0, .null]))) eq6 _ _ fsq
    have hb_q6 := hle
    have oq6 := qle_none hle eq6
    replace hle := qle_tr hle (qle_new (o := (.inr (5, [.long 0, .int 0, .int 0, .long 0, .int 0, .null, .null, .null, .int 0, .null]))) eq6)
    have fq6 : (qs h q6 (.inr (5, [.long 0, .int 0, .int 0, .long 0, .int 0, .null, .null, .null, .int 0, .null]))) q6 = some (.inr (5, [.long 0, .int 0, .int 0, .long 0, .int 0, .null, .null, .null, .int 0, .null])) := qs_self
    refine lv_dup hx hb dX5_joined_9 rfl ?_
    refine lv_aload_n hx hb dX5_joined_10 rfl (lv_at hl 0 rfl) ?_
    refine q_get C hP fsq rfl inX5 0 (by decide) g535 rfl dX5_joined_11 ?_
    refine lv_bipush (v := 6) hx hb dX5_joined_14 (by decide) ?_
    refine q_callI (rest := [.ref q6]) C (c_X5_init l D cy N0 (qs h q6 (.inr (5, [.long 0, .int 0, .int 0, .long 0, .int 0, .null, .null, .null, .int 0, .null]))) q6 x1 6 fq6) kX5_init g531 g532 rfl hP hS (by first | decide | omega) hl.1 rfl (by simp [q_catrf, q_cati, q_catl, q_cata, q_catn]) (by first | decide | omega) dX5_joined_16 (fun v hh1 H locs hq hP hS => ?_)
    obtain ⟨rfl, rfl⟩ := hq
    rw [qs_qs] at hP
    replace fsq := qs_re (o' := (.inr (5, [.long x1, .int 6, .int 0, .long 0, .int 0, .null, .null, .null, .int 0, .null]))) n_q6_sq fsq
    replace hle : qle h (qs h q6 (.inr (5, [.long x1, .int 6, .int 0, .long 0, .int 0, .null, .null, .null, .int 0, .null]))) := qle_set oq6 hb_q6
    replace fq6 : (qs h q6 (.inr (5, [.long x1, .int 6, .int 0, .long 0, .int 0, .null, .null, .null, .int 0, .null]))) q6 = some (.inr (5, [.long x1, .int 6, .int 0, .long 0, .int 0, .null, .null, .null, .int 0, .null])) := qs_self
    refine lv_astore_n (lv' := [(2, .ref q6), (0, .ref sq), (1, va_rf br)]) hx hb dX5_joined_19 rfl hl (by decide) (by cases br <;> rfl) (fun ls hl => ?_)
    refine lv_aload_n hx hb dX5_joined_20 rfl (lv_at hl 0 rfl) ?_
    refine lv_aload_n hx hb dX5_joined_21 rfl (lv_at hl 1 rfl) ?_
    refine q_put C hP hS fq6 rfl inX5 tyX5 tyX5_ok nmX5 5 (by decide) g545 rfl rfl rfl (Nat.le_of_ble_eq_true rfl) dX5_joined_22 (fun H locs hP hS => ?_)
    rw [qs_qs] at hP
    replace fsq := qs_re (o' := (.inr (5, [.long x1, .int 6, .int 0, .long 0, .int 0, .ref sq, .null, .null, .int 0, .null]))) n_q6_sq fsq
    replace hle : qle h (qs h q6 (.inr (5, [.long x1, .int 6, .int 0, .long 0, .int 0, .ref sq, .null, .null, .int 0, .null]))) := qle_set oq6 hb_q6
    replace fq6 : (qs h q6 (.inr (5, [.long x1, .int 6, .int 0, .long 0, .int 0, .ref sq, .null, .null, .int 0, .null]))) q6 = some (.inr (5, [.long x1, .int 6, .int 0, .long 0, .int 0, .ref sq, .null, .null, .int 0, .null])) := qs_self
    replace hP : qP D N0 (qs h q6 (.inr (5, [.long x1, .int 6, .int 0, .long 0, .int 0, .ref sq, .null, .null, .int 0, .null]))) H := hP
    refine lv_aload_n hx hb dX5_joined_25 rfl (lv_at hl 0 rfl) ?_
    refine q_aload_n hx hb dX5_joined_26 rfl (lv_at hl 2 rfl) ?_
    refine q_put C hP hS fq6 rfl inX5 tyX5 tyX5_ok nmX5 6 (by decide) g547 rfl (q_narf _) (q_firf _) (Nat.le_of_ble_eq_true rfl) dX5_joined_27 (fun H locs hP hS => ?_)
    rw [qs_qs] at hP
    replace fsq := qs_re (o' := (.inr (5, [.long x1, .int 6, .int 0, .long 0, .int 0, .ref sq, va_rf br, .null, .int 0, .null]))) n_q6_sq fsq
    replace hle : qle h (qs h q6 (.inr (5, [.long x1, .int 6, .int 0, .long 0, .int 0, .ref sq, va_rf br, .null, .int 0, .null]))) := qle_set oq6 hb_q6
    replace fq6 : (qs h q6 (.inr (5, [.long x1, .int 6, .int 0, .long 0, .int 0, .ref sq, va_rf br, .null, .int 0, .null]))) q6 = some (.inr (5, [.long x1, .int 6, .int 0, .long 0, .int 0, .ref sq, va_rf br, .null, .int 0, .null])) := qs_self
    replace hP : qP D N0 (qs h q6 (.inr (5, [.long x1, .int 6, .int 0, .long 0, .int 0, .ref sq, va_rf br, .null, .int 0, .null]))) H := hP
    refine lv_aload_n hx hb dX5_joined_30 rfl (lv_at hl 0 rfl) ?_
    exact q_aret (v := some q6) C (Or.inl ⟨_, rfl⟩) hP hS (Or.inr ⟨sq, q6, rfl, rfl, oq6, rfl⟩) (by omega) dX5_joined_31
