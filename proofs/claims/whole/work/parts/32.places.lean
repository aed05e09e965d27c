theorem qBr.to {h : qH} {n m : Nat} {r : Option Nat} {L : qKV} (hb : qBr h n r L) (e : n = m) : qBr h m r L := e ▸ hb
theorem dX0_branchAt_0 : decode cX0_branchAt 0 = .ok (.aload_n 0, 1) := by decide +kernel
theorem dX0_branchAt_1 : decode cX0_branchAt 1 = .ok (.astore_n 2, 1) := by decide +kernel
theorem dX0_branchAt_2 : decode cX0_branchAt 2 = .ok (.iload_n 1, 1) := by decide +kernel
theorem dX0_branchAt_3 : decode cX0_branchAt 3 = .ok (.istore_n 3, 1) := by decide +kernel
theorem dX0_branchAt_4 : decode cX0_branchAt 4 = .ok (.aload_n 2, 1) := by decide +kernel
theorem dX0_branchAt_5 : decode cX0_branchAt 5 = .ok (.ifnull 49, 3) := by decide +kernel
theorem dX0_branchAt_8 : decode cX0_branchAt 8 = .ok (.aload_n 2, 1) := by decide +kernel
theorem dX0_branchAt_9 : decode cX0_branchAt 9 = .ok (.getfield 7, 3) := by decide +kernel
theorem dX0_branchAt_12 : decode cX0_branchAt 12 = .ok (.invokestatic 57, 3) := by decide +kernel
theorem dX0_branchAt_15 : decode cX0_branchAt 15 = .ok (.istore 4, 2) := by decide +kernel
theorem dX0_branchAt_17 : decode cX0_branchAt 17 = .ok (.iload_n 3, 1) := by decide +kernel
theorem dX0_branchAt_18 : decode cX0_branchAt 18 = .ok (.iload 4, 2) := by decide +kernel
theorem dX0_branchAt_20 : decode cX0_branchAt 20 = .ok (.if_icmp .ne 5, 3) := by decide +kernel
theorem dX0_branchAt_23 : decode cX0_branchAt 23 = .ok (.aload_n 2, 1) := by decide +kernel
theorem dX0_branchAt_24 : decode cX0_branchAt 24 = .ok (.areturn, 1) := by decide +kernel
theorem dX0_branchAt_25 : decode cX0_branchAt 25 = .ok (.iload_n 3, 1) := by decide +kernel
theorem dX0_branchAt_26 : decode cX0_branchAt 26 = .ok (.iload 4, 2) := by decide +kernel
theorem dX0_branchAt_28 : decode cX0_branchAt 28 = .ok (.if_icmp .ge 11, 3) := by decide +kernel
theorem dX0_branchAt_31 : decode cX0_branchAt 31 = .ok (.aload_n 2, 1) := by decide +kernel
theorem dX0_branchAt_32 : decode cX0_branchAt 32 = .ok (.getfield 7, 3) := by decide +kernel
theorem dX0_branchAt_35 : decode cX0_branchAt 35 = .ok (.astore_n 2, 1) := by decide +kernel
theorem dX0_branchAt_36 : decode cX0_branchAt 36 = .ok (.goto 15, 3) := by decide +kernel
theorem dX0_branchAt_39 : decode cX0_branchAt 39 = .ok (.aload_n 2, 1) := by decide +kernel
theorem dX0_branchAt_40 : decode cX0_branchAt 40 = .ok (.getfield 20, 3) := by decide +kernel
theorem dX0_branchAt_43 : decode cX0_branchAt 43 = .ok (.astore_n 2, 1) := by decide +kernel
theorem dX0_branchAt_44 : decode cX0_branchAt 44 = .ok (.iload_n 3, 1) := by decide +kernel
theorem dX0_branchAt_45 : decode cX0_branchAt 45 = .ok (.iload 4, 2) := by decide +kernel
theorem dX0_branchAt_47 : decode cX0_branchAt 47 = .ok (.iconst 1, 1) := by decide +kernel
theorem dX0_branchAt_48 : decode cX0_branchAt 48 = .ok (.iadd, 1) := by decide +kernel
theorem dX0_branchAt_49 : decode cX0_branchAt 49 = .ok (.isub, 1) := by decide +kernel
theorem dX0_branchAt_50 : decode cX0_branchAt 50 = .ok (.istore_n 3, 1) := by decide +kernel
theorem dX0_branchAt_51 : decode cX0_branchAt 51 = .ok (.goto (-47), 3) := by decide +kernel
theorem dX0_branchAt_54 : decode cX0_branchAt 54 = .ok (.aconst_null, 1) := by decide +kernel
theorem dX0_branchAt_55 : decode cX0_branchAt 55 = .ok (.areturn, 1) := by decide +kernel
set_option maxRecDepth 100000 in
set_option maxHeartbeats 4000000 in
theorem c_X0_branchAt (l : Launch) (D : va_G) (cy : Nat → ClassId) (N0 : Nat) (h : qH) (x : Option Nat) (n : Nat) (A : qKV) (i0 : Int32) (hA : qBr h n x A) (hL : A.length < 1000000) : qC l D cy N0 yX0_branchAt cX0_branchAt 5 (some (.object RX0)) 1 20 0 0 [va_rf x, .int i0] h (fun v h' => ∃ r9, v = some (va_rf r9) ∧ h = h' ∧ qAt h A i0 r9) (fun E h' => False) := by
  refine q_ofW (by decide) (by simp [lg_sl, q_catrf, q_cati, q_catl, q_cata, q_catn]) ?_
  intro p e s m below meth c ls C hP hl
  have hx := C.1
  have hb := C.2.1
  have hS : va_S (qA N0) s.heap s.heap [] := va_S.rf
  have hl : lv_has ls 5 [(0, va_rf x), (1, .int i0)] := by simpa [lv_args, q_catrf, q_cati, q_catl, q_cata, q_catn] using hl
  have hle : qle h h := qle_rf
  refine q_aload_n hx hb dX0_branchAt_0 rfl (lv_at hl 0 rfl) ?_
  refine q_astore_n (lv' := [(2, va_rf x), (0, va_rf x), (1, .int i0)]) hx hb dX0_branchAt_1 rfl hl (by decide) rfl (fun ls hl => ?_)
  refine lv_iload_n hx hb dX0_branchAt_2 rfl (lv_at hl 2 rfl) ?_
  refine lv_istore_n (lv' := [(3, .int i0), (2, va_rf x), (0, va_rf x), (1, .int i0)]) hx hb dX0_branchAt_3 rfl hl (by decide) (by cases x <;> rfl) (fun ls hl => ?_)
  refine (?_ : ∀ (t : Nat) (H : Heap) (locs : List Loc) (ls : Array Slot) (r : Option Nat) (q : Int32) (L1 : qKV) (n1 : Nat), n1 < t → qBr h n1 r L1 → L1.length < 1000000 → lv_has ls 5 [(3, .int q), (2, va_rf r)] → (∀ r9, qAt h L1 q r9 → qAt h A i0 r9) → qP D N0 h H → va_S (qA N0) s.heap H locs → W p l e _ s m _ below meth c H locs 0 0 _ (F0 m 4 ls [])) _ s.heap [] ls x i0 A n (Nat.lt_succ_self _) hA hL (lv_sub hl [0, 1] rfl) (fun _ z => z) hP hS
  clear hl hP hS
  intro t
  induction t with
  | zero => intro H locs ls r q L1 n1 ht; exact absurd ht (Nat.not_lt_zero _)
  | succ t ihl =>
    intro H locs ls r q L1 n1 ht hb1 hL1 hl kk hP hS
    rcases hb1.inv with ⟨rfl, rfl, rfl⟩ | ⟨a1, l1, k1, v1, r1, i1, j1, A1, B1, rfl, f1, hl1, hr1, rfl, hg11, hg12, hg13, hg14, hg15, hg16⟩
    · refine lv_aload_nN hx hb dX0_branchAt_4 rfl (lv_at hl 1 rfl) ?_
      refine lv_ifnullN (tgt := 54) hx hb dX0_branchAt_5 (by decide) ?_
      refine lv_null hx hb dX0_branchAt_54 ?_
      exact q_aret (v := none) C (Or.inl ⟨_, rfl⟩) hP hS ⟨none, rfl, rfl, kk _ qAt.nil⟩ (by omega) dX0_branchAt_55
    · have zl1 := hl1.len
      have zr1 := hr1.len
      have eL1 : (A1 ++ (k1, v1) :: B1).length = A1.length + (B1.length + 1) := by rw [List.length_append, List.length_cons]
      simp only [List.length_append, List.length_cons, List.length_nil] at hL1
      refine lv_aload_n hx hb dX0_branchAt_4 rfl (lv_at hl 1 rfl) ?_
      refine lv_ifnull hx hb dX0_branchAt_5 ?_
      refine lv_aload_n hx hb dX0_branchAt_8 rfl (lv_at hl 1 rfl) ?_
      refine q_get C hP f1 rfl inX0 0 (by decide) g491 rfl dX0_branchAt_9 ?_
      refine q_callS (rest := []) C (c_X0_sizeOf l D cy N0 h l1 (nI (A1.length)) hl1.fiS) kX0_sizeOf g594 g227 hP hS (by first | decide | omega) hl.1 rfl (by decide) (by first | decide | omega) dX0_branchAt_12 (fun q ce E h' H1 locs1 hE => hE.elim) (fun v hh1 H locs hq hP hS => ?_)
      obtain ⟨rfl, rfl⟩ := hq
      refine lv_istore (lv' := [(4, .int (nI (A1.length))), (3, .int q), (2, .ref a1)]) hx hb dX0_branchAt_15 hl (by decide) rfl (fun ls hl => ?_)
      refine lv_iload_n hx hb dX0_branchAt_17 rfl (lv_at hl 1 rfl) ?_
      refine lv_iload hx hb dX0_branchAt_18 (lv_at hl 0 rfl) ?_
      refine lv_icmp_ne (tgt := 25) hx hb dX0_branchAt_20 (by decide) (fun c20 => ?_) (fun c20 => ?_)
      · refine lv_iload_n hx hb dX0_branchAt_25 rfl (lv_at hl 1 rfl) ?_
        refine lv_iload hx hb dX0_branchAt_26 (lv_at hl 0 rfl) ?_
        refine lv_icmp_ge (tgt := 39) hx hb dX0_branchAt_28 (by decide) (fun c28 => ?_) (fun c28 => ?_)
        · obtain ⟨Q, hQ, rfl⟩ : ∃ Q : Nat, Q < 2 ^ 31 ∧ q = nI Q := nI_of (fun z => Int32.lt_irrefl (Int32.lt_of_le_of_lt (Int32.le_trans (nI_pos' (n := A1.length) (by omega)) c28) z))
          have hQ1 : A1.length < Q := by
            have z1 := (nI_leI (a := A1.length) (b := Q) (by omega) hQ).mp c28
            have z2 : A1.length ≠ Q := fun z => c20 (by rw [z])
            omega
          refine lv_aload_n hx hb dX0_branchAt_39 rfl (lv_at hl 2 rfl) ?_
          refine q_get C hP f1 rfl inX0 3 (by decide) g497 rfl dX0_branchAt_40 ?_
          refine q_astore_n (lv' := [(2, va_rf r1), (4, .int (nI (A1.length))), (3, .int (nI Q))]) hx hb dX0_branchAt_43 rfl hl (by decide) rfl (fun ls hl => ?_)
          refine lv_iload_n hx hb dX0_branchAt_44 rfl (lv_at hl 2 rfl) ?_
          refine lv_iload hx hb dX0_branchAt_45 (lv_at hl 1 rfl) ?_
          refine lv_iconst (v := nI 1) hx hb dX0_branchAt_47 (by decide) ?_
          refine q_iaddN hx hb dX0_branchAt_48 ?_
          refine q_isubN hx hb dX0_branchAt_49 (by omega) ?_
          refine lv_istore_n (lv' := [(3, .int (nI (Q - ((A1.length) + 1)))), (2, va_rf r1), (4, .int (nI (A1.length)))]) hx hb dX0_branchAt_50 rfl hl (by decide) (by cases r1 <;> rfl) (fun ls hl => ?_)
          refine lv_goto (tgt := 4) hx hb dX0_branchAt_51 (by decide) ?_
          exact ihl H locs ls r1 (nI (Q - ((A1.length) + 1))) B1 j1 (by omega) hr1 (by omega) (lv_sub hl [0, 1] rfl) (fun r9 z => kk r9 (qAt.right (by omega) hQ1 hQ z)) hP hS
        · refine lv_aload_n hx hb dX0_branchAt_31 rfl (lv_at hl 2 rfl) ?_
          refine q_get C hP f1 rfl inX0 0 (by decide) g491 rfl dX0_branchAt_32 ?_
          refine q_astore_n (lv' := [(2, va_rf l1), (4, .int (nI (A1.length))), (3, .int q)]) hx hb dX0_branchAt_35 rfl hl (by decide) rfl (fun ls hl => ?_)
          refine lv_goto (tgt := 51) hx hb dX0_branchAt_36 (by decide) ?_
          refine lv_goto (tgt := 4) hx hb dX0_branchAt_51 (by decide) ?_
          exact ihl H locs ls l1 q A1 i1 (by omega) hl1 (by omega) (lv_sub hl [2, 0] rfl) (fun r9 z => kk r9 (qAt.left (by omega) c28 z)) hP hS
      · refine lv_aload_n hx hb dX0_branchAt_23 rfl (lv_at hl 2 rfl) ?_
        exact q_aret (v := (some a1)) C (Or.inl ⟨_, rfl⟩) hP hS ⟨(some a1), rfl, rfl, kk _ (by rw [c20]; exact qAt.here f1)⟩ (by omega) dX0_branchAt_24

theorem dX0_firstOf_0 : decode cX0_firstOf 0 = .ok (.aload_n 0, 1) := by decide +kernel
theorem dX0_firstOf_1 : decode cX0_firstOf 1 = .ok (.ifnull 7, 3) := by decide +kernel
theorem dX0_firstOf_4 : decode cX0_firstOf 4 = .ok (.iload_n 1, 1) := by decide +kernel
theorem dX0_firstOf_5 : decode cX0_firstOf 5 = .ok (.ifCond .gt 5, 3) := by decide +kernel
theorem dX0_firstOf_8 : decode cX0_firstOf 8 = .ok (.aconst_null, 1) := by decide +kernel
theorem dX0_firstOf_9 : decode cX0_firstOf 9 = .ok (.areturn, 1) := by decide +kernel
theorem dX0_firstOf_10 : decode cX0_firstOf 10 = .ok (.iload_n 1, 1) := by decide +kernel
theorem dX0_firstOf_11 : decode cX0_firstOf 11 = .ok (.aload_n 0, 1) := by decide +kernel
theorem dX0_firstOf_12 : decode cX0_firstOf 12 = .ok (.getfield 27, 3) := by decide +kernel
theorem dX0_firstOf_15 : decode cX0_firstOf 15 = .ok (.if_icmp .lt 5, 3) := by decide +kernel
theorem dX0_firstOf_18 : decode cX0_firstOf 18 = .ok (.aload_n 0, 1) := by decide +kernel
theorem dX0_firstOf_19 : decode cX0_firstOf 19 = .ok (.areturn, 1) := by decide +kernel
theorem dX0_firstOf_20 : decode cX0_firstOf 20 = .ok (.aload_n 0, 1) := by decide +kernel
theorem dX0_firstOf_21 : decode cX0_firstOf 21 = .ok (.getfield 7, 3) := by decide +kernel
theorem dX0_firstOf_24 : decode cX0_firstOf 24 = .ok (.invokestatic 57, 3) := by decide +kernel
theorem dX0_firstOf_27 : decode cX0_firstOf 27 = .ok (.istore_n 2, 1) := by decide +kernel
theorem dX0_firstOf_28 : decode cX0_firstOf 28 = .ok (.iload_n 1, 1) := by decide +kernel
theorem dX0_firstOf_29 : decode cX0_firstOf 29 = .ok (.iload_n 2, 1) := by decide +kernel
theorem dX0_firstOf_30 : decode cX0_firstOf 30 = .ok (.if_icmp .gt 12, 3) := by decide +kernel
theorem dX0_firstOf_33 : decode cX0_firstOf 33 = .ok (.aload_n 0, 1) := by decide +kernel
theorem dX0_firstOf_34 : decode cX0_firstOf 34 = .ok (.getfield 7, 3) := by decide +kernel
theorem dX0_firstOf_37 : decode cX0_firstOf 37 = .ok (.iload_n 1, 1) := by decide +kernel
theorem dX0_firstOf_38 : decode cX0_firstOf 38 = .ok (.invokestatic 60, 3) := by decide +kernel
theorem dX0_firstOf_41 : decode cX0_firstOf 41 = .ok (.areturn, 1) := by decide +kernel
theorem dX0_firstOf_42 : decode cX0_firstOf 42 = .ok (.aload_n 0, 1) := by decide +kernel
theorem dX0_firstOf_43 : decode cX0_firstOf 43 = .ok (.getfield 7, 3) := by decide +kernel
theorem dX0_firstOf_46 : decode cX0_firstOf 46 = .ok (.aload_n 0, 1) := by decide +kernel
theorem dX0_firstOf_47 : decode cX0_firstOf 47 = .ok (.getfield 13, 3) := by decide +kernel
theorem dX0_firstOf_50 : decode cX0_firstOf 50 = .ok (.aload_n 0, 1) := by decide +kernel
theorem dX0_firstOf_51 : decode cX0_firstOf 51 = .ok (.getfield 17, 3) := by decide +kernel
theorem dX0_firstOf_54 : decode cX0_firstOf 54 = .ok (.aload_n 0, 1) := by decide +kernel
theorem dX0_firstOf_55 : decode cX0_firstOf 55 = .ok (.getfield 20, 3) := by decide +kernel
theorem dX0_firstOf_58 : decode cX0_firstOf 58 = .ok (.iload_n 1, 1) := by decide +kernel
theorem dX0_firstOf_59 : decode cX0_firstOf 59 = .ok (.iload_n 2, 1) := by decide +kernel
theorem dX0_firstOf_60 : decode cX0_firstOf 60 = .ok (.isub, 1) := by decide +kernel
theorem dX0_firstOf_61 : decode cX0_firstOf 61 = .ok (.iconst 1, 1) := by decide +kernel
theorem dX0_firstOf_62 : decode cX0_firstOf 62 = .ok (.isub, 1) := by decide +kernel
theorem dX0_firstOf_63 : decode cX0_firstOf 63 = .ok (.invokestatic 60, 3) := by decide +kernel
theorem dX0_firstOf_66 : decode cX0_firstOf 66 = .ok (.invokestatic 34, 3) := by decide +kernel
theorem dX0_firstOf_69 : decode cX0_firstOf 69 = .ok (.areturn, 1) := by decide +kernel
set_option maxRecDepth 100000 in
set_option maxHeartbeats 4000000 in
theorem c_X0_firstOf (l : Launch) (D : va_G) (cy : Nat → ClassId) (N0 : Nat) (s : Nat) : ∀ (h : qH) (x : Option Nat) (n : Nat) (A : qKV) (q : Nat) (hA : qBr h n x A) (hL : A.length < 1000000) (hq9 : q < 2 ^ 31) (hs : n < s), qC l D cy N0 yX0_firstOf cX0_firstOf 3 (some (.object RX0)) (5 + 2 * n) (117 + 47 * n) (qTc n) (6 * qTc n) [va_rf x, .int (nI q)] h (fun v h' => ∃ (r9 : Option Nat) (n9 : Nat), v = some (va_rf r9) ∧ qle h h' ∧ qBr h' n9 r9 (A.take q) ∧ n9 ≤ n) (fun E h' => False) := by
  induction s with
  | zero => intro h x n A q hA hL hq9 hs; exact absurd hs (Nat.not_lt_zero _)
  | succ s ih =>
    intro h x n A q hA hL hq9 hs
    refine q_ofW (by decide) (by simp [lg_sl, q_catrf, q_cati, q_catl, q_cata, q_catn]) ?_
    intro p e s m below meth c ls C hP hl
    have hx := C.1
    have hb := C.2.1
    have hS : va_S (qA N0) s.heap s.heap [] := va_S.rf
    have hl : lv_has ls 3 [(0, va_rf x), (1, .int (nI q))] := by simpa [lv_args, q_catrf, q_cati, q_catl, q_cata, q_catn] using hl
    have hle : qle h h := qle_rf
    rcases hA.inv with ⟨rfl, rfl, rfl⟩ | ⟨a1, l1, k1, v1, r1, i1, j1, A1, B1, rfl, f1, hl1, hr1, rfl, hg11, hg12, hg13, hg14, hg15, hg16⟩
    · refine lv_aload_nN hx hb dX0_firstOf_0 rfl (lv_at hl 0 rfl) ?_
      refine lv_ifnullN (tgt := 8) hx hb dX0_firstOf_1 (by decide) ?_
      refine lv_null hx hb dX0_firstOf_8 ?_
      exact q_aret (v := none) C (Or.inl ⟨_, rfl⟩) hP hS ⟨none, 0, rfl, hle, by first | (rw [qtk_z (by first | omega | (simp only [List.length_append, List.length_cons, List.length_nil]; omega))]; exact qBr.nil) | (rw [qtk_all (by first | omega | (simp only [List.length_append, List.length_cons, List.length_nil]; omega))]; exact qBr.nil) | (rw [qtk_l (by first | omega | (simp only [List.length_append, List.length_cons, List.length_nil]; omega))]; exact qBr.nil) | (rw [qtk_r (by first | omega | (simp only [List.length_append, List.length_cons, List.length_nil]; omega))]; exact qBr.nil), by omega⟩ (by omega) dX0_firstOf_9
    · have zl1 := hl1.len
      have zr1 := hr1.len
      have eL1 : (A1 ++ (k1, v1) :: B1).length = A1.length + (B1.length + 1) := by rw [List.length_append, List.length_cons]
      simp only [List.length_append, List.length_cons, List.length_nil] at hL
      have tl := qTc_step hg11
      have tr := qTc_step hg12
      refine lv_aload_n hx hb dX0_firstOf_0 rfl (lv_at hl 0 rfl) ?_
      refine lv_ifnull hx hb dX0_firstOf_1 ?_
      refine lv_iload_n hx hb dX0_firstOf_4 rfl (lv_at hl 1 rfl) ?_
      refine lv_if_gt (tgt := 10) hx hb dX0_firstOf_5 (by decide) (fun c5 => ?_) (fun c5 => ?_)
      · replace c5 : 0 < q := (nI_ltI (a := 0) (b := q) (by omega) (by omega)).mp c5
        refine lv_iload_n hx hb dX0_firstOf_10 rfl (lv_at hl 1 rfl) ?_
        refine lv_aload_n hx hb dX0_firstOf_11 rfl (lv_at hl 0 rfl) ?_
        refine q_get C hP f1 rfl inX0 5 (by decide) g499 rfl dX0_firstOf_12 ?_
        refine lv_icmp_lt (tgt := 20) hx hb dX0_firstOf_15 (by decide) (fun c15 => ?_) (fun c15 => ?_)
        · replace c15 : q < (A1.length + 1 + B1.length) := (nI_ltI (a := q) (b := (A1.length + 1 + B1.length)) (by omega) (by omega)).mp c15
          refine lv_aload_n hx hb dX0_firstOf_20 rfl (lv_at hl 0 rfl) ?_
          refine q_get C hP f1 rfl inX0 0 (by decide) g491 rfl dX0_firstOf_21 ?_
          refine q_callS (rest := []) C (c_X0_sizeOf l D cy N0 h l1 (nI (A1.length)) hl1.fiS) kX0_sizeOf g594 g227 hP hS (by first | decide | omega) hl.1 rfl (by decide) (by first | decide | omega) dX0_firstOf_24 (fun q ce E h' H1 locs1 hE => hE.elim) (fun v hh1 H locs hq hP hS => ?_)
          obtain ⟨rfl, rfl⟩ := hq
          refine lv_istore_n (lv' := [(2, .int (nI (A1.length))), (0, .ref a1), (1, .int (nI q))]) hx hb dX0_firstOf_27 rfl hl (by decide) rfl (fun ls hl => ?_)
          refine lv_iload_n hx hb dX0_firstOf_28 rfl (lv_at hl 2 rfl) ?_
          refine lv_iload_n hx hb dX0_firstOf_29 rfl (lv_at hl 0 rfl) ?_
          refine lv_icmp_gt (tgt := 42) hx hb dX0_firstOf_30 (by decide) (fun c30 => ?_) (fun c30 => ?_)
          · replace c30 : (A1.length) < q := (nI_ltI (a := (A1.length)) (b := q) (by omega) (by omega)).mp c30
            refine lv_aload_n hx hb dX0_firstOf_42 rfl (lv_at hl 1 rfl) ?_
            refine q_get C hP f1 rfl inX0 0 (by decide) g491 rfl dX0_firstOf_43 ?_
            refine lv_aload_n hx hb dX0_firstOf_46 rfl (lv_at hl 1 rfl) ?_
            refine q_get C hP f1 rfl inX0 1 (by decide) g492 rfl dX0_firstOf_47 ?_
            refine lv_aload_n hx hb dX0_firstOf_50 rfl (lv_at hl 1 rfl) ?_
            refine q_get C hP f1 rfl inX0 2 (by decide) g494 rfl dX0_firstOf_51 ?_
            refine lv_aload_n hx hb dX0_firstOf_54 rfl (lv_at hl 1 rfl) ?_
            refine q_get C hP f1 rfl inX0 3 (by decide) g497 rfl dX0_firstOf_55 ?_
            refine lv_iload_n hx hb dX0_firstOf_58 rfl (lv_at hl 2 rfl) ?_
            refine lv_iload_n hx hb dX0_firstOf_59 rfl (lv_at hl 0 rfl) ?_
            refine q_isubN hx hb dX0_firstOf_60 (by omega) ?_
            refine lv_iconst (v := nI 1) hx hb dX0_firstOf_61 (by decide) ?_
            refine q_isubN hx hb dX0_firstOf_62 (by omega) ?_
            refine q_callS (rest := [.long v1, .long k1, va_rf l1]) C (ih h r1 j1 B1 ((q - (A1.length)) - 1) hr1 (by omega) (by omega) (by omega)) kX0_firstOf g731 g729 hP hS (by first | decide | omega) hl.1 rfl (by simp [q_catrf, q_cati, q_catl, q_cata, q_catn]) (by first | decide | omega) dX0_firstOf_63 (fun q ce E h' H1 locs1 hE => hE.elim) (fun v hh2 H locs hq hP hS => ?_)
            obtain ⟨r63, n63, rfl, hl63, b63, w63⟩ := hq
            replace f1 := hl63 _ _ f1
            replace hA := hA.le hl63
            replace hl1 := hl1.le hl63
            replace hr1 := hr1.le hl63
            replace hle := qle_tr hle hl63
            have z63 := b63.len
            try simp only [List.length_append, List.length_cons, List.length_nil] at z63
            try simp only [List.length_take] at z63
            refine q_callS (rest := []) C (c_X0_linked l D cy N0 _ hh2 l1 k1 v1 r63 i1 n63 A1 (List.take ((q - (A1.length)) - 1) B1) hl1 b63 (by first | omega | (simp only [List.length_append, List.length_cons, List.length_nil, List.length_take, List.length_drop, List.length_set]; omega)) (Nat.lt_succ_self _)) kX0_linked g478 g473 hP hS (by first | decide | omega) hl.1 rfl (by decide) (by first | decide | omega) dX0_firstOf_66 (fun q ce E h' H1 locs1 hE => hE.elim) (fun v hh3 H locs hq hP hS => ?_)
            obtain ⟨r64, n64, rfl, hl64, b64, y64, w64, u64, m64⟩ := hq
            replace f1 := hl64 _ _ f1
            replace hA := hA.le hl64
            replace hl1 := hl1.le hl64
            replace hr1 := hr1.le hl64
            replace b63 := b63.le hl64
            replace hle := qle_tr hle hl64
            have z64 := b64.len
            try simp only [List.length_append, List.length_cons, List.length_nil] at z64
            exact q_aret (v := r64) C (Or.inl ⟨_, rfl⟩) hP hS ⟨r64, n64, rfl, hle, by first | (rw [qtk_z (by first | omega | (simp only [List.length_append, List.length_cons, List.length_nil]; omega))]; exact b64) | (rw [qtk_all (by first | omega | (simp only [List.length_append, List.length_cons, List.length_nil]; omega))]; exact b64) | (rw [qtk_l (by first | omega | (simp only [List.length_append, List.length_cons, List.length_nil]; omega))]; exact b64) | (rw [qtk_r (by first | omega | (simp only [List.length_append, List.length_cons, List.length_nil]; omega))]; exact b64), by omega⟩ (by omega) dX0_firstOf_69
          · replace c30 : ¬ (A1.length) < q := fun zq => c30 ((nI_ltI (a := (A1.length)) (b := q) (by omega) (by omega)).mpr zq)
            refine lv_aload_n hx hb dX0_firstOf_33 rfl (lv_at hl 1 rfl) ?_
            refine q_get C hP f1 rfl inX0 0 (by decide) g491 rfl dX0_firstOf_34 ?_
            refine lv_iload_n hx hb dX0_firstOf_37 rfl (lv_at hl 2 rfl) ?_
            refine q_callS (rest := []) C (ih h l1 i1 A1 q hl1 (by omega) (by omega) (by omega)) kX0_firstOf g731 g729 hP hS (by first | decide | omega) hl.1 rfl (by decide) (by first | decide | omega) dX0_firstOf_38 (fun q ce E h' H1 locs1 hE => hE.elim) (fun v hh4 H locs hq hP hS => ?_)
            obtain ⟨r65, n65, rfl, hl65, b65, w65⟩ := hq
            replace f1 := hl65 _ _ f1
            replace hA := hA.le hl65
            replace hl1 := hl1.le hl65
            replace hr1 := hr1.le hl65
            replace hle := qle_tr hle hl65
            have z65 := b65.len
            try simp only [List.length_append, List.length_cons, List.length_nil] at z65
            try simp only [List.length_take] at z65
            exact q_aret (v := r65) C (Or.inl ⟨_, rfl⟩) hP hS ⟨r65, n65, rfl, hle, by first | (rw [qtk_z (by first | omega | (simp only [List.length_append, List.length_cons, List.length_nil]; omega))]; exact b65) | (rw [qtk_all (by first | omega | (simp only [List.length_append, List.length_cons, List.length_nil]; omega))]; exact b65) | (rw [qtk_l (by first | omega | (simp only [List.length_append, List.length_cons, List.length_nil]; omega))]; exact b65) | (rw [qtk_r (by first | omega | (simp only [List.length_append, List.length_cons, List.length_nil]; omega))]; exact b65), by omega⟩ (by omega) dX0_firstOf_41
        · replace c15 : ¬ q < (A1.length + 1 + B1.length) := fun zq => c15 ((nI_ltI (a := q) (b := (A1.length + 1 + B1.length)) (by omega) (by omega)).mpr zq)
          refine lv_aload_n hx hb dX0_firstOf_18 rfl (lv_at hl 0 rfl) ?_
          exact q_aret (v := (some a1)) C (Or.inl ⟨_, rfl⟩) hP hS ⟨(some a1), n, rfl, hle, by first | (rw [qtk_z (by first | omega | (simp only [List.length_append, List.length_cons, List.length_nil]; omega))]; exact hA) | (rw [qtk_all (by first | omega | (simp only [List.length_append, List.length_cons, List.length_nil]; omega))]; exact hA) | (rw [qtk_l (by first | omega | (simp only [List.length_append, List.length_cons, List.length_nil]; omega))]; exact hA) | (rw [qtk_r (by first | omega | (simp only [List.length_append, List.length_cons, List.length_nil]; omega))]; exact hA), by omega⟩ (by omega) dX0_firstOf_19
      · replace c5 : ¬ 0 < q := fun zq => c5 ((nI_ltI (a := 0) (b := q) (by omega) (by omega)).mpr zq)
        refine lv_null hx hb dX0_firstOf_8 ?_
        exact q_aret (v := none) C (Or.inl ⟨_, rfl⟩) hP hS ⟨none, 0, rfl, hle, by first | (rw [qtk_z (by first | omega | (simp only [List.length_append, List.length_cons, List.length_nil]; omega))]; exact (qBr.nil (h := h))) | (rw [qtk_all (by first | omega | (simp only [List.length_append, List.length_cons, List.length_nil]; omega))]; exact (qBr.nil (h := h))) | (rw [qtk_l (by first | omega | (simp only [List.length_append, List.length_cons, List.length_nil]; omega))]; exact (qBr.nil (h := h))) | (rw [qtk_r (by first | omega | (simp only [List.length_append, List.length_cons, List.length_nil]; omega))]; exact (qBr.nil (h := h))), by omega⟩ (by omega) dX0_firstOf_9

theorem dX0_withoutFirst_0 : decode cX0_withoutFirst 0 = .ok (.aload_n 0, 1) := by decide +kernel
theorem dX0_withoutFirst_1 : decode cX0_withoutFirst 1 = .ok (.ifnull 11, 3) := by decide +kernel
theorem dX0_withoutFirst_4 : decode cX0_withoutFirst 4 = .ok (.iload_n 1, 1) := by decide +kernel
theorem dX0_withoutFirst_5 : decode cX0_withoutFirst 5 = .ok (.aload_n 0, 1) := by decide +kernel
theorem dX0_withoutFirst_6 : decode cX0_withoutFirst 6 = .ok (.getfield 27, 3) := by decide +kernel
theorem dX0_withoutFirst_9 : decode cX0_withoutFirst 9 = .ok (.if_icmp .lt 5, 3) := by decide +kernel
theorem dX0_withoutFirst_12 : decode cX0_withoutFirst 12 = .ok (.aconst_null, 1) := by decide +kernel
theorem dX0_withoutFirst_13 : decode cX0_withoutFirst 13 = .ok (.areturn, 1) := by decide +kernel
theorem dX0_withoutFirst_14 : decode cX0_withoutFirst 14 = .ok (.iload_n 1, 1) := by decide +kernel
theorem dX0_withoutFirst_15 : decode cX0_withoutFirst 15 = .ok (.ifCond .gt 5, 3) := by decide +kernel
theorem dX0_withoutFirst_18 : decode cX0_withoutFirst 18 = .ok (.aload_n 0, 1) := by decide +kernel
theorem dX0_withoutFirst_19 : decode cX0_withoutFirst 19 = .ok (.areturn, 1) := by decide +kernel
theorem dX0_withoutFirst_20 : decode cX0_withoutFirst 20 = .ok (.aload_n 0, 1) := by decide +kernel
theorem dX0_withoutFirst_21 : decode cX0_withoutFirst 21 = .ok (.getfield 7, 3) := by decide +kernel
theorem dX0_withoutFirst_24 : decode cX0_withoutFirst 24 = .ok (.invokestatic 57, 3) := by decide +kernel
theorem dX0_withoutFirst_27 : decode cX0_withoutFirst 27 = .ok (.istore_n 2, 1) := by decide +kernel
theorem dX0_withoutFirst_28 : decode cX0_withoutFirst 28 = .ok (.iload_n 1, 1) := by decide +kernel
theorem dX0_withoutFirst_29 : decode cX0_withoutFirst 29 = .ok (.iload_n 2, 1) := by decide +kernel
theorem dX0_withoutFirst_30 : decode cX0_withoutFirst 30 = .ok (.if_icmp .le 16, 3) := by decide +kernel
theorem dX0_withoutFirst_33 : decode cX0_withoutFirst 33 = .ok (.aload_n 0, 1) := by decide +kernel
theorem dX0_withoutFirst_34 : decode cX0_withoutFirst 34 = .ok (.getfield 20, 3) := by decide +kernel
theorem dX0_withoutFirst_37 : decode cX0_withoutFirst 37 = .ok (.iload_n 1, 1) := by decide +kernel
theorem dX0_withoutFirst_38 : decode cX0_withoutFirst 38 = .ok (.iload_n 2, 1) := by decide +kernel
theorem dX0_withoutFirst_39 : decode cX0_withoutFirst 39 = .ok (.isub, 1) := by decide +kernel
theorem dX0_withoutFirst_40 : decode cX0_withoutFirst 40 = .ok (.iconst 1, 1) := by decide +kernel
theorem dX0_withoutFirst_41 : decode cX0_withoutFirst 41 = .ok (.isub, 1) := by decide +kernel
theorem dX0_withoutFirst_42 : decode cX0_withoutFirst 42 = .ok (.invokestatic 54, 3) := by decide +kernel
theorem dX0_withoutFirst_45 : decode cX0_withoutFirst 45 = .ok (.areturn, 1) := by decide +kernel
theorem dX0_withoutFirst_46 : decode cX0_withoutFirst 46 = .ok (.aload_n 0, 1) := by decide +kernel
theorem dX0_withoutFirst_47 : decode cX0_withoutFirst 47 = .ok (.getfield 7, 3) := by decide +kernel
theorem dX0_withoutFirst_50 : decode cX0_withoutFirst 50 = .ok (.iload_n 1, 1) := by decide +kernel
theorem dX0_withoutFirst_51 : decode cX0_withoutFirst 51 = .ok (.invokestatic 54, 3) := by decide +kernel
theorem dX0_withoutFirst_54 : decode cX0_withoutFirst 54 = .ok (.aload_n 0, 1) := by decide +kernel
theorem dX0_withoutFirst_55 : decode cX0_withoutFirst 55 = .ok (.getfield 13, 3) := by decide +kernel
theorem dX0_withoutFirst_58 : decode cX0_withoutFirst 58 = .ok (.aload_n 0, 1) := by decide +kernel
theorem dX0_withoutFirst_59 : decode cX0_withoutFirst 59 = .ok (.getfield 17, 3) := by decide +kernel
theorem dX0_withoutFirst_62 : decode cX0_withoutFirst 62 = .ok (.aload_n 0, 1) := by decide +kernel
theorem dX0_withoutFirst_63 : decode cX0_withoutFirst 63 = .ok (.getfield 20, 3) := by decide +kernel
theorem dX0_withoutFirst_66 : decode cX0_withoutFirst 66 = .ok (.invokestatic 34, 3) := by decide +kernel
theorem dX0_withoutFirst_69 : decode cX0_withoutFirst 69 = .ok (.areturn, 1) := by decide +kernel
set_option maxRecDepth 100000 in
set_option maxHeartbeats 4000000 in
theorem c_X0_withoutFirst (l : Launch) (D : va_G) (cy : Nat → ClassId) (N0 : Nat) (s : Nat) : ∀ (h : qH) (x : Option Nat) (n : Nat) (A : qKV) (q : Nat) (hA : qBr h n x A) (hL : A.length < 1000000) (hq9 : q < 2 ^ 31) (hs : n < s), qC l D cy N0 yX0_withoutFirst cX0_withoutFirst 3 (some (.object RX0)) (5 + 2 * n) (117 + 47 * n) (qTc n) (6 * qTc n) [va_rf x, .int (nI q)] h (fun v h' => ∃ (r9 : Option Nat) (n9 : Nat), v = some (va_rf r9) ∧ qle h h' ∧ qBr h' n9 r9 (A.drop q) ∧ n9 ≤ n) (fun E h' => False) := by
  induction s with
  | zero => intro h x n A q hA hL hq9 hs; exact absurd hs (Nat.not_lt_zero _)
  | succ s ih =>
    intro h x n A q hA hL hq9 hs
    refine q_ofW (by decide) (by simp [lg_sl, q_catrf, q_cati, q_catl, q_cata, q_catn]) ?_
    intro p e s m below meth c ls C hP hl
    have hx := C.1
    have hb := C.2.1
    have hS : va_S (qA N0) s.heap s.heap [] := va_S.rf
    have hl : lv_has ls 3 [(0, va_rf x), (1, .int (nI q))] := by simpa [lv_args, q_catrf, q_cati, q_catl, q_cata, q_catn] using hl
    have hle : qle h h := qle_rf
    rcases hA.inv with ⟨rfl, rfl, rfl⟩ | ⟨a1, l1, k1, v1, r1, i1, j1, A1, B1, rfl, f1, hl1, hr1, rfl, hg11, hg12, hg13, hg14, hg15, hg16⟩
    · refine lv_aload_nN hx hb dX0_withoutFirst_0 rfl (lv_at hl 0 rfl) ?_
      refine lv_ifnullN (tgt := 12) hx hb dX0_withoutFirst_1 (by decide) ?_
      refine lv_null hx hb dX0_withoutFirst_12 ?_
      exact q_aret (v := none) C (Or.inl ⟨_, rfl⟩) hP hS ⟨none, 0, rfl, hle, by first | (rw [qdp_z (by first | omega | (simp only [List.length_append, List.length_cons, List.length_nil]; omega))]; exact qBr.nil) | (rw [qdp_all (by first | omega | (simp only [List.length_append, List.length_cons, List.length_nil]; omega))]; exact qBr.nil) | (rw [qdp_l (by first | omega | (simp only [List.length_append, List.length_cons, List.length_nil]; omega))]; exact qBr.nil) | (rw [qdp_r (by first | omega | (simp only [List.length_append, List.length_cons, List.length_nil]; omega))]; exact qBr.nil), by omega⟩ (by omega) dX0_withoutFirst_13
    · have zl1 := hl1.len
      have zr1 := hr1.len
      have eL1 : (A1 ++ (k1, v1) :: B1).length = A1.length + (B1.length + 1) := by rw [List.length_append, List.length_cons]
      simp only [List.length_append, List.length_cons, List.length_nil] at hL
      have tl := qTc_step hg11
      have tr := qTc_step hg12
      refine lv_aload_n hx hb dX0_withoutFirst_0 rfl (lv_at hl 0 rfl) ?_
      refine lv_ifnull hx hb dX0_withoutFirst_1 ?_
      refine lv_iload_n hx hb dX0_withoutFirst_4 rfl (lv_at hl 1 rfl) ?_
      refine lv_aload_n hx hb dX0_withoutFirst_5 rfl (lv_at hl 0 rfl) ?_
      refine q_get C hP f1 rfl inX0 5 (by decide) g499 rfl dX0_withoutFirst_6 ?_
      refine lv_icmp_lt (tgt := 14) hx hb dX0_withoutFirst_9 (by decide) (fun c9 => ?_) (fun c9 => ?_)
      · replace c9 : q < (A1.length + 1 + B1.length) := (nI_ltI (a := q) (b := (A1.length + 1 + B1.length)) (by omega) (by omega)).mp c9
        refine lv_iload_n hx hb dX0_withoutFirst_14 rfl (lv_at hl 1 rfl) ?_
        refine lv_if_gt (tgt := 20) hx hb dX0_withoutFirst_15 (by decide) (fun c15 => ?_) (fun c15 => ?_)
        · replace c15 : 0 < q := (nI_ltI (a := 0) (b := q) (by omega) (by omega)).mp c15
          refine lv_aload_n hx hb dX0_withoutFirst_20 rfl (lv_at hl 0 rfl) ?_
          refine q_get C hP f1 rfl inX0 0 (by decide) g491 rfl dX0_withoutFirst_21 ?_
          refine q_callS (rest := []) C (c_X0_sizeOf l D cy N0 h l1 (nI (A1.length)) hl1.fiS) kX0_sizeOf g594 g227 hP hS (by first | decide | omega) hl.1 rfl (by decide) (by first | decide | omega) dX0_withoutFirst_24 (fun q ce E h' H1 locs1 hE => hE.elim) (fun v hh1 H locs hq hP hS => ?_)
          obtain ⟨rfl, rfl⟩ := hq
          refine lv_istore_n (lv' := [(2, .int (nI (A1.length))), (0, .ref a1), (1, .int (nI q))]) hx hb dX0_withoutFirst_27 rfl hl (by decide) rfl (fun ls hl => ?_)
          refine lv_iload_n hx hb dX0_withoutFirst_28 rfl (lv_at hl 2 rfl) ?_
          refine lv_iload_n hx hb dX0_withoutFirst_29 rfl (lv_at hl 0 rfl) ?_
          refine lv_icmp_le (tgt := 46) hx hb dX0_withoutFirst_30 (by decide) (fun c30 => ?_) (fun c30 => ?_)
          · replace c30 : q ≤ (A1.length) := (nI_leI (a := q) (b := (A1.length)) (by omega) (by omega)).mp c30
            refine lv_aload_n hx hb dX0_withoutFirst_46 rfl (lv_at hl 1 rfl) ?_
            refine q_get C hP f1 rfl inX0 0 (by decide) g491 rfl dX0_withoutFirst_47 ?_
            refine lv_iload_n hx hb dX0_withoutFirst_50 rfl (lv_at hl 2 rfl) ?_
            refine q_callS (rest := []) C (ih h l1 i1 A1 q hl1 (by omega) (by omega) (by omega)) kX0_withoutFirst g727 g725 hP hS (by first | decide | omega) hl.1 rfl (by decide) (by first | decide | omega) dX0_withoutFirst_51 (fun q ce E h' H1 locs1 hE => hE.elim) (fun v hh2 H locs hq hP hS => ?_)
            obtain ⟨r66, n66, rfl, hl66, b66, w66⟩ := hq
            replace f1 := hl66 _ _ f1
            replace hA := hA.le hl66
            replace hl1 := hl1.le hl66
            replace hr1 := hr1.le hl66
            replace hle := qle_tr hle hl66
            have z66 := b66.len
            try simp only [List.length_append, List.length_cons, List.length_nil] at z66
            try simp only [List.length_drop] at z66
            refine lv_aload_n hx hb dX0_withoutFirst_54 rfl (lv_at hl 1 rfl) ?_
            refine q_get C hP f1 rfl inX0 1 (by decide) g492 rfl dX0_withoutFirst_55 ?_
            refine lv_aload_n hx hb dX0_withoutFirst_58 rfl (lv_at hl 1 rfl) ?_
            refine q_get C hP f1 rfl inX0 2 (by decide) g494 rfl dX0_withoutFirst_59 ?_
            refine lv_aload_n hx hb dX0_withoutFirst_62 rfl (lv_at hl 1 rfl) ?_
            refine q_get C hP f1 rfl inX0 3 (by decide) g497 rfl dX0_withoutFirst_63 ?_
            refine q_callS (rest := []) C (c_X0_linked l D cy N0 _ hh2 r66 k1 v1 r1 n66 j1 (List.drop q A1) B1 b66 hr1 (by first | omega | (simp only [List.length_append, List.length_cons, List.length_nil, List.length_take, List.length_drop, List.length_set]; omega)) (Nat.lt_succ_self _)) kX0_linked g478 g473 hP hS (by first | decide | omega) hl.1 rfl (by decide) (by first | decide | omega) dX0_withoutFirst_66 (fun q ce E h' H1 locs1 hE => hE.elim) (fun v hh3 H locs hq hP hS => ?_)
            obtain ⟨r67, n67, rfl, hl67, b67, y67, w67, u67, m67⟩ := hq
            replace f1 := hl67 _ _ f1
            replace hA := hA.le hl67
            replace hl1 := hl1.le hl67
            replace hr1 := hr1.le hl67
            replace b66 := b66.le hl67
            replace hle := qle_tr hle hl67
            have z67 := b67.len
            try simp only [List.length_append, List.length_cons, List.length_nil] at z67
            exact q_aret (v := r67) C (Or.inl ⟨_, rfl⟩) hP hS ⟨r67, n67, rfl, hle, by first | (rw [qdp_z (by first | omega | (simp only [List.length_append, List.length_cons, List.length_nil]; omega))]; exact b67) | (rw [qdp_all (by first | omega | (simp only [List.length_append, List.length_cons, List.length_nil]; omega))]; exact b67) | (rw [qdp_l (by first | omega | (simp only [List.length_append, List.length_cons, List.length_nil]; omega))]; exact b67) | (rw [qdp_r (by first | omega | (simp only [List.length_append, List.length_cons, List.length_nil]; omega))]; exact b67), by omega⟩ (by omega) dX0_withoutFirst_69
          · replace c30 : ¬ q ≤ (A1.length) := fun zq => c30 ((nI_leI (a := q) (b := (A1.length)) (by omega) (by omega)).mpr zq)
            refine lv_aload_n hx hb dX0_withoutFirst_33 rfl (lv_at hl 1 rfl) ?_
            refine q_get C hP f1 rfl inX0 3 (by decide) g497 rfl dX0_withoutFirst_34 ?_
            refine lv_iload_n hx hb dX0_withoutFirst_37 rfl (lv_at hl 2 rfl) ?_
            refine lv_iload_n hx hb dX0_withoutFirst_38 rfl (lv_at hl 0 rfl) ?_
            refine q_isubN hx hb dX0_withoutFirst_39 (by omega) ?_
            refine lv_iconst (v := nI 1) hx hb dX0_withoutFirst_40 (by decide) ?_
            refine q_isubN hx hb dX0_withoutFirst_41 (by omega) ?_
            refine q_callS (rest := []) C (ih h r1 j1 B1 ((q - (A1.length)) - 1) hr1 (by omega) (by omega) (by omega)) kX0_withoutFirst g727 g725 hP hS (by first | decide | omega) hl.1 rfl (by decide) (by first | decide | omega) dX0_withoutFirst_42 (fun q ce E h' H1 locs1 hE => hE.elim) (fun v hh4 H locs hq hP hS => ?_)
            obtain ⟨r68, n68, rfl, hl68, b68, w68⟩ := hq
            replace f1 := hl68 _ _ f1
            replace hA := hA.le hl68
            replace hl1 := hl1.le hl68
            replace hr1 := hr1.le hl68
            replace hle := qle_tr hle hl68
            have z68 := b68.len
            try simp only [List.length_append, List.length_cons, List.length_nil] at z68
            try simp only [List.length_drop] at z68
            exact q_aret (v := r68) C (Or.inl ⟨_, rfl⟩) hP hS ⟨r68, n68, rfl, hle, by first | (rw [qdp_z (by first | omega | (simp only [List.length_append, List.length_cons, List.length_nil]; omega))]; exact b68) | (rw [qdp_all (by first | omega | (simp only [List.length_append, List.length_cons, List.length_nil]; omega))]; exact b68) | (rw [qdp_l (by first | omega | (simp only [List.length_append, List.length_cons, List.length_nil]; omega))]; exact b68) | (rw [qdp_r (by first | omega | (simp only [List.length_append, List.length_cons, List.length_nil]; omega))]; exact b68), by omega⟩ (by omega) dX0_withoutFirst_45
        · replace c15 : ¬ 0 < q := fun zq => c15 ((nI_ltI (a := 0) (b := q) (by omega) (by omega)).mpr zq)
          refine lv_aload_n hx hb dX0_withoutFirst_18 rfl (lv_at hl 0 rfl) ?_
          exact q_aret (v := (some a1)) C (Or.inl ⟨_, rfl⟩) hP hS ⟨(some a1), n, rfl, hle, by first | (rw [qdp_z (by first | omega | (simp only [List.length_append, List.length_cons, List.length_nil]; omega))]; exact hA) | (rw [qdp_all (by first | omega | (simp only [List.length_append, List.length_cons, List.length_nil]; omega))]; exact hA) | (rw [qdp_l (by first | omega | (simp only [List.length_append, List.length_cons, List.length_nil]; omega))]; exact hA) | (rw [qdp_r (by first | omega | (simp only [List.length_append, List.length_cons, List.length_nil]; omega))]; exact hA), by omega⟩ (by omega) dX0_withoutFirst_19
      · replace c9 : ¬ q < (A1.length + 1 + B1.length) := fun zq => c9 ((nI_ltI (a := q) (b := (A1.length + 1 + B1.length)) (by omega) (by omega)).mpr zq)
        refine lv_null hx hb dX0_withoutFirst_12 ?_
        exact q_aret (v := none) C (Or.inl ⟨_, rfl⟩) hP hS ⟨none, 0, rfl, hle, by first | (rw [qdp_z (by first | omega | (simp only [List.length_append, List.length_cons, List.length_nil]; omega))]; exact (qBr.nil (h := h))) | (rw [qdp_all (by first | omega | (simp only [List.length_append, List.length_cons, List.length_nil]; omega))]; exact (qBr.nil (h := h))) | (rw [qdp_l (by first | omega | (simp only [List.length_append, List.length_cons, List.length_nil]; omega))]; exact (qBr.nil (h := h))) | (rw [qdp_r (by first | omega | (simp only [List.length_append, List.length_cons, List.length_nil]; omega))]; exact (qBr.nil (h := h))), by omega⟩ (by omega) dX0_withoutFirst_13

theorem dX0_withValueAt_0 : decode cX0_withValueAt 0 = .ok (.aload_n 0, 1) := by decide +kernel
theorem dX0_withValueAt_1 : decode cX0_withValueAt 1 = .ok (.ifnonnull 5, 3) := by decide +kernel
theorem dX0_withValueAt_4 : decode cX0_withValueAt 4 = .ok (.aconst_null, 1) := by decide +kernel
theorem dX0_withValueAt_5 : decode cX0_withValueAt 5 = .ok (.areturn, 1) := by decide +kernel
theorem dX0_withValueAt_6 : decode cX0_withValueAt 6 = .ok (.aload_n 0, 1) := by decide +kernel
theorem dX0_withValueAt_7 : decode cX0_withValueAt 7 = .ok (.getfield 7, 3) := by decide +kernel
theorem dX0_withValueAt_10 : decode cX0_withValueAt 10 = .ok (.invokestatic 57, 3) := by decide +kernel
theorem dX0_withValueAt_13 : decode cX0_withValueAt 13 = .ok (.istore 4, 2) := by decide +kernel
theorem dX0_withValueAt_15 : decode cX0_withValueAt 15 = .ok (.iload_n 1, 1) := by decide +kernel
theorem dX0_withValueAt_16 : decode cX0_withValueAt 16 = .ok (.iload 4, 2) := by decide +kernel
theorem dX0_withValueAt_18 : decode cX0_withValueAt 18 = .ok (.if_icmp .ge 32, 3) := by decide +kernel
theorem dX0_withValueAt_21 : decode cX0_withValueAt 21 = .ok (.new 8, 3) := by decide +kernel
theorem dX0_withValueAt_24 : decode cX0_withValueAt 24 = .ok (.dup, 1) := by decide +kernel
theorem dX0_withValueAt_25 : decode cX0_withValueAt 25 = .ok (.aload_n 0, 1) := by decide +kernel
theorem dX0_withValueAt_26 : decode cX0_withValueAt 26 = .ok (.getfield 7, 3) := by decide +kernel
theorem dX0_withValueAt_29 : decode cX0_withValueAt 29 = .ok (.iload_n 1, 1) := by decide +kernel
theorem dX0_withValueAt_30 : decode cX0_withValueAt 30 = .ok (.lload_n 2, 1) := by decide +kernel
theorem dX0_withValueAt_31 : decode cX0_withValueAt 31 = .ok (.invokestatic 63, 3) := by decide +kernel
theorem dX0_withValueAt_34 : decode cX0_withValueAt 34 = .ok (.aload_n 0, 1) := by decide +kernel
theorem dX0_withValueAt_35 : decode cX0_withValueAt 35 = .ok (.getfield 13, 3) := by decide +kernel
theorem dX0_withValueAt_38 : decode cX0_withValueAt 38 = .ok (.aload_n 0, 1) := by decide +kernel
theorem dX0_withValueAt_39 : decode cX0_withValueAt 39 = .ok (.getfield 17, 3) := by decide +kernel
theorem dX0_withValueAt_42 : decode cX0_withValueAt 42 = .ok (.aload_n 0, 1) := by decide +kernel
theorem dX0_withValueAt_43 : decode cX0_withValueAt 43 = .ok (.getfield 20, 3) := by decide +kernel
theorem dX0_withValueAt_46 : decode cX0_withValueAt 46 = .ok (.invokespecial 41, 3) := by decide +kernel
theorem dX0_withValueAt_49 : decode cX0_withValueAt 49 = .ok (.areturn, 1) := by decide +kernel
theorem dX0_withValueAt_50 : decode cX0_withValueAt 50 = .ok (.iload_n 1, 1) := by decide +kernel
theorem dX0_withValueAt_51 : decode cX0_withValueAt 51 = .ok (.iload 4, 2) := by decide +kernel
theorem dX0_withValueAt_53 : decode cX0_withValueAt 53 = .ok (.if_icmp .le 37, 3) := by decide +kernel
theorem dX0_withValueAt_56 : decode cX0_withValueAt 56 = .ok (.new 8, 3) := by decide +kernel
theorem dX0_withValueAt_59 : decode cX0_withValueAt 59 = .ok (.dup, 1) := by decide +kernel
theorem dX0_withValueAt_60 : decode cX0_withValueAt 60 = .ok (.aload_n 0, 1) := by decide +kernel
theorem dX0_withValueAt_61 : decode cX0_withValueAt 61 = .ok (.getfield 7, 3) := by decide +kernel
theorem dX0_withValueAt_64 : decode cX0_withValueAt 64 = .ok (.aload_n 0, 1) := by decide +kernel
theorem dX0_withValueAt_65 : decode cX0_withValueAt 65 = .ok (.getfield 13, 3) := by decide +kernel
theorem dX0_withValueAt_68 : decode cX0_withValueAt 68 = .ok (.aload_n 0, 1) := by decide +kernel
theorem dX0_withValueAt_69 : decode cX0_withValueAt 69 = .ok (.getfield 17, 3) := by decide +kernel
theorem dX0_withValueAt_72 : decode cX0_withValueAt 72 = .ok (.aload_n 0, 1) := by decide +kernel
theorem dX0_withValueAt_73 : decode cX0_withValueAt 73 = .ok (.getfield 20, 3) := by decide +kernel
theorem dX0_withValueAt_76 : decode cX0_withValueAt 76 = .ok (.iload_n 1, 1) := by decide +kernel
theorem dX0_withValueAt_77 : decode cX0_withValueAt 77 = .ok (.iload 4, 2) := by decide +kernel
theorem dX0_withValueAt_79 : decode cX0_withValueAt 79 = .ok (.isub, 1) := by decide +kernel
theorem dX0_withValueAt_80 : decode cX0_withValueAt 80 = .ok (.iconst 1, 1) := by decide +kernel
theorem dX0_withValueAt_81 : decode cX0_withValueAt 81 = .ok (.isub, 1) := by decide +kernel
theorem dX0_withValueAt_82 : decode cX0_withValueAt 82 = .ok (.lload_n 2, 1) := by decide +kernel
theorem dX0_withValueAt_83 : decode cX0_withValueAt 83 = .ok (.invokestatic 63, 3) := by decide +kernel
theorem dX0_withValueAt_86 : decode cX0_withValueAt 86 = .ok (.invokespecial 41, 3) := by decide +kernel
theorem dX0_withValueAt_89 : decode cX0_withValueAt 89 = .ok (.areturn, 1) := by decide +kernel
theorem dX0_withValueAt_90 : decode cX0_withValueAt 90 = .ok (.new 8, 3) := by decide +kernel
theorem dX0_withValueAt_93 : decode cX0_withValueAt 93 = .ok (.dup, 1) := by decide +kernel
theorem dX0_withValueAt_94 : decode cX0_withValueAt 94 = .ok (.aload_n 0, 1) := by decide +kernel
theorem dX0_withValueAt_95 : decode cX0_withValueAt 95 = .ok (.getfield 7, 3) := by decide +kernel
theorem dX0_withValueAt_98 : decode cX0_withValueAt 98 = .ok (.aload_n 0, 1) := by decide +kernel
theorem dX0_withValueAt_99 : decode cX0_withValueAt 99 = .ok (.getfield 13, 3) := by decide +kernel
theorem dX0_withValueAt_102 : decode cX0_withValueAt 102 = .ok (.lload_n 2, 1) := by decide +kernel
theorem dX0_withValueAt_103 : decode cX0_withValueAt 103 = .ok (.aload_n 0, 1) := by decide +kernel
theorem dX0_withValueAt_104 : decode cX0_withValueAt 104 = .ok (.getfield 20, 3) := by decide +kernel
theorem dX0_withValueAt_107 : decode cX0_withValueAt 107 = .ok (.invokespecial 41, 3) := by decide +kernel
theorem dX0_withValueAt_110 : decode cX0_withValueAt 110 = .ok (.areturn, 1) := by decide +kernel
set_option maxRecDepth 100000 in
set_option maxHeartbeats 4000000 in
theorem c_X0_withValueAt (l : Launch) (D : va_G) (cy : Nat → ClassId) (N0 : Nat) (s : Nat) : ∀ (h : qH) (x : Option Nat) (n : Nat) (A : qKV) (q : Nat) (k0 v0 w0 : Int64) (hA : qBr h n x A) (hL : A.length < 1000000) (hk : A[q]? = some (k0, w0)) (hq9 : q < 2 ^ 31) (hs : n < s), qC l D cy N0 yX0_withValueAt cX0_withValueAt 5 (some (.object RX0)) (2 + n) (40 + 24 * n) n (6 * n) [va_rf x, .int (nI q), .long v0] h (fun v h' => ∃ (r9 : Option Nat) (n9 : Nat), v = some (va_rf r9) ∧ qle h h' ∧ qBr h' n9 r9 (A.set q (k0, v0)) ∧ n9 = n) (fun E h' => False) := by
  induction s with
  | zero => intro h x n A q k0 v0 w0 hA hL hk hq9 hs; exact absurd hs (Nat.not_lt_zero _)
  | succ s ih =>
    intro h x n A q k0 v0 w0 hA hL hk hq9 hs
    refine q_ofW (by decide) (by simp [lg_sl, q_catrf, q_cati, q_catl, q_cata, q_catn]) ?_
    intro p e s m below meth c ls C hP hl
    have hx := C.1
    have hb := C.2.1
    have hS : va_S (qA N0) s.heap s.heap [] := va_S.rf
    have hl : lv_has ls 5 [(0, va_rf x), (1, .int (nI q)), (2, .long v0)] := by simpa [lv_args, q_catrf, q_cati, q_catl, q_cata, q_catn] using hl
    have hle : qle h h := qle_rf
    rcases hA.inv with ⟨rfl, rfl, rfl⟩ | ⟨a1, l1, k1, v1, r1, i1, j1, A1, B1, rfl, f1, hl1, hr1, rfl, hg11, hg12, hg13, hg14, hg15, hg16⟩
    · refine lv_aload_nN hx hb dX0_withValueAt_0 rfl (lv_at hl 0 rfl) ?_
      refine lv_ifnonnullN hx hb dX0_withValueAt_1 ?_
      refine lv_null hx hb dX0_withValueAt_4 ?_
      cases hk
    · have zl1 := hl1.len
      have zr1 := hr1.len
      have eL1 : (A1 ++ (k1, v1) :: B1).length = A1.length + (B1.length + 1) := by rw [List.length_append, List.length_cons]
      simp only [List.length_append, List.length_cons, List.length_nil] at hL
      refine lv_aload_n hx hb dX0_withValueAt_0 rfl (lv_at hl 0 rfl) ?_
      refine lv_ifnonnull (tgt := 6) hx hb dX0_withValueAt_1 (by decide) ?_
      refine lv_aload_n hx hb dX0_withValueAt_6 rfl (lv_at hl 0 rfl) ?_
      refine q_get C hP f1 rfl inX0 0 (by decide) g491 rfl dX0_withValueAt_7 ?_
      refine q_callS (rest := []) C (c_X0_sizeOf l D cy N0 h l1 (nI (A1.length)) hl1.fiS) kX0_sizeOf g594 g227 hP hS (by first | decide | omega) hl.1 rfl (by decide) (by first | decide | omega) dX0_withValueAt_10 (fun q ce E h' H1 locs1 hE => hE.elim) (fun v hh1 H locs hq hP hS => ?_)
      obtain ⟨rfl, rfl⟩ := hq
      refine lv_istore (lv' := [(4, .int (nI (A1.length))), (0, .ref a1), (1, .int (nI q)), (2, .long v0)]) hx hb dX0_withValueAt_13 hl (by decide) rfl (fun ls hl => ?_)
      refine lv_iload_n hx hb dX0_withValueAt_15 rfl (lv_at hl 2 rfl) ?_
      refine lv_iload hx hb dX0_withValueAt_16 (lv_at hl 0 rfl) ?_
      refine lv_icmp_ge (tgt := 50) hx hb dX0_withValueAt_18 (by decide) (fun c18 => ?_) (fun c18 => ?_)
      · replace c18 : (A1.length) ≤ q := (nI_leI (a := (A1.length)) (b := q) (by omega) (by omega)).mp c18
        refine lv_iload_n hx hb dX0_withValueAt_50 rfl (lv_at hl 2 rfl) ?_
        refine lv_iload hx hb dX0_withValueAt_51 (lv_at hl 0 rfl) ?_
        refine lv_icmp_le (tgt := 90) hx hb dX0_withValueAt_53 (by decide) (fun c53 => ?_) (fun c53 => ?_)
        · replace c53 : q ≤ (A1.length) := (nI_leI (a := q) (b := (A1.length)) (by omega) (by omega)).mp c53
          refine q_new (ci := 0) (fs := [.null, .long 0, .long 0, .null, .int 0, .int 0]) C hP hS rfl inX0 tyX0 tyX0_ok g485 g486 g11 (fun j hj => by rcases (show j = 0 ∨ j = 1 ∨ j = 2 ∨ j = 3 ∨ j = 4 ∨ j = 5 by omega) with rfl | rfl | rfl | rfl | rfl | rfl <;> rfl) (by first | decide | omega) (by first | decide | omega) dX0_withValueAt_90 (fun q90 H eq90 hP hS => ?_)
          obtain ⟨hv1, ehv1⟩ : ∃ z : qH, z = qs h q90 (.inr (0, [.null, .long 0, .long 0, .null, .int 0, .int 0])) := ⟨_, rfl⟩
          rw [← ehv1] at hP
          have khv1 : ∀ b o, b ≠ q90 → h b = some o → hv1 b = some o := by rw [ehv1]; exact fun b o nb hb => (qs_ne nb).trans hb
          have kp : qKp h hv1 := fun b o hb _ => khv1 b o (qne_of eq90 hb) hb
          replace hA := hA.kp kp
          replace hl1 := hl1.kp kp
          replace hr1 := hr1.kp kp
          clear kp
          have n_q90_a1 : a1 ≠ q90 := qne_of eq90 f1
          replace f1 := khv1 _ _ n_q90_a1 f1
          have oq90 := qle_none hle eq90
          replace hle : qle h hv1 := fun b o hb => khv1 b o (qne_of oq90 hb) (hle b o hb)
          have fq90 : hv1 q90 = some (.inr (0, [.null, .long 0, .long 0, .null, .int 0, .int 0])) := by rw [ehv1]; exact qs_self
          clear ehv1
          refine lv_dup hx hb dX0_withValueAt_93 rfl ?_
          refine lv_aload_n hx hb dX0_withValueAt_94 rfl (lv_at hl 1 rfl) ?_
          refine q_get C hP f1 rfl inX0 0 (by decide) g491 rfl dX0_withValueAt_95 ?_
          refine lv_aload_n hx hb dX0_withValueAt_98 rfl (lv_at hl 1 rfl) ?_
          refine q_get C hP f1 rfl inX0 1 (by decide) g492 rfl dX0_withValueAt_99 ?_
          refine lv_lload_n hx hb dX0_withValueAt_102 rfl (lv_at hl 3 rfl) ?_
          refine lv_aload_n hx hb dX0_withValueAt_103 rfl (lv_at hl 1 rfl) ?_
          refine q_get C hP f1 rfl inX0 3 (by decide) g497 rfl dX0_withValueAt_104 ?_
          refine q_callI (rest := [.ref q90]) C (c_X0_init l D cy N0 hv1 q90 l1 k1 v0 r1 i1 j1 (max i1 j1 + 1) A1 B1 fq90 hl1 hr1 (by omega) (by omega)) kX0_init g487 g488 rfl hP hS (by first | decide | omega) hl.1 rfl (by simp [q_catrf, q_cati, q_catl, q_cata, q_catn]) (by first | decide | omega) dX0_withValueAt_107 (fun v hh2 H locs hq hP hS => ?_)
          obtain ⟨rfl, rfl⟩ := hq
          replace hP : qP D N0 (qs hv1 q90 (.inr (0, [va_rf l1, .long k1, .long v0, va_rf r1, .int (nI (max i1 j1 + 1)), .int (nI (A1.length + 1 + B1.length))]))) H := hP
          obtain ⟨hv2, ehv2⟩ : ∃ z : qH, z = qs hv1 q90 (.inr (0, [va_rf l1, .long k1, .long v0, va_rf r1, .int (nI (max i1 j1 + 1)), .int (nI (A1.length + 1 + B1.length))])) := ⟨_, rfl⟩
          rw [← ehv2] at hP
          have khv2 : ∀ b o, b ≠ q90 → hv1 b = some o → hv2 b = some o := by rw [ehv2]; exact fun b o nb hb => (qs_ne nb).trans hb
          have kp : qKp hv1 hv2 := fun b o hb nb => khv2 b o (fun q => by subst q; exact nb (Option.some.inj (hb.symm.trans fq90))) hb
          replace hA := hA.kp kp
          replace hl1 := hl1.kp kp
          replace hr1 := hr1.kp kp
          clear kp
          replace f1 := khv2 _ _ n_q90_a1 f1
          replace hle : qle h hv2 := fun b o hb => khv2 b o (qne_of oq90 hb) (hle b o hb)
          replace fq90 : hv2 q90 = some (.inr (0, [va_rf l1, .long k1, .long v0, va_rf r1, .int (nI (max i1 j1 + 1)), .int (nI (A1.length + 1 + B1.length))])) := by rw [ehv2]; exact qs_self
          clear ehv2
          have bq90 := qBr.mk fq90 hl1 hr1 ⟨by omega, by omega, by omega, by omega, by omega, by omega⟩
          exact q_aret (v := (some q90)) C (Or.inl ⟨_, rfl⟩) hP hS ⟨(some q90), n, rfl, hle, by first | (rw [qset_l (by omega)]; exact bq90.to (by omega)) | (rw [qset_r (by omega)]; exact bq90.to (by omega)) | (rw [qset_m (by omega)]; have e9 := (qget_m (A := A1) (B := B1) (e := (k1, v1)) (by omega)).symm.trans hk; cases e9; exact bq90.to (by omega)), rfl⟩ (by omega) dX0_withValueAt_110
        · replace c53 : ¬ q ≤ (A1.length) := fun zq => c53 ((nI_leI (a := q) (b := (A1.length)) (by omega) (by omega)).mpr zq)
          refine q_new (ci := 0) (fs := [.null, .long 0, .long 0, .null, .int 0, .int 0]) C hP hS rfl inX0 tyX0 tyX0_ok g485 g486 g11 (fun j hj => by rcases (show j = 0 ∨ j = 1 ∨ j = 2 ∨ j = 3 ∨ j = 4 ∨ j = 5 by omega) with rfl | rfl | rfl | rfl | rfl | rfl <;> rfl) (by first | decide | omega) (by first | decide | omega) dX0_withValueAt_56 (fun q56 H eq56 hP hS => ?_)
          obtain ⟨hv3, ehv3⟩ : ∃ z : qH, z = qs h q56 (.inr (0, [.null, .long 0, .long 0, .null, .int 0, .int 0])) := ⟨_, rfl⟩
          rw [← ehv3] at hP
          have khv3 : ∀ b o, b ≠ q56 → h b = some o → hv3 b = some o := by rw [ehv3]; exact fun b o nb hb => (qs_ne nb).trans hb
          have kp : qKp h hv3 := fun b o hb _ => khv3 b o (qne_of eq56 hb) hb
          replace hA := hA.kp kp
          replace hl1 := hl1.kp kp
          replace hr1 := hr1.kp kp
          clear kp
          have n_q56_a1 : a1 ≠ q56 := qne_of eq56 f1
          replace f1 := khv3 _ _ n_q56_a1 f1
          have oq56 := qle_none hle eq56
          replace hle : qle h hv3 := fun b o hb => khv3 b o (qne_of oq56 hb) (hle b o hb)
          have fq56 : hv3 q56 = some (.inr (0, [.null, .long 0, .long 0, .null, .int 0, .int 0])) := by rw [ehv3]; exact qs_self
          clear ehv3
          refine lv_dup hx hb dX0_withValueAt_59 rfl ?_
          refine lv_aload_n hx hb dX0_withValueAt_60 rfl (lv_at hl 1 rfl) ?_
          refine q_get C hP f1 rfl inX0 0 (by decide) g491 rfl dX0_withValueAt_61 ?_
          refine lv_aload_n hx hb dX0_withValueAt_64 rfl (lv_at hl 1 rfl) ?_
          refine q_get C hP f1 rfl inX0 1 (by decide) g492 rfl dX0_withValueAt_65 ?_
          refine lv_aload_n hx hb dX0_withValueAt_68 rfl (lv_at hl 1 rfl) ?_
          refine q_get C hP f1 rfl inX0 2 (by decide) g494 rfl dX0_withValueAt_69 ?_
          refine lv_aload_n hx hb dX0_withValueAt_72 rfl (lv_at hl 1 rfl) ?_
          refine q_get C hP f1 rfl inX0 3 (by decide) g497 rfl dX0_withValueAt_73 ?_
          refine lv_iload_n hx hb dX0_withValueAt_76 rfl (lv_at hl 2 rfl) ?_
          refine lv_iload hx hb dX0_withValueAt_77 (lv_at hl 0 rfl) ?_
          refine q_isubN hx hb dX0_withValueAt_79 (by omega) ?_
          refine lv_iconst (v := nI 1) hx hb dX0_withValueAt_80 (by decide) ?_
          refine q_isubN hx hb dX0_withValueAt_81 (by omega) ?_
          refine lv_lload_n hx hb dX0_withValueAt_82 rfl (lv_at hl 3 rfl) ?_
          refine q_callS (rest := [.long v1, .long k1, va_rf l1, .ref q56, .ref q56]) C (ih hv3 r1 j1 B1 ((q - (A1.length)) - 1) k0 v0 w0 hr1 (by omega) (by rw [← qget_r (A := A1) (e := (k1, v1)) (by omega)]; exact hk) (by omega) (by omega)) kX0_withValueAt g620 g618 hP hS (by first | decide | omega) hl.1 rfl (by simp [q_catrf, q_cati, q_catl, q_cata, q_catn]) (by first | decide | omega) dX0_withValueAt_83 (fun q ce E h' H1 locs1 hE => hE.elim) (fun v hh3 H locs hq hP hS => ?_)
          obtain ⟨r69, n69, rfl, hl69, b69, w69⟩ := hq
          replace f1 := hl69 _ _ f1
          replace fq56 := hl69 _ _ fq56
          replace hA := hA.le hl69
          replace hl1 := hl1.le hl69
          replace hr1 := hr1.le hl69
          replace hle := qle_tr hle hl69
          have z69 := b69.len
          try simp only [List.length_append, List.length_cons, List.length_nil] at z69
          try simp only [List.length_set] at z69
          refine q_callI (rest := [.ref q56]) C (c_X0_init l D cy N0 hh3 q56 l1 k1 v1 r69 i1 n69 (max i1 n69 + 1) A1 (List.set B1 ((q - (A1.length)) - 1) (k0, v0)) fq56 hl1 b69 (by omega) (by omega)) kX0_init g487 g488 rfl hP hS (by first | decide | omega) hl.1 rfl (by simp [q_catrf, q_cati, q_catl, q_cata, q_catn]) (by first | decide | omega) dX0_withValueAt_86 (fun v hh4 H locs hq hP hS => ?_)
          obtain ⟨rfl, rfl⟩ := hq
          replace hP : qP D N0 (qs hh3 q56 (.inr (0, [va_rf l1, .long k1, .long v1, va_rf r69, .int (nI (max i1 n69 + 1)), .int (nI (A1.length + 1 + (List.set B1 ((q - (A1.length)) - 1) (k0, v0)).length))]))) H := hP
          obtain ⟨hv4, ehv4⟩ : ∃ z : qH, z = qs hh3 q56 (.inr (0, [va_rf l1, .long k1, .long v1, va_rf r69, .int (nI (max i1 n69 + 1)), .int (nI (A1.length + 1 + (List.set B1 ((q - (A1.length)) - 1) (k0, v0)).length))])) := ⟨_, rfl⟩
          rw [← ehv4] at hP
          have khv4 : ∀ b o, b ≠ q56 → hh3 b = some o → hv4 b = some o := by rw [ehv4]; exact fun b o nb hb => (qs_ne nb).trans hb
          have kp : qKp hh3 hv4 := fun b o hb nb => khv4 b o (fun q => by subst q; exact nb (Option.some.inj (hb.symm.trans fq56))) hb
          replace hA := hA.kp kp
          replace hl1 := hl1.kp kp
          replace hr1 := hr1.kp kp
          replace b69 := b69.kp kp
          clear kp
          replace f1 := khv4 _ _ n_q56_a1 f1
          replace hle : qle h hv4 := fun b o hb => khv4 b o (qne_of oq56 hb) (hle b o hb)
          replace fq56 : hv4 q56 = some (.inr (0, [va_rf l1, .long k1, .long v1, va_rf r69, .int (nI (max i1 n69 + 1)), .int (nI (A1.length + 1 + (List.set B1 ((q - (A1.length)) - 1) (k0, v0)).length))])) := by rw [ehv4]; exact qs_self
          clear ehv4
          have bq56 := qBr.mk fq56 hl1 b69 ⟨by omega, by omega, by omega, by omega, by omega, by omega⟩
          exact q_aret (v := (some q56)) C (Or.inl ⟨_, rfl⟩) hP hS ⟨(some q56), n, rfl, hle, by first | (rw [qset_l (by omega)]; exact bq56.to (by omega)) | (rw [qset_r (by omega)]; exact bq56.to (by omega)) | (rw [qset_m (by omega)]; have e9 := (qget_m (A := A1) (B := B1) (e := (k1, v1)) (by omega)).symm.trans hk; cases e9; exact bq56.to (by omega)), rfl⟩ (by omega) dX0_withValueAt_89
      · replace c18 : ¬ (A1.length) ≤ q := fun zq => c18 ((nI_leI (a := (A1.length)) (b := q) (by omega) (by omega)).mpr zq)
        refine q_new (ci := 0) (fs := [.null, .long 0, .long 0, .null, .int 0, .int 0]) C hP hS rfl inX0 tyX0 tyX0_ok g485 g486 g11 (fun j hj => by rcases (show j = 0 ∨ j = 1 ∨ j = 2 ∨ j = 3 ∨ j = 4 ∨ j = 5 by omega) with rfl | rfl | rfl | rfl | rfl | rfl <;> rfl) (by first | decide | omega) (by first | decide | omega) dX0_withValueAt_21 (fun q21 H eq21 hP hS => ?_)
        obtain ⟨hv5, ehv5⟩ : ∃ z : qH, z = qs h q21 (.inr (0, [.null, .long 0, .long 0, .null, .int 0, .int 0])) := ⟨_, rfl⟩
        rw [← ehv5] at hP
        have khv5 : ∀ b o, b ≠ q21 → h b = some o → hv5 b = some o := by rw [ehv5]; exact fun b o nb hb => (qs_ne nb).trans hb
        have kp : qKp h hv5 := fun b o hb _ => khv5 b o (qne_of eq21 hb) hb
        replace hA := hA.kp kp
        replace hl1 := hl1.kp kp
        replace hr1 := hr1.kp kp
        clear kp
        have n_q21_a1 : a1 ≠ q21 := qne_of eq21 f1
        replace f1 := khv5 _ _ n_q21_a1 f1
        have oq21 := qle_none hle eq21
        replace hle : qle h hv5 := fun b o hb => khv5 b o (qne_of oq21 hb) (hle b o hb)
        have fq21 : hv5 q21 = some (.inr (0, [.null, .long 0, .long 0, .null, .int 0, .int 0])) := by rw [ehv5]; exact qs_self
        clear ehv5
        refine lv_dup hx hb dX0_withValueAt_24 rfl ?_
        refine lv_aload_n hx hb dX0_withValueAt_25 rfl (lv_at hl 1 rfl) ?_
        refine q_get C hP f1 rfl inX0 0 (by decide) g491 rfl dX0_withValueAt_26 ?_
        refine lv_iload_n hx hb dX0_withValueAt_29 rfl (lv_at hl 2 rfl) ?_
        refine lv_lload_n hx hb dX0_withValueAt_30 rfl (lv_at hl 3 rfl) ?_
        refine q_callS (rest := [.ref q21, .ref q21]) C (ih hv5 l1 i1 A1 q k0 v0 w0 hl1 (by omega) (by rw [← qget_l (B := (k1, v1) :: B1) (by omega)]; exact hk) (by omega) (by omega)) kX0_withValueAt g620 g618 hP hS (by first | decide | omega) hl.1 rfl (by simp [q_catrf, q_cati, q_catl, q_cata, q_catn]) (by first | decide | omega) dX0_withValueAt_31 (fun q ce E h' H1 locs1 hE => hE.elim) (fun v hh5 H locs hq hP hS => ?_)
        obtain ⟨r70, n70, rfl, hl70, b70, w70⟩ := hq
        replace f1 := hl70 _ _ f1
        replace fq21 := hl70 _ _ fq21
        replace hA := hA.le hl70
        replace hl1 := hl1.le hl70
        replace hr1 := hr1.le hl70
        replace hle := qle_tr hle hl70
        have z70 := b70.len
        try simp only [List.length_append, List.length_cons, List.length_nil] at z70
        try simp only [List.length_set] at z70
        refine lv_aload_n hx hb dX0_withValueAt_34 rfl (lv_at hl 1 rfl) ?_
        refine q_get C hP f1 rfl inX0 1 (by decide) g492 rfl dX0_withValueAt_35 ?_
        refine lv_aload_n hx hb dX0_withValueAt_38 rfl (lv_at hl 1 rfl) ?_
        refine q_get C hP f1 rfl inX0 2 (by decide) g494 rfl dX0_withValueAt_39 ?_
        refine lv_aload_n hx hb dX0_withValueAt_42 rfl (lv_at hl 1 rfl) ?_
        refine q_get C hP f1 rfl inX0 3 (by decide) g497 rfl dX0_withValueAt_43 ?_
        refine q_callI (rest := [.ref q21]) C (c_X0_init l D cy N0 hh5 q21 r70 k1 v1 r1 n70 j1 (max n70 j1 + 1) (List.set A1 q (k0, v0)) B1 fq21 b70 hr1 (by omega) (by omega)) kX0_init g487 g488 rfl hP hS (by first | decide | omega) hl.1 rfl (by simp [q_catrf, q_cati, q_catl, q_cata, q_catn]) (by first | decide | omega) dX0_withValueAt_46 (fun v hh6 H locs hq hP hS => ?_)
        obtain ⟨rfl, rfl⟩ := hq
        replace hP : qP D N0 (qs hh5 q21 (.inr (0, [va_rf r70, .long k1, .long v1, va_rf r1, .int (nI (max n70 j1 + 1)), .int (nI ((List.set A1 q (k0, v0)).length + 1 + B1.length))]))) H := hP
        obtain ⟨hv6, ehv6⟩ : ∃ z : qH, z = qs hh5 q21 (.inr (0, [va_rf r70, .long k1, .long v1, va_rf r1, .int (nI (max n70 j1 + 1)), .int (nI ((List.set A1 q (k0, v0)).length + 1 + B1.length))])) := ⟨_, rfl⟩
        rw [← ehv6] at hP
        have khv6 : ∀ b o, b ≠ q21 → hh5 b = some o → hv6 b = some o := by rw [ehv6]; exact fun b o nb hb => (qs_ne nb).trans hb
        have kp : qKp hh5 hv6 := fun b o hb nb => khv6 b o (fun q => by subst q; exact nb (Option.some.inj (hb.symm.trans fq21))) hb
        replace hA := hA.kp kp
        replace hl1 := hl1.kp kp
        replace hr1 := hr1.kp kp
        replace b70 := b70.kp kp
        clear kp
        replace f1 := khv6 _ _ n_q21_a1 f1
        replace hle : qle h hv6 := fun b o hb => khv6 b o (qne_of oq21 hb) (hle b o hb)
        replace fq21 : hv6 q21 = some (.inr (0, [va_rf r70, .long k1, .long v1, va_rf r1, .int (nI (max n70 j1 + 1)), .int (nI ((List.set A1 q (k0, v0)).length + 1 + B1.length))])) := by rw [ehv6]; exact qs_self
        clear ehv6
        have bq21 := qBr.mk fq21 b70 hr1 ⟨by omega, by omega, by omega, by omega, by omega, by omega⟩
        exact q_aret (v := (some q21)) C (Or.inl ⟨_, rfl⟩) hP hS ⟨(some q21), n, rfl, hle, by first | (rw [qset_l (by omega)]; exact bq21.to (by omega)) | (rw [qset_r (by omega)]; exact bq21.to (by omega)) | (rw [qset_m (by omega)]; have e9 := (qget_m (A := A1) (B := B1) (e := (k1, v1)) (by omega)).symm.trans hk; cases e9; exact bq21.to (by omega)), rfl⟩ (by omega) dX0_withValueAt_49

theorem qhd {L : qKV} {p : Int64 × Int64} (h : L[0]? = some p) : L = p :: List.drop 1 L := by
  cases L with
  | nil => cases h
  | cons a L => cases h; rfl
theorem dX0_chained_0 : decode cX0_chained 0 = .ok (.aload_n 0, 1) := by decide +kernel
theorem dX0_chained_1 : decode cX0_chained 1 = .ok (.ifnull 7, 3) := by decide +kernel
theorem dX0_chained_4 : decode cX0_chained 4 = .ok (.aload_n 1, 1) := by decide +kernel
theorem dX0_chained_5 : decode cX0_chained 5 = .ok (.ifnonnull 13, 3) := by decide +kernel
theorem dX0_chained_8 : decode cX0_chained 8 = .ok (.aload_n 0, 1) := by decide +kernel
theorem dX0_chained_9 : decode cX0_chained 9 = .ok (.ifnonnull 7, 3) := by decide +kernel
theorem dX0_chained_12 : decode cX0_chained 12 = .ok (.aload_n 1, 1) := by decide +kernel
theorem dX0_chained_13 : decode cX0_chained 13 = .ok (.goto 4, 3) := by decide +kernel
theorem dX0_chained_16 : decode cX0_chained 16 = .ok (.aload_n 0, 1) := by decide +kernel
theorem dX0_chained_17 : decode cX0_chained 17 = .ok (.areturn, 1) := by decide +kernel
theorem dX0_chained_18 : decode cX0_chained 18 = .ok (.aload_n 1, 1) := by decide +kernel
theorem dX0_chained_19 : decode cX0_chained 19 = .ok (.iconst 0, 1) := by decide +kernel
theorem dX0_chained_20 : decode cX0_chained 20 = .ok (.invokestatic 50, 3) := by decide +kernel
theorem dX0_chained_23 : decode cX0_chained 23 = .ok (.astore_n 2, 1) := by decide +kernel
theorem dX0_chained_24 : decode cX0_chained 24 = .ok (.aload_n 2, 1) := by decide +kernel
theorem dX0_chained_25 : decode cX0_chained 25 = .ok (.ifnonnull 7, 3) := by decide +kernel
theorem dX0_chained_32 : decode cX0_chained 32 = .ok (.aload_n 0, 1) := by decide +kernel
theorem dX0_chained_33 : decode cX0_chained 33 = .ok (.aload_n 2, 1) := by decide +kernel
theorem dX0_chained_34 : decode cX0_chained 34 = .ok (.getfield 13, 3) := by decide +kernel
theorem dX0_chained_37 : decode cX0_chained 37 = .ok (.aload_n 2, 1) := by decide +kernel
theorem dX0_chained_38 : decode cX0_chained 38 = .ok (.getfield 17, 3) := by decide +kernel
theorem dX0_chained_41 : decode cX0_chained 41 = .ok (.aload_n 1, 1) := by decide +kernel
theorem dX0_chained_42 : decode cX0_chained 42 = .ok (.iconst 1, 1) := by decide +kernel
theorem dX0_chained_43 : decode cX0_chained 43 = .ok (.invokestatic 54, 3) := by decide +kernel
theorem dX0_chained_46 : decode cX0_chained 46 = .ok (.invokestatic 34, 3) := by decide +kernel
theorem dX0_chained_49 : decode cX0_chained 49 = .ok (.areturn, 1) := by decide +kernel
set_option maxRecDepth 100000 in
set_option maxHeartbeats 4000000 in
theorem c_X0_chained (l : Launch) (D : va_G) (cy : Nat → ClassId) (N0 : Nat) (h : qH) (x : Option Nat) (y : Option Nat) (i j : Nat) (A B : qKV) (hA : qBr h i x A) (hB : qBr h j y B) (hL : A.length + B.length < 1000000) : qC l D cy N0 yX0_chained cX0_chained 3 (some (.object RX0)) (6 + 2 * j + i) (150 + 47 * j + 25 * i) (qTc j + 1 + 3 * i + 3 * j) (6 * qTc j + 6 + 18 * i + 18 * j) [va_rf x, va_rf y] h (fun v h' => ∃ (r9 : Option Nat) (n9 : Nat), v = some (va_rf r9) ∧ qle h h' ∧ qBr h' n9 r9 (A ++ B) ∧ (n9 ≤ i + 1 ∨ n9 ≤ j + 1)) (fun E h' => False) := by
  refine q_ofW (by decide) (by simp [lg_sl, q_catrf, q_cati, q_catl, q_cata, q_catn]) ?_
  intro p e s m below meth c ls C hP hl
  have hx := C.1
  have hb := C.2.1
  have hS : va_S (qA N0) s.heap s.heap [] := va_S.rf
  have hl : lv_has ls 3 [(0, va_rf x), (1, va_rf y)] := by simpa [lv_args, q_catrf, q_cati, q_catl, q_cata, q_catn] using hl
  have hle : qle h h := qle_rf
  have zA := hA.len
  have zB := hB.len
  rcases hA.inv with ⟨rfl, rfl, rfl⟩ | ⟨a1, l1, k1, v1, r1, i1, j1, A1, B1, rfl, f1, hl1, hr1, rfl, hg11, hg12, hg13, hg14, hg15, hg16⟩
  · rcases hB.inv with ⟨rfl, rfl, rfl⟩ | ⟨a2, l2, k2, v2, r2, i2, j2, A2, B2, rfl, f2, hl2, hr2, rfl, hg21, hg22, hg23, hg24, hg25, hg26⟩
    · refine lv_aload_nN hx hb dX0_chained_0 rfl (lv_at hl 0 rfl) ?_
      refine lv_ifnullN (tgt := 8) hx hb dX0_chained_1 (by decide) ?_
      refine lv_aload_nN hx hb dX0_chained_8 rfl (lv_at hl 0 rfl) ?_
      refine lv_ifnonnullN hx hb dX0_chained_9 ?_
      refine lv_aload_nN hx hb dX0_chained_12 rfl (lv_at hl 1 rfl) ?_
      refine lv_goto (tgt := 17) hx hb dX0_chained_13 (by decide) ?_
      exact q_aret (v := none) C (Or.inl ⟨_, rfl⟩) hP hS ⟨none, 0, rfl, hle, by first | (simpa using qBr.nil) | (rw [show A2 ++ (k2, v2) :: B2 = (k8, v8) :: List.drop 1 (A2 ++ (k2, v2) :: B2) from qhd m8]; exact qBr.nil), by omega⟩ (by omega) dX0_chained_17
    · have zl2 := hl2.len
      have zr2 := hr2.len
      have eL2 : (A2 ++ (k2, v2) :: B2).length = A2.length + (B2.length + 1) := by rw [List.length_append, List.length_cons]
      simp only [List.length_append, List.length_cons, List.length_nil] at hL zA zB
      refine lv_aload_nN hx hb dX0_chained_0 rfl (lv_at hl 0 rfl) ?_
      refine lv_ifnullN (tgt := 8) hx hb dX0_chained_1 (by decide) ?_
      refine lv_aload_nN hx hb dX0_chained_8 rfl (lv_at hl 0 rfl) ?_
      refine lv_ifnonnullN hx hb dX0_chained_9 ?_
      refine lv_aload_n hx hb dX0_chained_12 rfl (lv_at hl 1 rfl) ?_
      refine lv_goto (tgt := 17) hx hb dX0_chained_13 (by decide) ?_
      exact q_aret (v := (some a2)) C (Or.inl ⟨_, rfl⟩) hP hS ⟨(some a2), j, rfl, hle, by first | (simpa using hB) | (rw [show A2 ++ (k2, v2) :: B2 = (k8, v8) :: List.drop 1 (A2 ++ (k2, v2) :: B2) from qhd m8]; exact hB), by omega⟩ (by omega) dX0_chained_17
  · have zl1 := hl1.len
    have zr1 := hr1.len
    have eL1 : (A1 ++ (k1, v1) :: B1).length = A1.length + (B1.length + 1) := by rw [List.length_append, List.length_cons]
    simp only [List.length_append, List.length_cons, List.length_nil] at hL zA zB
    rcases hB.inv with ⟨rfl, rfl, rfl⟩ | ⟨a2, l2, k2, v2, r2, i2, j2, A2, B2, rfl, f2, hl2, hr2, rfl, hg21, hg22, hg23, hg24, hg25, hg26⟩
    · refine lv_aload_n hx hb dX0_chained_0 rfl (lv_at hl 0 rfl) ?_
      refine lv_ifnull hx hb dX0_chained_1 ?_
      refine lv_aload_nN hx hb dX0_chained_4 rfl (lv_at hl 1 rfl) ?_
      refine lv_ifnonnullN hx hb dX0_chained_5 ?_
      refine lv_aload_n hx hb dX0_chained_8 rfl (lv_at hl 0 rfl) ?_
      refine lv_ifnonnull (tgt := 16) hx hb dX0_chained_9 (by decide) ?_
      refine lv_aload_n hx hb dX0_chained_16 rfl (lv_at hl 0 rfl) ?_
      exact q_aret (v := (some a1)) C (Or.inl ⟨_, rfl⟩) hP hS ⟨(some a1), i, rfl, hle, by first | (simpa using hA) | (rw [show A2 ++ (k2, v2) :: B2 = (k8, v8) :: List.drop 1 (A2 ++ (k2, v2) :: B2) from qhd m8]; exact hA), by omega⟩ (by omega) dX0_chained_17
    · have zl2 := hl2.len
      have zr2 := hr2.len
      have eL2 : (A2 ++ (k2, v2) :: B2).length = A2.length + (B2.length + 1) := by rw [List.length_append, List.length_cons]
      simp only [List.length_append, List.length_cons, List.length_nil] at hL zA zB
      refine lv_aload_n hx hb dX0_chained_0 rfl (lv_at hl 0 rfl) ?_
      refine lv_ifnull hx hb dX0_chained_1 ?_
      refine lv_aload_n hx hb dX0_chained_4 rfl (lv_at hl 1 rfl) ?_
      refine lv_ifnonnull (tgt := 18) hx hb dX0_chained_5 (by decide) ?_
      refine lv_aload_n hx hb dX0_chained_18 rfl (lv_at hl 1 rfl) ?_
      refine lv_iconst (v := nI 0) hx hb dX0_chained_19 (by decide) ?_
      refine q_callS (rest := []) C (c_X0_branchAt l D cy N0 h (some a2) j (A2 ++ (k2, v2) :: B2) (nI 0) hB (by omega)) kX0_branchAt g796 g592 hP hS (by first | decide | omega) hl.1 rfl (by decide) (by first | decide | omega) dX0_chained_20 (fun q ce E h' H1 locs1 hE => hE.elim) (fun v hh1 H locs hq hP hS => ?_)
      obtain ⟨r8, rfl, rfl, hg8⟩ := hq
      rcases hg8 with ⟨j8, a8, k8, v8, x8, y8, z8, w8, e8, m8, rfl, f8⟩ | ⟨rfl, hg8⟩
      · have e9 := (nI_eq (a := 0) (b := j8) (by omega) (by have := (List.getElem?_eq_some_iff.mp m8).1; simp only [List.length_append, List.length_cons] at this; omega)).mp e8
        subst e9
        clear e8
        refine lv_astore_n (lv' := [(2, .ref a8), (0, .ref a1), (1, .ref a2)]) hx hb dX0_chained_23 rfl hl (by decide) rfl (fun ls hl => ?_)
        refine lv_aload_n hx hb dX0_chained_24 rfl (lv_at hl 0 rfl) ?_
        refine lv_ifnonnull (tgt := 32) hx hb dX0_chained_25 (by decide) ?_
        refine lv_aload_n hx hb dX0_chained_32 rfl (lv_at hl 1 rfl) ?_
        refine lv_aload_n hx hb dX0_chained_33 rfl (lv_at hl 0 rfl) ?_
        refine q_get C hP f8 rfl inX0 1 (by decide) g492 rfl dX0_chained_34 ?_
        refine lv_aload_n hx hb dX0_chained_37 rfl (lv_at hl 0 rfl) ?_
        refine q_get C hP f8 rfl inX0 2 (by decide) g494 rfl dX0_chained_38 ?_
        refine lv_aload_n hx hb dX0_chained_41 rfl (lv_at hl 2 rfl) ?_
        refine lv_iconst (v := nI 1) hx hb dX0_chained_42 (by decide) ?_
        refine q_callS (rest := [.long v8, .long k8, .ref a1]) C (c_X0_withoutFirst l D cy N0 _ h (some a2) j (A2 ++ (k2, v2) :: B2) 1 hB (by first | omega | (simp only [List.length_append, List.length_cons, List.length_nil]; omega)) (by omega) (Nat.lt_succ_self _)) kX0_withoutFirst g727 g725 hP hS (by first | decide | omega) hl.1 rfl (by simp [q_catrf, q_cati, q_catl, q_cata, q_catn]) (by first | decide | omega) dX0_chained_43 (fun q ce E h' H1 locs1 hE => hE.elim) (fun v hh2 H locs hq hP hS => ?_)
        obtain ⟨r71, n71, rfl, hl71, b71, w71⟩ := hq
        replace f1 := hl71 _ _ f1
        replace f2 := hl71 _ _ f2
        replace f8 := hl71 _ _ f8
        replace hA := hA.le hl71
        replace hl1 := hl1.le hl71
        replace hr1 := hr1.le hl71
        replace hB := hB.le hl71
        replace hl2 := hl2.le hl71
        replace hr2 := hr2.le hl71
        replace hle := qle_tr hle hl71
        have z71 := b71.len
        try simp only [List.length_append, List.length_cons, List.length_nil] at z71
        try simp only [List.length_drop] at z71
        refine q_callS (rest := []) C (c_X0_linked l D cy N0 _ hh2 (some a1) k8 v8 r71 i n71 (A1 ++ (k1, v1) :: B1) (List.drop 1 (A2 ++ (k2, v2) :: B2)) hA b71 (by first | omega | (simp only [List.length_append, List.length_cons, List.length_nil, List.length_take, List.length_drop, List.length_set]; omega)) (Nat.lt_succ_self _)) kX0_linked g478 g473 hP hS (by first | decide | omega) hl.1 rfl (by decide) (by first | decide | omega) dX0_chained_46 (fun q ce E h' H1 locs1 hE => hE.elim) (fun v hh3 H locs hq hP hS => ?_)
        obtain ⟨r72, n72, rfl, hl72, b72, y72, w72, u72, m72⟩ := hq
        replace f1 := hl72 _ _ f1
        replace f2 := hl72 _ _ f2
        replace f8 := hl72 _ _ f8
        replace hA := hA.le hl72
        replace hl1 := hl1.le hl72
        replace hr1 := hr1.le hl72
        replace hB := hB.le hl72
        replace hl2 := hl2.le hl72
        replace hr2 := hr2.le hl72
        replace b71 := b71.le hl72
        replace hle := qle_tr hle hl72
        have z72 := b72.len
        try simp only [List.length_append, List.length_cons, List.length_nil] at z72
        exact q_aret (v := r72) C (Or.inl ⟨_, rfl⟩) hP hS ⟨r72, n72, rfl, hle, by first | (simpa using b72) | (rw [show A2 ++ (k2, v2) :: B2 = (k8, v8) :: List.drop 1 (A2 ++ (k2, v2) :: B2) from qhd m8]; exact b72), by omega⟩ (by omega) dX0_chained_49
      · exfalso
        rcases hg8 with hg8 | ⟨j8, e8, m8, u8⟩
        · exact absurd hg8 (by decide)
        · have e9 := (nI_eq (a := 0) (b := j8) (by omega) u8).mp e8
          simp only [List.length_append, List.length_cons] at m8
          omega
