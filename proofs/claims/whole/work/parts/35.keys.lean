theorem dX0_branchWith_0 : decode cX0_branchWith 0 = .ok (.aload_n 0, 1) := by decide +kernel
theorem dX0_branchWith_1 : decode cX0_branchWith 1 = .ok (.astore_n 3, 1) := by decide +kernel
theorem dX0_branchWith_2 : decode cX0_branchWith 2 = .ok (.aload_n 3, 1) := by decide +kernel
theorem dX0_branchWith_3 : decode cX0_branchWith 3 = .ok (.ifnull 36, 3) := by decide +kernel
theorem dX0_branchWith_6 : decode cX0_branchWith 6 = .ok (.aload_n 3, 1) := by decide +kernel
theorem dX0_branchWith_7 : decode cX0_branchWith 7 = .ok (.getfield 13, 3) := by decide +kernel
theorem dX0_branchWith_10 : decode cX0_branchWith 10 = .ok (.lload_n 1, 1) := by decide +kernel
theorem dX0_branchWith_11 : decode cX0_branchWith 11 = .ok (.lcmp, 1) := by decide +kernel
theorem dX0_branchWith_12 : decode cX0_branchWith 12 = .ok (.ifCond .eq 27, 3) := by decide +kernel
theorem dX0_branchWith_15 : decode cX0_branchWith 15 = .ok (.lload_n 1, 1) := by decide +kernel
theorem dX0_branchWith_16 : decode cX0_branchWith 16 = .ok (.aload_n 3, 1) := by decide +kernel
theorem dX0_branchWith_17 : decode cX0_branchWith 17 = .ok (.getfield 13, 3) := by decide +kernel
theorem dX0_branchWith_20 : decode cX0_branchWith 20 = .ok (.lcmp, 1) := by decide +kernel
theorem dX0_branchWith_21 : decode cX0_branchWith 21 = .ok (.ifCond .ge 10, 3) := by decide +kernel
theorem dX0_branchWith_24 : decode cX0_branchWith 24 = .ok (.aload_n 3, 1) := by decide +kernel
theorem dX0_branchWith_25 : decode cX0_branchWith 25 = .ok (.getfield 7, 3) := by decide +kernel
theorem dX0_branchWith_28 : decode cX0_branchWith 28 = .ok (.goto 7, 3) := by decide +kernel
theorem dX0_branchWith_31 : decode cX0_branchWith 31 = .ok (.aload_n 3, 1) := by decide +kernel
theorem dX0_branchWith_32 : decode cX0_branchWith 32 = .ok (.getfield 20, 3) := by decide +kernel
theorem dX0_branchWith_35 : decode cX0_branchWith 35 = .ok (.astore_n 3, 1) := by decide +kernel
theorem dX0_branchWith_36 : decode cX0_branchWith 36 = .ok (.goto (-34), 3) := by decide +kernel
theorem dX0_branchWith_39 : decode cX0_branchWith 39 = .ok (.aload_n 3, 1) := by decide +kernel
theorem dX0_branchWith_40 : decode cX0_branchWith 40 = .ok (.areturn, 1) := by decide +kernel
set_option maxRecDepth 100000 in
set_option maxHeartbeats 4000000 in
theorem c_X0_branchWith (l : Launch) (D : va_G) (cy : Nat → ClassId) (N0 : Nat) (h : qH) (x : Option Nat) (n : Nat) (A : qKV) (k0 : Int64) (hA : qBr h n x A) (hL : A.length < 1000000) (hS0 : qSo A) : qC l D cy N0 yX0_branchWith cX0_branchWith 4 (some (.object RX0)) 1 20 0 0 [va_rf x, .long k0] h (fun v h' => ∃ r9, v = some (va_rf r9) ∧ h = h' ∧ qWi h A k0 r9) (fun E h' => False) := by
  refine q_ofW (by decide) (by simp [lg_sl, q_catrf, q_cati, q_catl, q_cata, q_catn]) ?_
  intro p e s m below meth c ls C hP hl
  have hx := C.1
  have hb := C.2.1
  have hS : va_S (qA N0) s.heap s.heap [] := va_S.rf
  have hl : lv_has ls 4 [(0, va_rf x), (1, .long k0)] := by simpa [lv_args, q_catrf, q_cati, q_catl, q_cata, q_catn] using hl
  have hle : qle h h := qle_rf
  refine q_aload_n hx hb dX0_branchWith_0 rfl (lv_at hl 0 rfl) ?_
  refine q_astore_n (lv' := [(3, va_rf x), (0, va_rf x), (1, .long k0)]) hx hb dX0_branchWith_1 rfl hl (by decide) rfl (fun ls hl => ?_)
  refine (?_ : ∀ (t : Nat) (H : Heap) (locs : List Loc) (ls : Array Slot) (r : Option Nat) (L1 : qKV) (n1 : Nat), n1 < t → qBr h n1 r L1 → L1.length < 1000000 → qSo L1 → lv_has ls 4 [(3, va_rf r), (1, .long k0)] → (∀ r9, qWi h L1 k0 r9 → qWi h A k0 r9) → qP D N0 h H → va_S (qA N0) s.heap H locs → W p l e _ s m _ below meth c H locs 0 0 _ (F0 m 2 ls [])) _ s.heap [] ls x A n (Nat.lt_succ_self _) hA hL hS0 (lv_sub hl [0, 2] rfl) (fun _ z => z) hP hS
  clear hl hP hS
  intro t
  induction t with
  | zero => intro H locs ls r L1 n1 ht; exact absurd ht (Nat.not_lt_zero _)
  | succ t ihl =>
    intro H locs ls r L1 n1 ht hb1 hL1 hS1 hl kk hP hS
    rcases hb1.inv with ⟨rfl, rfl, rfl⟩ | ⟨a1, l1, k1, v1, r1, i1, j1, A1, B1, rfl, f1, hl1, hr1, rfl, hg11, hg12, hg13, hg14, hg15, hg16⟩
    · refine lv_aload_nN hx hb dX0_branchWith_2 rfl (lv_at hl 0 rfl) ?_
      refine lv_ifnullN (tgt := 39) hx hb dX0_branchWith_3 (by decide) ?_
      refine lv_aload_nN hx hb dX0_branchWith_39 rfl (lv_at hl 0 rfl) ?_
      exact q_aret (v := none) C (Or.inl ⟨_, rfl⟩) hP hS ⟨none, rfl, rfl, kk _ qWi.nil⟩ (by omega) dX0_branchWith_40
    · have zl1 := hl1.len
      have zr1 := hr1.len
      have eL1 : (A1 ++ (k1, v1) :: B1).length = A1.length + (B1.length + 1) := by rw [List.length_append, List.length_cons]
      simp only [List.length_append, List.length_cons, List.length_nil] at hL1
      refine lv_aload_n hx hb dX0_branchWith_2 rfl (lv_at hl 0 rfl) ?_
      refine lv_ifnull hx hb dX0_branchWith_3 ?_
      refine lv_aload_n hx hb dX0_branchWith_6 rfl (lv_at hl 0 rfl) ?_
      refine q_get C hP f1 rfl inX0 1 (by decide) g492 rfl dX0_branchWith_7 ?_
      refine lv_lload_n hx hb dX0_branchWith_10 rfl (lv_at hl 1 rfl) ?_
      refine W.lcmp hx hb dX0_branchWith_11 ?_
      refine lv_if_eq (tgt := 39) hx hb dX0_branchWith_12 (by decide) (fun c12 => ?_) (fun c12 => ?_)
      · replace c12 : k1.toInt = k0.toInt := Int64.toInt_inj.symm.mp ((lg_cmp_eq _ _).mp c12)
        refine lv_aload_n hx hb dX0_branchWith_39 rfl (lv_at hl 0 rfl) ?_
        exact q_aret (v := (some a1)) C (Or.inl ⟨_, rfl⟩) hP hS ⟨(some a1), rfl, rfl, kk _ (by have e9 := Int64.toInt_inj.mp c12; subst e9; exact qWi.here f1)⟩ (by omega) dX0_branchWith_40
      · replace c12 : ¬ k1.toInt = k0.toInt := fun zq => c12 ((lg_cmp_eq _ _).mpr (Int64.toInt_inj.symm.mpr zq))
        refine lv_lload_n hx hb dX0_branchWith_15 rfl (lv_at hl 1 rfl) ?_
        refine lv_aload_n hx hb dX0_branchWith_16 rfl (lv_at hl 0 rfl) ?_
        refine q_get C hP f1 rfl inX0 1 (by decide) g492 rfl dX0_branchWith_17 ?_
        refine W.lcmp hx hb dX0_branchWith_20 ?_
        refine lv_if_ge (tgt := 31) hx hb dX0_branchWith_21 (by decide) (fun c21 => ?_) (fun c21 => ?_)
        · replace c21 : k1.toInt ≤ k0.toInt := Int64.le_iff_toInt_le.mp ((lg_cmp_ge _ _).mp c21)
          refine lv_aload_n hx hb dX0_branchWith_31 rfl (lv_at hl 0 rfl) ?_
          refine q_get C hP f1 rfl inX0 3 (by decide) g497 rfl dX0_branchWith_32 ?_
          refine q_astore_n (lv' := [(3, va_rf r1), (1, .long k0)]) hx hb dX0_branchWith_35 rfl hl (by decide) rfl (fun ls hl => ?_)
          refine lv_goto (tgt := 2) hx hb dX0_branchWith_36 (by decide) ?_
          exact ihl H locs ls r1 B1 j1 (by omega) hr1 (by omega) hS1.node.2.1 (lv_sub hl [0, 1] rfl) (fun r9 z => kk r9 (qWi.right hS1 (by show k1.toInt < k0.toInt; omega) z)) hP hS
        · replace c21 : ¬ k1.toInt ≤ k0.toInt := fun zq => c21 ((lg_cmp_ge _ _).mpr (Int64.le_iff_toInt_le.mpr zq))
          refine lv_aload_n hx hb dX0_branchWith_24 rfl (lv_at hl 0 rfl) ?_
          refine q_get C hP f1 rfl inX0 0 (by decide) g491 rfl dX0_branchWith_25 ?_
          refine lv_goto (tgt := 35) hx hb dX0_branchWith_28 (by decide) ?_
          refine q_astore_n (lv' := [(3, va_rf l1), (1, .long k0)]) hx hb dX0_branchWith_35 rfl hl (by decide) rfl (fun ls hl => ?_)
          refine lv_goto (tgt := 2) hx hb dX0_branchWith_36 (by decide) ?_
          exact ihl H locs ls l1 A1 i1 (by omega) hl1 (by omega) hS1.node.1 (lv_sub hl [0, 1] rfl) (fun r9 z => kk r9 (qWi.left hS1 (by show k0.toInt < k1.toInt; omega) z)) hP hS

theorem dX0_withKey_0 : decode cX0_withKey 0 = .ok (.aload_n 0, 1) := by decide +kernel
theorem dX0_withKey_1 : decode cX0_withKey 1 = .ok (.ifnonnull 15, 3) := by decide +kernel
theorem dX0_withKey_4 : decode cX0_withKey 4 = .ok (.new 8, 3) := by decide +kernel
theorem dX0_withKey_7 : decode cX0_withKey 7 = .ok (.dup, 1) := by decide +kernel
theorem dX0_withKey_8 : decode cX0_withKey 8 = .ok (.aconst_null, 1) := by decide +kernel
theorem dX0_withKey_9 : decode cX0_withKey 9 = .ok (.lload_n 1, 1) := by decide +kernel
theorem dX0_withKey_10 : decode cX0_withKey 10 = .ok (.lload_n 3, 1) := by decide +kernel
theorem dX0_withKey_11 : decode cX0_withKey 11 = .ok (.aconst_null, 1) := by decide +kernel
theorem dX0_withKey_12 : decode cX0_withKey 12 = .ok (.invokespecial 41, 3) := by decide +kernel
theorem dX0_withKey_15 : decode cX0_withKey 15 = .ok (.areturn, 1) := by decide +kernel
theorem dX0_withKey_16 : decode cX0_withKey 16 = .ok (.lload_n 1, 1) := by decide +kernel
theorem dX0_withKey_17 : decode cX0_withKey 17 = .ok (.aload_n 0, 1) := by decide +kernel
theorem dX0_withKey_18 : decode cX0_withKey 18 = .ok (.getfield 13, 3) := by decide +kernel
theorem dX0_withKey_21 : decode cX0_withKey 21 = .ok (.lcmp, 1) := by decide +kernel
theorem dX0_withKey_22 : decode cX0_withKey 22 = .ok (.ifCond .ge 28, 3) := by decide +kernel
theorem dX0_withKey_25 : decode cX0_withKey 25 = .ok (.aload_n 0, 1) := by decide +kernel
theorem dX0_withKey_26 : decode cX0_withKey 26 = .ok (.getfield 7, 3) := by decide +kernel
theorem dX0_withKey_29 : decode cX0_withKey 29 = .ok (.lload_n 1, 1) := by decide +kernel
theorem dX0_withKey_30 : decode cX0_withKey 30 = .ok (.lload_n 3, 1) := by decide +kernel
theorem dX0_withKey_31 : decode cX0_withKey 31 = .ok (.invokestatic 75, 3) := by decide +kernel
theorem dX0_withKey_34 : decode cX0_withKey 34 = .ok (.aload_n 0, 1) := by decide +kernel
theorem dX0_withKey_35 : decode cX0_withKey 35 = .ok (.getfield 13, 3) := by decide +kernel
theorem dX0_withKey_38 : decode cX0_withKey 38 = .ok (.aload_n 0, 1) := by decide +kernel
theorem dX0_withKey_39 : decode cX0_withKey 39 = .ok (.getfield 17, 3) := by decide +kernel
theorem dX0_withKey_42 : decode cX0_withKey 42 = .ok (.aload_n 0, 1) := by decide +kernel
theorem dX0_withKey_43 : decode cX0_withKey 43 = .ok (.getfield 20, 3) := by decide +kernel
theorem dX0_withKey_46 : decode cX0_withKey 46 = .ok (.invokestatic 38, 3) := by decide +kernel
theorem dX0_withKey_49 : decode cX0_withKey 49 = .ok (.areturn, 1) := by decide +kernel
theorem dX0_withKey_50 : decode cX0_withKey 50 = .ok (.lload_n 1, 1) := by decide +kernel
theorem dX0_withKey_51 : decode cX0_withKey 51 = .ok (.aload_n 0, 1) := by decide +kernel
theorem dX0_withKey_52 : decode cX0_withKey 52 = .ok (.getfield 13, 3) := by decide +kernel
theorem dX0_withKey_55 : decode cX0_withKey 55 = .ok (.lcmp, 1) := by decide +kernel
theorem dX0_withKey_56 : decode cX0_withKey 56 = .ok (.ifCond .le 28, 3) := by decide +kernel
theorem dX0_withKey_59 : decode cX0_withKey 59 = .ok (.aload_n 0, 1) := by decide +kernel
theorem dX0_withKey_60 : decode cX0_withKey 60 = .ok (.getfield 7, 3) := by decide +kernel
theorem dX0_withKey_63 : decode cX0_withKey 63 = .ok (.aload_n 0, 1) := by decide +kernel
theorem dX0_withKey_64 : decode cX0_withKey 64 = .ok (.getfield 13, 3) := by decide +kernel
theorem dX0_withKey_67 : decode cX0_withKey 67 = .ok (.aload_n 0, 1) := by decide +kernel
theorem dX0_withKey_68 : decode cX0_withKey 68 = .ok (.getfield 17, 3) := by decide +kernel
theorem dX0_withKey_71 : decode cX0_withKey 71 = .ok (.aload_n 0, 1) := by decide +kernel
theorem dX0_withKey_72 : decode cX0_withKey 72 = .ok (.getfield 20, 3) := by decide +kernel
theorem dX0_withKey_75 : decode cX0_withKey 75 = .ok (.lload_n 1, 1) := by decide +kernel
theorem dX0_withKey_76 : decode cX0_withKey 76 = .ok (.lload_n 3, 1) := by decide +kernel
theorem dX0_withKey_77 : decode cX0_withKey 77 = .ok (.invokestatic 75, 3) := by decide +kernel
theorem dX0_withKey_80 : decode cX0_withKey 80 = .ok (.invokestatic 38, 3) := by decide +kernel
theorem dX0_withKey_83 : decode cX0_withKey 83 = .ok (.areturn, 1) := by decide +kernel
theorem dX0_withKey_84 : decode cX0_withKey 84 = .ok (.new 8, 3) := by decide +kernel
theorem dX0_withKey_87 : decode cX0_withKey 87 = .ok (.dup, 1) := by decide +kernel
theorem dX0_withKey_88 : decode cX0_withKey 88 = .ok (.aload_n 0, 1) := by decide +kernel
theorem dX0_withKey_89 : decode cX0_withKey 89 = .ok (.getfield 7, 3) := by decide +kernel
theorem dX0_withKey_92 : decode cX0_withKey 92 = .ok (.lload_n 1, 1) := by decide +kernel
theorem dX0_withKey_93 : decode cX0_withKey 93 = .ok (.lload_n 3, 1) := by decide +kernel
theorem dX0_withKey_94 : decode cX0_withKey 94 = .ok (.aload_n 0, 1) := by decide +kernel
theorem dX0_withKey_95 : decode cX0_withKey 95 = .ok (.getfield 20, 3) := by decide +kernel
theorem dX0_withKey_98 : decode cX0_withKey 98 = .ok (.invokespecial 41, 3) := by decide +kernel
theorem dX0_withKey_101 : decode cX0_withKey 101 = .ok (.areturn, 1) := by decide +kernel
set_option maxRecDepth 100000 in
set_option maxHeartbeats 4000000 in
theorem c_X0_withKey (l : Launch) (D : va_G) (cy : Nat → ClassId) (N0 : Nat) (s : Nat) : ∀ (h : qH) (x : Option Nat) (n : Nat) (A : qKV) (k0 : Int64) (v0 : Int64) (hA : qBr h n x A) (hL : A.length < 1000000) (hS0 : qSo A) (hs : n < s), qC l D cy N0 yX0_withKey cX0_withKey 5 (some (.object RX0)) (4 + n) (91 + 24 * n) (1 + 3 * n) (6 + 18 * n) [va_rf x, .long k0, .long v0] h (fun v h' => ∃ (r9 : Option Nat) (n9 : Nat), v = some (va_rf r9) ∧ qle h h' ∧ qBr h' n9 r9 (qIns A k0 v0) ∧ n ≤ n9 ∧ n9 ≤ n + 1) (fun E h' => False) := by
  induction s with
  | zero => intro h x n A k0 v0 hA hL hS0 hs; exact absurd hs (Nat.not_lt_zero _)
  | succ s ih =>
    intro h x n A k0 v0 hA hL hS0 hs
    refine q_ofW (by decide) (by simp [lg_sl, q_catrf, q_cati, q_catl, q_cata, q_catn]) ?_
    intro p e s m below meth c ls C hP hl
    have hx := C.1
    have hb := C.2.1
    have hS : va_S (qA N0) s.heap s.heap [] := va_S.rf
    have hl : lv_has ls 5 [(0, va_rf x), (1, .long k0), (3, .long v0)] := by simpa [lv_args, q_catrf, q_cati, q_catl, q_cata, q_catn] using hl
    have hle : qle h h := qle_rf
    rcases hA.inv with ⟨rfl, rfl, rfl⟩ | ⟨a1, l1, k1, v1, r1, i1, j1, A1, B1, rfl, f1, hl1, hr1, rfl, hg11, hg12, hg13, hg14, hg15, hg16⟩
    · refine lv_aload_nN hx hb dX0_withKey_0 rfl (lv_at hl 0 rfl) ?_
      refine lv_ifnonnullN hx hb dX0_withKey_1 ?_
      refine q_new (ci := 0) (fs := [.null, .long 0, .long 0, .null, .int 0, .int 0]) C hP hS rfl inX0 tyX0 tyX0_ok g485 g486 g11 (fun j hj => by rcases (show j = 0 ∨ j = 1 ∨ j = 2 ∨ j = 3 ∨ j = 4 ∨ j = 5 by omega) with rfl | rfl | rfl | rfl | rfl | rfl <;> rfl) (by first | decide | omega) (by first | decide | omega) dX0_withKey_4 (fun q4 H eq4 hP hS => ?_)
      obtain ⟨hv1, ehv1⟩ : ∃ z : qH, z = qs h q4 (.inr (0, [.null, .long 0, .long 0, .null, .int 0, .int 0])) := ⟨_, rfl⟩
      rw [← ehv1] at hP
      have khv1 : ∀ b o, b ≠ q4 → h b = some o → hv1 b = some o := by rw [ehv1]; exact fun b o nb hb => (qs_ne nb).trans hb
      have kp : qKp h hv1 := fun b o hb _ => khv1 b o (qne_of eq4 hb) hb
      clear kp
      have oq4 := qle_none hle eq4
      replace hle : qle h hv1 := fun b o hb => khv1 b o (qne_of oq4 hb) (hle b o hb)
      have fq4 : hv1 q4 = some (.inr (0, [.null, .long 0, .long 0, .null, .int 0, .int 0])) := by rw [ehv1]; exact qs_self
      clear ehv1
      refine lv_dup hx hb dX0_withKey_7 rfl ?_
      refine lv_null hx hb dX0_withKey_8 ?_
      refine lv_lload_n hx hb dX0_withKey_9 rfl (lv_at hl 1 rfl) ?_
      refine lv_lload_n hx hb dX0_withKey_10 rfl (lv_at hl 2 rfl) ?_
      refine lv_null hx hb dX0_withKey_11 ?_
      refine q_callI (rest := [.ref q4]) C (c_X0_init l D cy N0 hv1 q4 none k0 v0 none 0 0 (max 0 0 + 1) ([] : qKV) ([] : qKV) fq4 qBr.nil qBr.nil (by omega) (by omega)) kX0_init g487 g488 rfl hP hS (by first | decide | omega) hl.1 rfl (by simp [q_catrf, q_cati, q_catl, q_cata, q_catn]) (by first | decide | omega) dX0_withKey_12 (fun v hh1 H locs hq hP hS => ?_)
      obtain ⟨rfl, rfl⟩ := hq
      replace hP : qP D N0 (qs hv1 q4 (.inr (0, [.null, .long k0, .long v0, .null, .int (nI (max 0 0 + 1)), .int (nI (([] : qKV).length + 1 + ([] : qKV).length))]))) H := hP
      obtain ⟨hv2, ehv2⟩ : ∃ z : qH, z = qs hv1 q4 (.inr (0, [.null, .long k0, .long v0, .null, .int (nI (max 0 0 + 1)), .int (nI (([] : qKV).length + 1 + ([] : qKV).length))])) := ⟨_, rfl⟩
      rw [← ehv2] at hP
      have khv2 : ∀ b o, b ≠ q4 → hv1 b = some o → hv2 b = some o := by rw [ehv2]; exact fun b o nb hb => (qs_ne nb).trans hb
      have kp : qKp hv1 hv2 := fun b o hb nb => khv2 b o (fun q => by subst q; exact nb (Option.some.inj (hb.symm.trans fq4))) hb
      clear kp
      replace hle : qle h hv2 := fun b o hb => khv2 b o (qne_of oq4 hb) (hle b o hb)
      replace fq4 : hv2 q4 = some (.inr (0, [.null, .long k0, .long v0, .null, .int (nI (max 0 0 + 1)), .int (nI (([] : qKV).length + 1 + ([] : qKV).length))])) := by rw [ehv2]; exact qs_self
      clear ehv2
      have bq4 := qBr.mk fq4 qBr.nil qBr.nil ⟨by omega, by omega, by omega, by omega, by omega, by omega⟩
      exact q_aret (v := (some q4)) C (Or.inl ⟨_, rfl⟩) hP hS ⟨(some q4), (max 0 0 + 1), rfl, hle, by rw [qIns_nil]; exact bq4, by omega, by omega⟩ (by omega) dX0_withKey_15
    · have zl1 := hl1.len
      have zr1 := hr1.len
      have eL1 : (A1 ++ (k1, v1) :: B1).length = A1.length + (B1.length + 1) := by rw [List.length_append, List.length_cons]
      simp only [List.length_append, List.length_cons, List.length_nil] at hL
      obtain ⟨sA, sB, lA, lB⟩ := hS0.node
      refine lv_aload_n hx hb dX0_withKey_0 rfl (lv_at hl 0 rfl) ?_
      refine lv_ifnonnull (tgt := 16) hx hb dX0_withKey_1 (by decide) ?_
      refine lv_lload_n hx hb dX0_withKey_16 rfl (lv_at hl 1 rfl) ?_
      refine lv_aload_n hx hb dX0_withKey_17 rfl (lv_at hl 0 rfl) ?_
      refine q_get C hP f1 rfl inX0 1 (by decide) g492 rfl dX0_withKey_18 ?_
      refine W.lcmp hx hb dX0_withKey_21 ?_
      refine lv_if_ge (tgt := 50) hx hb dX0_withKey_22 (by decide) (fun c22 => ?_) (fun c22 => ?_)
      · replace c22 : k1.toInt ≤ k0.toInt := Int64.le_iff_toInt_le.mp ((lg_cmp_ge _ _).mp c22)
        refine lv_lload_n hx hb dX0_withKey_50 rfl (lv_at hl 1 rfl) ?_
        refine lv_aload_n hx hb dX0_withKey_51 rfl (lv_at hl 0 rfl) ?_
        refine q_get C hP f1 rfl inX0 1 (by decide) g492 rfl dX0_withKey_52 ?_
        refine W.lcmp hx hb dX0_withKey_55 ?_
        refine lv_if_le (tgt := 84) hx hb dX0_withKey_56 (by decide) (fun c56 => ?_) (fun c56 => ?_)
        · replace c56 : k0.toInt ≤ k1.toInt := Int64.le_iff_toInt_le.mp ((lg_cmp_le _ _).mp c56)
          refine q_new (ci := 0) (fs := [.null, .long 0, .long 0, .null, .int 0, .int 0]) C hP hS rfl inX0 tyX0 tyX0_ok g485 g486 g11 (fun j hj => by rcases (show j = 0 ∨ j = 1 ∨ j = 2 ∨ j = 3 ∨ j = 4 ∨ j = 5 by omega) with rfl | rfl | rfl | rfl | rfl | rfl <;> rfl) (by first | decide | omega) (by first | decide | omega) dX0_withKey_84 (fun q84 H eq84 hP hS => ?_)
          obtain ⟨hv3, ehv3⟩ : ∃ z : qH, z = qs h q84 (.inr (0, [.null, .long 0, .long 0, .null, .int 0, .int 0])) := ⟨_, rfl⟩
          rw [← ehv3] at hP
          have khv3 : ∀ b o, b ≠ q84 → h b = some o → hv3 b = some o := by rw [ehv3]; exact fun b o nb hb => (qs_ne nb).trans hb
          have kp : qKp h hv3 := fun b o hb _ => khv3 b o (qne_of eq84 hb) hb
          replace hA := hA.kp kp
          replace hl1 := hl1.kp kp
          replace hr1 := hr1.kp kp
          clear kp
          have n_q84_a1 : a1 ≠ q84 := qne_of eq84 f1
          replace f1 := khv3 _ _ n_q84_a1 f1
          have oq84 := qle_none hle eq84
          replace hle : qle h hv3 := fun b o hb => khv3 b o (qne_of oq84 hb) (hle b o hb)
          have fq84 : hv3 q84 = some (.inr (0, [.null, .long 0, .long 0, .null, .int 0, .int 0])) := by rw [ehv3]; exact qs_self
          clear ehv3
          refine lv_dup hx hb dX0_withKey_87 rfl ?_
          refine lv_aload_n hx hb dX0_withKey_88 rfl (lv_at hl 0 rfl) ?_
          refine q_get C hP f1 rfl inX0 0 (by decide) g491 rfl dX0_withKey_89 ?_
          refine lv_lload_n hx hb dX0_withKey_92 rfl (lv_at hl 1 rfl) ?_
          refine lv_lload_n hx hb dX0_withKey_93 rfl (lv_at hl 2 rfl) ?_
          refine lv_aload_n hx hb dX0_withKey_94 rfl (lv_at hl 0 rfl) ?_
          refine q_get C hP f1 rfl inX0 3 (by decide) g497 rfl dX0_withKey_95 ?_
          refine q_callI (rest := [.ref q84]) C (c_X0_init l D cy N0 hv3 q84 l1 k0 v0 r1 i1 j1 (max i1 j1 + 1) A1 B1 fq84 hl1 hr1 (by omega) (by omega)) kX0_init g487 g488 rfl hP hS (by first | decide | omega) hl.1 rfl (by simp [q_catrf, q_cati, q_catl, q_cata, q_catn]) (by first | decide | omega) dX0_withKey_98 (fun v hh2 H locs hq hP hS => ?_)
          obtain ⟨rfl, rfl⟩ := hq
          replace hP : qP D N0 (qs hv3 q84 (.inr (0, [va_rf l1, .long k0, .long v0, va_rf r1, .int (nI (max i1 j1 + 1)), .int (nI (A1.length + 1 + B1.length))]))) H := hP
          obtain ⟨hv4, ehv4⟩ : ∃ z : qH, z = qs hv3 q84 (.inr (0, [va_rf l1, .long k0, .long v0, va_rf r1, .int (nI (max i1 j1 + 1)), .int (nI (A1.length + 1 + B1.length))])) := ⟨_, rfl⟩
          rw [← ehv4] at hP
          have khv4 : ∀ b o, b ≠ q84 → hv3 b = some o → hv4 b = some o := by rw [ehv4]; exact fun b o nb hb => (qs_ne nb).trans hb
          have kp : qKp hv3 hv4 := fun b o hb nb => khv4 b o (fun q => by subst q; exact nb (Option.some.inj (hb.symm.trans fq84))) hb
          replace hA := hA.kp kp
          replace hl1 := hl1.kp kp
          replace hr1 := hr1.kp kp
          clear kp
          replace f1 := khv4 _ _ n_q84_a1 f1
          replace hle : qle h hv4 := fun b o hb => khv4 b o (qne_of oq84 hb) (hle b o hb)
          replace fq84 : hv4 q84 = some (.inr (0, [va_rf l1, .long k0, .long v0, va_rf r1, .int (nI (max i1 j1 + 1)), .int (nI (A1.length + 1 + B1.length))])) := by rw [ehv4]; exact qs_self
          clear ehv4
          have bq84 := qBr.mk fq84 hl1 hr1 ⟨by omega, by omega, by omega, by omega, by omega, by omega⟩
          exact q_aret (v := (some q84)) C (Or.inl ⟨_, rfl⟩) hP hS ⟨(some q84), (max i1 j1 + 1), rfl, hle, by first | (rw [qIns_l hS0 (by show k0.toInt < k1.toInt; omega)]; exact bq84) | (rw [qIns_r hS0 (by show k1.toInt < k0.toInt; omega)]; exact bq84) | (rw [qIns_m hS0 (by show k0.toInt = k1.toInt; omega)]; exact bq84), by omega, by omega⟩ (by omega) dX0_withKey_101
        · replace c56 : ¬ k0.toInt ≤ k1.toInt := fun zq => c56 ((lg_cmp_le _ _).mpr (Int64.le_iff_toInt_le.mpr zq))
          refine lv_aload_n hx hb dX0_withKey_59 rfl (lv_at hl 0 rfl) ?_
          refine q_get C hP f1 rfl inX0 0 (by decide) g491 rfl dX0_withKey_60 ?_
          refine lv_aload_n hx hb dX0_withKey_63 rfl (lv_at hl 0 rfl) ?_
          refine q_get C hP f1 rfl inX0 1 (by decide) g492 rfl dX0_withKey_64 ?_
          refine lv_aload_n hx hb dX0_withKey_67 rfl (lv_at hl 0 rfl) ?_
          refine q_get C hP f1 rfl inX0 2 (by decide) g494 rfl dX0_withKey_68 ?_
          refine lv_aload_n hx hb dX0_withKey_71 rfl (lv_at hl 0 rfl) ?_
          refine q_get C hP f1 rfl inX0 3 (by decide) g497 rfl dX0_withKey_72 ?_
          refine lv_lload_n hx hb dX0_withKey_75 rfl (lv_at hl 1 rfl) ?_
          refine lv_lload_n hx hb dX0_withKey_76 rfl (lv_at hl 2 rfl) ?_
          refine q_callS (rest := [.long v1, .long k1, va_rf l1]) C (ih h r1 j1 B1 k0 v0 hr1 (by omega) sB (by omega)) kX0_withKey g762 g760 hP hS (by first | decide | omega) hl.1 rfl (by simp [q_catrf, q_cati, q_catl, q_cata, q_catn]) (by first | decide | omega) dX0_withKey_77 (fun q ce E h' H1 locs1 hE => hE.elim) (fun v hh3 H locs hq hP hS => ?_)
          obtain ⟨r75, n75, rfl, hl75, b75, y75, w75⟩ := hq
          replace f1 := hl75 _ _ f1
          replace hA := hA.le hl75
          replace hl1 := hl1.le hl75
          replace hr1 := hr1.le hl75
          replace hle := qle_tr hle hl75
          have z75 := b75.len
          try simp only [List.length_append, List.length_cons, List.length_nil] at z75
          have zz75 := qIns_len (k := k0) (v := v0) sB
          refine q_callS (rest := []) C (c_X0_balanced l D cy N0 hh3 l1 k1 v1 r75 i1 n75 A1 (qIns B1 k0 v0) hl1 b75 (by first | omega | (simp only [List.length_append, List.length_cons, List.length_nil, List.length_take, List.length_drop, List.length_set]; omega)) (by omega)) kX0_balanced g479 g480 hP hS (by first | decide | omega) hl.1 rfl (by decide) (by first | decide | omega) dX0_withKey_80 (fun q ce E h' H1 locs1 hE => hE.elim) (fun v hh4 H locs hq hP hS => ?_)
          obtain ⟨r76, n76, rfl, hl76, b76, y76, w76, u76, m76⟩ := hq
          replace f1 := hl76 _ _ f1
          replace hA := hA.le hl76
          replace hl1 := hl1.le hl76
          replace hr1 := hr1.le hl76
          replace b75 := b75.le hl76
          replace hle := qle_tr hle hl76
          have z76 := b76.len
          try simp only [List.length_append, List.length_cons, List.length_nil] at z76
          exact q_aret (v := r76) C (Or.inl ⟨_, rfl⟩) hP hS ⟨r76, n76, rfl, hle, by first | (rw [qIns_l hS0 (by show k0.toInt < k1.toInt; omega)]; exact b76) | (rw [qIns_r hS0 (by show k1.toInt < k0.toInt; omega)]; exact b76) | (rw [qIns_m hS0 (by show k0.toInt = k1.toInt; omega)]; exact b76), by omega, by omega⟩ (by omega) dX0_withKey_83
      · replace c22 : ¬ k1.toInt ≤ k0.toInt := fun zq => c22 ((lg_cmp_ge _ _).mpr (Int64.le_iff_toInt_le.mpr zq))
        refine lv_aload_n hx hb dX0_withKey_25 rfl (lv_at hl 0 rfl) ?_
        refine q_get C hP f1 rfl inX0 0 (by decide) g491 rfl dX0_withKey_26 ?_
        refine lv_lload_n hx hb dX0_withKey_29 rfl (lv_at hl 1 rfl) ?_
        refine lv_lload_n hx hb dX0_withKey_30 rfl (lv_at hl 2 rfl) ?_
        refine q_callS (rest := []) C (ih h l1 i1 A1 k0 v0 hl1 (by omega) sA (by omega)) kX0_withKey g762 g760 hP hS (by first | decide | omega) hl.1 rfl (by decide) (by first | decide | omega) dX0_withKey_31 (fun q ce E h' H1 locs1 hE => hE.elim) (fun v hh5 H locs hq hP hS => ?_)
        obtain ⟨r77, n77, rfl, hl77, b77, y77, w77⟩ := hq
        replace f1 := hl77 _ _ f1
        replace hA := hA.le hl77
        replace hl1 := hl1.le hl77
        replace hr1 := hr1.le hl77
        replace hle := qle_tr hle hl77
        have z77 := b77.len
        try simp only [List.length_append, List.length_cons, List.length_nil] at z77
        have zz77 := qIns_len (k := k0) (v := v0) sA
        refine lv_aload_n hx hb dX0_withKey_34 rfl (lv_at hl 0 rfl) ?_
        refine q_get C hP f1 rfl inX0 1 (by decide) g492 rfl dX0_withKey_35 ?_
        refine lv_aload_n hx hb dX0_withKey_38 rfl (lv_at hl 0 rfl) ?_
        refine q_get C hP f1 rfl inX0 2 (by decide) g494 rfl dX0_withKey_39 ?_
        refine lv_aload_n hx hb dX0_withKey_42 rfl (lv_at hl 0 rfl) ?_
        refine q_get C hP f1 rfl inX0 3 (by decide) g497 rfl dX0_withKey_43 ?_
        refine q_callS (rest := []) C (c_X0_balanced l D cy N0 hh5 r77 k1 v1 r1 n77 j1 (qIns A1 k0 v0) B1 b77 hr1 (by first | omega | (simp only [List.length_append, List.length_cons, List.length_nil, List.length_take, List.length_drop, List.length_set]; omega)) (by omega)) kX0_balanced g479 g480 hP hS (by first | decide | omega) hl.1 rfl (by decide) (by first | decide | omega) dX0_withKey_46 (fun q ce E h' H1 locs1 hE => hE.elim) (fun v hh6 H locs hq hP hS => ?_)
        obtain ⟨r78, n78, rfl, hl78, b78, y78, w78, u78, m78⟩ := hq
        replace f1 := hl78 _ _ f1
        replace hA := hA.le hl78
        replace hl1 := hl1.le hl78
        replace hr1 := hr1.le hl78
        replace b77 := b77.le hl78
        replace hle := qle_tr hle hl78
        have z78 := b78.len
        try simp only [List.length_append, List.length_cons, List.length_nil] at z78
        exact q_aret (v := r78) C (Or.inl ⟨_, rfl⟩) hP hS ⟨r78, n78, rfl, hle, by first | (rw [qIns_l hS0 (by show k0.toInt < k1.toInt; omega)]; exact b78) | (rw [qIns_r hS0 (by show k1.toInt < k0.toInt; omega)]; exact b78) | (rw [qIns_m hS0 (by show k0.toInt = k1.toInt; omega)]; exact b78), by omega, by omega⟩ (by omega) dX0_withKey_49

theorem dX0_below_0 : decode cX0_below 0 = .ok (.aload_n 0, 1) := by decide +kernel
theorem dX0_below_1 : decode cX0_below 1 = .ok (.ifnonnull 5, 3) := by decide +kernel
theorem dX0_below_4 : decode cX0_below 4 = .ok (.aconst_null, 1) := by decide +kernel
theorem dX0_below_5 : decode cX0_below 5 = .ok (.areturn, 1) := by decide +kernel
theorem dX0_below_6 : decode cX0_below 6 = .ok (.aload_n 0, 1) := by decide +kernel
theorem dX0_below_7 : decode cX0_below 7 = .ok (.getfield 13, 3) := by decide +kernel
theorem dX0_below_10 : decode cX0_below 10 = .ok (.lload_n 1, 1) := by decide +kernel
theorem dX0_below_11 : decode cX0_below 11 = .ok (.lcmp, 1) := by decide +kernel
theorem dX0_below_12 : decode cX0_below 12 = .ok (.ifCond .lt 12, 3) := by decide +kernel
theorem dX0_below_15 : decode cX0_below 15 = .ok (.aload_n 0, 1) := by decide +kernel
theorem dX0_below_16 : decode cX0_below 16 = .ok (.getfield 7, 3) := by decide +kernel
theorem dX0_below_19 : decode cX0_below 19 = .ok (.lload_n 1, 1) := by decide +kernel
theorem dX0_below_20 : decode cX0_below 20 = .ok (.invokestatic 83, 3) := by decide +kernel
theorem dX0_below_23 : decode cX0_below 23 = .ok (.areturn, 1) := by decide +kernel
theorem dX0_below_24 : decode cX0_below 24 = .ok (.aload_n 0, 1) := by decide +kernel
theorem dX0_below_25 : decode cX0_below 25 = .ok (.getfield 7, 3) := by decide +kernel
theorem dX0_below_28 : decode cX0_below 28 = .ok (.aload_n 0, 1) := by decide +kernel
theorem dX0_below_29 : decode cX0_below 29 = .ok (.getfield 13, 3) := by decide +kernel
theorem dX0_below_32 : decode cX0_below 32 = .ok (.aload_n 0, 1) := by decide +kernel
theorem dX0_below_33 : decode cX0_below 33 = .ok (.getfield 17, 3) := by decide +kernel
theorem dX0_below_36 : decode cX0_below 36 = .ok (.aload_n 0, 1) := by decide +kernel
theorem dX0_below_37 : decode cX0_below 37 = .ok (.getfield 20, 3) := by decide +kernel
theorem dX0_below_40 : decode cX0_below 40 = .ok (.lload_n 1, 1) := by decide +kernel
theorem dX0_below_41 : decode cX0_below 41 = .ok (.invokestatic 83, 3) := by decide +kernel
theorem dX0_below_44 : decode cX0_below 44 = .ok (.invokestatic 34, 3) := by decide +kernel
theorem dX0_below_47 : decode cX0_below 47 = .ok (.areturn, 1) := by decide +kernel
set_option maxRecDepth 100000 in
set_option maxHeartbeats 4000000 in
theorem c_X0_below (l : Launch) (D : va_G) (cy : Nat → ClassId) (N0 : Nat) (s : Nat) : ∀ (h : qH) (x : Option Nat) (n : Nat) (A : qKV) (k0 : Int64) (hA : qBr h n x A) (hL : A.length < 1000000) (hS0 : qSo A) (hs : n < s), qC l D cy N0 yX0_below cX0_below 3 (some (.object RX0)) (5 + 2 * n) (117 + 48 * n) (qTc n) (6 * qTc n) [va_rf x, .long k0] h (fun v h' => ∃ (r9 : Option Nat) (n9 : Nat), v = some (va_rf r9) ∧ qle h h' ∧ qBr h' n9 r9 ((qLo A k0)) ∧ n9 ≤ n) (fun E h' => False) := by
  induction s with
  | zero => intro h x n A k0 hA hL hS0 hs; exact absurd hs (Nat.not_lt_zero _)
  | succ s ih =>
    intro h x n A k0 hA hL hS0 hs
    refine q_ofW (by decide) (by simp [lg_sl, q_catrf, q_cati, q_catl, q_cata, q_catn]) ?_
    intro p e s m below meth c ls C hP hl
    have hx := C.1
    have hb := C.2.1
    have hS : va_S (qA N0) s.heap s.heap [] := va_S.rf
    have hl : lv_has ls 3 [(0, va_rf x), (1, .long k0)] := by simpa [lv_args, q_catrf, q_cati, q_catl, q_cata, q_catn] using hl
    have hle : qle h h := qle_rf
    rcases hA.inv with ⟨rfl, rfl, rfl⟩ | ⟨a1, l1, k1, v1, r1, i1, j1, A1, B1, rfl, f1, hl1, hr1, rfl, hg11, hg12, hg13, hg14, hg15, hg16⟩
    · refine lv_aload_nN hx hb dX0_below_0 rfl (lv_at hl 0 rfl) ?_
      refine lv_ifnonnullN hx hb dX0_below_1 ?_
      refine lv_null hx hb dX0_below_4 ?_
      exact q_aret (v := none) C (Or.inl ⟨_, rfl⟩) hP hS ⟨none, 0, rfl, hle, qBr.nil, by omega⟩ (by omega) dX0_below_5
    · have zl1 := hl1.len
      have zr1 := hr1.len
      have eL1 : (A1 ++ (k1, v1) :: B1).length = A1.length + (B1.length + 1) := by rw [List.length_append, List.length_cons]
      simp only [List.length_append, List.length_cons, List.length_nil] at hL
      obtain ⟨sA, sB, lA, lB⟩ := hS0.node
      have tl := qTc_step hg11
      have tr := qTc_step hg12
      refine lv_aload_n hx hb dX0_below_0 rfl (lv_at hl 0 rfl) ?_
      refine lv_ifnonnull (tgt := 6) hx hb dX0_below_1 (by decide) ?_
      refine lv_aload_n hx hb dX0_below_6 rfl (lv_at hl 0 rfl) ?_
      refine q_get C hP f1 rfl inX0 1 (by decide) g492 rfl dX0_below_7 ?_
      refine lv_lload_n hx hb dX0_below_10 rfl (lv_at hl 1 rfl) ?_
      refine W.lcmp hx hb dX0_below_11 ?_
      refine lv_if_lt (tgt := 24) hx hb dX0_below_12 (by decide) (fun c12 => ?_) (fun c12 => ?_)
      · replace c12 : k1.toInt < k0.toInt := Int64.lt_iff_toInt_lt.mp ((lg_cmp_lt _ _).mp c12)
        refine lv_aload_n hx hb dX0_below_24 rfl (lv_at hl 0 rfl) ?_
        refine q_get C hP f1 rfl inX0 0 (by decide) g491 rfl dX0_below_25 ?_
        refine lv_aload_n hx hb dX0_below_28 rfl (lv_at hl 0 rfl) ?_
        refine q_get C hP f1 rfl inX0 1 (by decide) g492 rfl dX0_below_29 ?_
        refine lv_aload_n hx hb dX0_below_32 rfl (lv_at hl 0 rfl) ?_
        refine q_get C hP f1 rfl inX0 2 (by decide) g494 rfl dX0_below_33 ?_
        refine lv_aload_n hx hb dX0_below_36 rfl (lv_at hl 0 rfl) ?_
        refine q_get C hP f1 rfl inX0 3 (by decide) g497 rfl dX0_below_37 ?_
        refine lv_lload_n hx hb dX0_below_40 rfl (lv_at hl 1 rfl) ?_
        refine q_callS (rest := [.long v1, .long k1, va_rf l1]) C (ih h r1 j1 B1 k0 hr1 (by omega) sB (by omega)) kX0_below g787 g788 hP hS (by first | decide | omega) hl.1 rfl (by simp [q_catrf, q_cati, q_catl, q_cata, q_catn]) (by first | decide | omega) dX0_below_41 (fun q ce E h' H1 locs1 hE => hE.elim) (fun v hh1 H locs hq hP hS => ?_)
        obtain ⟨r79, n79, rfl, hl79, b79, w79⟩ := hq
        replace f1 := hl79 _ _ f1
        replace hA := hA.le hl79
        replace hl1 := hl1.le hl79
        replace hr1 := hr1.le hl79
        replace hle := qle_tr hle hl79
        have z79 := b79.len
        try simp only [List.length_append, List.length_cons, List.length_nil] at z79
        have zz79 := qLo_len (L := B1) (k := k0)
        refine q_callS (rest := []) C (c_X0_linked l D cy N0 _ hh1 l1 k1 v1 r79 i1 n79 A1 (qLo B1 k0) hl1 b79 (by first | omega | (simp only [List.length_append, List.length_cons, List.length_nil, List.length_take, List.length_drop, List.length_set]; omega)) (Nat.lt_succ_self _)) kX0_linked g478 g473 hP hS (by first | decide | omega) hl.1 rfl (by decide) (by first | decide | omega) dX0_below_44 (fun q ce E h' H1 locs1 hE => hE.elim) (fun v hh2 H locs hq hP hS => ?_)
        obtain ⟨r80, n80, rfl, hl80, b80, y80, w80, u80, m80⟩ := hq
        replace f1 := hl80 _ _ f1
        replace hA := hA.le hl80
        replace hl1 := hl1.le hl80
        replace hr1 := hr1.le hl80
        replace b79 := b79.le hl80
        replace hle := qle_tr hle hl80
        have z80 := b80.len
        try simp only [List.length_append, List.length_cons, List.length_nil] at z80
        exact q_aret (v := r80) C (Or.inl ⟨_, rfl⟩) hP hS ⟨r80, n80, rfl, hle, by first | (rw [qLo_ge hS0 (by show k0.toInt ≤ k1.toInt; omega)]; exact b80) | (rw [qLo_lt hS0 (by show k1.toInt < k0.toInt; omega)]; exact b80), by omega⟩ (by omega) dX0_below_47
      · replace c12 : ¬ k1.toInt < k0.toInt := fun zq => c12 ((lg_cmp_lt _ _).mpr (Int64.lt_iff_toInt_lt.mpr zq))
        refine lv_aload_n hx hb dX0_below_15 rfl (lv_at hl 0 rfl) ?_
        refine q_get C hP f1 rfl inX0 0 (by decide) g491 rfl dX0_below_16 ?_
        refine lv_lload_n hx hb dX0_below_19 rfl (lv_at hl 1 rfl) ?_
        refine q_callS (rest := []) C (ih h l1 i1 A1 k0 hl1 (by omega) sA (by omega)) kX0_below g787 g788 hP hS (by first | decide | omega) hl.1 rfl (by decide) (by first | decide | omega) dX0_below_20 (fun q ce E h' H1 locs1 hE => hE.elim) (fun v hh3 H locs hq hP hS => ?_)
        obtain ⟨r81, n81, rfl, hl81, b81, w81⟩ := hq
        replace f1 := hl81 _ _ f1
        replace hA := hA.le hl81
        replace hl1 := hl1.le hl81
        replace hr1 := hr1.le hl81
        replace hle := qle_tr hle hl81
        have z81 := b81.len
        try simp only [List.length_append, List.length_cons, List.length_nil] at z81
        have zz81 := qLo_len (L := A1) (k := k0)
        exact q_aret (v := r81) C (Or.inl ⟨_, rfl⟩) hP hS ⟨r81, n81, rfl, hle, by first | (rw [qLo_ge hS0 (by show k0.toInt ≤ k1.toInt; omega)]; exact b81) | (rw [qLo_lt hS0 (by show k1.toInt < k0.toInt; omega)]; exact b81), by omega⟩ (by omega) dX0_below_23

theorem dX0_above_0 : decode cX0_above 0 = .ok (.aload_n 0, 1) := by decide +kernel
theorem dX0_above_1 : decode cX0_above 1 = .ok (.ifnonnull 5, 3) := by decide +kernel
theorem dX0_above_4 : decode cX0_above 4 = .ok (.aconst_null, 1) := by decide +kernel
theorem dX0_above_5 : decode cX0_above 5 = .ok (.areturn, 1) := by decide +kernel
theorem dX0_above_6 : decode cX0_above 6 = .ok (.aload_n 0, 1) := by decide +kernel
theorem dX0_above_7 : decode cX0_above 7 = .ok (.getfield 13, 3) := by decide +kernel
theorem dX0_above_10 : decode cX0_above 10 = .ok (.lload_n 1, 1) := by decide +kernel
theorem dX0_above_11 : decode cX0_above 11 = .ok (.lcmp, 1) := by decide +kernel
theorem dX0_above_12 : decode cX0_above 12 = .ok (.ifCond .lt 16, 3) := by decide +kernel
theorem dX0_above_15 : decode cX0_above 15 = .ok (.aload_n 0, 1) := by decide +kernel
theorem dX0_above_16 : decode cX0_above 16 = .ok (.getfield 13, 3) := by decide +kernel
theorem dX0_above_19 : decode cX0_above 19 = .ok (.lload_n 1, 1) := by decide +kernel
theorem dX0_above_20 : decode cX0_above 20 = .ok (.lcmp, 1) := by decide +kernel
theorem dX0_above_21 : decode cX0_above 21 = .ok (.ifCond .ne 17, 3) := by decide +kernel
theorem dX0_above_24 : decode cX0_above 24 = .ok (.iload_n 3, 1) := by decide +kernel
theorem dX0_above_25 : decode cX0_above 25 = .ok (.ifCond .ne 13, 3) := by decide +kernel
theorem dX0_above_28 : decode cX0_above 28 = .ok (.aload_n 0, 1) := by decide +kernel
theorem dX0_above_29 : decode cX0_above 29 = .ok (.getfield 20, 3) := by decide +kernel
theorem dX0_above_32 : decode cX0_above 32 = .ok (.lload_n 1, 1) := by decide +kernel
theorem dX0_above_33 : decode cX0_above 33 = .ok (.iload_n 3, 1) := by decide +kernel
theorem dX0_above_34 : decode cX0_above 34 = .ok (.invokestatic 86, 3) := by decide +kernel
theorem dX0_above_37 : decode cX0_above 37 = .ok (.areturn, 1) := by decide +kernel
theorem dX0_above_38 : decode cX0_above 38 = .ok (.aload_n 0, 1) := by decide +kernel
theorem dX0_above_39 : decode cX0_above 39 = .ok (.getfield 7, 3) := by decide +kernel
theorem dX0_above_42 : decode cX0_above 42 = .ok (.lload_n 1, 1) := by decide +kernel
theorem dX0_above_43 : decode cX0_above 43 = .ok (.iload_n 3, 1) := by decide +kernel
theorem dX0_above_44 : decode cX0_above 44 = .ok (.invokestatic 86, 3) := by decide +kernel
theorem dX0_above_47 : decode cX0_above 47 = .ok (.aload_n 0, 1) := by decide +kernel
theorem dX0_above_48 : decode cX0_above 48 = .ok (.getfield 13, 3) := by decide +kernel
theorem dX0_above_51 : decode cX0_above 51 = .ok (.aload_n 0, 1) := by decide +kernel
theorem dX0_above_52 : decode cX0_above 52 = .ok (.getfield 17, 3) := by decide +kernel
theorem dX0_above_55 : decode cX0_above 55 = .ok (.aload_n 0, 1) := by decide +kernel
theorem dX0_above_56 : decode cX0_above 56 = .ok (.getfield 20, 3) := by decide +kernel
theorem dX0_above_59 : decode cX0_above 59 = .ok (.invokestatic 34, 3) := by decide +kernel
theorem dX0_above_62 : decode cX0_above 62 = .ok (.areturn, 1) := by decide +kernel
set_option maxRecDepth 100000 in
set_option maxHeartbeats 4000000 in
theorem c_X0_above (l : Launch) (D : va_G) (cy : Nat → ClassId) (N0 : Nat) (s : Nat) : ∀ (h : qH) (x : Option Nat) (n : Nat) (A : qKV) (k0 : Int64) (z0 : Int32) (hA : qBr h n x A) (hL : A.length < 1000000) (hS0 : qSo A) (hs : n < s), qC l D cy N0 yX0_above cX0_above 4 (some (.object RX0)) (5 + 2 * n) (117 + 48 * n) (qTc n) (6 * qTc n) [va_rf x, .long k0, .int z0] h (fun v h' => ∃ (r9 : Option Nat) (n9 : Nat), v = some (va_rf r9) ∧ qle h h' ∧ qBr h' n9 r9 ((qAb A k0 z0)) ∧ n9 ≤ n) (fun E h' => False) := by
  induction s with
  | zero => intro h x n A k0 z0 hA hL hS0 hs; exact absurd hs (Nat.not_lt_zero _)
  | succ s ih =>
    intro h x n A k0 z0 hA hL hS0 hs
    refine q_ofW (by decide) (by simp [lg_sl, q_catrf, q_cati, q_catl, q_cata, q_catn]) ?_
    intro p e s m below meth c ls C hP hl
    have hx := C.1
    have hb := C.2.1
    have hS : va_S (qA N0) s.heap s.heap [] := va_S.rf
    have hl : lv_has ls 4 [(0, va_rf x), (1, .long k0), (3, .int z0)] := by simpa [lv_args, q_catrf, q_cati, q_catl, q_cata, q_catn] using hl
    have hle : qle h h := qle_rf
    rcases hA.inv with ⟨rfl, rfl, rfl⟩ | ⟨a1, l1, k1, v1, r1, i1, j1, A1, B1, rfl, f1, hl1, hr1, rfl, hg11, hg12, hg13, hg14, hg15, hg16⟩
    · refine lv_aload_nN hx hb dX0_above_0 rfl (lv_at hl 0 rfl) ?_
      refine lv_ifnonnullN hx hb dX0_above_1 ?_
      refine lv_null hx hb dX0_above_4 ?_
      exact q_aret (v := none) C (Or.inl ⟨_, rfl⟩) hP hS ⟨none, 0, rfl, hle, qBr.nil, by omega⟩ (by omega) dX0_above_5
    · have zl1 := hl1.len
      have zr1 := hr1.len
      have eL1 : (A1 ++ (k1, v1) :: B1).length = A1.length + (B1.length + 1) := by rw [List.length_append, List.length_cons]
      simp only [List.length_append, List.length_cons, List.length_nil] at hL
      obtain ⟨sA, sB, lA, lB⟩ := hS0.node
      have tl := qTc_step hg11
      have tr := qTc_step hg12
      refine lv_aload_n hx hb dX0_above_0 rfl (lv_at hl 0 rfl) ?_
      refine lv_ifnonnull (tgt := 6) hx hb dX0_above_1 (by decide) ?_
      refine lv_aload_n hx hb dX0_above_6 rfl (lv_at hl 0 rfl) ?_
      refine q_get C hP f1 rfl inX0 1 (by decide) g492 rfl dX0_above_7 ?_
      refine lv_lload_n hx hb dX0_above_10 rfl (lv_at hl 1 rfl) ?_
      refine W.lcmp hx hb dX0_above_11 ?_
      refine lv_if_lt (tgt := 28) hx hb dX0_above_12 (by decide) (fun c12 => ?_) (fun c12 => ?_)
      · replace c12 : k1.toInt < k0.toInt := Int64.lt_iff_toInt_lt.mp ((lg_cmp_lt _ _).mp c12)
        refine lv_aload_n hx hb dX0_above_28 rfl (lv_at hl 0 rfl) ?_
        refine q_get C hP f1 rfl inX0 3 (by decide) g497 rfl dX0_above_29 ?_
        refine lv_lload_n hx hb dX0_above_32 rfl (lv_at hl 1 rfl) ?_
        refine lv_iload_n hx hb dX0_above_33 rfl (lv_at hl 2 rfl) ?_
        refine q_callS (rest := []) C (ih h r1 j1 B1 k0 z0 hr1 (by omega) sB (by omega)) kX0_above g790 g791 hP hS (by first | decide | omega) hl.1 rfl (by decide) (by first | decide | omega) dX0_above_34 (fun q ce E h' H1 locs1 hE => hE.elim) (fun v hh1 H locs hq hP hS => ?_)
        obtain ⟨r82, n82, rfl, hl82, b82, w82⟩ := hq
        replace f1 := hl82 _ _ f1
        replace hA := hA.le hl82
        replace hl1 := hl1.le hl82
        replace hr1 := hr1.le hl82
        replace hle := qle_tr hle hl82
        have z82 := b82.len
        try simp only [List.length_append, List.length_cons, List.length_nil] at z82
        have zz82 := qAb_len (L := B1) (k := k0) (z := z0)
        exact q_aret (v := r82) C (Or.inl ⟨_, rfl⟩) hP hS ⟨r82, n82, rfl, hle, by first | (rw [qAb_ge hS0 (by first | exact Or.inl (by show k0.toInt < k1.toInt; omega) | exact Or.inr ⟨Int64.toInt_inj.mp (by assumption), by assumption⟩)]; exact b82) | (rw [qAb_lt hS0 (fun q => q.elim (fun q => by (have q : k0.toInt < k1.toInt := q; omega)) (fun q => by first | exact q.2 (by assumption) | (have q3 : k1 = k0 := q.1; rw [q3] at c12; omega)))]; exact b82), by omega⟩ (by omega) dX0_above_37
      · replace c12 : ¬ k1.toInt < k0.toInt := fun zq => c12 ((lg_cmp_lt _ _).mpr (Int64.lt_iff_toInt_lt.mpr zq))
        refine lv_aload_n hx hb dX0_above_15 rfl (lv_at hl 0 rfl) ?_
        refine q_get C hP f1 rfl inX0 1 (by decide) g492 rfl dX0_above_16 ?_
        refine lv_lload_n hx hb dX0_above_19 rfl (lv_at hl 1 rfl) ?_
        refine W.lcmp hx hb dX0_above_20 ?_
        refine lv_if_ne (tgt := 38) hx hb dX0_above_21 (by decide) (fun c21 => ?_) (fun c21 => ?_)
        · replace c21 : ¬ k1.toInt = k0.toInt := fun zq => c21 ((lg_cmp_eq _ _).mpr (Int64.toInt_inj.symm.mpr zq))
          refine lv_aload_n hx hb dX0_above_38 rfl (lv_at hl 0 rfl) ?_
          refine q_get C hP f1 rfl inX0 0 (by decide) g491 rfl dX0_above_39 ?_
          refine lv_lload_n hx hb dX0_above_42 rfl (lv_at hl 1 rfl) ?_
          refine lv_iload_n hx hb dX0_above_43 rfl (lv_at hl 2 rfl) ?_
          refine q_callS (rest := []) C (ih h l1 i1 A1 k0 z0 hl1 (by omega) sA (by omega)) kX0_above g790 g791 hP hS (by first | decide | omega) hl.1 rfl (by decide) (by first | decide | omega) dX0_above_44 (fun q ce E h' H1 locs1 hE => hE.elim) (fun v hh2 H locs hq hP hS => ?_)
          obtain ⟨r83, n83, rfl, hl83, b83, w83⟩ := hq
          replace f1 := hl83 _ _ f1
          replace hA := hA.le hl83
          replace hl1 := hl1.le hl83
          replace hr1 := hr1.le hl83
          replace hle := qle_tr hle hl83
          have z83 := b83.len
          try simp only [List.length_append, List.length_cons, List.length_nil] at z83
          have zz83 := qAb_len (L := A1) (k := k0) (z := z0)
          refine lv_aload_n hx hb dX0_above_47 rfl (lv_at hl 0 rfl) ?_
          refine q_get C hP f1 rfl inX0 1 (by decide) g492 rfl dX0_above_48 ?_
          refine lv_aload_n hx hb dX0_above_51 rfl (lv_at hl 0 rfl) ?_
          refine q_get C hP f1 rfl inX0 2 (by decide) g494 rfl dX0_above_52 ?_
          refine lv_aload_n hx hb dX0_above_55 rfl (lv_at hl 0 rfl) ?_
          refine q_get C hP f1 rfl inX0 3 (by decide) g497 rfl dX0_above_56 ?_
          refine q_callS (rest := []) C (c_X0_linked l D cy N0 _ hh2 r83 k1 v1 r1 n83 j1 (qAb A1 k0 z0) B1 b83 hr1 (by first | omega | (simp only [List.length_append, List.length_cons, List.length_nil, List.length_take, List.length_drop, List.length_set]; omega)) (Nat.lt_succ_self _)) kX0_linked g478 g473 hP hS (by first | decide | omega) hl.1 rfl (by decide) (by first | decide | omega) dX0_above_59 (fun q ce E h' H1 locs1 hE => hE.elim) (fun v hh3 H locs hq hP hS => ?_)
          obtain ⟨r84, n84, rfl, hl84, b84, y84, w84, u84, m84⟩ := hq
          replace f1 := hl84 _ _ f1
          replace hA := hA.le hl84
          replace hl1 := hl1.le hl84
          replace hr1 := hr1.le hl84
          replace b83 := b83.le hl84
          replace hle := qle_tr hle hl84
          have z84 := b84.len
          try simp only [List.length_append, List.length_cons, List.length_nil] at z84
          exact q_aret (v := r84) C (Or.inl ⟨_, rfl⟩) hP hS ⟨r84, n84, rfl, hle, by first | (rw [qAb_ge hS0 (by first | exact Or.inl (by show k0.toInt < k1.toInt; omega) | exact Or.inr ⟨Int64.toInt_inj.mp (by assumption), by assumption⟩)]; exact b84) | (rw [qAb_lt hS0 (fun q => q.elim (fun q => by (have q : k0.toInt < k1.toInt := q; omega)) (fun q => by first | exact q.2 (by assumption) | (have q3 : k1 = k0 := q.1; rw [q3] at c12; omega)))]; exact b84), by omega⟩ (by omega) dX0_above_62
        · replace c21 : k1.toInt = k0.toInt := Int64.toInt_inj.symm.mp ((lg_cmp_eq _ _).mp c21)
          refine lv_iload_n hx hb dX0_above_24 rfl (lv_at hl 2 rfl) ?_
          refine lv_if_ne (tgt := 38) hx hb dX0_above_25 (by decide) (fun c25 => ?_) (fun c25 => ?_)
          · refine lv_aload_n hx hb dX0_above_38 rfl (lv_at hl 0 rfl) ?_
            refine q_get C hP f1 rfl inX0 0 (by decide) g491 rfl dX0_above_39 ?_
            refine lv_lload_n hx hb dX0_above_42 rfl (lv_at hl 1 rfl) ?_
            refine lv_iload_n hx hb dX0_above_43 rfl (lv_at hl 2 rfl) ?_
            refine q_callS (rest := []) C (ih h l1 i1 A1 k0 z0 hl1 (by omega) sA (by omega)) kX0_above g790 g791 hP hS (by first | decide | omega) hl.1 rfl (by decide) (by first | decide | omega) dX0_above_44 (fun q ce E h' H1 locs1 hE => hE.elim) (fun v hh4 H locs hq hP hS => ?_)
            obtain ⟨r85, n85, rfl, hl85, b85, w85⟩ := hq
            replace f1 := hl85 _ _ f1
            replace hA := hA.le hl85
            replace hl1 := hl1.le hl85
            replace hr1 := hr1.le hl85
            replace hle := qle_tr hle hl85
            have z85 := b85.len
            try simp only [List.length_append, List.length_cons, List.length_nil] at z85
            have zz85 := qAb_len (L := A1) (k := k0) (z := z0)
            refine lv_aload_n hx hb dX0_above_47 rfl (lv_at hl 0 rfl) ?_
            refine q_get C hP f1 rfl inX0 1 (by decide) g492 rfl dX0_above_48 ?_
            refine lv_aload_n hx hb dX0_above_51 rfl (lv_at hl 0 rfl) ?_
            refine q_get C hP f1 rfl inX0 2 (by decide) g494 rfl dX0_above_52 ?_
            refine lv_aload_n hx hb dX0_above_55 rfl (lv_at hl 0 rfl) ?_
            refine q_get C hP f1 rfl inX0 3 (by decide) g497 rfl dX0_above_56 ?_
            refine q_callS (rest := []) C (c_X0_linked l D cy N0 _ hh4 r85 k1 v1 r1 n85 j1 (qAb A1 k0 z0) B1 b85 hr1 (by first | omega | (simp only [List.length_append, List.length_cons, List.length_nil, List.length_take, List.length_drop, List.length_set]; omega)) (Nat.lt_succ_self _)) kX0_linked g478 g473 hP hS (by first | decide | omega) hl.1 rfl (by decide) (by first | decide | omega) dX0_above_59 (fun q ce E h' H1 locs1 hE => hE.elim) (fun v hh5 H locs hq hP hS => ?_)
            obtain ⟨r86, n86, rfl, hl86, b86, y86, w86, u86, m86⟩ := hq
            replace f1 := hl86 _ _ f1
            replace hA := hA.le hl86
            replace hl1 := hl1.le hl86
            replace hr1 := hr1.le hl86
            replace b85 := b85.le hl86
            replace hle := qle_tr hle hl86
            have z86 := b86.len
            try simp only [List.length_append, List.length_cons, List.length_nil] at z86
            exact q_aret (v := r86) C (Or.inl ⟨_, rfl⟩) hP hS ⟨r86, n86, rfl, hle, by first | (rw [qAb_ge hS0 (by first | exact Or.inl (by show k0.toInt < k1.toInt; omega) | exact Or.inr ⟨Int64.toInt_inj.mp (by assumption), by assumption⟩)]; exact b86) | (rw [qAb_lt hS0 (fun q => q.elim (fun q => by (have q : k0.toInt < k1.toInt := q; omega)) (fun q => by first | exact q.2 (by assumption) | (have q3 : k1 = k0 := q.1; rw [q3] at c12; omega)))]; exact b86), by omega⟩ (by omega) dX0_above_62
          · refine lv_aload_n hx hb dX0_above_28 rfl (lv_at hl 0 rfl) ?_
            refine q_get C hP f1 rfl inX0 3 (by decide) g497 rfl dX0_above_29 ?_
            refine lv_lload_n hx hb dX0_above_32 rfl (lv_at hl 1 rfl) ?_
            refine lv_iload_n hx hb dX0_above_33 rfl (lv_at hl 2 rfl) ?_
            refine q_callS (rest := []) C (ih h r1 j1 B1 k0 z0 hr1 (by omega) sB (by omega)) kX0_above g790 g791 hP hS (by first | decide | omega) hl.1 rfl (by decide) (by first | decide | omega) dX0_above_34 (fun q ce E h' H1 locs1 hE => hE.elim) (fun v hh6 H locs hq hP hS => ?_)
            obtain ⟨r87, n87, rfl, hl87, b87, w87⟩ := hq
            replace f1 := hl87 _ _ f1
            replace hA := hA.le hl87
            replace hl1 := hl1.le hl87
            replace hr1 := hr1.le hl87
            replace hle := qle_tr hle hl87
            have z87 := b87.len
            try simp only [List.length_append, List.length_cons, List.length_nil] at z87
            have zz87 := qAb_len (L := B1) (k := k0) (z := z0)
            exact q_aret (v := r87) C (Or.inl ⟨_, rfl⟩) hP hS ⟨r87, n87, rfl, hle, by first | (rw [qAb_ge hS0 (by first | exact Or.inl (by show k0.toInt < k1.toInt; omega) | exact Or.inr ⟨Int64.toInt_inj.mp (by assumption), by assumption⟩)]; exact b87) | (rw [qAb_lt hS0 (fun q => q.elim (fun q => by (have q : k0.toInt < k1.toInt := q; omega)) (fun q => by first | exact q.2 (by assumption) | (have q3 : k1 = k0 := q.1; rw [q3] at c12; omega)))]; exact b87), by omega⟩ (by omega) dX0_above_37

theorem qcut_k {L : qKV} {k : Int64} (hs : qSo L) : qLo L k ++ qAb L k 0 = L.filter (fun p => decide (p.1 ≠ k)) := by
  induction L with
  | nil => rfl
  | cons a L ih =>
    obtain ⟨h1, h2⟩ := List.pairwise_cons.mp hs
    have ih := ih h2
    by_cases c : a.1.toInt < k.toInt
    · have e : a.1 ≠ k := fun q => by rw [q] at c; omega
      rw [List.filter_cons, if_pos (decide_eq_true e), ← ih]
      show (a :: L).filter _ ++ (a :: L).filter _ = _
      rw [List.filter_cons, if_pos (decide_eq_true c), List.filter_cons, if_neg (by simp only [decide_eq_true_eq]; exact fun q => q.elim (fun q => by omega) (fun q => q.2 (by first | rfl | trivial)))]
      rfl
    · have e1 : qLo (a :: L) k = [] := qLo_none (fun x hx => by
        rcases List.mem_cons.mp hx with rfl | hx
        · omega
        · have := h1 x hx; omega)
      have e2 : qLo L k = [] := qLo_none (fun x hx => by have := h1 x hx; omega)
      rw [e2, List.nil_append] at ih
      rw [e1, List.nil_append]
      by_cases c2 : a.1 = k
      · rw [List.filter_cons, if_neg (by simpa using c2), ← ih]
        show (a :: L).filter _ = _
        rw [List.filter_cons, if_neg (by simp only [decide_eq_true_eq]; exact fun q => q.elim (fun q => by (rw [c2] at q; omega)) (fun q => q.2 (by first | rfl | trivial)))]
        rfl
      · have c3 : k.toInt < a.1.toInt := by
          have : a.1.toInt ≠ k.toInt := fun q => c2 (Int64.toInt_inj.mp q)
          omega
        rw [List.filter_cons, if_pos (decide_eq_true c2), ← ih]
        show (a :: L).filter _ = _
        rw [List.filter_cons, if_pos (decide_eq_true (Or.inl c3))]
        rfl
theorem qout_no {L : qKV} {k : Int64} (h : ∀ p ∈ L, p.1 ≠ k) : L.filter (fun p => decide (p.1 ≠ k)) = L := List.filter_eq_self.mpr (fun x hx => decide_eq_true (h x hx))
theorem qTc_3 {a n : Nat} (h : a ≤ n) : qTc a ≤ qTc n := qTc_mono h
theorem dX0_withoutKey_0 : decode cX0_withoutKey 0 = .ok (.aload_n 0, 1) := by decide +kernel
theorem dX0_withoutKey_1 : decode cX0_withoutKey 1 = .ok (.lload_n 1, 1) := by decide +kernel
theorem dX0_withoutKey_2 : decode cX0_withoutKey 2 = .ok (.invokestatic 79, 3) := by decide +kernel
theorem dX0_withoutKey_5 : decode cX0_withoutKey 5 = .ok (.ifnonnull 7, 3) := by decide +kernel
theorem dX0_withoutKey_8 : decode cX0_withoutKey 8 = .ok (.aload_n 0, 1) := by decide +kernel
theorem dX0_withoutKey_9 : decode cX0_withoutKey 9 = .ok (.goto 17, 3) := by decide +kernel
theorem dX0_withoutKey_12 : decode cX0_withoutKey 12 = .ok (.aload_n 0, 1) := by decide +kernel
theorem dX0_withoutKey_13 : decode cX0_withoutKey 13 = .ok (.lload_n 1, 1) := by decide +kernel
theorem dX0_withoutKey_14 : decode cX0_withoutKey 14 = .ok (.invokestatic 83, 3) := by decide +kernel
theorem dX0_withoutKey_17 : decode cX0_withoutKey 17 = .ok (.aload_n 0, 1) := by decide +kernel
theorem dX0_withoutKey_18 : decode cX0_withoutKey 18 = .ok (.lload_n 1, 1) := by decide +kernel
theorem dX0_withoutKey_19 : decode cX0_withoutKey 19 = .ok (.iconst 0, 1) := by decide +kernel
theorem dX0_withoutKey_20 : decode cX0_withoutKey 20 = .ok (.invokestatic 86, 3) := by decide +kernel
theorem dX0_withoutKey_23 : decode cX0_withoutKey 23 = .ok (.invokestatic 90, 3) := by decide +kernel
theorem dX0_withoutKey_26 : decode cX0_withoutKey 26 = .ok (.areturn, 1) := by decide +kernel
set_option maxRecDepth 100000 in
set_option maxHeartbeats 4000000 in
theorem c_X0_withoutKey (l : Launch) (D : va_G) (cy : Nat → ClassId) (N0 : Nat) (h : qH) (x : Option Nat) (n : Nat) (A : qKV) (k0 : Int64) (hA : qBr h n x A) (hL : A.length < 1000000) (hS0 : qSo A) : qC l D cy N0 yX0_withoutKey cX0_withoutKey 3 (some (.object RX0)) (8 + 3 * n) (200 + 75 * n) (3 * qTc n + 1 + 6 * n) (18 * qTc n + 6 + 36 * n) [va_rf x, .long k0] h (fun v h' => ∃ (r9 : Option Nat) (n9 : Nat), v = some (va_rf r9) ∧ qle h h' ∧ qBr h' n9 r9 (A.filter (fun p => decide (p.1 ≠ k0))) ∧ n9 ≤ n + 1) (fun E h' => False) := by
  refine q_ofW (by decide) (by simp [lg_sl, q_catrf, q_cati, q_catl, q_cata, q_catn]) ?_
  intro p e s m below meth c ls C hP hl
  have hx := C.1
  have hb := C.2.1
  have hS : va_S (qA N0) s.heap s.heap [] := va_S.rf
  have hl : lv_has ls 3 [(0, va_rf x), (1, .long k0)] := by simpa [lv_args, q_catrf, q_cati, q_catl, q_cata, q_catn] using hl
  have hle : qle h h := qle_rf
  have ql := qcut_len (L := A) (k := k0)
  refine q_aload_n hx hb dX0_withoutKey_0 rfl (lv_at hl 0 rfl) ?_
  refine lv_lload_n hx hb dX0_withoutKey_1 rfl (lv_at hl 1 rfl) ?_
  refine q_callS (rest := []) C (c_X0_branchWith l D cy N0 h x n A k0 hA (by first | omega | (simp only [List.length_append, List.length_cons, List.length_nil]; omega)) hS0) kX0_branchWith g786 g757 hP hS (by first | decide | omega) hl.1 rfl (by decide) (by first | decide | omega) dX0_withoutKey_2 (fun q ce E h' H1 locs1 hE => hE.elim) (fun v hh1 H locs hq hP hS => ?_)
  obtain ⟨r88, rfl, rfl, hg88⟩ := hq
  rcases hg88 with ⟨a8, v8, x8, y8, z8, w8, rfl, f8, m8⟩ | ⟨rfl, m8⟩
  · refine lv_ifnonnull (tgt := 12) hx hb dX0_withoutKey_5 (by decide) ?_
    refine q_aload_n hx hb dX0_withoutKey_12 rfl (lv_at hl 0 rfl) ?_
    refine lv_lload_n hx hb dX0_withoutKey_13 rfl (lv_at hl 1 rfl) ?_
    refine q_callS (rest := []) C (c_X0_below l D cy N0 _ h x n A k0 hA (by first | omega | (simp only [List.length_append, List.length_cons, List.length_nil]; omega)) hS0 (Nat.lt_succ_self _)) kX0_below g787 g788 hP hS (by first | decide | omega) hl.1 rfl (by decide) (by first | decide | omega) dX0_withoutKey_14 (fun q ce E h' H1 locs1 hE => hE.elim) (fun v hh2 H locs hq hP hS => ?_)
    obtain ⟨r89, n89, rfl, hl89, b89, w89⟩ := hq
    replace hA := hA.le hl89
    replace hle := qle_tr hle hl89
    have z89 := b89.len
    try simp only [List.length_append, List.length_cons, List.length_nil] at z89
    have zz89 := qLo_len (L := A) (k := k0)
    have tc89 := qTc_mono w89
    have so89 := hS0.lo (k := k0)
    refine q_aload_n hx hb dX0_withoutKey_17 rfl (lv_at hl 0 rfl) ?_
    refine lv_lload_n hx hb dX0_withoutKey_18 rfl (lv_at hl 1 rfl) ?_
    refine lv_iconst (v := 0) hx hb dX0_withoutKey_19 (by decide) ?_
    refine q_callS (rest := [va_rf r89]) C (c_X0_above l D cy N0 _ hh2 x n A k0 0 hA (by first | omega | (simp only [List.length_append, List.length_cons, List.length_nil]; omega)) hS0 (Nat.lt_succ_self _)) kX0_above g790 g791 hP hS (by first | decide | omega) hl.1 rfl (by simp [q_catrf, q_cati, q_catl, q_cata, q_catn]) (by first | decide | omega) dX0_withoutKey_20 (fun q ce E h' H1 locs1 hE => hE.elim) (fun v hh3 H locs hq hP hS => ?_)
    obtain ⟨r90, n90, rfl, hl90, b90, w90⟩ := hq
    replace hA := hA.le hl90
    replace b89 := b89.le hl90
    replace hle := qle_tr hle hl90
    have z90 := b90.len
    try simp only [List.length_append, List.length_cons, List.length_nil] at z90
    have zz90 := qAb_len (L := A) (k := k0) (z := 0)
    have tc90 := qTc_mono w90
    have so90 := hS0.ab (k := k0) (z := 0)
    refine q_callS (rest := []) C (c_X0_chained l D cy N0 hh3 r89 r90 n89 n90 (qLo A k0) (qAb A k0 0) b89 b90 (by omega)) kX0_chained g793 g794 hP hS (by first | decide | omega) hl.1 rfl (by decide) (by first | decide | omega) dX0_withoutKey_23 (fun q ce E h' H1 locs1 hE => hE.elim) (fun v hh4 H locs hq hP hS => ?_)
    obtain ⟨r91, n91, rfl, hl91, b91, w91⟩ := hq
    replace hA := hA.le hl91
    replace b89 := b89.le hl91
    replace b90 := b90.le hl91
    replace hle := qle_tr hle hl91
    have z91 := b91.len
    try simp only [List.length_append, List.length_cons, List.length_nil] at z91
    exact q_aret (v := r91) C (Or.inl ⟨_, rfl⟩) hP hS ⟨r91, n91, rfl, hle, by rw [← qcut_k hS0]; exact b91, by omega⟩ (by omega) dX0_withoutKey_26
  · refine lv_ifnonnullN hx hb dX0_withoutKey_5 ?_
    refine q_aload_n hx hb dX0_withoutKey_8 rfl (lv_at hl 0 rfl) ?_
    refine lv_goto (tgt := 26) hx hb dX0_withoutKey_9 (by decide) ?_
    exact q_aret (v := x) C (Or.inl ⟨_, rfl⟩) hP hS ⟨x, n, rfl, hle, by rw [qout_no m8]; exact hA, by omega⟩ (by omega) dX0_withoutKey_26
