theorem dX4_pour_0 : decode cX4_pour 0 = .ok (.iload_n 2, 1) := by decide +kernel
theorem dX4_pour_1 : decode cX4_pour 1 = .ok (.istore_n 3, 1) := by decide +kernel
theorem dX4_pour_2 : decode cX4_pour 2 = .ok (.aload_n 0, 1) := by decide +kernel
theorem dX4_pour_3 : decode cX4_pour 3 = .ok (.astore 4, 2) := by decide +kernel
theorem dX4_pour_5 : decode cX4_pour 5 = .ok (.aload 4, 2) := by decide +kernel
theorem dX4_pour_7 : decode cX4_pour 7 = .ok (.ifnull 40, 3) := by decide +kernel
theorem dX4_pour_10 : decode cX4_pour 10 = .ok (.iload_n 3, 1) := by decide +kernel
theorem dX4_pour_11 : decode cX4_pour 11 = .ok (.aload_n 1, 1) := by decide +kernel
theorem dX4_pour_12 : decode cX4_pour 12 = .ok (.arraylength, 1) := by decide +kernel
theorem dX4_pour_13 : decode cX4_pour 13 = .ok (.if_icmp .ge 34, 3) := by decide +kernel
theorem dX4_pour_16 : decode cX4_pour 16 = .ok (.aload_n 1, 1) := by decide +kernel
theorem dX4_pour_17 : decode cX4_pour 17 = .ok (.iload_n 3, 1) := by decide +kernel
theorem dX4_pour_18 : decode cX4_pour 18 = .ok (.aload 4, 2) := by decide +kernel
theorem dX4_pour_20 : decode cX4_pour 20 = .ok (.getfield 13, 3) := by decide +kernel
theorem dX4_pour_23 : decode cX4_pour 23 = .ok (.lastore, 1) := by decide +kernel
theorem dX4_pour_24 : decode cX4_pour 24 = .ok (.aload 4, 2) := by decide +kernel
theorem dX4_pour_26 : decode cX4_pour 26 = .ok (.getfield 21, 3) := by decide +kernel
theorem dX4_pour_29 : decode cX4_pour 29 = .ok (.aload_n 1, 1) := by decide +kernel
theorem dX4_pour_30 : decode cX4_pour 30 = .ok (.iload_n 3, 1) := by decide +kernel
theorem dX4_pour_31 : decode cX4_pour 31 = .ok (.iconst 1, 1) := by decide +kernel
theorem dX4_pour_32 : decode cX4_pour 32 = .ok (.iadd, 1) := by decide +kernel
theorem dX4_pour_33 : decode cX4_pour 33 = .ok (.invokestatic 35, 3) := by decide +kernel
theorem dX4_pour_36 : decode cX4_pour 36 = .ok (.istore_n 3, 1) := by decide +kernel
theorem dX4_pour_37 : decode cX4_pour 37 = .ok (.aload 4, 2) := by decide +kernel
theorem dX4_pour_39 : decode cX4_pour 39 = .ok (.getfield 17, 3) := by decide +kernel
theorem dX4_pour_42 : decode cX4_pour 42 = .ok (.astore 4, 2) := by decide +kernel
theorem dX4_pour_44 : decode cX4_pour 44 = .ok (.goto (-39), 3) := by decide +kernel
theorem dX4_pour_47 : decode cX4_pour 47 = .ok (.iload_n 3, 1) := by decide +kernel
theorem dX4_pour_48 : decode cX4_pour 48 = .ok (.ireturn, 1) := by decide +kernel
set_option maxRecDepth 100000 in
set_option maxHeartbeats 4000000 in
theorem c_X4_pour (l : Launch) (D : va_G) (cy : Nat → ClassId) (N0 : Nat) (s : Nat) : ∀ (h : qH) (x : Option Nat) (a i : Nat) (A : List Int64) (N : Nat) (f : Nat → Int64) (q d : Nat) (hA : qPi h i x A) (hrow : h a = some (.inl (cy 1, N, .inr (.inl f)))) (hqN : q + A.length ≤ N) (hN : N < 1000000) (hd9 : A.length < 2 ^ d) (hs : d < s), qC l D cy N0 yX4_pour cX4_pour 5 (some .int) (1 + d) (24 * d) 0 0 [va_rf x, .ref a, .int (nI q)] h (fun v h' => v = some (.int (nI (q + A.length))) ∧ h' = qs h a (.inl (cy 1, N, .inr (.inl (qPour f q A))))) (fun E h' => False) := by
  induction s with
  | zero => intro h x a i A N f q d hA hrow hqN hN hd9 hs; exact absurd hs (Nat.not_lt_zero _)
  | succ s ih =>
    intro h x a i A N f q d hA hrow hqN hN hd9 hs
    refine q_ofW (by decide) (by simp [lg_sl, q_catrf, q_cati, q_catl, q_cata, q_catn]) ?_
    intro p e s m below meth c ls C hP hl
    have hx := C.1
    have hb := C.2.1
    have hS : va_S (qA N0) s.heap s.heap [] := va_S.rf
    have hl : lv_has ls 5 [(0, va_rf x), (1, .ref a), (2, .int (nI q))] := by simpa [lv_args, q_catrf, q_cati, q_catl, q_cata, q_catn] using hl
    have hle : qle h h := qle_rf
    refine lv_iload_n hx hb dX4_pour_0 rfl (lv_at hl 2 rfl) ?_
    refine lv_istore_n (lv' := [(3, .int (nI q)), (0, va_rf x), (1, .ref a), (2, .int (nI q))]) hx hb dX4_pour_1 rfl hl (by decide) rfl (fun ls hl => ?_)
    refine q_aload_n hx hb dX4_pour_2 rfl (lv_at hl 1 rfl) ?_
    refine q_astore (lv' := [(4, va_rf x), (3, .int (nI q)), (0, va_rf x), (1, .ref a), (2, .int (nI q))]) hx hb dX4_pour_3 hl (by decide) rfl (fun ls hl => ?_)
    refine (?_ : ∀ (t : Nat) (H : Heap) (locs : List Loc) (ls : Array Slot) (r : Option Nat) (P0 L1 : List Int64) (s1 : Nat), L1.length < t → qPi h s1 r L1 → P0 ++ L1 = A → lv_has ls 5 [(4, va_rf r), (3, .int (nI (q + P0.length))), (1, .ref a)] → qP D N0 (qs h a (.inl (cy 1, N, .inr (.inl (qPour f q P0))))) H → va_S (qA N0) s.heap H locs → W p l e _ s m _ below meth c H locs 0 0 _ (F0 m 5 ls [])) _ s.heap [] ls x [] A i (Nat.lt_succ_self _) hA rfl (lv_sub hl [0, 1, 3] rfl) (by rw [qPour_nil, qs_same hrow]; exact hP) hS
    clear hl hP hS
    intro t
    induction t with
    | zero => intro H locs ls r P0 L1 s1 ht; exact absurd ht (Nat.not_lt_zero _)
    | succ t ihl =>
      intro H locs ls r P0 L1 s1 ht hb1 hPA hl hP hS
      have hlen : P0.length + L1.length = A.length := by rw [← hPA, List.length_append]
      have hrw : (qs h a (.inl (cy 1, N, .inr (.inl (qPour f q P0))))) a = some (.inl (cy 1, N, .inr (.inl (qPour f q P0)))) := qs_self
      rcases hb1.inv with ⟨rfl, rfl, rfl⟩ | ⟨a1, v1, l1, r1, t1, u1, A1, B1, rfl, f1, hr1, hl1, rfl, ⟨rfl, hg11, hg12⟩, m1⟩
      · refine lv_aloadN hx hb dX4_pour_5 (lv_at hl 0 rfl) ?_
        refine lv_ifnullN (tgt := 47) hx hb dX4_pour_7 (by decide) ?_
        refine lv_iload_n hx hb dX4_pour_47 rfl (lv_at hl 1 rfl) ?_
        exact q_iret C hP hS ⟨by rw [← hPA]; simp, by rw [← hPA, List.append_nil]⟩ (by omega) dX4_pour_48
      · simp only [List.length_append, List.length_cons, List.length_nil] at hlen ht
        have eL1 : (v1 :: (A1 ++ B1)).length = A1.length + B1.length + 1 := by rw [List.length_cons, List.length_append]
        replace f1 : (qs h a (.inl (cy 1, N, .inr (.inl (qPour f q P0))))) a1 = _ := (qs_ne (fun e => by subst e; rw [hrow] at f1; cases f1)).trans f1
        refine lv_aload hx hb dX4_pour_5 (lv_at hl 0 rfl) ?_
        refine lv_ifnull hx hb dX4_pour_7 ?_
        refine lv_iload_n hx hb dX4_pour_10 rfl (lv_at hl 1 rfl) ?_
        refine lv_aload_n hx hb dX4_pour_11 rfl (lv_at hl 2 rfl) ?_
        refine q_alen C hP hrw rfl dX4_pour_12 ?_
        refine lv_icmp_ge (tgt := 47) hx hb dX4_pour_13 (by decide) (fun c13 => ?_) (fun c13 => ?_)
        · replace c13 : N ≤ (q + P0.length) := (nI_leI (a := N) (b := (q + P0.length)) (by omega) (by omega)).mp c13
          exfalso; omega
        · replace c13 : ¬ N ≤ (q + P0.length) := fun zq => c13 ((nI_leI (a := N) (b := (q + P0.length)) (by omega) (by omega)).mpr zq)
          refine lv_aload_n hx hb dX4_pour_16 rfl (lv_at hl 2 rfl) ?_
          refine lv_iload_n hx hb dX4_pour_17 rfl (lv_at hl 1 rfl) ?_
          refine lv_aload hx hb dX4_pour_18 (lv_at hl 0 rfl) ?_
          refine q_get C hP f1 rfl inX4 0 (by decide) g447 rfl dX4_pour_20 ?_
          refine q_lastN C hP hS hrw (by omega) (by omega) dX4_pour_23 (fun H locs hP hS => ?_)
          rw [qs_qs] at hP
          replace f1 := qs_re (o' := (.inl (cy 1, N, .inr (.inl (vp_updL (qPour f q P0) (q + P0.length) v1))))) (fun q => by subst q; have := f1.symm.trans hrw; first | cases this | simp at this) f1
          replace hrw : (qs h a (.inl (cy 1, N, .inr (.inl (vp_updL (qPour f q P0) (q + P0.length) v1))))) a = some (.inl (cy 1, N, .inr (.inl (vp_updL (qPour f q P0) (q + P0.length) v1)))) := qs_self
          obtain ⟨d', rfl⟩ : ∃ d', d = d' + 1 := ⟨d - 1, by rcases d with _ | d <;> first | omega | (simp at hd9; omega)⟩
          rw [Nat.pow_succ] at hd9
          refine lv_aload hx hb dX4_pour_24 (lv_at hl 0 rfl) ?_
          refine q_get C hP f1 rfl inX4 2 (by decide) g451 rfl dX4_pour_26 ?_
          refine lv_aload_n hx hb dX4_pour_29 rfl (lv_at hl 2 rfl) ?_
          refine lv_iload_n hx hb dX4_pour_30 rfl (lv_at hl 1 rfl) ?_
          refine lv_iconst (v := nI 1) hx hb dX4_pour_31 (by decide) ?_
          refine q_iaddN hx hb dX4_pour_32 ?_
          refine q_callS (rest := []) C (ih (qs h a (.inl (cy 1, N, .inr (.inl (vp_updL (qPour f q P0) (q + P0.length) v1))))) r1 a t1 A1 N (vp_updL (qPour f q P0) (q + P0.length) v1) ((q + P0.length) + 1) d' (hr1.setl hrow) hrw (by omega) hN (by omega) (by omega)) kX4_pour g922 g920 hP hS (by first | decide | omega) hl.1 rfl (by decide) (by first | decide | omega) dX4_pour_33 (fun q ce E h' H1 locs1 hE => hE.elim) (fun v hh1 H locs hq hP hS => ?_)
          obtain ⟨rfl, rfl⟩ := hq
          rw [qs_qs] at hP
          replace f1 := qs_re (o' := (.inl (cy 1, N, .inr (.inl (qPour (vp_updL (qPour f q P0) (q + P0.length) v1) ((q + P0.length) + 1) A1))))) (fun q => by subst q; have := f1.symm.trans hrw; first | cases this | simp at this) f1
          replace hrw : (qs h a (.inl (cy 1, N, .inr (.inl (qPour (vp_updL (qPour f q P0) (q + P0.length) v1) ((q + P0.length) + 1) A1))))) a = some (.inl (cy 1, N, .inr (.inl (qPour (vp_updL (qPour f q P0) (q + P0.length) v1) ((q + P0.length) + 1) A1)))) := qs_self
          refine lv_istore_n (lv' := [(3, .int (nI (((q + P0.length) + 1) + A1.length))), (4, .ref a1), (1, .ref a)]) hx hb dX4_pour_36 rfl hl (by decide) rfl (fun ls hl => ?_)
          refine lv_aload hx hb dX4_pour_37 (lv_at hl 1 rfl) ?_
          refine q_get C hP f1 rfl inX4 1 (by decide) g449 rfl dX4_pour_39 ?_
          refine q_astore (lv' := [(4, va_rf l1), (3, .int (nI (((q + P0.length) + 1) + A1.length))), (1, .ref a)]) hx hb dX4_pour_42 hl (by decide) rfl (fun ls hl => ?_)
          refine lv_goto (tgt := 5) hx hb dX4_pour_44 (by decide) ?_
          exact ihl H locs ls l1 (P0 ++ v1 :: A1) B1 u1 (by omega) hl1 (by rw [← hPA]; simp) (by rw [show q + (P0 ++ v1 :: A1).length = q + P0.length + 1 + A1.length by rw [List.length_append, List.length_cons]; omega]; exact lv_sub hl [0, 1, 2] rfl) (by rw [qPour_1, show q + P0.length + 1 = q + (P0 ++ [v1]).length by rw [List.length_append]; rfl, qPour_2, List.append_assoc] at hP; exact hP) hS

theorem dX4_isSound_0 : decode cX4_isSound 0 = .ok (.aload_n 0, 1) := by decide +kernel
theorem dX4_isSound_1 : decode cX4_isSound 1 = .ok (.astore_n 1, 1) := by decide +kernel
theorem dX4_isSound_2 : decode cX4_isSound 2 = .ok (.aload_n 1, 1) := by decide +kernel
theorem dX4_isSound_3 : decode cX4_isSound 3 = .ok (.ifnull 108, 3) := by decide +kernel
theorem dX4_isSound_6 : decode cX4_isSound 6 = .ok (.aload_n 1, 1) := by decide +kernel
theorem dX4_isSound_7 : decode cX4_isSound 7 = .ok (.getfield 24, 3) := by decide +kernel
theorem dX4_isSound_10 : decode cX4_isSound 10 = .ok (.iconst 1, 1) := by decide +kernel
theorem dX4_isSound_11 : decode cX4_isSound 11 = .ok (.aload_n 1, 1) := by decide +kernel
theorem dX4_isSound_12 : decode cX4_isSound 12 = .ok (.getfield 17, 3) := by decide +kernel
theorem dX4_isSound_15 : decode cX4_isSound 15 = .ok (.invokestatic 7, 3) := by decide +kernel
theorem dX4_isSound_18 : decode cX4_isSound 18 = .ok (.iadd, 1) := by decide +kernel
theorem dX4_isSound_19 : decode cX4_isSound 19 = .ok (.aload_n 1, 1) := by decide +kernel
theorem dX4_isSound_20 : decode cX4_isSound 20 = .ok (.getfield 21, 3) := by decide +kernel
theorem dX4_isSound_23 : decode cX4_isSound 23 = .ok (.invokestatic 7, 3) := by decide +kernel
theorem dX4_isSound_26 : decode cX4_isSound 26 = .ok (.iadd, 1) := by decide +kernel
theorem dX4_isSound_27 : decode cX4_isSound 27 = .ok (.if_icmp .ne 74, 3) := by decide +kernel
theorem dX4_isSound_30 : decode cX4_isSound 30 = .ok (.aload_n 1, 1) := by decide +kernel
theorem dX4_isSound_31 : decode cX4_isSound 31 = .ok (.getfield 17, 3) := by decide +kernel
theorem dX4_isSound_34 : decode cX4_isSound 34 = .ok (.invokestatic 7, 3) := by decide +kernel
theorem dX4_isSound_37 : decode cX4_isSound 37 = .ok (.aload_n 1, 1) := by decide +kernel
theorem dX4_isSound_38 : decode cX4_isSound 38 = .ok (.getfield 21, 3) := by decide +kernel
theorem dX4_isSound_41 : decode cX4_isSound 41 = .ok (.invokestatic 7, 3) := by decide +kernel
theorem dX4_isSound_44 : decode cX4_isSound 44 = .ok (.if_icmp .lt 57, 3) := by decide +kernel
theorem dX4_isSound_47 : decode cX4_isSound 47 = .ok (.aload_n 1, 1) := by decide +kernel
theorem dX4_isSound_48 : decode cX4_isSound 48 = .ok (.getfield 17, 3) := by decide +kernel
theorem dX4_isSound_51 : decode cX4_isSound 51 = .ok (.ifnull 18, 3) := by decide +kernel
theorem dX4_isSound_54 : decode cX4_isSound 54 = .ok (.aload_n 1, 1) := by decide +kernel
theorem dX4_isSound_55 : decode cX4_isSound 55 = .ok (.getfield 17, 3) := by decide +kernel
theorem dX4_isSound_58 : decode cX4_isSound 58 = .ok (.getfield 13, 3) := by decide +kernel
theorem dX4_isSound_61 : decode cX4_isSound 61 = .ok (.aload_n 1, 1) := by decide +kernel
theorem dX4_isSound_62 : decode cX4_isSound 62 = .ok (.getfield 13, 3) := by decide +kernel
theorem dX4_isSound_65 : decode cX4_isSound 65 = .ok (.lcmp, 1) := by decide +kernel
theorem dX4_isSound_66 : decode cX4_isSound 66 = .ok (.ifCond .lt 35, 3) := by decide +kernel
theorem dX4_isSound_69 : decode cX4_isSound 69 = .ok (.aload_n 1, 1) := by decide +kernel
theorem dX4_isSound_70 : decode cX4_isSound 70 = .ok (.getfield 21, 3) := by decide +kernel
theorem dX4_isSound_73 : decode cX4_isSound 73 = .ok (.ifnull 18, 3) := by decide +kernel
theorem dX4_isSound_76 : decode cX4_isSound 76 = .ok (.aload_n 1, 1) := by decide +kernel
theorem dX4_isSound_77 : decode cX4_isSound 77 = .ok (.getfield 21, 3) := by decide +kernel
theorem dX4_isSound_80 : decode cX4_isSound 80 = .ok (.getfield 13, 3) := by decide +kernel
theorem dX4_isSound_83 : decode cX4_isSound 83 = .ok (.aload_n 1, 1) := by decide +kernel
theorem dX4_isSound_84 : decode cX4_isSound 84 = .ok (.getfield 13, 3) := by decide +kernel
theorem dX4_isSound_87 : decode cX4_isSound 87 = .ok (.lcmp, 1) := by decide +kernel
theorem dX4_isSound_88 : decode cX4_isSound 88 = .ok (.ifCond .lt 13, 3) := by decide +kernel
theorem dX4_isSound_91 : decode cX4_isSound 91 = .ok (.aload_n 1, 1) := by decide +kernel
theorem dX4_isSound_92 : decode cX4_isSound 92 = .ok (.getfield 21, 3) := by decide +kernel
theorem dX4_isSound_95 : decode cX4_isSound 95 = .ok (.invokestatic 39, 3) := by decide +kernel
theorem dX4_isSound_98 : decode cX4_isSound 98 = .ok (.ifCond .ne 5, 3) := by decide +kernel
theorem dX4_isSound_103 : decode cX4_isSound 103 = .ok (.aload_n 1, 1) := by decide +kernel
theorem dX4_isSound_104 : decode cX4_isSound 104 = .ok (.getfield 17, 3) := by decide +kernel
theorem dX4_isSound_107 : decode cX4_isSound 107 = .ok (.astore_n 1, 1) := by decide +kernel
theorem dX4_isSound_108 : decode cX4_isSound 108 = .ok (.goto (-106), 3) := by decide +kernel
theorem dX4_isSound_111 : decode cX4_isSound 111 = .ok (.iconst 1, 1) := by decide +kernel
theorem dX4_isSound_112 : decode cX4_isSound 112 = .ok (.ireturn, 1) := by decide +kernel
set_option maxRecDepth 100000 in
set_option maxHeartbeats 4000000 in
theorem c_X4_isSound (l : Launch) (D : va_G) (cy : Nat → ClassId) (N0 : Nat) (s : Nat) : ∀ (h : qH) (x : Option Nat) (i : Nat) (A : List Int64) (d : Nat) (hA : qPi h i x A) (hd9 : A.length < 2 ^ d) (hs : d < s), qC l D cy N0 yX4_isSound cX4_isSound 2 (some .boolean) (1 + d) (21 + 21 * d) 0 0 [va_rf x] h (fun v h' => v = some (.int (nI 1)) ∧ h = h') (fun E h' => False) := by
  induction s with
  | zero => intro h x i A d hA hd9 hs; exact absurd hs (Nat.not_lt_zero _)
  | succ s ih =>
    intro h x i A d hA hd9 hs
    refine q_ofW (by decide) (by simp [lg_sl, q_catrf, q_cati, q_catl, q_cata, q_catn]) ?_
    intro p e s m below meth c ls C hP hl
    have hx := C.1
    have hb := C.2.1
    have hS : va_S (qA N0) s.heap s.heap [] := va_S.rf
    have hl : lv_has ls 2 [(0, va_rf x)] := hl
    have hle : qle h h := qle_rf
    refine q_aload_n hx hb dX4_isSound_0 rfl (lv_at hl 0 rfl) ?_
    refine q_astore_n (lv' := [(1, va_rf x), (0, va_rf x)]) hx hb dX4_isSound_1 rfl hl (by decide) (by cases x <;> rfl) (fun ls hl => ?_)
    refine (?_ : ∀ (t : Nat) (H : Heap) (locs : List Loc) (ls : Array Slot) (r : Option Nat) (L1 : List Int64) (s1 : Nat), L1.length < t → qPi h s1 r L1 → L1.length < 2 ^ d → lv_has ls 2 [(1, va_rf r)] → qP D N0 h H → va_S (qA N0) s.heap H locs → W p l e _ s m _ below meth c H locs 0 0 _ (F0 m 2 ls [])) _ s.heap [] ls x A i (Nat.lt_succ_self _) hA hd9 (lv_sub hl [0] rfl) hP hS
    clear hl hP hS
    intro t
    induction t with
    | zero => intro H locs ls r L1 s1 ht; exact absurd ht (Nat.not_lt_zero _)
    | succ t ihl =>
      intro H locs ls r L1 s1 ht hb1 hL1 hl hP hS
      rcases hb1.inv with ⟨rfl, rfl, rfl⟩ | ⟨a1, v1, l1, r1, t1, u1, A1, B1, rfl, f1, hr1, hl1, rfl, ⟨rfl, hg11, hg12⟩, m1⟩
      · refine lv_aload_nN hx hb dX4_isSound_2 rfl (lv_at hl 0 rfl) ?_
        refine lv_ifnullN (tgt := 111) hx hb dX4_isSound_3 (by decide) ?_
        refine lv_iconst (v := nI 1) hx hb dX4_isSound_111 (by decide) ?_
        exact q_zret C hP hS (Or.inr rfl) ⟨rfl, rfl⟩ (by omega) dX4_isSound_112
      · simp only [List.length_append, List.length_cons, List.length_nil] at hL1 ht
        have eL1 : (v1 :: (A1 ++ B1)).length = A1.length + B1.length + 1 := by rw [List.length_cons, List.length_append]
        obtain ⟨d', rfl⟩ : ∃ d', d = d' + 1 := ⟨d - 1, by rcases d with _ | d <;> first | omega | (simp at hL1)⟩
        rw [Nat.pow_succ] at hL1
        refine lv_aload_n hx hb dX4_isSound_2 rfl (lv_at hl 0 rfl) ?_
        refine lv_ifnull hx hb dX4_isSound_3 ?_
        refine lv_aload_n hx hb dX4_isSound_6 rfl (lv_at hl 0 rfl) ?_
        refine q_get C hP f1 rfl inX4 3 (by decide) g453 rfl dX4_isSound_7 ?_
        refine lv_iconst (v := nI 1) hx hb dX4_isSound_10 (by decide) ?_
        refine lv_aload_n hx hb dX4_isSound_11 rfl (lv_at hl 0 rfl) ?_
        refine q_get C hP f1 rfl inX4 1 (by decide) g449 rfl dX4_isSound_12 ?_
        refine q_callS (rest := [.int (nI 1), .int (nI (A1.length + B1.length + 1))]) C (c_X4_sizeOf l D cy N0 h l1 (nI B1.length) hl1.fiS) kX4_sizeOf g446 g233 hP hS (by first | decide | omega) hl.1 rfl (by simp [q_catrf, q_cati, q_catl, q_cata, q_catn]) (by first | decide | omega) dX4_isSound_15 (fun q ce E h' H1 locs1 hE => hE.elim) (fun v hh1 H locs hq hP hS => ?_)
        obtain ⟨rfl, rfl⟩ := hq
        refine q_iaddN hx hb dX4_isSound_18 ?_
        refine lv_aload_n hx hb dX4_isSound_19 rfl (lv_at hl 0 rfl) ?_
        refine q_get C hP f1 rfl inX4 2 (by decide) g451 rfl dX4_isSound_20 ?_
        refine q_callS (rest := [.int (nI (1 + (B1.length))), .int (nI (A1.length + B1.length + 1))]) C (c_X4_sizeOf l D cy N0 h r1 (nI A1.length) hr1.fiS) kX4_sizeOf g446 g233 hP hS (by first | decide | omega) hl.1 rfl (by simp [q_catrf, q_cati, q_catl, q_cata, q_catn]) (by first | decide | omega) dX4_isSound_23 (fun q ce E h' H1 locs1 hE => hE.elim) (fun v hh2 H locs hq hP hS => ?_)
        obtain ⟨rfl, rfl⟩ := hq
        refine q_iaddN hx hb dX4_isSound_26 ?_
        refine lv_icmp_ne (tgt := 101) hx hb dX4_isSound_27 (by decide) (fun c27 => ?_) (fun c27 => ?_)
        · replace c27 : ¬ (A1.length + B1.length + 1) = ((1 + (B1.length)) + (A1.length)) := fun zq => c27 ((nI_eq (a := (A1.length + B1.length + 1)) (b := ((1 + (B1.length)) + (A1.length))) (by omega) (by omega)).mpr zq)
          exfalso; omega
        · replace c27 : (A1.length + B1.length + 1) = ((1 + (B1.length)) + (A1.length)) := (nI_eq (a := (A1.length + B1.length + 1)) (b := ((1 + (B1.length)) + (A1.length))) (by omega) (by omega)).mp c27
          refine lv_aload_n hx hb dX4_isSound_30 rfl (lv_at hl 0 rfl) ?_
          refine q_get C hP f1 rfl inX4 1 (by decide) g449 rfl dX4_isSound_31 ?_
          refine q_callS (rest := []) C (c_X4_sizeOf l D cy N0 h l1 (nI B1.length) hl1.fiS) kX4_sizeOf g446 g233 hP hS (by first | decide | omega) hl.1 rfl (by decide) (by first | decide | omega) dX4_isSound_34 (fun q ce E h' H1 locs1 hE => hE.elim) (fun v hh3 H locs hq hP hS => ?_)
          obtain ⟨rfl, rfl⟩ := hq
          refine lv_aload_n hx hb dX4_isSound_37 rfl (lv_at hl 0 rfl) ?_
          refine q_get C hP f1 rfl inX4 2 (by decide) g451 rfl dX4_isSound_38 ?_
          refine q_callS (rest := [.int (nI B1.length)]) C (c_X4_sizeOf l D cy N0 h r1 (nI A1.length) hr1.fiS) kX4_sizeOf g446 g233 hP hS (by first | decide | omega) hl.1 rfl (by simp [q_catrf, q_cati, q_catl, q_cata, q_catn]) (by first | decide | omega) dX4_isSound_41 (fun q ce E h' H1 locs1 hE => hE.elim) (fun v hh4 H locs hq hP hS => ?_)
          obtain ⟨rfl, rfl⟩ := hq
          refine lv_icmp_lt (tgt := 101) hx hb dX4_isSound_44 (by decide) (fun c44 => ?_) (fun c44 => ?_)
          · replace c44 : (B1.length) < (A1.length) := (nI_ltI (a := B1.length) (b := A1.length) (by omega) (by omega)).mp c44
            exfalso; omega
          · replace c44 : ¬ (B1.length) < (A1.length) := fun zq => c44 ((nI_ltI (a := B1.length) (b := A1.length) (by omega) (by omega)).mpr zq)
            refine lv_aload_n hx hb dX4_isSound_47 rfl (lv_at hl 0 rfl) ?_
            refine q_get C hP f1 rfl inX4 1 (by decide) g449 rfl dX4_isSound_48 ?_
            rcases hl1.inv with ⟨-, e5, -⟩ | ⟨b5, w5, y5, z5, p5, q5, C5, D5, e5, k5, -, -, o5, -, -⟩
            · rw [e5]
              refine lv_ifnullN (tgt := 69) hx hb dX4_isSound_51 (by decide) ?_
              refine lv_aload_n hx hb dX4_isSound_69 rfl (lv_at hl 0 rfl) ?_
              refine q_get C hP f1 rfl inX4 2 (by decide) g451 rfl dX4_isSound_70 ?_
              rcases hr1.inv with ⟨-, e7, -⟩ | ⟨b7, w7, y7, z7, p7, q7, C7, D7, e7, k7, -, -, o7, -, -⟩
              · rw [e7]
                refine lv_ifnullN (tgt := 91) hx hb dX4_isSound_73 (by decide) ?_
                refine lv_aload_n hx hb dX4_isSound_91 rfl (lv_at hl 0 rfl) ?_
                refine q_get C hP f1 rfl inX4 2 (by decide) g451 rfl dX4_isSound_92 ?_
                refine q_callS (rest := []) C (ih h r1 t1 A1 d' hr1 (by omega) (by omega)) kX4_isSound g1123 g1121 hP hS (by first | decide | omega) hl.1 rfl (by decide) (by first | decide | omega) dX4_isSound_95 (fun q ce E h' H1 locs1 hE => hE.elim) (fun v hh5 H locs hq hP hS => ?_)
                obtain ⟨rfl, rfl⟩ := hq
                refine lv_if_ne (tgt := 103) hx hb dX4_isSound_98 (by decide) (fun c98 => ?_) (fun c98 => ?_)
                · replace c98 : ¬ 1 = 0 := fun zq => c98 ((nI_eq (a := 1) (b := 0) (by omega) (by omega)).mpr zq)
                  refine lv_aload_n hx hb dX4_isSound_103 rfl (lv_at hl 0 rfl) ?_
                  refine q_get C hP f1 rfl inX4 1 (by decide) g449 rfl dX4_isSound_104 ?_
                  refine q_astore_n (lv' := [(1, va_rf l1)]) hx hb dX4_isSound_107 rfl hl (by decide) rfl (fun ls hl => ?_)
                  refine lv_goto (tgt := 2) hx hb dX4_isSound_108 (by decide) ?_
                  exact ihl H locs ls l1 B1 u1 (by omega) hl1 (by rw [Nat.pow_succ]; omega) (lv_sub hl [0] rfl) hP hS
                · replace c98 : 1 = 0 := (nI_eq (a := 1) (b := 0) (by omega) (by omega)).mp c98
                  exfalso; omega
              · rw [e7]
                refine lv_ifnull hx hb dX4_isSound_73 ?_
                have n7 : v1.toInt ≤ w7.toInt := m1 w7 (by rw [o7]; simp)
                refine lv_aload_n hx hb dX4_isSound_76 rfl (lv_at hl 0 rfl) ?_
                refine q_get C hP f1 rfl inX4 2 (by decide) g451 rfl dX4_isSound_77 ?_
                rw [e7]
                refine q_get C hP k7 rfl inX4 0 (by decide) g447 rfl dX4_isSound_80 ?_
                refine lv_aload_n hx hb dX4_isSound_83 rfl (lv_at hl 0 rfl) ?_
                refine q_get C hP f1 rfl inX4 0 (by decide) g447 rfl dX4_isSound_84 ?_
                refine W.lcmp hx hb dX4_isSound_87 ?_
                refine lv_if_lt (tgt := 101) hx hb dX4_isSound_88 (by decide) (fun c88 => ?_) (fun c88 => ?_)
                · replace c88 : w7.toInt < v1.toInt := Int64.lt_iff_toInt_lt.mp ((lg_cmp_lt _ _).mp c88)
                  exfalso; omega
                · replace c88 : ¬ w7.toInt < v1.toInt := fun zq => c88 ((lg_cmp_lt _ _).mpr (Int64.lt_iff_toInt_lt.mpr zq))
                  refine lv_aload_n hx hb dX4_isSound_91 rfl (lv_at hl 0 rfl) ?_
                  refine q_get C hP f1 rfl inX4 2 (by decide) g451 rfl dX4_isSound_92 ?_
                  refine q_callS (rest := []) C (ih h r1 t1 A1 d' hr1 (by omega) (by omega)) kX4_isSound g1123 g1121 hP hS (by first | decide | omega) hl.1 rfl (by decide) (by first | decide | omega) dX4_isSound_95 (fun q ce E h' H1 locs1 hE => hE.elim) (fun v hh6 H locs hq hP hS => ?_)
                  obtain ⟨rfl, rfl⟩ := hq
                  refine lv_if_ne (tgt := 103) hx hb dX4_isSound_98 (by decide) (fun c98 => ?_) (fun c98 => ?_)
                  · replace c98 : ¬ 1 = 0 := fun zq => c98 ((nI_eq (a := 1) (b := 0) (by omega) (by omega)).mpr zq)
                    refine lv_aload_n hx hb dX4_isSound_103 rfl (lv_at hl 0 rfl) ?_
                    refine q_get C hP f1 rfl inX4 1 (by decide) g449 rfl dX4_isSound_104 ?_
                    refine q_astore_n (lv' := [(1, va_rf l1)]) hx hb dX4_isSound_107 rfl hl (by decide) rfl (fun ls hl => ?_)
                    refine lv_goto (tgt := 2) hx hb dX4_isSound_108 (by decide) ?_
                    exact ihl H locs ls l1 B1 u1 (by omega) hl1 (by rw [Nat.pow_succ]; omega) (lv_sub hl [0] rfl) hP hS
                  · replace c98 : 1 = 0 := (nI_eq (a := 1) (b := 0) (by omega) (by omega)).mp c98
                    exfalso; omega
            · rw [e5]
              refine lv_ifnull hx hb dX4_isSound_51 ?_
              have n5 : v1.toInt ≤ w5.toInt := m1 w5 (by rw [o5]; simp)
              refine lv_aload_n hx hb dX4_isSound_54 rfl (lv_at hl 0 rfl) ?_
              refine q_get C hP f1 rfl inX4 1 (by decide) g449 rfl dX4_isSound_55 ?_
              rw [e5]
              refine q_get C hP k5 rfl inX4 0 (by decide) g447 rfl dX4_isSound_58 ?_
              refine lv_aload_n hx hb dX4_isSound_61 rfl (lv_at hl 0 rfl) ?_
              refine q_get C hP f1 rfl inX4 0 (by decide) g447 rfl dX4_isSound_62 ?_
              refine W.lcmp hx hb dX4_isSound_65 ?_
              refine lv_if_lt (tgt := 101) hx hb dX4_isSound_66 (by decide) (fun c66 => ?_) (fun c66 => ?_)
              · replace c66 : w5.toInt < v1.toInt := Int64.lt_iff_toInt_lt.mp ((lg_cmp_lt _ _).mp c66)
                exfalso; omega
              · replace c66 : ¬ w5.toInt < v1.toInt := fun zq => c66 ((lg_cmp_lt _ _).mpr (Int64.lt_iff_toInt_lt.mpr zq))
                refine lv_aload_n hx hb dX4_isSound_69 rfl (lv_at hl 0 rfl) ?_
                refine q_get C hP f1 rfl inX4 2 (by decide) g451 rfl dX4_isSound_70 ?_
                rcases hr1.inv with ⟨-, e7, -⟩ | ⟨b7, w7, y7, z7, p7, q7, C7, D7, e7, k7, -, -, o7, -, -⟩
                · rw [e7]
                  refine lv_ifnullN (tgt := 91) hx hb dX4_isSound_73 (by decide) ?_
                  refine lv_aload_n hx hb dX4_isSound_91 rfl (lv_at hl 0 rfl) ?_
                  refine q_get C hP f1 rfl inX4 2 (by decide) g451 rfl dX4_isSound_92 ?_
                  refine q_callS (rest := []) C (ih h r1 t1 A1 d' hr1 (by omega) (by omega)) kX4_isSound g1123 g1121 hP hS (by first | decide | omega) hl.1 rfl (by decide) (by first | decide | omega) dX4_isSound_95 (fun q ce E h' H1 locs1 hE => hE.elim) (fun v hh7 H locs hq hP hS => ?_)
                  obtain ⟨rfl, rfl⟩ := hq
                  refine lv_if_ne (tgt := 103) hx hb dX4_isSound_98 (by decide) (fun c98 => ?_) (fun c98 => ?_)
                  · replace c98 : ¬ 1 = 0 := fun zq => c98 ((nI_eq (a := 1) (b := 0) (by omega) (by omega)).mpr zq)
                    refine lv_aload_n hx hb dX4_isSound_103 rfl (lv_at hl 0 rfl) ?_
                    refine q_get C hP f1 rfl inX4 1 (by decide) g449 rfl dX4_isSound_104 ?_
                    refine q_astore_n (lv' := [(1, va_rf l1)]) hx hb dX4_isSound_107 rfl hl (by decide) rfl (fun ls hl => ?_)
                    refine lv_goto (tgt := 2) hx hb dX4_isSound_108 (by decide) ?_
                    exact ihl H locs ls l1 B1 u1 (by omega) hl1 (by rw [Nat.pow_succ]; omega) (lv_sub hl [0] rfl) hP hS
                  · replace c98 : 1 = 0 := (nI_eq (a := 1) (b := 0) (by omega) (by omega)).mp c98
                    exfalso; omega
                · rw [e7]
                  refine lv_ifnull hx hb dX4_isSound_73 ?_
                  have n7 : v1.toInt ≤ w7.toInt := m1 w7 (by rw [o7]; simp)
                  refine lv_aload_n hx hb dX4_isSound_76 rfl (lv_at hl 0 rfl) ?_
                  refine q_get C hP f1 rfl inX4 2 (by decide) g451 rfl dX4_isSound_77 ?_
                  rw [e7]
                  refine q_get C hP k7 rfl inX4 0 (by decide) g447 rfl dX4_isSound_80 ?_
                  refine lv_aload_n hx hb dX4_isSound_83 rfl (lv_at hl 0 rfl) ?_
                  refine q_get C hP f1 rfl inX4 0 (by decide) g447 rfl dX4_isSound_84 ?_
                  refine W.lcmp hx hb dX4_isSound_87 ?_
                  refine lv_if_lt (tgt := 101) hx hb dX4_isSound_88 (by decide) (fun c88 => ?_) (fun c88 => ?_)
                  · replace c88 : w7.toInt < v1.toInt := Int64.lt_iff_toInt_lt.mp ((lg_cmp_lt _ _).mp c88)
                    exfalso; omega
                  · replace c88 : ¬ w7.toInt < v1.toInt := fun zq => c88 ((lg_cmp_lt _ _).mpr (Int64.lt_iff_toInt_lt.mpr zq))
                    refine lv_aload_n hx hb dX4_isSound_91 rfl (lv_at hl 0 rfl) ?_
                    refine q_get C hP f1 rfl inX4 2 (by decide) g451 rfl dX4_isSound_92 ?_
                    refine q_callS (rest := []) C (ih h r1 t1 A1 d' hr1 (by omega) (by omega)) kX4_isSound g1123 g1121 hP hS (by first | decide | omega) hl.1 rfl (by decide) (by first | decide | omega) dX4_isSound_95 (fun q ce E h' H1 locs1 hE => hE.elim) (fun v hh8 H locs hq hP hS => ?_)
                    obtain ⟨rfl, rfl⟩ := hq
                    refine lv_if_ne (tgt := 103) hx hb dX4_isSound_98 (by decide) (fun c98 => ?_) (fun c98 => ?_)
                    · replace c98 : ¬ 1 = 0 := fun zq => c98 ((nI_eq (a := 1) (b := 0) (by omega) (by omega)).mpr zq)
                      refine lv_aload_n hx hb dX4_isSound_103 rfl (lv_at hl 0 rfl) ?_
                      refine q_get C hP f1 rfl inX4 1 (by decide) g449 rfl dX4_isSound_104 ?_
                      refine q_astore_n (lv' := [(1, va_rf l1)]) hx hb dX4_isSound_107 rfl hl (by decide) rfl (fun ls hl => ?_)
                      refine lv_goto (tgt := 2) hx hb dX4_isSound_108 (by decide) ?_
                      exact ihl H locs ls l1 B1 u1 (by omega) hl1 (by rw [Nat.pow_succ]; omega) (lv_sub hl [0] rfl) hP hS
                    · replace c98 : 1 = 0 := (nI_eq (a := 1) (b := 0) (by omega) (by omega)).mp c98
                      exfalso; omega
