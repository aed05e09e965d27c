theorem dX8_hash_0 : decode cX8_hash 0 = .ok (.aload_n 0, 1) := by decide +kernel
theorem dX8_hash_1 : decode cX8_hash 1 = .ok (.getfield 69, 3) := by decide +kernel
theorem dX8_hash_4 : decode cX8_hash 4 = .ok (.ifCond .ne 8, 3) := by decide +kernel
theorem dX8_hash_7 : decode cX8_hash 7 = .ok (.lload_n 1, 1) := by decide +kernel
theorem dX8_hash_8 : decode cX8_hash 8 = .ok (.l2i, 1) := by decide +kernel
theorem dX8_hash_9 : decode cX8_hash 9 = .ok (.goto 21, 3) := by decide +kernel
theorem dX8_hash_12 : decode cX8_hash 12 = .ok (.aload_n 0, 1) := by decide +kernel
theorem dX8_hash_13 : decode cX8_hash 13 = .ok (.getfield 69, 3) := by decide +kernel
theorem dX8_hash_16 : decode cX8_hash 16 = .ok (.iconst 1, 1) := by decide +kernel
theorem dX8_hash_17 : decode cX8_hash 17 = .ok (.if_icmp .ne 12, 3) := by decide +kernel
theorem dX8_hash_20 : decode cX8_hash 20 = .ok (.lload_n 1, 1) := by decide +kernel
theorem dX8_hash_21 : decode cX8_hash 21 = .ok (.l2i, 1) := by decide +kernel
theorem dX8_hash_22 : decode cX8_hash 22 = .ok (.sipush 255, 3) := by decide +kernel
theorem dX8_hash_25 : decode cX8_hash 25 = .ok (.iand, 1) := by decide +kernel
theorem dX8_hash_26 : decode cX8_hash 26 = .ok (.goto 4, 3) := by decide +kernel
theorem dX8_hash_29 : decode cX8_hash 29 = .ok (.iconst 0, 1) := by decide +kernel
theorem dX8_hash_30 : decode cX8_hash 30 = .ok (.ireturn, 1) := by decide +kernel
set_option maxRecDepth 100000 in
set_option maxHeartbeats 4000000 in
theorem c_X8_hash (l : Launch) (D : va_G) (cy : Nat → ClassId) (N0 : Nat) (h : qH) (y ms mb mw od pt fi re rc rs so ot cn la ro : Nat) (gr cd ca mv ct fau cs ce rn : Int32) (k0 : Int64) (hY : h y = some (.inr (8, [.ref ms, .ref mb, .ref mw, .int gr, .int cd, .int ca, .int mv, .ref od, .ref pt, .int ct, .int fau, .ref fi, .ref re, .int cs, .ref rc, .ref rs, .ref so, .ref ot, .ref cn, .ref la, .int ce, .ref ro, .int rn]))) : qC l D cy N0 yX8_hash cX8_hash 3 (some .int) 0 0 0 0 [.ref y, .long k0] h (fun v h' => v = some (.int (qHsh gr k0)) ∧ h = h') (fun E h' => False) := by
  refine q_ofW (by decide) (by exact Nat.le_of_ble_eq_true rfl) ?_
  intro p e s m below meth c ls C hP hl
  have hx := C.1
  have hb := C.2.1
  have hS : va_S (qA N0) s.heap s.heap [] := va_S.rf
  have hl : lv_has ls 3 [(0, .ref y), (1, .long k0)] := hl
  have hle : qle h h := qle_rf
  refine lv_aload_n hx hb dX8_hash_0 rfl (lv_at hl 0 rfl) ?_
  refine q_get C hP hY rfl inX8 3 (by decide) g1170 rfl dX8_hash_1 ?_
  refine lv_if_ne (tgt := 12) hx hb dX8_hash_4 (by decide) (fun c4 => ?_) (fun c4 => ?_)
  · refine lv_aload_n hx hb dX8_hash_12 rfl (lv_at hl 0 rfl) ?_
    refine q_get C hP hY rfl inX8 3 (by decide) g1170 rfl dX8_hash_13 ?_
    refine lv_iconst (v := 1) hx hb dX8_hash_16 (by decide) ?_
    refine lv_icmp_ne (tgt := 29) hx hb dX8_hash_17 (by decide) (fun c17 => ?_) (fun c17 => ?_)
    · refine lv_iconst (v := 0) hx hb dX8_hash_29 (by decide) ?_
      exact q_iret C hP hS ⟨by unfold qHsh; rw [if_neg c4, if_neg c17], rfl⟩ (by omega) dX8_hash_30
    · refine lv_lload_n hx hb dX8_hash_20 rfl (lv_at hl 1 rfl) ?_
      refine lv_l2i hx hb dX8_hash_21 rfl ?_
      refine lv_sipush (v := 255) hx hb dX8_hash_22 (by decide) ?_
      refine lv_iand hx hb dX8_hash_25 ?_
      refine lv_goto (tgt := 30) hx hb dX8_hash_26 (by decide) ?_
      exact q_iret C hP hS ⟨by unfold qHsh; rw [if_neg c4, if_pos c17], rfl⟩ (by omega) dX8_hash_30
  · refine lv_lload_n hx hb dX8_hash_7 rfl (lv_at hl 1 rfl) ?_
    refine lv_l2i hx hb dX8_hash_8 rfl ?_
    refine lv_goto (tgt := 30) hx hb dX8_hash_9 (by decide) ?_
    exact q_iret C hP hS ⟨by unfold qHsh; rw [if_pos c4], rfl⟩ (by omega) dX8_hash_30

theorem dX8_find_0 : decode cX8_find 0 = .ok (.iconst 0, 1) := by decide +kernel
theorem dX8_find_1 : decode cX8_find 1 = .ok (.istore_n 3, 1) := by decide +kernel
theorem dX8_find_2 : decode cX8_find 2 = .ok (.iload_n 3, 1) := by decide +kernel
theorem dX8_find_3 : decode cX8_find 3 = .ok (.aload_n 0, 1) := by decide +kernel
theorem dX8_find_4 : decode cX8_find 4 = .ok (.getfield 78, 3) := by decide +kernel
theorem dX8_find_7 : decode cX8_find 7 = .ok (.if_icmp .ge 22, 3) := by decide +kernel
theorem dX8_find_10 : decode cX8_find 10 = .ok (.aload_n 0, 1) := by decide +kernel
theorem dX8_find_11 : decode cX8_find 11 = .ok (.getfield 90, 3) := by decide +kernel
theorem dX8_find_14 : decode cX8_find 14 = .ok (.iload_n 3, 1) := by decide +kernel
theorem dX8_find_15 : decode cX8_find 15 = .ok (.laload, 1) := by decide +kernel
theorem dX8_find_16 : decode cX8_find 16 = .ok (.lload_n 1, 1) := by decide +kernel
theorem dX8_find_17 : decode cX8_find 17 = .ok (.lcmp, 1) := by decide +kernel
theorem dX8_find_18 : decode cX8_find 18 = .ok (.ifCond .ne 5, 3) := by decide +kernel
theorem dX8_find_21 : decode cX8_find 21 = .ok (.iload_n 3, 1) := by decide +kernel
theorem dX8_find_22 : decode cX8_find 22 = .ok (.ireturn, 1) := by decide +kernel
theorem dX8_find_23 : decode cX8_find 23 = .ok (.iinc 3 1, 3) := by decide +kernel
theorem dX8_find_26 : decode cX8_find 26 = .ok (.goto (-24), 3) := by decide +kernel
theorem dX8_find_29 : decode cX8_find 29 = .ok (.iconst (-1), 1) := by decide +kernel
theorem dX8_find_30 : decode cX8_find 30 = .ok (.ireturn, 1) := by decide +kernel
set_option maxRecDepth 100000 in
set_option maxHeartbeats 4000000 in
theorem c_X8_find (l : Launch) (D : va_G) (cy : Nat → ClassId) (N0 : Nat) (h : qH) (a ka va : Nat) (kd sm dp rw : Int32) (n : Nat) (f g : Nat → Int64) (k0 : Int64) (hR : qRw cy h a ka va kd (nI n) sm dp rw f g) (hn : n ≤ 1001) : qC l D cy N0 yX8_find cX8_find 4 (some .int) 0 0 0 0 [.ref a, .long k0] h (fun v h' => h = h' ∧ ((∃ j, v = some (.int (nI j)) ∧ j < n ∧ f j = k0 ∧ ∀ q, q < j → f q ≠ k0) ∨ (v = some (.int (-1)) ∧ ∀ q, q < n → f q ≠ k0))) (fun E h' => False) := by
  refine q_ofW (by decide) (by exact Nat.le_of_ble_eq_true rfl) ?_
  intro p e s m below meth c ls C hP hl
  have hx := C.1
  have hb := C.2.1
  have hS : va_S (qA N0) s.heap s.heap [] := va_S.rf
  have hl : lv_has ls 4 [(0, .ref a), (1, .long k0)] := hl
  have hle : qle h h := qle_rf
  have fa := hR.2.2.2.1
  have fk := hR.2.2.2.2.1
  have fv := hR.2.2.2.2.2
  unfold qRb at fa
  unfold qJr at fk fv
  refine lv_iconst (v := nI 0) hx hb dX8_find_0 (by decide) ?_
  refine lv_istore_n (lv' := [(3, .int (nI 0)), (0, .ref a), (1, .long k0)]) hx hb dX8_find_1 rfl hl (by decide) rfl (fun ls hl => ?_)
  refine (?_ : ∀ (t : Nat) (H : Heap) (locs : List Loc) (ls : Array Slot) (j : Nat), n - j < t → lv_has ls 4 [(3, .int (nI j)), (0, .ref a), (1, .long k0)] → j ≤ n → (∀ q, q < j → f q ≠ k0) → qP D N0 h H → va_S (qA N0) s.heap H locs → W p l e _ s m _ below meth c H locs 0 0 _ (F0 m 2 ls [])) _ s.heap [] ls 0 (Nat.lt_succ_self _) (lv_sub hl [0, 1, 2] rfl) (Nat.zero_le _) (fun q hq => absurd hq (Nat.not_lt_zero _)) hP hS
  clear hl hP hS
  intro t
  induction t with
  | zero => intro H locs ls j ht; exact absurd ht (Nat.not_lt_zero _)
  | succ t ihl =>
    intro H locs ls j ht hl hj kk hP hS
    refine lv_iload_n hx hb dX8_find_2 rfl (lv_at hl 0 rfl) ?_
    refine lv_aload_n hx hb dX8_find_3 rfl (lv_at hl 1 rfl) ?_
    refine q_get C hP fa rfl inX7 3 (by decide) g1143 rfl dX8_find_4 ?_
    refine lv_icmp_ge (tgt := 29) hx hb dX8_find_7 (by decide) (fun c7 => ?_) (fun c7 => ?_)
    · replace c7 : n ≤ j := (nI_leI (a := n) (b := j) (by omega) (by omega)).mp c7
      refine lv_iconst (v := -1) hx hb dX8_find_29 (by decide) ?_
      exact q_iret C hP hS ⟨rfl, Or.inr ⟨rfl, fun q hq => kk q (by omega)⟩⟩ (by omega) dX8_find_30
    · replace c7 : ¬ n ≤ j := fun zq => c7 ((nI_leI (a := n) (b := j) (by omega) (by omega)).mpr zq)
      refine lv_aload_n hx hb dX8_find_10 rfl (lv_at hl 1 rfl) ?_
      refine q_get C hP fa rfl inX7 0 (by decide) g1138 rfl dX8_find_11 ?_
      refine lv_iload_n hx hb dX8_find_14 rfl (lv_at hl 0 rfl) ?_
      refine q_laldN C hP fk (by omega) (by omega) dX8_find_15 ?_
      refine lv_lload_n hx hb dX8_find_16 rfl (lv_at hl 2 rfl) ?_
      refine W.lcmp hx hb dX8_find_17 ?_
      refine lv_if_ne (tgt := 23) hx hb dX8_find_18 (by decide) (fun c18 => ?_) (fun c18 => ?_)
      · replace c18 : ¬ (f j).toInt = k0.toInt := fun zq => c18 ((lg_cmp_eq _ _).mpr (Int64.toInt_inj.symm.mpr zq))
        refine lv_iinc (v := nI (j + 1)) (lv' := [(3, .int (nI (j + 1))), (0, .ref a), (1, .long k0)]) hx hb dX8_find_23 hl (k := 0) rfl (nI_1 j) (by decide) rfl (fun ls hl => ?_)
        refine lv_goto (tgt := 2) hx hb dX8_find_26 (by decide) ?_
        exact ihl H locs ls (j + 1) (by omega) (lv_sub hl [0, 1, 2] rfl) (by omega) (fun q hq => if e : q = j then by (subst e; exact fun e => c18 (by rw [e])) else kk q (by omega)) hP hS
      · replace c18 : (f j).toInt = k0.toInt := Int64.toInt_inj.symm.mp ((lg_cmp_eq _ _).mp c18)
        refine lv_iload_n hx hb dX8_find_21 rfl (lv_at hl 0 rfl) ?_
        exact q_iret C hP hS ⟨rfl, Or.inl ⟨j, rfl, by omega, Int64.toInt_inj.mp c18, kk⟩⟩ (by omega) dX8_find_22

theorem dX8_insert_0 : decode cX8_insert 0 = .ok (.aload_n 0, 1) := by decide +kernel
theorem dX8_insert_1 : decode cX8_insert 1 = .ok (.getfield 78, 3) := by decide +kernel
theorem dX8_insert_4 : decode cX8_insert 4 = .ok (.istore 6, 2) := by decide +kernel
theorem dX8_insert_6 : decode cX8_insert 6 = .ok (.iload 6, 2) := by decide +kernel
theorem dX8_insert_8 : decode cX8_insert 8 = .ok (.iload_n 1, 1) := by decide +kernel
theorem dX8_insert_9 : decode cX8_insert 9 = .ok (.if_icmp .le 41, 3) := by decide +kernel
theorem dX8_insert_12 : decode cX8_insert 12 = .ok (.aload_n 0, 1) := by decide +kernel
theorem dX8_insert_13 : decode cX8_insert 13 = .ok (.getfield 90, 3) := by decide +kernel
theorem dX8_insert_16 : decode cX8_insert 16 = .ok (.iload 6, 2) := by decide +kernel
theorem dX8_insert_18 : decode cX8_insert 18 = .ok (.aload_n 0, 1) := by decide +kernel
theorem dX8_insert_19 : decode cX8_insert 19 = .ok (.getfield 90, 3) := by decide +kernel
theorem dX8_insert_22 : decode cX8_insert 22 = .ok (.iload 6, 2) := by decide +kernel
theorem dX8_insert_24 : decode cX8_insert 24 = .ok (.iconst 1, 1) := by decide +kernel
theorem dX8_insert_25 : decode cX8_insert 25 = .ok (.isub, 1) := by decide +kernel
theorem dX8_insert_26 : decode cX8_insert 26 = .ok (.laload, 1) := by decide +kernel
theorem dX8_insert_27 : decode cX8_insert 27 = .ok (.lastore, 1) := by decide +kernel
theorem dX8_insert_28 : decode cX8_insert 28 = .ok (.aload_n 0, 1) := by decide +kernel
theorem dX8_insert_29 : decode cX8_insert 29 = .ok (.getfield 93, 3) := by decide +kernel
theorem dX8_insert_32 : decode cX8_insert 32 = .ok (.iload 6, 2) := by decide +kernel
theorem dX8_insert_34 : decode cX8_insert 34 = .ok (.aload_n 0, 1) := by decide +kernel
theorem dX8_insert_35 : decode cX8_insert 35 = .ok (.getfield 93, 3) := by decide +kernel
theorem dX8_insert_38 : decode cX8_insert 38 = .ok (.iload 6, 2) := by decide +kernel
theorem dX8_insert_40 : decode cX8_insert 40 = .ok (.iconst 1, 1) := by decide +kernel
theorem dX8_insert_41 : decode cX8_insert 41 = .ok (.isub, 1) := by decide +kernel
theorem dX8_insert_42 : decode cX8_insert 42 = .ok (.laload, 1) := by decide +kernel
theorem dX8_insert_43 : decode cX8_insert 43 = .ok (.lastore, 1) := by decide +kernel
theorem dX8_insert_44 : decode cX8_insert 44 = .ok (.iinc 6 (-1), 3) := by decide +kernel
theorem dX8_insert_47 : decode cX8_insert 47 = .ok (.goto (-41), 3) := by decide +kernel
theorem dX8_insert_50 : decode cX8_insert 50 = .ok (.aload_n 0, 1) := by decide +kernel
theorem dX8_insert_51 : decode cX8_insert 51 = .ok (.getfield 90, 3) := by decide +kernel
theorem dX8_insert_54 : decode cX8_insert 54 = .ok (.iload_n 1, 1) := by decide +kernel
theorem dX8_insert_55 : decode cX8_insert 55 = .ok (.lload_n 2, 1) := by decide +kernel
theorem dX8_insert_56 : decode cX8_insert 56 = .ok (.lastore, 1) := by decide +kernel
theorem dX8_insert_57 : decode cX8_insert 57 = .ok (.aload_n 0, 1) := by decide +kernel
theorem dX8_insert_58 : decode cX8_insert 58 = .ok (.getfield 93, 3) := by decide +kernel
theorem dX8_insert_61 : decode cX8_insert 61 = .ok (.iload_n 1, 1) := by decide +kernel
theorem dX8_insert_62 : decode cX8_insert 62 = .ok (.lload 4, 2) := by decide +kernel
theorem dX8_insert_64 : decode cX8_insert 64 = .ok (.lastore, 1) := by decide +kernel
theorem dX8_insert_65 : decode cX8_insert 65 = .ok (.aload_n 0, 1) := by decide +kernel
theorem dX8_insert_66 : decode cX8_insert 66 = .ok (.dup, 1) := by decide +kernel
theorem dX8_insert_67 : decode cX8_insert 67 = .ok (.getfield 78, 3) := by decide +kernel
theorem dX8_insert_70 : decode cX8_insert 70 = .ok (.iconst 1, 1) := by decide +kernel
theorem dX8_insert_71 : decode cX8_insert 71 = .ok (.iadd, 1) := by decide +kernel
theorem dX8_insert_72 : decode cX8_insert 72 = .ok (.putfield 78, 3) := by decide +kernel
theorem dX8_insert_75 : decode cX8_insert 75 = .ok (.return_, 1) := by decide +kernel
set_option maxRecDepth 100000 in
set_option maxHeartbeats 4000000 in
theorem c_X8_insert (l : Launch) (D : va_G) (cy : Nat → ClassId) (N0 : Nat) (h : qH) (a ka va : Nat) (kd sm dp rw : Int32) (n : Nat) (f g : Nat → Int64) (p0 : Nat) (k0 v0 : Int64) (hR : qRw cy h a ka va kd (nI n) sm dp rw f g) (hn : n < 1001) (hp : p0 ≤ n) : qC l D cy N0 yX8_insert cX8_insert 7 none 0 0 0 0 [.ref a, .int (nI p0), .long k0, .long v0] h (fun v h' => v = none ∧ h' = qRh cy h a ka va kd (nI (n + 1)) sm dp rw (vp_updL (qSh f p0 n) p0 k0) (vp_updL (qSh g p0 n) p0 v0)) (fun E h' => False) := by
  refine q_ofW (by decide) (by exact Nat.le_of_ble_eq_true rfl) ?_
  intro p e s m below meth c ls C hP hl
  have hx := C.1
  have hb := C.2.1
  have hS : va_S (qA N0) s.heap s.heap [] := va_S.rf
  have hl : lv_has ls 7 [(0, .ref a), (1, .int (nI p0)), (2, .long k0), (4, .long v0)] := hl
  have hle : qle h h := qle_rf
  rw [← hR.same] at hP
  have hR9 := hR.new (kd2 := kd) (n2 := (nI n)) (sm2 := sm) (dp2 := dp) (rw2 := rw) (f2 := f) (g2 := g)
  have fa := hR9.2.2.2.1
  have fk := hR9.2.2.2.2.1
  have fv := hR9.2.2.2.2.2
  unfold qRb at fa
  unfold qJr at fk fv
  refine lv_aload_n hx hb dX8_insert_0 rfl (lv_at hl 0 rfl) ?_
  refine q_get C hP fa rfl inX7 3 (by decide) g1143 rfl dX8_insert_1 ?_
  refine lv_istore (lv' := [(6, .int (nI n)), (0, .ref a), (1, .int (nI p0)), (2, .long k0), (4, .long v0)]) hx hb dX8_insert_4 hl (by decide) rfl (fun ls hl => ?_)
  refine (?_ : ∀ (t : Nat) (H : Heap) (locs : List Loc) (ls : Array Slot) (i : Nat), i - p0 < t → lv_has ls 7 [(6, .int (nI i)), (0, .ref a), (1, .int (nI p0)), (2, .long k0), (4, .long v0)] → p0 ≤ i ∧ i ≤ n → qP D N0 (qRh cy h a ka va kd (nI n) sm dp rw (qSh f i n) (qSh g i n)) H → va_S (qA N0) s.heap H locs → W p l e _ s m _ below meth c H locs 0 0 _ (F0 m 6 ls [])) _ s.heap [] ls n (Nat.lt_succ_self _) (lv_sub hl [0, 1, 2, 3, 4] rfl) ⟨hp, Nat.le_refl _⟩ (by rw [qSh_0, qSh_0]; exact hP) hS
  clear hl hP hS
  intro t
  induction t with
  | zero => intro H locs ls i ht; exact absurd ht (Nat.not_lt_zero _)
  | succ t ihl =>
    intro H locs ls i ht hl hi hP hS
    have hR9 := hR.new (kd2 := kd) (n2 := (nI n)) (sm2 := sm) (dp2 := dp) (rw2 := rw) (f2 := (qSh f i n)) (g2 := (qSh g i n))
    have fa := hR9.2.2.2.1
    have fk := hR9.2.2.2.2.1
    have fv := hR9.2.2.2.2.2
    unfold qRb at fa
    unfold qJr at fk fv
    refine lv_iload hx hb dX8_insert_6 (lv_at hl 0 rfl) ?_
    refine lv_iload_n hx hb dX8_insert_8 rfl (lv_at hl 2 rfl) ?_
    refine lv_icmp_le (tgt := 50) hx hb dX8_insert_9 (by decide) (fun c9 => ?_) (fun c9 => ?_)
    · replace c9 : i ≤ p0 := (nI_leI (a := i) (b := p0) (by omega) (by omega)).mp c9
      refine lv_aload_n hx hb dX8_insert_50 rfl (lv_at hl 1 rfl) ?_
      refine q_get C hP fa rfl inX7 0 (by decide) g1138 rfl dX8_insert_51 ?_
      refine lv_iload_n hx hb dX8_insert_54 rfl (lv_at hl 2 rfl) ?_
      refine lv_lload_n hx hb dX8_insert_55 rfl (lv_at hl 3 rfl) ?_
      refine q_lastN C hP hS fk (by omega) (by omega) dX8_insert_56 (fun H locs hP hS => ?_)
      rw [hR.setk] at hP
      have hR9 := hR.new (kd2 := kd) (n2 := (nI n)) (sm2 := sm) (dp2 := dp) (rw2 := rw) (f2 := vp_updL (qSh f i n) p0 k0) (g2 := (qSh g i n))
      have fa := hR9.2.2.2.1
      have fk := hR9.2.2.2.2.1
      have fv := hR9.2.2.2.2.2
      unfold qRb at fa
      unfold qJr at fk fv
      refine lv_aload_n hx hb dX8_insert_57 rfl (lv_at hl 1 rfl) ?_
      refine q_get C hP fa rfl inX7 1 (by decide) g1140 rfl dX8_insert_58 ?_
      refine lv_iload_n hx hb dX8_insert_61 rfl (lv_at hl 2 rfl) ?_
      refine lv_lload hx hb dX8_insert_62 (lv_at hl 4 rfl) ?_
      refine q_lastN C hP hS fv (by omega) (by omega) dX8_insert_64 (fun H locs hP hS => ?_)
      rw [hR.setv] at hP
      have hR9 := hR.new (kd2 := kd) (n2 := (nI n)) (sm2 := sm) (dp2 := dp) (rw2 := rw) (f2 := vp_updL (qSh f i n) p0 k0) (g2 := vp_updL (qSh g i n) p0 v0)
      have fa := hR9.2.2.2.1
      have fk := hR9.2.2.2.2.1
      have fv := hR9.2.2.2.2.2
      unfold qRb at fa
      unfold qJr at fk fv
      refine lv_aload_n hx hb dX8_insert_65 rfl (lv_at hl 1 rfl) ?_
      refine lv_dup hx hb dX8_insert_66 rfl ?_
      refine q_get C hP fa rfl inX7 3 (by decide) g1143 rfl dX8_insert_67 ?_
      refine lv_iconst (v := nI 1) hx hb dX8_insert_70 (by decide) ?_
      refine q_iaddN hx hb dX8_insert_71 ?_
      refine q_put C hP hS fa rfl inX7 tyX7 tyX7_ok nmX7 3 (by decide) g1143 rfl rfl rfl (Nat.le_of_ble_eq_true rfl) dX8_insert_72 (fun H locs hP hS => ?_)
      replace hP : qP D N0 (qs (qRh cy h a ka va kd (nI n) sm dp rw (vp_updL (qSh f i n) p0 k0) (vp_updL (qSh g i n) p0 v0)) a (.inr (7, [.ref ka, .ref va, .int kd, .int (nI (n + 1)), .int sm, .int dp, .int rw]))) H := hP
      rw [qRh_seta] at hP
      have hR9 := hR.new (kd2 := kd) (n2 := (nI (n + 1))) (sm2 := sm) (dp2 := dp) (rw2 := rw) (f2 := vp_updL (qSh f i n) p0 k0) (g2 := vp_updL (qSh g i n) p0 v0)
      have fa := hR9.2.2.2.1
      have fk := hR9.2.2.2.2.1
      have fv := hR9.2.2.2.2.2
      unfold qRb at fa
      unfold qJr at fk fv
      replace hP : qP D N0 (qRh cy h a ka va kd (nI (n + 1)) sm dp rw (vp_updL (qSh f i n) p0 k0) (vp_updL (qSh g i n) p0 v0)) H := hP
      exact q_vret C hP hS ⟨rfl, by rw [show i = p0 by omega]⟩ (by omega) dX8_insert_75
    · replace c9 : ¬ i ≤ p0 := fun zq => c9 ((nI_leI (a := i) (b := p0) (by omega) (by omega)).mpr zq)
      obtain ⟨i, rfl⟩ : ∃ i9, i = i9 + 1 := ⟨i - 1, by omega⟩
      refine lv_aload_n hx hb dX8_insert_12 rfl (lv_at hl 1 rfl) ?_
      refine q_get C hP fa rfl inX7 0 (by decide) g1138 rfl dX8_insert_13 ?_
      refine lv_iload hx hb dX8_insert_16 (lv_at hl 0 rfl) ?_
      refine lv_aload_n hx hb dX8_insert_18 rfl (lv_at hl 1 rfl) ?_
      refine q_get C hP fa rfl inX7 0 (by decide) g1138 rfl dX8_insert_19 ?_
      refine lv_iload hx hb dX8_insert_22 (lv_at hl 0 rfl) ?_
      refine lv_iconst (v := nI 1) hx hb dX8_insert_24 (by decide) ?_
      refine q_isubN hx hb dX8_insert_25 (by omega) ?_
      refine q_laldN C hP fk (by omega) (by omega) dX8_insert_26 ?_
      refine q_lastN C hP hS fk (by omega) (by omega) dX8_insert_27 (fun H locs hP hS => ?_)
      rw [hR.setk] at hP
      have hR9 := hR.new (kd2 := kd) (n2 := (nI n)) (sm2 := sm) (dp2 := dp) (rw2 := rw) (f2 := vp_updL (qSh f (i + 1) n) (i + 1) ((qSh f (i + 1) n) ((i + 1) - 1))) (g2 := (qSh g (i + 1) n))
      have fa := hR9.2.2.2.1
      have fk := hR9.2.2.2.2.1
      have fv := hR9.2.2.2.2.2
      unfold qRb at fa
      unfold qJr at fk fv
      refine lv_aload_n hx hb dX8_insert_28 rfl (lv_at hl 1 rfl) ?_
      refine q_get C hP fa rfl inX7 1 (by decide) g1140 rfl dX8_insert_29 ?_
      refine lv_iload hx hb dX8_insert_32 (lv_at hl 0 rfl) ?_
      refine lv_aload_n hx hb dX8_insert_34 rfl (lv_at hl 1 rfl) ?_
      refine q_get C hP fa rfl inX7 1 (by decide) g1140 rfl dX8_insert_35 ?_
      refine lv_iload hx hb dX8_insert_38 (lv_at hl 0 rfl) ?_
      refine lv_iconst (v := nI 1) hx hb dX8_insert_40 (by decide) ?_
      refine q_isubN hx hb dX8_insert_41 (by omega) ?_
      refine q_laldN C hP fv (by omega) (by omega) dX8_insert_42 ?_
      refine q_lastN C hP hS fv (by omega) (by omega) dX8_insert_43 (fun H locs hP hS => ?_)
      rw [hR.setv] at hP
      have hR9 := hR.new (kd2 := kd) (n2 := (nI n)) (sm2 := sm) (dp2 := dp) (rw2 := rw) (f2 := vp_updL (qSh f (i + 1) n) (i + 1) ((qSh f (i + 1) n) ((i + 1) - 1))) (g2 := vp_updL (qSh g (i + 1) n) (i + 1) ((qSh g (i + 1) n) ((i + 1) - 1)))
      have fa := hR9.2.2.2.1
      have fk := hR9.2.2.2.2.1
      have fv := hR9.2.2.2.2.2
      unfold qRb at fa
      unfold qJr at fk fv
      refine lv_iinc (v := nI i) (lv' := [(6, .int (nI i)), (0, .ref a), (1, .int (nI p0)), (2, .long k0), (4, .long v0)]) hx hb dX8_insert_44 hl (k := 0) rfl (q_decN i) (by decide) rfl (fun ls hl => ?_)
      refine lv_goto (tgt := 6) hx hb dX8_insert_47 (by decide) ?_
      exact ihl H locs ls i (by omega) (lv_sub hl [0, 1, 2, 3, 4] rfl) (by omega) (by rw [show i + 1 - 1 = i from rfl, qSh_step (by omega), qSh_step (by omega)] at hP; exact hP) hS

theorem dX8_remove_0 : decode cX8_remove 0 = .ok (.aload_n 0, 1) := by decide +kernel
theorem dX8_remove_1 : decode cX8_remove 1 = .ok (.dup, 1) := by decide +kernel
theorem dX8_remove_2 : decode cX8_remove 2 = .ok (.getfield 78, 3) := by decide +kernel
theorem dX8_remove_5 : decode cX8_remove 5 = .ok (.iconst 1, 1) := by decide +kernel
theorem dX8_remove_6 : decode cX8_remove 6 = .ok (.isub, 1) := by decide +kernel
theorem dX8_remove_7 : decode cX8_remove 7 = .ok (.putfield 78, 3) := by decide +kernel
theorem dX8_remove_10 : decode cX8_remove 10 = .ok (.iload_n 1, 1) := by decide +kernel
theorem dX8_remove_11 : decode cX8_remove 11 = .ok (.istore_n 2, 1) := by decide +kernel
theorem dX8_remove_12 : decode cX8_remove 12 = .ok (.iload_n 2, 1) := by decide +kernel
theorem dX8_remove_13 : decode cX8_remove 13 = .ok (.aload_n 0, 1) := by decide +kernel
theorem dX8_remove_14 : decode cX8_remove 14 = .ok (.getfield 78, 3) := by decide +kernel
theorem dX8_remove_17 : decode cX8_remove 17 = .ok (.if_icmp .ge 37, 3) := by decide +kernel
theorem dX8_remove_20 : decode cX8_remove 20 = .ok (.aload_n 0, 1) := by decide +kernel
theorem dX8_remove_21 : decode cX8_remove 21 = .ok (.getfield 90, 3) := by decide +kernel
theorem dX8_remove_24 : decode cX8_remove 24 = .ok (.iload_n 2, 1) := by decide +kernel
theorem dX8_remove_25 : decode cX8_remove 25 = .ok (.aload_n 0, 1) := by decide +kernel
theorem dX8_remove_26 : decode cX8_remove 26 = .ok (.getfield 90, 3) := by decide +kernel
theorem dX8_remove_29 : decode cX8_remove 29 = .ok (.iload_n 2, 1) := by decide +kernel
theorem dX8_remove_30 : decode cX8_remove 30 = .ok (.iconst 1, 1) := by decide +kernel
theorem dX8_remove_31 : decode cX8_remove 31 = .ok (.iadd, 1) := by decide +kernel
theorem dX8_remove_32 : decode cX8_remove 32 = .ok (.laload, 1) := by decide +kernel
theorem dX8_remove_33 : decode cX8_remove 33 = .ok (.lastore, 1) := by decide +kernel
theorem dX8_remove_34 : decode cX8_remove 34 = .ok (.aload_n 0, 1) := by decide +kernel
theorem dX8_remove_35 : decode cX8_remove 35 = .ok (.getfield 93, 3) := by decide +kernel
theorem dX8_remove_38 : decode cX8_remove 38 = .ok (.iload_n 2, 1) := by decide +kernel
theorem dX8_remove_39 : decode cX8_remove 39 = .ok (.aload_n 0, 1) := by decide +kernel
theorem dX8_remove_40 : decode cX8_remove 40 = .ok (.getfield 93, 3) := by decide +kernel
theorem dX8_remove_43 : decode cX8_remove 43 = .ok (.iload_n 2, 1) := by decide +kernel
theorem dX8_remove_44 : decode cX8_remove 44 = .ok (.iconst 1, 1) := by decide +kernel
theorem dX8_remove_45 : decode cX8_remove 45 = .ok (.iadd, 1) := by decide +kernel
theorem dX8_remove_46 : decode cX8_remove 46 = .ok (.laload, 1) := by decide +kernel
theorem dX8_remove_47 : decode cX8_remove 47 = .ok (.lastore, 1) := by decide +kernel
theorem dX8_remove_48 : decode cX8_remove 48 = .ok (.iinc 2 1, 3) := by decide +kernel
theorem dX8_remove_51 : decode cX8_remove 51 = .ok (.goto (-39), 3) := by decide +kernel
theorem dX8_remove_54 : decode cX8_remove 54 = .ok (.return_, 1) := by decide +kernel
set_option maxRecDepth 100000 in
set_option maxHeartbeats 4000000 in
theorem c_X8_remove (l : Launch) (D : va_G) (cy : Nat → ClassId) (N0 : Nat) (h : qH) (a ka va : Nat) (kd sm dp rw : Int32) (n : Nat) (f g : Nat → Int64) (p0 : Nat) (hR : qRw cy h a ka va kd (nI n) sm dp rw f g) (hn : n ≤ 1001) (hp : p0 + 1 ≤ n) : qC l D cy N0 yX8_remove cX8_remove 3 none 0 0 0 0 [.ref a, .int (nI p0)] h (fun v h' => v = none ∧ h' = qRh cy h a ka va kd (nI (n - 1)) sm dp rw (qSd f p0 (n - 1)) (qSd g p0 (n - 1))) (fun E h' => False) := by
  refine q_ofW (by decide) (by exact Nat.le_of_ble_eq_true rfl) ?_
  intro p e s m below meth c ls C hP hl
  have hx := C.1
  have hb := C.2.1
  have hS : va_S (qA N0) s.heap s.heap [] := va_S.rf
  have hl : lv_has ls 3 [(0, .ref a), (1, .int (nI p0))] := hl
  have hle : qle h h := qle_rf
  rw [← hR.same] at hP
  have hR9 := hR.new (kd2 := kd) (n2 := (nI n)) (sm2 := sm) (dp2 := dp) (rw2 := rw) (f2 := f) (g2 := g)
  have fa := hR9.2.2.2.1
  have fk := hR9.2.2.2.2.1
  have fv := hR9.2.2.2.2.2
  unfold qRb at fa
  unfold qJr at fk fv
  refine lv_aload_n hx hb dX8_remove_0 rfl (lv_at hl 0 rfl) ?_
  refine lv_dup hx hb dX8_remove_1 rfl ?_
  refine q_get C hP fa rfl inX7 3 (by decide) g1143 rfl dX8_remove_2 ?_
  refine lv_iconst (v := nI 1) hx hb dX8_remove_5 (by decide) ?_
  refine q_isubN hx hb dX8_remove_6 (by omega) ?_
  refine q_put C hP hS fa rfl inX7 tyX7 tyX7_ok nmX7 3 (by decide) g1143 rfl rfl rfl (Nat.le_of_ble_eq_true rfl) dX8_remove_7 (fun H locs hP hS => ?_)
  replace hP : qP D N0 (qs (qRh cy h a ka va kd (nI n) sm dp rw f g) a (.inr (7, [.ref ka, .ref va, .int kd, .int (nI (n - 1)), .int sm, .int dp, .int rw]))) H := hP
  rw [qRh_seta] at hP
  have hR9 := hR.new (kd2 := kd) (n2 := (nI (n - 1))) (sm2 := sm) (dp2 := dp) (rw2 := rw) (f2 := f) (g2 := g)
  have fa := hR9.2.2.2.1
  have fk := hR9.2.2.2.2.1
  have fv := hR9.2.2.2.2.2
  unfold qRb at fa
  unfold qJr at fk fv
  replace hP : qP D N0 (qRh cy h a ka va kd (nI (n - 1)) sm dp rw f g) H := hP
  refine lv_iload_n hx hb dX8_remove_10 rfl (lv_at hl 1 rfl) ?_
  refine lv_istore_n (lv' := [(2, .int (nI p0)), (0, .ref a), (1, .int (nI p0))]) hx hb dX8_remove_11 rfl hl (by decide) rfl (fun ls hl => ?_)
  refine (?_ : ∀ (t : Nat) (H : Heap) (locs : List Loc) (ls : Array Slot) (i : Nat), n - i < t → lv_has ls 3 [(2, .int (nI i)), (0, .ref a)] → p0 ≤ i ∧ i + 1 ≤ n → qP D N0 (qRh cy h a ka va kd (nI (n - 1)) sm dp rw (qSd f p0 i) (qSd g p0 i)) H → va_S (qA N0) s.heap H locs → W p l e _ s m _ below meth c H locs 0 0 _ (F0 m 12 ls [])) _ H locs ls p0 (Nat.lt_succ_self _) (lv_sub hl [0, 1] rfl) ⟨Nat.le_refl _, hp⟩ (by rw [qSd_0 (Nat.le_refl _), qSd_0 (Nat.le_refl _)]; exact hP) hS
  clear hl hP hS
  intro t
  induction t with
  | zero => intro H locs ls i ht; exact absurd ht (Nat.not_lt_zero _)
  | succ t ihl =>
    intro H locs ls i ht hl hi hP hS
    have hR9 := hR.new (kd2 := kd) (n2 := (nI (n - 1))) (sm2 := sm) (dp2 := dp) (rw2 := rw) (f2 := (qSd f p0 i)) (g2 := (qSd g p0 i))
    have fa := hR9.2.2.2.1
    have fk := hR9.2.2.2.2.1
    have fv := hR9.2.2.2.2.2
    unfold qRb at fa
    unfold qJr at fk fv
    refine lv_iload_n hx hb dX8_remove_12 rfl (lv_at hl 0 rfl) ?_
    refine lv_aload_n hx hb dX8_remove_13 rfl (lv_at hl 1 rfl) ?_
    refine q_get C hP fa rfl inX7 3 (by decide) g1143 rfl dX8_remove_14 ?_
    refine lv_icmp_ge (tgt := 54) hx hb dX8_remove_17 (by decide) (fun c17 => ?_) (fun c17 => ?_)
    · replace c17 : (n - 1) ≤ i := (nI_leI (a := (n - 1)) (b := i) (by omega) (by omega)).mp c17
      exact q_vret C hP hS ⟨rfl, by rw [show i = n - 1 by omega]⟩ (by omega) dX8_remove_54
    · replace c17 : ¬ (n - 1) ≤ i := fun zq => c17 ((nI_leI (a := (n - 1)) (b := i) (by omega) (by omega)).mpr zq)
      refine lv_aload_n hx hb dX8_remove_20 rfl (lv_at hl 1 rfl) ?_
      refine q_get C hP fa rfl inX7 0 (by decide) g1138 rfl dX8_remove_21 ?_
      refine lv_iload_n hx hb dX8_remove_24 rfl (lv_at hl 0 rfl) ?_
      refine lv_aload_n hx hb dX8_remove_25 rfl (lv_at hl 1 rfl) ?_
      refine q_get C hP fa rfl inX7 0 (by decide) g1138 rfl dX8_remove_26 ?_
      refine lv_iload_n hx hb dX8_remove_29 rfl (lv_at hl 0 rfl) ?_
      refine lv_iconst (v := nI 1) hx hb dX8_remove_30 (by decide) ?_
      refine q_iaddN hx hb dX8_remove_31 ?_
      refine q_laldN C hP fk (by omega) (by omega) dX8_remove_32 ?_
      refine q_lastN C hP hS fk (by omega) (by omega) dX8_remove_33 (fun H locs hP hS => ?_)
      rw [hR.setk] at hP
      have hR9 := hR.new (kd2 := kd) (n2 := (nI (n - 1))) (sm2 := sm) (dp2 := dp) (rw2 := rw) (f2 := vp_updL (qSd f p0 i) i ((qSd f p0 i) (i + 1))) (g2 := (qSd g p0 i))
      have fa := hR9.2.2.2.1
      have fk := hR9.2.2.2.2.1
      have fv := hR9.2.2.2.2.2
      unfold qRb at fa
      unfold qJr at fk fv
      refine lv_aload_n hx hb dX8_remove_34 rfl (lv_at hl 1 rfl) ?_
      refine q_get C hP fa rfl inX7 1 (by decide) g1140 rfl dX8_remove_35 ?_
      refine lv_iload_n hx hb dX8_remove_38 rfl (lv_at hl 0 rfl) ?_
      refine lv_aload_n hx hb dX8_remove_39 rfl (lv_at hl 1 rfl) ?_
      refine q_get C hP fa rfl inX7 1 (by decide) g1140 rfl dX8_remove_40 ?_
      refine lv_iload_n hx hb dX8_remove_43 rfl (lv_at hl 0 rfl) ?_
      refine lv_iconst (v := nI 1) hx hb dX8_remove_44 (by decide) ?_
      refine q_iaddN hx hb dX8_remove_45 ?_
      refine q_laldN C hP fv (by omega) (by omega) dX8_remove_46 ?_
      refine q_lastN C hP hS fv (by omega) (by omega) dX8_remove_47 (fun H locs hP hS => ?_)
      rw [hR.setv] at hP
      have hR9 := hR.new (kd2 := kd) (n2 := (nI (n - 1))) (sm2 := sm) (dp2 := dp) (rw2 := rw) (f2 := vp_updL (qSd f p0 i) i ((qSd f p0 i) (i + 1))) (g2 := vp_updL (qSd g p0 i) i ((qSd g p0 i) (i + 1)))
      have fa := hR9.2.2.2.1
      have fk := hR9.2.2.2.2.1
      have fv := hR9.2.2.2.2.2
      unfold qRb at fa
      unfold qJr at fk fv
      refine lv_iinc (v := nI (i + 1)) (lv' := [(2, .int (nI (i + 1))), (0, .ref a)]) hx hb dX8_remove_48 hl (k := 0) rfl (nI_1 i) (by decide) rfl (fun ls hl => ?_)
      refine lv_goto (tgt := 12) hx hb dX8_remove_51 (by decide) ?_
      exact ihl H locs ls (i + 1) (by omega) (lv_sub hl [0, 1] rfl) (by omega) (by rw [qSd_step (by omega), qSd_step (by omega)] at hP; exact hP) hS

theorem dX8_copy_0 : decode cX8_copy 0 = .ok (.aload_n 1, 1) := by decide +kernel
theorem dX8_copy_1 : decode cX8_copy 1 = .ok (.aload_n 0, 1) := by decide +kernel
theorem dX8_copy_2 : decode cX8_copy 2 = .ok (.getfield 75, 3) := by decide +kernel
theorem dX8_copy_5 : decode cX8_copy 5 = .ok (.putfield 75, 3) := by decide +kernel
theorem dX8_copy_8 : decode cX8_copy 8 = .ok (.aload_n 1, 1) := by decide +kernel
theorem dX8_copy_9 : decode cX8_copy 9 = .ok (.aload_n 0, 1) := by decide +kernel
theorem dX8_copy_10 : decode cX8_copy 10 = .ok (.getfield 78, 3) := by decide +kernel
theorem dX8_copy_13 : decode cX8_copy 13 = .ok (.putfield 78, 3) := by decide +kernel
theorem dX8_copy_16 : decode cX8_copy 16 = .ok (.aload_n 1, 1) := by decide +kernel
theorem dX8_copy_17 : decode cX8_copy 17 = .ok (.aload_n 0, 1) := by decide +kernel
theorem dX8_copy_18 : decode cX8_copy 18 = .ok (.getfield 81, 3) := by decide +kernel
theorem dX8_copy_21 : decode cX8_copy 21 = .ok (.putfield 81, 3) := by decide +kernel
theorem dX8_copy_24 : decode cX8_copy 24 = .ok (.aload_n 1, 1) := by decide +kernel
theorem dX8_copy_25 : decode cX8_copy 25 = .ok (.aload_n 0, 1) := by decide +kernel
theorem dX8_copy_26 : decode cX8_copy 26 = .ok (.getfield 84, 3) := by decide +kernel
theorem dX8_copy_29 : decode cX8_copy 29 = .ok (.putfield 84, 3) := by decide +kernel
theorem dX8_copy_32 : decode cX8_copy 32 = .ok (.aload_n 1, 1) := by decide +kernel
theorem dX8_copy_33 : decode cX8_copy 33 = .ok (.aload_n 0, 1) := by decide +kernel
theorem dX8_copy_34 : decode cX8_copy 34 = .ok (.getfield 87, 3) := by decide +kernel
theorem dX8_copy_37 : decode cX8_copy 37 = .ok (.putfield 87, 3) := by decide +kernel
theorem dX8_copy_40 : decode cX8_copy 40 = .ok (.iconst 0, 1) := by decide +kernel
theorem dX8_copy_41 : decode cX8_copy 41 = .ok (.istore_n 2, 1) := by decide +kernel
theorem dX8_copy_42 : decode cX8_copy 42 = .ok (.iload_n 2, 1) := by decide +kernel
theorem dX8_copy_43 : decode cX8_copy 43 = .ok (.aload_n 0, 1) := by decide +kernel
theorem dX8_copy_44 : decode cX8_copy 44 = .ok (.getfield 78, 3) := by decide +kernel
theorem dX8_copy_47 : decode cX8_copy 47 = .ok (.if_icmp .ge 33, 3) := by decide +kernel
theorem dX8_copy_50 : decode cX8_copy 50 = .ok (.aload_n 1, 1) := by decide +kernel
theorem dX8_copy_51 : decode cX8_copy 51 = .ok (.getfield 90, 3) := by decide +kernel
theorem dX8_copy_54 : decode cX8_copy 54 = .ok (.iload_n 2, 1) := by decide +kernel
theorem dX8_copy_55 : decode cX8_copy 55 = .ok (.aload_n 0, 1) := by decide +kernel
theorem dX8_copy_56 : decode cX8_copy 56 = .ok (.getfield 90, 3) := by decide +kernel
theorem dX8_copy_59 : decode cX8_copy 59 = .ok (.iload_n 2, 1) := by decide +kernel
theorem dX8_copy_60 : decode cX8_copy 60 = .ok (.laload, 1) := by decide +kernel
theorem dX8_copy_61 : decode cX8_copy 61 = .ok (.lastore, 1) := by decide +kernel
theorem dX8_copy_62 : decode cX8_copy 62 = .ok (.aload_n 1, 1) := by decide +kernel
theorem dX8_copy_63 : decode cX8_copy 63 = .ok (.getfield 93, 3) := by decide +kernel
theorem dX8_copy_66 : decode cX8_copy 66 = .ok (.iload_n 2, 1) := by decide +kernel
theorem dX8_copy_67 : decode cX8_copy 67 = .ok (.aload_n 0, 1) := by decide +kernel
theorem dX8_copy_68 : decode cX8_copy 68 = .ok (.getfield 93, 3) := by decide +kernel
theorem dX8_copy_71 : decode cX8_copy 71 = .ok (.iload_n 2, 1) := by decide +kernel
theorem dX8_copy_72 : decode cX8_copy 72 = .ok (.laload, 1) := by decide +kernel
theorem dX8_copy_73 : decode cX8_copy 73 = .ok (.lastore, 1) := by decide +kernel
theorem dX8_copy_74 : decode cX8_copy 74 = .ok (.iinc 2 1, 3) := by decide +kernel
theorem dX8_copy_77 : decode cX8_copy 77 = .ok (.goto (-35), 3) := by decide +kernel
theorem dX8_copy_80 : decode cX8_copy 80 = .ok (.return_, 1) := by decide +kernel
set_option maxRecDepth 100000 in
set_option maxHeartbeats 4000000 in
theorem c_X8_copy (l : Launch) (D : va_G) (cy : Nat → ClassId) (N0 : Nat) (h : qH) (ab kab vab : Nat) (kdb smb dpb rwb : Int32) (nb : Nat) (fb gb : Nat → Int64) (a ka va : Nat) (kd sm dp rw : Int32) (n : Nat) (f g : Nat → Int64) (hRb : qRw cy h ab kab vab kdb (nI nb) smb dpb rwb fb gb) (hR : qRw cy h a ka va kd (nI n) sm dp rw f g) (hne : (ab ≠ a ∧ ab ≠ ka ∧ ab ≠ va) ∧ (kab ≠ a ∧ kab ≠ ka ∧ kab ≠ va) ∧ (vab ≠ a ∧ vab ≠ ka ∧ vab ≠ va)) (hn : nb ≤ 1001) : qC l D cy N0 yX8_copy cX8_copy 3 none 0 0 0 0 [.ref ab, .ref a] h (fun v h' => v = none ∧ h' = qRh cy h a ka va kdb (nI nb) smb dpb rwb (qCp fb f nb) (qCp gb g nb)) (fun E h' => False) := by
  refine q_ofW (by decide) (by exact Nat.le_of_ble_eq_true rfl) ?_
  intro p e s m below meth c ls C hP hl
  have hx := C.1
  have hb := C.2.1
  have hS : va_S (qA N0) s.heap s.heap [] := va_S.rf
  have hl : lv_has ls 3 [(0, .ref ab), (1, .ref a)] := hl
  have hle : qle h h := qle_rf
  obtain ⟨⟨o1b, o2b, o3b⟩, ⟨p1b, p2b, p3b⟩, ⟨q1b, q2b, q3b⟩⟩ := hne
  have fa0b := hRb.2.2.2.1
  have fk0b := hRb.2.2.2.2.1
  have fv0b := hRb.2.2.2.2.2
  unfold qRb at fa0b
  unfold qJr at fk0b fv0b
  rw [← hR.same] at hP
  have hR9 := hR.new (kd2 := kd) (n2 := (nI n)) (sm2 := sm) (dp2 := dp) (rw2 := rw) (f2 := f) (g2 := g)
  have fa := hR9.2.2.2.1
  have fk := hR9.2.2.2.2.1
  have fv := hR9.2.2.2.2.2
  unfold qRb at fa
  unfold qJr at fk fv
  have fab := (qRh_o (cy := cy) (h := h) (kd := kd) (n := (nI n)) (sm := sm) (dp := dp) (rw := rw) (f := f) (g := g) o1b o2b o3b).trans fa0b
  have fkb := (qRh_o (cy := cy) (h := h) (kd := kd) (n := (nI n)) (sm := sm) (dp := dp) (rw := rw) (f := f) (g := g) p1b p2b p3b).trans fk0b
  have fvb := (qRh_o (cy := cy) (h := h) (kd := kd) (n := (nI n)) (sm := sm) (dp := dp) (rw := rw) (f := f) (g := g) q1b q2b q3b).trans fv0b
  refine lv_aload_n hx hb dX8_copy_0 rfl (lv_at hl 1 rfl) ?_
  refine lv_aload_n hx hb dX8_copy_1 rfl (lv_at hl 0 rfl) ?_
  refine q_get C hP fab rfl inX7 2 (by decide) g1142 rfl dX8_copy_2 ?_
  refine q_put C hP hS fa rfl inX7 tyX7 tyX7_ok nmX7 2 (by decide) g1142 rfl rfl rfl (Nat.le_of_ble_eq_true rfl) dX8_copy_5 (fun H locs hP hS => ?_)
  replace hP : qP D N0 (qs (qRh cy h a ka va kd (nI n) sm dp rw f g) a (.inr (7, [.ref ka, .ref va, .int kdb, .int (nI n), .int sm, .int dp, .int rw]))) H := hP
  rw [qRh_seta] at hP
  have hR9 := hR.new (kd2 := kdb) (n2 := (nI n)) (sm2 := sm) (dp2 := dp) (rw2 := rw) (f2 := f) (g2 := g)
  have fa := hR9.2.2.2.1
  have fk := hR9.2.2.2.2.1
  have fv := hR9.2.2.2.2.2
  unfold qRb at fa
  unfold qJr at fk fv
  have fab := (qRh_o (cy := cy) (h := h) (kd := kdb) (n := (nI n)) (sm := sm) (dp := dp) (rw := rw) (f := f) (g := g) o1b o2b o3b).trans fa0b
  have fkb := (qRh_o (cy := cy) (h := h) (kd := kdb) (n := (nI n)) (sm := sm) (dp := dp) (rw := rw) (f := f) (g := g) p1b p2b p3b).trans fk0b
  have fvb := (qRh_o (cy := cy) (h := h) (kd := kdb) (n := (nI n)) (sm := sm) (dp := dp) (rw := rw) (f := f) (g := g) q1b q2b q3b).trans fv0b
  replace hP : qP D N0 (qRh cy h a ka va kdb (nI n) sm dp rw f g) H := hP
  refine lv_aload_n hx hb dX8_copy_8 rfl (lv_at hl 1 rfl) ?_
  refine lv_aload_n hx hb dX8_copy_9 rfl (lv_at hl 0 rfl) ?_
  refine q_get C hP fab rfl inX7 3 (by decide) g1143 rfl dX8_copy_10 ?_
  refine q_put C hP hS fa rfl inX7 tyX7 tyX7_ok nmX7 3 (by decide) g1143 rfl rfl rfl (Nat.le_of_ble_eq_true rfl) dX8_copy_13 (fun H locs hP hS => ?_)
  replace hP : qP D N0 (qs (qRh cy h a ka va kdb (nI n) sm dp rw f g) a (.inr (7, [.ref ka, .ref va, .int kdb, .int (nI nb), .int sm, .int dp, .int rw]))) H := hP
  rw [qRh_seta] at hP
  have hR9 := hR.new (kd2 := kdb) (n2 := (nI nb)) (sm2 := sm) (dp2 := dp) (rw2 := rw) (f2 := f) (g2 := g)
  have fa := hR9.2.2.2.1
  have fk := hR9.2.2.2.2.1
  have fv := hR9.2.2.2.2.2
  unfold qRb at fa
  unfold qJr at fk fv
  have fab := (qRh_o (cy := cy) (h := h) (kd := kdb) (n := (nI nb)) (sm := sm) (dp := dp) (rw := rw) (f := f) (g := g) o1b o2b o3b).trans fa0b
  have fkb := (qRh_o (cy := cy) (h := h) (kd := kdb) (n := (nI nb)) (sm := sm) (dp := dp) (rw := rw) (f := f) (g := g) p1b p2b p3b).trans fk0b
  have fvb := (qRh_o (cy := cy) (h := h) (kd := kdb) (n := (nI nb)) (sm := sm) (dp := dp) (rw := rw) (f := f) (g := g) q1b q2b q3b).trans fv0b
  replace hP : qP D N0 (qRh cy h a ka va kdb (nI nb) sm dp rw f g) H := hP
  refine lv_aload_n hx hb dX8_copy_16 rfl (lv_at hl 1 rfl) ?_
  refine lv_aload_n hx hb dX8_copy_17 rfl (lv_at hl 0 rfl) ?_
  refine q_get C hP fab rfl inX7 4 (by decide) g1144 rfl dX8_copy_18 ?_
  refine q_put C hP hS fa rfl inX7 tyX7 tyX7_ok nmX7 4 (by decide) g1144 rfl rfl rfl (Nat.le_of_ble_eq_true rfl) dX8_copy_21 (fun H locs hP hS => ?_)
  replace hP : qP D N0 (qs (qRh cy h a ka va kdb (nI nb) sm dp rw f g) a (.inr (7, [.ref ka, .ref va, .int kdb, .int (nI nb), .int smb, .int dp, .int rw]))) H := hP
  rw [qRh_seta] at hP
  have hR9 := hR.new (kd2 := kdb) (n2 := (nI nb)) (sm2 := smb) (dp2 := dp) (rw2 := rw) (f2 := f) (g2 := g)
  have fa := hR9.2.2.2.1
  have fk := hR9.2.2.2.2.1
  have fv := hR9.2.2.2.2.2
  unfold qRb at fa
  unfold qJr at fk fv
  have fab := (qRh_o (cy := cy) (h := h) (kd := kdb) (n := (nI nb)) (sm := smb) (dp := dp) (rw := rw) (f := f) (g := g) o1b o2b o3b).trans fa0b
  have fkb := (qRh_o (cy := cy) (h := h) (kd := kdb) (n := (nI nb)) (sm := smb) (dp := dp) (rw := rw) (f := f) (g := g) p1b p2b p3b).trans fk0b
  have fvb := (qRh_o (cy := cy) (h := h) (kd := kdb) (n := (nI nb)) (sm := smb) (dp := dp) (rw := rw) (f := f) (g := g) q1b q2b q3b).trans fv0b
  replace hP : qP D N0 (qRh cy h a ka va kdb (nI nb) smb dp rw f g) H := hP
  refine lv_aload_n hx hb dX8_copy_24 rfl (lv_at hl 1 rfl) ?_
  refine lv_aload_n hx hb dX8_copy_25 rfl (lv_at hl 0 rfl) ?_
  refine q_get C hP fab rfl inX7 5 (by decide) g1145 rfl dX8_copy_26 ?_
  refine q_put C hP hS fa rfl inX7 tyX7 tyX7_ok nmX7 5 (by decide) g1145 rfl rfl rfl (Nat.le_of_ble_eq_true rfl) dX8_copy_29 (fun H locs hP hS => ?_)
  replace hP : qP D N0 (qs (qRh cy h a ka va kdb (nI nb) smb dp rw f g) a (.inr (7, [.ref ka, .ref va, .int kdb, .int (nI nb), .int smb, .int dpb, .int rw]))) H := hP
  rw [qRh_seta] at hP
  have hR9 := hR.new (kd2 := kdb) (n2 := (nI nb)) (sm2 := smb) (dp2 := dpb) (rw2 := rw) (f2 := f) (g2 := g)
  have fa := hR9.2.2.2.1
  have fk := hR9.2.2.2.2.1
  have fv := hR9.2.2.2.2.2
  unfold qRb at fa
  unfold qJr at fk fv
  have fab := (qRh_o (cy := cy) (h := h) (kd := kdb) (n := (nI nb)) (sm := smb) (dp := dpb) (rw := rw) (f := f) (g := g) o1b o2b o3b).trans fa0b
  have fkb := (qRh_o (cy := cy) (h := h) (kd := kdb) (n := (nI nb)) (sm := smb) (dp := dpb) (rw := rw) (f := f) (g := g) p1b p2b p3b).trans fk0b
  have fvb := (qRh_o (cy := cy) (h := h) (kd := kdb) (n := (nI nb)) (sm := smb) (dp := dpb) (rw := rw) (f := f) (g := g) q1b q2b q3b).trans fv0b
  replace hP : qP D N0 (qRh cy h a ka va kdb (nI nb) smb dpb rw f g) H := hP
  refine lv_aload_n hx hb dX8_copy_32 rfl (lv_at hl 1 rfl) ?_
  refine lv_aload_n hx hb dX8_copy_33 rfl (lv_at hl 0 rfl) ?_
  refine q_get C hP fab rfl inX7 6 (by decide) g1147 rfl dX8_copy_34 ?_
  refine q_put C hP hS fa rfl inX7 tyX7 tyX7_ok nmX7 6 (by decide) g1147 rfl rfl rfl (Nat.le_of_ble_eq_true rfl) dX8_copy_37 (fun H locs hP hS => ?_)
  replace hP : qP D N0 (qs (qRh cy h a ka va kdb (nI nb) smb dpb rw f g) a (.inr (7, [.ref ka, .ref va, .int kdb, .int (nI nb), .int smb, .int dpb, .int rwb]))) H := hP
  rw [qRh_seta] at hP
  have hR9 := hR.new (kd2 := kdb) (n2 := (nI nb)) (sm2 := smb) (dp2 := dpb) (rw2 := rwb) (f2 := f) (g2 := g)
  have fa := hR9.2.2.2.1
  have fk := hR9.2.2.2.2.1
  have fv := hR9.2.2.2.2.2
  unfold qRb at fa
  unfold qJr at fk fv
  have fab := (qRh_o (cy := cy) (h := h) (kd := kdb) (n := (nI nb)) (sm := smb) (dp := dpb) (rw := rwb) (f := f) (g := g) o1b o2b o3b).trans fa0b
  have fkb := (qRh_o (cy := cy) (h := h) (kd := kdb) (n := (nI nb)) (sm := smb) (dp := dpb) (rw := rwb) (f := f) (g := g) p1b p2b p3b).trans fk0b
  have fvb := (qRh_o (cy := cy) (h := h) (kd := kdb) (n := (nI nb)) (sm := smb) (dp := dpb) (rw := rwb) (f := f) (g := g) q1b q2b q3b).trans fv0b
  replace hP : qP D N0 (qRh cy h a ka va kdb (nI nb) smb dpb rwb f g) H := hP
  refine lv_iconst (v := nI 0) hx hb dX8_copy_40 (by decide) ?_
  refine lv_istore_n (lv' := [(2, .int (nI 0)), (0, .ref ab), (1, .ref a)]) hx hb dX8_copy_41 rfl hl (by decide) rfl (fun ls hl => ?_)
  refine (?_ : ∀ (t : Nat) (H : Heap) (locs : List Loc) (ls : Array Slot) (i : Nat), nb - i < t → lv_has ls 3 [(2, .int (nI i)), (0, .ref ab), (1, .ref a)] → i ≤ nb → qP D N0 (qRh cy h a ka va kdb (nI nb) smb dpb rwb (qCp fb f i) (qCp gb g i)) H → va_S (qA N0) s.heap H locs → W p l e _ s m _ below meth c H locs 0 0 _ (F0 m 42 ls [])) _ H locs ls 0 (Nat.lt_succ_self _) (lv_sub hl [0, 1, 2] rfl) (Nat.zero_le _) (by rw [qCp_0, qCp_0]; exact hP) hS
  clear hl hP hS
  intro t
  induction t with
  | zero => intro H locs ls i ht; exact absurd ht (Nat.not_lt_zero _)
  | succ t ihl =>
    intro H locs ls i ht hl hi hP hS
    have hR9 := hR.new (kd2 := kdb) (n2 := (nI nb)) (sm2 := smb) (dp2 := dpb) (rw2 := rwb) (f2 := (qCp fb f i)) (g2 := (qCp gb g i))
    have fa := hR9.2.2.2.1
    have fk := hR9.2.2.2.2.1
    have fv := hR9.2.2.2.2.2
    unfold qRb at fa
    unfold qJr at fk fv
    have fab := (qRh_o (cy := cy) (h := h) (kd := kdb) (n := (nI nb)) (sm := smb) (dp := dpb) (rw := rwb) (f := (qCp fb f i)) (g := (qCp gb g i)) o1b o2b o3b).trans fa0b
    have fkb := (qRh_o (cy := cy) (h := h) (kd := kdb) (n := (nI nb)) (sm := smb) (dp := dpb) (rw := rwb) (f := (qCp fb f i)) (g := (qCp gb g i)) p1b p2b p3b).trans fk0b
    have fvb := (qRh_o (cy := cy) (h := h) (kd := kdb) (n := (nI nb)) (sm := smb) (dp := dpb) (rw := rwb) (f := (qCp fb f i)) (g := (qCp gb g i)) q1b q2b q3b).trans fv0b
    refine lv_iload_n hx hb dX8_copy_42 rfl (lv_at hl 0 rfl) ?_
    refine lv_aload_n hx hb dX8_copy_43 rfl (lv_at hl 1 rfl) ?_
    refine q_get C hP fab rfl inX7 3 (by decide) g1143 rfl dX8_copy_44 ?_
    refine lv_icmp_ge (tgt := 80) hx hb dX8_copy_47 (by decide) (fun c47 => ?_) (fun c47 => ?_)
    · replace c47 : nb ≤ i := (nI_leI (a := nb) (b := i) (by omega) (by omega)).mp c47
      exact q_vret C hP hS ⟨rfl, by rw [show i = nb by omega]⟩ (by omega) dX8_copy_80
    · replace c47 : ¬ nb ≤ i := fun zq => c47 ((nI_leI (a := nb) (b := i) (by omega) (by omega)).mpr zq)
      refine lv_aload_n hx hb dX8_copy_50 rfl (lv_at hl 2 rfl) ?_
      refine q_get C hP fa rfl inX7 0 (by decide) g1138 rfl dX8_copy_51 ?_
      refine lv_iload_n hx hb dX8_copy_54 rfl (lv_at hl 0 rfl) ?_
      refine lv_aload_n hx hb dX8_copy_55 rfl (lv_at hl 1 rfl) ?_
      refine q_get C hP fab rfl inX7 0 (by decide) g1138 rfl dX8_copy_56 ?_
      refine lv_iload_n hx hb dX8_copy_59 rfl (lv_at hl 0 rfl) ?_
      refine q_laldN C hP fkb (by omega) (by omega) dX8_copy_60 ?_
      refine q_lastN C hP hS fk (by omega) (by omega) dX8_copy_61 (fun H locs hP hS => ?_)
      rw [hR.setk] at hP
      have hR9 := hR.new (kd2 := kdb) (n2 := (nI nb)) (sm2 := smb) (dp2 := dpb) (rw2 := rwb) (f2 := vp_updL (qCp fb f i) i (fb i)) (g2 := (qCp gb g i))
      have fa := hR9.2.2.2.1
      have fk := hR9.2.2.2.2.1
      have fv := hR9.2.2.2.2.2
      unfold qRb at fa
      unfold qJr at fk fv
      have fab := (qRh_o (cy := cy) (h := h) (kd := kdb) (n := (nI nb)) (sm := smb) (dp := dpb) (rw := rwb) (f := vp_updL (qCp fb f i) i (fb i)) (g := (qCp gb g i)) o1b o2b o3b).trans fa0b
      have fkb := (qRh_o (cy := cy) (h := h) (kd := kdb) (n := (nI nb)) (sm := smb) (dp := dpb) (rw := rwb) (f := vp_updL (qCp fb f i) i (fb i)) (g := (qCp gb g i)) p1b p2b p3b).trans fk0b
      have fvb := (qRh_o (cy := cy) (h := h) (kd := kdb) (n := (nI nb)) (sm := smb) (dp := dpb) (rw := rwb) (f := vp_updL (qCp fb f i) i (fb i)) (g := (qCp gb g i)) q1b q2b q3b).trans fv0b
      refine lv_aload_n hx hb dX8_copy_62 rfl (lv_at hl 2 rfl) ?_
      refine q_get C hP fa rfl inX7 1 (by decide) g1140 rfl dX8_copy_63 ?_
      refine lv_iload_n hx hb dX8_copy_66 rfl (lv_at hl 0 rfl) ?_
      refine lv_aload_n hx hb dX8_copy_67 rfl (lv_at hl 1 rfl) ?_
      refine q_get C hP fab rfl inX7 1 (by decide) g1140 rfl dX8_copy_68 ?_
      refine lv_iload_n hx hb dX8_copy_71 rfl (lv_at hl 0 rfl) ?_
      refine q_laldN C hP fvb (by omega) (by omega) dX8_copy_72 ?_
      refine q_lastN C hP hS fv (by omega) (by omega) dX8_copy_73 (fun H locs hP hS => ?_)
      rw [hR.setv] at hP
      have hR9 := hR.new (kd2 := kdb) (n2 := (nI nb)) (sm2 := smb) (dp2 := dpb) (rw2 := rwb) (f2 := vp_updL (qCp fb f i) i (fb i)) (g2 := vp_updL (qCp gb g i) i (gb i))
      have fa := hR9.2.2.2.1
      have fk := hR9.2.2.2.2.1
      have fv := hR9.2.2.2.2.2
      unfold qRb at fa
      unfold qJr at fk fv
      have fab := (qRh_o (cy := cy) (h := h) (kd := kdb) (n := (nI nb)) (sm := smb) (dp := dpb) (rw := rwb) (f := vp_updL (qCp fb f i) i (fb i)) (g := vp_updL (qCp gb g i) i (gb i)) o1b o2b o3b).trans fa0b
      have fkb := (qRh_o (cy := cy) (h := h) (kd := kdb) (n := (nI nb)) (sm := smb) (dp := dpb) (rw := rwb) (f := vp_updL (qCp fb f i) i (fb i)) (g := vp_updL (qCp gb g i) i (gb i)) p1b p2b p3b).trans fk0b
      have fvb := (qRh_o (cy := cy) (h := h) (kd := kdb) (n := (nI nb)) (sm := smb) (dp := dpb) (rw := rwb) (f := vp_updL (qCp fb f i) i (fb i)) (g := vp_updL (qCp gb g i) i (gb i)) q1b q2b q3b).trans fv0b
      refine lv_iinc (v := nI (i + 1)) (lv' := [(2, .int (nI (i + 1))), (0, .ref ab), (1, .ref a)]) hx hb dX8_copy_74 hl (k := 0) rfl (nI_1 i) (by decide) rfl (fun ls hl => ?_)
      refine lv_goto (tgt := 42) hx hb dX8_copy_77 (by decide) ?_
      exact ihl H locs ls (i + 1) (by omega) (lv_sub hl [0, 1, 2] rfl) (by omega) (by rw [qCp_step, qCp_step] at hP; exact hP) hS
