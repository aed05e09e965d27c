theorem dX0_nearest_0 : decode cX0_nearest 0 = .ok (.aconst_null, 1) := by decide +kernel
theorem dX0_nearest_1 : decode cX0_nearest 1 = .ok (.astore 4, 2) := by decide +kernel
theorem dX0_nearest_3 : decode cX0_nearest 3 = .ok (.aload_n 0, 1) := by decide +kernel
theorem dX0_nearest_4 : decode cX0_nearest 4 = .ok (.astore 5, 2) := by decide +kernel
theorem dX0_nearest_6 : decode cX0_nearest 6 = .ok (.aload 5, 2) := by decide +kernel
theorem dX0_nearest_8 : decode cX0_nearest 8 = .ok (.ifnull 155, 3) := by decide +kernel
theorem dX0_nearest_11 : decode cX0_nearest 11 = .ok (.iload_n 3, 1) := by decide +kernel
theorem dX0_nearest_12 : decode cX0_nearest 12 = .ok (.iconst 2, 1) := by decide +kernel
theorem dX0_nearest_13 : decode cX0_nearest 13 = .ok (.if_icmp .ne 21, 3) := by decide +kernel
theorem dX0_nearest_16 : decode cX0_nearest 16 = .ok (.aload 5, 2) := by decide +kernel
theorem dX0_nearest_18 : decode cX0_nearest 18 = .ok (.getfield 13, 3) := by decide +kernel
theorem dX0_nearest_21 : decode cX0_nearest 21 = .ok (.lload_n 1, 1) := by decide +kernel
theorem dX0_nearest_22 : decode cX0_nearest 22 = .ok (.lcmp, 1) := by decide +kernel
theorem dX0_nearest_23 : decode cX0_nearest 23 = .ok (.ifCond .ge 7, 3) := by decide +kernel
theorem dX0_nearest_26 : decode cX0_nearest 26 = .ok (.iconst 1, 1) := by decide +kernel
theorem dX0_nearest_27 : decode cX0_nearest 27 = .ok (.goto 22, 3) := by decide +kernel
theorem dX0_nearest_30 : decode cX0_nearest 30 = .ok (.iconst 0, 1) := by decide +kernel
theorem dX0_nearest_31 : decode cX0_nearest 31 = .ok (.goto 18, 3) := by decide +kernel
theorem dX0_nearest_34 : decode cX0_nearest 34 = .ok (.aload 5, 2) := by decide +kernel
theorem dX0_nearest_36 : decode cX0_nearest 36 = .ok (.getfield 13, 3) := by decide +kernel
theorem dX0_nearest_39 : decode cX0_nearest 39 = .ok (.lload_n 1, 1) := by decide +kernel
theorem dX0_nearest_40 : decode cX0_nearest 40 = .ok (.lcmp, 1) := by decide +kernel
theorem dX0_nearest_41 : decode cX0_nearest 41 = .ok (.ifCond .gt 7, 3) := by decide +kernel
theorem dX0_nearest_44 : decode cX0_nearest 44 = .ok (.iconst 1, 1) := by decide +kernel
theorem dX0_nearest_45 : decode cX0_nearest 45 = .ok (.goto 4, 3) := by decide +kernel
theorem dX0_nearest_48 : decode cX0_nearest 48 = .ok (.iconst 0, 1) := by decide +kernel
theorem dX0_nearest_49 : decode cX0_nearest 49 = .ok (.istore 6, 2) := by decide +kernel
theorem dX0_nearest_51 : decode cX0_nearest 51 = .ok (.iload_n 3, 1) := by decide +kernel
theorem dX0_nearest_52 : decode cX0_nearest 52 = .ok (.iconst 1, 1) := by decide +kernel
theorem dX0_nearest_53 : decode cX0_nearest 53 = .ok (.if_icmp .ne 21, 3) := by decide +kernel
theorem dX0_nearest_56 : decode cX0_nearest 56 = .ok (.aload 5, 2) := by decide +kernel
theorem dX0_nearest_58 : decode cX0_nearest 58 = .ok (.getfield 13, 3) := by decide +kernel
theorem dX0_nearest_61 : decode cX0_nearest 61 = .ok (.lload_n 1, 1) := by decide +kernel
theorem dX0_nearest_62 : decode cX0_nearest 62 = .ok (.lcmp, 1) := by decide +kernel
theorem dX0_nearest_63 : decode cX0_nearest 63 = .ok (.ifCond .le 7, 3) := by decide +kernel
theorem dX0_nearest_66 : decode cX0_nearest 66 = .ok (.iconst 1, 1) := by decide +kernel
theorem dX0_nearest_67 : decode cX0_nearest 67 = .ok (.goto 22, 3) := by decide +kernel
theorem dX0_nearest_70 : decode cX0_nearest 70 = .ok (.iconst 0, 1) := by decide +kernel
theorem dX0_nearest_71 : decode cX0_nearest 71 = .ok (.goto 18, 3) := by decide +kernel
theorem dX0_nearest_74 : decode cX0_nearest 74 = .ok (.aload 5, 2) := by decide +kernel
theorem dX0_nearest_76 : decode cX0_nearest 76 = .ok (.getfield 13, 3) := by decide +kernel
theorem dX0_nearest_79 : decode cX0_nearest 79 = .ok (.lload_n 1, 1) := by decide +kernel
theorem dX0_nearest_80 : decode cX0_nearest 80 = .ok (.lcmp, 1) := by decide +kernel
theorem dX0_nearest_81 : decode cX0_nearest 81 = .ok (.ifCond .lt 7, 3) := by decide +kernel
theorem dX0_nearest_84 : decode cX0_nearest 84 = .ok (.iconst 1, 1) := by decide +kernel
theorem dX0_nearest_85 : decode cX0_nearest 85 = .ok (.goto 4, 3) := by decide +kernel
theorem dX0_nearest_88 : decode cX0_nearest 88 = .ok (.iconst 0, 1) := by decide +kernel
theorem dX0_nearest_89 : decode cX0_nearest 89 = .ok (.istore 7, 2) := by decide +kernel
theorem dX0_nearest_91 : decode cX0_nearest 91 = .ok (.iload_n 3, 1) := by decide +kernel
theorem dX0_nearest_92 : decode cX0_nearest 92 = .ok (.iconst 2, 1) := by decide +kernel
theorem dX0_nearest_93 : decode cX0_nearest 93 = .ok (.if_icmp .ge 16, 3) := by decide +kernel
theorem dX0_nearest_96 : decode cX0_nearest 96 = .ok (.iload 7, 2) := by decide +kernel
theorem dX0_nearest_98 : decode cX0_nearest 98 = .ok (.ifCond .ne 7, 3) := by decide +kernel
theorem dX0_nearest_101 : decode cX0_nearest 101 = .ok (.iconst 1, 1) := by decide +kernel
theorem dX0_nearest_102 : decode cX0_nearest 102 = .ok (.goto 17, 3) := by decide +kernel
theorem dX0_nearest_105 : decode cX0_nearest 105 = .ok (.iconst 0, 1) := by decide +kernel
theorem dX0_nearest_106 : decode cX0_nearest 106 = .ok (.goto 13, 3) := by decide +kernel
theorem dX0_nearest_109 : decode cX0_nearest 109 = .ok (.iload 6, 2) := by decide +kernel
theorem dX0_nearest_111 : decode cX0_nearest 111 = .ok (.ifCond .ne 7, 3) := by decide +kernel
theorem dX0_nearest_114 : decode cX0_nearest 114 = .ok (.iconst 1, 1) := by decide +kernel
theorem dX0_nearest_115 : decode cX0_nearest 115 = .ok (.goto 4, 3) := by decide +kernel
theorem dX0_nearest_118 : decode cX0_nearest 118 = .ok (.iconst 0, 1) := by decide +kernel
theorem dX0_nearest_119 : decode cX0_nearest 119 = .ok (.istore 8, 2) := by decide +kernel
theorem dX0_nearest_121 : decode cX0_nearest 121 = .ok (.iload 8, 2) := by decide +kernel
theorem dX0_nearest_123 : decode cX0_nearest 123 = .ok (.ifCond .eq 7, 3) := by decide +kernel
theorem dX0_nearest_126 : decode cX0_nearest 126 = .ok (.aload 5, 2) := by decide +kernel
theorem dX0_nearest_128 : decode cX0_nearest 128 = .ok (.astore 4, 2) := by decide +kernel
theorem dX0_nearest_130 : decode cX0_nearest 130 = .ok (.iload 8, 2) := by decide +kernel
theorem dX0_nearest_132 : decode cX0_nearest 132 = .ok (.iload_n 3, 1) := by decide +kernel
theorem dX0_nearest_133 : decode cX0_nearest 133 = .ok (.iconst 2, 1) := by decide +kernel
theorem dX0_nearest_134 : decode cX0_nearest 134 = .ok (.if_icmp .ge 7, 3) := by decide +kernel
theorem dX0_nearest_137 : decode cX0_nearest 137 = .ok (.iconst 1, 1) := by decide +kernel
theorem dX0_nearest_138 : decode cX0_nearest 138 = .ok (.goto 4, 3) := by decide +kernel
theorem dX0_nearest_141 : decode cX0_nearest 141 = .ok (.iconst 0, 1) := by decide +kernel
theorem dX0_nearest_142 : decode cX0_nearest 142 = .ok (.if_icmp .ne 11, 3) := by decide +kernel
theorem dX0_nearest_145 : decode cX0_nearest 145 = .ok (.aload 5, 2) := by decide +kernel
theorem dX0_nearest_147 : decode cX0_nearest 147 = .ok (.getfield 20, 3) := by decide +kernel
theorem dX0_nearest_150 : decode cX0_nearest 150 = .ok (.goto 8, 3) := by decide +kernel
theorem dX0_nearest_153 : decode cX0_nearest 153 = .ok (.aload 5, 2) := by decide +kernel
theorem dX0_nearest_155 : decode cX0_nearest 155 = .ok (.getfield 7, 3) := by decide +kernel
theorem dX0_nearest_158 : decode cX0_nearest 158 = .ok (.astore 5, 2) := by decide +kernel
theorem dX0_nearest_160 : decode cX0_nearest 160 = .ok (.goto (-154), 3) := by decide +kernel
theorem dX0_nearest_163 : decode cX0_nearest 163 = .ok (.aload 4, 2) := by decide +kernel
theorem dX0_nearest_165 : decode cX0_nearest 165 = .ok (.areturn, 1) := by decide +kernel
set_option maxRecDepth 100000 in
set_option maxHeartbeats 4000000 in
theorem c_X0_nearest (l : Launch) (D : va_G) (cy : Nat → ClassId) (N0 : Nat) (h : qH) (x : Option Nat) (n : Nat) (A : qKV) (k0 : Int64) (way : Nat) (hA : qBr h n x A) (hL : A.length < 1000000) (hS0 : qSo A) (hw9 : way = 0 ∨ way = 1 ∨ way = 2 ∨ way = 3) : qC l D cy N0 yX0_nearest cX0_nearest 9 (some (.object RX0)) 1 20 0 0 [va_rf x, .long k0, .int (nI way)] h (fun v h' => ∃ r9, v = some (va_rf r9) ∧ h = h' ∧ qNd h r9 (qBest k0 way A)) (fun E h' => False) := by
  refine q_ofW (by decide) (by simp [lg_sl, q_catrf, q_cati, q_catl, q_cata, q_catn]) ?_
  intro p e s m below meth c ls C hP hl
  have hx := C.1
  have hb := C.2.1
  have hS : va_S (qA N0) s.heap s.heap [] := va_S.rf
  have hl : lv_has ls 9 [(0, va_rf x), (1, .long k0), (3, .int (nI way))] := by simpa [lv_args, q_catrf, q_cati, q_catl, q_cata, q_catn] using hl
  have hle : qle h h := qle_rf
  rcases hw9 with rfl | rfl | rfl | rfl
  · refine lv_null hx hb dX0_nearest_0 ?_
    refine lv_astoreN (lv' := [(4, .null), (0, va_rf x), (1, .long k0), (3, .int (nI 0))]) hx hb dX0_nearest_1 hl (by decide) rfl (fun ls hl => ?_)
    refine q_aload_n hx hb dX0_nearest_3 rfl (lv_at hl 1 rfl) ?_
    refine q_astore (lv' := [(5, va_rf x), (4, .null), (0, va_rf x), (1, .long k0), (3, .int (nI 0))]) hx hb dX0_nearest_4 hl (by decide) rfl (fun ls hl => ?_)
    refine (?_ : ∀ (t : Nat) (H : Heap) (locs : List Loc) (ls : Array Slot) (r b : Option Nat) (kb : Option (Int64 × Int64)) (L1 : qKV) (n1 : Nat), n1 < t → qBr h n1 r L1 → L1.length < 1000000 → qSo L1 → qNd h b kb → lv_has ls 9 [(5, va_rf r), (4, va_rf b), (1, .long k0), (3, .int (nI 0))] → qBest k0 0 A = (qBest k0 0 L1).or kb → qP D N0 h H → va_S (qA N0) s.heap H locs → W p l e _ s m _ below meth c H locs 0 0 _ (F0 m 6 ls [])) _ s.heap [] ls x none none A n (Nat.lt_succ_self _) hA hL hS0 (Or.inl ⟨rfl, rfl⟩) (lv_sub hl [0, 1, 3, 4] rfl) (by cases qBest k0 0 A <;> rfl) hP hS
    clear hl hP hS
    intro t
    induction t with
    | zero => intro H locs ls r b kb L1 n1 ht; exact absurd ht (Nat.not_lt_zero _)
    | succ t ihl =>
      intro H locs ls r b kb L1 n1 ht hb1 hL1 hS1 hbk hl kk hP hS
      rcases hb1.inv with ⟨rfl, rfl, rfl⟩ | ⟨a1, l1, k1, v1, r1, i1, j1, A1, B1, rfl, f1, hl1, hr1, rfl, hg11, hg12, hg13, hg14, hg15, hg16⟩
      · refine lv_aloadN hx hb dX0_nearest_6 (lv_at hl 0 rfl) ?_
        refine lv_ifnullN (tgt := 163) hx hb dX0_nearest_8 (by decide) ?_
        refine q_aload hx hb dX0_nearest_163 (lv_at hl 1 rfl) ?_
        exact q_aret (v := b) C (Or.inl ⟨_, rfl⟩) hP hS ⟨b, rfl, rfl, by rw [kk, qBest_nil]; exact hbk⟩ (by omega) dX0_nearest_165
      · have zl1 := hl1.len
        have zr1 := hr1.len
        have eL1 : (A1 ++ (k1, v1) :: B1).length = A1.length + (B1.length + 1) := by rw [List.length_append, List.length_cons]
        simp only [List.length_append, List.length_cons, List.length_nil] at hL1
        refine lv_aload hx hb dX0_nearest_6 (lv_at hl 0 rfl) ?_
        refine lv_ifnull hx hb dX0_nearest_8 ?_
        refine lv_iload_n hx hb dX0_nearest_11 rfl (lv_at hl 3 rfl) ?_
        refine lv_iconst (v := nI 2) hx hb dX0_nearest_12 (by decide) ?_
        refine lv_icmp_ne (tgt := 34) hx hb dX0_nearest_13 (by decide) (fun c13 => ?_) (fun c13 => ?_)
        · replace c13 : ¬ 0 = 2 := fun zq => c13 ((nI_eq (a := 0) (b := 2) (by omega) (by omega)).mpr zq)
          refine lv_aload hx hb dX0_nearest_34 (lv_at hl 0 rfl) ?_
          refine q_get C hP f1 rfl inX0 1 (by decide) g492 rfl dX0_nearest_36 ?_
          refine lv_lload_n hx hb dX0_nearest_39 rfl (lv_at hl 2 rfl) ?_
          refine W.lcmp hx hb dX0_nearest_40 ?_
          refine lv_if_gt (tgt := 48) hx hb dX0_nearest_41 (by decide) (fun c41 => ?_) (fun c41 => ?_)
          · replace c41 : k0.toInt < k1.toInt := Int64.lt_iff_toInt_lt.mp ((lg_cmp_gt _ _).mp c41)
            refine lv_iconst (v := nI 0) hx hb dX0_nearest_48 (by decide) ?_
            refine lv_istore (lv' := [(6, .int (nI 0)), (5, .ref a1), (4, va_rf b), (1, .long k0), (3, .int (nI 0))]) hx hb dX0_nearest_49 hl (by decide) rfl (fun ls hl => ?_)
            refine lv_iload_n hx hb dX0_nearest_51 rfl (lv_at hl 4 rfl) ?_
            refine lv_iconst (v := nI 1) hx hb dX0_nearest_52 (by decide) ?_
            refine lv_icmp_ne (tgt := 74) hx hb dX0_nearest_53 (by decide) (fun c53 => ?_) (fun c53 => ?_)
            · replace c53 : ¬ 0 = 1 := fun zq => c53 ((nI_eq (a := 0) (b := 1) (by omega) (by omega)).mpr zq)
              refine lv_aload hx hb dX0_nearest_74 (lv_at hl 1 rfl) ?_
              refine q_get C hP f1 rfl inX0 1 (by decide) g492 rfl dX0_nearest_76 ?_
              refine lv_lload_n hx hb dX0_nearest_79 rfl (lv_at hl 3 rfl) ?_
              refine W.lcmp hx hb dX0_nearest_80 ?_
              refine lv_if_lt (tgt := 88) hx hb dX0_nearest_81 (by decide) (fun c81 => ?_) (fun c81 => ?_)
              · replace c81 : k1.toInt < k0.toInt := Int64.lt_iff_toInt_lt.mp ((lg_cmp_lt _ _).mp c81)
                refine lv_iconst (v := nI 0) hx hb dX0_nearest_88 (by decide) ?_
                refine lv_istore (lv' := [(7, .int (nI 0)), (6, .int (nI 0)), (5, .ref a1), (4, va_rf b), (1, .long k0), (3, .int (nI 0))]) hx hb dX0_nearest_89 hl (by decide) rfl (fun ls hl => ?_)
                refine lv_iload_n hx hb dX0_nearest_91 rfl (lv_at hl 5 rfl) ?_
                refine lv_iconst (v := nI 2) hx hb dX0_nearest_92 (by decide) ?_
                refine lv_icmp_ge (tgt := 109) hx hb dX0_nearest_93 (by decide) (fun c93 => ?_) (fun c93 => ?_)
                · replace c93 : 2 ≤ 0 := (nI_leI (a := 2) (b := 0) (by omega) (by omega)).mp c93
                  exfalso; omega
                · replace c93 : ¬ 2 ≤ 0 := fun zq => c93 ((nI_leI (a := 2) (b := 0) (by omega) (by omega)).mpr zq)
                  refine lv_iload hx hb dX0_nearest_96 (lv_at hl 0 rfl) ?_
                  refine lv_if_ne (tgt := 105) hx hb dX0_nearest_98 (by decide) (fun c98 => ?_) (fun c98 => ?_)
                  · replace c98 : ¬ 0 = 0 := fun zq => c98 ((nI_eq (a := 0) (b := 0) (by omega) (by omega)).mpr zq)
                    exfalso; omega
                  · replace c98 : 0 = 0 := (nI_eq (a := 0) (b := 0) (by omega) (by omega)).mp c98
                    refine lv_iconst (v := nI 1) hx hb dX0_nearest_101 (by decide) ?_
                    refine lv_goto (tgt := 119) hx hb dX0_nearest_102 (by decide) ?_
                    refine lv_istore (lv' := [(8, .int (nI 1)), (7, .int (nI 0)), (6, .int (nI 0)), (5, .ref a1), (4, va_rf b), (1, .long k0), (3, .int (nI 0))]) hx hb dX0_nearest_119 hl (by decide) rfl (fun ls hl => ?_)
                    refine lv_iload hx hb dX0_nearest_121 (lv_at hl 0 rfl) ?_
                    refine lv_if_eq (tgt := 130) hx hb dX0_nearest_123 (by decide) (fun c123 => ?_) (fun c123 => ?_)
                    · replace c123 : 1 = 0 := (nI_eq (a := 1) (b := 0) (by omega) (by omega)).mp c123
                      exfalso; omega
                    · replace c123 : ¬ 1 = 0 := fun zq => c123 ((nI_eq (a := 1) (b := 0) (by omega) (by omega)).mpr zq)
                      refine lv_aload hx hb dX0_nearest_126 (lv_at hl 3 rfl) ?_
                      refine lv_astore (lv' := [(4, .ref a1), (8, .int (nI 1)), (7, .int (nI 0)), (6, .int (nI 0)), (5, .ref a1), (1, .long k0), (3, .int (nI 0))]) hx hb dX0_nearest_128 hl (by decide) rfl (fun ls hl => ?_)
                      refine lv_iload hx hb dX0_nearest_130 (lv_at hl 1 rfl) ?_
                      refine lv_iload_n hx hb dX0_nearest_132 rfl (lv_at hl 6 rfl) ?_
                      refine lv_iconst (v := nI 2) hx hb dX0_nearest_133 (by decide) ?_
                      refine lv_icmp_ge (tgt := 141) hx hb dX0_nearest_134 (by decide) (fun c134 => ?_) (fun c134 => ?_)
                      · replace c134 : 2 ≤ 0 := (nI_leI (a := 2) (b := 0) (by omega) (by omega)).mp c134
                        exfalso; omega
                      · replace c134 : ¬ 2 ≤ 0 := fun zq => c134 ((nI_leI (a := 2) (b := 0) (by omega) (by omega)).mpr zq)
                        refine lv_iconst (v := nI 1) hx hb dX0_nearest_137 (by decide) ?_
                        refine lv_goto (tgt := 142) hx hb dX0_nearest_138 (by decide) ?_
                        refine lv_icmp_ne (tgt := 153) hx hb dX0_nearest_142 (by decide) (fun c142 => ?_) (fun c142 => ?_)
                        · replace c142 : ¬ 1 = 1 := fun zq => c142 ((nI_eq (a := 1) (b := 1) (by omega) (by omega)).mpr zq)
                          exfalso; omega
                        · replace c142 : 1 = 1 := (nI_eq (a := 1) (b := 1) (by omega) (by omega)).mp c142
                          refine lv_aload hx hb dX0_nearest_145 (lv_at hl 4 rfl) ?_
                          refine q_get C hP f1 rfl inX0 3 (by decide) g497 rfl dX0_nearest_147 ?_
                          refine lv_goto (tgt := 158) hx hb dX0_nearest_150 (by decide) ?_
                          refine q_astore (lv' := [(5, va_rf r1), (4, .ref a1), (8, .int (nI 1)), (7, .int (nI 0)), (6, .int (nI 0)), (1, .long k0), (3, .int (nI 0))]) hx hb dX0_nearest_158 hl (by decide) rfl (fun ls hl => ?_)
                          refine lv_goto (tgt := 6) hx hb dX0_nearest_160 (by decide) ?_
                          exact ihl H locs ls r1 (some a1) (some (k1, v1)) B1 j1 (by omega) hr1 (by omega) hS1.node.2.1 (Or.inr ⟨a1, k1, v1, _, _, _, _, rfl, rfl, f1⟩) (lv_sub hl [0, 1, 5, 6] rfl) (by rw [kk, qBest_up (by decide) (by unfold qFit; simp; omega)]; cases qBest k0 0 B1 <;> rfl) hP hS
              · replace c81 : ¬ k1.toInt < k0.toInt := fun zq => c81 ((lg_cmp_lt _ _).mpr (Int64.lt_iff_toInt_lt.mpr zq))
                refine lv_iconst (v := nI 1) hx hb dX0_nearest_84 (by decide) ?_
                refine lv_goto (tgt := 89) hx hb dX0_nearest_85 (by decide) ?_
                refine lv_istore (lv' := [(7, .int (nI 1)), (6, .int (nI 0)), (5, .ref a1), (4, va_rf b), (1, .long k0), (3, .int (nI 0))]) hx hb dX0_nearest_89 hl (by decide) rfl (fun ls hl => ?_)
                refine lv_iload_n hx hb dX0_nearest_91 rfl (lv_at hl 5 rfl) ?_
                refine lv_iconst (v := nI 2) hx hb dX0_nearest_92 (by decide) ?_
                refine lv_icmp_ge (tgt := 109) hx hb dX0_nearest_93 (by decide) (fun c93 => ?_) (fun c93 => ?_)
                · replace c93 : 2 ≤ 0 := (nI_leI (a := 2) (b := 0) (by omega) (by omega)).mp c93
                  exfalso; omega
                · replace c93 : ¬ 2 ≤ 0 := fun zq => c93 ((nI_leI (a := 2) (b := 0) (by omega) (by omega)).mpr zq)
                  refine lv_iload hx hb dX0_nearest_96 (lv_at hl 0 rfl) ?_
                  refine lv_if_ne (tgt := 105) hx hb dX0_nearest_98 (by decide) (fun c98 => ?_) (fun c98 => ?_)
                  · replace c98 : ¬ 1 = 0 := fun zq => c98 ((nI_eq (a := 1) (b := 0) (by omega) (by omega)).mpr zq)
                    refine lv_iconst (v := nI 0) hx hb dX0_nearest_105 (by decide) ?_
                    refine lv_goto (tgt := 119) hx hb dX0_nearest_106 (by decide) ?_
                    refine lv_istore (lv' := [(8, .int (nI 0)), (7, .int (nI 1)), (6, .int (nI 0)), (5, .ref a1), (4, va_rf b), (1, .long k0), (3, .int (nI 0))]) hx hb dX0_nearest_119 hl (by decide) rfl (fun ls hl => ?_)
                    refine lv_iload hx hb dX0_nearest_121 (lv_at hl 0 rfl) ?_
                    refine lv_if_eq (tgt := 130) hx hb dX0_nearest_123 (by decide) (fun c123 => ?_) (fun c123 => ?_)
                    · replace c123 : 0 = 0 := (nI_eq (a := 0) (b := 0) (by omega) (by omega)).mp c123
                      refine lv_iload hx hb dX0_nearest_130 (lv_at hl 0 rfl) ?_
                      refine lv_iload_n hx hb dX0_nearest_132 rfl (lv_at hl 6 rfl) ?_
                      refine lv_iconst (v := nI 2) hx hb dX0_nearest_133 (by decide) ?_
                      refine lv_icmp_ge (tgt := 141) hx hb dX0_nearest_134 (by decide) (fun c134 => ?_) (fun c134 => ?_)
                      · replace c134 : 2 ≤ 0 := (nI_leI (a := 2) (b := 0) (by omega) (by omega)).mp c134
                        exfalso; omega
                      · replace c134 : ¬ 2 ≤ 0 := fun zq => c134 ((nI_leI (a := 2) (b := 0) (by omega) (by omega)).mpr zq)
                        refine lv_iconst (v := nI 1) hx hb dX0_nearest_137 (by decide) ?_
                        refine lv_goto (tgt := 142) hx hb dX0_nearest_138 (by decide) ?_
                        refine lv_icmp_ne (tgt := 153) hx hb dX0_nearest_142 (by decide) (fun c142 => ?_) (fun c142 => ?_)
                        · replace c142 : ¬ 0 = 1 := fun zq => c142 ((nI_eq (a := 0) (b := 1) (by omega) (by omega)).mpr zq)
                          refine lv_aload hx hb dX0_nearest_153 (lv_at hl 3 rfl) ?_
                          refine q_get C hP f1 rfl inX0 0 (by decide) g491 rfl dX0_nearest_155 ?_
                          refine q_astore (lv' := [(5, va_rf l1), (8, .int (nI 0)), (7, .int (nI 1)), (6, .int (nI 0)), (4, va_rf b), (1, .long k0), (3, .int (nI 0))]) hx hb dX0_nearest_158 hl (by decide) (by cases b <;> rfl) (fun ls hl => ?_)
                          refine lv_goto (tgt := 6) hx hb dX0_nearest_160 (by decide) ?_
                          exact ihl H locs ls l1 b kb A1 i1 (by omega) hl1 (by omega) hS1.node.1 hbk (lv_sub hl [0, 4, 5, 6] rfl) (by rw [kk, qBest_up0 (by decide) hS1 (by unfold qFit; simp; omega)]) hP hS
                        · replace c142 : 0 = 1 := (nI_eq (a := 0) (b := 1) (by omega) (by omega)).mp c142
                          exfalso; omega
                    · replace c123 : ¬ 0 = 0 := fun zq => c123 ((nI_eq (a := 0) (b := 0) (by omega) (by omega)).mpr zq)
                      exfalso; omega
                  · replace c98 : 1 = 0 := (nI_eq (a := 1) (b := 0) (by omega) (by omega)).mp c98
                    exfalso; omega
            · replace c53 : 0 = 1 := (nI_eq (a := 0) (b := 1) (by omega) (by omega)).mp c53
              exfalso; omega
          · replace c41 : ¬ k0.toInt < k1.toInt := fun zq => c41 ((lg_cmp_gt _ _).mpr (Int64.lt_iff_toInt_lt.mpr zq))
            refine lv_iconst (v := nI 1) hx hb dX0_nearest_44 (by decide) ?_
            refine lv_goto (tgt := 49) hx hb dX0_nearest_45 (by decide) ?_
            refine lv_istore (lv' := [(6, .int (nI 1)), (5, .ref a1), (4, va_rf b), (1, .long k0), (3, .int (nI 0))]) hx hb dX0_nearest_49 hl (by decide) rfl (fun ls hl => ?_)
            refine lv_iload_n hx hb dX0_nearest_51 rfl (lv_at hl 4 rfl) ?_
            refine lv_iconst (v := nI 1) hx hb dX0_nearest_52 (by decide) ?_
            refine lv_icmp_ne (tgt := 74) hx hb dX0_nearest_53 (by decide) (fun c53 => ?_) (fun c53 => ?_)
            · replace c53 : ¬ 0 = 1 := fun zq => c53 ((nI_eq (a := 0) (b := 1) (by omega) (by omega)).mpr zq)
              refine lv_aload hx hb dX0_nearest_74 (lv_at hl 1 rfl) ?_
              refine q_get C hP f1 rfl inX0 1 (by decide) g492 rfl dX0_nearest_76 ?_
              refine lv_lload_n hx hb dX0_nearest_79 rfl (lv_at hl 3 rfl) ?_
              refine W.lcmp hx hb dX0_nearest_80 ?_
              refine lv_if_lt (tgt := 88) hx hb dX0_nearest_81 (by decide) (fun c81 => ?_) (fun c81 => ?_)
              · replace c81 : k1.toInt < k0.toInt := Int64.lt_iff_toInt_lt.mp ((lg_cmp_lt _ _).mp c81)
                refine lv_iconst (v := nI 0) hx hb dX0_nearest_88 (by decide) ?_
                refine lv_istore (lv' := [(7, .int (nI 0)), (6, .int (nI 1)), (5, .ref a1), (4, va_rf b), (1, .long k0), (3, .int (nI 0))]) hx hb dX0_nearest_89 hl (by decide) rfl (fun ls hl => ?_)
                refine lv_iload_n hx hb dX0_nearest_91 rfl (lv_at hl 5 rfl) ?_
                refine lv_iconst (v := nI 2) hx hb dX0_nearest_92 (by decide) ?_
                refine lv_icmp_ge (tgt := 109) hx hb dX0_nearest_93 (by decide) (fun c93 => ?_) (fun c93 => ?_)
                · replace c93 : 2 ≤ 0 := (nI_leI (a := 2) (b := 0) (by omega) (by omega)).mp c93
                  exfalso; omega
                · replace c93 : ¬ 2 ≤ 0 := fun zq => c93 ((nI_leI (a := 2) (b := 0) (by omega) (by omega)).mpr zq)
                  refine lv_iload hx hb dX0_nearest_96 (lv_at hl 0 rfl) ?_
                  refine lv_if_ne (tgt := 105) hx hb dX0_nearest_98 (by decide) (fun c98 => ?_) (fun c98 => ?_)
                  · replace c98 : ¬ 0 = 0 := fun zq => c98 ((nI_eq (a := 0) (b := 0) (by omega) (by omega)).mpr zq)
                    exfalso; omega
                  · replace c98 : 0 = 0 := (nI_eq (a := 0) (b := 0) (by omega) (by omega)).mp c98
                    refine lv_iconst (v := nI 1) hx hb dX0_nearest_101 (by decide) ?_
                    refine lv_goto (tgt := 119) hx hb dX0_nearest_102 (by decide) ?_
                    refine lv_istore (lv' := [(8, .int (nI 1)), (7, .int (nI 0)), (6, .int (nI 1)), (5, .ref a1), (4, va_rf b), (1, .long k0), (3, .int (nI 0))]) hx hb dX0_nearest_119 hl (by decide) rfl (fun ls hl => ?_)
                    refine lv_iload hx hb dX0_nearest_121 (lv_at hl 0 rfl) ?_
                    refine lv_if_eq (tgt := 130) hx hb dX0_nearest_123 (by decide) (fun c123 => ?_) (fun c123 => ?_)
                    · replace c123 : 1 = 0 := (nI_eq (a := 1) (b := 0) (by omega) (by omega)).mp c123
                      exfalso; omega
                    · replace c123 : ¬ 1 = 0 := fun zq => c123 ((nI_eq (a := 1) (b := 0) (by omega) (by omega)).mpr zq)
                      refine lv_aload hx hb dX0_nearest_126 (lv_at hl 3 rfl) ?_
                      refine lv_astore (lv' := [(4, .ref a1), (8, .int (nI 1)), (7, .int (nI 0)), (6, .int (nI 1)), (5, .ref a1), (1, .long k0), (3, .int (nI 0))]) hx hb dX0_nearest_128 hl (by decide) rfl (fun ls hl => ?_)
                      refine lv_iload hx hb dX0_nearest_130 (lv_at hl 1 rfl) ?_
                      refine lv_iload_n hx hb dX0_nearest_132 rfl (lv_at hl 6 rfl) ?_
                      refine lv_iconst (v := nI 2) hx hb dX0_nearest_133 (by decide) ?_
                      refine lv_icmp_ge (tgt := 141) hx hb dX0_nearest_134 (by decide) (fun c134 => ?_) (fun c134 => ?_)
                      · replace c134 : 2 ≤ 0 := (nI_leI (a := 2) (b := 0) (by omega) (by omega)).mp c134
                        exfalso; omega
                      · replace c134 : ¬ 2 ≤ 0 := fun zq => c134 ((nI_leI (a := 2) (b := 0) (by omega) (by omega)).mpr zq)
                        refine lv_iconst (v := nI 1) hx hb dX0_nearest_137 (by decide) ?_
                        refine lv_goto (tgt := 142) hx hb dX0_nearest_138 (by decide) ?_
                        refine lv_icmp_ne (tgt := 153) hx hb dX0_nearest_142 (by decide) (fun c142 => ?_) (fun c142 => ?_)
                        · replace c142 : ¬ 1 = 1 := fun zq => c142 ((nI_eq (a := 1) (b := 1) (by omega) (by omega)).mpr zq)
                          exfalso; omega
                        · replace c142 : 1 = 1 := (nI_eq (a := 1) (b := 1) (by omega) (by omega)).mp c142
                          refine lv_aload hx hb dX0_nearest_145 (lv_at hl 4 rfl) ?_
                          refine q_get C hP f1 rfl inX0 3 (by decide) g497 rfl dX0_nearest_147 ?_
                          refine lv_goto (tgt := 158) hx hb dX0_nearest_150 (by decide) ?_
                          refine q_astore (lv' := [(5, va_rf r1), (4, .ref a1), (8, .int (nI 1)), (7, .int (nI 0)), (6, .int (nI 1)), (1, .long k0), (3, .int (nI 0))]) hx hb dX0_nearest_158 hl (by decide) rfl (fun ls hl => ?_)
                          refine lv_goto (tgt := 6) hx hb dX0_nearest_160 (by decide) ?_
                          exact ihl H locs ls r1 (some a1) (some (k1, v1)) B1 j1 (by omega) hr1 (by omega) hS1.node.2.1 (Or.inr ⟨a1, k1, v1, _, _, _, _, rfl, rfl, f1⟩) (lv_sub hl [0, 1, 5, 6] rfl) (by rw [kk, qBest_up (by decide) (by unfold qFit; simp; omega)]; cases qBest k0 0 B1 <;> rfl) hP hS
              · replace c81 : ¬ k1.toInt < k0.toInt := fun zq => c81 ((lg_cmp_lt _ _).mpr (Int64.lt_iff_toInt_lt.mpr zq))
                refine lv_iconst (v := nI 1) hx hb dX0_nearest_84 (by decide) ?_
                refine lv_goto (tgt := 89) hx hb dX0_nearest_85 (by decide) ?_
                refine lv_istore (lv' := [(7, .int (nI 1)), (6, .int (nI 1)), (5, .ref a1), (4, va_rf b), (1, .long k0), (3, .int (nI 0))]) hx hb dX0_nearest_89 hl (by decide) rfl (fun ls hl => ?_)
                refine lv_iload_n hx hb dX0_nearest_91 rfl (lv_at hl 5 rfl) ?_
                refine lv_iconst (v := nI 2) hx hb dX0_nearest_92 (by decide) ?_
                refine lv_icmp_ge (tgt := 109) hx hb dX0_nearest_93 (by decide) (fun c93 => ?_) (fun c93 => ?_)
                · replace c93 : 2 ≤ 0 := (nI_leI (a := 2) (b := 0) (by omega) (by omega)).mp c93
                  exfalso; omega
                · replace c93 : ¬ 2 ≤ 0 := fun zq => c93 ((nI_leI (a := 2) (b := 0) (by omega) (by omega)).mpr zq)
                  refine lv_iload hx hb dX0_nearest_96 (lv_at hl 0 rfl) ?_
                  refine lv_if_ne (tgt := 105) hx hb dX0_nearest_98 (by decide) (fun c98 => ?_) (fun c98 => ?_)
                  · replace c98 : ¬ 1 = 0 := fun zq => c98 ((nI_eq (a := 1) (b := 0) (by omega) (by omega)).mpr zq)
                    refine lv_iconst (v := nI 0) hx hb dX0_nearest_105 (by decide) ?_
                    refine lv_goto (tgt := 119) hx hb dX0_nearest_106 (by decide) ?_
                    refine lv_istore (lv' := [(8, .int (nI 0)), (7, .int (nI 1)), (6, .int (nI 1)), (5, .ref a1), (4, va_rf b), (1, .long k0), (3, .int (nI 0))]) hx hb dX0_nearest_119 hl (by decide) rfl (fun ls hl => ?_)
                    refine lv_iload hx hb dX0_nearest_121 (lv_at hl 0 rfl) ?_
                    refine lv_if_eq (tgt := 130) hx hb dX0_nearest_123 (by decide) (fun c123 => ?_) (fun c123 => ?_)
                    · replace c123 : 0 = 0 := (nI_eq (a := 0) (b := 0) (by omega) (by omega)).mp c123
                      refine lv_iload hx hb dX0_nearest_130 (lv_at hl 0 rfl) ?_
                      refine lv_iload_n hx hb dX0_nearest_132 rfl (lv_at hl 6 rfl) ?_
                      refine lv_iconst (v := nI 2) hx hb dX0_nearest_133 (by decide) ?_
                      refine lv_icmp_ge (tgt := 141) hx hb dX0_nearest_134 (by decide) (fun c134 => ?_) (fun c134 => ?_)
                      · replace c134 : 2 ≤ 0 := (nI_leI (a := 2) (b := 0) (by omega) (by omega)).mp c134
                        exfalso; omega
                      · replace c134 : ¬ 2 ≤ 0 := fun zq => c134 ((nI_leI (a := 2) (b := 0) (by omega) (by omega)).mpr zq)
                        refine lv_iconst (v := nI 1) hx hb dX0_nearest_137 (by decide) ?_
                        refine lv_goto (tgt := 142) hx hb dX0_nearest_138 (by decide) ?_
                        refine lv_icmp_ne (tgt := 153) hx hb dX0_nearest_142 (by decide) (fun c142 => ?_) (fun c142 => ?_)
                        · replace c142 : ¬ 0 = 1 := fun zq => c142 ((nI_eq (a := 0) (b := 1) (by omega) (by omega)).mpr zq)
                          refine lv_aload hx hb dX0_nearest_153 (lv_at hl 3 rfl) ?_
                          refine q_get C hP f1 rfl inX0 0 (by decide) g491 rfl dX0_nearest_155 ?_
                          refine q_astore (lv' := [(5, va_rf l1), (8, .int (nI 0)), (7, .int (nI 1)), (6, .int (nI 1)), (4, va_rf b), (1, .long k0), (3, .int (nI 0))]) hx hb dX0_nearest_158 hl (by decide) (by cases b <;> rfl) (fun ls hl => ?_)
                          refine lv_goto (tgt := 6) hx hb dX0_nearest_160 (by decide) ?_
                          exact ihl H locs ls l1 b kb A1 i1 (by omega) hl1 (by omega) hS1.node.1 hbk (lv_sub hl [0, 4, 5, 6] rfl) (by rw [kk, qBest_up0 (by decide) hS1 (by unfold qFit; simp; omega)]) hP hS
                        · replace c142 : 0 = 1 := (nI_eq (a := 0) (b := 1) (by omega) (by omega)).mp c142
                          exfalso; omega
                    · replace c123 : ¬ 0 = 0 := fun zq => c123 ((nI_eq (a := 0) (b := 0) (by omega) (by omega)).mpr zq)
                      exfalso; omega
                  · replace c98 : 1 = 0 := (nI_eq (a := 1) (b := 0) (by omega) (by omega)).mp c98
                    exfalso; omega
            · replace c53 : 0 = 1 := (nI_eq (a := 0) (b := 1) (by omega) (by omega)).mp c53
              exfalso; omega
        · replace c13 : 0 = 2 := (nI_eq (a := 0) (b := 2) (by omega) (by omega)).mp c13
          exfalso; omega
  · refine lv_null hx hb dX0_nearest_0 ?_
    refine lv_astoreN (lv' := [(4, .null), (0, va_rf x), (1, .long k0), (3, .int (nI 1))]) hx hb dX0_nearest_1 hl (by decide) rfl (fun ls hl => ?_)
    refine q_aload_n hx hb dX0_nearest_3 rfl (lv_at hl 1 rfl) ?_
    refine q_astore (lv' := [(5, va_rf x), (4, .null), (0, va_rf x), (1, .long k0), (3, .int (nI 1))]) hx hb dX0_nearest_4 hl (by decide) rfl (fun ls hl => ?_)
    refine (?_ : ∀ (t : Nat) (H : Heap) (locs : List Loc) (ls : Array Slot) (r b : Option Nat) (kb : Option (Int64 × Int64)) (L1 : qKV) (n1 : Nat), n1 < t → qBr h n1 r L1 → L1.length < 1000000 → qSo L1 → qNd h b kb → lv_has ls 9 [(5, va_rf r), (4, va_rf b), (1, .long k0), (3, .int (nI 1))] → qBest k0 1 A = (qBest k0 1 L1).or kb → qP D N0 h H → va_S (qA N0) s.heap H locs → W p l e _ s m _ below meth c H locs 0 0 _ (F0 m 6 ls [])) _ s.heap [] ls x none none A n (Nat.lt_succ_self _) hA hL hS0 (Or.inl ⟨rfl, rfl⟩) (lv_sub hl [0, 1, 3, 4] rfl) (by cases qBest k0 1 A <;> rfl) hP hS
    clear hl hP hS
    intro t
    induction t with
    | zero => intro H locs ls r b kb L1 n1 ht; exact absurd ht (Nat.not_lt_zero _)
    | succ t ihl =>
      intro H locs ls r b kb L1 n1 ht hb1 hL1 hS1 hbk hl kk hP hS
      rcases hb1.inv with ⟨rfl, rfl, rfl⟩ | ⟨a1, l1, k1, v1, r1, i1, j1, A1, B1, rfl, f1, hl1, hr1, rfl, hg11, hg12, hg13, hg14, hg15, hg16⟩
      · refine lv_aloadN hx hb dX0_nearest_6 (lv_at hl 0 rfl) ?_
        refine lv_ifnullN (tgt := 163) hx hb dX0_nearest_8 (by decide) ?_
        refine q_aload hx hb dX0_nearest_163 (lv_at hl 1 rfl) ?_
        exact q_aret (v := b) C (Or.inl ⟨_, rfl⟩) hP hS ⟨b, rfl, rfl, by rw [kk, qBest_nil]; exact hbk⟩ (by omega) dX0_nearest_165
      · have zl1 := hl1.len
        have zr1 := hr1.len
        have eL1 : (A1 ++ (k1, v1) :: B1).length = A1.length + (B1.length + 1) := by rw [List.length_append, List.length_cons]
        simp only [List.length_append, List.length_cons, List.length_nil] at hL1
        refine lv_aload hx hb dX0_nearest_6 (lv_at hl 0 rfl) ?_
        refine lv_ifnull hx hb dX0_nearest_8 ?_
        refine lv_iload_n hx hb dX0_nearest_11 rfl (lv_at hl 3 rfl) ?_
        refine lv_iconst (v := nI 2) hx hb dX0_nearest_12 (by decide) ?_
        refine lv_icmp_ne (tgt := 34) hx hb dX0_nearest_13 (by decide) (fun c13 => ?_) (fun c13 => ?_)
        · replace c13 : ¬ 1 = 2 := fun zq => c13 ((nI_eq (a := 1) (b := 2) (by omega) (by omega)).mpr zq)
          refine lv_aload hx hb dX0_nearest_34 (lv_at hl 0 rfl) ?_
          refine q_get C hP f1 rfl inX0 1 (by decide) g492 rfl dX0_nearest_36 ?_
          refine lv_lload_n hx hb dX0_nearest_39 rfl (lv_at hl 2 rfl) ?_
          refine W.lcmp hx hb dX0_nearest_40 ?_
          refine lv_if_gt (tgt := 48) hx hb dX0_nearest_41 (by decide) (fun c41 => ?_) (fun c41 => ?_)
          · replace c41 : k0.toInt < k1.toInt := Int64.lt_iff_toInt_lt.mp ((lg_cmp_gt _ _).mp c41)
            refine lv_iconst (v := nI 0) hx hb dX0_nearest_48 (by decide) ?_
            refine lv_istore (lv' := [(6, .int (nI 0)), (5, .ref a1), (4, va_rf b), (1, .long k0), (3, .int (nI 1))]) hx hb dX0_nearest_49 hl (by decide) rfl (fun ls hl => ?_)
            refine lv_iload_n hx hb dX0_nearest_51 rfl (lv_at hl 4 rfl) ?_
            refine lv_iconst (v := nI 1) hx hb dX0_nearest_52 (by decide) ?_
            refine lv_icmp_ne (tgt := 74) hx hb dX0_nearest_53 (by decide) (fun c53 => ?_) (fun c53 => ?_)
            · replace c53 : ¬ 1 = 1 := fun zq => c53 ((nI_eq (a := 1) (b := 1) (by omega) (by omega)).mpr zq)
              exfalso; omega
            · replace c53 : 1 = 1 := (nI_eq (a := 1) (b := 1) (by omega) (by omega)).mp c53
              refine lv_aload hx hb dX0_nearest_56 (lv_at hl 1 rfl) ?_
              refine q_get C hP f1 rfl inX0 1 (by decide) g492 rfl dX0_nearest_58 ?_
              refine lv_lload_n hx hb dX0_nearest_61 rfl (lv_at hl 3 rfl) ?_
              refine W.lcmp hx hb dX0_nearest_62 ?_
              refine lv_if_le (tgt := 70) hx hb dX0_nearest_63 (by decide) (fun c63 => ?_) (fun c63 => ?_)
              · replace c63 : k1.toInt ≤ k0.toInt := Int64.le_iff_toInt_le.mp ((lg_cmp_le _ _).mp c63)
                refine lv_iconst (v := nI 0) hx hb dX0_nearest_70 (by decide) ?_
                refine lv_goto (tgt := 89) hx hb dX0_nearest_71 (by decide) ?_
                refine lv_istore (lv' := [(7, .int (nI 0)), (6, .int (nI 0)), (5, .ref a1), (4, va_rf b), (1, .long k0), (3, .int (nI 1))]) hx hb dX0_nearest_89 hl (by decide) rfl (fun ls hl => ?_)
                refine lv_iload_n hx hb dX0_nearest_91 rfl (lv_at hl 5 rfl) ?_
                refine lv_iconst (v := nI 2) hx hb dX0_nearest_92 (by decide) ?_
                refine lv_icmp_ge (tgt := 109) hx hb dX0_nearest_93 (by decide) (fun c93 => ?_) (fun c93 => ?_)
                · replace c93 : 2 ≤ 1 := (nI_leI (a := 2) (b := 1) (by omega) (by omega)).mp c93
                  exfalso; omega
                · replace c93 : ¬ 2 ≤ 1 := fun zq => c93 ((nI_leI (a := 2) (b := 1) (by omega) (by omega)).mpr zq)
                  refine lv_iload hx hb dX0_nearest_96 (lv_at hl 0 rfl) ?_
                  refine lv_if_ne (tgt := 105) hx hb dX0_nearest_98 (by decide) (fun c98 => ?_) (fun c98 => ?_)
                  · replace c98 : ¬ 0 = 0 := fun zq => c98 ((nI_eq (a := 0) (b := 0) (by omega) (by omega)).mpr zq)
                    exfalso; omega
                  · replace c98 : 0 = 0 := (nI_eq (a := 0) (b := 0) (by omega) (by omega)).mp c98
                    refine lv_iconst (v := nI 1) hx hb dX0_nearest_101 (by decide) ?_
                    refine lv_goto (tgt := 119) hx hb dX0_nearest_102 (by decide) ?_
                    refine lv_istore (lv' := [(8, .int (nI 1)), (7, .int (nI 0)), (6, .int (nI 0)), (5, .ref a1), (4, va_rf b), (1, .long k0), (3, .int (nI 1))]) hx hb dX0_nearest_119 hl (by decide) rfl (fun ls hl => ?_)
                    refine lv_iload hx hb dX0_nearest_121 (lv_at hl 0 rfl) ?_
                    refine lv_if_eq (tgt := 130) hx hb dX0_nearest_123 (by decide) (fun c123 => ?_) (fun c123 => ?_)
                    · replace c123 : 1 = 0 := (nI_eq (a := 1) (b := 0) (by omega) (by omega)).mp c123
                      exfalso; omega
                    · replace c123 : ¬ 1 = 0 := fun zq => c123 ((nI_eq (a := 1) (b := 0) (by omega) (by omega)).mpr zq)
                      refine lv_aload hx hb dX0_nearest_126 (lv_at hl 3 rfl) ?_
                      refine lv_astore (lv' := [(4, .ref a1), (8, .int (nI 1)), (7, .int (nI 0)), (6, .int (nI 0)), (5, .ref a1), (1, .long k0), (3, .int (nI 1))]) hx hb dX0_nearest_128 hl (by decide) rfl (fun ls hl => ?_)
                      refine lv_iload hx hb dX0_nearest_130 (lv_at hl 1 rfl) ?_
                      refine lv_iload_n hx hb dX0_nearest_132 rfl (lv_at hl 6 rfl) ?_
                      refine lv_iconst (v := nI 2) hx hb dX0_nearest_133 (by decide) ?_
                      refine lv_icmp_ge (tgt := 141) hx hb dX0_nearest_134 (by decide) (fun c134 => ?_) (fun c134 => ?_)
                      · replace c134 : 2 ≤ 1 := (nI_leI (a := 2) (b := 1) (by omega) (by omega)).mp c134
                        exfalso; omega
                      · replace c134 : ¬ 2 ≤ 1 := fun zq => c134 ((nI_leI (a := 2) (b := 1) (by omega) (by omega)).mpr zq)
                        refine lv_iconst (v := nI 1) hx hb dX0_nearest_137 (by decide) ?_
                        refine lv_goto (tgt := 142) hx hb dX0_nearest_138 (by decide) ?_
                        refine lv_icmp_ne (tgt := 153) hx hb dX0_nearest_142 (by decide) (fun c142 => ?_) (fun c142 => ?_)
                        · replace c142 : ¬ 1 = 1 := fun zq => c142 ((nI_eq (a := 1) (b := 1) (by omega) (by omega)).mpr zq)
                          exfalso; omega
                        · replace c142 : 1 = 1 := (nI_eq (a := 1) (b := 1) (by omega) (by omega)).mp c142
                          refine lv_aload hx hb dX0_nearest_145 (lv_at hl 4 rfl) ?_
                          refine q_get C hP f1 rfl inX0 3 (by decide) g497 rfl dX0_nearest_147 ?_
                          refine lv_goto (tgt := 158) hx hb dX0_nearest_150 (by decide) ?_
                          refine q_astore (lv' := [(5, va_rf r1), (4, .ref a1), (8, .int (nI 1)), (7, .int (nI 0)), (6, .int (nI 0)), (1, .long k0), (3, .int (nI 1))]) hx hb dX0_nearest_158 hl (by decide) rfl (fun ls hl => ?_)
                          refine lv_goto (tgt := 6) hx hb dX0_nearest_160 (by decide) ?_
                          exact ihl H locs ls r1 (some a1) (some (k1, v1)) B1 j1 (by omega) hr1 (by omega) hS1.node.2.1 (Or.inr ⟨a1, k1, v1, _, _, _, _, rfl, rfl, f1⟩) (lv_sub hl [0, 1, 5, 6] rfl) (by rw [kk, qBest_up (by decide) (by unfold qFit; simp; omega)]; cases qBest k0 1 B1 <;> rfl) hP hS
              · replace c63 : ¬ k1.toInt ≤ k0.toInt := fun zq => c63 ((lg_cmp_le _ _).mpr (Int64.le_iff_toInt_le.mpr zq))
                refine lv_iconst (v := nI 1) hx hb dX0_nearest_66 (by decide) ?_
                refine lv_goto (tgt := 89) hx hb dX0_nearest_67 (by decide) ?_
                refine lv_istore (lv' := [(7, .int (nI 1)), (6, .int (nI 0)), (5, .ref a1), (4, va_rf b), (1, .long k0), (3, .int (nI 1))]) hx hb dX0_nearest_89 hl (by decide) rfl (fun ls hl => ?_)
                refine lv_iload_n hx hb dX0_nearest_91 rfl (lv_at hl 5 rfl) ?_
                refine lv_iconst (v := nI 2) hx hb dX0_nearest_92 (by decide) ?_
                refine lv_icmp_ge (tgt := 109) hx hb dX0_nearest_93 (by decide) (fun c93 => ?_) (fun c93 => ?_)
                · replace c93 : 2 ≤ 1 := (nI_leI (a := 2) (b := 1) (by omega) (by omega)).mp c93
                  exfalso; omega
                · replace c93 : ¬ 2 ≤ 1 := fun zq => c93 ((nI_leI (a := 2) (b := 1) (by omega) (by omega)).mpr zq)
                  refine lv_iload hx hb dX0_nearest_96 (lv_at hl 0 rfl) ?_
                  refine lv_if_ne (tgt := 105) hx hb dX0_nearest_98 (by decide) (fun c98 => ?_) (fun c98 => ?_)
                  · replace c98 : ¬ 1 = 0 := fun zq => c98 ((nI_eq (a := 1) (b := 0) (by omega) (by omega)).mpr zq)
                    refine lv_iconst (v := nI 0) hx hb dX0_nearest_105 (by decide) ?_
                    refine lv_goto (tgt := 119) hx hb dX0_nearest_106 (by decide) ?_
                    refine lv_istore (lv' := [(8, .int (nI 0)), (7, .int (nI 1)), (6, .int (nI 0)), (5, .ref a1), (4, va_rf b), (1, .long k0), (3, .int (nI 1))]) hx hb dX0_nearest_119 hl (by decide) rfl (fun ls hl => ?_)
                    refine lv_iload hx hb dX0_nearest_121 (lv_at hl 0 rfl) ?_
                    refine lv_if_eq (tgt := 130) hx hb dX0_nearest_123 (by decide) (fun c123 => ?_) (fun c123 => ?_)
                    · replace c123 : 0 = 0 := (nI_eq (a := 0) (b := 0) (by omega) (by omega)).mp c123
                      refine lv_iload hx hb dX0_nearest_130 (lv_at hl 0 rfl) ?_
                      refine lv_iload_n hx hb dX0_nearest_132 rfl (lv_at hl 6 rfl) ?_
                      refine lv_iconst (v := nI 2) hx hb dX0_nearest_133 (by decide) ?_
                      refine lv_icmp_ge (tgt := 141) hx hb dX0_nearest_134 (by decide) (fun c134 => ?_) (fun c134 => ?_)
                      · replace c134 : 2 ≤ 1 := (nI_leI (a := 2) (b := 1) (by omega) (by omega)).mp c134
                        exfalso; omega
                      · replace c134 : ¬ 2 ≤ 1 := fun zq => c134 ((nI_leI (a := 2) (b := 1) (by omega) (by omega)).mpr zq)
                        refine lv_iconst (v := nI 1) hx hb dX0_nearest_137 (by decide) ?_
                        refine lv_goto (tgt := 142) hx hb dX0_nearest_138 (by decide) ?_
                        refine lv_icmp_ne (tgt := 153) hx hb dX0_nearest_142 (by decide) (fun c142 => ?_) (fun c142 => ?_)
                        · replace c142 : ¬ 0 = 1 := fun zq => c142 ((nI_eq (a := 0) (b := 1) (by omega) (by omega)).mpr zq)
                          refine lv_aload hx hb dX0_nearest_153 (lv_at hl 3 rfl) ?_
                          refine q_get C hP f1 rfl inX0 0 (by decide) g491 rfl dX0_nearest_155 ?_
                          refine q_astore (lv' := [(5, va_rf l1), (8, .int (nI 0)), (7, .int (nI 1)), (6, .int (nI 0)), (4, va_rf b), (1, .long k0), (3, .int (nI 1))]) hx hb dX0_nearest_158 hl (by decide) (by cases b <;> rfl) (fun ls hl => ?_)
                          refine lv_goto (tgt := 6) hx hb dX0_nearest_160 (by decide) ?_
                          exact ihl H locs ls l1 b kb A1 i1 (by omega) hl1 (by omega) hS1.node.1 hbk (lv_sub hl [0, 4, 5, 6] rfl) (by rw [kk, qBest_up0 (by decide) hS1 (by unfold qFit; simp; omega)]) hP hS
                        · replace c142 : 0 = 1 := (nI_eq (a := 0) (b := 1) (by omega) (by omega)).mp c142
                          exfalso; omega
                    · replace c123 : ¬ 0 = 0 := fun zq => c123 ((nI_eq (a := 0) (b := 0) (by omega) (by omega)).mpr zq)
                      exfalso; omega
                  · replace c98 : 1 = 0 := (nI_eq (a := 1) (b := 0) (by omega) (by omega)).mp c98
                    exfalso; omega
          · replace c41 : ¬ k0.toInt < k1.toInt := fun zq => c41 ((lg_cmp_gt _ _).mpr (Int64.lt_iff_toInt_lt.mpr zq))
            refine lv_iconst (v := nI 1) hx hb dX0_nearest_44 (by decide) ?_
            refine lv_goto (tgt := 49) hx hb dX0_nearest_45 (by decide) ?_
            refine lv_istore (lv' := [(6, .int (nI 1)), (5, .ref a1), (4, va_rf b), (1, .long k0), (3, .int (nI 1))]) hx hb dX0_nearest_49 hl (by decide) rfl (fun ls hl => ?_)
            refine lv_iload_n hx hb dX0_nearest_51 rfl (lv_at hl 4 rfl) ?_
            refine lv_iconst (v := nI 1) hx hb dX0_nearest_52 (by decide) ?_
            refine lv_icmp_ne (tgt := 74) hx hb dX0_nearest_53 (by decide) (fun c53 => ?_) (fun c53 => ?_)
            · replace c53 : ¬ 1 = 1 := fun zq => c53 ((nI_eq (a := 1) (b := 1) (by omega) (by omega)).mpr zq)
              exfalso; omega
            · replace c53 : 1 = 1 := (nI_eq (a := 1) (b := 1) (by omega) (by omega)).mp c53
              refine lv_aload hx hb dX0_nearest_56 (lv_at hl 1 rfl) ?_
              refine q_get C hP f1 rfl inX0 1 (by decide) g492 rfl dX0_nearest_58 ?_
              refine lv_lload_n hx hb dX0_nearest_61 rfl (lv_at hl 3 rfl) ?_
              refine W.lcmp hx hb dX0_nearest_62 ?_
              refine lv_if_le (tgt := 70) hx hb dX0_nearest_63 (by decide) (fun c63 => ?_) (fun c63 => ?_)
              · replace c63 : k1.toInt ≤ k0.toInt := Int64.le_iff_toInt_le.mp ((lg_cmp_le _ _).mp c63)
                refine lv_iconst (v := nI 0) hx hb dX0_nearest_70 (by decide) ?_
                refine lv_goto (tgt := 89) hx hb dX0_nearest_71 (by decide) ?_
                refine lv_istore (lv' := [(7, .int (nI 0)), (6, .int (nI 1)), (5, .ref a1), (4, va_rf b), (1, .long k0), (3, .int (nI 1))]) hx hb dX0_nearest_89 hl (by decide) rfl (fun ls hl => ?_)
                refine lv_iload_n hx hb dX0_nearest_91 rfl (lv_at hl 5 rfl) ?_
                refine lv_iconst (v := nI 2) hx hb dX0_nearest_92 (by decide) ?_
                refine lv_icmp_ge (tgt := 109) hx hb dX0_nearest_93 (by decide) (fun c93 => ?_) (fun c93 => ?_)
                · replace c93 : 2 ≤ 1 := (nI_leI (a := 2) (b := 1) (by omega) (by omega)).mp c93
                  exfalso; omega
                · replace c93 : ¬ 2 ≤ 1 := fun zq => c93 ((nI_leI (a := 2) (b := 1) (by omega) (by omega)).mpr zq)
                  refine lv_iload hx hb dX0_nearest_96 (lv_at hl 0 rfl) ?_
                  refine lv_if_ne (tgt := 105) hx hb dX0_nearest_98 (by decide) (fun c98 => ?_) (fun c98 => ?_)
                  · replace c98 : ¬ 0 = 0 := fun zq => c98 ((nI_eq (a := 0) (b := 0) (by omega) (by omega)).mpr zq)
                    exfalso; omega
                  · replace c98 : 0 = 0 := (nI_eq (a := 0) (b := 0) (by omega) (by omega)).mp c98
                    refine lv_iconst (v := nI 1) hx hb dX0_nearest_101 (by decide) ?_
                    refine lv_goto (tgt := 119) hx hb dX0_nearest_102 (by decide) ?_
                    refine lv_istore (lv' := [(8, .int (nI 1)), (7, .int (nI 0)), (6, .int (nI 1)), (5, .ref a1), (4, va_rf b), (1, .long k0), (3, .int (nI 1))]) hx hb dX0_nearest_119 hl (by decide) rfl (fun ls hl => ?_)
                    refine lv_iload hx hb dX0_nearest_121 (lv_at hl 0 rfl) ?_
                    refine lv_if_eq (tgt := 130) hx hb dX0_nearest_123 (by decide) (fun c123 => ?_) (fun c123 => ?_)
                    · replace c123 : 1 = 0 := (nI_eq (a := 1) (b := 0) (by omega) (by omega)).mp c123
                      exfalso; omega
                    · replace c123 : ¬ 1 = 0 := fun zq => c123 ((nI_eq (a := 1) (b := 0) (by omega) (by omega)).mpr zq)
                      refine lv_aload hx hb dX0_nearest_126 (lv_at hl 3 rfl) ?_
                      refine lv_astore (lv' := [(4, .ref a1), (8, .int (nI 1)), (7, .int (nI 0)), (6, .int (nI 1)), (5, .ref a1), (1, .long k0), (3, .int (nI 1))]) hx hb dX0_nearest_128 hl (by decide) rfl (fun ls hl => ?_)
                      refine lv_iload hx hb dX0_nearest_130 (lv_at hl 1 rfl) ?_
                      refine lv_iload_n hx hb dX0_nearest_132 rfl (lv_at hl 6 rfl) ?_
                      refine lv_iconst (v := nI 2) hx hb dX0_nearest_133 (by decide) ?_
                      refine lv_icmp_ge (tgt := 141) hx hb dX0_nearest_134 (by decide) (fun c134 => ?_) (fun c134 => ?_)
                      · replace c134 : 2 ≤ 1 := (nI_leI (a := 2) (b := 1) (by omega) (by omega)).mp c134
                        exfalso; omega
                      · replace c134 : ¬ 2 ≤ 1 := fun zq => c134 ((nI_leI (a := 2) (b := 1) (by omega) (by omega)).mpr zq)
                        refine lv_iconst (v := nI 1) hx hb dX0_nearest_137 (by decide) ?_
                        refine lv_goto (tgt := 142) hx hb dX0_nearest_138 (by decide) ?_
                        refine lv_icmp_ne (tgt := 153) hx hb dX0_nearest_142 (by decide) (fun c142 => ?_) (fun c142 => ?_)
                        · replace c142 : ¬ 1 = 1 := fun zq => c142 ((nI_eq (a := 1) (b := 1) (by omega) (by omega)).mpr zq)
                          exfalso; omega
                        · replace c142 : 1 = 1 := (nI_eq (a := 1) (b := 1) (by omega) (by omega)).mp c142
                          refine lv_aload hx hb dX0_nearest_145 (lv_at hl 4 rfl) ?_
                          refine q_get C hP f1 rfl inX0 3 (by decide) g497 rfl dX0_nearest_147 ?_
                          refine lv_goto (tgt := 158) hx hb dX0_nearest_150 (by decide) ?_
                          refine q_astore (lv' := [(5, va_rf r1), (4, .ref a1), (8, .int (nI 1)), (7, .int (nI 0)), (6, .int (nI 1)), (1, .long k0), (3, .int (nI 1))]) hx hb dX0_nearest_158 hl (by decide) rfl (fun ls hl => ?_)
                          refine lv_goto (tgt := 6) hx hb dX0_nearest_160 (by decide) ?_
                          exact ihl H locs ls r1 (some a1) (some (k1, v1)) B1 j1 (by omega) hr1 (by omega) hS1.node.2.1 (Or.inr ⟨a1, k1, v1, _, _, _, _, rfl, rfl, f1⟩) (lv_sub hl [0, 1, 5, 6] rfl) (by rw [kk, qBest_up (by decide) (by unfold qFit; simp; omega)]; cases qBest k0 1 B1 <;> rfl) hP hS
              · replace c63 : ¬ k1.toInt ≤ k0.toInt := fun zq => c63 ((lg_cmp_le _ _).mpr (Int64.le_iff_toInt_le.mpr zq))
                refine lv_iconst (v := nI 1) hx hb dX0_nearest_66 (by decide) ?_
                refine lv_goto (tgt := 89) hx hb dX0_nearest_67 (by decide) ?_
                refine lv_istore (lv' := [(7, .int (nI 1)), (6, .int (nI 1)), (5, .ref a1), (4, va_rf b), (1, .long k0), (3, .int (nI 1))]) hx hb dX0_nearest_89 hl (by decide) rfl (fun ls hl => ?_)
                refine lv_iload_n hx hb dX0_nearest_91 rfl (lv_at hl 5 rfl) ?_
                refine lv_iconst (v := nI 2) hx hb dX0_nearest_92 (by decide) ?_
                refine lv_icmp_ge (tgt := 109) hx hb dX0_nearest_93 (by decide) (fun c93 => ?_) (fun c93 => ?_)
                · replace c93 : 2 ≤ 1 := (nI_leI (a := 2) (b := 1) (by omega) (by omega)).mp c93
                  exfalso; omega
                · replace c93 : ¬ 2 ≤ 1 := fun zq => c93 ((nI_leI (a := 2) (b := 1) (by omega) (by omega)).mpr zq)
                  refine lv_iload hx hb dX0_nearest_96 (lv_at hl 0 rfl) ?_
                  refine lv_if_ne (tgt := 105) hx hb dX0_nearest_98 (by decide) (fun c98 => ?_) (fun c98 => ?_)
                  · replace c98 : ¬ 1 = 0 := fun zq => c98 ((nI_eq (a := 1) (b := 0) (by omega) (by omega)).mpr zq)
                    refine lv_iconst (v := nI 0) hx hb dX0_nearest_105 (by decide) ?_
                    refine lv_goto (tgt := 119) hx hb dX0_nearest_106 (by decide) ?_
                    refine lv_istore (lv' := [(8, .int (nI 0)), (7, .int (nI 1)), (6, .int (nI 1)), (5, .ref a1), (4, va_rf b), (1, .long k0), (3, .int (nI 1))]) hx hb dX0_nearest_119 hl (by decide) rfl (fun ls hl => ?_)
                    refine lv_iload hx hb dX0_nearest_121 (lv_at hl 0 rfl) ?_
                    refine lv_if_eq (tgt := 130) hx hb dX0_nearest_123 (by decide) (fun c123 => ?_) (fun c123 => ?_)
                    · replace c123 : 0 = 0 := (nI_eq (a := 0) (b := 0) (by omega) (by omega)).mp c123
                      refine lv_iload hx hb dX0_nearest_130 (lv_at hl 0 rfl) ?_
                      refine lv_iload_n hx hb dX0_nearest_132 rfl (lv_at hl 6 rfl) ?_
                      refine lv_iconst (v := nI 2) hx hb dX0_nearest_133 (by decide) ?_
                      refine lv_icmp_ge (tgt := 141) hx hb dX0_nearest_134 (by decide) (fun c134 => ?_) (fun c134 => ?_)
                      · replace c134 : 2 ≤ 1 := (nI_leI (a := 2) (b := 1) (by omega) (by omega)).mp c134
                        exfalso; omega
                      · replace c134 : ¬ 2 ≤ 1 := fun zq => c134 ((nI_leI (a := 2) (b := 1) (by omega) (by omega)).mpr zq)
                        refine lv_iconst (v := nI 1) hx hb dX0_nearest_137 (by decide) ?_
                        refine lv_goto (tgt := 142) hx hb dX0_nearest_138 (by decide) ?_
                        refine lv_icmp_ne (tgt := 153) hx hb dX0_nearest_142 (by decide) (fun c142 => ?_) (fun c142 => ?_)
                        · replace c142 : ¬ 0 = 1 := fun zq => c142 ((nI_eq (a := 0) (b := 1) (by omega) (by omega)).mpr zq)
                          refine lv_aload hx hb dX0_nearest_153 (lv_at hl 3 rfl) ?_
                          refine q_get C hP f1 rfl inX0 0 (by decide) g491 rfl dX0_nearest_155 ?_
                          refine q_astore (lv' := [(5, va_rf l1), (8, .int (nI 0)), (7, .int (nI 1)), (6, .int (nI 1)), (4, va_rf b), (1, .long k0), (3, .int (nI 1))]) hx hb dX0_nearest_158 hl (by decide) (by cases b <;> rfl) (fun ls hl => ?_)
                          refine lv_goto (tgt := 6) hx hb dX0_nearest_160 (by decide) ?_
                          exact ihl H locs ls l1 b kb A1 i1 (by omega) hl1 (by omega) hS1.node.1 hbk (lv_sub hl [0, 4, 5, 6] rfl) (by rw [kk, qBest_up0 (by decide) hS1 (by unfold qFit; simp; omega)]) hP hS
                        · replace c142 : 0 = 1 := (nI_eq (a := 0) (b := 1) (by omega) (by omega)).mp c142
                          exfalso; omega
                    · replace c123 : ¬ 0 = 0 := fun zq => c123 ((nI_eq (a := 0) (b := 0) (by omega) (by omega)).mpr zq)
                      exfalso; omega
                  · replace c98 : 1 = 0 := (nI_eq (a := 1) (b := 0) (by omega) (by omega)).mp c98
                    exfalso; omega
        · replace c13 : 1 = 2 := (nI_eq (a := 1) (b := 2) (by omega) (by omega)).mp c13
          exfalso; omega
  · refine lv_null hx hb dX0_nearest_0 ?_
    refine lv_astoreN (lv' := [(4, .null), (0, va_rf x), (1, .long k0), (3, .int (nI 2))]) hx hb dX0_nearest_1 hl (by decide) rfl (fun ls hl => ?_)
    refine q_aload_n hx hb dX0_nearest_3 rfl (lv_at hl 1 rfl) ?_
    refine q_astore (lv' := [(5, va_rf x), (4, .null), (0, va_rf x), (1, .long k0), (3, .int (nI 2))]) hx hb dX0_nearest_4 hl (by decide) rfl (fun ls hl => ?_)
    refine (?_ : ∀ (t : Nat) (H : Heap) (locs : List Loc) (ls : Array Slot) (r b : Option Nat) (kb : Option (Int64 × Int64)) (L1 : qKV) (n1 : Nat), n1 < t → qBr h n1 r L1 → L1.length < 1000000 → qSo L1 → qNd h b kb → lv_has ls 9 [(5, va_rf r), (4, va_rf b), (1, .long k0), (3, .int (nI 2))] → qBest k0 2 A = (qBest k0 2 L1).or kb → qP D N0 h H → va_S (qA N0) s.heap H locs → W p l e _ s m _ below meth c H locs 0 0 _ (F0 m 6 ls [])) _ s.heap [] ls x none none A n (Nat.lt_succ_self _) hA hL hS0 (Or.inl ⟨rfl, rfl⟩) (lv_sub hl [0, 1, 3, 4] rfl) (by cases qBest k0 2 A <;> rfl) hP hS
    clear hl hP hS
    intro t
    induction t with
    | zero => intro H locs ls r b kb L1 n1 ht; exact absurd ht (Nat.not_lt_zero _)
    | succ t ihl =>
      intro H locs ls r b kb L1 n1 ht hb1 hL1 hS1 hbk hl kk hP hS
      rcases hb1.inv with ⟨rfl, rfl, rfl⟩ | ⟨a1, l1, k1, v1, r1, i1, j1, A1, B1, rfl, f1, hl1, hr1, rfl, hg11, hg12, hg13, hg14, hg15, hg16⟩
      · refine lv_aloadN hx hb dX0_nearest_6 (lv_at hl 0 rfl) ?_
        refine lv_ifnullN (tgt := 163) hx hb dX0_nearest_8 (by decide) ?_
        refine q_aload hx hb dX0_nearest_163 (lv_at hl 1 rfl) ?_
        exact q_aret (v := b) C (Or.inl ⟨_, rfl⟩) hP hS ⟨b, rfl, rfl, by rw [kk, qBest_nil]; exact hbk⟩ (by omega) dX0_nearest_165
      · have zl1 := hl1.len
        have zr1 := hr1.len
        have eL1 : (A1 ++ (k1, v1) :: B1).length = A1.length + (B1.length + 1) := by rw [List.length_append, List.length_cons]
        simp only [List.length_append, List.length_cons, List.length_nil] at hL1
        refine lv_aload hx hb dX0_nearest_6 (lv_at hl 0 rfl) ?_
        refine lv_ifnull hx hb dX0_nearest_8 ?_
        refine lv_iload_n hx hb dX0_nearest_11 rfl (lv_at hl 3 rfl) ?_
        refine lv_iconst (v := nI 2) hx hb dX0_nearest_12 (by decide) ?_
        refine lv_icmp_ne (tgt := 34) hx hb dX0_nearest_13 (by decide) (fun c13 => ?_) (fun c13 => ?_)
        · replace c13 : ¬ 2 = 2 := fun zq => c13 ((nI_eq (a := 2) (b := 2) (by omega) (by omega)).mpr zq)
          exfalso; omega
        · replace c13 : 2 = 2 := (nI_eq (a := 2) (b := 2) (by omega) (by omega)).mp c13
          refine lv_aload hx hb dX0_nearest_16 (lv_at hl 0 rfl) ?_
          refine q_get C hP f1 rfl inX0 1 (by decide) g492 rfl dX0_nearest_18 ?_
          refine lv_lload_n hx hb dX0_nearest_21 rfl (lv_at hl 2 rfl) ?_
          refine W.lcmp hx hb dX0_nearest_22 ?_
          refine lv_if_ge (tgt := 30) hx hb dX0_nearest_23 (by decide) (fun c23 => ?_) (fun c23 => ?_)
          · replace c23 : k0.toInt ≤ k1.toInt := Int64.le_iff_toInt_le.mp ((lg_cmp_ge _ _).mp c23)
            refine lv_iconst (v := nI 0) hx hb dX0_nearest_30 (by decide) ?_
            refine lv_goto (tgt := 49) hx hb dX0_nearest_31 (by decide) ?_
            refine lv_istore (lv' := [(6, .int (nI 0)), (5, .ref a1), (4, va_rf b), (1, .long k0), (3, .int (nI 2))]) hx hb dX0_nearest_49 hl (by decide) rfl (fun ls hl => ?_)
            refine lv_iload_n hx hb dX0_nearest_51 rfl (lv_at hl 4 rfl) ?_
            refine lv_iconst (v := nI 1) hx hb dX0_nearest_52 (by decide) ?_
            refine lv_icmp_ne (tgt := 74) hx hb dX0_nearest_53 (by decide) (fun c53 => ?_) (fun c53 => ?_)
            · replace c53 : ¬ 2 = 1 := fun zq => c53 ((nI_eq (a := 2) (b := 1) (by omega) (by omega)).mpr zq)
              refine lv_aload hx hb dX0_nearest_74 (lv_at hl 1 rfl) ?_
              refine q_get C hP f1 rfl inX0 1 (by decide) g492 rfl dX0_nearest_76 ?_
              refine lv_lload_n hx hb dX0_nearest_79 rfl (lv_at hl 3 rfl) ?_
              refine W.lcmp hx hb dX0_nearest_80 ?_
              refine lv_if_lt (tgt := 88) hx hb dX0_nearest_81 (by decide) (fun c81 => ?_) (fun c81 => ?_)
              · replace c81 : k1.toInt < k0.toInt := Int64.lt_iff_toInt_lt.mp ((lg_cmp_lt _ _).mp c81)
                refine lv_iconst (v := nI 0) hx hb dX0_nearest_88 (by decide) ?_
                refine lv_istore (lv' := [(7, .int (nI 0)), (6, .int (nI 0)), (5, .ref a1), (4, va_rf b), (1, .long k0), (3, .int (nI 2))]) hx hb dX0_nearest_89 hl (by decide) rfl (fun ls hl => ?_)
                refine lv_iload_n hx hb dX0_nearest_91 rfl (lv_at hl 5 rfl) ?_
                refine lv_iconst (v := nI 2) hx hb dX0_nearest_92 (by decide) ?_
                refine lv_icmp_ge (tgt := 109) hx hb dX0_nearest_93 (by decide) (fun c93 => ?_) (fun c93 => ?_)
                · replace c93 : 2 ≤ 2 := (nI_leI (a := 2) (b := 2) (by omega) (by omega)).mp c93
                  refine lv_iload hx hb dX0_nearest_109 (lv_at hl 1 rfl) ?_
                  refine lv_if_ne (tgt := 118) hx hb dX0_nearest_111 (by decide) (fun c111 => ?_) (fun c111 => ?_)
                  · replace c111 : ¬ 0 = 0 := fun zq => c111 ((nI_eq (a := 0) (b := 0) (by omega) (by omega)).mpr zq)
                    exfalso; omega
                  · replace c111 : 0 = 0 := (nI_eq (a := 0) (b := 0) (by omega) (by omega)).mp c111
                    refine lv_iconst (v := nI 1) hx hb dX0_nearest_114 (by decide) ?_
                    refine lv_goto (tgt := 119) hx hb dX0_nearest_115 (by decide) ?_
                    refine lv_istore (lv' := [(8, .int (nI 1)), (7, .int (nI 0)), (6, .int (nI 0)), (5, .ref a1), (4, va_rf b), (1, .long k0), (3, .int (nI 2))]) hx hb dX0_nearest_119 hl (by decide) rfl (fun ls hl => ?_)
                    refine lv_iload hx hb dX0_nearest_121 (lv_at hl 0 rfl) ?_
                    refine lv_if_eq (tgt := 130) hx hb dX0_nearest_123 (by decide) (fun c123 => ?_) (fun c123 => ?_)
                    · replace c123 : 1 = 0 := (nI_eq (a := 1) (b := 0) (by omega) (by omega)).mp c123
                      exfalso; omega
                    · replace c123 : ¬ 1 = 0 := fun zq => c123 ((nI_eq (a := 1) (b := 0) (by omega) (by omega)).mpr zq)
                      refine lv_aload hx hb dX0_nearest_126 (lv_at hl 3 rfl) ?_
                      refine lv_astore (lv' := [(4, .ref a1), (8, .int (nI 1)), (7, .int (nI 0)), (6, .int (nI 0)), (5, .ref a1), (1, .long k0), (3, .int (nI 2))]) hx hb dX0_nearest_128 hl (by decide) rfl (fun ls hl => ?_)
                      refine lv_iload hx hb dX0_nearest_130 (lv_at hl 1 rfl) ?_
                      refine lv_iload_n hx hb dX0_nearest_132 rfl (lv_at hl 6 rfl) ?_
                      refine lv_iconst (v := nI 2) hx hb dX0_nearest_133 (by decide) ?_
                      refine lv_icmp_ge (tgt := 141) hx hb dX0_nearest_134 (by decide) (fun c134 => ?_) (fun c134 => ?_)
                      · replace c134 : 2 ≤ 2 := (nI_leI (a := 2) (b := 2) (by omega) (by omega)).mp c134
                        refine lv_iconst (v := nI 0) hx hb dX0_nearest_141 (by decide) ?_
                        refine lv_icmp_ne (tgt := 153) hx hb dX0_nearest_142 (by decide) (fun c142 => ?_) (fun c142 => ?_)
                        · replace c142 : ¬ 1 = 0 := fun zq => c142 ((nI_eq (a := 1) (b := 0) (by omega) (by omega)).mpr zq)
                          refine lv_aload hx hb dX0_nearest_153 (lv_at hl 4 rfl) ?_
                          refine q_get C hP f1 rfl inX0 0 (by decide) g491 rfl dX0_nearest_155 ?_
                          refine q_astore (lv' := [(5, va_rf l1), (4, .ref a1), (8, .int (nI 1)), (7, .int (nI 0)), (6, .int (nI 0)), (1, .long k0), (3, .int (nI 2))]) hx hb dX0_nearest_158 hl (by decide) rfl (fun ls hl => ?_)
                          refine lv_goto (tgt := 6) hx hb dX0_nearest_160 (by decide) ?_
                          exact ihl H locs ls l1 (some a1) (some (k1, v1)) A1 i1 (by omega) hl1 (by omega) hS1.node.1 (Or.inr ⟨a1, k1, v1, _, _, _, _, rfl, rfl, f1⟩) (lv_sub hl [0, 1, 5, 6] rfl) (by rw [kk, qBest_dn (by decide) (by unfold qFit; simp; omega)]; cases qBest k0 2 A1 <;> rfl) hP hS
                        · replace c142 : 1 = 0 := (nI_eq (a := 1) (b := 0) (by omega) (by omega)).mp c142
                          exfalso; omega
                      · replace c134 : ¬ 2 ≤ 2 := fun zq => c134 ((nI_leI (a := 2) (b := 2) (by omega) (by omega)).mpr zq)
                        exfalso; omega
                · replace c93 : ¬ 2 ≤ 2 := fun zq => c93 ((nI_leI (a := 2) (b := 2) (by omega) (by omega)).mpr zq)
                  exfalso; omega
              · replace c81 : ¬ k1.toInt < k0.toInt := fun zq => c81 ((lg_cmp_lt _ _).mpr (Int64.lt_iff_toInt_lt.mpr zq))
                refine lv_iconst (v := nI 1) hx hb dX0_nearest_84 (by decide) ?_
                refine lv_goto (tgt := 89) hx hb dX0_nearest_85 (by decide) ?_
                refine lv_istore (lv' := [(7, .int (nI 1)), (6, .int (nI 0)), (5, .ref a1), (4, va_rf b), (1, .long k0), (3, .int (nI 2))]) hx hb dX0_nearest_89 hl (by decide) rfl (fun ls hl => ?_)
                refine lv_iload_n hx hb dX0_nearest_91 rfl (lv_at hl 5 rfl) ?_
                refine lv_iconst (v := nI 2) hx hb dX0_nearest_92 (by decide) ?_
                refine lv_icmp_ge (tgt := 109) hx hb dX0_nearest_93 (by decide) (fun c93 => ?_) (fun c93 => ?_)
                · replace c93 : 2 ≤ 2 := (nI_leI (a := 2) (b := 2) (by omega) (by omega)).mp c93
                  refine lv_iload hx hb dX0_nearest_109 (lv_at hl 1 rfl) ?_
                  refine lv_if_ne (tgt := 118) hx hb dX0_nearest_111 (by decide) (fun c111 => ?_) (fun c111 => ?_)
                  · replace c111 : ¬ 0 = 0 := fun zq => c111 ((nI_eq (a := 0) (b := 0) (by omega) (by omega)).mpr zq)
                    exfalso; omega
                  · replace c111 : 0 = 0 := (nI_eq (a := 0) (b := 0) (by omega) (by omega)).mp c111
                    refine lv_iconst (v := nI 1) hx hb dX0_nearest_114 (by decide) ?_
                    refine lv_goto (tgt := 119) hx hb dX0_nearest_115 (by decide) ?_
                    refine lv_istore (lv' := [(8, .int (nI 1)), (7, .int (nI 1)), (6, .int (nI 0)), (5, .ref a1), (4, va_rf b), (1, .long k0), (3, .int (nI 2))]) hx hb dX0_nearest_119 hl (by decide) rfl (fun ls hl => ?_)
                    refine lv_iload hx hb dX0_nearest_121 (lv_at hl 0 rfl) ?_
                    refine lv_if_eq (tgt := 130) hx hb dX0_nearest_123 (by decide) (fun c123 => ?_) (fun c123 => ?_)
                    · replace c123 : 1 = 0 := (nI_eq (a := 1) (b := 0) (by omega) (by omega)).mp c123
                      exfalso; omega
                    · replace c123 : ¬ 1 = 0 := fun zq => c123 ((nI_eq (a := 1) (b := 0) (by omega) (by omega)).mpr zq)
                      refine lv_aload hx hb dX0_nearest_126 (lv_at hl 3 rfl) ?_
                      refine lv_astore (lv' := [(4, .ref a1), (8, .int (nI 1)), (7, .int (nI 1)), (6, .int (nI 0)), (5, .ref a1), (1, .long k0), (3, .int (nI 2))]) hx hb dX0_nearest_128 hl (by decide) rfl (fun ls hl => ?_)
                      refine lv_iload hx hb dX0_nearest_130 (lv_at hl 1 rfl) ?_
                      refine lv_iload_n hx hb dX0_nearest_132 rfl (lv_at hl 6 rfl) ?_
                      refine lv_iconst (v := nI 2) hx hb dX0_nearest_133 (by decide) ?_
                      refine lv_icmp_ge (tgt := 141) hx hb dX0_nearest_134 (by decide) (fun c134 => ?_) (fun c134 => ?_)
                      · replace c134 : 2 ≤ 2 := (nI_leI (a := 2) (b := 2) (by omega) (by omega)).mp c134
                        refine lv_iconst (v := nI 0) hx hb dX0_nearest_141 (by decide) ?_
                        refine lv_icmp_ne (tgt := 153) hx hb dX0_nearest_142 (by decide) (fun c142 => ?_) (fun c142 => ?_)
                        · replace c142 : ¬ 1 = 0 := fun zq => c142 ((nI_eq (a := 1) (b := 0) (by omega) (by omega)).mpr zq)
                          refine lv_aload hx hb dX0_nearest_153 (lv_at hl 4 rfl) ?_
                          refine q_get C hP f1 rfl inX0 0 (by decide) g491 rfl dX0_nearest_155 ?_
                          refine q_astore (lv' := [(5, va_rf l1), (4, .ref a1), (8, .int (nI 1)), (7, .int (nI 1)), (6, .int (nI 0)), (1, .long k0), (3, .int (nI 2))]) hx hb dX0_nearest_158 hl (by decide) rfl (fun ls hl => ?_)
                          refine lv_goto (tgt := 6) hx hb dX0_nearest_160 (by decide) ?_
                          exact ihl H locs ls l1 (some a1) (some (k1, v1)) A1 i1 (by omega) hl1 (by omega) hS1.node.1 (Or.inr ⟨a1, k1, v1, _, _, _, _, rfl, rfl, f1⟩) (lv_sub hl [0, 1, 5, 6] rfl) (by rw [kk, qBest_dn (by decide) (by unfold qFit; simp; omega)]; cases qBest k0 2 A1 <;> rfl) hP hS
                        · replace c142 : 1 = 0 := (nI_eq (a := 1) (b := 0) (by omega) (by omega)).mp c142
                          exfalso; omega
                      · replace c134 : ¬ 2 ≤ 2 := fun zq => c134 ((nI_leI (a := 2) (b := 2) (by omega) (by omega)).mpr zq)
                        exfalso; omega
                · replace c93 : ¬ 2 ≤ 2 := fun zq => c93 ((nI_leI (a := 2) (b := 2) (by omega) (by omega)).mpr zq)
                  exfalso; omega
            · replace c53 : 2 = 1 := (nI_eq (a := 2) (b := 1) (by omega) (by omega)).mp c53
              exfalso; omega
          · replace c23 : ¬ k0.toInt ≤ k1.toInt := fun zq => c23 ((lg_cmp_ge _ _).mpr (Int64.le_iff_toInt_le.mpr zq))
            refine lv_iconst (v := nI 1) hx hb dX0_nearest_26 (by decide) ?_
            refine lv_goto (tgt := 49) hx hb dX0_nearest_27 (by decide) ?_
            refine lv_istore (lv' := [(6, .int (nI 1)), (5, .ref a1), (4, va_rf b), (1, .long k0), (3, .int (nI 2))]) hx hb dX0_nearest_49 hl (by decide) rfl (fun ls hl => ?_)
            refine lv_iload_n hx hb dX0_nearest_51 rfl (lv_at hl 4 rfl) ?_
            refine lv_iconst (v := nI 1) hx hb dX0_nearest_52 (by decide) ?_
            refine lv_icmp_ne (tgt := 74) hx hb dX0_nearest_53 (by decide) (fun c53 => ?_) (fun c53 => ?_)
            · replace c53 : ¬ 2 = 1 := fun zq => c53 ((nI_eq (a := 2) (b := 1) (by omega) (by omega)).mpr zq)
              refine lv_aload hx hb dX0_nearest_74 (lv_at hl 1 rfl) ?_
              refine q_get C hP f1 rfl inX0 1 (by decide) g492 rfl dX0_nearest_76 ?_
              refine lv_lload_n hx hb dX0_nearest_79 rfl (lv_at hl 3 rfl) ?_
              refine W.lcmp hx hb dX0_nearest_80 ?_
              refine lv_if_lt (tgt := 88) hx hb dX0_nearest_81 (by decide) (fun c81 => ?_) (fun c81 => ?_)
              · replace c81 : k1.toInt < k0.toInt := Int64.lt_iff_toInt_lt.mp ((lg_cmp_lt _ _).mp c81)
                refine lv_iconst (v := nI 0) hx hb dX0_nearest_88 (by decide) ?_
                refine lv_istore (lv' := [(7, .int (nI 0)), (6, .int (nI 1)), (5, .ref a1), (4, va_rf b), (1, .long k0), (3, .int (nI 2))]) hx hb dX0_nearest_89 hl (by decide) rfl (fun ls hl => ?_)
                refine lv_iload_n hx hb dX0_nearest_91 rfl (lv_at hl 5 rfl) ?_
                refine lv_iconst (v := nI 2) hx hb dX0_nearest_92 (by decide) ?_
                refine lv_icmp_ge (tgt := 109) hx hb dX0_nearest_93 (by decide) (fun c93 => ?_) (fun c93 => ?_)
                · replace c93 : 2 ≤ 2 := (nI_leI (a := 2) (b := 2) (by omega) (by omega)).mp c93
                  refine lv_iload hx hb dX0_nearest_109 (lv_at hl 1 rfl) ?_
                  refine lv_if_ne (tgt := 118) hx hb dX0_nearest_111 (by decide) (fun c111 => ?_) (fun c111 => ?_)
                  · replace c111 : ¬ 1 = 0 := fun zq => c111 ((nI_eq (a := 1) (b := 0) (by omega) (by omega)).mpr zq)
                    refine lv_iconst (v := nI 0) hx hb dX0_nearest_118 (by decide) ?_
                    refine lv_istore (lv' := [(8, .int (nI 0)), (7, .int (nI 0)), (6, .int (nI 1)), (5, .ref a1), (4, va_rf b), (1, .long k0), (3, .int (nI 2))]) hx hb dX0_nearest_119 hl (by decide) rfl (fun ls hl => ?_)
                    refine lv_iload hx hb dX0_nearest_121 (lv_at hl 0 rfl) ?_
                    refine lv_if_eq (tgt := 130) hx hb dX0_nearest_123 (by decide) (fun c123 => ?_) (fun c123 => ?_)
                    · replace c123 : 0 = 0 := (nI_eq (a := 0) (b := 0) (by omega) (by omega)).mp c123
                      refine lv_iload hx hb dX0_nearest_130 (lv_at hl 0 rfl) ?_
                      refine lv_iload_n hx hb dX0_nearest_132 rfl (lv_at hl 6 rfl) ?_
                      refine lv_iconst (v := nI 2) hx hb dX0_nearest_133 (by decide) ?_
                      refine lv_icmp_ge (tgt := 141) hx hb dX0_nearest_134 (by decide) (fun c134 => ?_) (fun c134 => ?_)
                      · replace c134 : 2 ≤ 2 := (nI_leI (a := 2) (b := 2) (by omega) (by omega)).mp c134
                        refine lv_iconst (v := nI 0) hx hb dX0_nearest_141 (by decide) ?_
                        refine lv_icmp_ne (tgt := 153) hx hb dX0_nearest_142 (by decide) (fun c142 => ?_) (fun c142 => ?_)
                        · replace c142 : ¬ 0 = 0 := fun zq => c142 ((nI_eq (a := 0) (b := 0) (by omega) (by omega)).mpr zq)
                          exfalso; omega
                        · replace c142 : 0 = 0 := (nI_eq (a := 0) (b := 0) (by omega) (by omega)).mp c142
                          refine lv_aload hx hb dX0_nearest_145 (lv_at hl 3 rfl) ?_
                          refine q_get C hP f1 rfl inX0 3 (by decide) g497 rfl dX0_nearest_147 ?_
                          refine lv_goto (tgt := 158) hx hb dX0_nearest_150 (by decide) ?_
                          refine q_astore (lv' := [(5, va_rf r1), (8, .int (nI 0)), (7, .int (nI 0)), (6, .int (nI 1)), (4, va_rf b), (1, .long k0), (3, .int (nI 2))]) hx hb dX0_nearest_158 hl (by decide) (by cases b <;> rfl) (fun ls hl => ?_)
                          refine lv_goto (tgt := 6) hx hb dX0_nearest_160 (by decide) ?_
                          exact ihl H locs ls r1 b kb B1 j1 (by omega) hr1 (by omega) hS1.node.2.1 hbk (lv_sub hl [0, 4, 5, 6] rfl) (by rw [kk, qBest_dn0 (by decide) (by decide) hS1 (by unfold qFit; simp; omega)]) hP hS
                      · replace c134 : ¬ 2 ≤ 2 := fun zq => c134 ((nI_leI (a := 2) (b := 2) (by omega) (by omega)).mpr zq)
                        exfalso; omega
                    · replace c123 : ¬ 0 = 0 := fun zq => c123 ((nI_eq (a := 0) (b := 0) (by omega) (by omega)).mpr zq)
                      exfalso; omega
                  · replace c111 : 1 = 0 := (nI_eq (a := 1) (b := 0) (by omega) (by omega)).mp c111
                    exfalso; omega
                · replace c93 : ¬ 2 ≤ 2 := fun zq => c93 ((nI_leI (a := 2) (b := 2) (by omega) (by omega)).mpr zq)
                  exfalso; omega
              · replace c81 : ¬ k1.toInt < k0.toInt := fun zq => c81 ((lg_cmp_lt _ _).mpr (Int64.lt_iff_toInt_lt.mpr zq))
                refine lv_iconst (v := nI 1) hx hb dX0_nearest_84 (by decide) ?_
                refine lv_goto (tgt := 89) hx hb dX0_nearest_85 (by decide) ?_
                refine lv_istore (lv' := [(7, .int (nI 1)), (6, .int (nI 1)), (5, .ref a1), (4, va_rf b), (1, .long k0), (3, .int (nI 2))]) hx hb dX0_nearest_89 hl (by decide) rfl (fun ls hl => ?_)
                refine lv_iload_n hx hb dX0_nearest_91 rfl (lv_at hl 5 rfl) ?_
                refine lv_iconst (v := nI 2) hx hb dX0_nearest_92 (by decide) ?_
                refine lv_icmp_ge (tgt := 109) hx hb dX0_nearest_93 (by decide) (fun c93 => ?_) (fun c93 => ?_)
                · replace c93 : 2 ≤ 2 := (nI_leI (a := 2) (b := 2) (by omega) (by omega)).mp c93
                  refine lv_iload hx hb dX0_nearest_109 (lv_at hl 1 rfl) ?_
                  refine lv_if_ne (tgt := 118) hx hb dX0_nearest_111 (by decide) (fun c111 => ?_) (fun c111 => ?_)
                  · replace c111 : ¬ 1 = 0 := fun zq => c111 ((nI_eq (a := 1) (b := 0) (by omega) (by omega)).mpr zq)
                    refine lv_iconst (v := nI 0) hx hb dX0_nearest_118 (by decide) ?_
                    refine lv_istore (lv' := [(8, .int (nI 0)), (7, .int (nI 1)), (6, .int (nI 1)), (5, .ref a1), (4, va_rf b), (1, .long k0), (3, .int (nI 2))]) hx hb dX0_nearest_119 hl (by decide) rfl (fun ls hl => ?_)
                    refine lv_iload hx hb dX0_nearest_121 (lv_at hl 0 rfl) ?_
                    refine lv_if_eq (tgt := 130) hx hb dX0_nearest_123 (by decide) (fun c123 => ?_) (fun c123 => ?_)
                    · replace c123 : 0 = 0 := (nI_eq (a := 0) (b := 0) (by omega) (by omega)).mp c123
                      refine lv_iload hx hb dX0_nearest_130 (lv_at hl 0 rfl) ?_
                      refine lv_iload_n hx hb dX0_nearest_132 rfl (lv_at hl 6 rfl) ?_
                      refine lv_iconst (v := nI 2) hx hb dX0_nearest_133 (by decide) ?_
                      refine lv_icmp_ge (tgt := 141) hx hb dX0_nearest_134 (by decide) (fun c134 => ?_) (fun c134 => ?_)
                      · replace c134 : 2 ≤ 2 := (nI_leI (a := 2) (b := 2) (by omega) (by omega)).mp c134
                        refine lv_iconst (v := nI 0) hx hb dX0_nearest_141 (by decide) ?_
                        refine lv_icmp_ne (tgt := 153) hx hb dX0_nearest_142 (by decide) (fun c142 => ?_) (fun c142 => ?_)
                        · replace c142 : ¬ 0 = 0 := fun zq => c142 ((nI_eq (a := 0) (b := 0) (by omega) (by omega)).mpr zq)
                          exfalso; omega
                        · replace c142 : 0 = 0 := (nI_eq (a := 0) (b := 0) (by omega) (by omega)).mp c142
                          refine lv_aload hx hb dX0_nearest_145 (lv_at hl 3 rfl) ?_
                          refine q_get C hP f1 rfl inX0 3 (by decide) g497 rfl dX0_nearest_147 ?_
                          refine lv_goto (tgt := 158) hx hb dX0_nearest_150 (by decide) ?_
                          refine q_astore (lv' := [(5, va_rf r1), (8, .int (nI 0)), (7, .int (nI 1)), (6, .int (nI 1)), (4, va_rf b), (1, .long k0), (3, .int (nI 2))]) hx hb dX0_nearest_158 hl (by decide) (by cases b <;> rfl) (fun ls hl => ?_)
                          refine lv_goto (tgt := 6) hx hb dX0_nearest_160 (by decide) ?_
                          exact ihl H locs ls r1 b kb B1 j1 (by omega) hr1 (by omega) hS1.node.2.1 hbk (lv_sub hl [0, 4, 5, 6] rfl) (by rw [kk, qBest_dn0 (by decide) (by decide) hS1 (by unfold qFit; simp; omega)]) hP hS
                      · replace c134 : ¬ 2 ≤ 2 := fun zq => c134 ((nI_leI (a := 2) (b := 2) (by omega) (by omega)).mpr zq)
                        exfalso; omega
                    · replace c123 : ¬ 0 = 0 := fun zq => c123 ((nI_eq (a := 0) (b := 0) (by omega) (by omega)).mpr zq)
                      exfalso; omega
                  · replace c111 : 1 = 0 := (nI_eq (a := 1) (b := 0) (by omega) (by omega)).mp c111
                    exfalso; omega
                · replace c93 : ¬ 2 ≤ 2 := fun zq => c93 ((nI_leI (a := 2) (b := 2) (by omega) (by omega)).mpr zq)
                  exfalso; omega
            · replace c53 : 2 = 1 := (nI_eq (a := 2) (b := 1) (by omega) (by omega)).mp c53
              exfalso; omega
  · refine lv_null hx hb dX0_nearest_0 ?_
    refine lv_astoreN (lv' := [(4, .null), (0, va_rf x), (1, .long k0), (3, .int (nI 3))]) hx hb dX0_nearest_1 hl (by decide) rfl (fun ls hl => ?_)
    refine q_aload_n hx hb dX0_nearest_3 rfl (lv_at hl 1 rfl) ?_
    refine q_astore (lv' := [(5, va_rf x), (4, .null), (0, va_rf x), (1, .long k0), (3, .int (nI 3))]) hx hb dX0_nearest_4 hl (by decide) rfl (fun ls hl => ?_)
    refine (?_ : ∀ (t : Nat) (H : Heap) (locs : List Loc) (ls : Array Slot) (r b : Option Nat) (kb : Option (Int64 × Int64)) (L1 : qKV) (n1 : Nat), n1 < t → qBr h n1 r L1 → L1.length < 1000000 → qSo L1 → qNd h b kb → lv_has ls 9 [(5, va_rf r), (4, va_rf b), (1, .long k0), (3, .int (nI 3))] → qBest k0 3 A = (qBest k0 3 L1).or kb → qP D N0 h H → va_S (qA N0) s.heap H locs → W p l e _ s m _ below meth c H locs 0 0 _ (F0 m 6 ls [])) _ s.heap [] ls x none none A n (Nat.lt_succ_self _) hA hL hS0 (Or.inl ⟨rfl, rfl⟩) (lv_sub hl [0, 1, 3, 4] rfl) (by cases qBest k0 3 A <;> rfl) hP hS
    clear hl hP hS
    intro t
    induction t with
    | zero => intro H locs ls r b kb L1 n1 ht; exact absurd ht (Nat.not_lt_zero _)
    | succ t ihl =>
      intro H locs ls r b kb L1 n1 ht hb1 hL1 hS1 hbk hl kk hP hS
      rcases hb1.inv with ⟨rfl, rfl, rfl⟩ | ⟨a1, l1, k1, v1, r1, i1, j1, A1, B1, rfl, f1, hl1, hr1, rfl, hg11, hg12, hg13, hg14, hg15, hg16⟩
      · refine lv_aloadN hx hb dX0_nearest_6 (lv_at hl 0 rfl) ?_
        refine lv_ifnullN (tgt := 163) hx hb dX0_nearest_8 (by decide) ?_
        refine q_aload hx hb dX0_nearest_163 (lv_at hl 1 rfl) ?_
        exact q_aret (v := b) C (Or.inl ⟨_, rfl⟩) hP hS ⟨b, rfl, rfl, by rw [kk, qBest_nil]; exact hbk⟩ (by omega) dX0_nearest_165
      · have zl1 := hl1.len
        have zr1 := hr1.len
        have eL1 : (A1 ++ (k1, v1) :: B1).length = A1.length + (B1.length + 1) := by rw [List.length_append, List.length_cons]
        simp only [List.length_append, List.length_cons, List.length_nil] at hL1
        refine lv_aload hx hb dX0_nearest_6 (lv_at hl 0 rfl) ?_
        refine lv_ifnull hx hb dX0_nearest_8 ?_
        refine lv_iload_n hx hb dX0_nearest_11 rfl (lv_at hl 3 rfl) ?_
        refine lv_iconst (v := nI 2) hx hb dX0_nearest_12 (by decide) ?_
        refine lv_icmp_ne (tgt := 34) hx hb dX0_nearest_13 (by decide) (fun c13 => ?_) (fun c13 => ?_)
        · replace c13 : ¬ 3 = 2 := fun zq => c13 ((nI_eq (a := 3) (b := 2) (by omega) (by omega)).mpr zq)
          refine lv_aload hx hb dX0_nearest_34 (lv_at hl 0 rfl) ?_
          refine q_get C hP f1 rfl inX0 1 (by decide) g492 rfl dX0_nearest_36 ?_
          refine lv_lload_n hx hb dX0_nearest_39 rfl (lv_at hl 2 rfl) ?_
          refine W.lcmp hx hb dX0_nearest_40 ?_
          refine lv_if_gt (tgt := 48) hx hb dX0_nearest_41 (by decide) (fun c41 => ?_) (fun c41 => ?_)
          · replace c41 : k0.toInt < k1.toInt := Int64.lt_iff_toInt_lt.mp ((lg_cmp_gt _ _).mp c41)
            refine lv_iconst (v := nI 0) hx hb dX0_nearest_48 (by decide) ?_
            refine lv_istore (lv' := [(6, .int (nI 0)), (5, .ref a1), (4, va_rf b), (1, .long k0), (3, .int (nI 3))]) hx hb dX0_nearest_49 hl (by decide) rfl (fun ls hl => ?_)
            refine lv_iload_n hx hb dX0_nearest_51 rfl (lv_at hl 4 rfl) ?_
            refine lv_iconst (v := nI 1) hx hb dX0_nearest_52 (by decide) ?_
            refine lv_icmp_ne (tgt := 74) hx hb dX0_nearest_53 (by decide) (fun c53 => ?_) (fun c53 => ?_)
            · replace c53 : ¬ 3 = 1 := fun zq => c53 ((nI_eq (a := 3) (b := 1) (by omega) (by omega)).mpr zq)
              refine lv_aload hx hb dX0_nearest_74 (lv_at hl 1 rfl) ?_
              refine q_get C hP f1 rfl inX0 1 (by decide) g492 rfl dX0_nearest_76 ?_
              refine lv_lload_n hx hb dX0_nearest_79 rfl (lv_at hl 3 rfl) ?_
              refine W.lcmp hx hb dX0_nearest_80 ?_
              refine lv_if_lt (tgt := 88) hx hb dX0_nearest_81 (by decide) (fun c81 => ?_) (fun c81 => ?_)
              · replace c81 : k1.toInt < k0.toInt := Int64.lt_iff_toInt_lt.mp ((lg_cmp_lt _ _).mp c81)
                refine lv_iconst (v := nI 0) hx hb dX0_nearest_88 (by decide) ?_
                refine lv_istore (lv' := [(7, .int (nI 0)), (6, .int (nI 0)), (5, .ref a1), (4, va_rf b), (1, .long k0), (3, .int (nI 3))]) hx hb dX0_nearest_89 hl (by decide) rfl (fun ls hl => ?_)
                refine lv_iload_n hx hb dX0_nearest_91 rfl (lv_at hl 5 rfl) ?_
                refine lv_iconst (v := nI 2) hx hb dX0_nearest_92 (by decide) ?_
                refine lv_icmp_ge (tgt := 109) hx hb dX0_nearest_93 (by decide) (fun c93 => ?_) (fun c93 => ?_)
                · replace c93 : 2 ≤ 3 := (nI_leI (a := 2) (b := 3) (by omega) (by omega)).mp c93
                  refine lv_iload hx hb dX0_nearest_109 (lv_at hl 1 rfl) ?_
                  refine lv_if_ne (tgt := 118) hx hb dX0_nearest_111 (by decide) (fun c111 => ?_) (fun c111 => ?_)
                  · replace c111 : ¬ 0 = 0 := fun zq => c111 ((nI_eq (a := 0) (b := 0) (by omega) (by omega)).mpr zq)
                    exfalso; omega
                  · replace c111 : 0 = 0 := (nI_eq (a := 0) (b := 0) (by omega) (by omega)).mp c111
                    refine lv_iconst (v := nI 1) hx hb dX0_nearest_114 (by decide) ?_
                    refine lv_goto (tgt := 119) hx hb dX0_nearest_115 (by decide) ?_
                    refine lv_istore (lv' := [(8, .int (nI 1)), (7, .int (nI 0)), (6, .int (nI 0)), (5, .ref a1), (4, va_rf b), (1, .long k0), (3, .int (nI 3))]) hx hb dX0_nearest_119 hl (by decide) rfl (fun ls hl => ?_)
                    refine lv_iload hx hb dX0_nearest_121 (lv_at hl 0 rfl) ?_
                    refine lv_if_eq (tgt := 130) hx hb dX0_nearest_123 (by decide) (fun c123 => ?_) (fun c123 => ?_)
                    · replace c123 : 1 = 0 := (nI_eq (a := 1) (b := 0) (by omega) (by omega)).mp c123
                      exfalso; omega
                    · replace c123 : ¬ 1 = 0 := fun zq => c123 ((nI_eq (a := 1) (b := 0) (by omega) (by omega)).mpr zq)
                      refine lv_aload hx hb dX0_nearest_126 (lv_at hl 3 rfl) ?_
                      refine lv_astore (lv' := [(4, .ref a1), (8, .int (nI 1)), (7, .int (nI 0)), (6, .int (nI 0)), (5, .ref a1), (1, .long k0), (3, .int (nI 3))]) hx hb dX0_nearest_128 hl (by decide) rfl (fun ls hl => ?_)
                      refine lv_iload hx hb dX0_nearest_130 (lv_at hl 1 rfl) ?_
                      refine lv_iload_n hx hb dX0_nearest_132 rfl (lv_at hl 6 rfl) ?_
                      refine lv_iconst (v := nI 2) hx hb dX0_nearest_133 (by decide) ?_
                      refine lv_icmp_ge (tgt := 141) hx hb dX0_nearest_134 (by decide) (fun c134 => ?_) (fun c134 => ?_)
                      · replace c134 : 2 ≤ 3 := (nI_leI (a := 2) (b := 3) (by omega) (by omega)).mp c134
                        refine lv_iconst (v := nI 0) hx hb dX0_nearest_141 (by decide) ?_
                        refine lv_icmp_ne (tgt := 153) hx hb dX0_nearest_142 (by decide) (fun c142 => ?_) (fun c142 => ?_)
                        · replace c142 : ¬ 1 = 0 := fun zq => c142 ((nI_eq (a := 1) (b := 0) (by omega) (by omega)).mpr zq)
                          refine lv_aload hx hb dX0_nearest_153 (lv_at hl 4 rfl) ?_
                          refine q_get C hP f1 rfl inX0 0 (by decide) g491 rfl dX0_nearest_155 ?_
                          refine q_astore (lv' := [(5, va_rf l1), (4, .ref a1), (8, .int (nI 1)), (7, .int (nI 0)), (6, .int (nI 0)), (1, .long k0), (3, .int (nI 3))]) hx hb dX0_nearest_158 hl (by decide) rfl (fun ls hl => ?_)
                          refine lv_goto (tgt := 6) hx hb dX0_nearest_160 (by decide) ?_
                          exact ihl H locs ls l1 (some a1) (some (k1, v1)) A1 i1 (by omega) hl1 (by omega) hS1.node.1 (Or.inr ⟨a1, k1, v1, _, _, _, _, rfl, rfl, f1⟩) (lv_sub hl [0, 1, 5, 6] rfl) (by rw [kk, qBest_dn (by decide) (by unfold qFit; simp; omega)]; cases qBest k0 3 A1 <;> rfl) hP hS
                        · replace c142 : 1 = 0 := (nI_eq (a := 1) (b := 0) (by omega) (by omega)).mp c142
                          exfalso; omega
                      · replace c134 : ¬ 2 ≤ 3 := fun zq => c134 ((nI_leI (a := 2) (b := 3) (by omega) (by omega)).mpr zq)
                        exfalso; omega
                · replace c93 : ¬ 2 ≤ 3 := fun zq => c93 ((nI_leI (a := 2) (b := 3) (by omega) (by omega)).mpr zq)
                  exfalso; omega
              · replace c81 : ¬ k1.toInt < k0.toInt := fun zq => c81 ((lg_cmp_lt _ _).mpr (Int64.lt_iff_toInt_lt.mpr zq))
                refine lv_iconst (v := nI 1) hx hb dX0_nearest_84 (by decide) ?_
                refine lv_goto (tgt := 89) hx hb dX0_nearest_85 (by decide) ?_
                refine lv_istore (lv' := [(7, .int (nI 1)), (6, .int (nI 0)), (5, .ref a1), (4, va_rf b), (1, .long k0), (3, .int (nI 3))]) hx hb dX0_nearest_89 hl (by decide) rfl (fun ls hl => ?_)
                refine lv_iload_n hx hb dX0_nearest_91 rfl (lv_at hl 5 rfl) ?_
                refine lv_iconst (v := nI 2) hx hb dX0_nearest_92 (by decide) ?_
                refine lv_icmp_ge (tgt := 109) hx hb dX0_nearest_93 (by decide) (fun c93 => ?_) (fun c93 => ?_)
                · replace c93 : 2 ≤ 3 := (nI_leI (a := 2) (b := 3) (by omega) (by omega)).mp c93
                  refine lv_iload hx hb dX0_nearest_109 (lv_at hl 1 rfl) ?_
                  refine lv_if_ne (tgt := 118) hx hb dX0_nearest_111 (by decide) (fun c111 => ?_) (fun c111 => ?_)
                  · replace c111 : ¬ 0 = 0 := fun zq => c111 ((nI_eq (a := 0) (b := 0) (by omega) (by omega)).mpr zq)
                    exfalso; omega
                  · replace c111 : 0 = 0 := (nI_eq (a := 0) (b := 0) (by omega) (by omega)).mp c111
                    refine lv_iconst (v := nI 1) hx hb dX0_nearest_114 (by decide) ?_
                    refine lv_goto (tgt := 119) hx hb dX0_nearest_115 (by decide) ?_
                    refine lv_istore (lv' := [(8, .int (nI 1)), (7, .int (nI 1)), (6, .int (nI 0)), (5, .ref a1), (4, va_rf b), (1, .long k0), (3, .int (nI 3))]) hx hb dX0_nearest_119 hl (by decide) rfl (fun ls hl => ?_)
                    refine lv_iload hx hb dX0_nearest_121 (lv_at hl 0 rfl) ?_
                    refine lv_if_eq (tgt := 130) hx hb dX0_nearest_123 (by decide) (fun c123 => ?_) (fun c123 => ?_)
                    · replace c123 : 1 = 0 := (nI_eq (a := 1) (b := 0) (by omega) (by omega)).mp c123
                      exfalso; omega
                    · replace c123 : ¬ 1 = 0 := fun zq => c123 ((nI_eq (a := 1) (b := 0) (by omega) (by omega)).mpr zq)
                      refine lv_aload hx hb dX0_nearest_126 (lv_at hl 3 rfl) ?_
                      refine lv_astore (lv' := [(4, .ref a1), (8, .int (nI 1)), (7, .int (nI 1)), (6, .int (nI 0)), (5, .ref a1), (1, .long k0), (3, .int (nI 3))]) hx hb dX0_nearest_128 hl (by decide) rfl (fun ls hl => ?_)
                      refine lv_iload hx hb dX0_nearest_130 (lv_at hl 1 rfl) ?_
                      refine lv_iload_n hx hb dX0_nearest_132 rfl (lv_at hl 6 rfl) ?_
                      refine lv_iconst (v := nI 2) hx hb dX0_nearest_133 (by decide) ?_
                      refine lv_icmp_ge (tgt := 141) hx hb dX0_nearest_134 (by decide) (fun c134 => ?_) (fun c134 => ?_)
                      · replace c134 : 2 ≤ 3 := (nI_leI (a := 2) (b := 3) (by omega) (by omega)).mp c134
                        refine lv_iconst (v := nI 0) hx hb dX0_nearest_141 (by decide) ?_
                        refine lv_icmp_ne (tgt := 153) hx hb dX0_nearest_142 (by decide) (fun c142 => ?_) (fun c142 => ?_)
                        · replace c142 : ¬ 1 = 0 := fun zq => c142 ((nI_eq (a := 1) (b := 0) (by omega) (by omega)).mpr zq)
                          refine lv_aload hx hb dX0_nearest_153 (lv_at hl 4 rfl) ?_
                          refine q_get C hP f1 rfl inX0 0 (by decide) g491 rfl dX0_nearest_155 ?_
                          refine q_astore (lv' := [(5, va_rf l1), (4, .ref a1), (8, .int (nI 1)), (7, .int (nI 1)), (6, .int (nI 0)), (1, .long k0), (3, .int (nI 3))]) hx hb dX0_nearest_158 hl (by decide) rfl (fun ls hl => ?_)
                          refine lv_goto (tgt := 6) hx hb dX0_nearest_160 (by decide) ?_
                          exact ihl H locs ls l1 (some a1) (some (k1, v1)) A1 i1 (by omega) hl1 (by omega) hS1.node.1 (Or.inr ⟨a1, k1, v1, _, _, _, _, rfl, rfl, f1⟩) (lv_sub hl [0, 1, 5, 6] rfl) (by rw [kk, qBest_dn (by decide) (by unfold qFit; simp; omega)]; cases qBest k0 3 A1 <;> rfl) hP hS
                        · replace c142 : 1 = 0 := (nI_eq (a := 1) (b := 0) (by omega) (by omega)).mp c142
                          exfalso; omega
                      · replace c134 : ¬ 2 ≤ 3 := fun zq => c134 ((nI_leI (a := 2) (b := 3) (by omega) (by omega)).mpr zq)
                        exfalso; omega
                · replace c93 : ¬ 2 ≤ 3 := fun zq => c93 ((nI_leI (a := 2) (b := 3) (by omega) (by omega)).mpr zq)
                  exfalso; omega
            · replace c53 : 3 = 1 := (nI_eq (a := 3) (b := 1) (by omega) (by omega)).mp c53
              exfalso; omega
          · replace c41 : ¬ k0.toInt < k1.toInt := fun zq => c41 ((lg_cmp_gt _ _).mpr (Int64.lt_iff_toInt_lt.mpr zq))
            refine lv_iconst (v := nI 1) hx hb dX0_nearest_44 (by decide) ?_
            refine lv_goto (tgt := 49) hx hb dX0_nearest_45 (by decide) ?_
            refine lv_istore (lv' := [(6, .int (nI 1)), (5, .ref a1), (4, va_rf b), (1, .long k0), (3, .int (nI 3))]) hx hb dX0_nearest_49 hl (by decide) rfl (fun ls hl => ?_)
            refine lv_iload_n hx hb dX0_nearest_51 rfl (lv_at hl 4 rfl) ?_
            refine lv_iconst (v := nI 1) hx hb dX0_nearest_52 (by decide) ?_
            refine lv_icmp_ne (tgt := 74) hx hb dX0_nearest_53 (by decide) (fun c53 => ?_) (fun c53 => ?_)
            · replace c53 : ¬ 3 = 1 := fun zq => c53 ((nI_eq (a := 3) (b := 1) (by omega) (by omega)).mpr zq)
              refine lv_aload hx hb dX0_nearest_74 (lv_at hl 1 rfl) ?_
              refine q_get C hP f1 rfl inX0 1 (by decide) g492 rfl dX0_nearest_76 ?_
              refine lv_lload_n hx hb dX0_nearest_79 rfl (lv_at hl 3 rfl) ?_
              refine W.lcmp hx hb dX0_nearest_80 ?_
              refine lv_if_lt (tgt := 88) hx hb dX0_nearest_81 (by decide) (fun c81 => ?_) (fun c81 => ?_)
              · replace c81 : k1.toInt < k0.toInt := Int64.lt_iff_toInt_lt.mp ((lg_cmp_lt _ _).mp c81)
                refine lv_iconst (v := nI 0) hx hb dX0_nearest_88 (by decide) ?_
                refine lv_istore (lv' := [(7, .int (nI 0)), (6, .int (nI 1)), (5, .ref a1), (4, va_rf b), (1, .long k0), (3, .int (nI 3))]) hx hb dX0_nearest_89 hl (by decide) rfl (fun ls hl => ?_)
                refine lv_iload_n hx hb dX0_nearest_91 rfl (lv_at hl 5 rfl) ?_
                refine lv_iconst (v := nI 2) hx hb dX0_nearest_92 (by decide) ?_
                refine lv_icmp_ge (tgt := 109) hx hb dX0_nearest_93 (by decide) (fun c93 => ?_) (fun c93 => ?_)
                · replace c93 : 2 ≤ 3 := (nI_leI (a := 2) (b := 3) (by omega) (by omega)).mp c93
                  refine lv_iload hx hb dX0_nearest_109 (lv_at hl 1 rfl) ?_
                  refine lv_if_ne (tgt := 118) hx hb dX0_nearest_111 (by decide) (fun c111 => ?_) (fun c111 => ?_)
                  · replace c111 : ¬ 1 = 0 := fun zq => c111 ((nI_eq (a := 1) (b := 0) (by omega) (by omega)).mpr zq)
                    refine lv_iconst (v := nI 0) hx hb dX0_nearest_118 (by decide) ?_
                    refine lv_istore (lv' := [(8, .int (nI 0)), (7, .int (nI 0)), (6, .int (nI 1)), (5, .ref a1), (4, va_rf b), (1, .long k0), (3, .int (nI 3))]) hx hb dX0_nearest_119 hl (by decide) rfl (fun ls hl => ?_)
                    refine lv_iload hx hb dX0_nearest_121 (lv_at hl 0 rfl) ?_
                    refine lv_if_eq (tgt := 130) hx hb dX0_nearest_123 (by decide) (fun c123 => ?_) (fun c123 => ?_)
                    · replace c123 : 0 = 0 := (nI_eq (a := 0) (b := 0) (by omega) (by omega)).mp c123
                      refine lv_iload hx hb dX0_nearest_130 (lv_at hl 0 rfl) ?_
                      refine lv_iload_n hx hb dX0_nearest_132 rfl (lv_at hl 6 rfl) ?_
                      refine lv_iconst (v := nI 2) hx hb dX0_nearest_133 (by decide) ?_
                      refine lv_icmp_ge (tgt := 141) hx hb dX0_nearest_134 (by decide) (fun c134 => ?_) (fun c134 => ?_)
                      · replace c134 : 2 ≤ 3 := (nI_leI (a := 2) (b := 3) (by omega) (by omega)).mp c134
                        refine lv_iconst (v := nI 0) hx hb dX0_nearest_141 (by decide) ?_
                        refine lv_icmp_ne (tgt := 153) hx hb dX0_nearest_142 (by decide) (fun c142 => ?_) (fun c142 => ?_)
                        · replace c142 : ¬ 0 = 0 := fun zq => c142 ((nI_eq (a := 0) (b := 0) (by omega) (by omega)).mpr zq)
                          exfalso; omega
                        · replace c142 : 0 = 0 := (nI_eq (a := 0) (b := 0) (by omega) (by omega)).mp c142
                          refine lv_aload hx hb dX0_nearest_145 (lv_at hl 3 rfl) ?_
                          refine q_get C hP f1 rfl inX0 3 (by decide) g497 rfl dX0_nearest_147 ?_
                          refine lv_goto (tgt := 158) hx hb dX0_nearest_150 (by decide) ?_
                          refine q_astore (lv' := [(5, va_rf r1), (8, .int (nI 0)), (7, .int (nI 0)), (6, .int (nI 1)), (4, va_rf b), (1, .long k0), (3, .int (nI 3))]) hx hb dX0_nearest_158 hl (by decide) (by cases b <;> rfl) (fun ls hl => ?_)
                          refine lv_goto (tgt := 6) hx hb dX0_nearest_160 (by decide) ?_
                          exact ihl H locs ls r1 b kb B1 j1 (by omega) hr1 (by omega) hS1.node.2.1 hbk (lv_sub hl [0, 4, 5, 6] rfl) (by rw [kk, qBest_dn0 (by decide) (by decide) hS1 (by unfold qFit; simp; omega)]) hP hS
                      · replace c134 : ¬ 2 ≤ 3 := fun zq => c134 ((nI_leI (a := 2) (b := 3) (by omega) (by omega)).mpr zq)
                        exfalso; omega
                    · replace c123 : ¬ 0 = 0 := fun zq => c123 ((nI_eq (a := 0) (b := 0) (by omega) (by omega)).mpr zq)
                      exfalso; omega
                  · replace c111 : 1 = 0 := (nI_eq (a := 1) (b := 0) (by omega) (by omega)).mp c111
                    exfalso; omega
                · replace c93 : ¬ 2 ≤ 3 := fun zq => c93 ((nI_leI (a := 2) (b := 3) (by omega) (by omega)).mpr zq)
                  exfalso; omega
              · replace c81 : ¬ k1.toInt < k0.toInt := fun zq => c81 ((lg_cmp_lt _ _).mpr (Int64.lt_iff_toInt_lt.mpr zq))
                refine lv_iconst (v := nI 1) hx hb dX0_nearest_84 (by decide) ?_
                refine lv_goto (tgt := 89) hx hb dX0_nearest_85 (by decide) ?_
                refine lv_istore (lv' := [(7, .int (nI 1)), (6, .int (nI 1)), (5, .ref a1), (4, va_rf b), (1, .long k0), (3, .int (nI 3))]) hx hb dX0_nearest_89 hl (by decide) rfl (fun ls hl => ?_)
                refine lv_iload_n hx hb dX0_nearest_91 rfl (lv_at hl 5 rfl) ?_
                refine lv_iconst (v := nI 2) hx hb dX0_nearest_92 (by decide) ?_
                refine lv_icmp_ge (tgt := 109) hx hb dX0_nearest_93 (by decide) (fun c93 => ?_) (fun c93 => ?_)
                · replace c93 : 2 ≤ 3 := (nI_leI (a := 2) (b := 3) (by omega) (by omega)).mp c93
                  refine lv_iload hx hb dX0_nearest_109 (lv_at hl 1 rfl) ?_
                  refine lv_if_ne (tgt := 118) hx hb dX0_nearest_111 (by decide) (fun c111 => ?_) (fun c111 => ?_)
                  · replace c111 : ¬ 1 = 0 := fun zq => c111 ((nI_eq (a := 1) (b := 0) (by omega) (by omega)).mpr zq)
                    refine lv_iconst (v := nI 0) hx hb dX0_nearest_118 (by decide) ?_
                    refine lv_istore (lv' := [(8, .int (nI 0)), (7, .int (nI 1)), (6, .int (nI 1)), (5, .ref a1), (4, va_rf b), (1, .long k0), (3, .int (nI 3))]) hx hb dX0_nearest_119 hl (by decide) rfl (fun ls hl => ?_)
                    refine lv_iload hx hb dX0_nearest_121 (lv_at hl 0 rfl) ?_
                    refine lv_if_eq (tgt := 130) hx hb dX0_nearest_123 (by decide) (fun c123 => ?_) (fun c123 => ?_)
                    · replace c123 : 0 = 0 := (nI_eq (a := 0) (b := 0) (by omega) (by omega)).mp c123
                      refine lv_iload hx hb dX0_nearest_130 (lv_at hl 0 rfl) ?_
                      refine lv_iload_n hx hb dX0_nearest_132 rfl (lv_at hl 6 rfl) ?_
                      refine lv_iconst (v := nI 2) hx hb dX0_nearest_133 (by decide) ?_
                      refine lv_icmp_ge (tgt := 141) hx hb dX0_nearest_134 (by decide) (fun c134 => ?_) (fun c134 => ?_)
                      · replace c134 : 2 ≤ 3 := (nI_leI (a := 2) (b := 3) (by omega) (by omega)).mp c134
                        refine lv_iconst (v := nI 0) hx hb dX0_nearest_141 (by decide) ?_
                        refine lv_icmp_ne (tgt := 153) hx hb dX0_nearest_142 (by decide) (fun c142 => ?_) (fun c142 => ?_)
                        · replace c142 : ¬ 0 = 0 := fun zq => c142 ((nI_eq (a := 0) (b := 0) (by omega) (by omega)).mpr zq)
                          exfalso; omega
                        · replace c142 : 0 = 0 := (nI_eq (a := 0) (b := 0) (by omega) (by omega)).mp c142
                          refine lv_aload hx hb dX0_nearest_145 (lv_at hl 3 rfl) ?_
                          refine q_get C hP f1 rfl inX0 3 (by decide) g497 rfl dX0_nearest_147 ?_
                          refine lv_goto (tgt := 158) hx hb dX0_nearest_150 (by decide) ?_
                          refine q_astore (lv' := [(5, va_rf r1), (8, .int (nI 0)), (7, .int (nI 1)), (6, .int (nI 1)), (4, va_rf b), (1, .long k0), (3, .int (nI 3))]) hx hb dX0_nearest_158 hl (by decide) (by cases b <;> rfl) (fun ls hl => ?_)
                          refine lv_goto (tgt := 6) hx hb dX0_nearest_160 (by decide) ?_
                          exact ihl H locs ls r1 b kb B1 j1 (by omega) hr1 (by omega) hS1.node.2.1 hbk (lv_sub hl [0, 4, 5, 6] rfl) (by rw [kk, qBest_dn0 (by decide) (by decide) hS1 (by unfold qFit; simp; omega)]) hP hS
                      · replace c134 : ¬ 2 ≤ 3 := fun zq => c134 ((nI_leI (a := 2) (b := 3) (by omega) (by omega)).mpr zq)
                        exfalso; omega
                    · replace c123 : ¬ 0 = 0 := fun zq => c123 ((nI_eq (a := 0) (b := 0) (by omega) (by omega)).mpr zq)
                      exfalso; omega
                  · replace c111 : 1 = 0 := (nI_eq (a := 1) (b := 0) (by omega) (by omega)).mp c111
                    exfalso; omega
                · replace c93 : ¬ 2 ≤ 3 := fun zq => c93 ((nI_leI (a := 2) (b := 3) (by omega) (by omega)).mpr zq)
                  exfalso; omega
            · replace c53 : 3 = 1 := (nI_eq (a := 3) (b := 1) (by omega) (by omega)).mp c53
              exfalso; omega
        · replace c13 : 3 = 2 := (nI_eq (a := 3) (b := 2) (by omega) (by omega)).mp c13
          exfalso; omega

theorem qWi_any {h : qH} {W : qKV} {k : Int64} {a : Nat} (g : qWi h W k (some a)) : W.any (fun q => q.1 == k) = true := by
  rcases g with ⟨b, v, x, y, z, w, -, -, m⟩ | ⟨e, -⟩
  · exact List.any_eq_true.mpr ⟨_, m, by simp⟩
  · cases e
theorem qWi_nany {h : qH} {W : qKV} {k : Int64} (g : qWi h W k none) : ¬ W.any (fun q => q.1 == k) = true := by
  rcases g with ⟨b, v, x, y, z, w, e, -, -⟩ | ⟨-, m⟩
  · cases e
  · intro q
    obtain ⟨p, hp, e⟩ := List.any_eq_true.mp q
    exact m p hp (by simpa using e)
theorem dX0_commonKeys_0 : decode cX0_commonKeys 0 = .ok (.aload_n 0, 1) := by decide +kernel
theorem dX0_commonKeys_1 : decode cX0_commonKeys 1 = .ok (.ifnonnull 5, 3) := by decide +kernel
theorem dX0_commonKeys_4 : decode cX0_commonKeys 4 = .ok (.iconst 0, 1) := by decide +kernel
theorem dX0_commonKeys_5 : decode cX0_commonKeys 5 = .ok (.ireturn, 1) := by decide +kernel
theorem dX0_commonKeys_6 : decode cX0_commonKeys 6 = .ok (.aload_n 1, 1) := by decide +kernel
theorem dX0_commonKeys_7 : decode cX0_commonKeys 7 = .ok (.aload_n 0, 1) := by decide +kernel
theorem dX0_commonKeys_8 : decode cX0_commonKeys 8 = .ok (.getfield 13, 3) := by decide +kernel
theorem dX0_commonKeys_11 : decode cX0_commonKeys 11 = .ok (.invokestatic 79, 3) := by decide +kernel
theorem dX0_commonKeys_14 : decode cX0_commonKeys 14 = .ok (.ifnonnull 7, 3) := by decide +kernel
theorem dX0_commonKeys_17 : decode cX0_commonKeys 17 = .ok (.iconst 0, 1) := by decide +kernel
theorem dX0_commonKeys_18 : decode cX0_commonKeys 18 = .ok (.goto 4, 3) := by decide +kernel
theorem dX0_commonKeys_21 : decode cX0_commonKeys 21 = .ok (.iconst 1, 1) := by decide +kernel
theorem dX0_commonKeys_22 : decode cX0_commonKeys 22 = .ok (.istore_n 2, 1) := by decide +kernel
theorem dX0_commonKeys_23 : decode cX0_commonKeys 23 = .ok (.iload_n 2, 1) := by decide +kernel
theorem dX0_commonKeys_24 : decode cX0_commonKeys 24 = .ok (.aload_n 0, 1) := by decide +kernel
theorem dX0_commonKeys_25 : decode cX0_commonKeys 25 = .ok (.getfield 7, 3) := by decide +kernel
theorem dX0_commonKeys_28 : decode cX0_commonKeys 28 = .ok (.aload_n 1, 1) := by decide +kernel
theorem dX0_commonKeys_29 : decode cX0_commonKeys 29 = .ok (.invokestatic 94, 3) := by decide +kernel
theorem dX0_commonKeys_32 : decode cX0_commonKeys 32 = .ok (.iadd, 1) := by decide +kernel
theorem dX0_commonKeys_33 : decode cX0_commonKeys 33 = .ok (.aload_n 0, 1) := by decide +kernel
theorem dX0_commonKeys_34 : decode cX0_commonKeys 34 = .ok (.getfield 20, 3) := by decide +kernel
theorem dX0_commonKeys_37 : decode cX0_commonKeys 37 = .ok (.aload_n 1, 1) := by decide +kernel
theorem dX0_commonKeys_38 : decode cX0_commonKeys 38 = .ok (.invokestatic 94, 3) := by decide +kernel
theorem dX0_commonKeys_41 : decode cX0_commonKeys 41 = .ok (.iadd, 1) := by decide +kernel
theorem dX0_commonKeys_42 : decode cX0_commonKeys 42 = .ok (.ireturn, 1) := by decide +kernel
set_option maxRecDepth 100000 in
set_option maxHeartbeats 4000000 in
theorem c_X0_commonKeys (l : Launch) (D : va_G) (cy : Nat → ClassId) (N0 : Nat) (s : Nat) : ∀ (h : qH) (x : Option Nat) (y : Option Nat) (i j : Nat) (A B : qKV) (hA : qBr h i x A) (hB : qBr h j y B) (hL : A.length < 1000000) (hL2 : B.length < 1000000) (hT : qSo B) (hs : i < s), qC l D cy N0 yX0_commonKeys cX0_commonKeys 3 (some .int) (2 + i) (43 + 22 * i) 0 0 [va_rf x, va_rf y] h (fun v h' => v = some (.int (nI (qCom A B))) ∧ h = h') (fun E h' => False) := by
  induction s with
  | zero => intro h x y i j A B hA hB hL hL2 hT hs; exact absurd hs (Nat.not_lt_zero _)
  | succ s ih =>
    intro h x y i j A B hA hB hL hL2 hT hs
    refine q_ofW (by decide) (by simp [lg_sl, q_catrf, q_cati, q_catl, q_cata, q_catn]) ?_
    intro p e s m below meth c ls C hP hl
    have hx := C.1
    have hb := C.2.1
    have hS : va_S (qA N0) s.heap s.heap [] := va_S.rf
    have hl : lv_has ls 3 [(0, va_rf x), (1, va_rf y)] := by simpa [lv_args, q_catrf, q_cati, q_catl, q_cata, q_catn] using hl
    have hle : qle h h := qle_rf
    rcases hA.inv with ⟨rfl, rfl, rfl⟩ | ⟨a1, l1, k1, v1, r1, i1, j1, A1, B1, rfl, f1, hl1, hr1, rfl, hg11, hg12, hg13, hg14, hg15, hg16⟩
    · refine lv_aload_nN hx hb dX0_commonKeys_0 rfl (lv_at hl 0 rfl) ?_
      refine lv_ifnonnullN hx hb dX0_commonKeys_1 ?_
      refine lv_iconst (v := nI 0) hx hb dX0_commonKeys_4 (by decide) ?_
      exact q_iret C hP hS ⟨rfl, rfl⟩ (by omega) dX0_commonKeys_5
    · have zl1 := hl1.len
      have zr1 := hr1.len
      have eL1 : (A1 ++ (k1, v1) :: B1).length = A1.length + (B1.length + 1) := by rw [List.length_append, List.length_cons]
      simp only [List.length_append, List.length_cons, List.length_nil] at hL
      refine lv_aload_n hx hb dX0_commonKeys_0 rfl (lv_at hl 0 rfl) ?_
      refine lv_ifnonnull (tgt := 6) hx hb dX0_commonKeys_1 (by decide) ?_
      refine q_aload_n hx hb dX0_commonKeys_6 rfl (lv_at hl 1 rfl) ?_
      refine lv_aload_n hx hb dX0_commonKeys_7 rfl (lv_at hl 0 rfl) ?_
      refine q_get C hP f1 rfl inX0 1 (by decide) g492 rfl dX0_commonKeys_8 ?_
      refine q_callS (rest := []) C (c_X0_branchWith l D cy N0 h y j B k1 hB (by first | omega | (simp only [List.length_append, List.length_cons, List.length_nil]; omega)) hT) kX0_branchWith g786 g757 hP hS (by first | decide | omega) hl.1 rfl (by decide) (by first | decide | omega) dX0_commonKeys_11 (fun q ce E h' H1 locs1 hE => hE.elim) (fun v hh1 H locs hq hP hS => ?_)
      obtain ⟨r92, rfl, rfl, hg92⟩ := hq
      cases r92 with
      | none =>
        refine lv_ifnonnullN hx hb dX0_commonKeys_14 ?_
        refine lv_iconst (v := nI 0) hx hb dX0_commonKeys_17 (by decide) ?_
        refine lv_goto (tgt := 22) hx hb dX0_commonKeys_18 (by decide) ?_
        refine lv_istore_n (lv' := [(2, .int (nI 0)), (0, .ref a1), (1, va_rf y)]) hx hb dX0_commonKeys_22 rfl hl (by decide) (by cases y <;> rfl) (fun ls hl => ?_)
        refine lv_iload_n hx hb dX0_commonKeys_23 rfl (lv_at hl 0 rfl) ?_
        refine lv_aload_n hx hb dX0_commonKeys_24 rfl (lv_at hl 1 rfl) ?_
        refine q_get C hP f1 rfl inX0 0 (by decide) g491 rfl dX0_commonKeys_25 ?_
        refine q_aload_n hx hb dX0_commonKeys_28 rfl (lv_at hl 2 rfl) ?_
        refine q_callS (rest := [.int (nI 0)]) C (ih h l1 y i1 j A1 B hl1 hB (by omega) hL2 hT (by omega)) kX0_commonKeys g855 g853 hP hS (by first | decide | omega) hl.1 rfl (by simp [q_catrf, q_cati, q_catl, q_cata, q_catn]) (by first | decide | omega) dX0_commonKeys_29 (fun q ce E h' H1 locs1 hE => hE.elim) (fun v hh2 H locs hq hP hS => ?_)
        obtain ⟨rfl, rfl⟩ := hq
        refine q_iaddN hx hb dX0_commonKeys_32 ?_
        refine lv_aload_n hx hb dX0_commonKeys_33 rfl (lv_at hl 1 rfl) ?_
        refine q_get C hP f1 rfl inX0 3 (by decide) g497 rfl dX0_commonKeys_34 ?_
        refine q_aload_n hx hb dX0_commonKeys_37 rfl (lv_at hl 2 rfl) ?_
        refine q_callS (rest := [.int (nI (0 + (qCom A1 B)))]) C (ih h r1 y j1 j B1 B hr1 hB (by omega) hL2 hT (by omega)) kX0_commonKeys g855 g853 hP hS (by first | decide | omega) hl.1 rfl (by simp [q_catrf, q_cati, q_catl, q_cata, q_catn]) (by first | decide | omega) dX0_commonKeys_38 (fun q ce E h' H1 locs1 hE => hE.elim) (fun v hh3 H locs hq hP hS => ?_)
        obtain ⟨rfl, rfl⟩ := hq
        refine q_iaddN hx hb dX0_commonKeys_41 ?_
        exact q_iret C hP hS ⟨by rw [qCom_app, if_neg (qWi_nany hg92)], rfl⟩ (by omega) dX0_commonKeys_42
      | some a8 =>
        refine lv_ifnonnull (tgt := 21) hx hb dX0_commonKeys_14 (by decide) ?_
        refine lv_iconst (v := nI 1) hx hb dX0_commonKeys_21 (by decide) ?_
        refine lv_istore_n (lv' := [(2, .int (nI 1)), (0, .ref a1), (1, va_rf y)]) hx hb dX0_commonKeys_22 rfl hl (by decide) (by cases y <;> rfl) (fun ls hl => ?_)
        refine lv_iload_n hx hb dX0_commonKeys_23 rfl (lv_at hl 0 rfl) ?_
        refine lv_aload_n hx hb dX0_commonKeys_24 rfl (lv_at hl 1 rfl) ?_
        refine q_get C hP f1 rfl inX0 0 (by decide) g491 rfl dX0_commonKeys_25 ?_
        refine q_aload_n hx hb dX0_commonKeys_28 rfl (lv_at hl 2 rfl) ?_
        refine q_callS (rest := [.int (nI 1)]) C (ih h l1 y i1 j A1 B hl1 hB (by omega) hL2 hT (by omega)) kX0_commonKeys g855 g853 hP hS (by first | decide | omega) hl.1 rfl (by simp [q_catrf, q_cati, q_catl, q_cata, q_catn]) (by first | decide | omega) dX0_commonKeys_29 (fun q ce E h' H1 locs1 hE => hE.elim) (fun v hh4 H locs hq hP hS => ?_)
        obtain ⟨rfl, rfl⟩ := hq
        refine q_iaddN hx hb dX0_commonKeys_32 ?_
        refine lv_aload_n hx hb dX0_commonKeys_33 rfl (lv_at hl 1 rfl) ?_
        refine q_get C hP f1 rfl inX0 3 (by decide) g497 rfl dX0_commonKeys_34 ?_
        refine q_aload_n hx hb dX0_commonKeys_37 rfl (lv_at hl 2 rfl) ?_
        refine q_callS (rest := [.int (nI (1 + (qCom A1 B)))]) C (ih h r1 y j1 j B1 B hr1 hB (by omega) hL2 hT (by omega)) kX0_commonKeys g855 g853 hP hS (by first | decide | omega) hl.1 rfl (by simp [q_catrf, q_cati, q_catl, q_cata, q_catn]) (by first | decide | omega) dX0_commonKeys_38 (fun q ce E h' H1 locs1 hE => hE.elim) (fun v hh5 H locs hq hP hS => ?_)
        obtain ⟨rfl, rfl⟩ := hq
        refine q_iaddN hx hb dX0_commonKeys_41 ?_
        exact q_iret C hP hS ⟨by rw [qCom_app, if_pos (qWi_any hg92)], rfl⟩ (by omega) dX0_commonKeys_42

theorem dX0_united_0 : decode cX0_united 0 = .ok (.aload_n 0, 1) := by decide +kernel
theorem dX0_united_1 : decode cX0_united 1 = .ok (.ifnull 7, 3) := by decide +kernel
theorem dX0_united_4 : decode cX0_united 4 = .ok (.aload_n 1, 1) := by decide +kernel
theorem dX0_united_5 : decode cX0_united 5 = .ok (.ifnonnull 13, 3) := by decide +kernel
theorem dX0_united_8 : decode cX0_united 8 = .ok (.aload_n 0, 1) := by decide +kernel
theorem dX0_united_9 : decode cX0_united 9 = .ok (.ifnonnull 7, 3) := by decide +kernel
theorem dX0_united_12 : decode cX0_united 12 = .ok (.aload_n 1, 1) := by decide +kernel
theorem dX0_united_13 : decode cX0_united 13 = .ok (.goto 4, 3) := by decide +kernel
theorem dX0_united_16 : decode cX0_united 16 = .ok (.aload_n 0, 1) := by decide +kernel
theorem dX0_united_17 : decode cX0_united 17 = .ok (.areturn, 1) := by decide +kernel
theorem dX0_united_18 : decode cX0_united 18 = .ok (.aload_n 0, 1) := by decide +kernel
theorem dX0_united_19 : decode cX0_united 19 = .ok (.aload_n 1, 1) := by decide +kernel
theorem dX0_united_20 : decode cX0_united 20 = .ok (.getfield 13, 3) := by decide +kernel
theorem dX0_united_23 : decode cX0_united 23 = .ok (.invokestatic 83, 3) := by decide +kernel
theorem dX0_united_26 : decode cX0_united 26 = .ok (.aload_n 1, 1) := by decide +kernel
theorem dX0_united_27 : decode cX0_united 27 = .ok (.getfield 7, 3) := by decide +kernel
theorem dX0_united_30 : decode cX0_united 30 = .ok (.invokestatic 98, 3) := by decide +kernel
theorem dX0_united_33 : decode cX0_united 33 = .ok (.astore_n 2, 1) := by decide +kernel
theorem dX0_united_34 : decode cX0_united 34 = .ok (.aload_n 0, 1) := by decide +kernel
theorem dX0_united_35 : decode cX0_united 35 = .ok (.aload_n 1, 1) := by decide +kernel
theorem dX0_united_36 : decode cX0_united 36 = .ok (.getfield 13, 3) := by decide +kernel
theorem dX0_united_39 : decode cX0_united 39 = .ok (.iconst 0, 1) := by decide +kernel
theorem dX0_united_40 : decode cX0_united 40 = .ok (.invokestatic 86, 3) := by decide +kernel
theorem dX0_united_43 : decode cX0_united 43 = .ok (.aload_n 1, 1) := by decide +kernel
theorem dX0_united_44 : decode cX0_united 44 = .ok (.getfield 20, 3) := by decide +kernel
theorem dX0_united_47 : decode cX0_united 47 = .ok (.invokestatic 98, 3) := by decide +kernel
theorem dX0_united_50 : decode cX0_united 50 = .ok (.astore_n 3, 1) := by decide +kernel
theorem dX0_united_51 : decode cX0_united 51 = .ok (.aload_n 2, 1) := by decide +kernel
theorem dX0_united_52 : decode cX0_united 52 = .ok (.aload_n 1, 1) := by decide +kernel
theorem dX0_united_53 : decode cX0_united 53 = .ok (.getfield 13, 3) := by decide +kernel
theorem dX0_united_56 : decode cX0_united 56 = .ok (.aload_n 1, 1) := by decide +kernel
theorem dX0_united_57 : decode cX0_united 57 = .ok (.getfield 17, 3) := by decide +kernel
theorem dX0_united_60 : decode cX0_united 60 = .ok (.aload_n 3, 1) := by decide +kernel
theorem dX0_united_61 : decode cX0_united 61 = .ok (.invokestatic 34, 3) := by decide +kernel
theorem dX0_united_64 : decode cX0_united 64 = .ok (.areturn, 1) := by decide +kernel
set_option maxRecDepth 100000 in
set_option maxHeartbeats 4000000 in
theorem c_X0_united (l : Launch) (D : va_G) (cy : Nat → ClassId) (N0 : Nat) (s : Nat) : ∀ (h : qH) (x : Option Nat) (y : Option Nat) (i j : Nat) (A B : qKV) (hA : qBr h i x A) (hB : qBr h j y B) (hL : A.length ≤ 64) (hL2 : B.length ≤ 64) (hS0 : qSo A) (hT : qSo B) (hs : j < s), qC l D cy N0 yX0_united cX0_united 4 (some (.object RX0)) (25 + j) (600 + 23 * j) (212 * B.length) (1272 * B.length) [va_rf x, va_rf y] h (fun v h' => ∃ (r9 : Option Nat) (n9 : Nat) (R9 : qKV), v = some (va_rf r9) ∧ qle h h' ∧ qBr h' n9 r9 R9 ∧ qUn A B R9) (fun E h' => False) := by
  induction s with
  | zero => intro h x y i j A B hA hB hL hL2 hS0 hT hs; exact absurd hs (Nat.not_lt_zero _)
  | succ s ih =>
    intro h x y i j A B hA hB hL hL2 hS0 hT hs
    refine q_ofW (by decide) (by simp [lg_sl, q_catrf, q_cati, q_catl, q_cata, q_catn]) ?_
    intro p e s m below meth c ls C hP hl
    have hx := C.1
    have hb := C.2.1
    have hS : va_S (qA N0) s.heap s.heap [] := va_S.rf
    have hl : lv_has ls 4 [(0, va_rf x), (1, va_rf y)] := by simpa [lv_args, q_catrf, q_cati, q_catl, q_cata, q_catn] using hl
    have hle : qle h h := qle_rf
    rcases hA.inv with ⟨rfl, rfl, rfl⟩ | ⟨a1, l1, k1, v1, r1, i1, j1, A1, B1, rfl, f1, hl1, hr1, rfl, hg11, hg12, hg13, hg14, hg15, hg16⟩
    · rcases hB.inv with ⟨rfl, rfl, rfl⟩ | ⟨a2, l2, k2, v2, r2, i2, j2, A2, B2, rfl, f2, hl2, hr2, rfl, hg21, hg22, hg23, hg24, hg25, hg26⟩
      · refine lv_aload_nN hx hb dX0_united_0 rfl (lv_at hl 0 rfl) ?_
        refine lv_ifnullN (tgt := 8) hx hb dX0_united_1 (by decide) ?_
        refine lv_aload_nN hx hb dX0_united_8 rfl (lv_at hl 0 rfl) ?_
        refine lv_ifnonnullN hx hb dX0_united_9 ?_
        refine lv_aload_nN hx hb dX0_united_12 rfl (lv_at hl 1 rfl) ?_
        refine lv_goto (tgt := 17) hx hb dX0_united_13 (by decide) ?_
        exact q_aret (v := none) C (Or.inl ⟨_, rfl⟩) hP hS ⟨none, 0, ([] : qKV), rfl, hle, qBr.nil, qUn.nilO hT⟩ (by omega) dX0_united_17
      · have zl2 := hl2.len
        have zr2 := hr2.len
        have eL2 : (A2 ++ (k2, v2) :: B2).length = A2.length + (B2.length + 1) := by rw [List.length_append, List.length_cons]
        simp only [List.length_append, List.length_cons, List.length_nil] at hL hL2
        refine lv_aload_nN hx hb dX0_united_0 rfl (lv_at hl 0 rfl) ?_
        refine lv_ifnullN (tgt := 8) hx hb dX0_united_1 (by decide) ?_
        refine lv_aload_nN hx hb dX0_united_8 rfl (lv_at hl 0 rfl) ?_
        refine lv_ifnonnullN hx hb dX0_united_9 ?_
        refine lv_aload_n hx hb dX0_united_12 rfl (lv_at hl 1 rfl) ?_
        refine lv_goto (tgt := 17) hx hb dX0_united_13 (by decide) ?_
        exact q_aret (v := (some a2)) C (Or.inl ⟨_, rfl⟩) hP hS ⟨(some a2), j, (A2 ++ (k2, v2) :: B2), rfl, hle, hB, qUn.nilO hT⟩ (by omega) dX0_united_17
    · have zl1 := hl1.len
      have zr1 := hr1.len
      have eL1 : (A1 ++ (k1, v1) :: B1).length = A1.length + (B1.length + 1) := by rw [List.length_append, List.length_cons]
      simp only [List.length_append, List.length_cons, List.length_nil] at hL hL2
      rcases hB.inv with ⟨rfl, rfl, rfl⟩ | ⟨a2, l2, k2, v2, r2, i2, j2, A2, B2, rfl, f2, hl2, hr2, rfl, hg21, hg22, hg23, hg24, hg25, hg26⟩
      · refine lv_aload_n hx hb dX0_united_0 rfl (lv_at hl 0 rfl) ?_
        refine lv_ifnull hx hb dX0_united_1 ?_
        refine lv_aload_nN hx hb dX0_united_4 rfl (lv_at hl 1 rfl) ?_
        refine lv_ifnonnullN hx hb dX0_united_5 ?_
        refine lv_aload_n hx hb dX0_united_8 rfl (lv_at hl 0 rfl) ?_
        refine lv_ifnonnull (tgt := 16) hx hb dX0_united_9 (by decide) ?_
        refine lv_aload_n hx hb dX0_united_16 rfl (lv_at hl 0 rfl) ?_
        exact q_aret (v := (some a1)) C (Or.inl ⟨_, rfl⟩) hP hS ⟨(some a1), i, (A1 ++ (k1, v1) :: B1), rfl, hle, hA, qUn.nilW hS0⟩ (by omega) dX0_united_17
      · have zl2 := hl2.len
        have zr2 := hr2.len
        have eL2 : (A2 ++ (k2, v2) :: B2).length = A2.length + (B2.length + 1) := by rw [List.length_append, List.length_cons]
        simp only [List.length_append, List.length_cons, List.length_nil] at hL hL2
        obtain ⟨wA, wB, -, -⟩ := hT.node
        have hi8 : i ≤ 8 := hA.h8 (by simp only [List.length_append, List.length_cons]; omega)
        have tc8 := qTc_mono hi8
        have tc9 : qTc 8 = 92 := by decide
        refine lv_aload_n hx hb dX0_united_0 rfl (lv_at hl 0 rfl) ?_
        refine lv_ifnull hx hb dX0_united_1 ?_
        refine lv_aload_n hx hb dX0_united_4 rfl (lv_at hl 1 rfl) ?_
        refine lv_ifnonnull (tgt := 18) hx hb dX0_united_5 (by decide) ?_
        refine lv_aload_n hx hb dX0_united_18 rfl (lv_at hl 0 rfl) ?_
        refine lv_aload_n hx hb dX0_united_19 rfl (lv_at hl 1 rfl) ?_
        refine q_get C hP f2 rfl inX0 1 (by decide) g492 rfl dX0_united_20 ?_
        refine q_callS (rest := []) C (c_X0_below l D cy N0 _ h (some a1) i (A1 ++ (k1, v1) :: B1) k2 hA (by first | omega | (simp only [List.length_append, List.length_cons, List.length_nil]; omega)) hS0 (Nat.lt_succ_self _)) kX0_below g787 g788 hP hS (by first | decide | omega) hl.1 rfl (by decide) (by first | decide | omega) dX0_united_23 (fun q ce E h' H1 locs1 hE => hE.elim) (fun v hh1 H locs hq hP hS => ?_)
        obtain ⟨r93, n93, rfl, hl93, b93, w93⟩ := hq
        replace f1 := hl93 _ _ f1
        replace f2 := hl93 _ _ f2
        replace hA := hA.le hl93
        replace hl1 := hl1.le hl93
        replace hr1 := hr1.le hl93
        replace hB := hB.le hl93
        replace hl2 := hl2.le hl93
        replace hr2 := hr2.le hl93
        replace hle := qle_tr hle hl93
        have z93 := b93.len
        try simp only [List.length_append, List.length_cons, List.length_nil] at z93
        have zz93 := qLo_len (L := (A1 ++ (k1, v1) :: B1)) (k := k2)
        have tc93 := qTc_mono w93
        have so93 := hS0.lo (k := k2)
        refine lv_aload_n hx hb dX0_united_26 rfl (lv_at hl 1 rfl) ?_
        refine q_get C hP f2 rfl inX0 0 (by decide) g491 rfl dX0_united_27 ?_
        refine q_callS (rest := []) C (ih hh1 r93 l2 n93 i2 (qLo (A1 ++ (k1, v1) :: B1) k2) A2 b93 hl2 (by omega) (by omega) so93 wA (by omega)) kX0_united g859 g857 hP hS (by first | decide | omega) hl.1 rfl (by decide) (by first | decide | omega) dX0_united_30 (fun q ce E h' H1 locs1 hE => hE.elim) (fun v hh2 H locs hq hP hS => ?_)
        obtain ⟨r94, n94, R94, rfl, hl94, b94, u94⟩ := hq
        replace f1 := hl94 _ _ f1
        replace f2 := hl94 _ _ f2
        replace hA := hA.le hl94
        replace hl1 := hl1.le hl94
        replace hr1 := hr1.le hl94
        replace hB := hB.le hl94
        replace hl2 := hl2.le hl94
        replace hr2 := hr2.le hl94
        replace b93 := b93.le hl94
        replace hle := qle_tr hle hl94
        have z94 := u94.2.2
        have y94 : n94 ≤ 9 := b94.ht (N := 128) (by omega) (by decide)
        refine q_astore_n (lv' := [(2, va_rf r94), (0, .ref a1), (1, .ref a2)]) hx hb dX0_united_33 rfl hl (by decide) rfl (fun ls hl => ?_)
        refine lv_aload_n hx hb dX0_united_34 rfl (lv_at hl 1 rfl) ?_
        refine lv_aload_n hx hb dX0_united_35 rfl (lv_at hl 2 rfl) ?_
        refine q_get C hP f2 rfl inX0 1 (by decide) g492 rfl dX0_united_36 ?_
        refine lv_iconst (v := 0) hx hb dX0_united_39 (by decide) ?_
        refine q_callS (rest := []) C (c_X0_above l D cy N0 _ hh2 (some a1) i (A1 ++ (k1, v1) :: B1) k2 0 hA (by first | omega | (simp only [List.length_append, List.length_cons, List.length_nil]; omega)) hS0 (Nat.lt_succ_self _)) kX0_above g790 g791 hP hS (by first | decide | omega) hl.1 rfl (by decide) (by first | decide | omega) dX0_united_40 (fun q ce E h' H1 locs1 hE => hE.elim) (fun v hh3 H locs hq hP hS => ?_)
        obtain ⟨r95, n95, rfl, hl95, b95, w95⟩ := hq
        replace f1 := hl95 _ _ f1
        replace f2 := hl95 _ _ f2
        replace hA := hA.le hl95
        replace hl1 := hl1.le hl95
        replace hr1 := hr1.le hl95
        replace hB := hB.le hl95
        replace hl2 := hl2.le hl95
        replace hr2 := hr2.le hl95
        replace b93 := b93.le hl95
        replace b94 := b94.le hl95
        replace hle := qle_tr hle hl95
        have z95 := b95.len
        try simp only [List.length_append, List.length_cons, List.length_nil] at z95
        have zz95 := qAb_len (L := (A1 ++ (k1, v1) :: B1)) (k := k2) (z := 0)
        have tc95 := qTc_mono w95
        have so95 := hS0.ab (k := k2) (z := 0)
        refine lv_aload_n hx hb dX0_united_43 rfl (lv_at hl 2 rfl) ?_
        refine q_get C hP f2 rfl inX0 3 (by decide) g497 rfl dX0_united_44 ?_
        refine q_callS (rest := []) C (ih hh3 r95 r2 n95 j2 (qAb (A1 ++ (k1, v1) :: B1) k2 0) B2 b95 hr2 (by omega) (by omega) so95 wB (by omega)) kX0_united g859 g857 hP hS (by first | decide | omega) hl.1 rfl (by decide) (by first | decide | omega) dX0_united_47 (fun q ce E h' H1 locs1 hE => hE.elim) (fun v hh4 H locs hq hP hS => ?_)
        obtain ⟨r96, n96, R96, rfl, hl96, b96, u96⟩ := hq
        replace f1 := hl96 _ _ f1
        replace f2 := hl96 _ _ f2
        replace hA := hA.le hl96
        replace hl1 := hl1.le hl96
        replace hr1 := hr1.le hl96
        replace hB := hB.le hl96
        replace hl2 := hl2.le hl96
        replace hr2 := hr2.le hl96
        replace b93 := b93.le hl96
        replace b94 := b94.le hl96
        replace b95 := b95.le hl96
        replace hle := qle_tr hle hl96
        have z96 := u96.2.2
        have y96 : n96 ≤ 9 := b96.ht (N := 128) (by omega) (by decide)
        refine q_astore_n (lv' := [(3, va_rf r96), (2, va_rf r94), (0, .ref a1), (1, .ref a2)]) hx hb dX0_united_50 rfl hl (by decide) (by cases r94 <;> rfl) (fun ls hl => ?_)
        refine q_aload_n hx hb dX0_united_51 rfl (lv_at hl 1 rfl) ?_
        refine lv_aload_n hx hb dX0_united_52 rfl (lv_at hl 3 rfl) ?_
        refine q_get C hP f2 rfl inX0 1 (by decide) g492 rfl dX0_united_53 ?_
        refine lv_aload_n hx hb dX0_united_56 rfl (lv_at hl 3 rfl) ?_
        refine q_get C hP f2 rfl inX0 2 (by decide) g494 rfl dX0_united_57 ?_
        refine q_aload_n hx hb dX0_united_60 rfl (lv_at hl 0 rfl) ?_
        refine q_callS (rest := []) C (c_X0_linked l D cy N0 _ hh4 r94 k2 v2 r96 n94 n96 R94 R96 b94 b96 (by first | omega | (simp only [List.length_append, List.length_cons, List.length_nil, List.length_take, List.length_drop, List.length_set]; omega)) (Nat.lt_succ_self _)) kX0_linked g478 g473 hP hS (by first | decide | omega) hl.1 rfl (by decide) (by first | decide | omega) dX0_united_61 (fun q ce E h' H1 locs1 hE => hE.elim) (fun v hh5 H locs hq hP hS => ?_)
        obtain ⟨r97, n97, rfl, hl97, b97, y97, w97, u97, m97⟩ := hq
        replace f1 := hl97 _ _ f1
        replace f2 := hl97 _ _ f2
        replace hA := hA.le hl97
        replace hl1 := hl1.le hl97
        replace hr1 := hr1.le hl97
        replace hB := hB.le hl97
        replace hl2 := hl2.le hl97
        replace hr2 := hr2.le hl97
        replace b93 := b93.le hl97
        replace b94 := b94.le hl97
        replace b95 := b95.le hl97
        replace b96 := b96.le hl97
        replace hle := qle_tr hle hl97
        have z97 := b97.len
        try simp only [List.length_append, List.length_cons, List.length_nil] at z97
        exact q_aret (v := r97) C (Or.inl ⟨_, rfl⟩) hP hS ⟨r97, n97, (R94 ++ (k2, v2) :: R96), rfl, hle, b97, qUn.node hT u94 u96⟩ (by omega) dX0_united_64
