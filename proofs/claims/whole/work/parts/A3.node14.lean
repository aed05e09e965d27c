/-- what has been poured when j nodes are through -/
def thU (m : Int32) (r : Nat) (L : qKV) (g : Int64 × Int64 → Int64) (j : Nat) : List Int64 := (trK m (r + 1) L ++ ((trM m (r + 1) L).take j).flatMap (fun v => thT m r (thK m (6 - r) v L))).map g
theorem thU_0 {m : Int32} {r : Nat} {L : qKV} {g : Int64 × Int64 → Int64} : thU m r L g 0 = (trK m (r + 1) L).map g := by
  unfold thU
  rw [List.take_zero, List.flatMap_nil, List.append_nil]
theorem thU_s {m : Int32} {r : Nat} {L : qKV} {g : Int64 × Int64 → Int64} {j v : Nat} (h : (trM m (r + 1) L)[j]? = some v) : thU m r L g (j + 1) = thU m r L g j ++ (thT m r (thK m (6 - r) v L)).map g := by
  unfold thU
  rw [List.take_succ, h]
  simp only [Option.toList_some]
  rw [List.flatMap_append, List.flatMap_cons, List.flatMap_nil, List.append_nil, ← List.append_assoc, List.map_append]
theorem thU_n {m : Int32} {r : Nat} {L : qKV} {g : Int64 × Int64 → Int64} {j : Nat} (h : (trM m (r + 1) L).length ≤ j) : thU m r L g j = (thT m (r + 1) L).map g := by
  unfold thU
  rw [List.take_of_length_le h, thT_s]
theorem thU_le {m : Int32} {r : Nat} {L : qKV} {g : Int64 × Int64 → Int64} {j : Nat} : (thU m r L g j).length ≤ L.length := by
  have h1 := congrArg List.length (thU_n (m := m) (r := r) (L := L) (g := g) (j := (trM m (r + 1) L).length) (Nat.le_refl _))
  rw [List.length_map, thT_len] at h1
  rw [← h1]
  unfold thU
  rw [List.length_map, List.length_map, List.length_append, List.length_append, List.take_of_length_le (Nat.le_refl _)]
  refine Nat.add_le_add_left ?_ _
  conv => rhs; rw [← List.take_append_drop j (trM m (r + 1) L)]
  rw [List.flatMap_append, List.length_append]
  omega
theorem qPour_cpy {f : Nat → Int64} {K : List Int64} {q : Nat} : va_cpy (fun j => K.getD j 0) f 0 q K.length = qPour f q K := by
  funext j
  unfold va_cpy qPour
  by_cases c : q ≤ j ∧ j < q + K.length
  · rw [if_pos c, if_pos c, Nat.zero_add]
  · rw [if_neg c, if_neg c]
theorem qTr.row {cy : Nat → ClassId} {h : qH} {Im : Nat → Prop} {e : Nat} {Ok : Nat → Prop} {m : Int32} {r a b : Nat} {L : qKV} {X : Nat → Prop} {o : va_E} (t : qTr cy h Im e Ok m r a L X) (nb : ¬ Im b ∧ ¬ X b) : qTr cy (qs h b o) Im e Ok m r a L X := t.keep (fun c o' hc hx => (qs_ne (fun z : c = b => hx.elim (fun q => nb.1 (by rw [← z]; exact q)) (fun q => nb.2 (by rw [← z]; exact q)))).trans hc) (fun _ z => z)
theorem thNd.in3 {cy : Nat → ClassId} {h : qH} {Im : Nat → Prop} {e : Nat} {Ok : Nat → Prop} {m : Int32} {r a n : Nat} {L : qKV} {X : Nat → Prop} {ow ka va na : Nat} {C : Nat → Nat} (g : thNd cy h Im e Ok m r a L n X ow ka va na C) : (Im a ∨ X a) ∧ (Im va ∨ X va) ∧ (Im na ∨ X na) := by
  obtain ⟨-, -, -, -, -, -, g7⟩ := g
  refine ⟨?_, ?_, ?_⟩
  · rcases g7 with ⟨-, x, -⟩ | ⟨-, x, -⟩
    · exact Or.inr x
    · exact Or.inl x
  · rcases g7 with ⟨-, -, x, y, -, -⟩ | ⟨-, -, x, -⟩
    · by_cases z : trK m r L = []
      · exact Or.inl (y z)
      · exact Or.inr (x z)
    · exact Or.inl x
  · rcases g7 with ⟨-, -, -, -, x, y⟩ | ⟨-, -, -, x⟩
    · by_cases z : trM m r L = []
      · exact Or.inl (y z)
      · exact Or.inr (x z)
    · exact Or.inl x
theorem dX3_pourKeys_0 : decode cX3_pourKeys 0 = .ok (.aload_n 0, 1) := by decide +kernel
theorem dX3_pourKeys_1 : decode cX3_pourKeys 1 = .ok (.ifnull 14, 3) := by decide +kernel
theorem dX3_pourKeys_4 : decode cX3_pourKeys 4 = .ok (.aload_n 0, 1) := by decide +kernel
theorem dX3_pourKeys_5 : decode cX3_pourKeys 5 = .ok (.getfield 32, 3) := by decide +kernel
theorem dX3_pourKeys_8 : decode cX3_pourKeys 8 = .ok (.aload_n 1, 1) := by decide +kernel
theorem dX3_pourKeys_9 : decode cX3_pourKeys 9 = .ok (.arraylength, 1) := by decide +kernel
theorem dX3_pourKeys_10 : decode cX3_pourKeys 10 = .ok (.iload_n 2, 1) := by decide +kernel
theorem dX3_pourKeys_11 : decode cX3_pourKeys 11 = .ok (.isub, 1) := by decide +kernel
theorem dX3_pourKeys_12 : decode cX3_pourKeys 12 = .ok (.if_icmp .le 5, 3) := by decide +kernel
theorem dX3_pourKeys_17 : decode cX3_pourKeys 17 = .ok (.aload_n 0, 1) := by decide +kernel
theorem dX3_pourKeys_18 : decode cX3_pourKeys 18 = .ok (.getfield 15, 3) := by decide +kernel
theorem dX3_pourKeys_21 : decode cX3_pourKeys 21 = .ok (.iconst 0, 1) := by decide +kernel
theorem dX3_pourKeys_22 : decode cX3_pourKeys 22 = .ok (.aload_n 1, 1) := by decide +kernel
theorem dX3_pourKeys_23 : decode cX3_pourKeys 23 = .ok (.iload_n 2, 1) := by decide +kernel
theorem dX3_pourKeys_24 : decode cX3_pourKeys 24 = .ok (.aload_n 0, 1) := by decide +kernel
theorem dX3_pourKeys_25 : decode cX3_pourKeys 25 = .ok (.getfield 15, 3) := by decide +kernel
theorem dX3_pourKeys_28 : decode cX3_pourKeys 28 = .ok (.arraylength, 1) := by decide +kernel
theorem dX3_pourKeys_29 : decode cX3_pourKeys 29 = .ok (.invokestatic 135, 3) := by decide +kernel
theorem dX3_pourKeys_32 : decode cX3_pourKeys 32 = .ok (.iload_n 2, 1) := by decide +kernel
theorem dX3_pourKeys_33 : decode cX3_pourKeys 33 = .ok (.aload_n 0, 1) := by decide +kernel
theorem dX3_pourKeys_34 : decode cX3_pourKeys 34 = .ok (.getfield 15, 3) := by decide +kernel
theorem dX3_pourKeys_37 : decode cX3_pourKeys 37 = .ok (.arraylength, 1) := by decide +kernel
theorem dX3_pourKeys_38 : decode cX3_pourKeys 38 = .ok (.iadd, 1) := by decide +kernel
theorem dX3_pourKeys_39 : decode cX3_pourKeys 39 = .ok (.istore_n 3, 1) := by decide +kernel
theorem dX3_pourKeys_40 : decode cX3_pourKeys 40 = .ok (.aload_n 0, 1) := by decide +kernel
theorem dX3_pourKeys_41 : decode cX3_pourKeys 41 = .ok (.getfield 28, 3) := by decide +kernel
theorem dX3_pourKeys_44 : decode cX3_pourKeys 44 = .ok (.astore 4, 2) := by decide +kernel
theorem dX3_pourKeys_46 : decode cX3_pourKeys 46 = .ok (.aload 4, 2) := by decide +kernel
theorem dX3_pourKeys_48 : decode cX3_pourKeys 48 = .ok (.arraylength, 1) := by decide +kernel
theorem dX3_pourKeys_49 : decode cX3_pourKeys 49 = .ok (.istore 5, 2) := by decide +kernel
theorem dX3_pourKeys_51 : decode cX3_pourKeys 51 = .ok (.iconst 0, 1) := by decide +kernel
theorem dX3_pourKeys_52 : decode cX3_pourKeys 52 = .ok (.istore 6, 2) := by decide +kernel
theorem dX3_pourKeys_54 : decode cX3_pourKeys 54 = .ok (.iload 6, 2) := by decide +kernel
theorem dX3_pourKeys_56 : decode cX3_pourKeys 56 = .ok (.iload 5, 2) := by decide +kernel
theorem dX3_pourKeys_58 : decode cX3_pourKeys 58 = .ok (.if_icmp .ge 24, 3) := by decide +kernel
theorem dX3_pourKeys_61 : decode cX3_pourKeys 61 = .ok (.aload 4, 2) := by decide +kernel
theorem dX3_pourKeys_63 : decode cX3_pourKeys 63 = .ok (.iload 6, 2) := by decide +kernel
theorem dX3_pourKeys_65 : decode cX3_pourKeys 65 = .ok (.aaload, 1) := by decide +kernel
theorem dX3_pourKeys_66 : decode cX3_pourKeys 66 = .ok (.astore 7, 2) := by decide +kernel
theorem dX3_pourKeys_68 : decode cX3_pourKeys 68 = .ok (.aload 7, 2) := by decide +kernel
theorem dX3_pourKeys_70 : decode cX3_pourKeys 70 = .ok (.aload_n 1, 1) := by decide +kernel
theorem dX3_pourKeys_71 : decode cX3_pourKeys 71 = .ok (.iload_n 3, 1) := by decide +kernel
theorem dX3_pourKeys_72 : decode cX3_pourKeys 72 = .ok (.invokestatic 146, 3) := by decide +kernel
theorem dX3_pourKeys_75 : decode cX3_pourKeys 75 = .ok (.istore_n 3, 1) := by decide +kernel
theorem dX3_pourKeys_76 : decode cX3_pourKeys 76 = .ok (.iinc 6 1, 3) := by decide +kernel
theorem dX3_pourKeys_79 : decode cX3_pourKeys 79 = .ok (.goto (-25), 3) := by decide +kernel
theorem dX3_pourKeys_82 : decode cX3_pourKeys 82 = .ok (.iload_n 3, 1) := by decide +kernel
theorem dX3_pourKeys_83 : decode cX3_pourKeys 83 = .ok (.ireturn, 1) := by decide +kernel
set_option maxRecDepth 100000 in
set_option maxHeartbeats 4000000 in
theorem c_X3_pourKeys (l : Launch) (D : va_G) (cy : Nat → ClassId) (N0 : Nat) (Im : Nat → Prop) (e9 : Nat) (Ok : Nat → Prop) (m9 : Int32) (s : Nat) : ∀ (h : qH) (r a : Nat) (L : qKV) (X : Nat → Prop) (b N : Nat) (f : Nat → Int64) (q : Nat) (hT : qTr cy h Im e9 Ok m9 r a L X) (hnb : ¬ Im b ∧ ¬ X b) (hrow : h b = some (.inl (cy 1, N, .inr (.inl f)))) (hqN : q + L.length ≤ N) (hN : N < 1000000) (hN1 : 0 < N) (hr : r ≤ 7) (hs : r < s), qC l D cy N0 yX3_pourKeys cX3_pourKeys 8 (some .int) (2 + r) (60 + 40 * r) 0 0 [.ref a, .ref b, .int (nI q)] h (fun v h' => v = some (.int (nI (q + L.length))) ∧ h' = qs h b (.inl (cy 1, N, .inr (.inl (qPour f q ((thT m9 r L).map Prod.fst)))))) (fun E h' => False) := by
  induction s with
  | zero => intro h r a L X b N f q hT hnb hrow hqN hN hN1 hr hs; exact absurd hs (Nat.not_lt_zero _)
  | succ s ih =>
    intro h r a L X b N f q hT hnb hrow hqN hN hN1 hr hs
    refine q_ofW (by decide) (by exact Nat.le_of_ble_eq_true rfl) ?_
    intro p e s m below meth c ls C hP hl
    have hx := C.1
    have hb := C.2.1
    have hS : va_S (qA N0) s.heap s.heap [] := va_S.rf
    have hl : lv_has ls 8 [(0, .ref a), (1, .ref b), (2, .int (nI q))] := hl
    obtain ⟨ow1, ka1, va1, na1, C1, Xs1, hn1, hx1, hk1⟩ := hT.inv
    have f1 := hn1.1
    have fk1 := hn1.2.1
    have fv1 := hn1.2.2.1
    have fn1 := hn1.2.2.2.1
    unfold thNo at f1
    unfold thJ at fk1 fv1
    unfold thA at fn1
    rw [List.length_map] at fk1 fv1
    have fn0 := fn1
    have hml := trM_len (m := m9) (r := r) (L := L)
    have hkl := trK_len (m := m9) (r := r) (L := L)
    have n_b_ka1 : ka1 ≠ b := fun z => hnb.1 (z ▸ hn1.2.2.2.2.1)
    have n_b_va1 : va1 ≠ b := fun z => hn1.in3.2.1.elim (fun q => hnb.1 (z ▸ q)) (fun q => hnb.2 (z ▸ q))
    have n_b_na1 : na1 ≠ b := fun z => hn1.in3.2.2.elim (fun q => hnb.1 (z ▸ q)) (fun q => hnb.2 (z ▸ q))
    have n_b_a : a ≠ b := fun z => hn1.in3.1.elim (fun q => hnb.1 (z ▸ q)) (fun q => hnb.2 (z ▸ q))
    cases r with
    | zero =>
      have hn0 : (trM m9 0 L).length = 0 := rfl
      have hlen : (trK m9 0 L).length = L.length := thO_len
      refine lv_aload_n hx hb dX3_pourKeys_0 rfl (lv_at hl 0 rfl) ?_
      refine lv_ifnull hx hb dX3_pourKeys_1 ?_
      refine lv_aload_n hx hb dX3_pourKeys_4 rfl (lv_at hl 0 rfl) ?_
      refine q_get C hP f1 rfl inX3 4 (by decide) g365 rfl dX3_pourKeys_5 ?_
      refine lv_aload_n hx hb dX3_pourKeys_8 rfl (lv_at hl 1 rfl) ?_
      refine q_alen C hP hrow rfl dX3_pourKeys_9 ?_
      refine lv_iload_n hx hb dX3_pourKeys_10 rfl (lv_at hl 2 rfl) ?_
      refine q_isubN hx hb dX3_pourKeys_11 (by omega) ?_
      refine lv_icmp_le (tgt := 17) hx hb dX3_pourKeys_12 (by decide) (fun c12 => ?_) (fun c12 => ?_)
      · replace c12 : (L.length) ≤ (N - q) := (nI_leI (a := L.length) (b := (N - q)) (by omega) (by omega)).mp c12
        refine lv_aload_n hx hb dX3_pourKeys_17 rfl (lv_at hl 0 rfl) ?_
        refine q_get C hP f1 rfl inX3 5 (by decide) g366 rfl dX3_pourKeys_18 ?_
        refine lv_iconst (v := nI 0) hx hb dX3_pourKeys_21 (by decide) ?_
        refine lv_aload_n hx hb dX3_pourKeys_22 rfl (lv_at hl 1 rfl) ?_
        refine lv_iload_n hx hb dX3_pourKeys_23 rfl (lv_at hl 2 rfl) ?_
        refine lv_aload_n hx hb dX3_pourKeys_24 rfl (lv_at hl 0 rfl) ?_
        refine q_get C hP f1 rfl inX3 5 (by decide) g366 rfl dX3_pourKeys_25 ?_
        refine q_alen C hP fk1 rfl dX3_pourKeys_28 ?_
        refine q_copyl (sp := 0) (dp := q) (n := (trK m9 0 L).length) C hP hS fk1 hrow (hP.arr hrow (nI_in (c := 0) (by omega) (by omega))) (by omega) (by omega) (by omega) (by omega) hl.1 (by omega) (by first | decide | exact Nat.le_trans (m := 40) (by decide) (by omega)) dX3_pourKeys_29 (fun H locs hP hS => ?_)
        rw [show va_cpy (fun j => (List.map Prod.fst (trK m9 0 L)).getD j 0) f 0 q (trK m9 0 L).length = qPour f q (List.map Prod.fst (trK m9 0 L)) from by rw [← qPour_cpy, List.length_map]] at hP
        replace f1 := (qs_ne (h := h) (a := b) (o := (.inl (cy 1, N, .inr (.inl (qPour f q (List.map Prod.fst (trK m9 0 L))))))) n_b_a).trans f1
        replace fk1 := (qs_ne (h := h) (a := b) (o := (.inl (cy 1, N, .inr (.inl (qPour f q (List.map Prod.fst (trK m9 0 L))))))) n_b_ka1).trans fk1
        replace fv1 := (qs_ne (h := h) (a := b) (o := (.inl (cy 1, N, .inr (.inl (qPour f q (List.map Prod.fst (trK m9 0 L))))))) n_b_va1).trans fv1
        replace fn1 := (qs_ne (h := h) (a := b) (o := (.inl (cy 1, N, .inr (.inl (qPour f q (List.map Prod.fst (trK m9 0 L))))))) n_b_na1).trans fn1
        replace hrow : (qs h b (.inl (cy 1, N, .inr (.inl (qPour f q (List.map Prod.fst (trK m9 0 L))))))) b = some (.inl (cy 1, N, .inr (.inl (qPour f q (List.map Prod.fst (trK m9 0 L)))))) := qs_self
        refine lv_iload_n hx hb dX3_pourKeys_32 rfl (lv_at hl 2 rfl) ?_
        refine lv_aload_n hx hb dX3_pourKeys_33 rfl (lv_at hl 0 rfl) ?_
        refine q_get C hP f1 rfl inX3 5 (by decide) g366 rfl dX3_pourKeys_34 ?_
        refine q_alen C hP fk1 rfl dX3_pourKeys_37 ?_
        refine q_iaddN hx hb dX3_pourKeys_38 ?_
        refine lv_istore_n (lv' := [(3, .int (nI (q + ((trK m9 0 L).length)))), (0, .ref a), (1, .ref b), (2, .int (nI q))]) hx hb dX3_pourKeys_39 rfl hl (by decide) rfl (fun ls hl => ?_)
        refine lv_aload_n hx hb dX3_pourKeys_40 rfl (lv_at hl 1 rfl) ?_
        refine q_get C hP f1 rfl inX3 7 (by decide) g369 rfl dX3_pourKeys_41 ?_
        refine lv_astore (lv' := [(4, .ref na1), (3, .int (nI (q + ((trK m9 0 L).length)))), (0, .ref a), (1, .ref b), (2, .int (nI q))]) hx hb dX3_pourKeys_44 hl (by decide) rfl (fun ls hl => ?_)
        refine lv_aload hx hb dX3_pourKeys_46 (lv_at hl 0 rfl) ?_
        refine q_alen C hP fn1 rfl dX3_pourKeys_48 ?_
        refine lv_istore (lv' := [(5, .int (nI (trM m9 0 L).length)), (4, .ref na1), (3, .int (nI (q + ((trK m9 0 L).length)))), (0, .ref a), (1, .ref b), (2, .int (nI q))]) hx hb dX3_pourKeys_49 hl (by decide) rfl (fun ls hl => ?_)
        refine lv_iconst (v := nI 0) hx hb dX3_pourKeys_51 (by decide) ?_
        refine lv_istore (lv' := [(6, .int (nI 0)), (5, .int (nI (trM m9 0 L).length)), (4, .ref na1), (3, .int (nI (q + ((trK m9 0 L).length)))), (0, .ref a), (1, .ref b), (2, .int (nI q))]) hx hb dX3_pourKeys_52 hl (by decide) rfl (fun ls hl => ?_)
        refine lv_iload hx hb dX3_pourKeys_54 (lv_at hl 0 rfl) ?_
        refine lv_iload hx hb dX3_pourKeys_56 (lv_at hl 1 rfl) ?_
        refine lv_icmp_ge (tgt := 82) hx hb dX3_pourKeys_58 (by decide) (fun c58 => ?_) (fun c58 => ?_)
        · replace c58 : ((trM m9 0 L).length) ≤ 0 := (nI_leI (a := (trM m9 0 L).length) (b := 0) (by omega) (by omega)).mp c58
          refine lv_iload_n hx hb dX3_pourKeys_82 rfl (lv_at hl 3 rfl) ?_
          exact q_iret C hP hS ⟨by rw [hlen], rfl⟩ (by omega) dX3_pourKeys_83
        · replace c58 : ¬ ((trM m9 0 L).length) ≤ 0 := fun zq => c58 ((nI_leI (a := (trM m9 0 L).length) (b := 0) (by omega) (by omega)).mpr zq)
          exfalso; omega
      · replace c12 : ¬ (L.length) ≤ (N - q) := fun zq => c12 ((nI_leI (a := L.length) (b := (N - q)) (by omega) (by omega)).mpr zq)
        exfalso; omega
    | succ r =>
      refine lv_aload_n hx hb dX3_pourKeys_0 rfl (lv_at hl 0 rfl) ?_
      refine lv_ifnull hx hb dX3_pourKeys_1 ?_
      refine lv_aload_n hx hb dX3_pourKeys_4 rfl (lv_at hl 0 rfl) ?_
      refine q_get C hP f1 rfl inX3 4 (by decide) g365 rfl dX3_pourKeys_5 ?_
      refine lv_aload_n hx hb dX3_pourKeys_8 rfl (lv_at hl 1 rfl) ?_
      refine q_alen C hP hrow rfl dX3_pourKeys_9 ?_
      refine lv_iload_n hx hb dX3_pourKeys_10 rfl (lv_at hl 2 rfl) ?_
      refine q_isubN hx hb dX3_pourKeys_11 (by omega) ?_
      refine lv_icmp_le (tgt := 17) hx hb dX3_pourKeys_12 (by decide) (fun c12 => ?_) (fun c12 => ?_)
      · replace c12 : (L.length) ≤ (N - q) := (nI_leI (a := L.length) (b := (N - q)) (by omega) (by omega)).mp c12
        refine lv_aload_n hx hb dX3_pourKeys_17 rfl (lv_at hl 0 rfl) ?_
        refine q_get C hP f1 rfl inX3 5 (by decide) g366 rfl dX3_pourKeys_18 ?_
        refine lv_iconst (v := nI 0) hx hb dX3_pourKeys_21 (by decide) ?_
        refine lv_aload_n hx hb dX3_pourKeys_22 rfl (lv_at hl 1 rfl) ?_
        refine lv_iload_n hx hb dX3_pourKeys_23 rfl (lv_at hl 2 rfl) ?_
        refine lv_aload_n hx hb dX3_pourKeys_24 rfl (lv_at hl 0 rfl) ?_
        refine q_get C hP f1 rfl inX3 5 (by decide) g366 rfl dX3_pourKeys_25 ?_
        refine q_alen C hP fk1 rfl dX3_pourKeys_28 ?_
        refine q_copyl (sp := 0) (dp := q) (n := (trK m9 (r + 1) L).length) C hP hS fk1 hrow (hP.arr hrow (nI_in (c := 0) (by omega) (by omega))) (by omega) (by omega) (by omega) (by omega) hl.1 (by omega) (by first | decide | exact Nat.le_trans (m := 40) (by decide) (by omega)) dX3_pourKeys_29 (fun H locs hP hS => ?_)
        rw [show va_cpy (fun j => (List.map Prod.fst (trK m9 (r + 1) L)).getD j 0) f 0 q (trK m9 (r + 1) L).length = qPour f q (List.map Prod.fst (trK m9 (r + 1) L)) from by rw [← qPour_cpy, List.length_map]] at hP
        replace f1 := (qs_ne (h := h) (a := b) (o := (.inl (cy 1, N, .inr (.inl (qPour f q (List.map Prod.fst (trK m9 (r + 1) L))))))) n_b_a).trans f1
        replace fk1 := (qs_ne (h := h) (a := b) (o := (.inl (cy 1, N, .inr (.inl (qPour f q (List.map Prod.fst (trK m9 (r + 1) L))))))) n_b_ka1).trans fk1
        replace fv1 := (qs_ne (h := h) (a := b) (o := (.inl (cy 1, N, .inr (.inl (qPour f q (List.map Prod.fst (trK m9 (r + 1) L))))))) n_b_va1).trans fv1
        replace fn1 := (qs_ne (h := h) (a := b) (o := (.inl (cy 1, N, .inr (.inl (qPour f q (List.map Prod.fst (trK m9 (r + 1) L))))))) n_b_na1).trans fn1
        replace hrow : (qs h b (.inl (cy 1, N, .inr (.inl (qPour f q (List.map Prod.fst (trK m9 (r + 1) L))))))) b = some (.inl (cy 1, N, .inr (.inl (qPour f q (List.map Prod.fst (trK m9 (r + 1) L)))))) := qs_self
        refine lv_iload_n hx hb dX3_pourKeys_32 rfl (lv_at hl 2 rfl) ?_
        refine lv_aload_n hx hb dX3_pourKeys_33 rfl (lv_at hl 0 rfl) ?_
        refine q_get C hP f1 rfl inX3 5 (by decide) g366 rfl dX3_pourKeys_34 ?_
        refine q_alen C hP fk1 rfl dX3_pourKeys_37 ?_
        refine q_iaddN hx hb dX3_pourKeys_38 ?_
        refine lv_istore_n (lv' := [(3, .int (nI (q + ((trK m9 (r + 1) L).length)))), (0, .ref a), (1, .ref b), (2, .int (nI q))]) hx hb dX3_pourKeys_39 rfl hl (by decide) rfl (fun ls hl => ?_)
        refine lv_aload_n hx hb dX3_pourKeys_40 rfl (lv_at hl 1 rfl) ?_
        refine q_get C hP f1 rfl inX3 7 (by decide) g369 rfl dX3_pourKeys_41 ?_
        refine lv_astore (lv' := [(4, .ref na1), (3, .int (nI (q + ((trK m9 (r + 1) L).length)))), (0, .ref a), (1, .ref b), (2, .int (nI q))]) hx hb dX3_pourKeys_44 hl (by decide) rfl (fun ls hl => ?_)
        refine lv_aload hx hb dX3_pourKeys_46 (lv_at hl 0 rfl) ?_
        refine q_alen C hP fn1 rfl dX3_pourKeys_48 ?_
        refine lv_istore (lv' := [(5, .int (nI (trM m9 (r + 1) L).length)), (4, .ref na1), (3, .int (nI (q + ((trK m9 (r + 1) L).length)))), (0, .ref a), (1, .ref b), (2, .int (nI q))]) hx hb dX3_pourKeys_49 hl (by decide) rfl (fun ls hl => ?_)
        refine lv_iconst (v := nI 0) hx hb dX3_pourKeys_51 (by decide) ?_
        refine lv_istore (lv' := [(6, .int (nI 0)), (5, .int (nI (trM m9 (r + 1) L).length)), (4, .ref na1), (3, .int (nI (q + ((trK m9 (r + 1) L).length)))), (0, .ref a), (1, .ref b), (2, .int (nI q))]) hx hb dX3_pourKeys_52 hl (by decide) rfl (fun ls hl => ?_)
        refine (?_ : ∀ (t : Nat) (H : Heap) (locs : List Loc) (ls : Array Slot) (j : Nat), (trM m9 (r + 1) L).length - j < t → lv_has ls 8 [(6, .int (nI j)), (5, .int (nI (trM m9 (r + 1) L).length)), (4, .ref na1), (3, .int (nI (q + (thU m9 r L Prod.fst j).length))), (1, .ref b)] → j ≤ (trM m9 (r + 1) L).length → qP D N0 (qs h b (.inl (cy 1, N, .inr (.inl (qPour f q (thU m9 r L Prod.fst j)))))) H → va_S (qA N0) s.heap H locs → W p l e _ s m _ below meth c H locs 0 0 _ (F0 m 54 ls [])) _ _ _ ls 0 (Nat.lt_succ_self _) (by rw [thU_0, List.length_map]; exact lv_sub hl [0, 1, 2, 3, 5] rfl) (Nat.zero_le _) (by rw [thU_0]; exact hP) hS
        clear hl hP hS
        intro t
        induction t with
        | zero => intro H locs ls j ht; exact absurd ht (Nat.not_lt_zero _)
        | succ t ihl =>
          intro H locs ls j ht hl hj hP hS
          have fb : (qs h b (.inl (cy 1, N, .inr (.inl (qPour f q (thU m9 r L Prod.fst j)))))) b = some (.inl (cy 1, N, .inr (.inl (qPour f q (thU m9 r L Prod.fst j))))) := qs_self
          have fn9 : (qs h b (.inl (cy 1, N, .inr (.inl (qPour f q (thU m9 r L Prod.fst j)))))) na1 = _ := (qs_ne n_b_na1).trans fn0
          have hul := thU_le (m := m9) (r := r) (L := L) (g := Prod.fst) (j := j)
          refine lv_iload hx hb dX3_pourKeys_54 (lv_at hl 0 rfl) ?_
          refine lv_iload hx hb dX3_pourKeys_56 (lv_at hl 1 rfl) ?_
          refine lv_icmp_ge (tgt := 82) hx hb dX3_pourKeys_58 (by decide) (fun c58 => ?_) (fun c58 => ?_)
          · replace c58 : ((trM m9 (r + 1) L).length) ≤ j := (nI_leI (a := (trM m9 (r + 1) L).length) (b := j) (by omega) (by omega)).mp c58
            refine lv_iload_n hx hb dX3_pourKeys_82 rfl (lv_at hl 3 rfl) ?_
            exact q_iret C hP hS ⟨by rw [thU_n (by omega), List.length_map, thT_len], by rw [thU_n (by omega)]⟩ (by omega) dX3_pourKeys_83
          · replace c58 : ¬ ((trM m9 (r + 1) L).length) ≤ j := fun zq => c58 ((nI_leI (a := (trM m9 (r + 1) L).length) (b := j) (by omega) (by omega)).mpr zq)
            refine lv_aload hx hb dX3_pourKeys_61 (lv_at hl 2 rfl) ?_
            refine lv_iload hx hb dX3_pourKeys_63 (lv_at hl 0 rfl) ?_
            refine q_aaldR C hP fn9 rfl (by omega) (by omega) rfl dX3_pourKeys_65 ?_
            refine lv_astore (lv' := [(7, .ref (C1 j)), (6, .int (nI j)), (5, .int (nI (trM m9 (r + 1) L).length)), (4, .ref na1), (3, .int (nI (q + (thU m9 r L Prod.fst j).length))), (1, .ref b)]) hx hb dX3_pourKeys_66 hl (by decide) rfl (fun ls hl => ?_)
            refine lv_aload hx hb dX3_pourKeys_68 (lv_at hl 0 rfl) ?_
            refine lv_aload_n hx hb dX3_pourKeys_70 rfl (lv_at hl 5 rfl) ?_
            refine lv_iload_n hx hb dX3_pourKeys_71 rfl (lv_at hl 4 rfl) ?_
            have hjl : j < (trM m9 (r + 1) L).length := by omega
            obtain ⟨v9, hv9⟩ : ∃ v, (trM m9 (r + 1) L)[j]? = some v := ⟨_, List.getElem?_eq_getElem hjl⟩
            have eU := thU_s (g := Prod.fst) hv9
            have hul2 := thU_le (m := m9) (r := r) (L := L) (g := Prod.fst) (j := j + 1)
            rw [eU, List.length_append, List.length_map, thT_len] at hul2
            obtain ⟨r9, er9, t9⟩ := hk1 j v9 hv9
            cases er9
            have hnx : ¬ Im b ∧ ¬ Xs1 j b := ⟨hnb.1, fun z => hnb.2 (hx1.1 j hjl b z).1⟩
            refine q_callS (rest := []) C (ih (qs h b (.inl (cy 1, N, .inr (.inl (qPour f q (thU m9 r L Prod.fst j)))))) r (C1 j) (thK m9 (6 - r) v9 L) (Xs1 j) b N (qPour f q (thU m9 r L Prod.fst j)) (q + (thU m9 r L Prod.fst j).length) (t9.row hnx) hnx fb (by omega) hN hN1 (by omega) (by omega)) kX3_pourKeys g867 g865 hP hS (by first | decide | omega) hl.1 rfl (by decide) (by first | decide | omega) dX3_pourKeys_72 (fun q ce E h' H1 locs1 hE => hE.elim) (fun v hh1 H locs hq hP hS => ?_)
            obtain ⟨rfl, rfl⟩ := hq
            rw [qs_qs] at hP
            refine lv_istore_n (lv' := [(3, .int (nI (q + (thU m9 r L Prod.fst j).length + (thK m9 (6 - r) v9 L).length))), (7, .ref (C1 j)), (6, .int (nI j)), (5, .int (nI (trM m9 (r + 1) L).length)), (4, .ref na1), (1, .ref b)]) hx hb dX3_pourKeys_75 rfl hl (by decide) rfl (fun ls hl => ?_)
            refine lv_iinc (v := nI (j + 1)) (lv' := [(6, .int (nI (j + 1))), (3, .int (nI (q + (thU m9 r L Prod.fst j).length + (thK m9 (6 - r) v9 L).length))), (7, .ref (C1 j)), (5, .int (nI (trM m9 (r + 1) L).length)), (4, .ref na1), (1, .ref b)]) hx hb dX3_pourKeys_76 hl (k := 2) rfl (nI_1 j) (by decide) rfl (fun ls hl => ?_)
            refine lv_goto (tgt := 54) hx hb dX3_pourKeys_79 (by decide) ?_
            exact ihl H locs ls (j + 1) (by omega) (by rw [eU, List.length_append, List.length_map, thT_len, ← Nat.add_assoc]; exact lv_sub hl [0, 3, 4, 1, 5] rfl) (by omega) (by rw [eU, ← qPour_2]; exact hP) hS
      · replace c12 : ¬ (L.length) ≤ (N - q) := fun zq => c12 ((nI_leI (a := L.length) (b := (N - q)) (by omega) (by omega)).mpr zq)
        exfalso; omega
theorem dX3_pourKeys_15 : decode cX3_pourKeys 15 = .ok (.iload_n 2, 1) := by decide +kernel
theorem dX3_pourKeys_16 : decode cX3_pourKeys 16 = .ok (.ireturn, 1) := by decide +kernel
set_option maxRecDepth 100000 in
set_option maxHeartbeats 4000000 in
theorem c_X3_pourKeysN (l : Launch) (D : va_G) (cy : Nat → ClassId) (N0 : Nat) (h : qH) (b N : Nat) (q : Nat) : qC l D cy N0 yX3_pourKeys cX3_pourKeys 8 (some .int) 0 0 0 0 [.null, .ref b, .int (nI q)] h (fun v h' => v = some (.int (nI q)) ∧ h = h') (fun E h' => False) := by
  refine q_ofW (by decide) (by exact Nat.le_of_ble_eq_true rfl) ?_
  intro p e s m below meth c ls C hP hl
  have hx := C.1
  have hb := C.2.1
  have hS : va_S (qA N0) s.heap s.heap [] := va_S.rf
  have hl : lv_has ls 8 [(0, .null), (1, .ref b), (2, .int (nI q))] := hl
  refine lv_aload_nN hx hb dX3_pourKeys_0 rfl (lv_at hl 0 rfl) ?_
  refine lv_ifnullN (tgt := 15) hx hb dX3_pourKeys_1 (by decide) ?_
  refine lv_iload_n hx hb dX3_pourKeys_15 rfl (lv_at hl 2 rfl) ?_
  exact q_iret C hP hS ⟨rfl, rfl⟩ (by omega) dX3_pourKeys_16
theorem dX3_pourValues_0 : decode cX3_pourValues 0 = .ok (.aload_n 0, 1) := by decide +kernel
theorem dX3_pourValues_1 : decode cX3_pourValues 1 = .ok (.ifnull 14, 3) := by decide +kernel
theorem dX3_pourValues_4 : decode cX3_pourValues 4 = .ok (.aload_n 0, 1) := by decide +kernel
theorem dX3_pourValues_5 : decode cX3_pourValues 5 = .ok (.getfield 32, 3) := by decide +kernel
theorem dX3_pourValues_8 : decode cX3_pourValues 8 = .ok (.aload_n 1, 1) := by decide +kernel
theorem dX3_pourValues_9 : decode cX3_pourValues 9 = .ok (.arraylength, 1) := by decide +kernel
theorem dX3_pourValues_10 : decode cX3_pourValues 10 = .ok (.iload_n 2, 1) := by decide +kernel
theorem dX3_pourValues_11 : decode cX3_pourValues 11 = .ok (.isub, 1) := by decide +kernel
theorem dX3_pourValues_12 : decode cX3_pourValues 12 = .ok (.if_icmp .le 5, 3) := by decide +kernel
theorem dX3_pourValues_17 : decode cX3_pourValues 17 = .ok (.aload_n 0, 1) := by decide +kernel
theorem dX3_pourValues_18 : decode cX3_pourValues 18 = .ok (.getfield 18, 3) := by decide +kernel
theorem dX3_pourValues_21 : decode cX3_pourValues 21 = .ok (.iconst 0, 1) := by decide +kernel
theorem dX3_pourValues_22 : decode cX3_pourValues 22 = .ok (.aload_n 1, 1) := by decide +kernel
theorem dX3_pourValues_23 : decode cX3_pourValues 23 = .ok (.iload_n 2, 1) := by decide +kernel
theorem dX3_pourValues_24 : decode cX3_pourValues 24 = .ok (.aload_n 0, 1) := by decide +kernel
theorem dX3_pourValues_25 : decode cX3_pourValues 25 = .ok (.getfield 18, 3) := by decide +kernel
theorem dX3_pourValues_28 : decode cX3_pourValues 28 = .ok (.arraylength, 1) := by decide +kernel
theorem dX3_pourValues_29 : decode cX3_pourValues 29 = .ok (.invokestatic 135, 3) := by decide +kernel
theorem dX3_pourValues_32 : decode cX3_pourValues 32 = .ok (.iload_n 2, 1) := by decide +kernel
theorem dX3_pourValues_33 : decode cX3_pourValues 33 = .ok (.aload_n 0, 1) := by decide +kernel
theorem dX3_pourValues_34 : decode cX3_pourValues 34 = .ok (.getfield 18, 3) := by decide +kernel
theorem dX3_pourValues_37 : decode cX3_pourValues 37 = .ok (.arraylength, 1) := by decide +kernel
theorem dX3_pourValues_38 : decode cX3_pourValues 38 = .ok (.iadd, 1) := by decide +kernel
theorem dX3_pourValues_39 : decode cX3_pourValues 39 = .ok (.istore_n 3, 1) := by decide +kernel
theorem dX3_pourValues_40 : decode cX3_pourValues 40 = .ok (.aload_n 0, 1) := by decide +kernel
theorem dX3_pourValues_41 : decode cX3_pourValues 41 = .ok (.getfield 28, 3) := by decide +kernel
theorem dX3_pourValues_44 : decode cX3_pourValues 44 = .ok (.astore 4, 2) := by decide +kernel
theorem dX3_pourValues_46 : decode cX3_pourValues 46 = .ok (.aload 4, 2) := by decide +kernel
theorem dX3_pourValues_48 : decode cX3_pourValues 48 = .ok (.arraylength, 1) := by decide +kernel
theorem dX3_pourValues_49 : decode cX3_pourValues 49 = .ok (.istore 5, 2) := by decide +kernel
theorem dX3_pourValues_51 : decode cX3_pourValues 51 = .ok (.iconst 0, 1) := by decide +kernel
theorem dX3_pourValues_52 : decode cX3_pourValues 52 = .ok (.istore 6, 2) := by decide +kernel
theorem dX3_pourValues_54 : decode cX3_pourValues 54 = .ok (.iload 6, 2) := by decide +kernel
theorem dX3_pourValues_56 : decode cX3_pourValues 56 = .ok (.iload 5, 2) := by decide +kernel
theorem dX3_pourValues_58 : decode cX3_pourValues 58 = .ok (.if_icmp .ge 24, 3) := by decide +kernel
theorem dX3_pourValues_61 : decode cX3_pourValues 61 = .ok (.aload 4, 2) := by decide +kernel
theorem dX3_pourValues_63 : decode cX3_pourValues 63 = .ok (.iload 6, 2) := by decide +kernel
theorem dX3_pourValues_65 : decode cX3_pourValues 65 = .ok (.aaload, 1) := by decide +kernel
theorem dX3_pourValues_66 : decode cX3_pourValues 66 = .ok (.astore 7, 2) := by decide +kernel
theorem dX3_pourValues_68 : decode cX3_pourValues 68 = .ok (.aload 7, 2) := by decide +kernel
theorem dX3_pourValues_70 : decode cX3_pourValues 70 = .ok (.aload_n 1, 1) := by decide +kernel
theorem dX3_pourValues_71 : decode cX3_pourValues 71 = .ok (.iload_n 3, 1) := by decide +kernel
theorem dX3_pourValues_72 : decode cX3_pourValues 72 = .ok (.invokestatic 150, 3) := by decide +kernel
theorem dX3_pourValues_75 : decode cX3_pourValues 75 = .ok (.istore_n 3, 1) := by decide +kernel
theorem dX3_pourValues_76 : decode cX3_pourValues 76 = .ok (.iinc 6 1, 3) := by decide +kernel
theorem dX3_pourValues_79 : decode cX3_pourValues 79 = .ok (.goto (-25), 3) := by decide +kernel
theorem dX3_pourValues_82 : decode cX3_pourValues 82 = .ok (.iload_n 3, 1) := by decide +kernel
theorem dX3_pourValues_83 : decode cX3_pourValues 83 = .ok (.ireturn, 1) := by decide +kernel
set_option maxRecDepth 100000 in
set_option maxHeartbeats 4000000 in
theorem c_X3_pourValues (l : Launch) (D : va_G) (cy : Nat → ClassId) (N0 : Nat) (Im : Nat → Prop) (e9 : Nat) (Ok : Nat → Prop) (m9 : Int32) (s : Nat) : ∀ (h : qH) (r a : Nat) (L : qKV) (X : Nat → Prop) (b N : Nat) (f : Nat → Int64) (q : Nat) (hT : qTr cy h Im e9 Ok m9 r a L X) (hnb : ¬ Im b ∧ ¬ X b) (hrow : h b = some (.inl (cy 1, N, .inr (.inl f)))) (hqN : q + L.length ≤ N) (hN : N < 1000000) (hN1 : 0 < N) (hr : r ≤ 7) (hs : r < s), qC l D cy N0 yX3_pourValues cX3_pourValues 8 (some .int) (2 + r) (60 + 40 * r) 0 0 [.ref a, .ref b, .int (nI q)] h (fun v h' => v = some (.int (nI (q + L.length))) ∧ h' = qs h b (.inl (cy 1, N, .inr (.inl (qPour f q ((thT m9 r L).map Prod.snd)))))) (fun E h' => False) := by
  induction s with
  | zero => intro h r a L X b N f q hT hnb hrow hqN hN hN1 hr hs; exact absurd hs (Nat.not_lt_zero _)
  | succ s ih =>
    intro h r a L X b N f q hT hnb hrow hqN hN hN1 hr hs
    refine q_ofW (by decide) (by exact Nat.le_of_ble_eq_true rfl) ?_
    intro p e s m below meth c ls C hP hl
    have hx := C.1
    have hb := C.2.1
    have hS : va_S (qA N0) s.heap s.heap [] := va_S.rf
    have hl : lv_has ls 8 [(0, .ref a), (1, .ref b), (2, .int (nI q))] := hl
    obtain ⟨ow1, ka1, va1, na1, C1, Xs1, hn1, hx1, hk1⟩ := hT.inv
    have f1 := hn1.1
    have fk1 := hn1.2.1
    have fv1 := hn1.2.2.1
    have fn1 := hn1.2.2.2.1
    unfold thNo at f1
    unfold thJ at fk1 fv1
    unfold thA at fn1
    rw [List.length_map] at fk1 fv1
    have fn0 := fn1
    have hml := trM_len (m := m9) (r := r) (L := L)
    have hkl := trK_len (m := m9) (r := r) (L := L)
    have n_b_ka1 : ka1 ≠ b := fun z => hnb.1 (z ▸ hn1.2.2.2.2.1)
    have n_b_va1 : va1 ≠ b := fun z => hn1.in3.2.1.elim (fun q => hnb.1 (z ▸ q)) (fun q => hnb.2 (z ▸ q))
    have n_b_na1 : na1 ≠ b := fun z => hn1.in3.2.2.elim (fun q => hnb.1 (z ▸ q)) (fun q => hnb.2 (z ▸ q))
    have n_b_a : a ≠ b := fun z => hn1.in3.1.elim (fun q => hnb.1 (z ▸ q)) (fun q => hnb.2 (z ▸ q))
    cases r with
    | zero =>
      have hn0 : (trM m9 0 L).length = 0 := rfl
      have hlen : (trK m9 0 L).length = L.length := thO_len
      refine lv_aload_n hx hb dX3_pourValues_0 rfl (lv_at hl 0 rfl) ?_
      refine lv_ifnull hx hb dX3_pourValues_1 ?_
      refine lv_aload_n hx hb dX3_pourValues_4 rfl (lv_at hl 0 rfl) ?_
      refine q_get C hP f1 rfl inX3 4 (by decide) g365 rfl dX3_pourValues_5 ?_
      refine lv_aload_n hx hb dX3_pourValues_8 rfl (lv_at hl 1 rfl) ?_
      refine q_alen C hP hrow rfl dX3_pourValues_9 ?_
      refine lv_iload_n hx hb dX3_pourValues_10 rfl (lv_at hl 2 rfl) ?_
      refine q_isubN hx hb dX3_pourValues_11 (by omega) ?_
      refine lv_icmp_le (tgt := 17) hx hb dX3_pourValues_12 (by decide) (fun c12 => ?_) (fun c12 => ?_)
      · replace c12 : (L.length) ≤ (N - q) := (nI_leI (a := L.length) (b := (N - q)) (by omega) (by omega)).mp c12
        refine lv_aload_n hx hb dX3_pourValues_17 rfl (lv_at hl 0 rfl) ?_
        refine q_get C hP f1 rfl inX3 6 (by decide) g367 rfl dX3_pourValues_18 ?_
        refine lv_iconst (v := nI 0) hx hb dX3_pourValues_21 (by decide) ?_
        refine lv_aload_n hx hb dX3_pourValues_22 rfl (lv_at hl 1 rfl) ?_
        refine lv_iload_n hx hb dX3_pourValues_23 rfl (lv_at hl 2 rfl) ?_
        refine lv_aload_n hx hb dX3_pourValues_24 rfl (lv_at hl 0 rfl) ?_
        refine q_get C hP f1 rfl inX3 6 (by decide) g367 rfl dX3_pourValues_25 ?_
        refine q_alen C hP fv1 rfl dX3_pourValues_28 ?_
        refine q_copyl (sp := 0) (dp := q) (n := (trK m9 0 L).length) C hP hS fv1 hrow (hP.arr hrow (nI_in (c := 0) (by omega) (by omega))) (by omega) (by omega) (by omega) (by omega) hl.1 (by omega) (by first | decide | exact Nat.le_trans (m := 40) (by decide) (by omega)) dX3_pourValues_29 (fun H locs hP hS => ?_)
        rw [show va_cpy (fun j => (List.map Prod.snd (trK m9 0 L)).getD j 0) f 0 q (trK m9 0 L).length = qPour f q (List.map Prod.snd (trK m9 0 L)) from by rw [← qPour_cpy, List.length_map]] at hP
        replace f1 := (qs_ne (h := h) (a := b) (o := (.inl (cy 1, N, .inr (.inl (qPour f q (List.map Prod.snd (trK m9 0 L))))))) n_b_a).trans f1
        replace fk1 := (qs_ne (h := h) (a := b) (o := (.inl (cy 1, N, .inr (.inl (qPour f q (List.map Prod.snd (trK m9 0 L))))))) n_b_ka1).trans fk1
        replace fv1 := (qs_ne (h := h) (a := b) (o := (.inl (cy 1, N, .inr (.inl (qPour f q (List.map Prod.snd (trK m9 0 L))))))) n_b_va1).trans fv1
        replace fn1 := (qs_ne (h := h) (a := b) (o := (.inl (cy 1, N, .inr (.inl (qPour f q (List.map Prod.snd (trK m9 0 L))))))) n_b_na1).trans fn1
        replace hrow : (qs h b (.inl (cy 1, N, .inr (.inl (qPour f q (List.map Prod.snd (trK m9 0 L))))))) b = some (.inl (cy 1, N, .inr (.inl (qPour f q (List.map Prod.snd (trK m9 0 L)))))) := qs_self
        refine lv_iload_n hx hb dX3_pourValues_32 rfl (lv_at hl 2 rfl) ?_
        refine lv_aload_n hx hb dX3_pourValues_33 rfl (lv_at hl 0 rfl) ?_
        refine q_get C hP f1 rfl inX3 6 (by decide) g367 rfl dX3_pourValues_34 ?_
        refine q_alen C hP fv1 rfl dX3_pourValues_37 ?_
        refine q_iaddN hx hb dX3_pourValues_38 ?_
        refine lv_istore_n (lv' := [(3, .int (nI (q + ((trK m9 0 L).length)))), (0, .ref a), (1, .ref b), (2, .int (nI q))]) hx hb dX3_pourValues_39 rfl hl (by decide) rfl (fun ls hl => ?_)
        refine lv_aload_n hx hb dX3_pourValues_40 rfl (lv_at hl 1 rfl) ?_
        refine q_get C hP f1 rfl inX3 7 (by decide) g369 rfl dX3_pourValues_41 ?_
        refine lv_astore (lv' := [(4, .ref na1), (3, .int (nI (q + ((trK m9 0 L).length)))), (0, .ref a), (1, .ref b), (2, .int (nI q))]) hx hb dX3_pourValues_44 hl (by decide) rfl (fun ls hl => ?_)
        refine lv_aload hx hb dX3_pourValues_46 (lv_at hl 0 rfl) ?_
        refine q_alen C hP fn1 rfl dX3_pourValues_48 ?_
        refine lv_istore (lv' := [(5, .int (nI (trM m9 0 L).length)), (4, .ref na1), (3, .int (nI (q + ((trK m9 0 L).length)))), (0, .ref a), (1, .ref b), (2, .int (nI q))]) hx hb dX3_pourValues_49 hl (by decide) rfl (fun ls hl => ?_)
        refine lv_iconst (v := nI 0) hx hb dX3_pourValues_51 (by decide) ?_
        refine lv_istore (lv' := [(6, .int (nI 0)), (5, .int (nI (trM m9 0 L).length)), (4, .ref na1), (3, .int (nI (q + ((trK m9 0 L).length)))), (0, .ref a), (1, .ref b), (2, .int (nI q))]) hx hb dX3_pourValues_52 hl (by decide) rfl (fun ls hl => ?_)
        refine lv_iload hx hb dX3_pourValues_54 (lv_at hl 0 rfl) ?_
        refine lv_iload hx hb dX3_pourValues_56 (lv_at hl 1 rfl) ?_
        refine lv_icmp_ge (tgt := 82) hx hb dX3_pourValues_58 (by decide) (fun c58 => ?_) (fun c58 => ?_)
        · replace c58 : ((trM m9 0 L).length) ≤ 0 := (nI_leI (a := (trM m9 0 L).length) (b := 0) (by omega) (by omega)).mp c58
          refine lv_iload_n hx hb dX3_pourValues_82 rfl (lv_at hl 3 rfl) ?_
          exact q_iret C hP hS ⟨by rw [hlen], rfl⟩ (by omega) dX3_pourValues_83
        · replace c58 : ¬ ((trM m9 0 L).length) ≤ 0 := fun zq => c58 ((nI_leI (a := (trM m9 0 L).length) (b := 0) (by omega) (by omega)).mpr zq)
          exfalso; omega
      · replace c12 : ¬ (L.length) ≤ (N - q) := fun zq => c12 ((nI_leI (a := L.length) (b := (N - q)) (by omega) (by omega)).mpr zq)
        exfalso; omega
    | succ r =>
      refine lv_aload_n hx hb dX3_pourValues_0 rfl (lv_at hl 0 rfl) ?_
      refine lv_ifnull hx hb dX3_pourValues_1 ?_
      refine lv_aload_n hx hb dX3_pourValues_4 rfl (lv_at hl 0 rfl) ?_
      refine q_get C hP f1 rfl inX3 4 (by decide) g365 rfl dX3_pourValues_5 ?_
      refine lv_aload_n hx hb dX3_pourValues_8 rfl (lv_at hl 1 rfl) ?_
      refine q_alen C hP hrow rfl dX3_pourValues_9 ?_
      refine lv_iload_n hx hb dX3_pourValues_10 rfl (lv_at hl 2 rfl) ?_
      refine q_isubN hx hb dX3_pourValues_11 (by omega) ?_
      refine lv_icmp_le (tgt := 17) hx hb dX3_pourValues_12 (by decide) (fun c12 => ?_) (fun c12 => ?_)
      · replace c12 : (L.length) ≤ (N - q) := (nI_leI (a := L.length) (b := (N - q)) (by omega) (by omega)).mp c12
        refine lv_aload_n hx hb dX3_pourValues_17 rfl (lv_at hl 0 rfl) ?_
        refine q_get C hP f1 rfl inX3 6 (by decide) g367 rfl dX3_pourValues_18 ?_
        refine lv_iconst (v := nI 0) hx hb dX3_pourValues_21 (by decide) ?_
        refine lv_aload_n hx hb dX3_pourValues_22 rfl (lv_at hl 1 rfl) ?_
        refine lv_iload_n hx hb dX3_pourValues_23 rfl (lv_at hl 2 rfl) ?_
        refine lv_aload_n hx hb dX3_pourValues_24 rfl (lv_at hl 0 rfl) ?_
        refine q_get C hP f1 rfl inX3 6 (by decide) g367 rfl dX3_pourValues_25 ?_
        refine q_alen C hP fv1 rfl dX3_pourValues_28 ?_
        refine q_copyl (sp := 0) (dp := q) (n := (trK m9 (r + 1) L).length) C hP hS fv1 hrow (hP.arr hrow (nI_in (c := 0) (by omega) (by omega))) (by omega) (by omega) (by omega) (by omega) hl.1 (by omega) (by first | decide | exact Nat.le_trans (m := 40) (by decide) (by omega)) dX3_pourValues_29 (fun H locs hP hS => ?_)
        rw [show va_cpy (fun j => (List.map Prod.snd (trK m9 (r + 1) L)).getD j 0) f 0 q (trK m9 (r + 1) L).length = qPour f q (List.map Prod.snd (trK m9 (r + 1) L)) from by rw [← qPour_cpy, List.length_map]] at hP
        replace f1 := (qs_ne (h := h) (a := b) (o := (.inl (cy 1, N, .inr (.inl (qPour f q (List.map Prod.snd (trK m9 (r + 1) L))))))) n_b_a).trans f1
        replace fk1 := (qs_ne (h := h) (a := b) (o := (.inl (cy 1, N, .inr (.inl (qPour f q (List.map Prod.snd (trK m9 (r + 1) L))))))) n_b_ka1).trans fk1
        replace fv1 := (qs_ne (h := h) (a := b) (o := (.inl (cy 1, N, .inr (.inl (qPour f q (List.map Prod.snd (trK m9 (r + 1) L))))))) n_b_va1).trans fv1
        replace fn1 := (qs_ne (h := h) (a := b) (o := (.inl (cy 1, N, .inr (.inl (qPour f q (List.map Prod.snd (trK m9 (r + 1) L))))))) n_b_na1).trans fn1
        replace hrow : (qs h b (.inl (cy 1, N, .inr (.inl (qPour f q (List.map Prod.snd (trK m9 (r + 1) L))))))) b = some (.inl (cy 1, N, .inr (.inl (qPour f q (List.map Prod.snd (trK m9 (r + 1) L)))))) := qs_self
        refine lv_iload_n hx hb dX3_pourValues_32 rfl (lv_at hl 2 rfl) ?_
        refine lv_aload_n hx hb dX3_pourValues_33 rfl (lv_at hl 0 rfl) ?_
        refine q_get C hP f1 rfl inX3 6 (by decide) g367 rfl dX3_pourValues_34 ?_
        refine q_alen C hP fv1 rfl dX3_pourValues_37 ?_
        refine q_iaddN hx hb dX3_pourValues_38 ?_
        refine lv_istore_n (lv' := [(3, .int (nI (q + ((trK m9 (r + 1) L).length)))), (0, .ref a), (1, .ref b), (2, .int (nI q))]) hx hb dX3_pourValues_39 rfl hl (by decide) rfl (fun ls hl => ?_)
        refine lv_aload_n hx hb dX3_pourValues_40 rfl (lv_at hl 1 rfl) ?_
        refine q_get C hP f1 rfl inX3 7 (by decide) g369 rfl dX3_pourValues_41 ?_
        refine lv_astore (lv' := [(4, .ref na1), (3, .int (nI (q + ((trK m9 (r + 1) L).length)))), (0, .ref a), (1, .ref b), (2, .int (nI q))]) hx hb dX3_pourValues_44 hl (by decide) rfl (fun ls hl => ?_)
        refine lv_aload hx hb dX3_pourValues_46 (lv_at hl 0 rfl) ?_
        refine q_alen C hP fn1 rfl dX3_pourValues_48 ?_
        refine lv_istore (lv' := [(5, .int (nI (trM m9 (r + 1) L).length)), (4, .ref na1), (3, .int (nI (q + ((trK m9 (r + 1) L).length)))), (0, .ref a), (1, .ref b), (2, .int (nI q))]) hx hb dX3_pourValues_49 hl (by decide) rfl (fun ls hl => ?_)
        refine lv_iconst (v := nI 0) hx hb dX3_pourValues_51 (by decide) ?_
        refine lv_istore (lv' := [(6, .int (nI 0)), (5, .int (nI (trM m9 (r + 1) L).length)), (4, .ref na1), (3, .int (nI (q + ((trK m9 (r + 1) L).length)))), (0, .ref a), (1, .ref b), (2, .int (nI q))]) hx hb dX3_pourValues_52 hl (by decide) rfl (fun ls hl => ?_)
        refine (?_ : ∀ (t : Nat) (H : Heap) (locs : List Loc) (ls : Array Slot) (j : Nat), (trM m9 (r + 1) L).length - j < t → lv_has ls 8 [(6, .int (nI j)), (5, .int (nI (trM m9 (r + 1) L).length)), (4, .ref na1), (3, .int (nI (q + (thU m9 r L Prod.snd j).length))), (1, .ref b)] → j ≤ (trM m9 (r + 1) L).length → qP D N0 (qs h b (.inl (cy 1, N, .inr (.inl (qPour f q (thU m9 r L Prod.snd j)))))) H → va_S (qA N0) s.heap H locs → W p l e _ s m _ below meth c H locs 0 0 _ (F0 m 54 ls [])) _ _ _ ls 0 (Nat.lt_succ_self _) (by rw [thU_0, List.length_map]; exact lv_sub hl [0, 1, 2, 3, 5] rfl) (Nat.zero_le _) (by rw [thU_0]; exact hP) hS
        clear hl hP hS
        intro t
        induction t with
        | zero => intro H locs ls j ht; exact absurd ht (Nat.not_lt_zero _)
        | succ t ihl =>
          intro H locs ls j ht hl hj hP hS
          have fb : (qs h b (.inl (cy 1, N, .inr (.inl (qPour f q (thU m9 r L Prod.snd j)))))) b = some (.inl (cy 1, N, .inr (.inl (qPour f q (thU m9 r L Prod.snd j))))) := qs_self
          have fn9 : (qs h b (.inl (cy 1, N, .inr (.inl (qPour f q (thU m9 r L Prod.snd j)))))) na1 = _ := (qs_ne n_b_na1).trans fn0
          have hul := thU_le (m := m9) (r := r) (L := L) (g := Prod.snd) (j := j)
          refine lv_iload hx hb dX3_pourValues_54 (lv_at hl 0 rfl) ?_
          refine lv_iload hx hb dX3_pourValues_56 (lv_at hl 1 rfl) ?_
          refine lv_icmp_ge (tgt := 82) hx hb dX3_pourValues_58 (by decide) (fun c58 => ?_) (fun c58 => ?_)
          · replace c58 : ((trM m9 (r + 1) L).length) ≤ j := (nI_leI (a := (trM m9 (r + 1) L).length) (b := j) (by omega) (by omega)).mp c58
            refine lv_iload_n hx hb dX3_pourValues_82 rfl (lv_at hl 3 rfl) ?_
            exact q_iret C hP hS ⟨by rw [thU_n (by omega), List.length_map, thT_len], by rw [thU_n (by omega)]⟩ (by omega) dX3_pourValues_83
          · replace c58 : ¬ ((trM m9 (r + 1) L).length) ≤ j := fun zq => c58 ((nI_leI (a := (trM m9 (r + 1) L).length) (b := j) (by omega) (by omega)).mpr zq)
            refine lv_aload hx hb dX3_pourValues_61 (lv_at hl 2 rfl) ?_
            refine lv_iload hx hb dX3_pourValues_63 (lv_at hl 0 rfl) ?_
            refine q_aaldR C hP fn9 rfl (by omega) (by omega) rfl dX3_pourValues_65 ?_
            refine lv_astore (lv' := [(7, .ref (C1 j)), (6, .int (nI j)), (5, .int (nI (trM m9 (r + 1) L).length)), (4, .ref na1), (3, .int (nI (q + (thU m9 r L Prod.snd j).length))), (1, .ref b)]) hx hb dX3_pourValues_66 hl (by decide) rfl (fun ls hl => ?_)
            refine lv_aload hx hb dX3_pourValues_68 (lv_at hl 0 rfl) ?_
            refine lv_aload_n hx hb dX3_pourValues_70 rfl (lv_at hl 5 rfl) ?_
            refine lv_iload_n hx hb dX3_pourValues_71 rfl (lv_at hl 4 rfl) ?_
            have hjl : j < (trM m9 (r + 1) L).length := by omega
            obtain ⟨v9, hv9⟩ : ∃ v, (trM m9 (r + 1) L)[j]? = some v := ⟨_, List.getElem?_eq_getElem hjl⟩
            have eU := thU_s (g := Prod.snd) hv9
            have hul2 := thU_le (m := m9) (r := r) (L := L) (g := Prod.snd) (j := j + 1)
            rw [eU, List.length_append, List.length_map, thT_len] at hul2
            obtain ⟨r9, er9, t9⟩ := hk1 j v9 hv9
            cases er9
            have hnx : ¬ Im b ∧ ¬ Xs1 j b := ⟨hnb.1, fun z => hnb.2 (hx1.1 j hjl b z).1⟩
            refine q_callS (rest := []) C (ih (qs h b (.inl (cy 1, N, .inr (.inl (qPour f q (thU m9 r L Prod.snd j)))))) r (C1 j) (thK m9 (6 - r) v9 L) (Xs1 j) b N (qPour f q (thU m9 r L Prod.snd j)) (q + (thU m9 r L Prod.snd j).length) (t9.row hnx) hnx fb (by omega) hN hN1 (by omega) (by omega)) kX3_pourValues g871 g869 hP hS (by first | decide | omega) hl.1 rfl (by decide) (by first | decide | omega) dX3_pourValues_72 (fun q ce E h' H1 locs1 hE => hE.elim) (fun v hh1 H locs hq hP hS => ?_)
            obtain ⟨rfl, rfl⟩ := hq
            rw [qs_qs] at hP
            refine lv_istore_n (lv' := [(3, .int (nI (q + (thU m9 r L Prod.snd j).length + (thK m9 (6 - r) v9 L).length))), (7, .ref (C1 j)), (6, .int (nI j)), (5, .int (nI (trM m9 (r + 1) L).length)), (4, .ref na1), (1, .ref b)]) hx hb dX3_pourValues_75 rfl hl (by decide) rfl (fun ls hl => ?_)
            refine lv_iinc (v := nI (j + 1)) (lv' := [(6, .int (nI (j + 1))), (3, .int (nI (q + (thU m9 r L Prod.snd j).length + (thK m9 (6 - r) v9 L).length))), (7, .ref (C1 j)), (5, .int (nI (trM m9 (r + 1) L).length)), (4, .ref na1), (1, .ref b)]) hx hb dX3_pourValues_76 hl (k := 2) rfl (nI_1 j) (by decide) rfl (fun ls hl => ?_)
            refine lv_goto (tgt := 54) hx hb dX3_pourValues_79 (by decide) ?_
            exact ihl H locs ls (j + 1) (by omega) (by rw [eU, List.length_append, List.length_map, thT_len, ← Nat.add_assoc]; exact lv_sub hl [0, 3, 4, 1, 5] rfl) (by omega) (by rw [eU, ← qPour_2]; exact hP) hS
      · replace c12 : ¬ (L.length) ≤ (N - q) := fun zq => c12 ((nI_leI (a := L.length) (b := (N - q)) (by omega) (by omega)).mpr zq)
        exfalso; omega
theorem dX3_pourValues_15 : decode cX3_pourValues 15 = .ok (.iload_n 2, 1) := by decide +kernel
theorem dX3_pourValues_16 : decode cX3_pourValues 16 = .ok (.ireturn, 1) := by decide +kernel
set_option maxRecDepth 100000 in
set_option maxHeartbeats 4000000 in
theorem c_X3_pourValuesN (l : Launch) (D : va_G) (cy : Nat → ClassId) (N0 : Nat) (h : qH) (b N : Nat) (q : Nat) : qC l D cy N0 yX3_pourValues cX3_pourValues 8 (some .int) 0 0 0 0 [.null, .ref b, .int (nI q)] h (fun v h' => v = some (.int (nI q)) ∧ h = h') (fun E h' => False) := by
  refine q_ofW (by decide) (by exact Nat.le_of_ble_eq_true rfl) ?_
  intro p e s m below meth c ls C hP hl
  have hx := C.1
  have hb := C.2.1
  have hS : va_S (qA N0) s.heap s.heap [] := va_S.rf
  have hl : lv_has ls 8 [(0, .null), (1, .ref b), (2, .int (nI q))] := hl
  refine lv_aload_nN hx hb dX3_pourValues_0 rfl (lv_at hl 0 rfl) ?_
  refine lv_ifnullN (tgt := 15) hx hb dX3_pourValues_1 (by decide) ?_
  refine lv_iload_n hx hb dX3_pourValues_15 rfl (lv_at hl 2 rfl) ?_
  exact q_iret C hP hS ⟨rfl, rfl⟩ (by omega) dX3_pourValues_16
