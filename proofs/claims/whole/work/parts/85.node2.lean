theorem thH_eq {m : Int32} {k k' : Int64} : k.toInt32 &&& m = k'.toInt32 &&& m ↔ thH m k = thH m k' := by
  unfold thH
  constructor
  · intro h; rw [h]
  · intro h; exact Int32.toBitVec.inj (BitVec.eq_of_toNat_eq h)
theorem th_get {K : qKV} {j : Nat} {k : Int64} (hj : j < K.length) (e : (K.map Prod.fst).getD j 0 = k) : ∃ x, K[j]? = some (k, x) := by
  rw [List.getD_eq_getElem?_getD, List.getElem?_map, List.getElem?_eq_getElem hj] at e
  refine ⟨K[j].2, ?_⟩
  rw [List.getElem?_eq_getElem hj, ← e]
  rfl
theorem th_key {K : qKV} {j : Nat} {p : Int64 × Int64} (h : K[j]? = some p) : (K.map Prod.fst).getD j 0 = p.1 := by
  rw [List.getD_eq_getElem?_getD, List.getElem?_map, h]
  rfl
theorem th_val {K : qKV} {j : Nat} {p : Int64 × Int64} (h : K[j]? = some p) : (K.map Prod.snd).getD j 0 = p.2 := by
  rw [List.getD_eq_getElem?_getD, List.getElem?_map, h]
  rfl
theorem th_sno {K : qKV} {j : Nat} {k : Int64} (hu : qUp K) (h1 : ∀ q, q < j → ((K.map Prod.fst).getD q 0).toInt < k.toInt) (h2 : j < K.length → k.toInt < ((K.map Prod.fst).getD j 0).toInt) : ∀ p ∈ K, p.1 ≠ k := by
  intro p hp e
  obtain ⟨i, hi, rfl⟩ := List.mem_iff_getElem.mp hp
  have ei := th_key (List.getElem?_eq_getElem hi)
  by_cases c : i < j
  · have := h1 i c
    rw [ei, e] at this
    omega
  · have g := h2 (by omega)
    have ej := th_key (List.getElem?_eq_getElem (show j < K.length by omega))
    rw [ej] at g
    have : K[j].1.toInt ≤ K[i].1.toInt := by
      rcases Nat.lt_or_eq_of_le (show j ≤ i by omega) with c | c
      · exact List.pairwise_iff_getElem.mp hu j i (by omega) hi c
      · subst c; exact Int.le_refl _
    rw [e] at this
    omega
theorem th_nno {m : Int32} {r : Nat} {L : qKV} {k : Int64} (h : tqC (thS m (6 - r) L) (thN m (6 - r) k) < (trK m (r + 1) L).length → ¬ ((List.map Prod.fst (trK m (r + 1) L)).getD (tqC (thS m (6 - r) L) (thN m (6 - r) k)) 0) = k) : ∀ p ∈ trK m (r + 1) L, p.1 ≠ k := by
  intro p hp e
  obtain ⟨h1, h2⟩ := trK_mem.mp hp
  obtain ⟨p', h3, h4⟩ := thS_one h2
  have h5 : p ∈ thK m (6 - r) (thN m (6 - r) p.1) L := thK_mem.mpr ⟨h1, rfl⟩
  rw [h3] at h5
  have h6 := List.mem_singleton.mp h5
  rw [← h6] at h4
  rw [e] at h4
  have h7 := trK_at thN_lt h4
  exact h (List.getElem?_eq_some_iff.mp h7).1 (by rw [th_key h7]; exact e)
theorem dX3_homeOf_0 : decode cX3_homeOf 0 = .ok (.lload_n 2, 1) := by decide +kernel
theorem dX3_homeOf_1 : decode cX3_homeOf 1 = .ok (.iload_n 1, 1) := by decide +kernel
theorem dX3_homeOf_2 : decode cX3_homeOf 2 = .ok (.invokestatic 41, 3) := by decide +kernel
theorem dX3_homeOf_5 : decode cX3_homeOf 5 = .ok (.istore 4, 2) := by decide +kernel
theorem dX3_homeOf_7 : decode cX3_homeOf 7 = .ok (.aload_n 0, 1) := by decide +kernel
theorem dX3_homeOf_8 : decode cX3_homeOf 8 = .ok (.astore 5, 2) := by decide +kernel
theorem dX3_homeOf_10 : decode cX3_homeOf 10 = .ok (.aload 5, 2) := by decide +kernel
theorem dX3_homeOf_12 : decode cX3_homeOf 12 = .ok (.ifnull 51, 3) := by decide +kernel
theorem dX3_homeOf_15 : decode cX3_homeOf 15 = .ok (.aload 5, 2) := by decide +kernel
theorem dX3_homeOf_17 : decode cX3_homeOf 17 = .ok (.getfield 45, 3) := by decide +kernel
theorem dX3_homeOf_20 : decode cX3_homeOf 20 = .ok (.iload 4, 2) := by decide +kernel
theorem dX3_homeOf_22 : decode cX3_homeOf 22 = .ok (.aload 5, 2) := by decide +kernel
theorem dX3_homeOf_24 : decode cX3_homeOf 24 = .ok (.getfield 21, 3) := by decide +kernel
theorem dX3_homeOf_27 : decode cX3_homeOf 27 = .ok (.invokestatic 48, 3) := by decide +kernel
theorem dX3_homeOf_30 : decode cX3_homeOf 30 = .ok (.iand, 1) := by decide +kernel
theorem dX3_homeOf_31 : decode cX3_homeOf 31 = .ok (.ifCond .eq 32, 3) := by decide +kernel
theorem dX3_homeOf_34 : decode cX3_homeOf 34 = .ok (.aload 5, 2) := by decide +kernel
theorem dX3_homeOf_36 : decode cX3_homeOf 36 = .ok (.getfield 28, 3) := by decide +kernel
theorem dX3_homeOf_39 : decode cX3_homeOf 39 = .ok (.iload 4, 2) := by decide +kernel
theorem dX3_homeOf_41 : decode cX3_homeOf 41 = .ok (.aload 5, 2) := by decide +kernel
theorem dX3_homeOf_43 : decode cX3_homeOf 43 = .ok (.getfield 21, 3) := by decide +kernel
theorem dX3_homeOf_46 : decode cX3_homeOf 46 = .ok (.invokestatic 48, 3) := by decide +kernel
theorem dX3_homeOf_49 : decode cX3_homeOf 49 = .ok (.aload 5, 2) := by decide +kernel
theorem dX3_homeOf_51 : decode cX3_homeOf 51 = .ok (.getfield 45, 3) := by decide +kernel
theorem dX3_homeOf_54 : decode cX3_homeOf 54 = .ok (.invokestatic 52, 3) := by decide +kernel
theorem dX3_homeOf_57 : decode cX3_homeOf 57 = .ok (.aaload, 1) := by decide +kernel
theorem dX3_homeOf_58 : decode cX3_homeOf 58 = .ok (.astore 5, 2) := by decide +kernel
theorem dX3_homeOf_60 : decode cX3_homeOf 60 = .ok (.goto (-50), 3) := by decide +kernel
theorem dX3_homeOf_63 : decode cX3_homeOf 63 = .ok (.aload 5, 2) := by decide +kernel
theorem dX3_homeOf_65 : decode cX3_homeOf 65 = .ok (.areturn, 1) := by decide +kernel
set_option maxRecDepth 100000 in
set_option maxHeartbeats 4000000 in
theorem c_X3_homeOf (l : Launch) (D : va_G) (cy : Nat → ClassId) (N0 : Nat) (h : qH) (Im : Nat → Prop) (e9 : Nat) (Ok : Nat → Prop) (m9 : Int32) (x : Option Nat) (L : qKV) (X : Nat → Prop) (k : Int64) (hR : qRt cy h Im e9 Ok m9 x L X) : qC l D cy N0 yX3_homeOf cX3_homeOf 6 (some (.object RX3)) 2 60 0 0 [va_rf x, .int m9, .long k] h (fun v h' => h = h' ∧ ((x = none ∧ v = some .null) ∨ ∃ (a1 : Nat) (X1 : Nat → Prop), v = some (.ref a1) ∧ L ≠ [] ∧ qTr cy h Im e9 Ok m9 ((thHm m9 k 7 L).1) a1 ((thHm m9 k 7 L).2) X1)) (fun E h' => False) := by
  refine q_ofW (by decide) (by simp [lg_sl, q_catrf, q_cati, q_catl, q_cata, q_catn]) ?_
  intro p e s m below meth c ls C hP hl
  have hx := C.1
  have hb := C.2.1
  have hS : va_S (qA N0) s.heap s.heap [] := va_S.rf
  have hl : lv_has ls 6 [(0, va_rf x), (1, .int m9), (2, .long k)] := by simpa [lv_args, q_catrf, q_cati, q_catl, q_cata, q_catn] using hl
  rcases hR with ⟨rfl, rfl⟩ | ⟨a, rfl, hne, hT⟩
  · refine lv_lload_n hx hb dX3_homeOf_0 rfl (lv_at hl 2 rfl) ?_
    refine lv_iload_n hx hb dX3_homeOf_1 rfl (lv_at hl 1 rfl) ?_
    refine q_callS (rest := []) C (c_X3_hashOf l D cy N0 h k m9) kX3_hashOf g299 g300 hP hS (by first | decide | omega) hl.1 rfl (by decide) (by first | decide | omega) dX3_homeOf_2 (fun q ce E h' H1 locs1 hE => hE.elim) (fun v hh1 H locs hq hP hS => ?_)
    obtain ⟨rfl, rfl⟩ := hq
    refine lv_istore (lv' := [(4, .int (k.toInt32 &&& m9)), (0, .null), (1, .int m9), (2, .long k)]) hx hb dX3_homeOf_5 hl (by decide) rfl (fun ls hl => ?_)
    refine lv_aload_nN hx hb dX3_homeOf_7 rfl (lv_at hl 1 rfl) ?_
    refine lv_astoreN (lv' := [(5, .null), (4, .int (k.toInt32 &&& m9)), (0, .null), (1, .int m9), (2, .long k)]) hx hb dX3_homeOf_8 hl (by decide) rfl (fun ls hl => ?_)
    refine lv_aloadN hx hb dX3_homeOf_10 (lv_at hl 0 rfl) ?_
    refine lv_ifnullN (tgt := 63) hx hb dX3_homeOf_12 (by decide) ?_
    refine lv_aloadN hx hb dX3_homeOf_63 (lv_at hl 0 rfl) ?_
    exact q_aret (v := none) C (Or.inl ⟨_, rfl⟩) hP hS ⟨rfl, Or.inl ⟨rfl, rfl⟩⟩ (by omega) dX3_homeOf_65
  · refine lv_lload_n hx hb dX3_homeOf_0 rfl (lv_at hl 2 rfl) ?_
    refine lv_iload_n hx hb dX3_homeOf_1 rfl (lv_at hl 1 rfl) ?_
    refine q_callS (rest := []) C (c_X3_hashOf l D cy N0 h k m9) kX3_hashOf g299 g300 hP hS (by first | decide | omega) hl.1 rfl (by decide) (by first | decide | omega) dX3_homeOf_2 (fun q ce E h' H1 locs1 hE => hE.elim) (fun v hh2 H locs hq hP hS => ?_)
    obtain ⟨rfl, rfl⟩ := hq
    refine lv_istore (lv' := [(4, .int (k.toInt32 &&& m9)), (0, .ref a), (1, .int m9), (2, .long k)]) hx hb dX3_homeOf_5 hl (by decide) rfl (fun ls hl => ?_)
    refine lv_aload_n hx hb dX3_homeOf_7 rfl (lv_at hl 1 rfl) ?_
    refine lv_astore (lv' := [(5, .ref a), (4, .int (k.toInt32 &&& m9)), (0, .ref a), (1, .int m9), (2, .long k)]) hx hb dX3_homeOf_8 hl (by decide) rfl (fun ls hl => ?_)
    refine (?_ : ∀ (t : Nat) (H : Heap) (locs : List Loc) (ls : Array Slot) (a1 r1 : Nat) (L1 : qKV) (X1 : Nat → Prop), r1 < t → qTr cy h Im e9 Ok m9 r1 a1 L1 X1 → r1 ≤ 7 → thHm m9 k r1 L1 = thHm m9 k 7 L → lv_has ls 6 [(5, .ref a1), (4, .int (k.toInt32 &&& m9))] → qP D N0 h H → va_S (qA N0) s.heap H locs → W p l e _ s m _ below meth c H locs 0 0 _ (F0 m 10 ls [])) _ _ _ ls a 7 L X (Nat.lt_succ_self _) hT (by omega) rfl (lv_sub hl [0, 1] rfl) hP hS
    clear hl hP hS
    intro t
    induction t with
    | zero => intro H locs ls a1 r1 L1 X1 ht; exact absurd ht (Nat.not_lt_zero _)
    | succ t ihl =>
      intro H locs ls a1 r1 L1 X1 ht hT1 hr1 hH1 hl hP hS
      obtain ⟨ow1, ka1, va1, na1, C1, Xs1, hn1, hx1, hk1⟩ := hT1.inv
      have f1 := hn1.1
      have fk1 := hn1.2.1
      have fv1 := hn1.2.2.1
      have fn1 := hn1.2.2.2.1
      unfold thNo at f1
      unfold thJ at fk1 fv1
      unfold thA at fn1
      rw [List.length_map] at fk1 fv1
      have hx1l := trM_len (m := m9) (r := r1) (L := L1)
      cases r1 with
      | zero =>
        refine lv_aload hx hb dX3_homeOf_10 (lv_at hl 0 rfl) ?_
        refine lv_ifnull hx hb dX3_homeOf_12 ?_
        refine lv_aload hx hb dX3_homeOf_15 (lv_at hl 0 rfl) ?_
        refine q_get C hP f1 rfl inX3 3 (by decide) g364 rfl dX3_homeOf_17 ?_
        refine lv_iload hx hb dX3_homeOf_20 (lv_at hl 1 rfl) ?_
        refine lv_aload hx hb dX3_homeOf_22 (lv_at hl 0 rfl) ?_
        refine q_get C hP f1 rfl inX3 0 (by decide) g361 rfl dX3_homeOf_24 ?_
        refine q_callS (rest := [.int (nI (trNb m9 0 L1))]) C (c_X3_bitOf l D cy N0 h k m9 (7 - 0) (by omega)) kX3_bitOf g302 g303 hP hS (by first | decide | omega) hl.1 rfl (by simp [q_catrf, q_cati, q_catl, q_cata, q_catn]) (by first | decide | omega) dX3_homeOf_27 (fun q ce E h' H1 locs1 hE => hE.elim) (fun v hh3 H locs hq hP hS => ?_)
        obtain ⟨rfl, rfl⟩ := hq
        rw [thB_0]
        refine lv_iand hx hb dX3_homeOf_30 ?_
        refine lv_if_eq (tgt := 63) hx hb dX3_homeOf_31 (by decide) (fun c31 => ?_) (fun c31 => absurd (show nI 0 &&& nI 0 = 0 by decide) c31)
        refine lv_aload hx hb dX3_homeOf_63 (lv_at hl 0 rfl) ?_
        have ex : thHm m9 k 7 L = (0, L1) := hH1.symm.trans rfl
        exact q_aret (v := some a1) C (Or.inl ⟨_, rfl⟩) hP hS ⟨rfl, Or.inr ⟨a1, X1, rfl, hne, by rw [ex]; exact hT1⟩⟩ (by omega) dX3_homeOf_65
      | succ r1 =>
        refine lv_aload hx hb dX3_homeOf_10 (lv_at hl 0 rfl) ?_
        refine lv_ifnull hx hb dX3_homeOf_12 ?_
        refine lv_aload hx hb dX3_homeOf_15 (lv_at hl 0 rfl) ?_
        refine q_get C hP f1 rfl inX3 3 (by decide) g364 rfl dX3_homeOf_17 ?_
        refine lv_iload hx hb dX3_homeOf_20 (lv_at hl 1 rfl) ?_
        refine lv_aload hx hb dX3_homeOf_22 (lv_at hl 0 rfl) ?_
        refine q_get C hP f1 rfl inX3 0 (by decide) g361 rfl dX3_homeOf_24 ?_
        refine q_callS (rest := [.int (nI (trNb m9 (r1 + 1) L1))]) C (c_X3_bitOf l D cy N0 h k m9 (7 - (r1 + 1)) (by omega)) kX3_bitOf g302 g303 hP hS (by first | decide | omega) hl.1 rfl (by simp [q_catrf, q_cati, q_catl, q_cata, q_catn]) (by first | decide | omega) dX3_homeOf_27 (fun q ce E h' H1 locs1 hE => hE.elim) (fun v hh4 H locs hq hP hS => ?_)
        obtain ⟨rfl, rfl⟩ := hq
        rw [thB_s (m := m9) (k := k) (r := r1) (by omega)]
        refine lv_iand hx hb dX3_homeOf_30 ?_
        refine lv_if_eq (tgt := 63) hx hb dX3_homeOf_31 (by decide) (fun c31 => ?_) (fun c31 => ?_)
        · have hm9 := (trNb_has thN_lt).mp c31
          refine lv_aload hx hb dX3_homeOf_63 (lv_at hl 0 rfl) ?_
          have ex : thHm m9 k 7 L = (r1 + 1, L1) := hH1.symm.trans (by show (if _ then _ else _) = _; rw [if_neg (by rw [hm9]; decide)])
          exact q_aret (v := some a1) C (Or.inl ⟨_, rfl⟩) hP hS ⟨rfl, Or.inr ⟨a1, X1, rfl, hne, by rw [ex]; exact hT1⟩⟩ (by omega) dX3_homeOf_65
        · have hm9 : thM m9 (6 - r1) L1 (thN m9 (6 - r1) k) = true := by
            cases z : thM m9 (6 - r1) L1 (thN m9 (6 - r1) k) with
            | true => rfl
            | false => exact absurd ((trNb_has thN_lt).mpr z) c31
          have hat := trM_at (r := r1) thN_lt hm9
          have hlt := (List.getElem?_eq_some_iff.mp hat).1
          refine lv_aload hx hb dX3_homeOf_34 (lv_at hl 0 rfl) ?_
          refine q_get C hP f1 rfl inX3 7 (by decide) g369 rfl dX3_homeOf_36 ?_
          refine lv_iload hx hb dX3_homeOf_39 (lv_at hl 1 rfl) ?_
          refine lv_aload hx hb dX3_homeOf_41 (lv_at hl 0 rfl) ?_
          refine q_get C hP f1 rfl inX3 0 (by decide) g361 rfl dX3_homeOf_43 ?_
          refine q_callS (rest := [.ref na1]) C (c_X3_bitOf l D cy N0 h k m9 (7 - (r1 + 1)) (by omega)) kX3_bitOf g302 g303 hP hS (by first | decide | omega) hl.1 rfl (by simp [q_catrf, q_cati, q_catl, q_cata, q_catn]) (by first | decide | omega) dX3_homeOf_46 (fun q ce E h' H1 locs1 hE => hE.elim) (fun v hh5 H locs hq hP hS => ?_)
          obtain ⟨rfl, rfl⟩ := hq
          rw [thB_s (m := m9) (k := k) (r := r1) (by omega)]
          refine lv_aload hx hb dX3_homeOf_49 (lv_at hl 0 rfl) ?_
          refine q_get C hP f1 rfl inX3 3 (by decide) g364 rfl dX3_homeOf_51 ?_
          refine q_callS (rest := [.ref na1]) C (c_X3_rankOf l D cy N0 h (thM m9 (6 - r1) L1) (thN m9 (6 - r1) k) thN_lt) kX3_rankOf g305 g306 hP hS (by first | decide | omega) hl.1 rfl (by simp [q_catrf, q_cati, q_catl, q_cata, q_catn]) (by first | decide | omega) dX3_homeOf_54 (fun q ce E h' H1 locs1 hE => hE.elim) (fun v hh6 H locs hq hP hS => ?_)
          obtain ⟨rfl, rfl⟩ := hq
          refine q_aaldR C hP fn1 rfl hlt (by omega) rfl dX3_homeOf_57 ?_
          refine lv_astore (lv' := [(5, .ref (C1 (tqC (thM m9 (6 - r1) L1) (thN m9 (6 - r1) k)))), (4, .int (k.toInt32 &&& m9))]) hx hb dX3_homeOf_58 hl (by decide) rfl (fun ls hl => ?_)
          refine lv_goto (tgt := 10) hx hb dX3_homeOf_60 (by decide) ?_
          obtain ⟨r2, e2, hT2⟩ := hk1 _ _ hat
          cases e2
          exact ihl H locs ls _ r1 _ _ (by omega) hT2 (by omega) (by rw [← hH1]; show _ = if _ then _ else _; rw [if_pos hm9]) (lv_sub hl [0, 1] rfl) hP hS
theorem dX3_sortedPlace_0 : decode cX3_sortedPlace 0 = .ok (.iconst 0, 1) := by decide +kernel
theorem dX3_sortedPlace_1 : decode cX3_sortedPlace 1 = .ok (.istore_n 3, 1) := by decide +kernel
theorem dX3_sortedPlace_2 : decode cX3_sortedPlace 2 = .ok (.iload_n 3, 1) := by decide +kernel
theorem dX3_sortedPlace_3 : decode cX3_sortedPlace 3 = .ok (.aload_n 0, 1) := by decide +kernel
theorem dX3_sortedPlace_4 : decode cX3_sortedPlace 4 = .ok (.getfield 15, 3) := by decide +kernel
theorem dX3_sortedPlace_7 : decode cX3_sortedPlace 7 = .ok (.arraylength, 1) := by decide +kernel
theorem dX3_sortedPlace_8 : decode cX3_sortedPlace 8 = .ok (.if_icmp .ge 20, 3) := by decide +kernel
theorem dX3_sortedPlace_11 : decode cX3_sortedPlace 11 = .ok (.aload_n 0, 1) := by decide +kernel
theorem dX3_sortedPlace_12 : decode cX3_sortedPlace 12 = .ok (.getfield 15, 3) := by decide +kernel
theorem dX3_sortedPlace_15 : decode cX3_sortedPlace 15 = .ok (.iload_n 3, 1) := by decide +kernel
theorem dX3_sortedPlace_16 : decode cX3_sortedPlace 16 = .ok (.laload, 1) := by decide +kernel
theorem dX3_sortedPlace_17 : decode cX3_sortedPlace 17 = .ok (.lload_n 1, 1) := by decide +kernel
theorem dX3_sortedPlace_18 : decode cX3_sortedPlace 18 = .ok (.lcmp, 1) := by decide +kernel
theorem dX3_sortedPlace_19 : decode cX3_sortedPlace 19 = .ok (.ifCond .ge 9, 3) := by decide +kernel
theorem dX3_sortedPlace_22 : decode cX3_sortedPlace 22 = .ok (.iinc 3 1, 3) := by decide +kernel
theorem dX3_sortedPlace_25 : decode cX3_sortedPlace 25 = .ok (.goto (-23), 3) := by decide +kernel
theorem dX3_sortedPlace_28 : decode cX3_sortedPlace 28 = .ok (.iload_n 3, 1) := by decide +kernel
theorem dX3_sortedPlace_29 : decode cX3_sortedPlace 29 = .ok (.ireturn, 1) := by decide +kernel
set_option maxRecDepth 100000 in
set_option maxHeartbeats 4000000 in
theorem c_X3_sortedPlace (l : Launch) (D : va_G) (cy : Nat → ClassId) (N0 : Nat) (h : qH) (Im : Nat → Prop) (e9 : Nat) (Ok : Nat → Prop) (m9 : Int32) (a : Nat) (L : qKV) (n1 : Nat) (X : Nat → Prop) (ow1 ka1 va1 na1 : Nat) (C1 : Nat → Nat) (k : Int64) (hn1 : thNd cy h Im e9 Ok m9 0 a L n1 X ow1 ka1 va1 na1 C1) (hL : L.length < 1000000) : qC l D cy N0 yX3_sortedPlace cX3_sortedPlace 4 (some .int) 0 0 0 0 [.ref a, .long k] h (fun v h' => ∃ j, v = some (.int (nI j)) ∧ h = h' ∧ j ≤ (trK m9 0 L).length ∧ (∀ q, q < j → ((List.map Prod.fst (trK m9 0 L)).getD q 0).toInt < k.toInt) ∧ (j < (trK m9 0 L).length → k.toInt ≤ ((List.map Prod.fst (trK m9 0 L)).getD j 0).toInt)) (fun E h' => False) := by
  refine q_ofW (by decide) (by exact Nat.le_of_ble_eq_true rfl) ?_
  intro p e s m below meth c ls C hP hl
  have hx := C.1
  have hb := C.2.1
  have hS : va_S (qA N0) s.heap s.heap [] := va_S.rf
  have hl : lv_has ls 4 [(0, .ref a), (1, .long k)] := hl
  have f1 := hn1.1
  have fk1 := hn1.2.1
  have fv1 := hn1.2.2.1
  have fn1 := hn1.2.2.2.1
  unfold thNo at f1
  unfold thJ at fk1 fv1
  unfold thA at fn1
  rw [List.length_map] at fk1 fv1
  have hlen : (trK m9 0 L).length = L.length := thO_len
  refine lv_iconst (v := nI 0) hx hb dX3_sortedPlace_0 (by decide) ?_
  refine lv_istore_n (lv' := [(3, .int (nI 0)), (0, .ref a), (1, .long k)]) hx hb dX3_sortedPlace_1 rfl hl (by decide) rfl (fun ls hl => ?_)
  refine (?_ : ∀ (t : Nat) (H : Heap) (locs : List Loc) (ls : Array Slot) (j : Nat), (trK m9 0 L).length - j < t → lv_has ls 4 [(3, .int (nI j)), (0, .ref a), (1, .long k)] → j ≤ (trK m9 0 L).length → (∀ q, q < j → ((List.map Prod.fst (trK m9 0 L)).getD q 0).toInt < k.toInt) → qP D N0 h H → va_S (qA N0) s.heap H locs → W p l e _ s m _ below meth c H locs 0 0 _ (F0 m 2 ls [])) _ _ _ ls 0 (Nat.lt_succ_self _) (lv_sub hl [0, 1, 2] rfl) (Nat.zero_le _) (fun q hq => absurd hq (Nat.not_lt_zero _)) hP hS
  clear hl hP hS
  intro t
  induction t with
  | zero => intro H locs ls j ht; exact absurd ht (Nat.not_lt_zero _)
  | succ t ihl =>
    intro H locs ls j ht hl hj kk hP hS
    refine lv_iload_n hx hb dX3_sortedPlace_2 rfl (lv_at hl 0 rfl) ?_
    refine lv_aload_n hx hb dX3_sortedPlace_3 rfl (lv_at hl 1 rfl) ?_
    refine q_get C hP f1 rfl inX3 5 (by decide) g366 rfl dX3_sortedPlace_4 ?_
    refine q_alen C hP fk1 rfl dX3_sortedPlace_7 ?_
    refine lv_icmp_ge (tgt := 28) hx hb dX3_sortedPlace_8 (by decide) (fun c8 => ?_) (fun c8 => ?_)
    · replace c8 : ((trK m9 0 L).length) ≤ j := (nI_leI (a := (trK m9 0 L).length) (b := j) (by omega) (by omega)).mp c8
      refine lv_iload_n hx hb dX3_sortedPlace_28 rfl (lv_at hl 0 rfl) ?_
      exact q_iret C hP hS ⟨j, rfl, rfl, hj, kk, fun z => by omega⟩ (by omega) dX3_sortedPlace_29
    · replace c8 : ¬ ((trK m9 0 L).length) ≤ j := fun zq => c8 ((nI_leI (a := (trK m9 0 L).length) (b := j) (by omega) (by omega)).mpr zq)
      refine lv_aload_n hx hb dX3_sortedPlace_11 rfl (lv_at hl 1 rfl) ?_
      refine q_get C hP f1 rfl inX3 5 (by decide) g366 rfl dX3_sortedPlace_12 ?_
      refine lv_iload_n hx hb dX3_sortedPlace_15 rfl (lv_at hl 0 rfl) ?_
      refine q_laldN C hP fk1 (by omega) (by omega) dX3_sortedPlace_16 ?_
      refine lv_lload_n hx hb dX3_sortedPlace_17 rfl (lv_at hl 2 rfl) ?_
      refine W.lcmp hx hb dX3_sortedPlace_18 ?_
      refine lv_if_ge (tgt := 28) hx hb dX3_sortedPlace_19 (by decide) (fun c19 => ?_) (fun c19 => ?_)
      · replace c19 : k.toInt ≤ ((List.map Prod.fst (trK m9 0 L)).getD j 0).toInt := Int64.le_iff_toInt_le.mp ((lg_cmp_ge _ _).mp c19)
        refine lv_iload_n hx hb dX3_sortedPlace_28 rfl (lv_at hl 0 rfl) ?_
        exact q_iret C hP hS ⟨j, rfl, rfl, hj, kk, fun z => by omega⟩ (by omega) dX3_sortedPlace_29
      · replace c19 : ¬ k.toInt ≤ ((List.map Prod.fst (trK m9 0 L)).getD j 0).toInt := fun zq => c19 ((lg_cmp_ge _ _).mpr (Int64.le_iff_toInt_le.mpr zq))
        refine lv_iinc (v := nI (j + 1)) (lv' := [(3, .int (nI (j + 1))), (0, .ref a), (1, .long k)]) hx hb dX3_sortedPlace_22 hl (k := 0) rfl (nI_1 j) (by decide) rfl (fun ls hl => ?_)
        refine lv_goto (tgt := 2) hx hb dX3_sortedPlace_25 (by decide) ?_
        exact ihl H locs ls (j + 1) (by omega) (lv_sub hl [0, 1, 2] rfl) (by omega) (fun q hq => if e : q = j then by (subst e; omega) else kk q (by omega)) hP hS
theorem dX3_placeOf_0 : decode cX3_placeOf 0 = .ok (.aload_n 0, 1) := by decide +kernel
theorem dX3_placeOf_1 : decode cX3_placeOf 1 = .ok (.getfield 21, 3) := by decide +kernel
theorem dX3_placeOf_4 : decode cX3_placeOf 4 = .ok (.bipush 7, 2) := by decide +kernel
theorem dX3_placeOf_6 : decode cX3_placeOf 6 = .ok (.if_icmp .ge 25, 3) := by decide +kernel
theorem dX3_placeOf_9 : decode cX3_placeOf 9 = .ok (.lload_n 2, 1) := by decide +kernel
theorem dX3_placeOf_10 : decode cX3_placeOf 10 = .ok (.iload_n 1, 1) := by decide +kernel
theorem dX3_placeOf_11 : decode cX3_placeOf 11 = .ok (.invokestatic 41, 3) := by decide +kernel
theorem dX3_placeOf_14 : decode cX3_placeOf 14 = .ok (.aload_n 0, 1) := by decide +kernel
theorem dX3_placeOf_15 : decode cX3_placeOf 15 = .ok (.getfield 21, 3) := by decide +kernel
theorem dX3_placeOf_18 : decode cX3_placeOf 18 = .ok (.invokestatic 48, 3) := by decide +kernel
theorem dX3_placeOf_21 : decode cX3_placeOf 21 = .ok (.aload_n 0, 1) := by decide +kernel
theorem dX3_placeOf_22 : decode cX3_placeOf 22 = .ok (.getfield 55, 3) := by decide +kernel
theorem dX3_placeOf_25 : decode cX3_placeOf 25 = .ok (.invokestatic 52, 3) := by decide +kernel
theorem dX3_placeOf_28 : decode cX3_placeOf 28 = .ok (.goto 8, 3) := by decide +kernel
theorem dX3_placeOf_31 : decode cX3_placeOf 31 = .ok (.aload_n 0, 1) := by decide +kernel
theorem dX3_placeOf_32 : decode cX3_placeOf 32 = .ok (.lload_n 2, 1) := by decide +kernel
theorem dX3_placeOf_33 : decode cX3_placeOf 33 = .ok (.invokevirtual 58, 3) := by decide +kernel
theorem dX3_placeOf_36 : decode cX3_placeOf 36 = .ok (.istore 4, 2) := by decide +kernel
theorem dX3_placeOf_38 : decode cX3_placeOf 38 = .ok (.iload 4, 2) := by decide +kernel
theorem dX3_placeOf_40 : decode cX3_placeOf 40 = .ok (.aload_n 0, 1) := by decide +kernel
theorem dX3_placeOf_41 : decode cX3_placeOf 41 = .ok (.getfield 15, 3) := by decide +kernel
theorem dX3_placeOf_44 : decode cX3_placeOf 44 = .ok (.arraylength, 1) := by decide +kernel
theorem dX3_placeOf_45 : decode cX3_placeOf 45 = .ok (.if_icmp .ge 20, 3) := by decide +kernel
theorem dX3_placeOf_48 : decode cX3_placeOf 48 = .ok (.aload_n 0, 1) := by decide +kernel
theorem dX3_placeOf_49 : decode cX3_placeOf 49 = .ok (.getfield 15, 3) := by decide +kernel
theorem dX3_placeOf_52 : decode cX3_placeOf 52 = .ok (.iload 4, 2) := by decide +kernel
theorem dX3_placeOf_54 : decode cX3_placeOf 54 = .ok (.laload, 1) := by decide +kernel
theorem dX3_placeOf_55 : decode cX3_placeOf 55 = .ok (.lload_n 2, 1) := by decide +kernel
theorem dX3_placeOf_56 : decode cX3_placeOf 56 = .ok (.lcmp, 1) := by decide +kernel
theorem dX3_placeOf_57 : decode cX3_placeOf 57 = .ok (.ifCond .ne 8, 3) := by decide +kernel
theorem dX3_placeOf_60 : decode cX3_placeOf 60 = .ok (.iload 4, 2) := by decide +kernel
theorem dX3_placeOf_62 : decode cX3_placeOf 62 = .ok (.goto 4, 3) := by decide +kernel
theorem dX3_placeOf_65 : decode cX3_placeOf 65 = .ok (.iconst (-1), 1) := by decide +kernel
theorem dX3_placeOf_66 : decode cX3_placeOf 66 = .ok (.ireturn, 1) := by decide +kernel
set_option maxRecDepth 100000 in
set_option maxHeartbeats 4000000 in
theorem c_X3_placeOf (l : Launch) (D : va_G) (cy : Nat → ClassId) (N0 : Nat) (h : qH) (Im : Nat → Prop) (e9 : Nat) (Ok : Nat → Prop) (m9 : Int32) (r : Nat) (a : Nat) (L : qKV) (n1 : Nat) (X : Nat → Prop) (ow1 ka1 va1 na1 : Nat) (C1 : Nat → Nat) (k : Int64) (hn1 : thNd cy h Im e9 Ok m9 r a L n1 X ow1 ka1 va1 na1 C1) (hr : r ≤ 7) (hL : L.length < 1000000) (hKl : (trK m9 r L).length < 1000000) : qC l D cy N0 yX3_placeOf cX3_placeOf 5 (some .int) 2 60 0 0 [.ref a, .int m9, .long k] h (fun v h' => h = h' ∧ ((∃ j x, v = some (.int (nI j)) ∧ (trK m9 r L)[j]? = some (k, x)) ∨ (v = some (.int (-1)) ∧ ∀ p ∈ trK m9 r L, p.1 ≠ k))) (fun E h' => False) := by
  refine q_ofW (by decide) (by exact Nat.le_of_ble_eq_true rfl) ?_
  intro p e s m below meth c ls C hP hl
  have hx := C.1
  have hb := C.2.1
  have hS : va_S (qA N0) s.heap s.heap [] := va_S.rf
  have hl : lv_has ls 5 [(0, .ref a), (1, .int m9), (2, .long k)] := hl
  have f1 := hn1.1
  have fk1 := hn1.2.1
  have fv1 := hn1.2.2.1
  have fn1 := hn1.2.2.2.1
  unfold thNo at f1
  unfold thJ at fk1 fv1
  unfold thA at fn1
  rw [List.length_map] at fk1 fv1
  cases r with
  | zero =>
    have hlen : (trK m9 0 L).length = L.length := thO_len
    refine lv_aload_n hx hb dX3_placeOf_0 rfl (lv_at hl 0 rfl) ?_
    refine q_get C hP f1 rfl inX3 0 (by decide) g361 rfl dX3_placeOf_1 ?_
    refine lv_bipush (v := nI 7) hx hb dX3_placeOf_4 (by decide) ?_
    refine lv_icmp_ge (tgt := 31) hx hb dX3_placeOf_6 (by decide) (fun c6 => ?_) (fun c6 => ?_)
    · replace c6 : 7 ≤ (7 - 0) := (nI_leI (a := 7) (b := (7 - 0)) (by omega) (by omega)).mp c6
      refine lv_aload_n hx hb dX3_placeOf_31 rfl (lv_at hl 0 rfl) ?_
      refine lv_lload_n hx hb dX3_placeOf_32 rfl (lv_at hl 2 rfl) ?_
      refine q_callV (rest := []) C (c_X3_sortedPlace l D cy N0 h Im e9 Ok m9 a L n1 X ow1 ka1 va1 na1 C1 k hn1 hL) kX3_sortedPlace g319 g321 rfl gp6 g12 hP hS f1 (by first | decide | omega) hl.1 rfl (by decide) (by first | decide | omega) dX3_placeOf_33 (fun q ce E h' H1 locs1 hE => hE.elim) (fun v hh1 H locs hq hP hS => ?_)
      obtain ⟨j9, rfl, rfl, hj9, k9, g9⟩ := hq
      refine lv_istore (lv' := [(4, .int (nI j9)), (0, .ref a), (1, .int m9), (2, .long k)]) hx hb dX3_placeOf_36 hl (by decide) rfl (fun ls hl => ?_)
      refine lv_iload hx hb dX3_placeOf_38 (lv_at hl 0 rfl) ?_
      refine lv_aload_n hx hb dX3_placeOf_40 rfl (lv_at hl 1 rfl) ?_
      refine q_get C hP f1 rfl inX3 5 (by decide) g366 rfl dX3_placeOf_41 ?_
      refine q_alen C hP fk1 rfl dX3_placeOf_44 ?_
      refine lv_icmp_ge (tgt := 65) hx hb dX3_placeOf_45 (by decide) (fun c45 => ?_) (fun c45 => ?_)
      · replace c45 : ((trK m9 0 L).length) ≤ j9 := (nI_leI (a := (trK m9 0 L).length) (b := j9) (by omega) (by omega)).mp c45
        refine lv_iconst (v := -1) hx hb dX3_placeOf_65 (by decide) ?_
        exact q_iret C hP hS ⟨rfl, Or.inr ⟨rfl, th_sno (thO_up L) k9 (fun z => by have hz : j9 < (trK m9 0 L).length := z; omega)⟩⟩ (by omega) dX3_placeOf_66
      · replace c45 : ¬ ((trK m9 0 L).length) ≤ j9 := fun zq => c45 ((nI_leI (a := (trK m9 0 L).length) (b := j9) (by omega) (by omega)).mpr zq)
        refine lv_aload_n hx hb dX3_placeOf_48 rfl (lv_at hl 1 rfl) ?_
        refine q_get C hP f1 rfl inX3 5 (by decide) g366 rfl dX3_placeOf_49 ?_
        refine lv_iload hx hb dX3_placeOf_52 (lv_at hl 0 rfl) ?_
        refine q_laldN C hP fk1 (by omega) (by omega) dX3_placeOf_54 ?_
        refine lv_lload_n hx hb dX3_placeOf_55 rfl (lv_at hl 3 rfl) ?_
        refine W.lcmp hx hb dX3_placeOf_56 ?_
        refine lv_if_ne (tgt := 65) hx hb dX3_placeOf_57 (by decide) (fun c57 => ?_) (fun c57 => ?_)
        · replace c57 : ¬ ((List.map Prod.fst (trK m9 0 L)).getD j9 0).toInt = k.toInt := fun zq => c57 ((lg_cmp_eq _ _).mpr (Int64.toInt_inj.symm.mpr zq))
          refine lv_iconst (v := -1) hx hb dX3_placeOf_65 (by decide) ?_
          exact q_iret C hP hS ⟨rfl, Or.inr ⟨rfl, th_sno (thO_up L) k9 (fun z => by have hz := g9 z; have h8 : ((List.map Prod.fst (trK m9 0 L)).getD j9 0).toInt ≠ k.toInt := c57; omega)⟩⟩ (by omega) dX3_placeOf_66
        · replace c57 : ((List.map Prod.fst (trK m9 0 L)).getD j9 0).toInt = k.toInt := Int64.toInt_inj.symm.mp ((lg_cmp_eq _ _).mp c57)
          refine lv_iload hx hb dX3_placeOf_60 (lv_at hl 0 rfl) ?_
          refine lv_goto (tgt := 66) hx hb dX3_placeOf_62 (by decide) ?_
          obtain ⟨x9, ex9⟩ := th_get (K := trK m9 0 L) (j := j9) (k := k) (by omega) (Int64.toInt_inj.mp c57)
          exact q_iret C hP hS ⟨rfl, Or.inl ⟨j9, x9, rfl, ex9⟩⟩ (by omega) dX3_placeOf_66
    · replace c6 : ¬ 7 ≤ (7 - 0) := fun zq => c6 ((nI_leI (a := 7) (b := (7 - 0)) (by omega) (by omega)).mpr zq)
      exfalso; omega
  | succ r =>
    have hlen := hKl
    have htq := tqC_le (p := thS m9 (6 - r) L) (thN m9 (6 - r) k)
    have htn := thN_lt (m := m9) (d := 6 - r) (k := k)
    refine lv_aload_n hx hb dX3_placeOf_0 rfl (lv_at hl 0 rfl) ?_
    refine q_get C hP f1 rfl inX3 0 (by decide) g361 rfl dX3_placeOf_1 ?_
    refine lv_bipush (v := nI 7) hx hb dX3_placeOf_4 (by decide) ?_
    refine lv_icmp_ge (tgt := 31) hx hb dX3_placeOf_6 (by decide) (fun c6 => ?_) (fun c6 => ?_)
    · replace c6 : 7 ≤ (7 - (r + 1)) := (nI_leI (a := 7) (b := (7 - (r + 1))) (by omega) (by omega)).mp c6
      exfalso; omega
    · replace c6 : ¬ 7 ≤ (7 - (r + 1)) := fun zq => c6 ((nI_leI (a := 7) (b := (7 - (r + 1))) (by omega) (by omega)).mpr zq)
      refine lv_lload_n hx hb dX3_placeOf_9 rfl (lv_at hl 2 rfl) ?_
      refine lv_iload_n hx hb dX3_placeOf_10 rfl (lv_at hl 1 rfl) ?_
      refine q_callS (rest := []) C (c_X3_hashOf l D cy N0 h k m9) kX3_hashOf g299 g300 hP hS (by first | decide | omega) hl.1 rfl (by decide) (by first | decide | omega) dX3_placeOf_11 (fun q ce E h' H1 locs1 hE => hE.elim) (fun v hh2 H locs hq hP hS => ?_)
      obtain ⟨rfl, rfl⟩ := hq
      refine lv_aload_n hx hb dX3_placeOf_14 rfl (lv_at hl 0 rfl) ?_
      refine q_get C hP f1 rfl inX3 0 (by decide) g361 rfl dX3_placeOf_15 ?_
      refine q_callS (rest := []) C (c_X3_bitOf l D cy N0 h k m9 (7 - (r + 1)) (by omega)) kX3_bitOf g302 g303 hP hS (by first | decide | omega) hl.1 rfl (by decide) (by first | decide | omega) dX3_placeOf_18 (fun q ce E h' H1 locs1 hE => hE.elim) (fun v hh3 H locs hq hP hS => ?_)
      obtain ⟨rfl, rfl⟩ := hq
      rw [thB_s (m := m9) (k := k) (r := r) (by omega)]
      refine lv_aload_n hx hb dX3_placeOf_21 rfl (lv_at hl 0 rfl) ?_
      refine q_get C hP f1 rfl inX3 2 (by decide) g363 rfl dX3_placeOf_22 ?_
      refine q_callS (rest := []) C (c_X3_rankOf l D cy N0 h (thS m9 (6 - r) L) (thN m9 (6 - r) k) thN_lt) kX3_rankOf g305 g306 hP hS (by first | decide | omega) hl.1 rfl (by decide) (by first | decide | omega) dX3_placeOf_25 (fun q ce E h' H1 locs1 hE => hE.elim) (fun v hh4 H locs hq hP hS => ?_)
      obtain ⟨rfl, rfl⟩ := hq
      refine lv_goto (tgt := 36) hx hb dX3_placeOf_28 (by decide) ?_
      refine lv_istore (lv' := [(4, .int (nI (tqC (thS m9 (6 - r) L) (thN m9 (6 - r) k)))), (0, .ref a), (1, .int m9), (2, .long k)]) hx hb dX3_placeOf_36 hl (by decide) rfl (fun ls hl => ?_)
      refine lv_iload hx hb dX3_placeOf_38 (lv_at hl 0 rfl) ?_
      refine lv_aload_n hx hb dX3_placeOf_40 rfl (lv_at hl 1 rfl) ?_
      refine q_get C hP f1 rfl inX3 5 (by decide) g366 rfl dX3_placeOf_41 ?_
      refine q_alen C hP fk1 rfl dX3_placeOf_44 ?_
      refine lv_icmp_ge (tgt := 65) hx hb dX3_placeOf_45 (by decide) (fun c45 => ?_) (fun c45 => ?_)
      · replace c45 : ((trK m9 (r + 1) L).length) ≤ (tqC (thS m9 (6 - r) L) (thN m9 (6 - r) k)) := (nI_leI (a := (trK m9 (r + 1) L).length) (b := (tqC (thS m9 (6 - r) L) (thN m9 (6 - r) k))) (by omega) (by omega)).mp c45
        refine lv_iconst (v := -1) hx hb dX3_placeOf_65 (by decide) ?_
        exact q_iret C hP hS ⟨rfl, Or.inr ⟨rfl, th_nno (fun z => absurd z (by omega))⟩⟩ (by omega) dX3_placeOf_66
      · replace c45 : ¬ ((trK m9 (r + 1) L).length) ≤ (tqC (thS m9 (6 - r) L) (thN m9 (6 - r) k)) := fun zq => c45 ((nI_leI (a := (trK m9 (r + 1) L).length) (b := (tqC (thS m9 (6 - r) L) (thN m9 (6 - r) k))) (by omega) (by omega)).mpr zq)
        refine lv_aload_n hx hb dX3_placeOf_48 rfl (lv_at hl 1 rfl) ?_
        refine q_get C hP f1 rfl inX3 5 (by decide) g366 rfl dX3_placeOf_49 ?_
        refine lv_iload hx hb dX3_placeOf_52 (lv_at hl 0 rfl) ?_
        refine q_laldN C hP fk1 (by omega) (by omega) dX3_placeOf_54 ?_
        refine lv_lload_n hx hb dX3_placeOf_55 rfl (lv_at hl 3 rfl) ?_
        refine W.lcmp hx hb dX3_placeOf_56 ?_
        refine lv_if_ne (tgt := 65) hx hb dX3_placeOf_57 (by decide) (fun c57 => ?_) (fun c57 => ?_)
        · replace c57 : ¬ ((List.map Prod.fst (trK m9 (r + 1) L)).getD (tqC (thS m9 (6 - r) L) (thN m9 (6 - r) k)) 0).toInt = k.toInt := fun zq => c57 ((lg_cmp_eq _ _).mpr (Int64.toInt_inj.symm.mpr zq))
          refine lv_iconst (v := -1) hx hb dX3_placeOf_65 (by decide) ?_
          exact q_iret C hP hS ⟨rfl, Or.inr ⟨rfl, th_nno (fun z => fun z => c57 (by rw [z]))⟩⟩ (by omega) dX3_placeOf_66
        · replace c57 : ((List.map Prod.fst (trK m9 (r + 1) L)).getD (tqC (thS m9 (6 - r) L) (thN m9 (6 - r) k)) 0).toInt = k.toInt := Int64.toInt_inj.symm.mp ((lg_cmp_eq _ _).mp c57)
          refine lv_iload hx hb dX3_placeOf_60 (lv_at hl 0 rfl) ?_
          refine lv_goto (tgt := 66) hx hb dX3_placeOf_62 (by decide) ?_
          obtain ⟨x9, ex9⟩ := th_get (K := trK m9 (r + 1) L) (j := (tqC (thS m9 (6 - r) L) (thN m9 (6 - r) k))) (k := k) (by omega) (Int64.toInt_inj.mp c57)
          exact q_iret C hP hS ⟨rfl, Or.inl ⟨(tqC (thS m9 (6 - r) L) (thN m9 (6 - r) k)), x9, rfl, ex9⟩⟩ (by omega) dX3_placeOf_66
