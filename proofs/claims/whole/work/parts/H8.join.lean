theorem zrow_at {m : Int32} {M : qKV} {f0 f : Nat → Int64} {i : Nat} (hf : f = qPour f0 0 ((thT m 7 M).map Prod.fst)) (hi : i < M.length) : ∃ p, (thT m 7 M)[i]? = some p ∧ f i = p.1 := by
  have hl : i < (thT m 7 M).length := by rw [thT_len]; exact hi
  refine ⟨_, List.getElem?_eq_getElem hl, ?_⟩
  rw [hf]
  unfold qPour
  rw [if_pos ⟨Nat.zero_le _, by rw [List.length_map]; omega⟩, Nat.sub_zero, List.getD_eq_getElem?_getD, List.getElem?_map, List.getElem?_eq_getElem hl]; rfl
theorem zrow_av {m : Int32} {M : qKV} {f0 f : Nat → Int64} {i : Nat} (hf : f = qPour f0 0 ((thT m 7 M).map Prod.snd)) (hi : i < M.length) : ∃ p, (thT m 7 M)[i]? = some p ∧ f i = p.2 := by
  have hl : i < (thT m 7 M).length := by rw [thT_len]; exact hi
  refine ⟨_, List.getElem?_eq_getElem hl, ?_⟩
  rw [hf]
  unfold qPour
  rw [if_pos ⟨Nat.zero_le _, by rw [List.length_map]; omega⟩, Nat.sub_zero, List.getD_eq_getElem?_getD, List.getElem?_map, List.getElem?_eq_getElem hl]; rfl
theorem dX6_needRoomForRow_0 : decode cX6_needRoomForRow 0 = .ok (.iconst 0, 1) := by decide +kernel
theorem dX6_needRoomForRow_1 : decode cX6_needRoomForRow 1 = .ok (.istore_n 3, 1) := by decide +kernel
theorem dX6_needRoomForRow_2 : decode cX6_needRoomForRow 2 = .ok (.iconst 0, 1) := by decide +kernel
theorem dX6_needRoomForRow_3 : decode cX6_needRoomForRow 3 = .ok (.istore 4, 2) := by decide +kernel
theorem dX6_needRoomForRow_5 : decode cX6_needRoomForRow 5 = .ok (.iconst 0, 1) := by decide +kernel
theorem dX6_needRoomForRow_6 : decode cX6_needRoomForRow 6 = .ok (.istore 5, 2) := by decide +kernel
theorem dX6_needRoomForRow_8 : decode cX6_needRoomForRow 8 = .ok (.iload 5, 2) := by decide +kernel
theorem dX6_needRoomForRow_10 : decode cX6_needRoomForRow 10 = .ok (.iload_n 2, 1) := by decide +kernel
theorem dX6_needRoomForRow_11 : decode cX6_needRoomForRow 11 = .ok (.if_icmp .ge 95, 3) := by decide +kernel
theorem dX6_needRoomForRow_14 : decode cX6_needRoomForRow 14 = .ok (.iload 5, 2) := by decide +kernel
theorem dX6_needRoomForRow_16 : decode cX6_needRoomForRow 16 = .ok (.ifCond .le 39, 3) := by decide +kernel
theorem dX6_needRoomForRow_19 : decode cX6_needRoomForRow 19 = .ok (.aload_n 0, 1) := by decide +kernel
theorem dX6_needRoomForRow_20 : decode cX6_needRoomForRow 20 = .ok (.getfield 21, 3) := by decide +kernel
theorem dX6_needRoomForRow_23 : decode cX6_needRoomForRow 23 = .ok (.iload 5, 2) := by decide +kernel
theorem dX6_needRoomForRow_25 : decode cX6_needRoomForRow 25 = .ok (.laload, 1) := by decide +kernel
theorem dX6_needRoomForRow_26 : decode cX6_needRoomForRow 26 = .ok (.aload_n 0, 1) := by decide +kernel
theorem dX6_needRoomForRow_27 : decode cX6_needRoomForRow 27 = .ok (.getfield 34, 3) := by decide +kernel
theorem dX6_needRoomForRow_30 : decode cX6_needRoomForRow 30 = .ok (.invokestatic 439, 3) := by decide +kernel
theorem dX6_needRoomForRow_33 : decode cX6_needRoomForRow 33 = .ok (.aload_n 0, 1) := by decide +kernel
theorem dX6_needRoomForRow_34 : decode cX6_needRoomForRow 34 = .ok (.getfield 21, 3) := by decide +kernel
theorem dX6_needRoomForRow_37 : decode cX6_needRoomForRow 37 = .ok (.iload 5, 2) := by decide +kernel
theorem dX6_needRoomForRow_39 : decode cX6_needRoomForRow 39 = .ok (.iconst 1, 1) := by decide +kernel
theorem dX6_needRoomForRow_40 : decode cX6_needRoomForRow 40 = .ok (.isub, 1) := by decide +kernel
theorem dX6_needRoomForRow_41 : decode cX6_needRoomForRow 41 = .ok (.laload, 1) := by decide +kernel
theorem dX6_needRoomForRow_42 : decode cX6_needRoomForRow 42 = .ok (.aload_n 0, 1) := by decide +kernel
theorem dX6_needRoomForRow_43 : decode cX6_needRoomForRow 43 = .ok (.getfield 34, 3) := by decide +kernel
theorem dX6_needRoomForRow_46 : decode cX6_needRoomForRow 46 = .ok (.invokestatic 439, 3) := by decide +kernel
theorem dX6_needRoomForRow_49 : decode cX6_needRoomForRow 49 = .ok (.if_icmp .eq 6, 3) := by decide +kernel
theorem dX6_needRoomForRow_52 : decode cX6_needRoomForRow 52 = .ok (.iconst 0, 1) := by decide +kernel
theorem dX6_needRoomForRow_53 : decode cX6_needRoomForRow 53 = .ok (.istore 4, 2) := by decide +kernel
theorem dX6_needRoomForRow_55 : decode cX6_needRoomForRow 55 = .ok (.aload_n 1, 1) := by decide +kernel
theorem dX6_needRoomForRow_56 : decode cX6_needRoomForRow 56 = .ok (.aload_n 0, 1) := by decide +kernel
theorem dX6_needRoomForRow_57 : decode cX6_needRoomForRow 57 = .ok (.getfield 34, 3) := by decide +kernel
theorem dX6_needRoomForRow_60 : decode cX6_needRoomForRow 60 = .ok (.aload_n 0, 1) := by decide +kernel
theorem dX6_needRoomForRow_61 : decode cX6_needRoomForRow 61 = .ok (.getfield 21, 3) := by decide +kernel
theorem dX6_needRoomForRow_64 : decode cX6_needRoomForRow 64 = .ok (.iload 5, 2) := by decide +kernel
theorem dX6_needRoomForRow_66 : decode cX6_needRoomForRow 66 = .ok (.laload, 1) := by decide +kernel
theorem dX6_needRoomForRow_67 : decode cX6_needRoomForRow 67 = .ok (.invokestatic 246, 3) := by decide +kernel
theorem dX6_needRoomForRow_70 : decode cX6_needRoomForRow 70 = .ok (.ifCond .ne 30, 3) := by decide +kernel
theorem dX6_needRoomForRow_73 : decode cX6_needRoomForRow 73 = .ok (.iinc 3 1, 3) := by decide +kernel
theorem dX6_needRoomForRow_76 : decode cX6_needRoomForRow 76 = .ok (.iinc 4 1, 3) := by decide +kernel
theorem dX6_needRoomForRow_79 : decode cX6_needRoomForRow 79 = .ok (.aload_n 1, 1) := by decide +kernel
theorem dX6_needRoomForRow_80 : decode cX6_needRoomForRow 80 = .ok (.aload_n 0, 1) := by decide +kernel
theorem dX6_needRoomForRow_81 : decode cX6_needRoomForRow 81 = .ok (.getfield 34, 3) := by decide +kernel
theorem dX6_needRoomForRow_84 : decode cX6_needRoomForRow 84 = .ok (.aload_n 0, 1) := by decide +kernel
theorem dX6_needRoomForRow_85 : decode cX6_needRoomForRow 85 = .ok (.getfield 21, 3) := by decide +kernel
theorem dX6_needRoomForRow_88 : decode cX6_needRoomForRow 88 = .ok (.iload 5, 2) := by decide +kernel
theorem dX6_needRoomForRow_90 : decode cX6_needRoomForRow 90 = .ok (.laload, 1) := by decide +kernel
theorem dX6_needRoomForRow_91 : decode cX6_needRoomForRow 91 = .ok (.invokestatic 410, 3) := by decide +kernel
theorem dX6_needRoomForRow_94 : decode cX6_needRoomForRow 94 = .ok (.iload 4, 2) := by decide +kernel
theorem dX6_needRoomForRow_96 : decode cX6_needRoomForRow 96 = .ok (.iadd, 1) := by decide +kernel
theorem dX6_needRoomForRow_97 : decode cX6_needRoomForRow 97 = .ok (.invokestatic 414, 3) := by decide +kernel
theorem dX6_needRoomForRow_100 : decode cX6_needRoomForRow 100 = .ok (.iinc 5 1, 3) := by decide +kernel
theorem dX6_needRoomForRow_103 : decode cX6_needRoomForRow 103 = .ok (.goto (-95), 3) := by decide +kernel
theorem dX6_needRoomForRow_106 : decode cX6_needRoomForRow 106 = .ok (.aload_n 1, 1) := by decide +kernel
theorem dX6_needRoomForRow_107 : decode cX6_needRoomForRow 107 = .ok (.invokestatic 407, 3) := by decide +kernel
theorem dX6_needRoomForRow_110 : decode cX6_needRoomForRow 110 = .ok (.iload_n 3, 1) := by decide +kernel
theorem dX6_needRoomForRow_111 : decode cX6_needRoomForRow 111 = .ok (.iadd, 1) := by decide +kernel
theorem dX6_needRoomForRow_112 : decode cX6_needRoomForRow 112 = .ok (.invokestatic 81, 3) := by decide +kernel
theorem dX6_needRoomForRow_115 : decode cX6_needRoomForRow 115 = .ok (.return_, 1) := by decide +kernel
set_option maxRecDepth 100000 in
set_option maxHeartbeats 4000000 in
theorem z_needRoomForRow (l : Launch) (D : va_G) (cy : Nat → ClassId) (N0 : Nat) (h : qH) (x sl bl kr vr : Nat) (mk ca mv ed : Int32) (f0 f : Nat → Int64) (Im Ok X : Nat → Prop) (e9 : Nat) (xr : Option Nat) (L M : qKV) (hX : h x = some (.inr (6, [.int mk, .ref sl, .ref bl, .ref kr, .ref vr, .int ca, .int mv, .int ed]))) (hK : h kr = some (.inl (cy 1, 1000, .inr (.inl f)))) (hf : f = qPour f0 0 ((thT mk 7 M).map Prod.fst)) (hR : qRt cy h Im e9 Ok mk xr L X) (hL : L.length ≤ 1000) (hM : M.length ≤ 1000) (h16 : ∀ k, zAk mk L k ≤ 16) : qC l D cy N0 yX6_needRoomForRow cX6_needRoomForRow 6 none 10 240 (M.length + 1) (6 * M.length + 6) [.ref x, va_rf xr, .int (nI M.length)] h (fun v h' => v = none ∧ h = h' ∧ (∀ k, zAk mk L k + zNa mk L (thT mk 7 M) (thH mk k) ≤ 16) ∧ L.length + zNf L (thT mk 7 M) ≤ 1000) (fun E h' => E = "java/lang/IndexOutOfBoundsException" ∧ h = h' ∧ ((∃ p ∈ (thT mk 7 M), 16 < zAk mk L p.1 + zNa mk L (thT mk 7 M) (thH mk p.1)) ∨ 1000 < L.length + zNf L (thT mk 7 M))) := by
  refine q_ofW (by decide) (by simp [lg_sl, q_catrf, q_cati, q_catl, q_cata, q_catn]) ?_
  intro p e s m below meth c ls C hP hl
  have hx := C.1
  have hb := C.2.1
  have hS : va_S (qA N0) s.heap s.heap [] := va_S.rf
  have hl : lv_has ls 6 [(0, .ref x), (1, va_rf xr), (2, .int (nI M.length))] := by simpa [lv_args, q_catrf, q_cati, q_catl, q_cata, q_catn] using hl
  have hTl : (thT mk 7 M).length = M.length := thT_len
  refine lv_iconst (v := nI 0) hx hb dX6_needRoomForRow_0 (by decide) ?_
  refine lv_istore_n (lv' := [(3, .int (nI 0)), (0, .ref x), (1, va_rf xr), (2, .int (nI M.length))]) hx hb dX6_needRoomForRow_1 rfl hl (by decide) rfl (fun ls hl => ?_)
  refine lv_iconst (v := nI 0) hx hb dX6_needRoomForRow_2 (by decide) ?_
  refine lv_istore (lv' := [(4, .int (nI 0)), (3, .int (nI 0)), (0, .ref x), (1, va_rf xr), (2, .int (nI M.length))]) hx hb dX6_needRoomForRow_3 hl (by decide) rfl (fun ls hl => ?_)
  refine lv_iconst (v := nI 0) hx hb dX6_needRoomForRow_5 (by decide) ?_
  refine lv_istore (lv' := [(5, .int (nI 0)), (4, .int (nI 0)), (3, .int (nI 0)), (0, .ref x), (1, va_rf xr), (2, .int (nI M.length))]) hx hb dX6_needRoomForRow_6 hl (by decide) rfl (fun ls hl => ?_)
  refine (?_ : ∀ (t9 q9 n8 n7 : Nat) (H : Heap) (locs : List Loc) (ls : Array Slot) (c1 c2 : Nat), M.length - q9 < t9 → lv_has ls 6 [(5, .int (nI q9)), (4, .int (nI n8)), (3, .int (nI n7)), (2, .int (nI M.length)), (1, va_rf xr), (0, .ref x)] → zNr mk L (thT mk 7 M) q9 n7 n8 → qP D N0 h H → va_S (qA N0) s.heap H locs → c1 ≤ q9 ∧ c2 ≤ 6 * q9 → W p l e _ s m _ below meth c H locs c1 c2 _ (F0 m 8 ls [])) (M.length + 1) 0 0 0 _ _ ls _ _ (by omega) (lv_sub hl [0, 1, 2, 5, 4, 3] rfl) zNr.init hP hS ⟨by omega, by omega⟩
  clear hl hP hS
  intro t9
  induction t9 with
  | zero => intro q9 _ _ _ _ _ _ _ h; exact absurd h (Nat.not_lt_zero _)
  | succ t9 ihl =>
    intro q9 n8 n7 H locs ls c1 c2 ht9 hl hnr hP hS hcc
    have hq9 := hnr.1
    have hn8 := hnr.2.2.1
    have hn7 : n7 ≤ q9 := by rw [hnr.2.1]; unfold zNf; exact Nat.le_trans (List.length_filter_le ..) (by rw [List.length_take]; omega)
    refine lv_iload hx hb dX6_needRoomForRow_8 (lv_at hl 0 rfl) ?_
    refine lv_iload_n hx hb dX6_needRoomForRow_10 rfl (lv_at hl 3 rfl) ?_
    refine lv_icmp_ge (tgt := 106) hx hb dX6_needRoomForRow_11 (by decide) (fun c11 => ?_) (fun c11 => ?_)
    · replace c11 : (M.length) ≤ q9 := (nI_leI (a := M.length) (b := q9) (by omega) (by omega)).mp c11
      obtain rfl : q9 = M.length := by omega
      have hfin := (show zNr mk L (thT mk 7 M) (thT mk 7 M).length n7 n8 by rw [hTl]; exact hnr).fin h16
      refine q_aload_n hx hb dX6_needRoomForRow_106 rfl (lv_at hl 4 rfl) ?_
      refine q_callS (rest := []) C (c_X3_totalOf l D cy N0 h xr (nI L.length) hR.fi) kX3_totalOf g323 g230 hP hS (by first | decide | omega) hl.1 rfl (by decide) (by first | decide | omega) dX6_needRoomForRow_107 (fun q ce E h' H1 locs1 hE => hE.elim) (fun v hh1 H locs hq hP hS => ?_)
      obtain ⟨rfl, rfl⟩ := hq
      refine lv_iload_n hx hb dX6_needRoomForRow_110 rfl (lv_at hl 2 rfl) ?_
      refine q_iaddN hx hb dX6_needRoomForRow_111 ?_
      refine q_callS (rest := []) C (c_X6_needRoom l D cy N0 h (nI (L.length + n7))) kX6_needRoom g324 g325 hP hS (by first | decide | omega) hl.1 rfl (by decide) (by first | decide | omega) dX6_needRoomForRow_112 (fun q ce E h' H1 locs1 hE hP hS hc1 hc2 hc3 => by obtain ⟨rfl, rfl, hw9⟩ := hE; replace hw9 : ¬ L.length + n7 ≤ 1000 := fun z => hw9 ((nI_leI (a := L.length + n7) (b := 1000) (by omega) (by omega)).mpr z); exact q_out C hP hS hc1 hc2 hc3 ⟨rfl, rfl, Or.inr (by rw [← hfin.1]; omega)⟩ (by omega)) (fun v hh2 H locs hq hP hS => ?_)
      obtain ⟨rfl, rfl, hw9⟩ := hq
      replace hw9 := (nI_leI (a := L.length + n7) (b := 1000) (by omega) (by omega)).mp hw9
      exact q_vret C hP hS ⟨rfl, rfl, hfin.2, by rw [← hfin.1]; exact hw9⟩ (by omega) dX6_needRoomForRow_115
    · replace c11 : ¬ (M.length) ≤ q9 := fun zq => c11 ((nI_leI (a := M.length) (b := q9) (by omega) (by omega)).mpr zq)
      obtain ⟨p9, ep9, ef9⟩ := zrow_at hf (show q9 < M.length by omega)
      have hcur := hnr.cur ep9
      refine lv_iload hx hb dX6_needRoomForRow_14 (lv_at hl 0 rfl) ?_
      refine lv_if_le (tgt := 55) hx hb dX6_needRoomForRow_16 (by decide) (fun c16 => ?_) (fun c16 => ?_)
      · replace c16 : q9 ≤ 0 := (nI_leI (a := q9) (b := 0) (by omega) (by omega)).mp c16
        have hfb : n8 = zNa mk L ((thT mk 7 M).take q9) (thH mk p9.1) := hcur.1 (by omega)
        have hfb2 : n8 ≤ q9 := by omega
        refine q_aload_n hx hb dX6_needRoomForRow_55 rfl (lv_at hl 4 rfl) ?_
        refine lv_aload_n hx hb dX6_needRoomForRow_56 rfl (lv_at hl 5 rfl) ?_
        refine q_get C hP hX rfl inX6 0 (by decide) g68 rfl dX6_needRoomForRow_57 ?_
        refine lv_aload_n hx hb dX6_needRoomForRow_60 rfl (lv_at hl 5 rfl) ?_
        refine q_get C hP hX rfl inX6 3 (by decide) g71 rfl dX6_needRoomForRow_61 ?_
        refine lv_iload hx hb dX6_needRoomForRow_64 (lv_at hl 0 rfl) ?_
        refine q_laldN C hP hK (by omega) (by omega) dX6_needRoomForRow_66 ?_
        refine q_callS (rest := []) C (c_X3_holds l D cy N0 h Im e9 Ok mk xr L X (f q9) hR (by omega)) kX3_holds g293 g294 hP hS (by first | decide | omega) hl.1 rfl (by decide) (by first | decide | omega) dX6_needRoomForRow_67 (fun q ce E h' H1 locs1 hE => hE.elim) (fun v hh3 H locs hq hP hS => ?_)
        obtain ⟨rfl, rfl⟩ := hq
        by_cases hxx : xHas L (f q9) = true
        · rw [if_pos hxx]
          refine lv_if_ne (tgt := 100) hx hb dX6_needRoomForRow_70 (by decide) (fun c70 => ?_) (fun c70 => ?_)
          · replace c70 : ¬ 1 = 0 := fun zq => c70 ((nI_eq (a := 1) (b := 0) (by omega) (by omega)).mpr zq)
            refine lv_iinc (v := nI (q9 + 1)) (lv' := [(5, .int (nI (q9 + 1))), (4, .int (nI n8)), (3, .int (nI n7)), (2, .int (nI M.length)), (1, va_rf xr), (0, .ref x)]) hx hb dX6_needRoomForRow_100 hl (k := 0) rfl (nI_1 q9) (by decide) rfl (fun ls hl => ?_)
            refine lv_goto (tgt := 8) hx hb dX6_needRoomForRow_103 (by decide) ?_
            exact ihl (q9 + 1) n8 n7 H locs ls _ _ (by omega) (lv_sub hl [0, 1, 2, 3, 4, 5] rfl) (hnr.no ep9 hfb hfb2 (by rw [← ef9]; exact hxx)) hP hS ⟨by omega, by omega⟩
          · replace c70 : 1 = 0 := (nI_eq (a := 1) (b := 0) (by omega) (by omega)).mp c70
            exfalso; omega
        · rw [if_neg hxx]
          have hxf : xHas L p9.1 = false := by rw [← ef9]; exact Bool.not_eq_true _ ▸ hxx
          refine lv_if_ne (tgt := 100) hx hb dX6_needRoomForRow_70 (by decide) (fun c70 => ?_) (fun c70 => ?_)
          · replace c70 : ¬ 0 = 0 := fun zq => c70 ((nI_eq (a := 0) (b := 0) (by omega) (by omega)).mpr zq)
            exfalso; omega
          · replace c70 : 0 = 0 := (nI_eq (a := 0) (b := 0) (by omega) (by omega)).mp c70
            refine lv_iinc (v := nI (n7 + 1)) (lv' := [(3, .int (nI (n7 + 1))), (5, .int (nI q9)), (4, .int (nI n8)), (2, .int (nI M.length)), (1, va_rf xr), (0, .ref x)]) hx hb dX6_needRoomForRow_73 hl (k := 2) rfl (nI_1 n7) (by decide) rfl (fun ls hl => ?_)
            refine lv_iinc (v := nI (n8 + 1)) (lv' := [(4, .int (nI (n8 + 1))), (3, .int (nI (n7 + 1))), (5, .int (nI q9)), (2, .int (nI M.length)), (1, va_rf xr), (0, .ref x)]) hx hb dX6_needRoomForRow_76 hl (k := 2) rfl (nI_1 n8) (by decide) rfl (fun ls hl => ?_)
            refine q_aload_n hx hb dX6_needRoomForRow_79 rfl (lv_at hl 4 rfl) ?_
            refine lv_aload_n hx hb dX6_needRoomForRow_80 rfl (lv_at hl 5 rfl) ?_
            refine q_get C hP hX rfl inX6 0 (by decide) g68 rfl dX6_needRoomForRow_81 ?_
            refine lv_aload_n hx hb dX6_needRoomForRow_84 rfl (lv_at hl 5 rfl) ?_
            refine q_get C hP hX rfl inX6 3 (by decide) g71 rfl dX6_needRoomForRow_85 ?_
            refine lv_iload hx hb dX6_needRoomForRow_88 (lv_at hl 2 rfl) ?_
            refine q_laldN C hP hK (by omega) (by omega) dX6_needRoomForRow_90 ?_
            refine q_callS (rest := []) C (c_X3_alikeKeys l D cy N0 h Im e9 Ok mk xr L X (f q9) hR (by omega)) kX3_alikeKeys g343 g344 hP hS (by first | decide | omega) hl.1 rfl (by decide) (by first | decide | omega) dX6_needRoomForRow_91 (fun q ce E h' H1 locs1 hE => hE.elim) (fun v hh4 H locs hq hP hS => ?_)
            obtain ⟨rfl, rfl⟩ := hq
            have hk16 : zAk mk L (f q9) ≤ 16 := h16 _
            rw [show (L.filter (fun p => decide (thH mk p.1 = thH mk (f q9)))).length = zAk mk L (f q9) from rfl]
            refine lv_iload hx hb dX6_needRoomForRow_94 (lv_at hl 0 rfl) ?_
            refine q_iaddN hx hb dX6_needRoomForRow_96 ?_
            refine q_callS (rest := []) C (c_X6_needFewAlike l D cy N0 h (nI (zAk mk L (f q9) + (n8 + 1)))) kX6_needFewAlike g346 g347 hP hS (by first | decide | omega) hl.1 rfl (by decide) (by first | decide | omega) dX6_needRoomForRow_97 (fun q ce E h' H1 locs1 hE hP hS hc1 hc2 hc3 => by obtain ⟨rfl, rfl, hw9⟩ := hE; replace hw9 : ¬ zAk mk L (f q9) + (n8 + 1) ≤ 16 := fun z => hw9 ((nI_leI (a := zAk mk L (f q9) + (n8 + 1)) (b := 16) (by omega) (by omega)).mpr z); rw [ef9] at hw9; exact q_out C hP hS hc1 hc2 hc3 ⟨rfl, rfl, Or.inl ⟨p9, List.mem_of_getElem? ep9, zNr.bad ep9 hfb hxf (by omega)⟩⟩ (by omega)) (fun v hh5 H locs hq hP hS => ?_)
            obtain ⟨rfl, rfl, hw9⟩ := hq
            replace hw9 := (nI_leI (a := zAk mk L (f q9) + (n8 + 1)) (b := 16) (by omega) (by omega)).mp hw9
            rw [ef9] at hw9
            refine lv_iinc (v := nI (q9 + 1)) (lv' := [(5, .int (nI (q9 + 1))), (4, .int (nI (n8 + 1))), (3, .int (nI (n7 + 1))), (2, .int (nI M.length)), (1, va_rf xr), (0, .ref x)]) hx hb dX6_needRoomForRow_100 hl (k := 2) rfl (nI_1 q9) (by decide) rfl (fun ls hl => ?_)
            refine lv_goto (tgt := 8) hx hb dX6_needRoomForRow_103 (by decide) ?_
            exact ihl (q9 + 1) (n8 + 1) (n7 + 1) H locs ls _ _ (by omega) (lv_sub hl [0, 1, 2, 3, 4, 5] rfl) (hnr.yes ep9 hfb hfb2 hxf hw9) hP hS ⟨by omega, by omega⟩
      · replace c16 : ¬ q9 ≤ 0 := fun zq => c16 ((nI_leI (a := q9) (b := 0) (by omega) (by omega)).mpr zq)
        refine lv_aload_n hx hb dX6_needRoomForRow_19 rfl (lv_at hl 5 rfl) ?_
        refine q_get C hP hX rfl inX6 3 (by decide) g71 rfl dX6_needRoomForRow_20 ?_
        refine lv_iload hx hb dX6_needRoomForRow_23 (lv_at hl 0 rfl) ?_
        refine q_laldN C hP hK (by omega) (by omega) dX6_needRoomForRow_25 ?_
        refine lv_aload_n hx hb dX6_needRoomForRow_26 rfl (lv_at hl 5 rfl) ?_
        refine q_get C hP hX rfl inX6 0 (by decide) g68 rfl dX6_needRoomForRow_27 ?_
        refine q_callS (rest := []) C (c_X3_hashOf l D cy N0 h (f q9) mk) kX3_hashOf g876 g300 hP hS (by first | decide | omega) hl.1 rfl (by decide) (by first | decide | omega) dX6_needRoomForRow_30 (fun q ce E h' H1 locs1 hE => hE.elim) (fun v hh6 H locs hq hP hS => ?_)
        obtain ⟨rfl, rfl⟩ := hq
        refine lv_aload_n hx hb dX6_needRoomForRow_33 rfl (lv_at hl 5 rfl) ?_
        refine q_get C hP hX rfl inX6 3 (by decide) g71 rfl dX6_needRoomForRow_34 ?_
        refine lv_iload hx hb dX6_needRoomForRow_37 (lv_at hl 0 rfl) ?_
        refine lv_iconst (v := nI 1) hx hb dX6_needRoomForRow_39 (by decide) ?_
        refine q_isubN hx hb dX6_needRoomForRow_40 (by omega) ?_
        refine q_laldN C hP hK (by omega) (by omega) dX6_needRoomForRow_41 ?_
        refine lv_aload_n hx hb dX6_needRoomForRow_42 rfl (lv_at hl 5 rfl) ?_
        refine q_get C hP hX rfl inX6 0 (by decide) g68 rfl dX6_needRoomForRow_43 ?_
        refine q_callS (rest := [.int ((f q9).toInt32 &&& mk)]) C (c_X3_hashOf l D cy N0 h (f (q9 - 1)) mk) kX3_hashOf g876 g300 hP hS (by first | decide | omega) hl.1 rfl (by simp [q_catrf, q_cati, q_catl, q_cata, q_catn]) (by first | decide | omega) dX6_needRoomForRow_46 (fun q ce E h' H1 locs1 hE => hE.elim) (fun v hh7 H locs hq hP hS => ?_)
        obtain ⟨rfl, rfl⟩ := hq
        obtain ⟨p8, ep8, ef8⟩ := zrow_at hf (show q9 - 1 < M.length by omega)
        have hcu := hcur.2 p8 (by omega) ep8
        refine lv_icmp_eq (tgt := 55) hx hb dX6_needRoomForRow_49 (by decide) (fun c49 => ?_) (fun c49 => ?_)
        · have hfb : n8 = zNa mk L ((thT mk 7 M).take q9) (thH mk p9.1) := hcu.1 (by rw [← ef9, ← ef8]; exact thH_eq.mp c49)
          have hfb2 : n8 ≤ q9 := by omega
          refine q_aload_n hx hb dX6_needRoomForRow_55 rfl (lv_at hl 4 rfl) ?_
          refine lv_aload_n hx hb dX6_needRoomForRow_56 rfl (lv_at hl 5 rfl) ?_
          refine q_get C hP hX rfl inX6 0 (by decide) g68 rfl dX6_needRoomForRow_57 ?_
          refine lv_aload_n hx hb dX6_needRoomForRow_60 rfl (lv_at hl 5 rfl) ?_
          refine q_get C hP hX rfl inX6 3 (by decide) g71 rfl dX6_needRoomForRow_61 ?_
          refine lv_iload hx hb dX6_needRoomForRow_64 (lv_at hl 0 rfl) ?_
          refine q_laldN C hP hK (by omega) (by omega) dX6_needRoomForRow_66 ?_
          refine q_callS (rest := []) C (c_X3_holds l D cy N0 h Im e9 Ok mk xr L X (f q9) hR (by omega)) kX3_holds g293 g294 hP hS (by first | decide | omega) hl.1 rfl (by decide) (by first | decide | omega) dX6_needRoomForRow_67 (fun q ce E h' H1 locs1 hE => hE.elim) (fun v hh8 H locs hq hP hS => ?_)
          obtain ⟨rfl, rfl⟩ := hq
          by_cases hxx : xHas L (f q9) = true
          · rw [if_pos hxx]
            refine lv_if_ne (tgt := 100) hx hb dX6_needRoomForRow_70 (by decide) (fun c70 => ?_) (fun c70 => ?_)
            · replace c70 : ¬ 1 = 0 := fun zq => c70 ((nI_eq (a := 1) (b := 0) (by omega) (by omega)).mpr zq)
              refine lv_iinc (v := nI (q9 + 1)) (lv' := [(5, .int (nI (q9 + 1))), (4, .int (nI n8)), (3, .int (nI n7)), (2, .int (nI M.length)), (1, va_rf xr), (0, .ref x)]) hx hb dX6_needRoomForRow_100 hl (k := 0) rfl (nI_1 q9) (by decide) rfl (fun ls hl => ?_)
              refine lv_goto (tgt := 8) hx hb dX6_needRoomForRow_103 (by decide) ?_
              exact ihl (q9 + 1) n8 n7 H locs ls _ _ (by omega) (lv_sub hl [0, 1, 2, 3, 4, 5] rfl) (hnr.no ep9 hfb hfb2 (by rw [← ef9]; exact hxx)) hP hS ⟨by omega, by omega⟩
            · replace c70 : 1 = 0 := (nI_eq (a := 1) (b := 0) (by omega) (by omega)).mp c70
              exfalso; omega
          · rw [if_neg hxx]
            have hxf : xHas L p9.1 = false := by rw [← ef9]; exact Bool.not_eq_true _ ▸ hxx
            refine lv_if_ne (tgt := 100) hx hb dX6_needRoomForRow_70 (by decide) (fun c70 => ?_) (fun c70 => ?_)
            · replace c70 : ¬ 0 = 0 := fun zq => c70 ((nI_eq (a := 0) (b := 0) (by omega) (by omega)).mpr zq)
              exfalso; omega
            · replace c70 : 0 = 0 := (nI_eq (a := 0) (b := 0) (by omega) (by omega)).mp c70
              refine lv_iinc (v := nI (n7 + 1)) (lv' := [(3, .int (nI (n7 + 1))), (5, .int (nI q9)), (4, .int (nI n8)), (2, .int (nI M.length)), (1, va_rf xr), (0, .ref x)]) hx hb dX6_needRoomForRow_73 hl (k := 2) rfl (nI_1 n7) (by decide) rfl (fun ls hl => ?_)
              refine lv_iinc (v := nI (n8 + 1)) (lv' := [(4, .int (nI (n8 + 1))), (3, .int (nI (n7 + 1))), (5, .int (nI q9)), (2, .int (nI M.length)), (1, va_rf xr), (0, .ref x)]) hx hb dX6_needRoomForRow_76 hl (k := 2) rfl (nI_1 n8) (by decide) rfl (fun ls hl => ?_)
              refine q_aload_n hx hb dX6_needRoomForRow_79 rfl (lv_at hl 4 rfl) ?_
              refine lv_aload_n hx hb dX6_needRoomForRow_80 rfl (lv_at hl 5 rfl) ?_
              refine q_get C hP hX rfl inX6 0 (by decide) g68 rfl dX6_needRoomForRow_81 ?_
              refine lv_aload_n hx hb dX6_needRoomForRow_84 rfl (lv_at hl 5 rfl) ?_
              refine q_get C hP hX rfl inX6 3 (by decide) g71 rfl dX6_needRoomForRow_85 ?_
              refine lv_iload hx hb dX6_needRoomForRow_88 (lv_at hl 2 rfl) ?_
              refine q_laldN C hP hK (by omega) (by omega) dX6_needRoomForRow_90 ?_
              refine q_callS (rest := []) C (c_X3_alikeKeys l D cy N0 h Im e9 Ok mk xr L X (f q9) hR (by omega)) kX3_alikeKeys g343 g344 hP hS (by first | decide | omega) hl.1 rfl (by decide) (by first | decide | omega) dX6_needRoomForRow_91 (fun q ce E h' H1 locs1 hE => hE.elim) (fun v hh9 H locs hq hP hS => ?_)
              obtain ⟨rfl, rfl⟩ := hq
              have hk16 : zAk mk L (f q9) ≤ 16 := h16 _
              rw [show (L.filter (fun p => decide (thH mk p.1 = thH mk (f q9)))).length = zAk mk L (f q9) from rfl]
              refine lv_iload hx hb dX6_needRoomForRow_94 (lv_at hl 0 rfl) ?_
              refine q_iaddN hx hb dX6_needRoomForRow_96 ?_
              refine q_callS (rest := []) C (c_X6_needFewAlike l D cy N0 h (nI (zAk mk L (f q9) + (n8 + 1)))) kX6_needFewAlike g346 g347 hP hS (by first | decide | omega) hl.1 rfl (by decide) (by first | decide | omega) dX6_needRoomForRow_97 (fun q ce E h' H1 locs1 hE hP hS hc1 hc2 hc3 => by obtain ⟨rfl, rfl, hw9⟩ := hE; replace hw9 : ¬ zAk mk L (f q9) + (n8 + 1) ≤ 16 := fun z => hw9 ((nI_leI (a := zAk mk L (f q9) + (n8 + 1)) (b := 16) (by omega) (by omega)).mpr z); rw [ef9] at hw9; exact q_out C hP hS hc1 hc2 hc3 ⟨rfl, rfl, Or.inl ⟨p9, List.mem_of_getElem? ep9, zNr.bad ep9 hfb hxf (by omega)⟩⟩ (by omega)) (fun v hh10 H locs hq hP hS => ?_)
              obtain ⟨rfl, rfl, hw9⟩ := hq
              replace hw9 := (nI_leI (a := zAk mk L (f q9) + (n8 + 1)) (b := 16) (by omega) (by omega)).mp hw9
              rw [ef9] at hw9
              refine lv_iinc (v := nI (q9 + 1)) (lv' := [(5, .int (nI (q9 + 1))), (4, .int (nI (n8 + 1))), (3, .int (nI (n7 + 1))), (2, .int (nI M.length)), (1, va_rf xr), (0, .ref x)]) hx hb dX6_needRoomForRow_100 hl (k := 2) rfl (nI_1 q9) (by decide) rfl (fun ls hl => ?_)
              refine lv_goto (tgt := 8) hx hb dX6_needRoomForRow_103 (by decide) ?_
              exact ihl (q9 + 1) (n8 + 1) (n7 + 1) H locs ls _ _ (by omega) (lv_sub hl [0, 1, 2, 3, 4, 5] rfl) (hnr.yes ep9 hfb hfb2 hxf hw9) hP hS ⟨by omega, by omega⟩
        · have hfb : 0 = zNa mk L ((thT mk 7 M).take q9) (thH mk p9.1) := hcu.2 (fun z => c49 (thH_eq.mpr (by rw [ef9, ef8]; exact z)))
          refine lv_iconst (v := nI 0) hx hb dX6_needRoomForRow_52 (by decide) ?_
          refine lv_istore (lv' := [(4, .int (nI 0)), (5, .int (nI q9)), (3, .int (nI n7)), (2, .int (nI M.length)), (1, va_rf xr), (0, .ref x)]) hx hb dX6_needRoomForRow_53 hl (by decide) rfl (fun ls hl => ?_)
          have hfb2 : 0 ≤ q9 := by omega
          refine q_aload_n hx hb dX6_needRoomForRow_55 rfl (lv_at hl 4 rfl) ?_
          refine lv_aload_n hx hb dX6_needRoomForRow_56 rfl (lv_at hl 5 rfl) ?_
          refine q_get C hP hX rfl inX6 0 (by decide) g68 rfl dX6_needRoomForRow_57 ?_
          refine lv_aload_n hx hb dX6_needRoomForRow_60 rfl (lv_at hl 5 rfl) ?_
          refine q_get C hP hX rfl inX6 3 (by decide) g71 rfl dX6_needRoomForRow_61 ?_
          refine lv_iload hx hb dX6_needRoomForRow_64 (lv_at hl 1 rfl) ?_
          refine q_laldN C hP hK (by omega) (by omega) dX6_needRoomForRow_66 ?_
          refine q_callS (rest := []) C (c_X3_holds l D cy N0 h Im e9 Ok mk xr L X (f q9) hR (by omega)) kX3_holds g293 g294 hP hS (by first | decide | omega) hl.1 rfl (by decide) (by first | decide | omega) dX6_needRoomForRow_67 (fun q ce E h' H1 locs1 hE => hE.elim) (fun v hh11 H locs hq hP hS => ?_)
          obtain ⟨rfl, rfl⟩ := hq
          by_cases hxx : xHas L (f q9) = true
          · rw [if_pos hxx]
            refine lv_if_ne (tgt := 100) hx hb dX6_needRoomForRow_70 (by decide) (fun c70 => ?_) (fun c70 => ?_)
            · replace c70 : ¬ 1 = 0 := fun zq => c70 ((nI_eq (a := 1) (b := 0) (by omega) (by omega)).mpr zq)
              refine lv_iinc (v := nI (q9 + 1)) (lv' := [(5, .int (nI (q9 + 1))), (4, .int (nI 0)), (3, .int (nI n7)), (2, .int (nI M.length)), (1, va_rf xr), (0, .ref x)]) hx hb dX6_needRoomForRow_100 hl (k := 1) rfl (nI_1 q9) (by decide) rfl (fun ls hl => ?_)
              refine lv_goto (tgt := 8) hx hb dX6_needRoomForRow_103 (by decide) ?_
              exact ihl (q9 + 1) 0 n7 H locs ls _ _ (by omega) (lv_sub hl [0, 1, 2, 3, 4, 5] rfl) (hnr.no ep9 hfb hfb2 (by rw [← ef9]; exact hxx)) hP hS ⟨by omega, by omega⟩
            · replace c70 : 1 = 0 := (nI_eq (a := 1) (b := 0) (by omega) (by omega)).mp c70
              exfalso; omega
          · rw [if_neg hxx]
            have hxf : xHas L p9.1 = false := by rw [← ef9]; exact Bool.not_eq_true _ ▸ hxx
            refine lv_if_ne (tgt := 100) hx hb dX6_needRoomForRow_70 (by decide) (fun c70 => ?_) (fun c70 => ?_)
            · replace c70 : ¬ 0 = 0 := fun zq => c70 ((nI_eq (a := 0) (b := 0) (by omega) (by omega)).mpr zq)
              exfalso; omega
            · replace c70 : 0 = 0 := (nI_eq (a := 0) (b := 0) (by omega) (by omega)).mp c70
              refine lv_iinc (v := nI (n7 + 1)) (lv' := [(3, .int (nI (n7 + 1))), (4, .int (nI 0)), (5, .int (nI q9)), (2, .int (nI M.length)), (1, va_rf xr), (0, .ref x)]) hx hb dX6_needRoomForRow_73 hl (k := 2) rfl (nI_1 n7) (by decide) rfl (fun ls hl => ?_)
              refine lv_iinc (v := nI (0 + 1)) (lv' := [(4, .int (nI (0 + 1))), (3, .int (nI (n7 + 1))), (5, .int (nI q9)), (2, .int (nI M.length)), (1, va_rf xr), (0, .ref x)]) hx hb dX6_needRoomForRow_76 hl (k := 1) rfl (nI_1 0) (by decide) rfl (fun ls hl => ?_)
              refine q_aload_n hx hb dX6_needRoomForRow_79 rfl (lv_at hl 4 rfl) ?_
              refine lv_aload_n hx hb dX6_needRoomForRow_80 rfl (lv_at hl 5 rfl) ?_
              refine q_get C hP hX rfl inX6 0 (by decide) g68 rfl dX6_needRoomForRow_81 ?_
              refine lv_aload_n hx hb dX6_needRoomForRow_84 rfl (lv_at hl 5 rfl) ?_
              refine q_get C hP hX rfl inX6 3 (by decide) g71 rfl dX6_needRoomForRow_85 ?_
              refine lv_iload hx hb dX6_needRoomForRow_88 (lv_at hl 2 rfl) ?_
              refine q_laldN C hP hK (by omega) (by omega) dX6_needRoomForRow_90 ?_
              refine q_callS (rest := []) C (c_X3_alikeKeys l D cy N0 h Im e9 Ok mk xr L X (f q9) hR (by omega)) kX3_alikeKeys g343 g344 hP hS (by first | decide | omega) hl.1 rfl (by decide) (by first | decide | omega) dX6_needRoomForRow_91 (fun q ce E h' H1 locs1 hE => hE.elim) (fun v hh12 H locs hq hP hS => ?_)
              obtain ⟨rfl, rfl⟩ := hq
              have hk16 : zAk mk L (f q9) ≤ 16 := h16 _
              rw [show (L.filter (fun p => decide (thH mk p.1 = thH mk (f q9)))).length = zAk mk L (f q9) from rfl]
              refine lv_iload hx hb dX6_needRoomForRow_94 (lv_at hl 0 rfl) ?_
              refine q_iaddN hx hb dX6_needRoomForRow_96 ?_
              refine q_callS (rest := []) C (c_X6_needFewAlike l D cy N0 h (nI (zAk mk L (f q9) + (0 + 1)))) kX6_needFewAlike g346 g347 hP hS (by first | decide | omega) hl.1 rfl (by decide) (by first | decide | omega) dX6_needRoomForRow_97 (fun q ce E h' H1 locs1 hE hP hS hc1 hc2 hc3 => by obtain ⟨rfl, rfl, hw9⟩ := hE; replace hw9 : ¬ zAk mk L (f q9) + (0 + 1) ≤ 16 := fun z => hw9 ((nI_leI (a := zAk mk L (f q9) + (0 + 1)) (b := 16) (by omega) (by omega)).mpr z); rw [ef9] at hw9; exact q_out C hP hS hc1 hc2 hc3 ⟨rfl, rfl, Or.inl ⟨p9, List.mem_of_getElem? ep9, zNr.bad ep9 hfb hxf (by omega)⟩⟩ (by omega)) (fun v hh13 H locs hq hP hS => ?_)
              obtain ⟨rfl, rfl, hw9⟩ := hq
              replace hw9 := (nI_leI (a := zAk mk L (f q9) + (0 + 1)) (b := 16) (by omega) (by omega)).mp hw9
              rw [ef9] at hw9
              refine lv_iinc (v := nI (q9 + 1)) (lv' := [(5, .int (nI (q9 + 1))), (4, .int (nI (0 + 1))), (3, .int (nI (n7 + 1))), (2, .int (nI M.length)), (1, va_rf xr), (0, .ref x)]) hx hb dX6_needRoomForRow_100 hl (k := 2) rfl (nI_1 q9) (by decide) rfl (fun ls hl => ?_)
              refine lv_goto (tgt := 8) hx hb dX6_needRoomForRow_103 (by decide) ?_
              exact ihl (q9 + 1) (0 + 1) (n7 + 1) H locs ls _ _ (by omega) (lv_sub hl [0, 1, 2, 3, 4, 5] rfl) (hnr.yes ep9 hfb hfb2 hxf hw9) hP hS ⟨by omega, by omega⟩
