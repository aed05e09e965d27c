theorem xLook_mem {k x : Int64} : ∀ {L : qKV}, qNo L → (k, x) ∈ L → xLook L k = x
  | p :: L, hn, hm => by
    have hn := List.pairwise_cons.mp hn
    unfold xLook
    rw [List.find?_cons]
    by_cases e : p.1 = k
    · rw [show (p.1 == k) = true from beq_iff_eq.mpr e]
      rcases List.mem_cons.mp hm with y | y
      · rw [← y]; rfl
      · exact absurd e (hn.1 _ y)
    · rw [show (p.1 == k) = false from beq_eq_false_iff_ne.mpr e]
      rcases List.mem_cons.mp hm with y | y
      · exact absurd (by rw [← y]) e
      · exact xLook_mem hn.2 y
theorem dX6_hashedValue_0 : decode cX6_hashedValue 0 = .ok (.aload_n 1, 1) := by decide +kernel
theorem dX6_hashedValue_1 : decode cX6_hashedValue 1 = .ok (.aload_n 0, 1) := by decide +kernel
theorem dX6_hashedValue_2 : decode cX6_hashedValue 2 = .ok (.getfield 34, 3) := by decide +kernel
theorem dX6_hashedValue_5 : decode cX6_hashedValue 5 = .ok (.lload_n 2, 1) := by decide +kernel
theorem dX6_hashedValue_6 : decode cX6_hashedValue 6 = .ok (.invokestatic 421, 3) := by decide +kernel
theorem dX6_hashedValue_9 : decode cX6_hashedValue 9 = .ok (.astore 4, 2) := by decide +kernel
theorem dX6_hashedValue_11 : decode cX6_hashedValue 11 = .ok (.aload 4, 2) := by decide +kernel
theorem dX6_hashedValue_13 : decode cX6_hashedValue 13 = .ok (.ifnonnull 7, 3) := by decide +kernel
theorem dX6_hashedValue_16 : decode cX6_hashedValue 16 = .ok (.iconst (-1), 1) := by decide +kernel
theorem dX6_hashedValue_17 : decode cX6_hashedValue 17 = .ok (.goto 13, 3) := by decide +kernel
theorem dX6_hashedValue_20 : decode cX6_hashedValue 20 = .ok (.aload 4, 2) := by decide +kernel
theorem dX6_hashedValue_22 : decode cX6_hashedValue 22 = .ok (.aload_n 0, 1) := by decide +kernel
theorem dX6_hashedValue_23 : decode cX6_hashedValue 23 = .ok (.getfield 34, 3) := by decide +kernel
theorem dX6_hashedValue_26 : decode cX6_hashedValue 26 = .ok (.lload_n 2, 1) := by decide +kernel
theorem dX6_hashedValue_27 : decode cX6_hashedValue 27 = .ok (.invokevirtual 425, 3) := by decide +kernel
theorem dX6_hashedValue_30 : decode cX6_hashedValue 30 = .ok (.istore 5, 2) := by decide +kernel
theorem dX6_hashedValue_32 : decode cX6_hashedValue 32 = .ok (.aload 4, 2) := by decide +kernel
theorem dX6_hashedValue_34 : decode cX6_hashedValue 34 = .ok (.ifnull 12, 3) := by decide +kernel
theorem dX6_hashedValue_37 : decode cX6_hashedValue 37 = .ok (.iload 5, 2) := by decide +kernel
theorem dX6_hashedValue_39 : decode cX6_hashedValue 39 = .ok (.ifCond .lt 7, 3) := by decide +kernel
theorem dX6_hashedValue_42 : decode cX6_hashedValue 42 = .ok (.iconst 1, 1) := by decide +kernel
theorem dX6_hashedValue_43 : decode cX6_hashedValue 43 = .ok (.goto 4, 3) := by decide +kernel
theorem dX6_hashedValue_46 : decode cX6_hashedValue 46 = .ok (.iconst 0, 1) := by decide +kernel
theorem dX6_hashedValue_47 : decode cX6_hashedValue 47 = .ok (.invokestatic 169, 3) := by decide +kernel
theorem dX6_hashedValue_50 : decode cX6_hashedValue 50 = .ok (.aload 4, 2) := by decide +kernel
theorem dX6_hashedValue_52 : decode cX6_hashedValue 52 = .ok (.getfield 429, 3) := by decide +kernel
theorem dX6_hashedValue_55 : decode cX6_hashedValue 55 = .ok (.iload 5, 2) := by decide +kernel
theorem dX6_hashedValue_57 : decode cX6_hashedValue 57 = .ok (.laload, 1) := by decide +kernel
theorem dX6_hashedValue_58 : decode cX6_hashedValue 58 = .ok (.lreturn, 1) := by decide +kernel
set_option maxRecDepth 100000 in
set_option maxHeartbeats 4000000 in
theorem z_hashedValue (l : Launch) (D : va_G) (cy : Nat → ClassId) (N0 : Nat) (h : qH) (Im : Nat → Prop) (e9 : Nat) (Ok : Nat → Prop) (m9 : Int32) (xr : Option Nat) (L : qKV) (X : Nat → Prop) (tx sl bl kr vr : Nat) (ca mv ed : Int32) (k : Int64) (hR : qRt cy h Im e9 Ok m9 xr L X) (hT : h tx = some (.inr (6, [.int m9, .ref sl, .ref bl, .ref kr, .ref vr, .int ca, .int mv, .int ed]))) (hL : L.length < 1000000) (hno : qNo L) : qC l D cy N0 yX6_hashedValue cX6_hashedValue 6 (some .long) 8 130 1 6 [.ref tx, va_rf xr, .long k] h (fun v h' => xHas L k = true ∧ v = some (.long (xLook L k)) ∧ h = h') (fun E h' => E = "java/util/NoSuchElementException" ∧ h = h' ∧ xHas L k = false) := by
  refine q_ofW (by decide) (by simp [lg_sl, q_catrf, q_cati, q_catl, q_cata, q_catn]) ?_
  intro p e s m below meth c ls C hP hl
  have hx := C.1
  have hb := C.2.1
  have hS : va_S (qA N0) s.heap s.heap [] := va_S.rf
  have hl : lv_has ls 6 [(0, .ref tx), (1, va_rf xr), (2, .long k)] := by simpa [lv_args, q_catrf, q_cati, q_catl, q_cata, q_catn] using hl
  refine q_aload_n hx hb dX6_hashedValue_0 rfl (lv_at hl 1 rfl) ?_
  refine lv_aload_n hx hb dX6_hashedValue_1 rfl (lv_at hl 0 rfl) ?_
  refine q_get C hP hT rfl inX6 0 (by decide) g68 rfl dX6_hashedValue_2 ?_
  refine lv_lload_n hx hb dX6_hashedValue_5 rfl (lv_at hl 2 rfl) ?_
  refine q_callS (rest := []) C (c_X3_homeOf l D cy N0 h Im e9 Ok m9 xr L X k hR) kX3_homeOf g774 g297 hP hS (by first | decide | omega) hl.1 rfl (by decide) (by first | decide | omega) dX6_hashedValue_6 (fun q ce E h' H1 locs1 hE => hE.elim) (fun v hh1 H locs hq hP hS => ?_)
  obtain ⟨rfl, hq⟩ := hq
  rcases hq with ⟨hxn, rfl⟩ | ⟨a1, X1, rfl, hne9, hT1⟩
  · refine lv_astoreN (lv' := [(4, .null), (0, .ref tx), (1, va_rf xr), (2, .long k)]) hx hb dX6_hashedValue_9 hl (by decide) rfl (fun ls hl => ?_)
    refine lv_aloadN hx hb dX6_hashedValue_11 (lv_at hl 0 rfl) ?_
    refine lv_ifnonnullN hx hb dX6_hashedValue_13 ?_
    refine lv_iconst (v := -1) hx hb dX6_hashedValue_16 (by decide) ?_
    refine lv_goto (tgt := 30) hx hb dX6_hashedValue_17 (by decide) ?_
    refine lv_istore (lv' := [(5, .int (-1)), (4, .null), (0, .ref tx), (1, va_rf xr), (2, .long k)]) hx hb dX6_hashedValue_30 hl (by decide) rfl (fun ls hl => ?_)
    refine lv_aloadN hx hb dX6_hashedValue_32 (lv_at hl 1 rfl) ?_
    refine lv_ifnullN (tgt := 46) hx hb dX6_hashedValue_34 (by decide) ?_
    have hnn : xHas L k = false := by
      rcases hR with ⟨-, rfl⟩ | ⟨a, z, -⟩
      · rfl
      · rw [hxn] at z; cases z
    refine lv_iconst (v := nI 0) hx hb dX6_hashedValue_46 (by decide) ?_
    refine q_callS (rest := []) C (c_X6_needThere l D cy N0 h (nI 0)) kX6_needThere g598 g599 hP hS (by first | decide | omega) hl.1 rfl (by decide) (by first | decide | omega) dX6_hashedValue_47 (fun q ce E h' H1 locs1 hE hP hS hc1 hc2 hc3 => by obtain ⟨rfl, rfl, hz9⟩ := hE; exact q_out C hP hS hc1 hc2 hc3 ⟨rfl, rfl, hnn⟩ (by omega)) (fun v hh2 H locs hq hP hS => ?_)
    obtain ⟨rfl, rfl, hz9⟩ := hq
    exact absurd rfl hz9
  · obtain ⟨r1, L1, eH1⟩ : ∃ (r1 : Nat) (L1 : qKV), thHm m9 k 7 L = (r1, L1) := ⟨_, _, rfl⟩
    have hrl := thHm_le (m := m9) (k := k) 7 L
    have hll := thHm_len (m := m9) (k := k) 7 L
    have hend := thHm_end (m := m9) (k := k) 7 L
    have hal := thHm_al (m := m9) (k := k) 7 L
    have hhas := fun p => thHome_has (m := m9) (k := k) (L := L) (p := p)
    rw [eH1] at hT1 hrl hll hend hal hhas
    dsimp only at hT1 hrl hll hend hal hhas
    obtain ⟨ow1, ka1, va1, na1, C1, Xs1, hn1, hx1, hk1⟩ := hT1.inv
    have f1 := hn1.1
    have fk1 := hn1.2.1
    have fv1 := hn1.2.2.1
    have fn1 := hn1.2.2.2.1
    unfold thNo at f1
    unfold thJ at fk1 fv1
    unfold thA at fn1
    rw [List.length_map] at fk1 fv1
    have hkl := trK_len (m := m9) (r := r1) (L := L1)
    refine lv_astore (lv' := [(4, .ref a1), (0, .ref tx), (1, va_rf xr), (2, .long k)]) hx hb dX6_hashedValue_9 hl (by decide) rfl (fun ls hl => ?_)
    refine lv_aload hx hb dX6_hashedValue_11 (lv_at hl 0 rfl) ?_
    refine lv_ifnonnull (tgt := 20) hx hb dX6_hashedValue_13 (by decide) ?_
    refine lv_aload hx hb dX6_hashedValue_20 (lv_at hl 0 rfl) ?_
    refine lv_aload_n hx hb dX6_hashedValue_22 rfl (lv_at hl 1 rfl) ?_
    refine q_get C hP hT rfl inX6 0 (by decide) g68 rfl dX6_hashedValue_23 ?_
    refine lv_lload_n hx hb dX6_hashedValue_26 rfl (lv_at hl 3 rfl) ?_
    refine q_callVN (host := RX6) (rest := []) C (c_X3_placeOf l D cy N0 h Im e9 Ok m9 r1 a1 L1 L1.length X1 ow1 ka1 va1 na1 C1 k hn1 (by omega) (by omega) (by omega)) kX3_placeOf (by decide +kernel) g316 rfl gp5 hP hS f1 (by first | decide | omega) hl.1 rfl (by decide) (by first | decide | omega) dX6_hashedValue_27 (fun v hh3 H locs hq hP hS => ?_)
    obtain ⟨rfl, hq⟩ := hq
    rcases hq with ⟨j9, x9, rfl, ex9⟩ | ⟨rfl, no9⟩
    · have hjl := (List.getElem?_eq_some_iff.mp ex9).1
      refine lv_istore (lv' := [(5, .int (nI j9)), (4, .ref a1), (0, .ref tx), (1, va_rf xr), (2, .long k)]) hx hb dX6_hashedValue_30 hl (by decide) rfl (fun ls hl => ?_)
      refine lv_aload hx hb dX6_hashedValue_32 (lv_at hl 1 rfl) ?_
      refine lv_ifnull hx hb dX6_hashedValue_34 ?_
      refine lv_iload hx hb dX6_hashedValue_37 (lv_at hl 0 rfl) ?_
      refine lv_if_lt (tgt := 46) hx hb dX6_hashedValue_39 (by decide) (fun c39 => ?_) (fun c39 => ?_)
      · replace c39 : j9 < 0 := (nI_ltI (a := j9) (b := 0) (by omega) (by omega)).mp c39
        exfalso; omega
      · replace c39 : ¬ j9 < 0 := fun zq => c39 ((nI_ltI (a := j9) (b := 0) (by omega) (by omega)).mpr zq)
        refine lv_iconst (v := nI 1) hx hb dX6_hashedValue_42 (by decide) ?_
        refine lv_goto (tgt := 47) hx hb dX6_hashedValue_43 (by decide) ?_
        refine q_callS (rest := []) C (c_X6_needThere l D cy N0 h (nI 1)) kX6_needThere g598 g599 hP hS (by first | decide | omega) hl.1 rfl (by decide) (by first | decide | omega) dX6_hashedValue_47 (fun q ce E h' H1 locs1 hE hP hS hc1 hc2 hc3 => absurd hE.2.2 (by decide)) (fun v hh4 H locs hq hP hS => ?_)
        obtain ⟨rfl, rfl, hz9⟩ := hq
        refine lv_aload hx hb dX6_hashedValue_50 (lv_at hl 1 rfl) ?_
        refine q_getN C hP f1 rfl inX3 6 (by decide) (by decide +kernel) rfl dX6_hashedValue_52 ?_
        refine lv_iload hx hb dX6_hashedValue_55 (lv_at hl 0 rfl) ?_
        refine q_laldN C hP fv1 (by omega) (by omega) dX6_hashedValue_57 ?_
        have hm9 : (k, x9) ∈ L := (hhas _ rfl).mpr (List.mem_of_getElem? ex9)
        have hv9 : ((trK m9 r1 L1).map Prod.snd).getD j9 0 = xLook L k := by rw [List.getD_eq_getElem?_getD, List.getElem?_map, ex9, xLook_mem hno hm9]; rfl
        exact q_lret C hP hS ⟨xHas_iff.mpr ⟨(k, x9), hm9, rfl⟩, by rw [← hv9], rfl⟩ (by omega) dX6_hashedValue_58
    · refine lv_istore (lv' := [(5, .int (-1)), (4, .ref a1), (0, .ref tx), (1, va_rf xr), (2, .long k)]) hx hb dX6_hashedValue_30 hl (by decide) rfl (fun ls hl => ?_)
      refine lv_aload hx hb dX6_hashedValue_32 (lv_at hl 1 rfl) ?_
      refine lv_ifnull hx hb dX6_hashedValue_34 ?_
      refine lv_iload hx hb dX6_hashedValue_37 (lv_at hl 0 rfl) ?_
      refine lv_if_lt (tgt := 46) hx hb dX6_hashedValue_39 (by decide) (fun _ => ?_) (fun c => absurd (by decide) c)
      refine lv_iconst (v := nI 0) hx hb dX6_hashedValue_46 (by decide) ?_
      refine q_callS (rest := []) C (c_X6_needThere l D cy N0 h (nI 0)) kX6_needThere g598 g599 hP hS (by first | decide | omega) hl.1 rfl (by decide) (by first | decide | omega) dX6_hashedValue_47 (fun q ce E h' H1 locs1 hE hP hS hc1 hc2 hc3 => by obtain ⟨rfl, rfl, hz9⟩ := hE; exact q_out C hP hS hc1 hc2 hc3 ⟨rfl, rfl, xHas_no.mpr (fun p hp e => no9 p ((hhas p e).mp hp) e)⟩ (by omega)) (fun v hh5 H locs hq hP hS => ?_)
      obtain ⟨rfl, rfl, hz9⟩ := hq
      exact absurd rfl hz9
theorem dX6_hashedKeyAt_0 : decode cX6_hashedKeyAt 0 = .ok (.iload_n 1, 1) := by decide +kernel
theorem dX6_hashedKeyAt_1 : decode cX6_hashedKeyAt 1 = .ok (.aload_n 0, 1) := by decide +kernel
theorem dX6_hashedKeyAt_2 : decode cX6_hashedKeyAt 2 = .ok (.invokestatic 407, 3) := by decide +kernel
theorem dX6_hashedKeyAt_5 : decode cX6_hashedKeyAt 5 = .ok (.if_icmp .ge 7, 3) := by decide +kernel
theorem dX6_hashedKeyAt_8 : decode cX6_hashedKeyAt 8 = .ok (.iconst 1, 1) := by decide +kernel
theorem dX6_hashedKeyAt_9 : decode cX6_hashedKeyAt 9 = .ok (.goto 4, 3) := by decide +kernel
theorem dX6_hashedKeyAt_12 : decode cX6_hashedKeyAt 12 = .ok (.iconst 0, 1) := by decide +kernel
theorem dX6_hashedKeyAt_13 : decode cX6_hashedKeyAt 13 = .ok (.invokestatic 169, 3) := by decide +kernel
theorem dX6_hashedKeyAt_16 : decode cX6_hashedKeyAt 16 = .ok (.aload_n 0, 1) := by decide +kernel
theorem dX6_hashedKeyAt_17 : decode cX6_hashedKeyAt 17 = .ok (.iload_n 1, 1) := by decide +kernel
theorem dX6_hashedKeyAt_18 : decode cX6_hashedKeyAt 18 = .ok (.invokestatic 432, 3) := by decide +kernel
theorem dX6_hashedKeyAt_21 : decode cX6_hashedKeyAt 21 = .ok (.lreturn, 1) := by decide +kernel
set_option maxRecDepth 100000 in
set_option maxHeartbeats 4000000 in
theorem z_hashedKeyAt (l : Launch) (D : va_G) (cy : Nat → ClassId) (N0 : Nat) (h : qH) (Im : Nat → Prop) (e9 : Nat) (Ok : Nat → Prop) (m9 : Int32) (xr : Option Nat) (L : qKV) (X : Nat → Prop) (i9 : Nat) (hR : qRt cy h Im e9 Ok m9 xr L X) (hL : L.length < 1000000) (hi9 : i9 < 2147483648) : qC l D cy N0 yX6_hashedKeyAt cX6_hashedKeyAt 2 (some .long) 8 130 1 6 [va_rf xr, .int (nI i9)] h (fun v h' => ∃ y9, (thT m9 7 L)[i9]? = some y9 ∧ v = some (.long y9.1) ∧ h = h') (fun E h' => E = "java/util/NoSuchElementException" ∧ h = h' ∧ L.length ≤ i9) := by
  refine q_ofW (by decide) (by simp [lg_sl, q_catrf, q_cati, q_catl, q_cata, q_catn]) ?_
  intro p e s m below meth c ls C hP hl
  have hx := C.1
  have hb := C.2.1
  have hS : va_S (qA N0) s.heap s.heap [] := va_S.rf
  have hl : lv_has ls 2 [(0, va_rf xr), (1, .int (nI i9))] := by simpa [lv_args, q_catrf, q_cati, q_catl, q_cata, q_catn] using hl
  refine lv_iload_n hx hb dX6_hashedKeyAt_0 rfl (lv_at hl 1 rfl) ?_
  refine q_aload_n hx hb dX6_hashedKeyAt_1 rfl (lv_at hl 0 rfl) ?_
  refine q_callS (rest := [.int (nI i9)]) C (c_X3_totalOf l D cy N0 h xr (nI L.length) hR.fi) kX3_totalOf g323 g230 hP hS (by first | decide | omega) hl.1 rfl (by simp [q_catrf, q_cati, q_catl, q_cata, q_catn]) (by first | decide | omega) dX6_hashedKeyAt_2 (fun q ce E h' H1 locs1 hE => hE.elim) (fun v hh1 H locs hq hP hS => ?_)
  obtain ⟨rfl, rfl⟩ := hq
  refine lv_icmp_ge (tgt := 12) hx hb dX6_hashedKeyAt_5 (by decide) (fun c5 => ?_) (fun c5 => ?_)
  · replace c5 : (L.length) ≤ i9 := (nI_leI (a := L.length) (b := i9) (by omega) (by omega)).mp c5
    refine lv_iconst (v := nI 0) hx hb dX6_hashedKeyAt_12 (by decide) ?_
    refine q_callS (rest := []) C (c_X6_needThere l D cy N0 h (nI 0)) kX6_needThere g598 g599 hP hS (by first | decide | omega) hl.1 rfl (by decide) (by first | decide | omega) dX6_hashedKeyAt_13 (fun q ce E h' H1 locs1 hE hP hS hc1 hc2 hc3 => by obtain ⟨rfl, rfl, hz9⟩ := hE; exact q_out C hP hS hc1 hc2 hc3 ⟨rfl, rfl, c5⟩ (by omega)) (fun v hh2 H locs hq hP hS => ?_)
    obtain ⟨rfl, rfl, hz9⟩ := hq
    exact absurd rfl hz9
  · replace c5 : ¬ (L.length) ≤ i9 := fun zq => c5 ((nI_leI (a := L.length) (b := i9) (by omega) (by omega)).mpr zq)
    refine lv_iconst (v := nI 1) hx hb dX6_hashedKeyAt_8 (by decide) ?_
    refine lv_goto (tgt := 13) hx hb dX6_hashedKeyAt_9 (by decide) ?_
    refine q_callS (rest := []) C (c_X6_needThere l D cy N0 h (nI 1)) kX6_needThere g598 g599 hP hS (by first | decide | omega) hl.1 rfl (by decide) (by first | decide | omega) dX6_hashedKeyAt_13 (fun q ce E h' H1 locs1 hE hP hS hc1 hc2 hc3 => absurd hE.2.2 (by decide)) (fun v hh3 H locs hq hP hS => ?_)
    obtain ⟨rfl, rfl, hz9⟩ := hq
    refine q_aload_n hx hb dX6_hashedKeyAt_16 rfl (lv_at hl 0 rfl) ?_
    refine lv_iload_n hx hb dX6_hashedKeyAt_17 rfl (lv_at hl 1 rfl) ?_
    rcases hR with ⟨-, rfl⟩ | ⟨a1, rfl, hne, hT⟩
    · exact absurd c5 (by simp)
    obtain ⟨y9, hy9⟩ : ∃ y9, (thT m9 7 L)[i9]? = some y9 := ⟨_, List.getElem?_eq_getElem (by rw [thT_len]; omega)⟩
    refine q_callS (rest := []) C (c_X3_keyAt l D cy N0 h Im e9 Ok m9 a1 i9 L X y9 hT (by omega) hy9) kX3_keyAt g714 g715 hP hS (by first | decide | omega) hl.1 rfl (by decide) (by first | decide | omega) dX6_hashedKeyAt_18 (fun q ce E h' H1 locs1 hE => hE.elim) (fun v hh4 H locs hq hP hS => ?_)
    obtain ⟨rfl, rfl⟩ := hq
    exact q_lret C hP hS ⟨y9, hy9, rfl, rfl⟩ (by omega) dX6_hashedKeyAt_21
theorem zSv_no {s : qSlot} (h : qNo s.2.1) : qNo (zSv s) := by
  unfold zSv
  split
  · exact qNo_fst (by rw [List.map_map]; exact List.map_congr_left (fun _ _ => rfl)) h
  · exact h
theorem zSv_has {s : qSlot} {k : Int64} : xHas (zSv s) k = xHas s.2.1 k := by
  unfold zSv
  split
  · unfold xHas; rw [List.any_map]; rfl
  · rfl
theorem zSv_look {s : qSlot} {k : Int64} (h : qNo s.2.1) (hk : xHas s.2.1 k = true) (hs : s.1 = 1 ∨ s.1 = 2) : xLook (zSv s) k = if s.1 = 2 then 1 else xLook s.2.1 k := by
  obtain ⟨p, hp, e⟩ := xHas_yes.mp hk
  by_cases c : s.1 = 2
  · rw [if_pos c]
    refine xLook_mem (zSv_no h) ?_
    unfold zSv
    rw [if_pos c]
    exact List.mem_map.mpr ⟨p, hp, by rw [e]⟩
  · rw [if_neg c]
    unfold zSv
    rw [if_neg c]
theorem dX6_find_7 : decode cX6_find 7 = .ok (.astore 4, 2) := by decide +kernel
theorem dX6_find_9 : decode cX6_find 9 = .ok (.aload 4, 2) := by decide +kernel
theorem dX6_find_11 : decode cX6_find 11 = .ok (.getfield 63, 3) := by decide +kernel
theorem dX6_find_14 : decode cX6_find 14 = .ok (.iconst 3, 1) := by decide +kernel
theorem dX6_find_15 : decode cX6_find 15 = .ok (.if_icmp .ne 19, 3) := by decide +kernel
theorem dX6_find_18 : decode cX6_find 18 = .ok (.aload 4, 2) := by decide +kernel
theorem dX6_find_20 : decode cX6_find 20 = .ok (.getfield 101, 3) := by decide +kernel
theorem dX6_find_23 : decode cX6_find 23 = .ok (.lload_n 2, 1) := by decide +kernel
theorem dX6_find_24 : decode cX6_find 24 = .ok (.invokestatic 193, 3) := by decide +kernel
theorem dX6_find_27 : decode cX6_find 27 = .ok (.invokestatic 136, 3) := by decide +kernel
theorem dX6_find_30 : decode cX6_find 30 = .ok (.getfield 140, 3) := by decide +kernel
theorem dX6_find_33 : decode cX6_find 33 = .ok (.lreturn, 1) := by decide +kernel
theorem dX6_find_34 : decode cX6_find 34 = .ok (.aload_n 0, 1) := by decide +kernel
theorem dX6_find_35 : decode cX6_find 35 = .ok (.aload 4, 2) := by decide +kernel
theorem dX6_find_37 : decode cX6_find 37 = .ok (.getfield 66, 3) := by decide +kernel
theorem dX6_find_40 : decode cX6_find 40 = .ok (.lload_n 2, 1) := by decide +kernel
theorem dX6_find_41 : decode cX6_find 41 = .ok (.invokevirtual 201, 3) := by decide +kernel
theorem dX6_find_44 : decode cX6_find 44 = .ok (.lreturn, 1) := by decide +kernel
set_option maxRecDepth 100000 in
set_option maxHeartbeats 4000000 in
theorem z_find (l : Launch) (D : va_G) (cy : Nat → ClassId) (N0 : Nat) (h : qH) (x : Nat) (mk : Int32) (sl bl kr vr Ed : Nat) (fs : Nat → Option Nat) (bd br eb : Nat → Nat) (Im : Nat → Prop) (Xb : Nat → Nat → Prop) (g : Nat → Nat) (S : Nat → qSlot) (W : qWo) (Bd sk Rn : Nat) (dp : Nat → Nat) (p0 : Int32) (p1 : Int64) (hz : zQ cy h x mk sl bl kr vr Ed fs bd br eb Im Xb g S W) (hI : ∀ i, i < 28 → qOk (S i).1 (S i).2.1) (hLn : ∀ i, i < 28 → (S i).2.1.length ≤ 1000) (hV : qWv Bd sk Rn dp W) : qC l D cy N0 yX6_find cX6_find 5 (some .long) 14 260 12 60 [.ref x, .int p0, .long p1] h (fun v h' => (xs_find S p0 p1).1 = 0 ∧ v = some (.long (xs_find S p0 p1).2) ∧ zPo cy h x mk sl bl kr vr Ed bd br Im Xb S W h') (fun E h' => zXc [(1, "java/lang/IllegalArgumentException"), (2, "java/lang/IllegalStateException"), (3, "java/util/NoSuchElementException")] E (xs_find S p0 p1).1 ∧ zPo cy h x mk sl bl kr vr Ed bd br Im Xb S W h') := by
  refine q_ofW (by decide) (by exact Nat.le_of_ble_eq_true rfl) ?_
  intro p e s m below meth c ls C hP hl
  have hx := C.1
  have hb := C.2.1
  have hS : va_S (qA N0) s.heap s.heap [] := va_S.rf
  have hl : lv_has ls 5 [(0, .ref x), (1, .int p0), (2, .long p1)] := hl
  have hf : zFr h h x sl kr vr bd br Xb := zFr.rf
  refine lv_aload_n hx hb dX6_find_0 rfl (lv_at hl 0 rfl) ?_
  refine lv_iload_n hx hb dX6_find_1 rfl (lv_at hl 1 rfl) ?_
  refine lv_bipush (v := nI 14) hx hb dX6_find_2 (by decide) ?_
  refine q_callV (rest := []) C (z_heldIn l D N0 p0 14 hz hI) kX6_heldIn g243 g245 rfl gp2 g1 hP hS hz.1.1 (by first | decide | omega) hl.1 rfl (by decide) (by first | decide | omega) dX6_find_4 (fun q ce E h' H1 locs1 hE hP hS hc1 hc2 hc3 => hE.2.elim (fun y => by obtain ⟨rfl, -⟩ := hE; obtain ⟨rfl, hn9⟩ := y; exact q_out C hP hS hc1 hc2 hc3 (by have ex : (xs_find S p0 p1) = (1, 0) := (by have ebi := hn9; unfold xs_find; rw [if_pos ebi]); exact ⟨by rw [ex]; exact .head _, by exact hz.po hf⟩) (by omega)) (fun y => by obtain ⟨rfl, -⟩ := hE; obtain ⟨rfl, i, hi8, rfl, ho8⟩ := y; exact q_out C hP hS hc1 hc2 hc3 (by have ex : (xs_find S (nI i) p1) = (2, 0) := (by have ebi : bSl (nI i) = true := bSl_t (qSl.nI hi8); have eci : (nI i).toNatClampNeg = i := nI_clamp (by omega); have hoi := ho8; unfold xs_find; rw [if_neg (by rw [ebi]; decide), eci, if_pos hoi]); exact ⟨by rw [ex]; exact .tail _ (.head _), by exact hz.po hf⟩) (by omega))) (fun v hh1 H locs hq hP hS => ?_)
  obtain ⟨rfl, i, ai, hi, rfl, hfsi, rfl, hoi, x1i, x2i, x3i, x4i, dvi, fai, zvi⟩ := hq
  have ebi : bSl (nI i) = true := bSl_t (qSl.nI hi)
  have eci : (nI i).toNatClampNeg = i := nI_clamp (by omega)
  rcases bHo_14 (hI i (by omega)).2.2 hoi with hk9 | hk9 | hk9
  · replace hk9 : (S i).1 = nI 1 := hk9
    rw [hk9] at fai
    replace hk9 : (S i).1 = 1 ∨ (S i).1 = 2 := Or.inl hk9
    obtain ⟨rfl, rfl, rfl, rfl, hR9⟩ := zvi.hash hk9
    have hl9 := hLn i (by omega)
    refine lv_astore (lv' := [(4, .ref ai), (0, .ref x), (1, .int (nI i)), (2, .long p1)]) hx hb dX6_find_7 hl (by decide) rfl (fun ls hl => ?_)
    refine lv_aload hx hb dX6_find_9 (lv_at hl 0 rfl) ?_
    refine q_get C hP fai rfl inX2 0 (by decide) g192 rfl dX6_find_11 ?_
    refine lv_iconst (v := nI 3) hx hb dX6_find_14 (by decide) ?_
    refine lv_icmp_ne (tgt := 34) hx hb dX6_find_15 (by decide) (fun c15 => ?_) (fun c15 => ?_)
    · replace c15 : ¬ 1 = 3 := fun zq => c15 ((nI_eq (a := 1) (b := 3) (by omega) (by omega)).mpr zq)
      refine lv_aload_n hx hb dX6_find_34 rfl (lv_at hl 1 rfl) ?_
      refine lv_aload hx hb dX6_find_35 (lv_at hl 0 rfl) ?_
      refine q_get C hP fai rfl inX2 2 (by decide) g198 rfl dX6_find_37 ?_
      refine lv_lload_n hx hb dX6_find_40 rfl (lv_at hl 3 rfl) ?_
      refine q_callV (rest := []) C (z_hashedValue l D cy N0 h Im 0 (zOk Ed eb S) mk x2i (zSv (S i)) (fun _ => False) x sl bl kr vr (oCq W.1) (oMq W.1) (nI Ed) p1 hR9 hz.1.1 (by rw [zSv_len]; omega) (zSv_no ((hI i (by omega)).2.1 (hk9.elim Or.inl (fun z => Or.inr (Or.inl z)))))) kX6_hashedValue g770 g772 rfl gp20 g1 hP hS hz.1.1 (by first | decide | omega) hl.1 rfl (by decide) (by first | decide | omega) dX6_find_41 (fun q ce E h' H1 locs1 hE hP hS hc1 hc2 hc3 => by obtain ⟨rfl, rfl, hx8⟩ := hE; rw [zSv_has] at hx8; exact q_out C hP hS hc1 hc2 hc3 (by have ex : (xs_find S (nI i) p1) = (3, 0) := (by unfold xs_find; rw [if_neg (by rw [ebi]; decide), eci, if_neg (by rw [hoi]; decide), if_pos hx8]); exact ⟨by rw [ex]; exact .tail _ (.tail _ (.head _)), by exact hz.po hf⟩) (by omega)) (fun v hh2 H locs hq hP hS => ?_)
      obtain ⟨hx8, rfl, rfl⟩ := hq
      rw [zSv_has] at hx8
      have ex : (xs_find S (nI i) p1) = (0, xLook (zSv (S i)) p1) := by unfold xs_find; rw [if_neg (by rw [ebi]; decide), eci, if_neg (by rw [hoi]; decide), if_neg (by rw [hx8]; decide), zSv_look ((hI i (by omega)).2.1 (hk9.elim Or.inl (fun z => Or.inr (Or.inl z)))) hx8 hk9]
      exact q_lret C hP hS ⟨by rw [ex], by first | (rw [ex]; done) | (rw [ex]), hz.po hf⟩ (by omega) dX6_find_44
    · replace c15 : 1 = 3 := (nI_eq (a := 1) (b := 3) (by omega) (by omega)).mp c15
      exfalso; omega
  · replace hk9 : (S i).1 = nI 2 := hk9
    rw [hk9] at fai
    replace hk9 : (S i).1 = 1 ∨ (S i).1 = 2 := Or.inr hk9
    obtain ⟨rfl, rfl, rfl, rfl, hR9⟩ := zvi.hash hk9
    have hl9 := hLn i (by omega)
    refine lv_astore (lv' := [(4, .ref ai), (0, .ref x), (1, .int (nI i)), (2, .long p1)]) hx hb dX6_find_7 hl (by decide) rfl (fun ls hl => ?_)
    refine lv_aload hx hb dX6_find_9 (lv_at hl 0 rfl) ?_
    refine q_get C hP fai rfl inX2 0 (by decide) g192 rfl dX6_find_11 ?_
    refine lv_iconst (v := nI 3) hx hb dX6_find_14 (by decide) ?_
    refine lv_icmp_ne (tgt := 34) hx hb dX6_find_15 (by decide) (fun c15 => ?_) (fun c15 => ?_)
    · replace c15 : ¬ 2 = 3 := fun zq => c15 ((nI_eq (a := 2) (b := 3) (by omega) (by omega)).mpr zq)
      refine lv_aload_n hx hb dX6_find_34 rfl (lv_at hl 1 rfl) ?_
      refine lv_aload hx hb dX6_find_35 (lv_at hl 0 rfl) ?_
      refine q_get C hP fai rfl inX2 2 (by decide) g198 rfl dX6_find_37 ?_
      refine lv_lload_n hx hb dX6_find_40 rfl (lv_at hl 3 rfl) ?_
      refine q_callV (rest := []) C (z_hashedValue l D cy N0 h Im 0 (zOk Ed eb S) mk x2i (zSv (S i)) (fun _ => False) x sl bl kr vr (oCq W.1) (oMq W.1) (nI Ed) p1 hR9 hz.1.1 (by rw [zSv_len]; omega) (zSv_no ((hI i (by omega)).2.1 (hk9.elim Or.inl (fun z => Or.inr (Or.inl z)))))) kX6_hashedValue g770 g772 rfl gp20 g1 hP hS hz.1.1 (by first | decide | omega) hl.1 rfl (by decide) (by first | decide | omega) dX6_find_41 (fun q ce E h' H1 locs1 hE hP hS hc1 hc2 hc3 => by obtain ⟨rfl, rfl, hx8⟩ := hE; rw [zSv_has] at hx8; exact q_out C hP hS hc1 hc2 hc3 (by have ex : (xs_find S (nI i) p1) = (3, 0) := (by unfold xs_find; rw [if_neg (by rw [ebi]; decide), eci, if_neg (by rw [hoi]; decide), if_pos hx8]); exact ⟨by rw [ex]; exact .tail _ (.tail _ (.head _)), by exact hz.po hf⟩) (by omega)) (fun v hh3 H locs hq hP hS => ?_)
      obtain ⟨hx8, rfl, rfl⟩ := hq
      rw [zSv_has] at hx8
      have ex : (xs_find S (nI i) p1) = (0, xLook (zSv (S i)) p1) := by unfold xs_find; rw [if_neg (by rw [ebi]; decide), eci, if_neg (by rw [hoi]; decide), if_neg (by rw [hx8]; decide), zSv_look ((hI i (by omega)).2.1 (hk9.elim Or.inl (fun z => Or.inr (Or.inl z)))) hx8 hk9]
      exact q_lret C hP hS ⟨by rw [ex], by first | (rw [ex]; done) | (rw [ex]), hz.po hf⟩ (by omega) dX6_find_44
    · replace c15 : 2 = 3 := (nI_eq (a := 2) (b := 3) (by omega) (by omega)).mp c15
      exfalso; omega
  · replace hk9 : (S i).1 = nI 3 := hk9
    rw [hk9] at fai
    obtain ⟨rfl, rfl, rfl, rfl, n9, hb9⟩ := zvi.tree hk9
    have hl9 := hLn i (by omega)
    have hn14 : n9 ≤ 14 := hb9.h14 (by omega)
    have hsoi : qSo (S i).2.1 := qSo_of ((hI i (by omega)).1 (Or.inl hk9)) ((hI i (by omega)).2.1 (Or.inr (Or.inr hk9)))
    refine lv_astore (lv' := [(4, .ref ai), (0, .ref x), (1, .int (nI i)), (2, .long p1)]) hx hb dX6_find_7 hl (by decide) rfl (fun ls hl => ?_)
    refine lv_aload hx hb dX6_find_9 (lv_at hl 0 rfl) ?_
    refine q_get C hP fai rfl inX2 0 (by decide) g192 rfl dX6_find_11 ?_
    refine lv_iconst (v := nI 3) hx hb dX6_find_14 (by decide) ?_
    refine lv_icmp_ne (tgt := 34) hx hb dX6_find_15 (by decide) (fun c15 => ?_) (fun c15 => ?_)
    · replace c15 : ¬ 3 = 3 := fun zq => c15 ((nI_eq (a := 3) (b := 3) (by omega) (by omega)).mpr zq)
      exfalso; omega
    · replace c15 : 3 = 3 := (nI_eq (a := 3) (b := 3) (by omega) (by omega)).mp c15
      refine lv_aload hx hb dX6_find_18 (lv_at hl 0 rfl) ?_
      refine q_get C hP fai rfl inX2 1 (by decide) g195 rfl dX6_find_20 ?_
      refine lv_lload_n hx hb dX6_find_23 rfl (lv_at hl 3 rfl) ?_
      refine q_callS (rest := []) C (c_X0_branchWith l D cy N0 h x1i n9 (S i).2.1 p1 hb9 (by omega) hsoi) kX0_branchWith g756 g757 hP hS (by first | decide | omega) hl.1 rfl (by decide) (by first | decide | omega) dX6_find_24 (fun q ce E h' H1 locs1 hE => hE.elim) (fun v hh4 H locs hq hP hS => ?_)
      obtain ⟨r9, rfl, rfl, hwi⟩ := hq
      rcases hwi with ⟨ab, v9, y1, y2, y3, y4, rfl, fab, hm9⟩ | ⟨rfl, hx8⟩
      · have hx8 : xHas (S i).2.1 p1 = true := xHas_yes.mpr ⟨_, hm9, rfl⟩
        refine q_callS (rest := []) C (c_X6_needBranch l D cy N0 h (some ab)) kX6_needBranch g595 g596 hP hS (by first | decide | omega) hl.1 rfl (by decide) (by first | decide | omega) dX6_find_27 (fun q ce E h' H1 locs1 hE hP hS hc1 hc2 hc3 => absurd hE.2.2 (fun z => by cases z)) (fun v hh5 H locs hq hP hS => ?_)
        obtain ⟨a8, e8, rfl, rfl⟩ := hq
        cases e8
        refine q_get C hP fab rfl inX0 2 (by decide) g496 rfl dX6_find_30 ?_
        have ex : (xs_find S (nI i) p1) = (0, v9) := by unfold xs_find; rw [if_neg (by rw [ebi]; decide), eci, if_neg (by rw [hoi]; decide), if_neg (by rw [hx8]; decide), if_neg (fun z => absurd (hk9.symm.trans z) (by decide)), xLook_mem ((hI i (by omega)).2.1 (Or.inr (Or.inr hk9))) hm9]
        exact q_lret C hP hS ⟨by rw [ex], by first | (rw [ex]; done) | (rw [ex]), hz.po hf⟩ (by omega) dX6_find_33
      · replace hx8 : xHas (S i).2.1 p1 = false := xHas_no.mpr hx8
        refine q_callS (rest := []) C (c_X6_needBranch l D cy N0 h none) kX6_needBranch g595 g596 hP hS (by first | decide | omega) hl.1 rfl (by decide) (by first | decide | omega) dX6_find_27 (fun q ce E h' H1 locs1 hE hP hS hc1 hc2 hc3 => by obtain ⟨rfl, rfl, hn9⟩ := hE; exact q_out C hP hS hc1 hc2 hc3 (by have ex : (xs_find S (nI i) p1) = (3, 0) := (by unfold xs_find; rw [if_neg (by rw [ebi]; decide), eci, if_neg (by rw [hoi]; decide), if_pos hx8]); exact ⟨by rw [ex]; exact .tail _ (.tail _ (.head _)), by exact hz.po hf⟩) (by omega)) (fun v hh6 H locs hq hP hS => ?_)
        obtain ⟨a8, e8, rfl, rfl⟩ := hq
        cases e8
