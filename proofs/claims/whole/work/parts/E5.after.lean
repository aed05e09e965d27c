theorem dX6_streamAfter_0 : decode cX6_streamAfter 0 = .ok (.aload_n 1, 1) := by decide +kernel
theorem dX6_streamAfter_1 : decode cX6_streamAfter 1 = .ok (.astore_n 3, 1) := by decide +kernel
theorem dX6_streamAfter_2 : decode cX6_streamAfter 2 = .ok (.iconst 0, 1) := by decide +kernel
theorem dX6_streamAfter_3 : decode cX6_streamAfter 3 = .ok (.istore 4, 2) := by decide +kernel
theorem dX6_streamAfter_5 : decode cX6_streamAfter 5 = .ok (.iload 4, 2) := by decide +kernel
theorem dX6_streamAfter_7 : decode cX6_streamAfter 7 = .ok (.iload_n 2, 1) := by decide +kernel
theorem dX6_streamAfter_8 : decode cX6_streamAfter 8 = .ok (.if_icmp .ge 19, 3) := by decide +kernel
theorem dX6_streamAfter_11 : decode cX6_streamAfter 11 = .ok (.aload_n 3, 1) := by decide +kernel
theorem dX6_streamAfter_12 : decode cX6_streamAfter 12 = .ok (.ifnull 15, 3) := by decide +kernel
theorem dX6_streamAfter_15 : decode cX6_streamAfter 15 = .ok (.aload_n 0, 1) := by decide +kernel
theorem dX6_streamAfter_16 : decode cX6_streamAfter 16 = .ok (.aload_n 3, 1) := by decide +kernel
theorem dX6_streamAfter_17 : decode cX6_streamAfter 17 = .ok (.invokevirtual 179, 3) := by decide +kernel
theorem dX6_streamAfter_20 : decode cX6_streamAfter 20 = .ok (.astore_n 3, 1) := by decide +kernel
theorem dX6_streamAfter_21 : decode cX6_streamAfter 21 = .ok (.iinc 4 1, 3) := by decide +kernel
theorem dX6_streamAfter_24 : decode cX6_streamAfter 24 = .ok (.goto (-19), 3) := by decide +kernel
theorem dX6_streamAfter_27 : decode cX6_streamAfter 27 = .ok (.aload_n 3, 1) := by decide +kernel
theorem dX6_streamAfter_28 : decode cX6_streamAfter 28 = .ok (.areturn, 1) := by decide +kernel
set_option maxRecDepth 100000 in
set_option maxHeartbeats 4000000 in
theorem z_streamAfter (l : Launch) (D : va_G) (cy : Nat → ClassId) (N0 : Nat) (h : qH) (x : Nat) (mk : Int32) (sl bl kr vr : Nat) (ed : Int32) (g : Nat → Nat) (R : Nat → List Int64) (o : qYf) (a : qWd) (k : qKd) (Bd sk Rn : Nat) (dp : Nat → Nat) (d dc : Nat) (F : qWo → Nat → Nat × qWo) (ss ii : Nat) (X : Nat × qWo) (hz : zW h x mk sl bl kr vr ed g R (o, a, k)) (hV : qWv Bd sk Rn dp (o, a, k)) (hfa : oFq o = 0) (hF : zCS l D cy N0 x mk sl bl kr vr ed Bd Rn R F d) (hG : qFg Bd Rn F d) (hdc : dc < d) (hss : ss < a.1 ∧ dp ss ≤ dc) (hii : ii < 2147483648) (hX : xWalk F ii (o, a, k) ss = X) : qC l D cy N0 yX6_streamAfter cX6_streamAfter 5 (some (.object RX5)) (4 * d + 14) (200 * d + 360) (X.2.2.1.1 - a.1 + (if oFq X.2.1 = 0 then 0 else 1)) (10 * (X.2.2.1.1 - a.1) + (if oFq X.2.1 = 0 then 0 else 6)) [.ref x, va_rf (zO g ss), .int (nI ii)] h (fun v h' => zP h x mk sl bl kr vr ed g R a.1 X v h') (fun E h' => zE h x mk sl bl kr vr ed g R a.1 X E h') := by
  refine q_ofW (by decide) (by simp [lg_sl, q_catrf, q_cati, q_catl, q_cata, q_catn]) ?_
  intro p e s m below meth c ls C hP hl
  have hx := C.1
  have hb := C.2.1
  have hS : va_S (qA N0) s.heap s.heap [] := va_S.rf
  have hl : lv_has ls 5 [(0, .ref x), (1, va_rf (zO g ss)), (2, .int (nI ii))] := by simpa [lv_args, q_catrf, q_cati, q_catl, q_cata, q_catn] using hl
  have hp0 : 1 ≤ a.1 ∧ a.1 ≤ a.2.1 := hV.p
  obtain ⟨sr, esr⟩ : ∃ z, zO g ss = z := ⟨_, rfl⟩
  replace hl : lv_has ls 5 [(0, .ref x), (1, va_rf sr), (2, .int (nI ii))] := by rw [esr] at hl; exact hl
  refine q_aload_n hx hb dX6_streamAfter_0 rfl (lv_at hl 1 rfl) ?_
  refine q_astore_n (lv' := [(3, va_rf sr), (0, .ref x), (1, va_rf sr), (2, .int (nI ii))]) hx hb dX6_streamAfter_1 rfl hl (by decide) rfl (fun ls hl => ?_)
  refine lv_iconst (v := nI 0) hx hb dX6_streamAfter_2 (by decide) ?_
  refine lv_istore (lv' := [(4, .int (nI 0)), (3, va_rf sr), (0, .ref x), (1, va_rf sr), (2, .int (nI ii))]) hx hb dX6_streamAfter_3 hl (by decide) (by cases sr <;> rfl) (fun ls hl => ?_)
  refine (?_ : ∀ (u t : Nat) (H : Heap) (locs : List Loc) (ls : Array Slot) (hh : qH) (g9 : Nat → Nat) (o9 : qYf) (a9 : qWd) (k9 : qKd) (dp9 : Nat → Nat) (s9 c1 c2 : Nat), t < u → lv_has ls 5 [(4, .int (nI (ii - t))), (3, va_rf (zO g9 s9)), (2, .int (nI ii)), (0, .ref x)] → t ≤ ii → qP D N0 hh H → va_S (qA N0) s.heap H locs → zW hh x mk sl bl kr vr ed g9 R (o9, a9, k9) → qWv Bd sk Rn dp9 (o9, a9, k9) → oFq o9 = 0 → s9 < a9.1 ∧ dp9 s9 ≤ dc → xWalk F t (o9, a9, k9) s9 = X → c1 + a.1 = a9.1 ∧ c2 + 10 * a.1 = 10 * a9.1 → (∀ s, s < a.1 → g9 s = g s) → zH h hh x → W p l e _ s m _ below meth c H locs c1 c2 _ (F0 m 5 ls [])) (ii + 1) ii _ _ ls h g o a k dp ss 0 0 (by omega) (by rw [esr, Nat.sub_self]; exact lv_sub hl [0, 1, 4, 2] rfl) (by omega) hP hS hz hV hfa hss hX ⟨by omega, by omega⟩ (fun _ _ => rfl) zH.rf
  clear hl hP hS hz hV hfa hss hX
  intro u
  induction u with
  | zero => intro t _ _ _ _ _ _ _ _ _ _ _ _ h; exact absurd h (Nat.not_lt_zero _)
  | succ u ihu =>
    intro t H locs ls hh g9 o9 a9 k9 dp9 s9 c1 c2 htu hl ht9 hP hS hz hV hfa hss hX hcc hag hH9
    have hp9 : 1 ≤ a9.1 ∧ a9.1 ≤ a9.2.1 := hV.p
    have stX := xWalk_stp hG hdc t s9 dp9 (o9, a9, k9) hV hfa hss
    rw [hX] at stX
    have hmX : a9.1 ≤ X.2.2.1.1 := by obtain ⟨_, _, _, z, _⟩ := stX; exact z
    clear stX
    obtain ⟨sv, esv⟩ : ∃ z, zO g9 s9 = z := ⟨_, rfl⟩
    replace hl : lv_has ls 5 [(4, .int (nI (ii - t))), (3, va_rf sv), (2, .int (nI ii)), (0, .ref x)] := by rw [esv] at hl; exact hl
    by_cases ct : t = 0
    · have eX : X = (s9, o9, a9, k9) := by rw [← hX, ct, xWalk]
      refine lv_iload hx hb dX6_streamAfter_5 (lv_at hl 0 rfl) ?_
      refine lv_iload_n hx hb dX6_streamAfter_7 rfl (lv_at hl 2 rfl) ?_
      refine lv_icmp_ge (tgt := 27) hx hb dX6_streamAfter_8 (by decide) (fun _ => ?_) (fun c => absurd ((nI_leI (a := ii) (b := ii - t) (by omega) (by omega)).mpr (by omega)) c)
      refine q_aload_n hx hb dX6_streamAfter_27 rfl (lv_at hl 1 rfl) ?_
      exact q_aret (v := sv) C (Or.inl ⟨_, rfl⟩) hP hS ⟨by rw [eX]; exact hfa, g9, hag, by rw [eX, esv], by rw [eX]; exact hz, hH9⟩ (by omega) dX6_streamAfter_28
    · by_cases cs : s9 = 0
      · have eX : X = (0, o9, a9, k9) := by rw [← hX, show t = (t - 1) + 1 by omega, xWalk, if_pos cs]
        have esn : sv = none := by rw [← esv, cs, zO_z]
        subst esn
        refine lv_iload hx hb dX6_streamAfter_5 (lv_at hl 0 rfl) ?_
        refine lv_iload_n hx hb dX6_streamAfter_7 rfl (lv_at hl 2 rfl) ?_
        refine lv_icmp_ge (tgt := 27) hx hb dX6_streamAfter_8 (by decide) (fun c => absurd ((nI_leI (a := ii) (b := ii - t) (by omega) (by omega)).mp c) (by omega)) (fun _ => ?_)
        refine lv_aload_nN hx hb dX6_streamAfter_11 rfl (lv_at hl 1 rfl) ?_
        refine lv_ifnullN (tgt := 27) hx hb dX6_streamAfter_12 (by decide) ?_
        refine lv_aload_nN hx hb dX6_streamAfter_27 rfl (lv_at hl 1 rfl) ?_
        exact q_aret (v := none) C (Or.inl ⟨_, rfl⟩) hP hS ⟨by rw [eX]; exact hfa, g9, hag, by rw [eX, zO_z], by rw [eX]; exact hz, hH9⟩ (by omega) dX6_streamAfter_28
      · obtain ⟨ga, ega⟩ : ∃ z, g9 s9 = z := ⟨_, rfl⟩
        have esn : sv = some ga := by rw [← esv, zO_s cs, ega]
        subst esn
        have hxx := hz.1
        obtain ⟨s2, o2, a2, k2, er9⟩ : ∃ z1 z2 z3 z4, F (o9, a9, k9) s9 = (z1, z2, z3, z4) := ⟨_, _, _, _, rfl⟩
        have hX2 : X = if ¬ oFq o2 = 0 then (0, o2, a2, k2) else xWalk F (t - 1) (o2, a2, k2) s2 := by rw [← hX, show t = (t - 1) + 1 by omega, xWalk, if_neg cs, er9, Nat.add_sub_cancel]
        have st9 := hG _ dp9 (o9, a9, k9) s9 hV hfa hss.1 (by omega)
        rw [er9] at st9
        obtain ⟨dp2, d1, w2, d3, d4, d5, -, d7⟩ := st9
        dsimp only at d1 d3 d4 d5 w2
        have hm2 : a2.1 ≤ X.2.2.1.1 ∧ (if oFq o2 = 0 then 0 else 1) ≤ (if oFq X.2.1 = 0 then 0 else 1) ∧ (if oFq o2 = 0 then 0 else 6) ≤ (if oFq X.2.1 = 0 then 0 else 6) := by
          by_cases z : ¬ oFq o2 = 0
          · rw [hX2, if_pos z]; exact ⟨Nat.le_refl _, Nat.le_refl _, Nat.le_refl _⟩
          · have z1 := Decidable.not_not.mp z; have z2 := d5 z1; rw [if_pos z1, if_pos z1]; refine ⟨?_, Nat.zero_le _, Nat.zero_le _⟩; rw [hX2, if_neg z]; obtain ⟨_, _, _, z3, _⟩ := xWalk_stp hG hdc (t - 1) s2 dp2 (o2, a2, k2) w2 z1 ⟨z2.1, by omega⟩; exact z3
        refine lv_iload hx hb dX6_streamAfter_5 (lv_at hl 0 rfl) ?_
        refine lv_iload_n hx hb dX6_streamAfter_7 rfl (lv_at hl 2 rfl) ?_
        refine lv_icmp_ge (tgt := 27) hx hb dX6_streamAfter_8 (by decide) (fun c => absurd ((nI_leI (a := ii) (b := ii - t) (by omega) (by omega)).mp c) (by omega)) (fun _ => ?_)
        refine lv_aload_n hx hb dX6_streamAfter_11 rfl (lv_at hl 1 rfl) ?_
        refine lv_ifnull hx hb dX6_streamAfter_12 ?_
        refine lv_aload_n hx hb dX6_streamAfter_15 rfl (lv_at hl 3 rfl) ?_
        refine lv_aload_n hx hb dX6_streamAfter_16 rfl (lv_at hl 1 rfl) ?_
        have hcall := hF hh g9 o9 a9 k9 _ dp9 s9 hz hV hfa (by omega) hss.1 (by omega)
        rw [er9, ega] at hcall
        dsimp only at hcall
        refine q_callV (rest := []) C (hcall) kX6_restOf g637 g639 rfl gp14 g1 hP hS hxx (by first | decide | omega) hl.1 rfl (by decide) (by first | decide | omega) dX6_streamAfter_17 (fun q ce E h' H1 locs1 hE hP hS hc1 hc2 hc3 => by obtain ⟨hE1, gw2, ag2, hz2, hH2⟩ := hE; have hf2 : ¬ oFq o2 = 0 := hE1.elim (fun y z => absurd (z.symm.trans y.2) (by decide)) (fun y z => absurd (z.symm.trans y.2) (by decide)); rw [if_pos hf2] at hX2; exact q_out C hP hS hc1 hc2 hc3 (by rw [hX2]; exact ⟨hE1, gw2, fun s hs => (ag2 s (by omega)).trans (hag s hs), hz2, hH9.tr hH2⟩) (by omega)) (fun v hh1 H locs hq hP hS => ?_)
        obtain ⟨hf2, gw2, ag2, rfl, hz2, hH2⟩ := hq
        obtain ⟨sw, esw⟩ : ∃ z, zO gw2 s2 = z := ⟨_, rfl⟩
        dsimp only
        rw [esw]
        have e60 : (if oFq o2 = 0 then 0 else 1) = 0 ∧ (if oFq o2 = 0 then 0 else 6) = 0 := ⟨if_pos hf2, if_pos hf2⟩
        refine q_astore_n (lv' := [(3, va_rf sw), (4, .int (nI (ii - t))), (2, .int (nI ii)), (0, .ref x)]) hx hb dX6_streamAfter_20 rfl hl (by decide) rfl (fun ls hl => ?_)
        refine lv_iinc (v := nI ((ii - t) + 1)) (lv' := [(4, .int (nI ((ii - t) + 1))), (3, va_rf sw), (2, .int (nI ii)), (0, .ref x)]) hx hb dX6_streamAfter_21 hl (k := 1) rfl (nI_1 (ii - t)) (by decide) (by cases sw <;> rfl) (fun ls hl => ?_)
        refine lv_goto (tgt := 5) hx hb dX6_streamAfter_24 (by decide) ?_
        rw [show ii - t + 1 = ii - (t - 1) by omega] at hl
        have z2 := d5 hf2
        exact ihu (t - 1) H locs ls _ gw2 o2 a2 k2 dp2 s2 _ _ (by omega) (by rw [esw]; exact lv_sub hl [0, 1, 2, 3] rfl) (by omega) hP hS hz2 w2 hf2 ⟨z2.1, by omega⟩ (by rw [hX2, if_neg (fun z => z hf2)]) ⟨by omega, by omega⟩ (fun s hs => (ag2 s (by omega)).trans (hag s hs)) (hH9.tr hH2)
