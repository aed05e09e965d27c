theorem dX8_cons_12 : decode cX8_cons 12 = .ok (.aload_n 0, 1) := by decide +kernel
theorem dX8_cons_13 : decode cX8_cons 13 = .ok (.aload_n 0, 1) := by decide +kernel
theorem dX8_cons_14 : decode cX8_cons 14 = .ok (.getfield 32, 3) := by decide +kernel
theorem dX8_cons_17 : decode cX8_cons 17 = .ok (.invokestatic 181, 3) := by decide +kernel
theorem dX8_cons_20 : decode cX8_cons 20 = .ok (.putfield 32, 3) := by decide +kernel
theorem dX8_cons_23 : decode cX8_cons 23 = .ok (.aload_n 0, 1) := by decide +kernel
theorem dX8_cons_24 : decode cX8_cons 24 = .ok (.aload_n 0, 1) := by decide +kernel
theorem dX8_cons_25 : decode cX8_cons 25 = .ok (.getfield 36, 3) := by decide +kernel
theorem dX8_cons_28 : decode cX8_cons 28 = .ok (.invokestatic 185, 3) := by decide +kernel
theorem dX8_cons_31 : decode cX8_cons 31 = .ok (.putfield 36, 3) := by decide +kernel
set_option maxRecDepth 100000 in
set_option maxHeartbeats 4000000 in
theorem c_X8_cons (l : Launch) (D : va_G) (cy : Nat → ClassId) (N0 : Nat) (h : qH) (y ms mb mw od pt fi re rc rs so ot cn la ro : Nat) (gr cd ca mv ct fau ce rn : Int32) (nc CL : Nat) (F : Nat → Int64) (Rt : Nat → Int32) (x0 : Int64) (r0 : Int32) (hY : h y = some (.inr (8, [.ref ms, .ref mb, .ref mw, .int gr, .int cd, .int ca, .int mv, .ref od, .ref pt, .int ct, .int fau, .ref fi, .ref re, .int (nI nc), .ref rc, .ref rs, .ref so, .ref ot, .ref cn, .ref la, .int ce, .ref ro, .int rn]))) (hfi : h fi = some (.inl (cy 1, CL, .inr (.inl F)))) (hre : h re = some (.inl (cy 0, CL, .inl Rt))) (hc : nc ≤ CL ∧ 1 ≤ CL ∧ CL ≤ 100000) : qC l D cy N0 yX8_cons cX8_cons 4 (some .int) 1 22 (if nc = CL then 2 else 0) (if nc = CL then 4 * CL else 0) [.ref y, .long x0, .int r0] h (fun v h' => v = some (.int (nI nc)) ∧ ∃ (f2 r2 C2 : Nat) (_ : C2 = if nc = CL then 2 * CL else CL) (G : Nat → Int64) (Q : Nat → Int32), h' y = some (.inr (8, [.ref ms, .ref mb, .ref mw, .int gr, .int cd, .int ca, .int mv, .ref od, .ref pt, .int ct, .int fau, .ref f2, .ref r2, .int (nI (nc + 1)), .ref rc, .ref rs, .ref so, .ref ot, .ref cn, .ref la, .int ce, .ref ro, .int rn])) ∧ h' f2 = some (.inl (cy 1, C2, .inr (.inl G))) ∧ h' r2 = some (.inl (cy 0, C2, .inl Q)) ∧ (∀ j, j < nc → G j = F j) ∧ G nc = x0 ∧ (∀ j, j < nc → Q j = Rt j) ∧ Q nc = r0 ∧ (f2 = fi ∨ ∀ o, ¬ h f2 = some o) ∧ (r2 = re ∨ ∀ o, ¬ h r2 = some o) ∧ ∀ b o, h b = some o → b ≠ y → b ≠ fi → b ≠ re → h' b = some o) (fun E h' => False) := by
  refine q_ofW (by decide) (by exact Nat.le_of_ble_eq_true rfl) ?_
  intro p e s m below meth c ls C hP hl
  have hx := C.1
  have hb := C.2.1
  have hS : va_S (qA N0) s.heap s.heap [] := va_S.rf
  have hl : lv_has ls 4 [(0, .ref y), (1, .long x0), (3, .int r0)] := hl
  have hle : qle h h := qle_rf
  have hall : ∀ b o, h b = some o → ¬ h b = none := fun b o hb z => by rw [z] at hb; cases hb
  have fr : ∀ b o, h b = some o → b ≠ y → b ≠ fi → b ≠ re → h b = some o := fun b o hb _ _ _ => hb
  have e21 : nc = CL → (if nc = CL then 2 else 0) = 2 ∧ (if nc = CL then 4 * CL else 0) = 4 * CL := fun z => ⟨if_pos z, if_pos z⟩
  refine lv_aload_n hx hb dX8_cons_0 rfl (lv_at hl 0 rfl) ?_
  refine q_get C hP hY rfl inX8 13 (by decide) g1180 rfl dX8_cons_1 ?_
  refine lv_aload_n hx hb dX8_cons_4 rfl (lv_at hl 0 rfl) ?_
  refine q_get C hP hY rfl inX8 12 (by decide) g1179 rfl dX8_cons_5 ?_
  refine q_alen C hP hre rfl dX8_cons_8 ?_
  refine lv_icmp_ne (tgt := 34) hx hb dX8_cons_9 (by decide) (fun c9 => ?_) (fun c9 => ?_)
  · replace c9 : ¬ nc = CL := fun zq => c9 ((nI_eq (a := nc) (b := CL) (by omega) (by omega)).mpr zq)
    refine lv_aload_n hx hb dX8_cons_34 rfl (lv_at hl 0 rfl) ?_
    refine q_get C hP hY rfl inX8 11 (by decide) g1178 rfl dX8_cons_35 ?_
    refine lv_aload_n hx hb dX8_cons_38 rfl (lv_at hl 0 rfl) ?_
    refine q_get C hP hY rfl inX8 13 (by decide) g1180 rfl dX8_cons_39 ?_
    refine lv_lload_n hx hb dX8_cons_42 rfl (lv_at hl 1 rfl) ?_
    refine q_lastN C hP hS hfi (by omega) (by omega) dX8_cons_43 (fun H locs hP hS => ?_)
    obtain ⟨hv1, ehv1⟩ : ∃ z : qH, z = qs h fi (.inl (cy 1, CL, .inr (.inl (vp_updL F nc x0)))) := ⟨_, rfl⟩
    rw [← ehv1] at hP
    have khv1 : ∀ b o, b ≠ fi → h b = some o → hv1 b = some o := by rw [ehv1]; exact fun b o nb hb => (qs_ne nb).trans hb
    replace hY := khv1 _ _ (fun q => by subst q; have := hY.symm.trans hfi; first | cases this | simp at this) hY
    replace hre := khv1 _ _ (fun q => by subst q; have := hre.symm.trans hfi; first | cases this | simp at this) hre
    replace hfi : hv1 fi = some (.inl (cy 1, CL, .inr (.inl (vp_updL F nc x0)))) := by rw [ehv1]; exact qs_self
    clear ehv1
    replace fr := fun b o hb m0 m1 m2 => khv1 b o m1 (fr b o hb m0 m1 m2)
    replace hall : ∀ b o, h b = some o → ¬ hv1 b = none := fun b o hb z => by
      by_cases z1 : b = y
      · rw [z1, hY] at z; cases z
      · by_cases z2 : b = fi
        · rw [z2, hfi] at z; cases z
        · by_cases z3 : b = re
          · rw [z3, hre] at z; cases z
          · rw [fr b o hb z1 z2 z3] at z; cases z
    refine lv_aload_n hx hb dX8_cons_44 rfl (lv_at hl 0 rfl) ?_
    refine q_get C hP hY rfl inX8 12 (by decide) g1179 rfl dX8_cons_45 ?_
    refine lv_aload_n hx hb dX8_cons_48 rfl (lv_at hl 0 rfl) ?_
    refine q_get C hP hY rfl inX8 13 (by decide) g1180 rfl dX8_cons_49 ?_
    refine lv_iload_n hx hb dX8_cons_52 rfl (lv_at hl 2 rfl) ?_
    refine q_iastN C hP hS hre (by omega) (by omega) dX8_cons_53 (fun H locs hP hS => ?_)
    obtain ⟨hv2, ehv2⟩ : ∃ z : qH, z = qs hv1 re (.inl (cy 0, CL, .inl (upd Rt nc r0))) := ⟨_, rfl⟩
    rw [← ehv2] at hP
    have khv2 : ∀ b o, b ≠ re → hv1 b = some o → hv2 b = some o := by rw [ehv2]; exact fun b o nb hb => (qs_ne nb).trans hb
    replace hY := khv2 _ _ (fun q => by subst q; have := hY.symm.trans hre; first | cases this | simp at this) hY
    replace hfi := khv2 _ _ (fun q => by subst q; have := hfi.symm.trans hre; first | cases this | simp at this) hfi
    replace hre : hv2 re = some (.inl (cy 0, CL, .inl (upd Rt nc r0))) := by rw [ehv2]; exact qs_self
    clear ehv2
    replace fr := fun b o hb m0 m1 m2 => khv2 b o m2 (fr b o hb m0 m1 m2)
    replace hall : ∀ b o, h b = some o → ¬ hv2 b = none := fun b o hb z => by
      by_cases z1 : b = y
      · rw [z1, hY] at z; cases z
      · by_cases z2 : b = fi
        · rw [z2, hfi] at z; cases z
        · by_cases z3 : b = re
          · rw [z3, hre] at z; cases z
          · rw [fr b o hb z1 z2 z3] at z; cases z
    refine lv_aload_n hx hb dX8_cons_54 rfl (lv_at hl 0 rfl) ?_
    refine lv_dup hx hb dX8_cons_55 rfl ?_
    refine q_get C hP hY rfl inX8 13 (by decide) g1180 rfl dX8_cons_56 ?_
    refine lv_iconst (v := nI 1) hx hb dX8_cons_59 (by decide) ?_
    refine q_iaddN hx hb dX8_cons_60 ?_
    refine q_put C hP hS hY rfl inX8 tyX8 tyX8_ok nmX8 13 (by decide) g1180 rfl rfl rfl (Nat.le_of_ble_eq_true rfl) dX8_cons_61 (fun H locs hP hS => ?_)
    replace hP : qP D N0 (qs hv2 y (.inr (8, [.ref ms, .ref mb, .ref mw, .int gr, .int cd, .int ca, .int mv, .ref od, .ref pt, .int ct, .int fau, .ref fi, .ref re, .int (nI (nc + 1)), .ref rc, .ref rs, .ref so, .ref ot, .ref cn, .ref la, .int ce, .ref ro, .int rn]))) H := hP
    obtain ⟨hv3, ehv3⟩ : ∃ z : qH, z = qs hv2 y (.inr (8, [.ref ms, .ref mb, .ref mw, .int gr, .int cd, .int ca, .int mv, .ref od, .ref pt, .int ct, .int fau, .ref fi, .ref re, .int (nI (nc + 1)), .ref rc, .ref rs, .ref so, .ref ot, .ref cn, .ref la, .int ce, .ref ro, .int rn])) := ⟨_, rfl⟩
    rw [← ehv3] at hP
    have khv3 : ∀ b o, b ≠ y → hv2 b = some o → hv3 b = some o := by rw [ehv3]; exact fun b o nb hb => (qs_ne nb).trans hb
    replace hfi := khv3 _ _ (fun q => by subst q; have := hfi.symm.trans hY; first | cases this | simp at this) hfi
    replace hre := khv3 _ _ (fun q => by subst q; have := hre.symm.trans hY; first | cases this | simp at this) hre
    replace hY : hv3 y = some (.inr (8, [.ref ms, .ref mb, .ref mw, .int gr, .int cd, .int ca, .int mv, .ref od, .ref pt, .int ct, .int fau, .ref fi, .ref re, .int (nI (nc + 1)), .ref rc, .ref rs, .ref so, .ref ot, .ref cn, .ref la, .int ce, .ref ro, .int rn])) := by rw [ehv3]; exact qs_self
    clear ehv3
    replace fr := fun b o hb m0 m1 m2 => khv3 b o m0 (fr b o hb m0 m1 m2)
    replace hall : ∀ b o, h b = some o → ¬ hv3 b = none := fun b o hb z => by
      by_cases z1 : b = y
      · rw [z1, hY] at z; cases z
      · by_cases z2 : b = fi
        · rw [z2, hfi] at z; cases z
        · by_cases z3 : b = re
          · rw [z3, hre] at z; cases z
          · rw [fr b o hb z1 z2 z3] at z; cases z
    refine lv_aload_n hx hb dX8_cons_64 rfl (lv_at hl 0 rfl) ?_
    refine q_get C hP hY rfl inX8 13 (by decide) g1180 rfl dX8_cons_65 ?_
    refine lv_iconst (v := nI 1) hx hb dX8_cons_68 (by decide) ?_
    refine q_isubN hx hb dX8_cons_69 (by omega) ?_
    exact q_iret C hP hS ⟨rfl, fi, re, CL, by rw [if_neg c9], _, _, hY, hfi, hre, (fun j hj => by unfold vp_updL; rw [if_neg (by omega)]), if_pos rfl, (fun j hj => by unfold upd; rw [if_neg (by omega)]), if_pos rfl, Or.inl rfl, Or.inl rfl, fr⟩ (by omega) dX8_cons_70
  · replace c9 : nc = CL := (nI_eq (a := nc) (b := CL) (by omega) (by omega)).mp c9
    obtain ⟨e22, e23⟩ := e21 c9
    refine lv_aload_n hx hb dX8_cons_12 rfl (lv_at hl 0 rfl) ?_
    refine lv_aload_n hx hb dX8_cons_13 rfl (lv_at hl 0 rfl) ?_
    refine q_get C hP hY rfl inX8 11 (by decide) g1178 rfl dX8_cons_14 ?_
    refine q_callS (rest := [.ref y]) C (c_X8_longer_ l D cy N0 h fi CL F hfi (by omega)) kX8_longer_ g1312 g1313 hP hS (by first | decide | omega) hl.1 rfl (by simp [q_catrf, q_cati, q_catl, q_cata, q_catn]) (by first | decide | omega) dX8_cons_17 (fun q ce E h' H1 locs1 hE => hE.elim) (fun v hh1 H locs hq hP hS => ?_)
    obtain ⟨q17, rfl, eq17, rfl⟩ := hq
    have hN_q17 : ∀ b o, h b = some o → b ≠ q17 := fun b o hb z => by
      subst z
      have z1 := hall b o hb
      rw [eq17] at z1
      exact absurd z1 (by simp)
    obtain ⟨hv4, ehv4⟩ : ∃ z : qH, z = qs h q17 (.inl (cy 1, (2 * CL), .inr (.inl (qGr F 0 CL)))) := ⟨_, rfl⟩
    rw [← ehv4] at hP
    have khv4 : ∀ b o, b ≠ q17 → h b = some o → hv4 b = some o := by rw [ehv4]; exact fun b o nb hb => (qs_ne nb).trans hb
    have n_q17_y : y ≠ q17 := qne_of eq17 hY
    replace hY := khv4 _ _ n_q17_y hY
    have n_q17_fi : fi ≠ q17 := qne_of eq17 hfi
    replace hfi := khv4 _ _ n_q17_fi hfi
    have n_q17_re : re ≠ q17 := qne_of eq17 hre
    replace hre := khv4 _ _ n_q17_re hre
    have fq17 : hv4 q17 = some (.inl (cy 1, (2 * CL), .inr (.inl (qGr F 0 CL)))) := by rw [ehv4]; exact qs_self
    clear ehv4
    replace fr := fun b o hb m0 m1 m2 => khv4 b o (qne_of eq17 (fr b o hb m0 m1 m2)) (fr b o hb m0 m1 m2)
    replace hall : ∀ b o, h b = some o → ¬ hv4 b = none := fun b o hb z => by
      by_cases z1 : b = y
      · rw [z1, hY] at z; cases z
      · by_cases z2 : b = fi
        · rw [z2, hfi] at z; cases z
        · by_cases z3 : b = re
          · rw [z3, hre] at z; cases z
          · rw [fr b o hb z1 z2 z3] at z; cases z
    refine q_put C hP hS hY rfl inX8 tyX8 tyX8_ok nmX8 11 (by decide) g1178 rfl rfl rfl (Nat.le_of_ble_eq_true rfl) dX8_cons_20 (fun H locs hP hS => ?_)
    replace hP : qP D N0 (qs hv4 y (.inr (8, [.ref ms, .ref mb, .ref mw, .int gr, .int cd, .int ca, .int mv, .ref od, .ref pt, .int ct, .int fau, .ref q17, .ref re, .int (nI nc), .ref rc, .ref rs, .ref so, .ref ot, .ref cn, .ref la, .int ce, .ref ro, .int rn]))) H := hP
    obtain ⟨hv5, ehv5⟩ : ∃ z : qH, z = qs hv4 y (.inr (8, [.ref ms, .ref mb, .ref mw, .int gr, .int cd, .int ca, .int mv, .ref od, .ref pt, .int ct, .int fau, .ref q17, .ref re, .int (nI nc), .ref rc, .ref rs, .ref so, .ref ot, .ref cn, .ref la, .int ce, .ref ro, .int rn])) := ⟨_, rfl⟩
    rw [← ehv5] at hP
    have khv5 : ∀ b o, b ≠ y → hv4 b = some o → hv5 b = some o := by rw [ehv5]; exact fun b o nb hb => (qs_ne nb).trans hb
    replace hfi := khv5 _ _ (fun q => by subst q; have := hfi.symm.trans hY; first | cases this | simp at this) hfi
    replace hre := khv5 _ _ (fun q => by subst q; have := hre.symm.trans hY; first | cases this | simp at this) hre
    replace fq17 := khv5 _ _ n_q17_y.symm fq17
    replace hY : hv5 y = some (.inr (8, [.ref ms, .ref mb, .ref mw, .int gr, .int cd, .int ca, .int mv, .ref od, .ref pt, .int ct, .int fau, .ref q17, .ref re, .int (nI nc), .ref rc, .ref rs, .ref so, .ref ot, .ref cn, .ref la, .int ce, .ref ro, .int rn])) := by rw [ehv5]; exact qs_self
    clear ehv5
    replace fr := fun b o hb m0 m1 m2 => khv5 b o m0 (fr b o hb m0 m1 m2)
    replace hall : ∀ b o, h b = some o → ¬ hv5 b = none := fun b o hb z => by
      by_cases z1 : b = y
      · rw [z1, hY] at z; cases z
      · by_cases z2 : b = fi
        · rw [z2, hfi] at z; cases z
        · by_cases z3 : b = re
          · rw [z3, hre] at z; cases z
          · rw [fr b o hb z1 z2 z3] at z; cases z
    refine lv_aload_n hx hb dX8_cons_23 rfl (lv_at hl 0 rfl) ?_
    refine lv_aload_n hx hb dX8_cons_24 rfl (lv_at hl 0 rfl) ?_
    refine q_get C hP hY rfl inX8 12 (by decide) g1179 rfl dX8_cons_25 ?_
    refine q_callS (rest := [.ref y]) C (c_X8_longer l D cy N0 hv5 re CL Rt hre (by omega)) kX8_longer g1309 g1310 hP hS (by first | decide | omega) hl.1 rfl (by simp [q_catrf, q_cati, q_catl, q_cata, q_catn]) (by first | decide | omega) dX8_cons_28 (fun q ce E h' H1 locs1 hE => hE.elim) (fun v hh2 H locs hq hP hS => ?_)
    obtain ⟨q28, rfl, eq28, rfl⟩ := hq
    have hN_q28 : ∀ b o, h b = some o → b ≠ q28 := fun b o hb z => by
      subst z
      have z1 := hall b o hb
      rw [eq28] at z1
      exact absurd z1 (by simp)
    obtain ⟨hv6, ehv6⟩ : ∃ z : qH, z = qs hv5 q28 (.inl (cy 0, (2 * CL), .inl (qGr Rt 0 CL))) := ⟨_, rfl⟩
    rw [← ehv6] at hP
    have khv6 : ∀ b o, b ≠ q28 → hv5 b = some o → hv6 b = some o := by rw [ehv6]; exact fun b o nb hb => (qs_ne nb).trans hb
    have n_q28_y : y ≠ q28 := qne_of eq28 hY
    replace hY := khv6 _ _ n_q28_y hY
    have n_q28_fi : fi ≠ q28 := qne_of eq28 hfi
    replace hfi := khv6 _ _ n_q28_fi hfi
    have n_q28_re : re ≠ q28 := qne_of eq28 hre
    replace hre := khv6 _ _ n_q28_re hre
    have n_q28_q17 : q17 ≠ q28 := qne_of eq28 fq17
    replace fq17 := khv6 _ _ n_q28_q17 fq17
    have fq28 : hv6 q28 = some (.inl (cy 0, (2 * CL), .inl (qGr Rt 0 CL))) := by rw [ehv6]; exact qs_self
    clear ehv6
    replace fr := fun b o hb m0 m1 m2 => khv6 b o (qne_of eq28 (fr b o hb m0 m1 m2)) (fr b o hb m0 m1 m2)
    replace hall : ∀ b o, h b = some o → ¬ hv6 b = none := fun b o hb z => by
      by_cases z1 : b = y
      · rw [z1, hY] at z; cases z
      · by_cases z2 : b = fi
        · rw [z2, hfi] at z; cases z
        · by_cases z3 : b = re
          · rw [z3, hre] at z; cases z
          · rw [fr b o hb z1 z2 z3] at z; cases z
    refine q_put C hP hS hY rfl inX8 tyX8 tyX8_ok nmX8 12 (by decide) g1179 rfl rfl rfl (Nat.le_of_ble_eq_true rfl) dX8_cons_31 (fun H locs hP hS => ?_)
    replace hP : qP D N0 (qs hv6 y (.inr (8, [.ref ms, .ref mb, .ref mw, .int gr, .int cd, .int ca, .int mv, .ref od, .ref pt, .int ct, .int fau, .ref q17, .ref q28, .int (nI nc), .ref rc, .ref rs, .ref so, .ref ot, .ref cn, .ref la, .int ce, .ref ro, .int rn]))) H := hP
    obtain ⟨hv7, ehv7⟩ : ∃ z : qH, z = qs hv6 y (.inr (8, [.ref ms, .ref mb, .ref mw, .int gr, .int cd, .int ca, .int mv, .ref od, .ref pt, .int ct, .int fau, .ref q17, .ref q28, .int (nI nc), .ref rc, .ref rs, .ref so, .ref ot, .ref cn, .ref la, .int ce, .ref ro, .int rn])) := ⟨_, rfl⟩
    rw [← ehv7] at hP
    have khv7 : ∀ b o, b ≠ y → hv6 b = some o → hv7 b = some o := by rw [ehv7]; exact fun b o nb hb => (qs_ne nb).trans hb
    replace hfi := khv7 _ _ (fun q => by subst q; have := hfi.symm.trans hY; first | cases this | simp at this) hfi
    replace hre := khv7 _ _ (fun q => by subst q; have := hre.symm.trans hY; first | cases this | simp at this) hre
    replace fq17 := khv7 _ _ n_q17_y.symm fq17
    replace fq28 := khv7 _ _ n_q28_y.symm fq28
    replace hY : hv7 y = some (.inr (8, [.ref ms, .ref mb, .ref mw, .int gr, .int cd, .int ca, .int mv, .ref od, .ref pt, .int ct, .int fau, .ref q17, .ref q28, .int (nI nc), .ref rc, .ref rs, .ref so, .ref ot, .ref cn, .ref la, .int ce, .ref ro, .int rn])) := by rw [ehv7]; exact qs_self
    clear ehv7
    replace fr := fun b o hb m0 m1 m2 => khv7 b o m0 (fr b o hb m0 m1 m2)
    replace hall : ∀ b o, h b = some o → ¬ hv7 b = none := fun b o hb z => by
      by_cases z1 : b = y
      · rw [z1, hY] at z; cases z
      · by_cases z2 : b = fi
        · rw [z2, hfi] at z; cases z
        · by_cases z3 : b = re
          · rw [z3, hre] at z; cases z
          · rw [fr b o hb z1 z2 z3] at z; cases z
    refine lv_aload_n hx hb dX8_cons_34 rfl (lv_at hl 0 rfl) ?_
    refine q_get C hP hY rfl inX8 11 (by decide) g1178 rfl dX8_cons_35 ?_
    refine lv_aload_n hx hb dX8_cons_38 rfl (lv_at hl 0 rfl) ?_
    refine q_get C hP hY rfl inX8 13 (by decide) g1180 rfl dX8_cons_39 ?_
    refine lv_lload_n hx hb dX8_cons_42 rfl (lv_at hl 1 rfl) ?_
    refine q_lastN C hP hS fq17 (by omega) (by omega) dX8_cons_43 (fun H locs hP hS => ?_)
    obtain ⟨hv8, ehv8⟩ : ∃ z : qH, z = qs hv7 q17 (.inl (cy 1, (2 * CL), .inr (.inl (vp_updL (qGr F 0 CL) nc x0)))) := ⟨_, rfl⟩
    rw [← ehv8] at hP
    have khv8 : ∀ b o, b ≠ q17 → hv7 b = some o → hv8 b = some o := by rw [ehv8]; exact fun b o nb hb => (qs_ne nb).trans hb
    replace hY := khv8 _ _ n_q17_y hY
    replace hfi := khv8 _ _ n_q17_fi hfi
    replace hre := khv8 _ _ n_q17_re hre
    replace fq28 := khv8 _ _ n_q28_q17.symm fq28
    replace fq17 : hv8 q17 = some (.inl (cy 1, (2 * CL), .inr (.inl (vp_updL (qGr F 0 CL) nc x0)))) := by rw [ehv8]; exact qs_self
    clear ehv8
    replace fr := fun b o hb m0 m1 m2 => khv8 b o (hN_q17 b o hb) (fr b o hb m0 m1 m2)
    replace hall : ∀ b o, h b = some o → ¬ hv8 b = none := fun b o hb z => by
      by_cases z1 : b = y
      · rw [z1, hY] at z; cases z
      · by_cases z2 : b = fi
        · rw [z2, hfi] at z; cases z
        · by_cases z3 : b = re
          · rw [z3, hre] at z; cases z
          · rw [fr b o hb z1 z2 z3] at z; cases z
    refine lv_aload_n hx hb dX8_cons_44 rfl (lv_at hl 0 rfl) ?_
    refine q_get C hP hY rfl inX8 12 (by decide) g1179 rfl dX8_cons_45 ?_
    refine lv_aload_n hx hb dX8_cons_48 rfl (lv_at hl 0 rfl) ?_
    refine q_get C hP hY rfl inX8 13 (by decide) g1180 rfl dX8_cons_49 ?_
    refine lv_iload_n hx hb dX8_cons_52 rfl (lv_at hl 2 rfl) ?_
    refine q_iastN C hP hS fq28 (by omega) (by omega) dX8_cons_53 (fun H locs hP hS => ?_)
    obtain ⟨hv9, ehv9⟩ : ∃ z : qH, z = qs hv8 q28 (.inl (cy 0, (2 * CL), .inl (upd (qGr Rt 0 CL) nc r0))) := ⟨_, rfl⟩
    rw [← ehv9] at hP
    have khv9 : ∀ b o, b ≠ q28 → hv8 b = some o → hv9 b = some o := by rw [ehv9]; exact fun b o nb hb => (qs_ne nb).trans hb
    replace hY := khv9 _ _ n_q28_y hY
    replace hfi := khv9 _ _ n_q28_fi hfi
    replace hre := khv9 _ _ n_q28_re hre
    replace fq17 := khv9 _ _ n_q28_q17 fq17
    replace fq28 : hv9 q28 = some (.inl (cy 0, (2 * CL), .inl (upd (qGr Rt 0 CL) nc r0))) := by rw [ehv9]; exact qs_self
    clear ehv9
    replace fr := fun b o hb m0 m1 m2 => khv9 b o (hN_q28 b o hb) (fr b o hb m0 m1 m2)
    replace hall : ∀ b o, h b = some o → ¬ hv9 b = none := fun b o hb z => by
      by_cases z1 : b = y
      · rw [z1, hY] at z; cases z
      · by_cases z2 : b = fi
        · rw [z2, hfi] at z; cases z
        · by_cases z3 : b = re
          · rw [z3, hre] at z; cases z
          · rw [fr b o hb z1 z2 z3] at z; cases z
    refine lv_aload_n hx hb dX8_cons_54 rfl (lv_at hl 0 rfl) ?_
    refine lv_dup hx hb dX8_cons_55 rfl ?_
    refine q_get C hP hY rfl inX8 13 (by decide) g1180 rfl dX8_cons_56 ?_
    refine lv_iconst (v := nI 1) hx hb dX8_cons_59 (by decide) ?_
    refine q_iaddN hx hb dX8_cons_60 ?_
    refine q_put C hP hS hY rfl inX8 tyX8 tyX8_ok nmX8 13 (by decide) g1180 rfl rfl rfl (Nat.le_of_ble_eq_true rfl) dX8_cons_61 (fun H locs hP hS => ?_)
    replace hP : qP D N0 (qs hv9 y (.inr (8, [.ref ms, .ref mb, .ref mw, .int gr, .int cd, .int ca, .int mv, .ref od, .ref pt, .int ct, .int fau, .ref q17, .ref q28, .int (nI (nc + 1)), .ref rc, .ref rs, .ref so, .ref ot, .ref cn, .ref la, .int ce, .ref ro, .int rn]))) H := hP
    obtain ⟨hv10, ehv10⟩ : ∃ z : qH, z = qs hv9 y (.inr (8, [.ref ms, .ref mb, .ref mw, .int gr, .int cd, .int ca, .int mv, .ref od, .ref pt, .int ct, .int fau, .ref q17, .ref q28, .int (nI (nc + 1)), .ref rc, .ref rs, .ref so, .ref ot, .ref cn, .ref la, .int ce, .ref ro, .int rn])) := ⟨_, rfl⟩
    rw [← ehv10] at hP
    have khv10 : ∀ b o, b ≠ y → hv9 b = some o → hv10 b = some o := by rw [ehv10]; exact fun b o nb hb => (qs_ne nb).trans hb
    replace hfi := khv10 _ _ (fun q => by subst q; have := hfi.symm.trans hY; first | cases this | simp at this) hfi
    replace hre := khv10 _ _ (fun q => by subst q; have := hre.symm.trans hY; first | cases this | simp at this) hre
    replace fq17 := khv10 _ _ n_q17_y.symm fq17
    replace fq28 := khv10 _ _ n_q28_y.symm fq28
    replace hY : hv10 y = some (.inr (8, [.ref ms, .ref mb, .ref mw, .int gr, .int cd, .int ca, .int mv, .ref od, .ref pt, .int ct, .int fau, .ref q17, .ref q28, .int (nI (nc + 1)), .ref rc, .ref rs, .ref so, .ref ot, .ref cn, .ref la, .int ce, .ref ro, .int rn])) := by rw [ehv10]; exact qs_self
    clear ehv10
    replace fr := fun b o hb m0 m1 m2 => khv10 b o m0 (fr b o hb m0 m1 m2)
    replace hall : ∀ b o, h b = some o → ¬ hv10 b = none := fun b o hb z => by
      by_cases z1 : b = y
      · rw [z1, hY] at z; cases z
      · by_cases z2 : b = fi
        · rw [z2, hfi] at z; cases z
        · by_cases z3 : b = re
          · rw [z3, hre] at z; cases z
          · rw [fr b o hb z1 z2 z3] at z; cases z
    refine lv_aload_n hx hb dX8_cons_64 rfl (lv_at hl 0 rfl) ?_
    refine q_get C hP hY rfl inX8 13 (by decide) g1180 rfl dX8_cons_65 ?_
    refine lv_iconst (v := nI 1) hx hb dX8_cons_68 (by decide) ?_
    refine q_isubN hx hb dX8_cons_69 (by omega) ?_
    exact q_iret C hP hS ⟨rfl, q17, q28, 2 * CL, by rw [if_pos c9], _, _, hY, fq17, fq28, (fun j hj => by unfold vp_updL; rw [if_neg (by omega)]; exact if_pos (by omega)), if_pos rfl, (fun j hj => by unfold upd; rw [if_neg (by omega)]; exact if_pos (by omega)), if_pos rfl, Or.inr (fun o z => hN_q17 _ o z rfl), Or.inr (fun o z => hN_q28 _ o z rfl), fr⟩ (by omega) dX8_cons_70
