theorem dX8_cell_12 : decode cX8_cell 12 = .ok (.aload_n 0, 1) := by decide +kernel
theorem dX8_cell_13 : decode cX8_cell 13 = .ok (.aload_n 0, 1) := by decide +kernel
theorem dX8_cell_14 : decode cX8_cell 14 = .ok (.getfield 43, 3) := by decide +kernel
theorem dX8_cell_17 : decode cX8_cell 17 = .ok (.invokestatic 185, 3) := by decide +kernel
theorem dX8_cell_20 : decode cX8_cell 20 = .ok (.putfield 43, 3) := by decide +kernel
theorem dX8_cell_23 : decode cX8_cell 23 = .ok (.aload_n 0, 1) := by decide +kernel
theorem dX8_cell_24 : decode cX8_cell 24 = .ok (.aload_n 0, 1) := by decide +kernel
theorem dX8_cell_25 : decode cX8_cell 25 = .ok (.getfield 46, 3) := by decide +kernel
theorem dX8_cell_28 : decode cX8_cell 28 = .ok (.invokestatic 185, 3) := by decide +kernel
theorem dX8_cell_31 : decode cX8_cell 31 = .ok (.putfield 46, 3) := by decide +kernel
theorem dX8_cell_34 : decode cX8_cell 34 = .ok (.aload_n 0, 1) := by decide +kernel
theorem dX8_cell_35 : decode cX8_cell 35 = .ok (.aload_n 0, 1) := by decide +kernel
theorem dX8_cell_36 : decode cX8_cell 36 = .ok (.getfield 49, 3) := by decide +kernel
theorem dX8_cell_39 : decode cX8_cell 39 = .ok (.invokestatic 185, 3) := by decide +kernel
theorem dX8_cell_42 : decode cX8_cell 42 = .ok (.putfield 49, 3) := by decide +kernel
theorem dX8_cell_45 : decode cX8_cell 45 = .ok (.aload_n 0, 1) := by decide +kernel
theorem dX8_cell_46 : decode cX8_cell 46 = .ok (.aload_n 0, 1) := by decide +kernel
theorem dX8_cell_47 : decode cX8_cell 47 = .ok (.getfield 52, 3) := by decide +kernel
theorem dX8_cell_50 : decode cX8_cell 50 = .ok (.invokestatic 185, 3) := by decide +kernel
theorem dX8_cell_53 : decode cX8_cell 53 = .ok (.putfield 52, 3) := by decide +kernel
theorem dX8_cell_56 : decode cX8_cell 56 = .ok (.aload_n 0, 1) := by decide +kernel
theorem dX8_cell_57 : decode cX8_cell 57 = .ok (.aload_n 0, 1) := by decide +kernel
theorem dX8_cell_58 : decode cX8_cell 58 = .ok (.getfield 55, 3) := by decide +kernel
theorem dX8_cell_61 : decode cX8_cell 61 = .ok (.invokestatic 181, 3) := by decide +kernel
theorem dX8_cell_64 : decode cX8_cell 64 = .ok (.putfield 55, 3) := by decide +kernel
theorem dX8_cell_67 : decode cX8_cell 67 = .ok (.aload_n 0, 1) := by decide +kernel
theorem dX8_cell_68 : decode cX8_cell 68 = .ok (.aload_n 0, 1) := by decide +kernel
theorem dX8_cell_69 : decode cX8_cell 69 = .ok (.getfield 58, 3) := by decide +kernel
theorem dX8_cell_72 : decode cX8_cell 72 = .ok (.invokestatic 181, 3) := by decide +kernel
theorem dX8_cell_75 : decode cX8_cell 75 = .ok (.putfield 58, 3) := by decide +kernel
set_option maxRecDepth 100000 in
set_option maxHeartbeats 4000000 in
theorem c_X8_cell (l : Launch) (D : va_G) (cy : Nat → ClassId) (N0 : Nat) (h : qH) (y ms mb mw od pt fi re rc rs so ot cn la ro : Nat) (gr cd ca mv ct fau cs rn : Int32) (nk KL : Nat) (Rc Rs So Ot : Nat → Int32) (Cn La : Nat → Int64) (k0 s0 t0 : Int32) (c0 x0 : Int64) (hY : h y = some (.inr (8, [.ref ms, .ref mb, .ref mw, .int gr, .int cd, .int ca, .int mv, .ref od, .ref pt, .int ct, .int fau, .ref fi, .ref re, .int cs, .ref rc, .ref rs, .ref so, .ref ot, .ref cn, .ref la, .int (nI nk), .ref ro, .int rn]))) (hrc : h rc = some (.inl (cy 0, KL, .inl Rc))) (hrs : h rs = some (.inl (cy 0, KL, .inl Rs))) (hso : h so = some (.inl (cy 0, KL, .inl So))) (hot : h ot = some (.inl (cy 0, KL, .inl Ot))) (hcn : h cn = some (.inl (cy 1, KL, .inr (.inl Cn)))) (hla : h la = some (.inl (cy 1, KL, .inr (.inl La)))) (hd : rc ≠ rs ∧ rc ≠ so ∧ rc ≠ ot ∧ rs ≠ so ∧ rs ≠ ot ∧ so ≠ ot ∧ cn ≠ la) (hc : nk ≤ KL ∧ 1 ≤ KL ∧ KL ≤ 100000) : qC l D cy N0 yX8_cell cX8_cell 8 (some .int) 1 22 (if nk = KL then 6 else 0) (if nk = KL then 12 * KL else 0) [.ref y, .int k0, .int s0, .int t0, .long c0, .long x0] h (fun v h' => v = some (.int (nI nk)) ∧ ∃ (rc2 rs2 so2 ot2 cn2 la2 K2 : Nat) (_ : K2 = if nk = KL then 2 * KL else KL) (Rc2 Rs2 So2 Ot2 : Nat → Int32) (Cn2 La2 : Nat → Int64), h' y = some (.inr (8, [.ref ms, .ref mb, .ref mw, .int gr, .int cd, .int ca, .int mv, .ref od, .ref pt, .int ct, .int fau, .ref fi, .ref re, .int cs, .ref rc2, .ref rs2, .ref so2, .ref ot2, .ref cn2, .ref la2, .int (nI (nk + 1)), .ref ro, .int rn])) ∧ (h' rc2 = some (.inl (cy 0, K2, .inl Rc2)) ∧ h' rs2 = some (.inl (cy 0, K2, .inl Rs2)) ∧ h' so2 = some (.inl (cy 0, K2, .inl So2)) ∧ h' ot2 = some (.inl (cy 0, K2, .inl Ot2)) ∧ h' cn2 = some (.inl (cy 1, K2, .inr (.inl Cn2))) ∧ h' la2 = some (.inl (cy 1, K2, .inr (.inl La2)))) ∧ (((∀ j, j < nk → Rc2 j = Rc j) ∧ Rc2 nk = k0) ∧ ((∀ j, j < KL → Rs2 j = Rs j) ∧ ∀ j, KL ≤ j → j < K2 → Rs2 j = 0) ∧ ((∀ j, j < nk → So2 j = So j) ∧ So2 nk = s0) ∧ ((∀ j, j < nk → Ot2 j = Ot j) ∧ Ot2 nk = t0) ∧ ((∀ j, j < nk → Cn2 j = Cn j) ∧ Cn2 nk = c0) ∧ ((∀ j, j < nk → La2 j = La j) ∧ La2 nk = x0)) ∧ ((rc2 = rc ∨ ∀ o, ¬ h rc2 = some o) ∧ (rs2 = rs ∨ ∀ o, ¬ h rs2 = some o) ∧ (so2 = so ∨ ∀ o, ¬ h so2 = some o) ∧ (ot2 = ot ∨ ∀ o, ¬ h ot2 = some o) ∧ (cn2 = cn ∨ ∀ o, ¬ h cn2 = some o) ∧ (la2 = la ∨ ∀ o, ¬ h la2 = some o)) ∧ (rc2 ≠ rs2 ∧ rc2 ≠ so2 ∧ rc2 ≠ ot2 ∧ rs2 ≠ so2 ∧ rs2 ≠ ot2 ∧ so2 ≠ ot2 ∧ cn2 ≠ la2) ∧ ∀ b o, h b = some o → b ≠ y → b ≠ rc → b ≠ rs → b ≠ so → b ≠ ot → b ≠ cn → b ≠ la → h' b = some o) (fun E h' => False) := by
  refine q_ofW (by decide) (by exact Nat.le_of_ble_eq_true rfl) ?_
  intro p e s m below meth c ls C hP hl
  have hx := C.1
  have hb := C.2.1
  have hS : va_S (qA N0) s.heap s.heap [] := va_S.rf
  have hl : lv_has ls 8 [(0, .ref y), (1, .int k0), (2, .int s0), (3, .int t0), (4, .long c0), (6, .long x0)] := hl
  have hle : qle h h := qle_rf
  obtain ⟨n_rc_rs, n_rc_so, n_rc_ot, n_rs_so, n_rs_ot, n_so_ot, n_cn_la⟩ := hd
  have hall : ∀ b o, h b = some o → ¬ h b = none := fun b o hb z => by rw [z] at hb; cases hb
  have fr : ∀ b o, h b = some o → b ≠ y → b ≠ rc → b ≠ rs → b ≠ so → b ≠ ot → b ≠ cn → b ≠ la → h b = some o := fun b o hb _ _ _ _ _ _ _ => hb
  have e21 : nk = KL → (if nk = KL then 6 else 0) = 6 ∧ (if nk = KL then 12 * KL else 0) = 12 * KL := fun z => ⟨if_pos z, if_pos z⟩
  refine lv_aload_n hx hb dX8_cell_0 rfl (lv_at hl 0 rfl) ?_
  refine q_get C hP hY rfl inX8 20 (by decide) g1187 rfl dX8_cell_1 ?_
  refine lv_aload_n hx hb dX8_cell_4 rfl (lv_at hl 0 rfl) ?_
  refine q_get C hP hY rfl inX8 14 (by decide) g1181 rfl dX8_cell_5 ?_
  refine q_alen C hP hrc rfl dX8_cell_8 ?_
  refine lv_icmp_ne (tgt := 78) hx hb dX8_cell_9 (by decide) (fun c9 => ?_) (fun c9 => ?_)
  · replace c9 : ¬ nk = KL := fun zq => c9 ((nI_eq (a := nk) (b := KL) (by omega) (by omega)).mpr zq)
    refine lv_aload_n hx hb dX8_cell_78 rfl (lv_at hl 0 rfl) ?_
    refine q_get C hP hY rfl inX8 14 (by decide) g1181 rfl dX8_cell_79 ?_
    refine lv_aload_n hx hb dX8_cell_82 rfl (lv_at hl 0 rfl) ?_
    refine q_get C hP hY rfl inX8 20 (by decide) g1187 rfl dX8_cell_83 ?_
    refine lv_iload_n hx hb dX8_cell_86 rfl (lv_at hl 1 rfl) ?_
    refine q_iastN C hP hS hrc (by omega) (by omega) dX8_cell_87 (fun H locs hP hS => ?_)
    obtain ⟨hv1, ehv1⟩ : ∃ z : qH, z = qs h rc (.inl (cy 0, KL, .inl (upd Rc nk k0))) := ⟨_, rfl⟩
    rw [← ehv1] at hP
    have khv1 : ∀ b o, b ≠ rc → h b = some o → hv1 b = some o := by rw [ehv1]; exact fun b o nb hb => (qs_ne nb).trans hb
    replace hY := khv1 _ _ (fun q => by subst q; have := hY.symm.trans hrc; first | cases this | simp at this) hY
    replace hrs := khv1 _ _ n_rc_rs.symm hrs
    replace hso := khv1 _ _ n_rc_so.symm hso
    replace hot := khv1 _ _ n_rc_ot.symm hot
    replace hcn := khv1 _ _ (fun q => by subst q; have := hcn.symm.trans hrc; first | cases this | simp at this) hcn
    replace hla := khv1 _ _ (fun q => by subst q; have := hla.symm.trans hrc; first | cases this | simp at this) hla
    replace hrc : hv1 rc = some (.inl (cy 0, KL, .inl (upd Rc nk k0))) := by rw [ehv1]; exact qs_self
    clear ehv1
    replace fr := fun b o hb m0 m1 m2 m3 m4 m5 m6 => khv1 b o m1 (fr b o hb m0 m1 m2 m3 m4 m5 m6)
    replace hall : ∀ b o, h b = some o → ¬ hv1 b = none := fun b o hb z => by
      by_cases z0 : b = y
      · rw [z0, hY] at z; cases z
      · by_cases z1 : b = rc
        · rw [z1, hrc] at z; cases z
        · by_cases z2 : b = rs
          · rw [z2, hrs] at z; cases z
          · by_cases z3 : b = so
            · rw [z3, hso] at z; cases z
            · by_cases z4 : b = ot
              · rw [z4, hot] at z; cases z
              · by_cases z5 : b = cn
                · rw [z5, hcn] at z; cases z
                · by_cases z6 : b = la
                  · rw [z6, hla] at z; cases z
                  · rw [fr b o hb z0 z1 z2 z3 z4 z5 z6] at z; cases z
    refine lv_aload_n hx hb dX8_cell_88 rfl (lv_at hl 0 rfl) ?_
    refine q_get C hP hY rfl inX8 16 (by decide) g1183 rfl dX8_cell_89 ?_
    refine lv_aload_n hx hb dX8_cell_92 rfl (lv_at hl 0 rfl) ?_
    refine q_get C hP hY rfl inX8 20 (by decide) g1187 rfl dX8_cell_93 ?_
    refine lv_iload_n hx hb dX8_cell_96 rfl (lv_at hl 2 rfl) ?_
    refine q_iastN C hP hS hso (by omega) (by omega) dX8_cell_97 (fun H locs hP hS => ?_)
    obtain ⟨hv2, ehv2⟩ : ∃ z : qH, z = qs hv1 so (.inl (cy 0, KL, .inl (upd So nk s0))) := ⟨_, rfl⟩
    rw [← ehv2] at hP
    have khv2 : ∀ b o, b ≠ so → hv1 b = some o → hv2 b = some o := by rw [ehv2]; exact fun b o nb hb => (qs_ne nb).trans hb
    replace hY := khv2 _ _ (fun q => by subst q; have := hY.symm.trans hso; first | cases this | simp at this) hY
    replace hrc := khv2 _ _ n_rc_so hrc
    replace hrs := khv2 _ _ n_rs_so hrs
    replace hot := khv2 _ _ n_so_ot.symm hot
    replace hcn := khv2 _ _ (fun q => by subst q; have := hcn.symm.trans hso; first | cases this | simp at this) hcn
    replace hla := khv2 _ _ (fun q => by subst q; have := hla.symm.trans hso; first | cases this | simp at this) hla
    replace hso : hv2 so = some (.inl (cy 0, KL, .inl (upd So nk s0))) := by rw [ehv2]; exact qs_self
    clear ehv2
    replace fr := fun b o hb m0 m1 m2 m3 m4 m5 m6 => khv2 b o m3 (fr b o hb m0 m1 m2 m3 m4 m5 m6)
    replace hall : ∀ b o, h b = some o → ¬ hv2 b = none := fun b o hb z => by
      by_cases z0 : b = y
      · rw [z0, hY] at z; cases z
      · by_cases z1 : b = rc
        · rw [z1, hrc] at z; cases z
        · by_cases z2 : b = rs
          · rw [z2, hrs] at z; cases z
          · by_cases z3 : b = so
            · rw [z3, hso] at z; cases z
            · by_cases z4 : b = ot
              · rw [z4, hot] at z; cases z
              · by_cases z5 : b = cn
                · rw [z5, hcn] at z; cases z
                · by_cases z6 : b = la
                  · rw [z6, hla] at z; cases z
                  · rw [fr b o hb z0 z1 z2 z3 z4 z5 z6] at z; cases z
    refine lv_aload_n hx hb dX8_cell_98 rfl (lv_at hl 0 rfl) ?_
    refine q_get C hP hY rfl inX8 17 (by decide) g1184 rfl dX8_cell_99 ?_
    refine lv_aload_n hx hb dX8_cell_102 rfl (lv_at hl 0 rfl) ?_
    refine q_get C hP hY rfl inX8 20 (by decide) g1187 rfl dX8_cell_103 ?_
    refine lv_iload_n hx hb dX8_cell_106 rfl (lv_at hl 3 rfl) ?_
    refine q_iastN C hP hS hot (by omega) (by omega) dX8_cell_107 (fun H locs hP hS => ?_)
    obtain ⟨hv3, ehv3⟩ : ∃ z : qH, z = qs hv2 ot (.inl (cy 0, KL, .inl (upd Ot nk t0))) := ⟨_, rfl⟩
    rw [← ehv3] at hP
    have khv3 : ∀ b o, b ≠ ot → hv2 b = some o → hv3 b = some o := by rw [ehv3]; exact fun b o nb hb => (qs_ne nb).trans hb
    replace hY := khv3 _ _ (fun q => by subst q; have := hY.symm.trans hot; first | cases this | simp at this) hY
    replace hrc := khv3 _ _ n_rc_ot hrc
    replace hrs := khv3 _ _ n_rs_ot hrs
    replace hso := khv3 _ _ n_so_ot hso
    replace hcn := khv3 _ _ (fun q => by subst q; have := hcn.symm.trans hot; first | cases this | simp at this) hcn
    replace hla := khv3 _ _ (fun q => by subst q; have := hla.symm.trans hot; first | cases this | simp at this) hla
    replace hot : hv3 ot = some (.inl (cy 0, KL, .inl (upd Ot nk t0))) := by rw [ehv3]; exact qs_self
    clear ehv3
    replace fr := fun b o hb m0 m1 m2 m3 m4 m5 m6 => khv3 b o m4 (fr b o hb m0 m1 m2 m3 m4 m5 m6)
    replace hall : ∀ b o, h b = some o → ¬ hv3 b = none := fun b o hb z => by
      by_cases z0 : b = y
      · rw [z0, hY] at z; cases z
      · by_cases z1 : b = rc
        · rw [z1, hrc] at z; cases z
        · by_cases z2 : b = rs
          · rw [z2, hrs] at z; cases z
          · by_cases z3 : b = so
            · rw [z3, hso] at z; cases z
            · by_cases z4 : b = ot
              · rw [z4, hot] at z; cases z
              · by_cases z5 : b = cn
                · rw [z5, hcn] at z; cases z
                · by_cases z6 : b = la
                  · rw [z6, hla] at z; cases z
                  · rw [fr b o hb z0 z1 z2 z3 z4 z5 z6] at z; cases z
    refine lv_aload_n hx hb dX8_cell_108 rfl (lv_at hl 0 rfl) ?_
    refine q_get C hP hY rfl inX8 18 (by decide) g1185 rfl dX8_cell_109 ?_
    refine lv_aload_n hx hb dX8_cell_112 rfl (lv_at hl 0 rfl) ?_
    refine q_get C hP hY rfl inX8 20 (by decide) g1187 rfl dX8_cell_113 ?_
    refine lv_lload hx hb dX8_cell_116 (lv_at hl 4 rfl) ?_
    refine q_lastN C hP hS hcn (by omega) (by omega) dX8_cell_118 (fun H locs hP hS => ?_)
    obtain ⟨hv4, ehv4⟩ : ∃ z : qH, z = qs hv3 cn (.inl (cy 1, KL, .inr (.inl (vp_updL Cn nk c0)))) := ⟨_, rfl⟩
    rw [← ehv4] at hP
    have khv4 : ∀ b o, b ≠ cn → hv3 b = some o → hv4 b = some o := by rw [ehv4]; exact fun b o nb hb => (qs_ne nb).trans hb
    replace hY := khv4 _ _ (fun q => by subst q; have := hY.symm.trans hcn; first | cases this | simp at this) hY
    replace hrc := khv4 _ _ (fun q => by subst q; have := hrc.symm.trans hcn; first | cases this | simp at this) hrc
    replace hrs := khv4 _ _ (fun q => by subst q; have := hrs.symm.trans hcn; first | cases this | simp at this) hrs
    replace hso := khv4 _ _ (fun q => by subst q; have := hso.symm.trans hcn; first | cases this | simp at this) hso
    replace hot := khv4 _ _ (fun q => by subst q; have := hot.symm.trans hcn; first | cases this | simp at this) hot
    replace hla := khv4 _ _ n_cn_la.symm hla
    replace hcn : hv4 cn = some (.inl (cy 1, KL, .inr (.inl (vp_updL Cn nk c0)))) := by rw [ehv4]; exact qs_self
    clear ehv4
    replace fr := fun b o hb m0 m1 m2 m3 m4 m5 m6 => khv4 b o m5 (fr b o hb m0 m1 m2 m3 m4 m5 m6)
    replace hall : ∀ b o, h b = some o → ¬ hv4 b = none := fun b o hb z => by
      by_cases z0 : b = y
      · rw [z0, hY] at z; cases z
      · by_cases z1 : b = rc
        · rw [z1, hrc] at z; cases z
        · by_cases z2 : b = rs
          · rw [z2, hrs] at z; cases z
          · by_cases z3 : b = so
            · rw [z3, hso] at z; cases z
            · by_cases z4 : b = ot
              · rw [z4, hot] at z; cases z
              · by_cases z5 : b = cn
                · rw [z5, hcn] at z; cases z
                · by_cases z6 : b = la
                  · rw [z6, hla] at z; cases z
                  · rw [fr b o hb z0 z1 z2 z3 z4 z5 z6] at z; cases z
    refine lv_aload_n hx hb dX8_cell_119 rfl (lv_at hl 0 rfl) ?_
    refine q_get C hP hY rfl inX8 19 (by decide) g1186 rfl dX8_cell_120 ?_
    refine lv_aload_n hx hb dX8_cell_123 rfl (lv_at hl 0 rfl) ?_
    refine q_get C hP hY rfl inX8 20 (by decide) g1187 rfl dX8_cell_124 ?_
    refine lv_lload hx hb dX8_cell_127 (lv_at hl 5 rfl) ?_
    refine q_lastN C hP hS hla (by omega) (by omega) dX8_cell_129 (fun H locs hP hS => ?_)
    obtain ⟨hv5, ehv5⟩ : ∃ z : qH, z = qs hv4 la (.inl (cy 1, KL, .inr (.inl (vp_updL La nk x0)))) := ⟨_, rfl⟩
    rw [← ehv5] at hP
    have khv5 : ∀ b o, b ≠ la → hv4 b = some o → hv5 b = some o := by rw [ehv5]; exact fun b o nb hb => (qs_ne nb).trans hb
    replace hY := khv5 _ _ (fun q => by subst q; have := hY.symm.trans hla; first | cases this | simp at this) hY
    replace hrc := khv5 _ _ (fun q => by subst q; have := hrc.symm.trans hla; first | cases this | simp at this) hrc
    replace hrs := khv5 _ _ (fun q => by subst q; have := hrs.symm.trans hla; first | cases this | simp at this) hrs
    replace hso := khv5 _ _ (fun q => by subst q; have := hso.symm.trans hla; first | cases this | simp at this) hso
    replace hot := khv5 _ _ (fun q => by subst q; have := hot.symm.trans hla; first | cases this | simp at this) hot
    replace hcn := khv5 _ _ n_cn_la hcn
    replace hla : hv5 la = some (.inl (cy 1, KL, .inr (.inl (vp_updL La nk x0)))) := by rw [ehv5]; exact qs_self
    clear ehv5
    replace fr := fun b o hb m0 m1 m2 m3 m4 m5 m6 => khv5 b o m6 (fr b o hb m0 m1 m2 m3 m4 m5 m6)
    replace hall : ∀ b o, h b = some o → ¬ hv5 b = none := fun b o hb z => by
      by_cases z0 : b = y
      · rw [z0, hY] at z; cases z
      · by_cases z1 : b = rc
        · rw [z1, hrc] at z; cases z
        · by_cases z2 : b = rs
          · rw [z2, hrs] at z; cases z
          · by_cases z3 : b = so
            · rw [z3, hso] at z; cases z
            · by_cases z4 : b = ot
              · rw [z4, hot] at z; cases z
              · by_cases z5 : b = cn
                · rw [z5, hcn] at z; cases z
                · by_cases z6 : b = la
                  · rw [z6, hla] at z; cases z
                  · rw [fr b o hb z0 z1 z2 z3 z4 z5 z6] at z; cases z
    refine lv_aload_n hx hb dX8_cell_130 rfl (lv_at hl 0 rfl) ?_
    refine lv_dup hx hb dX8_cell_131 rfl ?_
    refine q_get C hP hY rfl inX8 20 (by decide) g1187 rfl dX8_cell_132 ?_
    refine lv_iconst (v := nI 1) hx hb dX8_cell_135 (by decide) ?_
    refine q_iaddN hx hb dX8_cell_136 ?_
    refine q_put C hP hS hY rfl inX8 tyX8 tyX8_ok nmX8 20 (by decide) g1187 rfl rfl rfl (Nat.le_of_ble_eq_true rfl) dX8_cell_137 (fun H locs hP hS => ?_)
    replace hP : qP D N0 (qs hv5 y (.inr (8, [.ref ms, .ref mb, .ref mw, .int gr, .int cd, .int ca, .int mv, .ref od, .ref pt, .int ct, .int fau, .ref fi, .ref re, .int cs, .ref rc, .ref rs, .ref so, .ref ot, .ref cn, .ref la, .int (nI (nk + 1)), .ref ro, .int rn]))) H := hP
    obtain ⟨hv6, ehv6⟩ : ∃ z : qH, z = qs hv5 y (.inr (8, [.ref ms, .ref mb, .ref mw, .int gr, .int cd, .int ca, .int mv, .ref od, .ref pt, .int ct, .int fau, .ref fi, .ref re, .int cs, .ref rc, .ref rs, .ref so, .ref ot, .ref cn, .ref la, .int (nI (nk + 1)), .ref ro, .int rn])) := ⟨_, rfl⟩
    rw [← ehv6] at hP
    have khv6 : ∀ b o, b ≠ y → hv5 b = some o → hv6 b = some o := by rw [ehv6]; exact fun b o nb hb => (qs_ne nb).trans hb
    replace hrc := khv6 _ _ (fun q => by subst q; have := hrc.symm.trans hY; first | cases this | simp at this) hrc
    replace hrs := khv6 _ _ (fun q => by subst q; have := hrs.symm.trans hY; first | cases this | simp at this) hrs
    replace hso := khv6 _ _ (fun q => by subst q; have := hso.symm.trans hY; first | cases this | simp at this) hso
    replace hot := khv6 _ _ (fun q => by subst q; have := hot.symm.trans hY; first | cases this | simp at this) hot
    replace hcn := khv6 _ _ (fun q => by subst q; have := hcn.symm.trans hY; first | cases this | simp at this) hcn
    replace hla := khv6 _ _ (fun q => by subst q; have := hla.symm.trans hY; first | cases this | simp at this) hla
    replace hY : hv6 y = some (.inr (8, [.ref ms, .ref mb, .ref mw, .int gr, .int cd, .int ca, .int mv, .ref od, .ref pt, .int ct, .int fau, .ref fi, .ref re, .int cs, .ref rc, .ref rs, .ref so, .ref ot, .ref cn, .ref la, .int (nI (nk + 1)), .ref ro, .int rn])) := by rw [ehv6]; exact qs_self
    clear ehv6
    replace fr := fun b o hb m0 m1 m2 m3 m4 m5 m6 => khv6 b o m0 (fr b o hb m0 m1 m2 m3 m4 m5 m6)
    replace hall : ∀ b o, h b = some o → ¬ hv6 b = none := fun b o hb z => by
      by_cases z0 : b = y
      · rw [z0, hY] at z; cases z
      · by_cases z1 : b = rc
        · rw [z1, hrc] at z; cases z
        · by_cases z2 : b = rs
          · rw [z2, hrs] at z; cases z
          · by_cases z3 : b = so
            · rw [z3, hso] at z; cases z
            · by_cases z4 : b = ot
              · rw [z4, hot] at z; cases z
              · by_cases z5 : b = cn
                · rw [z5, hcn] at z; cases z
                · by_cases z6 : b = la
                  · rw [z6, hla] at z; cases z
                  · rw [fr b o hb z0 z1 z2 z3 z4 z5 z6] at z; cases z
    refine lv_aload_n hx hb dX8_cell_140 rfl (lv_at hl 0 rfl) ?_
    refine q_get C hP hY rfl inX8 20 (by decide) g1187 rfl dX8_cell_141 ?_
    refine lv_iconst (v := nI 1) hx hb dX8_cell_144 (by decide) ?_
    refine q_isubN hx hb dX8_cell_145 (by omega) ?_
    exact q_iret C hP hS ⟨rfl, rc, rs, so, ot, cn, la, KL, by rw [if_neg c9], _, _, _, _, _, _, hY, ⟨hrc, hrs, hso, hot, hcn, hla⟩, ⟨⟨fun j hj => by unfold upd; rw [if_neg (by omega)], if_pos rfl⟩, ⟨fun j hj => rfl, fun j h1 h2 => by omega⟩, ⟨fun j hj => by unfold upd; rw [if_neg (by omega)], if_pos rfl⟩, ⟨fun j hj => by unfold upd; rw [if_neg (by omega)], if_pos rfl⟩, ⟨fun j hj => by unfold vp_updL; rw [if_neg (by omega)], if_pos rfl⟩, ⟨fun j hj => by unfold vp_updL; rw [if_neg (by omega)], if_pos rfl⟩⟩, ⟨Or.inl rfl, Or.inl rfl, Or.inl rfl, Or.inl rfl, Or.inl rfl, Or.inl rfl⟩, ⟨n_rc_rs, n_rc_so, n_rc_ot, n_rs_so, n_rs_ot, n_so_ot, n_cn_la⟩, fr⟩ (by omega) dX8_cell_146
  · replace c9 : nk = KL := (nI_eq (a := nk) (b := KL) (by omega) (by omega)).mp c9
    obtain ⟨e22, e23⟩ := e21 c9
    refine lv_aload_n hx hb dX8_cell_12 rfl (lv_at hl 0 rfl) ?_
    refine lv_aload_n hx hb dX8_cell_13 rfl (lv_at hl 0 rfl) ?_
    refine q_get C hP hY rfl inX8 14 (by decide) g1181 rfl dX8_cell_14 ?_
    refine q_callS (rest := [.ref y]) C (c_X8_longer l D cy N0 h rc KL Rc hrc (by omega)) kX8_longer g1309 g1310 hP hS (by first | decide | omega) hl.1 rfl (by simp [q_catrf, q_cati, q_catl, q_cata, q_catn]) (by first | decide | omega) dX8_cell_17 (fun q ce E h' H1 locs1 hE => hE.elim) (fun v hh1 H locs hq hP hS => ?_)
    obtain ⟨q17, rfl, eq17, rfl⟩ := hq
    have hN_q17 : ∀ b o, h b = some o → b ≠ q17 := fun b o hb z => by
      subst z
      have z1 := hall b o hb
      rw [eq17] at z1
      exact absurd z1 (by simp)
    obtain ⟨hv7, ehv7⟩ : ∃ z : qH, z = qs h q17 (.inl (cy 0, (2 * KL), .inl (qGr Rc 0 KL))) := ⟨_, rfl⟩
    rw [← ehv7] at hP
    have khv7 : ∀ b o, b ≠ q17 → h b = some o → hv7 b = some o := by rw [ehv7]; exact fun b o nb hb => (qs_ne nb).trans hb
    have n_q17_y : y ≠ q17 := qne_of eq17 hY
    replace hY := khv7 _ _ n_q17_y hY
    have n_q17_rc : rc ≠ q17 := qne_of eq17 hrc
    replace hrc := khv7 _ _ n_q17_rc hrc
    have n_q17_rs : rs ≠ q17 := qne_of eq17 hrs
    replace hrs := khv7 _ _ n_q17_rs hrs
    have n_q17_so : so ≠ q17 := qne_of eq17 hso
    replace hso := khv7 _ _ n_q17_so hso
    have n_q17_ot : ot ≠ q17 := qne_of eq17 hot
    replace hot := khv7 _ _ n_q17_ot hot
    have n_q17_cn : cn ≠ q17 := qne_of eq17 hcn
    replace hcn := khv7 _ _ n_q17_cn hcn
    have n_q17_la : la ≠ q17 := qne_of eq17 hla
    replace hla := khv7 _ _ n_q17_la hla
    have fq17 : hv7 q17 = some (.inl (cy 0, (2 * KL), .inl (qGr Rc 0 KL))) := by rw [ehv7]; exact qs_self
    clear ehv7
    replace fr := fun b o hb m0 m1 m2 m3 m4 m5 m6 => khv7 b o (qne_of eq17 (fr b o hb m0 m1 m2 m3 m4 m5 m6)) (fr b o hb m0 m1 m2 m3 m4 m5 m6)
    replace hall : ∀ b o, h b = some o → ¬ hv7 b = none := fun b o hb z => by
      by_cases z0 : b = y
      · rw [z0, hY] at z; cases z
      · by_cases z1 : b = rc
        · rw [z1, hrc] at z; cases z
        · by_cases z2 : b = rs
          · rw [z2, hrs] at z; cases z
          · by_cases z3 : b = so
            · rw [z3, hso] at z; cases z
            · by_cases z4 : b = ot
              · rw [z4, hot] at z; cases z
              · by_cases z5 : b = cn
                · rw [z5, hcn] at z; cases z
                · by_cases z6 : b = la
                  · rw [z6, hla] at z; cases z
                  · rw [fr b o hb z0 z1 z2 z3 z4 z5 z6] at z; cases z
    refine q_put C hP hS hY rfl inX8 tyX8 tyX8_ok nmX8 14 (by decide) g1181 rfl rfl rfl (Nat.le_of_ble_eq_true rfl) dX8_cell_20 (fun H locs hP hS => ?_)
    replace hP : qP D N0 (qs hv7 y (.inr (8, [.ref ms, .ref mb, .ref mw, .int gr, .int cd, .int ca, .int mv, .ref od, .ref pt, .int ct, .int fau, .ref fi, .ref re, .int cs, .ref q17, .ref rs, .ref so, .ref ot, .ref cn, .ref la, .int (nI nk), .ref ro, .int rn]))) H := hP
    obtain ⟨hv8, ehv8⟩ : ∃ z : qH, z = qs hv7 y (.inr (8, [.ref ms, .ref mb, .ref mw, .int gr, .int cd, .int ca, .int mv, .ref od, .ref pt, .int ct, .int fau, .ref fi, .ref re, .int cs, .ref q17, .ref rs, .ref so, .ref ot, .ref cn, .ref la, .int (nI nk), .ref ro, .int rn])) := ⟨_, rfl⟩
    rw [← ehv8] at hP
    have khv8 : ∀ b o, b ≠ y → hv7 b = some o → hv8 b = some o := by rw [ehv8]; exact fun b o nb hb => (qs_ne nb).trans hb
    replace hrc := khv8 _ _ (fun q => by subst q; have := hrc.symm.trans hY; first | cases this | simp at this) hrc
    replace hrs := khv8 _ _ (fun q => by subst q; have := hrs.symm.trans hY; first | cases this | simp at this) hrs
    replace hso := khv8 _ _ (fun q => by subst q; have := hso.symm.trans hY; first | cases this | simp at this) hso
    replace hot := khv8 _ _ (fun q => by subst q; have := hot.symm.trans hY; first | cases this | simp at this) hot
    replace hcn := khv8 _ _ (fun q => by subst q; have := hcn.symm.trans hY; first | cases this | simp at this) hcn
    replace hla := khv8 _ _ (fun q => by subst q; have := hla.symm.trans hY; first | cases this | simp at this) hla
    replace fq17 := khv8 _ _ n_q17_y.symm fq17
    replace hY : hv8 y = some (.inr (8, [.ref ms, .ref mb, .ref mw, .int gr, .int cd, .int ca, .int mv, .ref od, .ref pt, .int ct, .int fau, .ref fi, .ref re, .int cs, .ref q17, .ref rs, .ref so, .ref ot, .ref cn, .ref la, .int (nI nk), .ref ro, .int rn])) := by rw [ehv8]; exact qs_self
    clear ehv8
    replace fr := fun b o hb m0 m1 m2 m3 m4 m5 m6 => khv8 b o m0 (fr b o hb m0 m1 m2 m3 m4 m5 m6)
    replace hall : ∀ b o, h b = some o → ¬ hv8 b = none := fun b o hb z => by
      by_cases z0 : b = y
      · rw [z0, hY] at z; cases z
      · by_cases z1 : b = rc
        · rw [z1, hrc] at z; cases z
        · by_cases z2 : b = rs
          · rw [z2, hrs] at z; cases z
          · by_cases z3 : b = so
            · rw [z3, hso] at z; cases z
            · by_cases z4 : b = ot
              · rw [z4, hot] at z; cases z
              · by_cases z5 : b = cn
                · rw [z5, hcn] at z; cases z
                · by_cases z6 : b = la
                  · rw [z6, hla] at z; cases z
                  · rw [fr b o hb z0 z1 z2 z3 z4 z5 z6] at z; cases z
    refine lv_aload_n hx hb dX8_cell_23 rfl (lv_at hl 0 rfl) ?_
    refine lv_aload_n hx hb dX8_cell_24 rfl (lv_at hl 0 rfl) ?_
    refine q_get C hP hY rfl inX8 15 (by decide) g1182 rfl dX8_cell_25 ?_
    refine q_callS (rest := [.ref y]) C (c_X8_longer l D cy N0 hv8 rs KL Rs hrs (by omega)) kX8_longer g1309 g1310 hP hS (by first | decide | omega) hl.1 rfl (by simp [q_catrf, q_cati, q_catl, q_cata, q_catn]) (by first | decide | omega) dX8_cell_28 (fun q ce E h' H1 locs1 hE => hE.elim) (fun v hh2 H locs hq hP hS => ?_)
    obtain ⟨q28, rfl, eq28, rfl⟩ := hq
    have hN_q28 : ∀ b o, h b = some o → b ≠ q28 := fun b o hb z => by
      subst z
      have z1 := hall b o hb
      rw [eq28] at z1
      exact absurd z1 (by simp)
    obtain ⟨hv9, ehv9⟩ : ∃ z : qH, z = qs hv8 q28 (.inl (cy 0, (2 * KL), .inl (qGr Rs 0 KL))) := ⟨_, rfl⟩
    rw [← ehv9] at hP
    have khv9 : ∀ b o, b ≠ q28 → hv8 b = some o → hv9 b = some o := by rw [ehv9]; exact fun b o nb hb => (qs_ne nb).trans hb
    have n_q28_y : y ≠ q28 := qne_of eq28 hY
    replace hY := khv9 _ _ n_q28_y hY
    have n_q28_rc : rc ≠ q28 := qne_of eq28 hrc
    replace hrc := khv9 _ _ n_q28_rc hrc
    have n_q28_rs : rs ≠ q28 := qne_of eq28 hrs
    replace hrs := khv9 _ _ n_q28_rs hrs
    have n_q28_so : so ≠ q28 := qne_of eq28 hso
    replace hso := khv9 _ _ n_q28_so hso
    have n_q28_ot : ot ≠ q28 := qne_of eq28 hot
    replace hot := khv9 _ _ n_q28_ot hot
    have n_q28_cn : cn ≠ q28 := qne_of eq28 hcn
    replace hcn := khv9 _ _ n_q28_cn hcn
    have n_q28_la : la ≠ q28 := qne_of eq28 hla
    replace hla := khv9 _ _ n_q28_la hla
    have n_q28_q17 : q17 ≠ q28 := qne_of eq28 fq17
    replace fq17 := khv9 _ _ n_q28_q17 fq17
    have fq28 : hv9 q28 = some (.inl (cy 0, (2 * KL), .inl (qGr Rs 0 KL))) := by rw [ehv9]; exact qs_self
    clear ehv9
    replace fr := fun b o hb m0 m1 m2 m3 m4 m5 m6 => khv9 b o (qne_of eq28 (fr b o hb m0 m1 m2 m3 m4 m5 m6)) (fr b o hb m0 m1 m2 m3 m4 m5 m6)
    replace hall : ∀ b o, h b = some o → ¬ hv9 b = none := fun b o hb z => by
      by_cases z0 : b = y
      · rw [z0, hY] at z; cases z
      · by_cases z1 : b = rc
        · rw [z1, hrc] at z; cases z
        · by_cases z2 : b = rs
          · rw [z2, hrs] at z; cases z
          · by_cases z3 : b = so
            · rw [z3, hso] at z; cases z
            · by_cases z4 : b = ot
              · rw [z4, hot] at z; cases z
              · by_cases z5 : b = cn
                · rw [z5, hcn] at z; cases z
                · by_cases z6 : b = la
                  · rw [z6, hla] at z; cases z
                  · rw [fr b o hb z0 z1 z2 z3 z4 z5 z6] at z; cases z
    refine q_put C hP hS hY rfl inX8 tyX8 tyX8_ok nmX8 15 (by decide) g1182 rfl rfl rfl (Nat.le_of_ble_eq_true rfl) dX8_cell_31 (fun H locs hP hS => ?_)
    replace hP : qP D N0 (qs hv9 y (.inr (8, [.ref ms, .ref mb, .ref mw, .int gr, .int cd, .int ca, .int mv, .ref od, .ref pt, .int ct, .int fau, .ref fi, .ref re, .int cs, .ref q17, .ref q28, .ref so, .ref ot, .ref cn, .ref la, .int (nI nk), .ref ro, .int rn]))) H := hP
    obtain ⟨hv10, ehv10⟩ : ∃ z : qH, z = qs hv9 y (.inr (8, [.ref ms, .ref mb, .ref mw, .int gr, .int cd, .int ca, .int mv, .ref od, .ref pt, .int ct, .int fau, .ref fi, .ref re, .int cs, .ref q17, .ref q28, .ref so, .ref ot, .ref cn, .ref la, .int (nI nk), .ref ro, .int rn])) := ⟨_, rfl⟩
    rw [← ehv10] at hP
    have khv10 : ∀ b o, b ≠ y → hv9 b = some o → hv10 b = some o := by rw [ehv10]; exact fun b o nb hb => (qs_ne nb).trans hb
    replace hrc := khv10 _ _ (fun q => by subst q; have := hrc.symm.trans hY; first | cases this | simp at this) hrc
    replace hrs := khv10 _ _ (fun q => by subst q; have := hrs.symm.trans hY; first | cases this | simp at this) hrs
    replace hso := khv10 _ _ (fun q => by subst q; have := hso.symm.trans hY; first | cases this | simp at this) hso
    replace hot := khv10 _ _ (fun q => by subst q; have := hot.symm.trans hY; first | cases this | simp at this) hot
    replace hcn := khv10 _ _ (fun q => by subst q; have := hcn.symm.trans hY; first | cases this | simp at this) hcn
    replace hla := khv10 _ _ (fun q => by subst q; have := hla.symm.trans hY; first | cases this | simp at this) hla
    replace fq17 := khv10 _ _ n_q17_y.symm fq17
    replace fq28 := khv10 _ _ n_q28_y.symm fq28
    replace hY : hv10 y = some (.inr (8, [.ref ms, .ref mb, .ref mw, .int gr, .int cd, .int ca, .int mv, .ref od, .ref pt, .int ct, .int fau, .ref fi, .ref re, .int cs, .ref q17, .ref q28, .ref so, .ref ot, .ref cn, .ref la, .int (nI nk), .ref ro, .int rn])) := by rw [ehv10]; exact qs_self
    clear ehv10
    replace fr := fun b o hb m0 m1 m2 m3 m4 m5 m6 => khv10 b o m0 (fr b o hb m0 m1 m2 m3 m4 m5 m6)
    replace hall : ∀ b o, h b = some o → ¬ hv10 b = none := fun b o hb z => by
      by_cases z0 : b = y
      · rw [z0, hY] at z; cases z
      · by_cases z1 : b = rc
        · rw [z1, hrc] at z; cases z
        · by_cases z2 : b = rs
          · rw [z2, hrs] at z; cases z
          · by_cases z3 : b = so
            · rw [z3, hso] at z; cases z
            · by_cases z4 : b = ot
              · rw [z4, hot] at z; cases z
              · by_cases z5 : b = cn
                · rw [z5, hcn] at z; cases z
                · by_cases z6 : b = la
                  · rw [z6, hla] at z; cases z
                  · rw [fr b o hb z0 z1 z2 z3 z4 z5 z6] at z; cases z
    refine lv_aload_n hx hb dX8_cell_34 rfl (lv_at hl 0 rfl) ?_
    refine lv_aload_n hx hb dX8_cell_35 rfl (lv_at hl 0 rfl) ?_
    refine q_get C hP hY rfl inX8 16 (by decide) g1183 rfl dX8_cell_36 ?_
    refine q_callS (rest := [.ref y]) C (c_X8_longer l D cy N0 hv10 so KL So hso (by omega)) kX8_longer g1309 g1310 hP hS (by first | decide | omega) hl.1 rfl (by simp [q_catrf, q_cati, q_catl, q_cata, q_catn]) (by first | decide | omega) dX8_cell_39 (fun q ce E h' H1 locs1 hE => hE.elim) (fun v hh3 H locs hq hP hS => ?_)
    obtain ⟨q39, rfl, eq39, rfl⟩ := hq
    have hN_q39 : ∀ b o, h b = some o → b ≠ q39 := fun b o hb z => by
      subst z
      have z1 := hall b o hb
      rw [eq39] at z1
      exact absurd z1 (by simp)
    obtain ⟨hv11, ehv11⟩ : ∃ z : qH, z = qs hv10 q39 (.inl (cy 0, (2 * KL), .inl (qGr So 0 KL))) := ⟨_, rfl⟩
    rw [← ehv11] at hP
    have khv11 : ∀ b o, b ≠ q39 → hv10 b = some o → hv11 b = some o := by rw [ehv11]; exact fun b o nb hb => (qs_ne nb).trans hb
    have n_q39_y : y ≠ q39 := qne_of eq39 hY
    replace hY := khv11 _ _ n_q39_y hY
    have n_q39_rc : rc ≠ q39 := qne_of eq39 hrc
    replace hrc := khv11 _ _ n_q39_rc hrc
    have n_q39_rs : rs ≠ q39 := qne_of eq39 hrs
    replace hrs := khv11 _ _ n_q39_rs hrs
    have n_q39_so : so ≠ q39 := qne_of eq39 hso
    replace hso := khv11 _ _ n_q39_so hso
    have n_q39_ot : ot ≠ q39 := qne_of eq39 hot
    replace hot := khv11 _ _ n_q39_ot hot
    have n_q39_cn : cn ≠ q39 := qne_of eq39 hcn
    replace hcn := khv11 _ _ n_q39_cn hcn
    have n_q39_la : la ≠ q39 := qne_of eq39 hla
    replace hla := khv11 _ _ n_q39_la hla
    have n_q39_q17 : q17 ≠ q39 := qne_of eq39 fq17
    replace fq17 := khv11 _ _ n_q39_q17 fq17
    have n_q39_q28 : q28 ≠ q39 := qne_of eq39 fq28
    replace fq28 := khv11 _ _ n_q39_q28 fq28
    have fq39 : hv11 q39 = some (.inl (cy 0, (2 * KL), .inl (qGr So 0 KL))) := by rw [ehv11]; exact qs_self
    clear ehv11
    replace fr := fun b o hb m0 m1 m2 m3 m4 m5 m6 => khv11 b o (qne_of eq39 (fr b o hb m0 m1 m2 m3 m4 m5 m6)) (fr b o hb m0 m1 m2 m3 m4 m5 m6)
    replace hall : ∀ b o, h b = some o → ¬ hv11 b = none := fun b o hb z => by
      by_cases z0 : b = y
      · rw [z0, hY] at z; cases z
      · by_cases z1 : b = rc
        · rw [z1, hrc] at z; cases z
        · by_cases z2 : b = rs
          · rw [z2, hrs] at z; cases z
          · by_cases z3 : b = so
            · rw [z3, hso] at z; cases z
            · by_cases z4 : b = ot
              · rw [z4, hot] at z; cases z
              · by_cases z5 : b = cn
                · rw [z5, hcn] at z; cases z
                · by_cases z6 : b = la
                  · rw [z6, hla] at z; cases z
                  · rw [fr b o hb z0 z1 z2 z3 z4 z5 z6] at z; cases z
    refine q_put C hP hS hY rfl inX8 tyX8 tyX8_ok nmX8 16 (by decide) g1183 rfl rfl rfl (Nat.le_of_ble_eq_true rfl) dX8_cell_42 (fun H locs hP hS => ?_)
    replace hP : qP D N0 (qs hv11 y (.inr (8, [.ref ms, .ref mb, .ref mw, .int gr, .int cd, .int ca, .int mv, .ref od, .ref pt, .int ct, .int fau, .ref fi, .ref re, .int cs, .ref q17, .ref q28, .ref q39, .ref ot, .ref cn, .ref la, .int (nI nk), .ref ro, .int rn]))) H := hP
    obtain ⟨hv12, ehv12⟩ : ∃ z : qH, z = qs hv11 y (.inr (8, [.ref ms, .ref mb, .ref mw, .int gr, .int cd, .int ca, .int mv, .ref od, .ref pt, .int ct, .int fau, .ref fi, .ref re, .int cs, .ref q17, .ref q28, .ref q39, .ref ot, .ref cn, .ref la, .int (nI nk), .ref ro, .int rn])) := ⟨_, rfl⟩
    rw [← ehv12] at hP
    have khv12 : ∀ b o, b ≠ y → hv11 b = some o → hv12 b = some o := by rw [ehv12]; exact fun b o nb hb => (qs_ne nb).trans hb
    replace hrc := khv12 _ _ (fun q => by subst q; have := hrc.symm.trans hY; first | cases this | simp at this) hrc
    replace hrs := khv12 _ _ (fun q => by subst q; have := hrs.symm.trans hY; first | cases this | simp at this) hrs
    replace hso := khv12 _ _ (fun q => by subst q; have := hso.symm.trans hY; first | cases this | simp at this) hso
    replace hot := khv12 _ _ (fun q => by subst q; have := hot.symm.trans hY; first | cases this | simp at this) hot
    replace hcn := khv12 _ _ (fun q => by subst q; have := hcn.symm.trans hY; first | cases this | simp at this) hcn
    replace hla := khv12 _ _ (fun q => by subst q; have := hla.symm.trans hY; first | cases this | simp at this) hla
    replace fq17 := khv12 _ _ n_q17_y.symm fq17
    replace fq28 := khv12 _ _ n_q28_y.symm fq28
    replace fq39 := khv12 _ _ n_q39_y.symm fq39
    replace hY : hv12 y = some (.inr (8, [.ref ms, .ref mb, .ref mw, .int gr, .int cd, .int ca, .int mv, .ref od, .ref pt, .int ct, .int fau, .ref fi, .ref re, .int cs, .ref q17, .ref q28, .ref q39, .ref ot, .ref cn, .ref la, .int (nI nk), .ref ro, .int rn])) := by rw [ehv12]; exact qs_self
    clear ehv12
    replace fr := fun b o hb m0 m1 m2 m3 m4 m5 m6 => khv12 b o m0 (fr b o hb m0 m1 m2 m3 m4 m5 m6)
    replace hall : ∀ b o, h b = some o → ¬ hv12 b = none := fun b o hb z => by
      by_cases z0 : b = y
      · rw [z0, hY] at z; cases z
      · by_cases z1 : b = rc
        · rw [z1, hrc] at z; cases z
        · by_cases z2 : b = rs
          · rw [z2, hrs] at z; cases z
          · by_cases z3 : b = so
            · rw [z3, hso] at z; cases z
            · by_cases z4 : b = ot
              · rw [z4, hot] at z; cases z
              · by_cases z5 : b = cn
                · rw [z5, hcn] at z; cases z
                · by_cases z6 : b = la
                  · rw [z6, hla] at z; cases z
                  · rw [fr b o hb z0 z1 z2 z3 z4 z5 z6] at z; cases z
    refine lv_aload_n hx hb dX8_cell_45 rfl (lv_at hl 0 rfl) ?_
    refine lv_aload_n hx hb dX8_cell_46 rfl (lv_at hl 0 rfl) ?_
    refine q_get C hP hY rfl inX8 17 (by decide) g1184 rfl dX8_cell_47 ?_
    refine q_callS (rest := [.ref y]) C (c_X8_longer l D cy N0 hv12 ot KL Ot hot (by omega)) kX8_longer g1309 g1310 hP hS (by first | decide | omega) hl.1 rfl (by simp [q_catrf, q_cati, q_catl, q_cata, q_catn]) (by first | decide | omega) dX8_cell_50 (fun q ce E h' H1 locs1 hE => hE.elim) (fun v hh4 H locs hq hP hS => ?_)
    obtain ⟨q50, rfl, eq50, rfl⟩ := hq
    have hN_q50 : ∀ b o, h b = some o → b ≠ q50 := fun b o hb z => by
      subst z
      have z1 := hall b o hb
      rw [eq50] at z1
      exact absurd z1 (by simp)
    obtain ⟨hv13, ehv13⟩ : ∃ z : qH, z = qs hv12 q50 (.inl (cy 0, (2 * KL), .inl (qGr Ot 0 KL))) := ⟨_, rfl⟩
    rw [← ehv13] at hP
    have khv13 : ∀ b o, b ≠ q50 → hv12 b = some o → hv13 b = some o := by rw [ehv13]; exact fun b o nb hb => (qs_ne nb).trans hb
    have n_q50_y : y ≠ q50 := qne_of eq50 hY
    replace hY := khv13 _ _ n_q50_y hY
    have n_q50_rc : rc ≠ q50 := qne_of eq50 hrc
    replace hrc := khv13 _ _ n_q50_rc hrc
    have n_q50_rs : rs ≠ q50 := qne_of eq50 hrs
    replace hrs := khv13 _ _ n_q50_rs hrs
    have n_q50_so : so ≠ q50 := qne_of eq50 hso
    replace hso := khv13 _ _ n_q50_so hso
    have n_q50_ot : ot ≠ q50 := qne_of eq50 hot
    replace hot := khv13 _ _ n_q50_ot hot
    have n_q50_cn : cn ≠ q50 := qne_of eq50 hcn
    replace hcn := khv13 _ _ n_q50_cn hcn
    have n_q50_la : la ≠ q50 := qne_of eq50 hla
    replace hla := khv13 _ _ n_q50_la hla
    have n_q50_q17 : q17 ≠ q50 := qne_of eq50 fq17
    replace fq17 := khv13 _ _ n_q50_q17 fq17
    have n_q50_q28 : q28 ≠ q50 := qne_of eq50 fq28
    replace fq28 := khv13 _ _ n_q50_q28 fq28
    have n_q50_q39 : q39 ≠ q50 := qne_of eq50 fq39
    replace fq39 := khv13 _ _ n_q50_q39 fq39
    have fq50 : hv13 q50 = some (.inl (cy 0, (2 * KL), .inl (qGr Ot 0 KL))) := by rw [ehv13]; exact qs_self
    clear ehv13
    replace fr := fun b o hb m0 m1 m2 m3 m4 m5 m6 => khv13 b o (qne_of eq50 (fr b o hb m0 m1 m2 m3 m4 m5 m6)) (fr b o hb m0 m1 m2 m3 m4 m5 m6)
    replace hall : ∀ b o, h b = some o → ¬ hv13 b = none := fun b o hb z => by
      by_cases z0 : b = y
      · rw [z0, hY] at z; cases z
      · by_cases z1 : b = rc
        · rw [z1, hrc] at z; cases z
        · by_cases z2 : b = rs
          · rw [z2, hrs] at z; cases z
          · by_cases z3 : b = so
            · rw [z3, hso] at z; cases z
            · by_cases z4 : b = ot
              · rw [z4, hot] at z; cases z
              · by_cases z5 : b = cn
                · rw [z5, hcn] at z; cases z
                · by_cases z6 : b = la
                  · rw [z6, hla] at z; cases z
                  · rw [fr b o hb z0 z1 z2 z3 z4 z5 z6] at z; cases z
    refine q_put C hP hS hY rfl inX8 tyX8 tyX8_ok nmX8 17 (by decide) g1184 rfl rfl rfl (Nat.le_of_ble_eq_true rfl) dX8_cell_53 (fun H locs hP hS => ?_)
    replace hP : qP D N0 (qs hv13 y (.inr (8, [.ref ms, .ref mb, .ref mw, .int gr, .int cd, .int ca, .int mv, .ref od, .ref pt, .int ct, .int fau, .ref fi, .ref re, .int cs, .ref q17, .ref q28, .ref q39, .ref q50, .ref cn, .ref la, .int (nI nk), .ref ro, .int rn]))) H := hP
    obtain ⟨hv14, ehv14⟩ : ∃ z : qH, z = qs hv13 y (.inr (8, [.ref ms, .ref mb, .ref mw, .int gr, .int cd, .int ca, .int mv, .ref od, .ref pt, .int ct, .int fau, .ref fi, .ref re, .int cs, .ref q17, .ref q28, .ref q39, .ref q50, .ref cn, .ref la, .int (nI nk), .ref ro, .int rn])) := ⟨_, rfl⟩
    rw [← ehv14] at hP
    have khv14 : ∀ b o, b ≠ y → hv13 b = some o → hv14 b = some o := by rw [ehv14]; exact fun b o nb hb => (qs_ne nb).trans hb
    replace hrc := khv14 _ _ (fun q => by subst q; have := hrc.symm.trans hY; first | cases this | simp at this) hrc
    replace hrs := khv14 _ _ (fun q => by subst q; have := hrs.symm.trans hY; first | cases this | simp at this) hrs
    replace hso := khv14 _ _ (fun q => by subst q; have := hso.symm.trans hY; first | cases this | simp at this) hso
    replace hot := khv14 _ _ (fun q => by subst q; have := hot.symm.trans hY; first | cases this | simp at this) hot
    replace hcn := khv14 _ _ (fun q => by subst q; have := hcn.symm.trans hY; first | cases this | simp at this) hcn
    replace hla := khv14 _ _ (fun q => by subst q; have := hla.symm.trans hY; first | cases this | simp at this) hla
    replace fq17 := khv14 _ _ n_q17_y.symm fq17
    replace fq28 := khv14 _ _ n_q28_y.symm fq28
    replace fq39 := khv14 _ _ n_q39_y.symm fq39
    replace fq50 := khv14 _ _ n_q50_y.symm fq50
    replace hY : hv14 y = some (.inr (8, [.ref ms, .ref mb, .ref mw, .int gr, .int cd, .int ca, .int mv, .ref od, .ref pt, .int ct, .int fau, .ref fi, .ref re, .int cs, .ref q17, .ref q28, .ref q39, .ref q50, .ref cn, .ref la, .int (nI nk), .ref ro, .int rn])) := by rw [ehv14]; exact qs_self
    clear ehv14
    replace fr := fun b o hb m0 m1 m2 m3 m4 m5 m6 => khv14 b o m0 (fr b o hb m0 m1 m2 m3 m4 m5 m6)
    replace hall : ∀ b o, h b = some o → ¬ hv14 b = none := fun b o hb z => by
      by_cases z0 : b = y
      · rw [z0, hY] at z; cases z
      · by_cases z1 : b = rc
        · rw [z1, hrc] at z; cases z
        · by_cases z2 : b = rs
          · rw [z2, hrs] at z; cases z
          · by_cases z3 : b = so
            · rw [z3, hso] at z; cases z
            · by_cases z4 : b = ot
              · rw [z4, hot] at z; cases z
              · by_cases z5 : b = cn
                · rw [z5, hcn] at z; cases z
                · by_cases z6 : b = la
                  · rw [z6, hla] at z; cases z
                  · rw [fr b o hb z0 z1 z2 z3 z4 z5 z6] at z; cases z
    refine lv_aload_n hx hb dX8_cell_56 rfl (lv_at hl 0 rfl) ?_
    refine lv_aload_n hx hb dX8_cell_57 rfl (lv_at hl 0 rfl) ?_
    refine q_get C hP hY rfl inX8 18 (by decide) g1185 rfl dX8_cell_58 ?_
    refine q_callS (rest := [.ref y]) C (c_X8_longer_ l D cy N0 hv14 cn KL Cn hcn (by omega)) kX8_longer_ g1312 g1313 hP hS (by first | decide | omega) hl.1 rfl (by simp [q_catrf, q_cati, q_catl, q_cata, q_catn]) (by first | decide | omega) dX8_cell_61 (fun q ce E h' H1 locs1 hE => hE.elim) (fun v hh5 H locs hq hP hS => ?_)
    obtain ⟨q61, rfl, eq61, rfl⟩ := hq
    have hN_q61 : ∀ b o, h b = some o → b ≠ q61 := fun b o hb z => by
      subst z
      have z1 := hall b o hb
      rw [eq61] at z1
      exact absurd z1 (by simp)
    obtain ⟨hv15, ehv15⟩ : ∃ z : qH, z = qs hv14 q61 (.inl (cy 1, (2 * KL), .inr (.inl (qGr Cn 0 KL)))) := ⟨_, rfl⟩
    rw [← ehv15] at hP
    have khv15 : ∀ b o, b ≠ q61 → hv14 b = some o → hv15 b = some o := by rw [ehv15]; exact fun b o nb hb => (qs_ne nb).trans hb
    have n_q61_y : y ≠ q61 := qne_of eq61 hY
    replace hY := khv15 _ _ n_q61_y hY
    have n_q61_rc : rc ≠ q61 := qne_of eq61 hrc
    replace hrc := khv15 _ _ n_q61_rc hrc
    have n_q61_rs : rs ≠ q61 := qne_of eq61 hrs
    replace hrs := khv15 _ _ n_q61_rs hrs
    have n_q61_so : so ≠ q61 := qne_of eq61 hso
    replace hso := khv15 _ _ n_q61_so hso
    have n_q61_ot : ot ≠ q61 := qne_of eq61 hot
    replace hot := khv15 _ _ n_q61_ot hot
    have n_q61_cn : cn ≠ q61 := qne_of eq61 hcn
    replace hcn := khv15 _ _ n_q61_cn hcn
    have n_q61_la : la ≠ q61 := qne_of eq61 hla
    replace hla := khv15 _ _ n_q61_la hla
    have n_q61_q17 : q17 ≠ q61 := qne_of eq61 fq17
    replace fq17 := khv15 _ _ n_q61_q17 fq17
    have n_q61_q28 : q28 ≠ q61 := qne_of eq61 fq28
    replace fq28 := khv15 _ _ n_q61_q28 fq28
    have n_q61_q39 : q39 ≠ q61 := qne_of eq61 fq39
    replace fq39 := khv15 _ _ n_q61_q39 fq39
    have n_q61_q50 : q50 ≠ q61 := qne_of eq61 fq50
    replace fq50 := khv15 _ _ n_q61_q50 fq50
    have fq61 : hv15 q61 = some (.inl (cy 1, (2 * KL), .inr (.inl (qGr Cn 0 KL)))) := by rw [ehv15]; exact qs_self
    clear ehv15
    replace fr := fun b o hb m0 m1 m2 m3 m4 m5 m6 => khv15 b o (qne_of eq61 (fr b o hb m0 m1 m2 m3 m4 m5 m6)) (fr b o hb m0 m1 m2 m3 m4 m5 m6)
    replace hall : ∀ b o, h b = some o → ¬ hv15 b = none := fun b o hb z => by
      by_cases z0 : b = y
      · rw [z0, hY] at z; cases z
      · by_cases z1 : b = rc
        · rw [z1, hrc] at z; cases z
        · by_cases z2 : b = rs
          · rw [z2, hrs] at z; cases z
          · by_cases z3 : b = so
            · rw [z3, hso] at z; cases z
            · by_cases z4 : b = ot
              · rw [z4, hot] at z; cases z
              · by_cases z5 : b = cn
                · rw [z5, hcn] at z; cases z
                · by_cases z6 : b = la
                  · rw [z6, hla] at z; cases z
                  · rw [fr b o hb z0 z1 z2 z3 z4 z5 z6] at z; cases z
    refine q_put C hP hS hY rfl inX8 tyX8 tyX8_ok nmX8 18 (by decide) g1185 rfl rfl rfl (Nat.le_of_ble_eq_true rfl) dX8_cell_64 (fun H locs hP hS => ?_)
    replace hP : qP D N0 (qs hv15 y (.inr (8, [.ref ms, .ref mb, .ref mw, .int gr, .int cd, .int ca, .int mv, .ref od, .ref pt, .int ct, .int fau, .ref fi, .ref re, .int cs, .ref q17, .ref q28, .ref q39, .ref q50, .ref q61, .ref la, .int (nI nk), .ref ro, .int rn]))) H := hP
    obtain ⟨hv16, ehv16⟩ : ∃ z : qH, z = qs hv15 y (.inr (8, [.ref ms, .ref mb, .ref mw, .int gr, .int cd, .int ca, .int mv, .ref od, .ref pt, .int ct, .int fau, .ref fi, .ref re, .int cs, .ref q17, .ref q28, .ref q39, .ref q50, .ref q61, .ref la, .int (nI nk), .ref ro, .int rn])) := ⟨_, rfl⟩
    rw [← ehv16] at hP
    have khv16 : ∀ b o, b ≠ y → hv15 b = some o → hv16 b = some o := by rw [ehv16]; exact fun b o nb hb => (qs_ne nb).trans hb
    replace hrc := khv16 _ _ (fun q => by subst q; have := hrc.symm.trans hY; first | cases this | simp at this) hrc
    replace hrs := khv16 _ _ (fun q => by subst q; have := hrs.symm.trans hY; first | cases this | simp at this) hrs
    replace hso := khv16 _ _ (fun q => by subst q; have := hso.symm.trans hY; first | cases this | simp at this) hso
    replace hot := khv16 _ _ (fun q => by subst q; have := hot.symm.trans hY; first | cases this | simp at this) hot
    replace hcn := khv16 _ _ (fun q => by subst q; have := hcn.symm.trans hY; first | cases this | simp at this) hcn
    replace hla := khv16 _ _ (fun q => by subst q; have := hla.symm.trans hY; first | cases this | simp at this) hla
    replace fq17 := khv16 _ _ n_q17_y.symm fq17
    replace fq28 := khv16 _ _ n_q28_y.symm fq28
    replace fq39 := khv16 _ _ n_q39_y.symm fq39
    replace fq50 := khv16 _ _ n_q50_y.symm fq50
    replace fq61 := khv16 _ _ n_q61_y.symm fq61
    replace hY : hv16 y = some (.inr (8, [.ref ms, .ref mb, .ref mw, .int gr, .int cd, .int ca, .int mv, .ref od, .ref pt, .int ct, .int fau, .ref fi, .ref re, .int cs, .ref q17, .ref q28, .ref q39, .ref q50, .ref q61, .ref la, .int (nI nk), .ref ro, .int rn])) := by rw [ehv16]; exact qs_self
    clear ehv16
    replace fr := fun b o hb m0 m1 m2 m3 m4 m5 m6 => khv16 b o m0 (fr b o hb m0 m1 m2 m3 m4 m5 m6)
    replace hall : ∀ b o, h b = some o → ¬ hv16 b = none := fun b o hb z => by
      by_cases z0 : b = y
      · rw [z0, hY] at z; cases z
      · by_cases z1 : b = rc
        · rw [z1, hrc] at z; cases z
        · by_cases z2 : b = rs
          · rw [z2, hrs] at z; cases z
          · by_cases z3 : b = so
            · rw [z3, hso] at z; cases z
            · by_cases z4 : b = ot
              · rw [z4, hot] at z; cases z
              · by_cases z5 : b = cn
                · rw [z5, hcn] at z; cases z
                · by_cases z6 : b = la
                  · rw [z6, hla] at z; cases z
                  · rw [fr b o hb z0 z1 z2 z3 z4 z5 z6] at z; cases z
    refine lv_aload_n hx hb dX8_cell_67 rfl (lv_at hl 0 rfl) ?_
    refine lv_aload_n hx hb dX8_cell_68 rfl (lv_at hl 0 rfl) ?_
    refine q_get C hP hY rfl inX8 19 (by decide) g1186 rfl dX8_cell_69 ?_
    refine q_callS (rest := [.ref y]) C (c_X8_longer_ l D cy N0 hv16 la KL La hla (by omega)) kX8_longer_ g1312 g1313 hP hS (by first | decide | omega) hl.1 rfl (by simp [q_catrf, q_cati, q_catl, q_cata, q_catn]) (by first | decide | omega) dX8_cell_72 (fun q ce E h' H1 locs1 hE => hE.elim) (fun v hh6 H locs hq hP hS => ?_)
    obtain ⟨q72, rfl, eq72, rfl⟩ := hq
    have hN_q72 : ∀ b o, h b = some o → b ≠ q72 := fun b o hb z => by
      subst z
      have z1 := hall b o hb
      rw [eq72] at z1
      exact absurd z1 (by simp)
    obtain ⟨hv17, ehv17⟩ : ∃ z : qH, z = qs hv16 q72 (.inl (cy 1, (2 * KL), .inr (.inl (qGr La 0 KL)))) := ⟨_, rfl⟩
    rw [← ehv17] at hP
    have khv17 : ∀ b o, b ≠ q72 → hv16 b = some o → hv17 b = some o := by rw [ehv17]; exact fun b o nb hb => (qs_ne nb).trans hb
    have n_q72_y : y ≠ q72 := qne_of eq72 hY
    replace hY := khv17 _ _ n_q72_y hY
    have n_q72_rc : rc ≠ q72 := qne_of eq72 hrc
    replace hrc := khv17 _ _ n_q72_rc hrc
    have n_q72_rs : rs ≠ q72 := qne_of eq72 hrs
    replace hrs := khv17 _ _ n_q72_rs hrs
    have n_q72_so : so ≠ q72 := qne_of eq72 hso
    replace hso := khv17 _ _ n_q72_so hso
    have n_q72_ot : ot ≠ q72 := qne_of eq72 hot
    replace hot := khv17 _ _ n_q72_ot hot
    have n_q72_cn : cn ≠ q72 := qne_of eq72 hcn
    replace hcn := khv17 _ _ n_q72_cn hcn
    have n_q72_la : la ≠ q72 := qne_of eq72 hla
    replace hla := khv17 _ _ n_q72_la hla
    have n_q72_q17 : q17 ≠ q72 := qne_of eq72 fq17
    replace fq17 := khv17 _ _ n_q72_q17 fq17
    have n_q72_q28 : q28 ≠ q72 := qne_of eq72 fq28
    replace fq28 := khv17 _ _ n_q72_q28 fq28
    have n_q72_q39 : q39 ≠ q72 := qne_of eq72 fq39
    replace fq39 := khv17 _ _ n_q72_q39 fq39
    have n_q72_q50 : q50 ≠ q72 := qne_of eq72 fq50
    replace fq50 := khv17 _ _ n_q72_q50 fq50
    have n_q72_q61 : q61 ≠ q72 := qne_of eq72 fq61
    replace fq61 := khv17 _ _ n_q72_q61 fq61
    have fq72 : hv17 q72 = some (.inl (cy 1, (2 * KL), .inr (.inl (qGr La 0 KL)))) := by rw [ehv17]; exact qs_self
    clear ehv17
    replace fr := fun b o hb m0 m1 m2 m3 m4 m5 m6 => khv17 b o (qne_of eq72 (fr b o hb m0 m1 m2 m3 m4 m5 m6)) (fr b o hb m0 m1 m2 m3 m4 m5 m6)
    replace hall : ∀ b o, h b = some o → ¬ hv17 b = none := fun b o hb z => by
      by_cases z0 : b = y
      · rw [z0, hY] at z; cases z
      · by_cases z1 : b = rc
        · rw [z1, hrc] at z; cases z
        · by_cases z2 : b = rs
          · rw [z2, hrs] at z; cases z
          · by_cases z3 : b = so
            · rw [z3, hso] at z; cases z
            · by_cases z4 : b = ot
              · rw [z4, hot] at z; cases z
              · by_cases z5 : b = cn
                · rw [z5, hcn] at z; cases z
                · by_cases z6 : b = la
                  · rw [z6, hla] at z; cases z
                  · rw [fr b o hb z0 z1 z2 z3 z4 z5 z6] at z; cases z
    refine q_put C hP hS hY rfl inX8 tyX8 tyX8_ok nmX8 19 (by decide) g1186 rfl rfl rfl (Nat.le_of_ble_eq_true rfl) dX8_cell_75 (fun H locs hP hS => ?_)
    replace hP : qP D N0 (qs hv17 y (.inr (8, [.ref ms, .ref mb, .ref mw, .int gr, .int cd, .int ca, .int mv, .ref od, .ref pt, .int ct, .int fau, .ref fi, .ref re, .int cs, .ref q17, .ref q28, .ref q39, .ref q50, .ref q61, .ref q72, .int (nI nk), .ref ro, .int rn]))) H := hP
    obtain ⟨hv18, ehv18⟩ : ∃ z : qH, z = qs hv17 y (.inr (8, [.ref ms, .ref mb, .ref mw, .int gr, .int cd, .int ca, .int mv, .ref od, .ref pt, .int ct, .int fau, .ref fi, .ref re, .int cs, .ref q17, .ref q28, .ref q39, .ref q50, .ref q61, .ref q72, .int (nI nk), .ref ro, .int rn])) := ⟨_, rfl⟩
    rw [← ehv18] at hP
    have khv18 : ∀ b o, b ≠ y → hv17 b = some o → hv18 b = some o := by rw [ehv18]; exact fun b o nb hb => (qs_ne nb).trans hb
    replace hrc := khv18 _ _ (fun q => by subst q; have := hrc.symm.trans hY; first | cases this | simp at this) hrc
    replace hrs := khv18 _ _ (fun q => by subst q; have := hrs.symm.trans hY; first | cases this | simp at this) hrs
    replace hso := khv18 _ _ (fun q => by subst q; have := hso.symm.trans hY; first | cases this | simp at this) hso
    replace hot := khv18 _ _ (fun q => by subst q; have := hot.symm.trans hY; first | cases this | simp at this) hot
    replace hcn := khv18 _ _ (fun q => by subst q; have := hcn.symm.trans hY; first | cases this | simp at this) hcn
    replace hla := khv18 _ _ (fun q => by subst q; have := hla.symm.trans hY; first | cases this | simp at this) hla
    replace fq17 := khv18 _ _ n_q17_y.symm fq17
    replace fq28 := khv18 _ _ n_q28_y.symm fq28
    replace fq39 := khv18 _ _ n_q39_y.symm fq39
    replace fq50 := khv18 _ _ n_q50_y.symm fq50
    replace fq61 := khv18 _ _ n_q61_y.symm fq61
    replace fq72 := khv18 _ _ n_q72_y.symm fq72
    replace hY : hv18 y = some (.inr (8, [.ref ms, .ref mb, .ref mw, .int gr, .int cd, .int ca, .int mv, .ref od, .ref pt, .int ct, .int fau, .ref fi, .ref re, .int cs, .ref q17, .ref q28, .ref q39, .ref q50, .ref q61, .ref q72, .int (nI nk), .ref ro, .int rn])) := by rw [ehv18]; exact qs_self
    clear ehv18
    replace fr := fun b o hb m0 m1 m2 m3 m4 m5 m6 => khv18 b o m0 (fr b o hb m0 m1 m2 m3 m4 m5 m6)
    replace hall : ∀ b o, h b = some o → ¬ hv18 b = none := fun b o hb z => by
      by_cases z0 : b = y
      · rw [z0, hY] at z; cases z
      · by_cases z1 : b = rc
        · rw [z1, hrc] at z; cases z
        · by_cases z2 : b = rs
          · rw [z2, hrs] at z; cases z
          · by_cases z3 : b = so
            · rw [z3, hso] at z; cases z
            · by_cases z4 : b = ot
              · rw [z4, hot] at z; cases z
              · by_cases z5 : b = cn
                · rw [z5, hcn] at z; cases z
                · by_cases z6 : b = la
                  · rw [z6, hla] at z; cases z
                  · rw [fr b o hb z0 z1 z2 z3 z4 z5 z6] at z; cases z
    refine lv_aload_n hx hb dX8_cell_78 rfl (lv_at hl 0 rfl) ?_
    refine q_get C hP hY rfl inX8 14 (by decide) g1181 rfl dX8_cell_79 ?_
    refine lv_aload_n hx hb dX8_cell_82 rfl (lv_at hl 0 rfl) ?_
    refine q_get C hP hY rfl inX8 20 (by decide) g1187 rfl dX8_cell_83 ?_
    refine lv_iload_n hx hb dX8_cell_86 rfl (lv_at hl 1 rfl) ?_
    refine q_iastN C hP hS fq17 (by omega) (by omega) dX8_cell_87 (fun H locs hP hS => ?_)
    obtain ⟨hv19, ehv19⟩ : ∃ z : qH, z = qs hv18 q17 (.inl (cy 0, (2 * KL), .inl (upd (qGr Rc 0 KL) nk k0))) := ⟨_, rfl⟩
    rw [← ehv19] at hP
    have khv19 : ∀ b o, b ≠ q17 → hv18 b = some o → hv19 b = some o := by rw [ehv19]; exact fun b o nb hb => (qs_ne nb).trans hb
    replace hY := khv19 _ _ n_q17_y hY
    replace hrc := khv19 _ _ n_q17_rc hrc
    replace hrs := khv19 _ _ n_q17_rs hrs
    replace hso := khv19 _ _ n_q17_so hso
    replace hot := khv19 _ _ n_q17_ot hot
    replace hcn := khv19 _ _ n_q17_cn hcn
    replace hla := khv19 _ _ n_q17_la hla
    replace fq28 := khv19 _ _ n_q28_q17.symm fq28
    replace fq39 := khv19 _ _ n_q39_q17.symm fq39
    replace fq50 := khv19 _ _ n_q50_q17.symm fq50
    replace fq61 := khv19 _ _ n_q61_q17.symm fq61
    replace fq72 := khv19 _ _ n_q72_q17.symm fq72
    replace fq17 : hv19 q17 = some (.inl (cy 0, (2 * KL), .inl (upd (qGr Rc 0 KL) nk k0))) := by rw [ehv19]; exact qs_self
    clear ehv19
    replace fr := fun b o hb m0 m1 m2 m3 m4 m5 m6 => khv19 b o (hN_q17 b o hb) (fr b o hb m0 m1 m2 m3 m4 m5 m6)
    replace hall : ∀ b o, h b = some o → ¬ hv19 b = none := fun b o hb z => by
      by_cases z0 : b = y
      · rw [z0, hY] at z; cases z
      · by_cases z1 : b = rc
        · rw [z1, hrc] at z; cases z
        · by_cases z2 : b = rs
          · rw [z2, hrs] at z; cases z
          · by_cases z3 : b = so
            · rw [z3, hso] at z; cases z
            · by_cases z4 : b = ot
              · rw [z4, hot] at z; cases z
              · by_cases z5 : b = cn
                · rw [z5, hcn] at z; cases z
                · by_cases z6 : b = la
                  · rw [z6, hla] at z; cases z
                  · rw [fr b o hb z0 z1 z2 z3 z4 z5 z6] at z; cases z
    refine lv_aload_n hx hb dX8_cell_88 rfl (lv_at hl 0 rfl) ?_
    refine q_get C hP hY rfl inX8 16 (by decide) g1183 rfl dX8_cell_89 ?_
    refine lv_aload_n hx hb dX8_cell_92 rfl (lv_at hl 0 rfl) ?_
    refine q_get C hP hY rfl inX8 20 (by decide) g1187 rfl dX8_cell_93 ?_
    refine lv_iload_n hx hb dX8_cell_96 rfl (lv_at hl 2 rfl) ?_
    refine q_iastN C hP hS fq39 (by omega) (by omega) dX8_cell_97 (fun H locs hP hS => ?_)
    obtain ⟨hv20, ehv20⟩ : ∃ z : qH, z = qs hv19 q39 (.inl (cy 0, (2 * KL), .inl (upd (qGr So 0 KL) nk s0))) := ⟨_, rfl⟩
    rw [← ehv20] at hP
    have khv20 : ∀ b o, b ≠ q39 → hv19 b = some o → hv20 b = some o := by rw [ehv20]; exact fun b o nb hb => (qs_ne nb).trans hb
    replace hY := khv20 _ _ n_q39_y hY
    replace hrc := khv20 _ _ n_q39_rc hrc
    replace hrs := khv20 _ _ n_q39_rs hrs
    replace hso := khv20 _ _ n_q39_so hso
    replace hot := khv20 _ _ n_q39_ot hot
    replace hcn := khv20 _ _ n_q39_cn hcn
    replace hla := khv20 _ _ n_q39_la hla
    replace fq17 := khv20 _ _ n_q39_q17 fq17
    replace fq28 := khv20 _ _ n_q39_q28 fq28
    replace fq50 := khv20 _ _ n_q50_q39.symm fq50
    replace fq61 := khv20 _ _ n_q61_q39.symm fq61
    replace fq72 := khv20 _ _ n_q72_q39.symm fq72
    replace fq39 : hv20 q39 = some (.inl (cy 0, (2 * KL), .inl (upd (qGr So 0 KL) nk s0))) := by rw [ehv20]; exact qs_self
    clear ehv20
    replace fr := fun b o hb m0 m1 m2 m3 m4 m5 m6 => khv20 b o (hN_q39 b o hb) (fr b o hb m0 m1 m2 m3 m4 m5 m6)
    replace hall : ∀ b o, h b = some o → ¬ hv20 b = none := fun b o hb z => by
      by_cases z0 : b = y
      · rw [z0, hY] at z; cases z
      · by_cases z1 : b = rc
        · rw [z1, hrc] at z; cases z
        · by_cases z2 : b = rs
          · rw [z2, hrs] at z; cases z
          · by_cases z3 : b = so
            · rw [z3, hso] at z; cases z
            · by_cases z4 : b = ot
              · rw [z4, hot] at z; cases z
              · by_cases z5 : b = cn
                · rw [z5, hcn] at z; cases z
                · by_cases z6 : b = la
                  · rw [z6, hla] at z; cases z
                  · rw [fr b o hb z0 z1 z2 z3 z4 z5 z6] at z; cases z
    refine lv_aload_n hx hb dX8_cell_98 rfl (lv_at hl 0 rfl) ?_
    refine q_get C hP hY rfl inX8 17 (by decide) g1184 rfl dX8_cell_99 ?_
    refine lv_aload_n hx hb dX8_cell_102 rfl (lv_at hl 0 rfl) ?_
    refine q_get C hP hY rfl inX8 20 (by decide) g1187 rfl dX8_cell_103 ?_
    refine lv_iload_n hx hb dX8_cell_106 rfl (lv_at hl 3 rfl) ?_
    refine q_iastN C hP hS fq50 (by omega) (by omega) dX8_cell_107 (fun H locs hP hS => ?_)
    obtain ⟨hv21, ehv21⟩ : ∃ z : qH, z = qs hv20 q50 (.inl (cy 0, (2 * KL), .inl (upd (qGr Ot 0 KL) nk t0))) := ⟨_, rfl⟩
    rw [← ehv21] at hP
    have khv21 : ∀ b o, b ≠ q50 → hv20 b = some o → hv21 b = some o := by rw [ehv21]; exact fun b o nb hb => (qs_ne nb).trans hb
    replace hY := khv21 _ _ n_q50_y hY
    replace hrc := khv21 _ _ n_q50_rc hrc
    replace hrs := khv21 _ _ n_q50_rs hrs
    replace hso := khv21 _ _ n_q50_so hso
    replace hot := khv21 _ _ n_q50_ot hot
    replace hcn := khv21 _ _ n_q50_cn hcn
    replace hla := khv21 _ _ n_q50_la hla
    replace fq17 := khv21 _ _ n_q50_q17 fq17
    replace fq28 := khv21 _ _ n_q50_q28 fq28
    replace fq39 := khv21 _ _ n_q50_q39 fq39
    replace fq61 := khv21 _ _ n_q61_q50.symm fq61
    replace fq72 := khv21 _ _ n_q72_q50.symm fq72
    replace fq50 : hv21 q50 = some (.inl (cy 0, (2 * KL), .inl (upd (qGr Ot 0 KL) nk t0))) := by rw [ehv21]; exact qs_self
    clear ehv21
    replace fr := fun b o hb m0 m1 m2 m3 m4 m5 m6 => khv21 b o (hN_q50 b o hb) (fr b o hb m0 m1 m2 m3 m4 m5 m6)
    replace hall : ∀ b o, h b = some o → ¬ hv21 b = none := fun b o hb z => by
      by_cases z0 : b = y
      · rw [z0, hY] at z; cases z
      · by_cases z1 : b = rc
        · rw [z1, hrc] at z; cases z
        · by_cases z2 : b = rs
          · rw [z2, hrs] at z; cases z
          · by_cases z3 : b = so
            · rw [z3, hso] at z; cases z
            · by_cases z4 : b = ot
              · rw [z4, hot] at z; cases z
              · by_cases z5 : b = cn
                · rw [z5, hcn] at z; cases z
                · by_cases z6 : b = la
                  · rw [z6, hla] at z; cases z
                  · rw [fr b o hb z0 z1 z2 z3 z4 z5 z6] at z; cases z
    refine lv_aload_n hx hb dX8_cell_108 rfl (lv_at hl 0 rfl) ?_
    refine q_get C hP hY rfl inX8 18 (by decide) g1185 rfl dX8_cell_109 ?_
    refine lv_aload_n hx hb dX8_cell_112 rfl (lv_at hl 0 rfl) ?_
    refine q_get C hP hY rfl inX8 20 (by decide) g1187 rfl dX8_cell_113 ?_
    refine lv_lload hx hb dX8_cell_116 (lv_at hl 4 rfl) ?_
    refine q_lastN C hP hS fq61 (by omega) (by omega) dX8_cell_118 (fun H locs hP hS => ?_)
    obtain ⟨hv22, ehv22⟩ : ∃ z : qH, z = qs hv21 q61 (.inl (cy 1, (2 * KL), .inr (.inl (vp_updL (qGr Cn 0 KL) nk c0)))) := ⟨_, rfl⟩
    rw [← ehv22] at hP
    have khv22 : ∀ b o, b ≠ q61 → hv21 b = some o → hv22 b = some o := by rw [ehv22]; exact fun b o nb hb => (qs_ne nb).trans hb
    replace hY := khv22 _ _ n_q61_y hY
    replace hrc := khv22 _ _ n_q61_rc hrc
    replace hrs := khv22 _ _ n_q61_rs hrs
    replace hso := khv22 _ _ n_q61_so hso
    replace hot := khv22 _ _ n_q61_ot hot
    replace hcn := khv22 _ _ n_q61_cn hcn
    replace hla := khv22 _ _ n_q61_la hla
    replace fq17 := khv22 _ _ n_q61_q17 fq17
    replace fq28 := khv22 _ _ n_q61_q28 fq28
    replace fq39 := khv22 _ _ n_q61_q39 fq39
    replace fq50 := khv22 _ _ n_q61_q50 fq50
    replace fq72 := khv22 _ _ n_q72_q61.symm fq72
    replace fq61 : hv22 q61 = some (.inl (cy 1, (2 * KL), .inr (.inl (vp_updL (qGr Cn 0 KL) nk c0)))) := by rw [ehv22]; exact qs_self
    clear ehv22
    replace fr := fun b o hb m0 m1 m2 m3 m4 m5 m6 => khv22 b o (hN_q61 b o hb) (fr b o hb m0 m1 m2 m3 m4 m5 m6)
    replace hall : ∀ b o, h b = some o → ¬ hv22 b = none := fun b o hb z => by
      by_cases z0 : b = y
      · rw [z0, hY] at z; cases z
      · by_cases z1 : b = rc
        · rw [z1, hrc] at z; cases z
        · by_cases z2 : b = rs
          · rw [z2, hrs] at z; cases z
          · by_cases z3 : b = so
            · rw [z3, hso] at z; cases z
            · by_cases z4 : b = ot
              · rw [z4, hot] at z; cases z
              · by_cases z5 : b = cn
                · rw [z5, hcn] at z; cases z
                · by_cases z6 : b = la
                  · rw [z6, hla] at z; cases z
                  · rw [fr b o hb z0 z1 z2 z3 z4 z5 z6] at z; cases z
    refine lv_aload_n hx hb dX8_cell_119 rfl (lv_at hl 0 rfl) ?_
    refine q_get C hP hY rfl inX8 19 (by decide) g1186 rfl dX8_cell_120 ?_
    refine lv_aload_n hx hb dX8_cell_123 rfl (lv_at hl 0 rfl) ?_
    refine q_get C hP hY rfl inX8 20 (by decide) g1187 rfl dX8_cell_124 ?_
    refine lv_lload hx hb dX8_cell_127 (lv_at hl 5 rfl) ?_
    refine q_lastN C hP hS fq72 (by omega) (by omega) dX8_cell_129 (fun H locs hP hS => ?_)
    obtain ⟨hv23, ehv23⟩ : ∃ z : qH, z = qs hv22 q72 (.inl (cy 1, (2 * KL), .inr (.inl (vp_updL (qGr La 0 KL) nk x0)))) := ⟨_, rfl⟩
    rw [← ehv23] at hP
    have khv23 : ∀ b o, b ≠ q72 → hv22 b = some o → hv23 b = some o := by rw [ehv23]; exact fun b o nb hb => (qs_ne nb).trans hb
    replace hY := khv23 _ _ n_q72_y hY
    replace hrc := khv23 _ _ n_q72_rc hrc
    replace hrs := khv23 _ _ n_q72_rs hrs
    replace hso := khv23 _ _ n_q72_so hso
    replace hot := khv23 _ _ n_q72_ot hot
    replace hcn := khv23 _ _ n_q72_cn hcn
    replace hla := khv23 _ _ n_q72_la hla
    replace fq17 := khv23 _ _ n_q72_q17 fq17
    replace fq28 := khv23 _ _ n_q72_q28 fq28
    replace fq39 := khv23 _ _ n_q72_q39 fq39
    replace fq50 := khv23 _ _ n_q72_q50 fq50
    replace fq61 := khv23 _ _ n_q72_q61 fq61
    replace fq72 : hv23 q72 = some (.inl (cy 1, (2 * KL), .inr (.inl (vp_updL (qGr La 0 KL) nk x0)))) := by rw [ehv23]; exact qs_self
    clear ehv23
    replace fr := fun b o hb m0 m1 m2 m3 m4 m5 m6 => khv23 b o (hN_q72 b o hb) (fr b o hb m0 m1 m2 m3 m4 m5 m6)
    replace hall : ∀ b o, h b = some o → ¬ hv23 b = none := fun b o hb z => by
      by_cases z0 : b = y
      · rw [z0, hY] at z; cases z
      · by_cases z1 : b = rc
        · rw [z1, hrc] at z; cases z
        · by_cases z2 : b = rs
          · rw [z2, hrs] at z; cases z
          · by_cases z3 : b = so
            · rw [z3, hso] at z; cases z
            · by_cases z4 : b = ot
              · rw [z4, hot] at z; cases z
              · by_cases z5 : b = cn
                · rw [z5, hcn] at z; cases z
                · by_cases z6 : b = la
                  · rw [z6, hla] at z; cases z
                  · rw [fr b o hb z0 z1 z2 z3 z4 z5 z6] at z; cases z
    refine lv_aload_n hx hb dX8_cell_130 rfl (lv_at hl 0 rfl) ?_
    refine lv_dup hx hb dX8_cell_131 rfl ?_
    refine q_get C hP hY rfl inX8 20 (by decide) g1187 rfl dX8_cell_132 ?_
    refine lv_iconst (v := nI 1) hx hb dX8_cell_135 (by decide) ?_
    refine q_iaddN hx hb dX8_cell_136 ?_
    refine q_put C hP hS hY rfl inX8 tyX8 tyX8_ok nmX8 20 (by decide) g1187 rfl rfl rfl (Nat.le_of_ble_eq_true rfl) dX8_cell_137 (fun H locs hP hS => ?_)
    replace hP : qP D N0 (qs hv23 y (.inr (8, [.ref ms, .ref mb, .ref mw, .int gr, .int cd, .int ca, .int mv, .ref od, .ref pt, .int ct, .int fau, .ref fi, .ref re, .int cs, .ref q17, .ref q28, .ref q39, .ref q50, .ref q61, .ref q72, .int (nI (nk + 1)), .ref ro, .int rn]))) H := hP
    obtain ⟨hv24, ehv24⟩ : ∃ z : qH, z = qs hv23 y (.inr (8, [.ref ms, .ref mb, .ref mw, .int gr, .int cd, .int ca, .int mv, .ref od, .ref pt, .int ct, .int fau, .ref fi, .ref re, .int cs, .ref q17, .ref q28, .ref q39, .ref q50, .ref q61, .ref q72, .int (nI (nk + 1)), .ref ro, .int rn])) := ⟨_, rfl⟩
    rw [← ehv24] at hP
    have khv24 : ∀ b o, b ≠ y → hv23 b = some o → hv24 b = some o := by rw [ehv24]; exact fun b o nb hb => (qs_ne nb).trans hb
    replace hrc := khv24 _ _ (fun q => by subst q; have := hrc.symm.trans hY; first | cases this | simp at this) hrc
    replace hrs := khv24 _ _ (fun q => by subst q; have := hrs.symm.trans hY; first | cases this | simp at this) hrs
    replace hso := khv24 _ _ (fun q => by subst q; have := hso.symm.trans hY; first | cases this | simp at this) hso
    replace hot := khv24 _ _ (fun q => by subst q; have := hot.symm.trans hY; first | cases this | simp at this) hot
    replace hcn := khv24 _ _ (fun q => by subst q; have := hcn.symm.trans hY; first | cases this | simp at this) hcn
    replace hla := khv24 _ _ (fun q => by subst q; have := hla.symm.trans hY; first | cases this | simp at this) hla
    replace fq17 := khv24 _ _ n_q17_y.symm fq17
    replace fq28 := khv24 _ _ n_q28_y.symm fq28
    replace fq39 := khv24 _ _ n_q39_y.symm fq39
    replace fq50 := khv24 _ _ n_q50_y.symm fq50
    replace fq61 := khv24 _ _ n_q61_y.symm fq61
    replace fq72 := khv24 _ _ n_q72_y.symm fq72
    replace hY : hv24 y = some (.inr (8, [.ref ms, .ref mb, .ref mw, .int gr, .int cd, .int ca, .int mv, .ref od, .ref pt, .int ct, .int fau, .ref fi, .ref re, .int cs, .ref q17, .ref q28, .ref q39, .ref q50, .ref q61, .ref q72, .int (nI (nk + 1)), .ref ro, .int rn])) := by rw [ehv24]; exact qs_self
    clear ehv24
    replace fr := fun b o hb m0 m1 m2 m3 m4 m5 m6 => khv24 b o m0 (fr b o hb m0 m1 m2 m3 m4 m5 m6)
    replace hall : ∀ b o, h b = some o → ¬ hv24 b = none := fun b o hb z => by
      by_cases z0 : b = y
      · rw [z0, hY] at z; cases z
      · by_cases z1 : b = rc
        · rw [z1, hrc] at z; cases z
        · by_cases z2 : b = rs
          · rw [z2, hrs] at z; cases z
          · by_cases z3 : b = so
            · rw [z3, hso] at z; cases z
            · by_cases z4 : b = ot
              · rw [z4, hot] at z; cases z
              · by_cases z5 : b = cn
                · rw [z5, hcn] at z; cases z
                · by_cases z6 : b = la
                  · rw [z6, hla] at z; cases z
                  · rw [fr b o hb z0 z1 z2 z3 z4 z5 z6] at z; cases z
    refine lv_aload_n hx hb dX8_cell_140 rfl (lv_at hl 0 rfl) ?_
    refine q_get C hP hY rfl inX8 20 (by decide) g1187 rfl dX8_cell_141 ?_
    refine lv_iconst (v := nI 1) hx hb dX8_cell_144 (by decide) ?_
    refine q_isubN hx hb dX8_cell_145 (by omega) ?_
    exact q_iret C hP hS ⟨rfl, q17, q28, q39, q50, q61, q72, 2 * KL, by rw [if_pos c9], _, _, _, _, _, _, hY, ⟨fq17, fq28, fq39, fq50, fq61, fq72⟩, ⟨⟨fun j hj => by unfold upd; rw [if_neg (by omega)]; exact if_pos (by omega), if_pos rfl⟩, ⟨fun j hj => if_pos (by omega), fun j h1 h2 => if_neg (by omega)⟩, ⟨fun j hj => by unfold upd; rw [if_neg (by omega)]; exact if_pos (by omega), if_pos rfl⟩, ⟨fun j hj => by unfold upd; rw [if_neg (by omega)]; exact if_pos (by omega), if_pos rfl⟩, ⟨fun j hj => by unfold vp_updL; rw [if_neg (by omega)]; exact if_pos (by omega), if_pos rfl⟩, ⟨fun j hj => by unfold vp_updL; rw [if_neg (by omega)]; exact if_pos (by omega), if_pos rfl⟩⟩, ⟨Or.inr (fun o z => hN_q17 _ o z rfl), Or.inr (fun o z => hN_q28 _ o z rfl), Or.inr (fun o z => hN_q39 _ o z rfl), Or.inr (fun o z => hN_q50 _ o z rfl), Or.inr (fun o z => hN_q61 _ o z rfl), Or.inr (fun o z => hN_q72 _ o z rfl)⟩, ⟨n_q28_q17, n_q39_q17, n_q50_q17, n_q39_q28, n_q50_q28, n_q50_q39, n_q72_q61⟩, fr⟩ (by omega) dX8_cell_146
