theorem zmv {m : Int32} {M : Nat} (e : m = nI M) (hM : M ≤ 20000) : nI 1 ≤ 20000 - m ↔ m < 20000 := by
  subst e
  have e2 : (20000 : Int32) - nI M = nI (20000 - M) := q_nsub hM
  rw [e2]
  have h1 := nI_leI (a := 1) (b := 20000 - M) (by omega) (by omega)
  have h2 := nI_ltI (a := M) (b := 20000) (by omega) (by omega)
  rw [h1, show (20000 : Int32) = nI 20000 from rfl, h2]
  omega
theorem xTak_n {a : qWd} {k : qKd} {o : qYf} {s n : Nat} (hs : ¬ s = 0) : (((if s = 0 ∨ n = 0 then (0, a, k) else if n = 1 then (a.1, xCons a (a.2.2.1 s) k.1, xRdy k 0) else (a.1, xCons a (a.2.2.1 s) k.1, xCell k 5 (a.2.2.2 s) (n - 1) 0 0) : Nat × qWd × qKd).1, o, (if s = 0 ∨ n = 0 then (0, a, k) else if n = 1 then (a.1, xCons a (a.2.2.1 s) k.1, xRdy k 0) else (a.1, xCons a (a.2.2.1 s) k.1, xCell k 5 (a.2.2.2 s) (n - 1) 0 0) : Nat × qWd × qKd).2) : Nat × qWo).2.2.1.1 = if n = 0 then a.1 else a.1 + 1 := by
  by_cases z : n = 0
  · rw [if_pos (Or.inr z), if_pos z]
  · rw [if_neg (fun y => y.elim hs z), if_neg z]; split <;> rfl
theorem dX6_restOf_0 : decode cX6_restOf 0 = .ok (.aload_n 1, 1) := by decide +kernel
theorem dX6_restOf_1 : decode cX6_restOf 1 = .ok (.getfield 487, 3) := by decide +kernel
theorem dX6_restOf_4 : decode cX6_restOf 4 = .ok (.ifCond .eq 8, 3) := by decide +kernel
theorem dX6_restOf_7 : decode cX6_restOf 7 = .ok (.aload_n 1, 1) := by decide +kernel
theorem dX6_restOf_8 : decode cX6_restOf 8 = .ok (.getfield 490, 3) := by decide +kernel
theorem dX6_restOf_11 : decode cX6_restOf 11 = .ok (.areturn, 1) := by decide +kernel
theorem dX6_restOf_12 : decode cX6_restOf 12 = .ok (.aload_n 0, 1) := by decide +kernel
theorem dX6_restOf_13 : decode cX6_restOf 13 = .ok (.iconst 1, 1) := by decide +kernel
theorem dX6_restOf_14 : decode cX6_restOf 14 = .ok (.invokevirtual 218, 3) := by decide +kernel
theorem dX6_restOf_17 : decode cX6_restOf 17 = .ok (.aload_n 1, 1) := by decide +kernel
theorem dX6_restOf_18 : decode cX6_restOf 18 = .ok (.getfield 493, 3) := by decide +kernel
theorem dX6_restOf_21 : decode cX6_restOf 21 = .ok (.ifnonnull 7, 3) := by decide +kernel
theorem dX6_restOf_24 : decode cX6_restOf 24 = .ok (.aconst_null, 1) := by decide +kernel
theorem dX6_restOf_25 : decode cX6_restOf 25 = .ok (.goto 11, 3) := by decide +kernel
theorem dX6_restOf_28 : decode cX6_restOf 28 = .ok (.aload_n 0, 1) := by decide +kernel
theorem dX6_restOf_29 : decode cX6_restOf 29 = .ok (.aload_n 1, 1) := by decide +kernel
theorem dX6_restOf_30 : decode cX6_restOf 30 = .ok (.getfield 493, 3) := by decide +kernel
theorem dX6_restOf_33 : decode cX6_restOf 33 = .ok (.invokevirtual 179, 3) := by decide +kernel
theorem dX6_restOf_36 : decode cX6_restOf 36 = .ok (.astore_n 2, 1) := by decide +kernel
theorem dX6_restOf_37 : decode cX6_restOf 37 = .ok (.aload_n 1, 1) := by decide +kernel
theorem dX6_restOf_38 : decode cX6_restOf 38 = .ok (.getfield 496, 3) := by decide +kernel
theorem dX6_restOf_41 : decode cX6_restOf 41 = .ok (.tableswitch 146 1 5 #[35, 69, 89, 109, 129], 35) := by decide +kernel
theorem dX6_restOf_76 : decode cX6_restOf 76 = .ok (.aload_n 1, 1) := by decide +kernel
theorem dX6_restOf_77 : decode cX6_restOf 77 = .ok (.aload_n 0, 1) := by decide +kernel
theorem dX6_restOf_78 : decode cX6_restOf 78 = .ok (.aload_n 1, 1) := by decide +kernel
theorem dX6_restOf_79 : decode cX6_restOf 79 = .ok (.getfield 499, 3) := by decide +kernel
theorem dX6_restOf_82 : decode cX6_restOf 82 = .ok (.aload_n 1, 1) := by decide +kernel
theorem dX6_restOf_83 : decode cX6_restOf 83 = .ok (.getfield 159, 3) := by decide +kernel
theorem dX6_restOf_86 : decode cX6_restOf 86 = .ok (.aload_n 1, 1) := by decide +kernel
theorem dX6_restOf_87 : decode cX6_restOf 87 = .ok (.getfield 502, 3) := by decide +kernel
theorem dX6_restOf_90 : decode cX6_restOf 90 = .ok (.invokevirtual 505, 3) := by decide +kernel
theorem dX6_restOf_93 : decode cX6_restOf 93 = .ok (.aload_n 1, 1) := by decide +kernel
theorem dX6_restOf_94 : decode cX6_restOf 94 = .ok (.getfield 499, 3) := by decide +kernel
theorem dX6_restOf_97 : decode cX6_restOf 97 = .ok (.aload_n 1, 1) := by decide +kernel
theorem dX6_restOf_98 : decode cX6_restOf 98 = .ok (.getfield 502, 3) := by decide +kernel
theorem dX6_restOf_101 : decode cX6_restOf 101 = .ok (.invokestatic 299, 3) := by decide +kernel
theorem dX6_restOf_104 : decode cX6_restOf 104 = .ok (.invokevirtual 508, 3) := by decide +kernel
theorem dX6_restOf_107 : decode cX6_restOf 107 = .ok (.goto 92, 3) := by decide +kernel
theorem dX6_restOf_110 : decode cX6_restOf 110 = .ok (.aload_n 1, 1) := by decide +kernel
theorem dX6_restOf_111 : decode cX6_restOf 111 = .ok (.aload_n 1, 1) := by decide +kernel
theorem dX6_restOf_112 : decode cX6_restOf 112 = .ok (.getfield 512, 3) := by decide +kernel
theorem dX6_restOf_115 : decode cX6_restOf 115 = .ok (.aload_n 1, 1) := by decide +kernel
theorem dX6_restOf_116 : decode cX6_restOf 116 = .ok (.getfield 514, 3) := by decide +kernel
theorem dX6_restOf_119 : decode cX6_restOf 119 = .ok (.iconst 1, 1) := by decide +kernel
theorem dX6_restOf_120 : decode cX6_restOf 120 = .ok (.iadd, 1) := by decide +kernel
theorem dX6_restOf_121 : decode cX6_restOf 121 = .ok (.invokestatic 309, 3) := by decide +kernel
theorem dX6_restOf_124 : decode cX6_restOf 124 = .ok (.invokevirtual 508, 3) := by decide +kernel
theorem dX6_restOf_127 : decode cX6_restOf 127 = .ok (.goto 72, 3) := by decide +kernel
theorem dX6_restOf_130 : decode cX6_restOf 130 = .ok (.aload_n 1, 1) := by decide +kernel
theorem dX6_restOf_131 : decode cX6_restOf 131 = .ok (.aload_n 0, 1) := by decide +kernel
theorem dX6_restOf_132 : decode cX6_restOf 132 = .ok (.aload_n 2, 1) := by decide +kernel
theorem dX6_restOf_133 : decode cX6_restOf 133 = .ok (.aload_n 1, 1) := by decide +kernel
theorem dX6_restOf_134 : decode cX6_restOf 134 = .ok (.getfield 499, 3) := by decide +kernel
theorem dX6_restOf_137 : decode cX6_restOf 137 = .ok (.aload_n 1, 1) := by decide +kernel
theorem dX6_restOf_138 : decode cX6_restOf 138 = .ok (.getfield 502, 3) := by decide +kernel
theorem dX6_restOf_141 : decode cX6_restOf 141 = .ok (.invokevirtual 269, 3) := by decide +kernel
theorem dX6_restOf_144 : decode cX6_restOf 144 = .ok (.invokevirtual 508, 3) := by decide +kernel
theorem dX6_restOf_147 : decode cX6_restOf 147 = .ok (.goto 52, 3) := by decide +kernel
theorem dX6_restOf_150 : decode cX6_restOf 150 = .ok (.aload_n 1, 1) := by decide +kernel
theorem dX6_restOf_151 : decode cX6_restOf 151 = .ok (.aload_n 0, 1) := by decide +kernel
theorem dX6_restOf_152 : decode cX6_restOf 152 = .ok (.aload_n 2, 1) := by decide +kernel
theorem dX6_restOf_153 : decode cX6_restOf 153 = .ok (.aload_n 1, 1) := by decide +kernel
theorem dX6_restOf_154 : decode cX6_restOf 154 = .ok (.getfield 499, 3) := by decide +kernel
theorem dX6_restOf_157 : decode cX6_restOf 157 = .ok (.aload_n 1, 1) := by decide +kernel
theorem dX6_restOf_158 : decode cX6_restOf 158 = .ok (.getfield 502, 3) := by decide +kernel
theorem dX6_restOf_161 : decode cX6_restOf 161 = .ok (.invokevirtual 289, 3) := by decide +kernel
theorem dX6_restOf_164 : decode cX6_restOf 164 = .ok (.invokevirtual 508, 3) := by decide +kernel
theorem dX6_restOf_167 : decode cX6_restOf 167 = .ok (.goto 32, 3) := by decide +kernel
theorem dX6_restOf_170 : decode cX6_restOf 170 = .ok (.aload_n 1, 1) := by decide +kernel
theorem dX6_restOf_171 : decode cX6_restOf 171 = .ok (.aload_n 2, 1) := by decide +kernel
theorem dX6_restOf_172 : decode cX6_restOf 172 = .ok (.aload_n 1, 1) := by decide +kernel
theorem dX6_restOf_173 : decode cX6_restOf 173 = .ok (.getfield 514, 3) := by decide +kernel
theorem dX6_restOf_176 : decode cX6_restOf 176 = .ok (.iconst 1, 1) := by decide +kernel
theorem dX6_restOf_177 : decode cX6_restOf 177 = .ok (.isub, 1) := by decide +kernel
theorem dX6_restOf_178 : decode cX6_restOf 178 = .ok (.invokestatic 303, 3) := by decide +kernel
theorem dX6_restOf_181 : decode cX6_restOf 181 = .ok (.invokevirtual 508, 3) := by decide +kernel
theorem dX6_restOf_184 : decode cX6_restOf 184 = .ok (.goto 15, 3) := by decide +kernel
theorem dX6_restOf_187 : decode cX6_restOf 187 = .ok (.aload_n 1, 1) := by decide +kernel
theorem dX6_restOf_188 : decode cX6_restOf 188 = .ok (.aload_n 2, 1) := by decide +kernel
theorem dX6_restOf_189 : decode cX6_restOf 189 = .ok (.aload_n 1, 1) := by decide +kernel
theorem dX6_restOf_190 : decode cX6_restOf 190 = .ok (.getfield 517, 3) := by decide +kernel
theorem dX6_restOf_193 : decode cX6_restOf 193 = .ok (.invokestatic 520, 3) := by decide +kernel
theorem dX6_restOf_196 : decode cX6_restOf 196 = .ok (.invokevirtual 508, 3) := by decide +kernel
theorem dX6_restOf_199 : decode cX6_restOf 199 = .ok (.aload_n 1, 1) := by decide +kernel
theorem dX6_restOf_200 : decode cX6_restOf 200 = .ok (.getfield 490, 3) := by decide +kernel
theorem dX6_restOf_203 : decode cX6_restOf 203 = .ok (.areturn, 1) := by decide +kernel
set_option maxRecDepth 100000 in
set_option maxHeartbeats 4000000 in
theorem z_restOf (l : Launch) (D : va_G) (cy : Nat → ClassId) (N0 : Nat) (h : qH) (x : Nat) (mk : Int32) (sl bl kr vr : Nat) (ed : Int32) (g : Nat → Nat) (R : Nat → List Int64) (o : qYf) (a : qWd) (k : qKd) (Bd sk Rn : Nat) (dp : Nat → Nat) (d cc : Nat) (X : Nat × qWo) (hz : zW h x mk sl bl kr vr ed g R (o, a, k)) (hV : qWv Bd sk Rn dp (o, a, k)) (hfa : oFq o = 0) (hF : zCS l D cy N0 x mk sl bl kr vr ed Bd Rn R (xForce R d) d) (hRl : ∀ q, q < Rn → (R q).length ≤ 1000) (hc1 : 1 ≤ cc) (hcc : cc < a.1) (hdc : dp cc < d + 1) (hX : xForce R (d + 1) (o, a, k) cc = X) : qC l D cy N0 yX6_restOf cX6_restOf 3 (some (.object RX5)) (4 * (d + 1) + 12) (200 * (d + 1) + 300) (X.2.2.1.1 - a.1 + (if oFq X.2.1 = 0 then 0 else 1)) (10 * (X.2.2.1.1 - a.1) + (if oFq X.2.1 = 0 then 0 else 6)) [.ref x, .ref (g cc)] h (fun v h' => zP h x mk sl bl kr vr ed g R a.1 X v h') (fun E h' => zE h x mk sl bl kr vr ed g R a.1 X E h') := by
  refine q_ofW (by decide) (by exact Nat.le_of_ble_eq_true rfl) ?_
  intro p e s m below meth c ls C hP hl
  have hx := C.1
  have hb := C.2.1
  have hS : va_S (qA N0) s.heap s.heap [] := va_S.rf
  have hl : lv_has ls 3 [(0, .ref x), (1, .ref (g cc))] := hl
  have hp9 : 1 ≤ a.1 ∧ a.1 ≤ a.2.1 := hV.p
  have hcn : a.1 = k.1 := hV.n
  obtain ⟨i1, i2, i3, i4, i5, i6, i7, i8, i9⟩ := hV.k cc hcc
  dsimp only at i1 i2 i3 i4 i5 i6 i7 i8 i9
  obtain ⟨M, hM, hM2, hM3⟩ := id hV.m
  have hzm := zmv hM hM2
  obtain ⟨way, cod, cc0, num, src, beh, row, dn, rst, fga, zr⟩ := hz.2.1 cc hc1 hcc
  obtain ⟨ga, ega⟩ : ∃ z, g cc = z := ⟨_, rfl⟩
  rw [ega] at fga
  dsimp only at fga zr hM
  replace hl : lv_has ls 3 [(0, .ref x), (1, .ref ga)] := by rw [ega] at hl; exact hl
  have hxx := hz.1
  rcases zr with ⟨z1, rfl, rfl⟩ | ⟨rfl, zr⟩
  · have eX : X = ((k.2.2.2.1 cc), o, a, k) := by rw [← hX, xForce, if_pos z1]
    refine lv_aload_n hx hb dX6_restOf_0 rfl (lv_at hl 1 rfl) ?_
    refine q_getN C hP fga rfl inX5 8 (by decide) (by decide +kernel) rfl dX6_restOf_1 ?_
    refine lv_if_eq (tgt := 12) hx hb dX6_restOf_4 (by decide) (fun c => absurd c (by decide)) (fun _ => ?_)
    refine lv_aload_n hx hb dX6_restOf_7 rfl (lv_at hl 1 rfl) ?_
    refine q_getN C hP fga rfl inX5 9 (by decide) (by decide +kernel) rfl dX6_restOf_8 ?_
    exact q_aret (v := zO g (k.2.2.2.1 cc)) C (Or.inl ⟨_, rfl⟩) hP hS ⟨by rw [eX]; exact hfa, g, fun _ _ => rfl, by rw [eX], by rw [eX]; exact hz, zH.rf⟩ (by omega) dX6_restOf_11
  · have hr0 : ¬ (k.2.2.1 cc) = 0 := by rcases zr with z | z | z | z | z | z <;> omega
    by_cases cm : oMq o < 20000
    · have e6 : (if ¬ nI 1 ≤ 20000 - oMq o then 1 else 0) = 0 ∧ (if ¬ nI 1 ≤ 20000 - oMq o then 6 else 0) = 0 := ⟨if_neg (fun z => z (hzm.mpr cm)), if_neg (fun z => z (hzm.mpr cm))⟩
      have hG := xForce_stp (Bd := Bd) hRl d
      have hV1 : qWv Bd (sk + 1) Rn dp ((oMv o (oMq o + nI 1)), a, k) := hV.move cm
      have st9 := xWork_stp hG hRl hV1 hfa hcc (by omega) hr0
      obtain ⟨W9, er9⟩ : ∃ z, xWork R (xForce R d) ((oMv o (oMq o + nI 1)), a, k) cc = z := ⟨_, rfl⟩
      rw [er9] at st9
      have hX2 : X = if ¬ oFq W9.2.1 = 0 then (0, W9.2) else (W9.1, W9.2.1, W9.2.2.1, xSetC W9.2.2.2 cc W9.1) := by rw [← hX, xForce, if_neg hr0, if_neg (fun z => z cm)]; dsimp only; rw [er9]
      have hm9 : a.1 ≤ W9.2.2.1.1 ∧ W9.2.2.1.1 = X.2.2.1.1 := ⟨by obtain ⟨_, _, _, z, _⟩ := st9; exact z, by rw [hX2]; split <;> rfl⟩
      have hi9 : (if oFq W9.2.1 = 0 then 0 else 1) = (if oFq X.2.1 = 0 then 0 else 1) ∧ (if oFq W9.2.1 = 0 then 0 else 6) = (if oFq X.2.1 = 0 then 0 else 6) := by rw [hX2]; split <;> exact ⟨rfl, rfl⟩
      have hfst : ∀ s, s < a.1 → W9.2.2.1.2.2.1 s = a.2.2.1 s := by obtain ⟨_, _, _, _, _, _, _, z⟩ := st9; exact z
      obtain ⟨dp9, hd9, hw9, -⟩ := st9
      refine lv_aload_n hx hb dX6_restOf_0 rfl (lv_at hl 1 rfl) ?_
      refine q_getN C hP fga rfl inX5 8 (by decide) (by decide +kernel) rfl dX6_restOf_1 ?_
      refine lv_if_eq (tgt := 12) hx hb dX6_restOf_4 (by decide) (fun _ => ?_) (fun c => absurd rfl c)
      refine lv_aload_n hx hb dX6_restOf_12 rfl (lv_at hl 0 rfl) ?_
      refine lv_iconst (v := nI 1) hx hb dX6_restOf_13 (by decide) ?_
      refine q_callV (rest := []) C (d_X6_takeMoves l D cy N0 h x sl bl kr vr mk (oCq o) (oMq o) ed (nI 1) hxx) kX6_takeMoves g641 g643 rfl gp15 g1 hP hS hxx (by first | decide | omega) hl.1 rfl (by decide) (by first | decide | omega) dX6_restOf_14 (fun q ce E h' H1 locs1 hE hP hS hc1 hc2 hc3 => absurd (hzm.mpr cm) hE.2.2) (fun v hh1 H locs hq hP hS => ?_)
      obtain ⟨rfl, rfl, -⟩ := hq
      replace hP : qP D N0 (qs h x (.inr (6, [.int mk, .ref sl, .ref bl, .ref kr, .ref vr, .int (oCq (oMv o (oMq o + nI 1))), .int (oMq (oMv o (oMq o + nI 1))), .int ed]))) H := hP
      have hz1 := hz.setx (o' := (oMv o (oMq o + nI 1))) hV
      have hH1 : zH h (qs h x (.inr (6, [.int mk, .ref sl, .ref bl, .ref kr, .ref vr, .int (oCq (oMv o (oMq o + nI 1))), .int (oMq (oMv o (oMq o + nI 1))), .int ed]))) x := zH.setx hz.1
      have fgb := (qs_ne (h := h) (a := x) (o := (.inr (6, [.int mk, .ref sl, .ref bl, .ref kr, .ref vr, .int (oCq (oMv o (oMq o + nI 1))), .int (oMq (oMv o (oMq o + nI 1))), .int ed]))) (fun z => by rw [z, hxx] at fga; simp at fga)).trans fga
      have hxy := hz1.1
      rcases zr with ⟨y1, y2, y3, y4, y5, rfl⟩ | ⟨y1, y2, rfl, y4, y5, m8, y6⟩ | ⟨y1, y2, y3, y4, rfl, y6⟩ | ⟨y1, y2, y3, y4, rfl, y6⟩ | ⟨y1, y2, y3, rfl, y6⟩ | ⟨y1, y2, rfl, y4, y6⟩
      · replace y2 : way = nI 1 := y2
        subst y2
        subst y3 y4
        refine lv_aload_n hx hb dX6_restOf_17 rfl (lv_at hl 1 rfl) ?_
        refine q_getN C hP fgb rfl inX5 5 (by decide) (by decide +kernel) rfl dX6_restOf_18 ?_
        refine lv_ifnonnullN hx hb dX6_restOf_21 ?_
        refine lv_null hx hb dX6_restOf_24 ?_
        refine lv_goto (tgt := 36) hx hb dX6_restOf_25 (by decide) ?_
        refine lv_astore_nN (lv' := [(2, .null), (0, .ref x), (1, .ref ga)]) hx hb dX6_restOf_36 rfl hl (by decide) rfl (fun ls hl => ?_)
        refine lv_aload_n hx hb dX6_restOf_37 rfl (lv_at hl 2 rfl) ?_
        refine q_get C hP fgb rfl inX5 1 (by decide) g538 rfl dX6_restOf_38 ?_
        refine lv_tableIn (tgt := 76) (off := 35) hx hb dX6_restOf_41 (by decide +kernel) (by decide +kernel) (by decide +kernel) (by decide) ?_
        refine lv_aload_n hx hb dX6_restOf_76 rfl (lv_at hl 2 rfl) ?_
        refine lv_aload_n hx hb dX6_restOf_77 rfl (lv_at hl 1 rfl) ?_
        refine lv_aload_n hx hb dX6_restOf_78 rfl (lv_at hl 2 rfl) ?_
        refine q_getN C hP fgb rfl inX5 2 (by decide) (by decide +kernel) rfl dX6_restOf_79 ?_
        refine lv_aload_n hx hb dX6_restOf_82 rfl (lv_at hl 2 rfl) ?_
        refine q_get C hP fgb rfl inX5 0 (by decide) g536 rfl dX6_restOf_83 ?_
        refine lv_aload_n hx hb dX6_restOf_86 rfl (lv_at hl 2 rfl) ?_
        refine q_getN C hP fgb rfl inX5 3 (by decide) (by decide +kernel) rfl dX6_restOf_87 ?_
        have eW : W9 = if xFn (k.2.2.2.2.2.1 cc) (k.2.2.2.2.2.2.1 cc) (a.2.2.1 cc) = none then (0, oFa (oCa (oMv o (oMq o + nI 1)) (oCq (oMv o (oMq o + nI 1)) + nI 1)) 1, a, k) else (a.1, (oCa (oMv o (oMq o + nI 1)) (oCq (oMv o (oMq o + nI 1)) + nI 1)), xCons a ((xFn (k.2.2.2.2.2.1 cc) (k.2.2.2.2.2.2.1 cc) (a.2.2.1 cc)).getD 0) k.1, xCell k 1 0 (k.2.2.2.2.2.1 cc) (k.2.2.2.2.2.2.1 cc) ((xFn (k.2.2.2.2.2.1 cc) (k.2.2.2.2.2.2.1 cc) (a.2.2.1 cc)).getD 0)) := by rw [← er9, y5]; unfold xWork; rw [if_pos y1]; rfl
        by_cases hn : xFn (k.2.2.2.2.2.1 cc) (k.2.2.2.2.2.2.1 cc) (a.2.2.1 cc) = none
        · have e6b : (if xFn (k.2.2.2.2.2.1 cc) (k.2.2.2.2.2.2.1 cc) (a.2.2.1 cc) = none then 1 else 0) = 1 ∧ (if xFn (k.2.2.2.2.2.1 cc) (k.2.2.2.2.2.2.1 cc) (a.2.2.1 cc) = none then 6 else 0) = 6 := ⟨if_pos hn, if_pos hn⟩
          rw [if_pos hn] at eW
          have eX : X = (0, oFa (oCa (oMv o (oMq o + nI 1)) (oCq (oMv o (oMq o + nI 1)) + nI 1)) 1, a, k) := by rw [hX2, eW, if_pos (show ¬ oFq _ = 0 from (by decide : ¬ (1 : Int32) = 0))]
          have eI : (if oFq X.2.1 = 0 then 0 else 1) = 1 ∧ (if oFq X.2.1 = 0 then 0 else 6) = 6 := by rw [eX]; exact ⟨if_neg (by decide : ¬ (1 : Int32) = 0), if_neg (by decide : ¬ (1 : Int32) = 0)⟩
          refine q_callV (rest := [.ref ga]) C (d_X6_called l D cy N0 (qs h x (.inr (6, [.int mk, .ref sl, .ref bl, .ref kr, .ref vr, .int (oCq (oMv o (oMq o + nI 1))), .int (oMq (oMv o (oMq o + nI 1))), .int ed]))) x sl bl kr vr mk (oCq (oMv o (oMq o + nI 1))) (oMq (oMv o (oMq o + nI 1))) ed (k.2.2.2.2.2.1 cc) (a.2.2.1 cc) (k.2.2.2.2.2.2.1 cc) hxy (i3 y1)) kX6_called g646 g648 rfl gp16 g1 hP hS hxy (by first | decide | omega) hl.1 rfl (by simp [q_catrf, q_cati, q_catl, q_cata, q_catn]) (by first | decide | omega) dX6_restOf_90 (fun q ce E h' H1 locs1 hE hP hS hc1 hc2 hc3 => by obtain ⟨rfl, hn9, rfl⟩ := hE; exact q_out C hP hS hc1 hc2 hc3 (⟨Or.inl ⟨rfl, by rw [eX]; rfl⟩, g, fun _ _ => rfl, by rw [eX]; exact hz1.setx (o' := oFa (oCa (oMv o (oMq o + nI 1)) (oCq (oMv o (oMq o + nI 1)) + nI 1)) 1) hV1, hH1.tr (zH.setx hz1.1)⟩) (by omega)) (fun v hh2 H locs hq hP hS => ?_)
          obtain ⟨r9, eb9, -, -⟩ := hq
          rw [hn] at eb9
          cases eb9
        · have e6b : (if xFn (k.2.2.2.2.2.1 cc) (k.2.2.2.2.2.2.1 cc) (a.2.2.1 cc) = none then 1 else 0) = 0 ∧ (if xFn (k.2.2.2.2.2.1 cc) (k.2.2.2.2.2.2.1 cc) (a.2.2.1 cc) = none then 6 else 0) = 0 := ⟨if_neg hn, if_neg hn⟩
          rw [if_neg hn] at eW
          have eA : W9.2.2.1.1 = a.1 + 1 := by rw [eW]; rfl
          refine q_callV (rest := [.ref ga]) C (d_X6_called l D cy N0 (qs h x (.inr (6, [.int mk, .ref sl, .ref bl, .ref kr, .ref vr, .int (oCq (oMv o (oMq o + nI 1))), .int (oMq (oMv o (oMq o + nI 1))), .int ed]))) x sl bl kr vr mk (oCq (oMv o (oMq o + nI 1))) (oMq (oMv o (oMq o + nI 1))) ed (k.2.2.2.2.2.1 cc) (a.2.2.1 cc) (k.2.2.2.2.2.2.1 cc) hxy (i3 y1)) kX6_called g646 g648 rfl gp16 g1 hP hS hxy (by first | decide | omega) hl.1 rfl (by simp [q_catrf, q_cati, q_catl, q_cata, q_catn]) (by first | decide | omega) dX6_restOf_90 (fun q ce E h' H1 locs1 hE hP hS hc1 hc2 hc3 => absurd hE.2.1 hn) (fun v hh3 H locs hq hP hS => ?_)
          obtain ⟨r9, eb9, rfl, rfl⟩ := hq
          rw [eb9] at eW
          replace eW : W9 = (a.1, (oCa (oMv o (oMq o + nI 1)) (oCq (oMv o (oMq o + nI 1)) + nI 1)), xCons a r9 k.1, xCell k 1 0 (k.2.2.2.2.2.1 cc) (k.2.2.2.2.2.2.1 cc) r9) := eW
          replace hP : qP D N0 (qs (qs h x (.inr (6, [.int mk, .ref sl, .ref bl, .ref kr, .ref vr, .int (oCq (oMv o (oMq o + nI 1))), .int (oMq (oMv o (oMq o + nI 1))), .int ed]))) x (.inr (6, [.int mk, .ref sl, .ref bl, .ref kr, .ref vr, .int (oCq (oCa (oMv o (oMq o + nI 1)) (oCq (oMv o (oMq o + nI 1)) + nI 1))), .int (oMq (oCa (oMv o (oMq o + nI 1)) (oCq (oMv o (oMq o + nI 1)) + nI 1))), .int ed]))) H := hP
          have hz2 := hz1.setx (o' := (oCa (oMv o (oMq o + nI 1)) (oCq (oMv o (oMq o + nI 1)) + nI 1))) hV1
          have hV2 : qWv Bd (sk + 1) Rn dp ((oCa (oMv o (oMq o + nI 1)) (oCq (oMv o (oMq o + nI 1)) + nI 1)), a, k) := hV1.obj rfl
          have hHc : zH h (qs (qs h x (.inr (6, [.int mk, .ref sl, .ref bl, .ref kr, .ref vr, .int (oCq (oMv o (oMq o + nI 1))), .int (oMq (oMv o (oMq o + nI 1))), .int ed]))) x (.inr (6, [.int mk, .ref sl, .ref bl, .ref kr, .ref vr, .int (oCq (oCa (oMv o (oMq o + nI 1)) (oCq (oMv o (oMq o + nI 1)) + nI 1))), .int (oMq (oCa (oMv o (oMq o + nI 1)) (oCq (oMv o (oMq o + nI 1)) + nI 1))), .int ed]))) x := hH1.tr (zH.setx hz1.1)
          have fgc := (qs_ne (h := qs h x (.inr (6, [.int mk, .ref sl, .ref bl, .ref kr, .ref vr, .int (oCq (oMv o (oMq o + nI 1))), .int (oMq (oMv o (oMq o + nI 1))), .int ed]))) (a := x) (o := (.inr (6, [.int mk, .ref sl, .ref bl, .ref kr, .ref vr, .int (oCq (oCa (oMv o (oMq o + nI 1)) (oCq (oMv o (oMq o + nI 1)) + nI 1))), .int (oMq (oCa (oMv o (oMq o + nI 1)) (oCq (oMv o (oMq o + nI 1)) + nI 1))), .int ed]))) (fun z => by rw [z, hxy] at fgb; simp at fgb)).trans fgb
          refine lv_aload_n hx hb dX6_restOf_93 rfl (lv_at hl 2 rfl) ?_
          refine q_getN C hP fgc rfl inX5 2 (by decide) (by decide +kernel) rfl dX6_restOf_94 ?_
          refine lv_aload_n hx hb dX6_restOf_97 rfl (lv_at hl 2 rfl) ?_
          refine q_getN C hP fgc rfl inX5 3 (by decide) (by decide +kernel) rfl dX6_restOf_98 ?_
          refine q_callS (rest := [.ref ga]) C (c_X5_iterated l D cy N0 (qs (qs h x (.inr (6, [.int mk, .ref sl, .ref bl, .ref kr, .ref vr, .int (oCq (oMv o (oMq o + nI 1))), .int (oMq (oMv o (oMq o + nI 1))), .int ed]))) x (.inr (6, [.int mk, .ref sl, .ref bl, .ref kr, .ref vr, .int (oCq (oCa (oMv o (oMq o + nI 1)) (oCq (oMv o (oMq o + nI 1)) + nI 1))), .int (oMq (oCa (oMv o (oMq o + nI 1)) (oCq (oMv o (oMq o + nI 1)) + nI 1))), .int ed]))) r9 (nI (k.2.2.2.2.2.1 cc)) (k.2.2.2.2.2.2.1 cc)) kX5_iterated g672 g673 hP hS (by first | decide | omega) hl.1 rfl (by simp [q_catrf, q_cati, q_catl, q_cata, q_catn]) (by first | decide | omega) dX6_restOf_101 (fun q ce E h' H1 locs1 hE => hE.elim) (fun v hh4 H locs hq hP hS => ?_)
          obtain ⟨q, rfl, oq, rfl⟩ := hq
          replace hP : qP D N0 (qs (qs (qs h x (.inr (6, [.int mk, .ref sl, .ref bl, .ref kr, .ref vr, .int (oCq (oMv o (oMq o + nI 1))), .int (oMq (oMv o (oMq o + nI 1))), .int ed]))) x (.inr (6, [.int mk, .ref sl, .ref bl, .ref kr, .ref vr, .int (oCq (oCa (oMv o (oMq o + nI 1)) (oCq (oMv o (oMq o + nI 1)) + nI 1))), .int (oMq (oCa (oMv o (oMq o + nI 1)) (oCq (oMv o (oMq o + nI 1)) + nI 1))), .int ed]))) q (.inr (5, [.long r9, .int 1, .int (nI (k.2.2.2.2.2.1 cc)), .long (k.2.2.2.2.2.2.1 cc), .int 0, .null, .null, .null, .int 0, .null]))) H := hP
          have hz3 := hz2.new hV2 (q := q) (x0 := r9) (rr := k.1) (way := 1) (cod := (nI (k.2.2.2.2.2.1 cc))) (cc := (k.2.2.2.2.2.2.1 cc)) (num := 0) (src := none) (beh := none) (row := none) (dn := 0) (rst := none) oq (xCell_u hV2 (kd := 1) (s := 0) (t := (k.2.2.2.2.2.1 cc)) (c := (k.2.2.2.2.2.2.1 cc)) (y := r9)) (Or.inr ⟨rfl, Or.inl ⟨rfl, rfl, rfl, rfl, rfl, rfl⟩⟩)
          have hHd := hHc.tr (zH.new (x := x) (e := (.inr (5, [.long r9, .int 1, .int (nI (k.2.2.2.2.2.1 cc)), .long (k.2.2.2.2.2.2.1 cc), .int 0, .null, .null, .null, .int 0, .null]) : va_E)) oq)
          have nga : ga ≠ q := fun z => by have z8 := fgc; rw [z, oq] at z8; cases z8
          have fgd := (qs_ne (h := (qs (qs h x (.inr (6, [.int mk, .ref sl, .ref bl, .ref kr, .ref vr, .int (oCq (oMv o (oMq o + nI 1))), .int (oMq (oMv o (oMq o + nI 1))), .int ed]))) x (.inr (6, [.int mk, .ref sl, .ref bl, .ref kr, .ref vr, .int (oCq (oCa (oMv o (oMq o + nI 1)) (oCq (oMv o (oMq o + nI 1)) + nI 1))), .int (oMq (oCa (oMv o (oMq o + nI 1)) (oCq (oMv o (oMq o + nI 1)) + nI 1))), .int ed])))) (a := q) (o := (.inr (5, [.long r9, .int 1, .int (nI (k.2.2.2.2.2.1 cc)), .long (k.2.2.2.2.2.2.1 cc), .int 0, .null, .null, .null, .int 0, .null]))) nga).trans fgc
          have eg2 : qU g a.1 q cc = ga := (qU_ne (by omega)).trans ega
          have agd : ∀ s, s < a.1 → qU g a.1 q s = g s := fun s hs => (qU_ne (by omega)).trans ((fun _ _ => rfl) s hs)
          have ezo : zO (qU g a.1 q) a.1 = some q := by rw [zO_s (by omega), qU_at]
          have hf2 : oFq W9.2.1 = 0 := by rw [eW]; exact hfa
          refine q_callVN (host := RX6) (rest := []) C (c_X5_finish l D cy N0 (qs (qs (qs h x (.inr (6, [.int mk, .ref sl, .ref bl, .ref kr, .ref vr, .int (oCq (oMv o (oMq o + nI 1))), .int (oMq (oMv o (oMq o + nI 1))), .int ed]))) x (.inr (6, [.int mk, .ref sl, .ref bl, .ref kr, .ref vr, .int (oCq (oCa (oMv o (oMq o + nI 1)) (oCq (oMv o (oMq o + nI 1)) + nI 1))), .int (oMq (oCa (oMv o (oMq o + nI 1)) (oCq (oMv o (oMq o + nI 1)) + nI 1))), .int ed]))) q (.inr (5, [.long r9, .int 1, .int (nI (k.2.2.2.2.2.1 cc)), .long (k.2.2.2.2.2.2.1 cc), .int 0, .null, .null, .null, .int 0, .null]))) (some q) ga (a.2.2.1 cc) (k.2.2.2.2.2.2.1 cc) (nI 1) (nI (k.2.2.2.2.2.1 cc)) num 0 (.null) (va_rf beh) (va_rf row) (va_rf rst) fgd) kX5_finish (by decide +kernel) g578 rfl gp12 hP hS fgd (by first | decide | omega) hl.1 rfl (by decide) (by first | decide | omega) dX6_restOf_104 (fun v hh5 H locs hq hP hS => ?_)
          obtain ⟨rfl, rfl⟩ := hq
          replace hP : qP D N0 (qs (qs (qs (qs h x (.inr (6, [.int mk, .ref sl, .ref bl, .ref kr, .ref vr, .int (oCq (oMv o (oMq o + nI 1))), .int (oMq (oMv o (oMq o + nI 1))), .int ed]))) x (.inr (6, [.int mk, .ref sl, .ref bl, .ref kr, .ref vr, .int (oCq (oCa (oMv o (oMq o + nI 1)) (oCq (oMv o (oMq o + nI 1)) + nI 1))), .int (oMq (oCa (oMv o (oMq o + nI 1)) (oCq (oMv o (oMq o + nI 1)) + nI 1))), .int ed]))) q (.inr (5, [.long r9, .int 1, .int (nI (k.2.2.2.2.2.1 cc)), .long (k.2.2.2.2.2.2.1 cc), .int 0, .null, .null, .null, .int 0, .null]))) ga (.inr (5, [.long (a.2.2.1 cc), .int (nI 1), .int (nI (k.2.2.2.2.2.1 cc)), .long (k.2.2.2.2.2.2.1 cc), .int num, .null, va_rf beh, va_rf row, .int 1, va_rf (some q)]))) H := hP
          have fge : (qs (qs (qs (qs h x (.inr (6, [.int mk, .ref sl, .ref bl, .ref kr, .ref vr, .int (oCq (oMv o (oMq o + nI 1))), .int (oMq (oMv o (oMq o + nI 1))), .int ed]))) x (.inr (6, [.int mk, .ref sl, .ref bl, .ref kr, .ref vr, .int (oCq (oCa (oMv o (oMq o + nI 1)) (oCq (oMv o (oMq o + nI 1)) + nI 1))), .int (oMq (oCa (oMv o (oMq o + nI 1)) (oCq (oMv o (oMq o + nI 1)) + nI 1))), .int ed]))) q (.inr (5, [.long r9, .int 1, .int (nI (k.2.2.2.2.2.1 cc)), .long (k.2.2.2.2.2.2.1 cc), .int 0, .null, .null, .null, .int 0, .null]))) ga (.inr (5, [.long (a.2.2.1 cc), .int (nI 1), .int (nI (k.2.2.2.2.2.1 cc)), .long (k.2.2.2.2.2.2.1 cc), .int num, .null, va_rf beh, va_rf row, .int 1, va_rf (some q)]))) ga = some (.inr (5, [.long (a.2.2.1 cc), .int (nI 1), .int (nI (k.2.2.2.2.2.1 cc)), .long (k.2.2.2.2.2.2.1 cc), .int num, .null, va_rf beh, va_rf row, .int 1, va_rf (some q)])) := qs_self
          refine lv_goto (tgt := 199) hx hb dX6_restOf_107 (by decide) ?_
          refine lv_aload_n hx hb dX6_restOf_199 rfl (lv_at hl 2 rfl) ?_
          refine q_getN C hP fge rfl inX5 9 (by decide) (by decide +kernel) rfl dX6_restOf_200 ?_
          have eX : X = (W9.1, W9.2.1, W9.2.2.1, xSetC W9.2.2.2 cc W9.1) := by rw [hX2, if_neg (fun z => z hf2)]
          have e1 := hfst cc hcc
          have hzk : zW (qs (qs (qs h x (.inr (6, [.int mk, .ref sl, .ref bl, .ref kr, .ref vr, .int (oCq (oMv o (oMq o + nI 1))), .int (oMq (oMv o (oMq o + nI 1))), .int ed]))) x (.inr (6, [.int mk, .ref sl, .ref bl, .ref kr, .ref vr, .int (oCq (oCa (oMv o (oMq o + nI 1)) (oCq (oMv o (oMq o + nI 1)) + nI 1))), .int (oMq (oCa (oMv o (oMq o + nI 1)) (oCq (oMv o (oMq o + nI 1)) + nI 1))), .int ed]))) q (.inr (5, [.long r9, .int 1, .int (nI (k.2.2.2.2.2.1 cc)), .long (k.2.2.2.2.2.2.1 cc), .int 0, .null, .null, .null, .int 0, .null]))) x mk sl bl kr vr ed (qU g a.1 q) R (W9.2.1, W9.2.2.1, W9.2.2.2) := by first | exact hz3 | (rw [eW]; exact hz3)
          have hh9 : (qs (qs (qs h x (.inr (6, [.int mk, .ref sl, .ref bl, .ref kr, .ref vr, .int (oCq (oMv o (oMq o + nI 1))), .int (oMq (oMv o (oMq o + nI 1))), .int ed]))) x (.inr (6, [.int mk, .ref sl, .ref bl, .ref kr, .ref vr, .int (oCq (oCa (oMv o (oMq o + nI 1)) (oCq (oMv o (oMq o + nI 1)) + nI 1))), .int (oMq (oCa (oMv o (oMq o + nI 1)) (oCq (oMv o (oMq o + nI 1)) + nI 1))), .int ed]))) q (.inr (5, [.long r9, .int 1, .int (nI (k.2.2.2.2.2.1 cc)), .long (k.2.2.2.2.2.2.1 cc), .int 0, .null, .null, .null, .int 0, .null]))) ((qU g a.1 q) cc) = some (.inr (5, [.long (W9.2.2.1.2.2.1 cc), .int (nI 1), .int (nI (k.2.2.2.2.2.1 cc)), .long (k.2.2.2.2.2.2.1 cc), .int num, .null, va_rf beh, va_rf row, .int 0, va_rf rst])) := by rw [eg2, e1]; exact fgd
          have hzf := hzk.fin hw9 (c := cc) (s := W9.1) hc1 (by omega) (src := none) (beh := beh) (row := row) hh9
          rw [eg2, e1] at hzf
          have ez9 : zO (qU g a.1 q) W9.1 = (some q) := by rw [eW]; exact ezo
          rw [ez9] at hzf
          exact q_aret (v := (some q)) C (Or.inl ⟨_, rfl⟩) hP hS ⟨by rw [eX]; exact hf2, (qU g a.1 q), agd, by rw [eX]; rw [ez9], by rw [eX]; exact hzf, hHd.tr (zH.set5 fgd)⟩ (by omega) dX6_restOf_203
      · replace y2 : way = nI 2 := y2
        subst y2
        subst y4
        refine lv_aload_n hx hb dX6_restOf_17 rfl (lv_at hl 1 rfl) ?_
        refine q_getN C hP fgb rfl inX5 5 (by decide) (by decide +kernel) rfl dX6_restOf_18 ?_
        refine lv_ifnonnullN hx hb dX6_restOf_21 ?_
        refine lv_null hx hb dX6_restOf_24 ?_
        refine lv_goto (tgt := 36) hx hb dX6_restOf_25 (by decide) ?_
        refine lv_astore_nN (lv' := [(2, .null), (0, .ref x), (1, .ref ga)]) hx hb dX6_restOf_36 rfl hl (by decide) rfl (fun ls hl => ?_)
        refine lv_aload_n hx hb dX6_restOf_37 rfl (lv_at hl 2 rfl) ?_
        refine q_get C hP fgb rfl inX5 1 (by decide) g538 rfl dX6_restOf_38 ?_
        refine lv_tableIn (tgt := 110) (off := 69) hx hb dX6_restOf_41 (by decide +kernel) (by decide +kernel) (by decide +kernel) (by decide) ?_
        refine lv_aload_n hx hb dX6_restOf_110 rfl (lv_at hl 2 rfl) ?_
        refine lv_aload_n hx hb dX6_restOf_111 rfl (lv_at hl 2 rfl) ?_
        refine q_getN C hP fgb rfl inX5 7 (by decide) (by decide +kernel) rfl dX6_restOf_112 ?_
        refine lv_aload_n hx hb dX6_restOf_115 rfl (lv_at hl 2 rfl) ?_
        refine q_getN C hP fgb rfl inX5 4 (by decide) (by decide +kernel) rfl dX6_restOf_116 ?_
        refine lv_iconst (v := nI 1) hx hb dX6_restOf_119 (by decide) ?_
        refine q_iaddN hx hb dX6_restOf_120 ?_
        have hrl := hRl _ (i4 y1).1
        have hot := (i4 y1).2
        obtain ⟨m7, hbr⟩ : ∃ n, qBr (qs h x (.inr (6, [.int mk, .ref sl, .ref bl, .ref kr, .ref vr, .int (oCq (oMv o (oMq o + nI 1))), .int (oMq (oMv o (oMq o + nI 1))), .int ed]))) n row ((R (k.2.2.2.2.1 cc)).map (fun v => (0, v))) := ⟨m8, y6.k0 (zB.set hxx (by decide))⟩
        have eW : W9 = xRow R ((oMv o (oMq o + nI 1)), a, k) (k.2.2.2.2.1 cc) (k.2.2.2.2.2.1 cc) := by rw [← er9]; unfold xWork; rw [if_neg (show ¬ (k.2.2.1 cc) = 1 by omega), if_pos y1]
        unfold xRow at eW
        have hlm : ((R (k.2.2.2.2.1 cc)).map (fun v => ((0 : Int64), v))).length = (R (k.2.2.2.2.1 cc)).length := List.length_map ..
        by_cases cz : (R (k.2.2.2.2.1 cc)).length ≤ (k.2.2.2.2.2.1 cc)
        · rw [if_pos cz] at eW
          have hf2 : oFq W9.2.1 = 0 := by rw [eW]; exact hfa
          have e10 : (if ((R (k.2.2.2.2.1 cc)).map (fun v => ((0 : Int64), v))).length ≤ (k.2.2.2.2.2.1 cc) - 1 + 1 then 0 else 1) = 0 ∧ (if ((R (k.2.2.2.2.1 cc)).map (fun v => ((0 : Int64), v))).length ≤ (k.2.2.2.2.2.1 cc) - 1 + 1 then 0 else 10) = 0 := ⟨if_pos (by omega), if_pos (by omega)⟩
          have eA : W9.2.2.1.1 = a.1 := by rw [eW]
          refine q_callS (rest := [.ref ga]) C (c_X5_turned l D cy N0 (qs h x (.inr (6, [.int mk, .ref sl, .ref bl, .ref kr, .ref vr, .int (oCq (oMv o (oMq o + nI 1))), .int (oMq (oMv o (oMq o + nI 1))), .int ed]))) row m7 ((k.2.2.2.2.2.1 cc) - 1 + 1) _ hbr (by omega) (by omega)) kX5_turned g676 g677 hP hS (by first | decide | omega) hl.1 rfl (by simp [q_catrf, q_cati, q_catl, q_cata, q_catn]) (by first | decide | omega) dX6_restOf_121 (fun q ce E h' H1 locs1 hE => hE.elim) (fun v hh6 H locs hq hP hS => ?_)
          rcases hq with ⟨rfl, rfl, hle9⟩ | ⟨q, k0, v0, eA0, rfl, oq, rfl⟩
          · refine q_callVN (host := RX6) (rest := []) C (c_X5_finish l D cy N0 (qs h x (.inr (6, [.int mk, .ref sl, .ref bl, .ref kr, .ref vr, .int (oCq (oMv o (oMq o + nI 1))), .int (oMq (oMv o (oMq o + nI 1))), .int ed]))) none ga (a.2.2.1 cc) cc0 (nI 2) cod (nI ((k.2.2.2.2.2.1 cc) - 1)) 0 (.null) (va_rf beh) (va_rf row) (va_rf rst) fgb) kX5_finish (by decide +kernel) g578 rfl gp12 hP hS fgb (by first | decide | omega) hl.1 rfl (by decide) (by first | decide | omega) dX6_restOf_124 (fun v hh7 H locs hq hP hS => ?_)
            obtain ⟨rfl, rfl⟩ := hq
            replace hP : qP D N0 (qs (qs h x (.inr (6, [.int mk, .ref sl, .ref bl, .ref kr, .ref vr, .int (oCq (oMv o (oMq o + nI 1))), .int (oMq (oMv o (oMq o + nI 1))), .int ed]))) ga (.inr (5, [.long (a.2.2.1 cc), .int (nI 2), .int cod, .long cc0, .int (nI ((k.2.2.2.2.2.1 cc) - 1)), .null, va_rf beh, va_rf row, .int 1, va_rf none]))) H := hP
            have fge : (qs (qs h x (.inr (6, [.int mk, .ref sl, .ref bl, .ref kr, .ref vr, .int (oCq (oMv o (oMq o + nI 1))), .int (oMq (oMv o (oMq o + nI 1))), .int ed]))) ga (.inr (5, [.long (a.2.2.1 cc), .int (nI 2), .int cod, .long cc0, .int (nI ((k.2.2.2.2.2.1 cc) - 1)), .null, va_rf beh, va_rf row, .int 1, va_rf none]))) ga = some (.inr (5, [.long (a.2.2.1 cc), .int (nI 2), .int cod, .long cc0, .int (nI ((k.2.2.2.2.2.1 cc) - 1)), .null, va_rf beh, va_rf row, .int 1, va_rf none])) := qs_self
            refine lv_goto (tgt := 199) hx hb dX6_restOf_127 (by decide) ?_
            refine lv_aload_n hx hb dX6_restOf_199 rfl (lv_at hl 2 rfl) ?_
            refine q_getN C hP fge rfl inX5 9 (by decide) (by decide +kernel) rfl dX6_restOf_200 ?_
            have eX : X = (W9.1, W9.2.1, W9.2.2.1, xSetC W9.2.2.2 cc W9.1) := by rw [hX2, if_neg (fun z => z hf2)]
            have e1 := hfst cc hcc
            have hzk : zW (qs h x (.inr (6, [.int mk, .ref sl, .ref bl, .ref kr, .ref vr, .int (oCq (oMv o (oMq o + nI 1))), .int (oMq (oMv o (oMq o + nI 1))), .int ed]))) x mk sl bl kr vr ed g R (W9.2.1, W9.2.2.1, W9.2.2.2) := by first | exact hz1 | (rw [eW]; exact hz1)
            have hh9 : (qs h x (.inr (6, [.int mk, .ref sl, .ref bl, .ref kr, .ref vr, .int (oCq (oMv o (oMq o + nI 1))), .int (oMq (oMv o (oMq o + nI 1))), .int ed]))) (g cc) = some (.inr (5, [.long (W9.2.2.1.2.2.1 cc), .int (nI 2), .int cod, .long cc0, .int (nI ((k.2.2.2.2.2.1 cc) - 1)), .null, va_rf beh, va_rf row, .int 0, va_rf rst])) := by rw [ega, e1]; exact fgb
            have hzf := hzk.fin hw9 (c := cc) (s := W9.1) hc1 (by omega) (src := none) (beh := beh) (row := row) hh9
            rw [ega, e1] at hzf
            have ez9 : zO g W9.1 = none := by rw [eW]; exact zO_z
            rw [ez9] at hzf
            exact q_aret (v := none) C (Or.inl ⟨_, rfl⟩) hP hS ⟨by rw [eX]; exact hf2, g, (fun s hs => rfl), by rw [eX]; rw [ez9], by rw [eX]; exact hzf, hH1.tr (zH.set5 fgb)⟩ (by omega) dX6_restOf_203
          · exact absurd (List.getElem?_eq_some_iff.mp eA0).1 (by omega)
        · rw [if_neg cz] at eW
          have eA : W9.2.2.1.1 = a.1 + 1 := by rw [eW]; rfl
          have hf2 : oFq W9.2.1 = 0 := by rw [eW]; exact hfa
          have e10 : (if ((R (k.2.2.2.2.1 cc)).map (fun v => ((0 : Int64), v))).length ≤ (k.2.2.2.2.2.1 cc) - 1 + 1 then 0 else 1) = 1 ∧ (if ((R (k.2.2.2.2.1 cc)).map (fun v => ((0 : Int64), v))).length ≤ (k.2.2.2.2.2.1 cc) - 1 + 1 then 0 else 10) = 10 := ⟨if_neg (by omega), if_neg (by omega)⟩
          refine q_callS (rest := [.ref ga]) C (c_X5_turned l D cy N0 (qs h x (.inr (6, [.int mk, .ref sl, .ref bl, .ref kr, .ref vr, .int (oCq (oMv o (oMq o + nI 1))), .int (oMq (oMv o (oMq o + nI 1))), .int ed]))) row m7 ((k.2.2.2.2.2.1 cc) - 1 + 1) _ hbr (by omega) (by omega)) kX5_turned g676 g677 hP hS (by first | decide | omega) hl.1 rfl (by simp [q_catrf, q_cati, q_catl, q_cata, q_catn]) (by first | decide | omega) dX6_restOf_121 (fun q ce E h' H1 locs1 hE => hE.elim) (fun v hh8 H locs hq hP hS => ?_)
          rcases hq with ⟨rfl, rfl, hle9⟩ | ⟨q, k0, v0, eA0, rfl, oq, rfl⟩
          · exact absurd hle9 (by omega)
          · rw [List.getElem?_map] at eA0
            obtain ⟨v1, ev1, ev2⟩ := Option.map_eq_some_iff.mp eA0
            obtain rfl : v1 = v0 := congrArg Prod.snd ev2
            have egd : (R (k.2.2.2.2.1 cc)).getD (k.2.2.2.2.2.1 cc) 0 = v1 := by rw [List.getD_eq_getElem?_getD, ← show (k.2.2.2.2.2.1 cc) - 1 + 1 = (k.2.2.2.2.2.1 cc) by omega, ev1]; rfl
            rw [egd] at eW
            replace hP : qP D N0 (qs (qs h x (.inr (6, [.int mk, .ref sl, .ref bl, .ref kr, .ref vr, .int (oCq (oMv o (oMq o + nI 1))), .int (oMq (oMv o (oMq o + nI 1))), .int ed]))) q (.inr (5, [.long v1, .int 2, .int 0, .long 0, .int (nI ((k.2.2.2.2.2.1 cc) - 1 + 1)), .null, .null, va_rf row, .int 0, .null]))) H := hP
            have hz3 := hz1.new hV1 (q := q) (x0 := v1) (rr := k.1) (way := 2) (cod := 0) (cc := 0) (num := (nI ((k.2.2.2.2.2.1 cc) - 1 + 1))) (src := none) (beh := none) (row := row) (dn := 0) (rst := none) oq (xCell_u hV1 (kd := 2) (s := (k.2.2.2.2.1 cc)) (t := ((k.2.2.2.2.2.1 cc) + 1)) (c := 0) (y := 0)) (Or.inr ⟨rfl, Or.inr (Or.inl ⟨rfl, rfl, rfl, by congr 1; omega, by omega, m7, hbr⟩)⟩)
            have hHd := hH1.tr (zH.new (x := x) (e := (.inr (5, [.long v1, .int 2, .int 0, .long 0, .int (nI ((k.2.2.2.2.2.1 cc) - 1 + 1)), .null, .null, va_rf row, .int 0, .null]) : va_E)) oq)
            have nga : ga ≠ q := fun z => by have z8 := fgb; rw [z, oq] at z8; cases z8
            have fgd := (qs_ne (h := (qs h x (.inr (6, [.int mk, .ref sl, .ref bl, .ref kr, .ref vr, .int (oCq (oMv o (oMq o + nI 1))), .int (oMq (oMv o (oMq o + nI 1))), .int ed])))) (a := q) (o := (.inr (5, [.long v1, .int 2, .int 0, .long 0, .int (nI ((k.2.2.2.2.2.1 cc) - 1 + 1)), .null, .null, va_rf row, .int 0, .null]))) nga).trans fgb
            have eg2 : qU g a.1 q cc = ga := (qU_ne (by omega)).trans ega
            have agd : ∀ s, s < a.1 → qU g a.1 q s = g s := fun s hs => (qU_ne (by omega)).trans ((fun _ _ => rfl) s hs)
            have ezo : zO (qU g a.1 q) a.1 = some q := by rw [zO_s (by omega), qU_at]
            refine q_callVN (host := RX6) (rest := []) C (c_X5_finish l D cy N0 (qs (qs h x (.inr (6, [.int mk, .ref sl, .ref bl, .ref kr, .ref vr, .int (oCq (oMv o (oMq o + nI 1))), .int (oMq (oMv o (oMq o + nI 1))), .int ed]))) q (.inr (5, [.long v1, .int 2, .int 0, .long 0, .int (nI ((k.2.2.2.2.2.1 cc) - 1 + 1)), .null, .null, va_rf row, .int 0, .null]))) (some q) ga (a.2.2.1 cc) cc0 (nI 2) cod (nI ((k.2.2.2.2.2.1 cc) - 1)) 0 (.null) (va_rf beh) (va_rf row) (va_rf rst) fgd) kX5_finish (by decide +kernel) g578 rfl gp12 hP hS fgd (by first | decide | omega) hl.1 rfl (by decide) (by first | decide | omega) dX6_restOf_124 (fun v hh9 H locs hq hP hS => ?_)
            obtain ⟨rfl, rfl⟩ := hq
            replace hP : qP D N0 (qs (qs (qs h x (.inr (6, [.int mk, .ref sl, .ref bl, .ref kr, .ref vr, .int (oCq (oMv o (oMq o + nI 1))), .int (oMq (oMv o (oMq o + nI 1))), .int ed]))) q (.inr (5, [.long v1, .int 2, .int 0, .long 0, .int (nI ((k.2.2.2.2.2.1 cc) - 1 + 1)), .null, .null, va_rf row, .int 0, .null]))) ga (.inr (5, [.long (a.2.2.1 cc), .int (nI 2), .int cod, .long cc0, .int (nI ((k.2.2.2.2.2.1 cc) - 1)), .null, va_rf beh, va_rf row, .int 1, va_rf (some q)]))) H := hP
            have fge : (qs (qs (qs h x (.inr (6, [.int mk, .ref sl, .ref bl, .ref kr, .ref vr, .int (oCq (oMv o (oMq o + nI 1))), .int (oMq (oMv o (oMq o + nI 1))), .int ed]))) q (.inr (5, [.long v1, .int 2, .int 0, .long 0, .int (nI ((k.2.2.2.2.2.1 cc) - 1 + 1)), .null, .null, va_rf row, .int 0, .null]))) ga (.inr (5, [.long (a.2.2.1 cc), .int (nI 2), .int cod, .long cc0, .int (nI ((k.2.2.2.2.2.1 cc) - 1)), .null, va_rf beh, va_rf row, .int 1, va_rf (some q)]))) ga = some (.inr (5, [.long (a.2.2.1 cc), .int (nI 2), .int cod, .long cc0, .int (nI ((k.2.2.2.2.2.1 cc) - 1)), .null, va_rf beh, va_rf row, .int 1, va_rf (some q)])) := qs_self
            refine lv_goto (tgt := 199) hx hb dX6_restOf_127 (by decide) ?_
            refine lv_aload_n hx hb dX6_restOf_199 rfl (lv_at hl 2 rfl) ?_
            refine q_getN C hP fge rfl inX5 9 (by decide) (by decide +kernel) rfl dX6_restOf_200 ?_
            have eX : X = (W9.1, W9.2.1, W9.2.2.1, xSetC W9.2.2.2 cc W9.1) := by rw [hX2, if_neg (fun z => z hf2)]
            have e1 := hfst cc hcc
            have hzk : zW (qs (qs h x (.inr (6, [.int mk, .ref sl, .ref bl, .ref kr, .ref vr, .int (oCq (oMv o (oMq o + nI 1))), .int (oMq (oMv o (oMq o + nI 1))), .int ed]))) q (.inr (5, [.long v1, .int 2, .int 0, .long 0, .int (nI ((k.2.2.2.2.2.1 cc) - 1 + 1)), .null, .null, va_rf row, .int 0, .null]))) x mk sl bl kr vr ed (qU g a.1 q) R (W9.2.1, W9.2.2.1, W9.2.2.2) := by first | exact hz3 | (rw [eW]; exact hz3)
            have hh9 : (qs (qs h x (.inr (6, [.int mk, .ref sl, .ref bl, .ref kr, .ref vr, .int (oCq (oMv o (oMq o + nI 1))), .int (oMq (oMv o (oMq o + nI 1))), .int ed]))) q (.inr (5, [.long v1, .int 2, .int 0, .long 0, .int (nI ((k.2.2.2.2.2.1 cc) - 1 + 1)), .null, .null, va_rf row, .int 0, .null]))) ((qU g a.1 q) cc) = some (.inr (5, [.long (W9.2.2.1.2.2.1 cc), .int (nI 2), .int cod, .long cc0, .int (nI ((k.2.2.2.2.2.1 cc) - 1)), .null, va_rf beh, va_rf row, .int 0, va_rf rst])) := by rw [eg2, e1]; exact fgd
            have hzf := hzk.fin hw9 (c := cc) (s := W9.1) hc1 (by omega) (src := none) (beh := beh) (row := row) hh9
            rw [eg2, e1] at hzf
            have ez9 : zO (qU g a.1 q) W9.1 = (some q) := by rw [eW]; exact ezo
            rw [ez9] at hzf
            exact q_aret (v := (some q)) C (Or.inl ⟨_, rfl⟩) hP hS ⟨by rw [eX]; exact hf2, (qU g a.1 q), agd, by rw [eX]; rw [ez9], by rw [eX]; exact hzf, hHd.tr (zH.set5 fgd)⟩ (by omega) dX6_restOf_203
      · replace y2 : way = nI 3 := y2
        subst y2
        subst y3 y4
        obtain ⟨s1, o1, a1, k1, er1⟩ : ∃ z1 z2 z3 z4, xForce R d ((oMv o (oMq o + nI 1)), a, k) (k.2.2.2.2.1 cc) = (z1, z2, z3, z4) := ⟨_, _, _, _, rfl⟩
        have hso := i5 (by omega)
        have st1 := hG _ dp ((oMv o (oMq o + nI 1)), a, k) (k.2.2.2.2.1 cc) hV1 hfa hso.1 (by omega)
        rw [er1] at st1
        obtain ⟨dp1, d1, w1, d3, d4, d5, -, d7⟩ := st1
        dsimp only at d1 d3 d4 d5 w1 d7
        have hp1 : 1 ≤ a1.1 ∧ a1.1 ≤ a1.2.1 := w1.p
        have eW : W9 = if ¬ oFq o1 = 0 then (0, o1, a1, k1) else xThen (xForce R d) (k.2.2.1 cc) (k.2.2.2.2.2.1 cc) (k.2.2.2.2.2.2.1 cc) (o1, a1, k1) s1 := by rw [← er9]; unfold xWork; rw [if_neg (show ¬ (k.2.2.1 cc) = 1 by omega), if_neg (show ¬ (k.2.2.1 cc) = 2 by omega)]; dsimp only; rw [er1]
        have hm1 : (if oFq o1 = 0 then 0 else 1) ≤ (if oFq W9.2.1 = 0 then 0 else 1) ∧ (if oFq o1 = 0 then 0 else 6) ≤ (if oFq W9.2.1 = 0 then 0 else 6) := by
          by_cases z : ¬ oFq o1 = 0
          · rw [eW, if_pos z]; exact ⟨Nat.le_refl _, Nat.le_refl _⟩
          · rw [if_pos (Decidable.not_not.mp z), if_pos (Decidable.not_not.mp z)]; exact ⟨Nat.zero_le _, Nat.zero_le _⟩
        have hm0 : a1.1 ≤ W9.2.2.1.1 := by
          by_cases z : ¬ oFq o1 = 0
          · rw [eW, if_pos z]; exact Nat.le_refl _
          · rw [eW, if_neg z]; have z2 := d5 (Decidable.not_not.mp z); obtain ⟨_, _, _, z3, _⟩ := xThen_stp (dc := d + 1) hG w1 (Decidable.not_not.mp z) (rc := (k.2.2.1 cc)) (n := (k.2.2.2.2.2.1 cc)) (s := s1) (c := (k.2.2.2.2.2.2.1 cc)) ⟨z2.1, by omega, by omega⟩ i6 i7 i8 (fun y => ⟨by have := (i9 y).1; show (k.2.2.2.2.2.1 cc) < a1.1; omega, by rw [d1 _ (i9 y).1]; have := (i9 y).2; omega⟩) ⟨by omega, i1⟩; exact z3
        refine lv_aload_n hx hb dX6_restOf_17 rfl (lv_at hl 1 rfl) ?_
        refine q_getN C hP fgb rfl inX5 5 (by decide) (by decide +kernel) rfl dX6_restOf_18 ?_
        refine lv_ifnonnull (tgt := 28) hx hb dX6_restOf_21 (by decide) ?_
        refine lv_aload_n hx hb dX6_restOf_28 rfl (lv_at hl 0 rfl) ?_
        refine lv_aload_n hx hb dX6_restOf_29 rfl (lv_at hl 1 rfl) ?_
        refine q_getN C hP fgb rfl inX5 5 (by decide) (by decide +kernel) rfl dX6_restOf_30 ?_
        have hcall := hF (qs h x (.inr (6, [.int mk, .ref sl, .ref bl, .ref kr, .ref vr, .int (oCq (oMv o (oMq o + nI 1))), .int (oMq (oMv o (oMq o + nI 1))), .int ed]))) g (oMv o (oMq o + nI 1)) a k _ dp (k.2.2.2.2.1 cc) hz1 hV1 hfa (by omega) hso.1 (by omega)
        rw [er1] at hcall
        dsimp only at hcall
        refine q_callV (rest := []) C (hcall) kX6_restOf g637 g639 rfl gp14 g1 hP hS hxy (by first | decide | omega) hl.1 rfl (by decide) (by first | decide | omega) dX6_restOf_33 (fun q ce E h' H1 locs1 hE hP hS hc1 hc2 hc3 => by obtain ⟨hE1, gw2, ag2, hz2, hH2⟩ := hE; have hf2 : ¬ oFq o1 = 0 := hE1.elim (fun y z => absurd (z.symm.trans y.2) (by decide)) (fun y z => absurd (z.symm.trans y.2) (by decide)); rw [if_pos hf2] at eW; have eX : X = (0, o1, a1, k1) := (by rw [hX2, eW, if_pos hf2]); exact q_out C hP hS hc1 hc2 hc3 (by rw [eX]; exact ⟨hE1, gw2, ag2, hz2, hH1.tr hH2⟩) (by omega)) (fun v hh10 H locs hq hP hS => ?_)
        obtain ⟨hf1, gw1, ag1, rfl, hz2, hH2⟩ := hq
        dsimp only
        have hz2x := hz2.1
        have e60 : (if oFq o1 = 0 then 0 else 1) = 0 ∧ (if oFq o1 = 0 then 0 else 6) = 0 := ⟨if_pos hf1, if_pos hf1⟩
        rw [if_neg (fun z => z hf1)] at eW
        obtain ⟨dn1, rst1, fgc⟩ := hH2.2.1 _ _ _ _ _ _ _ _ _ _ _ fgb
        have eg1 : gw1 cc = ga := (ag1 cc hcc).trans ega
        have z5 := d5 hf1
        obtain ⟨sv, esv⟩ : ∃ z, zO gw1 s1 = z := ⟨_, rfl⟩
        rw [esv]
        have hHc := hH1.tr hH2
        refine q_astore_n (lv' := [(2, va_rf sv), (0, .ref x), (1, .ref ga)]) hx hb dX6_restOf_36 rfl hl (by decide) rfl (fun ls hl => ?_)
        refine lv_aload_n hx hb dX6_restOf_37 rfl (lv_at hl 2 rfl) ?_
        refine q_get C hP fgc rfl inX5 1 (by decide) g538 rfl dX6_restOf_38 ?_
        refine lv_tableIn (tgt := 130) (off := 89) hx hb dX6_restOf_41 (by decide +kernel) (by decide +kernel) (by decide +kernel) (by decide) ?_
        refine lv_aload_n hx hb dX6_restOf_130 rfl (lv_at hl 2 rfl) ?_
        refine lv_aload_n hx hb dX6_restOf_131 rfl (lv_at hl 1 rfl) ?_
        refine q_aload_n hx hb dX6_restOf_132 rfl (lv_at hl 0 rfl) ?_
        refine lv_aload_n hx hb dX6_restOf_133 rfl (lv_at hl 2 rfl) ?_
        refine q_getN C hP fgc rfl inX5 2 (by decide) (by decide +kernel) rfl dX6_restOf_134 ?_
        refine lv_aload_n hx hb dX6_restOf_137 rfl (lv_at hl 2 rfl) ?_
        refine q_getN C hP fgc rfl inX5 3 (by decide) (by decide +kernel) rfl dX6_restOf_138 ?_
        have hcall2 := z_mappedFrom l D cy N0 hh10 x mk sl bl kr vr ed gw1 R o1 a1 k1 Bd _ Rn dp1 s1 (k.2.2.2.2.2.1 cc) (k.2.2.2.2.2.2.1 cc) W9 hz2 w1 hf1 z5.1 (i6 y1) (by rw [eW, xThen, if_pos y1])
        rw [esv] at hcall2
        refine q_callV (rest := [.ref ga]) C (hcall2) kX6_mappedFrom g680 g682 rfl gp17 g1 hP hS hz2x (by first | decide | omega) hl.1 rfl (by simp [q_catrf, q_cati, q_catl, q_cata, q_catn]) (by first | decide | omega) dX6_restOf_141 (fun q ce E h' H1 locs1 hE hP hS hc1 hc2 hc3 => by obtain ⟨hE1, gw2, ag2, hz3, hH3⟩ := hE; have hf2 : ¬ oFq W9.2.1 = 0 := hE1.elim (fun y z => absurd (z.symm.trans y.2) (by decide)) (fun y z => absurd (z.symm.trans y.2) (by decide)); have eX : X = (0, W9.2) := (by rw [hX2, if_pos hf2]); exact q_out C hP hS hc1 hc2 hc3 (by rw [eX]; exact ⟨hE1, gw2, fun s hs => (ag2 s (by omega)).trans (ag1 s hs), hz3, hHc.tr hH3⟩) (by omega)) (fun v hh11 H locs hq hP hS => ?_)
        obtain ⟨hf2, gw2, ag2, rfl, hz3, hH3⟩ := hq
        have hz3x := hz3.1
        obtain ⟨dn2, rst2, fgd⟩ := hH3.2.1 _ _ _ _ _ _ _ _ _ _ _ fgc
        have eg2 : gw2 cc = ga := (ag2 cc (by omega)).trans eg1
        have hHd := hHc.tr hH3
        have agd : ∀ s, s < a.1 → gw2 s = g s := fun s hs => (ag2 s (by omega)).trans (ag1 s hs)
        refine q_callVN (host := RX6) (rest := []) C (c_X5_finish l D cy N0 hh11 (zO gw2 W9.1) ga (a.2.2.1 cc) (k.2.2.2.2.2.2.1 cc) (nI 3) (nI (k.2.2.2.2.2.1 cc)) num dn2 (.ref (g (k.2.2.2.2.1 cc))) (va_rf beh) (va_rf row) rst2 fgd) kX5_finish (by decide +kernel) g578 rfl gp12 hP hS fgd (by first | decide | omega) hl.1 rfl (by decide) (by first | decide | omega) dX6_restOf_144 (fun v hh12 H locs hq hP hS => ?_)
        obtain ⟨rfl, rfl⟩ := hq
        replace hP : qP D N0 (qs hh11 ga (.inr (5, [.long (a.2.2.1 cc), .int (nI 3), .int (nI (k.2.2.2.2.2.1 cc)), .long (k.2.2.2.2.2.2.1 cc), .int num, .ref (g (k.2.2.2.2.1 cc)), va_rf beh, va_rf row, .int 1, va_rf (zO gw2 W9.1)]))) H := hP
        have fge : (qs hh11 ga (.inr (5, [.long (a.2.2.1 cc), .int (nI 3), .int (nI (k.2.2.2.2.2.1 cc)), .long (k.2.2.2.2.2.2.1 cc), .int num, .ref (g (k.2.2.2.2.1 cc)), va_rf beh, va_rf row, .int 1, va_rf (zO gw2 W9.1)]))) ga = some (.inr (5, [.long (a.2.2.1 cc), .int (nI 3), .int (nI (k.2.2.2.2.2.1 cc)), .long (k.2.2.2.2.2.2.1 cc), .int num, .ref (g (k.2.2.2.2.1 cc)), va_rf beh, va_rf row, .int 1, va_rf (zO gw2 W9.1)])) := qs_self
        refine lv_goto (tgt := 199) hx hb dX6_restOf_147 (by decide) ?_
        refine lv_aload_n hx hb dX6_restOf_199 rfl (lv_at hl 2 rfl) ?_
        refine q_getN C hP fge rfl inX5 9 (by decide) (by decide +kernel) rfl dX6_restOf_200 ?_
        have eX : X = (W9.1, W9.2.1, W9.2.2.1, xSetC W9.2.2.2 cc W9.1) := by rw [hX2, if_neg (fun z => z hf2)]
        have e1 := hfst cc hcc
        have hzk : zW hh11 x mk sl bl kr vr ed gw2 R (W9.2.1, W9.2.2.1, W9.2.2.2) := by first | exact hz3 | (rw [eW]; exact hz3)
        have hh9 : hh11 (gw2 cc) = some (.inr (5, [.long (W9.2.2.1.2.2.1 cc), .int (nI 3), .int (nI (k.2.2.2.2.2.1 cc)), .long (k.2.2.2.2.2.2.1 cc), .int num, .ref (g (k.2.2.2.2.1 cc)), va_rf beh, va_rf row, .int dn2, rst2])) := by rw [eg2, e1]; exact fgd
        have hzf := hzk.fin hw9 (c := cc) (s := W9.1) hc1 (by omega) (src := (some (g (k.2.2.2.2.1 cc)))) (beh := beh) (row := row) hh9
        rw [eg2, e1] at hzf
        exact q_aret (v := (zO gw2 W9.1)) C (Or.inl ⟨_, rfl⟩) hP hS ⟨by rw [eX]; exact hf2, gw2, agd, by rw [eX]; skip, by rw [eX]; exact hzf, hHd.tr (zH.set5 fgd)⟩ (by omega) dX6_restOf_203
      · replace y2 : way = nI 4 := y2
        subst y2
        subst y3 y4
        obtain ⟨s1, o1, a1, k1, er1⟩ : ∃ z1 z2 z3 z4, xForce R d ((oMv o (oMq o + nI 1)), a, k) (k.2.2.2.2.1 cc) = (z1, z2, z3, z4) := ⟨_, _, _, _, rfl⟩
        have hso := i5 (by omega)
        have st1 := hG _ dp ((oMv o (oMq o + nI 1)), a, k) (k.2.2.2.2.1 cc) hV1 hfa hso.1 (by omega)
        rw [er1] at st1
        obtain ⟨dp1, d1, w1, d3, d4, d5, -, d7⟩ := st1
        dsimp only at d1 d3 d4 d5 w1 d7
        have hp1 : 1 ≤ a1.1 ∧ a1.1 ≤ a1.2.1 := w1.p
        have eW : W9 = if ¬ oFq o1 = 0 then (0, o1, a1, k1) else xThen (xForce R d) (k.2.2.1 cc) (k.2.2.2.2.2.1 cc) (k.2.2.2.2.2.2.1 cc) (o1, a1, k1) s1 := by rw [← er9]; unfold xWork; rw [if_neg (show ¬ (k.2.2.1 cc) = 1 by omega), if_neg (show ¬ (k.2.2.1 cc) = 2 by omega)]; dsimp only; rw [er1]
        have hm1 : (if oFq o1 = 0 then 0 else 1) ≤ (if oFq W9.2.1 = 0 then 0 else 1) ∧ (if oFq o1 = 0 then 0 else 6) ≤ (if oFq W9.2.1 = 0 then 0 else 6) := by
          by_cases z : ¬ oFq o1 = 0
          · rw [eW, if_pos z]; exact ⟨Nat.le_refl _, Nat.le_refl _⟩
          · rw [if_pos (Decidable.not_not.mp z), if_pos (Decidable.not_not.mp z)]; exact ⟨Nat.zero_le _, Nat.zero_le _⟩
        have hm0 : a1.1 ≤ W9.2.2.1.1 := by
          by_cases z : ¬ oFq o1 = 0
          · rw [eW, if_pos z]; exact Nat.le_refl _
          · rw [eW, if_neg z]; have z2 := d5 (Decidable.not_not.mp z); obtain ⟨_, _, _, z3, _⟩ := xThen_stp (dc := d + 1) hG w1 (Decidable.not_not.mp z) (rc := (k.2.2.1 cc)) (n := (k.2.2.2.2.2.1 cc)) (s := s1) (c := (k.2.2.2.2.2.2.1 cc)) ⟨z2.1, by omega, by omega⟩ i6 i7 i8 (fun y => ⟨by have := (i9 y).1; show (k.2.2.2.2.2.1 cc) < a1.1; omega, by rw [d1 _ (i9 y).1]; have := (i9 y).2; omega⟩) ⟨by omega, i1⟩; exact z3
        refine lv_aload_n hx hb dX6_restOf_17 rfl (lv_at hl 1 rfl) ?_
        refine q_getN C hP fgb rfl inX5 5 (by decide) (by decide +kernel) rfl dX6_restOf_18 ?_
        refine lv_ifnonnull (tgt := 28) hx hb dX6_restOf_21 (by decide) ?_
        refine lv_aload_n hx hb dX6_restOf_28 rfl (lv_at hl 0 rfl) ?_
        refine lv_aload_n hx hb dX6_restOf_29 rfl (lv_at hl 1 rfl) ?_
        refine q_getN C hP fgb rfl inX5 5 (by decide) (by decide +kernel) rfl dX6_restOf_30 ?_
        have hcall := hF (qs h x (.inr (6, [.int mk, .ref sl, .ref bl, .ref kr, .ref vr, .int (oCq (oMv o (oMq o + nI 1))), .int (oMq (oMv o (oMq o + nI 1))), .int ed]))) g (oMv o (oMq o + nI 1)) a k _ dp (k.2.2.2.2.1 cc) hz1 hV1 hfa (by omega) hso.1 (by omega)
        rw [er1] at hcall
        dsimp only at hcall
        refine q_callV (rest := []) C (hcall) kX6_restOf g637 g639 rfl gp14 g1 hP hS hxy (by first | decide | omega) hl.1 rfl (by decide) (by first | decide | omega) dX6_restOf_33 (fun q ce E h' H1 locs1 hE hP hS hc1 hc2 hc3 => by obtain ⟨hE1, gw2, ag2, hz2, hH2⟩ := hE; have hf2 : ¬ oFq o1 = 0 := hE1.elim (fun y z => absurd (z.symm.trans y.2) (by decide)) (fun y z => absurd (z.symm.trans y.2) (by decide)); rw [if_pos hf2] at eW; have eX : X = (0, o1, a1, k1) := (by rw [hX2, eW, if_pos hf2]); exact q_out C hP hS hc1 hc2 hc3 (by rw [eX]; exact ⟨hE1, gw2, ag2, hz2, hH1.tr hH2⟩) (by omega)) (fun v hh13 H locs hq hP hS => ?_)
        obtain ⟨hf1, gw1, ag1, rfl, hz2, hH2⟩ := hq
        dsimp only
        have hz2x := hz2.1
        have e60 : (if oFq o1 = 0 then 0 else 1) = 0 ∧ (if oFq o1 = 0 then 0 else 6) = 0 := ⟨if_pos hf1, if_pos hf1⟩
        rw [if_neg (fun z => z hf1)] at eW
        obtain ⟨dn1, rst1, fgc⟩ := hH2.2.1 _ _ _ _ _ _ _ _ _ _ _ fgb
        have eg1 : gw1 cc = ga := (ag1 cc hcc).trans ega
        have z5 := d5 hf1
        obtain ⟨sv, esv⟩ : ∃ z, zO gw1 s1 = z := ⟨_, rfl⟩
        rw [esv]
        have hHc := hH1.tr hH2
        refine q_astore_n (lv' := [(2, va_rf sv), (0, .ref x), (1, .ref ga)]) hx hb dX6_restOf_36 rfl hl (by decide) rfl (fun ls hl => ?_)
        refine lv_aload_n hx hb dX6_restOf_37 rfl (lv_at hl 2 rfl) ?_
        refine q_get C hP fgc rfl inX5 1 (by decide) g538 rfl dX6_restOf_38 ?_
        refine lv_tableIn (tgt := 150) (off := 109) hx hb dX6_restOf_41 (by decide +kernel) (by decide +kernel) (by decide +kernel) (by decide) ?_
        refine lv_aload_n hx hb dX6_restOf_150 rfl (lv_at hl 2 rfl) ?_
        refine lv_aload_n hx hb dX6_restOf_151 rfl (lv_at hl 1 rfl) ?_
        refine q_aload_n hx hb dX6_restOf_152 rfl (lv_at hl 0 rfl) ?_
        refine lv_aload_n hx hb dX6_restOf_153 rfl (lv_at hl 2 rfl) ?_
        refine q_getN C hP fgc rfl inX5 2 (by decide) (by decide +kernel) rfl dX6_restOf_154 ?_
        refine lv_aload_n hx hb dX6_restOf_157 rfl (lv_at hl 2 rfl) ?_
        refine q_getN C hP fgc rfl inX5 3 (by decide) (by decide +kernel) rfl dX6_restOf_158 ?_
        have hcall2 := z_siftedFrom l D cy N0 hh13 x mk sl bl kr vr ed gw1 R o1 a1 k1 Bd sk Rn dp1 d (xForce R d) s1 (k.2.2.2.2.2.1 cc) (k.2.2.2.2.2.2.1 cc) W9 hz2 w1 hf1 hF hG ⟨z5.1, by omega⟩ (i7 y1) (by rw [eW, xThen, if_neg (show ¬ (k.2.2.1 cc) = 3 by omega), if_pos y1])
        rw [esv] at hcall2
        refine q_callV (rest := [.ref ga]) C (hcall2) kX6_siftedFrom g687 g689 rfl gp18 g1 hP hS hz2x (by first | decide | omega) hl.1 rfl (by simp [q_catrf, q_cati, q_catl, q_cata, q_catn]) (by first | decide | omega) dX6_restOf_161 (fun q ce E h' H1 locs1 hE hP hS hc1 hc2 hc3 => by obtain ⟨hE1, gw2, ag2, hz3, hH3⟩ := hE; have hf2 : ¬ oFq W9.2.1 = 0 := hE1.elim (fun y z => absurd (z.symm.trans y.2) (by decide)) (fun y z => absurd (z.symm.trans y.2) (by decide)); have eX : X = (0, W9.2) := (by rw [hX2, if_pos hf2]); exact q_out C hP hS hc1 hc2 hc3 (by rw [eX]; exact ⟨hE1, gw2, fun s hs => (ag2 s (by omega)).trans (ag1 s hs), hz3, hHc.tr hH3⟩) (by omega)) (fun v hh14 H locs hq hP hS => ?_)
        obtain ⟨hf2, gw2, ag2, rfl, hz3, hH3⟩ := hq
        have hz3x := hz3.1
        obtain ⟨dn2, rst2, fgd⟩ := hH3.2.1 _ _ _ _ _ _ _ _ _ _ _ fgc
        have eg2 : gw2 cc = ga := (ag2 cc (by omega)).trans eg1
        have hHd := hHc.tr hH3
        have agd : ∀ s, s < a.1 → gw2 s = g s := fun s hs => (ag2 s (by omega)).trans (ag1 s hs)
        refine q_callVN (host := RX6) (rest := []) C (c_X5_finish l D cy N0 hh14 (zO gw2 W9.1) ga (a.2.2.1 cc) (k.2.2.2.2.2.2.1 cc) (nI 4) (nI (k.2.2.2.2.2.1 cc)) num dn2 (.ref (g (k.2.2.2.2.1 cc))) (va_rf beh) (va_rf row) rst2 fgd) kX5_finish (by decide +kernel) g578 rfl gp12 hP hS fgd (by first | decide | omega) hl.1 rfl (by decide) (by first | decide | omega) dX6_restOf_164 (fun v hh15 H locs hq hP hS => ?_)
        obtain ⟨rfl, rfl⟩ := hq
        replace hP : qP D N0 (qs hh14 ga (.inr (5, [.long (a.2.2.1 cc), .int (nI 4), .int (nI (k.2.2.2.2.2.1 cc)), .long (k.2.2.2.2.2.2.1 cc), .int num, .ref (g (k.2.2.2.2.1 cc)), va_rf beh, va_rf row, .int 1, va_rf (zO gw2 W9.1)]))) H := hP
        have fge : (qs hh14 ga (.inr (5, [.long (a.2.2.1 cc), .int (nI 4), .int (nI (k.2.2.2.2.2.1 cc)), .long (k.2.2.2.2.2.2.1 cc), .int num, .ref (g (k.2.2.2.2.1 cc)), va_rf beh, va_rf row, .int 1, va_rf (zO gw2 W9.1)]))) ga = some (.inr (5, [.long (a.2.2.1 cc), .int (nI 4), .int (nI (k.2.2.2.2.2.1 cc)), .long (k.2.2.2.2.2.2.1 cc), .int num, .ref (g (k.2.2.2.2.1 cc)), va_rf beh, va_rf row, .int 1, va_rf (zO gw2 W9.1)])) := qs_self
        refine lv_goto (tgt := 199) hx hb dX6_restOf_167 (by decide) ?_
        refine lv_aload_n hx hb dX6_restOf_199 rfl (lv_at hl 2 rfl) ?_
        refine q_getN C hP fge rfl inX5 9 (by decide) (by decide +kernel) rfl dX6_restOf_200 ?_
        have eX : X = (W9.1, W9.2.1, W9.2.2.1, xSetC W9.2.2.2 cc W9.1) := by rw [hX2, if_neg (fun z => z hf2)]
        have e1 := hfst cc hcc
        have hzk : zW hh14 x mk sl bl kr vr ed gw2 R (W9.2.1, W9.2.2.1, W9.2.2.2) := by first | exact hz3 | (rw [eW]; exact hz3)
        have hh9 : hh14 (gw2 cc) = some (.inr (5, [.long (W9.2.2.1.2.2.1 cc), .int (nI 4), .int (nI (k.2.2.2.2.2.1 cc)), .long (k.2.2.2.2.2.2.1 cc), .int num, .ref (g (k.2.2.2.2.1 cc)), va_rf beh, va_rf row, .int dn2, rst2])) := by rw [eg2, e1]; exact fgd
        have hzf := hzk.fin hw9 (c := cc) (s := W9.1) hc1 (by omega) (src := (some (g (k.2.2.2.2.1 cc)))) (beh := beh) (row := row) hh9
        rw [eg2, e1] at hzf
        exact q_aret (v := (zO gw2 W9.1)) C (Or.inl ⟨_, rfl⟩) hP hS ⟨by rw [eX]; exact hf2, gw2, agd, by rw [eX]; skip, by rw [eX]; exact hzf, hHd.tr (zH.set5 fgd)⟩ (by omega) dX6_restOf_203
      · replace y2 : way = nI 5 := y2
        subst y2
        subst y3
        obtain ⟨s1, o1, a1, k1, er1⟩ : ∃ z1 z2 z3 z4, xForce R d ((oMv o (oMq o + nI 1)), a, k) (k.2.2.2.2.1 cc) = (z1, z2, z3, z4) := ⟨_, _, _, _, rfl⟩
        have hso := i5 (by omega)
        have st1 := hG _ dp ((oMv o (oMq o + nI 1)), a, k) (k.2.2.2.2.1 cc) hV1 hfa hso.1 (by omega)
        rw [er1] at st1
        obtain ⟨dp1, d1, w1, d3, d4, d5, -, d7⟩ := st1
        dsimp only at d1 d3 d4 d5 w1 d7
        have hp1 : 1 ≤ a1.1 ∧ a1.1 ≤ a1.2.1 := w1.p
        have eW : W9 = if ¬ oFq o1 = 0 then (0, o1, a1, k1) else xThen (xForce R d) (k.2.2.1 cc) (k.2.2.2.2.2.1 cc) (k.2.2.2.2.2.2.1 cc) (o1, a1, k1) s1 := by rw [← er9]; unfold xWork; rw [if_neg (show ¬ (k.2.2.1 cc) = 1 by omega), if_neg (show ¬ (k.2.2.1 cc) = 2 by omega)]; dsimp only; rw [er1]
        have hm1 : (if oFq o1 = 0 then 0 else 1) ≤ (if oFq W9.2.1 = 0 then 0 else 1) ∧ (if oFq o1 = 0 then 0 else 6) ≤ (if oFq W9.2.1 = 0 then 0 else 6) := by
          by_cases z : ¬ oFq o1 = 0
          · rw [eW, if_pos z]; exact ⟨Nat.le_refl _, Nat.le_refl _⟩
          · rw [if_pos (Decidable.not_not.mp z), if_pos (Decidable.not_not.mp z)]; exact ⟨Nat.zero_le _, Nat.zero_le _⟩
        have hm0 : a1.1 ≤ W9.2.2.1.1 := by
          by_cases z : ¬ oFq o1 = 0
          · rw [eW, if_pos z]; exact Nat.le_refl _
          · rw [eW, if_neg z]; have z2 := d5 (Decidable.not_not.mp z); obtain ⟨_, _, _, z3, _⟩ := xThen_stp (dc := d + 1) hG w1 (Decidable.not_not.mp z) (rc := (k.2.2.1 cc)) (n := (k.2.2.2.2.2.1 cc)) (s := s1) (c := (k.2.2.2.2.2.2.1 cc)) ⟨z2.1, by omega, by omega⟩ i6 i7 i8 (fun y => ⟨by have := (i9 y).1; show (k.2.2.2.2.2.1 cc) < a1.1; omega, by rw [d1 _ (i9 y).1]; have := (i9 y).2; omega⟩) ⟨by omega, i1⟩; exact z3
        refine lv_aload_n hx hb dX6_restOf_17 rfl (lv_at hl 1 rfl) ?_
        refine q_getN C hP fgb rfl inX5 5 (by decide) (by decide +kernel) rfl dX6_restOf_18 ?_
        refine lv_ifnonnull (tgt := 28) hx hb dX6_restOf_21 (by decide) ?_
        refine lv_aload_n hx hb dX6_restOf_28 rfl (lv_at hl 0 rfl) ?_
        refine lv_aload_n hx hb dX6_restOf_29 rfl (lv_at hl 1 rfl) ?_
        refine q_getN C hP fgb rfl inX5 5 (by decide) (by decide +kernel) rfl dX6_restOf_30 ?_
        have hcall := hF (qs h x (.inr (6, [.int mk, .ref sl, .ref bl, .ref kr, .ref vr, .int (oCq (oMv o (oMq o + nI 1))), .int (oMq (oMv o (oMq o + nI 1))), .int ed]))) g (oMv o (oMq o + nI 1)) a k _ dp (k.2.2.2.2.1 cc) hz1 hV1 hfa (by omega) hso.1 (by omega)
        rw [er1] at hcall
        dsimp only at hcall
        refine q_callV (rest := []) C (hcall) kX6_restOf g637 g639 rfl gp14 g1 hP hS hxy (by first | decide | omega) hl.1 rfl (by decide) (by first | decide | omega) dX6_restOf_33 (fun q ce E h' H1 locs1 hE hP hS hc1 hc2 hc3 => by obtain ⟨hE1, gw2, ag2, hz2, hH2⟩ := hE; have hf2 : ¬ oFq o1 = 0 := hE1.elim (fun y z => absurd (z.symm.trans y.2) (by decide)) (fun y z => absurd (z.symm.trans y.2) (by decide)); rw [if_pos hf2] at eW; have eX : X = (0, o1, a1, k1) := (by rw [hX2, eW, if_pos hf2]); exact q_out C hP hS hc1 hc2 hc3 (by rw [eX]; exact ⟨hE1, gw2, ag2, hz2, hH1.tr hH2⟩) (by omega)) (fun v hh16 H locs hq hP hS => ?_)
        obtain ⟨hf1, gw1, ag1, rfl, hz2, hH2⟩ := hq
        dsimp only
        have hz2x := hz2.1
        have e60 : (if oFq o1 = 0 then 0 else 1) = 0 ∧ (if oFq o1 = 0 then 0 else 6) = 0 := ⟨if_pos hf1, if_pos hf1⟩
        rw [if_neg (fun z => z hf1)] at eW
        obtain ⟨dn1, rst1, fgc⟩ := hH2.2.1 _ _ _ _ _ _ _ _ _ _ _ fgb
        have eg1 : gw1 cc = ga := (ag1 cc hcc).trans ega
        have z5 := d5 hf1
        obtain ⟨sv, esv⟩ : ∃ z, zO gw1 s1 = z := ⟨_, rfl⟩
        rw [esv]
        have hHc := hH1.tr hH2
        refine q_astore_n (lv' := [(2, va_rf sv), (0, .ref x), (1, .ref ga)]) hx hb dX6_restOf_36 rfl hl (by decide) rfl (fun ls hl => ?_)
        refine lv_aload_n hx hb dX6_restOf_37 rfl (lv_at hl 2 rfl) ?_
        refine q_get C hP fgc rfl inX5 1 (by decide) g538 rfl dX6_restOf_38 ?_
        refine lv_tableIn (tgt := 170) (off := 129) hx hb dX6_restOf_41 (by decide +kernel) (by decide +kernel) (by decide +kernel) (by decide) ?_
        by_cases c5 : s1 = 0
        · have esn : sv = none := by rw [← esv, c5, zO_z]
          subst esn
          refine lv_aload_n hx hb dX6_restOf_170 rfl (lv_at hl 2 rfl) ?_
          refine lv_aload_nN hx hb dX6_restOf_171 rfl (lv_at hl 0 rfl) ?_
          refine lv_aload_n hx hb dX6_restOf_172 rfl (lv_at hl 2 rfl) ?_
          refine q_getN C hP fgc rfl inX5 4 (by decide) (by decide +kernel) rfl dX6_restOf_173 ?_
          refine lv_iconst (v := nI 1) hx hb dX6_restOf_176 (by decide) ?_
          refine q_isubN hx hb dX6_restOf_177 (by omega) ?_
          have ejj : (k.2.2.2.2.2.1 cc) + 1 - 1 = (k.2.2.2.2.2.1 cc) := by omega
          have hot := i8 y1
          rw [xThen, if_neg (show ¬ (k.2.2.1 cc) = 3 by omega), if_neg (show ¬ (k.2.2.1 cc) = 4 by omega), if_pos y1] at eW
          unfold xTak at eW
          have hcc1 : cc < a1.1 := by omega
          have hf2 : oFq W9.2.1 = 0 := by rw [eW]; exact hf1
          have e10 : (if (none : Option Nat) = none ∨ (k.2.2.2.2.2.1 cc) + 1 - 1 = 0 then 0 else 1) = 0 ∧ (if (none : Option Nat) = none ∨ (k.2.2.2.2.2.1 cc) + 1 - 1 = 0 then 0 else 10) = 0 := ⟨if_pos (Or.inl rfl), if_pos (Or.inl rfl)⟩
          have eA : W9.2.2.1.1 = a1.1 := by rw [eW, if_pos (Or.inl c5)]
          refine q_callS (rest := [.ref ga]) C (c_X5_taken l D cy N0 hh16 none ((k.2.2.2.2.2.1 cc) + 1 - 1) 0 0 0 0 0 0 .null .null .null .null (fun sq e => by cases e) (by omega)) kX5_taken g701 g702 hP hS (by first | decide | omega) hl.1 rfl (by simp [q_catrf, q_cati, q_catl, q_cata, q_catn]) (by first | decide | omega) dX6_restOf_178 (fun q ce E h' H1 locs1 hE => hE.elim) (fun v hh17 H locs hq hP hS => ?_)
          rcases hq with ⟨rfl, rfl, hor⟩ | ⟨sq, q, esq, rfl, oq, hq⟩
          · have hc0 : s1 = 0 ∨ (k.2.2.2.2.2.1 cc) = 0 := by exact Or.inl c5
            rw [if_pos hc0] at eW
            refine q_callVN (host := RX6) (rest := []) C (c_X5_finish l D cy N0 hh16 none ga (a.2.2.1 cc) cc0 (nI 5) cod (nI ((k.2.2.2.2.2.1 cc) + 1)) dn1 (.ref (g (k.2.2.2.2.1 cc))) (va_rf beh) (va_rf row) rst1 fgc) kX5_finish (by decide +kernel) g578 rfl gp12 hP hS fgc (by first | decide | omega) hl.1 rfl (by decide) (by first | decide | omega) dX6_restOf_181 (fun v hh18 H locs hq hP hS => ?_)
            obtain ⟨rfl, rfl⟩ := hq
            replace hP : qP D N0 (qs hh16 ga (.inr (5, [.long (a.2.2.1 cc), .int (nI 5), .int cod, .long cc0, .int (nI ((k.2.2.2.2.2.1 cc) + 1)), .ref (g (k.2.2.2.2.1 cc)), va_rf beh, va_rf row, .int 1, va_rf none]))) H := hP
            have fge : (qs hh16 ga (.inr (5, [.long (a.2.2.1 cc), .int (nI 5), .int cod, .long cc0, .int (nI ((k.2.2.2.2.2.1 cc) + 1)), .ref (g (k.2.2.2.2.1 cc)), va_rf beh, va_rf row, .int 1, va_rf none]))) ga = some (.inr (5, [.long (a.2.2.1 cc), .int (nI 5), .int cod, .long cc0, .int (nI ((k.2.2.2.2.2.1 cc) + 1)), .ref (g (k.2.2.2.2.1 cc)), va_rf beh, va_rf row, .int 1, va_rf none])) := qs_self
            refine lv_goto (tgt := 199) hx hb dX6_restOf_184 (by decide) ?_
            refine lv_aload_n hx hb dX6_restOf_199 rfl (lv_at hl 2 rfl) ?_
            refine q_getN C hP fge rfl inX5 9 (by decide) (by decide +kernel) rfl dX6_restOf_200 ?_
            have eX : X = (W9.1, W9.2.1, W9.2.2.1, xSetC W9.2.2.2 cc W9.1) := by rw [hX2, if_neg (fun z => z hf2)]
            have e1 := hfst cc hcc
            have hzk : zW hh16 x mk sl bl kr vr ed gw1 R (W9.2.1, W9.2.2.1, W9.2.2.2) := by first | exact hz2 | (rw [eW]; exact hz2)
            have hh9 : hh16 (gw1 cc) = some (.inr (5, [.long (W9.2.2.1.2.2.1 cc), .int (nI 5), .int cod, .long cc0, .int (nI ((k.2.2.2.2.2.1 cc) + 1)), .ref (g (k.2.2.2.2.1 cc)), va_rf beh, va_rf row, .int dn1, rst1])) := by rw [eg1, e1]; exact fgc
            have hzf := hzk.fin hw9 (c := cc) (s := W9.1) hc1 (by omega) (src := (some (g (k.2.2.2.2.1 cc)))) (beh := beh) (row := row) hh9
            rw [eg1, e1] at hzf
            have ez9 : zO gw1 W9.1 = none := by rw [eW]; exact zO_z
            rw [ez9] at hzf
            exact q_aret (v := none) C (Or.inl ⟨_, rfl⟩) hP hS ⟨by rw [eX]; exact hf2, gw1, ag1, by rw [eX]; rw [ez9], by rw [eX]; exact hzf, hHc.tr (zH.set5 fgc)⟩ (by omega) dX6_restOf_203
          · cases esq
        · obtain ⟨wa, ca, cca, na, sa, ba, ra, da, ta, fsa, -⟩ := hz2.2.1 s1 (by omega) z5.1
          obtain ⟨gb, egb⟩ : ∃ z, gw1 s1 = z := ⟨_, rfl⟩
          rw [egb] at fsa
          have esn : sv = some gb := by rw [← esv, zO_s c5, egb]
          subst esn
          by_cases ct5 : (k.2.2.2.2.2.1 cc) = 0
          · refine lv_aload_n hx hb dX6_restOf_170 rfl (lv_at hl 2 rfl) ?_
            refine lv_aload_n hx hb dX6_restOf_171 rfl (lv_at hl 0 rfl) ?_
            refine lv_aload_n hx hb dX6_restOf_172 rfl (lv_at hl 2 rfl) ?_
            refine q_getN C hP fgc rfl inX5 4 (by decide) (by decide +kernel) rfl dX6_restOf_173 ?_
            refine lv_iconst (v := nI 1) hx hb dX6_restOf_176 (by decide) ?_
            refine q_isubN hx hb dX6_restOf_177 (by omega) ?_
            have ejj : (k.2.2.2.2.2.1 cc) + 1 - 1 = (k.2.2.2.2.2.1 cc) := by omega
            have hot := i8 y1
            rw [xThen, if_neg (show ¬ (k.2.2.1 cc) = 3 by omega), if_neg (show ¬ (k.2.2.1 cc) = 4 by omega), if_pos y1] at eW
            unfold xTak at eW
            have hcc1 : cc < a1.1 := by omega
            have hf2 : oFq W9.2.1 = 0 := by rw [eW]; exact hf1
            have e10 : (if some gb = none ∨ (k.2.2.2.2.2.1 cc) + 1 - 1 = 0 then 0 else 1) = 0 ∧ (if some gb = none ∨ (k.2.2.2.2.2.1 cc) + 1 - 1 = 0 then 0 else 10) = 0 := ⟨if_pos (Or.inr (by omega)), if_pos (Or.inr (by omega))⟩
            have eA : W9.2.2.1.1 = a1.1 := by rw [eW, if_pos (Or.inr ct5)]
            refine q_callS (rest := [.ref ga]) C (c_X5_taken l D cy N0 hh16 (some gb) ((k.2.2.2.2.2.1 cc) + 1 - 1) (a1.2.2.1 s1) cca wa ca na da (va_rf sa) (va_rf ba) (va_rf ra) (va_rf ta) (fun sq e => by cases e; exact fsa) (by omega)) kX5_taken g701 g702 hP hS (by first | decide | omega) hl.1 rfl (by simp [q_catrf, q_cati, q_catl, q_cata, q_catn]) (by first | decide | omega) dX6_restOf_178 (fun q ce E h' H1 locs1 hE => hE.elim) (fun v hh19 H locs hq hP hS => ?_)
            rcases hq with ⟨rfl, rfl, hor⟩ | ⟨sq, q, esq, rfl, oq, hq⟩
            · have hc0 : s1 = 0 ∨ (k.2.2.2.2.2.1 cc) = 0 := by exact Or.inr (hor.elim (fun z => by cases z) (fun z => by omega))
              rw [if_pos hc0] at eW
              refine q_callVN (host := RX6) (rest := []) C (c_X5_finish l D cy N0 hh16 none ga (a.2.2.1 cc) cc0 (nI 5) cod (nI ((k.2.2.2.2.2.1 cc) + 1)) dn1 (.ref (g (k.2.2.2.2.1 cc))) (va_rf beh) (va_rf row) rst1 fgc) kX5_finish (by decide +kernel) g578 rfl gp12 hP hS fgc (by first | decide | omega) hl.1 rfl (by decide) (by first | decide | omega) dX6_restOf_181 (fun v hh20 H locs hq hP hS => ?_)
              obtain ⟨rfl, rfl⟩ := hq
              replace hP : qP D N0 (qs hh16 ga (.inr (5, [.long (a.2.2.1 cc), .int (nI 5), .int cod, .long cc0, .int (nI ((k.2.2.2.2.2.1 cc) + 1)), .ref (g (k.2.2.2.2.1 cc)), va_rf beh, va_rf row, .int 1, va_rf none]))) H := hP
              have fge : (qs hh16 ga (.inr (5, [.long (a.2.2.1 cc), .int (nI 5), .int cod, .long cc0, .int (nI ((k.2.2.2.2.2.1 cc) + 1)), .ref (g (k.2.2.2.2.1 cc)), va_rf beh, va_rf row, .int 1, va_rf none]))) ga = some (.inr (5, [.long (a.2.2.1 cc), .int (nI 5), .int cod, .long cc0, .int (nI ((k.2.2.2.2.2.1 cc) + 1)), .ref (g (k.2.2.2.2.1 cc)), va_rf beh, va_rf row, .int 1, va_rf none])) := qs_self
              refine lv_goto (tgt := 199) hx hb dX6_restOf_184 (by decide) ?_
              refine lv_aload_n hx hb dX6_restOf_199 rfl (lv_at hl 2 rfl) ?_
              refine q_getN C hP fge rfl inX5 9 (by decide) (by decide +kernel) rfl dX6_restOf_200 ?_
              have eX : X = (W9.1, W9.2.1, W9.2.2.1, xSetC W9.2.2.2 cc W9.1) := by rw [hX2, if_neg (fun z => z hf2)]
              have e1 := hfst cc hcc
              have hzk : zW hh16 x mk sl bl kr vr ed gw1 R (W9.2.1, W9.2.2.1, W9.2.2.2) := by first | exact hz2 | (rw [eW]; exact hz2)
              have hh9 : hh16 (gw1 cc) = some (.inr (5, [.long (W9.2.2.1.2.2.1 cc), .int (nI 5), .int cod, .long cc0, .int (nI ((k.2.2.2.2.2.1 cc) + 1)), .ref (g (k.2.2.2.2.1 cc)), va_rf beh, va_rf row, .int dn1, rst1])) := by rw [eg1, e1]; exact fgc
              have hzf := hzk.fin hw9 (c := cc) (s := W9.1) hc1 (by omega) (src := (some (g (k.2.2.2.2.1 cc)))) (beh := beh) (row := row) hh9
              rw [eg1, e1] at hzf
              have ez9 : zO gw1 W9.1 = none := by rw [eW]; exact zO_z
              rw [ez9] at hzf
              exact q_aret (v := none) C (Or.inl ⟨_, rfl⟩) hP hS ⟨by rw [eX]; exact hf2, gw1, ag1, by rw [eX]; rw [ez9], by rw [eX]; exact hzf, hHc.tr (zH.set5 fgc)⟩ (by omega) dX6_restOf_203
            · exact absurd ct5 (by rcases hq with ⟨z, -⟩ | ⟨z, -⟩ <;> omega)
          · refine lv_aload_n hx hb dX6_restOf_170 rfl (lv_at hl 2 rfl) ?_
            refine lv_aload_n hx hb dX6_restOf_171 rfl (lv_at hl 0 rfl) ?_
            refine lv_aload_n hx hb dX6_restOf_172 rfl (lv_at hl 2 rfl) ?_
            refine q_getN C hP fgc rfl inX5 4 (by decide) (by decide +kernel) rfl dX6_restOf_173 ?_
            refine lv_iconst (v := nI 1) hx hb dX6_restOf_176 (by decide) ?_
            refine q_isubN hx hb dX6_restOf_177 (by omega) ?_
            have ejj : (k.2.2.2.2.2.1 cc) + 1 - 1 = (k.2.2.2.2.2.1 cc) := by omega
            have hot := i8 y1
            rw [xThen, if_neg (show ¬ (k.2.2.1 cc) = 3 by omega), if_neg (show ¬ (k.2.2.1 cc) = 4 by omega), if_pos y1] at eW
            unfold xTak at eW
            have hcc1 : cc < a1.1 := by omega
            have hf2 : oFq W9.2.1 = 0 := by rw [eW]; exact hf1
            have e10 : (if some gb = none ∨ (k.2.2.2.2.2.1 cc) + 1 - 1 = 0 then 0 else 1) = 1 ∧ (if some gb = none ∨ (k.2.2.2.2.2.1 cc) + 1 - 1 = 0 then 0 else 10) = 10 := ⟨if_neg (fun z => z.elim (fun z => by cases z) (fun z => by omega)), if_neg (fun z => z.elim (fun z => by cases z) (fun z => by omega))⟩
            have eA : W9.2.2.1.1 = a1.1 + 1 := by rw [eW]; rw [xTak_n c5, if_neg ct5]
            refine q_callS (rest := [.ref ga]) C (c_X5_taken l D cy N0 hh16 (some gb) ((k.2.2.2.2.2.1 cc) + 1 - 1) (a1.2.2.1 s1) cca wa ca na da (va_rf sa) (va_rf ba) (va_rf ra) (va_rf ta) (fun sq e => by cases e; exact fsa) (by omega)) kX5_taken g701 g702 hP hS (by first | decide | omega) hl.1 rfl (by simp [q_catrf, q_cati, q_catl, q_cata, q_catn]) (by first | decide | omega) dX6_restOf_178 (fun q ce E h' H1 locs1 hE => hE.elim) (fun v hh21 H locs hq hP hS => ?_)
            rcases hq with ⟨rfl, rfl, hor⟩ | ⟨sq, q, esq, rfl, oq, hq⟩
            · exact absurd hor (fun z => z.elim (fun z => by cases z) (fun z => by omega))
            · cases esq
              rcases hq with ⟨hj1, rfl⟩ | ⟨hj1, rfl⟩
              · rw [if_neg (fun z => z.elim c5 (fun z => by omega)), if_pos (by omega)] at eW
                have hra : a1.2.2.2 s1 = s1 := w1.r s1 z5.1
                replace hP : qP D N0 (qs hh16 q (.inr (5, [.long (a1.2.2.1 s1), .int 0, .int 0, .long 0, .int 0, .null, .null, .null, .int 1, .null]))) H := hP
                have hz3 := hz2.new w1 (q := q) (x0 := (a1.2.2.1 s1)) (rr := k1.1) (way := 0) (cod := 0) (cc := 0) (num := 0) (src := none) (beh := none) (row := none) (dn := 1) (rst := none) oq (xRdy_u w1 (s := 0)) (Or.inl ⟨rfl, rfl, by rw [zO_z]⟩)
                have hHd := hHc.tr (zH.new (x := x) (e := (.inr (5, [.long (a1.2.2.1 s1), .int 0, .int 0, .long 0, .int 0, .null, .null, .null, .int 1, .null]) : va_E)) oq)
                have nga : ga ≠ q := fun z => by have z8 := fgc; rw [z, oq] at z8; cases z8
                have fgd := (qs_ne (h := hh16) (a := q) (o := (.inr (5, [.long (a1.2.2.1 s1), .int 0, .int 0, .long 0, .int 0, .null, .null, .null, .int 1, .null]))) nga).trans fgc
                have eg2 : qU gw1 a1.1 q cc = ga := (qU_ne (by omega)).trans eg1
                have agd : ∀ s, s < a.1 → qU gw1 a1.1 q s = g s := fun s hs => (qU_ne (by omega)).trans (ag1 s hs)
                have ezo : zO (qU gw1 a1.1 q) a1.1 = some q := by rw [zO_s (by omega), qU_at]
                refine q_callVN (host := RX6) (rest := []) C (c_X5_finish l D cy N0 (qs hh16 q (.inr (5, [.long (a1.2.2.1 s1), .int 0, .int 0, .long 0, .int 0, .null, .null, .null, .int 1, .null]))) (some q) ga (a.2.2.1 cc) cc0 (nI 5) cod (nI ((k.2.2.2.2.2.1 cc) + 1)) dn1 (.ref (g (k.2.2.2.2.1 cc))) (va_rf beh) (va_rf row) rst1 fgd) kX5_finish (by decide +kernel) g578 rfl gp12 hP hS fgd (by first | decide | omega) hl.1 rfl (by decide) (by first | decide | omega) dX6_restOf_181 (fun v hh22 H locs hq hP hS => ?_)
                obtain ⟨rfl, rfl⟩ := hq
                replace hP : qP D N0 (qs (qs hh16 q (.inr (5, [.long (a1.2.2.1 s1), .int 0, .int 0, .long 0, .int 0, .null, .null, .null, .int 1, .null]))) ga (.inr (5, [.long (a.2.2.1 cc), .int (nI 5), .int cod, .long cc0, .int (nI ((k.2.2.2.2.2.1 cc) + 1)), .ref (g (k.2.2.2.2.1 cc)), va_rf beh, va_rf row, .int 1, va_rf (some q)]))) H := hP
                have fge : (qs (qs hh16 q (.inr (5, [.long (a1.2.2.1 s1), .int 0, .int 0, .long 0, .int 0, .null, .null, .null, .int 1, .null]))) ga (.inr (5, [.long (a.2.2.1 cc), .int (nI 5), .int cod, .long cc0, .int (nI ((k.2.2.2.2.2.1 cc) + 1)), .ref (g (k.2.2.2.2.1 cc)), va_rf beh, va_rf row, .int 1, va_rf (some q)]))) ga = some (.inr (5, [.long (a.2.2.1 cc), .int (nI 5), .int cod, .long cc0, .int (nI ((k.2.2.2.2.2.1 cc) + 1)), .ref (g (k.2.2.2.2.1 cc)), va_rf beh, va_rf row, .int 1, va_rf (some q)])) := qs_self
                refine lv_goto (tgt := 199) hx hb dX6_restOf_184 (by decide) ?_
                refine lv_aload_n hx hb dX6_restOf_199 rfl (lv_at hl 2 rfl) ?_
                refine q_getN C hP fge rfl inX5 9 (by decide) (by decide +kernel) rfl dX6_restOf_200 ?_
                have eX : X = (W9.1, W9.2.1, W9.2.2.1, xSetC W9.2.2.2 cc W9.1) := by rw [hX2, if_neg (fun z => z hf2)]
                have e1 := hfst cc hcc
                have hzk : zW (qs hh16 q (.inr (5, [.long (a1.2.2.1 s1), .int 0, .int 0, .long 0, .int 0, .null, .null, .null, .int 1, .null]))) x mk sl bl kr vr ed (qU gw1 a1.1 q) R (W9.2.1, W9.2.2.1, W9.2.2.2) := by first | exact hz3 | (rw [eW]; exact hz3)
                have hh9 : (qs hh16 q (.inr (5, [.long (a1.2.2.1 s1), .int 0, .int 0, .long 0, .int 0, .null, .null, .null, .int 1, .null]))) ((qU gw1 a1.1 q) cc) = some (.inr (5, [.long (W9.2.2.1.2.2.1 cc), .int (nI 5), .int cod, .long cc0, .int (nI ((k.2.2.2.2.2.1 cc) + 1)), .ref (g (k.2.2.2.2.1 cc)), va_rf beh, va_rf row, .int dn1, rst1])) := by rw [eg2, e1]; exact fgd
                have hzf := hzk.fin hw9 (c := cc) (s := W9.1) hc1 (by omega) (src := (some (g (k.2.2.2.2.1 cc)))) (beh := beh) (row := row) hh9
                rw [eg2, e1] at hzf
                have ez9 : zO (qU gw1 a1.1 q) W9.1 = (some q) := by rw [eW]; exact ezo
                rw [ez9] at hzf
                exact q_aret (v := (some q)) C (Or.inl ⟨_, rfl⟩) hP hS ⟨by rw [eX]; exact hf2, (qU gw1 a1.1 q), agd, by rw [eX]; rw [ez9], by rw [eX]; exact hzf, hHd.tr (zH.set5 fgd)⟩ (by omega) dX6_restOf_203
              · rw [if_neg (fun z => z.elim c5 (fun z => by omega)), if_neg (by omega)] at eW
                have hra : a1.2.2.2 s1 = s1 := w1.r s1 z5.1
                rw [hra] at eW
                replace hP : qP D N0 (qs hh16 q (.inr (5, [.long (a1.2.2.1 s1), .int 5, .int 0, .long 0, .int (nI ((k.2.2.2.2.2.1 cc) + 1 - 1)), .ref gb, .null, .null, .int 0, .null]))) H := hP
                have hz3 := hz2.new w1 (q := q) (x0 := (a1.2.2.1 s1)) (rr := k1.1) (way := 5) (cod := 0) (cc := 0) (num := (nI ((k.2.2.2.2.2.1 cc) + 1 - 1))) (src := (some gb)) (beh := none) (row := none) (dn := 0) (rst := none) oq (xCell_u w1 (kd := 5) (s := s1) (t := ((k.2.2.2.2.2.1 cc) - 1)) (c := 0) (y := 0)) (Or.inr ⟨rfl, Or.inr (Or.inr (Or.inr (Or.inr (Or.inl ⟨rfl, rfl, by congr 1; omega, by rw [qU_ne (by omega), egb], c5⟩))))⟩)
                have hHd := hHc.tr (zH.new (x := x) (e := (.inr (5, [.long (a1.2.2.1 s1), .int 5, .int 0, .long 0, .int (nI ((k.2.2.2.2.2.1 cc) + 1 - 1)), .ref gb, .null, .null, .int 0, .null]) : va_E)) oq)
                have nga : ga ≠ q := fun z => by have z8 := fgc; rw [z, oq] at z8; cases z8
                have fgd := (qs_ne (h := hh16) (a := q) (o := (.inr (5, [.long (a1.2.2.1 s1), .int 5, .int 0, .long 0, .int (nI ((k.2.2.2.2.2.1 cc) + 1 - 1)), .ref gb, .null, .null, .int 0, .null]))) nga).trans fgc
                have eg2 : qU gw1 a1.1 q cc = ga := (qU_ne (by omega)).trans eg1
                have agd : ∀ s, s < a.1 → qU gw1 a1.1 q s = g s := fun s hs => (qU_ne (by omega)).trans (ag1 s hs)
                have ezo : zO (qU gw1 a1.1 q) a1.1 = some q := by rw [zO_s (by omega), qU_at]
                refine q_callVN (host := RX6) (rest := []) C (c_X5_finish l D cy N0 (qs hh16 q (.inr (5, [.long (a1.2.2.1 s1), .int 5, .int 0, .long 0, .int (nI ((k.2.2.2.2.2.1 cc) + 1 - 1)), .ref gb, .null, .null, .int 0, .null]))) (some q) ga (a.2.2.1 cc) cc0 (nI 5) cod (nI ((k.2.2.2.2.2.1 cc) + 1)) dn1 (.ref (g (k.2.2.2.2.1 cc))) (va_rf beh) (va_rf row) rst1 fgd) kX5_finish (by decide +kernel) g578 rfl gp12 hP hS fgd (by first | decide | omega) hl.1 rfl (by decide) (by first | decide | omega) dX6_restOf_181 (fun v hh23 H locs hq hP hS => ?_)
                obtain ⟨rfl, rfl⟩ := hq
                replace hP : qP D N0 (qs (qs hh16 q (.inr (5, [.long (a1.2.2.1 s1), .int 5, .int 0, .long 0, .int (nI ((k.2.2.2.2.2.1 cc) + 1 - 1)), .ref gb, .null, .null, .int 0, .null]))) ga (.inr (5, [.long (a.2.2.1 cc), .int (nI 5), .int cod, .long cc0, .int (nI ((k.2.2.2.2.2.1 cc) + 1)), .ref (g (k.2.2.2.2.1 cc)), va_rf beh, va_rf row, .int 1, va_rf (some q)]))) H := hP
                have fge : (qs (qs hh16 q (.inr (5, [.long (a1.2.2.1 s1), .int 5, .int 0, .long 0, .int (nI ((k.2.2.2.2.2.1 cc) + 1 - 1)), .ref gb, .null, .null, .int 0, .null]))) ga (.inr (5, [.long (a.2.2.1 cc), .int (nI 5), .int cod, .long cc0, .int (nI ((k.2.2.2.2.2.1 cc) + 1)), .ref (g (k.2.2.2.2.1 cc)), va_rf beh, va_rf row, .int 1, va_rf (some q)]))) ga = some (.inr (5, [.long (a.2.2.1 cc), .int (nI 5), .int cod, .long cc0, .int (nI ((k.2.2.2.2.2.1 cc) + 1)), .ref (g (k.2.2.2.2.1 cc)), va_rf beh, va_rf row, .int 1, va_rf (some q)])) := qs_self
                refine lv_goto (tgt := 199) hx hb dX6_restOf_184 (by decide) ?_
                refine lv_aload_n hx hb dX6_restOf_199 rfl (lv_at hl 2 rfl) ?_
                refine q_getN C hP fge rfl inX5 9 (by decide) (by decide +kernel) rfl dX6_restOf_200 ?_
                have eX : X = (W9.1, W9.2.1, W9.2.2.1, xSetC W9.2.2.2 cc W9.1) := by rw [hX2, if_neg (fun z => z hf2)]
                have e1 := hfst cc hcc
                have hzk : zW (qs hh16 q (.inr (5, [.long (a1.2.2.1 s1), .int 5, .int 0, .long 0, .int (nI ((k.2.2.2.2.2.1 cc) + 1 - 1)), .ref gb, .null, .null, .int 0, .null]))) x mk sl bl kr vr ed (qU gw1 a1.1 q) R (W9.2.1, W9.2.2.1, W9.2.2.2) := by first | exact hz3 | (rw [eW]; exact hz3)
                have hh9 : (qs hh16 q (.inr (5, [.long (a1.2.2.1 s1), .int 5, .int 0, .long 0, .int (nI ((k.2.2.2.2.2.1 cc) + 1 - 1)), .ref gb, .null, .null, .int 0, .null]))) ((qU gw1 a1.1 q) cc) = some (.inr (5, [.long (W9.2.2.1.2.2.1 cc), .int (nI 5), .int cod, .long cc0, .int (nI ((k.2.2.2.2.2.1 cc) + 1)), .ref (g (k.2.2.2.2.1 cc)), va_rf beh, va_rf row, .int dn1, rst1])) := by rw [eg2, e1]; exact fgd
                have hzf := hzk.fin hw9 (c := cc) (s := W9.1) hc1 (by omega) (src := (some (g (k.2.2.2.2.1 cc)))) (beh := beh) (row := row) hh9
                rw [eg2, e1] at hzf
                have ez9 : zO (qU gw1 a1.1 q) W9.1 = (some q) := by rw [eW]; exact ezo
                rw [ez9] at hzf
                exact q_aret (v := (some q)) C (Or.inl ⟨_, rfl⟩) hP hS ⟨by rw [eX]; exact hf2, (qU gw1 a1.1 q), agd, by rw [eX]; rw [ez9], by rw [eX]; exact hzf, hHd.tr (zH.set5 fgd)⟩ (by omega) dX6_restOf_203
      · replace y2 : way = nI 6 := y2
        subst y2
        subst y4
        obtain ⟨s1, o1, a1, k1, er1⟩ : ∃ z1 z2 z3 z4, xForce R d ((oMv o (oMq o + nI 1)), a, k) (k.2.2.2.2.1 cc) = (z1, z2, z3, z4) := ⟨_, _, _, _, rfl⟩
        have hso := i5 (by omega)
        have st1 := hG _ dp ((oMv o (oMq o + nI 1)), a, k) (k.2.2.2.2.1 cc) hV1 hfa hso.1 (by omega)
        rw [er1] at st1
        obtain ⟨dp1, d1, w1, d3, d4, d5, -, d7⟩ := st1
        dsimp only at d1 d3 d4 d5 w1 d7
        have hp1 : 1 ≤ a1.1 ∧ a1.1 ≤ a1.2.1 := w1.p
        have eW : W9 = if ¬ oFq o1 = 0 then (0, o1, a1, k1) else xThen (xForce R d) (k.2.2.1 cc) (k.2.2.2.2.2.1 cc) (k.2.2.2.2.2.2.1 cc) (o1, a1, k1) s1 := by rw [← er9]; unfold xWork; rw [if_neg (show ¬ (k.2.2.1 cc) = 1 by omega), if_neg (show ¬ (k.2.2.1 cc) = 2 by omega)]; dsimp only; rw [er1]
        have hm1 : (if oFq o1 = 0 then 0 else 1) ≤ (if oFq W9.2.1 = 0 then 0 else 1) ∧ (if oFq o1 = 0 then 0 else 6) ≤ (if oFq W9.2.1 = 0 then 0 else 6) := by
          by_cases z : ¬ oFq o1 = 0
          · rw [eW, if_pos z]; exact ⟨Nat.le_refl _, Nat.le_refl _⟩
          · rw [if_pos (Decidable.not_not.mp z), if_pos (Decidable.not_not.mp z)]; exact ⟨Nat.zero_le _, Nat.zero_le _⟩
        have hm0 : a1.1 ≤ W9.2.2.1.1 := by
          by_cases z : ¬ oFq o1 = 0
          · rw [eW, if_pos z]; exact Nat.le_refl _
          · rw [eW, if_neg z]; have z2 := d5 (Decidable.not_not.mp z); obtain ⟨_, _, _, z3, _⟩ := xThen_stp (dc := d + 1) hG w1 (Decidable.not_not.mp z) (rc := (k.2.2.1 cc)) (n := (k.2.2.2.2.2.1 cc)) (s := s1) (c := (k.2.2.2.2.2.2.1 cc)) ⟨z2.1, by omega, by omega⟩ i6 i7 i8 (fun y => ⟨by have := (i9 y).1; show (k.2.2.2.2.2.1 cc) < a1.1; omega, by rw [d1 _ (i9 y).1]; have := (i9 y).2; omega⟩) ⟨by omega, i1⟩; exact z3
        refine lv_aload_n hx hb dX6_restOf_17 rfl (lv_at hl 1 rfl) ?_
        refine q_getN C hP fgb rfl inX5 5 (by decide) (by decide +kernel) rfl dX6_restOf_18 ?_
        refine lv_ifnonnull (tgt := 28) hx hb dX6_restOf_21 (by decide) ?_
        refine lv_aload_n hx hb dX6_restOf_28 rfl (lv_at hl 0 rfl) ?_
        refine lv_aload_n hx hb dX6_restOf_29 rfl (lv_at hl 1 rfl) ?_
        refine q_getN C hP fgb rfl inX5 5 (by decide) (by decide +kernel) rfl dX6_restOf_30 ?_
        have hcall := hF (qs h x (.inr (6, [.int mk, .ref sl, .ref bl, .ref kr, .ref vr, .int (oCq (oMv o (oMq o + nI 1))), .int (oMq (oMv o (oMq o + nI 1))), .int ed]))) g (oMv o (oMq o + nI 1)) a k _ dp (k.2.2.2.2.1 cc) hz1 hV1 hfa (by omega) hso.1 (by omega)
        rw [er1] at hcall
        dsimp only at hcall
        refine q_callV (rest := []) C (hcall) kX6_restOf g637 g639 rfl gp14 g1 hP hS hxy (by first | decide | omega) hl.1 rfl (by decide) (by first | decide | omega) dX6_restOf_33 (fun q ce E h' H1 locs1 hE hP hS hc1 hc2 hc3 => by obtain ⟨hE1, gw2, ag2, hz2, hH2⟩ := hE; have hf2 : ¬ oFq o1 = 0 := hE1.elim (fun y z => absurd (z.symm.trans y.2) (by decide)) (fun y z => absurd (z.symm.trans y.2) (by decide)); rw [if_pos hf2] at eW; have eX : X = (0, o1, a1, k1) := (by rw [hX2, eW, if_pos hf2]); exact q_out C hP hS hc1 hc2 hc3 (by rw [eX]; exact ⟨hE1, gw2, ag2, hz2, hH1.tr hH2⟩) (by omega)) (fun v hh24 H locs hq hP hS => ?_)
        obtain ⟨hf1, gw1, ag1, rfl, hz2, hH2⟩ := hq
        dsimp only
        have hz2x := hz2.1
        have e60 : (if oFq o1 = 0 then 0 else 1) = 0 ∧ (if oFq o1 = 0 then 0 else 6) = 0 := ⟨if_pos hf1, if_pos hf1⟩
        rw [if_neg (fun z => z hf1)] at eW
        obtain ⟨dn1, rst1, fgc⟩ := hH2.2.1 _ _ _ _ _ _ _ _ _ _ _ fgb
        have eg1 : gw1 cc = ga := (ag1 cc hcc).trans ega
        have z5 := d5 hf1
        obtain ⟨sv, esv⟩ : ∃ z, zO gw1 s1 = z := ⟨_, rfl⟩
        rw [esv]
        have hHc := hH1.tr hH2
        refine q_astore_n (lv' := [(2, va_rf sv), (0, .ref x), (1, .ref ga)]) hx hb dX6_restOf_36 rfl hl (by decide) rfl (fun ls hl => ?_)
        refine lv_aload_n hx hb dX6_restOf_37 rfl (lv_at hl 2 rfl) ?_
        refine q_get C hP fgc rfl inX5 1 (by decide) g538 rfl dX6_restOf_38 ?_
        refine lv_tableOut (tgt := 187) hx hb dX6_restOf_41 (by decide +kernel) (by decide) ?_
        by_cases c5 : s1 = 0
        · have esn : sv = none := by rw [← esv, c5, zO_z]
          subst esn
          refine lv_aload_n hx hb dX6_restOf_187 rfl (lv_at hl 2 rfl) ?_
          refine lv_aload_nN hx hb dX6_restOf_188 rfl (lv_at hl 0 rfl) ?_
          refine lv_aload_n hx hb dX6_restOf_189 rfl (lv_at hl 2 rfl) ?_
          refine q_getN C hP fgc rfl inX5 6 (by decide) (by decide +kernel) rfl dX6_restOf_190 ?_
          rw [xThen, if_neg (show ¬ (k.2.2.1 cc) = 3 by omega), if_neg (show ¬ (k.2.2.1 cc) = 4 by omega), if_neg (show ¬ (k.2.2.1 cc) = 5 by omega)] at eW
          unfold xJoin at eW
          have hot := i9 y1
          have hf2 : oFq W9.2.1 = 0 := by rw [eW]; exact hf1
          have ezb : zO gw1 (k.2.2.2.2.2.1 cc) = zO g (k.2.2.2.2.2.1 cc) := zO_cg ag1 hot.1
          rw [if_pos c5] at eW
          have e10 : (if (none : Option Nat) = none then 0 else 1) = 0 ∧ (if (none : Option Nat) = none then 0 else 10) = 0 := ⟨if_pos rfl, if_pos rfl⟩
          have eA : W9.2.2.1.1 = a1.1 := by rw [eW]
          refine q_callS (rest := [.ref ga]) C (c_X5_joined l D cy N0 hh24 none (zO g (k.2.2.2.2.2.1 cc)) 0 0 0 0 0 0 .null .null .null .null (fun sq e => by cases e)) kX5_joined g705 g706 hP hS (by first | decide | omega) hl.1 rfl (by simp [q_catrf, q_cati, q_catl, q_cata, q_catn]) (by first | decide | omega) dX6_restOf_193 (fun q ce E h' H1 locs1 hE => hE.elim) (fun v hh25 H locs hq hP hS => ?_)
          rcases hq with ⟨rfl, rfl, hor⟩ | ⟨sq, q, esq, rfl, oq, rfl⟩
          · refine q_callVN (host := RX6) (rest := []) C (c_X5_finish l D cy N0 hh24 (zO g (k.2.2.2.2.2.1 cc)) ga (a.2.2.1 cc) cc0 (nI 6) cod num dn1 (.ref (g (k.2.2.2.2.1 cc))) (va_rf (zO g (k.2.2.2.2.2.1 cc))) (va_rf row) rst1 fgc) kX5_finish (by decide +kernel) g578 rfl gp12 hP hS fgc (by first | decide | omega) hl.1 rfl (by decide) (by first | decide | omega) dX6_restOf_196 (fun v hh26 H locs hq hP hS => ?_)
            obtain ⟨rfl, rfl⟩ := hq
            replace hP : qP D N0 (qs hh24 ga (.inr (5, [.long (a.2.2.1 cc), .int (nI 6), .int cod, .long cc0, .int num, .ref (g (k.2.2.2.2.1 cc)), va_rf (zO g (k.2.2.2.2.2.1 cc)), va_rf row, .int 1, va_rf (zO g (k.2.2.2.2.2.1 cc))]))) H := hP
            have fge : (qs hh24 ga (.inr (5, [.long (a.2.2.1 cc), .int (nI 6), .int cod, .long cc0, .int num, .ref (g (k.2.2.2.2.1 cc)), va_rf (zO g (k.2.2.2.2.2.1 cc)), va_rf row, .int 1, va_rf (zO g (k.2.2.2.2.2.1 cc))]))) ga = some (.inr (5, [.long (a.2.2.1 cc), .int (nI 6), .int cod, .long cc0, .int num, .ref (g (k.2.2.2.2.1 cc)), va_rf (zO g (k.2.2.2.2.2.1 cc)), va_rf row, .int 1, va_rf (zO g (k.2.2.2.2.2.1 cc))])) := qs_self
            refine lv_aload_n hx hb dX6_restOf_199 rfl (lv_at hl 2 rfl) ?_
            refine q_getN C hP fge rfl inX5 9 (by decide) (by decide +kernel) rfl dX6_restOf_200 ?_
            have eX : X = (W9.1, W9.2.1, W9.2.2.1, xSetC W9.2.2.2 cc W9.1) := by rw [hX2, if_neg (fun z => z hf2)]
            have e1 := hfst cc hcc
            have hzk : zW hh24 x mk sl bl kr vr ed gw1 R (W9.2.1, W9.2.2.1, W9.2.2.2) := by first | exact hz2 | (rw [eW]; exact hz2)
            have hh9 : hh24 (gw1 cc) = some (.inr (5, [.long (W9.2.2.1.2.2.1 cc), .int (nI 6), .int cod, .long cc0, .int num, .ref (g (k.2.2.2.2.1 cc)), va_rf (zO g (k.2.2.2.2.2.1 cc)), va_rf row, .int dn1, rst1])) := by rw [eg1, e1]; exact fgc
            have hzf := hzk.fin hw9 (c := cc) (s := W9.1) hc1 (by omega) (src := (some (g (k.2.2.2.2.1 cc)))) (beh := (zO g (k.2.2.2.2.2.1 cc))) (row := row) hh9
            rw [eg1, e1] at hzf
            have ez9 : zO gw1 W9.1 = (zO g (k.2.2.2.2.2.1 cc)) := by rw [eW]; exact ezb
            rw [ez9] at hzf
            exact q_aret (v := (zO g (k.2.2.2.2.2.1 cc))) C (Or.inl ⟨_, rfl⟩) hP hS ⟨by rw [eX]; exact hf2, gw1, ag1, by rw [eX]; rw [ez9], by rw [eX]; exact hzf, hHc.tr (zH.set5 fgc)⟩ (by omega) dX6_restOf_203
          · cases esq
        · obtain ⟨wa, ca, cca, na, sa, ba, ra, da, ta, fsa, -⟩ := hz2.2.1 s1 (by omega) z5.1
          obtain ⟨gb, egb⟩ : ∃ z, gw1 s1 = z := ⟨_, rfl⟩
          rw [egb] at fsa
          have esn : sv = some gb := by rw [← esv, zO_s c5, egb]
          subst esn
          refine lv_aload_n hx hb dX6_restOf_187 rfl (lv_at hl 2 rfl) ?_
          refine lv_aload_n hx hb dX6_restOf_188 rfl (lv_at hl 0 rfl) ?_
          refine lv_aload_n hx hb dX6_restOf_189 rfl (lv_at hl 2 rfl) ?_
          refine q_getN C hP fgc rfl inX5 6 (by decide) (by decide +kernel) rfl dX6_restOf_190 ?_
          rw [xThen, if_neg (show ¬ (k.2.2.1 cc) = 3 by omega), if_neg (show ¬ (k.2.2.1 cc) = 4 by omega), if_neg (show ¬ (k.2.2.1 cc) = 5 by omega)] at eW
          unfold xJoin at eW
          have hot := i9 y1
          have hf2 : oFq W9.2.1 = 0 := by rw [eW]; exact hf1
          have ezb : zO gw1 (k.2.2.2.2.2.1 cc) = zO g (k.2.2.2.2.2.1 cc) := zO_cg ag1 hot.1
          rw [if_neg c5] at eW
          have e10 : (if some gb = none then 0 else 1) = 1 ∧ (if some gb = none then 0 else 10) = 10 := ⟨if_neg (fun z => by cases z), if_neg (fun z => by cases z)⟩
          have eA : W9.2.2.1.1 = a1.1 + 1 := by rw [eW]; rfl
          refine q_callS (rest := [.ref ga]) C (c_X5_joined l D cy N0 hh24 (some gb) (zO g (k.2.2.2.2.2.1 cc)) (a1.2.2.1 s1) cca wa ca na da (va_rf sa) (va_rf ba) (va_rf ra) (va_rf ta) (fun sq e => by cases e; exact fsa)) kX5_joined g705 g706 hP hS (by first | decide | omega) hl.1 rfl (by simp [q_catrf, q_cati, q_catl, q_cata, q_catn]) (by first | decide | omega) dX6_restOf_193 (fun q ce E h' H1 locs1 hE => hE.elim) (fun v hh27 H locs hq hP hS => ?_)
          rcases hq with ⟨rfl, rfl, hor⟩ | ⟨sq, q, esq, rfl, oq, rfl⟩
          · cases hor
          · cases esq
            have hra : a1.2.2.2 s1 = s1 := w1.r s1 z5.1
            rw [hra] at eW
            replace hP : qP D N0 (qs hh24 q (.inr (5, [.long (a1.2.2.1 s1), .int 6, .int 0, .long 0, .int 0, .ref gb, va_rf (zO g (k.2.2.2.2.2.1 cc)), .null, .int 0, .null]))) H := hP
            have hz3 := hz2.new w1 (q := q) (x0 := (a1.2.2.1 s1)) (rr := k1.1) (way := 6) (cod := 0) (cc := 0) (num := 0) (src := (some gb)) (beh := (zO g (k.2.2.2.2.2.1 cc))) (row := none) (dn := 0) (rst := none) oq (xCell_u w1 (kd := 6) (s := s1) (t := (k.2.2.2.2.2.1 cc)) (c := 0) (y := 0)) (Or.inr ⟨rfl, Or.inr (Or.inr (Or.inr (Or.inr (Or.inr ⟨rfl, rfl, by rw [qU_ne (by omega), egb], by rw [zO_cg (n := a1.1) (fun s hs => qU_ne (by omega)) (by omega), ezb], c5⟩))))⟩)
            have hHd := hHc.tr (zH.new (x := x) (e := (.inr (5, [.long (a1.2.2.1 s1), .int 6, .int 0, .long 0, .int 0, .ref gb, va_rf (zO g (k.2.2.2.2.2.1 cc)), .null, .int 0, .null]) : va_E)) oq)
            have nga : ga ≠ q := fun z => by have z8 := fgc; rw [z, oq] at z8; cases z8
            have fgd := (qs_ne (h := hh24) (a := q) (o := (.inr (5, [.long (a1.2.2.1 s1), .int 6, .int 0, .long 0, .int 0, .ref gb, va_rf (zO g (k.2.2.2.2.2.1 cc)), .null, .int 0, .null]))) nga).trans fgc
            have eg2 : qU gw1 a1.1 q cc = ga := (qU_ne (by omega)).trans eg1
            have agd : ∀ s, s < a.1 → qU gw1 a1.1 q s = g s := fun s hs => (qU_ne (by omega)).trans (ag1 s hs)
            have ezo : zO (qU gw1 a1.1 q) a1.1 = some q := by rw [zO_s (by omega), qU_at]
            refine q_callVN (host := RX6) (rest := []) C (c_X5_finish l D cy N0 (qs hh24 q (.inr (5, [.long (a1.2.2.1 s1), .int 6, .int 0, .long 0, .int 0, .ref gb, va_rf (zO g (k.2.2.2.2.2.1 cc)), .null, .int 0, .null]))) (some q) ga (a.2.2.1 cc) cc0 (nI 6) cod num dn1 (.ref (g (k.2.2.2.2.1 cc))) (va_rf (zO g (k.2.2.2.2.2.1 cc))) (va_rf row) rst1 fgd) kX5_finish (by decide +kernel) g578 rfl gp12 hP hS fgd (by first | decide | omega) hl.1 rfl (by decide) (by first | decide | omega) dX6_restOf_196 (fun v hh28 H locs hq hP hS => ?_)
            obtain ⟨rfl, rfl⟩ := hq
            replace hP : qP D N0 (qs (qs hh24 q (.inr (5, [.long (a1.2.2.1 s1), .int 6, .int 0, .long 0, .int 0, .ref gb, va_rf (zO g (k.2.2.2.2.2.1 cc)), .null, .int 0, .null]))) ga (.inr (5, [.long (a.2.2.1 cc), .int (nI 6), .int cod, .long cc0, .int num, .ref (g (k.2.2.2.2.1 cc)), va_rf (zO g (k.2.2.2.2.2.1 cc)), va_rf row, .int 1, va_rf (some q)]))) H := hP
            have fge : (qs (qs hh24 q (.inr (5, [.long (a1.2.2.1 s1), .int 6, .int 0, .long 0, .int 0, .ref gb, va_rf (zO g (k.2.2.2.2.2.1 cc)), .null, .int 0, .null]))) ga (.inr (5, [.long (a.2.2.1 cc), .int (nI 6), .int cod, .long cc0, .int num, .ref (g (k.2.2.2.2.1 cc)), va_rf (zO g (k.2.2.2.2.2.1 cc)), va_rf row, .int 1, va_rf (some q)]))) ga = some (.inr (5, [.long (a.2.2.1 cc), .int (nI 6), .int cod, .long cc0, .int num, .ref (g (k.2.2.2.2.1 cc)), va_rf (zO g (k.2.2.2.2.2.1 cc)), va_rf row, .int 1, va_rf (some q)])) := qs_self
            refine lv_aload_n hx hb dX6_restOf_199 rfl (lv_at hl 2 rfl) ?_
            refine q_getN C hP fge rfl inX5 9 (by decide) (by decide +kernel) rfl dX6_restOf_200 ?_
            have eX : X = (W9.1, W9.2.1, W9.2.2.1, xSetC W9.2.2.2 cc W9.1) := by rw [hX2, if_neg (fun z => z hf2)]
            have e1 := hfst cc hcc
            have hzk : zW (qs hh24 q (.inr (5, [.long (a1.2.2.1 s1), .int 6, .int 0, .long 0, .int 0, .ref gb, va_rf (zO g (k.2.2.2.2.2.1 cc)), .null, .int 0, .null]))) x mk sl bl kr vr ed (qU gw1 a1.1 q) R (W9.2.1, W9.2.2.1, W9.2.2.2) := by first | exact hz3 | (rw [eW]; exact hz3)
            have hh9 : (qs hh24 q (.inr (5, [.long (a1.2.2.1 s1), .int 6, .int 0, .long 0, .int 0, .ref gb, va_rf (zO g (k.2.2.2.2.2.1 cc)), .null, .int 0, .null]))) ((qU gw1 a1.1 q) cc) = some (.inr (5, [.long (W9.2.2.1.2.2.1 cc), .int (nI 6), .int cod, .long cc0, .int num, .ref (g (k.2.2.2.2.1 cc)), va_rf (zO g (k.2.2.2.2.2.1 cc)), va_rf row, .int dn1, rst1])) := by rw [eg2, e1]; exact fgd
            have hzf := hzk.fin hw9 (c := cc) (s := W9.1) hc1 (by omega) (src := (some (g (k.2.2.2.2.1 cc)))) (beh := (zO g (k.2.2.2.2.2.1 cc))) (row := row) hh9
            rw [eg2, e1] at hzf
            have ez9 : zO (qU gw1 a1.1 q) W9.1 = (some q) := by rw [eW]; exact ezo
            rw [ez9] at hzf
            exact q_aret (v := (some q)) C (Or.inl ⟨_, rfl⟩) hP hS ⟨by rw [eX]; exact hf2, (qU gw1 a1.1 q), agd, by rw [eX]; rw [ez9], by rw [eX]; exact hzf, hHd.tr (zH.set5 fgd)⟩ (by omega) dX6_restOf_203
    · have hnm : ¬ nI 1 ≤ 20000 - oMq o := fun z => cm (hzm.mp z)
      have e6 : (if ¬ nI 1 ≤ 20000 - oMq o then 1 else 0) = 1 ∧ (if ¬ nI 1 ≤ 20000 - oMq o then 6 else 0) = 6 := ⟨if_pos hnm, if_pos hnm⟩
      have eX : X = (0, oFa o 2, a, k) := by rw [← hX, xForce, if_neg hr0, if_pos cm]
      have eI : (if oFq X.2.1 = 0 then 0 else 1) = 1 ∧ (if oFq X.2.1 = 0 then 0 else 6) = 6 := by rw [eX]; exact ⟨if_neg (by decide : ¬ (2 : Int32) = 0), if_neg (by decide : ¬ (2 : Int32) = 0)⟩
      refine lv_aload_n hx hb dX6_restOf_0 rfl (lv_at hl 1 rfl) ?_
      refine q_getN C hP fga rfl inX5 8 (by decide) (by decide +kernel) rfl dX6_restOf_1 ?_
      refine lv_if_eq (tgt := 12) hx hb dX6_restOf_4 (by decide) (fun _ => ?_) (fun c => absurd rfl c)
      refine lv_aload_n hx hb dX6_restOf_12 rfl (lv_at hl 0 rfl) ?_
      refine lv_iconst (v := nI 1) hx hb dX6_restOf_13 (by decide) ?_
      refine q_callV (rest := []) C (d_X6_takeMoves l D cy N0 h x sl bl kr vr mk (oCq o) (oMq o) ed (nI 1) hxx) kX6_takeMoves g641 g643 rfl gp15 g1 hP hS hxx (by first | decide | omega) hl.1 rfl (by decide) (by first | decide | omega) dX6_restOf_14 (fun q ce E h' H1 locs1 hE hP hS hc1 hc2 hc3 => by obtain ⟨rfl, rfl, hn9⟩ := hE; exact q_out C hP hS hc1 hc2 hc3 (⟨Or.inr ⟨rfl, by rw [eX]; rfl⟩, g, fun _ _ => rfl, by rw [eX]; exact hz.obj rfl rfl, zH.rf⟩) (by omega)) (fun v hh29 H locs hq hP hS => ?_)
      exact absurd hq.2.2 hnm
theorem z_restAll (l : Launch) (D : va_G) (cy : Nat → ClassId) (N0 x : Nat) (mk : Int32) (sl bl kr vr : Nat) (ed : Int32) (Bd Rn : Nat) (R : Nat → List Int64) (hRl : ∀ q, q < Rn → (R q).length ≤ 1000) : ∀ d, zCS l D cy N0 x mk sl bl kr vr ed Bd Rn R (xForce R d) d
  | 0 => fun h g o a k sk dp c _ _ _ _ _ z => absurd z (Nat.not_lt_zero _)
  | d + 1 => fun h g o a k sk dp c h1 h2 h3 h4 h5 h6 => z_restOf l D cy N0 h x mk sl bl kr vr ed g R o a k Bd sk Rn dp d c _ h1 h2 h3 (z_restAll l D cy N0 x mk sl bl kr vr ed Bd Rn R hRl d) hRl h4 h5 h6 rfl
