theorem zru : ∀ U, U ≤ 64 → 1272 * U ≤ U * rMs U 7 + 6600 ∧ U * (aMs (2 * U) 7 + 20) ≤ U * rMs U 7 ∧ 50 * U + 200 ≤ 212 * U + 300 := by decide +kernel
theorem zSv_cg {s t : qSlot} (h1 : s.1 = t.1) (h2 : s.2.1 = t.2.1) : zSv s = zSv t := by unfold zSv; rw [h1, h2]
theorem zSv_memk {s : qSlot} {p : Int64 × Int64} (h : p ∈ zSv s) : ∃ q ∈ s.2.1, q.1 = p.1 := by
  unfold zSv at h
  split at h
  · obtain ⟨q, hq, e⟩ := List.mem_map.mp h
    exact ⟨q, hq, by rw [← e]⟩
  · exact ⟨p, h, rfl⟩
theorem dX6_join_19 : decode cX6_join 19 = .ok (.astore 4, 2) := by decide +kernel
theorem dX6_join_21 : decode cX6_join 21 = .ok (.aload_n 0, 1) := by decide +kernel
theorem dX6_join_22 : decode cX6_join 22 = .ok (.iload_n 3, 1) := by decide +kernel
theorem dX6_join_23 : decode cX6_join 23 = .ok (.iconst 1, 1) := by decide +kernel
theorem dX6_join_24 : decode cX6_join 24 = .ok (.aload 4, 2) := by decide +kernel
theorem dX6_join_26 : decode cX6_join 26 = .ok (.getfield 63, 3) := by decide +kernel
theorem dX6_join_29 : decode cX6_join 29 = .ok (.ishl, 1) := by decide +kernel
theorem dX6_join_30 : decode cX6_join 30 = .ok (.invokevirtual 55, 3) := by decide +kernel
theorem dX6_join_33 : decode cX6_join 33 = .ok (.astore 5, 2) := by decide +kernel
theorem dX6_join_35 : decode cX6_join 35 = .ok (.aload 4, 2) := by decide +kernel
theorem dX6_join_37 : decode cX6_join 37 = .ok (.getfield 63, 3) := by decide +kernel
theorem dX6_join_40 : decode cX6_join 40 = .ok (.tableswitch 117 1 6 #[103, 103, 89, 117, 53, 40], 40) := by decide +kernel
theorem dX6_join_80 : decode cX6_join 80 = .ok (.aload_n 0, 1) := by decide +kernel
theorem dX6_join_81 : decode cX6_join 81 = .ok (.iload_n 1, 1) := by decide +kernel
theorem dX6_join_82 : decode cX6_join 82 = .ok (.aload 4, 2) := by decide +kernel
theorem dX6_join_84 : decode cX6_join 84 = .ok (.aload 5, 2) := by decide +kernel
theorem dX6_join_86 : decode cX6_join 86 = .ok (.invokestatic 228, 3) := by decide +kernel
theorem dX6_join_89 : decode cX6_join 89 = .ok (.invokevirtual 51, 3) := by decide +kernel
theorem dX6_join_92 : decode cX6_join 92 = .ok (.ireturn, 1) := by decide +kernel
theorem dX6_join_93 : decode cX6_join 93 = .ok (.aload 4, 2) := by decide +kernel
theorem dX6_join_95 : decode cX6_join 95 = .ok (.invokevirtual 59, 3) := by decide +kernel
theorem dX6_join_98 : decode cX6_join 98 = .ok (.aload 5, 2) := by decide +kernel
theorem dX6_join_100 : decode cX6_join 100 = .ok (.invokevirtual 59, 3) := by decide +kernel
theorem dX6_join_103 : decode cX6_join 103 = .ok (.iadd, 1) := by decide +kernel
theorem dX6_join_104 : decode cX6_join 104 = .ok (.invokestatic 81, 3) := by decide +kernel
theorem dX6_join_107 : decode cX6_join 107 = .ok (.aload_n 0, 1) := by decide +kernel
theorem dX6_join_108 : decode cX6_join 108 = .ok (.iload_n 1, 1) := by decide +kernel
theorem dX6_join_109 : decode cX6_join 109 = .ok (.aload 4, 2) := by decide +kernel
theorem dX6_join_111 : decode cX6_join 111 = .ok (.getfield 84, 3) := by decide +kernel
theorem dX6_join_114 : decode cX6_join 114 = .ok (.aload 5, 2) := by decide +kernel
theorem dX6_join_116 : decode cX6_join 116 = .ok (.getfield 84, 3) := by decide +kernel
theorem dX6_join_119 : decode cX6_join 119 = .ok (.invokestatic 93, 3) := by decide +kernel
theorem dX6_join_122 : decode cX6_join 122 = .ok (.invokestatic 97, 3) := by decide +kernel
theorem dX6_join_125 : decode cX6_join 125 = .ok (.invokevirtual 51, 3) := by decide +kernel
theorem dX6_join_128 : decode cX6_join 128 = .ok (.ireturn, 1) := by decide +kernel
theorem dX6_join_129 : decode cX6_join 129 = .ok (.aload_n 0, 1) := by decide +kernel
theorem dX6_join_130 : decode cX6_join 130 = .ok (.iload_n 1, 1) := by decide +kernel
theorem dX6_join_131 : decode cX6_join 131 = .ok (.aload_n 0, 1) := by decide +kernel
theorem dX6_join_132 : decode cX6_join 132 = .ok (.aload 4, 2) := by decide +kernel
theorem dX6_join_134 : decode cX6_join 134 = .ok (.aload 5, 2) := by decide +kernel
theorem dX6_join_136 : decode cX6_join 136 = .ok (.invokevirtual 232, 3) := by decide +kernel
theorem dX6_join_139 : decode cX6_join 139 = .ok (.invokevirtual 51, 3) := by decide +kernel
theorem dX6_join_142 : decode cX6_join 142 = .ok (.ireturn, 1) := by decide +kernel
theorem dX6_join_143 : decode cX6_join 143 = .ok (.aload_n 0, 1) := by decide +kernel
theorem dX6_join_144 : decode cX6_join 144 = .ok (.iload_n 1, 1) := by decide +kernel
theorem dX6_join_145 : decode cX6_join 145 = .ok (.aload_n 0, 1) := by decide +kernel
theorem dX6_join_146 : decode cX6_join 146 = .ok (.aload 4, 2) := by decide +kernel
theorem dX6_join_148 : decode cX6_join 148 = .ok (.aload 5, 2) := by decide +kernel
theorem dX6_join_150 : decode cX6_join 150 = .ok (.invokevirtual 235, 3) := by decide +kernel
theorem dX6_join_153 : decode cX6_join 153 = .ok (.invokevirtual 51, 3) := by decide +kernel
theorem dX6_join_156 : decode cX6_join 156 = .ok (.ireturn, 1) := by decide +kernel
theorem dX6_join_157 : decode cX6_join 157 = .ok (.aload 4, 2) := by decide +kernel
theorem dX6_join_159 : decode cX6_join 159 = .ok (.invokevirtual 59, 3) := by decide +kernel
theorem dX6_join_162 : decode cX6_join 162 = .ok (.aload 5, 2) := by decide +kernel
theorem dX6_join_164 : decode cX6_join 164 = .ok (.invokevirtual 59, 3) := by decide +kernel
theorem dX6_join_167 : decode cX6_join 167 = .ok (.iadd, 1) := by decide +kernel
theorem dX6_join_168 : decode cX6_join 168 = .ok (.invokestatic 81, 3) := by decide +kernel
theorem dX6_join_171 : decode cX6_join 171 = .ok (.aload_n 0, 1) := by decide +kernel
theorem dX6_join_172 : decode cX6_join 172 = .ok (.aload 4, 2) := by decide +kernel
theorem dX6_join_174 : decode cX6_join 174 = .ok (.invokevirtual 59, 3) := by decide +kernel
theorem dX6_join_177 : decode cX6_join 177 = .ok (.aload 5, 2) := by decide +kernel
theorem dX6_join_179 : decode cX6_join 179 = .ok (.invokevirtual 59, 3) := by decide +kernel
theorem dX6_join_182 : decode cX6_join 182 = .ok (.iadd, 1) := by decide +kernel
theorem dX6_join_183 : decode cX6_join 183 = .ok (.invokevirtual 218, 3) := by decide +kernel
theorem dX6_join_186 : decode cX6_join 186 = .ok (.aload_n 0, 1) := by decide +kernel
theorem dX6_join_187 : decode cX6_join 187 = .ok (.iload_n 1, 1) := by decide +kernel
theorem dX6_join_188 : decode cX6_join 188 = .ok (.aload 4, 2) := by decide +kernel
theorem dX6_join_190 : decode cX6_join 190 = .ok (.getfield 63, 3) := by decide +kernel
theorem dX6_join_193 : decode cX6_join 193 = .ok (.aload 4, 2) := by decide +kernel
theorem dX6_join_195 : decode cX6_join 195 = .ok (.getfield 101, 3) := by decide +kernel
theorem dX6_join_198 : decode cX6_join 198 = .ok (.aload 5, 2) := by decide +kernel
theorem dX6_join_200 : decode cX6_join 200 = .ok (.getfield 101, 3) := by decide +kernel
theorem dX6_join_203 : decode cX6_join 203 = .ok (.invokestatic 238, 3) := by decide +kernel
theorem dX6_join_206 : decode cX6_join 206 = .ok (.invokestatic 111, 3) := by decide +kernel
theorem dX6_join_209 : decode cX6_join 209 = .ok (.invokevirtual 51, 3) := by decide +kernel
theorem dX6_join_212 : decode cX6_join 212 = .ok (.ireturn, 1) := by decide +kernel
set_option maxRecDepth 100000 in
set_option maxHeartbeats 4000000 in
theorem z_join (l : Launch) (D : va_G) (cy : Nat → ClassId) (N0 : Nat) (h : qH) (x : Nat) (mk : Int32) (sl bl kr vr Ed : Nat) (fs : Nat → Option Nat) (bd br eb : Nat → Nat) (Im : Nat → Prop) (Xb : Nat → Nat → Prop) (g : Nat → Nat) (S : Nat → qSlot) (W : qWo) (Bd sk Rn : Nat) (dp : Nat → Nat) (dc : Nat) (gr : Int32) (U : Nat) (p0 p1 p2 : Int32) (hz : zQ cy h x mk sl bl kr vr Ed fs bd br eb Im Xb g S W) (hI : ∀ i, i < 28 → qOk (S i).1 (S i).2.1) (hLn : ∀ i, i < 28 → (S i).2.1.length ≤ 1000) (hV : qWv Bd (sk + 1) Rn dp W) (hSt : ∀ i, i < 24 → (S i).1 = 6 → (S i).2.2.1 < W.2.1.1 ∧ dp (S i).2.2.1 ≤ dc) (hmk : qMk gr = mk) (hAl : ∀ i, i < 28 → ((S i).1 = 1 ∨ (S i).1 = 2) → ∀ k, xAl gr (S i).2.1 k ≤ 16) (h64 : ∀ i, i < 28 → ((S i).1 = 1 ∨ (S i).1 = 2 ∨ (S i).1 = 3) → (S i).2.1.length ≤ U) (hU : U ≤ 64) (hE9 : Ed + 1 < 1000) (hDp : ∀ i, i < 24 → (S i).2.2.2 ≤ 100) (hgr : W.1.2.2.2.2.2.2.1 = gr) : qC l D cy N0 yX6_join cX6_join 6 (some .int) 60 3000 (212 * U + 900) (U * rMs U 7 + 12000) [.ref x, .int p0, .int p1, .int p2] h (fun v h' => (xs_join S W p0 p1 p2).1 = 0 ∧ v = some (.int (xs_join S W p0 p1 p2).2.1) ∧ zPo cy h x mk sl bl kr vr Ed bd br Im Xb ((xs_join S W p0 p1 p2).2.2.1) ((xs_join S W p0 p1 p2).2.2.2) h') (fun E h' => zXc [(1, "java/lang/IllegalArgumentException"), (2, "java/lang/IllegalStateException"), (3, "java/lang/IndexOutOfBoundsException")] E (xs_join S W p0 p1 p2).1 ∧ zPo cy h x mk sl bl kr vr Ed bd br Im Xb S ((xs_join S W p0 p1 p2).2.2.2) h') := by
  refine q_ofW (by decide) (by exact Nat.le_of_ble_eq_true rfl) ?_
  intro p e s m below meth c ls C hP hl
  have hx := C.1
  have hb := C.2.1
  have hS : va_S (qA N0) s.heap s.heap [] := va_S.rf
  have hl : lv_has ls 6 [(0, .ref x), (1, .int p0), (2, .int p1), (3, .int p2)] := hl
  have hf : zFr h h x sl kr vr bd br Xb := zFr.rf
  obtain ⟨o, a, k⟩ := W
  dsimp only at hSt
  have hp9 : 1 ≤ a.1 ∧ a.1 ≤ a.2.1 := hV.p
  obtain ⟨m0, hm0, hm9, -⟩ := hV.m
  dsimp only at hm0
  have hru := zru U hU
  have hgr : o.2.2.2.2.2.2.1 = gr := hgr
  refine lv_iload_n hx hb dX6_join_0 rfl (lv_at hl 1 rfl) ?_
  refine q_callS (rest := []) C (c_X6_needSlot l D cy N0 h p0) kX6_needSlot g104 g105 hP hS (by first | decide | omega) hl.1 rfl (by decide) (by first | decide | omega) dX6_join_1 (fun q ce E h' H1 locs1 hE hP hS hc1 hc2 hc3 => by obtain ⟨rfl, rfl, hn9⟩ := hE; have eb9 := bSl_f hn9; exact q_out C hP hS hc1 hc2 hc3 (by have ex : (xs_join S (o, a, k) p0 p1 p2) = (1, 0, S, o, a, k) := (by unfold xs_join; rw [if_pos (Or.inl eb9)]); exact ⟨by rw [ex]; exact .head _, by rw [ex]; exact hz.po hf⟩) (by omega)) (fun v hh1 H locs hq hP hS => ?_)
  obtain ⟨rfl, rfl, sl9⟩ := hq
  obtain ⟨i, hi, rfl⟩ := sl9.of
  have ebi : bSl (nI i) = true := bSl_t sl9
  have eci : (nI i).toNatClampNeg = i := nI_clamp (by omega)
  refine lv_iload_n hx hb dX6_join_4 rfl (lv_at hl 2 rfl) ?_
  refine q_callS (rest := []) C (c_X6_needSlot l D cy N0 h p1) kX6_needSlot g104 g105 hP hS (by first | decide | omega) hl.1 rfl (by decide) (by first | decide | omega) dX6_join_5 (fun q ce E h' H1 locs1 hE hP hS hc1 hc2 hc3 => by obtain ⟨rfl, rfl, hn9⟩ := hE; have eb9 := bSl_f hn9; exact q_out C hP hS hc1 hc2 hc3 (by have ex : (xs_join S (o, a, k) (nI i) p1 p2) = (1, 0, S, o, a, k) := (by unfold xs_join; rw [if_pos (Or.inr (Or.inl eb9))]); exact ⟨by rw [ex]; exact .head _, by rw [ex]; exact hz.po hf⟩) (by omega)) (fun v hh2 H locs hq hP hS => ?_)
  obtain ⟨rfl, rfl, sl9⟩ := hq
  obtain ⟨j, hj, rfl⟩ := sl9.of
  have ebj : bSl (nI j) = true := bSl_t sl9
  have ecj : (nI j).toNatClampNeg = j := nI_clamp (by omega)
  refine lv_iload_n hx hb dX6_join_8 rfl (lv_at hl 3 rfl) ?_
  refine q_callS (rest := []) C (c_X6_needSlot l D cy N0 h p2) kX6_needSlot g104 g105 hP hS (by first | decide | omega) hl.1 rfl (by decide) (by first | decide | omega) dX6_join_9 (fun q ce E h' H1 locs1 hE hP hS hc1 hc2 hc3 => by obtain ⟨rfl, rfl, hn9⟩ := hE; have eb9 := bSl_f hn9; exact q_out C hP hS hc1 hc2 hc3 (by have ex : (xs_join S (o, a, k) (nI i) (nI j) p2) = (1, 0, S, o, a, k) := (by unfold xs_join; rw [if_pos (Or.inr (Or.inr eb9))]); exact ⟨by rw [ex]; exact .head _, by rw [ex]; exact hz.po hf⟩) (by omega)) (fun v hh3 H locs hq hP hS => ?_)
  obtain ⟨rfl, rfl, sl9⟩ := hq
  obtain ⟨u, hu, rfl⟩ := sl9.of
  have ebu : bSl (nI u) = true := bSl_t sl9
  have ecu : (nI u).toNatClampNeg = u := nI_clamp (by omega)
  refine lv_aload_n hx hb dX6_join_12 rfl (lv_at hl 0 rfl) ?_
  refine lv_iload_n hx hb dX6_join_13 rfl (lv_at hl 2 rfl) ?_
  refine lv_bipush (v := nI 127) hx hb dX6_join_14 (by decide) ?_
  refine q_callV (rest := []) C (z_heldIn l D N0 (nI j) 127 hz hI) kX6_heldIn g243 g245 rfl gp2 g1 hP hS hz.1.1 (by first | decide | omega) hl.1 rfl (by decide) (by first | decide | omega) dX6_join_16 (fun q ce E h' H1 locs1 hE hP hS hc1 hc2 hc3 => hE.2.elim (fun y => by obtain ⟨rfl, -⟩ := hE; obtain ⟨rfl, hn9⟩ := y; exact absurd hn9 (by rw [ebj]; decide)) (fun y => by obtain ⟨rfl, -⟩ := hE; obtain ⟨rfl, i8, hi8, e8, ho8⟩ := y; obtain rfl : j = i8 := nI_inj32 (by omega) (by omega) e8; exact q_out C hP hS hc1 hc2 hc3 (by have ex : (xs_join S (o, a, k) (nI i) (nI j) (nI u)) = (2, 0, S, o, a, k) := (by have ebj : bSl (nI j) = true := bSl_t (qSl.nI hi8); have ecj : (nI j).toNatClampNeg = j := nI_clamp (by omega); have hoj := ho8; unfold xs_join; rw [if_neg (by rw [ebi, ebj, ebu]; decide), ecj, ecu, if_pos (Or.inl (zkn (hI j (by omega)).2.2 hoj))]); exact ⟨by rw [ex]; exact .tail _ (.head _), by rw [ex]; exact hz.po hf⟩) (by omega))) (fun v hh4 H locs hq hP hS => ?_)
  obtain ⟨rfl, j9, aj, hj9, ej9, hfsj, rfl, hoj, x1j, x2j, x3j, x4j, dvj, faj, zvj⟩ := hq
  obtain rfl : j = j9 := nI_inj32 (by omega) (by omega) ej9
  rcases bHo_127 (hI j (by omega)).2.2 hoj with hkj | hkj | hkj | hkj | hkj | hkj | hkj
  · have faj0 := faj
    rw [hkj] at faj
    have hk6j : ¬ (S j).1 = 6 := fun z => absurd (hkj.symm.trans z) (by decide)
    have hamj : zAm (S j) = (S j).2.1.length := zAm_n hk6j
    refine lv_astore (lv' := [(4, .ref aj), (0, .ref x), (1, .int (nI i)), (2, .int (nI j)), (3, .int (nI u))]) hx hb dX6_join_19 hl (by decide) rfl (fun ls hl => ?_)
    refine lv_aload_n hx hb dX6_join_21 rfl (lv_at hl 1 rfl) ?_
    refine lv_iload_n hx hb dX6_join_22 rfl (lv_at hl 4 rfl) ?_
    refine lv_iconst (v := nI 1) hx hb dX6_join_23 (by decide) ?_
    refine lv_aload hx hb dX6_join_24 (lv_at hl 0 rfl) ?_
    refine q_get C hP faj rfl inX2 0 (by decide) g192 rfl dX6_join_26 ?_
    refine lv_ishl hx hb dX6_join_29 ?_
    rw [show nI 1 <<< (nI 0 &&& 31) = 1 by decide]
    refine q_callV (rest := []) C (z_heldIn l D N0 (nI u) 1 hz hI) kX6_heldIn g243 g245 rfl gp2 g1 hP hS hz.1.1 (by first | decide | omega) hl.1 rfl (by decide) (by first | decide | omega) dX6_join_30 (fun q ce E h' H1 locs1 hE hP hS hc1 hc2 hc3 => hE.2.elim (fun y => by obtain ⟨rfl, -⟩ := hE; obtain ⟨rfl, hn9⟩ := y; exact absurd hn9 (by rw [ebu]; decide)) (fun y => by obtain ⟨rfl, -⟩ := hE; obtain ⟨rfl, i8, hi8, e8, ho8⟩ := y; obtain rfl : u = i8 := nI_inj32 (by omega) (by omega) e8; exact q_out C hP hS hc1 hc2 hc3 (by have ex : (xs_join S (o, a, k) (nI i) (nI j) (nI u)) = (2, 0, S, o, a, k) := (by have ebu : bSl (nI u) = true := bSl_t (qSl.nI hi8); have ecu : (nI u).toNatClampNeg = u := nI_clamp (by omega); have hou := ho8; unfold xs_join; rw [if_neg (by rw [ebi, ebj, ebu]; decide), ecj, ecu, if_pos (Or.inr (by rw [hkj]; exact (bHo_p0 (hI u (by omega)).2.2).2 hou))]); exact ⟨by rw [ex]; exact .tail _ (.head _), by rw [ex]; exact hz.po hf⟩) (by omega))) (fun v hh5 H locs hq hP hS => ?_)
    obtain ⟨rfl, u9, au, hu9, eu9, hfsu, rfl, hou, x1u, x2u, x3u, x4u, dvu, fau, zvu⟩ := hq
    obtain rfl : u = u9 := nI_inj32 (by omega) (by omega) eu9
    have hku : (S u).1 = nI 0 := (bHo_p0 (hI u (by omega)).2.2).1 hou
    have fau0 := fau
    rw [hku] at fau
    have hlj := hLn j (by omega)
    have hlu := hLn u (by omega)
    have hk6u : ¬ (S u).1 = 6 := fun z => absurd (hku.symm.trans z) (by decide)
    have hamu : zAm (S u) = (S u).2.1.length := zAm_n hk6u
    have hco : xCo (S j).1 (S j).2.1.length (S u).2.1.length = (zAm (S j) + zAm (S u)) := by unfold xCo; rw [if_neg (show ¬ (S j).1 = 5 from fun z => absurd (hkj.symm.trans z) (by decide)), hamj, hamu]
    have hea : xEa (S j).1 = true := by rw [hkj]; rfl
    have hmq : (oMq ((o, a, k) : qWo).1).toNatClampNeg = m0 := by rw [show oMq ((o, a, k) : qWo).1 = nI m0 from hm0]; exact nI_clamp (by omega)
    have hany : ¬ (S u).2.1.any (fun p => decide (16 < xAl gr (xJn (S j).1 (xEa (S j).1) (S j).2.1 (S u).2.1) p.1 ∧ ((S j).1 = 1 ∨ (S j).1 = 2))) = true := zany0 (fun p _ => decide_eq_false (fun z => z.2.elim (fun z => absurd (hkj.symm.trans z) (by decide)) (fun z => absurd (hkj.symm.trans z) (by decide))))
    obtain ⟨rfl, rfl, rfl, rfl, nj, hbj⟩ := zvj.seq (Or.inl hkj)
    have hlmj : ((S j).2.1.map (fun p => ((0 : Int64), p.1))).length = (S j).2.1.length := List.length_map ..
    have h14j : nj ≤ 14 := hbj.h14 (by omega)
    have htcj := qTc14 h14j
    obtain ⟨rfl, rfl, rfl, rfl, nu, hbu⟩ := zvu.seq (Or.inl hku)
    have hlmu : ((S u).2.1.map (fun p => ((0 : Int64), p.1))).length = (S u).2.1.length := List.length_map ..
    have h14u : nu ≤ 14 := hbu.h14 (by omega)
    have htcu := qTc14 h14u
    refine lv_astore (lv' := [(5, .ref au), (4, .ref aj), (0, .ref x), (1, .int (nI i)), (2, .int (nI j)), (3, .int (nI u))]) hx hb dX6_join_33 hl (by decide) rfl (fun ls hl => ?_)
    refine lv_aload hx hb dX6_join_35 (lv_at hl 1 rfl) ?_
    refine q_get C hP faj rfl inX2 0 (by decide) g192 rfl dX6_join_37 ?_
    refine lv_tableOut (tgt := 157) hx hb dX6_join_40 (by decide +kernel) (by decide) ?_
    refine lv_aload hx hb dX6_join_157 (lv_at hl 1 rfl) ?_
    obtain ⟨t1j, t2j, t3j, f1j, f2j, f3j, etj⟩ := zvj.size
    refine q_callV (rest := []) C (c_X2_amount l D cy N0 h aj (nI 0) 0 t1j t2j t3j x1j none none none faj f1j f2j f3j) kX2_amount g222 g223 rfl g224 g10 hP hS faj (by first | decide | omega) hl.1 rfl (by decide) (by first | decide | omega) dX6_join_159 (fun q ce E h' H1 locs1 hE => hE.elim) (fun v hh6 H locs hq hP hS => ?_)
    obtain ⟨rfl, rfl⟩ := hq
    rw [← etj]
    refine lv_aload hx hb dX6_join_162 (lv_at hl 0 rfl) ?_
    obtain ⟨t1u, t2u, t3u, f1u, f2u, f3u, etu⟩ := zvu.size
    refine q_callV (rest := [.int (nI (zAm (S j)))]) C (c_X2_amount l D cy N0 h au (nI 0) 0 t1u t2u t3u x1u none none none fau f1u f2u f3u) kX2_amount g222 g223 rfl g224 g10 hP hS fau (by first | decide | omega) hl.1 rfl (by simp [q_catrf, q_cati, q_catl, q_cata, q_catn]) (by first | decide | omega) dX6_join_164 (fun q ce E h' H1 locs1 hE => hE.elim) (fun v hh7 H locs hq hP hS => ?_)
    obtain ⟨rfl, rfl⟩ := hq
    rw [← etu]
    refine q_iaddN hx hb dX6_join_167 ?_
    refine q_callS (rest := []) C (c_X6_needRoom l D cy N0 h (nI (zAm (S j) + zAm (S u)))) kX6_needRoom g324 g325 hP hS (by first | decide | omega) hl.1 rfl (by decide) (by first | decide | omega) dX6_join_168 (fun q ce E h' H1 locs1 hE hP hS hc1 hc2 hc3 => by obtain ⟨rfl, rfl, hn9⟩ := hE; replace hn9 : ¬ (zAm (S j) + zAm (S u)) ≤ 1000 := fun z => hn9 ((nI_leI (a := zAm (S j) + zAm (S u)) (b := 1000) (by omega) (by omega)).mpr z); exact q_out C hP hS hc1 hc2 hc3 (by have ex : (xs_join S (o, a, k) (nI i) (nI j) (nI u)) = (3, 0, S, o, a, k) := (by unfold xs_join; rw [if_neg (by rw [ebi, ebj, ebu]; decide), ecj, ecu, if_neg (fun z => z.elim (fun z => by rw [hkj] at z; exact absurd z (by decide)) (fun z => z (hkj.trans hku.symm))), eci, show ((o, a, k) : qWo).1.2.2.2.2.2.2.1 = gr from hgr]; unfold xr_join; rw [if_neg (show ¬ (S j).1 = 6 from hk6j), if_pos (Or.inl (by rw [hea, xJc_t]; omega))]); exact ⟨by rw [ex]; exact .tail _ (.tail _ (.head _)), by rw [ex]; exact hz.po hf⟩) (by omega)) (fun v hh8 H locs hq hP hS => ?_)
    obtain ⟨rfl, rfl, hw9⟩ := hq
    replace hw9 := (nI_leI (a := zAm (S j) + zAm (S u)) (b := 1000) (by omega) (by omega)).mp hw9
    refine lv_aload_n hx hb dX6_join_171 rfl (lv_at hl 2 rfl) ?_
    refine lv_aload hx hb dX6_join_172 (lv_at hl 1 rfl) ?_
    obtain ⟨t1j, t2j, t3j, f1j, f2j, f3j, etj⟩ := zvj.size
    refine q_callV (rest := [.ref x]) C (c_X2_amount l D cy N0 h aj (nI 0) 0 t1j t2j t3j x1j none none none faj f1j f2j f3j) kX2_amount g222 g223 rfl g224 g10 hP hS faj (by first | decide | omega) hl.1 rfl (by simp [q_catrf, q_cati, q_catl, q_cata, q_catn]) (by first | decide | omega) dX6_join_174 (fun q ce E h' H1 locs1 hE => hE.elim) (fun v hh9 H locs hq hP hS => ?_)
    obtain ⟨rfl, rfl⟩ := hq
    rw [← etj]
    refine lv_aload hx hb dX6_join_177 (lv_at hl 0 rfl) ?_
    obtain ⟨t1u, t2u, t3u, f1u, f2u, f3u, etu⟩ := zvu.size
    refine q_callV (rest := [.int (nI (zAm (S j))), .ref x]) C (c_X2_amount l D cy N0 h au (nI 0) 0 t1u t2u t3u x1u none none none fau f1u f2u f3u) kX2_amount g222 g223 rfl g224 g10 hP hS fau (by first | decide | omega) hl.1 rfl (by simp [q_catrf, q_cati, q_catl, q_cata, q_catn]) (by first | decide | omega) dX6_join_179 (fun q ce E h' H1 locs1 hE => hE.elim) (fun v hh10 H locs hq hP hS => ?_)
    obtain ⟨rfl, rfl⟩ := hq
    rw [← etu]
    refine q_iaddN hx hb dX6_join_182 ?_
    refine q_callV (rest := []) C (c_X6_takeMoves l D cy N0 h x sl bl kr vr mk (oCq (o, a, k).1) (oMq (o, a, k).1) (nI Ed) fs (nI (zAm (S j) + zAm (S u))) hz.1.1 hz.2.1.1) kX6_takeMoves g641 g643 rfl gp15 g1 hP hS hz.1.1 (by first | decide | omega) hl.1 rfl (by decide) (by first | decide | omega) dX6_join_183 (fun q ce E h' H1 locs1 hE hP hS hc1 hc2 hc3 => by obtain ⟨rfl, rfl, hn9⟩ := hE; replace hn9 : ¬ m0 + (zAm (S j) + zAm (S u)) ≤ 20000 := fun z => hn9 (by rw [hm0]; exact (zmvs hm9 (by omega)).mpr z); exact q_out C hP hS hc1 hc2 hc3 (by have ex : (xs_join S (o, a, k) (nI i) (nI j) (nI u)) = (3, 0, S, o, a, k) := (by unfold xs_join; rw [if_neg (by rw [ebi, ebj, ebu]; decide), ecj, ecu, if_neg (fun z => z.elim (fun z => by rw [hkj] at z; exact absurd z (by decide)) (fun z => z (hkj.trans hku.symm))), eci, show ((o, a, k) : qWo).1.2.2.2.2.2.2.1 = gr from hgr]; unfold xr_join; rw [if_neg (show ¬ (S j).1 = 6 from hk6j), if_pos (Or.inr (by rw [hmq, hco]; omega))]); exact ⟨by rw [ex]; exact .tail _ (.tail _ (.head _)), by rw [ex]; exact hz.po hf⟩) (by omega)) (fun v hh11 H locs hq hP hS => ?_)
    have hroom : ¬ (1000 < xJc (xEa (S j).1) (S j).2.1 (S u).2.1 ∨ 20000 < (oMq ((o, a, k) : qWo).1).toNatClampNeg + xCo (S j).1 (S j).2.1.length (S u).2.1.length) := fun z => z.elim (fun z => by rw [hea, xJc_t] at z; omega) (fun z => by rw [hmq, hco] at z; have := (zmvs hm9 (show zAm (S j) + zAm (S u) < 2 ^ 31 by omega)).mp (by rw [← hm0]; exact hq.2.2); omega)
    obtain ⟨rfl, rfl, hmv⟩ := hq
    have hmv2 : m0 + (zAm (S j) + zAm (S u)) ≤ 20000 := (zmvs hm9 (by omega)).mp (by rw [← hm0]; exact hmv)
    rw [show oMq (o, a, k).1 = nI m0 from hm0, nI_add] at hP
    replace hP : qP D N0 (qs h x (.inr (6, [.int mk, .ref sl, .ref bl, .ref kr, .ref vr, .int (oCq (o, a, k).1), .int (nI (m0 + (zAm (S j) + zAm (S u)))), .int (nI Ed)]))) H := hP
    replace faj := (qs_ne (h := h) (a := x) (o := (.inr (6, [.int mk, .ref sl, .ref bl, .ref kr, .ref vr, .int (oCq (o, a, k).1), .int (nI (m0 + (zAm (S j) + zAm (S u)))), .int (nI Ed)]))) (fun z => by rw [z, hz.1.1] at faj; simp at faj)).trans faj
    replace fau := (qs_ne (h := h) (a := x) (o := (.inr (6, [.int mk, .ref sl, .ref bl, .ref kr, .ref vr, .int (oCq (o, a, k).1), .int (nI (m0 + (zAm (S j) + zAm (S u)))), .int (nI Ed)]))) (fun z => by rw [z, hz.1.1] at fau; simp at fau)).trans fau
    replace zvj := zvj.up (o := .inr (6, [.int mk, .ref sl, .ref bl, .ref kr, .ref vr, .int (oCq (o, a, k).1), .int (nI (m0 + (zAm (S j) + zAm (S u)))), .int (nI Ed)])) hz.1.1 (fun b y => (hz.2.2.2.2.2.1 b (Or.inl y)).1)
    replace zvu := zvu.up (o := .inr (6, [.int mk, .ref sl, .ref bl, .ref kr, .ref vr, .int (oCq (o, a, k).1), .int (nI (m0 + (zAm (S j) + zAm (S u)))), .int (nI Ed)])) hz.1.1 (fun b y => (hz.2.2.2.2.2.1 b (Or.inl y)).1)
    replace hbj := hbj.seto (o := .inr (6, [.int mk, .ref sl, .ref bl, .ref kr, .ref vr, .int (oCq (o, a, k).1), .int (nI (m0 + (zAm (S j) + zAm (S u)))), .int (nI Ed)])) hz.1.1 (by decide)
    replace hbu := hbu.seto (o := .inr (6, [.int mk, .ref sl, .ref bl, .ref kr, .ref vr, .int (oCq (o, a, k).1), .int (nI (m0 + (zAm (S j) + zAm (S u)))), .int (nI Ed)])) hz.1.1 (by decide)
    replace hf := hf.trs (zFr.set (o' := .inr (6, [.int mk, .ref sl, .ref bl, .ref kr, .ref vr, .int (oCq (o, a, k).1), .int (nI (m0 + (zAm (S j) + zAm (S u)))), .int (nI Ed)])) hz.1.1 (Or.inl rfl))
    replace hz : zQ cy (qs h x (.inr (6, [.int mk, .ref sl, .ref bl, .ref kr, .ref vr, .int (oCq (o, a, k).1), .int (nI (m0 + (zAm (S j) + zAm (S u)))), .int (nI Ed)]))) x mk sl bl kr vr Ed fs bd br eb Im Xb g S (oMv o (nI (m0 + (zAm (S j) + zAm (S u)))), a, k) := hz.mv hV
    replace hV := hV.mvs hm0 (M2 := m0 + (zAm (S j) + zAm (S u))) ⟨by omega, by omega⟩ hmv2
    replace hV : qWv Bd (sk + 1) Rn dp (oMv o (nI (m0 + (zAm (S j) + zAm (S u)))), a, k) := hV
    refine lv_aload_n hx hb dX6_join_186 rfl (lv_at hl 2 rfl) ?_
    refine lv_iload_n hx hb dX6_join_187 rfl (lv_at hl 3 rfl) ?_
    refine lv_aload hx hb dX6_join_188 (lv_at hl 1 rfl) ?_
    refine q_get C hP faj rfl inX2 0 (by decide) g192 rfl dX6_join_190 ?_
    refine lv_aload hx hb dX6_join_193 (lv_at hl 1 rfl) ?_
    refine q_get C hP faj rfl inX2 1 (by decide) g195 rfl dX6_join_195 ?_
    refine lv_aload hx hb dX6_join_198 (lv_at hl 0 rfl) ?_
    refine q_get C hP fau rfl inX2 1 (by decide) g195 rfl dX6_join_200 ?_
    refine q_callS (rest := [.int (nI 0), .int (nI i), .ref x]) C (c_X0_chained l D cy N0 (qs h x (.inr (6, [.int mk, .ref sl, .ref bl, .ref kr, .ref vr, .int (oCq (o, a, k).1), .int (nI (m0 + (zAm (S j) + zAm (S u)))), .int (nI Ed)]))) x1j x1u nj nu ((S j).2.1.map (fun p => ((0 : Int64), p.1))) ((S u).2.1.map (fun p => ((0 : Int64), p.1))) hbj hbu (by omega)) kX0_chained g877 g794 hP hS (by first | decide | omega) hl.1 rfl (by simp [q_catrf, q_cati, q_catl, q_cata, q_catn]) (by first | decide | omega) dX6_join_203 (fun q ce E h' H1 locs1 hE => hE.elim) (fun v hh12 H locs hq hP hS => ?_)
    obtain ⟨r8, n8, rfl, hle8, hb8, -⟩ := hq
    replace faj := hle8 _ _ faj
    replace fau := hle8 _ _ fau
    replace zvj := zvj.le hle8
    replace zvu := zvu.le hle8
    replace hbj := hbj.le hle8
    replace hbu := hbu.le hle8
    replace hf := hf.trs (zFr.le hle8 (qle.dom hle8))
    replace hz := hz.le hV hle8 (qle.dom hle8)
    refine q_callS (rest := [.int (nI i), .ref x]) C (c_X2_ofTree l D cy N0 hh12 (nI 0) r8) kX2_ofTree g516 g517 hP hS (by first | decide | omega) hl.1 rfl (by simp [q_catrf, q_cati, q_catl, q_cata, q_catn]) (by first | decide | omega) dX6_join_206 (fun q ce E h' H1 locs1 hE => hE.elim) (fun v hh13 H locs hq hP hS => ?_)
    obtain ⟨qh, rfl, oqh, rfl⟩ := hq
    replace hP : qP D N0 (qs hh12 qh (.inr (2, [.int (nI 0), va_rf r8, .null, .null, .null, .int 0]))) H := hP
    have hleh : qle hh12 (qs hh12 qh (.inr (2, [.int (nI 0), va_rf r8, .null, .null, .null, .int 0]))) := qle_new oqh
    replace faj := hleh _ _ faj
    replace fau := hleh _ _ fau
    replace zvj := zvj.le hleh
    replace zvu := zvu.le hleh
    replace hbj := hbj.le hleh
    replace hbu := hbu.le hleh
    replace hb8 := hb8.le hleh
    replace hf := hf.trs (zFr.le hleh (qle.dom hleh))
    replace hz := hz.le hV hleh (qle.dom hleh)
    have fqh : (qs hh12 qh (.inr (2, [.int (nI 0), va_rf r8, .null, .null, .null, .int 0]))) qh = some (.inr (2, [.int (nI 0), va_rf r8, .null, .null, .null, .int 0])) := qs_self
    replace fqh : (qs hh12 qh (.inr (2, [.int (nI 0), va_rf r8, .null, .null, .null, .int 0]))) qh = some (.inr (2, [.int (S j).1, va_rf r8, .null, .null, .null, .int 0])) := by rw [hkj]; exact fqh
    have zvn : zV cy (qs hh12 qh (.inr (2, [.int (nI 0), va_rf r8, .null, .null, .null, .int 0]))) Im (zOk Ed eb S) mk g ((S j).1, xJn (S j).1 (xEa (S j).1) (S j).2.1 (S u).2.1, (S j).2.2) r8 none none none 0 := Or.inl ⟨Or.inl hkj, rfl, rfl, rfl, rfl, n8, by show qBr _ _ _ ((xJn (S j).1 (xEa (S j).1) (S j).2.1 (S u).2.1).map _); rw [hea, xJn_app (Or.inl hkj), List.map_append]; exact hb8⟩
    have hzp := hz.put hV hi (s := ((S j).1, xJn (S j).1 (xEa (S j).1) (S j).2.1 (S u).2.1, (S j).2.2)) (show ¬ ((S j).1 = -1) from fun z => absurd (hkj.symm.trans z) (by decide)) ⟨r8, none, none, none, 0, fqh, zvn⟩
    have hfp : zFr h (qs (qs hh12 qh (.inr (2, [.int (nI 0), va_rf r8, .null, .null, .null, .int 0]))) sl (.inl (cy 3, 24, .inr (.inr (.inr (.inr (va_up fs i (some qh)))))))) x sl kr vr bd br Xb := hf.trs (zFr.set hz.2.1.1 (Or.inr (Or.inl rfl)))
    have hkd : qHd (qs hh12 qh (.inr (2, [.int (nI 0), va_rf r8, .null, .null, .null, .int 0]))) qh ((S j).1) r8 none none none 0 (nI (zAm ((S j).1, xJn (S j).1 (xEa (S j).1) (S j).2.1 (S u).2.1, (S j).2.2))) := zHd.hd (s := ((S j).1, xJn (S j).1 (xEa (S j).1) (S j).2.1 (S u).2.1, (S j).2.2)) fqh zvn
    refine q_callV (rest := []) C (c_X6_keep l D cy N0 (qs hh12 qh (.inr (2, [.int (nI 0), va_rf r8, .null, .null, .null, .int 0]))) x sl bl kr vr mk (oCq (oMv o (nI (m0 + (zAm (S j) + zAm (S u)))), a, k).1) (oMq (oMv o (nI (m0 + (zAm (S j) + zAm (S u)))), a, k).1) (nI Ed) fs i qh ((S j).1) r8 none none none 0 (nI (zAm ((S j).1, xJn (S j).1 (xEa (S j).1) (S j).2.1 (S u).2.1, (S j).2.2))) hz.1.1 hz.2.1.1 hi hkd) kX6_keep g218 g220 rfl gp1 g1 hP hS hz.1.1 (by first | decide | omega) hl.1 rfl (by decide) (by first | decide | omega) dX6_join_209 (fun q ce E h' H1 locs1 hE => hE.elim) (fun v hh14 H locs hq hP hS => ?_)
    obtain ⟨rfl, rfl⟩ := hq
    replace faj := (qs_ne (h := (qs hh12 qh (.inr (2, [.int (nI 0), va_rf r8, .null, .null, .null, .int 0])))) (a := sl) (o := (.inl (cy 3, 24, .inr (.inr (.inr (.inr (va_up fs i (some qh)))))))) (fun z => by rw [z, hz.2.1.1] at faj; cases faj)).trans faj
    replace fau := (qs_ne (h := (qs hh12 qh (.inr (2, [.int (nI 0), va_rf r8, .null, .null, .null, .int 0])))) (a := sl) (o := (.inl (cy 3, 24, .inr (.inr (.inr (.inr (va_up fs i (some qh)))))))) (fun z => by rw [z, hz.2.1.1] at fau; cases fau)).trans fau
    have ex : (xs_join S (o, a, k) (nI i) (nI j) (nI u)) = (0, nI (xJn (S j).1 (xEa (S j).1) (S j).2.1 (S u).2.1).length, qU S i ((S j).1, xJn (S j).1 (xEa (S j).1) (S j).2.1 (S u).2.1, (S j).2.2), oMv o (nI (m0 + (zAm (S j) + zAm (S u)))), a, k) := by unfold xs_join; rw [if_neg (by rw [ebi, ebj, ebu]; decide), ecj, ecu, if_neg (fun z => z.elim (fun z => by rw [hkj] at z; exact absurd z (by decide)) (fun z => z (hkj.trans hku.symm))), eci, show ((o, a, k) : qWo).1.2.2.2.2.2.2.1 = gr from hgr]; unfold xr_join; rw [if_neg (show ¬ (S j).1 = 6 from hk6j), if_neg hroom, if_neg hany]; rw [show oMq ((o, a, k) : qWo).1 = nI m0 from hm0, show xCo (S j).1 (S j).2.1.length (S u).2.1.length = (zAm (S j) + zAm (S u)) from hco, nI_add]
    exact q_iret C hP hS ⟨by rw [ex], by first | (rw [ex]; done) | (rw [ex]; show some (Value.int (nI (zAm ((S j).1, xJn (S j).1 (xEa (S j).1) (S j).2.1 (S u).2.1, (S j).2.2)))) = _; rw [zAm_n (s := ((S j).1, xJn (S j).1 (xEa (S j).1) (S j).2.1 (S u).2.1, (S j).2.2)) hk6j]), by rw [ex]; exact hzp.po hfp⟩ (by omega) dX6_join_212
  · have faj0 := faj
    rw [hkj] at faj
    have hk6j : ¬ (S j).1 = 6 := fun z => absurd (hkj.symm.trans z) (by decide)
    have hamj : zAm (S j) = (S j).2.1.length := zAm_n hk6j
    refine lv_astore (lv' := [(4, .ref aj), (0, .ref x), (1, .int (nI i)), (2, .int (nI j)), (3, .int (nI u))]) hx hb dX6_join_19 hl (by decide) rfl (fun ls hl => ?_)
    refine lv_aload_n hx hb dX6_join_21 rfl (lv_at hl 1 rfl) ?_
    refine lv_iload_n hx hb dX6_join_22 rfl (lv_at hl 4 rfl) ?_
    refine lv_iconst (v := nI 1) hx hb dX6_join_23 (by decide) ?_
    refine lv_aload hx hb dX6_join_24 (lv_at hl 0 rfl) ?_
    refine q_get C hP faj rfl inX2 0 (by decide) g192 rfl dX6_join_26 ?_
    refine lv_ishl hx hb dX6_join_29 ?_
    rw [show nI 1 <<< (nI 1 &&& 31) = 2 by decide]
    refine q_callV (rest := []) C (z_heldIn l D N0 (nI u) 2 hz hI) kX6_heldIn g243 g245 rfl gp2 g1 hP hS hz.1.1 (by first | decide | omega) hl.1 rfl (by decide) (by first | decide | omega) dX6_join_30 (fun q ce E h' H1 locs1 hE hP hS hc1 hc2 hc3 => hE.2.elim (fun y => by obtain ⟨rfl, -⟩ := hE; obtain ⟨rfl, hn9⟩ := y; exact absurd hn9 (by rw [ebu]; decide)) (fun y => by obtain ⟨rfl, -⟩ := hE; obtain ⟨rfl, i8, hi8, e8, ho8⟩ := y; obtain rfl : u = i8 := nI_inj32 (by omega) (by omega) e8; exact q_out C hP hS hc1 hc2 hc3 (by have ex : (xs_join S (o, a, k) (nI i) (nI j) (nI u)) = (2, 0, S, o, a, k) := (by have ebu : bSl (nI u) = true := bSl_t (qSl.nI hi8); have ecu : (nI u).toNatClampNeg = u := nI_clamp (by omega); have hou := ho8; unfold xs_join; rw [if_neg (by rw [ebi, ebj, ebu]; decide), ecj, ecu, if_pos (Or.inr (by rw [hkj]; exact (bHo_p1 (hI u (by omega)).2.2).2 hou))]); exact ⟨by rw [ex]; exact .tail _ (.head _), by rw [ex]; exact hz.po hf⟩) (by omega))) (fun v hh15 H locs hq hP hS => ?_)
    obtain ⟨rfl, u9, au, hu9, eu9, hfsu, rfl, hou, x1u, x2u, x3u, x4u, dvu, fau, zvu⟩ := hq
    obtain rfl : u = u9 := nI_inj32 (by omega) (by omega) eu9
    have hku : (S u).1 = nI 1 := (bHo_p1 (hI u (by omega)).2.2).1 hou
    have fau0 := fau
    rw [hku] at fau
    have hlj := hLn j (by omega)
    have hlu := hLn u (by omega)
    have hk6u : ¬ (S u).1 = 6 := fun z => absurd (hku.symm.trans z) (by decide)
    have hamu : zAm (S u) = (S u).2.1.length := zAm_n hk6u
    have hco : xCo (S j).1 (S j).2.1.length (S u).2.1.length = (zAm (S j) + zAm (S u)) := by unfold xCo; rw [if_neg (show ¬ (S j).1 = 5 from fun z => absurd (hkj.symm.trans z) (by decide)), hamj, hamu]
    have hea : xEa (S j).1 = false := by rw [hkj]; rfl
    have hmq : (oMq ((o, a, k) : qWo).1).toNatClampNeg = m0 := by rw [show oMq ((o, a, k) : qWo).1 = nI m0 from hm0]; exact nI_clamp (by omega)
    obtain ⟨rfl, rfl, rfl, rfl, -⟩ := zvj.hash (Or.inl hkj)
    obtain ⟨rfl, rfl, rfl, rfl, -⟩ := zvu.hash (Or.inl hku)
    refine lv_astore (lv' := [(5, .ref au), (4, .ref aj), (0, .ref x), (1, .int (nI i)), (2, .int (nI j)), (3, .int (nI u))]) hx hb dX6_join_33 hl (by decide) rfl (fun ls hl => ?_)
    refine lv_aload hx hb dX6_join_35 (lv_at hl 1 rfl) ?_
    refine q_get C hP faj rfl inX2 0 (by decide) g192 rfl dX6_join_37 ?_
    refine lv_tableIn (tgt := 143) (off := 103) hx hb dX6_join_40 (by decide +kernel) (by decide +kernel) (by decide +kernel) (by decide) ?_
    refine lv_aload_n hx hb dX6_join_143 rfl (lv_at hl 2 rfl) ?_
    refine lv_iload_n hx hb dX6_join_144 rfl (lv_at hl 3 rfl) ?_
    refine lv_aload_n hx hb dX6_join_145 rfl (lv_at hl 2 rfl) ?_
    refine lv_aload hx hb dX6_join_146 (lv_at hl 1 rfl) ?_
    refine lv_aload hx hb dX6_join_148 (lv_at hl 0 rfl) ?_
    have hnoj : qNo (S j).2.1 := (hI j (by omega)).2.1 (Or.inl hkj)
    have hnou : qNo (S u).2.1 := (hI u (by omega)).2.1 (Or.inl hku)
    have hzlu := zSv_len (s := S u)
    have ejn : xJn (S j).1 (xEa (S j).1) (S j).2.1 (S u).2.1 = xJn (S j).1 false (S j).2.1 (S u).2.1 := by rw [hea]
    refine q_callV (rest := [.int (nI i), .ref x]) C (z_joinedTries l D cy N0 h x mk sl bl kr vr Ed fs bd br eb Im Xb g S Bd (sk + 1) Rn dp o a k gr m0 j u aj au U x2j x2u hz hI hLn hV hm0 hm9 hj hu faj0 fau0 zvj zvu (Or.inl hkj) (hku.trans hkj.symm) hmk (hAl j (by omega) (Or.inl hkj)) (h64 j (by omega) (Or.inl hkj)) (h64 u (by omega) (Or.inl hku)) hU hE9) kX6_joinedTries g860 g862 rfl gp23 g1 hP hS hz.1.1 (by first | decide | omega) hl.1 rfl (by simp [q_catrf, q_cati, q_catl, q_cata, q_catn]) (by first | decide | omega) dX6_join_150 (fun q ce E h' H1 locs1 hE hP hS hc1 hc2 hc3 => by obtain ⟨rfl, hE1, hz, hf⟩ := hE; rw [hzlu, ← hamu] at hE1; have exx : (1000 < xJc (xEa (S j).1) (S j).2.1 (S u).2.1 ∨ 20000 < (oMq ((o, a, k) : qWo).1).toNatClampNeg + xCo (S j).1 (S j).2.1.length (S u).2.1.length) ∨ (S u).2.1.any (fun p => decide (16 < xAl gr (xJn (S j).1 (xEa (S j).1) (S j).2.1 (S u).2.1) p.1 ∧ ((S j).1 = 1 ∨ (S j).1 = 2))) = true := (hE1.elim (fun z => Or.inr (by obtain ⟨p, hp, z⟩ := z; have hp2 := (thT_perm (m := mk) 7 (zSv (S u))).subset hp; obtain ⟨p2, hp3, ep⟩ := zSv_memk hp2; exact List.any_eq_true.mpr ⟨p2, hp3, decide_eq_true ⟨by rw [ejn, ← zNa_jn (s := S j) (t := S u) hmk hnou, ep]; exact z, Or.inl hkj⟩⟩)) (fun z => Or.inl (z.elim (fun z => Or.inl (by rw [hea, ← zNf_jn (s := S j) (t := S u) (mk := mk)]; exact z)) (fun z => Or.inr (by rw [hmq, hco]; omega))))); exact q_out C hP hS hc1 hc2 hc3 (by have ex : (xs_join S (o, a, k) (nI i) (nI j) (nI u)) = (3, 0, S, o, a, k) := (by unfold xs_join; rw [if_neg (by rw [ebi, ebj, ebu]; decide), ecj, ecu, if_neg (fun z => z.elim (fun z => by rw [hkj] at z; exact absurd z (by decide)) (fun z => z (hkj.trans hku.symm))), eci, show ((o, a, k) : qWo).1.2.2.2.2.2.2.1 = gr from hgr]; unfold xr_join; rw [if_neg (show ¬ (S j).1 = 6 from hk6j)]; exact (if z : _ then if_pos z else (if_neg z).trans (if_pos (exx.resolve_left z)))); exact ⟨by rw [ex]; exact .tail _ (.tail _ (.head _)), by rw [ex]; exact hz.po hf⟩) (by omega)) (fun v hh16 H locs hq hP hS => ?_)
    obtain ⟨hro1, hro2, hmv2, hq⟩ := hq
    rw [hzlu, ← hamu] at hmv2 hq
    have hroom : ¬ (1000 < xJc (xEa (S j).1) (S j).2.1 (S u).2.1 ∨ 20000 < (oMq ((o, a, k) : qWo).1).toNatClampNeg + xCo (S j).1 (S j).2.1.length (S u).2.1.length) := fun z => z.elim (fun z => by rw [hea] at z; rw [zNf_jn (s := S j) (t := S u) (mk := mk)] at hro2; omega) (fun z => by rw [hmq, hco] at z; omega)
    have hany : ¬ (S u).2.1.any (fun p => decide (16 < xAl gr (xJn (S j).1 (xEa (S j).1) (S j).2.1 (S u).2.1) p.1 ∧ ((S j).1 = 1 ∨ (S j).1 = 2))) = true := zany0 (fun p _ => decide_eq_false (fun z => by have y := z.1; rw [ejn, ← zNa_jn (s := S j) (t := S u) hmk hnou] at y; have := hro1 p.1; omega))
    rcases hq with ⟨rfl, hej, fau1, hz1, hf1, zvu1⟩ | ⟨qh, x8, Im3, rfl, fqh, hz1, hf1, hR3, hi3⟩
    · obtain ⟨qh, rfl⟩ : ∃ z, z = au := ⟨_, rfl⟩
      replace hz := hz1
      replace hf := hf1
      have hV1 := hV.mvs hm0 (M2 := m0 + (zAm (S j) + zAm (S u))) ⟨by omega, by omega⟩ hmv2
      replace hV : qWv Bd (sk + 1) Rn dp (oMv o (nI (m0 + (zAm (S j) + zAm (S u)))), a, k) := hV1
      have fqh := fau1
      have ejl : (S j).2.1 = [] := List.length_eq_zero_iff.mp (by rw [← zSv_len, hej]; rfl)
      have ens : xJn (S j).1 (xEa (S j).1) (S j).2.1 (S u).2.1 = (S u).2.1 := by rw [ejn, ejl, xJn_dj (Or.inl hkj) _ _ hnou (fun p _ => rfl)]; rfl
      rw [hku] at fqh
      replace fqh : (hh16) qh = some (.inr (2, [.int (S j).1, .null, va_rf x2u, .null, .null, .int 0])) := by rw [hkj]; exact fqh
      have zvn : zV cy hh16 Im (zOk Ed eb S) mk g ((S j).1, xJn (S j).1 (xEa (S j).1) (S j).2.1 (S u).2.1, (S j).2.2) none x2u none none 0 := Or.inr (Or.inr (Or.inr (Or.inl ⟨Or.inl hkj, rfl, rfl, rfl, rfl, by have e9 : zSv ((S j).1, xJn (S j).1 (xEa (S j).1) (S j).2.1 (S u).2.1, (S j).2.2) = zSv (S u) := zSv_cg (hkj.trans hku.symm) ens; rw [e9]; exact (zvu1.hash (Or.inl hku)).2.2.2.2⟩)))
      have hzp := hz.put hV hi (s := ((S j).1, xJn (S j).1 (xEa (S j).1) (S j).2.1 (S u).2.1, (S j).2.2)) (show ¬ ((S j).1 = -1) from fun z => absurd (hkj.symm.trans z) (by decide)) ⟨none, x2u, none, none, 0, fqh, zvn⟩
      have hfp : zFr h (qs hh16 sl (.inl (cy 3, 24, .inr (.inr (.inr (.inr (va_up fs i (some qh)))))))) x sl kr vr bd br Xb := hf.trs (zFr.set hz.2.1.1 (Or.inr (Or.inl rfl)))
      have hkd : qHd hh16 qh ((S j).1) none x2u none none 0 (nI (zAm ((S j).1, xJn (S j).1 (xEa (S j).1) (S j).2.1 (S u).2.1, (S j).2.2))) := zHd.hd (s := ((S j).1, xJn (S j).1 (xEa (S j).1) (S j).2.1 (S u).2.1, (S j).2.2)) fqh zvn
      refine q_callV (rest := []) C (c_X6_keep l D cy N0 hh16 x sl bl kr vr mk (oCq (oMv o (nI (m0 + (zAm (S j) + zAm (S u)))), a, k).1) (oMq (oMv o (nI (m0 + (zAm (S j) + zAm (S u)))), a, k).1) (nI Ed) fs i qh ((S j).1) none x2u none none 0 (nI (zAm ((S j).1, xJn (S j).1 (xEa (S j).1) (S j).2.1 (S u).2.1, (S j).2.2))) hz.1.1 hz.2.1.1 hi hkd) kX6_keep g218 g220 rfl gp1 g1 hP hS hz.1.1 (by first | decide | omega) hl.1 rfl (by decide) (by first | decide | omega) dX6_join_153 (fun q ce E h' H1 locs1 hE => hE.elim) (fun v hh17 H locs hq hP hS => ?_)
      obtain ⟨rfl, rfl⟩ := hq
      have ex : (xs_join S (o, a, k) (nI i) (nI j) (nI u)) = (0, nI (xJn (S j).1 (xEa (S j).1) (S j).2.1 (S u).2.1).length, qU S i ((S j).1, xJn (S j).1 (xEa (S j).1) (S j).2.1 (S u).2.1, (S j).2.2), oMv o (nI (m0 + (zAm (S j) + zAm (S u)))), a, k) := by unfold xs_join; rw [if_neg (by rw [ebi, ebj, ebu]; decide), ecj, ecu, if_neg (fun z => z.elim (fun z => by rw [hkj] at z; exact absurd z (by decide)) (fun z => z (hkj.trans hku.symm))), eci, show ((o, a, k) : qWo).1.2.2.2.2.2.2.1 = gr from hgr]; unfold xr_join; rw [if_neg (show ¬ (S j).1 = 6 from hk6j), if_neg hroom, if_neg hany]; rw [show oMq ((o, a, k) : qWo).1 = nI m0 from hm0, show xCo (S j).1 (S j).2.1.length (S u).2.1.length = (zAm (S j) + zAm (S u)) from hco, nI_add]
      exact q_iret C hP hS ⟨by rw [ex], by first | (rw [ex]; done) | (rw [ex]; show some (Value.int (nI (zAm ((S j).1, xJn (S j).1 (xEa (S j).1) (S j).2.1 (S u).2.1, (S j).2.2)))) = _; rw [zAm_n (s := ((S j).1, xJn (S j).1 (xEa (S j).1) (S j).2.1 (S u).2.1, (S j).2.2)) hk6j]), by rw [ex]; exact hzp.po hfp⟩ (by omega) dX6_join_156
    · replace hz := hz1
      replace hf := hf1
      have hV1 := hV.mvs hm0 (M2 := m0 + (zAm (S j) + zAm (S u))) ⟨by omega, by omega⟩ hmv2
      replace hV : qWv Bd (sk + 1) Rn dp (oMv o (nI (m0 + (zAm (S j) + zAm (S u)))), a, k) := hV1
      rw [hkj] at fqh
      replace fqh : (hh16) qh = some (.inr (2, [.int (S j).1, .null, va_rf x8, .null, .null, .int 0])) := by rw [hkj]; exact fqh
      have zvn : zV cy hh16 Im3 (zOk (Ed + 1) eb S) mk g ((S j).1, xJn (S j).1 (xEa (S j).1) (S j).2.1 (S u).2.1, (S j).2.2) none x8 none none 0 := Or.inr (Or.inr (Or.inr (Or.inl ⟨Or.inl hkj, rfl, rfl, rfl, rfl, by rw [ejn]; exact hR3⟩)))
      have hzp := hz.put hV hi (s := ((S j).1, xJn (S j).1 (xEa (S j).1) (S j).2.1 (S u).2.1, (S j).2.2)) (show ¬ ((S j).1 = -1) from fun z => absurd (hkj.symm.trans z) (by decide)) ⟨none, x8, none, none, 0, fqh, zvn⟩
      have hfp : zFr h (qs hh16 sl (.inl (cy 3, 24, .inr (.inr (.inr (.inr (va_up fs i (some qh)))))))) x sl kr vr bd br Xb := hf.trs (zFr.set hz.2.1.1 (Or.inr (Or.inl rfl)))
      have hkd : qHd hh16 qh ((S j).1) none x8 none none 0 (nI (zAm ((S j).1, xJn (S j).1 (xEa (S j).1) (S j).2.1 (S u).2.1, (S j).2.2))) := zHd.hd (s := ((S j).1, xJn (S j).1 (xEa (S j).1) (S j).2.1 (S u).2.1, (S j).2.2)) fqh zvn
      refine q_callV (rest := []) C (c_X6_keep l D cy N0 hh16 x sl bl kr vr mk (oCq (oMv o (nI (m0 + (zAm (S j) + zAm (S u)))), a, k).1) (oMq (oMv o (nI (m0 + (zAm (S j) + zAm (S u)))), a, k).1) (nI (Ed + 1)) fs i qh ((S j).1) none x8 none none 0 (nI (zAm ((S j).1, xJn (S j).1 (xEa (S j).1) (S j).2.1 (S u).2.1, (S j).2.2))) hz.1.1 hz.2.1.1 hi hkd) kX6_keep g218 g220 rfl gp1 g1 hP hS hz.1.1 (by first | decide | omega) hl.1 rfl (by decide) (by first | decide | omega) dX6_join_153 (fun q ce E h' H1 locs1 hE => hE.elim) (fun v hh18 H locs hq hP hS => ?_)
      obtain ⟨rfl, rfl⟩ := hq
      have ex : (xs_join S (o, a, k) (nI i) (nI j) (nI u)) = (0, nI (xJn (S j).1 (xEa (S j).1) (S j).2.1 (S u).2.1).length, qU S i ((S j).1, xJn (S j).1 (xEa (S j).1) (S j).2.1 (S u).2.1, (S j).2.2), oMv o (nI (m0 + (zAm (S j) + zAm (S u)))), a, k) := by unfold xs_join; rw [if_neg (by rw [ebi, ebj, ebu]; decide), ecj, ecu, if_neg (fun z => z.elim (fun z => by rw [hkj] at z; exact absurd z (by decide)) (fun z => z (hkj.trans hku.symm))), eci, show ((o, a, k) : qWo).1.2.2.2.2.2.2.1 = gr from hgr]; unfold xr_join; rw [if_neg (show ¬ (S j).1 = 6 from hk6j), if_neg hroom, if_neg hany]; rw [show oMq ((o, a, k) : qWo).1 = nI m0 from hm0, show xCo (S j).1 (S j).2.1.length (S u).2.1.length = (zAm (S j) + zAm (S u)) from hco, nI_add]
      exact q_iret C hP hS ⟨by rw [ex], by first | (rw [ex]; done) | (rw [ex]; show some (Value.int (nI (zAm ((S j).1, xJn (S j).1 (xEa (S j).1) (S j).2.1 (S u).2.1, (S j).2.2)))) = _; rw [zAm_n (s := ((S j).1, xJn (S j).1 (xEa (S j).1) (S j).2.1 (S u).2.1, (S j).2.2)) hk6j]), by rw [ex]; exact hzp.po1 hfp hi3⟩ (by omega) dX6_join_156
  · have faj0 := faj
    rw [hkj] at faj
    have hk6j : ¬ (S j).1 = 6 := fun z => absurd (hkj.symm.trans z) (by decide)
    have hamj : zAm (S j) = (S j).2.1.length := zAm_n hk6j
    refine lv_astore (lv' := [(4, .ref aj), (0, .ref x), (1, .int (nI i)), (2, .int (nI j)), (3, .int (nI u))]) hx hb dX6_join_19 hl (by decide) rfl (fun ls hl => ?_)
    refine lv_aload_n hx hb dX6_join_21 rfl (lv_at hl 1 rfl) ?_
    refine lv_iload_n hx hb dX6_join_22 rfl (lv_at hl 4 rfl) ?_
    refine lv_iconst (v := nI 1) hx hb dX6_join_23 (by decide) ?_
    refine lv_aload hx hb dX6_join_24 (lv_at hl 0 rfl) ?_
    refine q_get C hP faj rfl inX2 0 (by decide) g192 rfl dX6_join_26 ?_
    refine lv_ishl hx hb dX6_join_29 ?_
    rw [show nI 1 <<< (nI 2 &&& 31) = 4 by decide]
    refine q_callV (rest := []) C (z_heldIn l D N0 (nI u) 4 hz hI) kX6_heldIn g243 g245 rfl gp2 g1 hP hS hz.1.1 (by first | decide | omega) hl.1 rfl (by decide) (by first | decide | omega) dX6_join_30 (fun q ce E h' H1 locs1 hE hP hS hc1 hc2 hc3 => hE.2.elim (fun y => by obtain ⟨rfl, -⟩ := hE; obtain ⟨rfl, hn9⟩ := y; exact absurd hn9 (by rw [ebu]; decide)) (fun y => by obtain ⟨rfl, -⟩ := hE; obtain ⟨rfl, i8, hi8, e8, ho8⟩ := y; obtain rfl : u = i8 := nI_inj32 (by omega) (by omega) e8; exact q_out C hP hS hc1 hc2 hc3 (by have ex : (xs_join S (o, a, k) (nI i) (nI j) (nI u)) = (2, 0, S, o, a, k) := (by have ebu : bSl (nI u) = true := bSl_t (qSl.nI hi8); have ecu : (nI u).toNatClampNeg = u := nI_clamp (by omega); have hou := ho8; unfold xs_join; rw [if_neg (by rw [ebi, ebj, ebu]; decide), ecj, ecu, if_pos (Or.inr (by rw [hkj]; exact (bHo_p2 (hI u (by omega)).2.2).2 hou))]); exact ⟨by rw [ex]; exact .tail _ (.head _), by rw [ex]; exact hz.po hf⟩) (by omega))) (fun v hh19 H locs hq hP hS => ?_)
    obtain ⟨rfl, u9, au, hu9, eu9, hfsu, rfl, hou, x1u, x2u, x3u, x4u, dvu, fau, zvu⟩ := hq
    obtain rfl : u = u9 := nI_inj32 (by omega) (by omega) eu9
    have hku : (S u).1 = nI 2 := (bHo_p2 (hI u (by omega)).2.2).1 hou
    have fau0 := fau
    rw [hku] at fau
    have hlj := hLn j (by omega)
    have hlu := hLn u (by omega)
    have hk6u : ¬ (S u).1 = 6 := fun z => absurd (hku.symm.trans z) (by decide)
    have hamu : zAm (S u) = (S u).2.1.length := zAm_n hk6u
    have hco : xCo (S j).1 (S j).2.1.length (S u).2.1.length = (zAm (S j) + zAm (S u)) := by unfold xCo; rw [if_neg (show ¬ (S j).1 = 5 from fun z => absurd (hkj.symm.trans z) (by decide)), hamj, hamu]
    have hea : xEa (S j).1 = false := by rw [hkj]; rfl
    have hmq : (oMq ((o, a, k) : qWo).1).toNatClampNeg = m0 := by rw [show oMq ((o, a, k) : qWo).1 = nI m0 from hm0]; exact nI_clamp (by omega)
    obtain ⟨rfl, rfl, rfl, rfl, -⟩ := zvj.hash (Or.inr hkj)
    obtain ⟨rfl, rfl, rfl, rfl, -⟩ := zvu.hash (Or.inr hku)
    refine lv_astore (lv' := [(5, .ref au), (4, .ref aj), (0, .ref x), (1, .int (nI i)), (2, .int (nI j)), (3, .int (nI u))]) hx hb dX6_join_33 hl (by decide) rfl (fun ls hl => ?_)
    refine lv_aload hx hb dX6_join_35 (lv_at hl 1 rfl) ?_
    refine q_get C hP faj rfl inX2 0 (by decide) g192 rfl dX6_join_37 ?_
    refine lv_tableIn (tgt := 143) (off := 103) hx hb dX6_join_40 (by decide +kernel) (by decide +kernel) (by decide +kernel) (by decide) ?_
    refine lv_aload_n hx hb dX6_join_143 rfl (lv_at hl 2 rfl) ?_
    refine lv_iload_n hx hb dX6_join_144 rfl (lv_at hl 3 rfl) ?_
    refine lv_aload_n hx hb dX6_join_145 rfl (lv_at hl 2 rfl) ?_
    refine lv_aload hx hb dX6_join_146 (lv_at hl 1 rfl) ?_
    refine lv_aload hx hb dX6_join_148 (lv_at hl 0 rfl) ?_
    have hnoj : qNo (S j).2.1 := (hI j (by omega)).2.1 (Or.inr (Or.inl hkj))
    have hnou : qNo (S u).2.1 := (hI u (by omega)).2.1 (Or.inr (Or.inl hku))
    have hzlu := zSv_len (s := S u)
    have ejn : xJn (S j).1 (xEa (S j).1) (S j).2.1 (S u).2.1 = xJn (S j).1 false (S j).2.1 (S u).2.1 := by rw [hea]
    refine q_callV (rest := [.int (nI i), .ref x]) C (z_joinedTries l D cy N0 h x mk sl bl kr vr Ed fs bd br eb Im Xb g S Bd (sk + 1) Rn dp o a k gr m0 j u aj au U x2j x2u hz hI hLn hV hm0 hm9 hj hu faj0 fau0 zvj zvu (Or.inr hkj) (hku.trans hkj.symm) hmk (hAl j (by omega) (Or.inr hkj)) (h64 j (by omega) (Or.inr (Or.inl hkj))) (h64 u (by omega) (Or.inr (Or.inl hku))) hU hE9) kX6_joinedTries g860 g862 rfl gp23 g1 hP hS hz.1.1 (by first | decide | omega) hl.1 rfl (by simp [q_catrf, q_cati, q_catl, q_cata, q_catn]) (by first | decide | omega) dX6_join_150 (fun q ce E h' H1 locs1 hE hP hS hc1 hc2 hc3 => by obtain ⟨rfl, hE1, hz, hf⟩ := hE; rw [hzlu, ← hamu] at hE1; have exx : (1000 < xJc (xEa (S j).1) (S j).2.1 (S u).2.1 ∨ 20000 < (oMq ((o, a, k) : qWo).1).toNatClampNeg + xCo (S j).1 (S j).2.1.length (S u).2.1.length) ∨ (S u).2.1.any (fun p => decide (16 < xAl gr (xJn (S j).1 (xEa (S j).1) (S j).2.1 (S u).2.1) p.1 ∧ ((S j).1 = 1 ∨ (S j).1 = 2))) = true := (hE1.elim (fun z => Or.inr (by obtain ⟨p, hp, z⟩ := z; have hp2 := (thT_perm (m := mk) 7 (zSv (S u))).subset hp; obtain ⟨p2, hp3, ep⟩ := zSv_memk hp2; exact List.any_eq_true.mpr ⟨p2, hp3, decide_eq_true ⟨by rw [ejn, ← zNa_jn (s := S j) (t := S u) hmk hnou, ep]; exact z, Or.inr hkj⟩⟩)) (fun z => Or.inl (z.elim (fun z => Or.inl (by rw [hea, ← zNf_jn (s := S j) (t := S u) (mk := mk)]; exact z)) (fun z => Or.inr (by rw [hmq, hco]; omega))))); exact q_out C hP hS hc1 hc2 hc3 (by have ex : (xs_join S (o, a, k) (nI i) (nI j) (nI u)) = (3, 0, S, o, a, k) := (by unfold xs_join; rw [if_neg (by rw [ebi, ebj, ebu]; decide), ecj, ecu, if_neg (fun z => z.elim (fun z => by rw [hkj] at z; exact absurd z (by decide)) (fun z => z (hkj.trans hku.symm))), eci, show ((o, a, k) : qWo).1.2.2.2.2.2.2.1 = gr from hgr]; unfold xr_join; rw [if_neg (show ¬ (S j).1 = 6 from hk6j)]; exact (if z : _ then if_pos z else (if_neg z).trans (if_pos (exx.resolve_left z)))); exact ⟨by rw [ex]; exact .tail _ (.tail _ (.head _)), by rw [ex]; exact hz.po hf⟩) (by omega)) (fun v hh20 H locs hq hP hS => ?_)
    obtain ⟨hro1, hro2, hmv2, hq⟩ := hq
    rw [hzlu, ← hamu] at hmv2 hq
    have hroom : ¬ (1000 < xJc (xEa (S j).1) (S j).2.1 (S u).2.1 ∨ 20000 < (oMq ((o, a, k) : qWo).1).toNatClampNeg + xCo (S j).1 (S j).2.1.length (S u).2.1.length) := fun z => z.elim (fun z => by rw [hea] at z; rw [zNf_jn (s := S j) (t := S u) (mk := mk)] at hro2; omega) (fun z => by rw [hmq, hco] at z; omega)
    have hany : ¬ (S u).2.1.any (fun p => decide (16 < xAl gr (xJn (S j).1 (xEa (S j).1) (S j).2.1 (S u).2.1) p.1 ∧ ((S j).1 = 1 ∨ (S j).1 = 2))) = true := zany0 (fun p _ => decide_eq_false (fun z => by have y := z.1; rw [ejn, ← zNa_jn (s := S j) (t := S u) hmk hnou] at y; have := hro1 p.1; omega))
    rcases hq with ⟨rfl, hej, fau1, hz1, hf1, zvu1⟩ | ⟨qh, x8, Im3, rfl, fqh, hz1, hf1, hR3, hi3⟩
    · obtain ⟨qh, rfl⟩ : ∃ z, z = au := ⟨_, rfl⟩
      replace hz := hz1
      replace hf := hf1
      have hV1 := hV.mvs hm0 (M2 := m0 + (zAm (S j) + zAm (S u))) ⟨by omega, by omega⟩ hmv2
      replace hV : qWv Bd (sk + 1) Rn dp (oMv o (nI (m0 + (zAm (S j) + zAm (S u)))), a, k) := hV1
      have fqh := fau1
      have ejl : (S j).2.1 = [] := List.length_eq_zero_iff.mp (by rw [← zSv_len, hej]; rfl)
      have ens : xJn (S j).1 (xEa (S j).1) (S j).2.1 (S u).2.1 = (S u).2.1 := by rw [ejn, ejl, xJn_dj (Or.inr hkj) _ _ hnou (fun p _ => rfl)]; rfl
      rw [hku] at fqh
      replace fqh : (hh20) qh = some (.inr (2, [.int (S j).1, .null, va_rf x2u, .null, .null, .int 0])) := by rw [hkj]; exact fqh
      have zvn : zV cy hh20 Im (zOk Ed eb S) mk g ((S j).1, xJn (S j).1 (xEa (S j).1) (S j).2.1 (S u).2.1, (S j).2.2) none x2u none none 0 := Or.inr (Or.inr (Or.inr (Or.inl ⟨Or.inr hkj, rfl, rfl, rfl, rfl, by have e9 : zSv ((S j).1, xJn (S j).1 (xEa (S j).1) (S j).2.1 (S u).2.1, (S j).2.2) = zSv (S u) := zSv_cg (hkj.trans hku.symm) ens; rw [e9]; exact (zvu1.hash (Or.inr hku)).2.2.2.2⟩)))
      have hzp := hz.put hV hi (s := ((S j).1, xJn (S j).1 (xEa (S j).1) (S j).2.1 (S u).2.1, (S j).2.2)) (show ¬ ((S j).1 = -1) from fun z => absurd (hkj.symm.trans z) (by decide)) ⟨none, x2u, none, none, 0, fqh, zvn⟩
      have hfp : zFr h (qs hh20 sl (.inl (cy 3, 24, .inr (.inr (.inr (.inr (va_up fs i (some qh)))))))) x sl kr vr bd br Xb := hf.trs (zFr.set hz.2.1.1 (Or.inr (Or.inl rfl)))
      have hkd : qHd hh20 qh ((S j).1) none x2u none none 0 (nI (zAm ((S j).1, xJn (S j).1 (xEa (S j).1) (S j).2.1 (S u).2.1, (S j).2.2))) := zHd.hd (s := ((S j).1, xJn (S j).1 (xEa (S j).1) (S j).2.1 (S u).2.1, (S j).2.2)) fqh zvn
      refine q_callV (rest := []) C (c_X6_keep l D cy N0 hh20 x sl bl kr vr mk (oCq (oMv o (nI (m0 + (zAm (S j) + zAm (S u)))), a, k).1) (oMq (oMv o (nI (m0 + (zAm (S j) + zAm (S u)))), a, k).1) (nI Ed) fs i qh ((S j).1) none x2u none none 0 (nI (zAm ((S j).1, xJn (S j).1 (xEa (S j).1) (S j).2.1 (S u).2.1, (S j).2.2))) hz.1.1 hz.2.1.1 hi hkd) kX6_keep g218 g220 rfl gp1 g1 hP hS hz.1.1 (by first | decide | omega) hl.1 rfl (by decide) (by first | decide | omega) dX6_join_153 (fun q ce E h' H1 locs1 hE => hE.elim) (fun v hh21 H locs hq hP hS => ?_)
      obtain ⟨rfl, rfl⟩ := hq
      have ex : (xs_join S (o, a, k) (nI i) (nI j) (nI u)) = (0, nI (xJn (S j).1 (xEa (S j).1) (S j).2.1 (S u).2.1).length, qU S i ((S j).1, xJn (S j).1 (xEa (S j).1) (S j).2.1 (S u).2.1, (S j).2.2), oMv o (nI (m0 + (zAm (S j) + zAm (S u)))), a, k) := by unfold xs_join; rw [if_neg (by rw [ebi, ebj, ebu]; decide), ecj, ecu, if_neg (fun z => z.elim (fun z => by rw [hkj] at z; exact absurd z (by decide)) (fun z => z (hkj.trans hku.symm))), eci, show ((o, a, k) : qWo).1.2.2.2.2.2.2.1 = gr from hgr]; unfold xr_join; rw [if_neg (show ¬ (S j).1 = 6 from hk6j), if_neg hroom, if_neg hany]; rw [show oMq ((o, a, k) : qWo).1 = nI m0 from hm0, show xCo (S j).1 (S j).2.1.length (S u).2.1.length = (zAm (S j) + zAm (S u)) from hco, nI_add]
      exact q_iret C hP hS ⟨by rw [ex], by first | (rw [ex]; done) | (rw [ex]; show some (Value.int (nI (zAm ((S j).1, xJn (S j).1 (xEa (S j).1) (S j).2.1 (S u).2.1, (S j).2.2)))) = _; rw [zAm_n (s := ((S j).1, xJn (S j).1 (xEa (S j).1) (S j).2.1 (S u).2.1, (S j).2.2)) hk6j]), by rw [ex]; exact hzp.po hfp⟩ (by omega) dX6_join_156
    · replace hz := hz1
      replace hf := hf1
      have hV1 := hV.mvs hm0 (M2 := m0 + (zAm (S j) + zAm (S u))) ⟨by omega, by omega⟩ hmv2
      replace hV : qWv Bd (sk + 1) Rn dp (oMv o (nI (m0 + (zAm (S j) + zAm (S u)))), a, k) := hV1
      rw [hkj] at fqh
      replace fqh : (hh20) qh = some (.inr (2, [.int (S j).1, .null, va_rf x8, .null, .null, .int 0])) := by rw [hkj]; exact fqh
      have zvn : zV cy hh20 Im3 (zOk (Ed + 1) eb S) mk g ((S j).1, xJn (S j).1 (xEa (S j).1) (S j).2.1 (S u).2.1, (S j).2.2) none x8 none none 0 := Or.inr (Or.inr (Or.inr (Or.inl ⟨Or.inr hkj, rfl, rfl, rfl, rfl, by rw [ejn]; exact hR3⟩)))
      have hzp := hz.put hV hi (s := ((S j).1, xJn (S j).1 (xEa (S j).1) (S j).2.1 (S u).2.1, (S j).2.2)) (show ¬ ((S j).1 = -1) from fun z => absurd (hkj.symm.trans z) (by decide)) ⟨none, x8, none, none, 0, fqh, zvn⟩
      have hfp : zFr h (qs hh20 sl (.inl (cy 3, 24, .inr (.inr (.inr (.inr (va_up fs i (some qh)))))))) x sl kr vr bd br Xb := hf.trs (zFr.set hz.2.1.1 (Or.inr (Or.inl rfl)))
      have hkd : qHd hh20 qh ((S j).1) none x8 none none 0 (nI (zAm ((S j).1, xJn (S j).1 (xEa (S j).1) (S j).2.1 (S u).2.1, (S j).2.2))) := zHd.hd (s := ((S j).1, xJn (S j).1 (xEa (S j).1) (S j).2.1 (S u).2.1, (S j).2.2)) fqh zvn
      refine q_callV (rest := []) C (c_X6_keep l D cy N0 hh20 x sl bl kr vr mk (oCq (oMv o (nI (m0 + (zAm (S j) + zAm (S u)))), a, k).1) (oMq (oMv o (nI (m0 + (zAm (S j) + zAm (S u)))), a, k).1) (nI (Ed + 1)) fs i qh ((S j).1) none x8 none none 0 (nI (zAm ((S j).1, xJn (S j).1 (xEa (S j).1) (S j).2.1 (S u).2.1, (S j).2.2))) hz.1.1 hz.2.1.1 hi hkd) kX6_keep g218 g220 rfl gp1 g1 hP hS hz.1.1 (by first | decide | omega) hl.1 rfl (by decide) (by first | decide | omega) dX6_join_153 (fun q ce E h' H1 locs1 hE => hE.elim) (fun v hh22 H locs hq hP hS => ?_)
      obtain ⟨rfl, rfl⟩ := hq
      have ex : (xs_join S (o, a, k) (nI i) (nI j) (nI u)) = (0, nI (xJn (S j).1 (xEa (S j).1) (S j).2.1 (S u).2.1).length, qU S i ((S j).1, xJn (S j).1 (xEa (S j).1) (S j).2.1 (S u).2.1, (S j).2.2), oMv o (nI (m0 + (zAm (S j) + zAm (S u)))), a, k) := by unfold xs_join; rw [if_neg (by rw [ebi, ebj, ebu]; decide), ecj, ecu, if_neg (fun z => z.elim (fun z => by rw [hkj] at z; exact absurd z (by decide)) (fun z => z (hkj.trans hku.symm))), eci, show ((o, a, k) : qWo).1.2.2.2.2.2.2.1 = gr from hgr]; unfold xr_join; rw [if_neg (show ¬ (S j).1 = 6 from hk6j), if_neg hroom, if_neg hany]; rw [show oMq ((o, a, k) : qWo).1 = nI m0 from hm0, show xCo (S j).1 (S j).2.1.length (S u).2.1.length = (zAm (S j) + zAm (S u)) from hco, nI_add]
      exact q_iret C hP hS ⟨by rw [ex], by first | (rw [ex]; done) | (rw [ex]; show some (Value.int (nI (zAm ((S j).1, xJn (S j).1 (xEa (S j).1) (S j).2.1 (S u).2.1, (S j).2.2)))) = _; rw [zAm_n (s := ((S j).1, xJn (S j).1 (xEa (S j).1) (S j).2.1 (S u).2.1, (S j).2.2)) hk6j]), by rw [ex]; exact hzp.po1 hfp hi3⟩ (by omega) dX6_join_156
  · have faj0 := faj
    rw [hkj] at faj
    have hk6j : ¬ (S j).1 = 6 := fun z => absurd (hkj.symm.trans z) (by decide)
    have hamj : zAm (S j) = (S j).2.1.length := zAm_n hk6j
    refine lv_astore (lv' := [(4, .ref aj), (0, .ref x), (1, .int (nI i)), (2, .int (nI j)), (3, .int (nI u))]) hx hb dX6_join_19 hl (by decide) rfl (fun ls hl => ?_)
    refine lv_aload_n hx hb dX6_join_21 rfl (lv_at hl 1 rfl) ?_
    refine lv_iload_n hx hb dX6_join_22 rfl (lv_at hl 4 rfl) ?_
    refine lv_iconst (v := nI 1) hx hb dX6_join_23 (by decide) ?_
    refine lv_aload hx hb dX6_join_24 (lv_at hl 0 rfl) ?_
    refine q_get C hP faj rfl inX2 0 (by decide) g192 rfl dX6_join_26 ?_
    refine lv_ishl hx hb dX6_join_29 ?_
    rw [show nI 1 <<< (nI 3 &&& 31) = 8 by decide]
    refine q_callV (rest := []) C (z_heldIn l D N0 (nI u) 8 hz hI) kX6_heldIn g243 g245 rfl gp2 g1 hP hS hz.1.1 (by first | decide | omega) hl.1 rfl (by decide) (by first | decide | omega) dX6_join_30 (fun q ce E h' H1 locs1 hE hP hS hc1 hc2 hc3 => hE.2.elim (fun y => by obtain ⟨rfl, -⟩ := hE; obtain ⟨rfl, hn9⟩ := y; exact absurd hn9 (by rw [ebu]; decide)) (fun y => by obtain ⟨rfl, -⟩ := hE; obtain ⟨rfl, i8, hi8, e8, ho8⟩ := y; obtain rfl : u = i8 := nI_inj32 (by omega) (by omega) e8; exact q_out C hP hS hc1 hc2 hc3 (by have ex : (xs_join S (o, a, k) (nI i) (nI j) (nI u)) = (2, 0, S, o, a, k) := (by have ebu : bSl (nI u) = true := bSl_t (qSl.nI hi8); have ecu : (nI u).toNatClampNeg = u := nI_clamp (by omega); have hou := ho8; unfold xs_join; rw [if_neg (by rw [ebi, ebj, ebu]; decide), ecj, ecu, if_pos (Or.inr (by rw [hkj]; exact (bHo_p3 (hI u (by omega)).2.2).2 hou))]); exact ⟨by rw [ex]; exact .tail _ (.head _), by rw [ex]; exact hz.po hf⟩) (by omega))) (fun v hh23 H locs hq hP hS => ?_)
    obtain ⟨rfl, u9, au, hu9, eu9, hfsu, rfl, hou, x1u, x2u, x3u, x4u, dvu, fau, zvu⟩ := hq
    obtain rfl : u = u9 := nI_inj32 (by omega) (by omega) eu9
    have hku : (S u).1 = nI 3 := (bHo_p3 (hI u (by omega)).2.2).1 hou
    have fau0 := fau
    rw [hku] at fau
    have hlj := hLn j (by omega)
    have hlu := hLn u (by omega)
    have hk6u : ¬ (S u).1 = 6 := fun z => absurd (hku.symm.trans z) (by decide)
    have hamu : zAm (S u) = (S u).2.1.length := zAm_n hk6u
    have hco : xCo (S j).1 (S j).2.1.length (S u).2.1.length = (zAm (S j) + zAm (S u)) := by unfold xCo; rw [if_neg (show ¬ (S j).1 = 5 from fun z => absurd (hkj.symm.trans z) (by decide)), hamj, hamu]
    have hea : xEa (S j).1 = false := by rw [hkj]; rfl
    have hmq : (oMq ((o, a, k) : qWo).1).toNatClampNeg = m0 := by rw [show oMq ((o, a, k) : qWo).1 = nI m0 from hm0]; exact nI_clamp (by omega)
    have hany : ¬ (S u).2.1.any (fun p => decide (16 < xAl gr (xJn (S j).1 (xEa (S j).1) (S j).2.1 (S u).2.1) p.1 ∧ ((S j).1 = 1 ∨ (S j).1 = 2))) = true := zany0 (fun p _ => decide_eq_false (fun z => z.2.elim (fun z => absurd (hkj.symm.trans z) (by decide)) (fun z => absurd (hkj.symm.trans z) (by decide))))
    obtain ⟨rfl, rfl, rfl, rfl, -⟩ := zvj.tree hkj
    obtain ⟨rfl, rfl, rfl, rfl, -⟩ := zvu.tree hku
    refine lv_astore (lv' := [(5, .ref au), (4, .ref aj), (0, .ref x), (1, .int (nI i)), (2, .int (nI j)), (3, .int (nI u))]) hx hb dX6_join_33 hl (by decide) rfl (fun ls hl => ?_)
    refine lv_aload hx hb dX6_join_35 (lv_at hl 1 rfl) ?_
    refine q_get C hP faj rfl inX2 0 (by decide) g192 rfl dX6_join_37 ?_
    refine lv_tableIn (tgt := 129) (off := 89) hx hb dX6_join_40 (by decide +kernel) (by decide +kernel) (by decide +kernel) (by decide) ?_
    refine lv_aload_n hx hb dX6_join_129 rfl (lv_at hl 2 rfl) ?_
    refine lv_iload_n hx hb dX6_join_130 rfl (lv_at hl 3 rfl) ?_
    refine lv_aload_n hx hb dX6_join_131 rfl (lv_at hl 2 rfl) ?_
    refine lv_aload hx hb dX6_join_132 (lv_at hl 1 rfl) ?_
    refine lv_aload hx hb dX6_join_134 (lv_at hl 0 rfl) ?_
    refine q_callV (rest := [.int (nI i), .ref x]) C (z_joinedTrees l D cy N0 h x mk sl bl kr vr Ed fs bd br eb Im Xb g S Bd (sk + 1) Rn dp o a k m0 j u aj au U x1j x1u hz hI hLn hV hm0 hm9 hj hu faj fau zvj zvu hkj hku (h64 j (by omega) (Or.inr (Or.inr hkj))) (h64 u (by omega) (Or.inr (Or.inr hku))) hU) kX6_joinedTrees g848 g850 rfl gp22 g1 hP hS hz.1.1 (by first | decide | omega) hl.1 rfl (by simp [q_catrf, q_cati, q_catl, q_cata, q_catn]) (by first | decide | omega) dX6_join_136 (fun q ce E h' H1 locs1 hE hP hS hc1 hc2 hc3 => by obtain ⟨rfl, hE1, hz, hf⟩ := hE; exact q_out C hP hS hc1 hc2 hc3 (by have ex : (xs_join S (o, a, k) (nI i) (nI j) (nI u)) = (3, 0, S, o, a, k) := (by unfold xs_join; rw [if_neg (by rw [ebi, ebj, ebu]; decide), ecj, ecu, if_neg (fun z => z.elim (fun z => by rw [hkj] at z; exact absurd z (by decide)) (fun z => z (hkj.trans hku.symm))), eci, show ((o, a, k) : qWo).1.2.2.2.2.2.2.1 = gr from hgr]; unfold xr_join; rw [if_neg (show ¬ (S j).1 = 6 from hk6j), if_pos (hE1.elim (fun z => Or.inl (by rw [hea]; exact z)) (fun z => Or.inr (by rw [hmq, hco]; omega)))]); exact ⟨by rw [ex]; exact .tail _ (.tail _ (.head _)), by rw [ex]; exact hz.po hf⟩) (by omega)) (fun v hh24 H locs hq hP hS => ?_)
    obtain ⟨hjc, hmv2, qh, r8, n8, rfl, fqh, hz1, hf1, hb8⟩ := hq
    have hroom : ¬ (1000 < xJc (xEa (S j).1) (S j).2.1 (S u).2.1 ∨ 20000 < (oMq ((o, a, k) : qWo).1).toNatClampNeg + xCo (S j).1 (S j).2.1.length (S u).2.1.length) := fun z => z.elim (fun z => by rw [hea] at z; omega) (fun z => by rw [hmq, hco] at z; omega)
    replace hz := hz1
    replace hf := hf1
    have hV1 := hV.mvs hm0 (M2 := m0 + (zAm (S j) + zAm (S u))) ⟨by omega, by omega⟩ hmv2
    replace hV : qWv Bd (sk + 1) Rn dp (oMv o (nI (m0 + (zAm (S j) + zAm (S u)))), a, k) := hV1
    replace fqh : (hh24) qh = some (.inr (2, [.int (S j).1, va_rf r8, .null, .null, .null, .int 0])) := by rw [hkj]; exact fqh
    have zvn : zV cy hh24 Im (zOk Ed eb S) mk g ((S j).1, xJn (S j).1 (xEa (S j).1) (S j).2.1 (S u).2.1, (S j).2.2) r8 none none none 0 := Or.inr (Or.inl ⟨hkj, rfl, rfl, rfl, rfl, n8, by show qBr _ _ _ (xJn (S j).1 (xEa (S j).1) (S j).2.1 (S u).2.1); rw [hea, hkj]; exact hb8⟩)
    have hzp := hz.put hV hi (s := ((S j).1, xJn (S j).1 (xEa (S j).1) (S j).2.1 (S u).2.1, (S j).2.2)) (show ¬ ((S j).1 = -1) from fun z => absurd (hkj.symm.trans z) (by decide)) ⟨r8, none, none, none, 0, fqh, zvn⟩
    have hfp : zFr h (qs hh24 sl (.inl (cy 3, 24, .inr (.inr (.inr (.inr (va_up fs i (some qh)))))))) x sl kr vr bd br Xb := hf.trs (zFr.set hz.2.1.1 (Or.inr (Or.inl rfl)))
    have hkd : qHd hh24 qh ((S j).1) r8 none none none 0 (nI (zAm ((S j).1, xJn (S j).1 (xEa (S j).1) (S j).2.1 (S u).2.1, (S j).2.2))) := zHd.hd (s := ((S j).1, xJn (S j).1 (xEa (S j).1) (S j).2.1 (S u).2.1, (S j).2.2)) fqh zvn
    refine q_callV (rest := []) C (c_X6_keep l D cy N0 hh24 x sl bl kr vr mk (oCq (oMv o (nI (m0 + (zAm (S j) + zAm (S u)))), a, k).1) (oMq (oMv o (nI (m0 + (zAm (S j) + zAm (S u)))), a, k).1) (nI Ed) fs i qh ((S j).1) r8 none none none 0 (nI (zAm ((S j).1, xJn (S j).1 (xEa (S j).1) (S j).2.1 (S u).2.1, (S j).2.2))) hz.1.1 hz.2.1.1 hi hkd) kX6_keep g218 g220 rfl gp1 g1 hP hS hz.1.1 (by first | decide | omega) hl.1 rfl (by decide) (by first | decide | omega) dX6_join_139 (fun q ce E h' H1 locs1 hE => hE.elim) (fun v hh25 H locs hq hP hS => ?_)
    obtain ⟨rfl, rfl⟩ := hq
    have ex : (xs_join S (o, a, k) (nI i) (nI j) (nI u)) = (0, nI (xJn (S j).1 (xEa (S j).1) (S j).2.1 (S u).2.1).length, qU S i ((S j).1, xJn (S j).1 (xEa (S j).1) (S j).2.1 (S u).2.1, (S j).2.2), oMv o (nI (m0 + (zAm (S j) + zAm (S u)))), a, k) := by unfold xs_join; rw [if_neg (by rw [ebi, ebj, ebu]; decide), ecj, ecu, if_neg (fun z => z.elim (fun z => by rw [hkj] at z; exact absurd z (by decide)) (fun z => z (hkj.trans hku.symm))), eci, show ((o, a, k) : qWo).1.2.2.2.2.2.2.1 = gr from hgr]; unfold xr_join; rw [if_neg (show ¬ (S j).1 = 6 from hk6j), if_neg hroom, if_neg hany]; rw [show oMq ((o, a, k) : qWo).1 = nI m0 from hm0, show xCo (S j).1 (S j).2.1.length (S u).2.1.length = (zAm (S j) + zAm (S u)) from hco, nI_add]
    exact q_iret C hP hS ⟨by rw [ex], by first | (rw [ex]; done) | (rw [ex]; show some (Value.int (nI (zAm ((S j).1, xJn (S j).1 (xEa (S j).1) (S j).2.1 (S u).2.1, (S j).2.2)))) = _; rw [zAm_n (s := ((S j).1, xJn (S j).1 (xEa (S j).1) (S j).2.1 (S u).2.1, (S j).2.2)) hk6j]), by rw [ex]; exact hzp.po hfp⟩ (by omega) dX6_join_142
  · have faj0 := faj
    rw [hkj] at faj
    have hk6j : ¬ (S j).1 = 6 := fun z => absurd (hkj.symm.trans z) (by decide)
    have hamj : zAm (S j) = (S j).2.1.length := zAm_n hk6j
    refine lv_astore (lv' := [(4, .ref aj), (0, .ref x), (1, .int (nI i)), (2, .int (nI j)), (3, .int (nI u))]) hx hb dX6_join_19 hl (by decide) rfl (fun ls hl => ?_)
    refine lv_aload_n hx hb dX6_join_21 rfl (lv_at hl 1 rfl) ?_
    refine lv_iload_n hx hb dX6_join_22 rfl (lv_at hl 4 rfl) ?_
    refine lv_iconst (v := nI 1) hx hb dX6_join_23 (by decide) ?_
    refine lv_aload hx hb dX6_join_24 (lv_at hl 0 rfl) ?_
    refine q_get C hP faj rfl inX2 0 (by decide) g192 rfl dX6_join_26 ?_
    refine lv_ishl hx hb dX6_join_29 ?_
    rw [show nI 1 <<< (nI 4 &&& 31) = 16 by decide]
    refine q_callV (rest := []) C (z_heldIn l D N0 (nI u) 16 hz hI) kX6_heldIn g243 g245 rfl gp2 g1 hP hS hz.1.1 (by first | decide | omega) hl.1 rfl (by decide) (by first | decide | omega) dX6_join_30 (fun q ce E h' H1 locs1 hE hP hS hc1 hc2 hc3 => hE.2.elim (fun y => by obtain ⟨rfl, -⟩ := hE; obtain ⟨rfl, hn9⟩ := y; exact absurd hn9 (by rw [ebu]; decide)) (fun y => by obtain ⟨rfl, -⟩ := hE; obtain ⟨rfl, i8, hi8, e8, ho8⟩ := y; obtain rfl : u = i8 := nI_inj32 (by omega) (by omega) e8; exact q_out C hP hS hc1 hc2 hc3 (by have ex : (xs_join S (o, a, k) (nI i) (nI j) (nI u)) = (2, 0, S, o, a, k) := (by have ebu : bSl (nI u) = true := bSl_t (qSl.nI hi8); have ecu : (nI u).toNatClampNeg = u := nI_clamp (by omega); have hou := ho8; unfold xs_join; rw [if_neg (by rw [ebi, ebj, ebu]; decide), ecj, ecu, if_pos (Or.inr (by rw [hkj]; exact (bHo_p4 (hI u (by omega)).2.2).2 hou))]); exact ⟨by rw [ex]; exact .tail _ (.head _), by rw [ex]; exact hz.po hf⟩) (by omega))) (fun v hh26 H locs hq hP hS => ?_)
    obtain ⟨rfl, u9, au, hu9, eu9, hfsu, rfl, hou, x1u, x2u, x3u, x4u, dvu, fau, zvu⟩ := hq
    obtain rfl : u = u9 := nI_inj32 (by omega) (by omega) eu9
    have hku : (S u).1 = nI 4 := (bHo_p4 (hI u (by omega)).2.2).1 hou
    have fau0 := fau
    rw [hku] at fau
    have hlj := hLn j (by omega)
    have hlu := hLn u (by omega)
    have hk6u : ¬ (S u).1 = 6 := fun z => absurd (hku.symm.trans z) (by decide)
    have hamu : zAm (S u) = (S u).2.1.length := zAm_n hk6u
    have hco : xCo (S j).1 (S j).2.1.length (S u).2.1.length = (zAm (S j) + zAm (S u)) := by unfold xCo; rw [if_neg (show ¬ (S j).1 = 5 from fun z => absurd (hkj.symm.trans z) (by decide)), hamj, hamu]
    have hea : xEa (S j).1 = true := by rw [hkj]; rfl
    have hmq : (oMq ((o, a, k) : qWo).1).toNatClampNeg = m0 := by rw [show oMq ((o, a, k) : qWo).1 = nI m0 from hm0]; exact nI_clamp (by omega)
    have hany : ¬ (S u).2.1.any (fun p => decide (16 < xAl gr (xJn (S j).1 (xEa (S j).1) (S j).2.1 (S u).2.1) p.1 ∧ ((S j).1 = 1 ∨ (S j).1 = 2))) = true := zany0 (fun p _ => decide_eq_false (fun z => z.2.elim (fun z => absurd (hkj.symm.trans z) (by decide)) (fun z => absurd (hkj.symm.trans z) (by decide))))
    obtain ⟨rfl, rfl, rfl, rfl, nj, hbj⟩ := zvj.seq (Or.inr hkj)
    have hlmj : ((S j).2.1.map (fun p => ((0 : Int64), p.1))).length = (S j).2.1.length := List.length_map ..
    have h14j : nj ≤ 14 := hbj.h14 (by omega)
    have htcj := qTc14 h14j
    obtain ⟨rfl, rfl, rfl, rfl, nu, hbu⟩ := zvu.seq (Or.inr hku)
    have hlmu : ((S u).2.1.map (fun p => ((0 : Int64), p.1))).length = (S u).2.1.length := List.length_map ..
    have h14u : nu ≤ 14 := hbu.h14 (by omega)
    have htcu := qTc14 h14u
    refine lv_astore (lv' := [(5, .ref au), (4, .ref aj), (0, .ref x), (1, .int (nI i)), (2, .int (nI j)), (3, .int (nI u))]) hx hb dX6_join_33 hl (by decide) rfl (fun ls hl => ?_)
    refine lv_aload hx hb dX6_join_35 (lv_at hl 1 rfl) ?_
    refine q_get C hP faj rfl inX2 0 (by decide) g192 rfl dX6_join_37 ?_
    refine lv_tableIn (tgt := 157) (off := 117) hx hb dX6_join_40 (by decide +kernel) (by decide +kernel) (by decide +kernel) (by decide) ?_
    refine lv_aload hx hb dX6_join_157 (lv_at hl 1 rfl) ?_
    obtain ⟨t1j, t2j, t3j, f1j, f2j, f3j, etj⟩ := zvj.size
    refine q_callV (rest := []) C (c_X2_amount l D cy N0 h aj (nI 4) 0 t1j t2j t3j x1j none none none faj f1j f2j f3j) kX2_amount g222 g223 rfl g224 g10 hP hS faj (by first | decide | omega) hl.1 rfl (by decide) (by first | decide | omega) dX6_join_159 (fun q ce E h' H1 locs1 hE => hE.elim) (fun v hh27 H locs hq hP hS => ?_)
    obtain ⟨rfl, rfl⟩ := hq
    rw [← etj]
    refine lv_aload hx hb dX6_join_162 (lv_at hl 0 rfl) ?_
    obtain ⟨t1u, t2u, t3u, f1u, f2u, f3u, etu⟩ := zvu.size
    refine q_callV (rest := [.int (nI (zAm (S j)))]) C (c_X2_amount l D cy N0 h au (nI 4) 0 t1u t2u t3u x1u none none none fau f1u f2u f3u) kX2_amount g222 g223 rfl g224 g10 hP hS fau (by first | decide | omega) hl.1 rfl (by simp [q_catrf, q_cati, q_catl, q_cata, q_catn]) (by first | decide | omega) dX6_join_164 (fun q ce E h' H1 locs1 hE => hE.elim) (fun v hh28 H locs hq hP hS => ?_)
    obtain ⟨rfl, rfl⟩ := hq
    rw [← etu]
    refine q_iaddN hx hb dX6_join_167 ?_
    refine q_callS (rest := []) C (c_X6_needRoom l D cy N0 h (nI (zAm (S j) + zAm (S u)))) kX6_needRoom g324 g325 hP hS (by first | decide | omega) hl.1 rfl (by decide) (by first | decide | omega) dX6_join_168 (fun q ce E h' H1 locs1 hE hP hS hc1 hc2 hc3 => by obtain ⟨rfl, rfl, hn9⟩ := hE; replace hn9 : ¬ (zAm (S j) + zAm (S u)) ≤ 1000 := fun z => hn9 ((nI_leI (a := zAm (S j) + zAm (S u)) (b := 1000) (by omega) (by omega)).mpr z); exact q_out C hP hS hc1 hc2 hc3 (by have ex : (xs_join S (o, a, k) (nI i) (nI j) (nI u)) = (3, 0, S, o, a, k) := (by unfold xs_join; rw [if_neg (by rw [ebi, ebj, ebu]; decide), ecj, ecu, if_neg (fun z => z.elim (fun z => by rw [hkj] at z; exact absurd z (by decide)) (fun z => z (hkj.trans hku.symm))), eci, show ((o, a, k) : qWo).1.2.2.2.2.2.2.1 = gr from hgr]; unfold xr_join; rw [if_neg (show ¬ (S j).1 = 6 from hk6j), if_pos (Or.inl (by rw [hea, xJc_t]; omega))]); exact ⟨by rw [ex]; exact .tail _ (.tail _ (.head _)), by rw [ex]; exact hz.po hf⟩) (by omega)) (fun v hh29 H locs hq hP hS => ?_)
    obtain ⟨rfl, rfl, hw9⟩ := hq
    replace hw9 := (nI_leI (a := zAm (S j) + zAm (S u)) (b := 1000) (by omega) (by omega)).mp hw9
    refine lv_aload_n hx hb dX6_join_171 rfl (lv_at hl 2 rfl) ?_
    refine lv_aload hx hb dX6_join_172 (lv_at hl 1 rfl) ?_
    obtain ⟨t1j, t2j, t3j, f1j, f2j, f3j, etj⟩ := zvj.size
    refine q_callV (rest := [.ref x]) C (c_X2_amount l D cy N0 h aj (nI 4) 0 t1j t2j t3j x1j none none none faj f1j f2j f3j) kX2_amount g222 g223 rfl g224 g10 hP hS faj (by first | decide | omega) hl.1 rfl (by simp [q_catrf, q_cati, q_catl, q_cata, q_catn]) (by first | decide | omega) dX6_join_174 (fun q ce E h' H1 locs1 hE => hE.elim) (fun v hh30 H locs hq hP hS => ?_)
    obtain ⟨rfl, rfl⟩ := hq
    rw [← etj]
    refine lv_aload hx hb dX6_join_177 (lv_at hl 0 rfl) ?_
    obtain ⟨t1u, t2u, t3u, f1u, f2u, f3u, etu⟩ := zvu.size
    refine q_callV (rest := [.int (nI (zAm (S j))), .ref x]) C (c_X2_amount l D cy N0 h au (nI 4) 0 t1u t2u t3u x1u none none none fau f1u f2u f3u) kX2_amount g222 g223 rfl g224 g10 hP hS fau (by first | decide | omega) hl.1 rfl (by simp [q_catrf, q_cati, q_catl, q_cata, q_catn]) (by first | decide | omega) dX6_join_179 (fun q ce E h' H1 locs1 hE => hE.elim) (fun v hh31 H locs hq hP hS => ?_)
    obtain ⟨rfl, rfl⟩ := hq
    rw [← etu]
    refine q_iaddN hx hb dX6_join_182 ?_
    refine q_callV (rest := []) C (c_X6_takeMoves l D cy N0 h x sl bl kr vr mk (oCq (o, a, k).1) (oMq (o, a, k).1) (nI Ed) fs (nI (zAm (S j) + zAm (S u))) hz.1.1 hz.2.1.1) kX6_takeMoves g641 g643 rfl gp15 g1 hP hS hz.1.1 (by first | decide | omega) hl.1 rfl (by decide) (by first | decide | omega) dX6_join_183 (fun q ce E h' H1 locs1 hE hP hS hc1 hc2 hc3 => by obtain ⟨rfl, rfl, hn9⟩ := hE; replace hn9 : ¬ m0 + (zAm (S j) + zAm (S u)) ≤ 20000 := fun z => hn9 (by rw [hm0]; exact (zmvs hm9 (by omega)).mpr z); exact q_out C hP hS hc1 hc2 hc3 (by have ex : (xs_join S (o, a, k) (nI i) (nI j) (nI u)) = (3, 0, S, o, a, k) := (by unfold xs_join; rw [if_neg (by rw [ebi, ebj, ebu]; decide), ecj, ecu, if_neg (fun z => z.elim (fun z => by rw [hkj] at z; exact absurd z (by decide)) (fun z => z (hkj.trans hku.symm))), eci, show ((o, a, k) : qWo).1.2.2.2.2.2.2.1 = gr from hgr]; unfold xr_join; rw [if_neg (show ¬ (S j).1 = 6 from hk6j), if_pos (Or.inr (by rw [hmq, hco]; omega))]); exact ⟨by rw [ex]; exact .tail _ (.tail _ (.head _)), by rw [ex]; exact hz.po hf⟩) (by omega)) (fun v hh32 H locs hq hP hS => ?_)
    have hroom : ¬ (1000 < xJc (xEa (S j).1) (S j).2.1 (S u).2.1 ∨ 20000 < (oMq ((o, a, k) : qWo).1).toNatClampNeg + xCo (S j).1 (S j).2.1.length (S u).2.1.length) := fun z => z.elim (fun z => by rw [hea, xJc_t] at z; omega) (fun z => by rw [hmq, hco] at z; have := (zmvs hm9 (show zAm (S j) + zAm (S u) < 2 ^ 31 by omega)).mp (by rw [← hm0]; exact hq.2.2); omega)
    obtain ⟨rfl, rfl, hmv⟩ := hq
    have hmv2 : m0 + (zAm (S j) + zAm (S u)) ≤ 20000 := (zmvs hm9 (by omega)).mp (by rw [← hm0]; exact hmv)
    rw [show oMq (o, a, k).1 = nI m0 from hm0, nI_add] at hP
    replace hP : qP D N0 (qs h x (.inr (6, [.int mk, .ref sl, .ref bl, .ref kr, .ref vr, .int (oCq (o, a, k).1), .int (nI (m0 + (zAm (S j) + zAm (S u)))), .int (nI Ed)]))) H := hP
    replace faj := (qs_ne (h := h) (a := x) (o := (.inr (6, [.int mk, .ref sl, .ref bl, .ref kr, .ref vr, .int (oCq (o, a, k).1), .int (nI (m0 + (zAm (S j) + zAm (S u)))), .int (nI Ed)]))) (fun z => by rw [z, hz.1.1] at faj; simp at faj)).trans faj
    replace fau := (qs_ne (h := h) (a := x) (o := (.inr (6, [.int mk, .ref sl, .ref bl, .ref kr, .ref vr, .int (oCq (o, a, k).1), .int (nI (m0 + (zAm (S j) + zAm (S u)))), .int (nI Ed)]))) (fun z => by rw [z, hz.1.1] at fau; simp at fau)).trans fau
    replace zvj := zvj.up (o := .inr (6, [.int mk, .ref sl, .ref bl, .ref kr, .ref vr, .int (oCq (o, a, k).1), .int (nI (m0 + (zAm (S j) + zAm (S u)))), .int (nI Ed)])) hz.1.1 (fun b y => (hz.2.2.2.2.2.1 b (Or.inl y)).1)
    replace zvu := zvu.up (o := .inr (6, [.int mk, .ref sl, .ref bl, .ref kr, .ref vr, .int (oCq (o, a, k).1), .int (nI (m0 + (zAm (S j) + zAm (S u)))), .int (nI Ed)])) hz.1.1 (fun b y => (hz.2.2.2.2.2.1 b (Or.inl y)).1)
    replace hbj := hbj.seto (o := .inr (6, [.int mk, .ref sl, .ref bl, .ref kr, .ref vr, .int (oCq (o, a, k).1), .int (nI (m0 + (zAm (S j) + zAm (S u)))), .int (nI Ed)])) hz.1.1 (by decide)
    replace hbu := hbu.seto (o := .inr (6, [.int mk, .ref sl, .ref bl, .ref kr, .ref vr, .int (oCq (o, a, k).1), .int (nI (m0 + (zAm (S j) + zAm (S u)))), .int (nI Ed)])) hz.1.1 (by decide)
    replace hf := hf.trs (zFr.set (o' := .inr (6, [.int mk, .ref sl, .ref bl, .ref kr, .ref vr, .int (oCq (o, a, k).1), .int (nI (m0 + (zAm (S j) + zAm (S u)))), .int (nI Ed)])) hz.1.1 (Or.inl rfl))
    replace hz : zQ cy (qs h x (.inr (6, [.int mk, .ref sl, .ref bl, .ref kr, .ref vr, .int (oCq (o, a, k).1), .int (nI (m0 + (zAm (S j) + zAm (S u)))), .int (nI Ed)]))) x mk sl bl kr vr Ed fs bd br eb Im Xb g S (oMv o (nI (m0 + (zAm (S j) + zAm (S u)))), a, k) := hz.mv hV
    replace hV := hV.mvs hm0 (M2 := m0 + (zAm (S j) + zAm (S u))) ⟨by omega, by omega⟩ hmv2
    replace hV : qWv Bd (sk + 1) Rn dp (oMv o (nI (m0 + (zAm (S j) + zAm (S u)))), a, k) := hV
    refine lv_aload_n hx hb dX6_join_186 rfl (lv_at hl 2 rfl) ?_
    refine lv_iload_n hx hb dX6_join_187 rfl (lv_at hl 3 rfl) ?_
    refine lv_aload hx hb dX6_join_188 (lv_at hl 1 rfl) ?_
    refine q_get C hP faj rfl inX2 0 (by decide) g192 rfl dX6_join_190 ?_
    refine lv_aload hx hb dX6_join_193 (lv_at hl 1 rfl) ?_
    refine q_get C hP faj rfl inX2 1 (by decide) g195 rfl dX6_join_195 ?_
    refine lv_aload hx hb dX6_join_198 (lv_at hl 0 rfl) ?_
    refine q_get C hP fau rfl inX2 1 (by decide) g195 rfl dX6_join_200 ?_
    refine q_callS (rest := [.int (nI 4), .int (nI i), .ref x]) C (c_X0_chained l D cy N0 (qs h x (.inr (6, [.int mk, .ref sl, .ref bl, .ref kr, .ref vr, .int (oCq (o, a, k).1), .int (nI (m0 + (zAm (S j) + zAm (S u)))), .int (nI Ed)]))) x1j x1u nj nu ((S j).2.1.map (fun p => ((0 : Int64), p.1))) ((S u).2.1.map (fun p => ((0 : Int64), p.1))) hbj hbu (by omega)) kX0_chained g877 g794 hP hS (by first | decide | omega) hl.1 rfl (by simp [q_catrf, q_cati, q_catl, q_cata, q_catn]) (by first | decide | omega) dX6_join_203 (fun q ce E h' H1 locs1 hE => hE.elim) (fun v hh33 H locs hq hP hS => ?_)
    obtain ⟨r8, n8, rfl, hle8, hb8, -⟩ := hq
    replace faj := hle8 _ _ faj
    replace fau := hle8 _ _ fau
    replace zvj := zvj.le hle8
    replace zvu := zvu.le hle8
    replace hbj := hbj.le hle8
    replace hbu := hbu.le hle8
    replace hf := hf.trs (zFr.le hle8 (qle.dom hle8))
    replace hz := hz.le hV hle8 (qle.dom hle8)
    refine q_callS (rest := [.int (nI i), .ref x]) C (c_X2_ofTree l D cy N0 hh33 (nI 4) r8) kX2_ofTree g516 g517 hP hS (by first | decide | omega) hl.1 rfl (by simp [q_catrf, q_cati, q_catl, q_cata, q_catn]) (by first | decide | omega) dX6_join_206 (fun q ce E h' H1 locs1 hE => hE.elim) (fun v hh34 H locs hq hP hS => ?_)
    obtain ⟨qh, rfl, oqh, rfl⟩ := hq
    replace hP : qP D N0 (qs hh33 qh (.inr (2, [.int (nI 4), va_rf r8, .null, .null, .null, .int 0]))) H := hP
    have hleh : qle hh33 (qs hh33 qh (.inr (2, [.int (nI 4), va_rf r8, .null, .null, .null, .int 0]))) := qle_new oqh
    replace faj := hleh _ _ faj
    replace fau := hleh _ _ fau
    replace zvj := zvj.le hleh
    replace zvu := zvu.le hleh
    replace hbj := hbj.le hleh
    replace hbu := hbu.le hleh
    replace hb8 := hb8.le hleh
    replace hf := hf.trs (zFr.le hleh (qle.dom hleh))
    replace hz := hz.le hV hleh (qle.dom hleh)
    have fqh : (qs hh33 qh (.inr (2, [.int (nI 4), va_rf r8, .null, .null, .null, .int 0]))) qh = some (.inr (2, [.int (nI 4), va_rf r8, .null, .null, .null, .int 0])) := qs_self
    replace fqh : (qs hh33 qh (.inr (2, [.int (nI 4), va_rf r8, .null, .null, .null, .int 0]))) qh = some (.inr (2, [.int (S j).1, va_rf r8, .null, .null, .null, .int 0])) := by rw [hkj]; exact fqh
    have zvn : zV cy (qs hh33 qh (.inr (2, [.int (nI 4), va_rf r8, .null, .null, .null, .int 0]))) Im (zOk Ed eb S) mk g ((S j).1, xJn (S j).1 (xEa (S j).1) (S j).2.1 (S u).2.1, (S j).2.2) r8 none none none 0 := Or.inl ⟨Or.inr hkj, rfl, rfl, rfl, rfl, n8, by show qBr _ _ _ ((xJn (S j).1 (xEa (S j).1) (S j).2.1 (S u).2.1).map _); rw [hea, xJn_app (Or.inr hkj), List.map_append]; exact hb8⟩
    have hzp := hz.put hV hi (s := ((S j).1, xJn (S j).1 (xEa (S j).1) (S j).2.1 (S u).2.1, (S j).2.2)) (show ¬ ((S j).1 = -1) from fun z => absurd (hkj.symm.trans z) (by decide)) ⟨r8, none, none, none, 0, fqh, zvn⟩
    have hfp : zFr h (qs (qs hh33 qh (.inr (2, [.int (nI 4), va_rf r8, .null, .null, .null, .int 0]))) sl (.inl (cy 3, 24, .inr (.inr (.inr (.inr (va_up fs i (some qh)))))))) x sl kr vr bd br Xb := hf.trs (zFr.set hz.2.1.1 (Or.inr (Or.inl rfl)))
    have hkd : qHd (qs hh33 qh (.inr (2, [.int (nI 4), va_rf r8, .null, .null, .null, .int 0]))) qh ((S j).1) r8 none none none 0 (nI (zAm ((S j).1, xJn (S j).1 (xEa (S j).1) (S j).2.1 (S u).2.1, (S j).2.2))) := zHd.hd (s := ((S j).1, xJn (S j).1 (xEa (S j).1) (S j).2.1 (S u).2.1, (S j).2.2)) fqh zvn
    refine q_callV (rest := []) C (c_X6_keep l D cy N0 (qs hh33 qh (.inr (2, [.int (nI 4), va_rf r8, .null, .null, .null, .int 0]))) x sl bl kr vr mk (oCq (oMv o (nI (m0 + (zAm (S j) + zAm (S u)))), a, k).1) (oMq (oMv o (nI (m0 + (zAm (S j) + zAm (S u)))), a, k).1) (nI Ed) fs i qh ((S j).1) r8 none none none 0 (nI (zAm ((S j).1, xJn (S j).1 (xEa (S j).1) (S j).2.1 (S u).2.1, (S j).2.2))) hz.1.1 hz.2.1.1 hi hkd) kX6_keep g218 g220 rfl gp1 g1 hP hS hz.1.1 (by first | decide | omega) hl.1 rfl (by decide) (by first | decide | omega) dX6_join_209 (fun q ce E h' H1 locs1 hE => hE.elim) (fun v hh35 H locs hq hP hS => ?_)
    obtain ⟨rfl, rfl⟩ := hq
    replace faj := (qs_ne (h := (qs hh33 qh (.inr (2, [.int (nI 4), va_rf r8, .null, .null, .null, .int 0])))) (a := sl) (o := (.inl (cy 3, 24, .inr (.inr (.inr (.inr (va_up fs i (some qh)))))))) (fun z => by rw [z, hz.2.1.1] at faj; cases faj)).trans faj
    replace fau := (qs_ne (h := (qs hh33 qh (.inr (2, [.int (nI 4), va_rf r8, .null, .null, .null, .int 0])))) (a := sl) (o := (.inl (cy 3, 24, .inr (.inr (.inr (.inr (va_up fs i (some qh)))))))) (fun z => by rw [z, hz.2.1.1] at fau; cases fau)).trans fau
    have ex : (xs_join S (o, a, k) (nI i) (nI j) (nI u)) = (0, nI (xJn (S j).1 (xEa (S j).1) (S j).2.1 (S u).2.1).length, qU S i ((S j).1, xJn (S j).1 (xEa (S j).1) (S j).2.1 (S u).2.1, (S j).2.2), oMv o (nI (m0 + (zAm (S j) + zAm (S u)))), a, k) := by unfold xs_join; rw [if_neg (by rw [ebi, ebj, ebu]; decide), ecj, ecu, if_neg (fun z => z.elim (fun z => by rw [hkj] at z; exact absurd z (by decide)) (fun z => z (hkj.trans hku.symm))), eci, show ((o, a, k) : qWo).1.2.2.2.2.2.2.1 = gr from hgr]; unfold xr_join; rw [if_neg (show ¬ (S j).1 = 6 from hk6j), if_neg hroom, if_neg hany]; rw [show oMq ((o, a, k) : qWo).1 = nI m0 from hm0, show xCo (S j).1 (S j).2.1.length (S u).2.1.length = (zAm (S j) + zAm (S u)) from hco, nI_add]
    exact q_iret C hP hS ⟨by rw [ex], by first | (rw [ex]; done) | (rw [ex]; show some (Value.int (nI (zAm ((S j).1, xJn (S j).1 (xEa (S j).1) (S j).2.1 (S u).2.1, (S j).2.2)))) = _; rw [zAm_n (s := ((S j).1, xJn (S j).1 (xEa (S j).1) (S j).2.1 (S u).2.1, (S j).2.2)) hk6j]), by rw [ex]; exact hzp.po hfp⟩ (by omega) dX6_join_212
  · have faj0 := faj
    rw [hkj] at faj
    have hk6j : ¬ (S j).1 = 6 := fun z => absurd (hkj.symm.trans z) (by decide)
    have hamj : zAm (S j) = (S j).2.1.length := zAm_n hk6j
    refine lv_astore (lv' := [(4, .ref aj), (0, .ref x), (1, .int (nI i)), (2, .int (nI j)), (3, .int (nI u))]) hx hb dX6_join_19 hl (by decide) rfl (fun ls hl => ?_)
    refine lv_aload_n hx hb dX6_join_21 rfl (lv_at hl 1 rfl) ?_
    refine lv_iload_n hx hb dX6_join_22 rfl (lv_at hl 4 rfl) ?_
    refine lv_iconst (v := nI 1) hx hb dX6_join_23 (by decide) ?_
    refine lv_aload hx hb dX6_join_24 (lv_at hl 0 rfl) ?_
    refine q_get C hP faj rfl inX2 0 (by decide) g192 rfl dX6_join_26 ?_
    refine lv_ishl hx hb dX6_join_29 ?_
    rw [show nI 1 <<< (nI 5 &&& 31) = 32 by decide]
    refine q_callV (rest := []) C (z_heldIn l D N0 (nI u) 32 hz hI) kX6_heldIn g243 g245 rfl gp2 g1 hP hS hz.1.1 (by first | decide | omega) hl.1 rfl (by decide) (by first | decide | omega) dX6_join_30 (fun q ce E h' H1 locs1 hE hP hS hc1 hc2 hc3 => hE.2.elim (fun y => by obtain ⟨rfl, -⟩ := hE; obtain ⟨rfl, hn9⟩ := y; exact absurd hn9 (by rw [ebu]; decide)) (fun y => by obtain ⟨rfl, -⟩ := hE; obtain ⟨rfl, i8, hi8, e8, ho8⟩ := y; obtain rfl : u = i8 := nI_inj32 (by omega) (by omega) e8; exact q_out C hP hS hc1 hc2 hc3 (by have ex : (xs_join S (o, a, k) (nI i) (nI j) (nI u)) = (2, 0, S, o, a, k) := (by have ebu : bSl (nI u) = true := bSl_t (qSl.nI hi8); have ecu : (nI u).toNatClampNeg = u := nI_clamp (by omega); have hou := ho8; unfold xs_join; rw [if_neg (by rw [ebi, ebj, ebu]; decide), ecj, ecu, if_pos (Or.inr (by rw [hkj]; exact (bHo_p5 (hI u (by omega)).2.2).2 hou))]); exact ⟨by rw [ex]; exact .tail _ (.head _), by rw [ex]; exact hz.po hf⟩) (by omega))) (fun v hh36 H locs hq hP hS => ?_)
    obtain ⟨rfl, u9, au, hu9, eu9, hfsu, rfl, hou, x1u, x2u, x3u, x4u, dvu, fau, zvu⟩ := hq
    obtain rfl : u = u9 := nI_inj32 (by omega) (by omega) eu9
    have hku : (S u).1 = nI 5 := (bHo_p5 (hI u (by omega)).2.2).1 hou
    have fau0 := fau
    rw [hku] at fau
    have hlj := hLn j (by omega)
    have hlu := hLn u (by omega)
    have hk6u : ¬ (S u).1 = 6 := fun z => absurd (hku.symm.trans z) (by decide)
    have hamu : zAm (S u) = (S u).2.1.length := zAm_n hk6u
    have hco : xCo (S j).1 (S j).2.1.length (S u).2.1.length = 0 := by unfold xCo; rw [if_pos (show (S j).1 = 5 from hkj)]
    have hea : xEa (S j).1 = true := by rw [hkj]; rfl
    have hmq : (oMq ((o, a, k) : qWo).1).toNatClampNeg = m0 := by rw [show oMq ((o, a, k) : qWo).1 = nI m0 from hm0]; exact nI_clamp (by omega)
    have hany : ¬ (S u).2.1.any (fun p => decide (16 < xAl gr (xJn (S j).1 (xEa (S j).1) (S j).2.1 (S u).2.1) p.1 ∧ ((S j).1 = 1 ∨ (S j).1 = 2))) = true := zany0 (fun p _ => decide_eq_false (fun z => z.2.elim (fun z => absurd (hkj.symm.trans z) (by decide)) (fun z => absurd (hkj.symm.trans z) (by decide))))
    obtain ⟨rfl, rfl, rfl, rfl, nj, Mj, hpj, hpmj⟩ := zvj.heap hkj
    have hmlj : Mj.length ≤ 1000 := by have := hpmj.length_eq; rw [List.length_map] at this; omega
    have hn9j : nj ≤ 9 := hpj.s9 hmlj
    obtain ⟨rfl, rfl, rfl, rfl, nu, Mu, hpu, hpmu⟩ := zvu.heap hku
    have hmlu : Mu.length ≤ 1000 := by have := hpmu.length_eq; rw [List.length_map] at this; omega
    have hn9u : nu ≤ 9 := hpu.s9 hmlu
    refine lv_astore (lv' := [(5, .ref au), (4, .ref aj), (0, .ref x), (1, .int (nI i)), (2, .int (nI j)), (3, .int (nI u))]) hx hb dX6_join_33 hl (by decide) rfl (fun ls hl => ?_)
    refine lv_aload hx hb dX6_join_35 (lv_at hl 1 rfl) ?_
    refine q_get C hP faj rfl inX2 0 (by decide) g192 rfl dX6_join_37 ?_
    refine lv_tableIn (tgt := 93) (off := 53) hx hb dX6_join_40 (by decide +kernel) (by decide +kernel) (by decide +kernel) (by decide) ?_
    refine lv_aload hx hb dX6_join_93 (lv_at hl 1 rfl) ?_
    obtain ⟨t1j, t2j, t3j, f1j, f2j, f3j, etj⟩ := zvj.size
    refine q_callV (rest := []) C (c_X2_amount l D cy N0 h aj (nI 5) 0 t1j t2j t3j none none x3j none faj f1j f2j f3j) kX2_amount g222 g223 rfl g224 g10 hP hS faj (by first | decide | omega) hl.1 rfl (by decide) (by first | decide | omega) dX6_join_95 (fun q ce E h' H1 locs1 hE => hE.elim) (fun v hh37 H locs hq hP hS => ?_)
    obtain ⟨rfl, rfl⟩ := hq
    rw [← etj]
    refine lv_aload hx hb dX6_join_98 (lv_at hl 0 rfl) ?_
    obtain ⟨t1u, t2u, t3u, f1u, f2u, f3u, etu⟩ := zvu.size
    refine q_callV (rest := [.int (nI (zAm (S j)))]) C (c_X2_amount l D cy N0 h au (nI 5) 0 t1u t2u t3u none none x3u none fau f1u f2u f3u) kX2_amount g222 g223 rfl g224 g10 hP hS fau (by first | decide | omega) hl.1 rfl (by simp [q_catrf, q_cati, q_catl, q_cata, q_catn]) (by first | decide | omega) dX6_join_100 (fun q ce E h' H1 locs1 hE => hE.elim) (fun v hh38 H locs hq hP hS => ?_)
    obtain ⟨rfl, rfl⟩ := hq
    rw [← etu]
    refine q_iaddN hx hb dX6_join_103 ?_
    refine q_callS (rest := []) C (c_X6_needRoom l D cy N0 h (nI (zAm (S j) + zAm (S u)))) kX6_needRoom g324 g325 hP hS (by first | decide | omega) hl.1 rfl (by decide) (by first | decide | omega) dX6_join_104 (fun q ce E h' H1 locs1 hE hP hS hc1 hc2 hc3 => by obtain ⟨rfl, rfl, hn9⟩ := hE; replace hn9 : ¬ (zAm (S j) + zAm (S u)) ≤ 1000 := fun z => hn9 ((nI_leI (a := zAm (S j) + zAm (S u)) (b := 1000) (by omega) (by omega)).mpr z); exact q_out C hP hS hc1 hc2 hc3 (by have ex : (xs_join S (o, a, k) (nI i) (nI j) (nI u)) = (3, 0, S, o, a, k) := (by unfold xs_join; rw [if_neg (by rw [ebi, ebj, ebu]; decide), ecj, ecu, if_neg (fun z => z.elim (fun z => by rw [hkj] at z; exact absurd z (by decide)) (fun z => z (hkj.trans hku.symm))), eci, show ((o, a, k) : qWo).1.2.2.2.2.2.2.1 = gr from hgr]; unfold xr_join; rw [if_neg (show ¬ (S j).1 = 6 from hk6j), if_pos (Or.inl (by rw [hea, xJc_t]; omega))]); exact ⟨by rw [ex]; exact .tail _ (.tail _ (.head _)), by rw [ex]; exact hz.po hf⟩) (by omega)) (fun v hh39 H locs hq hP hS => ?_)
    obtain ⟨rfl, rfl, hw9⟩ := hq
    replace hw9 := (nI_leI (a := zAm (S j) + zAm (S u)) (b := 1000) (by omega) (by omega)).mp hw9
    have hroom : ¬ (1000 < xJc (xEa (S j).1) (S j).2.1 (S u).2.1 ∨ 20000 < (oMq ((o, a, k) : qWo).1).toNatClampNeg + xCo (S j).1 (S j).2.1.length (S u).2.1.length) := fun z => z.elim (fun z => by rw [hea, xJc_t] at z; omega) (fun z => by rw [hmq, hco] at z; omega)
    refine lv_aload_n hx hb dX6_join_107 rfl (lv_at hl 2 rfl) ?_
    refine lv_iload_n hx hb dX6_join_108 rfl (lv_at hl 3 rfl) ?_
    refine lv_aload hx hb dX6_join_109 (lv_at hl 1 rfl) ?_
    refine q_get C hP faj rfl inX2 3 (by decide) g200 rfl dX6_join_111 ?_
    refine lv_aload hx hb dX6_join_114 (lv_at hl 0 rfl) ?_
    refine q_get C hP fau rfl inX2 3 (by decide) g200 rfl dX6_join_116 ?_
    refine q_callSN (host := RX6) (rest := [.int (nI i), .ref x]) C (c_X4_merged l D cy N0 (nj + nu + 1) h x3j x3u nj nu Mj Mu hpj hpu (by omega) (by omega)) kX4_merged (by decide +kernel) g464 hP hS (by first | decide | omega) hl.1 rfl (by simp [q_catrf, q_cati, q_catl, q_cata, q_catn]) (by first | decide | omega) dX6_join_119 (fun v hh40 H locs hq hP hS => ?_)
    obtain ⟨r8, n8, M8, rfl, hle8, hp8, hpp8⟩ := hq
    replace faj := hle8 _ _ faj
    replace fau := hle8 _ _ fau
    replace zvj := zvj.le hle8
    replace zvu := zvu.le hle8
    replace hpj := hpj.le hle8
    replace hpu := hpu.le hle8
    replace hf := hf.trs (zFr.le hle8 (qle.dom hle8))
    replace hz := hz.le hV hle8 (qle.dom hle8)
    refine q_callS (rest := [.int (nI i), .ref x]) C (c_X2_ofPile l D cy N0 hh40 r8) kX2_ofPile g469 g470 hP hS (by first | decide | omega) hl.1 rfl (by simp [q_catrf, q_cati, q_catl, q_cata, q_catn]) (by first | decide | omega) dX6_join_122 (fun q ce E h' H1 locs1 hE => hE.elim) (fun v hh41 H locs hq hP hS => ?_)
    obtain ⟨qh, rfl, oqh, rfl⟩ := hq
    replace hP : qP D N0 (qs hh40 qh (.inr (2, [.int 5, .null, .null, va_rf r8, .null, .int 0]))) H := hP
    have hleh : qle hh40 (qs hh40 qh (.inr (2, [.int 5, .null, .null, va_rf r8, .null, .int 0]))) := qle_new oqh
    replace faj := hleh _ _ faj
    replace fau := hleh _ _ fau
    replace zvj := zvj.le hleh
    replace zvu := zvu.le hleh
    replace hpj := hpj.le hleh
    replace hpu := hpu.le hleh
    replace hp8 := hp8.le hleh
    replace hf := hf.trs (zFr.le hleh (qle.dom hleh))
    replace hz := hz.le hV hleh (qle.dom hleh)
    have fqh : (qs hh40 qh (.inr (2, [.int 5, .null, .null, va_rf r8, .null, .int 0]))) qh = some (.inr (2, [.int 5, .null, .null, va_rf r8, .null, .int 0])) := qs_self
    replace fqh : (qs hh40 qh (.inr (2, [.int 5, .null, .null, va_rf r8, .null, .int 0]))) qh = some (.inr (2, [.int (S j).1, .null, .null, va_rf r8, .null, .int 0])) := by rw [hkj]; exact fqh
    have zvn : zV cy (qs hh40 qh (.inr (2, [.int 5, .null, .null, va_rf r8, .null, .int 0]))) Im (zOk Ed eb S) mk g ((S j).1, xJn (S j).1 (xEa (S j).1) (S j).2.1 (S u).2.1, (S j).2.2) none none r8 none 0 := Or.inr (Or.inr (Or.inl ⟨hkj, rfl, rfl, rfl, rfl, n8, M8, hp8, by show M8.Perm ((xJn (S j).1 (xEa (S j).1) (S j).2.1 (S u).2.1).map Prod.fst); rw [hea, hkj]; exact hpp8.trans ((hpmj.append hpmu).trans (xJn_heap _ _).symm)⟩))
    have hzp := hz.put hV hi (s := ((S j).1, xJn (S j).1 (xEa (S j).1) (S j).2.1 (S u).2.1, (S j).2.2)) (show ¬ ((S j).1 = -1) from fun z => absurd (hkj.symm.trans z) (by decide)) ⟨none, none, r8, none, 0, fqh, zvn⟩
    have hfp : zFr h (qs (qs hh40 qh (.inr (2, [.int 5, .null, .null, va_rf r8, .null, .int 0]))) sl (.inl (cy 3, 24, .inr (.inr (.inr (.inr (va_up fs i (some qh)))))))) x sl kr vr bd br Xb := hf.trs (zFr.set hz.2.1.1 (Or.inr (Or.inl rfl)))
    have hkd : qHd (qs hh40 qh (.inr (2, [.int 5, .null, .null, va_rf r8, .null, .int 0]))) qh ((S j).1) none none r8 none 0 (nI (zAm ((S j).1, xJn (S j).1 (xEa (S j).1) (S j).2.1 (S u).2.1, (S j).2.2))) := zHd.hd (s := ((S j).1, xJn (S j).1 (xEa (S j).1) (S j).2.1 (S u).2.1, (S j).2.2)) fqh zvn
    refine q_callV (rest := []) C (c_X6_keep l D cy N0 (qs hh40 qh (.inr (2, [.int 5, .null, .null, va_rf r8, .null, .int 0]))) x sl bl kr vr mk (oCq (o, a, k).1) (oMq (o, a, k).1) (nI Ed) fs i qh ((S j).1) none none r8 none 0 (nI (zAm ((S j).1, xJn (S j).1 (xEa (S j).1) (S j).2.1 (S u).2.1, (S j).2.2))) hz.1.1 hz.2.1.1 hi hkd) kX6_keep g218 g220 rfl gp1 g1 hP hS hz.1.1 (by first | decide | omega) hl.1 rfl (by decide) (by first | decide | omega) dX6_join_125 (fun q ce E h' H1 locs1 hE => hE.elim) (fun v hh42 H locs hq hP hS => ?_)
    obtain ⟨rfl, rfl⟩ := hq
    replace faj := (qs_ne (h := (qs hh40 qh (.inr (2, [.int 5, .null, .null, va_rf r8, .null, .int 0])))) (a := sl) (o := (.inl (cy 3, 24, .inr (.inr (.inr (.inr (va_up fs i (some qh)))))))) (fun z => by rw [z, hz.2.1.1] at faj; cases faj)).trans faj
    replace fau := (qs_ne (h := (qs hh40 qh (.inr (2, [.int 5, .null, .null, va_rf r8, .null, .int 0])))) (a := sl) (o := (.inl (cy 3, 24, .inr (.inr (.inr (.inr (va_up fs i (some qh)))))))) (fun z => by rw [z, hz.2.1.1] at fau; cases fau)).trans fau
    have ex : (xs_join S (o, a, k) (nI i) (nI j) (nI u)) = (0, nI (xJn (S j).1 (xEa (S j).1) (S j).2.1 (S u).2.1).length, qU S i ((S j).1, xJn (S j).1 (xEa (S j).1) (S j).2.1 (S u).2.1, (S j).2.2), oMv o (nI m0 + nI 0), a, k) := by unfold xs_join; rw [if_neg (by rw [ebi, ebj, ebu]; decide), ecj, ecu, if_neg (fun z => z.elim (fun z => by rw [hkj] at z; exact absurd z (by decide)) (fun z => z (hkj.trans hku.symm))), eci, show ((o, a, k) : qWo).1.2.2.2.2.2.2.1 = gr from hgr]; unfold xr_join; rw [if_neg (show ¬ (S j).1 = 6 from hk6j), if_neg hroom, if_neg hany]; rw [show oMq ((o, a, k) : qWo).1 = nI m0 from hm0, show xCo (S j).1 (S j).2.1.length (S u).2.1.length = 0 from hco]
    exact q_iret C hP hS ⟨by rw [ex], by first | (rw [ex]; done) | (rw [ex]; show some (Value.int (nI (zAm ((S j).1, xJn (S j).1 (xEa (S j).1) (S j).2.1 (S u).2.1, (S j).2.2)))) = _; rw [zAm_n (s := ((S j).1, xJn (S j).1 (xEa (S j).1) (S j).2.1 (S u).2.1, (S j).2.2)) hk6j]), by rw [ex]; exact (hzp.obj (o' := oMv o (nI m0 + nI 0)) rfl (by show nI m0 + nI 0 = oMq o; rw [show oMq o = nI m0 from hm0]; exact nI_add m0 0)).po hfp⟩ (by omega) dX6_join_128
  · have faj0 := faj
    rw [hkj] at faj
    refine lv_astore (lv' := [(4, .ref aj), (0, .ref x), (1, .int (nI i)), (2, .int (nI j)), (3, .int (nI u))]) hx hb dX6_join_19 hl (by decide) rfl (fun ls hl => ?_)
    refine lv_aload_n hx hb dX6_join_21 rfl (lv_at hl 1 rfl) ?_
    refine lv_iload_n hx hb dX6_join_22 rfl (lv_at hl 4 rfl) ?_
    refine lv_iconst (v := nI 1) hx hb dX6_join_23 (by decide) ?_
    refine lv_aload hx hb dX6_join_24 (lv_at hl 0 rfl) ?_
    refine q_get C hP faj rfl inX2 0 (by decide) g192 rfl dX6_join_26 ?_
    refine lv_ishl hx hb dX6_join_29 ?_
    rw [show nI 1 <<< (nI 6 &&& 31) = 64 by decide]
    refine q_callV (rest := []) C (z_heldIn l D N0 (nI u) 64 hz hI) kX6_heldIn g243 g245 rfl gp2 g1 hP hS hz.1.1 (by first | decide | omega) hl.1 rfl (by decide) (by first | decide | omega) dX6_join_30 (fun q ce E h' H1 locs1 hE hP hS hc1 hc2 hc3 => hE.2.elim (fun y => by obtain ⟨rfl, -⟩ := hE; obtain ⟨rfl, hn9⟩ := y; exact absurd hn9 (by rw [ebu]; decide)) (fun y => by obtain ⟨rfl, -⟩ := hE; obtain ⟨rfl, i8, hi8, e8, ho8⟩ := y; obtain rfl : u = i8 := nI_inj32 (by omega) (by omega) e8; exact q_out C hP hS hc1 hc2 hc3 (by have ex : (xs_join S (o, a, k) (nI i) (nI j) (nI u)) = (2, 0, S, o, a, k) := (by have ebu : bSl (nI u) = true := bSl_t (qSl.nI hi8); have ecu : (nI u).toNatClampNeg = u := nI_clamp (by omega); have hou := ho8; unfold xs_join; rw [if_neg (by rw [ebi, ebj, ebu]; decide), ecj, ecu, if_pos (Or.inr (by rw [hkj]; exact (bHo_p6 (hI u (by omega)).2.2).2 hou))]); exact ⟨by rw [ex]; exact .tail _ (.head _), by rw [ex]; exact hz.po hf⟩) (by omega))) (fun v hh43 H locs hq hP hS => ?_)
    obtain ⟨rfl, u9, au, hu9, eu9, hfsu, rfl, hou, x1u, x2u, x3u, x4u, dvu, fau, zvu⟩ := hq
    obtain rfl : u = u9 := nI_inj32 (by omega) (by omega) eu9
    have hku : (S u).1 = nI 6 := (bHo_p6 (hI u (by omega)).2.2).1 hou
    have fau0 := fau
    rw [hku] at fau
    have hlj := hLn j (by omega)
    have hlu := hLn u (by omega)
    obtain ⟨rfl, rfl, rfl, rfl, rfl⟩ := zvj.strm hkj
    have hs8j := hSt j (by omega) hkj
    have hd8j := hDp j (by omega)
    obtain ⟨rfl, rfl, rfl, rfl, rfl⟩ := zvu.strm hku
    have hs8u := hSt u (by omega) hku
    have hd8u := hDp u (by omega)
    refine lv_astore (lv' := [(5, .ref au), (4, .ref aj), (0, .ref x), (1, .int (nI i)), (2, .int (nI j)), (3, .int (nI u))]) hx hb dX6_join_33 hl (by decide) rfl (fun ls hl => ?_)
    refine lv_aload hx hb dX6_join_35 (lv_at hl 1 rfl) ?_
    refine q_get C hP faj rfl inX2 0 (by decide) g192 rfl dX6_join_37 ?_
    refine lv_tableIn (tgt := 80) (off := 40) hx hb dX6_join_40 (by decide +kernel) (by decide +kernel) (by decide +kernel) (by decide) ?_
    refine lv_aload_n hx hb dX6_join_80 rfl (lv_at hl 2 rfl) ?_
    refine lv_iload_n hx hb dX6_join_81 rfl (lv_at hl 3 rfl) ?_
    refine lv_aload hx hb dX6_join_82 (lv_at hl 1 rfl) ?_
    refine lv_aload hx hb dX6_join_84 (lv_at hl 0 rfl) ?_
    obtain ⟨f1, f2, f3, f4, f5, f6, f7, f8, f9, f0, hfl⟩ : ∃ (f1 f2 : Int64) (f3 f4 f5 f6 : Int32) (f7 f8 f9 f0 : Value), (¬ (S j).2.2.1 = 0 → f1 = a.2.2.1 (S j).2.2.1) ∧ ∀ sq, zO g (S j).2.2.1 = some sq → h sq = some (.inr (5, [.long f1, .int f3, .int f4, .long f2, .int f5, f7, f8, f9, .int f6, f0])) := by
      by_cases z : (S j).2.2.1 = 0
      · exact ⟨0, 0, 0, 0, 0, 0, .null, .null, .null, .null, fun y => absurd z y, fun sq e => by rw [z, zO_z] at e; cases e⟩
      · obtain ⟨way, cod, cc0, num, src, beh, row, dn, rst, fgi, -⟩ := hz.1.2.1 (S j).2.2.1 (by omega) hs8j.1; exact ⟨_, _, _, _, _, _, _, _, _, _, fun _ => rfl, fun sq e => by rw [zO_s z] at e; cases e; exact fgi⟩
    refine q_callS (rest := [.int (nI i), .ref x]) C (z_joinedStreams l D cy N0 h aj au (S j).2.2.2 (S u).2.2.2 (zO g (S j).2.2.1) (zO g (S u).2.2.1) f1 f2 f3 f4 f5 f6 f7 f8 f9 f0 faj fau (by omega) (by omega) hfl.2) kX6_joinedStreams g840 g841 hP hS (by first | decide | omega) hl.1 rfl (by simp [q_catrf, q_cati, q_catl, q_cata, q_catn]) (by first | decide | omega) dX6_join_86 (fun q ce E h' H1 locs1 hE hP hS hc1 hc2 hc3 => by obtain ⟨rfl, rfl, hn9⟩ := hE; exact q_out C hP hS hc1 hc2 hc3 (by have ex : (xs_join S (o, a, k) (nI i) (nI j) (nI u)) = (3, 0, S, o, a, k) := (by unfold xs_join; rw [if_neg (by rw [ebi, ebj, ebu]; decide), ecj, ecu, if_neg (fun z => z.elim (fun z => by rw [hkj] at z; exact absurd z (by decide)) (fun z => z (hkj.trans hku.symm))), eci, show ((o, a, k) : qWo).1.2.2.2.2.2.2.1 = gr from hgr]; unfold xr_join; rw [if_pos (show (S j).1 = 6 from hkj), if_pos (by omega)]); exact ⟨by rw [ex]; exact .tail _ (.tail _ (.head _)), by rw [ex]; exact hz.po hf⟩) (by omega)) (fun v hh44 H locs hq hP hS => ?_)
    obtain ⟨hmx, hq⟩ := hq
    rcases hq with ⟨hnn, qh, rfl, oqh, rfl⟩ | ⟨sq, q, qh, esq, oq, rfl, oqh, rfl⟩
    · have hs0 : (S j).2.2.1 = 0 := Decidable.byContradiction (fun z => by rw [zO_s z] at hnn; cases hnn)
      replace hP : qP D N0 (qs h qh (.inr (2, [.int 6, .null, .null, .null, va_rf (zO g (S u).2.2.1), .int (nI (max (S j).2.2.2 (S u).2.2.2 + 1))]))) H := hP
      have hleh : qle h (qs h qh (.inr (2, [.int 6, .null, .null, .null, va_rf (zO g (S u).2.2.1), .int (nI (max (S j).2.2.2 (S u).2.2.2 + 1))]))) := qle_new oqh
      replace faj := hleh _ _ faj
      replace fau := hleh _ _ fau
      replace hf := hf.trs (zFr.le hleh (qle.dom hleh))
      replace hz := hz.le hV hleh (qle.dom hleh)
      have fqh : (qs h qh (.inr (2, [.int 6, .null, .null, .null, va_rf (zO g (S u).2.2.1), .int (nI (max (S j).2.2.2 (S u).2.2.2 + 1))]))) qh = some (.inr (2, [.int 6, .null, .null, .null, va_rf (zO g (S u).2.2.1), .int (nI (max (S j).2.2.2 (S u).2.2.2 + 1))])) := qs_self
      replace fqh : (qs h qh (.inr (2, [.int 6, .null, .null, .null, va_rf (zO g (S u).2.2.1), .int (nI (max (S j).2.2.2 (S u).2.2.2 + 1))]))) qh = some (.inr (2, [.int (S j).1, .null, .null, .null, va_rf (zO g (S u).2.2.1), .int (nI (max (S j).2.2.2 (S u).2.2.2 + 1))])) := by rw [hkj]; exact fqh
      have zvn : zV cy (qs h qh (.inr (2, [.int 6, .null, .null, .null, va_rf (zO g (S u).2.2.1), .int (nI (max (S j).2.2.2 (S u).2.2.2 + 1))]))) Im (zOk Ed eb S) mk g ((S j).1, (S j).2.1, (S u).2.2.1, (max (S j).2.2.2 (S u).2.2.2 + 1)) none none none (zO g (S u).2.2.1) (nI (max (S j).2.2.2 (S u).2.2.2 + 1)) := Or.inr (Or.inr (Or.inr (Or.inr ⟨hkj, rfl, rfl, rfl, rfl, rfl⟩)))
      have eJ : xJoin ((o, a, k) : qWo).2.1 ((o, a, k) : qWo).2.2 (S j).2.2.1 (S u).2.2.1 = ((S u).2.2.1, a, k) := by unfold xJoin; rw [if_pos hs0]
      have hzp := hz.put hV hi (s := ((S j).1, (S j).2.1, (S u).2.2.1, (max (S j).2.2.2 (S u).2.2.2 + 1))) (show ¬ ((S j).1 = -1) from fun z => absurd (hkj.symm.trans z) (by decide)) ⟨none, none, none, (zO g (S u).2.2.1), (nI (max (S j).2.2.2 (S u).2.2.2 + 1)), fqh, zvn⟩
      have hfp : zFr h (qs (qs h qh (.inr (2, [.int 6, .null, .null, .null, va_rf (zO g (S u).2.2.1), .int (nI (max (S j).2.2.2 (S u).2.2.2 + 1))]))) sl (.inl (cy 3, 24, .inr (.inr (.inr (.inr (va_up fs i (some qh)))))))) x sl kr vr bd br Xb := hf.trs (zFr.set hz.2.1.1 (Or.inr (Or.inl rfl)))
      have hkd : qHd (qs h qh (.inr (2, [.int 6, .null, .null, .null, va_rf (zO g (S u).2.2.1), .int (nI (max (S j).2.2.2 (S u).2.2.2 + 1))]))) qh ((S j).1) none none none (zO g (S u).2.2.1) (nI (max (S j).2.2.2 (S u).2.2.2 + 1)) (nI (zAm ((S j).1, (S j).2.1, (S u).2.2.1, (max (S j).2.2.2 (S u).2.2.2 + 1)))) := zHd.hd (s := ((S j).1, (S j).2.1, (S u).2.2.1, (max (S j).2.2.2 (S u).2.2.2 + 1))) fqh zvn
      refine q_callV (rest := []) C (c_X6_keep l D cy N0 (qs h qh (.inr (2, [.int 6, .null, .null, .null, va_rf (zO g (S u).2.2.1), .int (nI (max (S j).2.2.2 (S u).2.2.2 + 1))]))) x sl bl kr vr mk (oCq (o, a, k).1) (oMq (o, a, k).1) (nI Ed) fs i qh ((S j).1) none none none (zO g (S u).2.2.1) (nI (max (S j).2.2.2 (S u).2.2.2 + 1)) (nI (zAm ((S j).1, (S j).2.1, (S u).2.2.1, (max (S j).2.2.2 (S u).2.2.2 + 1)))) hz.1.1 hz.2.1.1 hi hkd) kX6_keep g218 g220 rfl gp1 g1 hP hS hz.1.1 (by first | decide | omega) hl.1 rfl (by decide) (by first | decide | omega) dX6_join_89 (fun q ce E h' H1 locs1 hE => hE.elim) (fun v hh45 H locs hq hP hS => ?_)
      obtain ⟨rfl, rfl⟩ := hq
      replace faj := (qs_ne (h := (qs h qh (.inr (2, [.int 6, .null, .null, .null, va_rf (zO g (S u).2.2.1), .int (nI (max (S j).2.2.2 (S u).2.2.2 + 1))])))) (a := sl) (o := (.inl (cy 3, 24, .inr (.inr (.inr (.inr (va_up fs i (some qh)))))))) (fun z => by rw [z, hz.2.1.1] at faj; cases faj)).trans faj
      replace fau := (qs_ne (h := (qs h qh (.inr (2, [.int 6, .null, .null, .null, va_rf (zO g (S u).2.2.1), .int (nI (max (S j).2.2.2 (S u).2.2.2 + 1))])))) (a := sl) (o := (.inl (cy 3, 24, .inr (.inr (.inr (.inr (va_up fs i (some qh)))))))) (fun z => by rw [z, hz.2.1.1] at fau; cases fau)).trans fau
      have ex : (xs_join S (o, a, k) (nI i) (nI j) (nI u)) = (0, 0, qU S i ((S j).1, (S j).2.1, (S u).2.2.1, (max (S j).2.2.2 (S u).2.2.2 + 1)), o, a, k) := by unfold xs_join; rw [if_neg (by rw [ebi, ebj, ebu]; decide), ecj, ecu, if_neg (fun z => z.elim (fun z => by rw [hkj] at z; exact absurd z (by decide)) (fun z => z (hkj.trans hku.symm))), eci, show ((o, a, k) : qWo).1.2.2.2.2.2.2.1 = gr from hgr]; unfold xr_join; rw [if_pos (show (S j).1 = 6 from hkj), if_neg (by omega)]; dsimp only; rw [eJ, Nat.add_comm 1]
      exact q_iret C hP hS ⟨by rw [ex], by first | (rw [ex]; done) | (rw [ex]; show some (Value.int (nI (zAm ((S j).1, (S j).2.1, (S u).2.2.1, (max (S j).2.2.2 (S u).2.2.2 + 1))))) = _; rw [show zAm ((S j).1, (S j).2.1, (S u).2.2.1, (max (S j).2.2.2 (S u).2.2.2 + 1)) = 0 from if_pos hkj]; rfl), by rw [ex]; exact hzp.po hfp⟩ (by omega) dX6_join_92
    · have hs1 : ¬ (S j).2.2.1 = 0 := fun z => by rw [z, zO_z] at esq; cases esq
      rw [zO_s hs1] at esq
      obtain rfl := Option.some.inj esq
      have ef1 := hfl.1 hs1
      subst ef1
      have hrr : a.2.2.2 (S j).2.2.1 = (S j).2.2.1 := hV.r _ hs8j.1
      have eJ : xJoin ((o, a, k) : qWo).2.1 ((o, a, k) : qWo).2.2 (S j).2.2.1 (S u).2.2.1 = (a.1, xCons a (a.2.2.1 (S j).2.2.1) k.1, xCell k 6 (S j).2.2.1 (S u).2.2.1 0 0) := by unfold xJoin; rw [if_neg hs1]; dsimp only; rw [hrr]
      have ezu : zO (qU g a.1 q) (S u).2.2.1 = zO g (S u).2.2.1 := if z : (S u).2.2.1 = 0 then (by rw [z, zO_z, zO_z]) else (by rw [zO_s z, zO_s z, qU_ne (by have := hs8u.1; omega)])
      have hw9 : zW (qs h q (.inr (5, [.long (a.2.2.1 (S j).2.2.1), .int 6, .int 0, .long 0, .int 0, .ref (g (S j).2.2.1), va_rf (zO g (S u).2.2.1), .null, .int 0, .null]))) x mk sl bl kr vr (nI Ed) (qU g a.1 q) (xRs S) (o, xCons a (a.2.2.1 (S j).2.2.1) k.1, xCell k 6 (S j).2.2.1 (S u).2.2.1 0 0) := hz.1.new hV (q := q) (x0 := a.2.2.1 (S j).2.2.1) (rr := k.1) (way := 6) (cod := 0) (cc := 0) (num := 0) (src := some (g (S j).2.2.1)) (beh := zO g (S u).2.2.1) (row := none) (dn := 0) (rst := none) oq (xCell_u hV (kd := 6) (s := (S j).2.2.1) (t := (S u).2.2.1) (c := 0) (y := 0)) (Or.inr ⟨rfl, Or.inr (Or.inr (Or.inr (Or.inr (Or.inr ⟨rfl, rfl, by rw [qU_ne (by have := hs8j.1; omega)], ezu.symm, hs1⟩))))⟩)
      have hH9 : zH h (qs h q (.inr (5, [.long (a.2.2.1 (S j).2.2.1), .int 6, .int 0, .long 0, .int 0, .ref (g (S j).2.2.1), va_rf (zO g (S u).2.2.1), .null, .int 0, .null]))) x := zH.new oq
      obtain ⟨dp2, -, hV2, -⟩ := hV.pushC (dc := dp (S j).2.2.1 + dp (S u).2.2.1 + 1) (o' := o) (x := a.2.2.1 (S j).2.2.1) (c0 := 0) (x0 := 0) (kd := 6) (s := (S j).2.2.1) (t := (S u).2.2.1) rfl ⟨by omega, fun z => by omega, fun z => by omega, fun z => by omega, fun _ => ⟨hs8j.1, by omega⟩, fun z => by omega, fun z => by omega, fun z => by omega, fun _ => ⟨hs8u.1, by omega⟩⟩ oSame
      dsimp only at hV2
      have ezo : zO (qU g a.1 q) a.1 = some q := by rw [zO_s (by omega), qU_at]
      replace faj := hH9.1 _ _ faj (fun z => by rw [z, hz.1.1] at faj; simp at faj) (fun fv z => by simp at z)
      replace fau := hH9.1 _ _ fau (fun z => by rw [z, hz.1.1] at fau; simp at fau) (fun fv z => by simp at z)
      replace hf := hf.trs (zH.fr hH9)
      replace hz := hz.str hw9 hH9 (fun s hs => qU_ne (Nat.ne_of_lt hs)) (fun i hi y => (hSt i hi y).1)
      have hV0 := hV
      replace hV := hV2
      replace hP : qP D N0 (qs (qs h q (.inr (5, [.long (a.2.2.1 (S j).2.2.1), .int 6, .int 0, .long 0, .int 0, .ref (g (S j).2.2.1), va_rf (zO g (S u).2.2.1), .null, .int 0, .null]))) qh (.inr (2, [.int 6, .null, .null, .null, va_rf (some q), .int (nI (max (S j).2.2.2 (S u).2.2.2 + 1))]))) H := hP
      have hleh : qle _ (qs (qs h q (.inr (5, [.long (a.2.2.1 (S j).2.2.1), .int 6, .int 0, .long 0, .int 0, .ref (g (S j).2.2.1), va_rf (zO g (S u).2.2.1), .null, .int 0, .null]))) qh (.inr (2, [.int 6, .null, .null, .null, va_rf (some q), .int (nI (max (S j).2.2.2 (S u).2.2.2 + 1))]))) := qle_new oqh
      replace faj := hleh _ _ faj
      replace fau := hleh _ _ fau
      replace hf := hf.trs (zFr.le hleh (qle.dom hleh))
      replace hz := hz.le hV hleh (qle.dom hleh)
      have fqh : (qs (qs h q (.inr (5, [.long (a.2.2.1 (S j).2.2.1), .int 6, .int 0, .long 0, .int 0, .ref (g (S j).2.2.1), va_rf (zO g (S u).2.2.1), .null, .int 0, .null]))) qh (.inr (2, [.int 6, .null, .null, .null, va_rf (some q), .int (nI (max (S j).2.2.2 (S u).2.2.2 + 1))]))) qh = some (.inr (2, [.int 6, .null, .null, .null, va_rf (some q), .int (nI (max (S j).2.2.2 (S u).2.2.2 + 1))])) := qs_self
      replace fqh : (qs (qs h q (.inr (5, [.long (a.2.2.1 (S j).2.2.1), .int 6, .int 0, .long 0, .int 0, .ref (g (S j).2.2.1), va_rf (zO g (S u).2.2.1), .null, .int 0, .null]))) qh (.inr (2, [.int 6, .null, .null, .null, va_rf (some q), .int (nI (max (S j).2.2.2 (S u).2.2.2 + 1))]))) qh = some (.inr (2, [.int (S j).1, .null, .null, .null, va_rf (some q), .int (nI (max (S j).2.2.2 (S u).2.2.2 + 1))])) := by rw [hkj]; exact fqh
      have zvn : zV cy (qs (qs h q (.inr (5, [.long (a.2.2.1 (S j).2.2.1), .int 6, .int 0, .long 0, .int 0, .ref (g (S j).2.2.1), va_rf (zO g (S u).2.2.1), .null, .int 0, .null]))) qh (.inr (2, [.int 6, .null, .null, .null, va_rf (some q), .int (nI (max (S j).2.2.2 (S u).2.2.2 + 1))]))) Im (zOk Ed eb S) mk (qU g a.1 q) ((S j).1, (S j).2.1, a.1, (max (S j).2.2.2 (S u).2.2.2 + 1)) none none none (some q) (nI (max (S j).2.2.2 (S u).2.2.2 + 1)) := Or.inr (Or.inr (Or.inr (Or.inr ⟨hkj, rfl, rfl, rfl, ezo.symm, rfl⟩)))
      have hzp := hz.put hV hi (s := ((S j).1, (S j).2.1, a.1, (max (S j).2.2.2 (S u).2.2.2 + 1))) (show ¬ ((S j).1 = -1) from fun z => absurd (hkj.symm.trans z) (by decide)) ⟨none, none, none, (some q), (nI (max (S j).2.2.2 (S u).2.2.2 + 1)), fqh, zvn⟩
      have hfp : zFr h (qs (qs (qs h q (.inr (5, [.long (a.2.2.1 (S j).2.2.1), .int 6, .int 0, .long 0, .int 0, .ref (g (S j).2.2.1), va_rf (zO g (S u).2.2.1), .null, .int 0, .null]))) qh (.inr (2, [.int 6, .null, .null, .null, va_rf (some q), .int (nI (max (S j).2.2.2 (S u).2.2.2 + 1))]))) sl (.inl (cy 3, 24, .inr (.inr (.inr (.inr (va_up fs i (some qh)))))))) x sl kr vr bd br Xb := hf.trs (zFr.set hz.2.1.1 (Or.inr (Or.inl rfl)))
      have hkd : qHd (qs (qs h q (.inr (5, [.long (a.2.2.1 (S j).2.2.1), .int 6, .int 0, .long 0, .int 0, .ref (g (S j).2.2.1), va_rf (zO g (S u).2.2.1), .null, .int 0, .null]))) qh (.inr (2, [.int 6, .null, .null, .null, va_rf (some q), .int (nI (max (S j).2.2.2 (S u).2.2.2 + 1))]))) qh ((S j).1) none none none (some q) (nI (max (S j).2.2.2 (S u).2.2.2 + 1)) (nI (zAm ((S j).1, (S j).2.1, a.1, (max (S j).2.2.2 (S u).2.2.2 + 1)))) := zHd.hd (s := ((S j).1, (S j).2.1, a.1, (max (S j).2.2.2 (S u).2.2.2 + 1))) fqh zvn
      refine q_callV (rest := []) C (c_X6_keep l D cy N0 (qs (qs h q (.inr (5, [.long (a.2.2.1 (S j).2.2.1), .int 6, .int 0, .long 0, .int 0, .ref (g (S j).2.2.1), va_rf (zO g (S u).2.2.1), .null, .int 0, .null]))) qh (.inr (2, [.int 6, .null, .null, .null, va_rf (some q), .int (nI (max (S j).2.2.2 (S u).2.2.2 + 1))]))) x sl bl kr vr mk (oCq (o, xCons a (a.2.2.1 (S j).2.2.1) k.1, xCell k 6 (S j).2.2.1 (S u).2.2.1 0 0).1) (oMq (o, xCons a (a.2.2.1 (S j).2.2.1) k.1, xCell k 6 (S j).2.2.1 (S u).2.2.1 0 0).1) (nI Ed) fs i qh ((S j).1) none none none (some q) (nI (max (S j).2.2.2 (S u).2.2.2 + 1)) (nI (zAm ((S j).1, (S j).2.1, a.1, (max (S j).2.2.2 (S u).2.2.2 + 1)))) hz.1.1 hz.2.1.1 hi hkd) kX6_keep g218 g220 rfl gp1 g1 hP hS hz.1.1 (by first | decide | omega) hl.1 rfl (by decide) (by first | decide | omega) dX6_join_89 (fun q ce E h' H1 locs1 hE => hE.elim) (fun v hh46 H locs hq hP hS => ?_)
      obtain ⟨rfl, rfl⟩ := hq
      replace faj := (qs_ne (h := (qs (qs h q (.inr (5, [.long (a.2.2.1 (S j).2.2.1), .int 6, .int 0, .long 0, .int 0, .ref (g (S j).2.2.1), va_rf (zO g (S u).2.2.1), .null, .int 0, .null]))) qh (.inr (2, [.int 6, .null, .null, .null, va_rf (some q), .int (nI (max (S j).2.2.2 (S u).2.2.2 + 1))])))) (a := sl) (o := (.inl (cy 3, 24, .inr (.inr (.inr (.inr (va_up fs i (some qh)))))))) (fun z => by rw [z, hz.2.1.1] at faj; cases faj)).trans faj
      replace fau := (qs_ne (h := (qs (qs h q (.inr (5, [.long (a.2.2.1 (S j).2.2.1), .int 6, .int 0, .long 0, .int 0, .ref (g (S j).2.2.1), va_rf (zO g (S u).2.2.1), .null, .int 0, .null]))) qh (.inr (2, [.int 6, .null, .null, .null, va_rf (some q), .int (nI (max (S j).2.2.2 (S u).2.2.2 + 1))])))) (a := sl) (o := (.inl (cy 3, 24, .inr (.inr (.inr (.inr (va_up fs i (some qh)))))))) (fun z => by rw [z, hz.2.1.1] at fau; cases fau)).trans fau
      have ex : (xs_join S (o, a, k) (nI i) (nI j) (nI u)) = (0, 0, qU S i ((S j).1, (S j).2.1, a.1, (max (S j).2.2.2 (S u).2.2.2 + 1)), o, xCons a (a.2.2.1 (S j).2.2.1) k.1, xCell k 6 (S j).2.2.1 (S u).2.2.1 0 0) := by unfold xs_join; rw [if_neg (by rw [ebi, ebj, ebu]; decide), ecj, ecu, if_neg (fun z => z.elim (fun z => by rw [hkj] at z; exact absurd z (by decide)) (fun z => z (hkj.trans hku.symm))), eci, show ((o, a, k) : qWo).1.2.2.2.2.2.2.1 = gr from hgr]; unfold xr_join; rw [if_pos (show (S j).1 = 6 from hkj), if_neg (by omega)]; dsimp only; rw [eJ, Nat.add_comm 1]
      exact q_iret C hP hS ⟨by rw [ex], by first | (rw [ex]; done) | (rw [ex]; show some (Value.int (nI (zAm ((S j).1, (S j).2.1, a.1, (max (S j).2.2.2 (S u).2.2.2 + 1))))) = _; rw [show zAm ((S j).1, (S j).2.1, a.1, (max (S j).2.2.2 (S u).2.2.2 + 1)) = 0 from if_pos hkj]; rfl), by rw [ex]; exact hzp.po hfp⟩ (by omega) dX6_join_92
