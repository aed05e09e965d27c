theorem dX3_pairOf_0 : decode cX3_pairOf 0 = .ok (.lload_n 3, 1) := by decide +kernel
theorem dX3_pairOf_1 : decode cX3_pairOf 1 = .ok (.iload_n 2, 1) := by decide +kernel
theorem dX3_pairOf_2 : decode cX3_pairOf 2 = .ok (.invokestatic 41, 3) := by decide +kernel
theorem dX3_pairOf_5 : decode cX3_pairOf 5 = .ok (.iload_n 0, 1) := by decide +kernel
theorem dX3_pairOf_6 : decode cX3_pairOf 6 = .ok (.invokestatic 48, 3) := by decide +kernel
theorem dX3_pairOf_9 : decode cX3_pairOf 9 = .ok (.istore 11, 2) := by decide +kernel
theorem dX3_pairOf_11 : decode cX3_pairOf 11 = .ok (.lload 7, 2) := by decide +kernel
theorem dX3_pairOf_13 : decode cX3_pairOf 13 = .ok (.iload_n 2, 1) := by decide +kernel
theorem dX3_pairOf_14 : decode cX3_pairOf 14 = .ok (.invokestatic 41, 3) := by decide +kernel
theorem dX3_pairOf_17 : decode cX3_pairOf 17 = .ok (.iload_n 0, 1) := by decide +kernel
theorem dX3_pairOf_18 : decode cX3_pairOf 18 = .ok (.invokestatic 48, 3) := by decide +kernel
theorem dX3_pairOf_21 : decode cX3_pairOf 21 = .ok (.istore 12, 2) := by decide +kernel
theorem dX3_pairOf_23 : decode cX3_pairOf 23 = .ok (.iload_n 0, 1) := by decide +kernel
theorem dX3_pairOf_24 : decode cX3_pairOf 24 = .ok (.bipush 7, 2) := by decide +kernel
theorem dX3_pairOf_26 : decode cX3_pairOf 26 = .ok (.if_icmp .ge 63, 3) := by decide +kernel
theorem dX3_pairOf_29 : decode cX3_pairOf 29 = .ok (.iload 11, 2) := by decide +kernel
theorem dX3_pairOf_31 : decode cX3_pairOf 31 = .ok (.iload 12, 2) := by decide +kernel
theorem dX3_pairOf_33 : decode cX3_pairOf 33 = .ok (.if_icmp .ne 56, 3) := by decide +kernel
theorem dX3_pairOf_36 : decode cX3_pairOf 36 = .ok (.iconst 1, 1) := by decide +kernel
theorem dX3_pairOf_37 : decode cX3_pairOf 37 = .ok (.anewarray 10, 3) := by decide +kernel
theorem dX3_pairOf_40 : decode cX3_pairOf 40 = .ok (.dup, 1) := by decide +kernel
theorem dX3_pairOf_41 : decode cX3_pairOf 41 = .ok (.iconst 0, 1) := by decide +kernel
theorem dX3_pairOf_42 : decode cX3_pairOf 42 = .ok (.iload_n 0, 1) := by decide +kernel
theorem dX3_pairOf_43 : decode cX3_pairOf 43 = .ok (.iconst 1, 1) := by decide +kernel
theorem dX3_pairOf_44 : decode cX3_pairOf 44 = .ok (.iadd, 1) := by decide +kernel
theorem dX3_pairOf_45 : decode cX3_pairOf 45 = .ok (.iload_n 1, 1) := by decide +kernel
theorem dX3_pairOf_46 : decode cX3_pairOf 46 = .ok (.iload_n 2, 1) := by decide +kernel
theorem dX3_pairOf_47 : decode cX3_pairOf 47 = .ok (.lload_n 3, 1) := by decide +kernel
theorem dX3_pairOf_48 : decode cX3_pairOf 48 = .ok (.lload 5, 2) := by decide +kernel
theorem dX3_pairOf_50 : decode cX3_pairOf 50 = .ok (.lload 7, 2) := by decide +kernel
theorem dX3_pairOf_52 : decode cX3_pairOf 52 = .ok (.lload 9, 2) := by decide +kernel
theorem dX3_pairOf_54 : decode cX3_pairOf 54 = .ok (.invokestatic 92, 3) := by decide +kernel
theorem dX3_pairOf_57 : decode cX3_pairOf 57 = .ok (.aastore, 1) := by decide +kernel
theorem dX3_pairOf_58 : decode cX3_pairOf 58 = .ok (.astore 13, 2) := by decide +kernel
theorem dX3_pairOf_60 : decode cX3_pairOf 60 = .ok (.new 10, 3) := by decide +kernel
theorem dX3_pairOf_63 : decode cX3_pairOf 63 = .ok (.dup, 1) := by decide +kernel
theorem dX3_pairOf_64 : decode cX3_pairOf 64 = .ok (.iload_n 0, 1) := by decide +kernel
theorem dX3_pairOf_65 : decode cX3_pairOf 65 = .ok (.iload_n 1, 1) := by decide +kernel
theorem dX3_pairOf_66 : decode cX3_pairOf 66 = .ok (.aload 13, 2) := by decide +kernel
theorem dX3_pairOf_68 : decode cX3_pairOf 68 = .ok (.invokespecial 70, 3) := by decide +kernel
theorem dX3_pairOf_71 : decode cX3_pairOf 71 = .ok (.astore 14, 2) := by decide +kernel
theorem dX3_pairOf_73 : decode cX3_pairOf 73 = .ok (.aload 14, 2) := by decide +kernel
theorem dX3_pairOf_75 : decode cX3_pairOf 75 = .ok (.iload 12, 2) := by decide +kernel
theorem dX3_pairOf_77 : decode cX3_pairOf 77 = .ok (.putfield 45, 3) := by decide +kernel
theorem dX3_pairOf_80 : decode cX3_pairOf 80 = .ok (.aload 14, 2) := by decide +kernel
theorem dX3_pairOf_82 : decode cX3_pairOf 82 = .ok (.iconst 2, 1) := by decide +kernel
theorem dX3_pairOf_83 : decode cX3_pairOf 83 = .ok (.putfield 32, 3) := by decide +kernel
theorem dX3_pairOf_86 : decode cX3_pairOf 86 = .ok (.aload 14, 2) := by decide +kernel
theorem dX3_pairOf_88 : decode cX3_pairOf 88 = .ok (.areturn, 1) := by decide +kernel
theorem dX3_pairOf_89 : decode cX3_pairOf 89 = .ok (.iload_n 0, 1) := by decide +kernel
theorem dX3_pairOf_90 : decode cX3_pairOf 90 = .ok (.bipush 7, 2) := by decide +kernel
theorem dX3_pairOf_92 : decode cX3_pairOf 92 = .ok (.if_icmp .ge 21, 3) := by decide +kernel
theorem dX3_pairOf_95 : decode cX3_pairOf 95 = .ok (.iload 11, 2) := by decide +kernel
theorem dX3_pairOf_97 : decode cX3_pairOf 97 = .ok (.iload 12, 2) := by decide +kernel
theorem dX3_pairOf_99 : decode cX3_pairOf 99 = .ok (.invokestatic 52, 3) := by decide +kernel
theorem dX3_pairOf_102 : decode cX3_pairOf 102 = .ok (.ifCond .ne 7, 3) := by decide +kernel
theorem dX3_pairOf_105 : decode cX3_pairOf 105 = .ok (.iconst 1, 1) := by decide +kernel
theorem dX3_pairOf_106 : decode cX3_pairOf 106 = .ok (.goto 19, 3) := by decide +kernel
theorem dX3_pairOf_109 : decode cX3_pairOf 109 = .ok (.iconst 0, 1) := by decide +kernel
theorem dX3_pairOf_110 : decode cX3_pairOf 110 = .ok (.goto 15, 3) := by decide +kernel
theorem dX3_pairOf_113 : decode cX3_pairOf 113 = .ok (.lload_n 3, 1) := by decide +kernel
theorem dX3_pairOf_114 : decode cX3_pairOf 114 = .ok (.lload 7, 2) := by decide +kernel
theorem dX3_pairOf_116 : decode cX3_pairOf 116 = .ok (.lcmp, 1) := by decide +kernel
theorem dX3_pairOf_117 : decode cX3_pairOf 117 = .ok (.ifCond .ge 7, 3) := by decide +kernel
theorem dX3_pairOf_120 : decode cX3_pairOf 120 = .ok (.iconst 1, 1) := by decide +kernel
theorem dX3_pairOf_121 : decode cX3_pairOf 121 = .ok (.goto 4, 3) := by decide +kernel
theorem dX3_pairOf_124 : decode cX3_pairOf 124 = .ok (.iconst 0, 1) := by decide +kernel
theorem dX3_pairOf_125 : decode cX3_pairOf 125 = .ok (.istore 13, 2) := by decide +kernel
theorem dX3_pairOf_127 : decode cX3_pairOf 127 = .ok (.new 10, 3) := by decide +kernel
theorem dX3_pairOf_130 : decode cX3_pairOf 130 = .ok (.dup, 1) := by decide +kernel
theorem dX3_pairOf_131 : decode cX3_pairOf 131 = .ok (.iload_n 0, 1) := by decide +kernel
theorem dX3_pairOf_132 : decode cX3_pairOf 132 = .ok (.iload_n 1, 1) := by decide +kernel
theorem dX3_pairOf_133 : decode cX3_pairOf 133 = .ok (.iconst 0, 1) := by decide +kernel
theorem dX3_pairOf_134 : decode cX3_pairOf 134 = .ok (.anewarray 10, 3) := by decide +kernel
theorem dX3_pairOf_137 : decode cX3_pairOf 137 = .ok (.invokespecial 70, 3) := by decide +kernel
theorem dX3_pairOf_140 : decode cX3_pairOf 140 = .ok (.astore 14, 2) := by decide +kernel
theorem dX3_pairOf_142 : decode cX3_pairOf 142 = .ok (.aload 14, 2) := by decide +kernel
theorem dX3_pairOf_144 : decode cX3_pairOf 144 = .ok (.iload 13, 2) := by decide +kernel
theorem dX3_pairOf_146 : decode cX3_pairOf 146 = .ok (.ifCond .eq 18, 3) := by decide +kernel
theorem dX3_pairOf_149 : decode cX3_pairOf 149 = .ok (.iconst 2, 1) := by decide +kernel
theorem dX3_pairOf_150 : decode cX3_pairOf 150 = .ok (.newarray .long, 2) := by decide +kernel
theorem dX3_pairOf_152 : decode cX3_pairOf 152 = .ok (.dup, 1) := by decide +kernel
theorem dX3_pairOf_153 : decode cX3_pairOf 153 = .ok (.iconst 0, 1) := by decide +kernel
theorem dX3_pairOf_154 : decode cX3_pairOf 154 = .ok (.lload_n 3, 1) := by decide +kernel
theorem dX3_pairOf_155 : decode cX3_pairOf 155 = .ok (.lastore, 1) := by decide +kernel
theorem dX3_pairOf_156 : decode cX3_pairOf 156 = .ok (.dup, 1) := by decide +kernel
theorem dX3_pairOf_157 : decode cX3_pairOf 157 = .ok (.iconst 1, 1) := by decide +kernel
theorem dX3_pairOf_158 : decode cX3_pairOf 158 = .ok (.lload 7, 2) := by decide +kernel
theorem dX3_pairOf_160 : decode cX3_pairOf 160 = .ok (.lastore, 1) := by decide +kernel
theorem dX3_pairOf_161 : decode cX3_pairOf 161 = .ok (.goto 15, 3) := by decide +kernel
theorem dX3_pairOf_164 : decode cX3_pairOf 164 = .ok (.iconst 2, 1) := by decide +kernel
theorem dX3_pairOf_165 : decode cX3_pairOf 165 = .ok (.newarray .long, 2) := by decide +kernel
theorem dX3_pairOf_167 : decode cX3_pairOf 167 = .ok (.dup, 1) := by decide +kernel
theorem dX3_pairOf_168 : decode cX3_pairOf 168 = .ok (.iconst 0, 1) := by decide +kernel
theorem dX3_pairOf_169 : decode cX3_pairOf 169 = .ok (.lload 7, 2) := by decide +kernel
theorem dX3_pairOf_171 : decode cX3_pairOf 171 = .ok (.lastore, 1) := by decide +kernel
theorem dX3_pairOf_172 : decode cX3_pairOf 172 = .ok (.dup, 1) := by decide +kernel
theorem dX3_pairOf_173 : decode cX3_pairOf 173 = .ok (.iconst 1, 1) := by decide +kernel
theorem dX3_pairOf_174 : decode cX3_pairOf 174 = .ok (.lload_n 3, 1) := by decide +kernel
theorem dX3_pairOf_175 : decode cX3_pairOf 175 = .ok (.lastore, 1) := by decide +kernel
theorem dX3_pairOf_176 : decode cX3_pairOf 176 = .ok (.putfield 15, 3) := by decide +kernel
theorem dX3_pairOf_179 : decode cX3_pairOf 179 = .ok (.aload 14, 2) := by decide +kernel
theorem dX3_pairOf_181 : decode cX3_pairOf 181 = .ok (.iload 13, 2) := by decide +kernel
theorem dX3_pairOf_183 : decode cX3_pairOf 183 = .ok (.ifCond .eq 19, 3) := by decide +kernel
theorem dX3_pairOf_186 : decode cX3_pairOf 186 = .ok (.iconst 2, 1) := by decide +kernel
theorem dX3_pairOf_187 : decode cX3_pairOf 187 = .ok (.newarray .long, 2) := by decide +kernel
theorem dX3_pairOf_189 : decode cX3_pairOf 189 = .ok (.dup, 1) := by decide +kernel
theorem dX3_pairOf_190 : decode cX3_pairOf 190 = .ok (.iconst 0, 1) := by decide +kernel
theorem dX3_pairOf_191 : decode cX3_pairOf 191 = .ok (.lload 5, 2) := by decide +kernel
theorem dX3_pairOf_193 : decode cX3_pairOf 193 = .ok (.lastore, 1) := by decide +kernel
theorem dX3_pairOf_194 : decode cX3_pairOf 194 = .ok (.dup, 1) := by decide +kernel
theorem dX3_pairOf_195 : decode cX3_pairOf 195 = .ok (.iconst 1, 1) := by decide +kernel
theorem dX3_pairOf_196 : decode cX3_pairOf 196 = .ok (.lload 9, 2) := by decide +kernel
theorem dX3_pairOf_198 : decode cX3_pairOf 198 = .ok (.lastore, 1) := by decide +kernel
theorem dX3_pairOf_199 : decode cX3_pairOf 199 = .ok (.goto 16, 3) := by decide +kernel
theorem dX3_pairOf_202 : decode cX3_pairOf 202 = .ok (.iconst 2, 1) := by decide +kernel
theorem dX3_pairOf_203 : decode cX3_pairOf 203 = .ok (.newarray .long, 2) := by decide +kernel
theorem dX3_pairOf_205 : decode cX3_pairOf 205 = .ok (.dup, 1) := by decide +kernel
theorem dX3_pairOf_206 : decode cX3_pairOf 206 = .ok (.iconst 0, 1) := by decide +kernel
theorem dX3_pairOf_207 : decode cX3_pairOf 207 = .ok (.lload 9, 2) := by decide +kernel
theorem dX3_pairOf_209 : decode cX3_pairOf 209 = .ok (.lastore, 1) := by decide +kernel
theorem dX3_pairOf_210 : decode cX3_pairOf 210 = .ok (.dup, 1) := by decide +kernel
theorem dX3_pairOf_211 : decode cX3_pairOf 211 = .ok (.iconst 1, 1) := by decide +kernel
theorem dX3_pairOf_212 : decode cX3_pairOf 212 = .ok (.lload 5, 2) := by decide +kernel
theorem dX3_pairOf_214 : decode cX3_pairOf 214 = .ok (.lastore, 1) := by decide +kernel
theorem dX3_pairOf_215 : decode cX3_pairOf 215 = .ok (.putfield 18, 3) := by decide +kernel
theorem dX3_pairOf_218 : decode cX3_pairOf 218 = .ok (.aload 14, 2) := by decide +kernel
theorem dX3_pairOf_220 : decode cX3_pairOf 220 = .ok (.iload 11, 2) := by decide +kernel
theorem dX3_pairOf_222 : decode cX3_pairOf 222 = .ok (.iload 12, 2) := by decide +kernel
theorem dX3_pairOf_224 : decode cX3_pairOf 224 = .ok (.ior, 1) := by decide +kernel
theorem dX3_pairOf_225 : decode cX3_pairOf 225 = .ok (.putfield 55, 3) := by decide +kernel
theorem dX3_pairOf_228 : decode cX3_pairOf 228 = .ok (.aload 14, 2) := by decide +kernel
theorem dX3_pairOf_230 : decode cX3_pairOf 230 = .ok (.iconst 2, 1) := by decide +kernel
theorem dX3_pairOf_231 : decode cX3_pairOf 231 = .ok (.putfield 32, 3) := by decide +kernel
theorem dX3_pairOf_234 : decode cX3_pairOf 234 = .ok (.aload 14, 2) := by decide +kernel
theorem dX3_pairOf_236 : decode cX3_pairOf 236 = .ok (.areturn, 1) := by decide +kernel
set_option maxRecDepth 100000 in
set_option maxHeartbeats 4000000 in
theorem c_X3_pairOf (l : Launch) (D : va_G) (cy : Nat → ClassId) (N0 : Nat) (e9 : Nat) (Ok : Nat → Prop) (m9 : Int32) (he9 : e9 < 2 ^ 31) (s : Nat) : ∀ (h : qH) (Im : Nat → Prop) (r d : Nat) (k0 x0 k x : Int64) (hE : qEd cy h Im (fun _ => False)) (hd : d + r = 7) (hkk : k0 ≠ k) (hs : r < s), qC l D cy N0 yX3_pairOf cX3_pairOf 15 (some (.object RX3)) (3 + r) (100 + 60 * r) (2 * r + 4) (9 * r + 12) [.int (nI d), .int (nI e9), .int m9, .long k0, .long x0, .long k, .long x] h (fun v h' => ∃ (a1 : Nat) (X1 Im1 : Nat → Prop), v = some (.ref a1) ∧ qTr cy h' Im1 e9 Ok m9 r a1 [(k0, x0), (k, x)] X1 ∧ qEd cy h' Im1 X1 ∧ qCh h Im (fun _ => False) h' Im1 X1) (fun E h' => False) := by
  induction s with
  | zero => intro h Im r d k0 x0 k x hE hd hkk hs; exact absurd hs (Nat.not_lt_zero _)
  | succ s ih =>
    intro h Im r d k0 x0 k x hE hd hkk hs
    refine q_ofW (by decide) (by exact Nat.le_of_ble_eq_true rfl) ?_
    intro p e s m below meth c ls C hP hl
    have hx := C.1
    have hb := C.2.1
    have hS : va_S (qA N0) s.heap s.heap [] := va_S.rf
    have hl : lv_has ls 15 [(0, .int (nI d)), (1, .int (nI e9)), (2, .int m9), (3, .long k0), (5, .long x0), (7, .long k), (9, .long x)] := hl
    have fr : ∀ b o, h b = some o → h b = some o := fun b o hb => hb
    have fd : ∀ b o, h b = some o → ∃ o', h b = some o' := fun b o hb => ⟨o, hb⟩
    cases r with
    | zero =>
      obtain rfl : d = 7 := by omega
      refine lv_lload_n hx hb dX3_pairOf_0 rfl (lv_at hl 3 rfl) ?_
      refine lv_iload_n hx hb dX3_pairOf_1 rfl (lv_at hl 2 rfl) ?_
      refine q_callS (rest := []) C (c_X3_hashOf l D cy N0 h k0 m9) kX3_hashOf g299 g300 hP hS (by first | decide | omega) hl.1 rfl (by decide) (by first | decide | omega) dX3_pairOf_2 (fun q ce E h' H1 locs1 hE => hE.elim) (fun v hh1 H locs hq hP hS => ?_)
      obtain ⟨rfl, rfl⟩ := hq
      refine lv_iload_n hx hb dX3_pairOf_5 rfl (lv_at hl 0 rfl) ?_
      refine q_callS (rest := []) C (c_X3_bitOf l D cy N0 h k0 m9 7 (by omega)) kX3_bitOf g302 g303 hP hS (by first | decide | omega) hl.1 rfl (by decide) (by first | decide | omega) dX3_pairOf_6 (fun q ce E h' H1 locs1 hE => hE.elim) (fun v hh2 H locs hq hP hS => ?_)
      obtain ⟨rfl, rfl⟩ := hq
      rw [thB_7]
      refine lv_istore (lv' := [(11, .int (nI 0)), (0, .int (nI 7)), (1, .int (nI e9)), (2, .int m9), (3, .long k0), (5, .long x0), (7, .long k), (9, .long x)]) hx hb dX3_pairOf_9 hl (by decide) rfl (fun ls hl => ?_)
      refine lv_lload hx hb dX3_pairOf_11 (lv_at hl 6 rfl) ?_
      refine lv_iload_n hx hb dX3_pairOf_13 rfl (lv_at hl 3 rfl) ?_
      refine q_callS (rest := []) C (c_X3_hashOf l D cy N0 h k m9) kX3_hashOf g299 g300 hP hS (by first | decide | omega) hl.1 rfl (by decide) (by first | decide | omega) dX3_pairOf_14 (fun q ce E h' H1 locs1 hE => hE.elim) (fun v hh3 H locs hq hP hS => ?_)
      obtain ⟨rfl, rfl⟩ := hq
      refine lv_iload_n hx hb dX3_pairOf_17 rfl (lv_at hl 1 rfl) ?_
      refine q_callS (rest := []) C (c_X3_bitOf l D cy N0 h k m9 7 (by omega)) kX3_bitOf g302 g303 hP hS (by first | decide | omega) hl.1 rfl (by decide) (by first | decide | omega) dX3_pairOf_18 (fun q ce E h' H1 locs1 hE => hE.elim) (fun v hh4 H locs hq hP hS => ?_)
      obtain ⟨rfl, rfl⟩ := hq
      rw [thB_7]
      refine lv_istore (lv' := [(12, .int (nI 0)), (11, .int (nI 0)), (0, .int (nI 7)), (1, .int (nI e9)), (2, .int m9), (3, .long k0), (5, .long x0), (7, .long k), (9, .long x)]) hx hb dX3_pairOf_21 hl (by decide) rfl (fun ls hl => ?_)
      refine lv_iload_n hx hb dX3_pairOf_23 rfl (lv_at hl 2 rfl) ?_
      refine lv_bipush (v := nI 7) hx hb dX3_pairOf_24 (by decide) ?_
      refine lv_icmp_ge (tgt := 89) hx hb dX3_pairOf_26 (by decide) (fun c26 => ?_) (fun c26 => ?_)
      · replace c26 : 7 ≤ 7 := (nI_leI (a := 7) (b := 7) (by omega) (by omega)).mp c26
        refine lv_iload_n hx hb dX3_pairOf_89 rfl (lv_at hl 2 rfl) ?_
        refine lv_bipush (v := nI 7) hx hb dX3_pairOf_90 (by decide) ?_
        refine lv_icmp_ge (tgt := 113) hx hb dX3_pairOf_92 (by decide) (fun c92 => ?_) (fun c92 => ?_)
        · replace c92 : 7 ≤ 7 := (nI_leI (a := 7) (b := 7) (by omega) (by omega)).mp c92
          refine lv_lload_n hx hb dX3_pairOf_113 rfl (lv_at hl 5 rfl) ?_
          refine lv_lload hx hb dX3_pairOf_114 (lv_at hl 7 rfl) ?_
          refine W.lcmp hx hb dX3_pairOf_116 ?_
          refine lv_if_ge (tgt := 124) hx hb dX3_pairOf_117 (by decide) (fun c117 => ?_) (fun c117 => ?_)
          · replace c117 : k.toInt ≤ k0.toInt := Int64.le_iff_toInt_le.mp ((lg_cmp_ge _ _).mp c117)
            refine lv_iconst (v := nI 0) hx hb dX3_pairOf_124 (by decide) ?_
            refine lv_istore (lv' := [(13, .int (nI 0)), (12, .int (nI 0)), (11, .int (nI 0)), (0, .int (nI 7)), (1, .int (nI e9)), (2, .int m9), (3, .long k0), (5, .long x0), (7, .long k), (9, .long x)]) hx hb dX3_pairOf_125 hl (by decide) rfl (fun ls hl => ?_)
            refine q_new (ci := 3) (fs := [.int 0, .int 0, .int 0, .int 0, .int 0, .null, .null, .null]) C hP hS rfl inX3 tyX3 tyX3_ok g353 g317 g12 (fun j hj => by rcases (show j = 0 ∨ j = 1 ∨ j = 2 ∨ j = 3 ∨ j = 4 ∨ j = 5 ∨ j = 6 ∨ j = 7 by omega) with rfl | rfl | rfl | rfl | rfl | rfl | rfl | rfl <;> rfl) (by first | decide | omega) (by first | decide | omega) dX3_pairOf_127 (fun q127 H eq127 hP hS => ?_)
            obtain ⟨hv1, ehv1⟩ : ∃ z : qH, z = qs h q127 (.inr (3, [.int 0, .int 0, .int 0, .int 0, .int 0, .null, .null, .null])) := ⟨_, rfl⟩
            rw [← ehv1] at hP
            have khv1 : ∀ b o, b ≠ q127 → h b = some o → hv1 b = some o := by rw [ehv1]; exact fun b o nb hb => (qs_ne nb).trans hb
            have fq127 : hv1 q127 = some (.inr (3, [.int 0, .int 0, .int 0, .int 0, .int 0, .null, .null, .null])) := by rw [ehv1]; exact qs_self
            clear ehv1
            have oq127 : h q127 = none := qno fd eq127
            replace fr : ∀ b o, h b = some o → hv1 b = some o := fun b o hb => khv1 b o (qne_of oq127 hb) (fr b o hb )
            replace fd : ∀ b o, h b = some o → ∃ o', hv1 b = some o' := fun b o hb => (fd b o hb).elim (fun o9 h9 => ⟨o9, khv1 b o9 (qne_of oq127 hb) h9⟩)
            refine lv_dup hx hb dX3_pairOf_130 rfl ?_
            refine lv_iload_n hx hb dX3_pairOf_131 rfl (lv_at hl 3 rfl) ?_
            refine lv_iload_n hx hb dX3_pairOf_132 rfl (lv_at hl 4 rfl) ?_
            refine lv_iconst (v := nI 0) hx hb dX3_pairOf_133 (by decide) ?_
            refine q_newq (t0 := 4) (N := 0) C g353 (by decide) rfl hP hS (by decide) (by decide) (by decide) (by first | decide | omega) (by first | decide | omega) dX3_pairOf_134 (fun q134 H eq134 hP hS => ?_)
            obtain ⟨hv2, ehv2⟩ : ∃ z : qH, z = qs hv1 q134 (.inl (cy 4, 0, .inr (.inr (.inr (.inr (fun _ => none)))))) := ⟨_, rfl⟩
            rw [← ehv2] at hP
            have khv2 : ∀ b o, b ≠ q134 → hv1 b = some o → hv2 b = some o := by rw [ehv2]; exact fun b o nb hb => (qs_ne nb).trans hb
            have n_q134_q127 : q127 ≠ q134 := qne_of eq134 fq127
            replace fq127 := khv2 _ _ n_q134_q127 fq127
            have fq134 : hv2 q134 = some (.inl (cy 4, 0, .inr (.inr (.inr (.inr (fun _ => none)))))) := by rw [ehv2]; exact qs_self
            clear ehv2
            have oq134 : h q134 = none := qno fd eq134
            replace fr : ∀ b o, h b = some o → hv2 b = some o := fun b o hb => khv2 b o (qne_of oq134 hb) (fr b o hb )
            replace fd : ∀ b o, h b = some o → ∃ o', hv2 b = some o' := fun b o hb => (fd b o hb).elim (fun o9 h9 => ⟨o9, khv2 b o9 (qne_of oq134 hb) h9⟩)
            replace hP : qP D N0 (qs hv2 q134 (.inl (cy 4, 0, .inr (.inr (.inr (.inr (fun j => some ((fun _ => 0) j)))))))) H := hP.re (y := (0, .inr (.inr (.inr (.inr (fun j => some ((fun _ => 0) j))))))) fq134 (by rw [vp_cell_q, vp_cell_q]; exact arrV_same (fun j hj => by omega)) rfl
            obtain ⟨hv3, ehv3⟩ : ∃ z : qH, z = qs hv2 q134 (.inl (cy 4, 0, .inr (.inr (.inr (.inr (fun j => some ((fun _ => 0) j))))))) := ⟨_, rfl⟩
            rw [← ehv3] at hP
            have khv3 : ∀ b o, b ≠ q134 → hv2 b = some o → hv3 b = some o := by rw [ehv3]; exact fun b o nb hb => (qs_ne nb).trans hb
            replace fq127 := khv3 _ _ n_q134_q127 fq127
            replace fq134 : hv3 q134 = some (.inl (cy 4, 0, .inr (.inr (.inr (.inr (fun j => some ((fun _ => 0) j))))))) := by rw [ehv3]; exact qs_self
            clear ehv3
            replace fr : ∀ b o, h b = some o → hv3 b = some o := fun b o hb => khv3 b o (qne_of oq134 hb) (fr b o hb )
            replace fd : ∀ b o, h b = some o → ∃ o', hv3 b = some o' := fun b o hb => (fd b o hb).elim (fun o9 h9 => ⟨o9, khv3 b o9 (qne_of oq134 hb) h9⟩)
            refine q_callI (rest := [.ref q127]) C (c_X3_init l D cy N0 hv3 q127 7 e9 q134 fq127) kX3_init g355 g356 rfl hP hS (by first | decide | omega) hl.1 rfl (by simp [q_catrf, q_cati, q_catl, q_cata, q_catn]) (by first | decide | omega) dX3_pairOf_137 (fun v hh5 H locs hq hP hS => ?_)
            obtain ⟨rfl, rfl⟩ := hq
            replace hP : qP D N0 (qs hv3 q127 (.inr (3, [.int (nI 7), .int (nI e9), .int (nI 0), .int (nI 0), .int (nI 0), .ref (cy 99), .ref (cy 99), .ref q134]))) H := hP
            obtain ⟨hv4, ehv4⟩ : ∃ z : qH, z = qs hv3 q127 (.inr (3, [.int (nI 7), .int (nI e9), .int (nI 0), .int (nI 0), .int (nI 0), .ref (cy 99), .ref (cy 99), .ref q134])) := ⟨_, rfl⟩
            rw [← ehv4] at hP
            have khv4 : ∀ b o, b ≠ q127 → hv3 b = some o → hv4 b = some o := by rw [ehv4]; exact fun b o nb hb => (qs_ne nb).trans hb
            replace fq134 := khv4 _ _ n_q134_q127.symm fq134
            replace fq127 : hv4 q127 = some (.inr (3, [.int (nI 7), .int (nI e9), .int (nI 0), .int (nI 0), .int (nI 0), .ref (cy 99), .ref (cy 99), .ref q134])) := by rw [ehv4]; exact qs_self
            clear ehv4
            replace fr : ∀ b o, h b = some o → hv4 b = some o := fun b o hb => khv4 b o (qne_of oq127 hb) (fr b o hb )
            replace fd : ∀ b o, h b = some o → ∃ o', hv4 b = some o' := fun b o hb => (fd b o hb).elim (fun o9 h9 => ⟨o9, khv4 b o9 (qne_of oq127 hb) h9⟩)
            refine lv_astore (lv' := [(14, .ref q127), (13, .int (nI 0)), (12, .int (nI 0)), (11, .int (nI 0)), (0, .int (nI 7)), (1, .int (nI e9)), (2, .int m9), (3, .long k0), (5, .long x0), (7, .long k), (9, .long x)]) hx hb dX3_pairOf_140 hl (by decide) rfl (fun ls hl => ?_)
            refine lv_aload hx hb dX3_pairOf_142 (lv_at hl 0 rfl) ?_
            refine lv_iload hx hb dX3_pairOf_144 (lv_at hl 1 rfl) ?_
            refine lv_if_eq (tgt := 164) hx hb dX3_pairOf_146 (by decide) (fun _ => ?_) (fun c => absurd (by decide) c)
            refine lv_iconst (v := nI 2) hx hb dX3_pairOf_164 (by decide) ?_
            refine q_newaJ (N := 2) C g67 hP hS (by decide) (by decide) (by decide) (by first | decide | omega) (by first | decide | omega) dX3_pairOf_165 (fun q165 H eq165 hP hS => ?_)
            obtain ⟨hv5, ehv5⟩ : ∃ z : qH, z = qs hv4 q165 (.inl (cy 1, 2, .inr (.inl (fun _ => 0)))) := ⟨_, rfl⟩
            rw [← ehv5] at hP
            have khv5 : ∀ b o, b ≠ q165 → hv4 b = some o → hv5 b = some o := by rw [ehv5]; exact fun b o nb hb => (qs_ne nb).trans hb
            have n_q165_q127 : q127 ≠ q165 := qne_of eq165 fq127
            replace fq127 := khv5 _ _ n_q165_q127 fq127
            have n_q165_q134 : q134 ≠ q165 := qne_of eq165 fq134
            replace fq134 := khv5 _ _ n_q165_q134 fq134
            have fq165 : hv5 q165 = some (.inl (cy 1, 2, .inr (.inl (fun _ => 0)))) := by rw [ehv5]; exact qs_self
            clear ehv5
            have oq165 : h q165 = none := qno fd eq165
            replace fr : ∀ b o, h b = some o → hv5 b = some o := fun b o hb => khv5 b o (qne_of oq165 hb) (fr b o hb )
            replace fd : ∀ b o, h b = some o → ∃ o', hv5 b = some o' := fun b o hb => (fd b o hb).elim (fun o9 h9 => ⟨o9, khv5 b o9 (qne_of oq165 hb) h9⟩)
            refine lv_dup hx hb dX3_pairOf_167 rfl ?_
            refine lv_iconst (v := nI 0) hx hb dX3_pairOf_168 (by decide) ?_
            refine lv_lload hx hb dX3_pairOf_169 (lv_at hl 9 rfl) ?_
            refine q_lastN C hP hS fq165 (by omega) (by omega) dX3_pairOf_171 (fun H locs hP hS => ?_)
            obtain ⟨hv6, ehv6⟩ : ∃ z : qH, z = qs hv5 q165 (.inl (cy 1, 2, .inr (.inl (vp_updL (fun _ => 0) 0 k)))) := ⟨_, rfl⟩
            rw [← ehv6] at hP
            have khv6 : ∀ b o, b ≠ q165 → hv5 b = some o → hv6 b = some o := by rw [ehv6]; exact fun b o nb hb => (qs_ne nb).trans hb
            replace fq127 := khv6 _ _ n_q165_q127 fq127
            replace fq134 := khv6 _ _ n_q165_q134 fq134
            replace fq165 : hv6 q165 = some (.inl (cy 1, 2, .inr (.inl (vp_updL (fun _ => 0) 0 k)))) := by rw [ehv6]; exact qs_self
            clear ehv6
            replace fr : ∀ b o, h b = some o → hv6 b = some o := fun b o hb => khv6 b o (qne_of oq165 hb) (fr b o hb )
            replace fd : ∀ b o, h b = some o → ∃ o', hv6 b = some o' := fun b o hb => (fd b o hb).elim (fun o9 h9 => ⟨o9, khv6 b o9 (qne_of oq165 hb) h9⟩)
            refine lv_dup hx hb dX3_pairOf_172 rfl ?_
            refine lv_iconst (v := nI 1) hx hb dX3_pairOf_173 (by decide) ?_
            refine lv_lload_n hx hb dX3_pairOf_174 rfl (lv_at hl 7 rfl) ?_
            refine q_lastN C hP hS fq165 (by omega) (by omega) dX3_pairOf_175 (fun H locs hP hS => ?_)
            obtain ⟨hv7, ehv7⟩ : ∃ z : qH, z = qs hv6 q165 (.inl (cy 1, 2, .inr (.inl (vp_updL (vp_updL (fun _ => 0) 0 k) 1 k0)))) := ⟨_, rfl⟩
            rw [← ehv7] at hP
            have khv7 : ∀ b o, b ≠ q165 → hv6 b = some o → hv7 b = some o := by rw [ehv7]; exact fun b o nb hb => (qs_ne nb).trans hb
            replace fq127 := khv7 _ _ n_q165_q127 fq127
            replace fq134 := khv7 _ _ n_q165_q134 fq134
            replace fq165 : hv7 q165 = some (.inl (cy 1, 2, .inr (.inl (vp_updL (vp_updL (fun _ => 0) 0 k) 1 k0)))) := by rw [ehv7]; exact qs_self
            clear ehv7
            replace fr : ∀ b o, h b = some o → hv7 b = some o := fun b o hb => khv7 b o (qne_of oq165 hb) (fr b o hb )
            replace fd : ∀ b o, h b = some o → ∃ o', hv7 b = some o' := fun b o hb => (fd b o hb).elim (fun o9 h9 => ⟨o9, khv7 b o9 (qne_of oq165 hb) h9⟩)
            replace hP : qP D N0 (qs hv7 q165 (.inl (cy 1, 2, .inr (.inl (fun j => [k, k0].getD j 0))))) H := hP.re (y := (2, .inr (.inl (fun j => [k, k0].getD j 0)))) fq165 (by rw [vp_cell_l, vp_cell_l]; exact arrV_same (fun j hj => by rcases (show j = 0 ∨ j = 1 by omega) with rfl | rfl <;> rfl)) rfl
            obtain ⟨hv8, ehv8⟩ : ∃ z : qH, z = qs hv7 q165 (.inl (cy 1, 2, .inr (.inl (fun j => [k, k0].getD j 0)))) := ⟨_, rfl⟩
            rw [← ehv8] at hP
            have khv8 : ∀ b o, b ≠ q165 → hv7 b = some o → hv8 b = some o := by rw [ehv8]; exact fun b o nb hb => (qs_ne nb).trans hb
            replace fq127 := khv8 _ _ n_q165_q127 fq127
            replace fq134 := khv8 _ _ n_q165_q134 fq134
            replace fq165 : hv8 q165 = some (.inl (cy 1, 2, .inr (.inl (fun j => [k, k0].getD j 0)))) := by rw [ehv8]; exact qs_self
            clear ehv8
            replace fr : ∀ b o, h b = some o → hv8 b = some o := fun b o hb => khv8 b o (qne_of oq165 hb) (fr b o hb )
            replace fd : ∀ b o, h b = some o → ∃ o', hv8 b = some o' := fun b o hb => (fd b o hb).elim (fun o9 h9 => ⟨o9, khv8 b o9 (qne_of oq165 hb) h9⟩)
            refine q_put C hP hS fq127 rfl inX3 tyX3 tyX3_ok nmX3 5 (by decide) g366 rfl rfl rfl (Nat.le_of_ble_eq_true rfl) dX3_pairOf_176 (fun H locs hP hS => ?_)
            replace hP : qP D N0 (qs hv8 q127 (.inr (3, [.int (nI 7), .int (nI e9), .int (nI 0), .int (nI 0), .int (nI 0), .ref q165, .ref (cy 99), .ref q134]))) H := hP
            obtain ⟨hv9, ehv9⟩ : ∃ z : qH, z = qs hv8 q127 (.inr (3, [.int (nI 7), .int (nI e9), .int (nI 0), .int (nI 0), .int (nI 0), .ref q165, .ref (cy 99), .ref q134])) := ⟨_, rfl⟩
            rw [← ehv9] at hP
            have khv9 : ∀ b o, b ≠ q127 → hv8 b = some o → hv9 b = some o := by rw [ehv9]; exact fun b o nb hb => (qs_ne nb).trans hb
            replace fq134 := khv9 _ _ n_q134_q127.symm fq134
            replace fq165 := khv9 _ _ n_q165_q127.symm fq165
            replace fq127 : hv9 q127 = some (.inr (3, [.int (nI 7), .int (nI e9), .int (nI 0), .int (nI 0), .int (nI 0), .ref q165, .ref (cy 99), .ref q134])) := by rw [ehv9]; exact qs_self
            clear ehv9
            replace fr : ∀ b o, h b = some o → hv9 b = some o := fun b o hb => khv9 b o (qne_of oq127 hb) (fr b o hb )
            replace fd : ∀ b o, h b = some o → ∃ o', hv9 b = some o' := fun b o hb => (fd b o hb).elim (fun o9 h9 => ⟨o9, khv9 b o9 (qne_of oq127 hb) h9⟩)
            refine lv_aload hx hb dX3_pairOf_179 (lv_at hl 0 rfl) ?_
            refine lv_iload hx hb dX3_pairOf_181 (lv_at hl 1 rfl) ?_
            refine lv_if_eq (tgt := 202) hx hb dX3_pairOf_183 (by decide) (fun _ => ?_) (fun c => absurd (by decide) c)
            refine lv_iconst (v := nI 2) hx hb dX3_pairOf_202 (by decide) ?_
            refine q_newaJ (N := 2) C g67 hP hS (by decide) (by decide) (by decide) (by first | decide | omega) (by first | decide | omega) dX3_pairOf_203 (fun q203 H eq203 hP hS => ?_)
            obtain ⟨hv10, ehv10⟩ : ∃ z : qH, z = qs hv9 q203 (.inl (cy 1, 2, .inr (.inl (fun _ => 0)))) := ⟨_, rfl⟩
            rw [← ehv10] at hP
            have khv10 : ∀ b o, b ≠ q203 → hv9 b = some o → hv10 b = some o := by rw [ehv10]; exact fun b o nb hb => (qs_ne nb).trans hb
            have n_q203_q127 : q127 ≠ q203 := qne_of eq203 fq127
            replace fq127 := khv10 _ _ n_q203_q127 fq127
            have n_q203_q134 : q134 ≠ q203 := qne_of eq203 fq134
            replace fq134 := khv10 _ _ n_q203_q134 fq134
            have n_q203_q165 : q165 ≠ q203 := qne_of eq203 fq165
            replace fq165 := khv10 _ _ n_q203_q165 fq165
            have fq203 : hv10 q203 = some (.inl (cy 1, 2, .inr (.inl (fun _ => 0)))) := by rw [ehv10]; exact qs_self
            clear ehv10
            have oq203 : h q203 = none := qno fd eq203
            replace fr : ∀ b o, h b = some o → hv10 b = some o := fun b o hb => khv10 b o (qne_of oq203 hb) (fr b o hb )
            replace fd : ∀ b o, h b = some o → ∃ o', hv10 b = some o' := fun b o hb => (fd b o hb).elim (fun o9 h9 => ⟨o9, khv10 b o9 (qne_of oq203 hb) h9⟩)
            refine lv_dup hx hb dX3_pairOf_205 rfl ?_
            refine lv_iconst (v := nI 0) hx hb dX3_pairOf_206 (by decide) ?_
            refine lv_lload hx hb dX3_pairOf_207 (lv_at hl 10 rfl) ?_
            refine q_lastN C hP hS fq203 (by omega) (by omega) dX3_pairOf_209 (fun H locs hP hS => ?_)
            obtain ⟨hv11, ehv11⟩ : ∃ z : qH, z = qs hv10 q203 (.inl (cy 1, 2, .inr (.inl (vp_updL (fun _ => 0) 0 x)))) := ⟨_, rfl⟩
            rw [← ehv11] at hP
            have khv11 : ∀ b o, b ≠ q203 → hv10 b = some o → hv11 b = some o := by rw [ehv11]; exact fun b o nb hb => (qs_ne nb).trans hb
            replace fq127 := khv11 _ _ n_q203_q127 fq127
            replace fq134 := khv11 _ _ n_q203_q134 fq134
            replace fq165 := khv11 _ _ n_q203_q165 fq165
            replace fq203 : hv11 q203 = some (.inl (cy 1, 2, .inr (.inl (vp_updL (fun _ => 0) 0 x)))) := by rw [ehv11]; exact qs_self
            clear ehv11
            replace fr : ∀ b o, h b = some o → hv11 b = some o := fun b o hb => khv11 b o (qne_of oq203 hb) (fr b o hb )
            replace fd : ∀ b o, h b = some o → ∃ o', hv11 b = some o' := fun b o hb => (fd b o hb).elim (fun o9 h9 => ⟨o9, khv11 b o9 (qne_of oq203 hb) h9⟩)
            refine lv_dup hx hb dX3_pairOf_210 rfl ?_
            refine lv_iconst (v := nI 1) hx hb dX3_pairOf_211 (by decide) ?_
            refine lv_lload hx hb dX3_pairOf_212 (lv_at hl 8 rfl) ?_
            refine q_lastN C hP hS fq203 (by omega) (by omega) dX3_pairOf_214 (fun H locs hP hS => ?_)
            obtain ⟨hv12, ehv12⟩ : ∃ z : qH, z = qs hv11 q203 (.inl (cy 1, 2, .inr (.inl (vp_updL (vp_updL (fun _ => 0) 0 x) 1 x0)))) := ⟨_, rfl⟩
            rw [← ehv12] at hP
            have khv12 : ∀ b o, b ≠ q203 → hv11 b = some o → hv12 b = some o := by rw [ehv12]; exact fun b o nb hb => (qs_ne nb).trans hb
            replace fq127 := khv12 _ _ n_q203_q127 fq127
            replace fq134 := khv12 _ _ n_q203_q134 fq134
            replace fq165 := khv12 _ _ n_q203_q165 fq165
            replace fq203 : hv12 q203 = some (.inl (cy 1, 2, .inr (.inl (vp_updL (vp_updL (fun _ => 0) 0 x) 1 x0)))) := by rw [ehv12]; exact qs_self
            clear ehv12
            replace fr : ∀ b o, h b = some o → hv12 b = some o := fun b o hb => khv12 b o (qne_of oq203 hb) (fr b o hb )
            replace fd : ∀ b o, h b = some o → ∃ o', hv12 b = some o' := fun b o hb => (fd b o hb).elim (fun o9 h9 => ⟨o9, khv12 b o9 (qne_of oq203 hb) h9⟩)
            replace hP : qP D N0 (qs hv12 q203 (.inl (cy 1, 2, .inr (.inl (fun j => [x, x0].getD j 0))))) H := hP.re (y := (2, .inr (.inl (fun j => [x, x0].getD j 0)))) fq203 (by rw [vp_cell_l, vp_cell_l]; exact arrV_same (fun j hj => by rcases (show j = 0 ∨ j = 1 by omega) with rfl | rfl <;> rfl)) rfl
            obtain ⟨hv13, ehv13⟩ : ∃ z : qH, z = qs hv12 q203 (.inl (cy 1, 2, .inr (.inl (fun j => [x, x0].getD j 0)))) := ⟨_, rfl⟩
            rw [← ehv13] at hP
            have khv13 : ∀ b o, b ≠ q203 → hv12 b = some o → hv13 b = some o := by rw [ehv13]; exact fun b o nb hb => (qs_ne nb).trans hb
            replace fq127 := khv13 _ _ n_q203_q127 fq127
            replace fq134 := khv13 _ _ n_q203_q134 fq134
            replace fq165 := khv13 _ _ n_q203_q165 fq165
            replace fq203 : hv13 q203 = some (.inl (cy 1, 2, .inr (.inl (fun j => [x, x0].getD j 0)))) := by rw [ehv13]; exact qs_self
            clear ehv13
            replace fr : ∀ b o, h b = some o → hv13 b = some o := fun b o hb => khv13 b o (qne_of oq203 hb) (fr b o hb )
            replace fd : ∀ b o, h b = some o → ∃ o', hv13 b = some o' := fun b o hb => (fd b o hb).elim (fun o9 h9 => ⟨o9, khv13 b o9 (qne_of oq203 hb) h9⟩)
            refine q_put C hP hS fq127 rfl inX3 tyX3 tyX3_ok nmX3 6 (by decide) g367 rfl rfl rfl (Nat.le_of_ble_eq_true rfl) dX3_pairOf_215 (fun H locs hP hS => ?_)
            replace hP : qP D N0 (qs hv13 q127 (.inr (3, [.int (nI 7), .int (nI e9), .int (nI 0), .int (nI 0), .int (nI 0), .ref q165, .ref q203, .ref q134]))) H := hP
            obtain ⟨hv14, ehv14⟩ : ∃ z : qH, z = qs hv13 q127 (.inr (3, [.int (nI 7), .int (nI e9), .int (nI 0), .int (nI 0), .int (nI 0), .ref q165, .ref q203, .ref q134])) := ⟨_, rfl⟩
            rw [← ehv14] at hP
            have khv14 : ∀ b o, b ≠ q127 → hv13 b = some o → hv14 b = some o := by rw [ehv14]; exact fun b o nb hb => (qs_ne nb).trans hb
            replace fq134 := khv14 _ _ n_q134_q127.symm fq134
            replace fq165 := khv14 _ _ n_q165_q127.symm fq165
            replace fq203 := khv14 _ _ n_q203_q127.symm fq203
            replace fq127 : hv14 q127 = some (.inr (3, [.int (nI 7), .int (nI e9), .int (nI 0), .int (nI 0), .int (nI 0), .ref q165, .ref q203, .ref q134])) := by rw [ehv14]; exact qs_self
            clear ehv14
            replace fr : ∀ b o, h b = some o → hv14 b = some o := fun b o hb => khv14 b o (qne_of oq127 hb) (fr b o hb )
            replace fd : ∀ b o, h b = some o → ∃ o', hv14 b = some o' := fun b o hb => (fd b o hb).elim (fun o9 h9 => ⟨o9, khv14 b o9 (qne_of oq127 hb) h9⟩)
            refine lv_aload hx hb dX3_pairOf_218 (lv_at hl 0 rfl) ?_
            refine lv_iload hx hb dX3_pairOf_220 (lv_at hl 3 rfl) ?_
            refine lv_iload hx hb dX3_pairOf_222 (lv_at hl 2 rfl) ?_
            refine lv_ior hx hb dX3_pairOf_224 ?_
            refine q_put C hP hS fq127 rfl inX3 tyX3 tyX3_ok nmX3 2 (by decide) g363 rfl rfl rfl (Nat.le_of_ble_eq_true rfl) dX3_pairOf_225 (fun H locs hP hS => ?_)
            replace hP : qP D N0 (qs hv14 q127 (.inr (3, [.int (nI 7), .int (nI e9), .int ((nI 0) ||| (nI 0)), .int (nI 0), .int (nI 0), .ref q165, .ref q203, .ref q134]))) H := hP
            obtain ⟨hv15, ehv15⟩ : ∃ z : qH, z = qs hv14 q127 (.inr (3, [.int (nI 7), .int (nI e9), .int ((nI 0) ||| (nI 0)), .int (nI 0), .int (nI 0), .ref q165, .ref q203, .ref q134])) := ⟨_, rfl⟩
            rw [← ehv15] at hP
            have khv15 : ∀ b o, b ≠ q127 → hv14 b = some o → hv15 b = some o := by rw [ehv15]; exact fun b o nb hb => (qs_ne nb).trans hb
            replace fq134 := khv15 _ _ n_q134_q127.symm fq134
            replace fq165 := khv15 _ _ n_q165_q127.symm fq165
            replace fq203 := khv15 _ _ n_q203_q127.symm fq203
            replace fq127 : hv15 q127 = some (.inr (3, [.int (nI 7), .int (nI e9), .int ((nI 0) ||| (nI 0)), .int (nI 0), .int (nI 0), .ref q165, .ref q203, .ref q134])) := by rw [ehv15]; exact qs_self
            clear ehv15
            replace fr : ∀ b o, h b = some o → hv15 b = some o := fun b o hb => khv15 b o (qne_of oq127 hb) (fr b o hb )
            replace fd : ∀ b o, h b = some o → ∃ o', hv15 b = some o' := fun b o hb => (fd b o hb).elim (fun o9 h9 => ⟨o9, khv15 b o9 (qne_of oq127 hb) h9⟩)
            refine lv_aload hx hb dX3_pairOf_228 (lv_at hl 0 rfl) ?_
            refine lv_iconst (v := nI 2) hx hb dX3_pairOf_230 (by decide) ?_
            refine q_put C hP hS fq127 rfl inX3 tyX3 tyX3_ok nmX3 4 (by decide) g365 rfl rfl rfl (Nat.le_of_ble_eq_true rfl) dX3_pairOf_231 (fun H locs hP hS => ?_)
            replace hP : qP D N0 (qs hv15 q127 (.inr (3, [.int (nI 7), .int (nI e9), .int ((nI 0) ||| (nI 0)), .int (nI 0), .int (nI 2), .ref q165, .ref q203, .ref q134]))) H := hP
            obtain ⟨hv16, ehv16⟩ : ∃ z : qH, z = qs hv15 q127 (.inr (3, [.int (nI 7), .int (nI e9), .int ((nI 0) ||| (nI 0)), .int (nI 0), .int (nI 2), .ref q165, .ref q203, .ref q134])) := ⟨_, rfl⟩
            rw [← ehv16] at hP
            have khv16 : ∀ b o, b ≠ q127 → hv15 b = some o → hv16 b = some o := by rw [ehv16]; exact fun b o nb hb => (qs_ne nb).trans hb
            replace fq134 := khv16 _ _ n_q134_q127.symm fq134
            replace fq165 := khv16 _ _ n_q165_q127.symm fq165
            replace fq203 := khv16 _ _ n_q203_q127.symm fq203
            replace fq127 : hv16 q127 = some (.inr (3, [.int (nI 7), .int (nI e9), .int ((nI 0) ||| (nI 0)), .int (nI 0), .int (nI 2), .ref q165, .ref q203, .ref q134])) := by rw [ehv16]; exact qs_self
            clear ehv16
            replace fr : ∀ b o, h b = some o → hv16 b = some o := fun b o hb => khv16 b o (qne_of oq127 hb) (fr b o hb )
            replace fd : ∀ b o, h b = some o → ∃ o', hv16 b = some o' := fun b o hb => (fd b o hb).elim (fun o9 h9 => ⟨o9, khv16 b o9 (qne_of oq127 hb) h9⟩)
            refine lv_aload hx hb dX3_pairOf_234 (lv_at hl 0 rfl) ?_
            have ek : trK m9 0 [(k0, x0), (k, x)] = [(k, x), (k0, x0)] := pr_low.trans (if_neg (by omega))
            have em : trM m9 0 [(k0, x0), (k, x)] = [] := rfl
            have ekb : nI (trKb m9 0 [(k0, x0), (k, x)]) = nI 0 ||| nI 0 := show nI 0 = nI 0 ||| nI 0 by decide
            have enb : trNb m9 0 [(k0, x0), (k, x)] = 0 := rfl
            have hap : ∀ b, Im b → b ≠ q127 ∧ b ≠ q134 ∧ b ≠ q165 ∧ b ≠ q203 := fun b z => by obtain ⟨o, ho⟩ := hE.2.1 b (Or.inl z); exact ⟨qne_of oq127 ho, qne_of oq134 ho, qne_of oq165 ho, qne_of oq203 ho⟩
            have h99 := fr _ _ hE.2.2.1
            have hnd : thNd cy hv16 (fun b => Im b ∨ b = q165 ∨ b = q134) e9 Ok m9 0 q127 [(k0, x0), (k, x)] 2 (fun b => b = q127 ∨ b = q203) e9 q165 q203 q134 (fun _ => 0) := ⟨by unfold thNo; rw [ekb, enb, show 7 - 0 = 7 from rfl]; exact fq127, by rw [ek]; exact fq165, by rw [ek]; exact fq203, by rw [em]; exact fq134, Or.inr (Or.inl rfl), he9, Or.inl ⟨rfl, Or.inl rfl, fun _ => Or.inr rfl, fun z => (by rw [ek] at z; cases z), fun z => absurd em z, fun _ => Or.inr (Or.inr rfl)⟩⟩
            have htr : qTr cy hv16 (fun b => Im b ∨ b = q165 ∨ b = q134) e9 Ok m9 0 q127 [(k0, x0), (k, x)] (fun b => b = q127 ∨ b = q203) := qTr.mk (Xs := fun _ _ => False) hnd ⟨fun j _ b z => z.elim, fun i j _ _ _ b z => z.elim⟩ (fun j v z => by rw [em] at z; cases z)
            have hed : qEd cy hv16 (fun b => Im b ∨ b = q165 ∨ b = q134) (fun b => b = q127 ∨ b = q203) := by
              refine ⟨fun b z hi => ?_, fun b z => ?_, h99, Or.inl hE.2.2.2⟩
              · rcases hi with hi | hi | hi
                · rcases z with z | z
                  · exact (hap b hi).1 z
                  · exact (hap b hi).2.2.2 z
                · rcases z with z | z
                  · exact n_q165_q127.symm (hi.symm.trans z)
                  · exact n_q203_q165 (hi.symm.trans z)
                · rcases z with z | z
                  · exact n_q134_q127.symm (hi.symm.trans z)
                  · exact n_q203_q134 (hi.symm.trans z)
              · rcases z with (z | z | z) | z | z
                · obtain ⟨o, ho⟩ := hE.2.1 b (Or.inl z); exact ⟨o, fr b o ho⟩
                · exact ⟨_, by rw [z]; exact fq165⟩
                · exact ⟨_, by rw [z]; exact fq134⟩
                · exact ⟨_, by rw [z]; exact fq127⟩
                · exact ⟨_, by rw [z]; exact fq203⟩
            have hch : qCh h Im (fun _ => False) hv16 (fun b => Im b ∨ b = q165 ∨ b = q134) (fun b => b = q127 ∨ b = q203) := by
              refine ⟨fun b o hb _ => fr b o hb, fun _ z => Or.inl z, fun b z => z.imp_right (fun z => ?_), fun b z => Or.inr ?_, fd⟩
              · rcases z with rfl | rfl
                · exact oq165
                · exact oq134
              · rcases z with rfl | rfl
                · exact oq127
                · exact oq203
            exact q_aret (v := some q127) C (Or.inl ⟨_, rfl⟩) hP hS ⟨q127, (fun b => b = q127 ∨ b = q203), (fun b => Im b ∨ b = q165 ∨ b = q134), rfl, htr, hed, hch⟩ (by omega) dX3_pairOf_236
          · replace c117 : ¬ k.toInt ≤ k0.toInt := fun zq => c117 ((lg_cmp_ge _ _).mpr (Int64.le_iff_toInt_le.mpr zq))
            refine lv_iconst (v := nI 1) hx hb dX3_pairOf_120 (by decide) ?_
            refine lv_goto (tgt := 125) hx hb dX3_pairOf_121 (by decide) ?_
            refine lv_istore (lv' := [(13, .int (nI 1)), (12, .int (nI 0)), (11, .int (nI 0)), (0, .int (nI 7)), (1, .int (nI e9)), (2, .int m9), (3, .long k0), (5, .long x0), (7, .long k), (9, .long x)]) hx hb dX3_pairOf_125 hl (by decide) rfl (fun ls hl => ?_)
            refine q_new (ci := 3) (fs := [.int 0, .int 0, .int 0, .int 0, .int 0, .null, .null, .null]) C hP hS rfl inX3 tyX3 tyX3_ok g353 g317 g12 (fun j hj => by rcases (show j = 0 ∨ j = 1 ∨ j = 2 ∨ j = 3 ∨ j = 4 ∨ j = 5 ∨ j = 6 ∨ j = 7 by omega) with rfl | rfl | rfl | rfl | rfl | rfl | rfl | rfl <;> rfl) (by first | decide | omega) (by first | decide | omega) dX3_pairOf_127 (fun q127 H eq127 hP hS => ?_)
            obtain ⟨hv17, ehv17⟩ : ∃ z : qH, z = qs h q127 (.inr (3, [.int 0, .int 0, .int 0, .int 0, .int 0, .null, .null, .null])) := ⟨_, rfl⟩
            rw [← ehv17] at hP
            have khv17 : ∀ b o, b ≠ q127 → h b = some o → hv17 b = some o := by rw [ehv17]; exact fun b o nb hb => (qs_ne nb).trans hb
            have fq127 : hv17 q127 = some (.inr (3, [.int 0, .int 0, .int 0, .int 0, .int 0, .null, .null, .null])) := by rw [ehv17]; exact qs_self
            clear ehv17
            have oq127 : h q127 = none := qno fd eq127
            replace fr : ∀ b o, h b = some o → hv17 b = some o := fun b o hb => khv17 b o (qne_of oq127 hb) (fr b o hb )
            replace fd : ∀ b o, h b = some o → ∃ o', hv17 b = some o' := fun b o hb => (fd b o hb).elim (fun o9 h9 => ⟨o9, khv17 b o9 (qne_of oq127 hb) h9⟩)
            refine lv_dup hx hb dX3_pairOf_130 rfl ?_
            refine lv_iload_n hx hb dX3_pairOf_131 rfl (lv_at hl 3 rfl) ?_
            refine lv_iload_n hx hb dX3_pairOf_132 rfl (lv_at hl 4 rfl) ?_
            refine lv_iconst (v := nI 0) hx hb dX3_pairOf_133 (by decide) ?_
            refine q_newq (t0 := 4) (N := 0) C g353 (by decide) rfl hP hS (by decide) (by decide) (by decide) (by first | decide | omega) (by first | decide | omega) dX3_pairOf_134 (fun q134 H eq134 hP hS => ?_)
            obtain ⟨hv18, ehv18⟩ : ∃ z : qH, z = qs hv17 q134 (.inl (cy 4, 0, .inr (.inr (.inr (.inr (fun _ => none)))))) := ⟨_, rfl⟩
            rw [← ehv18] at hP
            have khv18 : ∀ b o, b ≠ q134 → hv17 b = some o → hv18 b = some o := by rw [ehv18]; exact fun b o nb hb => (qs_ne nb).trans hb
            have n_q134_q127 : q127 ≠ q134 := qne_of eq134 fq127
            replace fq127 := khv18 _ _ n_q134_q127 fq127
            have fq134 : hv18 q134 = some (.inl (cy 4, 0, .inr (.inr (.inr (.inr (fun _ => none)))))) := by rw [ehv18]; exact qs_self
            clear ehv18
            have oq134 : h q134 = none := qno fd eq134
            replace fr : ∀ b o, h b = some o → hv18 b = some o := fun b o hb => khv18 b o (qne_of oq134 hb) (fr b o hb )
            replace fd : ∀ b o, h b = some o → ∃ o', hv18 b = some o' := fun b o hb => (fd b o hb).elim (fun o9 h9 => ⟨o9, khv18 b o9 (qne_of oq134 hb) h9⟩)
            replace hP : qP D N0 (qs hv18 q134 (.inl (cy 4, 0, .inr (.inr (.inr (.inr (fun j => some ((fun _ => 0) j)))))))) H := hP.re (y := (0, .inr (.inr (.inr (.inr (fun j => some ((fun _ => 0) j))))))) fq134 (by rw [vp_cell_q, vp_cell_q]; exact arrV_same (fun j hj => by omega)) rfl
            obtain ⟨hv19, ehv19⟩ : ∃ z : qH, z = qs hv18 q134 (.inl (cy 4, 0, .inr (.inr (.inr (.inr (fun j => some ((fun _ => 0) j))))))) := ⟨_, rfl⟩
            rw [← ehv19] at hP
            have khv19 : ∀ b o, b ≠ q134 → hv18 b = some o → hv19 b = some o := by rw [ehv19]; exact fun b o nb hb => (qs_ne nb).trans hb
            replace fq127 := khv19 _ _ n_q134_q127 fq127
            replace fq134 : hv19 q134 = some (.inl (cy 4, 0, .inr (.inr (.inr (.inr (fun j => some ((fun _ => 0) j))))))) := by rw [ehv19]; exact qs_self
            clear ehv19
            replace fr : ∀ b o, h b = some o → hv19 b = some o := fun b o hb => khv19 b o (qne_of oq134 hb) (fr b o hb )
            replace fd : ∀ b o, h b = some o → ∃ o', hv19 b = some o' := fun b o hb => (fd b o hb).elim (fun o9 h9 => ⟨o9, khv19 b o9 (qne_of oq134 hb) h9⟩)
            refine q_callI (rest := [.ref q127]) C (c_X3_init l D cy N0 hv19 q127 7 e9 q134 fq127) kX3_init g355 g356 rfl hP hS (by first | decide | omega) hl.1 rfl (by simp [q_catrf, q_cati, q_catl, q_cata, q_catn]) (by first | decide | omega) dX3_pairOf_137 (fun v hh6 H locs hq hP hS => ?_)
            obtain ⟨rfl, rfl⟩ := hq
            replace hP : qP D N0 (qs hv19 q127 (.inr (3, [.int (nI 7), .int (nI e9), .int (nI 0), .int (nI 0), .int (nI 0), .ref (cy 99), .ref (cy 99), .ref q134]))) H := hP
            obtain ⟨hv20, ehv20⟩ : ∃ z : qH, z = qs hv19 q127 (.inr (3, [.int (nI 7), .int (nI e9), .int (nI 0), .int (nI 0), .int (nI 0), .ref (cy 99), .ref (cy 99), .ref q134])) := ⟨_, rfl⟩
            rw [← ehv20] at hP
            have khv20 : ∀ b o, b ≠ q127 → hv19 b = some o → hv20 b = some o := by rw [ehv20]; exact fun b o nb hb => (qs_ne nb).trans hb
            replace fq134 := khv20 _ _ n_q134_q127.symm fq134
            replace fq127 : hv20 q127 = some (.inr (3, [.int (nI 7), .int (nI e9), .int (nI 0), .int (nI 0), .int (nI 0), .ref (cy 99), .ref (cy 99), .ref q134])) := by rw [ehv20]; exact qs_self
            clear ehv20
            replace fr : ∀ b o, h b = some o → hv20 b = some o := fun b o hb => khv20 b o (qne_of oq127 hb) (fr b o hb )
            replace fd : ∀ b o, h b = some o → ∃ o', hv20 b = some o' := fun b o hb => (fd b o hb).elim (fun o9 h9 => ⟨o9, khv20 b o9 (qne_of oq127 hb) h9⟩)
            refine lv_astore (lv' := [(14, .ref q127), (13, .int (nI 1)), (12, .int (nI 0)), (11, .int (nI 0)), (0, .int (nI 7)), (1, .int (nI e9)), (2, .int m9), (3, .long k0), (5, .long x0), (7, .long k), (9, .long x)]) hx hb dX3_pairOf_140 hl (by decide) rfl (fun ls hl => ?_)
            refine lv_aload hx hb dX3_pairOf_142 (lv_at hl 0 rfl) ?_
            refine lv_iload hx hb dX3_pairOf_144 (lv_at hl 1 rfl) ?_
            refine lv_if_eq (tgt := 164) hx hb dX3_pairOf_146 (by decide) (fun c => absurd c (by decide)) (fun _ => ?_)
            refine lv_iconst (v := nI 2) hx hb dX3_pairOf_149 (by decide) ?_
            refine q_newaJ (N := 2) C g67 hP hS (by decide) (by decide) (by decide) (by first | decide | omega) (by first | decide | omega) dX3_pairOf_150 (fun q150 H eq150 hP hS => ?_)
            obtain ⟨hv21, ehv21⟩ : ∃ z : qH, z = qs hv20 q150 (.inl (cy 1, 2, .inr (.inl (fun _ => 0)))) := ⟨_, rfl⟩
            rw [← ehv21] at hP
            have khv21 : ∀ b o, b ≠ q150 → hv20 b = some o → hv21 b = some o := by rw [ehv21]; exact fun b o nb hb => (qs_ne nb).trans hb
            have n_q150_q127 : q127 ≠ q150 := qne_of eq150 fq127
            replace fq127 := khv21 _ _ n_q150_q127 fq127
            have n_q150_q134 : q134 ≠ q150 := qne_of eq150 fq134
            replace fq134 := khv21 _ _ n_q150_q134 fq134
            have fq150 : hv21 q150 = some (.inl (cy 1, 2, .inr (.inl (fun _ => 0)))) := by rw [ehv21]; exact qs_self
            clear ehv21
            have oq150 : h q150 = none := qno fd eq150
            replace fr : ∀ b o, h b = some o → hv21 b = some o := fun b o hb => khv21 b o (qne_of oq150 hb) (fr b o hb )
            replace fd : ∀ b o, h b = some o → ∃ o', hv21 b = some o' := fun b o hb => (fd b o hb).elim (fun o9 h9 => ⟨o9, khv21 b o9 (qne_of oq150 hb) h9⟩)
            refine lv_dup hx hb dX3_pairOf_152 rfl ?_
            refine lv_iconst (v := nI 0) hx hb dX3_pairOf_153 (by decide) ?_
            refine lv_lload_n hx hb dX3_pairOf_154 rfl (lv_at hl 7 rfl) ?_
            refine q_lastN C hP hS fq150 (by omega) (by omega) dX3_pairOf_155 (fun H locs hP hS => ?_)
            obtain ⟨hv22, ehv22⟩ : ∃ z : qH, z = qs hv21 q150 (.inl (cy 1, 2, .inr (.inl (vp_updL (fun _ => 0) 0 k0)))) := ⟨_, rfl⟩
            rw [← ehv22] at hP
            have khv22 : ∀ b o, b ≠ q150 → hv21 b = some o → hv22 b = some o := by rw [ehv22]; exact fun b o nb hb => (qs_ne nb).trans hb
            replace fq127 := khv22 _ _ n_q150_q127 fq127
            replace fq134 := khv22 _ _ n_q150_q134 fq134
            replace fq150 : hv22 q150 = some (.inl (cy 1, 2, .inr (.inl (vp_updL (fun _ => 0) 0 k0)))) := by rw [ehv22]; exact qs_self
            clear ehv22
            replace fr : ∀ b o, h b = some o → hv22 b = some o := fun b o hb => khv22 b o (qne_of oq150 hb) (fr b o hb )
            replace fd : ∀ b o, h b = some o → ∃ o', hv22 b = some o' := fun b o hb => (fd b o hb).elim (fun o9 h9 => ⟨o9, khv22 b o9 (qne_of oq150 hb) h9⟩)
            refine lv_dup hx hb dX3_pairOf_156 rfl ?_
            refine lv_iconst (v := nI 1) hx hb dX3_pairOf_157 (by decide) ?_
            refine lv_lload hx hb dX3_pairOf_158 (lv_at hl 9 rfl) ?_
            refine q_lastN C hP hS fq150 (by omega) (by omega) dX3_pairOf_160 (fun H locs hP hS => ?_)
            obtain ⟨hv23, ehv23⟩ : ∃ z : qH, z = qs hv22 q150 (.inl (cy 1, 2, .inr (.inl (vp_updL (vp_updL (fun _ => 0) 0 k0) 1 k)))) := ⟨_, rfl⟩
            rw [← ehv23] at hP
            have khv23 : ∀ b o, b ≠ q150 → hv22 b = some o → hv23 b = some o := by rw [ehv23]; exact fun b o nb hb => (qs_ne nb).trans hb
            replace fq127 := khv23 _ _ n_q150_q127 fq127
            replace fq134 := khv23 _ _ n_q150_q134 fq134
            replace fq150 : hv23 q150 = some (.inl (cy 1, 2, .inr (.inl (vp_updL (vp_updL (fun _ => 0) 0 k0) 1 k)))) := by rw [ehv23]; exact qs_self
            clear ehv23
            replace fr : ∀ b o, h b = some o → hv23 b = some o := fun b o hb => khv23 b o (qne_of oq150 hb) (fr b o hb )
            replace fd : ∀ b o, h b = some o → ∃ o', hv23 b = some o' := fun b o hb => (fd b o hb).elim (fun o9 h9 => ⟨o9, khv23 b o9 (qne_of oq150 hb) h9⟩)
            replace hP : qP D N0 (qs hv23 q150 (.inl (cy 1, 2, .inr (.inl (fun j => [k0, k].getD j 0))))) H := hP.re (y := (2, .inr (.inl (fun j => [k0, k].getD j 0)))) fq150 (by rw [vp_cell_l, vp_cell_l]; exact arrV_same (fun j hj => by rcases (show j = 0 ∨ j = 1 by omega) with rfl | rfl <;> rfl)) rfl
            obtain ⟨hv24, ehv24⟩ : ∃ z : qH, z = qs hv23 q150 (.inl (cy 1, 2, .inr (.inl (fun j => [k0, k].getD j 0)))) := ⟨_, rfl⟩
            rw [← ehv24] at hP
            have khv24 : ∀ b o, b ≠ q150 → hv23 b = some o → hv24 b = some o := by rw [ehv24]; exact fun b o nb hb => (qs_ne nb).trans hb
            replace fq127 := khv24 _ _ n_q150_q127 fq127
            replace fq134 := khv24 _ _ n_q150_q134 fq134
            replace fq150 : hv24 q150 = some (.inl (cy 1, 2, .inr (.inl (fun j => [k0, k].getD j 0)))) := by rw [ehv24]; exact qs_self
            clear ehv24
            replace fr : ∀ b o, h b = some o → hv24 b = some o := fun b o hb => khv24 b o (qne_of oq150 hb) (fr b o hb )
            replace fd : ∀ b o, h b = some o → ∃ o', hv24 b = some o' := fun b o hb => (fd b o hb).elim (fun o9 h9 => ⟨o9, khv24 b o9 (qne_of oq150 hb) h9⟩)
            refine lv_goto (tgt := 176) hx hb dX3_pairOf_161 (by decide) ?_
            refine q_put C hP hS fq127 rfl inX3 tyX3 tyX3_ok nmX3 5 (by decide) g366 rfl rfl rfl (Nat.le_of_ble_eq_true rfl) dX3_pairOf_176 (fun H locs hP hS => ?_)
            replace hP : qP D N0 (qs hv24 q127 (.inr (3, [.int (nI 7), .int (nI e9), .int (nI 0), .int (nI 0), .int (nI 0), .ref q150, .ref (cy 99), .ref q134]))) H := hP
            obtain ⟨hv25, ehv25⟩ : ∃ z : qH, z = qs hv24 q127 (.inr (3, [.int (nI 7), .int (nI e9), .int (nI 0), .int (nI 0), .int (nI 0), .ref q150, .ref (cy 99), .ref q134])) := ⟨_, rfl⟩
            rw [← ehv25] at hP
            have khv25 : ∀ b o, b ≠ q127 → hv24 b = some o → hv25 b = some o := by rw [ehv25]; exact fun b o nb hb => (qs_ne nb).trans hb
            replace fq134 := khv25 _ _ n_q134_q127.symm fq134
            replace fq150 := khv25 _ _ n_q150_q127.symm fq150
            replace fq127 : hv25 q127 = some (.inr (3, [.int (nI 7), .int (nI e9), .int (nI 0), .int (nI 0), .int (nI 0), .ref q150, .ref (cy 99), .ref q134])) := by rw [ehv25]; exact qs_self
            clear ehv25
            replace fr : ∀ b o, h b = some o → hv25 b = some o := fun b o hb => khv25 b o (qne_of oq127 hb) (fr b o hb )
            replace fd : ∀ b o, h b = some o → ∃ o', hv25 b = some o' := fun b o hb => (fd b o hb).elim (fun o9 h9 => ⟨o9, khv25 b o9 (qne_of oq127 hb) h9⟩)
            refine lv_aload hx hb dX3_pairOf_179 (lv_at hl 0 rfl) ?_
            refine lv_iload hx hb dX3_pairOf_181 (lv_at hl 1 rfl) ?_
            refine lv_if_eq (tgt := 202) hx hb dX3_pairOf_183 (by decide) (fun c => absurd c (by decide)) (fun _ => ?_)
            refine lv_iconst (v := nI 2) hx hb dX3_pairOf_186 (by decide) ?_
            refine q_newaJ (N := 2) C g67 hP hS (by decide) (by decide) (by decide) (by first | decide | omega) (by first | decide | omega) dX3_pairOf_187 (fun q187 H eq187 hP hS => ?_)
            obtain ⟨hv26, ehv26⟩ : ∃ z : qH, z = qs hv25 q187 (.inl (cy 1, 2, .inr (.inl (fun _ => 0)))) := ⟨_, rfl⟩
            rw [← ehv26] at hP
            have khv26 : ∀ b o, b ≠ q187 → hv25 b = some o → hv26 b = some o := by rw [ehv26]; exact fun b o nb hb => (qs_ne nb).trans hb
            have n_q187_q127 : q127 ≠ q187 := qne_of eq187 fq127
            replace fq127 := khv26 _ _ n_q187_q127 fq127
            have n_q187_q134 : q134 ≠ q187 := qne_of eq187 fq134
            replace fq134 := khv26 _ _ n_q187_q134 fq134
            have n_q187_q150 : q150 ≠ q187 := qne_of eq187 fq150
            replace fq150 := khv26 _ _ n_q187_q150 fq150
            have fq187 : hv26 q187 = some (.inl (cy 1, 2, .inr (.inl (fun _ => 0)))) := by rw [ehv26]; exact qs_self
            clear ehv26
            have oq187 : h q187 = none := qno fd eq187
            replace fr : ∀ b o, h b = some o → hv26 b = some o := fun b o hb => khv26 b o (qne_of oq187 hb) (fr b o hb )
            replace fd : ∀ b o, h b = some o → ∃ o', hv26 b = some o' := fun b o hb => (fd b o hb).elim (fun o9 h9 => ⟨o9, khv26 b o9 (qne_of oq187 hb) h9⟩)
            refine lv_dup hx hb dX3_pairOf_189 rfl ?_
            refine lv_iconst (v := nI 0) hx hb dX3_pairOf_190 (by decide) ?_
            refine lv_lload hx hb dX3_pairOf_191 (lv_at hl 8 rfl) ?_
            refine q_lastN C hP hS fq187 (by omega) (by omega) dX3_pairOf_193 (fun H locs hP hS => ?_)
            obtain ⟨hv27, ehv27⟩ : ∃ z : qH, z = qs hv26 q187 (.inl (cy 1, 2, .inr (.inl (vp_updL (fun _ => 0) 0 x0)))) := ⟨_, rfl⟩
            rw [← ehv27] at hP
            have khv27 : ∀ b o, b ≠ q187 → hv26 b = some o → hv27 b = some o := by rw [ehv27]; exact fun b o nb hb => (qs_ne nb).trans hb
            replace fq127 := khv27 _ _ n_q187_q127 fq127
            replace fq134 := khv27 _ _ n_q187_q134 fq134
            replace fq150 := khv27 _ _ n_q187_q150 fq150
            replace fq187 : hv27 q187 = some (.inl (cy 1, 2, .inr (.inl (vp_updL (fun _ => 0) 0 x0)))) := by rw [ehv27]; exact qs_self
            clear ehv27
            replace fr : ∀ b o, h b = some o → hv27 b = some o := fun b o hb => khv27 b o (qne_of oq187 hb) (fr b o hb )
            replace fd : ∀ b o, h b = some o → ∃ o', hv27 b = some o' := fun b o hb => (fd b o hb).elim (fun o9 h9 => ⟨o9, khv27 b o9 (qne_of oq187 hb) h9⟩)
            refine lv_dup hx hb dX3_pairOf_194 rfl ?_
            refine lv_iconst (v := nI 1) hx hb dX3_pairOf_195 (by decide) ?_
            refine lv_lload hx hb dX3_pairOf_196 (lv_at hl 10 rfl) ?_
            refine q_lastN C hP hS fq187 (by omega) (by omega) dX3_pairOf_198 (fun H locs hP hS => ?_)
            obtain ⟨hv28, ehv28⟩ : ∃ z : qH, z = qs hv27 q187 (.inl (cy 1, 2, .inr (.inl (vp_updL (vp_updL (fun _ => 0) 0 x0) 1 x)))) := ⟨_, rfl⟩
            rw [← ehv28] at hP
            have khv28 : ∀ b o, b ≠ q187 → hv27 b = some o → hv28 b = some o := by rw [ehv28]; exact fun b o nb hb => (qs_ne nb).trans hb
            replace fq127 := khv28 _ _ n_q187_q127 fq127
            replace fq134 := khv28 _ _ n_q187_q134 fq134
            replace fq150 := khv28 _ _ n_q187_q150 fq150
            replace fq187 : hv28 q187 = some (.inl (cy 1, 2, .inr (.inl (vp_updL (vp_updL (fun _ => 0) 0 x0) 1 x)))) := by rw [ehv28]; exact qs_self
            clear ehv28
            replace fr : ∀ b o, h b = some o → hv28 b = some o := fun b o hb => khv28 b o (qne_of oq187 hb) (fr b o hb )
            replace fd : ∀ b o, h b = some o → ∃ o', hv28 b = some o' := fun b o hb => (fd b o hb).elim (fun o9 h9 => ⟨o9, khv28 b o9 (qne_of oq187 hb) h9⟩)
            replace hP : qP D N0 (qs hv28 q187 (.inl (cy 1, 2, .inr (.inl (fun j => [x0, x].getD j 0))))) H := hP.re (y := (2, .inr (.inl (fun j => [x0, x].getD j 0)))) fq187 (by rw [vp_cell_l, vp_cell_l]; exact arrV_same (fun j hj => by rcases (show j = 0 ∨ j = 1 by omega) with rfl | rfl <;> rfl)) rfl
            obtain ⟨hv29, ehv29⟩ : ∃ z : qH, z = qs hv28 q187 (.inl (cy 1, 2, .inr (.inl (fun j => [x0, x].getD j 0)))) := ⟨_, rfl⟩
            rw [← ehv29] at hP
            have khv29 : ∀ b o, b ≠ q187 → hv28 b = some o → hv29 b = some o := by rw [ehv29]; exact fun b o nb hb => (qs_ne nb).trans hb
            replace fq127 := khv29 _ _ n_q187_q127 fq127
            replace fq134 := khv29 _ _ n_q187_q134 fq134
            replace fq150 := khv29 _ _ n_q187_q150 fq150
            replace fq187 : hv29 q187 = some (.inl (cy 1, 2, .inr (.inl (fun j => [x0, x].getD j 0)))) := by rw [ehv29]; exact qs_self
            clear ehv29
            replace fr : ∀ b o, h b = some o → hv29 b = some o := fun b o hb => khv29 b o (qne_of oq187 hb) (fr b o hb )
            replace fd : ∀ b o, h b = some o → ∃ o', hv29 b = some o' := fun b o hb => (fd b o hb).elim (fun o9 h9 => ⟨o9, khv29 b o9 (qne_of oq187 hb) h9⟩)
            refine lv_goto (tgt := 215) hx hb dX3_pairOf_199 (by decide) ?_
            refine q_put C hP hS fq127 rfl inX3 tyX3 tyX3_ok nmX3 6 (by decide) g367 rfl rfl rfl (Nat.le_of_ble_eq_true rfl) dX3_pairOf_215 (fun H locs hP hS => ?_)
            replace hP : qP D N0 (qs hv29 q127 (.inr (3, [.int (nI 7), .int (nI e9), .int (nI 0), .int (nI 0), .int (nI 0), .ref q150, .ref q187, .ref q134]))) H := hP
            obtain ⟨hv30, ehv30⟩ : ∃ z : qH, z = qs hv29 q127 (.inr (3, [.int (nI 7), .int (nI e9), .int (nI 0), .int (nI 0), .int (nI 0), .ref q150, .ref q187, .ref q134])) := ⟨_, rfl⟩
            rw [← ehv30] at hP
            have khv30 : ∀ b o, b ≠ q127 → hv29 b = some o → hv30 b = some o := by rw [ehv30]; exact fun b o nb hb => (qs_ne nb).trans hb
            replace fq134 := khv30 _ _ n_q134_q127.symm fq134
            replace fq150 := khv30 _ _ n_q150_q127.symm fq150
            replace fq187 := khv30 _ _ n_q187_q127.symm fq187
            replace fq127 : hv30 q127 = some (.inr (3, [.int (nI 7), .int (nI e9), .int (nI 0), .int (nI 0), .int (nI 0), .ref q150, .ref q187, .ref q134])) := by rw [ehv30]; exact qs_self
            clear ehv30
            replace fr : ∀ b o, h b = some o → hv30 b = some o := fun b o hb => khv30 b o (qne_of oq127 hb) (fr b o hb )
            replace fd : ∀ b o, h b = some o → ∃ o', hv30 b = some o' := fun b o hb => (fd b o hb).elim (fun o9 h9 => ⟨o9, khv30 b o9 (qne_of oq127 hb) h9⟩)
            refine lv_aload hx hb dX3_pairOf_218 (lv_at hl 0 rfl) ?_
            refine lv_iload hx hb dX3_pairOf_220 (lv_at hl 3 rfl) ?_
            refine lv_iload hx hb dX3_pairOf_222 (lv_at hl 2 rfl) ?_
            refine lv_ior hx hb dX3_pairOf_224 ?_
            refine q_put C hP hS fq127 rfl inX3 tyX3 tyX3_ok nmX3 2 (by decide) g363 rfl rfl rfl (Nat.le_of_ble_eq_true rfl) dX3_pairOf_225 (fun H locs hP hS => ?_)
            replace hP : qP D N0 (qs hv30 q127 (.inr (3, [.int (nI 7), .int (nI e9), .int ((nI 0) ||| (nI 0)), .int (nI 0), .int (nI 0), .ref q150, .ref q187, .ref q134]))) H := hP
            obtain ⟨hv31, ehv31⟩ : ∃ z : qH, z = qs hv30 q127 (.inr (3, [.int (nI 7), .int (nI e9), .int ((nI 0) ||| (nI 0)), .int (nI 0), .int (nI 0), .ref q150, .ref q187, .ref q134])) := ⟨_, rfl⟩
            rw [← ehv31] at hP
            have khv31 : ∀ b o, b ≠ q127 → hv30 b = some o → hv31 b = some o := by rw [ehv31]; exact fun b o nb hb => (qs_ne nb).trans hb
            replace fq134 := khv31 _ _ n_q134_q127.symm fq134
            replace fq150 := khv31 _ _ n_q150_q127.symm fq150
            replace fq187 := khv31 _ _ n_q187_q127.symm fq187
            replace fq127 : hv31 q127 = some (.inr (3, [.int (nI 7), .int (nI e9), .int ((nI 0) ||| (nI 0)), .int (nI 0), .int (nI 0), .ref q150, .ref q187, .ref q134])) := by rw [ehv31]; exact qs_self
            clear ehv31
            replace fr : ∀ b o, h b = some o → hv31 b = some o := fun b o hb => khv31 b o (qne_of oq127 hb) (fr b o hb )
            replace fd : ∀ b o, h b = some o → ∃ o', hv31 b = some o' := fun b o hb => (fd b o hb).elim (fun o9 h9 => ⟨o9, khv31 b o9 (qne_of oq127 hb) h9⟩)
            refine lv_aload hx hb dX3_pairOf_228 (lv_at hl 0 rfl) ?_
            refine lv_iconst (v := nI 2) hx hb dX3_pairOf_230 (by decide) ?_
            refine q_put C hP hS fq127 rfl inX3 tyX3 tyX3_ok nmX3 4 (by decide) g365 rfl rfl rfl (Nat.le_of_ble_eq_true rfl) dX3_pairOf_231 (fun H locs hP hS => ?_)
            replace hP : qP D N0 (qs hv31 q127 (.inr (3, [.int (nI 7), .int (nI e9), .int ((nI 0) ||| (nI 0)), .int (nI 0), .int (nI 2), .ref q150, .ref q187, .ref q134]))) H := hP
            obtain ⟨hv32, ehv32⟩ : ∃ z : qH, z = qs hv31 q127 (.inr (3, [.int (nI 7), .int (nI e9), .int ((nI 0) ||| (nI 0)), .int (nI 0), .int (nI 2), .ref q150, .ref q187, .ref q134])) := ⟨_, rfl⟩
            rw [← ehv32] at hP
            have khv32 : ∀ b o, b ≠ q127 → hv31 b = some o → hv32 b = some o := by rw [ehv32]; exact fun b o nb hb => (qs_ne nb).trans hb
            replace fq134 := khv32 _ _ n_q134_q127.symm fq134
            replace fq150 := khv32 _ _ n_q150_q127.symm fq150
            replace fq187 := khv32 _ _ n_q187_q127.symm fq187
            replace fq127 : hv32 q127 = some (.inr (3, [.int (nI 7), .int (nI e9), .int ((nI 0) ||| (nI 0)), .int (nI 0), .int (nI 2), .ref q150, .ref q187, .ref q134])) := by rw [ehv32]; exact qs_self
            clear ehv32
            replace fr : ∀ b o, h b = some o → hv32 b = some o := fun b o hb => khv32 b o (qne_of oq127 hb) (fr b o hb )
            replace fd : ∀ b o, h b = some o → ∃ o', hv32 b = some o' := fun b o hb => (fd b o hb).elim (fun o9 h9 => ⟨o9, khv32 b o9 (qne_of oq127 hb) h9⟩)
            refine lv_aload hx hb dX3_pairOf_234 (lv_at hl 0 rfl) ?_
            have ek : trK m9 0 [(k0, x0), (k, x)] = [(k0, x0), (k, x)] := pr_low.trans (if_pos (by omega))
            have em : trM m9 0 [(k0, x0), (k, x)] = [] := rfl
            have ekb : nI (trKb m9 0 [(k0, x0), (k, x)]) = nI 0 ||| nI 0 := show nI 0 = nI 0 ||| nI 0 by decide
            have enb : trNb m9 0 [(k0, x0), (k, x)] = 0 := rfl
            have hap : ∀ b, Im b → b ≠ q127 ∧ b ≠ q134 ∧ b ≠ q150 ∧ b ≠ q187 := fun b z => by obtain ⟨o, ho⟩ := hE.2.1 b (Or.inl z); exact ⟨qne_of oq127 ho, qne_of oq134 ho, qne_of oq150 ho, qne_of oq187 ho⟩
            have h99 := fr _ _ hE.2.2.1
            have hnd : thNd cy hv32 (fun b => Im b ∨ b = q150 ∨ b = q134) e9 Ok m9 0 q127 [(k0, x0), (k, x)] 2 (fun b => b = q127 ∨ b = q187) e9 q150 q187 q134 (fun _ => 0) := ⟨by unfold thNo; rw [ekb, enb, show 7 - 0 = 7 from rfl]; exact fq127, by rw [ek]; exact fq150, by rw [ek]; exact fq187, by rw [em]; exact fq134, Or.inr (Or.inl rfl), he9, Or.inl ⟨rfl, Or.inl rfl, fun _ => Or.inr rfl, fun z => (by rw [ek] at z; cases z), fun z => absurd em z, fun _ => Or.inr (Or.inr rfl)⟩⟩
            have htr : qTr cy hv32 (fun b => Im b ∨ b = q150 ∨ b = q134) e9 Ok m9 0 q127 [(k0, x0), (k, x)] (fun b => b = q127 ∨ b = q187) := qTr.mk (Xs := fun _ _ => False) hnd ⟨fun j _ b z => z.elim, fun i j _ _ _ b z => z.elim⟩ (fun j v z => by rw [em] at z; cases z)
            have hed : qEd cy hv32 (fun b => Im b ∨ b = q150 ∨ b = q134) (fun b => b = q127 ∨ b = q187) := by
              refine ⟨fun b z hi => ?_, fun b z => ?_, h99, Or.inl hE.2.2.2⟩
              · rcases hi with hi | hi | hi
                · rcases z with z | z
                  · exact (hap b hi).1 z
                  · exact (hap b hi).2.2.2 z
                · rcases z with z | z
                  · exact n_q150_q127.symm (hi.symm.trans z)
                  · exact n_q187_q150 (hi.symm.trans z)
                · rcases z with z | z
                  · exact n_q134_q127.symm (hi.symm.trans z)
                  · exact n_q187_q134 (hi.symm.trans z)
              · rcases z with (z | z | z) | z | z
                · obtain ⟨o, ho⟩ := hE.2.1 b (Or.inl z); exact ⟨o, fr b o ho⟩
                · exact ⟨_, by rw [z]; exact fq150⟩
                · exact ⟨_, by rw [z]; exact fq134⟩
                · exact ⟨_, by rw [z]; exact fq127⟩
                · exact ⟨_, by rw [z]; exact fq187⟩
            have hch : qCh h Im (fun _ => False) hv32 (fun b => Im b ∨ b = q150 ∨ b = q134) (fun b => b = q127 ∨ b = q187) := by
              refine ⟨fun b o hb _ => fr b o hb, fun _ z => Or.inl z, fun b z => z.imp_right (fun z => ?_), fun b z => Or.inr ?_, fd⟩
              · rcases z with rfl | rfl
                · exact oq150
                · exact oq134
              · rcases z with rfl | rfl
                · exact oq127
                · exact oq187
            exact q_aret (v := some q127) C (Or.inl ⟨_, rfl⟩) hP hS ⟨q127, (fun b => b = q127 ∨ b = q187), (fun b => Im b ∨ b = q150 ∨ b = q134), rfl, htr, hed, hch⟩ (by omega) dX3_pairOf_236
        · replace c92 : ¬ 7 ≤ 7 := fun zq => c92 ((nI_leI (a := 7) (b := 7) (by omega) (by omega)).mpr zq)
          exfalso; omega
      · replace c26 : ¬ 7 ≤ 7 := fun zq => c26 ((nI_leI (a := 7) (b := 7) (by omega) (by omega)).mpr zq)
        exfalso; omega
    | succ r =>
      obtain rfl : d = 6 - r := by omega
      refine lv_lload_n hx hb dX3_pairOf_0 rfl (lv_at hl 3 rfl) ?_
      refine lv_iload_n hx hb dX3_pairOf_1 rfl (lv_at hl 2 rfl) ?_
      refine q_callS (rest := []) C (c_X3_hashOf l D cy N0 h k0 m9) kX3_hashOf g299 g300 hP hS (by first | decide | omega) hl.1 rfl (by decide) (by first | decide | omega) dX3_pairOf_2 (fun q ce E h' H1 locs1 hE => hE.elim) (fun v hh7 H locs hq hP hS => ?_)
      obtain ⟨rfl, rfl⟩ := hq
      refine lv_iload_n hx hb dX3_pairOf_5 rfl (lv_at hl 0 rfl) ?_
      refine q_callS (rest := []) C (c_X3_bitOf l D cy N0 h k0 m9 (6 - r) (by omega)) kX3_bitOf g302 g303 hP hS (by first | decide | omega) hl.1 rfl (by decide) (by first | decide | omega) dX3_pairOf_6 (fun q ce E h' H1 locs1 hE => hE.elim) (fun v hh8 H locs hq hP hS => ?_)
      obtain ⟨rfl, rfl⟩ := hq
      rw [thB_6]
      refine lv_istore (lv' := [(11, .int (nI (2 ^ thN m9 (6 - r) k0))), (0, .int (nI (6 - r))), (1, .int (nI e9)), (2, .int m9), (3, .long k0), (5, .long x0), (7, .long k), (9, .long x)]) hx hb dX3_pairOf_9 hl (by decide) rfl (fun ls hl => ?_)
      refine lv_lload hx hb dX3_pairOf_11 (lv_at hl 6 rfl) ?_
      refine lv_iload_n hx hb dX3_pairOf_13 rfl (lv_at hl 3 rfl) ?_
      refine q_callS (rest := []) C (c_X3_hashOf l D cy N0 h k m9) kX3_hashOf g299 g300 hP hS (by first | decide | omega) hl.1 rfl (by decide) (by first | decide | omega) dX3_pairOf_14 (fun q ce E h' H1 locs1 hE => hE.elim) (fun v hh9 H locs hq hP hS => ?_)
      obtain ⟨rfl, rfl⟩ := hq
      refine lv_iload_n hx hb dX3_pairOf_17 rfl (lv_at hl 1 rfl) ?_
      refine q_callS (rest := []) C (c_X3_bitOf l D cy N0 h k m9 (6 - r) (by omega)) kX3_bitOf g302 g303 hP hS (by first | decide | omega) hl.1 rfl (by decide) (by first | decide | omega) dX3_pairOf_18 (fun q ce E h' H1 locs1 hE => hE.elim) (fun v hh10 H locs hq hP hS => ?_)
      obtain ⟨rfl, rfl⟩ := hq
      rw [thB_6]
      refine lv_istore (lv' := [(12, .int (nI (2 ^ thN m9 (6 - r) k))), (11, .int (nI (2 ^ thN m9 (6 - r) k0))), (0, .int (nI (6 - r))), (1, .int (nI e9)), (2, .int m9), (3, .long k0), (5, .long x0), (7, .long k), (9, .long x)]) hx hb dX3_pairOf_21 hl (by decide) rfl (fun ls hl => ?_)
      refine lv_iload_n hx hb dX3_pairOf_23 rfl (lv_at hl 2 rfl) ?_
      refine lv_bipush (v := nI 7) hx hb dX3_pairOf_24 (by decide) ?_
      refine lv_icmp_ge (tgt := 89) hx hb dX3_pairOf_26 (by decide) (fun c26 => ?_) (fun c26 => ?_)
      · replace c26 : 7 ≤ (6 - r) := (nI_leI (a := 7) (b := (6 - r)) (by omega) (by omega)).mp c26
        exfalso; omega
      · replace c26 : ¬ 7 ≤ (6 - r) := fun zq => c26 ((nI_leI (a := 7) (b := (6 - r)) (by omega) (by omega)).mpr zq)
        refine lv_iload hx hb dX3_pairOf_29 (lv_at hl 1 rfl) ?_
        refine lv_iload hx hb dX3_pairOf_31 (lv_at hl 0 rfl) ?_
        refine lv_icmp_ne (tgt := 89) hx hb dX3_pairOf_33 (by decide) (fun c33 => ?_) (fun c33 => ?_)
        · have hdf : ¬ thN m9 (6 - r) k0 = thN m9 (6 - r) k := fun z => c33 (by rw [z])
          refine lv_iload_n hx hb dX3_pairOf_89 rfl (lv_at hl 2 rfl) ?_
          refine lv_bipush (v := nI 7) hx hb dX3_pairOf_90 (by decide) ?_
          refine lv_icmp_ge (tgt := 113) hx hb dX3_pairOf_92 (by decide) (fun c92 => ?_) (fun c92 => ?_)
          · replace c92 : 7 ≤ (6 - r) := (nI_leI (a := 7) (b := (6 - r)) (by omega) (by omega)).mp c92
            exfalso; omega
          · replace c92 : ¬ 7 ≤ (6 - r) := fun zq => c92 ((nI_leI (a := 7) (b := (6 - r)) (by omega) (by omega)).mpr zq)
            refine lv_iload hx hb dX3_pairOf_95 (lv_at hl 1 rfl) ?_
            refine lv_iload hx hb dX3_pairOf_97 (lv_at hl 0 rfl) ?_
            rw [show nI (2 ^ thN m9 (6 - r) k) = nI (tqB (fun u => decide (u = thN m9 (6 - r) k)) 32) from by rw [← tqB_one thN_lt]]
            refine q_callS (rest := []) C (c_X3_rankOf l D cy N0 h (fun u => decide (u = thN m9 (6 - r) k)) (thN m9 (6 - r) k0) thN_lt) kX3_rankOf g305 g306 hP hS (by first | decide | omega) hl.1 rfl (by decide) (by first | decide | omega) dX3_pairOf_99 (fun q ce E h' H1 locs1 hE => hE.elim) (fun v hh11 H locs hq hP hS => ?_)
            obtain ⟨rfl, rfl⟩ := hq
            rw [tqC_one]
            by_cases cf : thN m9 (6 - r) k < thN m9 (6 - r) k0
            · rw [if_pos cf]
              refine lv_if_ne (tgt := 109) hx hb dX3_pairOf_102 (by decide) (fun _ => ?_) (fun c => absurd c (by decide))
              refine lv_iconst (v := nI 0) hx hb dX3_pairOf_109 (by decide) ?_
              refine lv_goto (tgt := 125) hx hb dX3_pairOf_110 (by decide) ?_
              refine lv_istore (lv' := [(13, .int (nI 0)), (12, .int (nI (2 ^ thN m9 (6 - r) k))), (11, .int (nI (2 ^ thN m9 (6 - r) k0))), (0, .int (nI (6 - r))), (1, .int (nI e9)), (2, .int m9), (3, .long k0), (5, .long x0), (7, .long k), (9, .long x)]) hx hb dX3_pairOf_125 hl (by decide) rfl (fun ls hl => ?_)
              refine q_new (ci := 3) (fs := [.int 0, .int 0, .int 0, .int 0, .int 0, .null, .null, .null]) C hP hS rfl inX3 tyX3 tyX3_ok g353 g317 g12 (fun j hj => by rcases (show j = 0 ∨ j = 1 ∨ j = 2 ∨ j = 3 ∨ j = 4 ∨ j = 5 ∨ j = 6 ∨ j = 7 by omega) with rfl | rfl | rfl | rfl | rfl | rfl | rfl | rfl <;> rfl) (by first | decide | omega) (by first | decide | omega) dX3_pairOf_127 (fun q127 H eq127 hP hS => ?_)
              obtain ⟨hv33, ehv33⟩ : ∃ z : qH, z = qs h q127 (.inr (3, [.int 0, .int 0, .int 0, .int 0, .int 0, .null, .null, .null])) := ⟨_, rfl⟩
              rw [← ehv33] at hP
              have khv33 : ∀ b o, b ≠ q127 → h b = some o → hv33 b = some o := by rw [ehv33]; exact fun b o nb hb => (qs_ne nb).trans hb
              have fq127 : hv33 q127 = some (.inr (3, [.int 0, .int 0, .int 0, .int 0, .int 0, .null, .null, .null])) := by rw [ehv33]; exact qs_self
              clear ehv33
              have oq127 : h q127 = none := qno fd eq127
              replace fr : ∀ b o, h b = some o → hv33 b = some o := fun b o hb => khv33 b o (qne_of oq127 hb) (fr b o hb )
              replace fd : ∀ b o, h b = some o → ∃ o', hv33 b = some o' := fun b o hb => (fd b o hb).elim (fun o9 h9 => ⟨o9, khv33 b o9 (qne_of oq127 hb) h9⟩)
              refine lv_dup hx hb dX3_pairOf_130 rfl ?_
              refine lv_iload_n hx hb dX3_pairOf_131 rfl (lv_at hl 3 rfl) ?_
              refine lv_iload_n hx hb dX3_pairOf_132 rfl (lv_at hl 4 rfl) ?_
              refine lv_iconst (v := nI 0) hx hb dX3_pairOf_133 (by decide) ?_
              refine q_newq (t0 := 4) (N := 0) C g353 (by decide) rfl hP hS (by decide) (by decide) (by decide) (by first | decide | omega) (by first | decide | omega) dX3_pairOf_134 (fun q134 H eq134 hP hS => ?_)
              obtain ⟨hv34, ehv34⟩ : ∃ z : qH, z = qs hv33 q134 (.inl (cy 4, 0, .inr (.inr (.inr (.inr (fun _ => none)))))) := ⟨_, rfl⟩
              rw [← ehv34] at hP
              have khv34 : ∀ b o, b ≠ q134 → hv33 b = some o → hv34 b = some o := by rw [ehv34]; exact fun b o nb hb => (qs_ne nb).trans hb
              have n_q134_q127 : q127 ≠ q134 := qne_of eq134 fq127
              replace fq127 := khv34 _ _ n_q134_q127 fq127
              have fq134 : hv34 q134 = some (.inl (cy 4, 0, .inr (.inr (.inr (.inr (fun _ => none)))))) := by rw [ehv34]; exact qs_self
              clear ehv34
              have oq134 : h q134 = none := qno fd eq134
              replace fr : ∀ b o, h b = some o → hv34 b = some o := fun b o hb => khv34 b o (qne_of oq134 hb) (fr b o hb )
              replace fd : ∀ b o, h b = some o → ∃ o', hv34 b = some o' := fun b o hb => (fd b o hb).elim (fun o9 h9 => ⟨o9, khv34 b o9 (qne_of oq134 hb) h9⟩)
              replace hP : qP D N0 (qs hv34 q134 (.inl (cy 4, 0, .inr (.inr (.inr (.inr (fun j => some ((fun _ => 0) j)))))))) H := hP.re (y := (0, .inr (.inr (.inr (.inr (fun j => some ((fun _ => 0) j))))))) fq134 (by rw [vp_cell_q, vp_cell_q]; exact arrV_same (fun j hj => by omega)) rfl
              obtain ⟨hv35, ehv35⟩ : ∃ z : qH, z = qs hv34 q134 (.inl (cy 4, 0, .inr (.inr (.inr (.inr (fun j => some ((fun _ => 0) j))))))) := ⟨_, rfl⟩
              rw [← ehv35] at hP
              have khv35 : ∀ b o, b ≠ q134 → hv34 b = some o → hv35 b = some o := by rw [ehv35]; exact fun b o nb hb => (qs_ne nb).trans hb
              replace fq127 := khv35 _ _ n_q134_q127 fq127
              replace fq134 : hv35 q134 = some (.inl (cy 4, 0, .inr (.inr (.inr (.inr (fun j => some ((fun _ => 0) j))))))) := by rw [ehv35]; exact qs_self
              clear ehv35
              replace fr : ∀ b o, h b = some o → hv35 b = some o := fun b o hb => khv35 b o (qne_of oq134 hb) (fr b o hb )
              replace fd : ∀ b o, h b = some o → ∃ o', hv35 b = some o' := fun b o hb => (fd b o hb).elim (fun o9 h9 => ⟨o9, khv35 b o9 (qne_of oq134 hb) h9⟩)
              refine q_callI (rest := [.ref q127]) C (c_X3_init l D cy N0 hv35 q127 (6 - r) e9 q134 fq127) kX3_init g355 g356 rfl hP hS (by first | decide | omega) hl.1 rfl (by simp [q_catrf, q_cati, q_catl, q_cata, q_catn]) (by first | decide | omega) dX3_pairOf_137 (fun v hh12 H locs hq hP hS => ?_)
              obtain ⟨rfl, rfl⟩ := hq
              replace hP : qP D N0 (qs hv35 q127 (.inr (3, [.int (nI (6 - r)), .int (nI e9), .int (nI 0), .int (nI 0), .int (nI 0), .ref (cy 99), .ref (cy 99), .ref q134]))) H := hP
              obtain ⟨hv36, ehv36⟩ : ∃ z : qH, z = qs hv35 q127 (.inr (3, [.int (nI (6 - r)), .int (nI e9), .int (nI 0), .int (nI 0), .int (nI 0), .ref (cy 99), .ref (cy 99), .ref q134])) := ⟨_, rfl⟩
              rw [← ehv36] at hP
              have khv36 : ∀ b o, b ≠ q127 → hv35 b = some o → hv36 b = some o := by rw [ehv36]; exact fun b o nb hb => (qs_ne nb).trans hb
              replace fq134 := khv36 _ _ n_q134_q127.symm fq134
              replace fq127 : hv36 q127 = some (.inr (3, [.int (nI (6 - r)), .int (nI e9), .int (nI 0), .int (nI 0), .int (nI 0), .ref (cy 99), .ref (cy 99), .ref q134])) := by rw [ehv36]; exact qs_self
              clear ehv36
              replace fr : ∀ b o, h b = some o → hv36 b = some o := fun b o hb => khv36 b o (qne_of oq127 hb) (fr b o hb )
              replace fd : ∀ b o, h b = some o → ∃ o', hv36 b = some o' := fun b o hb => (fd b o hb).elim (fun o9 h9 => ⟨o9, khv36 b o9 (qne_of oq127 hb) h9⟩)
              refine lv_astore (lv' := [(14, .ref q127), (13, .int (nI 0)), (12, .int (nI (2 ^ thN m9 (6 - r) k))), (11, .int (nI (2 ^ thN m9 (6 - r) k0))), (0, .int (nI (6 - r))), (1, .int (nI e9)), (2, .int m9), (3, .long k0), (5, .long x0), (7, .long k), (9, .long x)]) hx hb dX3_pairOf_140 hl (by decide) rfl (fun ls hl => ?_)
              refine lv_aload hx hb dX3_pairOf_142 (lv_at hl 0 rfl) ?_
              refine lv_iload hx hb dX3_pairOf_144 (lv_at hl 1 rfl) ?_
              refine lv_if_eq (tgt := 164) hx hb dX3_pairOf_146 (by decide) (fun _ => ?_) (fun c => absurd (by decide) c)
              refine lv_iconst (v := nI 2) hx hb dX3_pairOf_164 (by decide) ?_
              refine q_newaJ (N := 2) C g67 hP hS (by decide) (by decide) (by decide) (by first | decide | omega) (by first | decide | omega) dX3_pairOf_165 (fun q165 H eq165 hP hS => ?_)
              obtain ⟨hv37, ehv37⟩ : ∃ z : qH, z = qs hv36 q165 (.inl (cy 1, 2, .inr (.inl (fun _ => 0)))) := ⟨_, rfl⟩
              rw [← ehv37] at hP
              have khv37 : ∀ b o, b ≠ q165 → hv36 b = some o → hv37 b = some o := by rw [ehv37]; exact fun b o nb hb => (qs_ne nb).trans hb
              have n_q165_q127 : q127 ≠ q165 := qne_of eq165 fq127
              replace fq127 := khv37 _ _ n_q165_q127 fq127
              have n_q165_q134 : q134 ≠ q165 := qne_of eq165 fq134
              replace fq134 := khv37 _ _ n_q165_q134 fq134
              have fq165 : hv37 q165 = some (.inl (cy 1, 2, .inr (.inl (fun _ => 0)))) := by rw [ehv37]; exact qs_self
              clear ehv37
              have oq165 : h q165 = none := qno fd eq165
              replace fr : ∀ b o, h b = some o → hv37 b = some o := fun b o hb => khv37 b o (qne_of oq165 hb) (fr b o hb )
              replace fd : ∀ b o, h b = some o → ∃ o', hv37 b = some o' := fun b o hb => (fd b o hb).elim (fun o9 h9 => ⟨o9, khv37 b o9 (qne_of oq165 hb) h9⟩)
              refine lv_dup hx hb dX3_pairOf_167 rfl ?_
              refine lv_iconst (v := nI 0) hx hb dX3_pairOf_168 (by decide) ?_
              refine lv_lload hx hb dX3_pairOf_169 (lv_at hl 9 rfl) ?_
              refine q_lastN C hP hS fq165 (by omega) (by omega) dX3_pairOf_171 (fun H locs hP hS => ?_)
              obtain ⟨hv38, ehv38⟩ : ∃ z : qH, z = qs hv37 q165 (.inl (cy 1, 2, .inr (.inl (vp_updL (fun _ => 0) 0 k)))) := ⟨_, rfl⟩
              rw [← ehv38] at hP
              have khv38 : ∀ b o, b ≠ q165 → hv37 b = some o → hv38 b = some o := by rw [ehv38]; exact fun b o nb hb => (qs_ne nb).trans hb
              replace fq127 := khv38 _ _ n_q165_q127 fq127
              replace fq134 := khv38 _ _ n_q165_q134 fq134
              replace fq165 : hv38 q165 = some (.inl (cy 1, 2, .inr (.inl (vp_updL (fun _ => 0) 0 k)))) := by rw [ehv38]; exact qs_self
              clear ehv38
              replace fr : ∀ b o, h b = some o → hv38 b = some o := fun b o hb => khv38 b o (qne_of oq165 hb) (fr b o hb )
              replace fd : ∀ b o, h b = some o → ∃ o', hv38 b = some o' := fun b o hb => (fd b o hb).elim (fun o9 h9 => ⟨o9, khv38 b o9 (qne_of oq165 hb) h9⟩)
              refine lv_dup hx hb dX3_pairOf_172 rfl ?_
              refine lv_iconst (v := nI 1) hx hb dX3_pairOf_173 (by decide) ?_
              refine lv_lload_n hx hb dX3_pairOf_174 rfl (lv_at hl 7 rfl) ?_
              refine q_lastN C hP hS fq165 (by omega) (by omega) dX3_pairOf_175 (fun H locs hP hS => ?_)
              obtain ⟨hv39, ehv39⟩ : ∃ z : qH, z = qs hv38 q165 (.inl (cy 1, 2, .inr (.inl (vp_updL (vp_updL (fun _ => 0) 0 k) 1 k0)))) := ⟨_, rfl⟩
              rw [← ehv39] at hP
              have khv39 : ∀ b o, b ≠ q165 → hv38 b = some o → hv39 b = some o := by rw [ehv39]; exact fun b o nb hb => (qs_ne nb).trans hb
              replace fq127 := khv39 _ _ n_q165_q127 fq127
              replace fq134 := khv39 _ _ n_q165_q134 fq134
              replace fq165 : hv39 q165 = some (.inl (cy 1, 2, .inr (.inl (vp_updL (vp_updL (fun _ => 0) 0 k) 1 k0)))) := by rw [ehv39]; exact qs_self
              clear ehv39
              replace fr : ∀ b o, h b = some o → hv39 b = some o := fun b o hb => khv39 b o (qne_of oq165 hb) (fr b o hb )
              replace fd : ∀ b o, h b = some o → ∃ o', hv39 b = some o' := fun b o hb => (fd b o hb).elim (fun o9 h9 => ⟨o9, khv39 b o9 (qne_of oq165 hb) h9⟩)
              replace hP : qP D N0 (qs hv39 q165 (.inl (cy 1, 2, .inr (.inl (fun j => [k, k0].getD j 0))))) H := hP.re (y := (2, .inr (.inl (fun j => [k, k0].getD j 0)))) fq165 (by rw [vp_cell_l, vp_cell_l]; exact arrV_same (fun j hj => by rcases (show j = 0 ∨ j = 1 by omega) with rfl | rfl <;> rfl)) rfl
              obtain ⟨hv40, ehv40⟩ : ∃ z : qH, z = qs hv39 q165 (.inl (cy 1, 2, .inr (.inl (fun j => [k, k0].getD j 0)))) := ⟨_, rfl⟩
              rw [← ehv40] at hP
              have khv40 : ∀ b o, b ≠ q165 → hv39 b = some o → hv40 b = some o := by rw [ehv40]; exact fun b o nb hb => (qs_ne nb).trans hb
              replace fq127 := khv40 _ _ n_q165_q127 fq127
              replace fq134 := khv40 _ _ n_q165_q134 fq134
              replace fq165 : hv40 q165 = some (.inl (cy 1, 2, .inr (.inl (fun j => [k, k0].getD j 0)))) := by rw [ehv40]; exact qs_self
              clear ehv40
              replace fr : ∀ b o, h b = some o → hv40 b = some o := fun b o hb => khv40 b o (qne_of oq165 hb) (fr b o hb )
              replace fd : ∀ b o, h b = some o → ∃ o', hv40 b = some o' := fun b o hb => (fd b o hb).elim (fun o9 h9 => ⟨o9, khv40 b o9 (qne_of oq165 hb) h9⟩)
              refine q_put C hP hS fq127 rfl inX3 tyX3 tyX3_ok nmX3 5 (by decide) g366 rfl rfl rfl (Nat.le_of_ble_eq_true rfl) dX3_pairOf_176 (fun H locs hP hS => ?_)
              replace hP : qP D N0 (qs hv40 q127 (.inr (3, [.int (nI (6 - r)), .int (nI e9), .int (nI 0), .int (nI 0), .int (nI 0), .ref q165, .ref (cy 99), .ref q134]))) H := hP
              obtain ⟨hv41, ehv41⟩ : ∃ z : qH, z = qs hv40 q127 (.inr (3, [.int (nI (6 - r)), .int (nI e9), .int (nI 0), .int (nI 0), .int (nI 0), .ref q165, .ref (cy 99), .ref q134])) := ⟨_, rfl⟩
              rw [← ehv41] at hP
              have khv41 : ∀ b o, b ≠ q127 → hv40 b = some o → hv41 b = some o := by rw [ehv41]; exact fun b o nb hb => (qs_ne nb).trans hb
              replace fq134 := khv41 _ _ n_q134_q127.symm fq134
              replace fq165 := khv41 _ _ n_q165_q127.symm fq165
              replace fq127 : hv41 q127 = some (.inr (3, [.int (nI (6 - r)), .int (nI e9), .int (nI 0), .int (nI 0), .int (nI 0), .ref q165, .ref (cy 99), .ref q134])) := by rw [ehv41]; exact qs_self
              clear ehv41
              replace fr : ∀ b o, h b = some o → hv41 b = some o := fun b o hb => khv41 b o (qne_of oq127 hb) (fr b o hb )
              replace fd : ∀ b o, h b = some o → ∃ o', hv41 b = some o' := fun b o hb => (fd b o hb).elim (fun o9 h9 => ⟨o9, khv41 b o9 (qne_of oq127 hb) h9⟩)
              refine lv_aload hx hb dX3_pairOf_179 (lv_at hl 0 rfl) ?_
              refine lv_iload hx hb dX3_pairOf_181 (lv_at hl 1 rfl) ?_
              refine lv_if_eq (tgt := 202) hx hb dX3_pairOf_183 (by decide) (fun _ => ?_) (fun c => absurd (by decide) c)
              refine lv_iconst (v := nI 2) hx hb dX3_pairOf_202 (by decide) ?_
              refine q_newaJ (N := 2) C g67 hP hS (by decide) (by decide) (by decide) (by first | decide | omega) (by first | decide | omega) dX3_pairOf_203 (fun q203 H eq203 hP hS => ?_)
              obtain ⟨hv42, ehv42⟩ : ∃ z : qH, z = qs hv41 q203 (.inl (cy 1, 2, .inr (.inl (fun _ => 0)))) := ⟨_, rfl⟩
              rw [← ehv42] at hP
              have khv42 : ∀ b o, b ≠ q203 → hv41 b = some o → hv42 b = some o := by rw [ehv42]; exact fun b o nb hb => (qs_ne nb).trans hb
              have n_q203_q127 : q127 ≠ q203 := qne_of eq203 fq127
              replace fq127 := khv42 _ _ n_q203_q127 fq127
              have n_q203_q134 : q134 ≠ q203 := qne_of eq203 fq134
              replace fq134 := khv42 _ _ n_q203_q134 fq134
              have n_q203_q165 : q165 ≠ q203 := qne_of eq203 fq165
              replace fq165 := khv42 _ _ n_q203_q165 fq165
              have fq203 : hv42 q203 = some (.inl (cy 1, 2, .inr (.inl (fun _ => 0)))) := by rw [ehv42]; exact qs_self
              clear ehv42
              have oq203 : h q203 = none := qno fd eq203
              replace fr : ∀ b o, h b = some o → hv42 b = some o := fun b o hb => khv42 b o (qne_of oq203 hb) (fr b o hb )
              replace fd : ∀ b o, h b = some o → ∃ o', hv42 b = some o' := fun b o hb => (fd b o hb).elim (fun o9 h9 => ⟨o9, khv42 b o9 (qne_of oq203 hb) h9⟩)
              refine lv_dup hx hb dX3_pairOf_205 rfl ?_
              refine lv_iconst (v := nI 0) hx hb dX3_pairOf_206 (by decide) ?_
              refine lv_lload hx hb dX3_pairOf_207 (lv_at hl 10 rfl) ?_
              refine q_lastN C hP hS fq203 (by omega) (by omega) dX3_pairOf_209 (fun H locs hP hS => ?_)
              obtain ⟨hv43, ehv43⟩ : ∃ z : qH, z = qs hv42 q203 (.inl (cy 1, 2, .inr (.inl (vp_updL (fun _ => 0) 0 x)))) := ⟨_, rfl⟩
              rw [← ehv43] at hP
              have khv43 : ∀ b o, b ≠ q203 → hv42 b = some o → hv43 b = some o := by rw [ehv43]; exact fun b o nb hb => (qs_ne nb).trans hb
              replace fq127 := khv43 _ _ n_q203_q127 fq127
              replace fq134 := khv43 _ _ n_q203_q134 fq134
              replace fq165 := khv43 _ _ n_q203_q165 fq165
              replace fq203 : hv43 q203 = some (.inl (cy 1, 2, .inr (.inl (vp_updL (fun _ => 0) 0 x)))) := by rw [ehv43]; exact qs_self
              clear ehv43
              replace fr : ∀ b o, h b = some o → hv43 b = some o := fun b o hb => khv43 b o (qne_of oq203 hb) (fr b o hb )
              replace fd : ∀ b o, h b = some o → ∃ o', hv43 b = some o' := fun b o hb => (fd b o hb).elim (fun o9 h9 => ⟨o9, khv43 b o9 (qne_of oq203 hb) h9⟩)
              refine lv_dup hx hb dX3_pairOf_210 rfl ?_
              refine lv_iconst (v := nI 1) hx hb dX3_pairOf_211 (by decide) ?_
              refine lv_lload hx hb dX3_pairOf_212 (lv_at hl 8 rfl) ?_
              refine q_lastN C hP hS fq203 (by omega) (by omega) dX3_pairOf_214 (fun H locs hP hS => ?_)
              obtain ⟨hv44, ehv44⟩ : ∃ z : qH, z = qs hv43 q203 (.inl (cy 1, 2, .inr (.inl (vp_updL (vp_updL (fun _ => 0) 0 x) 1 x0)))) := ⟨_, rfl⟩
              rw [← ehv44] at hP
              have khv44 : ∀ b o, b ≠ q203 → hv43 b = some o → hv44 b = some o := by rw [ehv44]; exact fun b o nb hb => (qs_ne nb).trans hb
              replace fq127 := khv44 _ _ n_q203_q127 fq127
              replace fq134 := khv44 _ _ n_q203_q134 fq134
              replace fq165 := khv44 _ _ n_q203_q165 fq165
              replace fq203 : hv44 q203 = some (.inl (cy 1, 2, .inr (.inl (vp_updL (vp_updL (fun _ => 0) 0 x) 1 x0)))) := by rw [ehv44]; exact qs_self
              clear ehv44
              replace fr : ∀ b o, h b = some o → hv44 b = some o := fun b o hb => khv44 b o (qne_of oq203 hb) (fr b o hb )
              replace fd : ∀ b o, h b = some o → ∃ o', hv44 b = some o' := fun b o hb => (fd b o hb).elim (fun o9 h9 => ⟨o9, khv44 b o9 (qne_of oq203 hb) h9⟩)
              replace hP : qP D N0 (qs hv44 q203 (.inl (cy 1, 2, .inr (.inl (fun j => [x, x0].getD j 0))))) H := hP.re (y := (2, .inr (.inl (fun j => [x, x0].getD j 0)))) fq203 (by rw [vp_cell_l, vp_cell_l]; exact arrV_same (fun j hj => by rcases (show j = 0 ∨ j = 1 by omega) with rfl | rfl <;> rfl)) rfl
              obtain ⟨hv45, ehv45⟩ : ∃ z : qH, z = qs hv44 q203 (.inl (cy 1, 2, .inr (.inl (fun j => [x, x0].getD j 0)))) := ⟨_, rfl⟩
              rw [← ehv45] at hP
              have khv45 : ∀ b o, b ≠ q203 → hv44 b = some o → hv45 b = some o := by rw [ehv45]; exact fun b o nb hb => (qs_ne nb).trans hb
              replace fq127 := khv45 _ _ n_q203_q127 fq127
              replace fq134 := khv45 _ _ n_q203_q134 fq134
              replace fq165 := khv45 _ _ n_q203_q165 fq165
              replace fq203 : hv45 q203 = some (.inl (cy 1, 2, .inr (.inl (fun j => [x, x0].getD j 0)))) := by rw [ehv45]; exact qs_self
              clear ehv45
              replace fr : ∀ b o, h b = some o → hv45 b = some o := fun b o hb => khv45 b o (qne_of oq203 hb) (fr b o hb )
              replace fd : ∀ b o, h b = some o → ∃ o', hv45 b = some o' := fun b o hb => (fd b o hb).elim (fun o9 h9 => ⟨o9, khv45 b o9 (qne_of oq203 hb) h9⟩)
              refine q_put C hP hS fq127 rfl inX3 tyX3 tyX3_ok nmX3 6 (by decide) g367 rfl rfl rfl (Nat.le_of_ble_eq_true rfl) dX3_pairOf_215 (fun H locs hP hS => ?_)
              replace hP : qP D N0 (qs hv45 q127 (.inr (3, [.int (nI (6 - r)), .int (nI e9), .int (nI 0), .int (nI 0), .int (nI 0), .ref q165, .ref q203, .ref q134]))) H := hP
              obtain ⟨hv46, ehv46⟩ : ∃ z : qH, z = qs hv45 q127 (.inr (3, [.int (nI (6 - r)), .int (nI e9), .int (nI 0), .int (nI 0), .int (nI 0), .ref q165, .ref q203, .ref q134])) := ⟨_, rfl⟩
              rw [← ehv46] at hP
              have khv46 : ∀ b o, b ≠ q127 → hv45 b = some o → hv46 b = some o := by rw [ehv46]; exact fun b o nb hb => (qs_ne nb).trans hb
              replace fq134 := khv46 _ _ n_q134_q127.symm fq134
              replace fq165 := khv46 _ _ n_q165_q127.symm fq165
              replace fq203 := khv46 _ _ n_q203_q127.symm fq203
              replace fq127 : hv46 q127 = some (.inr (3, [.int (nI (6 - r)), .int (nI e9), .int (nI 0), .int (nI 0), .int (nI 0), .ref q165, .ref q203, .ref q134])) := by rw [ehv46]; exact qs_self
              clear ehv46
              replace fr : ∀ b o, h b = some o → hv46 b = some o := fun b o hb => khv46 b o (qne_of oq127 hb) (fr b o hb )
              replace fd : ∀ b o, h b = some o → ∃ o', hv46 b = some o' := fun b o hb => (fd b o hb).elim (fun o9 h9 => ⟨o9, khv46 b o9 (qne_of oq127 hb) h9⟩)
              refine lv_aload hx hb dX3_pairOf_218 (lv_at hl 0 rfl) ?_
              refine lv_iload hx hb dX3_pairOf_220 (lv_at hl 3 rfl) ?_
              refine lv_iload hx hb dX3_pairOf_222 (lv_at hl 2 rfl) ?_
              refine lv_ior hx hb dX3_pairOf_224 ?_
              refine q_put C hP hS fq127 rfl inX3 tyX3 tyX3_ok nmX3 2 (by decide) g363 rfl rfl rfl (Nat.le_of_ble_eq_true rfl) dX3_pairOf_225 (fun H locs hP hS => ?_)
              replace hP : qP D N0 (qs hv46 q127 (.inr (3, [.int (nI (6 - r)), .int (nI e9), .int ((nI (2 ^ thN m9 (6 - r) k0)) ||| (nI (2 ^ thN m9 (6 - r) k))), .int (nI 0), .int (nI 0), .ref q165, .ref q203, .ref q134]))) H := hP
              obtain ⟨hv47, ehv47⟩ : ∃ z : qH, z = qs hv46 q127 (.inr (3, [.int (nI (6 - r)), .int (nI e9), .int ((nI (2 ^ thN m9 (6 - r) k0)) ||| (nI (2 ^ thN m9 (6 - r) k))), .int (nI 0), .int (nI 0), .ref q165, .ref q203, .ref q134])) := ⟨_, rfl⟩
              rw [← ehv47] at hP
              have khv47 : ∀ b o, b ≠ q127 → hv46 b = some o → hv47 b = some o := by rw [ehv47]; exact fun b o nb hb => (qs_ne nb).trans hb
              replace fq134 := khv47 _ _ n_q134_q127.symm fq134
              replace fq165 := khv47 _ _ n_q165_q127.symm fq165
              replace fq203 := khv47 _ _ n_q203_q127.symm fq203
              replace fq127 : hv47 q127 = some (.inr (3, [.int (nI (6 - r)), .int (nI e9), .int ((nI (2 ^ thN m9 (6 - r) k0)) ||| (nI (2 ^ thN m9 (6 - r) k))), .int (nI 0), .int (nI 0), .ref q165, .ref q203, .ref q134])) := by rw [ehv47]; exact qs_self
              clear ehv47
              replace fr : ∀ b o, h b = some o → hv47 b = some o := fun b o hb => khv47 b o (qne_of oq127 hb) (fr b o hb )
              replace fd : ∀ b o, h b = some o → ∃ o', hv47 b = some o' := fun b o hb => (fd b o hb).elim (fun o9 h9 => ⟨o9, khv47 b o9 (qne_of oq127 hb) h9⟩)
              refine lv_aload hx hb dX3_pairOf_228 (lv_at hl 0 rfl) ?_
              refine lv_iconst (v := nI 2) hx hb dX3_pairOf_230 (by decide) ?_
              refine q_put C hP hS fq127 rfl inX3 tyX3 tyX3_ok nmX3 4 (by decide) g365 rfl rfl rfl (Nat.le_of_ble_eq_true rfl) dX3_pairOf_231 (fun H locs hP hS => ?_)
              replace hP : qP D N0 (qs hv47 q127 (.inr (3, [.int (nI (6 - r)), .int (nI e9), .int ((nI (2 ^ thN m9 (6 - r) k0)) ||| (nI (2 ^ thN m9 (6 - r) k))), .int (nI 0), .int (nI 2), .ref q165, .ref q203, .ref q134]))) H := hP
              obtain ⟨hv48, ehv48⟩ : ∃ z : qH, z = qs hv47 q127 (.inr (3, [.int (nI (6 - r)), .int (nI e9), .int ((nI (2 ^ thN m9 (6 - r) k0)) ||| (nI (2 ^ thN m9 (6 - r) k))), .int (nI 0), .int (nI 2), .ref q165, .ref q203, .ref q134])) := ⟨_, rfl⟩
              rw [← ehv48] at hP
              have khv48 : ∀ b o, b ≠ q127 → hv47 b = some o → hv48 b = some o := by rw [ehv48]; exact fun b o nb hb => (qs_ne nb).trans hb
              replace fq134 := khv48 _ _ n_q134_q127.symm fq134
              replace fq165 := khv48 _ _ n_q165_q127.symm fq165
              replace fq203 := khv48 _ _ n_q203_q127.symm fq203
              replace fq127 : hv48 q127 = some (.inr (3, [.int (nI (6 - r)), .int (nI e9), .int ((nI (2 ^ thN m9 (6 - r) k0)) ||| (nI (2 ^ thN m9 (6 - r) k))), .int (nI 0), .int (nI 2), .ref q165, .ref q203, .ref q134])) := by rw [ehv48]; exact qs_self
              clear ehv48
              replace fr : ∀ b o, h b = some o → hv48 b = some o := fun b o hb => khv48 b o (qne_of oq127 hb) (fr b o hb )
              replace fd : ∀ b o, h b = some o → ∃ o', hv48 b = some o' := fun b o hb => (fd b o hb).elim (fun o9 h9 => ⟨o9, khv48 b o9 (qne_of oq127 hb) h9⟩)
              refine lv_aload hx hb dX3_pairOf_234 (lv_at hl 0 rfl) ?_
              obtain ⟨pd1, em, pd3, enb⟩ := pr_diff (x0 := x0) (x := x) hdf
              have ek : trK m9 (r + 1) [(k0, x0), (k, x)] = [(k, x), (k0, x0)] := pd1.trans (if_neg (by omega))
              have ekb := pd3.symm
              have hap : ∀ b, Im b → b ≠ q127 ∧ b ≠ q134 ∧ b ≠ q165 ∧ b ≠ q203 := fun b z => by obtain ⟨o, ho⟩ := hE.2.1 b (Or.inl z); exact ⟨qne_of oq127 ho, qne_of oq134 ho, qne_of oq165 ho, qne_of oq203 ho⟩
              have h99 := fr _ _ hE.2.2.1
              have hnd : thNd cy hv48 (fun b => Im b ∨ b = q165 ∨ b = q134) e9 Ok m9 (r + 1) q127 [(k0, x0), (k, x)] 2 (fun b => b = q127 ∨ b = q203) e9 q165 q203 q134 (fun _ => 0) := ⟨by unfold thNo; rw [ekb, enb, show 7 - (r + 1) = 6 - r by omega]; exact fq127, by rw [ek]; exact fq165, by rw [ek]; exact fq203, by rw [em]; exact fq134, Or.inr (Or.inl rfl), he9, Or.inl ⟨rfl, Or.inl rfl, fun _ => Or.inr rfl, fun z => (by rw [ek] at z; cases z), fun z => absurd em z, fun _ => Or.inr (Or.inr rfl)⟩⟩
              have htr : qTr cy hv48 (fun b => Im b ∨ b = q165 ∨ b = q134) e9 Ok m9 (r + 1) q127 [(k0, x0), (k, x)] (fun b => b = q127 ∨ b = q203) := qTr.mk (Xs := fun _ _ => False) hnd ⟨fun j _ b z => z.elim, fun i j _ _ _ b z => z.elim⟩ (fun j v z => by rw [em] at z; cases z)
              have hed : qEd cy hv48 (fun b => Im b ∨ b = q165 ∨ b = q134) (fun b => b = q127 ∨ b = q203) := by
                refine ⟨fun b z hi => ?_, fun b z => ?_, h99, Or.inl hE.2.2.2⟩
                · rcases hi with hi | hi | hi
                  · rcases z with z | z
                    · exact (hap b hi).1 z
                    · exact (hap b hi).2.2.2 z
                  · rcases z with z | z
                    · exact n_q165_q127.symm (hi.symm.trans z)
                    · exact n_q203_q165 (hi.symm.trans z)
                  · rcases z with z | z
                    · exact n_q134_q127.symm (hi.symm.trans z)
                    · exact n_q203_q134 (hi.symm.trans z)
                · rcases z with (z | z | z) | z | z
                  · obtain ⟨o, ho⟩ := hE.2.1 b (Or.inl z); exact ⟨o, fr b o ho⟩
                  · exact ⟨_, by rw [z]; exact fq165⟩
                  · exact ⟨_, by rw [z]; exact fq134⟩
                  · exact ⟨_, by rw [z]; exact fq127⟩
                  · exact ⟨_, by rw [z]; exact fq203⟩
              have hch : qCh h Im (fun _ => False) hv48 (fun b => Im b ∨ b = q165 ∨ b = q134) (fun b => b = q127 ∨ b = q203) := by
                refine ⟨fun b o hb _ => fr b o hb, fun _ z => Or.inl z, fun b z => z.imp_right (fun z => ?_), fun b z => Or.inr ?_, fd⟩
                · rcases z with rfl | rfl
                  · exact oq165
                  · exact oq134
                · rcases z with rfl | rfl
                  · exact oq127
                  · exact oq203
              exact q_aret (v := some q127) C (Or.inl ⟨_, rfl⟩) hP hS ⟨q127, (fun b => b = q127 ∨ b = q203), (fun b => Im b ∨ b = q165 ∨ b = q134), rfl, htr, hed, hch⟩ (by omega) dX3_pairOf_236
            · rw [if_neg cf]
              refine lv_if_ne (tgt := 109) hx hb dX3_pairOf_102 (by decide) (fun c => absurd (by decide) c) (fun _ => ?_)
              refine lv_iconst (v := nI 1) hx hb dX3_pairOf_105 (by decide) ?_
              refine lv_goto (tgt := 125) hx hb dX3_pairOf_106 (by decide) ?_
              refine lv_istore (lv' := [(13, .int (nI 1)), (12, .int (nI (2 ^ thN m9 (6 - r) k))), (11, .int (nI (2 ^ thN m9 (6 - r) k0))), (0, .int (nI (6 - r))), (1, .int (nI e9)), (2, .int m9), (3, .long k0), (5, .long x0), (7, .long k), (9, .long x)]) hx hb dX3_pairOf_125 hl (by decide) rfl (fun ls hl => ?_)
              refine q_new (ci := 3) (fs := [.int 0, .int 0, .int 0, .int 0, .int 0, .null, .null, .null]) C hP hS rfl inX3 tyX3 tyX3_ok g353 g317 g12 (fun j hj => by rcases (show j = 0 ∨ j = 1 ∨ j = 2 ∨ j = 3 ∨ j = 4 ∨ j = 5 ∨ j = 6 ∨ j = 7 by omega) with rfl | rfl | rfl | rfl | rfl | rfl | rfl | rfl <;> rfl) (by first | decide | omega) (by first | decide | omega) dX3_pairOf_127 (fun q127 H eq127 hP hS => ?_)
              obtain ⟨hv49, ehv49⟩ : ∃ z : qH, z = qs h q127 (.inr (3, [.int 0, .int 0, .int 0, .int 0, .int 0, .null, .null, .null])) := ⟨_, rfl⟩
              rw [← ehv49] at hP
              have khv49 : ∀ b o, b ≠ q127 → h b = some o → hv49 b = some o := by rw [ehv49]; exact fun b o nb hb => (qs_ne nb).trans hb
              have fq127 : hv49 q127 = some (.inr (3, [.int 0, .int 0, .int 0, .int 0, .int 0, .null, .null, .null])) := by rw [ehv49]; exact qs_self
              clear ehv49
              have oq127 : h q127 = none := qno fd eq127
              replace fr : ∀ b o, h b = some o → hv49 b = some o := fun b o hb => khv49 b o (qne_of oq127 hb) (fr b o hb )
              replace fd : ∀ b o, h b = some o → ∃ o', hv49 b = some o' := fun b o hb => (fd b o hb).elim (fun o9 h9 => ⟨o9, khv49 b o9 (qne_of oq127 hb) h9⟩)
              refine lv_dup hx hb dX3_pairOf_130 rfl ?_
              refine lv_iload_n hx hb dX3_pairOf_131 rfl (lv_at hl 3 rfl) ?_
              refine lv_iload_n hx hb dX3_pairOf_132 rfl (lv_at hl 4 rfl) ?_
              refine lv_iconst (v := nI 0) hx hb dX3_pairOf_133 (by decide) ?_
              refine q_newq (t0 := 4) (N := 0) C g353 (by decide) rfl hP hS (by decide) (by decide) (by decide) (by first | decide | omega) (by first | decide | omega) dX3_pairOf_134 (fun q134 H eq134 hP hS => ?_)
              obtain ⟨hv50, ehv50⟩ : ∃ z : qH, z = qs hv49 q134 (.inl (cy 4, 0, .inr (.inr (.inr (.inr (fun _ => none)))))) := ⟨_, rfl⟩
              rw [← ehv50] at hP
              have khv50 : ∀ b o, b ≠ q134 → hv49 b = some o → hv50 b = some o := by rw [ehv50]; exact fun b o nb hb => (qs_ne nb).trans hb
              have n_q134_q127 : q127 ≠ q134 := qne_of eq134 fq127
              replace fq127 := khv50 _ _ n_q134_q127 fq127
              have fq134 : hv50 q134 = some (.inl (cy 4, 0, .inr (.inr (.inr (.inr (fun _ => none)))))) := by rw [ehv50]; exact qs_self
              clear ehv50
              have oq134 : h q134 = none := qno fd eq134
              replace fr : ∀ b o, h b = some o → hv50 b = some o := fun b o hb => khv50 b o (qne_of oq134 hb) (fr b o hb )
              replace fd : ∀ b o, h b = some o → ∃ o', hv50 b = some o' := fun b o hb => (fd b o hb).elim (fun o9 h9 => ⟨o9, khv50 b o9 (qne_of oq134 hb) h9⟩)
              replace hP : qP D N0 (qs hv50 q134 (.inl (cy 4, 0, .inr (.inr (.inr (.inr (fun j => some ((fun _ => 0) j)))))))) H := hP.re (y := (0, .inr (.inr (.inr (.inr (fun j => some ((fun _ => 0) j))))))) fq134 (by rw [vp_cell_q, vp_cell_q]; exact arrV_same (fun j hj => by omega)) rfl
              obtain ⟨hv51, ehv51⟩ : ∃ z : qH, z = qs hv50 q134 (.inl (cy 4, 0, .inr (.inr (.inr (.inr (fun j => some ((fun _ => 0) j))))))) := ⟨_, rfl⟩
              rw [← ehv51] at hP
              have khv51 : ∀ b o, b ≠ q134 → hv50 b = some o → hv51 b = some o := by rw [ehv51]; exact fun b o nb hb => (qs_ne nb).trans hb
              replace fq127 := khv51 _ _ n_q134_q127 fq127
              replace fq134 : hv51 q134 = some (.inl (cy 4, 0, .inr (.inr (.inr (.inr (fun j => some ((fun _ => 0) j))))))) := by rw [ehv51]; exact qs_self
              clear ehv51
              replace fr : ∀ b o, h b = some o → hv51 b = some o := fun b o hb => khv51 b o (qne_of oq134 hb) (fr b o hb )
              replace fd : ∀ b o, h b = some o → ∃ o', hv51 b = some o' := fun b o hb => (fd b o hb).elim (fun o9 h9 => ⟨o9, khv51 b o9 (qne_of oq134 hb) h9⟩)
              refine q_callI (rest := [.ref q127]) C (c_X3_init l D cy N0 hv51 q127 (6 - r) e9 q134 fq127) kX3_init g355 g356 rfl hP hS (by first | decide | omega) hl.1 rfl (by simp [q_catrf, q_cati, q_catl, q_cata, q_catn]) (by first | decide | omega) dX3_pairOf_137 (fun v hh13 H locs hq hP hS => ?_)
              obtain ⟨rfl, rfl⟩ := hq
              replace hP : qP D N0 (qs hv51 q127 (.inr (3, [.int (nI (6 - r)), .int (nI e9), .int (nI 0), .int (nI 0), .int (nI 0), .ref (cy 99), .ref (cy 99), .ref q134]))) H := hP
              obtain ⟨hv52, ehv52⟩ : ∃ z : qH, z = qs hv51 q127 (.inr (3, [.int (nI (6 - r)), .int (nI e9), .int (nI 0), .int (nI 0), .int (nI 0), .ref (cy 99), .ref (cy 99), .ref q134])) := ⟨_, rfl⟩
              rw [← ehv52] at hP
              have khv52 : ∀ b o, b ≠ q127 → hv51 b = some o → hv52 b = some o := by rw [ehv52]; exact fun b o nb hb => (qs_ne nb).trans hb
              replace fq134 := khv52 _ _ n_q134_q127.symm fq134
              replace fq127 : hv52 q127 = some (.inr (3, [.int (nI (6 - r)), .int (nI e9), .int (nI 0), .int (nI 0), .int (nI 0), .ref (cy 99), .ref (cy 99), .ref q134])) := by rw [ehv52]; exact qs_self
              clear ehv52
              replace fr : ∀ b o, h b = some o → hv52 b = some o := fun b o hb => khv52 b o (qne_of oq127 hb) (fr b o hb )
              replace fd : ∀ b o, h b = some o → ∃ o', hv52 b = some o' := fun b o hb => (fd b o hb).elim (fun o9 h9 => ⟨o9, khv52 b o9 (qne_of oq127 hb) h9⟩)
              refine lv_astore (lv' := [(14, .ref q127), (13, .int (nI 1)), (12, .int (nI (2 ^ thN m9 (6 - r) k))), (11, .int (nI (2 ^ thN m9 (6 - r) k0))), (0, .int (nI (6 - r))), (1, .int (nI e9)), (2, .int m9), (3, .long k0), (5, .long x0), (7, .long k), (9, .long x)]) hx hb dX3_pairOf_140 hl (by decide) rfl (fun ls hl => ?_)
              refine lv_aload hx hb dX3_pairOf_142 (lv_at hl 0 rfl) ?_
              refine lv_iload hx hb dX3_pairOf_144 (lv_at hl 1 rfl) ?_
              refine lv_if_eq (tgt := 164) hx hb dX3_pairOf_146 (by decide) (fun c => absurd c (by decide)) (fun _ => ?_)
              refine lv_iconst (v := nI 2) hx hb dX3_pairOf_149 (by decide) ?_
              refine q_newaJ (N := 2) C g67 hP hS (by decide) (by decide) (by decide) (by first | decide | omega) (by first | decide | omega) dX3_pairOf_150 (fun q150 H eq150 hP hS => ?_)
              obtain ⟨hv53, ehv53⟩ : ∃ z : qH, z = qs hv52 q150 (.inl (cy 1, 2, .inr (.inl (fun _ => 0)))) := ⟨_, rfl⟩
              rw [← ehv53] at hP
              have khv53 : ∀ b o, b ≠ q150 → hv52 b = some o → hv53 b = some o := by rw [ehv53]; exact fun b o nb hb => (qs_ne nb).trans hb
              have n_q150_q127 : q127 ≠ q150 := qne_of eq150 fq127
              replace fq127 := khv53 _ _ n_q150_q127 fq127
              have n_q150_q134 : q134 ≠ q150 := qne_of eq150 fq134
              replace fq134 := khv53 _ _ n_q150_q134 fq134
              have fq150 : hv53 q150 = some (.inl (cy 1, 2, .inr (.inl (fun _ => 0)))) := by rw [ehv53]; exact qs_self
              clear ehv53
              have oq150 : h q150 = none := qno fd eq150
              replace fr : ∀ b o, h b = some o → hv53 b = some o := fun b o hb => khv53 b o (qne_of oq150 hb) (fr b o hb )
              replace fd : ∀ b o, h b = some o → ∃ o', hv53 b = some o' := fun b o hb => (fd b o hb).elim (fun o9 h9 => ⟨o9, khv53 b o9 (qne_of oq150 hb) h9⟩)
              refine lv_dup hx hb dX3_pairOf_152 rfl ?_
              refine lv_iconst (v := nI 0) hx hb dX3_pairOf_153 (by decide) ?_
              refine lv_lload_n hx hb dX3_pairOf_154 rfl (lv_at hl 7 rfl) ?_
              refine q_lastN C hP hS fq150 (by omega) (by omega) dX3_pairOf_155 (fun H locs hP hS => ?_)
              obtain ⟨hv54, ehv54⟩ : ∃ z : qH, z = qs hv53 q150 (.inl (cy 1, 2, .inr (.inl (vp_updL (fun _ => 0) 0 k0)))) := ⟨_, rfl⟩
              rw [← ehv54] at hP
              have khv54 : ∀ b o, b ≠ q150 → hv53 b = some o → hv54 b = some o := by rw [ehv54]; exact fun b o nb hb => (qs_ne nb).trans hb
              replace fq127 := khv54 _ _ n_q150_q127 fq127
              replace fq134 := khv54 _ _ n_q150_q134 fq134
              replace fq150 : hv54 q150 = some (.inl (cy 1, 2, .inr (.inl (vp_updL (fun _ => 0) 0 k0)))) := by rw [ehv54]; exact qs_self
              clear ehv54
              replace fr : ∀ b o, h b = some o → hv54 b = some o := fun b o hb => khv54 b o (qne_of oq150 hb) (fr b o hb )
              replace fd : ∀ b o, h b = some o → ∃ o', hv54 b = some o' := fun b o hb => (fd b o hb).elim (fun o9 h9 => ⟨o9, khv54 b o9 (qne_of oq150 hb) h9⟩)
              refine lv_dup hx hb dX3_pairOf_156 rfl ?_
              refine lv_iconst (v := nI 1) hx hb dX3_pairOf_157 (by decide) ?_
              refine lv_lload hx hb dX3_pairOf_158 (lv_at hl 9 rfl) ?_
              refine q_lastN C hP hS fq150 (by omega) (by omega) dX3_pairOf_160 (fun H locs hP hS => ?_)
              obtain ⟨hv55, ehv55⟩ : ∃ z : qH, z = qs hv54 q150 (.inl (cy 1, 2, .inr (.inl (vp_updL (vp_updL (fun _ => 0) 0 k0) 1 k)))) := ⟨_, rfl⟩
              rw [← ehv55] at hP
              have khv55 : ∀ b o, b ≠ q150 → hv54 b = some o → hv55 b = some o := by rw [ehv55]; exact fun b o nb hb => (qs_ne nb).trans hb
              replace fq127 := khv55 _ _ n_q150_q127 fq127
              replace fq134 := khv55 _ _ n_q150_q134 fq134
              replace fq150 : hv55 q150 = some (.inl (cy 1, 2, .inr (.inl (vp_updL (vp_updL (fun _ => 0) 0 k0) 1 k)))) := by rw [ehv55]; exact qs_self
              clear ehv55
              replace fr : ∀ b o, h b = some o → hv55 b = some o := fun b o hb => khv55 b o (qne_of oq150 hb) (fr b o hb )
              replace fd : ∀ b o, h b = some o → ∃ o', hv55 b = some o' := fun b o hb => (fd b o hb).elim (fun o9 h9 => ⟨o9, khv55 b o9 (qne_of oq150 hb) h9⟩)
              replace hP : qP D N0 (qs hv55 q150 (.inl (cy 1, 2, .inr (.inl (fun j => [k0, k].getD j 0))))) H := hP.re (y := (2, .inr (.inl (fun j => [k0, k].getD j 0)))) fq150 (by rw [vp_cell_l, vp_cell_l]; exact arrV_same (fun j hj => by rcases (show j = 0 ∨ j = 1 by omega) with rfl | rfl <;> rfl)) rfl
              obtain ⟨hv56, ehv56⟩ : ∃ z : qH, z = qs hv55 q150 (.inl (cy 1, 2, .inr (.inl (fun j => [k0, k].getD j 0)))) := ⟨_, rfl⟩
              rw [← ehv56] at hP
              have khv56 : ∀ b o, b ≠ q150 → hv55 b = some o → hv56 b = some o := by rw [ehv56]; exact fun b o nb hb => (qs_ne nb).trans hb
              replace fq127 := khv56 _ _ n_q150_q127 fq127
              replace fq134 := khv56 _ _ n_q150_q134 fq134
              replace fq150 : hv56 q150 = some (.inl (cy 1, 2, .inr (.inl (fun j => [k0, k].getD j 0)))) := by rw [ehv56]; exact qs_self
              clear ehv56
              replace fr : ∀ b o, h b = some o → hv56 b = some o := fun b o hb => khv56 b o (qne_of oq150 hb) (fr b o hb )
              replace fd : ∀ b o, h b = some o → ∃ o', hv56 b = some o' := fun b o hb => (fd b o hb).elim (fun o9 h9 => ⟨o9, khv56 b o9 (qne_of oq150 hb) h9⟩)
              refine lv_goto (tgt := 176) hx hb dX3_pairOf_161 (by decide) ?_
              refine q_put C hP hS fq127 rfl inX3 tyX3 tyX3_ok nmX3 5 (by decide) g366 rfl rfl rfl (Nat.le_of_ble_eq_true rfl) dX3_pairOf_176 (fun H locs hP hS => ?_)
              replace hP : qP D N0 (qs hv56 q127 (.inr (3, [.int (nI (6 - r)), .int (nI e9), .int (nI 0), .int (nI 0), .int (nI 0), .ref q150, .ref (cy 99), .ref q134]))) H := hP
              obtain ⟨hv57, ehv57⟩ : ∃ z : qH, z = qs hv56 q127 (.inr (3, [.int (nI (6 - r)), .int (nI e9), .int (nI 0), .int (nI 0), .int (nI 0), .ref q150, .ref (cy 99), .ref q134])) := ⟨_, rfl⟩
              rw [← ehv57] at hP
              have khv57 : ∀ b o, b ≠ q127 → hv56 b = some o → hv57 b = some o := by rw [ehv57]; exact fun b o nb hb => (qs_ne nb).trans hb
              replace fq134 := khv57 _ _ n_q134_q127.symm fq134
              replace fq150 := khv57 _ _ n_q150_q127.symm fq150
              replace fq127 : hv57 q127 = some (.inr (3, [.int (nI (6 - r)), .int (nI e9), .int (nI 0), .int (nI 0), .int (nI 0), .ref q150, .ref (cy 99), .ref q134])) := by rw [ehv57]; exact qs_self
              clear ehv57
              replace fr : ∀ b o, h b = some o → hv57 b = some o := fun b o hb => khv57 b o (qne_of oq127 hb) (fr b o hb )
              replace fd : ∀ b o, h b = some o → ∃ o', hv57 b = some o' := fun b o hb => (fd b o hb).elim (fun o9 h9 => ⟨o9, khv57 b o9 (qne_of oq127 hb) h9⟩)
              refine lv_aload hx hb dX3_pairOf_179 (lv_at hl 0 rfl) ?_
              refine lv_iload hx hb dX3_pairOf_181 (lv_at hl 1 rfl) ?_
              refine lv_if_eq (tgt := 202) hx hb dX3_pairOf_183 (by decide) (fun c => absurd c (by decide)) (fun _ => ?_)
              refine lv_iconst (v := nI 2) hx hb dX3_pairOf_186 (by decide) ?_
              refine q_newaJ (N := 2) C g67 hP hS (by decide) (by decide) (by decide) (by first | decide | omega) (by first | decide | omega) dX3_pairOf_187 (fun q187 H eq187 hP hS => ?_)
              obtain ⟨hv58, ehv58⟩ : ∃ z : qH, z = qs hv57 q187 (.inl (cy 1, 2, .inr (.inl (fun _ => 0)))) := ⟨_, rfl⟩
              rw [← ehv58] at hP
              have khv58 : ∀ b o, b ≠ q187 → hv57 b = some o → hv58 b = some o := by rw [ehv58]; exact fun b o nb hb => (qs_ne nb).trans hb
              have n_q187_q127 : q127 ≠ q187 := qne_of eq187 fq127
              replace fq127 := khv58 _ _ n_q187_q127 fq127
              have n_q187_q134 : q134 ≠ q187 := qne_of eq187 fq134
              replace fq134 := khv58 _ _ n_q187_q134 fq134
              have n_q187_q150 : q150 ≠ q187 := qne_of eq187 fq150
              replace fq150 := khv58 _ _ n_q187_q150 fq150
              have fq187 : hv58 q187 = some (.inl (cy 1, 2, .inr (.inl (fun _ => 0)))) := by rw [ehv58]; exact qs_self
              clear ehv58
              have oq187 : h q187 = none := qno fd eq187
              replace fr : ∀ b o, h b = some o → hv58 b = some o := fun b o hb => khv58 b o (qne_of oq187 hb) (fr b o hb )
              replace fd : ∀ b o, h b = some o → ∃ o', hv58 b = some o' := fun b o hb => (fd b o hb).elim (fun o9 h9 => ⟨o9, khv58 b o9 (qne_of oq187 hb) h9⟩)
              refine lv_dup hx hb dX3_pairOf_189 rfl ?_
              refine lv_iconst (v := nI 0) hx hb dX3_pairOf_190 (by decide) ?_
              refine lv_lload hx hb dX3_pairOf_191 (lv_at hl 8 rfl) ?_
              refine q_lastN C hP hS fq187 (by omega) (by omega) dX3_pairOf_193 (fun H locs hP hS => ?_)
              obtain ⟨hv59, ehv59⟩ : ∃ z : qH, z = qs hv58 q187 (.inl (cy 1, 2, .inr (.inl (vp_updL (fun _ => 0) 0 x0)))) := ⟨_, rfl⟩
              rw [← ehv59] at hP
              have khv59 : ∀ b o, b ≠ q187 → hv58 b = some o → hv59 b = some o := by rw [ehv59]; exact fun b o nb hb => (qs_ne nb).trans hb
              replace fq127 := khv59 _ _ n_q187_q127 fq127
              replace fq134 := khv59 _ _ n_q187_q134 fq134
              replace fq150 := khv59 _ _ n_q187_q150 fq150
              replace fq187 : hv59 q187 = some (.inl (cy 1, 2, .inr (.inl (vp_updL (fun _ => 0) 0 x0)))) := by rw [ehv59]; exact qs_self
              clear ehv59
              replace fr : ∀ b o, h b = some o → hv59 b = some o := fun b o hb => khv59 b o (qne_of oq187 hb) (fr b o hb )
              replace fd : ∀ b o, h b = some o → ∃ o', hv59 b = some o' := fun b o hb => (fd b o hb).elim (fun o9 h9 => ⟨o9, khv59 b o9 (qne_of oq187 hb) h9⟩)
              refine lv_dup hx hb dX3_pairOf_194 rfl ?_
              refine lv_iconst (v := nI 1) hx hb dX3_pairOf_195 (by decide) ?_
              refine lv_lload hx hb dX3_pairOf_196 (lv_at hl 10 rfl) ?_
              refine q_lastN C hP hS fq187 (by omega) (by omega) dX3_pairOf_198 (fun H locs hP hS => ?_)
              obtain ⟨hv60, ehv60⟩ : ∃ z : qH, z = qs hv59 q187 (.inl (cy 1, 2, .inr (.inl (vp_updL (vp_updL (fun _ => 0) 0 x0) 1 x)))) := ⟨_, rfl⟩
              rw [← ehv60] at hP
              have khv60 : ∀ b o, b ≠ q187 → hv59 b = some o → hv60 b = some o := by rw [ehv60]; exact fun b o nb hb => (qs_ne nb).trans hb
              replace fq127 := khv60 _ _ n_q187_q127 fq127
              replace fq134 := khv60 _ _ n_q187_q134 fq134
              replace fq150 := khv60 _ _ n_q187_q150 fq150
              replace fq187 : hv60 q187 = some (.inl (cy 1, 2, .inr (.inl (vp_updL (vp_updL (fun _ => 0) 0 x0) 1 x)))) := by rw [ehv60]; exact qs_self
              clear ehv60
              replace fr : ∀ b o, h b = some o → hv60 b = some o := fun b o hb => khv60 b o (qne_of oq187 hb) (fr b o hb )
              replace fd : ∀ b o, h b = some o → ∃ o', hv60 b = some o' := fun b o hb => (fd b o hb).elim (fun o9 h9 => ⟨o9, khv60 b o9 (qne_of oq187 hb) h9⟩)
              replace hP : qP D N0 (qs hv60 q187 (.inl (cy 1, 2, .inr (.inl (fun j => [x0, x].getD j 0))))) H := hP.re (y := (2, .inr (.inl (fun j => [x0, x].getD j 0)))) fq187 (by rw [vp_cell_l, vp_cell_l]; exact arrV_same (fun j hj => by rcases (show j = 0 ∨ j = 1 by omega) with rfl | rfl <;> rfl)) rfl
              obtain ⟨hv61, ehv61⟩ : ∃ z : qH, z = qs hv60 q187 (.inl (cy 1, 2, .inr (.inl (fun j => [x0, x].getD j 0)))) := ⟨_, rfl⟩
              rw [← ehv61] at hP
              have khv61 : ∀ b o, b ≠ q187 → hv60 b = some o → hv61 b = some o := by rw [ehv61]; exact fun b o nb hb => (qs_ne nb).trans hb
              replace fq127 := khv61 _ _ n_q187_q127 fq127
              replace fq134 := khv61 _ _ n_q187_q134 fq134
              replace fq150 := khv61 _ _ n_q187_q150 fq150
              replace fq187 : hv61 q187 = some (.inl (cy 1, 2, .inr (.inl (fun j => [x0, x].getD j 0)))) := by rw [ehv61]; exact qs_self
              clear ehv61
              replace fr : ∀ b o, h b = some o → hv61 b = some o := fun b o hb => khv61 b o (qne_of oq187 hb) (fr b o hb )
              replace fd : ∀ b o, h b = some o → ∃ o', hv61 b = some o' := fun b o hb => (fd b o hb).elim (fun o9 h9 => ⟨o9, khv61 b o9 (qne_of oq187 hb) h9⟩)
              refine lv_goto (tgt := 215) hx hb dX3_pairOf_199 (by decide) ?_
              refine q_put C hP hS fq127 rfl inX3 tyX3 tyX3_ok nmX3 6 (by decide) g367 rfl rfl rfl (Nat.le_of_ble_eq_true rfl) dX3_pairOf_215 (fun H locs hP hS => ?_)
              replace hP : qP D N0 (qs hv61 q127 (.inr (3, [.int (nI (6 - r)), .int (nI e9), .int (nI 0), .int (nI 0), .int (nI 0), .ref q150, .ref q187, .ref q134]))) H := hP
              obtain ⟨hv62, ehv62⟩ : ∃ z : qH, z = qs hv61 q127 (.inr (3, [.int (nI (6 - r)), .int (nI e9), .int (nI 0), .int (nI 0), .int (nI 0), .ref q150, .ref q187, .ref q134])) := ⟨_, rfl⟩
              rw [← ehv62] at hP
              have khv62 : ∀ b o, b ≠ q127 → hv61 b = some o → hv62 b = some o := by rw [ehv62]; exact fun b o nb hb => (qs_ne nb).trans hb
              replace fq134 := khv62 _ _ n_q134_q127.symm fq134
              replace fq150 := khv62 _ _ n_q150_q127.symm fq150
              replace fq187 := khv62 _ _ n_q187_q127.symm fq187
              replace fq127 : hv62 q127 = some (.inr (3, [.int (nI (6 - r)), .int (nI e9), .int (nI 0), .int (nI 0), .int (nI 0), .ref q150, .ref q187, .ref q134])) := by rw [ehv62]; exact qs_self
              clear ehv62
              replace fr : ∀ b o, h b = some o → hv62 b = some o := fun b o hb => khv62 b o (qne_of oq127 hb) (fr b o hb )
              replace fd : ∀ b o, h b = some o → ∃ o', hv62 b = some o' := fun b o hb => (fd b o hb).elim (fun o9 h9 => ⟨o9, khv62 b o9 (qne_of oq127 hb) h9⟩)
              refine lv_aload hx hb dX3_pairOf_218 (lv_at hl 0 rfl) ?_
              refine lv_iload hx hb dX3_pairOf_220 (lv_at hl 3 rfl) ?_
              refine lv_iload hx hb dX3_pairOf_222 (lv_at hl 2 rfl) ?_
              refine lv_ior hx hb dX3_pairOf_224 ?_
              refine q_put C hP hS fq127 rfl inX3 tyX3 tyX3_ok nmX3 2 (by decide) g363 rfl rfl rfl (Nat.le_of_ble_eq_true rfl) dX3_pairOf_225 (fun H locs hP hS => ?_)
              replace hP : qP D N0 (qs hv62 q127 (.inr (3, [.int (nI (6 - r)), .int (nI e9), .int ((nI (2 ^ thN m9 (6 - r) k0)) ||| (nI (2 ^ thN m9 (6 - r) k))), .int (nI 0), .int (nI 0), .ref q150, .ref q187, .ref q134]))) H := hP
              obtain ⟨hv63, ehv63⟩ : ∃ z : qH, z = qs hv62 q127 (.inr (3, [.int (nI (6 - r)), .int (nI e9), .int ((nI (2 ^ thN m9 (6 - r) k0)) ||| (nI (2 ^ thN m9 (6 - r) k))), .int (nI 0), .int (nI 0), .ref q150, .ref q187, .ref q134])) := ⟨_, rfl⟩
              rw [← ehv63] at hP
              have khv63 : ∀ b o, b ≠ q127 → hv62 b = some o → hv63 b = some o := by rw [ehv63]; exact fun b o nb hb => (qs_ne nb).trans hb
              replace fq134 := khv63 _ _ n_q134_q127.symm fq134
              replace fq150 := khv63 _ _ n_q150_q127.symm fq150
              replace fq187 := khv63 _ _ n_q187_q127.symm fq187
              replace fq127 : hv63 q127 = some (.inr (3, [.int (nI (6 - r)), .int (nI e9), .int ((nI (2 ^ thN m9 (6 - r) k0)) ||| (nI (2 ^ thN m9 (6 - r) k))), .int (nI 0), .int (nI 0), .ref q150, .ref q187, .ref q134])) := by rw [ehv63]; exact qs_self
              clear ehv63
              replace fr : ∀ b o, h b = some o → hv63 b = some o := fun b o hb => khv63 b o (qne_of oq127 hb) (fr b o hb )
              replace fd : ∀ b o, h b = some o → ∃ o', hv63 b = some o' := fun b o hb => (fd b o hb).elim (fun o9 h9 => ⟨o9, khv63 b o9 (qne_of oq127 hb) h9⟩)
              refine lv_aload hx hb dX3_pairOf_228 (lv_at hl 0 rfl) ?_
              refine lv_iconst (v := nI 2) hx hb dX3_pairOf_230 (by decide) ?_
              refine q_put C hP hS fq127 rfl inX3 tyX3 tyX3_ok nmX3 4 (by decide) g365 rfl rfl rfl (Nat.le_of_ble_eq_true rfl) dX3_pairOf_231 (fun H locs hP hS => ?_)
              replace hP : qP D N0 (qs hv63 q127 (.inr (3, [.int (nI (6 - r)), .int (nI e9), .int ((nI (2 ^ thN m9 (6 - r) k0)) ||| (nI (2 ^ thN m9 (6 - r) k))), .int (nI 0), .int (nI 2), .ref q150, .ref q187, .ref q134]))) H := hP
              obtain ⟨hv64, ehv64⟩ : ∃ z : qH, z = qs hv63 q127 (.inr (3, [.int (nI (6 - r)), .int (nI e9), .int ((nI (2 ^ thN m9 (6 - r) k0)) ||| (nI (2 ^ thN m9 (6 - r) k))), .int (nI 0), .int (nI 2), .ref q150, .ref q187, .ref q134])) := ⟨_, rfl⟩
              rw [← ehv64] at hP
              have khv64 : ∀ b o, b ≠ q127 → hv63 b = some o → hv64 b = some o := by rw [ehv64]; exact fun b o nb hb => (qs_ne nb).trans hb
              replace fq134 := khv64 _ _ n_q134_q127.symm fq134
              replace fq150 := khv64 _ _ n_q150_q127.symm fq150
              replace fq187 := khv64 _ _ n_q187_q127.symm fq187
              replace fq127 : hv64 q127 = some (.inr (3, [.int (nI (6 - r)), .int (nI e9), .int ((nI (2 ^ thN m9 (6 - r) k0)) ||| (nI (2 ^ thN m9 (6 - r) k))), .int (nI 0), .int (nI 2), .ref q150, .ref q187, .ref q134])) := by rw [ehv64]; exact qs_self
              clear ehv64
              replace fr : ∀ b o, h b = some o → hv64 b = some o := fun b o hb => khv64 b o (qne_of oq127 hb) (fr b o hb )
              replace fd : ∀ b o, h b = some o → ∃ o', hv64 b = some o' := fun b o hb => (fd b o hb).elim (fun o9 h9 => ⟨o9, khv64 b o9 (qne_of oq127 hb) h9⟩)
              refine lv_aload hx hb dX3_pairOf_234 (lv_at hl 0 rfl) ?_
              obtain ⟨pd1, em, pd3, enb⟩ := pr_diff (x0 := x0) (x := x) hdf
              have ek : trK m9 (r + 1) [(k0, x0), (k, x)] = [(k0, x0), (k, x)] := pd1.trans (if_pos (by omega))
              have ekb := pd3.symm
              have hap : ∀ b, Im b → b ≠ q127 ∧ b ≠ q134 ∧ b ≠ q150 ∧ b ≠ q187 := fun b z => by obtain ⟨o, ho⟩ := hE.2.1 b (Or.inl z); exact ⟨qne_of oq127 ho, qne_of oq134 ho, qne_of oq150 ho, qne_of oq187 ho⟩
              have h99 := fr _ _ hE.2.2.1
              have hnd : thNd cy hv64 (fun b => Im b ∨ b = q150 ∨ b = q134) e9 Ok m9 (r + 1) q127 [(k0, x0), (k, x)] 2 (fun b => b = q127 ∨ b = q187) e9 q150 q187 q134 (fun _ => 0) := ⟨by unfold thNo; rw [ekb, enb, show 7 - (r + 1) = 6 - r by omega]; exact fq127, by rw [ek]; exact fq150, by rw [ek]; exact fq187, by rw [em]; exact fq134, Or.inr (Or.inl rfl), he9, Or.inl ⟨rfl, Or.inl rfl, fun _ => Or.inr rfl, fun z => (by rw [ek] at z; cases z), fun z => absurd em z, fun _ => Or.inr (Or.inr rfl)⟩⟩
              have htr : qTr cy hv64 (fun b => Im b ∨ b = q150 ∨ b = q134) e9 Ok m9 (r + 1) q127 [(k0, x0), (k, x)] (fun b => b = q127 ∨ b = q187) := qTr.mk (Xs := fun _ _ => False) hnd ⟨fun j _ b z => z.elim, fun i j _ _ _ b z => z.elim⟩ (fun j v z => by rw [em] at z; cases z)
              have hed : qEd cy hv64 (fun b => Im b ∨ b = q150 ∨ b = q134) (fun b => b = q127 ∨ b = q187) := by
                refine ⟨fun b z hi => ?_, fun b z => ?_, h99, Or.inl hE.2.2.2⟩
                · rcases hi with hi | hi | hi
                  · rcases z with z | z
                    · exact (hap b hi).1 z
                    · exact (hap b hi).2.2.2 z
                  · rcases z with z | z
                    · exact n_q150_q127.symm (hi.symm.trans z)
                    · exact n_q187_q150 (hi.symm.trans z)
                  · rcases z with z | z
                    · exact n_q134_q127.symm (hi.symm.trans z)
                    · exact n_q187_q134 (hi.symm.trans z)
                · rcases z with (z | z | z) | z | z
                  · obtain ⟨o, ho⟩ := hE.2.1 b (Or.inl z); exact ⟨o, fr b o ho⟩
                  · exact ⟨_, by rw [z]; exact fq150⟩
                  · exact ⟨_, by rw [z]; exact fq134⟩
                  · exact ⟨_, by rw [z]; exact fq127⟩
                  · exact ⟨_, by rw [z]; exact fq187⟩
              have hch : qCh h Im (fun _ => False) hv64 (fun b => Im b ∨ b = q150 ∨ b = q134) (fun b => b = q127 ∨ b = q187) := by
                refine ⟨fun b o hb _ => fr b o hb, fun _ z => Or.inl z, fun b z => z.imp_right (fun z => ?_), fun b z => Or.inr ?_, fd⟩
                · rcases z with rfl | rfl
                  · exact oq150
                  · exact oq134
                · rcases z with rfl | rfl
                  · exact oq127
                  · exact oq187
              exact q_aret (v := some q127) C (Or.inl ⟨_, rfl⟩) hP hS ⟨q127, (fun b => b = q127 ∨ b = q187), (fun b => Im b ∨ b = q150 ∨ b = q134), rfl, htr, hed, hch⟩ (by omega) dX3_pairOf_236
        · have hsm := two_inj thN_lt thN_lt c33
          refine lv_iconst (v := nI 1) hx hb dX3_pairOf_36 (by decide) ?_
          refine q_newq (t0 := 4) (N := 1) C g353 (by decide) rfl hP hS (by decide) (by decide) (by decide) (by first | decide | omega) (by first | decide | omega) dX3_pairOf_37 (fun q37 H eq37 hP hS => ?_)
          obtain ⟨hv65, ehv65⟩ : ∃ z : qH, z = qs h q37 (.inl (cy 4, 1, .inr (.inr (.inr (.inr (fun _ => none)))))) := ⟨_, rfl⟩
          rw [← ehv65] at hP
          have khv65 : ∀ b o, b ≠ q37 → h b = some o → hv65 b = some o := by rw [ehv65]; exact fun b o nb hb => (qs_ne nb).trans hb
          have fq37 : hv65 q37 = some (.inl (cy 4, 1, .inr (.inr (.inr (.inr (fun _ => none)))))) := by rw [ehv65]; exact qs_self
          clear ehv65
          have oq37 : h q37 = none := qno fd eq37
          replace fr : ∀ b o, h b = some o → hv65 b = some o := fun b o hb => khv65 b o (qne_of oq37 hb) (fr b o hb )
          replace fd : ∀ b o, h b = some o → ∃ o', hv65 b = some o' := fun b o hb => (fd b o hb).elim (fun o9 h9 => ⟨o9, khv65 b o9 (qne_of oq37 hb) h9⟩)
          refine lv_dup hx hb dX3_pairOf_40 rfl ?_
          refine lv_iconst (v := nI 0) hx hb dX3_pairOf_41 (by decide) ?_
          refine lv_iload_n hx hb dX3_pairOf_42 rfl (lv_at hl 2 rfl) ?_
          refine lv_iconst (v := nI 1) hx hb dX3_pairOf_43 (by decide) ?_
          refine q_iaddN hx hb dX3_pairOf_44 ?_
          refine lv_iload_n hx hb dX3_pairOf_45 rfl (lv_at hl 3 rfl) ?_
          refine lv_iload_n hx hb dX3_pairOf_46 rfl (lv_at hl 4 rfl) ?_
          refine lv_lload_n hx hb dX3_pairOf_47 rfl (lv_at hl 5 rfl) ?_
          refine lv_lload hx hb dX3_pairOf_48 (lv_at hl 6 rfl) ?_
          refine lv_lload hx hb dX3_pairOf_50 (lv_at hl 7 rfl) ?_
          refine lv_lload hx hb dX3_pairOf_52 (lv_at hl 8 rfl) ?_
          rw [show 6 - r + 1 = 7 - r by omega]
          refine q_callS (rest := [.int (nI 0), .ref q37, .ref q37]) C (ih hv65 Im r (7 - r) k0 x0 k x (hE.le fr) (by omega) hkk (by omega)) kX3_pairOf g414 g415 hP hS (by first | decide | omega) hl.1 rfl (by simp [q_catrf, q_cati, q_catl, q_cata, q_catn]) (by first | decide | omega) dX3_pairOf_54 (fun q ce E h' H1 locs1 hE => hE.elim) (fun v hh14 H locs hq hP hS => ?_)
          obtain ⟨a1, X1, Im1, rfl, hT1, hE1, hch1⟩ := hq
          have f37_0 := fq37
          have fd1 := fd
          have hle1 : qle hv65 hh14 := fun b o hb => hch1.1 b o hb (fun z => z)
          replace fq37 := hle1 _ _ fq37
          replace fr : ∀ b o, h b = some o → hh14 b = some o := fun b o hb => hle1 b o (fr b o hb)
          replace fd : ∀ b o, h b = some o → ∃ o', hh14 b = some o' := fun b o hb => ⟨o, fr b o hb⟩
          obtain ⟨ow9, ka9, va9, na9, C9, Xs9, hn9, -, -⟩ := hT1.inv
          have fa1 := hn9.1
          unfold thNo at fa1
          have kp9 : ∀ b o, hh14 b = some o → b ≠ q37 → hh14 b = some o := fun b o hb _ => hb
          have kd9 : ∀ b o, hh14 b = some o → ∃ o', hh14 b = some o' := fun b o hb => ⟨o, hb⟩
          refine q_aastN (rc := (RX3, TX3, 8)) C rfl rfl hP hS fq37 fa1 (by omega) (by omega) dX3_pairOf_57 (fun H locs hP hS => ?_)
          obtain ⟨hv66, ehv66⟩ : ∃ z : qH, z = qs hh14 q37 (.inl (cy 4, 1, .inr (.inr (.inr (.inr (va_up (fun _ => none) 0 (some a1))))))) := ⟨_, rfl⟩
          rw [← ehv66] at hP
          have khv66 : ∀ b o, b ≠ q37 → hh14 b = some o → hv66 b = some o := by rw [ehv66]; exact fun b o nb hb => (qs_ne nb).trans hb
          replace fa1 := khv66 _ _ (fun q => by subst q; have := fa1.symm.trans fq37; first | cases this | simp at this) fa1
          replace fq37 : hv66 q37 = some (.inl (cy 4, 1, .inr (.inr (.inr (.inr (va_up (fun _ => none) 0 (some a1))))))) := by rw [ehv66]; exact qs_self
          clear ehv66
          replace fr : ∀ b o, h b = some o → hv66 b = some o := fun b o hb => khv66 b o (qne_of oq37 hb) (fr b o hb )
          replace fd : ∀ b o, h b = some o → ∃ o', hv66 b = some o' := fun b o hb => (fd b o hb).elim (fun o9 h9 => ⟨o9, khv66 b o9 (qne_of oq37 hb) h9⟩)
          replace kp9 : ∀ b o, hh14 b = some o → b ≠ q37 → hv66 b = some o := fun b o hb n0_ => khv66 b o n0_ (kp9 b o hb n0_)
          replace kd9 : ∀ b o, hh14 b = some o → ∃ o', hv66 b = some o' := fun b o hb => if z9 : b = q37 then ⟨_, (congrArg hv66 z9).trans fq37⟩ else (kd9 b o hb).elim (fun o9 h9 => ⟨o9, khv66 b o9 z9 h9⟩)
          replace hP : qP D N0 (qs hv66 q37 (.inl (cy 4, 1, .inr (.inr (.inr (.inr (fun j => some ((fun _ => a1) j)))))))) H := hP.re (y := (1, .inr (.inr (.inr (.inr (fun j => some ((fun _ => a1) j))))))) fq37 (by rw [vp_cell_q, vp_cell_q]; exact arrV_same (fun j hj => by rcases (show j = 0 by omega) with rfl <;> rfl)) rfl
          obtain ⟨hv67, ehv67⟩ : ∃ z : qH, z = qs hv66 q37 (.inl (cy 4, 1, .inr (.inr (.inr (.inr (fun j => some ((fun _ => a1) j))))))) := ⟨_, rfl⟩
          rw [← ehv67] at hP
          have khv67 : ∀ b o, b ≠ q37 → hv66 b = some o → hv67 b = some o := by rw [ehv67]; exact fun b o nb hb => (qs_ne nb).trans hb
          replace fa1 := khv67 _ _ (fun q => by subst q; have := fa1.symm.trans fq37; first | cases this | simp at this) fa1
          replace fq37 : hv67 q37 = some (.inl (cy 4, 1, .inr (.inr (.inr (.inr (fun j => some ((fun _ => a1) j))))))) := by rw [ehv67]; exact qs_self
          clear ehv67
          replace fr : ∀ b o, h b = some o → hv67 b = some o := fun b o hb => khv67 b o (qne_of oq37 hb) (fr b o hb )
          replace fd : ∀ b o, h b = some o → ∃ o', hv67 b = some o' := fun b o hb => (fd b o hb).elim (fun o9 h9 => ⟨o9, khv67 b o9 (qne_of oq37 hb) h9⟩)
          replace kp9 : ∀ b o, hh14 b = some o → b ≠ q37 → hv67 b = some o := fun b o hb n0_ => khv67 b o n0_ (kp9 b o hb n0_)
          replace kd9 : ∀ b o, hh14 b = some o → ∃ o', hv67 b = some o' := fun b o hb => if z9 : b = q37 then ⟨_, (congrArg hv67 z9).trans fq37⟩ else (kd9 b o hb).elim (fun o9 h9 => ⟨o9, khv67 b o9 z9 h9⟩)
          refine lv_astore (lv' := [(13, .ref q37), (12, .int (nI (2 ^ thN m9 (6 - r) k))), (11, .int (nI (2 ^ thN m9 (6 - r) k0))), (0, .int (nI (6 - r))), (1, .int (nI e9)), (2, .int m9), (3, .long k0), (5, .long x0), (7, .long k), (9, .long x)]) hx hb dX3_pairOf_58 hl (by decide) rfl (fun ls hl => ?_)
          refine q_new (ci := 3) (fs := [.int 0, .int 0, .int 0, .int 0, .int 0, .null, .null, .null]) C hP hS rfl inX3 tyX3 tyX3_ok g353 g317 g12 (fun j hj => by rcases (show j = 0 ∨ j = 1 ∨ j = 2 ∨ j = 3 ∨ j = 4 ∨ j = 5 ∨ j = 6 ∨ j = 7 by omega) with rfl | rfl | rfl | rfl | rfl | rfl | rfl | rfl <;> rfl) (by first | decide | omega) (by first | decide | omega) dX3_pairOf_60 (fun q60 H eq60 hP hS => ?_)
          obtain ⟨hv68, ehv68⟩ : ∃ z : qH, z = qs hv67 q60 (.inr (3, [.int 0, .int 0, .int 0, .int 0, .int 0, .null, .null, .null])) := ⟨_, rfl⟩
          rw [← ehv68] at hP
          have khv68 : ∀ b o, b ≠ q60 → hv67 b = some o → hv68 b = some o := by rw [ehv68]; exact fun b o nb hb => (qs_ne nb).trans hb
          have n_q60_q37 : q37 ≠ q60 := qne_of eq60 fq37
          replace fq37 := khv68 _ _ n_q60_q37 fq37
          have n_q60_a1 : a1 ≠ q60 := qne_of eq60 fa1
          replace fa1 := khv68 _ _ n_q60_a1 fa1
          have fq60 : hv68 q60 = some (.inr (3, [.int 0, .int 0, .int 0, .int 0, .int 0, .null, .null, .null])) := by rw [ehv68]; exact qs_self
          clear ehv68
          have oq60 : h q60 = none := qno fd eq60
          replace fr : ∀ b o, h b = some o → hv68 b = some o := fun b o hb => khv68 b o (qne_of oq60 hb) (fr b o hb )
          replace fd : ∀ b o, h b = some o → ∃ o', hv68 b = some o' := fun b o hb => (fd b o hb).elim (fun o9 h9 => ⟨o9, khv68 b o9 (qne_of oq60 hb) h9⟩)
          have pq60 : hh14 q60 = none := qno kd9 eq60
          replace kp9 : ∀ b o, hh14 b = some o → b ≠ q37 → hv68 b = some o := fun b o hb n0_ => khv68 b o (qne_of pq60 hb) (kp9 b o hb n0_)
          replace kd9 : ∀ b o, hh14 b = some o → ∃ o', hv68 b = some o' := fun b o hb => (kd9 b o hb).elim (fun o9 h9 => ⟨o9, khv68 b o9 (qne_of pq60 hb) h9⟩)
          refine lv_dup hx hb dX3_pairOf_63 rfl ?_
          refine lv_iload_n hx hb dX3_pairOf_64 rfl (lv_at hl 3 rfl) ?_
          refine lv_iload_n hx hb dX3_pairOf_65 rfl (lv_at hl 4 rfl) ?_
          refine lv_aload hx hb dX3_pairOf_66 (lv_at hl 0 rfl) ?_
          refine q_callI (rest := [.ref q60]) C (c_X3_init l D cy N0 hv68 q60 (6 - r) e9 q37 fq60) kX3_init g355 g356 rfl hP hS (by first | decide | omega) hl.1 rfl (by simp [q_catrf, q_cati, q_catl, q_cata, q_catn]) (by first | decide | omega) dX3_pairOf_68 (fun v hh15 H locs hq hP hS => ?_)
          obtain ⟨rfl, rfl⟩ := hq
          replace hP : qP D N0 (qs hv68 q60 (.inr (3, [.int (nI (6 - r)), .int (nI e9), .int (nI 0), .int (nI 0), .int (nI 0), .ref (cy 99), .ref (cy 99), .ref q37]))) H := hP
          obtain ⟨hv69, ehv69⟩ : ∃ z : qH, z = qs hv68 q60 (.inr (3, [.int (nI (6 - r)), .int (nI e9), .int (nI 0), .int (nI 0), .int (nI 0), .ref (cy 99), .ref (cy 99), .ref q37])) := ⟨_, rfl⟩
          rw [← ehv69] at hP
          have khv69 : ∀ b o, b ≠ q60 → hv68 b = some o → hv69 b = some o := by rw [ehv69]; exact fun b o nb hb => (qs_ne nb).trans hb
          replace fq37 := khv69 _ _ n_q60_q37 fq37
          replace fa1 := khv69 _ _ n_q60_a1 fa1
          replace fq60 : hv69 q60 = some (.inr (3, [.int (nI (6 - r)), .int (nI e9), .int (nI 0), .int (nI 0), .int (nI 0), .ref (cy 99), .ref (cy 99), .ref q37])) := by rw [ehv69]; exact qs_self
          clear ehv69
          replace fr : ∀ b o, h b = some o → hv69 b = some o := fun b o hb => khv69 b o (qne_of oq60 hb) (fr b o hb )
          replace fd : ∀ b o, h b = some o → ∃ o', hv69 b = some o' := fun b o hb => (fd b o hb).elim (fun o9 h9 => ⟨o9, khv69 b o9 (qne_of oq60 hb) h9⟩)
          replace kp9 : ∀ b o, hh14 b = some o → b ≠ q37 → hv69 b = some o := fun b o hb n0_ => khv69 b o (qne_of pq60 hb) (kp9 b o hb n0_)
          replace kd9 : ∀ b o, hh14 b = some o → ∃ o', hv69 b = some o' := fun b o hb => (kd9 b o hb).elim (fun o9 h9 => ⟨o9, khv69 b o9 (qne_of pq60 hb) h9⟩)
          refine lv_astore (lv' := [(14, .ref q60), (13, .ref q37), (12, .int (nI (2 ^ thN m9 (6 - r) k))), (11, .int (nI (2 ^ thN m9 (6 - r) k0))), (0, .int (nI (6 - r))), (1, .int (nI e9)), (2, .int m9), (3, .long k0), (5, .long x0), (7, .long k), (9, .long x)]) hx hb dX3_pairOf_71 hl (by decide) rfl (fun ls hl => ?_)
          refine lv_aload hx hb dX3_pairOf_73 (lv_at hl 0 rfl) ?_
          refine lv_iload hx hb dX3_pairOf_75 (lv_at hl 2 rfl) ?_
          refine q_put C hP hS fq60 rfl inX3 tyX3 tyX3_ok nmX3 3 (by decide) g364 rfl rfl rfl (Nat.le_of_ble_eq_true rfl) dX3_pairOf_77 (fun H locs hP hS => ?_)
          replace hP : qP D N0 (qs hv69 q60 (.inr (3, [.int (nI (6 - r)), .int (nI e9), .int (nI 0), .int (nI (2 ^ thN m9 (6 - r) k)), .int (nI 0), .ref (cy 99), .ref (cy 99), .ref q37]))) H := hP
          obtain ⟨hv70, ehv70⟩ : ∃ z : qH, z = qs hv69 q60 (.inr (3, [.int (nI (6 - r)), .int (nI e9), .int (nI 0), .int (nI (2 ^ thN m9 (6 - r) k)), .int (nI 0), .ref (cy 99), .ref (cy 99), .ref q37])) := ⟨_, rfl⟩
          rw [← ehv70] at hP
          have khv70 : ∀ b o, b ≠ q60 → hv69 b = some o → hv70 b = some o := by rw [ehv70]; exact fun b o nb hb => (qs_ne nb).trans hb
          replace fq37 := khv70 _ _ n_q60_q37 fq37
          replace fa1 := khv70 _ _ n_q60_a1 fa1
          replace fq60 : hv70 q60 = some (.inr (3, [.int (nI (6 - r)), .int (nI e9), .int (nI 0), .int (nI (2 ^ thN m9 (6 - r) k)), .int (nI 0), .ref (cy 99), .ref (cy 99), .ref q37])) := by rw [ehv70]; exact qs_self
          clear ehv70
          replace fr : ∀ b o, h b = some o → hv70 b = some o := fun b o hb => khv70 b o (qne_of oq60 hb) (fr b o hb )
          replace fd : ∀ b o, h b = some o → ∃ o', hv70 b = some o' := fun b o hb => (fd b o hb).elim (fun o9 h9 => ⟨o9, khv70 b o9 (qne_of oq60 hb) h9⟩)
          replace kp9 : ∀ b o, hh14 b = some o → b ≠ q37 → hv70 b = some o := fun b o hb n0_ => khv70 b o (qne_of pq60 hb) (kp9 b o hb n0_)
          replace kd9 : ∀ b o, hh14 b = some o → ∃ o', hv70 b = some o' := fun b o hb => (kd9 b o hb).elim (fun o9 h9 => ⟨o9, khv70 b o9 (qne_of pq60 hb) h9⟩)
          refine lv_aload hx hb dX3_pairOf_80 (lv_at hl 0 rfl) ?_
          refine lv_iconst (v := nI 2) hx hb dX3_pairOf_82 (by decide) ?_
          refine q_put C hP hS fq60 rfl inX3 tyX3 tyX3_ok nmX3 4 (by decide) g365 rfl rfl rfl (Nat.le_of_ble_eq_true rfl) dX3_pairOf_83 (fun H locs hP hS => ?_)
          replace hP : qP D N0 (qs hv70 q60 (.inr (3, [.int (nI (6 - r)), .int (nI e9), .int (nI 0), .int (nI (2 ^ thN m9 (6 - r) k)), .int (nI 2), .ref (cy 99), .ref (cy 99), .ref q37]))) H := hP
          obtain ⟨hv71, ehv71⟩ : ∃ z : qH, z = qs hv70 q60 (.inr (3, [.int (nI (6 - r)), .int (nI e9), .int (nI 0), .int (nI (2 ^ thN m9 (6 - r) k)), .int (nI 2), .ref (cy 99), .ref (cy 99), .ref q37])) := ⟨_, rfl⟩
          rw [← ehv71] at hP
          have khv71 : ∀ b o, b ≠ q60 → hv70 b = some o → hv71 b = some o := by rw [ehv71]; exact fun b o nb hb => (qs_ne nb).trans hb
          replace fq37 := khv71 _ _ n_q60_q37 fq37
          replace fa1 := khv71 _ _ n_q60_a1 fa1
          replace fq60 : hv71 q60 = some (.inr (3, [.int (nI (6 - r)), .int (nI e9), .int (nI 0), .int (nI (2 ^ thN m9 (6 - r) k)), .int (nI 2), .ref (cy 99), .ref (cy 99), .ref q37])) := by rw [ehv71]; exact qs_self
          clear ehv71
          replace fr : ∀ b o, h b = some o → hv71 b = some o := fun b o hb => khv71 b o (qne_of oq60 hb) (fr b o hb )
          replace fd : ∀ b o, h b = some o → ∃ o', hv71 b = some o' := fun b o hb => (fd b o hb).elim (fun o9 h9 => ⟨o9, khv71 b o9 (qne_of oq60 hb) h9⟩)
          replace kp9 : ∀ b o, hh14 b = some o → b ≠ q37 → hv71 b = some o := fun b o hb n0_ => khv71 b o (qne_of pq60 hb) (kp9 b o hb n0_)
          replace kd9 : ∀ b o, hh14 b = some o → ∃ o', hv71 b = some o' := fun b o hb => (kd9 b o hb).elim (fun o9 h9 => ⟨o9, khv71 b o9 (qne_of pq60 hb) h9⟩)
          refine lv_aload hx hb dX3_pairOf_86 (lv_at hl 0 rfl) ?_
          obtain ⟨ps1, ps2, ps3, ps4, ps5⟩ := pr_same (x0 := x0) (x := x) hsm
          have ap9 : ∀ b, Im1 b ∨ X1 b → b ≠ q37 := fun b z e9 => by
            subst e9
            rcases z with z | z
            · rcases hch1.2.2.1 _ z with q | q
              · obtain ⟨o, ho⟩ := hE.2.1 _ (Or.inl q); rw [oq37] at ho; cases ho
              · rw [f37_0] at q; cases q
            · rcases hch1.2.2.2.1 _ z with q | q
              · exact q
              · rw [f37_0] at q; cases q
          have ap8 : ∀ b, Im1 b ∨ X1 b → b ≠ q60 := fun b z => by obtain ⟨o, ho⟩ := hE1.2.1 b z; exact qne_of pq60 ho
          have hT2 : qTr cy hv71 Im1 e9 Ok m9 r a1 [(k0, x0), (k, x)] X1 := hT1.keep (fun b o hb hx9 => kp9 b o hb (ap9 b hx9)) (fun _ z => z)
          have hi99 := hch1.2.1 _ hE.2.2.2
          have h99 := fr _ _ hE.2.2.1
          have hnd : thNd cy hv71 Im1 e9 Ok m9 (r + 1) q60 [(k0, x0), (k, x)] 2 (fun b => X1 b ∨ b = q60 ∨ b = q37) e9 (cy 99) (cy 99) q37 (fun _ => a1) := ⟨by unfold thNo; rw [ps4, ps5, show 7 - (r + 1) = 6 - r by omega]; exact fq60, by rw [ps2]; exact h99, by rw [ps2]; exact h99, by rw [ps3]; exact fq37, hi99, he9, Or.inl ⟨rfl, Or.inr (Or.inl rfl), fun z => absurd ps2 z, fun _ => hi99, fun _ => Or.inr (Or.inr rfl), fun z => (by rw [ps3] at z; cases z)⟩⟩
          have hxs : thXs (trM m9 (r + 1) [(k0, x0), (k, x)]).length q60 (cy 99) q37 (fun b => X1 b ∨ b = q60 ∨ b = q37) (fun _ => X1) := by
            rw [ps3]
            refine ⟨fun j hj b z => ⟨Or.inl z, ap8 b (Or.inr z), fun e9 => hE1.1 b z (e9 ▸ hi99), ap9 b (Or.inr z)⟩, fun i j hi hj n => ?_⟩
            have hi : i < 1 := hi
            have hj : j < 1 := hj
            omega
          have htr : qTr cy hv71 Im1 e9 Ok m9 (r + 1) q60 [(k0, x0), (k, x)] (fun b => X1 b ∨ b = q60 ∨ b = q37) := ⟨e9, cy 99, cy 99, q37, fun _ => a1, fun _ => X1, hnd, hxs, fun j v z => by
            rw [ps3] at z
            cases j with
            | zero => cases z; rw [ps1]; exact hT2
            | succ j => cases z⟩
          have hed : qEd cy hv71 Im1 (fun b => X1 b ∨ b = q60 ∨ b = q37) := by
            refine ⟨fun b z hi => ?_, fun b z => ?_, h99, hi99⟩
            · rcases z with z | z | z
              · exact hE1.1 b z hi
              · exact ap8 b (Or.inl hi) z
              · exact ap9 b (Or.inl hi) z
            · rcases z with z | z | z | z
              · obtain ⟨o, ho⟩ := hE1.2.1 b (Or.inl z); exact ⟨o, kp9 b o ho (ap9 b (Or.inl z))⟩
              · obtain ⟨o, ho⟩ := hE1.2.1 b (Or.inr z); exact ⟨o, kp9 b o ho (ap9 b (Or.inr z))⟩
              · exact ⟨_, by rw [z]; exact fq60⟩
              · exact ⟨_, by rw [z]; exact fq37⟩
          have hch : qCh h Im (fun _ => False) hv71 Im1 (fun b => X1 b ∨ b = q60 ∨ b = q37) := by
            refine ⟨fun b o hb _ => fr b o hb, hch1.2.1, fun b z => (hch1.2.2.1 b z).imp_right (fun q => qno fd1 q), fun b z => Or.inr ?_, fd⟩
            rcases z with z | rfl | rfl
            · exact (hch1.2.2.2.1 b z).elim (fun q => q.elim) (fun q => qno fd1 q)
            · exact oq60
            · exact oq37
          exact q_aret (v := some q60) C (Or.inl ⟨_, rfl⟩) hP hS ⟨q60, (fun b => X1 b ∨ b = q60 ∨ b = q37), Im1, rfl, htr, hed, hch⟩ (by omega) dX3_pairOf_88
