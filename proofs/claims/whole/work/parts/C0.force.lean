section QXP
variable {Bd sl Rn : Nat} {dp : Nat → Nat} {o : qYf} {a : qWd} {k : qKd}
theorem xMap_P (i : qWv Bd sl Rn dp (o, a, k)) {s n : Nat} {c : Int64} : qP1 (xMap o a k s n c).2.2.1 = qP1 a + (if s = 0 ∨ xFn n c (a.2.2.1 s) = none then 0 else qGc a k) ∧ qP2 (xMap o a k s n c).2.2.1 = qP2 a + (if s = 0 ∨ xFn n c (a.2.2.1 s) = none then 0 else qGs a k) := by
  unfold xMap
  by_cases c1 : s = 0
  · rw [if_pos c1, if_pos (Or.inl c1), if_pos (Or.inl c1)]; exact ⟨rfl, rfl⟩
  · by_cases c2 : xFn n c (a.2.2.1 s) = none
    · rw [if_neg c1, if_pos c2, if_pos (Or.inr c2), if_pos (Or.inr c2)]; exact ⟨rfl, rfl⟩
    · have h : ¬ (s = 0 ∨ xFn n c (a.2.2.1 s) = none) := fun z => z.elim c1 c2
      rw [if_neg c1, if_neg c2, if_neg h, if_neg h]; exact qPush1 i
theorem xTak_P (i : qWv Bd sl Rn dp (o, a, k)) {s n : Nat} : qP1 (xTak a k s n).2.1 = qP1 a + (if s = 0 ∨ n = 0 then 0 else qGc a k) ∧ qP2 (xTak a k s n).2.1 = qP2 a + (if s = 0 ∨ n = 0 then 0 else qGs a k) := by
  unfold xTak
  by_cases c1 : s = 0 ∨ n = 0
  · rw [if_pos c1, if_pos c1, if_pos c1]; exact ⟨rfl, rfl⟩
  · rw [if_neg c1, if_neg c1, if_neg c1]
    by_cases c2 : n = 1
    · rw [if_pos c2]; exact qPush1 i
    · rw [if_neg c2]; exact qPush1 i
theorem xJoin_P (i : qWv Bd sl Rn dp (o, a, k)) {s n : Nat} : qP1 (xJoin a k s n).2.1 = qP1 a + (if s = 0 then 0 else qGc a k) ∧ qP2 (xJoin a k s n).2.1 = qP2 a + (if s = 0 then 0 else qGs a k) := by
  unfold xJoin
  by_cases c1 : s = 0
  · rw [if_pos c1, if_pos c1, if_pos c1]; exact ⟨rfl, rfl⟩
  · rw [if_neg c1, if_neg c1, if_neg c1]; exact qPush1 i
theorem xRow_P (i : qWv Bd sl Rn dp (o, a, k)) {R : Nat → List Int64} {row j : Nat} : qP1 (xRow R (o, a, k) row j).2.2.1 = qP1 a + (if (R row).length ≤ j then 0 else qGc a k) ∧ qP2 (xRow R (o, a, k) row j).2.2.1 = qP2 a + (if (R row).length ≤ j then 0 else qGs a k) := by
  unfold xRow
  by_cases c1 : (R row).length ≤ j
  · rw [if_pos c1, if_pos c1, if_pos c1]; exact ⟨rfl, rfl⟩
  · rw [if_neg c1, if_neg c1, if_neg c1]; exact qPush1 i
end QXP
theorem dX8_worked_0 : decode cX8_worked 0 = .ok (.aload_n 0, 1) := by decide +kernel
theorem dX8_worked_1 : decode cX8_worked 1 = .ok (.getfield 52, 3) := by decide +kernel
theorem dX8_worked_4 : decode cX8_worked 4 = .ok (.iload_n 1, 1) := by decide +kernel
theorem dX8_worked_5 : decode cX8_worked 5 = .ok (.iaload, 1) := by decide +kernel
theorem dX8_worked_6 : decode cX8_worked 6 = .ok (.istore_n 2, 1) := by decide +kernel
theorem dX8_worked_7 : decode cX8_worked 7 = .ok (.aload_n 0, 1) := by decide +kernel
theorem dX8_worked_8 : decode cX8_worked 8 = .ok (.getfield 55, 3) := by decide +kernel
theorem dX8_worked_11 : decode cX8_worked 11 = .ok (.iload_n 1, 1) := by decide +kernel
theorem dX8_worked_12 : decode cX8_worked 12 = .ok (.laload, 1) := by decide +kernel
theorem dX8_worked_13 : decode cX8_worked 13 = .ok (.lstore_n 3, 1) := by decide +kernel
theorem dX8_worked_14 : decode cX8_worked 14 = .ok (.aload_n 0, 1) := by decide +kernel
theorem dX8_worked_15 : decode cX8_worked 15 = .ok (.getfield 43, 3) := by decide +kernel
theorem dX8_worked_18 : decode cX8_worked 18 = .ok (.iload_n 1, 1) := by decide +kernel
theorem dX8_worked_19 : decode cX8_worked 19 = .ok (.iaload, 1) := by decide +kernel
theorem dX8_worked_20 : decode cX8_worked 20 = .ok (.tableswitch 195 1 5 #[36, 88, 100, 132, 164], 36) := by decide +kernel
theorem dX8_worked_56 : decode cX8_worked 56 = .ok (.aload_n 0, 1) := by decide +kernel
theorem dX8_worked_57 : decode cX8_worked 57 = .ok (.dup, 1) := by decide +kernel
theorem dX8_worked_58 : decode cX8_worked 58 = .ok (.getfield 195, 3) := by decide +kernel
theorem dX8_worked_61 : decode cX8_worked 61 = .ok (.iconst 1, 1) := by decide +kernel
theorem dX8_worked_62 : decode cX8_worked 62 = .ok (.iadd, 1) := by decide +kernel
theorem dX8_worked_63 : decode cX8_worked 63 = .ok (.putfield 195, 3) := by decide +kernel
theorem dX8_worked_66 : decode cX8_worked 66 = .ok (.aload_n 0, 1) := by decide +kernel
theorem dX8_worked_67 : decode cX8_worked 67 = .ok (.iload_n 2, 1) := by decide +kernel
theorem dX8_worked_68 : decode cX8_worked 68 = .ok (.lload_n 3, 1) := by decide +kernel
theorem dX8_worked_69 : decode cX8_worked 69 = .ok (.aload_n 0, 1) := by decide +kernel
theorem dX8_worked_70 : decode cX8_worked 70 = .ok (.getfield 58, 3) := by decide +kernel
theorem dX8_worked_73 : decode cX8_worked 73 = .ok (.iload_n 1, 1) := by decide +kernel
theorem dX8_worked_74 : decode cX8_worked 74 = .ok (.laload, 1) := by decide +kernel
theorem dX8_worked_75 : decode cX8_worked 75 = .ok (.invokevirtual 198, 3) := by decide +kernel
theorem dX8_worked_78 : decode cX8_worked 78 = .ok (.lstore 5, 2) := by decide +kernel
theorem dX8_worked_80 : decode cX8_worked 80 = .ok (.aload_n 0, 1) := by decide +kernel
theorem dX8_worked_81 : decode cX8_worked 81 = .ok (.getfield 155, 3) := by decide +kernel
theorem dX8_worked_84 : decode cX8_worked 84 = .ok (.ifCond .eq 7, 3) := by decide +kernel
theorem dX8_worked_87 : decode cX8_worked 87 = .ok (.iconst 0, 1) := by decide +kernel
theorem dX8_worked_88 : decode cX8_worked 88 = .ok (.goto 19, 3) := by decide +kernel
theorem dX8_worked_91 : decode cX8_worked 91 = .ok (.aload_n 0, 1) := by decide +kernel
theorem dX8_worked_92 : decode cX8_worked 92 = .ok (.lload 5, 2) := by decide +kernel
theorem dX8_worked_94 : decode cX8_worked 94 = .ok (.aload_n 0, 1) := by decide +kernel
theorem dX8_worked_95 : decode cX8_worked 95 = .ok (.iconst 1, 1) := by decide +kernel
theorem dX8_worked_96 : decode cX8_worked 96 = .ok (.iconst 0, 1) := by decide +kernel
theorem dX8_worked_97 : decode cX8_worked 97 = .ok (.iload_n 2, 1) := by decide +kernel
theorem dX8_worked_98 : decode cX8_worked 98 = .ok (.lload_n 3, 1) := by decide +kernel
theorem dX8_worked_99 : decode cX8_worked 99 = .ok (.lload 5, 2) := by decide +kernel
theorem dX8_worked_101 : decode cX8_worked 101 = .ok (.invokevirtual 188, 3) := by decide +kernel
theorem dX8_worked_104 : decode cX8_worked 104 = .ok (.invokevirtual 143, 3) := by decide +kernel
theorem dX8_worked_107 : decode cX8_worked 107 = .ok (.ireturn, 1) := by decide +kernel
theorem dX8_worked_108 : decode cX8_worked 108 = .ok (.aload_n 0, 1) := by decide +kernel
theorem dX8_worked_109 : decode cX8_worked 109 = .ok (.aload_n 0, 1) := by decide +kernel
theorem dX8_worked_110 : decode cX8_worked 110 = .ok (.getfield 49, 3) := by decide +kernel
theorem dX8_worked_113 : decode cX8_worked 113 = .ok (.iload_n 1, 1) := by decide +kernel
theorem dX8_worked_114 : decode cX8_worked 114 = .ok (.iaload, 1) := by decide +kernel
theorem dX8_worked_115 : decode cX8_worked 115 = .ok (.iload_n 2, 1) := by decide +kernel
theorem dX8_worked_116 : decode cX8_worked 116 = .ok (.invokevirtual 202, 3) := by decide +kernel
theorem dX8_worked_119 : decode cX8_worked 119 = .ok (.ireturn, 1) := by decide +kernel
theorem dX8_worked_120 : decode cX8_worked 120 = .ok (.aload_n 0, 1) := by decide +kernel
theorem dX8_worked_121 : decode cX8_worked 121 = .ok (.aload_n 0, 1) := by decide +kernel
theorem dX8_worked_122 : decode cX8_worked 122 = .ok (.getfield 49, 3) := by decide +kernel
theorem dX8_worked_125 : decode cX8_worked 125 = .ok (.iload_n 1, 1) := by decide +kernel
theorem dX8_worked_126 : decode cX8_worked 126 = .ok (.iaload, 1) := by decide +kernel
theorem dX8_worked_127 : decode cX8_worked 127 = .ok (.invokevirtual 158, 3) := by decide +kernel
theorem dX8_worked_130 : decode cX8_worked 130 = .ok (.istore 7, 2) := by decide +kernel
theorem dX8_worked_132 : decode cX8_worked 132 = .ok (.aload_n 0, 1) := by decide +kernel
theorem dX8_worked_133 : decode cX8_worked 133 = .ok (.getfield 155, 3) := by decide +kernel
theorem dX8_worked_136 : decode cX8_worked 136 = .ok (.ifCond .eq 7, 3) := by decide +kernel
theorem dX8_worked_139 : decode cX8_worked 139 = .ok (.iconst 0, 1) := by decide +kernel
theorem dX8_worked_140 : decode cX8_worked 140 = .ok (.goto 11, 3) := by decide +kernel
theorem dX8_worked_143 : decode cX8_worked 143 = .ok (.aload_n 0, 1) := by decide +kernel
theorem dX8_worked_144 : decode cX8_worked 144 = .ok (.iload 7, 2) := by decide +kernel
theorem dX8_worked_146 : decode cX8_worked 146 = .ok (.iload_n 2, 1) := by decide +kernel
theorem dX8_worked_147 : decode cX8_worked 147 = .ok (.lload_n 3, 1) := by decide +kernel
theorem dX8_worked_148 : decode cX8_worked 148 = .ok (.invokevirtual 205, 3) := by decide +kernel
theorem dX8_worked_151 : decode cX8_worked 151 = .ok (.ireturn, 1) := by decide +kernel
theorem dX8_worked_152 : decode cX8_worked 152 = .ok (.aload_n 0, 1) := by decide +kernel
theorem dX8_worked_153 : decode cX8_worked 153 = .ok (.aload_n 0, 1) := by decide +kernel
theorem dX8_worked_154 : decode cX8_worked 154 = .ok (.getfield 49, 3) := by decide +kernel
theorem dX8_worked_157 : decode cX8_worked 157 = .ok (.iload_n 1, 1) := by decide +kernel
theorem dX8_worked_158 : decode cX8_worked 158 = .ok (.iaload, 1) := by decide +kernel
theorem dX8_worked_159 : decode cX8_worked 159 = .ok (.invokevirtual 158, 3) := by decide +kernel
theorem dX8_worked_162 : decode cX8_worked 162 = .ok (.istore 8, 2) := by decide +kernel
theorem dX8_worked_164 : decode cX8_worked 164 = .ok (.aload_n 0, 1) := by decide +kernel
theorem dX8_worked_165 : decode cX8_worked 165 = .ok (.getfield 155, 3) := by decide +kernel
theorem dX8_worked_168 : decode cX8_worked 168 = .ok (.ifCond .eq 7, 3) := by decide +kernel
theorem dX8_worked_171 : decode cX8_worked 171 = .ok (.iconst 0, 1) := by decide +kernel
theorem dX8_worked_172 : decode cX8_worked 172 = .ok (.goto 11, 3) := by decide +kernel
theorem dX8_worked_175 : decode cX8_worked 175 = .ok (.aload_n 0, 1) := by decide +kernel
theorem dX8_worked_176 : decode cX8_worked 176 = .ok (.iload 8, 2) := by decide +kernel
theorem dX8_worked_178 : decode cX8_worked 178 = .ok (.iload_n 2, 1) := by decide +kernel
theorem dX8_worked_179 : decode cX8_worked 179 = .ok (.lload_n 3, 1) := by decide +kernel
theorem dX8_worked_180 : decode cX8_worked 180 = .ok (.invokevirtual 209, 3) := by decide +kernel
theorem dX8_worked_183 : decode cX8_worked 183 = .ok (.ireturn, 1) := by decide +kernel
theorem dX8_worked_184 : decode cX8_worked 184 = .ok (.aload_n 0, 1) := by decide +kernel
theorem dX8_worked_185 : decode cX8_worked 185 = .ok (.aload_n 0, 1) := by decide +kernel
theorem dX8_worked_186 : decode cX8_worked 186 = .ok (.getfield 49, 3) := by decide +kernel
theorem dX8_worked_189 : decode cX8_worked 189 = .ok (.iload_n 1, 1) := by decide +kernel
theorem dX8_worked_190 : decode cX8_worked 190 = .ok (.iaload, 1) := by decide +kernel
theorem dX8_worked_191 : decode cX8_worked 191 = .ok (.invokevirtual 158, 3) := by decide +kernel
theorem dX8_worked_194 : decode cX8_worked 194 = .ok (.istore 9, 2) := by decide +kernel
theorem dX8_worked_196 : decode cX8_worked 196 = .ok (.aload_n 0, 1) := by decide +kernel
theorem dX8_worked_197 : decode cX8_worked 197 = .ok (.getfield 155, 3) := by decide +kernel
theorem dX8_worked_200 : decode cX8_worked 200 = .ok (.ifCond .eq 7, 3) := by decide +kernel
theorem dX8_worked_203 : decode cX8_worked 203 = .ok (.iconst 0, 1) := by decide +kernel
theorem dX8_worked_204 : decode cX8_worked 204 = .ok (.goto 10, 3) := by decide +kernel
theorem dX8_worked_207 : decode cX8_worked 207 = .ok (.aload_n 0, 1) := by decide +kernel
theorem dX8_worked_208 : decode cX8_worked 208 = .ok (.iload 9, 2) := by decide +kernel
theorem dX8_worked_210 : decode cX8_worked 210 = .ok (.iload_n 2, 1) := by decide +kernel
theorem dX8_worked_211 : decode cX8_worked 211 = .ok (.invokevirtual 212, 3) := by decide +kernel
theorem dX8_worked_214 : decode cX8_worked 214 = .ok (.ireturn, 1) := by decide +kernel
theorem dX8_worked_215 : decode cX8_worked 215 = .ok (.aload_n 0, 1) := by decide +kernel
theorem dX8_worked_216 : decode cX8_worked 216 = .ok (.aload_n 0, 1) := by decide +kernel
theorem dX8_worked_217 : decode cX8_worked 217 = .ok (.getfield 49, 3) := by decide +kernel
theorem dX8_worked_220 : decode cX8_worked 220 = .ok (.iload_n 1, 1) := by decide +kernel
theorem dX8_worked_221 : decode cX8_worked 221 = .ok (.iaload, 1) := by decide +kernel
theorem dX8_worked_222 : decode cX8_worked 222 = .ok (.invokevirtual 158, 3) := by decide +kernel
theorem dX8_worked_225 : decode cX8_worked 225 = .ok (.istore 10, 2) := by decide +kernel
theorem dX8_worked_227 : decode cX8_worked 227 = .ok (.aload_n 0, 1) := by decide +kernel
theorem dX8_worked_228 : decode cX8_worked 228 = .ok (.getfield 155, 3) := by decide +kernel
theorem dX8_worked_231 : decode cX8_worked 231 = .ok (.ifCond .eq 7, 3) := by decide +kernel
theorem dX8_worked_234 : decode cX8_worked 234 = .ok (.iconst 0, 1) := by decide +kernel
theorem dX8_worked_235 : decode cX8_worked 235 = .ok (.goto 10, 3) := by decide +kernel
theorem dX8_worked_238 : decode cX8_worked 238 = .ok (.aload_n 0, 1) := by decide +kernel
theorem dX8_worked_239 : decode cX8_worked 239 = .ok (.iload 10, 2) := by decide +kernel
theorem dX8_worked_241 : decode cX8_worked 241 = .ok (.iload_n 2, 1) := by decide +kernel
theorem dX8_worked_242 : decode cX8_worked 242 = .ok (.invokevirtual 168, 3) := by decide +kernel
theorem dX8_worked_245 : decode cX8_worked 245 = .ok (.ireturn, 1) := by decide +kernel
set_option maxRecDepth 100000 in
set_option maxHeartbeats 4000000 in
theorem w_worked (l : Launch) (D : va_G) (cy : Nat → ClassId) (N0 : Nat) (h : qH) (y : Nat) (A : Nat → Prop) (o : qYf) (a : qWd) (k : qKd) (R : Nat → List Int64) (ad : Nat → Nat) (Rn : Nat) (Bd sl d : Nat) (dp : Nat → Nat) (F : qWo → Nat → Nat × qWo) (cc : Nat) (X : Nat × qWo) (hW : qSy cy h y A o a k) (nA : ¬ A y) (hR : qRz cy h A o.2.2.2.2.2.1 Rn R ad) (hV : qWv Bd (sl + 1) Rn dp (o, a, k)) (hfa : oFq o = 0) (hB : Bd ≤ 4000) (hF : qFS l D cy N0 y Bd Rn R ad F d) (hG : qFg Bd Rn F d) (hRl : ∀ q, q < Rn → (R q).length ≤ 1000) (hcc : cc < a.1) (hdc : dp cc ≤ d) (h0 : k.2.2.1 cc ≠ 0) (hX : xWork R F (o, a, k) cc = X) : qC l D cy N0 yX8_worked cX8_worked 11 (some .int) (4 * d + 7) (200 * d + 330) (qP1 X.2.2.1 - qP1 a) (qP2 X.2.2.1 - qP2 a) [.ref y, .int (nI cc)] h (fun v h' => v = some (.int (nI X.1)) ∧ ∃ A', qSy cy h' y A' X.2.1 X.2.2.1 X.2.2.2 ∧ qFy h h' y A A' ∧ ¬ A' y) (fun E h' => False) := by
  refine q_ofW (by decide) (by exact Nat.le_of_ble_eq_true rfl) ?_
  intro p e s m below meth c ls C hP hl
  have hx := C.1
  have hb := C.2.1
  have hS9 : va_S (qA N0) s.heap s.heap [] := va_S.rf
  have hl : lv_has ls 11 [(0, .ref y), (1, .int (nI cc))] := hl
  have hle : qle h h := qle_rf
  have hS := hW
  obtain ⟨fi1, re1, rc1, rs1, so1, ot1, cn1, la1, F1, Rt1, Rc1, Rs1, So1, Ot1, Cn1, La1, hY1, ⟨s0_1, s1_1, s2_1, s3_1, s4_1, s5_1, s6_1, s7_1⟩, hg1_, hk1_, hz1_, hd1_, he1_, hA1_, hb1_⟩ := id hS
  replace hd1_ := fun _ : Unit => hd1_
  replace he1_ := fun _ : Unit => he1_
  unfold qYo at hY1
  have hL := (hV.L hB).1
  have hLk := hL.2
  have hLn := (hV.L hB).2
  have hcn : a.1 = k.1 := hV.n
  have hp9 : 1 ≤ a.1 ∧ a.1 ≤ a.2.1 := hV.p
  obtain ⟨v1, v2, v3, v4, v5, v6, v7, v8, v9⟩ := hV.k cc hcc
  dsimp only at v1 v2 v3 v4 v5 v6 v7 v8 v9
  have stX := xWork_stp hG hRl hV hfa hcc hdc h0
  rw [hX] at stX
  have hmX := qStp.P hV stX
  clear stX
  refine lv_aload_n hx hb dX8_worked_0 rfl (lv_at hl 0 rfl) ?_
  refine q_get C hP hY1 rfl inX8 17 (by decide) g1184 rfl dX8_worked_1 ?_
  refine lv_iload_n hx hb dX8_worked_4 rfl (lv_at hl 1 rfl) ?_
  refine q_ialdN C hP s5_1 (by omega) (by omega) dX8_worked_5 ?_
  rw [(hk1_ cc (by omega)).2.2.2.1]
  refine lv_istore_n (lv' := [(2, .int (nI (k.2.2.2.2.2.1 cc))), (0, .ref y), (1, .int (nI cc))]) hx hb dX8_worked_6 rfl hl (by decide) rfl (fun ls hl => ?_)
  refine lv_aload_n hx hb dX8_worked_7 rfl (lv_at hl 1 rfl) ?_
  refine q_get C hP hY1 rfl inX8 18 (by decide) g1185 rfl dX8_worked_8 ?_
  refine lv_iload_n hx hb dX8_worked_11 rfl (lv_at hl 2 rfl) ?_
  refine q_laldN C hP s6_1 (by omega) (by omega) dX8_worked_12 ?_
  rw [(hk1_ cc (by omega)).2.2.2.2.1]
  refine lv_lstore_n (lv' := [(3, .long (k.2.2.2.2.2.2.1 cc)), (2, .int (nI (k.2.2.2.2.2.1 cc))), (0, .ref y), (1, .int (nI cc))]) hx hb dX8_worked_13 rfl hl (by decide) rfl (fun ls hl => ?_)
  refine lv_aload_n hx hb dX8_worked_14 rfl (lv_at hl 2 rfl) ?_
  refine q_get C hP hY1 rfl inX8 14 (by decide) g1181 rfl dX8_worked_15 ?_
  refine lv_iload_n hx hb dX8_worked_18 rfl (lv_at hl 3 rfl) ?_
  refine q_ialdN C hP s2_1 (by omega) (by omega) dX8_worked_19 ?_
  rw [(hk1_ cc (by omega)).1]
  rcases (show k.2.2.1 cc = 1 ∨ k.2.2.1 cc = 2 ∨ k.2.2.1 cc = 3 ∨ k.2.2.1 cc = 4 ∨ k.2.2.1 cc = 5 ∨ k.2.2.1 cc = 6 by omega) with e | e | e | e | e | e
  · rw [e]
    refine lv_tableIn (tgt := 56) (off := 36) hx hb dX8_worked_20 (by decide +kernel) (by decide +kernel) (by decide +kernel) (by decide) ?_
    refine lv_aload_n hx hb dX8_worked_56 rfl (lv_at hl 2 rfl) ?_
    refine lv_dup hx hb dX8_worked_57 rfl ?_
    refine q_get C hP hY1 rfl inX8 5 (by decide) g1172 rfl dX8_worked_58 ?_
    refine lv_iconst (v := nI 1) hx hb dX8_worked_61 (by decide) ?_
    refine lv_iadd hx hb dX8_worked_62 ?_
    refine q_put C hP hS9 hY1 rfl inX8 tyX8 tyX8_ok nmX8 5 (by decide) g1172 rfl rfl rfl (Nat.le_of_ble_eq_true rfl) dX8_worked_63 (fun H locs hP hS9 => ?_)
    replace hP : qP D N0 (qs h y (.inr (8, [.ref o.1, .ref o.2.1, .ref o.2.2.1, .int o.2.2.2.2.2.2.1, .int o.2.2.2.2.2.2.2.1, .int ((o.2.2.2.2.2.2.2.2.1) + (nI 1)), .int o.2.2.2.2.2.2.2.2.2.1, .ref o.2.2.2.1, .ref o.2.2.2.2.1, .int o.2.2.2.2.2.2.2.2.2.2.1, .int o.2.2.2.2.2.2.2.2.2.2.2.1, .ref fi1, .ref re1, .int (nI a.1), .ref rc1, .ref rs1, .ref so1, .ref ot1, .ref cn1, .ref la1, .int (nI k.1), .ref o.2.2.2.2.2.1, .int o.2.2.2.2.2.2.2.2.2.2.2.2]))) H := hP
    obtain ⟨hv1, ehv1⟩ : ∃ z : qH, z = qs h y (.inr (8, [.ref o.1, .ref o.2.1, .ref o.2.2.1, .int o.2.2.2.2.2.2.1, .int o.2.2.2.2.2.2.2.1, .int ((o.2.2.2.2.2.2.2.2.1) + (nI 1)), .int o.2.2.2.2.2.2.2.2.2.1, .ref o.2.2.2.1, .ref o.2.2.2.2.1, .int o.2.2.2.2.2.2.2.2.2.2.1, .int o.2.2.2.2.2.2.2.2.2.2.2.1, .ref fi1, .ref re1, .int (nI a.1), .ref rc1, .ref rs1, .ref so1, .ref ot1, .ref cn1, .ref la1, .int (nI k.1), .ref o.2.2.2.2.2.1, .int o.2.2.2.2.2.2.2.2.2.2.2.2])) := ⟨_, rfl⟩
    rw [← ehv1] at hP
    have khv1 : ∀ b o, b ≠ y → h b = some o → hv1 b = some o := by rw [ehv1]; exact fun b o nb hb => (qs_ne nb).trans hb
    replace s0_1 := khv1 _ _ (fun q => by subst q; have := s0_1.symm.trans hY1; first | cases this | simp at this) s0_1
    replace s1_1 := khv1 _ _ (fun q => by subst q; have := s1_1.symm.trans hY1; first | cases this | simp at this) s1_1
    replace s2_1 := khv1 _ _ (fun q => by subst q; have := s2_1.symm.trans hY1; first | cases this | simp at this) s2_1
    replace s3_1 := khv1 _ _ (fun q => by subst q; have := s3_1.symm.trans hY1; first | cases this | simp at this) s3_1
    replace s4_1 := khv1 _ _ (fun q => by subst q; have := s4_1.symm.trans hY1; first | cases this | simp at this) s4_1
    replace s5_1 := khv1 _ _ (fun q => by subst q; have := s5_1.symm.trans hY1; first | cases this | simp at this) s5_1
    replace s6_1 := khv1 _ _ (fun q => by subst q; have := s6_1.symm.trans hY1; first | cases this | simp at this) s6_1
    replace s7_1 := khv1 _ _ (fun q => by subst q; have := s7_1.symm.trans hY1; first | cases this | simp at this) s7_1
    replace hY1 : hv1 y = some (.inr (8, [.ref o.1, .ref o.2.1, .ref o.2.2.1, .int o.2.2.2.2.2.2.1, .int o.2.2.2.2.2.2.2.1, .int ((o.2.2.2.2.2.2.2.2.1) + (nI 1)), .int o.2.2.2.2.2.2.2.2.2.1, .ref o.2.2.2.1, .ref o.2.2.2.2.1, .int o.2.2.2.2.2.2.2.2.2.2.1, .int o.2.2.2.2.2.2.2.2.2.2.2.1, .ref fi1, .ref re1, .int (nI a.1), .ref rc1, .ref rs1, .ref so1, .ref ot1, .ref cn1, .ref la1, .int (nI k.1), .ref o.2.2.2.2.2.1, .int o.2.2.2.2.2.2.2.2.2.2.2.2])) := by rw [ehv1]; exact qs_self
    clear ehv1
    replace hS : qSy cy hv1 y A (oCa o (o.2.2.2.2.2.2.2.2.1 + nI 1)) a (k) := ⟨fi1, re1, rc1, rs1, so1, ot1, cn1, la1, F1, Rt1, Rc1, Rs1, So1, Ot1, Cn1, La1, hY1, ⟨s0_1, s1_1, s2_1, s3_1, s4_1, s5_1, s6_1, s7_1⟩, hg1_, hk1_, hz1_, (hd1_ ()), (he1_ ()), hA1_, hb1_⟩
    have hFq1 : qFy h hv1 y A A := ⟨fun b o hb n1 n2 => khv1 b o n1 hb, fun _ z => z, fun _ z => Or.inl z⟩
    have hFt1 := hFq1
    refine lv_aload_n hx hb dX8_worked_66 rfl (lv_at hl 2 rfl) ?_
    refine lv_iload_n hx hb dX8_worked_67 rfl (lv_at hl 1 rfl) ?_
    refine lv_lload_n hx hb dX8_worked_68 rfl (lv_at hl 0 rfl) ?_
    refine lv_aload_n hx hb dX8_worked_69 rfl (lv_at hl 2 rfl) ?_
    refine q_get C hP hY1 rfl inX8 19 (by decide) g1186 rfl dX8_worked_70 ?_
    refine lv_iload_n hx hb dX8_worked_73 rfl (lv_at hl 3 rfl) ?_
    refine q_laldN C hP s7_1 (by omega) (by omega) dX8_worked_74 ?_
    rw [(hk1_ cc (by omega)).2.2.2.2.2]
    refine q_callV (rest := []) C (c_X8_function l D cy N0 hv1 y (o.1) (o.2.1) (o.2.2.1) (o.2.2.2.1) (o.2.2.2.2.1) fi1 re1 rc1 rs1 so1 ot1 cn1 la1 (o.2.2.2.2.2.1) (o.2.2.2.2.2.2.1) (o.2.2.2.2.2.2.2.1) ((o.2.2.2.2.2.2.2.2.1) + (nI 1)) (o.2.2.2.2.2.2.2.2.2.1) (o.2.2.2.2.2.2.2.2.2.2.1) (o.2.2.2.2.2.2.2.2.2.2.2.1) (nI a.1) (nI k.1) (o.2.2.2.2.2.2.2.2.2.2.2.2) (k.2.2.2.2.2.1 cc) (k.2.2.2.2.2.2.2 cc) (k.2.2.2.2.2.2.1 cc) hY1 (by omega)) kX8_function g1339 g1341 rfl gp52 g4 hP hS9 hY1 (by first | decide | omega) hl.1 rfl (by decide) (by first | decide | omega) dX8_worked_75 (fun q ce E h' H1 locs1 hE => hE.elim) (fun v hh1 H locs hq hP hS9 => ?_)
    rcases hq with ⟨r8, er8, rfl, rfl⟩ | ⟨er8, rfl, rfl⟩
    · refine lv_lstore (lv' := [(5, .long r8), (3, .long (k.2.2.2.2.2.2.1 cc)), (2, .int (nI (k.2.2.2.2.2.1 cc))), (0, .ref y), (1, .int (nI cc))]) hx hb dX8_worked_78 hl (by decide) rfl (fun ls hl => ?_)
      refine lv_aload_n hx hb dX8_worked_80 rfl (lv_at hl 3 rfl) ?_
      refine q_get C hP hY1 rfl inX8 10 (by decide) g1177 rfl dX8_worked_81 ?_
      refine lv_if_eq (tgt := 91) hx hb dX8_worked_84 (by decide) (fun _ => ?_) (fun c => absurd hfa c)
      have eX : X = (a.1, (oCa o (o.2.2.2.2.2.2.2.2.1 + nI 1)), xCons a r8 k.1, xCell k 1 0 (k.2.2.2.2.2.1 cc) (k.2.2.2.2.2.2.1 cc) r8) := by rw [← hX, xWork, if_pos e]; unfold xIter; dsimp only; rw [er8, if_neg (by simp)]; rfl
      obtain ⟨ep1, ep2⟩ := qPush1 hV (x := r8) (r := k.1)
      have eX1 : qP1 X.2.2.1 = qP1 (xCons a r8 k.1) := by rw [eX]
      have eX2 : qP2 X.2.2.1 = qP2 (xCons a r8 k.1) := by rw [eX]
      refine lv_aload_n hx hb dX8_worked_91 rfl (lv_at hl 3 rfl) ?_
      refine lv_lload hx hb dX8_worked_92 (lv_at hl 0 rfl) ?_
      refine lv_aload_n hx hb dX8_worked_94 rfl (lv_at hl 3 rfl) ?_
      refine lv_iconst (v := nI 1) hx hb dX8_worked_95 (by decide) ?_
      refine lv_iconst (v := nI 0) hx hb dX8_worked_96 (by decide) ?_
      refine lv_iload_n hx hb dX8_worked_97 rfl (lv_at hl 2 rfl) ?_
      refine lv_lload_n hx hb dX8_worked_98 rfl (lv_at hl 1 rfl) ?_
      refine lv_lload hx hb dX8_worked_99 (lv_at hl 0 rfl) ?_
      refine q_callV (rest := [.long r8, .ref y]) C (w_cell l D cy N0 hv1 y A (oCa o (o.2.2.2.2.2.2.2.2.1 + nI 1)) a k 1 0 (k.2.2.2.2.2.1 cc) (k.2.2.2.2.2.2.1 cc) r8 hS (by omega)) kX8_cell g1305 g1307 rfl gp47 g4 hP hS9 hY1 (by first | decide | omega) hl.1 rfl (by simp [q_catrf, q_cati, q_catl, q_cata, q_catn]) (by first | decide | omega) dX8_worked_101 (fun q ce E h' H1 locs1 hE => hE.elim) (fun v hh2 H locs hq hP hS9 => ?_)
      obtain ⟨rfl, Aq2, hSq2, hFq2⟩ := hq
      have nAq2 : ¬ Aq2 y := fun z => (hFq2.2.2 y z).elim nA (fun q => q _ hY1)
      replace hS := hSq2
      have hFt2 := hFt1.tr hFq2 nAq2
      obtain ⟨fi2, re2, rc2, rs2, so2, ot2, cn2, la2, F2, Rt2, Rc2, Rs2, So2, Ot2, Cn2, La2, hY2, ⟨s0_2, s1_2, s2_2, s3_2, s4_2, s5_2, s6_2, s7_2⟩, hg2_, hk2_, hz2_, hd2_, he2_, hA2_, hb2_⟩ := id hS
      replace hd2_ := fun _ : Unit => hd2_
      replace he2_ := fun _ : Unit => he2_
      unfold qYo at hY2
      dsimp only [oCa, oMv, oFa] at hY2
      refine q_callV (rest := []) C (w_cons l D cy N0 hh2 y Aq2 (oCa o (o.2.2.2.2.2.2.2.2.1 + nI 1)) a (xCell k 1 0 (k.2.2.2.2.2.1 cc) (k.2.2.2.2.2.2.1 cc) r8) r8 (k.1) hS (by omega)) kX8_cons g1315 g1317 rfl gp48 g4 hP hS9 hY2 (by first | decide | omega) hl.1 rfl (by decide) (by first | decide | omega) dX8_worked_104 (fun q ce E h' H1 locs1 hE => hE.elim) (fun v hh3 H locs hq hP hS9 => ?_)
      obtain ⟨rfl, Aq3, hSq3, hFq3⟩ := hq
      have nAq3 : ¬ Aq3 y := fun z => (hFq3.2.2 y z).elim nAq2 (fun q => q _ hY2)
      replace hS := hSq3
      have hFt3 := hFt2.tr hFq3 nAq3
      exact q_iret C hP hS9 ⟨by rw [eX], Aq3, by rw [eX]; exact hS, hFt3, nAq3⟩ (by omega) dX8_worked_107
    · replace hP : qP D N0 (qs hv1 y (.inr (8, [.ref o.1, .ref o.2.1, .ref o.2.2.1, .int o.2.2.2.2.2.2.1, .int o.2.2.2.2.2.2.2.1, .int ((o.2.2.2.2.2.2.2.2.1) + (nI 1)), .int o.2.2.2.2.2.2.2.2.2.1, .ref o.2.2.2.1, .ref o.2.2.2.2.1, .int o.2.2.2.2.2.2.2.2.2.2.1, .int 1, .ref fi1, .ref re1, .int (nI a.1), .ref rc1, .ref rs1, .ref so1, .ref ot1, .ref cn1, .ref la1, .int (nI k.1), .ref o.2.2.2.2.2.1, .int o.2.2.2.2.2.2.2.2.2.2.2.2]))) H := hP
      obtain ⟨hv2, ehv2⟩ : ∃ z : qH, z = qs hv1 y (.inr (8, [.ref o.1, .ref o.2.1, .ref o.2.2.1, .int o.2.2.2.2.2.2.1, .int o.2.2.2.2.2.2.2.1, .int ((o.2.2.2.2.2.2.2.2.1) + (nI 1)), .int o.2.2.2.2.2.2.2.2.2.1, .ref o.2.2.2.1, .ref o.2.2.2.2.1, .int o.2.2.2.2.2.2.2.2.2.2.1, .int 1, .ref fi1, .ref re1, .int (nI a.1), .ref rc1, .ref rs1, .ref so1, .ref ot1, .ref cn1, .ref la1, .int (nI k.1), .ref o.2.2.2.2.2.1, .int o.2.2.2.2.2.2.2.2.2.2.2.2])) := ⟨_, rfl⟩
      rw [← ehv2] at hP
      have khv2 : ∀ b o, b ≠ y → hv1 b = some o → hv2 b = some o := by rw [ehv2]; exact fun b o nb hb => (qs_ne nb).trans hb
      replace s0_1 := khv2 _ _ (fun q => by subst q; have := s0_1.symm.trans hY1; first | cases this | simp at this) s0_1
      replace s1_1 := khv2 _ _ (fun q => by subst q; have := s1_1.symm.trans hY1; first | cases this | simp at this) s1_1
      replace s2_1 := khv2 _ _ (fun q => by subst q; have := s2_1.symm.trans hY1; first | cases this | simp at this) s2_1
      replace s3_1 := khv2 _ _ (fun q => by subst q; have := s3_1.symm.trans hY1; first | cases this | simp at this) s3_1
      replace s4_1 := khv2 _ _ (fun q => by subst q; have := s4_1.symm.trans hY1; first | cases this | simp at this) s4_1
      replace s5_1 := khv2 _ _ (fun q => by subst q; have := s5_1.symm.trans hY1; first | cases this | simp at this) s5_1
      replace s6_1 := khv2 _ _ (fun q => by subst q; have := s6_1.symm.trans hY1; first | cases this | simp at this) s6_1
      replace s7_1 := khv2 _ _ (fun q => by subst q; have := s7_1.symm.trans hY1; first | cases this | simp at this) s7_1
      replace hY1 : hv2 y = some (.inr (8, [.ref o.1, .ref o.2.1, .ref o.2.2.1, .int o.2.2.2.2.2.2.1, .int o.2.2.2.2.2.2.2.1, .int ((o.2.2.2.2.2.2.2.2.1) + (nI 1)), .int o.2.2.2.2.2.2.2.2.2.1, .ref o.2.2.2.1, .ref o.2.2.2.2.1, .int o.2.2.2.2.2.2.2.2.2.2.1, .int 1, .ref fi1, .ref re1, .int (nI a.1), .ref rc1, .ref rs1, .ref so1, .ref ot1, .ref cn1, .ref la1, .int (nI k.1), .ref o.2.2.2.2.2.1, .int o.2.2.2.2.2.2.2.2.2.2.2.2])) := by rw [ehv2]; exact qs_self
      clear ehv2
      replace hS : qSy cy hv2 y A (oFa ((oCa o (o.2.2.2.2.2.2.2.2.1 + nI 1))) 1) a (k) := ⟨fi1, re1, rc1, rs1, so1, ot1, cn1, la1, F1, Rt1, Rc1, Rs1, So1, Ot1, Cn1, La1, hY1, ⟨s0_1, s1_1, s2_1, s3_1, s4_1, s5_1, s6_1, s7_1⟩, hg1_, hk1_, hz1_, (hd1_ ()), (he1_ ()), hA1_, hb1_⟩
      have hFq4 : qFy hv1 hv2 y A A := ⟨fun b o hb n1 n2 => khv2 b o n1 hb, fun _ z => z, fun _ z => Or.inl z⟩
      have hFt4 := hFt1.tr hFq4 nA
      refine lv_lstore (lv' := [(5, .long 0), (3, .long (k.2.2.2.2.2.2.1 cc)), (2, .int (nI (k.2.2.2.2.2.1 cc))), (0, .ref y), (1, .int (nI cc))]) hx hb dX8_worked_78 hl (by decide) rfl (fun ls hl => ?_)
      refine lv_aload_n hx hb dX8_worked_80 rfl (lv_at hl 3 rfl) ?_
      refine q_get C hP hY1 rfl inX8 10 (by decide) g1177 rfl dX8_worked_81 ?_
      refine lv_if_eq (tgt := 91) hx hb dX8_worked_84 (by decide) (fun c => absurd c (by decide)) (fun _ => ?_)
      have eX : X = (0, oFa (oCa o (o.2.2.2.2.2.2.2.2.1 + nI 1)) 1, a, k) := by rw [← hX, xWork, if_pos e]; unfold xIter; dsimp only; rw [if_pos er8]
      refine lv_iconst (v := nI 0) hx hb dX8_worked_87 (by decide) ?_
      refine lv_goto (tgt := 107) hx hb dX8_worked_88 (by decide) ?_
      exact q_iret C hP hS9 ⟨by rw [eX], A, by rw [eX]; exact hS, hFt4, nA⟩ (by omega) dX8_worked_107
  · rw [e]
    refine lv_tableIn (tgt := 108) (off := 88) hx hb dX8_worked_20 (by decide +kernel) (by decide +kernel) (by decide +kernel) (by decide) ?_
    refine lv_aload_n hx hb dX8_worked_108 rfl (lv_at hl 2 rfl) ?_
    refine lv_aload_n hx hb dX8_worked_109 rfl (lv_at hl 2 rfl) ?_
    refine q_get C hP hY1 rfl inX8 16 (by decide) g1183 rfl dX8_worked_110 ?_
    refine lv_iload_n hx hb dX8_worked_113 rfl (lv_at hl 3 rfl) ?_
    refine q_ialdN C hP s4_1 (by omega) (by omega) dX8_worked_114 ?_
    rw [(hk1_ cc (by omega)).2.2.1]
    refine lv_iload_n hx hb dX8_worked_115 rfl (lv_at hl 1 rfl) ?_
    have eX : X = xRow R (o, a, k) (k.2.2.2.2.1 cc) (k.2.2.2.2.2.1 cc) := by rw [← hX, xWork, if_neg (by dsimp only; omega), if_pos e]
    obtain ⟨ep1, ep2⟩ := xRow_P hV (R := R) (row := k.2.2.2.2.1 cc) (j := k.2.2.2.2.2.1 cc)
    rw [← eX] at ep1 ep2
    refine q_callV (rest := []) C (w_ofRow l D cy N0 h y A o a k R ad Rn (k.2.2.2.2.1 cc) (k.2.2.2.2.2.1 cc) hS nA hL hR (v4 e).1 (v4 e).2) kX8_ofRow g1343 g1345 rfl gp53 g4 hP hS9 hY1 (by first | decide | omega) hl.1 rfl (by decide) (by first | decide | omega) dX8_worked_116 (fun q ce E h' H1 locs1 hE => hE.elim) (fun v hh4 H locs hq hP hS9 => ?_)
    obtain ⟨rfl, Aq5, hSq5, hFq5, nAq5⟩ := hq
    replace hS := hSq5
    have hFt5 := hFq5
    exact q_iret C hP hS9 ⟨by rw [eX], Aq5, by rw [eX]; exact hS, hFt5, nAq5⟩ (by omega) dX8_worked_119
  · rw [e]
    refine lv_tableIn (tgt := 120) (off := 100) hx hb dX8_worked_20 (by decide +kernel) (by decide +kernel) (by decide +kernel) (by decide) ?_
    refine lv_aload_n hx hb dX8_worked_120 rfl (lv_at hl 2 rfl) ?_
    refine lv_aload_n hx hb dX8_worked_121 rfl (lv_at hl 2 rfl) ?_
    refine q_get C hP hY1 rfl inX8 16 (by decide) g1183 rfl dX8_worked_122 ?_
    refine lv_iload_n hx hb dX8_worked_125 rfl (lv_at hl 3 rfl) ?_
    refine q_ialdN C hP s4_1 (by omega) (by omega) dX8_worked_126 ?_
    rw [(hk1_ cc (by omega)).2.2.1]
    have so9 := v5 (by omega)
    obtain ⟨s2, o2, a2, k2, er9⟩ : ∃ z1 z2 z3 z4, F (o, a, k) (k.2.2.2.2.1 cc) = (z1, z2, z3, z4) := ⟨_, _, _, _, rfl⟩
    have hcall := hF h A o a k _ dp (k.2.2.2.2.1 cc) hS nA hR hV hfa so9.1 (by omega)
    rw [er9] at hcall
    dsimp only at hcall
    have st9 := hG _ dp (o, a, k) (k.2.2.2.2.1 cc) hV hfa so9.1 (by omega)
    rw [er9] at st9
    obtain ⟨dp2, d1, w2, d3, d4, d5, ⟨x6, y6, z6, e6⟩, d7⟩ := st9
    dsimp only at d1 d3 d4 d5 e6 d7
    have hX2 : X = if ¬ oFq o2 = 0 then (0, (o2, a2, k2)) else xThen F (k.2.2.1 cc) (k.2.2.2.2.2.1 cc) (k.2.2.2.2.2.2.1 cc) (o2, a2, k2) s2 := by rw [← hX, xWork, if_neg (by dsimp only; omega), if_neg (by dsimp only; omega)]; dsimp only; rw [er9]
    have hpm := qP_mono (a := a) (b := a2) (by omega) d4
    have hpX : qP1 a2 ≤ qP1 X.2.2.1 ∧ qP2 a2 ≤ qP2 X.2.2.1 := by
      rw [hX2]
      by_cases z : ¬ oFq o2 = 0
      · rw [if_pos z]; exact ⟨Nat.le_refl _, Nat.le_refl _⟩
      · rw [if_neg z]; have z2 := d5 (Decidable.not_not.mp z); exact qStp.P w2 (xThen_stp (dc := dp cc) hG w2 (Decidable.not_not.mp z) ⟨z2.1, by omega, by omega⟩ v6 v7 v8 (fun z => ⟨by have := (v9 z).1; show _ < a2.1; omega, by rw [d1 _ (v9 z).1]; exact (v9 z).2⟩) (by omega))
    refine q_callV (rest := []) C (hcall) kX8_force g1331 g1333 rfl gp50 g4 hP hS9 hY1 (by first | decide | omega) hl.1 rfl (by decide) (by first | decide | omega) dX8_worked_127 (fun q ce E h' H1 locs1 hE => hE.elim) (fun v hh5 H locs hq hP hS9 => ?_)
    obtain ⟨rfl, Aq6, hSq6, hFq6, nAq6⟩ := hq
    replace hS := hSq6
    have hRz2 := hR.keep hFq6 hY1
    replace hRz2 : qRz cy hh5 Aq6 o2.2.2.2.2.2.1 Rn R ad := by rw [e6]; exact hRz2
    have hFt6 := hFq6
    obtain ⟨fi3, re3, rc3, rs3, so3, ot3, cn3, la3, F3, Rt3, Rc3, Rs3, So3, Ot3, Cn3, La3, hY3, ⟨s0_3, s1_3, s2_3, s3_3, s4_3, s5_3, s6_3, s7_3⟩, hg3_, hk3_, hz3_, hd3_, he3_, hA3_, hb3_⟩ := id hS
    replace hd3_ := fun _ : Unit => hd3_
    replace he3_ := fun _ : Unit => he3_
    unfold qYo at hY3
    refine lv_istore (lv' := [(7, .int (nI s2)), (3, .long (k.2.2.2.2.2.2.1 cc)), (2, .int (nI (k.2.2.2.2.2.1 cc))), (0, .ref y), (1, .int (nI cc))]) hx hb dX8_worked_130 hl (by decide) rfl (fun ls hl => ?_)
    refine lv_aload_n hx hb dX8_worked_132 rfl (lv_at hl 3 rfl) ?_
    refine q_get C hP hY3 rfl inX8 10 (by decide) g1177 rfl dX8_worked_133 ?_
    refine lv_if_eq (tgt := 143) hx hb dX8_worked_136 (by decide) (fun cf => ?_) (fun cf => ?_)
    · have z2 := d5 cf
      have hL2 := (w2.L hB).1
      have hLn2 := (w2.L hB).2
      rw [if_neg (fun z => z cf), e] at hX2
      refine lv_aload_n hx hb dX8_worked_143 rfl (lv_at hl 3 rfl) ?_
      refine lv_iload hx hb dX8_worked_144 (lv_at hl 0 rfl) ?_
      refine lv_iload_n hx hb dX8_worked_146 rfl (lv_at hl 2 rfl) ?_
      refine lv_lload_n hx hb dX8_worked_147 rfl (lv_at hl 1 rfl) ?_
      have eX : X = xMap o2 a2 k2 s2 (k.2.2.2.2.2.1 cc) (k.2.2.2.2.2.2.1 cc) := by rw [hX2, xThen, if_pos rfl]
      obtain ⟨ep1, ep2⟩ := xMap_P w2 (s := s2) (n := k.2.2.2.2.2.1 cc) (c := k.2.2.2.2.2.2.1 cc)
      rw [← eX] at ep1 ep2
      refine q_callV (rest := []) C (w_mapped l D cy N0 hh5 y Aq6 o2 a2 k2 s2 (k.2.2.2.2.2.1 cc) (k.2.2.2.2.2.2.1 cc) hS nAq6 hL2 ⟨z2.1, by omega⟩ (v6 e) cf) kX8_mapped g1347 g1349 rfl gp54 g4 hP hS9 hY3 (by first | decide | omega) hl.1 rfl (by decide) (by first | decide | omega) dX8_worked_148 (fun q ce E h' H1 locs1 hE => hE.elim) (fun v hh6 H locs hq hP hS9 => ?_)
      obtain ⟨rfl, Aq7, hSq7, hFq7, nAq7⟩ := hq
      replace hS := hSq7
      have hFt7 := hFt6.tr hFq7 nAq7
      exact q_iret C hP hS9 ⟨by rw [eX], Aq7, by rw [eX]; exact hS, hFt7, nAq7⟩ (by omega) dX8_worked_151
    · rw [if_pos cf] at hX2
      have eX := hX2
      refine lv_iconst (v := nI 0) hx hb dX8_worked_139 (by decide) ?_
      refine lv_goto (tgt := 151) hx hb dX8_worked_140 (by decide) ?_
      exact q_iret C hP hS9 ⟨by rw [eX], Aq6, by rw [eX]; exact hS, hFt6, nAq6⟩ (by omega) dX8_worked_151
  · rw [e]
    refine lv_tableIn (tgt := 152) (off := 132) hx hb dX8_worked_20 (by decide +kernel) (by decide +kernel) (by decide +kernel) (by decide) ?_
    refine lv_aload_n hx hb dX8_worked_152 rfl (lv_at hl 2 rfl) ?_
    refine lv_aload_n hx hb dX8_worked_153 rfl (lv_at hl 2 rfl) ?_
    refine q_get C hP hY1 rfl inX8 16 (by decide) g1183 rfl dX8_worked_154 ?_
    refine lv_iload_n hx hb dX8_worked_157 rfl (lv_at hl 3 rfl) ?_
    refine q_ialdN C hP s4_1 (by omega) (by omega) dX8_worked_158 ?_
    rw [(hk1_ cc (by omega)).2.2.1]
    have so9 := v5 (by omega)
    obtain ⟨s2, o2, a2, k2, er9⟩ : ∃ z1 z2 z3 z4, F (o, a, k) (k.2.2.2.2.1 cc) = (z1, z2, z3, z4) := ⟨_, _, _, _, rfl⟩
    have hcall := hF h A o a k _ dp (k.2.2.2.2.1 cc) hS nA hR hV hfa so9.1 (by omega)
    rw [er9] at hcall
    dsimp only at hcall
    have st9 := hG _ dp (o, a, k) (k.2.2.2.2.1 cc) hV hfa so9.1 (by omega)
    rw [er9] at st9
    obtain ⟨dp2, d1, w2, d3, d4, d5, ⟨x6, y6, z6, e6⟩, d7⟩ := st9
    dsimp only at d1 d3 d4 d5 e6 d7
    have hX2 : X = if ¬ oFq o2 = 0 then (0, (o2, a2, k2)) else xThen F (k.2.2.1 cc) (k.2.2.2.2.2.1 cc) (k.2.2.2.2.2.2.1 cc) (o2, a2, k2) s2 := by rw [← hX, xWork, if_neg (by dsimp only; omega), if_neg (by dsimp only; omega)]; dsimp only; rw [er9]
    have hpm := qP_mono (a := a) (b := a2) (by omega) d4
    have hpX : qP1 a2 ≤ qP1 X.2.2.1 ∧ qP2 a2 ≤ qP2 X.2.2.1 := by
      rw [hX2]
      by_cases z : ¬ oFq o2 = 0
      · rw [if_pos z]; exact ⟨Nat.le_refl _, Nat.le_refl _⟩
      · rw [if_neg z]; have z2 := d5 (Decidable.not_not.mp z); exact qStp.P w2 (xThen_stp (dc := dp cc) hG w2 (Decidable.not_not.mp z) ⟨z2.1, by omega, by omega⟩ v6 v7 v8 (fun z => ⟨by have := (v9 z).1; show _ < a2.1; omega, by rw [d1 _ (v9 z).1]; exact (v9 z).2⟩) (by omega))
    refine q_callV (rest := []) C (hcall) kX8_force g1331 g1333 rfl gp50 g4 hP hS9 hY1 (by first | decide | omega) hl.1 rfl (by decide) (by first | decide | omega) dX8_worked_159 (fun q ce E h' H1 locs1 hE => hE.elim) (fun v hh7 H locs hq hP hS9 => ?_)
    obtain ⟨rfl, Aq8, hSq8, hFq8, nAq8⟩ := hq
    replace hS := hSq8
    have hRz2 := hR.keep hFq8 hY1
    replace hRz2 : qRz cy hh7 Aq8 o2.2.2.2.2.2.1 Rn R ad := by rw [e6]; exact hRz2
    have hFt8 := hFq8
    obtain ⟨fi4, re4, rc4, rs4, so4, ot4, cn4, la4, F4, Rt4, Rc4, Rs4, So4, Ot4, Cn4, La4, hY4, ⟨s0_4, s1_4, s2_4, s3_4, s4_4, s5_4, s6_4, s7_4⟩, hg4_, hk4_, hz4_, hd4_, he4_, hA4_, hb4_⟩ := id hS
    replace hd4_ := fun _ : Unit => hd4_
    replace he4_ := fun _ : Unit => he4_
    unfold qYo at hY4
    refine lv_istore (lv' := [(8, .int (nI s2)), (3, .long (k.2.2.2.2.2.2.1 cc)), (2, .int (nI (k.2.2.2.2.2.1 cc))), (0, .ref y), (1, .int (nI cc))]) hx hb dX8_worked_162 hl (by decide) rfl (fun ls hl => ?_)
    refine lv_aload_n hx hb dX8_worked_164 rfl (lv_at hl 3 rfl) ?_
    refine q_get C hP hY4 rfl inX8 10 (by decide) g1177 rfl dX8_worked_165 ?_
    refine lv_if_eq (tgt := 175) hx hb dX8_worked_168 (by decide) (fun cf => ?_) (fun cf => ?_)
    · have z2 := d5 cf
      have hL2 := (w2.L hB).1
      have hLn2 := (w2.L hB).2
      rw [if_neg (fun z => z cf), e] at hX2
      refine lv_aload_n hx hb dX8_worked_175 rfl (lv_at hl 3 rfl) ?_
      refine lv_iload hx hb dX8_worked_176 (lv_at hl 0 rfl) ?_
      refine lv_iload_n hx hb dX8_worked_178 rfl (lv_at hl 2 rfl) ?_
      refine lv_lload_n hx hb dX8_worked_179 rfl (lv_at hl 1 rfl) ?_
      have eX : X = xFilt F (k.2.2.2.2.2.1 cc) (k.2.2.2.2.2.2.1 cc) 1000 (o2, a2, k2) s2 := by rw [hX2, xThen, if_neg (by decide), if_pos rfl]
      refine q_callV (rest := []) C (w_filtered l D cy N0 hh7 y Aq8 o2 a2 k2 R ad Rn Bd sl d dp2 F s2 (k.2.2.2.2.2.1 cc) (k.2.2.2.2.2.2.1 cc) X hS nAq8 hRz2 w2 cf hB hF hG (v7 e) ⟨z2.1, by omega⟩ eX.symm) kX8_filtered g1351 g1353 rfl gp55 g4 hP hS9 hY4 (by first | decide | omega) hl.1 rfl (by decide) (by first | decide | omega) dX8_worked_180 (fun q ce E h' H1 locs1 hE => hE.elim) (fun v hh8 H locs hq hP hS9 => ?_)
      obtain ⟨rfl, Aq9, hSq9, hFq9, nAq9⟩ := hq
      replace hS := hSq9
      have hFt9 := hFt8.tr hFq9 nAq9
      exact q_iret C hP hS9 ⟨rfl, Aq9, hS, hFt9, nAq9⟩ (by omega) dX8_worked_183
    · rw [if_pos cf] at hX2
      have eX := hX2
      refine lv_iconst (v := nI 0) hx hb dX8_worked_171 (by decide) ?_
      refine lv_goto (tgt := 183) hx hb dX8_worked_172 (by decide) ?_
      exact q_iret C hP hS9 ⟨by rw [eX], Aq8, by rw [eX]; exact hS, hFt8, nAq8⟩ (by omega) dX8_worked_183
  · rw [e]
    refine lv_tableIn (tgt := 184) (off := 164) hx hb dX8_worked_20 (by decide +kernel) (by decide +kernel) (by decide +kernel) (by decide) ?_
    refine lv_aload_n hx hb dX8_worked_184 rfl (lv_at hl 2 rfl) ?_
    refine lv_aload_n hx hb dX8_worked_185 rfl (lv_at hl 2 rfl) ?_
    refine q_get C hP hY1 rfl inX8 16 (by decide) g1183 rfl dX8_worked_186 ?_
    refine lv_iload_n hx hb dX8_worked_189 rfl (lv_at hl 3 rfl) ?_
    refine q_ialdN C hP s4_1 (by omega) (by omega) dX8_worked_190 ?_
    rw [(hk1_ cc (by omega)).2.2.1]
    have so9 := v5 (by omega)
    obtain ⟨s2, o2, a2, k2, er9⟩ : ∃ z1 z2 z3 z4, F (o, a, k) (k.2.2.2.2.1 cc) = (z1, z2, z3, z4) := ⟨_, _, _, _, rfl⟩
    have hcall := hF h A o a k _ dp (k.2.2.2.2.1 cc) hS nA hR hV hfa so9.1 (by omega)
    rw [er9] at hcall
    dsimp only at hcall
    have st9 := hG _ dp (o, a, k) (k.2.2.2.2.1 cc) hV hfa so9.1 (by omega)
    rw [er9] at st9
    obtain ⟨dp2, d1, w2, d3, d4, d5, ⟨x6, y6, z6, e6⟩, d7⟩ := st9
    dsimp only at d1 d3 d4 d5 e6 d7
    have hX2 : X = if ¬ oFq o2 = 0 then (0, (o2, a2, k2)) else xThen F (k.2.2.1 cc) (k.2.2.2.2.2.1 cc) (k.2.2.2.2.2.2.1 cc) (o2, a2, k2) s2 := by rw [← hX, xWork, if_neg (by dsimp only; omega), if_neg (by dsimp only; omega)]; dsimp only; rw [er9]
    have hpm := qP_mono (a := a) (b := a2) (by omega) d4
    have hpX : qP1 a2 ≤ qP1 X.2.2.1 ∧ qP2 a2 ≤ qP2 X.2.2.1 := by
      rw [hX2]
      by_cases z : ¬ oFq o2 = 0
      · rw [if_pos z]; exact ⟨Nat.le_refl _, Nat.le_refl _⟩
      · rw [if_neg z]; have z2 := d5 (Decidable.not_not.mp z); exact qStp.P w2 (xThen_stp (dc := dp cc) hG w2 (Decidable.not_not.mp z) ⟨z2.1, by omega, by omega⟩ v6 v7 v8 (fun z => ⟨by have := (v9 z).1; show _ < a2.1; omega, by rw [d1 _ (v9 z).1]; exact (v9 z).2⟩) (by omega))
    refine q_callV (rest := []) C (hcall) kX8_force g1331 g1333 rfl gp50 g4 hP hS9 hY1 (by first | decide | omega) hl.1 rfl (by decide) (by first | decide | omega) dX8_worked_191 (fun q ce E h' H1 locs1 hE => hE.elim) (fun v hh9 H locs hq hP hS9 => ?_)
    obtain ⟨rfl, Aq10, hSq10, hFq10, nAq10⟩ := hq
    replace hS := hSq10
    have hRz2 := hR.keep hFq10 hY1
    replace hRz2 : qRz cy hh9 Aq10 o2.2.2.2.2.2.1 Rn R ad := by rw [e6]; exact hRz2
    have hFt10 := hFq10
    obtain ⟨fi5, re5, rc5, rs5, so5, ot5, cn5, la5, F5, Rt5, Rc5, Rs5, So5, Ot5, Cn5, La5, hY5, ⟨s0_5, s1_5, s2_5, s3_5, s4_5, s5_5, s6_5, s7_5⟩, hg5_, hk5_, hz5_, hd5_, he5_, hA5_, hb5_⟩ := id hS
    replace hd5_ := fun _ : Unit => hd5_
    replace he5_ := fun _ : Unit => he5_
    unfold qYo at hY5
    refine lv_istore (lv' := [(9, .int (nI s2)), (3, .long (k.2.2.2.2.2.2.1 cc)), (2, .int (nI (k.2.2.2.2.2.1 cc))), (0, .ref y), (1, .int (nI cc))]) hx hb dX8_worked_194 hl (by decide) rfl (fun ls hl => ?_)
    refine lv_aload_n hx hb dX8_worked_196 rfl (lv_at hl 3 rfl) ?_
    refine q_get C hP hY5 rfl inX8 10 (by decide) g1177 rfl dX8_worked_197 ?_
    refine lv_if_eq (tgt := 207) hx hb dX8_worked_200 (by decide) (fun cf => ?_) (fun cf => ?_)
    · have z2 := d5 cf
      have hL2 := (w2.L hB).1
      have hLn2 := (w2.L hB).2
      rw [if_neg (fun z => z cf), e] at hX2
      refine lv_aload_n hx hb dX8_worked_207 rfl (lv_at hl 3 rfl) ?_
      refine lv_iload hx hb dX8_worked_208 (lv_at hl 0 rfl) ?_
      refine lv_iload_n hx hb dX8_worked_210 rfl (lv_at hl 2 rfl) ?_
      have eX : X = ((xTak a2 k2 s2 (k.2.2.2.2.2.1 cc)).1, o2, (xTak a2 k2 s2 (k.2.2.2.2.2.1 cc)).2) := by rw [hX2, xThen, if_neg (by decide), if_neg (by decide), if_pos rfl]
      obtain ⟨ep1, ep2⟩ := xTak_P w2 (s := s2) (n := k.2.2.2.2.2.1 cc)
      have eX1 : X.2.2.1 = (xTak a2 k2 s2 (k.2.2.2.2.2.1 cc)).2.1 := by rw [eX]
      rw [← eX1] at ep1 ep2
      refine q_callV (rest := []) C (w_taken l D cy N0 hh9 y Aq10 o2 a2 k2 s2 (k.2.2.2.2.2.1 cc) hS nAq10 hL2 ⟨z2.1, by omega⟩ (v8 e)) kX8_taken g1359 g1361 rfl gp57 g4 hP hS9 hY5 (by first | decide | omega) hl.1 rfl (by decide) (by first | decide | omega) dX8_worked_211 (fun q ce E h' H1 locs1 hE => hE.elim) (fun v hh10 H locs hq hP hS9 => ?_)
      obtain ⟨rfl, Aq11, hSq11, hFq11, nAq11⟩ := hq
      replace hS := hSq11
      have hFt11 := hFt10.tr hFq11 nAq11
      exact q_iret C hP hS9 ⟨by rw [eX], Aq11, by rw [eX]; exact hS, hFt11, nAq11⟩ (by omega) dX8_worked_214
    · rw [if_pos cf] at hX2
      have eX := hX2
      refine lv_iconst (v := nI 0) hx hb dX8_worked_203 (by decide) ?_
      refine lv_goto (tgt := 214) hx hb dX8_worked_204 (by decide) ?_
      exact q_iret C hP hS9 ⟨by rw [eX], Aq10, by rw [eX]; exact hS, hFt10, nAq10⟩ (by omega) dX8_worked_214
  · rw [e]
    refine lv_tableOut (tgt := 215) hx hb dX8_worked_20 (by decide +kernel) (by decide) ?_
    refine lv_aload_n hx hb dX8_worked_215 rfl (lv_at hl 2 rfl) ?_
    refine lv_aload_n hx hb dX8_worked_216 rfl (lv_at hl 2 rfl) ?_
    refine q_get C hP hY1 rfl inX8 16 (by decide) g1183 rfl dX8_worked_217 ?_
    refine lv_iload_n hx hb dX8_worked_220 rfl (lv_at hl 3 rfl) ?_
    refine q_ialdN C hP s4_1 (by omega) (by omega) dX8_worked_221 ?_
    rw [(hk1_ cc (by omega)).2.2.1]
    have so9 := v5 (by omega)
    obtain ⟨s2, o2, a2, k2, er9⟩ : ∃ z1 z2 z3 z4, F (o, a, k) (k.2.2.2.2.1 cc) = (z1, z2, z3, z4) := ⟨_, _, _, _, rfl⟩
    have hcall := hF h A o a k _ dp (k.2.2.2.2.1 cc) hS nA hR hV hfa so9.1 (by omega)
    rw [er9] at hcall
    dsimp only at hcall
    have st9 := hG _ dp (o, a, k) (k.2.2.2.2.1 cc) hV hfa so9.1 (by omega)
    rw [er9] at st9
    obtain ⟨dp2, d1, w2, d3, d4, d5, ⟨x6, y6, z6, e6⟩, d7⟩ := st9
    dsimp only at d1 d3 d4 d5 e6 d7
    have hX2 : X = if ¬ oFq o2 = 0 then (0, (o2, a2, k2)) else xThen F (k.2.2.1 cc) (k.2.2.2.2.2.1 cc) (k.2.2.2.2.2.2.1 cc) (o2, a2, k2) s2 := by rw [← hX, xWork, if_neg (by dsimp only; omega), if_neg (by dsimp only; omega)]; dsimp only; rw [er9]
    have hpm := qP_mono (a := a) (b := a2) (by omega) d4
    have hpX : qP1 a2 ≤ qP1 X.2.2.1 ∧ qP2 a2 ≤ qP2 X.2.2.1 := by
      rw [hX2]
      by_cases z : ¬ oFq o2 = 0
      · rw [if_pos z]; exact ⟨Nat.le_refl _, Nat.le_refl _⟩
      · rw [if_neg z]; have z2 := d5 (Decidable.not_not.mp z); exact qStp.P w2 (xThen_stp (dc := dp cc) hG w2 (Decidable.not_not.mp z) ⟨z2.1, by omega, by omega⟩ v6 v7 v8 (fun z => ⟨by have := (v9 z).1; show _ < a2.1; omega, by rw [d1 _ (v9 z).1]; exact (v9 z).2⟩) (by omega))
    refine q_callV (rest := []) C (hcall) kX8_force g1331 g1333 rfl gp50 g4 hP hS9 hY1 (by first | decide | omega) hl.1 rfl (by decide) (by first | decide | omega) dX8_worked_222 (fun q ce E h' H1 locs1 hE => hE.elim) (fun v hh11 H locs hq hP hS9 => ?_)
    obtain ⟨rfl, Aq12, hSq12, hFq12, nAq12⟩ := hq
    replace hS := hSq12
    have hRz2 := hR.keep hFq12 hY1
    replace hRz2 : qRz cy hh11 Aq12 o2.2.2.2.2.2.1 Rn R ad := by rw [e6]; exact hRz2
    have hFt12 := hFq12
    obtain ⟨fi6, re6, rc6, rs6, so6, ot6, cn6, la6, F6, Rt6, Rc6, Rs6, So6, Ot6, Cn6, La6, hY6, ⟨s0_6, s1_6, s2_6, s3_6, s4_6, s5_6, s6_6, s7_6⟩, hg6_, hk6_, hz6_, hd6_, he6_, hA6_, hb6_⟩ := id hS
    replace hd6_ := fun _ : Unit => hd6_
    replace he6_ := fun _ : Unit => he6_
    unfold qYo at hY6
    refine lv_istore (lv' := [(10, .int (nI s2)), (3, .long (k.2.2.2.2.2.2.1 cc)), (2, .int (nI (k.2.2.2.2.2.1 cc))), (0, .ref y), (1, .int (nI cc))]) hx hb dX8_worked_225 hl (by decide) rfl (fun ls hl => ?_)
    refine lv_aload_n hx hb dX8_worked_227 rfl (lv_at hl 3 rfl) ?_
    refine q_get C hP hY6 rfl inX8 10 (by decide) g1177 rfl dX8_worked_228 ?_
    refine lv_if_eq (tgt := 238) hx hb dX8_worked_231 (by decide) (fun cf => ?_) (fun cf => ?_)
    · have z2 := d5 cf
      have hL2 := (w2.L hB).1
      have hLn2 := (w2.L hB).2
      rw [if_neg (fun z => z cf), e] at hX2
      refine lv_aload_n hx hb dX8_worked_238 rfl (lv_at hl 3 rfl) ?_
      refine lv_iload hx hb dX8_worked_239 (lv_at hl 0 rfl) ?_
      refine lv_iload_n hx hb dX8_worked_241 rfl (lv_at hl 2 rfl) ?_
      have eX : X = ((xJoin a2 k2 s2 (k.2.2.2.2.2.1 cc)).1, o2, (xJoin a2 k2 s2 (k.2.2.2.2.2.1 cc)).2) := by rw [hX2, xThen, if_neg (by decide), if_neg (by decide), if_neg (by decide)]
      obtain ⟨ep1, ep2⟩ := xJoin_P w2 (s := s2) (n := k.2.2.2.2.2.1 cc)
      have eX1 : X.2.2.1 = (xJoin a2 k2 s2 (k.2.2.2.2.2.1 cc)).2.1 := by rw [eX]
      rw [← eX1] at ep1 ep2
      refine q_callV (rest := []) C (w_joined l D cy N0 hh11 y Aq12 o2 a2 k2 s2 (k.2.2.2.2.2.1 cc) hS nAq12 hL2 ⟨z2.1, by omega⟩ (by have := (v9 e).1; omega)) kX8_joined g1363 g1365 rfl gp58 g4 hP hS9 hY6 (by first | decide | omega) hl.1 rfl (by decide) (by first | decide | omega) dX8_worked_242 (fun q ce E h' H1 locs1 hE => hE.elim) (fun v hh12 H locs hq hP hS9 => ?_)
      obtain ⟨rfl, Aq13, hSq13, hFq13, nAq13⟩ := hq
      replace hS := hSq13
      have hFt13 := hFt12.tr hFq13 nAq13
      exact q_iret C hP hS9 ⟨by rw [eX], Aq13, by rw [eX]; exact hS, hFt13, nAq13⟩ (by omega) dX8_worked_245
    · rw [if_pos cf] at hX2
      have eX := hX2
      refine lv_iconst (v := nI 0) hx hb dX8_worked_234 (by decide) ?_
      refine lv_goto (tgt := 245) hx hb dX8_worked_235 (by decide) ?_
      exact q_iret C hP hS9 ⟨by rw [eX], Aq12, by rw [eX]; exact hS, hFt12, nAq12⟩ (by omega) dX8_worked_245
