theorem dX8_number_0 : decode cX8_number 0 = .ok (.iload_n 1, 1) := by decide +kernel
theorem dX8_number_1 : decode cX8_number 1 = .ok (.bipush 6, 2) := by decide +kernel
theorem dX8_number_3 : decode cX8_number 3 = .ok (.if_icmp .ne 10, 3) := by decide +kernel
theorem dX8_number_6 : decode cX8_number 6 = .ok (.iload_n 0, 1) := by decide +kernel
theorem dX8_number_7 : decode cX8_number 7 = .ok (.bipush 30, 2) := by decide +kernel
theorem dX8_number_9 : decode cX8_number 9 = .ok (.iushr, 1) := by decide +kernel
theorem dX8_number_10 : decode cX8_number 10 = .ok (.goto 11, 3) := by decide +kernel
theorem dX8_number_13 : decode cX8_number 13 = .ok (.iload_n 0, 1) := by decide +kernel
theorem dX8_number_14 : decode cX8_number 14 = .ok (.iconst 5, 1) := by decide +kernel
theorem dX8_number_15 : decode cX8_number 15 = .ok (.iload_n 1, 1) := by decide +kernel
theorem dX8_number_16 : decode cX8_number 16 = .ok (.imul, 1) := by decide +kernel
theorem dX8_number_17 : decode cX8_number 17 = .ok (.iushr, 1) := by decide +kernel
theorem dX8_number_18 : decode cX8_number 18 = .ok (.bipush 31, 2) := by decide +kernel
theorem dX8_number_20 : decode cX8_number 20 = .ok (.iand, 1) := by decide +kernel
theorem dX8_number_21 : decode cX8_number 21 = .ok (.ireturn, 1) := by decide +kernel
set_option maxRecDepth 100000 in
set_option maxHeartbeats 4000000 in
theorem c_X8_number (l : Launch) (D : va_G) (cy : Nat → ClassId) (N0 : Nat) (h : qH) (k : Int64) (m9 : Int32) (d : Nat) (hd : d ≤ 6) : qC l D cy N0 yX8_number cX8_number 2 (some .int) 0 0 0 0 [.int (k.toInt32 &&& m9), .int (nI d)] h (fun v h' => v = some (.int (nI (thN m9 d k))) ∧ h = h') (fun E h' => False) := by
  refine q_ofW (by decide) (by exact Nat.le_of_ble_eq_true rfl) ?_
  intro p e s m below meth c ls C hP hl
  have hx := C.1
  have hb := C.2.1
  have hS : va_S (qA N0) s.heap s.heap [] := va_S.rf
  have hl : lv_has ls 2 [(0, .int (k.toInt32 &&& m9)), (1, .int (nI d))] := hl
  refine lv_iload_n hx hb dX8_number_0 rfl (lv_at hl 1 rfl) ?_
  refine lv_bipush (v := nI 6) hx hb dX8_number_1 (by decide) ?_
  refine lv_icmp_ne (tgt := 13) hx hb dX8_number_3 (by decide) (fun c3 => ?_) (fun c3 => ?_)
  · replace c3 : ¬ d = 6 := fun zq => c3 ((nI_eq (a := d) (b := 6) (by omega) (by omega)).mpr zq)
    refine lv_iload_n hx hb dX8_number_13 rfl (lv_at hl 0 rfl) ?_
    refine lv_iconst (v := nI 5) hx hb dX8_number_14 (by decide) ?_
    refine lv_iload_n hx hb dX8_number_15 rfl (lv_at hl 1 rfl) ?_
    refine q_imulN hx hb dX8_number_16 ?_
    refine lv_iushr hx hb dX8_number_17 rfl ?_
    refine lv_bipush (v := nI 31) hx hb dX8_number_18 (by decide) ?_
    refine lv_iand hx hb dX8_number_20 ?_
    exact q_iret C hP hS ⟨by rw [numd (by omega)], rfl⟩ (by omega) dX8_number_21
  · replace c3 : d = 6 := (nI_eq (a := d) (b := 6) (by omega) (by omega)).mp c3
    refine lv_iload_n hx hb dX8_number_6 rfl (lv_at hl 0 rfl) ?_
    refine lv_bipush (v := nI 30) hx hb dX8_number_7 (by decide) ?_
    refine lv_iushr hx hb dX8_number_9 rfl ?_
    refine lv_goto (tgt := 21) hx hb dX8_number_10 (by decide) ?_
    have e6 : d = 6 := by omega
    subst e6
    exact q_iret C hP hS ⟨by rw [num6], rfl⟩ (by omega) dX8_number_21
theorem qU_ne2 {α : Type} {f : Nat → α} {i j : Nat} {x : α} (h : j < i) : qU f i x j = f j := if_neg (by omega)
theorem upd_ne9 {f : Nat → Int32} {k j : Nat} {x : Int32} (h : j ≠ k) : upd f k x j = f j := if_neg h
theorem upd_at9 {f : Nat → Int32} {k : Nat} {x : Int32} : upd f k x k = x := if_pos rfl
theorem qU_qU9 {α : Type} {f : Nat → α} {i : Nat} {x z : α} : qU (qU f i x) i z = qU f i z := by
  funext j
  unfold qU
  split <;> rfl
theorem insB {S : qKV} {at9 : Nat} {g7 : Nat → Int32} {px : Int64 × Int64} {w z : Int32} (ha : at9 ≤ S.length) (_e : w = z) (b1 : ∀ q p, q < at9 → S[q]? = some p → g7 q = ix9 p) (b2 : ∀ q p, at9 ≤ q → S[q]? = some p → g7 (q + 1) = ix9 p) (hz : z = ix9 px) {q : Nat} {p : Int64 × Int64} (e : (S.take at9 ++ px :: S.drop at9)[q]? = some p) : upd g7 at9 z q = ix9 p := by
  rcases Nat.lt_trichotomy q at9 with c | c | c
  · rw [List.getElem?_append_left (by rw [List.length_take]; omega), List.getElem?_take_of_lt c] at e
    rw [upd_ne9 (by omega)]
    exact b1 q p c e
  · subst c
    rw [List.getElem?_append_right (by rw [List.length_take]; omega), List.length_take, show q - min q S.length = 0 by omega] at e
    cases e
    rw [upd_at9, hz]
  · rw [List.getElem?_append_right (by rw [List.length_take]; omega), List.length_take, show q - min at9 S.length = (q - 1 - at9) + 1 by omega, List.getElem?_cons_succ, List.getElem?_drop, show at9 + (q - 1 - at9) = q - 1 by omega] at e
    rw [upd_ne9 (by omega), ← b2 (q - 1) p (by omega) e, show q - 1 + 1 = q by omega]
theorem bits_or {p : Nat → Bool} {v : Nat} (hv : v < 32) (hp : p v = true) : nI (tqB p v) ||| (nI 1 <<< (nI v &&& 31)) = nI (tqB p (v + 1)) := by
  have e : nI 1 <<< (nI v &&& 31) = nI (2 ^ v) := nI_shl hv
  rw [e, nI_or, Nat.or_comm, show 2 ^ v = 2 ^ v * 1 by omega, ← Nat.two_pow_add_eq_or_of_lt (tqB_lt v), Nat.mul_one]
  show _ = nI (tqB p v + _)
  rw [if_pos hp, Nat.add_comm]
theorem bits_no {p : Nat → Bool} {v : Nat} (hp : p v = false) : tqB p (v + 1) = tqB p v := by
  show tqB p v + _ = _
  rw [if_neg (by rw [hp]; decide), Nat.add_zero]
/-- keys that stand alone, up to a number; nodes' keys, up to a number; their SHAPES -/
def thAv (m : Int32) (d : Nat) (L : qKV) (v : Nat) : qKV := (List.range v).flatMap (thF m d L)
def thBv (m : Int32) (r : Nat) (L : qKV) (v : Nat) : qKV := trK m (r + 1) L ++ (List.range v).flatMap (fun u => if thM m (6 - r) L u = true then thT m r (thK m (6 - r) u L) else [])
def thSv (m : Int32) (r : Nat) (L : qKV) (v : Nat) : Nat := ((List.range v).flatMap (thG m (6 - r) L)).foldl (fun s v => 31 * s + thSh m r (thK m (6 - r) v L)) (31 * (31 * 17 + trKb m (r + 1) L) + trNb m (r + 1) L)
theorem thAv_s {m : Int32} {d : Nat} {L : qKV} {v : Nat} : thAv m d L (v + 1) = thAv m d L v ++ thF m d L v := by
  unfold thAv
  rw [List.range_succ, List.flatMap_append, List.flatMap_cons, List.flatMap_nil, List.append_nil]
theorem thBv_s {m : Int32} {r : Nat} {L : qKV} {v : Nat} : thBv m r L (v + 1) = thBv m r L v ++ (if thM m (6 - r) L v = true then thT m r (thK m (6 - r) v L) else []) := by
  unfold thBv
  rw [List.range_succ, List.flatMap_append, List.flatMap_cons, List.flatMap_nil, List.append_nil, List.append_assoc]
theorem thSv_s {m : Int32} {r : Nat} {L : qKV} {v : Nat} : thSv m r L (v + 1) = if thM m (6 - r) L v = true then 31 * thSv m r L v + thSh m r (thK m (6 - r) v L) else thSv m r L v := by
  unfold thSv
  rw [List.range_succ, List.flatMap_append, List.foldl_append, List.flatMap_cons, List.flatMap_nil, List.append_nil]
  unfold thG
  split <;> rfl
theorem thBv_le {m : Int32} {r : Nat} {L : qKV} : ∀ n v : Nat, v + n = 32 → (thBv m r L v).length ≤ L.length
  | 0, v, h => by
    rw [show v = 32 by omega, show thBv m r L 32 = thT m (r + 1) L from rfl, thT_len]
    exact Nat.le_refl _
  | n + 1, v, h => by
    have := thBv_le (m := m) (r := r) (L := L) n (v + 1) (by omega)
    rw [thBv_s, List.length_append] at this
    omega
theorem thAv_le {m : Int32} {r : Nat} {L : qKV} : ∀ n v : Nat, v + n = 32 → (thAv m (6 - r) L v).length ≤ L.length
  | 0, v, h => by
    rw [show v = 32 by omega, show thAv m (6 - r) L 32 = trK m (r + 1) L from rfl]
    exact trK_len
  | n + 1, v, h => by
    have := thAv_le (m := m) (r := r) (L := L) n (v + 1) (by omega)
    rw [thAv_s, List.length_append] at this
    omega
theorem appG {B : qKV} {g : Nat → Int32} {p0 : Int64 × Int64} (h : ∀ q p, B[q]? = some p → g q = ix9 p) {q : Nat} {p : Int64 × Int64} (e : (B ++ [p0])[q]? = some p) : upd g B.length (ix9 p0) q = ix9 p := by
  by_cases c : q < B.length
  · rw [List.getElem?_append_left c] at e
    rw [upd_ne9 (by omega)]
    exact h q p e
  · rw [List.getElem?_append_right (by omega)] at e
    have hz := (List.getElem?_eq_some_iff.mp e).1
    simp at hz
    have hq : q = B.length := by omega
    subst hq
    rw [Nat.sub_self] at e
    cases e
    exact upd_at9
theorem dX8_node_0 : decode cX8_node 0 = .ok (.aload_n 0, 1) := by decide +kernel
theorem dX8_node_1 : decode cX8_node 1 = .ok (.getfield 29, 3) := by decide +kernel
theorem dX8_node_4 : decode cX8_node 4 = .ok (.iload_n 2, 1) := by decide +kernel
theorem dX8_node_5 : decode cX8_node 5 = .ok (.aaload, 1) := by decide +kernel
theorem dX8_node_6 : decode cX8_node 6 = .ok (.astore 4, 2) := by decide +kernel
theorem dX8_node_8 : decode cX8_node 8 = .ok (.iload_n 2, 1) := by decide +kernel
theorem dX8_node_9 : decode cX8_node 9 = .ok (.bipush 7, 2) := by decide +kernel
theorem dX8_node_11 : decode cX8_node 11 = .ok (.if_icmp .ne 126, 3) := by decide +kernel
theorem dX8_node_14 : decode cX8_node 14 = .ok (.iconst 0, 1) := by decide +kernel
theorem dX8_node_15 : decode cX8_node 15 = .ok (.istore 5, 2) := by decide +kernel
theorem dX8_node_17 : decode cX8_node 17 = .ok (.iload 5, 2) := by decide +kernel
theorem dX8_node_19 : decode cX8_node 19 = .ok (.iload_n 3, 1) := by decide +kernel
theorem dX8_node_20 : decode cX8_node 20 = .ok (.if_icmp .ge 73, 3) := by decide +kernel
theorem dX8_node_23 : decode cX8_node 23 = .ok (.aload 4, 2) := by decide +kernel
theorem dX8_node_25 : decode cX8_node 25 = .ok (.iload 5, 2) := by decide +kernel
theorem dX8_node_27 : decode cX8_node 27 = .ok (.iaload, 1) := by decide +kernel
theorem dX8_node_28 : decode cX8_node 28 = .ok (.istore 6, 2) := by decide +kernel
theorem dX8_node_30 : decode cX8_node 30 = .ok (.iload 5, 2) := by decide +kernel
theorem dX8_node_32 : decode cX8_node 32 = .ok (.istore 7, 2) := by decide +kernel
theorem dX8_node_34 : decode cX8_node 34 = .ok (.iload 7, 2) := by decide +kernel
theorem dX8_node_36 : decode cX8_node 36 = .ok (.ifCond .le 44, 3) := by decide +kernel
theorem dX8_node_39 : decode cX8_node 39 = .ok (.aload_n 1, 1) := by decide +kernel
theorem dX8_node_40 : decode cX8_node 40 = .ok (.getfield 90, 3) := by decide +kernel
theorem dX8_node_43 : decode cX8_node 43 = .ok (.aload 4, 2) := by decide +kernel
theorem dX8_node_45 : decode cX8_node 45 = .ok (.iload 7, 2) := by decide +kernel
theorem dX8_node_47 : decode cX8_node 47 = .ok (.iconst 1, 1) := by decide +kernel
theorem dX8_node_48 : decode cX8_node 48 = .ok (.isub, 1) := by decide +kernel
theorem dX8_node_49 : decode cX8_node 49 = .ok (.iaload, 1) := by decide +kernel
theorem dX8_node_50 : decode cX8_node 50 = .ok (.laload, 1) := by decide +kernel
theorem dX8_node_51 : decode cX8_node 51 = .ok (.aload_n 1, 1) := by decide +kernel
theorem dX8_node_52 : decode cX8_node 52 = .ok (.getfield 90, 3) := by decide +kernel
theorem dX8_node_55 : decode cX8_node 55 = .ok (.iload 6, 2) := by decide +kernel
theorem dX8_node_57 : decode cX8_node 57 = .ok (.laload, 1) := by decide +kernel
theorem dX8_node_58 : decode cX8_node 58 = .ok (.lcmp, 1) := by decide +kernel
theorem dX8_node_59 : decode cX8_node 59 = .ok (.ifCond .le 21, 3) := by decide +kernel
theorem dX8_node_62 : decode cX8_node 62 = .ok (.aload 4, 2) := by decide +kernel
theorem dX8_node_64 : decode cX8_node 64 = .ok (.iload 7, 2) := by decide +kernel
theorem dX8_node_66 : decode cX8_node 66 = .ok (.aload 4, 2) := by decide +kernel
theorem dX8_node_68 : decode cX8_node 68 = .ok (.iload 7, 2) := by decide +kernel
theorem dX8_node_70 : decode cX8_node 70 = .ok (.iconst 1, 1) := by decide +kernel
theorem dX8_node_71 : decode cX8_node 71 = .ok (.isub, 1) := by decide +kernel
theorem dX8_node_72 : decode cX8_node 72 = .ok (.iaload, 1) := by decide +kernel
theorem dX8_node_73 : decode cX8_node 73 = .ok (.iastore, 1) := by decide +kernel
theorem dX8_node_74 : decode cX8_node 74 = .ok (.iinc 7 (-1), 3) := by decide +kernel
theorem dX8_node_77 : decode cX8_node 77 = .ok (.goto (-43), 3) := by decide +kernel
theorem dX8_node_80 : decode cX8_node 80 = .ok (.aload 4, 2) := by decide +kernel
theorem dX8_node_82 : decode cX8_node 82 = .ok (.iload 7, 2) := by decide +kernel
theorem dX8_node_84 : decode cX8_node 84 = .ok (.iload 6, 2) := by decide +kernel
theorem dX8_node_86 : decode cX8_node 86 = .ok (.iastore, 1) := by decide +kernel
theorem dX8_node_87 : decode cX8_node 87 = .ok (.iinc 5 1, 3) := by decide +kernel
theorem dX8_node_90 : decode cX8_node 90 = .ok (.goto (-73), 3) := by decide +kernel
theorem dX8_node_93 : decode cX8_node 93 = .ok (.iconst 0, 1) := by decide +kernel
theorem dX8_node_94 : decode cX8_node 94 = .ok (.istore 5, 2) := by decide +kernel
theorem dX8_node_96 : decode cX8_node 96 = .ok (.iload 5, 2) := by decide +kernel
theorem dX8_node_98 : decode cX8_node 98 = .ok (.iload_n 3, 1) := by decide +kernel
theorem dX8_node_99 : decode cX8_node 99 = .ok (.if_icmp .ge 33, 3) := by decide +kernel
theorem dX8_node_102 : decode cX8_node 102 = .ok (.aload_n 0, 1) := by decide +kernel
theorem dX8_node_103 : decode cX8_node 103 = .ok (.getfield 23, 3) := by decide +kernel
theorem dX8_node_106 : decode cX8_node 106 = .ok (.aload_n 0, 1) := by decide +kernel
theorem dX8_node_107 : decode cX8_node 107 = .ok (.getfield 171, 3) := by decide +kernel
theorem dX8_node_110 : decode cX8_node 110 = .ok (.aload 4, 2) := by decide +kernel
theorem dX8_node_112 : decode cX8_node 112 = .ok (.iload 5, 2) := by decide +kernel
theorem dX8_node_114 : decode cX8_node 114 = .ok (.iaload, 1) := by decide +kernel
theorem dX8_node_115 : decode cX8_node 115 = .ok (.iastore, 1) := by decide +kernel
theorem dX8_node_116 : decode cX8_node 116 = .ok (.aload_n 0, 1) := by decide +kernel
theorem dX8_node_117 : decode cX8_node 117 = .ok (.dup, 1) := by decide +kernel
theorem dX8_node_118 : decode cX8_node 118 = .ok (.getfield 171, 3) := by decide +kernel
theorem dX8_node_121 : decode cX8_node 121 = .ok (.iconst 1, 1) := by decide +kernel
theorem dX8_node_122 : decode cX8_node 122 = .ok (.iadd, 1) := by decide +kernel
theorem dX8_node_123 : decode cX8_node 123 = .ok (.putfield 171, 3) := by decide +kernel
theorem dX8_node_126 : decode cX8_node 126 = .ok (.iinc 5 1, 3) := by decide +kernel
theorem dX8_node_129 : decode cX8_node 129 = .ok (.goto (-33), 3) := by decide +kernel
theorem dX8_node_132 : decode cX8_node 132 = .ok (.bipush 7, 2) := by decide +kernel
theorem dX8_node_134 : decode cX8_node 134 = .ok (.iload_n 3, 1) := by decide +kernel
theorem dX8_node_135 : decode cX8_node 135 = .ok (.iadd, 1) := by decide +kernel
theorem dX8_node_136 : decode cX8_node 136 = .ok (.ireturn, 1) := by decide +kernel
theorem dX8_node_137 : decode cX8_node 137 = .ok (.iconst 0, 1) := by decide +kernel
theorem dX8_node_138 : decode cX8_node 138 = .ok (.istore 5, 2) := by decide +kernel
theorem dX8_node_140 : decode cX8_node 140 = .ok (.iconst 0, 1) := by decide +kernel
theorem dX8_node_141 : decode cX8_node 141 = .ok (.istore 6, 2) := by decide +kernel
theorem dX8_node_143 : decode cX8_node 143 = .ok (.iconst 0, 1) := by decide +kernel
theorem dX8_node_144 : decode cX8_node 144 = .ok (.istore 7, 2) := by decide +kernel
theorem dX8_node_146 : decode cX8_node 146 = .ok (.iload 7, 2) := by decide +kernel
theorem dX8_node_148 : decode cX8_node 148 = .ok (.bipush 32, 2) := by decide +kernel
theorem dX8_node_150 : decode cX8_node 150 = .ok (.if_icmp .ge 117, 3) := by decide +kernel
theorem dX8_node_153 : decode cX8_node 153 = .ok (.iconst 0, 1) := by decide +kernel
theorem dX8_node_154 : decode cX8_node 154 = .ok (.istore 8, 2) := by decide +kernel
theorem dX8_node_156 : decode cX8_node 156 = .ok (.iconst (-1), 1) := by decide +kernel
theorem dX8_node_157 : decode cX8_node 157 = .ok (.istore 9, 2) := by decide +kernel
theorem dX8_node_159 : decode cX8_node 159 = .ok (.iconst 0, 1) := by decide +kernel
theorem dX8_node_160 : decode cX8_node 160 = .ok (.istore 10, 2) := by decide +kernel
theorem dX8_node_162 : decode cX8_node 162 = .ok (.iload 10, 2) := by decide +kernel
theorem dX8_node_164 : decode cX8_node 164 = .ok (.iload_n 3, 1) := by decide +kernel
theorem dX8_node_165 : decode cX8_node 165 = .ok (.if_icmp .ge 45, 3) := by decide +kernel
theorem dX8_node_168 : decode cX8_node 168 = .ok (.aload_n 0, 1) := by decide +kernel
theorem dX8_node_169 : decode cX8_node 169 = .ok (.aload_n 1, 1) := by decide +kernel
theorem dX8_node_170 : decode cX8_node 170 = .ok (.getfield 90, 3) := by decide +kernel
theorem dX8_node_173 : decode cX8_node 173 = .ok (.aload 4, 2) := by decide +kernel
theorem dX8_node_175 : decode cX8_node 175 = .ok (.iload 10, 2) := by decide +kernel
theorem dX8_node_177 : decode cX8_node 177 = .ok (.iaload, 1) := by decide +kernel
theorem dX8_node_178 : decode cX8_node 178 = .ok (.laload, 1) := by decide +kernel
theorem dX8_node_179 : decode cX8_node 179 = .ok (.invokevirtual 120, 3) := by decide +kernel
theorem dX8_node_182 : decode cX8_node 182 = .ok (.iload_n 2, 1) := by decide +kernel
theorem dX8_node_183 : decode cX8_node 183 = .ok (.invokestatic 178, 3) := by decide +kernel
theorem dX8_node_186 : decode cX8_node 186 = .ok (.iload 7, 2) := by decide +kernel
theorem dX8_node_188 : decode cX8_node 188 = .ok (.if_icmp .eq 6, 3) := by decide +kernel
theorem dX8_node_191 : decode cX8_node 191 = .ok (.goto 13, 3) := by decide +kernel
theorem dX8_node_194 : decode cX8_node 194 = .ok (.iinc 8 1, 3) := by decide +kernel
theorem dX8_node_197 : decode cX8_node 197 = .ok (.aload 4, 2) := by decide +kernel
theorem dX8_node_199 : decode cX8_node 199 = .ok (.iload 10, 2) := by decide +kernel
theorem dX8_node_201 : decode cX8_node 201 = .ok (.iaload, 1) := by decide +kernel
theorem dX8_node_202 : decode cX8_node 202 = .ok (.istore 9, 2) := by decide +kernel
theorem dX8_node_204 : decode cX8_node 204 = .ok (.iinc 10 1, 3) := by decide +kernel
theorem dX8_node_207 : decode cX8_node 207 = .ok (.goto (-45), 3) := by decide +kernel
theorem dX8_node_210 : decode cX8_node 210 = .ok (.iload 8, 2) := by decide +kernel
theorem dX8_node_212 : decode cX8_node 212 = .ok (.iconst 1, 1) := by decide +kernel
theorem dX8_node_213 : decode cX8_node 213 = .ok (.if_icmp .ne 33, 3) := by decide +kernel
theorem dX8_node_216 : decode cX8_node 216 = .ok (.iload 5, 2) := by decide +kernel
theorem dX8_node_218 : decode cX8_node 218 = .ok (.iconst 1, 1) := by decide +kernel
theorem dX8_node_219 : decode cX8_node 219 = .ok (.iload 7, 2) := by decide +kernel
theorem dX8_node_221 : decode cX8_node 221 = .ok (.ishl, 1) := by decide +kernel
theorem dX8_node_222 : decode cX8_node 222 = .ok (.ior, 1) := by decide +kernel
theorem dX8_node_223 : decode cX8_node 223 = .ok (.istore 5, 2) := by decide +kernel
theorem dX8_node_225 : decode cX8_node 225 = .ok (.aload_n 0, 1) := by decide +kernel
theorem dX8_node_226 : decode cX8_node 226 = .ok (.getfield 23, 3) := by decide +kernel
theorem dX8_node_229 : decode cX8_node 229 = .ok (.aload_n 0, 1) := by decide +kernel
theorem dX8_node_230 : decode cX8_node 230 = .ok (.getfield 171, 3) := by decide +kernel
theorem dX8_node_233 : decode cX8_node 233 = .ok (.iload 9, 2) := by decide +kernel
theorem dX8_node_235 : decode cX8_node 235 = .ok (.iastore, 1) := by decide +kernel
theorem dX8_node_236 : decode cX8_node 236 = .ok (.aload_n 0, 1) := by decide +kernel
theorem dX8_node_237 : decode cX8_node 237 = .ok (.dup, 1) := by decide +kernel
theorem dX8_node_238 : decode cX8_node 238 = .ok (.getfield 171, 3) := by decide +kernel
theorem dX8_node_241 : decode cX8_node 241 = .ok (.iconst 1, 1) := by decide +kernel
theorem dX8_node_242 : decode cX8_node 242 = .ok (.iadd, 1) := by decide +kernel
theorem dX8_node_243 : decode cX8_node 243 = .ok (.putfield 171, 3) := by decide +kernel
theorem dX8_node_246 : decode cX8_node 246 = .ok (.iload 8, 2) := by decide +kernel
theorem dX8_node_248 : decode cX8_node 248 = .ok (.iconst 1, 1) := by decide +kernel
theorem dX8_node_249 : decode cX8_node 249 = .ok (.if_icmp .le 12, 3) := by decide +kernel
theorem dX8_node_252 : decode cX8_node 252 = .ok (.iload 6, 2) := by decide +kernel
theorem dX8_node_254 : decode cX8_node 254 = .ok (.iconst 1, 1) := by decide +kernel
theorem dX8_node_255 : decode cX8_node 255 = .ok (.iload 7, 2) := by decide +kernel
theorem dX8_node_257 : decode cX8_node 257 = .ok (.ishl, 1) := by decide +kernel
theorem dX8_node_258 : decode cX8_node 258 = .ok (.ior, 1) := by decide +kernel
theorem dX8_node_259 : decode cX8_node 259 = .ok (.istore 6, 2) := by decide +kernel
theorem dX8_node_261 : decode cX8_node 261 = .ok (.iinc 7 1, 3) := by decide +kernel
theorem dX8_node_264 : decode cX8_node 264 = .ok (.goto (-118), 3) := by decide +kernel
theorem dX8_node_267 : decode cX8_node 267 = .ok (.bipush 31, 2) := by decide +kernel
theorem dX8_node_269 : decode cX8_node 269 = .ok (.sipush 527, 3) := by decide +kernel
theorem dX8_node_272 : decode cX8_node 272 = .ok (.iload 5, 2) := by decide +kernel
theorem dX8_node_274 : decode cX8_node 274 = .ok (.iadd, 1) := by decide +kernel
theorem dX8_node_275 : decode cX8_node 275 = .ok (.imul, 1) := by decide +kernel
theorem dX8_node_276 : decode cX8_node 276 = .ok (.iload 6, 2) := by decide +kernel
theorem dX8_node_278 : decode cX8_node 278 = .ok (.iadd, 1) := by decide +kernel
theorem dX8_node_279 : decode cX8_node 279 = .ok (.istore 7, 2) := by decide +kernel
theorem dX8_node_281 : decode cX8_node 281 = .ok (.iconst 0, 1) := by decide +kernel
theorem dX8_node_282 : decode cX8_node 282 = .ok (.istore 8, 2) := by decide +kernel
theorem dX8_node_284 : decode cX8_node 284 = .ok (.iload 8, 2) := by decide +kernel
theorem dX8_node_286 : decode cX8_node 286 = .ok (.bipush 32, 2) := by decide +kernel
theorem dX8_node_288 : decode cX8_node 288 = .ok (.if_icmp .ge 103, 3) := by decide +kernel
theorem dX8_node_291 : decode cX8_node 291 = .ok (.iload 6, 2) := by decide +kernel
theorem dX8_node_293 : decode cX8_node 293 = .ok (.iload 8, 2) := by decide +kernel
theorem dX8_node_295 : decode cX8_node 295 = .ok (.ishr, 1) := by decide +kernel
theorem dX8_node_296 : decode cX8_node 296 = .ok (.iconst 1, 1) := by decide +kernel
theorem dX8_node_297 : decode cX8_node 297 = .ok (.iand, 1) := by decide +kernel
theorem dX8_node_298 : decode cX8_node 298 = .ok (.ifCond .ne 6, 3) := by decide +kernel
theorem dX8_node_301 : decode cX8_node 301 = .ok (.goto 84, 3) := by decide +kernel
theorem dX8_node_304 : decode cX8_node 304 = .ok (.iconst 0, 1) := by decide +kernel
theorem dX8_node_305 : decode cX8_node 305 = .ok (.istore 9, 2) := by decide +kernel
theorem dX8_node_307 : decode cX8_node 307 = .ok (.iconst 0, 1) := by decide +kernel
theorem dX8_node_308 : decode cX8_node 308 = .ok (.istore 10, 2) := by decide +kernel
theorem dX8_node_310 : decode cX8_node 310 = .ok (.iload 10, 2) := by decide +kernel
theorem dX8_node_312 : decode cX8_node 312 = .ok (.iload_n 3, 1) := by decide +kernel
theorem dX8_node_313 : decode cX8_node 313 = .ok (.if_icmp .ge 54, 3) := by decide +kernel
theorem dX8_node_316 : decode cX8_node 316 = .ok (.aload_n 0, 1) := by decide +kernel
theorem dX8_node_317 : decode cX8_node 317 = .ok (.aload_n 1, 1) := by decide +kernel
theorem dX8_node_318 : decode cX8_node 318 = .ok (.getfield 90, 3) := by decide +kernel
theorem dX8_node_321 : decode cX8_node 321 = .ok (.aload 4, 2) := by decide +kernel
theorem dX8_node_323 : decode cX8_node 323 = .ok (.iload 10, 2) := by decide +kernel
theorem dX8_node_325 : decode cX8_node 325 = .ok (.iaload, 1) := by decide +kernel
theorem dX8_node_326 : decode cX8_node 326 = .ok (.laload, 1) := by decide +kernel
theorem dX8_node_327 : decode cX8_node 327 = .ok (.invokevirtual 120, 3) := by decide +kernel
theorem dX8_node_330 : decode cX8_node 330 = .ok (.iload_n 2, 1) := by decide +kernel
theorem dX8_node_331 : decode cX8_node 331 = .ok (.invokestatic 178, 3) := by decide +kernel
theorem dX8_node_334 : decode cX8_node 334 = .ok (.iload 8, 2) := by decide +kernel
theorem dX8_node_336 : decode cX8_node 336 = .ok (.if_icmp .eq 6, 3) := by decide +kernel
theorem dX8_node_339 : decode cX8_node 339 = .ok (.goto 22, 3) := by decide +kernel
theorem dX8_node_342 : decode cX8_node 342 = .ok (.aload_n 0, 1) := by decide +kernel
theorem dX8_node_343 : decode cX8_node 343 = .ok (.getfield 29, 3) := by decide +kernel
theorem dX8_node_346 : decode cX8_node 346 = .ok (.iload_n 2, 1) := by decide +kernel
theorem dX8_node_347 : decode cX8_node 347 = .ok (.iconst 1, 1) := by decide +kernel
theorem dX8_node_348 : decode cX8_node 348 = .ok (.iadd, 1) := by decide +kernel
theorem dX8_node_349 : decode cX8_node 349 = .ok (.aaload, 1) := by decide +kernel
theorem dX8_node_350 : decode cX8_node 350 = .ok (.iload 9, 2) := by decide +kernel
theorem dX8_node_352 : decode cX8_node 352 = .ok (.aload 4, 2) := by decide +kernel
theorem dX8_node_354 : decode cX8_node 354 = .ok (.iload 10, 2) := by decide +kernel
theorem dX8_node_356 : decode cX8_node 356 = .ok (.iaload, 1) := by decide +kernel
theorem dX8_node_357 : decode cX8_node 357 = .ok (.iastore, 1) := by decide +kernel
theorem dX8_node_358 : decode cX8_node 358 = .ok (.iinc 9 1, 3) := by decide +kernel
theorem dX8_node_361 : decode cX8_node 361 = .ok (.iinc 10 1, 3) := by decide +kernel
theorem dX8_node_364 : decode cX8_node 364 = .ok (.goto (-54), 3) := by decide +kernel
theorem dX8_node_367 : decode cX8_node 367 = .ok (.bipush 31, 2) := by decide +kernel
theorem dX8_node_369 : decode cX8_node 369 = .ok (.iload 7, 2) := by decide +kernel
theorem dX8_node_371 : decode cX8_node 371 = .ok (.imul, 1) := by decide +kernel
theorem dX8_node_372 : decode cX8_node 372 = .ok (.aload_n 0, 1) := by decide +kernel
theorem dX8_node_373 : decode cX8_node 373 = .ok (.aload_n 1, 1) := by decide +kernel
theorem dX8_node_374 : decode cX8_node 374 = .ok (.iload_n 2, 1) := by decide +kernel
theorem dX8_node_375 : decode cX8_node 375 = .ok (.iconst 1, 1) := by decide +kernel
theorem dX8_node_376 : decode cX8_node 376 = .ok (.iadd, 1) := by decide +kernel
theorem dX8_node_377 : decode cX8_node 377 = .ok (.iload 9, 2) := by decide +kernel
theorem dX8_node_379 : decode cX8_node 379 = .ok (.invokevirtual 174, 3) := by decide +kernel
theorem dX8_node_382 : decode cX8_node 382 = .ok (.iadd, 1) := by decide +kernel
theorem dX8_node_383 : decode cX8_node 383 = .ok (.istore 7, 2) := by decide +kernel
theorem dX8_node_385 : decode cX8_node 385 = .ok (.iinc 8 1, 3) := by decide +kernel
theorem dX8_node_388 : decode cX8_node 388 = .ok (.goto (-104), 3) := by decide +kernel
theorem dX8_node_391 : decode cX8_node 391 = .ok (.iload 7, 2) := by decide +kernel
theorem dX8_node_393 : decode cX8_node 393 = .ok (.ireturn, 1) := by decide +kernel
set_option maxRecDepth 100000 in
set_option maxHeartbeats 4000000 in
theorem c_X8_node (l : Launch) (D : va_G) (cy : Nat → ClassId) (N0 : Nat) (s : Nat) : ∀ (h : qH) (y ms mb mw od pt fi re rc rs so ot cn la ro : Nat) (gr cd ca mv fau cs ce rn : Int32) (pa : Nat → Nat) (a ka : Nat) (fs7 : List Value) (f : Nat → Int64) (Y : Int32 → va_E) (ct : Nat) (O : Nat → Int32) (Q : Nat → Nat → Int32) (r d : Nat) (L : qKV) (hY : Y = fun z9 => .inr (8, [.ref ms, .ref mb, .ref mw, .int gr, .int cd, .int ca, .int mv, .ref od, .ref pt, .int z9, .int fau, .ref fi, .ref re, .int cs, .ref rc, .ref rs, .ref so, .ref ot, .ref cn, .ref la, .int ce, .ref ro, .int rn])) (hnd : qNd9 y od pa) (hpt : h pt = some (.inl (cy 6, 8, .inr (.inr (.inr (.inr (fun i => some (pa i)))))))) (hA : h a = some (.inr (7, .ref ka :: fs7))) (hK : h ka = some (.inl (cy 1, 1001, .inr (.inl f)))) (hno : qNo9 y od pa pt ∧ qNo9 y od pa a ∧ qNo9 y od pa ka) (hdr : d + r = 7) (hL : L.length ≤ 1000) (hLf : ∀ p ∈ L, ∃ j, j < 1001 ∧ p = (f j, lN j)) (hqn : qNo L) (hQ : ∀ i p, L[i]? = some p → Q d i = ix9 p) (hct : ct + L.length ≤ 1000) (hs : r < s), qC l D cy N0 yX8_node cX8_node 11 (some .int) (2 + r) (60 + 60 * r) 0 0 [.ref y, .ref a, .int (nI d), .int (nI L.length)] (qNh cy h y od pa Y ct O Q) (fun v h' => v = some (.int (nI (thSh (qMk gr) r L))) ∧ ∃ Q', (∀ d', d' < d → Q' d' = Q d') ∧ h' = qNh cy h y od pa Y (ct + L.length) (qPourI O ct ((thT (qMk gr) r L).map ix9)) Q') (fun E h' => False) := by
  induction s with
  | zero => intro h y ms mb mw od pt fi re rc rs so ot cn la ro gr cd ca mv fau cs ce rn pa a ka fs7 f Y ct O Q r d L hY hnd hpt hA hK hno hdr hL hLf hqn hQ hct hs; exact absurd hs (Nat.not_lt_zero _)
  | succ s ih =>
    intro h y ms mb mw od pt fi re rc rs so ot cn la ro gr cd ca mv fau cs ce rn pa a ka fs7 f Y ct O Q r d L hY hnd hpt hA hK hno hdr hL hLf hqn hQ hct hs
    refine q_ofW (by decide) (by exact Nat.le_of_ble_eq_true rfl) ?_
    intro p e s m below meth c ls C hP hl
    have hx := C.1
    have hb := C.2.1
    have hS : va_S (qA N0) s.heap s.heap [] := va_S.rf
    have hl : lv_has ls 11 [(0, .ref y), (1, .ref a), (2, .int (nI d)), (3, .int (nI L.length))] := hl
    have hdpt : ∀ i, i < 8 → some (pa i) = some (pa i) := fun _ _ => rfl
    cases r with
    | zero =>
      obtain rfl : d = 7 := by omega
      have fy : (qNh cy h y od pa Y ct O Q) y = some (.inr (8, [.ref ms, .ref mb, .ref mw, .int gr, .int cd, .int ca, .int mv, .ref od, .ref pt, .int (nI ct), .int fau, .ref fi, .ref re, .int cs, .ref rc, .ref rs, .ref so, .ref ot, .ref cn, .ref la, .int ce, .ref ro, .int rn])) := by rw [qNh_y, hY]
      have fo : (qNh cy h y od pa Y ct O Q) od = _ := qNh_od hnd
      have fp : (qNh cy h y od pa Y ct O Q) (pa 7) = _ := qNh_pa hnd (show 7 < 8 by omega)
      have fpt : (qNh cy h y od pa Y ct O Q) pt = _ := (qNh_o hno.1).trans hpt
      have fa : (qNh cy h y od pa Y ct O Q) a = _ := (qNh_o hno.2.1).trans hA
      have fk : (qNh cy h y od pa Y ct O Q) ka = _ := (qNh_o hno.2.2).trans hK
      refine lv_aload_n hx hb dX8_node_0 rfl (lv_at hl 0 rfl) ?_
      refine q_get C hP fy rfl inX8 8 (by decide) g1175 rfl dX8_node_1 ?_
      refine lv_iload_n hx hb dX8_node_4 rfl (lv_at hl 2 rfl) ?_
      refine q_aaldA C hP fpt rfl (by omega) (by omega) rfl dX8_node_5 ?_
      refine lv_astore (lv' := [(4, .ref (pa 7)), (0, .ref y), (1, .ref a), (2, .int (nI 7)), (3, .int (nI L.length))]) hx hb dX8_node_6 hl (by decide) rfl (fun ls hl => ?_)
      refine lv_iload_n hx hb dX8_node_8 rfl (lv_at hl 3 rfl) ?_
      refine lv_bipush (v := nI 7) hx hb dX8_node_9 (by decide) ?_
      refine lv_icmp_ne (tgt := 137) hx hb dX8_node_11 (by decide) (fun c11 => ?_) (fun c11 => ?_)
      · replace c11 : ¬ 7 = 7 := fun zq => c11 ((nI_eq (a := 7) (b := 7) (by omega) (by omega)).mpr zq)
        exfalso; omega
      · replace c11 : 7 = 7 := (nI_eq (a := 7) (b := 7) (by omega) (by omega)).mp c11
        refine lv_iconst (v := nI 0) hx hb dX8_node_14 (by decide) ?_
        refine lv_istore (lv' := [(5, .int (nI 0)), (4, .ref (pa 7)), (0, .ref y), (1, .ref a), (2, .int (nI 7)), (3, .int (nI L.length))]) hx hb dX8_node_15 hl (by decide) rfl (fun ls hl => ?_)
        refine (?_ : ∀ (tA : Nat) (H : Heap) (locs : List Loc) (ls : Array Slot) (i : Nat) (q7 : Nat → Int32), L.length - i < tA → lv_has ls 11 [(5, .int (nI i)), (4, .ref (pa 7)), (3, .int (nI L.length)), (2, .int (nI 7)), (1, .ref a), (0, .ref y)] → i ≤ L.length → (∀ q p, (thQ (L.take i))[q]? = some p → q7 q = ix9 p) → (∀ q p, i ≤ q → L[q]? = some p → q7 q = ix9 p) → qP D N0 (qNh cy h y od pa Y ct O (qU Q 7 q7)) H → va_S (qA N0) s.heap H locs → W p l e _ s m _ below meth c H locs 0 0 _ (F0 m 17 ls [])) _ _ _ ls 0 (Q 7) (Nat.lt_succ_self _) (lv_sub hl [0, 1, 5, 4, 3, 2] rfl) (Nat.zero_le _) (fun q p e => by simp [thQ] at e) (fun q p _ e => hQ q p e) (by rw [show qU Q 7 (Q 7) = Q from funext fun z => by unfold qU; split <;> first | rfl | (rename_i z9; rw [z9])]; exact hP) hS
        clear hl hP hS
        intro tA
        induction tA with
        | zero => intro H locs ls i q7 htA; exact absurd htA (Nat.not_lt_zero _)
        | succ tA ihlA =>
          intro H locs ls i q7 htA hl hi h1 h2 hP hS
          have fy : (qNh cy h y od pa Y ct O (qU Q 7 q7)) y = some (.inr (8, [.ref ms, .ref mb, .ref mw, .int gr, .int cd, .int ca, .int mv, .ref od, .ref pt, .int (nI ct), .int fau, .ref fi, .ref re, .int cs, .ref rc, .ref rs, .ref so, .ref ot, .ref cn, .ref la, .int ce, .ref ro, .int rn])) := by rw [qNh_y, hY]
          have fo : (qNh cy h y od pa Y ct O (qU Q 7 q7)) od = _ := qNh_od hnd
          have fp : (qNh cy h y od pa Y ct O (qU Q 7 q7)) (pa 7) = _ := qNh_pa hnd (show 7 < 8 by omega)
          have fpt : (qNh cy h y od pa Y ct O (qU Q 7 q7)) pt = _ := (qNh_o hno.1).trans hpt
          have fa : (qNh cy h y od pa Y ct O (qU Q 7 q7)) a = _ := (qNh_o hno.2.1).trans hA
          have fk : (qNh cy h y od pa Y ct O (qU Q 7 q7)) ka = _ := (qNh_o hno.2.2).trans hK
          rw [qU_at] at fp
          refine lv_iload hx hb dX8_node_17 (lv_at hl 0 rfl) ?_
          refine lv_iload_n hx hb dX8_node_19 rfl (lv_at hl 2 rfl) ?_
          refine lv_icmp_ge (tgt := 93) hx hb dX8_node_20 (by decide) (fun c20 => ?_) (fun c20 => ?_)
          · replace c20 : (L.length) ≤ i := (nI_leI (a := L.length) (b := i) (by omega) (by omega)).mp c20
            refine lv_iconst (v := nI 0) hx hb dX8_node_93 (by decide) ?_
            refine lv_istore (lv' := [(5, .int (nI 0)), (4, .ref (pa 7)), (3, .int (nI L.length)), (2, .int (nI 7)), (1, .ref a), (0, .ref y)]) hx hb dX8_node_94 hl (by decide) rfl (fun ls hl => ?_)
            have eL9 : L.take i = L := List.take_of_length_le (by omega)
            rw [eL9, thQ_O hqn] at h1
            obtain ⟨T9, eT9⟩ : ∃ T, T = thO L := ⟨_, rfl⟩
            rw [← eT9] at h1
            have hTl : T9.length = L.length := by rw [eT9]; exact thO_len
            clear fy fo fp fpt fa fk
            refine (?_ : ∀ (tC : Nat) (H : Heap) (locs : List Loc) (ls : Array Slot) (j : Nat), L.length - j < tC → lv_has ls 11 [(5, .int (nI j)), (4, .ref (pa 7)), (3, .int (nI L.length)), (2, .int (nI 7)), (1, .ref a), (0, .ref y)] → j ≤ L.length → qP D N0 (qNh cy h y od pa Y (ct + j) (qPourI O ct ((T9.take j).map ix9)) (qU Q 7 q7)) H → va_S (qA N0) s.heap H locs → W p l e _ s m _ below meth c H locs 0 0 _ (F0 m 96 ls [])) _ _ _ ls 0 (Nat.lt_succ_self _) (lv_sub hl [0, 1, 2, 3, 4, 5] rfl) (Nat.zero_le _) (by rw [List.take_zero, List.map_nil, qPourI_nil]; exact hP) hS
            clear hl hP hS
            intro tC
            induction tC with
            | zero => intro H locs ls j htC; exact absurd htC (Nat.not_lt_zero _)
            | succ tC ihlC =>
              intro H locs ls j htC hl hj hP hS
              have fy : (qNh cy h y od pa Y (ct + j) (qPourI O ct ((T9.take j).map ix9)) (qU Q 7 q7)) y = some (.inr (8, [.ref ms, .ref mb, .ref mw, .int gr, .int cd, .int ca, .int mv, .ref od, .ref pt, .int (nI (ct + j)), .int fau, .ref fi, .ref re, .int cs, .ref rc, .ref rs, .ref so, .ref ot, .ref cn, .ref la, .int ce, .ref ro, .int rn])) := by rw [qNh_y, hY]
              have fo : (qNh cy h y od pa Y (ct + j) (qPourI O ct ((T9.take j).map ix9)) (qU Q 7 q7)) od = _ := qNh_od hnd
              have fp : (qNh cy h y od pa Y (ct + j) (qPourI O ct ((T9.take j).map ix9)) (qU Q 7 q7)) (pa 7) = _ := qNh_pa hnd (show 7 < 8 by omega)
              have fpt : (qNh cy h y od pa Y (ct + j) (qPourI O ct ((T9.take j).map ix9)) (qU Q 7 q7)) pt = _ := (qNh_o hno.1).trans hpt
              have fa : (qNh cy h y od pa Y (ct + j) (qPourI O ct ((T9.take j).map ix9)) (qU Q 7 q7)) a = _ := (qNh_o hno.2.1).trans hA
              have fk : (qNh cy h y od pa Y (ct + j) (qPourI O ct ((T9.take j).map ix9)) (qU Q 7 q7)) ka = _ := (qNh_o hno.2.2).trans hK
              rw [qU_at] at fp
              have hlj : ((T9.take j).map ix9).length = j := by rw [List.length_map, List.length_take]; omega
              refine lv_iload hx hb dX8_node_96 (lv_at hl 0 rfl) ?_
              refine lv_iload_n hx hb dX8_node_98 rfl (lv_at hl 2 rfl) ?_
              refine lv_icmp_ge (tgt := 132) hx hb dX8_node_99 (by decide) (fun c99 => ?_) (fun c99 => ?_)
              · replace c99 : (L.length) ≤ j := (nI_leI (a := L.length) (b := j) (by omega) (by omega)).mp c99
                refine lv_bipush (v := nI 7) hx hb dX8_node_132 (by decide) ?_
                refine lv_iload_n hx hb dX8_node_134 rfl (lv_at hl 2 rfl) ?_
                refine q_iaddN hx hb dX8_node_135 ?_
                exact q_iret C hP hS ⟨rfl, qU Q 7 q7, fun d9 hd9 => qU_ne2 hd9, by rw [show j = L.length by omega, List.take_of_length_le (by omega), eT9]; rfl⟩ (by omega) dX8_node_136
              · replace c99 : ¬ (L.length) ≤ j := fun zq => c99 ((nI_leI (a := L.length) (b := j) (by omega) (by omega)).mpr zq)
                refine lv_aload_n hx hb dX8_node_102 rfl (lv_at hl 5 rfl) ?_
                refine q_get C hP fy rfl inX8 7 (by decide) g1174 rfl dX8_node_103 ?_
                refine lv_aload_n hx hb dX8_node_106 rfl (lv_at hl 5 rfl) ?_
                refine q_get C hP fy rfl inX8 9 (by decide) g1176 rfl dX8_node_107 ?_
                refine lv_aload hx hb dX8_node_110 (lv_at hl 1 rfl) ?_
                refine lv_iload hx hb dX8_node_112 (lv_at hl 0 rfl) ?_
                refine q_ialdN C hP fp (by omega) (by omega) dX8_node_114 ?_
                obtain ⟨pj, epj⟩ : ∃ p, T9[j]? = some p := ⟨_, List.getElem?_eq_getElem (by omega)⟩
                rw [h1 j pj epj]
                refine q_iastN C hP hS fo (by omega) (by omega) dX8_node_115 (fun H locs hP hS => ?_)
                rw [qNh_so hnd] at hP
                have fy : (qNh cy h y od pa Y (ct + j) (upd (qPourI O ct ((T9.take j).map ix9)) (ct + j) (ix9 pj)) (qU Q 7 q7)) y = some (.inr (8, [.ref ms, .ref mb, .ref mw, .int gr, .int cd, .int ca, .int mv, .ref od, .ref pt, .int (nI (ct + j)), .int fau, .ref fi, .ref re, .int cs, .ref rc, .ref rs, .ref so, .ref ot, .ref cn, .ref la, .int ce, .ref ro, .int rn])) := by rw [qNh_y, hY]
                have fo : (qNh cy h y od pa Y (ct + j) (upd (qPourI O ct ((T9.take j).map ix9)) (ct + j) (ix9 pj)) (qU Q 7 q7)) od = _ := qNh_od hnd
                have fp : (qNh cy h y od pa Y (ct + j) (upd (qPourI O ct ((T9.take j).map ix9)) (ct + j) (ix9 pj)) (qU Q 7 q7)) (pa 7) = _ := qNh_pa hnd (show 7 < 8 by omega)
                have fpt : (qNh cy h y od pa Y (ct + j) (upd (qPourI O ct ((T9.take j).map ix9)) (ct + j) (ix9 pj)) (qU Q 7 q7)) pt = _ := (qNh_o hno.1).trans hpt
                have fa : (qNh cy h y od pa Y (ct + j) (upd (qPourI O ct ((T9.take j).map ix9)) (ct + j) (ix9 pj)) (qU Q 7 q7)) a = _ := (qNh_o hno.2.1).trans hA
                have fk : (qNh cy h y od pa Y (ct + j) (upd (qPourI O ct ((T9.take j).map ix9)) (ct + j) (ix9 pj)) (qU Q 7 q7)) ka = _ := (qNh_o hno.2.2).trans hK
                refine lv_aload_n hx hb dX8_node_116 rfl (lv_at hl 5 rfl) ?_
                refine lv_dup hx hb dX8_node_117 rfl ?_
                refine q_get C hP fy rfl inX8 9 (by decide) g1176 rfl dX8_node_118 ?_
                refine lv_iconst (v := nI 1) hx hb dX8_node_121 (by decide) ?_
                refine q_iaddN hx hb dX8_node_122 ?_
                refine q_put C hP hS fy rfl inX8 tyX8 tyX8_ok nmX8 9 (by decide) g1176 rfl rfl rfl (Nat.le_of_ble_eq_true rfl) dX8_node_123 (fun H locs hP hS => ?_)
                replace hP : qP D N0 (qs (qNh cy h y od pa Y (ct + j) (upd (qPourI O ct ((T9.take j).map ix9)) (ct + j) (ix9 pj)) (qU Q 7 q7)) y (.inr (8, [.ref ms, .ref mb, .ref mw, .int gr, .int cd, .int ca, .int mv, .ref od, .ref pt, .int (nI ((ct + j) + 1)), .int fau, .ref fi, .ref re, .int cs, .ref rc, .ref rs, .ref so, .ref ot, .ref cn, .ref la, .int ce, .ref ro, .int rn]))) H := hP
                rw [show (.inr (8, [.ref ms, .ref mb, .ref mw, .int gr, .int cd, .int ca, .int mv, .ref od, .ref pt, .int (nI ((ct + j) + 1)), .int fau, .ref fi, .ref re, .int cs, .ref rc, .ref rs, .ref so, .ref ot, .ref cn, .ref la, .int ce, .ref ro, .int rn]) : va_E) = Y (nI ((ct + j) + 1)) from by rw [hY], qNh_sy] at hP
                have fy : (qNh cy h y od pa Y ((ct + j) + 1) (upd (qPourI O ct ((T9.take j).map ix9)) (ct + j) (ix9 pj)) (qU Q 7 q7)) y = some (.inr (8, [.ref ms, .ref mb, .ref mw, .int gr, .int cd, .int ca, .int mv, .ref od, .ref pt, .int (nI ((ct + j) + 1)), .int fau, .ref fi, .ref re, .int cs, .ref rc, .ref rs, .ref so, .ref ot, .ref cn, .ref la, .int ce, .ref ro, .int rn])) := by rw [qNh_y, hY]
                have fo : (qNh cy h y od pa Y ((ct + j) + 1) (upd (qPourI O ct ((T9.take j).map ix9)) (ct + j) (ix9 pj)) (qU Q 7 q7)) od = _ := qNh_od hnd
                have fp : (qNh cy h y od pa Y ((ct + j) + 1) (upd (qPourI O ct ((T9.take j).map ix9)) (ct + j) (ix9 pj)) (qU Q 7 q7)) (pa 7) = _ := qNh_pa hnd (show 7 < 8 by omega)
                have fpt : (qNh cy h y od pa Y ((ct + j) + 1) (upd (qPourI O ct ((T9.take j).map ix9)) (ct + j) (ix9 pj)) (qU Q 7 q7)) pt = _ := (qNh_o hno.1).trans hpt
                have fa : (qNh cy h y od pa Y ((ct + j) + 1) (upd (qPourI O ct ((T9.take j).map ix9)) (ct + j) (ix9 pj)) (qU Q 7 q7)) a = _ := (qNh_o hno.2.1).trans hA
                have fk : (qNh cy h y od pa Y ((ct + j) + 1) (upd (qPourI O ct ((T9.take j).map ix9)) (ct + j) (ix9 pj)) (qU Q 7 q7)) ka = _ := (qNh_o hno.2.2).trans hK
                replace hP : qP D N0 (qNh cy h y od pa Y ((ct + j) + 1) (upd (qPourI O ct ((T9.take j).map ix9)) (ct + j) (ix9 pj)) (qU Q 7 q7)) H := hP
                refine lv_iinc (v := nI (j + 1)) (lv' := [(5, .int (nI (j + 1))), (4, .ref (pa 7)), (3, .int (nI L.length)), (2, .int (nI 7)), (1, .ref a), (0, .ref y)]) hx hb dX8_node_126 hl (k := 0) rfl (nI_1 j) (by decide) rfl (fun ls hl => ?_)
                refine lv_goto (tgt := 96) hx hb dX8_node_129 (by decide) ?_
                rw [qPourI_1 (by rw [hlj])] at hP
                exact ihlC H locs ls (j + 1) (by omega) (lv_sub hl [0, 1, 2, 3, 4, 5] rfl) (by omega) (by rw [List.take_succ, epj, List.map_append]; exact hP) hS
          · replace c20 : ¬ (L.length) ≤ i := fun zq => c20 ((nI_leI (a := L.length) (b := i) (by omega) (by omega)).mpr zq)
            refine lv_aload hx hb dX8_node_23 (lv_at hl 1 rfl) ?_
            refine lv_iload hx hb dX8_node_25 (lv_at hl 0 rfl) ?_
            refine q_ialdN C hP fp (by omega) (by omega) dX8_node_27 ?_
            obtain ⟨px, epx⟩ : ∃ p, L[i]? = some p := ⟨_, List.getElem?_eq_getElem (by omega)⟩
            obtain ⟨jx, hjx, ejx⟩ := hLf px (List.mem_of_getElem? epx)
            have eix : q7 i = nI jx := by rw [h2 i px (Nat.le_refl _) epx, ejx]; exact lN_i32
            rw [eix]
            have hkx : f jx = px.1 := by rw [ejx]
            refine lv_istore (lv' := [(6, .int (nI jx)), (5, .int (nI i)), (4, .ref (pa 7)), (3, .int (nI L.length)), (2, .int (nI 7)), (1, .ref a), (0, .ref y)]) hx hb dX8_node_28 hl (by decide) rfl (fun ls hl => ?_)
            refine lv_iload hx hb dX8_node_30 (lv_at hl 1 rfl) ?_
            refine lv_istore (lv' := [(7, .int (nI i)), (6, .int (nI jx)), (5, .int (nI i)), (4, .ref (pa 7)), (3, .int (nI L.length)), (2, .int (nI 7)), (1, .ref a), (0, .ref y)]) hx hb dX8_node_32 hl (by decide) rfl (fun ls hl => ?_)
            obtain ⟨S, eS⟩ : ∃ S, S = thQ (L.take i) := ⟨_, rfl⟩
            have hSl : S.length = i := by rw [eS, thQ_len, List.length_take]; omega
            rw [← eS] at h1
            have hSm : ∀ p ∈ S, p ∈ L := fun p hp => List.mem_of_mem_take (thQ_perm.mem_iff.mp (eS ▸ hp))
            have hSu : qUp S := by rw [eS]; exact thQ_up
            clear fy fo fp fpt fa fk
            refine (?_ : ∀ (tB : Nat) (H : Heap) (locs : List Loc) (ls : Array Slot) (at9 : Nat) (g7 : Nat → Int32), at9 < tB → lv_has ls 11 [(7, .int (nI at9)), (6, .int (nI jx)), (5, .int (nI i)), (4, .ref (pa 7)), (3, .int (nI L.length)), (2, .int (nI 7)), (1, .ref a), (0, .ref y)] → at9 ≤ i → (∀ q p, q < at9 → S[q]? = some p → g7 q = ix9 p) → (∀ q p, at9 ≤ q → S[q]? = some p → g7 (q + 1) = ix9 p ∧ px.1.toInt < p.1.toInt) → (∀ q p, i < q → L[q]? = some p → g7 q = ix9 p) → qP D N0 (qNh cy h y od pa Y ct O (qU Q 7 g7)) H → va_S (qA N0) s.heap H locs → W p l e _ s m _ below meth c H locs 0 0 _ (F0 m 34 ls [])) _ _ _ ls i q7 (Nat.lt_succ_self _) (lv_sub hl [0, 1, 2, 3, 4, 5, 6, 7] rfl) (Nat.le_refl _) (fun q p _ e => h1 q p e) (fun q p hq e => absurd (List.getElem?_eq_some_iff.mp e).1 (by omega)) (fun q p hq e => h2 q p (by omega) e) hP hS
            clear hl hP hS
            intro tB
            induction tB with
            | zero => intro H locs ls at9 g7 htB; exact absurd htB (Nat.not_lt_zero _)
            | succ tB ihlB =>
              intro H locs ls at9 g7 htB hl ha9 b1 b2 b3 hP hS
              have fy : (qNh cy h y od pa Y ct O (qU Q 7 g7)) y = some (.inr (8, [.ref ms, .ref mb, .ref mw, .int gr, .int cd, .int ca, .int mv, .ref od, .ref pt, .int (nI ct), .int fau, .ref fi, .ref re, .int cs, .ref rc, .ref rs, .ref so, .ref ot, .ref cn, .ref la, .int ce, .ref ro, .int rn])) := by rw [qNh_y, hY]
              have fo : (qNh cy h y od pa Y ct O (qU Q 7 g7)) od = _ := qNh_od hnd
              have fp : (qNh cy h y od pa Y ct O (qU Q 7 g7)) (pa 7) = _ := qNh_pa hnd (show 7 < 8 by omega)
              have fpt : (qNh cy h y od pa Y ct O (qU Q 7 g7)) pt = _ := (qNh_o hno.1).trans hpt
              have fa : (qNh cy h y od pa Y ct O (qU Q 7 g7)) a = _ := (qNh_o hno.2.1).trans hA
              have fk : (qNh cy h y od pa Y ct O (qU Q 7 g7)) ka = _ := (qNh_o hno.2.2).trans hK
              rw [qU_at] at fp
              refine lv_iload hx hb dX8_node_34 (lv_at hl 0 rfl) ?_
              refine lv_if_le (tgt := 80) hx hb dX8_node_36 (by decide) (fun c36 => ?_) (fun c36 => ?_)
              · replace c36 : at9 ≤ 0 := (nI_leI (a := at9) (b := 0) (by omega) (by omega)).mp c36
                refine lv_aload hx hb dX8_node_80 (lv_at hl 3 rfl) ?_
                refine lv_iload hx hb dX8_node_82 (lv_at hl 0 rfl) ?_
                refine lv_iload hx hb dX8_node_84 (lv_at hl 1 rfl) ?_
                refine q_iastN C hP hS fp (by omega) (by omega) dX8_node_86 (fun H locs hP hS => ?_)
                rw [qNh_sp hnd (show 7 < 8 by omega)] at hP
                have fy : (qNh cy h y od pa Y ct O (qU (qU Q 7 g7) 7 (upd g7 at9 (nI jx)))) y = some (.inr (8, [.ref ms, .ref mb, .ref mw, .int gr, .int cd, .int ca, .int mv, .ref od, .ref pt, .int (nI ct), .int fau, .ref fi, .ref re, .int cs, .ref rc, .ref rs, .ref so, .ref ot, .ref cn, .ref la, .int ce, .ref ro, .int rn])) := by rw [qNh_y, hY]
                have fo : (qNh cy h y od pa Y ct O (qU (qU Q 7 g7) 7 (upd g7 at9 (nI jx)))) od = _ := qNh_od hnd
                have fp : (qNh cy h y od pa Y ct O (qU (qU Q 7 g7) 7 (upd g7 at9 (nI jx)))) (pa 7) = _ := qNh_pa hnd (show 7 < 8 by omega)
                have fpt : (qNh cy h y od pa Y ct O (qU (qU Q 7 g7) 7 (upd g7 at9 (nI jx)))) pt = _ := (qNh_o hno.1).trans hpt
                have fa : (qNh cy h y od pa Y ct O (qU (qU Q 7 g7) 7 (upd g7 at9 (nI jx)))) a = _ := (qNh_o hno.2.1).trans hA
                have fk : (qNh cy h y od pa Y ct O (qU (qU Q 7 g7) 7 (upd g7 at9 (nI jx)))) ka = _ := (qNh_o hno.2.2).trans hK
                refine lv_iinc (v := nI (i + 1)) (lv' := [(5, .int (nI (i + 1))), (7, .int (nI at9)), (6, .int (nI jx)), (4, .ref (pa 7)), (3, .int (nI L.length)), (2, .int (nI 7)), (1, .ref a), (0, .ref y)]) hx hb dX8_node_87 hl (k := 2) rfl (nI_1 i) (by decide) rfl (fun ls hl => ?_)
                refine lv_goto (tgt := 17) hx hb dX8_node_90 (by decide) ?_
                rw [qU_qU9] at hP
                have hxs : xSi S px.1 px.2 = S.take at9 ++ (px.1, px.2) :: S.drop at9 := xSi_pl hSu (by omega) (Or.inl (by omega)) (fun q p hq e => (b2 q p hq e).2)
                have hts : thQ (L.take (i + 1)) = S.take at9 ++ px :: S.drop at9 := by rw [thQ_s epx, ← eS]; exact hxs
                exact ihlA H locs ls (i + 1) (upd g7 at9 (nI jx)) (by omega) (lv_sub hl [0, 3, 4, 5, 6, 7] rfl) (by omega) (fun q p e => by rw [hts] at e; exact insB (by omega) eix b1 (fun q p hq e => (b2 q p hq e).1) (by rw [← h2 i px (Nat.le_refl _) epx, eix]) e) (fun q p hq e => (upd_ne9 (by omega)).trans (b3 q p (by omega) e)) hP hS
              · replace c36 : ¬ at9 ≤ 0 := fun zq => c36 ((nI_leI (a := at9) (b := 0) (by omega) (by omega)).mpr zq)
                refine lv_aload_n hx hb dX8_node_39 rfl (lv_at hl 6 rfl) ?_
                refine q_get C hP fa rfl inX7 0 (by decide) g1138 rfl dX8_node_40 ?_
                refine lv_aload hx hb dX8_node_43 (lv_at hl 3 rfl) ?_
                refine lv_iload hx hb dX8_node_45 (lv_at hl 0 rfl) ?_
                refine lv_iconst (v := nI 1) hx hb dX8_node_47 (by decide) ?_
                refine q_isubN hx hb dX8_node_48 (by omega) ?_
                refine q_ialdN C hP fp (by omega) (by omega) dX8_node_49 ?_
                obtain ⟨ps, eps⟩ : ∃ p, S[at9 - 1]? = some p := ⟨_, List.getElem?_eq_getElem (by omega)⟩
                obtain ⟨js, hjs, ejs⟩ := hLf ps (hSm _ (List.mem_of_getElem? eps))
                have eis : g7 (at9 - 1) = nI js := by rw [b1 _ ps (by omega) eps, ejs]; exact lN_i32
                have hks : f js = ps.1 := by rw [ejs]
                rw [eis]
                refine q_laldN C hP fk (by omega) (by omega) dX8_node_50 ?_
                refine lv_aload_n hx hb dX8_node_51 rfl (lv_at hl 6 rfl) ?_
                refine q_get C hP fa rfl inX7 0 (by decide) g1138 rfl dX8_node_52 ?_
                refine lv_iload hx hb dX8_node_55 (lv_at hl 1 rfl) ?_
                refine q_laldN C hP fk (by omega) (by omega) dX8_node_57 ?_
                refine W.lcmp hx hb dX8_node_58 ?_
                refine lv_if_le (tgt := 80) hx hb dX8_node_59 (by decide) (fun c59 => ?_) (fun c59 => ?_)
                · replace c59 : (f js).toInt ≤ (f jx).toInt := Int64.le_iff_toInt_le.mp ((lg_cmp_le _ _).mp c59)
                  refine lv_aload hx hb dX8_node_80 (lv_at hl 3 rfl) ?_
                  refine lv_iload hx hb dX8_node_82 (lv_at hl 0 rfl) ?_
                  refine lv_iload hx hb dX8_node_84 (lv_at hl 1 rfl) ?_
                  refine q_iastN C hP hS fp (by omega) (by omega) dX8_node_86 (fun H locs hP hS => ?_)
                  rw [qNh_sp hnd (show 7 < 8 by omega)] at hP
                  have fy : (qNh cy h y od pa Y ct O (qU (qU Q 7 g7) 7 (upd g7 at9 (nI jx)))) y = some (.inr (8, [.ref ms, .ref mb, .ref mw, .int gr, .int cd, .int ca, .int mv, .ref od, .ref pt, .int (nI ct), .int fau, .ref fi, .ref re, .int cs, .ref rc, .ref rs, .ref so, .ref ot, .ref cn, .ref la, .int ce, .ref ro, .int rn])) := by rw [qNh_y, hY]
                  have fo : (qNh cy h y od pa Y ct O (qU (qU Q 7 g7) 7 (upd g7 at9 (nI jx)))) od = _ := qNh_od hnd
                  have fp : (qNh cy h y od pa Y ct O (qU (qU Q 7 g7) 7 (upd g7 at9 (nI jx)))) (pa 7) = _ := qNh_pa hnd (show 7 < 8 by omega)
                  have fpt : (qNh cy h y od pa Y ct O (qU (qU Q 7 g7) 7 (upd g7 at9 (nI jx)))) pt = _ := (qNh_o hno.1).trans hpt
                  have fa : (qNh cy h y od pa Y ct O (qU (qU Q 7 g7) 7 (upd g7 at9 (nI jx)))) a = _ := (qNh_o hno.2.1).trans hA
                  have fk : (qNh cy h y od pa Y ct O (qU (qU Q 7 g7) 7 (upd g7 at9 (nI jx)))) ka = _ := (qNh_o hno.2.2).trans hK
                  refine lv_iinc (v := nI (i + 1)) (lv' := [(5, .int (nI (i + 1))), (7, .int (nI at9)), (6, .int (nI jx)), (4, .ref (pa 7)), (3, .int (nI L.length)), (2, .int (nI 7)), (1, .ref a), (0, .ref y)]) hx hb dX8_node_87 hl (k := 2) rfl (nI_1 i) (by decide) rfl (fun ls hl => ?_)
                  refine lv_goto (tgt := 17) hx hb dX8_node_90 (by decide) ?_
                  rw [qU_qU9] at hP
                  have hxs : xSi S px.1 px.2 = S.take at9 ++ (px.1, px.2) :: S.drop at9 := xSi_pl hSu (by omega) (Or.inr (fun p e => by rw [eps] at e; cases e; rw [hks, hkx] at c59; omega)) (fun q p hq e => (b2 q p hq e).2)
                  have hts : thQ (L.take (i + 1)) = S.take at9 ++ px :: S.drop at9 := by rw [thQ_s epx, ← eS]; exact hxs
                  exact ihlA H locs ls (i + 1) (upd g7 at9 (nI jx)) (by omega) (lv_sub hl [0, 3, 4, 5, 6, 7] rfl) (by omega) (fun q p e => by rw [hts] at e; exact insB (by omega) eix b1 (fun q p hq e => (b2 q p hq e).1) (by rw [← h2 i px (Nat.le_refl _) epx, eix]) e) (fun q p hq e => (upd_ne9 (by omega)).trans (b3 q p (by omega) e)) hP hS
                · replace c59 : ¬ (f js).toInt ≤ (f jx).toInt := fun zq => c59 ((lg_cmp_le _ _).mpr (Int64.le_iff_toInt_le.mpr zq))
                  refine lv_aload hx hb dX8_node_62 (lv_at hl 3 rfl) ?_
                  refine lv_iload hx hb dX8_node_64 (lv_at hl 0 rfl) ?_
                  refine lv_aload hx hb dX8_node_66 (lv_at hl 3 rfl) ?_
                  refine lv_iload hx hb dX8_node_68 (lv_at hl 0 rfl) ?_
                  refine lv_iconst (v := nI 1) hx hb dX8_node_70 (by decide) ?_
                  refine q_isubN hx hb dX8_node_71 (by omega) ?_
                  refine q_ialdN C hP fp (by omega) (by omega) dX8_node_72 ?_
                  rw [eis]
                  refine q_iastN C hP hS fp (by omega) (by omega) dX8_node_73 (fun H locs hP hS => ?_)
                  rw [qNh_sp hnd (show 7 < 8 by omega)] at hP
                  have fy : (qNh cy h y od pa Y ct O (qU (qU Q 7 g7) 7 (upd g7 at9 (nI js)))) y = some (.inr (8, [.ref ms, .ref mb, .ref mw, .int gr, .int cd, .int ca, .int mv, .ref od, .ref pt, .int (nI ct), .int fau, .ref fi, .ref re, .int cs, .ref rc, .ref rs, .ref so, .ref ot, .ref cn, .ref la, .int ce, .ref ro, .int rn])) := by rw [qNh_y, hY]
                  have fo : (qNh cy h y od pa Y ct O (qU (qU Q 7 g7) 7 (upd g7 at9 (nI js)))) od = _ := qNh_od hnd
                  have fp : (qNh cy h y od pa Y ct O (qU (qU Q 7 g7) 7 (upd g7 at9 (nI js)))) (pa 7) = _ := qNh_pa hnd (show 7 < 8 by omega)
                  have fpt : (qNh cy h y od pa Y ct O (qU (qU Q 7 g7) 7 (upd g7 at9 (nI js)))) pt = _ := (qNh_o hno.1).trans hpt
                  have fa : (qNh cy h y od pa Y ct O (qU (qU Q 7 g7) 7 (upd g7 at9 (nI js)))) a = _ := (qNh_o hno.2.1).trans hA
                  have fk : (qNh cy h y od pa Y ct O (qU (qU Q 7 g7) 7 (upd g7 at9 (nI js)))) ka = _ := (qNh_o hno.2.2).trans hK
                  obtain ⟨at8, rfl⟩ : ∃ z, at9 = z + 1 := ⟨at9 - 1, by omega⟩
                  refine lv_iinc (v := nI at8) (lv' := [(7, .int (nI at8)), (6, .int (nI jx)), (5, .int (nI i)), (4, .ref (pa 7)), (3, .int (nI L.length)), (2, .int (nI 7)), (1, .ref a), (0, .ref y)]) hx hb dX8_node_74 hl (k := 0) rfl (q_decN at8) (by decide) rfl (fun ls hl => ?_)
                  refine lv_goto (tgt := 34) hx hb dX8_node_77 (by decide) ?_
                  rw [hks, hkx] at c59
                  rw [qU_qU9] at hP
                  exact ihlB H locs ls at8 (upd g7 (at8 + 1) (nI js)) (by omega) (lv_sub hl [0, 1, 2, 3, 4, 5, 6, 7] rfl) (by omega) (fun q p hq e => (upd_ne9 (by omega)).trans (b1 q p (by omega) e)) (fun q p hq e => if z : q = at8 then by (rw [z] at e ⊢; rw [show at8 + 1 - 1 = at8 from rfl, e] at eps; cases eps; exact ⟨upd_at9.trans (eis.symm.trans (b1 at8 _ (by omega) e)), by omega⟩) else ⟨(upd_ne9 (by omega)).trans (b2 q p (by omega) e).1, (b2 q p (by omega) e).2⟩) (fun q p hq e => (upd_ne9 (by omega)).trans (b3 q p hq e)) hP hS
    | succ r =>
      obtain rfl : d = 6 - r := by omega
      have fy : (qNh cy h y od pa Y ct O Q) y = some (.inr (8, [.ref ms, .ref mb, .ref mw, .int gr, .int cd, .int ca, .int mv, .ref od, .ref pt, .int (nI ct), .int fau, .ref fi, .ref re, .int cs, .ref rc, .ref rs, .ref so, .ref ot, .ref cn, .ref la, .int ce, .ref ro, .int rn])) := by rw [qNh_y, hY]
      have fo : (qNh cy h y od pa Y ct O Q) od = _ := qNh_od hnd
      have fp : (qNh cy h y od pa Y ct O Q) (pa (6 - r)) = _ := qNh_pa hnd (show (6 - r) < 8 by omega)
      have fpt : (qNh cy h y od pa Y ct O Q) pt = _ := (qNh_o hno.1).trans hpt
      have fa : (qNh cy h y od pa Y ct O Q) a = _ := (qNh_o hno.2.1).trans hA
      have fk : (qNh cy h y od pa Y ct O Q) ka = _ := (qNh_o hno.2.2).trans hK
      have fp1 : (qNh cy h y od pa Y ct O Q) (pa ((6 - r) + 1)) = _ := qNh_pa hnd (show (6 - r) + 1 < 8 by omega)
      refine lv_aload_n hx hb dX8_node_0 rfl (lv_at hl 0 rfl) ?_
      refine q_get C hP fy rfl inX8 8 (by decide) g1175 rfl dX8_node_1 ?_
      refine lv_iload_n hx hb dX8_node_4 rfl (lv_at hl 2 rfl) ?_
      refine q_aaldA C hP fpt rfl (by omega) (by omega) rfl dX8_node_5 ?_
      refine lv_astore (lv' := [(4, .ref (pa (6 - r))), (0, .ref y), (1, .ref a), (2, .int (nI (6 - r))), (3, .int (nI L.length))]) hx hb dX8_node_6 hl (by decide) rfl (fun ls hl => ?_)
      refine lv_iload_n hx hb dX8_node_8 rfl (lv_at hl 3 rfl) ?_
      refine lv_bipush (v := nI 7) hx hb dX8_node_9 (by decide) ?_
      refine lv_icmp_ne (tgt := 137) hx hb dX8_node_11 (by decide) (fun c11 => ?_) (fun c11 => ?_)
      · replace c11 : ¬ (6 - r) = 7 := fun zq => c11 ((nI_eq (a := (6 - r)) (b := 7) (by omega) (by omega)).mpr zq)
        refine lv_iconst (v := nI 0) hx hb dX8_node_137 (by decide) ?_
        refine lv_istore (lv' := [(5, .int (nI 0)), (4, .ref (pa (6 - r))), (0, .ref y), (1, .ref a), (2, .int (nI (6 - r))), (3, .int (nI L.length))]) hx hb dX8_node_138 hl (by decide) rfl (fun ls hl => ?_)
        refine lv_iconst (v := nI 0) hx hb dX8_node_140 (by decide) ?_
        refine lv_istore (lv' := [(6, .int (nI 0)), (5, .int (nI 0)), (4, .ref (pa (6 - r))), (0, .ref y), (1, .ref a), (2, .int (nI (6 - r))), (3, .int (nI L.length))]) hx hb dX8_node_141 hl (by decide) rfl (fun ls hl => ?_)
        refine lv_iconst (v := nI 0) hx hb dX8_node_143 (by decide) ?_
        refine lv_istore (lv' := [(7, .int (nI 0)), (6, .int (nI 0)), (5, .int (nI 0)), (4, .ref (pa (6 - r))), (0, .ref y), (1, .ref a), (2, .int (nI (6 - r))), (3, .int (nI L.length))]) hx hb dX8_node_144 hl (by decide) rfl (fun ls hl => ?_)
        clear fy fo fp fpt fa fk fp1
        refine (?_ : ∀ (tD : Nat) (H : Heap) (locs : List Loc) (ls : Array Slot) (v9 k5 k6 : Nat), 32 - v9 < tD → lv_has ls 11 [(7, .int (nI v9)), (6, .int (nI k6)), (5, .int (nI k5)), (4, .ref (pa (6 - r))), (3, .int (nI L.length)), (2, .int (nI (6 - r))), (1, .ref a), (0, .ref y)] → v9 ≤ 32 → k5 = tqB (thS (qMk gr) (6 - r) L) v9 → k6 = tqB (thM (qMk gr) (6 - r) L) v9 → qP D N0 (qNh cy h y od pa Y (ct + (thAv (qMk gr) (6 - r) L v9).length) (qPourI O ct ((thAv (qMk gr) (6 - r) L v9).map ix9)) Q) H → va_S (qA N0) s.heap H locs → W p l e _ s m _ below meth c H locs 0 0 _ (F0 m 146 ls [])) _ _ _ ls 0 0 0 (Nat.lt_succ_self _) (lv_sub hl [0, 1, 2, 3, 7, 6, 5, 4] rfl) (Nat.zero_le _) rfl rfl (by rw [show thAv (qMk gr) (6 - r) L 0 = [] from rfl, List.map_nil, qPourI_nil]; exact hP) hS
        clear hl hP hS
        intro tD
        induction tD with
        | zero => intro H locs ls v9 k5 k6 htD; exact absurd htD (Nat.not_lt_zero _)
        | succ tD ihlD =>
          intro H locs ls v9 k5 k6 htD hl hv9 hk5 hk6 hP hS
          have fy : (qNh cy h y od pa Y (ct + (thAv (qMk gr) (6 - r) L v9).length) (qPourI O ct ((thAv (qMk gr) (6 - r) L v9).map ix9)) Q) y = some (.inr (8, [.ref ms, .ref mb, .ref mw, .int gr, .int cd, .int ca, .int mv, .ref od, .ref pt, .int (nI (ct + (thAv (qMk gr) (6 - r) L v9).length)), .int fau, .ref fi, .ref re, .int cs, .ref rc, .ref rs, .ref so, .ref ot, .ref cn, .ref la, .int ce, .ref ro, .int rn])) := by rw [qNh_y, hY]
          have fo : (qNh cy h y od pa Y (ct + (thAv (qMk gr) (6 - r) L v9).length) (qPourI O ct ((thAv (qMk gr) (6 - r) L v9).map ix9)) Q) od = _ := qNh_od hnd
          have fp : (qNh cy h y od pa Y (ct + (thAv (qMk gr) (6 - r) L v9).length) (qPourI O ct ((thAv (qMk gr) (6 - r) L v9).map ix9)) Q) (pa (6 - r)) = _ := qNh_pa hnd (show (6 - r) < 8 by omega)
          have fpt : (qNh cy h y od pa Y (ct + (thAv (qMk gr) (6 - r) L v9).length) (qPourI O ct ((thAv (qMk gr) (6 - r) L v9).map ix9)) Q) pt = _ := (qNh_o hno.1).trans hpt
          have fa : (qNh cy h y od pa Y (ct + (thAv (qMk gr) (6 - r) L v9).length) (qPourI O ct ((thAv (qMk gr) (6 - r) L v9).map ix9)) Q) a = _ := (qNh_o hno.2.1).trans hA
          have fk : (qNh cy h y od pa Y (ct + (thAv (qMk gr) (6 - r) L v9).length) (qPourI O ct ((thAv (qMk gr) (6 - r) L v9).map ix9)) Q) ka = _ := (qNh_o hno.2.2).trans hK
          have fp1 : (qNh cy h y od pa Y (ct + (thAv (qMk gr) (6 - r) L v9).length) (qPourI O ct ((thAv (qMk gr) (6 - r) L v9).map ix9)) Q) (pa ((6 - r) + 1)) = _ := qNh_pa hnd (show (6 - r) + 1 < 8 by omega)
          have hal := thAv_le (m := qMk gr) (r := r) (L := L) (32 - v9) v9 (by omega)
          refine lv_iload hx hb dX8_node_146 (lv_at hl 0 rfl) ?_
          refine lv_bipush (v := nI 32) hx hb dX8_node_148 (by decide) ?_
          refine lv_icmp_ge (tgt := 267) hx hb dX8_node_150 (by decide) (fun c150 => ?_) (fun c150 => ?_)
          · replace c150 : 32 ≤ v9 := (nI_leI (a := 32) (b := v9) (by omega) (by omega)).mp c150
            refine lv_bipush (v := nI 31) hx hb dX8_node_267 (by decide) ?_
            refine lv_sipush (v := nI 527) hx hb dX8_node_269 (by decide) ?_
            refine lv_iload hx hb dX8_node_272 (lv_at hl 2 rfl) ?_
            refine q_iaddN hx hb dX8_node_274 ?_
            refine q_imulN hx hb dX8_node_275 ?_
            refine lv_iload hx hb dX8_node_276 (lv_at hl 1 rfl) ?_
            refine q_iaddN hx hb dX8_node_278 ?_
            refine lv_istore (lv' := [(7, .int (nI ((31 * (527 + k5)) + k6))), (6, .int (nI k6)), (5, .int (nI k5)), (4, .ref (pa (6 - r))), (3, .int (nI L.length)), (2, .int (nI (6 - r))), (1, .ref a), (0, .ref y)]) hx hb dX8_node_279 hl (by decide) rfl (fun ls hl => ?_)
            refine lv_iconst (v := nI 0) hx hb dX8_node_281 (by decide) ?_
            refine lv_istore (lv' := [(8, .int (nI 0)), (7, .int (nI ((31 * (527 + k5)) + k6))), (6, .int (nI k6)), (5, .int (nI k5)), (4, .ref (pa (6 - r))), (3, .int (nI L.length)), (2, .int (nI (6 - r))), (1, .ref a), (0, .ref y)]) hx hb dX8_node_282 hl (by decide) rfl (fun ls hl => ?_)
            have e32 : v9 = 32 := by omega
            rw [e32] at hk5 hk6 hP
            have ek5 : k5 = trKb (qMk gr) (r + 1) L := hk5
            have ek6 : k6 = trNb (qMk gr) (r + 1) L := hk6
            clear fy fo fp fpt fa fk fp1
            refine (?_ : ∀ (tF : Nat) (H : Heap) (locs : List Loc) (ls : Array Slot) (v8 s9 : Nat) (Qf : Nat → Nat → Int32), 32 - v8 < tF → lv_has ls 11 [(8, .int (nI v8)), (7, .int (nI s9)), (6, .int (nI k6)), (4, .ref (pa (6 - r))), (3, .int (nI L.length)), (2, .int (nI (6 - r))), (1, .ref a), (0, .ref y)] → v8 ≤ 32 → s9 = thSv (qMk gr) r L v8 → (∀ d', d' < 6 - r + 1 → Qf d' = Q d') → qP D N0 (qNh cy h y od pa Y (ct + (thBv (qMk gr) r L v8).length) (qPourI O ct ((thBv (qMk gr) r L v8).map ix9)) Qf) H → va_S (qA N0) s.heap H locs → W p l e _ s m _ below meth c H locs 0 0 _ (F0 m 284 ls [])) _ _ _ ls 0 _ Q (Nat.lt_succ_self _) (lv_sub hl [0, 1, 2, 4, 5, 6, 7, 8] rfl) (Nat.zero_le _) (by rw [ek5, ek6]; rfl) (fun _ _ => rfl) (by rw [show thBv (qMk gr) r L 0 = thAv (qMk gr) (6 - r) L 32 from List.append_nil _]; exact hP) hS
            clear hl hP hS
            intro tF
            induction tF with
            | zero => intro H locs ls v8 s9 Qf htF; exact absurd htF (Nat.not_lt_zero _)
            | succ tF ihlF =>
              intro H locs ls v8 s9 Qf htF hl hv8 hs9 hQf hP hS
              have fy : (qNh cy h y od pa Y (ct + (thBv (qMk gr) r L v8).length) (qPourI O ct ((thBv (qMk gr) r L v8).map ix9)) Qf) y = some (.inr (8, [.ref ms, .ref mb, .ref mw, .int gr, .int cd, .int ca, .int mv, .ref od, .ref pt, .int (nI (ct + (thBv (qMk gr) r L v8).length)), .int fau, .ref fi, .ref re, .int cs, .ref rc, .ref rs, .ref so, .ref ot, .ref cn, .ref la, .int ce, .ref ro, .int rn])) := by rw [qNh_y, hY]
              have fo : (qNh cy h y od pa Y (ct + (thBv (qMk gr) r L v8).length) (qPourI O ct ((thBv (qMk gr) r L v8).map ix9)) Qf) od = _ := qNh_od hnd
              have fp : (qNh cy h y od pa Y (ct + (thBv (qMk gr) r L v8).length) (qPourI O ct ((thBv (qMk gr) r L v8).map ix9)) Qf) (pa (6 - r)) = _ := qNh_pa hnd (show (6 - r) < 8 by omega)
              have fpt : (qNh cy h y od pa Y (ct + (thBv (qMk gr) r L v8).length) (qPourI O ct ((thBv (qMk gr) r L v8).map ix9)) Qf) pt = _ := (qNh_o hno.1).trans hpt
              have fa : (qNh cy h y od pa Y (ct + (thBv (qMk gr) r L v8).length) (qPourI O ct ((thBv (qMk gr) r L v8).map ix9)) Qf) a = _ := (qNh_o hno.2.1).trans hA
              have fk : (qNh cy h y od pa Y (ct + (thBv (qMk gr) r L v8).length) (qPourI O ct ((thBv (qMk gr) r L v8).map ix9)) Qf) ka = _ := (qNh_o hno.2.2).trans hK
              have fp1 : (qNh cy h y od pa Y (ct + (thBv (qMk gr) r L v8).length) (qPourI O ct ((thBv (qMk gr) r L v8).map ix9)) Qf) (pa ((6 - r) + 1)) = _ := qNh_pa hnd (show (6 - r) + 1 < 8 by omega)
              have hbl8 := thBv_le (m := qMk gr) (r := r) (L := L) (32 - v8) v8 (by omega)
              refine lv_iload hx hb dX8_node_284 (lv_at hl 0 rfl) ?_
              refine lv_bipush (v := nI 32) hx hb dX8_node_286 (by decide) ?_
              refine lv_icmp_ge (tgt := 391) hx hb dX8_node_288 (by decide) (fun c288 => ?_) (fun c288 => ?_)
              · replace c288 : 32 ≤ v8 := (nI_leI (a := 32) (b := v8) (by omega) (by omega)).mp c288
                refine lv_iload hx hb dX8_node_391 (lv_at hl 1 rfl) ?_
                have e33 : v8 = 32 := by omega
                subst e33
                exact q_iret C hP hS ⟨by rw [hs9]; rfl, Qf, fun d9 hd9 => hQf d9 (by omega), by rw [show thBv (qMk gr) r L 32 = thT (qMk gr) (r + 1) L from rfl, thT_len]⟩ (by omega) dX8_node_393
              · replace c288 : ¬ 32 ≤ v8 := fun zq => c288 ((nI_leI (a := 32) (b := v8) (by omega) (by omega)).mpr zq)
                refine lv_iload hx hb dX8_node_291 (lv_at hl 2 rfl) ?_
                refine lv_iload hx hb dX8_node_293 (lv_at hl 0 rfl) ?_
                refine lv_ishr hx hb dX8_node_295 ?_
                refine lv_iconst (v := nI 1) hx hb dX8_node_296 (by decide) ?_
                refine lv_iand hx hb dX8_node_297 ?_
                rw [ek6, show trNb (qMk gr) (r + 1) L = tqB (thM (qMk gr) (6 - r) L) 32 from rfl]
                refine lv_if_ne (tgt := 304) hx hb dX8_node_298 (by decide) (fun c298 => ?_) (fun c298 => ?_)
                · have hMv : thM (qMk gr) (6 - r) L v8 = true := by
                    cases z : thM (qMk gr) (6 - r) L v8 with
                    | true => rfl
                    | false => exact absurd ((tqB_shr (by omega)).mpr z) c298
                  refine lv_iconst (v := nI 0) hx hb dX8_node_304 (by decide) ?_
                  refine lv_istore (lv' := [(9, .int (nI 0)), (8, .int (nI v8)), (7, .int (nI s9)), (6, .int (nI k6)), (4, .ref (pa (6 - r))), (3, .int (nI L.length)), (2, .int (nI (6 - r))), (1, .ref a), (0, .ref y)]) hx hb dX8_node_305 hl (by decide) rfl (fun ls hl => ?_)
                  refine lv_iconst (v := nI 0) hx hb dX8_node_307 (by decide) ?_
                  refine lv_istore (lv' := [(10, .int (nI 0)), (9, .int (nI 0)), (8, .int (nI v8)), (7, .int (nI s9)), (6, .int (nI k6)), (4, .ref (pa (6 - r))), (3, .int (nI L.length)), (2, .int (nI (6 - r))), (1, .ref a), (0, .ref y)]) hx hb dX8_node_308 hl (by decide) rfl (fun ls hl => ?_)
                  clear fy fo fp fpt fa fk fp1
                  refine (?_ : ∀ (tG : Nat) (H : Heap) (locs : List Loc) (ls : Array Slot) (i : Nat) (Qg : Nat → Nat → Int32), L.length - i < tG → lv_has ls 11 [(10, .int (nI i)), (9, .int (nI (thK (qMk gr) (6 - r) v8 (L.take i)).length)), (8, .int (nI v8)), (7, .int (nI s9)), (6, .int (nI k6)), (4, .ref (pa (6 - r))), (3, .int (nI L.length)), (2, .int (nI (6 - r))), (1, .ref a), (0, .ref y)] → i ≤ L.length → (∀ d', d' < 6 - r + 1 → Qg d' = Q d') → (∀ q p, (thK (qMk gr) (6 - r) v8 (L.take i))[q]? = some p → Qg (6 - r + 1) q = ix9 p) → qP D N0 (qNh cy h y od pa Y (ct + (thBv (qMk gr) r L v8).length) (qPourI O ct ((thBv (qMk gr) r L v8).map ix9)) Qg) H → va_S (qA N0) s.heap H locs → W p l e _ s m _ below meth c H locs 0 0 _ (F0 m 310 ls [])) _ _ _ ls 0 Qf (Nat.lt_succ_self _) (lv_sub hl [0, 1, 2, 3, 4, 5, 6, 7, 8, 9] rfl) (Nat.zero_le _) hQf (fun q p e => by simp [thK] at e) hP hS
                  clear hl hP hS
                  intro tG
                  induction tG with
                  | zero => intro H locs ls i Qg htG; exact absurd htG (Nat.not_lt_zero _)
                  | succ tG ihlG =>
                    intro H locs ls i Qg htG hl hi hQg hg hP hS
                    have fy : (qNh cy h y od pa Y (ct + (thBv (qMk gr) r L v8).length) (qPourI O ct ((thBv (qMk gr) r L v8).map ix9)) Qg) y = some (.inr (8, [.ref ms, .ref mb, .ref mw, .int gr, .int cd, .int ca, .int mv, .ref od, .ref pt, .int (nI (ct + (thBv (qMk gr) r L v8).length)), .int fau, .ref fi, .ref re, .int cs, .ref rc, .ref rs, .ref so, .ref ot, .ref cn, .ref la, .int ce, .ref ro, .int rn])) := by rw [qNh_y, hY]
                    have fo : (qNh cy h y od pa Y (ct + (thBv (qMk gr) r L v8).length) (qPourI O ct ((thBv (qMk gr) r L v8).map ix9)) Qg) od = _ := qNh_od hnd
                    have fp : (qNh cy h y od pa Y (ct + (thBv (qMk gr) r L v8).length) (qPourI O ct ((thBv (qMk gr) r L v8).map ix9)) Qg) (pa (6 - r)) = _ := qNh_pa hnd (show (6 - r) < 8 by omega)
                    have fpt : (qNh cy h y od pa Y (ct + (thBv (qMk gr) r L v8).length) (qPourI O ct ((thBv (qMk gr) r L v8).map ix9)) Qg) pt = _ := (qNh_o hno.1).trans hpt
                    have fa : (qNh cy h y od pa Y (ct + (thBv (qMk gr) r L v8).length) (qPourI O ct ((thBv (qMk gr) r L v8).map ix9)) Qg) a = _ := (qNh_o hno.2.1).trans hA
                    have fk : (qNh cy h y od pa Y (ct + (thBv (qMk gr) r L v8).length) (qPourI O ct ((thBv (qMk gr) r L v8).map ix9)) Qg) ka = _ := (qNh_o hno.2.2).trans hK
                    have fp1 : (qNh cy h y od pa Y (ct + (thBv (qMk gr) r L v8).length) (qPourI O ct ((thBv (qMk gr) r L v8).map ix9)) Qg) (pa ((6 - r) + 1)) = _ := qNh_pa hnd (show (6 - r) + 1 < 8 by omega)
                    have hbl : (thK (qMk gr) (6 - r) v8 (L.take i)).length ≤ i := Nat.le_trans thK_len (by rw [List.length_take]; omega)
                    have hQd := hQg (6 - r) (by omega)
                    rw [hQd] at fp
                    refine lv_iload hx hb dX8_node_310 (lv_at hl 0 rfl) ?_
                    refine lv_iload_n hx hb dX8_node_312 rfl (lv_at hl 6 rfl) ?_
                    refine lv_icmp_ge (tgt := 367) hx hb dX8_node_313 (by decide) (fun c313 => ?_) (fun c313 => ?_)
                    · replace c313 : (L.length) ≤ i := (nI_leI (a := L.length) (b := i) (by omega) (by omega)).mp c313
                      have eLi : L.take i = L := List.take_of_length_le (by omega)
                      rw [eLi] at hl hg hbl
                      have hbv := thBv_le (m := qMk gr) (r := r) (L := L) (32 - (v8 + 1)) (v8 + 1) (by omega)
                      rw [thBv_s, if_pos hMv, List.length_append, thT_len] at hbv
                      refine lv_bipush (v := nI 31) hx hb dX8_node_367 (by decide) ?_
                      refine lv_iload hx hb dX8_node_369 (lv_at hl 3 rfl) ?_
                      refine q_imulN hx hb dX8_node_371 ?_
                      refine lv_aload_n hx hb dX8_node_372 rfl (lv_at hl 9 rfl) ?_
                      refine lv_aload_n hx hb dX8_node_373 rfl (lv_at hl 8 rfl) ?_
                      refine lv_iload_n hx hb dX8_node_374 rfl (lv_at hl 7 rfl) ?_
                      refine lv_iconst (v := nI 1) hx hb dX8_node_375 (by decide) ?_
                      refine q_iaddN hx hb dX8_node_376 ?_
                      refine lv_iload hx hb dX8_node_377 (lv_at hl 1 rfl) ?_
                      refine q_callV (rest := [.int (nI (31 * s9))]) C (ih h y ms mb mw od pt fi re rc rs so ot cn la ro gr cd ca mv fau cs ce rn pa a ka fs7 f Y (ct + (thBv (qMk gr) r L v8).length) (qPourI O ct ((thBv (qMk gr) r L v8).map ix9)) Qg r (6 - r + 1) (thK (qMk gr) (6 - r) v8 L) hY hnd hpt hA hK hno (by omega) (by omega) (fun p hp => hLf p (thK_mem.mp hp).1) (qNo_k hqn) hg (by omega) (by omega)) kX8_node g1371 g1373 rfl gp60 g4 hP hS fy (by first | decide | omega) hl.1 rfl (by simp [q_catrf, q_cati, q_catl, q_cata, q_catn]) (by first | decide | omega) dX8_node_379 (fun q ce E h' H1 locs1 hE => hE.elim) (fun v hh1 H locs hq hP hS => ?_)
                      obtain ⟨rfl, Qn, hQn0, rfl⟩ := hq
                      have hQn : ∀ d', d' < 6 - r + 1 → Qn d' = Q d' := fun d9 hd9 => (hQn0 d9 hd9).trans (hQg d9 hd9)
                      rw [qPourI_2 (by rw [List.length_map])] at hP
                      have fy : (qNh cy h y od pa Y (ct + (thBv (qMk gr) r L v8).length + (thK (qMk gr) (6 - r) v8 L).length) (qPourI O ct ((thBv (qMk gr) r L v8).map ix9 ++ (thT (qMk gr) r (thK (qMk gr) (6 - r) v8 L)).map ix9)) Qn) y = some (.inr (8, [.ref ms, .ref mb, .ref mw, .int gr, .int cd, .int ca, .int mv, .ref od, .ref pt, .int (nI (ct + (thBv (qMk gr) r L v8).length + (thK (qMk gr) (6 - r) v8 L).length)), .int fau, .ref fi, .ref re, .int cs, .ref rc, .ref rs, .ref so, .ref ot, .ref cn, .ref la, .int ce, .ref ro, .int rn])) := by rw [qNh_y, hY]
                      have fo : (qNh cy h y od pa Y (ct + (thBv (qMk gr) r L v8).length + (thK (qMk gr) (6 - r) v8 L).length) (qPourI O ct ((thBv (qMk gr) r L v8).map ix9 ++ (thT (qMk gr) r (thK (qMk gr) (6 - r) v8 L)).map ix9)) Qn) od = _ := qNh_od hnd
                      have fp : (qNh cy h y od pa Y (ct + (thBv (qMk gr) r L v8).length + (thK (qMk gr) (6 - r) v8 L).length) (qPourI O ct ((thBv (qMk gr) r L v8).map ix9 ++ (thT (qMk gr) r (thK (qMk gr) (6 - r) v8 L)).map ix9)) Qn) (pa (6 - r)) = _ := qNh_pa hnd (show (6 - r) < 8 by omega)
                      have fpt : (qNh cy h y od pa Y (ct + (thBv (qMk gr) r L v8).length + (thK (qMk gr) (6 - r) v8 L).length) (qPourI O ct ((thBv (qMk gr) r L v8).map ix9 ++ (thT (qMk gr) r (thK (qMk gr) (6 - r) v8 L)).map ix9)) Qn) pt = _ := (qNh_o hno.1).trans hpt
                      have fa : (qNh cy h y od pa Y (ct + (thBv (qMk gr) r L v8).length + (thK (qMk gr) (6 - r) v8 L).length) (qPourI O ct ((thBv (qMk gr) r L v8).map ix9 ++ (thT (qMk gr) r (thK (qMk gr) (6 - r) v8 L)).map ix9)) Qn) a = _ := (qNh_o hno.2.1).trans hA
                      have fk : (qNh cy h y od pa Y (ct + (thBv (qMk gr) r L v8).length + (thK (qMk gr) (6 - r) v8 L).length) (qPourI O ct ((thBv (qMk gr) r L v8).map ix9 ++ (thT (qMk gr) r (thK (qMk gr) (6 - r) v8 L)).map ix9)) Qn) ka = _ := (qNh_o hno.2.2).trans hK
                      have fp1 : (qNh cy h y od pa Y (ct + (thBv (qMk gr) r L v8).length + (thK (qMk gr) (6 - r) v8 L).length) (qPourI O ct ((thBv (qMk gr) r L v8).map ix9 ++ (thT (qMk gr) r (thK (qMk gr) (6 - r) v8 L)).map ix9)) Qn) (pa ((6 - r) + 1)) = _ := qNh_pa hnd (show (6 - r) + 1 < 8 by omega)
                      refine q_iaddN hx hb dX8_node_382 ?_
                      refine lv_istore (lv' := [(7, .int (nI ((31 * s9) + (thSh (qMk gr) r (thK (qMk gr) (6 - r) v8 L))))), (10, .int (nI i)), (9, .int (nI (thK (qMk gr) (6 - r) v8 L).length)), (8, .int (nI v8)), (6, .int (nI k6)), (4, .ref (pa (6 - r))), (3, .int (nI L.length)), (2, .int (nI (6 - r))), (1, .ref a), (0, .ref y)]) hx hb dX8_node_383 hl (by decide) rfl (fun ls hl => ?_)
                      refine lv_iinc (v := nI (v8 + 1)) (lv' := [(8, .int (nI (v8 + 1))), (7, .int (nI ((31 * s9) + (thSh (qMk gr) r (thK (qMk gr) (6 - r) v8 L))))), (10, .int (nI i)), (9, .int (nI (thK (qMk gr) (6 - r) v8 L).length)), (6, .int (nI k6)), (4, .ref (pa (6 - r))), (3, .int (nI L.length)), (2, .int (nI (6 - r))), (1, .ref a), (0, .ref y)]) hx hb dX8_node_385 hl (k := 3) rfl (nI_1 v8) (by decide) rfl (fun ls hl => ?_)
                      refine lv_goto (tgt := 284) hx hb dX8_node_388 (by decide) ?_
                      exact ihlF H locs ls (v8 + 1) _ Qn (by omega) (lv_sub hl [0, 1, 4, 5, 6, 7, 8, 9] rfl) (by omega) (by rw [thSv_s, if_pos hMv, hs9]) hQn (by rw [thBv_s, if_pos hMv, List.length_append, thT_len, List.map_append, ← Nat.add_assoc]; exact hP) hS
                    · replace c313 : ¬ (L.length) ≤ i := fun zq => c313 ((nI_leI (a := L.length) (b := i) (by omega) (by omega)).mpr zq)
                      refine lv_aload_n hx hb dX8_node_316 rfl (lv_at hl 9 rfl) ?_
                      refine lv_aload_n hx hb dX8_node_317 rfl (lv_at hl 8 rfl) ?_
                      refine q_get C hP fa rfl inX7 0 (by decide) g1138 rfl dX8_node_318 ?_
                      refine lv_aload hx hb dX8_node_321 (lv_at hl 5 rfl) ?_
                      refine lv_iload hx hb dX8_node_323 (lv_at hl 0 rfl) ?_
                      refine q_ialdN C hP fp (by omega) (by omega) dX8_node_325 ?_
                      obtain ⟨pi, epi⟩ : ∃ p, L[i]? = some p := ⟨_, List.getElem?_eq_getElem (by omega)⟩
                      obtain ⟨ji, hji, eji⟩ := hLf pi (List.mem_of_getElem? epi)
                      have eii : Q (6 - r) i = nI ji := by rw [hQ i pi epi, eji]; exact lN_i32
                      have hki : f ji = pi.1 := by rw [eji]
                      have hni := thN_lt (m := qMk gr) (d := 6 - r) (k := pi.1)
                      rw [eii]
                      refine q_laldN C hP fk (by omega) (by omega) dX8_node_326 ?_
                      rw [hki]
                      refine q_callV (rest := []) C (c_X8_hash l D cy N0 (qNh cy h y od pa Y (ct + (thBv (qMk gr) r L v8).length) (qPourI O ct ((thBv (qMk gr) r L v8).map ix9)) Qg) y ms mb mw od pt fi re rc rs so ot cn la ro gr cd ca mv (nI (ct + (thBv (qMk gr) r L v8).length)) fau cs ce rn (pi.1) fy) kX8_hash g1289 g1291 rfl gp44 g4 hP hS fy (by first | decide | omega) hl.1 rfl (by decide) (by first | decide | omega) dX8_node_327 (fun q ce E h' H1 locs1 hE => hE.elim) (fun v hh2 H locs hq hP hS => ?_)
                      obtain ⟨rfl, rfl⟩ := hq
                      rw [qMk_h]
                      refine lv_iload_n hx hb dX8_node_330 rfl (lv_at hl 7 rfl) ?_
                      refine q_callS (rest := []) C (c_X8_number l D cy N0 (qNh cy h y od pa Y (ct + (thBv (qMk gr) r L v8).length) (qPourI O ct ((thBv (qMk gr) r L v8).map ix9)) Qg) (pi.1) (qMk gr) (6 - r) (by omega)) kX8_number g1375 g1376 hP hS (by first | decide | omega) hl.1 rfl (by decide) (by first | decide | omega) dX8_node_331 (fun q ce E h' H1 locs1 hE => hE.elim) (fun v hh3 H locs hq hP hS => ?_)
                      obtain ⟨rfl, rfl⟩ := hq
                      refine lv_iload hx hb dX8_node_334 (lv_at hl 2 rfl) ?_
                      refine lv_icmp_eq (tgt := 342) hx hb dX8_node_336 (by decide) (fun c336 => ?_) (fun c336 => ?_)
                      · replace c336 : (thN (qMk gr) (6 - r) (pi.1)) = v8 := (nI_eq (a := (thN (qMk gr) (6 - r) (pi.1))) (b := v8) (by omega) (by omega)).mp c336
                        refine lv_aload_n hx hb dX8_node_342 rfl (lv_at hl 9 rfl) ?_
                        refine q_get C hP fy rfl inX8 8 (by decide) g1175 rfl dX8_node_343 ?_
                        refine lv_iload_n hx hb dX8_node_346 rfl (lv_at hl 7 rfl) ?_
                        refine lv_iconst (v := nI 1) hx hb dX8_node_347 (by decide) ?_
                        refine q_iaddN hx hb dX8_node_348 ?_
                        refine q_aaldA C hP fpt rfl (by omega) (by omega) rfl dX8_node_349 ?_
                        refine lv_iload hx hb dX8_node_350 (lv_at hl 1 rfl) ?_
                        refine lv_aload hx hb dX8_node_352 (lv_at hl 5 rfl) ?_
                        refine lv_iload hx hb dX8_node_354 (lv_at hl 0 rfl) ?_
                        refine q_ialdN C hP fp (by omega) (by omega) dX8_node_356 ?_
                        rw [hQ i pi epi]
                        refine q_iastN C hP hS fp1 (by omega) (by omega) dX8_node_357 (fun H locs hP hS => ?_)
                        rw [qNh_sp hnd (show (6 - r) + 1 < 8 by omega)] at hP
                        have fy : (qNh cy h y od pa Y (ct + (thBv (qMk gr) r L v8).length) (qPourI O ct ((thBv (qMk gr) r L v8).map ix9)) (qU Qg ((6 - r) + 1) (upd (Qg ((6 - r) + 1)) ((thK (qMk gr) (6 - r) v8 (L.take i)).length) (ix9 pi)))) y = some (.inr (8, [.ref ms, .ref mb, .ref mw, .int gr, .int cd, .int ca, .int mv, .ref od, .ref pt, .int (nI (ct + (thBv (qMk gr) r L v8).length)), .int fau, .ref fi, .ref re, .int cs, .ref rc, .ref rs, .ref so, .ref ot, .ref cn, .ref la, .int ce, .ref ro, .int rn])) := by rw [qNh_y, hY]
                        have fo : (qNh cy h y od pa Y (ct + (thBv (qMk gr) r L v8).length) (qPourI O ct ((thBv (qMk gr) r L v8).map ix9)) (qU Qg ((6 - r) + 1) (upd (Qg ((6 - r) + 1)) ((thK (qMk gr) (6 - r) v8 (L.take i)).length) (ix9 pi)))) od = _ := qNh_od hnd
                        have fp : (qNh cy h y od pa Y (ct + (thBv (qMk gr) r L v8).length) (qPourI O ct ((thBv (qMk gr) r L v8).map ix9)) (qU Qg ((6 - r) + 1) (upd (Qg ((6 - r) + 1)) ((thK (qMk gr) (6 - r) v8 (L.take i)).length) (ix9 pi)))) (pa (6 - r)) = _ := qNh_pa hnd (show (6 - r) < 8 by omega)
                        have fpt : (qNh cy h y od pa Y (ct + (thBv (qMk gr) r L v8).length) (qPourI O ct ((thBv (qMk gr) r L v8).map ix9)) (qU Qg ((6 - r) + 1) (upd (Qg ((6 - r) + 1)) ((thK (qMk gr) (6 - r) v8 (L.take i)).length) (ix9 pi)))) pt = _ := (qNh_o hno.1).trans hpt
                        have fa : (qNh cy h y od pa Y (ct + (thBv (qMk gr) r L v8).length) (qPourI O ct ((thBv (qMk gr) r L v8).map ix9)) (qU Qg ((6 - r) + 1) (upd (Qg ((6 - r) + 1)) ((thK (qMk gr) (6 - r) v8 (L.take i)).length) (ix9 pi)))) a = _ := (qNh_o hno.2.1).trans hA
                        have fk : (qNh cy h y od pa Y (ct + (thBv (qMk gr) r L v8).length) (qPourI O ct ((thBv (qMk gr) r L v8).map ix9)) (qU Qg ((6 - r) + 1) (upd (Qg ((6 - r) + 1)) ((thK (qMk gr) (6 - r) v8 (L.take i)).length) (ix9 pi)))) ka = _ := (qNh_o hno.2.2).trans hK
                        have fp1 : (qNh cy h y od pa Y (ct + (thBv (qMk gr) r L v8).length) (qPourI O ct ((thBv (qMk gr) r L v8).map ix9)) (qU Qg ((6 - r) + 1) (upd (Qg ((6 - r) + 1)) ((thK (qMk gr) (6 - r) v8 (L.take i)).length) (ix9 pi)))) (pa ((6 - r) + 1)) = _ := qNh_pa hnd (show (6 - r) + 1 < 8 by omega)
                        refine lv_iinc (v := nI ((thK (qMk gr) (6 - r) v8 (L.take i)).length + 1)) (lv' := [(9, .int (nI ((thK (qMk gr) (6 - r) v8 (L.take i)).length + 1))), (10, .int (nI i)), (8, .int (nI v8)), (7, .int (nI s9)), (6, .int (nI k6)), (4, .ref (pa (6 - r))), (3, .int (nI L.length)), (2, .int (nI (6 - r))), (1, .ref a), (0, .ref y)]) hx hb dX8_node_358 hl (k := 1) rfl (nI_1 ((thK (qMk gr) (6 - r) v8 (L.take i)).length)) (by decide) rfl (fun ls hl => ?_)
                        refine lv_iinc (v := nI (i + 1)) (lv' := [(10, .int (nI (i + 1))), (9, .int (nI ((thK (qMk gr) (6 - r) v8 (L.take i)).length + 1))), (8, .int (nI v8)), (7, .int (nI s9)), (6, .int (nI k6)), (4, .ref (pa (6 - r))), (3, .int (nI L.length)), (2, .int (nI (6 - r))), (1, .ref a), (0, .ref y)]) hx hb dX8_node_361 hl (k := 1) rfl (nI_1 i) (by decide) rfl (fun ls hl => ?_)
                        refine lv_goto (tgt := 310) hx hb dX8_node_364 (by decide) ?_
                        have etk := thK_take (m := qMk gr) (d := 6 - r) (v := v8) epi
                        rw [if_pos c336] at etk
                        exact ihlG H locs ls (i + 1) _ (by omega) (by rw [etk, List.length_append]; exact lv_sub hl [0, 1, 2, 3, 4, 5, 6, 7, 8, 9] rfl) (by omega) (fun d9 hd9 => (qU_ne2 hd9).trans (hQg d9 hd9)) (fun q p e => by rw [qU_at]; rw [etk] at e; exact appG hg e) hP hS
                      · replace c336 : ¬ (thN (qMk gr) (6 - r) (pi.1)) = v8 := fun zq => c336 ((nI_eq (a := (thN (qMk gr) (6 - r) (pi.1))) (b := v8) (by omega) (by omega)).mpr zq)
                        refine lv_goto (tgt := 361) hx hb dX8_node_339 (by decide) ?_
                        refine lv_iinc (v := nI (i + 1)) (lv' := [(10, .int (nI (i + 1))), (9, .int (nI (thK (qMk gr) (6 - r) v8 (L.take i)).length)), (8, .int (nI v8)), (7, .int (nI s9)), (6, .int (nI k6)), (4, .ref (pa (6 - r))), (3, .int (nI L.length)), (2, .int (nI (6 - r))), (1, .ref a), (0, .ref y)]) hx hb dX8_node_361 hl (k := 0) rfl (nI_1 i) (by decide) rfl (fun ls hl => ?_)
                        refine lv_goto (tgt := 310) hx hb dX8_node_364 (by decide) ?_
                        have etk := thK_take (m := qMk gr) (d := 6 - r) (v := v8) epi
                        rw [if_neg c336] at etk
                        exact ihlG H locs ls (i + 1) Qg (by omega) (by rw [etk, List.append_nil]; exact lv_sub hl [0, 1, 2, 3, 4, 5, 6, 7, 8, 9] rfl) (by omega) hQg (fun q p e => by rw [etk, List.append_nil] at e; exact hg q p e) hP hS
                · have hMv : thM (qMk gr) (6 - r) L v8 = false := (tqB_shr (by omega)).mp c298
                  refine lv_goto (tgt := 385) hx hb dX8_node_301 (by decide) ?_
                  refine lv_iinc (v := nI (v8 + 1)) (lv' := [(8, .int (nI (v8 + 1))), (7, .int (nI s9)), (6, .int (nI k6)), (4, .ref (pa (6 - r))), (3, .int (nI L.length)), (2, .int (nI (6 - r))), (1, .ref a), (0, .ref y)]) hx hb dX8_node_385 hl (k := 0) rfl (nI_1 v8) (by decide) rfl (fun ls hl => ?_)
                  refine lv_goto (tgt := 284) hx hb dX8_node_388 (by decide) ?_
                  exact ihlF H locs ls (v8 + 1) s9 Qf (by omega) (lv_sub hl [0, 1, 2, 3, 4, 5, 6, 7] rfl) (by omega) (by rw [thSv_s, if_neg (by rw [hMv]; decide)]; exact hs9) hQf (by rw [thBv_s, if_neg (by rw [hMv]; decide), List.append_nil]; exact hP) hS
          · replace c150 : ¬ 32 ≤ v9 := fun zq => c150 ((nI_leI (a := 32) (b := v9) (by omega) (by omega)).mpr zq)
            refine lv_iconst (v := nI 0) hx hb dX8_node_153 (by decide) ?_
            refine lv_istore (lv' := [(8, .int (nI 0)), (7, .int (nI v9)), (6, .int (nI k6)), (5, .int (nI k5)), (4, .ref (pa (6 - r))), (3, .int (nI L.length)), (2, .int (nI (6 - r))), (1, .ref a), (0, .ref y)]) hx hb dX8_node_154 hl (by decide) rfl (fun ls hl => ?_)
            refine lv_iconst (v := -1) hx hb dX8_node_156 (by decide) ?_
            refine lv_istore (lv' := [(9, .int (-1)), (8, .int (nI 0)), (7, .int (nI v9)), (6, .int (nI k6)), (5, .int (nI k5)), (4, .ref (pa (6 - r))), (3, .int (nI L.length)), (2, .int (nI (6 - r))), (1, .ref a), (0, .ref y)]) hx hb dX8_node_157 hl (by decide) rfl (fun ls hl => ?_)
            refine lv_iconst (v := nI 0) hx hb dX8_node_159 (by decide) ?_
            refine lv_istore (lv' := [(10, .int (nI 0)), (9, .int (-1)), (8, .int (nI 0)), (7, .int (nI v9)), (6, .int (nI k6)), (5, .int (nI k5)), (4, .ref (pa (6 - r))), (3, .int (nI L.length)), (2, .int (nI (6 - r))), (1, .ref a), (0, .ref y)]) hx hb dX8_node_160 hl (by decide) rfl (fun ls hl => ?_)
            clear fy fo fp fpt fa fk fp1
            refine (?_ : ∀ (tE : Nat) (H : Heap) (locs : List Loc) (ls : Array Slot) (i : Nat) (o9 : Int32), L.length - i < tE → lv_has ls 11 [(10, .int (nI i)), (9, .int o9), (8, .int (nI (thK (qMk gr) (6 - r) v9 (L.take i)).length)), (7, .int (nI v9)), (6, .int (nI k6)), (5, .int (nI k5)), (4, .ref (pa (6 - r))), (3, .int (nI L.length)), (2, .int (nI (6 - r))), (1, .ref a), (0, .ref y)] → i ≤ L.length → (∀ p, (thK (qMk gr) (6 - r) v9 (L.take i)).getLast? = some p → o9 = ix9 p) → qP D N0 (qNh cy h y od pa Y (ct + (thAv (qMk gr) (6 - r) L v9).length) (qPourI O ct ((thAv (qMk gr) (6 - r) L v9).map ix9)) Q) H → va_S (qA N0) s.heap H locs → W p l e _ s m _ below meth c H locs 0 0 _ (F0 m 162 ls [])) _ _ _ ls 0 (-1) (Nat.lt_succ_self _) (lv_sub hl [0, 1, 2, 3, 4, 5, 6, 7, 8, 9, 10] rfl) (Nat.zero_le _) (fun p e => by simp [thK] at e) hP hS
            clear hl hP hS
            intro tE
            induction tE with
            | zero => intro H locs ls i o9 htE; exact absurd htE (Nat.not_lt_zero _)
            | succ tE ihlE =>
              intro H locs ls i o9 htE hl hi ho9 hP hS
              have fy : (qNh cy h y od pa Y (ct + (thAv (qMk gr) (6 - r) L v9).length) (qPourI O ct ((thAv (qMk gr) (6 - r) L v9).map ix9)) Q) y = some (.inr (8, [.ref ms, .ref mb, .ref mw, .int gr, .int cd, .int ca, .int mv, .ref od, .ref pt, .int (nI (ct + (thAv (qMk gr) (6 - r) L v9).length)), .int fau, .ref fi, .ref re, .int cs, .ref rc, .ref rs, .ref so, .ref ot, .ref cn, .ref la, .int ce, .ref ro, .int rn])) := by rw [qNh_y, hY]
              have fo : (qNh cy h y od pa Y (ct + (thAv (qMk gr) (6 - r) L v9).length) (qPourI O ct ((thAv (qMk gr) (6 - r) L v9).map ix9)) Q) od = _ := qNh_od hnd
              have fp : (qNh cy h y od pa Y (ct + (thAv (qMk gr) (6 - r) L v9).length) (qPourI O ct ((thAv (qMk gr) (6 - r) L v9).map ix9)) Q) (pa (6 - r)) = _ := qNh_pa hnd (show (6 - r) < 8 by omega)
              have fpt : (qNh cy h y od pa Y (ct + (thAv (qMk gr) (6 - r) L v9).length) (qPourI O ct ((thAv (qMk gr) (6 - r) L v9).map ix9)) Q) pt = _ := (qNh_o hno.1).trans hpt
              have fa : (qNh cy h y od pa Y (ct + (thAv (qMk gr) (6 - r) L v9).length) (qPourI O ct ((thAv (qMk gr) (6 - r) L v9).map ix9)) Q) a = _ := (qNh_o hno.2.1).trans hA
              have fk : (qNh cy h y od pa Y (ct + (thAv (qMk gr) (6 - r) L v9).length) (qPourI O ct ((thAv (qMk gr) (6 - r) L v9).map ix9)) Q) ka = _ := (qNh_o hno.2.2).trans hK
              have fp1 : (qNh cy h y od pa Y (ct + (thAv (qMk gr) (6 - r) L v9).length) (qPourI O ct ((thAv (qMk gr) (6 - r) L v9).map ix9)) Q) (pa ((6 - r) + 1)) = _ := qNh_pa hnd (show (6 - r) + 1 < 8 by omega)
              have hbl : (thK (qMk gr) (6 - r) v9 (L.take i)).length ≤ i := Nat.le_trans thK_len (by rw [List.length_take]; omega)
              refine lv_iload hx hb dX8_node_162 (lv_at hl 0 rfl) ?_
              refine lv_iload_n hx hb dX8_node_164 rfl (lv_at hl 7 rfl) ?_
              refine lv_icmp_ge (tgt := 210) hx hb dX8_node_165 (by decide) (fun c165 => ?_) (fun c165 => ?_)
              · replace c165 : (L.length) ≤ i := (nI_leI (a := L.length) (b := i) (by omega) (by omega)).mp c165
                have eLi : L.take i = L := List.take_of_length_le (by omega)
                rw [eLi] at hl ho9 hbl
                refine lv_iload hx hb dX8_node_210 (lv_at hl 2 rfl) ?_
                refine lv_iconst (v := nI 1) hx hb dX8_node_212 (by decide) ?_
                refine lv_icmp_ne (tgt := 246) hx hb dX8_node_213 (by decide) (fun c213 => ?_) (fun c213 => ?_)
                · replace c213 : ¬ ((thK (qMk gr) (6 - r) v9 L).length) = 1 := fun zq => c213 ((nI_eq (a := (thK (qMk gr) (6 - r) v9 L).length) (b := 1) (by omega) (by omega)).mpr zq)
                  have hSv : thS (qMk gr) (6 - r) L v9 = false := by unfold thS; exact decide_eq_false (by omega)
                  refine lv_iload hx hb dX8_node_246 (lv_at hl 2 rfl) ?_
                  refine lv_iconst (v := nI 1) hx hb dX8_node_248 (by decide) ?_
                  refine lv_icmp_le (tgt := 261) hx hb dX8_node_249 (by decide) (fun c249 => ?_) (fun c249 => ?_)
                  · replace c249 : ((thK (qMk gr) (6 - r) v9 L).length) ≤ 1 := (nI_leI (a := (thK (qMk gr) (6 - r) v9 L).length) (b := 1) (by omega) (by omega)).mp c249
                    have hMv : thM (qMk gr) (6 - r) L v9 = false := by unfold thM; exact decide_eq_false (by omega)
                    refine lv_iinc (v := nI (v9 + 1)) (lv' := [(7, .int (nI (v9 + 1))), (10, .int (nI i)), (9, .int o9), (8, .int (nI (thK (qMk gr) (6 - r) v9 L).length)), (6, .int (nI k6)), (5, .int (nI k5)), (4, .ref (pa (6 - r))), (3, .int (nI L.length)), (2, .int (nI (6 - r))), (1, .ref a), (0, .ref y)]) hx hb dX8_node_261 hl (k := 3) rfl (nI_1 v9) (by decide) rfl (fun ls hl => ?_)
                    refine lv_goto (tgt := 146) hx hb dX8_node_264 (by decide) ?_
                    exact ihlD H locs ls (v9 + 1) k5 k6 (by omega) (lv_sub hl [0, 4, 5, 6, 7, 8, 9, 10] rfl) (by omega) (by rw [bits_no hSv]; exact hk5) (by rw [bits_no hMv]; exact hk6) (by rw [thAv_s, show thF (qMk gr) (6 - r) L v9 = [] from by unfold thF; rw [if_neg (by rw [hSv]; decide)], List.append_nil]; exact hP) hS
                  · replace c249 : ¬ ((thK (qMk gr) (6 - r) v9 L).length) ≤ 1 := fun zq => c249 ((nI_leI (a := (thK (qMk gr) (6 - r) v9 L).length) (b := 1) (by omega) (by omega)).mpr zq)
                    have hMv : thM (qMk gr) (6 - r) L v9 = true := by unfold thM; exact decide_eq_true (by omega)
                    refine lv_iload hx hb dX8_node_252 (lv_at hl 4 rfl) ?_
                    refine lv_iconst (v := nI 1) hx hb dX8_node_254 (by decide) ?_
                    refine lv_iload hx hb dX8_node_255 (lv_at hl 3 rfl) ?_
                    refine lv_ishl hx hb dX8_node_257 ?_
                    refine lv_ior hx hb dX8_node_258 ?_
                    rw [hk6, bits_or (by omega) hMv]
                    refine lv_istore (lv' := [(6, .int (nI (tqB (thM (qMk gr) (6 - r) L) (v9 + 1)))), (10, .int (nI i)), (9, .int o9), (8, .int (nI (thK (qMk gr) (6 - r) v9 L).length)), (7, .int (nI v9)), (5, .int (nI k5)), (4, .ref (pa (6 - r))), (3, .int (nI L.length)), (2, .int (nI (6 - r))), (1, .ref a), (0, .ref y)]) hx hb dX8_node_259 hl (by decide) rfl (fun ls hl => ?_)
                    refine lv_iinc (v := nI (v9 + 1)) (lv' := [(7, .int (nI (v9 + 1))), (6, .int (nI (tqB (thM (qMk gr) (6 - r) L) (v9 + 1)))), (10, .int (nI i)), (9, .int o9), (8, .int (nI (thK (qMk gr) (6 - r) v9 L).length)), (5, .int (nI k5)), (4, .ref (pa (6 - r))), (3, .int (nI L.length)), (2, .int (nI (6 - r))), (1, .ref a), (0, .ref y)]) hx hb dX8_node_261 hl (k := 4) rfl (nI_1 v9) (by decide) rfl (fun ls hl => ?_)
                    refine lv_goto (tgt := 146) hx hb dX8_node_264 (by decide) ?_
                    exact ihlD H locs ls (v9 + 1) k5 (tqB (thM (qMk gr) (6 - r) L) (v9 + 1)) (by omega) (lv_sub hl [0, 1, 5, 6, 7, 8, 9, 10] rfl) (by omega) (by rw [bits_no hSv]; exact hk5) rfl (by rw [thAv_s, show thF (qMk gr) (6 - r) L v9 = [] from by unfold thF; rw [if_neg (by rw [hSv]; decide)], List.append_nil]; exact hP) hS
                · replace c213 : ((thK (qMk gr) (6 - r) v9 L).length) = 1 := (nI_eq (a := (thK (qMk gr) (6 - r) v9 L).length) (b := 1) (by omega) (by omega)).mp c213
                  have hSv : thS (qMk gr) (6 - r) L v9 = true := by unfold thS; exact decide_eq_true (by omega)
                  have hMv : thM (qMk gr) (6 - r) L v9 = false := by unfold thM; exact decide_eq_false (by omega)
                  obtain ⟨pb, hB1⟩ := thLen1 (L := (thK (qMk gr) (6 - r) v9 L)) (by omega)
                  have eob : o9 = ix9 pb := ho9 pb (by rw [hB1]; rfl)
                  have hal2 := thAv_le (m := qMk gr) (r := r) (L := L) (32 - (v9 + 1)) (v9 + 1) (by omega)
                  rw [thAv_s, List.length_append, show thF (qMk gr) (6 - r) L v9 = [pb] from by unfold thF; rw [if_pos hSv, hB1], List.length_singleton] at hal2
                  refine lv_iload hx hb dX8_node_216 (lv_at hl 5 rfl) ?_
                  refine lv_iconst (v := nI 1) hx hb dX8_node_218 (by decide) ?_
                  refine lv_iload hx hb dX8_node_219 (lv_at hl 3 rfl) ?_
                  refine lv_ishl hx hb dX8_node_221 ?_
                  refine lv_ior hx hb dX8_node_222 ?_
                  rw [hk5, bits_or (by omega) hSv]
                  refine lv_istore (lv' := [(5, .int (nI (tqB (thS (qMk gr) (6 - r) L) (v9 + 1)))), (10, .int (nI i)), (9, .int o9), (8, .int (nI (thK (qMk gr) (6 - r) v9 L).length)), (7, .int (nI v9)), (6, .int (nI k6)), (4, .ref (pa (6 - r))), (3, .int (nI L.length)), (2, .int (nI (6 - r))), (1, .ref a), (0, .ref y)]) hx hb dX8_node_223 hl (by decide) rfl (fun ls hl => ?_)
                  refine lv_aload_n hx hb dX8_node_225 rfl (lv_at hl 10 rfl) ?_
                  refine q_get C hP fy rfl inX8 7 (by decide) g1174 rfl dX8_node_226 ?_
                  refine lv_aload_n hx hb dX8_node_229 rfl (lv_at hl 10 rfl) ?_
                  refine q_get C hP fy rfl inX8 9 (by decide) g1176 rfl dX8_node_230 ?_
                  refine lv_iload hx hb dX8_node_233 (lv_at hl 2 rfl) ?_
                  rw [eob]
                  refine q_iastN C hP hS fo (by omega) (by omega) dX8_node_235 (fun H locs hP hS => ?_)
                  rw [qNh_so hnd, qPourI_1 (by rw [List.length_map])] at hP
                  have fy : (qNh cy h y od pa Y (ct + (thAv (qMk gr) (6 - r) L v9).length) (qPourI O ct ((thAv (qMk gr) (6 - r) L v9).map ix9 ++ [ix9 pb])) Q) y = some (.inr (8, [.ref ms, .ref mb, .ref mw, .int gr, .int cd, .int ca, .int mv, .ref od, .ref pt, .int (nI (ct + (thAv (qMk gr) (6 - r) L v9).length)), .int fau, .ref fi, .ref re, .int cs, .ref rc, .ref rs, .ref so, .ref ot, .ref cn, .ref la, .int ce, .ref ro, .int rn])) := by rw [qNh_y, hY]
                  have fo : (qNh cy h y od pa Y (ct + (thAv (qMk gr) (6 - r) L v9).length) (qPourI O ct ((thAv (qMk gr) (6 - r) L v9).map ix9 ++ [ix9 pb])) Q) od = _ := qNh_od hnd
                  have fp : (qNh cy h y od pa Y (ct + (thAv (qMk gr) (6 - r) L v9).length) (qPourI O ct ((thAv (qMk gr) (6 - r) L v9).map ix9 ++ [ix9 pb])) Q) (pa (6 - r)) = _ := qNh_pa hnd (show (6 - r) < 8 by omega)
                  have fpt : (qNh cy h y od pa Y (ct + (thAv (qMk gr) (6 - r) L v9).length) (qPourI O ct ((thAv (qMk gr) (6 - r) L v9).map ix9 ++ [ix9 pb])) Q) pt = _ := (qNh_o hno.1).trans hpt
                  have fa : (qNh cy h y od pa Y (ct + (thAv (qMk gr) (6 - r) L v9).length) (qPourI O ct ((thAv (qMk gr) (6 - r) L v9).map ix9 ++ [ix9 pb])) Q) a = _ := (qNh_o hno.2.1).trans hA
                  have fk : (qNh cy h y od pa Y (ct + (thAv (qMk gr) (6 - r) L v9).length) (qPourI O ct ((thAv (qMk gr) (6 - r) L v9).map ix9 ++ [ix9 pb])) Q) ka = _ := (qNh_o hno.2.2).trans hK
                  have fp1 : (qNh cy h y od pa Y (ct + (thAv (qMk gr) (6 - r) L v9).length) (qPourI O ct ((thAv (qMk gr) (6 - r) L v9).map ix9 ++ [ix9 pb])) Q) (pa ((6 - r) + 1)) = _ := qNh_pa hnd (show (6 - r) + 1 < 8 by omega)
                  refine lv_aload_n hx hb dX8_node_236 rfl (lv_at hl 10 rfl) ?_
                  refine lv_dup hx hb dX8_node_237 rfl ?_
                  refine q_get C hP fy rfl inX8 9 (by decide) g1176 rfl dX8_node_238 ?_
                  refine lv_iconst (v := nI 1) hx hb dX8_node_241 (by decide) ?_
                  refine q_iaddN hx hb dX8_node_242 ?_
                  refine q_put C hP hS fy rfl inX8 tyX8 tyX8_ok nmX8 9 (by decide) g1176 rfl rfl rfl (Nat.le_of_ble_eq_true rfl) dX8_node_243 (fun H locs hP hS => ?_)
                  replace hP : qP D N0 (qs (qNh cy h y od pa Y (ct + (thAv (qMk gr) (6 - r) L v9).length) (qPourI O ct ((thAv (qMk gr) (6 - r) L v9).map ix9 ++ [ix9 pb])) Q) y (.inr (8, [.ref ms, .ref mb, .ref mw, .int gr, .int cd, .int ca, .int mv, .ref od, .ref pt, .int (nI ((ct + (thAv (qMk gr) (6 - r) L v9).length) + 1)), .int fau, .ref fi, .ref re, .int cs, .ref rc, .ref rs, .ref so, .ref ot, .ref cn, .ref la, .int ce, .ref ro, .int rn]))) H := hP
                  rw [show (.inr (8, [.ref ms, .ref mb, .ref mw, .int gr, .int cd, .int ca, .int mv, .ref od, .ref pt, .int (nI ((ct + (thAv (qMk gr) (6 - r) L v9).length) + 1)), .int fau, .ref fi, .ref re, .int cs, .ref rc, .ref rs, .ref so, .ref ot, .ref cn, .ref la, .int ce, .ref ro, .int rn]) : va_E) = Y (nI ((ct + (thAv (qMk gr) (6 - r) L v9).length) + 1)) from by rw [hY], qNh_sy] at hP
                  have fy : (qNh cy h y od pa Y ((ct + (thAv (qMk gr) (6 - r) L v9).length) + 1) (qPourI O ct ((thAv (qMk gr) (6 - r) L v9).map ix9 ++ [ix9 pb])) Q) y = some (.inr (8, [.ref ms, .ref mb, .ref mw, .int gr, .int cd, .int ca, .int mv, .ref od, .ref pt, .int (nI ((ct + (thAv (qMk gr) (6 - r) L v9).length) + 1)), .int fau, .ref fi, .ref re, .int cs, .ref rc, .ref rs, .ref so, .ref ot, .ref cn, .ref la, .int ce, .ref ro, .int rn])) := by rw [qNh_y, hY]
                  have fo : (qNh cy h y od pa Y ((ct + (thAv (qMk gr) (6 - r) L v9).length) + 1) (qPourI O ct ((thAv (qMk gr) (6 - r) L v9).map ix9 ++ [ix9 pb])) Q) od = _ := qNh_od hnd
                  have fp : (qNh cy h y od pa Y ((ct + (thAv (qMk gr) (6 - r) L v9).length) + 1) (qPourI O ct ((thAv (qMk gr) (6 - r) L v9).map ix9 ++ [ix9 pb])) Q) (pa (6 - r)) = _ := qNh_pa hnd (show (6 - r) < 8 by omega)
                  have fpt : (qNh cy h y od pa Y ((ct + (thAv (qMk gr) (6 - r) L v9).length) + 1) (qPourI O ct ((thAv (qMk gr) (6 - r) L v9).map ix9 ++ [ix9 pb])) Q) pt = _ := (qNh_o hno.1).trans hpt
                  have fa : (qNh cy h y od pa Y ((ct + (thAv (qMk gr) (6 - r) L v9).length) + 1) (qPourI O ct ((thAv (qMk gr) (6 - r) L v9).map ix9 ++ [ix9 pb])) Q) a = _ := (qNh_o hno.2.1).trans hA
                  have fk : (qNh cy h y od pa Y ((ct + (thAv (qMk gr) (6 - r) L v9).length) + 1) (qPourI O ct ((thAv (qMk gr) (6 - r) L v9).map ix9 ++ [ix9 pb])) Q) ka = _ := (qNh_o hno.2.2).trans hK
                  have fp1 : (qNh cy h y od pa Y ((ct + (thAv (qMk gr) (6 - r) L v9).length) + 1) (qPourI O ct ((thAv (qMk gr) (6 - r) L v9).map ix9 ++ [ix9 pb])) Q) (pa ((6 - r) + 1)) = _ := qNh_pa hnd (show (6 - r) + 1 < 8 by omega)
                  replace hP : qP D N0 (qNh cy h y od pa Y ((ct + (thAv (qMk gr) (6 - r) L v9).length) + 1) (qPourI O ct ((thAv (qMk gr) (6 - r) L v9).map ix9 ++ [ix9 pb])) Q) H := hP
                  refine lv_iload hx hb dX8_node_246 (lv_at hl 3 rfl) ?_
                  refine lv_iconst (v := nI 1) hx hb dX8_node_248 (by decide) ?_
                  refine lv_icmp_le (tgt := 261) hx hb dX8_node_249 (by decide) (fun c249 => ?_) (fun c249 => ?_)
                  · replace c249 : ((thK (qMk gr) (6 - r) v9 L).length) ≤ 1 := (nI_leI (a := (thK (qMk gr) (6 - r) v9 L).length) (b := 1) (by omega) (by omega)).mp c249
                    refine lv_iinc (v := nI (v9 + 1)) (lv' := [(7, .int (nI (v9 + 1))), (5, .int (nI (tqB (thS (qMk gr) (6 - r) L) (v9 + 1)))), (10, .int (nI i)), (9, .int o9), (8, .int (nI (thK (qMk gr) (6 - r) v9 L).length)), (6, .int (nI k6)), (4, .ref (pa (6 - r))), (3, .int (nI L.length)), (2, .int (nI (6 - r))), (1, .ref a), (0, .ref y)]) hx hb dX8_node_261 hl (k := 4) rfl (nI_1 v9) (by decide) rfl (fun ls hl => ?_)
                    refine lv_goto (tgt := 146) hx hb dX8_node_264 (by decide) ?_
                    exact ihlD H locs ls (v9 + 1) (tqB (thS (qMk gr) (6 - r) L) (v9 + 1)) k6 (by omega) (lv_sub hl [0, 5, 1, 6, 7, 8, 9, 10] rfl) (by omega) rfl (by rw [bits_no hMv]; exact hk6) (by rw [thAv_s, show thF (qMk gr) (6 - r) L v9 = [pb] from by unfold thF; rw [if_pos hSv, hB1], List.length_append, List.map_append, ← Nat.add_assoc]; exact hP) hS
                  · replace c249 : ¬ ((thK (qMk gr) (6 - r) v9 L).length) ≤ 1 := fun zq => c249 ((nI_leI (a := (thK (qMk gr) (6 - r) v9 L).length) (b := 1) (by omega) (by omega)).mpr zq)
                    exfalso; omega
              · replace c165 : ¬ (L.length) ≤ i := fun zq => c165 ((nI_leI (a := L.length) (b := i) (by omega) (by omega)).mpr zq)
                refine lv_aload_n hx hb dX8_node_168 rfl (lv_at hl 10 rfl) ?_
                refine lv_aload_n hx hb dX8_node_169 rfl (lv_at hl 9 rfl) ?_
                refine q_get C hP fa rfl inX7 0 (by decide) g1138 rfl dX8_node_170 ?_
                refine lv_aload hx hb dX8_node_173 (lv_at hl 6 rfl) ?_
                refine lv_iload hx hb dX8_node_175 (lv_at hl 0 rfl) ?_
                refine q_ialdN C hP fp (by omega) (by omega) dX8_node_177 ?_
                obtain ⟨pi, epi⟩ : ∃ p, L[i]? = some p := ⟨_, List.getElem?_eq_getElem (by omega)⟩
                obtain ⟨ji, hji, eji⟩ := hLf pi (List.mem_of_getElem? epi)
                have eii : Q (6 - r) i = nI ji := by rw [hQ i pi epi, eji]; exact lN_i32
                have hki : f ji = pi.1 := by rw [eji]
                have hni := thN_lt (m := qMk gr) (d := 6 - r) (k := pi.1)
                rw [eii]
                refine q_laldN C hP fk (by omega) (by omega) dX8_node_178 ?_
                rw [hki]
                refine q_callV (rest := []) C (c_X8_hash l D cy N0 (qNh cy h y od pa Y (ct + (thAv (qMk gr) (6 - r) L v9).length) (qPourI O ct ((thAv (qMk gr) (6 - r) L v9).map ix9)) Q) y ms mb mw od pt fi re rc rs so ot cn la ro gr cd ca mv (nI (ct + (thAv (qMk gr) (6 - r) L v9).length)) fau cs ce rn (pi.1) fy) kX8_hash g1289 g1291 rfl gp44 g4 hP hS fy (by first | decide | omega) hl.1 rfl (by decide) (by first | decide | omega) dX8_node_179 (fun q ce E h' H1 locs1 hE => hE.elim) (fun v hh4 H locs hq hP hS => ?_)
                obtain ⟨rfl, rfl⟩ := hq
                rw [qMk_h]
                refine lv_iload_n hx hb dX8_node_182 rfl (lv_at hl 8 rfl) ?_
                refine q_callS (rest := []) C (c_X8_number l D cy N0 (qNh cy h y od pa Y (ct + (thAv (qMk gr) (6 - r) L v9).length) (qPourI O ct ((thAv (qMk gr) (6 - r) L v9).map ix9)) Q) (pi.1) (qMk gr) (6 - r) (by omega)) kX8_number g1375 g1376 hP hS (by first | decide | omega) hl.1 rfl (by decide) (by first | decide | omega) dX8_node_183 (fun q ce E h' H1 locs1 hE => hE.elim) (fun v hh5 H locs hq hP hS => ?_)
                obtain ⟨rfl, rfl⟩ := hq
                refine lv_iload hx hb dX8_node_186 (lv_at hl 3 rfl) ?_
                refine lv_icmp_eq (tgt := 194) hx hb dX8_node_188 (by decide) (fun c188 => ?_) (fun c188 => ?_)
                · replace c188 : (thN (qMk gr) (6 - r) (pi.1)) = v9 := (nI_eq (a := (thN (qMk gr) (6 - r) (pi.1))) (b := v9) (by omega) (by omega)).mp c188
                  refine lv_iinc (v := nI ((thK (qMk gr) (6 - r) v9 (L.take i)).length + 1)) (lv' := [(8, .int (nI ((thK (qMk gr) (6 - r) v9 (L.take i)).length + 1))), (10, .int (nI i)), (9, .int o9), (7, .int (nI v9)), (6, .int (nI k6)), (5, .int (nI k5)), (4, .ref (pa (6 - r))), (3, .int (nI L.length)), (2, .int (nI (6 - r))), (1, .ref a), (0, .ref y)]) hx hb dX8_node_194 hl (k := 2) rfl (nI_1 ((thK (qMk gr) (6 - r) v9 (L.take i)).length)) (by decide) rfl (fun ls hl => ?_)
                  refine lv_aload hx hb dX8_node_197 (lv_at hl 6 rfl) ?_
                  refine lv_iload hx hb dX8_node_199 (lv_at hl 1 rfl) ?_
                  refine q_ialdN C hP fp (by omega) (by omega) dX8_node_201 ?_
                  rw [hQ i pi epi]
                  refine lv_istore (lv' := [(9, .int (ix9 pi)), (8, .int (nI ((thK (qMk gr) (6 - r) v9 (L.take i)).length + 1))), (10, .int (nI i)), (7, .int (nI v9)), (6, .int (nI k6)), (5, .int (nI k5)), (4, .ref (pa (6 - r))), (3, .int (nI L.length)), (2, .int (nI (6 - r))), (1, .ref a), (0, .ref y)]) hx hb dX8_node_202 hl (by decide) rfl (fun ls hl => ?_)
                  refine lv_iinc (v := nI (i + 1)) (lv' := [(10, .int (nI (i + 1))), (9, .int (ix9 pi)), (8, .int (nI ((thK (qMk gr) (6 - r) v9 (L.take i)).length + 1))), (7, .int (nI v9)), (6, .int (nI k6)), (5, .int (nI k5)), (4, .ref (pa (6 - r))), (3, .int (nI L.length)), (2, .int (nI (6 - r))), (1, .ref a), (0, .ref y)]) hx hb dX8_node_204 hl (k := 2) rfl (nI_1 i) (by decide) rfl (fun ls hl => ?_)
                  refine lv_goto (tgt := 162) hx hb dX8_node_207 (by decide) ?_
                  have etk := thK_take (m := qMk gr) (d := 6 - r) (v := v9) epi
                  rw [if_pos c188] at etk
                  exact ihlE H locs ls (i + 1) (ix9 pi) (by omega) (by rw [etk, List.length_append]; exact lv_sub hl [0, 1, 2, 3, 4, 5, 6, 7, 8, 9, 10] rfl) (by omega) (fun p e => by rw [etk, List.getLast?_append] at e; cases e; rfl) hP hS
                · replace c188 : ¬ (thN (qMk gr) (6 - r) (pi.1)) = v9 := fun zq => c188 ((nI_eq (a := (thN (qMk gr) (6 - r) (pi.1))) (b := v9) (by omega) (by omega)).mpr zq)
                  refine lv_goto (tgt := 204) hx hb dX8_node_191 (by decide) ?_
                  refine lv_iinc (v := nI (i + 1)) (lv' := [(10, .int (nI (i + 1))), (9, .int o9), (8, .int (nI (thK (qMk gr) (6 - r) v9 (L.take i)).length)), (7, .int (nI v9)), (6, .int (nI k6)), (5, .int (nI k5)), (4, .ref (pa (6 - r))), (3, .int (nI L.length)), (2, .int (nI (6 - r))), (1, .ref a), (0, .ref y)]) hx hb dX8_node_204 hl (k := 0) rfl (nI_1 i) (by decide) rfl (fun ls hl => ?_)
                  refine lv_goto (tgt := 162) hx hb dX8_node_207 (by decide) ?_
                  have etk := thK_take (m := qMk gr) (d := 6 - r) (v := v9) epi
                  rw [if_neg c188] at etk
                  exact ihlE H locs ls (i + 1) o9 (by omega) (by rw [etk, List.append_nil]; exact lv_sub hl [0, 1, 2, 3, 4, 5, 6, 7, 8, 9, 10] rfl) (by omega) (fun p e => by rw [etk, List.append_nil] at e; exact ho9 p e) hP hS
      · replace c11 : (6 - r) = 7 := (nI_eq (a := (6 - r)) (b := 7) (by omega) (by omega)).mp c11
        exfalso; omega
