theorem nI_shlv {v k : Nat} (hk : k < 32) : nI v <<< (nI k &&& 31) = nI (v * 2 ^ k) := by
  have e1 : nI k &&& 31 = nI k := by
    rw [show (31 : Int32) = nI 31 from rfl, nI_and, show (31 : Nat) = 2 ^ 5 - 1 by decide, Nat.and_two_pow_sub_one_eq_mod, Nat.mod_eq_of_lt (by omega)]
  rw [e1]
  apply Int32.toBitVec.inj
  rw [Int32.toBitVec_shiftLeft]
  have e2 : ((nI k).toBitVec.smod 32) = BitVec.ofNat 32 k := by
    have : ∀ k : Fin 32, ((nI k.val).toBitVec.smod 32) = BitVec.ofNat 32 k.val := by decide +kernel
    exact this ⟨k, hk⟩
  rw [e2, nI_bv, nI_bv]
  apply BitVec.eq_of_toNat_eq
  rw [BitVec.shiftLeft_eq', BitVec.toNat_shiftLeft, BitVec.toNat_ofNat, BitVec.toNat_ofNat, BitVec.toNat_ofNat, Nat.mod_eq_of_lt (show k < 2 ^ 32 by omega), Nat.shiftLeft_eq, Nat.mod_mul_mod]
theorem thH_path {x d : Nat} : x % 32 ^ d ||| (x / 32 ^ d % 32) * 2 ^ (5 * d) = x % 32 ^ (d + 1) := by
  have e : (2 : Nat) ^ (5 * d) = 32 ^ d := by rw [Nat.pow_mul]
  have hlt : x % 32 ^ d < 2 ^ (5 * d) := by rw [e]; exact Nat.mod_lt _ (Nat.pow_pos (by decide))
  rw [Nat.or_comm, Nat.mul_comm, ← Nat.two_pow_add_eq_or_of_lt hlt, e, Nat.mod_pow_succ, Nat.add_comm]
theorem tqB_sh {p : Nat → Bool} {v : Nat} (hv : v < 32) : (((nI (tqB p 32)).toUInt32 >>> ((nI v).toUInt32 &&& Int32.toUInt32 31)).toInt32 &&& nI 1) = 0 ↔ p v = false := by
  rw [nI_ushr (tqB_lt 32) hv, nI_and, show (1 : Nat) = 2 ^ 1 - 1 by decide, Nat.and_two_pow_sub_one_eq_mod]
  have h2 := tqB_tb (p := p) (n := 32) (i := v)
  rw [Nat.testBit_eq_decide_div_mod_eq] at h2
  simp only [hv, decide_true, Bool.true_and] at h2
  have hm : tqB p 32 / 2 ^ v % 2 ^ 1 < 2 := Nat.mod_lt _ (by decide)
  rw [show (2 : Nat) ^ 1 = 2 by decide] at hm ⊢
  cases hp : p v with
  | true =>
    rw [hp] at h2
    have h3 := of_decide_eq_true h2
    rw [h3]
    constructor
    · intro z; revert z; decide
    · intro z; cases z
  | false =>
    rw [hp] at h2
    have h3 := of_decide_eq_false h2
    rw [show tqB p 32 / 2 ^ v % 2 = 0 by omega]
    constructor
    · intro _; rfl
    · intro _; decide
theorem on_path {m : Int32} {k : Int64} {d : Nat} (hd : d + 1 < 7) : (k.toInt32 &&& m) &&& (nI 1 <<< (nI (5 * (d + 1)) &&& 31) - nI 1) = nI (thH m k % 32 ^ (d + 1)) := by
  rw [show k.toInt32 &&& m = nI (thH m k) from nI_any _, nI_shlv (by omega), Nat.one_mul, q_nsub Nat.one_le_two_pow, nI_and, Nat.and_two_pow_sub_one_eq_mod, Nat.pow_mul]
theorem on_path6 {m : Int32} {k : Int64} {d : Nat} (hd : 7 ≤ d + 1) : (k.toInt32 &&& m) &&& (-1) = nI (thH m k % 32 ^ (d + 1)) := by
  have e : (k.toInt32 &&& m) &&& (-1) = k.toInt32 &&& m := Int32.and_neg_one
  have h1 : thH m k < 32 ^ (d + 1) := Nat.lt_of_lt_of_le thH_lt (Nat.le_trans (by decide : 2 ^ 32 ≤ 32 ^ 7) (Nat.pow_le_pow_right (by decide) hd))
  rw [e, Nat.mod_eq_of_lt h1]
  exact nI_any _
theorem trKN {m : Int32} {r : Nat} {L : qKV} : nI (trKb m r L) &&& nI (trNb m r L) = 0 := by
  cases r with
  | zero => show nI 0 &&& nI 0 = 0; decide
  | succ r =>
    show nI (tqB _ 32) &&& nI (tqB _ 32) = 0
    rw [tqB_and, tqB_zero]
    intro u _
    unfold thS thM
    by_cases c : (thK m (6 - r) u L).length = 1
    · simp [c]
    · simp [c]
theorem tqC_t {p : Nat → Bool} {v : Nat} (h : p v = true) : tqC p (v + 1) = tqC p v + 1 := by show tqC p v + _ = _; rw [if_pos h]
theorem tqC_f {p : Nat → Bool} {v : Nat} (h : p v = false) : tqC p (v + 1) = tqC p v := by show tqC p v + _ = _; rw [if_neg (by rw [h]; decide), Nat.add_zero]
/-- how many keys lie below, up to a number -/
def thFd (m : Int32) (r : Nat) (L : qKV) (v : Nat) : Nat := (trK m (r + 1) L).length + ((List.range v).flatMap (fun u => if thM m (6 - r) L u = true then thK m (6 - r) u L else [])).length
theorem thFd_s {m : Int32} {r : Nat} {L : qKV} {v : Nat} : thFd m r L (v + 1) = thFd m r L v + (if thM m (6 - r) L v = true then (thK m (6 - r) v L).length else 0) := by
  unfold thFd
  rw [List.range_succ, List.flatMap_append, List.length_append, List.flatMap_cons, List.flatMap_nil, List.append_nil]
  split <;> simp <;> omega
theorem thFd_n {m : Int32} {r : Nat} {L : qKV} : thFd m r L 32 = L.length := by
  have h := thT_len (m := m) (r := r + 1) (L := L)
  have e : thT m (r + 1) L = trK m (r + 1) L ++ (List.range 32).flatMap (fun v => if thM m (6 - r) L v = true then thT m r (thK m (6 - r) v L) else []) := rfl
  rw [e, List.length_append] at h
  unfold thFd
  rw [← h]
  congr 1
  rw [List.length_flatMap, List.length_flatMap]
  congr 1
  refine List.map_congr_left fun v _ => ?_
  split
  · rw [thT_len]
  · rfl
theorem thFd_le {m : Int32} {r : Nat} {L : qKV} : ∀ n v : Nat, v + n = 32 → thFd m r L v ≤ L.length
  | 0, v, h => by rw [← thFd_n (m := m) (r := r) (L := L), show v = 32 by omega]; exact Nat.le_refl _
  | n + 1, v, h => by
    have := thFd_le (m := m) (r := r) (L := L) n (v + 1) (by omega)
    rw [thFd_s] at this
    omega
theorem lp_of {m : Int32} {d v pi : Nat} {k : Int64} (hd : d ≤ 6) (h1 : thH m k % 32 ^ d = pi) (h2 : thN m d k = v) : nI pi ||| (nI v <<< (nI (5 * d) &&& 31)) = nI (thH m k % 32 ^ (d + 1)) := by
  rw [nI_shlv (by omega), nI_or, ← h1, ← h2]
  unfold thN
  rw [thH_path]
theorem dX3_isOnPath_0 : decode cX3_isOnPath 0 = .ok (.aload_n 0, 1) := by decide +kernel
theorem dX3_isOnPath_1 : decode cX3_isOnPath 1 = .ok (.getfield 21, 3) := by decide +kernel
theorem dX3_isOnPath_4 : decode cX3_isOnPath 4 = .ok (.iconst 1, 1) := by decide +kernel
theorem dX3_isOnPath_5 : decode cX3_isOnPath 5 = .ok (.iadd, 1) := by decide +kernel
theorem dX3_isOnPath_6 : decode cX3_isOnPath 6 = .ok (.bipush 7, 2) := by decide +kernel
theorem dX3_isOnPath_8 : decode cX3_isOnPath 8 = .ok (.if_icmp .ge 18, 3) := by decide +kernel
theorem dX3_isOnPath_11 : decode cX3_isOnPath 11 = .ok (.iconst 1, 1) := by decide +kernel
theorem dX3_isOnPath_12 : decode cX3_isOnPath 12 = .ok (.iconst 5, 1) := by decide +kernel
theorem dX3_isOnPath_13 : decode cX3_isOnPath 13 = .ok (.aload_n 0, 1) := by decide +kernel
theorem dX3_isOnPath_14 : decode cX3_isOnPath 14 = .ok (.getfield 21, 3) := by decide +kernel
theorem dX3_isOnPath_17 : decode cX3_isOnPath 17 = .ok (.iconst 1, 1) := by decide +kernel
theorem dX3_isOnPath_18 : decode cX3_isOnPath 18 = .ok (.iadd, 1) := by decide +kernel
theorem dX3_isOnPath_19 : decode cX3_isOnPath 19 = .ok (.imul, 1) := by decide +kernel
theorem dX3_isOnPath_20 : decode cX3_isOnPath 20 = .ok (.ishl, 1) := by decide +kernel
theorem dX3_isOnPath_21 : decode cX3_isOnPath 21 = .ok (.iconst 1, 1) := by decide +kernel
theorem dX3_isOnPath_22 : decode cX3_isOnPath 22 = .ok (.isub, 1) := by decide +kernel
theorem dX3_isOnPath_23 : decode cX3_isOnPath 23 = .ok (.goto 4, 3) := by decide +kernel
theorem dX3_isOnPath_26 : decode cX3_isOnPath 26 = .ok (.iconst (-1), 1) := by decide +kernel
theorem dX3_isOnPath_27 : decode cX3_isOnPath 27 = .ok (.istore 5, 2) := by decide +kernel
theorem dX3_isOnPath_29 : decode cX3_isOnPath 29 = .ok (.lload_n 1, 1) := by decide +kernel
theorem dX3_isOnPath_30 : decode cX3_isOnPath 30 = .ok (.iload_n 3, 1) := by decide +kernel
theorem dX3_isOnPath_31 : decode cX3_isOnPath 31 = .ok (.invokestatic 41, 3) := by decide +kernel
theorem dX3_isOnPath_34 : decode cX3_isOnPath 34 = .ok (.iload 5, 2) := by decide +kernel
theorem dX3_isOnPath_36 : decode cX3_isOnPath 36 = .ok (.iand, 1) := by decide +kernel
theorem dX3_isOnPath_37 : decode cX3_isOnPath 37 = .ok (.iload 4, 2) := by decide +kernel
theorem dX3_isOnPath_39 : decode cX3_isOnPath 39 = .ok (.if_icmp .ne 7, 3) := by decide +kernel
theorem dX3_isOnPath_42 : decode cX3_isOnPath 42 = .ok (.iconst 1, 1) := by decide +kernel
theorem dX3_isOnPath_43 : decode cX3_isOnPath 43 = .ok (.goto 4, 3) := by decide +kernel
theorem dX3_isOnPath_47 : decode cX3_isOnPath 47 = .ok (.ireturn, 1) := by decide +kernel
set_option maxRecDepth 100000 in
set_option maxHeartbeats 4000000 in
theorem c_X3_isOnPath (l : Launch) (D : va_G) (cy : Nat → ClassId) (N0 : Nat) (h : qH) (a d : Nat) (m9 : Int32) (k : Int64) (fs : List Value) (ha : h a = some (.inr (3, .int (nI d) :: fs))) (hd : d ≤ 6) : qC l D cy N0 yX3_isOnPath cX3_isOnPath 6 (some .boolean) 1 40 0 0 [.ref a, .long k, .int m9, .int (nI (thH m9 k % 32 ^ (d + 1)))] h (fun v h' => v = some (.int (nI 1)) ∧ h = h') (fun E h' => False) := by
  refine q_ofW (by decide) (by exact Nat.le_of_ble_eq_true rfl) ?_
  intro p e s m below meth c ls C hP hl
  have hx := C.1
  have hb := C.2.1
  have hS : va_S (qA N0) s.heap s.heap [] := va_S.rf
  have hl : lv_has ls 6 [(0, .ref a), (1, .long k), (3, .int m9), (4, .int (nI (thH m9 k % 32 ^ (d + 1))))] := hl
  refine lv_aload_n hx hb dX3_isOnPath_0 rfl (lv_at hl 0 rfl) ?_
  refine q_get C hP ha rfl inX3 0 (by decide) g361 rfl dX3_isOnPath_1 ?_
  refine lv_iconst (v := nI 1) hx hb dX3_isOnPath_4 (by decide) ?_
  refine q_iaddN hx hb dX3_isOnPath_5 ?_
  refine lv_bipush (v := nI 7) hx hb dX3_isOnPath_6 (by decide) ?_
  refine lv_icmp_ge (tgt := 26) hx hb dX3_isOnPath_8 (by decide) (fun c8 => ?_) (fun c8 => ?_)
  · replace c8 : 7 ≤ (d + 1) := (nI_leI (a := 7) (b := (d + 1)) (by omega) (by omega)).mp c8
    refine lv_iconst (v := -1) hx hb dX3_isOnPath_26 (by decide) ?_
    refine lv_istore (lv' := [(5, .int (-1)), (0, .ref a), (1, .long k), (3, .int m9), (4, .int (nI (thH m9 k % 32 ^ (d + 1))))]) hx hb dX3_isOnPath_27 hl (by decide) rfl (fun ls hl => ?_)
    refine lv_lload_n hx hb dX3_isOnPath_29 rfl (lv_at hl 2 rfl) ?_
    refine lv_iload_n hx hb dX3_isOnPath_30 rfl (lv_at hl 3 rfl) ?_
    refine q_callS (rest := []) C (c_X3_hashOf l D cy N0 h k m9) kX3_hashOf g299 g300 hP hS (by first | decide | omega) hl.1 rfl (by decide) (by first | decide | omega) dX3_isOnPath_31 (fun q ce E h' H1 locs1 hE => hE.elim) (fun v hh1 H locs hq hP hS => ?_)
    obtain ⟨rfl, rfl⟩ := hq
    refine lv_iload hx hb dX3_isOnPath_34 (lv_at hl 0 rfl) ?_
    refine lv_iand hx hb dX3_isOnPath_36 ?_
    refine lv_iload hx hb dX3_isOnPath_37 (lv_at hl 4 rfl) ?_
    rw [on_path6 (by omega)]
    refine lv_icmp_ne (tgt := 46) hx hb dX3_isOnPath_39 (by decide) (fun c39 => absurd rfl c39) (fun _ => ?_)
    refine lv_iconst (v := nI 1) hx hb dX3_isOnPath_42 (by decide) ?_
    refine lv_goto (tgt := 47) hx hb dX3_isOnPath_43 (by decide) ?_
    exact q_zret C hP hS (Or.inr rfl) ⟨rfl, rfl⟩ (by omega) dX3_isOnPath_47
  · replace c8 : ¬ 7 ≤ (d + 1) := fun zq => c8 ((nI_leI (a := 7) (b := (d + 1)) (by omega) (by omega)).mpr zq)
    refine lv_iconst (v := nI 1) hx hb dX3_isOnPath_11 (by decide) ?_
    refine lv_iconst (v := nI 5) hx hb dX3_isOnPath_12 (by decide) ?_
    refine lv_aload_n hx hb dX3_isOnPath_13 rfl (lv_at hl 0 rfl) ?_
    refine q_get C hP ha rfl inX3 0 (by decide) g361 rfl dX3_isOnPath_14 ?_
    refine lv_iconst (v := nI 1) hx hb dX3_isOnPath_17 (by decide) ?_
    refine q_iaddN hx hb dX3_isOnPath_18 ?_
    refine q_imulN hx hb dX3_isOnPath_19 ?_
    refine lv_ishl hx hb dX3_isOnPath_20 ?_
    refine lv_iconst (v := nI 1) hx hb dX3_isOnPath_21 (by decide) ?_
    refine lv_isub hx hb dX3_isOnPath_22 ?_
    refine lv_goto (tgt := 27) hx hb dX3_isOnPath_23 (by decide) ?_
    refine lv_istore (lv' := [(5, .int (((nI 1) <<< ((nI (5 * (d + 1))) &&& 31)) - (nI 1))), (0, .ref a), (1, .long k), (3, .int m9), (4, .int (nI (thH m9 k % 32 ^ (d + 1))))]) hx hb dX3_isOnPath_27 hl (by decide) rfl (fun ls hl => ?_)
    refine lv_lload_n hx hb dX3_isOnPath_29 rfl (lv_at hl 2 rfl) ?_
    refine lv_iload_n hx hb dX3_isOnPath_30 rfl (lv_at hl 3 rfl) ?_
    refine q_callS (rest := []) C (c_X3_hashOf l D cy N0 h k m9) kX3_hashOf g299 g300 hP hS (by first | decide | omega) hl.1 rfl (by decide) (by first | decide | omega) dX3_isOnPath_31 (fun q ce E h' H1 locs1 hE => hE.elim) (fun v hh2 H locs hq hP hS => ?_)
    obtain ⟨rfl, rfl⟩ := hq
    refine lv_iload hx hb dX3_isOnPath_34 (lv_at hl 0 rfl) ?_
    refine lv_iand hx hb dX3_isOnPath_36 ?_
    refine lv_iload hx hb dX3_isOnPath_37 (lv_at hl 4 rfl) ?_
    rw [on_path (by omega)]
    refine lv_icmp_ne (tgt := 46) hx hb dX3_isOnPath_39 (by decide) (fun c39 => absurd rfl c39) (fun _ => ?_)
    refine lv_iconst (v := nI 1) hx hb dX3_isOnPath_42 (by decide) ?_
    refine lv_goto (tgt := 47) hx hb dX3_isOnPath_43 (by decide) ?_
    exact q_zret C hP hS (Or.inr rfl) ⟨rfl, rfl⟩ (by omega) dX3_isOnPath_47
theorem dX3_isSoundBottom_0 : decode cX3_isSoundBottom 0 = .ok (.iconst 0, 1) := by decide +kernel
theorem dX3_isSoundBottom_1 : decode cX3_isSoundBottom 1 = .ok (.istore_n 3, 1) := by decide +kernel
theorem dX3_isSoundBottom_2 : decode cX3_isSoundBottom 2 = .ok (.iload_n 3, 1) := by decide +kernel
theorem dX3_isSoundBottom_3 : decode cX3_isSoundBottom 3 = .ok (.aload_n 0, 1) := by decide +kernel
theorem dX3_isSoundBottom_4 : decode cX3_isSoundBottom 4 = .ok (.getfield 15, 3) := by decide +kernel
theorem dX3_isSoundBottom_7 : decode cX3_isSoundBottom 7 = .ok (.arraylength, 1) := by decide +kernel
theorem dX3_isSoundBottom_8 : decode cX3_isSoundBottom 8 = .ok (.if_icmp .ge 47, 3) := by decide +kernel
theorem dX3_isSoundBottom_11 : decode cX3_isSoundBottom 11 = .ok (.aload_n 0, 1) := by decide +kernel
theorem dX3_isSoundBottom_12 : decode cX3_isSoundBottom 12 = .ok (.getfield 15, 3) := by decide +kernel
theorem dX3_isSoundBottom_15 : decode cX3_isSoundBottom 15 = .ok (.iload_n 3, 1) := by decide +kernel
theorem dX3_isSoundBottom_16 : decode cX3_isSoundBottom 16 = .ok (.laload, 1) := by decide +kernel
theorem dX3_isSoundBottom_17 : decode cX3_isSoundBottom 17 = .ok (.iload_n 1, 1) := by decide +kernel
theorem dX3_isSoundBottom_18 : decode cX3_isSoundBottom 18 = .ok (.invokestatic 41, 3) := by decide +kernel
theorem dX3_isSoundBottom_21 : decode cX3_isSoundBottom 21 = .ok (.iload_n 2, 1) := by decide +kernel
theorem dX3_isSoundBottom_22 : decode cX3_isSoundBottom 22 = .ok (.if_icmp .ne 25, 3) := by decide +kernel
theorem dX3_isSoundBottom_25 : decode cX3_isSoundBottom 25 = .ok (.iload_n 3, 1) := by decide +kernel
theorem dX3_isSoundBottom_26 : decode cX3_isSoundBottom 26 = .ok (.ifCond .le 23, 3) := by decide +kernel
theorem dX3_isSoundBottom_29 : decode cX3_isSoundBottom 29 = .ok (.aload_n 0, 1) := by decide +kernel
theorem dX3_isSoundBottom_30 : decode cX3_isSoundBottom 30 = .ok (.getfield 15, 3) := by decide +kernel
theorem dX3_isSoundBottom_33 : decode cX3_isSoundBottom 33 = .ok (.iload_n 3, 1) := by decide +kernel
theorem dX3_isSoundBottom_34 : decode cX3_isSoundBottom 34 = .ok (.iconst 1, 1) := by decide +kernel
theorem dX3_isSoundBottom_35 : decode cX3_isSoundBottom 35 = .ok (.isub, 1) := by decide +kernel
theorem dX3_isSoundBottom_36 : decode cX3_isSoundBottom 36 = .ok (.laload, 1) := by decide +kernel
theorem dX3_isSoundBottom_37 : decode cX3_isSoundBottom 37 = .ok (.aload_n 0, 1) := by decide +kernel
theorem dX3_isSoundBottom_38 : decode cX3_isSoundBottom 38 = .ok (.getfield 15, 3) := by decide +kernel
theorem dX3_isSoundBottom_41 : decode cX3_isSoundBottom 41 = .ok (.iload_n 3, 1) := by decide +kernel
theorem dX3_isSoundBottom_42 : decode cX3_isSoundBottom 42 = .ok (.laload, 1) := by decide +kernel
theorem dX3_isSoundBottom_43 : decode cX3_isSoundBottom 43 = .ok (.lcmp, 1) := by decide +kernel
theorem dX3_isSoundBottom_44 : decode cX3_isSoundBottom 44 = .ok (.ifCond .lt 5, 3) := by decide +kernel
theorem dX3_isSoundBottom_49 : decode cX3_isSoundBottom 49 = .ok (.iinc 3 1, 3) := by decide +kernel
theorem dX3_isSoundBottom_52 : decode cX3_isSoundBottom 52 = .ok (.goto (-50), 3) := by decide +kernel
theorem dX3_isSoundBottom_55 : decode cX3_isSoundBottom 55 = .ok (.aload_n 0, 1) := by decide +kernel
theorem dX3_isSoundBottom_56 : decode cX3_isSoundBottom 56 = .ok (.getfield 32, 3) := by decide +kernel
theorem dX3_isSoundBottom_59 : decode cX3_isSoundBottom 59 = .ok (.aload_n 0, 1) := by decide +kernel
theorem dX3_isSoundBottom_60 : decode cX3_isSoundBottom 60 = .ok (.getfield 15, 3) := by decide +kernel
theorem dX3_isSoundBottom_63 : decode cX3_isSoundBottom 63 = .ok (.arraylength, 1) := by decide +kernel
theorem dX3_isSoundBottom_64 : decode cX3_isSoundBottom 64 = .ok (.if_icmp .ne 24, 3) := by decide +kernel
theorem dX3_isSoundBottom_67 : decode cX3_isSoundBottom 67 = .ok (.aload_n 0, 1) := by decide +kernel
theorem dX3_isSoundBottom_68 : decode cX3_isSoundBottom 68 = .ok (.getfield 28, 3) := by decide +kernel
theorem dX3_isSoundBottom_71 : decode cX3_isSoundBottom 71 = .ok (.arraylength, 1) := by decide +kernel
theorem dX3_isSoundBottom_72 : decode cX3_isSoundBottom 72 = .ok (.ifCond .ne 16, 3) := by decide +kernel
theorem dX3_isSoundBottom_75 : decode cX3_isSoundBottom 75 = .ok (.aload_n 0, 1) := by decide +kernel
theorem dX3_isSoundBottom_76 : decode cX3_isSoundBottom 76 = .ok (.getfield 32, 3) := by decide +kernel
theorem dX3_isSoundBottom_79 : decode cX3_isSoundBottom 79 = .ok (.bipush 16, 2) := by decide +kernel
theorem dX3_isSoundBottom_81 : decode cX3_isSoundBottom 81 = .ok (.if_icmp .gt 7, 3) := by decide +kernel
theorem dX3_isSoundBottom_84 : decode cX3_isSoundBottom 84 = .ok (.iconst 1, 1) := by decide +kernel
theorem dX3_isSoundBottom_85 : decode cX3_isSoundBottom 85 = .ok (.goto 4, 3) := by decide +kernel
theorem dX3_isSoundBottom_89 : decode cX3_isSoundBottom 89 = .ok (.ireturn, 1) := by decide +kernel
set_option maxRecDepth 100000 in
set_option maxHeartbeats 4000000 in
theorem c_X3_isSoundBottom (l : Launch) (D : va_G) (cy : Nat → ClassId) (N0 : Nat) (h : qH) (Im : Nat → Prop) (e9 : Nat) (Ok : Nat → Prop) (m9 : Int32) (a : Nat) (L : qKV) (X : Nat → Prop) (ow1 ka1 va1 na1 : Nat) (C1 : Nat → Nat) (pi9 : Nat) (hn1 : thNd cy h Im e9 Ok m9 0 a L L.length X ow1 ka1 va1 na1 C1) (hno : qNo L) (hpi : ∀ p ∈ L, thH m9 p.1 = pi9) (h16 : L.length ≤ 16) : qC l D cy N0 yX3_isSoundBottom cX3_isSoundBottom 4 (some .boolean) 1 40 0 0 [.ref a, .int m9, .int (nI pi9)] h (fun v h' => v = some (.int (nI 1)) ∧ h = h') (fun E h' => False) := by
  refine q_ofW (by decide) (by exact Nat.le_of_ble_eq_true rfl) ?_
  intro p e s m below meth c ls C hP hl
  have hx := C.1
  have hb := C.2.1
  have hS : va_S (qA N0) s.heap s.heap [] := va_S.rf
  have hl : lv_has ls 4 [(0, .ref a), (1, .int m9), (2, .int (nI pi9))] := hl
  have f1 := hn1.1
  have fk1 := hn1.2.1
  have fv1 := hn1.2.2.1
  have fn1 := hn1.2.2.2.1
  unfold thNo at f1
  unfold thJ at fk1 fv1
  unfold thA at fn1
  rw [List.length_map] at fk1 fv1
  have hlen : (trK m9 0 L).length = L.length := thO_len
  have hn0 : (trM m9 0 L).length = 0 := rfl
  refine lv_iconst (v := nI 0) hx hb dX3_isSoundBottom_0 (by decide) ?_
  refine lv_istore_n (lv' := [(3, .int (nI 0)), (0, .ref a), (1, .int m9), (2, .int (nI pi9))]) hx hb dX3_isSoundBottom_1 rfl hl (by decide) rfl (fun ls hl => ?_)
  refine (?_ : ∀ (t : Nat) (H : Heap) (locs : List Loc) (ls : Array Slot) (j : Nat), (trK m9 0 L).length - j < t → lv_has ls 4 [(3, .int (nI j)), (0, .ref a), (1, .int m9), (2, .int (nI pi9))] → j ≤ (trK m9 0 L).length → qP D N0 h H → va_S (qA N0) s.heap H locs → W p l e _ s m _ below meth c H locs 0 0 _ (F0 m 2 ls [])) _ _ _ ls 0 (Nat.lt_succ_self _) (lv_sub hl [0, 1, 2, 3] rfl) (Nat.zero_le _) hP hS
  clear hl hP hS
  intro t
  induction t with
  | zero => intro H locs ls j ht; exact absurd ht (Nat.not_lt_zero _)
  | succ t ihl =>
    intro H locs ls j ht hl hj hP hS
    refine lv_iload_n hx hb dX3_isSoundBottom_2 rfl (lv_at hl 0 rfl) ?_
    refine lv_aload_n hx hb dX3_isSoundBottom_3 rfl (lv_at hl 1 rfl) ?_
    refine q_get C hP f1 rfl inX3 5 (by decide) g366 rfl dX3_isSoundBottom_4 ?_
    refine q_alen C hP fk1 rfl dX3_isSoundBottom_7 ?_
    refine lv_icmp_ge (tgt := 55) hx hb dX3_isSoundBottom_8 (by decide) (fun c8 => ?_) (fun c8 => ?_)
    · replace c8 : ((trK m9 0 L).length) ≤ j := (nI_leI (a := (trK m9 0 L).length) (b := j) (by omega) (by omega)).mp c8
      refine lv_aload_n hx hb dX3_isSoundBottom_55 rfl (lv_at hl 1 rfl) ?_
      refine q_get C hP f1 rfl inX3 4 (by decide) g365 rfl dX3_isSoundBottom_56 ?_
      refine lv_aload_n hx hb dX3_isSoundBottom_59 rfl (lv_at hl 1 rfl) ?_
      refine q_get C hP f1 rfl inX3 5 (by decide) g366 rfl dX3_isSoundBottom_60 ?_
      refine q_alen C hP fk1 rfl dX3_isSoundBottom_63 ?_
      refine lv_icmp_ne (tgt := 88) hx hb dX3_isSoundBottom_64 (by decide) (fun c64 => ?_) (fun c64 => ?_)
      · replace c64 : ¬ (L.length) = ((trK m9 0 L).length) := fun zq => c64 ((nI_eq (a := L.length) (b := (trK m9 0 L).length) (by omega) (by omega)).mpr zq)
        exfalso; omega
      · replace c64 : (L.length) = ((trK m9 0 L).length) := (nI_eq (a := L.length) (b := (trK m9 0 L).length) (by omega) (by omega)).mp c64
        refine lv_aload_n hx hb dX3_isSoundBottom_67 rfl (lv_at hl 1 rfl) ?_
        refine q_get C hP f1 rfl inX3 7 (by decide) g369 rfl dX3_isSoundBottom_68 ?_
        refine q_alen C hP fn1 rfl dX3_isSoundBottom_71 ?_
        refine lv_if_ne (tgt := 88) hx hb dX3_isSoundBottom_72 (by decide) (fun c72 => ?_) (fun c72 => ?_)
        · replace c72 : ¬ ((trM m9 0 L).length) = 0 := fun zq => c72 ((nI_eq (a := (trM m9 0 L).length) (b := 0) (by omega) (by omega)).mpr zq)
          exfalso; omega
        · replace c72 : ((trM m9 0 L).length) = 0 := (nI_eq (a := (trM m9 0 L).length) (b := 0) (by omega) (by omega)).mp c72
          refine lv_aload_n hx hb dX3_isSoundBottom_75 rfl (lv_at hl 1 rfl) ?_
          refine q_get C hP f1 rfl inX3 4 (by decide) g365 rfl dX3_isSoundBottom_76 ?_
          refine lv_bipush (v := nI 16) hx hb dX3_isSoundBottom_79 (by decide) ?_
          refine lv_icmp_gt (tgt := 88) hx hb dX3_isSoundBottom_81 (by decide) (fun c81 => ?_) (fun c81 => ?_)
          · replace c81 : 16 < (L.length) := (nI_ltI (a := 16) (b := L.length) (by omega) (by omega)).mp c81
            exfalso; omega
          · replace c81 : ¬ 16 < (L.length) := fun zq => c81 ((nI_ltI (a := 16) (b := L.length) (by omega) (by omega)).mpr zq)
            refine lv_iconst (v := nI 1) hx hb dX3_isSoundBottom_84 (by decide) ?_
            refine lv_goto (tgt := 89) hx hb dX3_isSoundBottom_85 (by decide) ?_
            exact q_zret C hP hS (Or.inr rfl) ⟨rfl, rfl⟩ (by omega) dX3_isSoundBottom_89
    · replace c8 : ¬ ((trK m9 0 L).length) ≤ j := fun zq => c8 ((nI_leI (a := (trK m9 0 L).length) (b := j) (by omega) (by omega)).mpr zq)
      refine lv_aload_n hx hb dX3_isSoundBottom_11 rfl (lv_at hl 1 rfl) ?_
      refine q_get C hP f1 rfl inX3 5 (by decide) g366 rfl dX3_isSoundBottom_12 ?_
      refine lv_iload_n hx hb dX3_isSoundBottom_15 rfl (lv_at hl 0 rfl) ?_
      refine q_laldN C hP fk1 (by omega) (by omega) dX3_isSoundBottom_16 ?_
      refine lv_iload_n hx hb dX3_isSoundBottom_17 rfl (lv_at hl 2 rfl) ?_
      refine q_callS (rest := []) C (c_X3_hashOf l D cy N0 h ((List.map Prod.fst (trK m9 0 L)).getD j 0) m9) kX3_hashOf g299 g300 hP hS (by first | decide | omega) hl.1 rfl (by decide) (by first | decide | omega) dX3_isSoundBottom_18 (fun q ce E h' H1 locs1 hE => hE.elim) (fun v hh1 H locs hq hP hS => ?_)
      obtain ⟨rfl, rfl⟩ := hq
      refine lv_iload_n hx hb dX3_isSoundBottom_21 rfl (lv_at hl 3 rfl) ?_
      have hjg := List.getElem?_eq_getElem (l := trK m9 0 L) (show j < (trK m9 0 L).length by omega)
      have hpe : ((List.map Prod.fst (trK m9 0 L)).getD j 0).toInt32 &&& m9 = nI pi9 := by rw [th_key hjg, ← hpi _ ((thO_perm L).mem_iff.mp (List.getElem_mem _))]; exact nI_any _
      rw [hpe]
      refine lv_icmp_ne (tgt := 47) hx hb dX3_isSoundBottom_22 (by decide) (fun c22 => absurd rfl c22) (fun _ => ?_)
      refine lv_iload_n hx hb dX3_isSoundBottom_25 rfl (lv_at hl 0 rfl) ?_
      refine lv_if_le (tgt := 49) hx hb dX3_isSoundBottom_26 (by decide) (fun c26 => ?_) (fun c26 => ?_)
      · replace c26 : j ≤ 0 := (nI_leI (a := j) (b := 0) (by omega) (by omega)).mp c26
        refine lv_iinc (v := nI (j + 1)) (lv' := [(3, .int (nI (j + 1))), (0, .ref a), (1, .int m9), (2, .int (nI pi9))]) hx hb dX3_isSoundBottom_49 hl (k := 0) rfl (nI_1 j) (by decide) rfl (fun ls hl => ?_)
        refine lv_goto (tgt := 2) hx hb dX3_isSoundBottom_52 (by decide) ?_
        exact ihl H locs ls (j + 1) (by omega) (lv_sub hl [0, 1, 2, 3] rfl) (by omega) hP hS
      · replace c26 : ¬ j ≤ 0 := fun zq => c26 ((nI_leI (a := j) (b := 0) (by omega) (by omega)).mpr zq)
        have hst : ((List.map Prod.fst (trK m9 0 L)).getD (j - 1) 0).toInt < ((List.map Prod.fst (trK m9 0 L)).getD j 0).toInt := by
          have hjg1 := List.getElem?_eq_getElem (l := trK m9 0 L) (show j - 1 < (trK m9 0 L).length by omega)
          rw [th_key hjg, th_key hjg1]
          have u1 := List.pairwise_iff_getElem.mp (show qUp (trK m9 0 L) from thO_up L) (j - 1) j (by omega) (by omega) (by omega)
          have u2 := List.pairwise_iff_getElem.mp (trK_no (m := m9) (r := 0) hno) (j - 1) j (by omega) (by omega) (by omega)
          have u3 : ¬ (trK m9 0 L)[j - 1].1.toInt = (trK m9 0 L)[j].1.toInt := fun z => u2 (Int64.toInt_inj.mp z)
          omega
        refine lv_aload_n hx hb dX3_isSoundBottom_29 rfl (lv_at hl 1 rfl) ?_
        refine q_get C hP f1 rfl inX3 5 (by decide) g366 rfl dX3_isSoundBottom_30 ?_
        refine lv_iload_n hx hb dX3_isSoundBottom_33 rfl (lv_at hl 0 rfl) ?_
        refine lv_iconst (v := nI 1) hx hb dX3_isSoundBottom_34 (by decide) ?_
        refine q_isubN hx hb dX3_isSoundBottom_35 (by omega) ?_
        refine q_laldN C hP fk1 (by omega) (by omega) dX3_isSoundBottom_36 ?_
        refine lv_aload_n hx hb dX3_isSoundBottom_37 rfl (lv_at hl 1 rfl) ?_
        refine q_get C hP f1 rfl inX3 5 (by decide) g366 rfl dX3_isSoundBottom_38 ?_
        refine lv_iload_n hx hb dX3_isSoundBottom_41 rfl (lv_at hl 0 rfl) ?_
        refine q_laldN C hP fk1 (by omega) (by omega) dX3_isSoundBottom_42 ?_
        refine W.lcmp hx hb dX3_isSoundBottom_43 ?_
        refine lv_if_lt (tgt := 49) hx hb dX3_isSoundBottom_44 (by decide) (fun c44 => ?_) (fun c44 => ?_)
        · replace c44 : ((List.map Prod.fst (trK m9 0 L)).getD (j - 1) 0).toInt < ((List.map Prod.fst (trK m9 0 L)).getD j 0).toInt := Int64.lt_iff_toInt_lt.mp ((lg_cmp_lt _ _).mp c44)
          refine lv_iinc (v := nI (j + 1)) (lv' := [(3, .int (nI (j + 1))), (0, .ref a), (1, .int m9), (2, .int (nI pi9))]) hx hb dX3_isSoundBottom_49 hl (k := 0) rfl (nI_1 j) (by decide) rfl (fun ls hl => ?_)
          refine lv_goto (tgt := 2) hx hb dX3_isSoundBottom_52 (by decide) ?_
          exact ihl H locs ls (j + 1) (by omega) (lv_sub hl [0, 1, 2, 3] rfl) (by omega) hP hS
        · replace c44 : ¬ ((List.map Prod.fst (trK m9 0 L)).getD (j - 1) 0).toInt < ((List.map Prod.fst (trK m9 0 L)).getD j 0).toInt := fun zq => c44 ((lg_cmp_lt _ _).mpr (Int64.lt_iff_toInt_lt.mpr zq))
          exfalso; omega
def qSndC (l : Launch) (D : va_G) (cy : Nat → ClassId) (N0 : Nat) (Im : Nat → Prop) (e9 : Nat) (Ok : Nat → Prop) (m9 : Int32) (r : Nat) : Prop := ∀ (h : qH) (a : Nat) (L : qKV) (X : Nat → Prop) (d pi9 : Nat), qTr cy h Im e9 Ok m9 r a L X → d + r = 7 → L.length < 1000000 → qNo L → (∀ p ∈ L, thH m9 p.1 % 32 ^ d = pi9) → (1 ≤ L.length ∧ (r < 7 → 2 ≤ L.length)) → (∀ k, (L.filter (fun p => decide (thH m9 p.1 = thH m9 k))).length ≤ 16) → qC l D cy N0 yX3_isSound cX3_isSound 4 (some .boolean) (3 + 2 * r) (100 + 80 * r) 0 0 [.ref a, .int (nI d), .int m9, .int (nI pi9)] h (fun v h' => v = some (.int (nI 1)) ∧ h = h') (fun _ _ => False)
theorem dX3_isSoundAbove_0 : decode cX3_isSoundAbove 0 = .ok (.iconst 0, 1) := by decide +kernel
theorem dX3_isSoundAbove_1 : decode cX3_isSoundAbove 1 = .ok (.istore_n 3, 1) := by decide +kernel
theorem dX3_isSoundAbove_2 : decode cX3_isSoundAbove 2 = .ok (.iconst 0, 1) := by decide +kernel
theorem dX3_isSoundAbove_3 : decode cX3_isSoundAbove 3 = .ok (.istore 4, 2) := by decide +kernel
theorem dX3_isSoundAbove_5 : decode cX3_isSoundAbove 5 = .ok (.aload_n 0, 1) := by decide +kernel
theorem dX3_isSoundAbove_6 : decode cX3_isSoundAbove 6 = .ok (.getfield 15, 3) := by decide +kernel
theorem dX3_isSoundAbove_9 : decode cX3_isSoundAbove 9 = .ok (.arraylength, 1) := by decide +kernel
theorem dX3_isSoundAbove_10 : decode cX3_isSoundAbove 10 = .ok (.istore 5, 2) := by decide +kernel
theorem dX3_isSoundAbove_12 : decode cX3_isSoundAbove 12 = .ok (.iconst 0, 1) := by decide +kernel
theorem dX3_isSoundAbove_13 : decode cX3_isSoundAbove 13 = .ok (.istore 6, 2) := by decide +kernel
theorem dX3_isSoundAbove_15 : decode cX3_isSoundAbove 15 = .ok (.iload 6, 2) := by decide +kernel
theorem dX3_isSoundAbove_17 : decode cX3_isSoundAbove 17 = .ok (.bipush 31, 2) := by decide +kernel
theorem dX3_isSoundAbove_19 : decode cX3_isSoundAbove 19 = .ok (.if_icmp .gt 138, 3) := by decide +kernel
theorem dX3_isSoundAbove_22 : decode cX3_isSoundAbove 22 = .ok (.iload_n 2, 1) := by decide +kernel
theorem dX3_isSoundAbove_23 : decode cX3_isSoundAbove 23 = .ok (.iload 6, 2) := by decide +kernel
theorem dX3_isSoundAbove_25 : decode cX3_isSoundAbove 25 = .ok (.iconst 5, 1) := by decide +kernel
theorem dX3_isSoundAbove_26 : decode cX3_isSoundAbove 26 = .ok (.aload_n 0, 1) := by decide +kernel
theorem dX3_isSoundAbove_27 : decode cX3_isSoundAbove 27 = .ok (.getfield 21, 3) := by decide +kernel
theorem dX3_isSoundAbove_30 : decode cX3_isSoundAbove 30 = .ok (.imul, 1) := by decide +kernel
theorem dX3_isSoundAbove_31 : decode cX3_isSoundAbove 31 = .ok (.ishl, 1) := by decide +kernel
theorem dX3_isSoundAbove_32 : decode cX3_isSoundAbove 32 = .ok (.ior, 1) := by decide +kernel
theorem dX3_isSoundAbove_33 : decode cX3_isSoundAbove 33 = .ok (.istore 7, 2) := by decide +kernel
theorem dX3_isSoundAbove_35 : decode cX3_isSoundAbove 35 = .ok (.aload_n 0, 1) := by decide +kernel
theorem dX3_isSoundAbove_36 : decode cX3_isSoundAbove 36 = .ok (.getfield 55, 3) := by decide +kernel
theorem dX3_isSoundAbove_39 : decode cX3_isSoundAbove 39 = .ok (.iload 6, 2) := by decide +kernel
theorem dX3_isSoundAbove_41 : decode cX3_isSoundAbove 41 = .ok (.iushr, 1) := by decide +kernel
theorem dX3_isSoundAbove_42 : decode cX3_isSoundAbove 42 = .ok (.iconst 1, 1) := by decide +kernel
theorem dX3_isSoundAbove_43 : decode cX3_isSoundAbove 43 = .ok (.iand, 1) := by decide +kernel
theorem dX3_isSoundAbove_44 : decode cX3_isSoundAbove 44 = .ok (.ifCond .eq 33, 3) := by decide +kernel
theorem dX3_isSoundAbove_47 : decode cX3_isSoundAbove 47 = .ok (.iload_n 3, 1) := by decide +kernel
theorem dX3_isSoundAbove_48 : decode cX3_isSoundAbove 48 = .ok (.aload_n 0, 1) := by decide +kernel
theorem dX3_isSoundAbove_49 : decode cX3_isSoundAbove 49 = .ok (.getfield 15, 3) := by decide +kernel
theorem dX3_isSoundAbove_52 : decode cX3_isSoundAbove 52 = .ok (.arraylength, 1) := by decide +kernel
theorem dX3_isSoundAbove_53 : decode cX3_isSoundAbove 53 = .ok (.if_icmp .ge 19, 3) := by decide +kernel
theorem dX3_isSoundAbove_56 : decode cX3_isSoundAbove 56 = .ok (.aload_n 0, 1) := by decide +kernel
theorem dX3_isSoundAbove_57 : decode cX3_isSoundAbove 57 = .ok (.aload_n 0, 1) := by decide +kernel
theorem dX3_isSoundAbove_58 : decode cX3_isSoundAbove 58 = .ok (.getfield 15, 3) := by decide +kernel
theorem dX3_isSoundAbove_61 : decode cX3_isSoundAbove 61 = .ok (.iload_n 3, 1) := by decide +kernel
theorem dX3_isSoundAbove_62 : decode cX3_isSoundAbove 62 = .ok (.laload, 1) := by decide +kernel
theorem dX3_isSoundAbove_63 : decode cX3_isSoundAbove 63 = .ok (.iload_n 1, 1) := by decide +kernel
theorem dX3_isSoundAbove_64 : decode cX3_isSoundAbove 64 = .ok (.iload 7, 2) := by decide +kernel
theorem dX3_isSoundAbove_66 : decode cX3_isSoundAbove 66 = .ok (.invokevirtual 172, 3) := by decide +kernel
theorem dX3_isSoundAbove_69 : decode cX3_isSoundAbove 69 = .ok (.ifCond .ne 5, 3) := by decide +kernel
theorem dX3_isSoundAbove_74 : decode cX3_isSoundAbove 74 = .ok (.iinc 3 1, 3) := by decide +kernel
theorem dX3_isSoundAbove_77 : decode cX3_isSoundAbove 77 = .ok (.aload_n 0, 1) := by decide +kernel
theorem dX3_isSoundAbove_78 : decode cX3_isSoundAbove 78 = .ok (.getfield 45, 3) := by decide +kernel
theorem dX3_isSoundAbove_81 : decode cX3_isSoundAbove 81 = .ok (.iload 6, 2) := by decide +kernel
theorem dX3_isSoundAbove_83 : decode cX3_isSoundAbove 83 = .ok (.iushr, 1) := by decide +kernel
theorem dX3_isSoundAbove_84 : decode cX3_isSoundAbove 84 = .ok (.iconst 1, 1) := by decide +kernel
theorem dX3_isSoundAbove_85 : decode cX3_isSoundAbove 85 = .ok (.iand, 1) := by decide +kernel
theorem dX3_isSoundAbove_86 : decode cX3_isSoundAbove 86 = .ok (.ifCond .eq 65, 3) := by decide +kernel
theorem dX3_isSoundAbove_89 : decode cX3_isSoundAbove 89 = .ok (.iload 4, 2) := by decide +kernel
theorem dX3_isSoundAbove_91 : decode cX3_isSoundAbove 91 = .ok (.aload_n 0, 1) := by decide +kernel
theorem dX3_isSoundAbove_92 : decode cX3_isSoundAbove 92 = .ok (.getfield 28, 3) := by decide +kernel
theorem dX3_isSoundAbove_95 : decode cX3_isSoundAbove 95 = .ok (.arraylength, 1) := by decide +kernel
theorem dX3_isSoundAbove_96 : decode cX3_isSoundAbove 96 = .ok (.if_icmp .ge 35, 3) := by decide +kernel
theorem dX3_isSoundAbove_99 : decode cX3_isSoundAbove 99 = .ok (.aload_n 0, 1) := by decide +kernel
theorem dX3_isSoundAbove_100 : decode cX3_isSoundAbove 100 = .ok (.getfield 28, 3) := by decide +kernel
theorem dX3_isSoundAbove_103 : decode cX3_isSoundAbove 103 = .ok (.iload 4, 2) := by decide +kernel
theorem dX3_isSoundAbove_105 : decode cX3_isSoundAbove 105 = .ok (.aaload, 1) := by decide +kernel
theorem dX3_isSoundAbove_106 : decode cX3_isSoundAbove 106 = .ok (.ifnull 25, 3) := by decide +kernel
theorem dX3_isSoundAbove_109 : decode cX3_isSoundAbove 109 = .ok (.aload_n 0, 1) := by decide +kernel
theorem dX3_isSoundAbove_110 : decode cX3_isSoundAbove 110 = .ok (.getfield 28, 3) := by decide +kernel
theorem dX3_isSoundAbove_113 : decode cX3_isSoundAbove 113 = .ok (.iload 4, 2) := by decide +kernel
theorem dX3_isSoundAbove_115 : decode cX3_isSoundAbove 115 = .ok (.aaload, 1) := by decide +kernel
theorem dX3_isSoundAbove_116 : decode cX3_isSoundAbove 116 = .ok (.aload_n 0, 1) := by decide +kernel
theorem dX3_isSoundAbove_117 : decode cX3_isSoundAbove 117 = .ok (.getfield 21, 3) := by decide +kernel
theorem dX3_isSoundAbove_120 : decode cX3_isSoundAbove 120 = .ok (.iconst 1, 1) := by decide +kernel
theorem dX3_isSoundAbove_121 : decode cX3_isSoundAbove 121 = .ok (.iadd, 1) := by decide +kernel
theorem dX3_isSoundAbove_122 : decode cX3_isSoundAbove 122 = .ok (.iload_n 1, 1) := by decide +kernel
theorem dX3_isSoundAbove_123 : decode cX3_isSoundAbove 123 = .ok (.iload 7, 2) := by decide +kernel
theorem dX3_isSoundAbove_125 : decode cX3_isSoundAbove 125 = .ok (.invokestatic 176, 3) := by decide +kernel
theorem dX3_isSoundAbove_128 : decode cX3_isSoundAbove 128 = .ok (.ifCond .ne 5, 3) := by decide +kernel
theorem dX3_isSoundAbove_133 : decode cX3_isSoundAbove 133 = .ok (.iload 5, 2) := by decide +kernel
theorem dX3_isSoundAbove_135 : decode cX3_isSoundAbove 135 = .ok (.aload_n 0, 1) := by decide +kernel
theorem dX3_isSoundAbove_136 : decode cX3_isSoundAbove 136 = .ok (.getfield 28, 3) := by decide +kernel
theorem dX3_isSoundAbove_139 : decode cX3_isSoundAbove 139 = .ok (.iload 4, 2) := by decide +kernel
theorem dX3_isSoundAbove_141 : decode cX3_isSoundAbove 141 = .ok (.aaload, 1) := by decide +kernel
theorem dX3_isSoundAbove_142 : decode cX3_isSoundAbove 142 = .ok (.getfield 32, 3) := by decide +kernel
theorem dX3_isSoundAbove_145 : decode cX3_isSoundAbove 145 = .ok (.iadd, 1) := by decide +kernel
theorem dX3_isSoundAbove_146 : decode cX3_isSoundAbove 146 = .ok (.istore 5, 2) := by decide +kernel
theorem dX3_isSoundAbove_148 : decode cX3_isSoundAbove 148 = .ok (.iinc 4 1, 3) := by decide +kernel
theorem dX3_isSoundAbove_151 : decode cX3_isSoundAbove 151 = .ok (.iinc 6 1, 3) := by decide +kernel
theorem dX3_isSoundAbove_154 : decode cX3_isSoundAbove 154 = .ok (.goto (-139), 3) := by decide +kernel
theorem dX3_isSoundAbove_157 : decode cX3_isSoundAbove 157 = .ok (.iload_n 3, 1) := by decide +kernel
theorem dX3_isSoundAbove_158 : decode cX3_isSoundAbove 158 = .ok (.aload_n 0, 1) := by decide +kernel
theorem dX3_isSoundAbove_159 : decode cX3_isSoundAbove 159 = .ok (.getfield 15, 3) := by decide +kernel
theorem dX3_isSoundAbove_162 : decode cX3_isSoundAbove 162 = .ok (.arraylength, 1) := by decide +kernel
theorem dX3_isSoundAbove_163 : decode cX3_isSoundAbove 163 = .ok (.if_icmp .ne 26, 3) := by decide +kernel
theorem dX3_isSoundAbove_166 : decode cX3_isSoundAbove 166 = .ok (.iload 4, 2) := by decide +kernel
theorem dX3_isSoundAbove_168 : decode cX3_isSoundAbove 168 = .ok (.aload_n 0, 1) := by decide +kernel
theorem dX3_isSoundAbove_169 : decode cX3_isSoundAbove 169 = .ok (.getfield 28, 3) := by decide +kernel
theorem dX3_isSoundAbove_172 : decode cX3_isSoundAbove 172 = .ok (.arraylength, 1) := by decide +kernel
theorem dX3_isSoundAbove_173 : decode cX3_isSoundAbove 173 = .ok (.if_icmp .ne 16, 3) := by decide +kernel
theorem dX3_isSoundAbove_176 : decode cX3_isSoundAbove 176 = .ok (.iload 5, 2) := by decide +kernel
theorem dX3_isSoundAbove_178 : decode cX3_isSoundAbove 178 = .ok (.aload_n 0, 1) := by decide +kernel
theorem dX3_isSoundAbove_179 : decode cX3_isSoundAbove 179 = .ok (.getfield 32, 3) := by decide +kernel
theorem dX3_isSoundAbove_182 : decode cX3_isSoundAbove 182 = .ok (.if_icmp .ne 7, 3) := by decide +kernel
theorem dX3_isSoundAbove_185 : decode cX3_isSoundAbove 185 = .ok (.iconst 1, 1) := by decide +kernel
theorem dX3_isSoundAbove_186 : decode cX3_isSoundAbove 186 = .ok (.goto 4, 3) := by decide +kernel
theorem dX3_isSoundAbove_190 : decode cX3_isSoundAbove 190 = .ok (.ireturn, 1) := by decide +kernel
set_option maxRecDepth 100000 in
set_option maxHeartbeats 4000000 in
theorem c_X3_isSoundAbove (l : Launch) (D : va_G) (cy : Nat → ClassId) (N0 : Nat) (h : qH) (Im : Nat → Prop) (e9 : Nat) (Ok : Nat → Prop) (m9 : Int32) (r a : Nat) (L : qKV) (X : Nat → Prop) (pi9 : Nat) (hT : qTr cy h Im e9 Ok m9 (r + 1) a L X) (hr : r + 1 ≤ 7) (hL : L.length < 1000000) (hno : qNo L) (hpi : ∀ p ∈ L, thH m9 p.1 % 32 ^ (7 - (r + 1)) = pi9) (hal : ∀ k, (L.filter (fun p => decide (thH m9 p.1 = thH m9 k))).length ≤ 16) (ih : qSndC l D cy N0 Im e9 Ok m9 r) : qC l D cy N0 yX3_isSoundAbove cX3_isSoundAbove 8 (some .boolean) (4 + 2 * r) (140 + 80 * r) 0 0 [.ref a, .int m9, .int (nI pi9)] h (fun v h' => v = some (.int (nI 1)) ∧ h = h') (fun E h' => False) := by
  refine q_ofW (by decide) (by exact Nat.le_of_ble_eq_true rfl) ?_
  intro p e s m below meth c ls C hP hl
  have hx := C.1
  have hb := C.2.1
  have hS : va_S (qA N0) s.heap s.heap [] := va_S.rf
  have hl : lv_has ls 8 [(0, .ref a), (1, .int m9), (2, .int (nI pi9))] := hl
  obtain ⟨ow1, ka1, va1, na1, C1, Xs1, hn1, hx1, hk1⟩ := hT.inv
  have f1 := hn1.1
  have fk1 := hn1.2.1
  have fv1 := hn1.2.2.1
  have fn1 := hn1.2.2.2.1
  unfold thNo at f1
  unfold thJ at fk1 fv1
  unfold thA at fn1
  rw [List.length_map] at fk1 fv1
  have hml := trM_len (m := m9) (r := r + 1) (L := L)
  have hkl := trK_len (m := m9) (r := r + 1) (L := L)
  have hKn : (trK m9 (r + 1) L).length = tqC (thS m9 (6 - r) L) 32 := thLen (fun u _ => thF_len)
  have hMn : (trM m9 (r + 1) L).length = tqC (thM m9 (6 - r) L) 32 := thLen (fun u _ => thG_len)
  refine lv_iconst (v := nI 0) hx hb dX3_isSoundAbove_0 (by decide) ?_
  refine lv_istore_n (lv' := [(3, .int (nI 0)), (0, .ref a), (1, .int m9), (2, .int (nI pi9))]) hx hb dX3_isSoundAbove_1 rfl hl (by decide) rfl (fun ls hl => ?_)
  refine lv_iconst (v := nI 0) hx hb dX3_isSoundAbove_2 (by decide) ?_
  refine lv_istore (lv' := [(4, .int (nI 0)), (3, .int (nI 0)), (0, .ref a), (1, .int m9), (2, .int (nI pi9))]) hx hb dX3_isSoundAbove_3 hl (by decide) rfl (fun ls hl => ?_)
  refine lv_aload_n hx hb dX3_isSoundAbove_5 rfl (lv_at hl 2 rfl) ?_
  refine q_get C hP f1 rfl inX3 5 (by decide) g366 rfl dX3_isSoundAbove_6 ?_
  refine q_alen C hP fk1 rfl dX3_isSoundAbove_9 ?_
  refine lv_istore (lv' := [(5, .int (nI (trK m9 (r + 1) L).length)), (4, .int (nI 0)), (3, .int (nI 0)), (0, .ref a), (1, .int m9), (2, .int (nI pi9))]) hx hb dX3_isSoundAbove_10 hl (by decide) rfl (fun ls hl => ?_)
  refine lv_iconst (v := nI 0) hx hb dX3_isSoundAbove_12 (by decide) ?_
  refine lv_istore (lv' := [(6, .int (nI 0)), (5, .int (nI (trK m9 (r + 1) L).length)), (4, .int (nI 0)), (3, .int (nI 0)), (0, .ref a), (1, .int m9), (2, .int (nI pi9))]) hx hb dX3_isSoundAbove_13 hl (by decide) rfl (fun ls hl => ?_)
  refine (?_ : ∀ (t : Nat) (H : Heap) (locs : List Loc) (ls : Array Slot) (v9 f9 b9 p9 : Nat), 32 - v9 < t → lv_has ls 8 [(6, .int (nI v9)), (5, .int (nI f9)), (4, .int (nI b9)), (3, .int (nI p9)), (0, .ref a), (1, .int m9), (2, .int (nI pi9))] → v9 ≤ 32 → f9 = thFd m9 r L v9 → b9 = tqC (thM m9 (6 - r) L) v9 → p9 = tqC (thS m9 (6 - r) L) v9 → qP D N0 h H → va_S (qA N0) s.heap H locs → W p l e _ s m _ below meth c H locs 0 0 _ (F0 m 15 ls [])) _ _ _ ls 0 _ 0 0 (Nat.lt_succ_self _) (lv_sub hl [0, 1, 2, 3, 4, 5, 6] rfl) (Nat.zero_le _) rfl rfl rfl hP hS
  clear hl hP hS
  intro t
  induction t with
  | zero => intro H locs ls v9 f9 b9 p9 ht; exact absurd ht (Nat.not_lt_zero _)
  | succ t ihl =>
    intro H locs ls v9 f9 b9 p9 ht hl hv9 hf9 hb9 hp9 hP hS
    have hfl := thFd_le (m := m9) (r := r) (L := L) (32 - v9) v9 (by omega)
    have hbl := tqC_le (p := thM m9 (6 - r) L) v9
    have hpl := tqC_le (p := thS m9 (6 - r) L) v9
    refine lv_iload hx hb dX3_isSoundAbove_15 (lv_at hl 0 rfl) ?_
    refine lv_bipush (v := nI 31) hx hb dX3_isSoundAbove_17 (by decide) ?_
    refine lv_icmp_gt (tgt := 157) hx hb dX3_isSoundAbove_19 (by decide) (fun c19 => ?_) (fun c19 => ?_)
    · replace c19 : 31 < v9 := (nI_ltI (a := 31) (b := v9) (by omega) (by omega)).mp c19
      have e32 : v9 = 32 := by omega
      subst e32
      rw [thFd_n] at hf9
      refine lv_iload_n hx hb dX3_isSoundAbove_157 rfl (lv_at hl 3 rfl) ?_
      refine lv_aload_n hx hb dX3_isSoundAbove_158 rfl (lv_at hl 4 rfl) ?_
      refine q_get C hP f1 rfl inX3 5 (by decide) g366 rfl dX3_isSoundAbove_159 ?_
      refine q_alen C hP fk1 rfl dX3_isSoundAbove_162 ?_
      refine lv_icmp_ne (tgt := 189) hx hb dX3_isSoundAbove_163 (by decide) (fun c163 => ?_) (fun c163 => ?_)
      · replace c163 : ¬ p9 = ((trK m9 (r + 1) L).length) := fun zq => c163 ((nI_eq (a := p9) (b := (trK m9 (r + 1) L).length) (by omega) (by omega)).mpr zq)
        exfalso; omega
      · replace c163 : p9 = ((trK m9 (r + 1) L).length) := (nI_eq (a := p9) (b := (trK m9 (r + 1) L).length) (by omega) (by omega)).mp c163
        refine lv_iload hx hb dX3_isSoundAbove_166 (lv_at hl 2 rfl) ?_
        refine lv_aload_n hx hb dX3_isSoundAbove_168 rfl (lv_at hl 4 rfl) ?_
        refine q_get C hP f1 rfl inX3 7 (by decide) g369 rfl dX3_isSoundAbove_169 ?_
        refine q_alen C hP fn1 rfl dX3_isSoundAbove_172 ?_
        refine lv_icmp_ne (tgt := 189) hx hb dX3_isSoundAbove_173 (by decide) (fun c173 => ?_) (fun c173 => ?_)
        · replace c173 : ¬ b9 = ((trM m9 (r + 1) L).length) := fun zq => c173 ((nI_eq (a := b9) (b := (trM m9 (r + 1) L).length) (by omega) (by omega)).mpr zq)
          exfalso; omega
        · replace c173 : b9 = ((trM m9 (r + 1) L).length) := (nI_eq (a := b9) (b := (trM m9 (r + 1) L).length) (by omega) (by omega)).mp c173
          refine lv_iload hx hb dX3_isSoundAbove_176 (lv_at hl 1 rfl) ?_
          refine lv_aload_n hx hb dX3_isSoundAbove_178 rfl (lv_at hl 4 rfl) ?_
          refine q_get C hP f1 rfl inX3 4 (by decide) g365 rfl dX3_isSoundAbove_179 ?_
          refine lv_icmp_ne (tgt := 189) hx hb dX3_isSoundAbove_182 (by decide) (fun c182 => ?_) (fun c182 => ?_)
          · replace c182 : ¬ f9 = (L.length) := fun zq => c182 ((nI_eq (a := f9) (b := L.length) (by omega) (by omega)).mpr zq)
            exfalso; omega
          · replace c182 : f9 = (L.length) := (nI_eq (a := f9) (b := L.length) (by omega) (by omega)).mp c182
            refine lv_iconst (v := nI 1) hx hb dX3_isSoundAbove_185 (by decide) ?_
            refine lv_goto (tgt := 190) hx hb dX3_isSoundAbove_186 (by decide) ?_
            exact q_zret C hP hS (Or.inr rfl) ⟨rfl, rfl⟩ (by omega) dX3_isSoundAbove_190
    · replace c19 : ¬ 31 < v9 := fun zq => c19 ((nI_ltI (a := 31) (b := v9) (by omega) (by omega)).mpr zq)
      refine lv_iload_n hx hb dX3_isSoundAbove_22 rfl (lv_at hl 6 rfl) ?_
      refine lv_iload hx hb dX3_isSoundAbove_23 (lv_at hl 0 rfl) ?_
      refine lv_iconst (v := nI 5) hx hb dX3_isSoundAbove_25 (by decide) ?_
      refine lv_aload_n hx hb dX3_isSoundAbove_26 rfl (lv_at hl 4 rfl) ?_
      refine q_get C hP f1 rfl inX3 0 (by decide) g361 rfl dX3_isSoundAbove_27 ?_
      refine q_imulN hx hb dX3_isSoundAbove_30 ?_
      refine lv_ishl hx hb dX3_isSoundAbove_31 ?_
      refine lv_ior hx hb dX3_isSoundAbove_32 ?_
      obtain ⟨lp9, elp9⟩ : ∃ z : Int32, z = nI pi9 ||| (nI v9 <<< (nI (5 * (7 - (r + 1))) &&& 31)) := ⟨_, rfl⟩
      rw [← elp9]
      refine lv_istore (lv' := [(7, .int lp9), (6, .int (nI v9)), (5, .int (nI f9)), (4, .int (nI b9)), (3, .int (nI p9)), (0, .ref a), (1, .int m9), (2, .int (nI pi9))]) hx hb dX3_isSoundAbove_33 hl (by decide) rfl (fun ls hl => ?_)
      refine lv_aload_n hx hb dX3_isSoundAbove_35 rfl (lv_at hl 5 rfl) ?_
      refine q_get C hP f1 rfl inX3 2 (by decide) g363 rfl dX3_isSoundAbove_36 ?_
      refine lv_iload hx hb dX3_isSoundAbove_39 (lv_at hl 1 rfl) ?_
      refine lv_iushr hx hb dX3_isSoundAbove_41 rfl ?_
      refine lv_iconst (v := nI 1) hx hb dX3_isSoundAbove_42 (by decide) ?_
      refine lv_iand hx hb dX3_isSoundAbove_43 ?_
      refine lv_if_eq (tgt := 77) hx hb dX3_isSoundAbove_44 (by decide) (fun c44 => ?_) (fun c44 => ?_)
      · have hSv : thS m9 (6 - r) L v9 = false := (tqB_sh (by omega)).mp c44
        refine lv_aload_n hx hb dX3_isSoundAbove_77 rfl (lv_at hl 5 rfl) ?_
        refine q_get C hP f1 rfl inX3 3 (by decide) g364 rfl dX3_isSoundAbove_78 ?_
        refine lv_iload hx hb dX3_isSoundAbove_81 (lv_at hl 1 rfl) ?_
        refine lv_iushr hx hb dX3_isSoundAbove_83 rfl ?_
        refine lv_iconst (v := nI 1) hx hb dX3_isSoundAbove_84 (by decide) ?_
        refine lv_iand hx hb dX3_isSoundAbove_85 ?_
        refine lv_if_eq (tgt := 151) hx hb dX3_isSoundAbove_86 (by decide) (fun c86 => ?_) (fun c86 => ?_)
        · have hMv : thM m9 (6 - r) L v9 = false := (tqB_sh (by omega)).mp c86
          refine lv_iinc (v := nI (v9 + 1)) (lv' := [(6, .int (nI (v9 + 1))), (7, .int lp9), (5, .int (nI f9)), (4, .int (nI b9)), (3, .int (nI p9)), (0, .ref a), (1, .int m9), (2, .int (nI pi9))]) hx hb dX3_isSoundAbove_151 hl (k := 1) rfl (nI_1 v9) (by decide) rfl (fun ls hl => ?_)
          refine lv_goto (tgt := 15) hx hb dX3_isSoundAbove_154 (by decide) ?_
          exact ihl H locs ls (v9 + 1) _ _ _ (by omega) (lv_sub hl [0, 2, 3, 4, 5, 6, 7] rfl) (by omega) (by rw [thFd_s, hf9, if_neg (by rw [hMv]; decide), Nat.add_zero]) (by rw [tqC_f hMv, hb9]) (by rw [tqC_f hSv, hp9]) hP hS
        · have hMv : thM m9 (6 - r) L v9 = true := by
            cases z : thM m9 (6 - r) L v9 with
            | true => rfl
            | false => exact absurd ((tqB_sh (by omega)).mpr z) c86
          have hatm := trM_at (r := r) (show v9 < 32 by omega) hMv
          have hltm := (List.getElem?_eq_some_iff.mp hatm).1
          rw [← hb9] at hatm hltm
          obtain ⟨r8, er8, t8⟩ := hk1 _ _ hatm
          cases er8
          obtain ⟨owc, kac, vac, nac, Cc, Xsc, hnc, -, -⟩ := t8.inv
          have fc := hnc.1
          unfold thNo at fc
          have h2m : 2 ≤ (thK m9 (6 - r) v9 L).length := by unfold thM at hMv; exact of_decide_eq_true hMv
          have hbl2 := thK_len (m := m9) (d := 6 - r) (v := v9) (L := L)
          refine lv_iload hx hb dX3_isSoundAbove_89 (lv_at hl 3 rfl) ?_
          refine lv_aload_n hx hb dX3_isSoundAbove_91 rfl (lv_at hl 5 rfl) ?_
          refine q_get C hP f1 rfl inX3 7 (by decide) g369 rfl dX3_isSoundAbove_92 ?_
          refine q_alen C hP fn1 rfl dX3_isSoundAbove_95 ?_
          refine lv_icmp_ge (tgt := 131) hx hb dX3_isSoundAbove_96 (by decide) (fun c96 => ?_) (fun c96 => ?_)
          · replace c96 : ((trM m9 (r + 1) L).length) ≤ b9 := (nI_leI (a := (trM m9 (r + 1) L).length) (b := b9) (by omega) (by omega)).mp c96
            exfalso; omega
          · replace c96 : ¬ ((trM m9 (r + 1) L).length) ≤ b9 := fun zq => c96 ((nI_leI (a := (trM m9 (r + 1) L).length) (b := b9) (by omega) (by omega)).mpr zq)
            refine lv_aload_n hx hb dX3_isSoundAbove_99 rfl (lv_at hl 5 rfl) ?_
            refine q_get C hP f1 rfl inX3 7 (by decide) g369 rfl dX3_isSoundAbove_100 ?_
            refine lv_iload hx hb dX3_isSoundAbove_103 (lv_at hl 3 rfl) ?_
            refine q_aaldR C hP fn1 rfl (by omega) (by omega) rfl dX3_isSoundAbove_105 ?_
            refine lv_ifnull hx hb dX3_isSoundAbove_106 ?_
            refine lv_aload_n hx hb dX3_isSoundAbove_109 rfl (lv_at hl 5 rfl) ?_
            refine q_get C hP f1 rfl inX3 7 (by decide) g369 rfl dX3_isSoundAbove_110 ?_
            refine lv_iload hx hb dX3_isSoundAbove_113 (lv_at hl 3 rfl) ?_
            refine q_aaldR C hP fn1 rfl (by omega) (by omega) rfl dX3_isSoundAbove_115 ?_
            refine lv_aload_n hx hb dX3_isSoundAbove_116 rfl (lv_at hl 5 rfl) ?_
            refine q_get C hP f1 rfl inX3 0 (by decide) g361 rfl dX3_isSoundAbove_117 ?_
            refine lv_iconst (v := nI 1) hx hb dX3_isSoundAbove_120 (by decide) ?_
            refine q_iaddN hx hb dX3_isSoundAbove_121 ?_
            refine lv_iload_n hx hb dX3_isSoundAbove_122 rfl (lv_at hl 6 rfl) ?_
            refine lv_iload hx hb dX3_isSoundAbove_123 (lv_at hl 0 rfl) ?_
            obtain ⟨p7, hp7⟩ : ∃ p, p ∈ thK m9 (6 - r) v9 L := by cases hc : thK m9 (6 - r) v9 L with | nil => (rw [hc] at h2m; simp at h2m) | cons p t => exact ⟨p, List.mem_cons_self⟩
            have elm : lp9 = nI (thH m9 p7.1 % 32 ^ (7 - (r + 1) + 1)) := by rw [elp9]; exact lp_of (m := m9) (d := 7 - (r + 1)) (v := v9) (pi := pi9) (k := p7.1) (by omega) (hpi p7 (thK_mem.mp hp7).1) (by rw [show 7 - (r + 1) = 6 - r by omega]; exact (thK_mem.mp hp7).2)
            rw [elm]
            have hall : ∀ p ∈ thK m9 (6 - r) v9 L, thH m9 p.1 % 32 ^ (7 - (r + 1) + 1) = thH m9 p7.1 % 32 ^ (7 - (r + 1) + 1) := fun p hp => by
              have z1 := thH_path (x := thH m9 p.1) (d := 7 - (r + 1))
              have z2 := thH_path (x := thH m9 p7.1) (d := 7 - (r + 1))
              have y1 := (thK_mem.mp hp).2
              have y2 := (thK_mem.mp hp7).2
              unfold thN at y1 y2
              rw [show 6 - r = 7 - (r + 1) by omega] at y1 y2
              rw [hpi _ (thK_mem.mp hp).1, y1] at z1
              rw [hpi _ (thK_mem.mp hp7).1, y2] at z2
              exact z1.symm.trans z2
            refine q_callS (rest := []) C (ih h (C1 b9) (thK m9 (6 - r) v9 L) (Xs1 b9) (7 - (r + 1) + 1) (thH m9 p7.1 % 32 ^ (7 - (r + 1) + 1)) t8 (by omega) (by omega) (qNo_k hno) hall ⟨by omega, fun _ => h2m⟩ (fun k => Nat.le_trans (List.Sublist.length_le (List.Sublist.filter _ List.filter_sublist)) (hal k))) kX3_isSound g1119 g1105 hP hS (by first | decide | omega) hl.1 rfl (by decide) (by first | decide | omega) dX3_isSoundAbove_125 (fun q ce E h' H1 locs1 hE => hE.elim) (fun v hh1 H locs hq hP hS => ?_)
            obtain ⟨rfl, rfl⟩ := hq
            refine lv_if_ne (tgt := 133) hx hb dX3_isSoundAbove_128 (by decide) (fun c128 => ?_) (fun c128 => ?_)
            · replace c128 : ¬ 1 = 0 := fun zq => c128 ((nI_eq (a := 1) (b := 0) (by omega) (by omega)).mpr zq)
              refine lv_iload hx hb dX3_isSoundAbove_133 (lv_at hl 2 rfl) ?_
              refine lv_aload_n hx hb dX3_isSoundAbove_135 rfl (lv_at hl 5 rfl) ?_
              refine q_get C hP f1 rfl inX3 7 (by decide) g369 rfl dX3_isSoundAbove_136 ?_
              refine lv_iload hx hb dX3_isSoundAbove_139 (lv_at hl 3 rfl) ?_
              refine q_aaldR C hP fn1 rfl (by omega) (by omega) rfl dX3_isSoundAbove_141 ?_
              refine q_get C hP fc rfl inX3 4 (by decide) g365 rfl dX3_isSoundAbove_142 ?_
              refine q_iaddN hx hb dX3_isSoundAbove_145 ?_
              refine lv_istore (lv' := [(5, .int (nI (f9 + ((thK m9 (6 - r) v9 L).length)))), (7, .int lp9), (6, .int (nI v9)), (4, .int (nI b9)), (3, .int (nI p9)), (0, .ref a), (1, .int m9), (2, .int (nI pi9))]) hx hb dX3_isSoundAbove_146 hl (by decide) rfl (fun ls hl => ?_)
              refine lv_iinc (v := nI (b9 + 1)) (lv' := [(4, .int (nI (b9 + 1))), (5, .int (nI (f9 + ((thK m9 (6 - r) v9 L).length)))), (7, .int lp9), (6, .int (nI v9)), (3, .int (nI p9)), (0, .ref a), (1, .int m9), (2, .int (nI pi9))]) hx hb dX3_isSoundAbove_148 hl (k := 3) rfl (nI_1 b9) (by decide) rfl (fun ls hl => ?_)
              refine lv_iinc (v := nI (v9 + 1)) (lv' := [(6, .int (nI (v9 + 1))), (4, .int (nI (b9 + 1))), (5, .int (nI (f9 + ((thK m9 (6 - r) v9 L).length)))), (7, .int lp9), (3, .int (nI p9)), (0, .ref a), (1, .int m9), (2, .int (nI pi9))]) hx hb dX3_isSoundAbove_151 hl (k := 3) rfl (nI_1 v9) (by decide) rfl (fun ls hl => ?_)
              refine lv_goto (tgt := 15) hx hb dX3_isSoundAbove_154 (by decide) ?_
              exact ihl H locs ls (v9 + 1) _ _ _ (by omega) (lv_sub hl [0, 2, 1, 4, 5, 6, 7] rfl) (by omega) (by rw [thFd_s, hf9, if_pos hMv]) (by rw [tqC_t hMv, hb9]) (by rw [tqC_f hSv, hp9]) hP hS
            · replace c128 : 1 = 0 := (nI_eq (a := 1) (b := 0) (by omega) (by omega)).mp c128
              exfalso; omega
      · have hSv : thS m9 (6 - r) L v9 = true := by
          cases z : thS m9 (6 - r) L v9 with
          | true => rfl
          | false => exact absurd ((tqB_sh (by omega)).mpr z) c44
        obtain ⟨⟨kq, xq⟩, hbq, hfq⟩ := thS_one hSv
        have hatq := trK_at (r := r) (show v9 < 32 by omega) hfq
        have hltq := (List.getElem?_eq_some_iff.mp hatq).1
        rw [← hp9] at hatq hltq
        have hinq : (kq, xq) ∈ thK m9 (6 - r) v9 L := by rw [hbq]; exact List.mem_singleton.mpr rfl
        have elq : lp9 = nI (thH m9 kq % 32 ^ (7 - (r + 1) + 1)) := by rw [elp9]; exact lp_of (m := m9) (d := 7 - (r + 1)) (v := v9) (pi := pi9) (k := kq) (by omega) (hpi (kq, xq) (thK_mem.mp hinq).1) (by rw [show 7 - (r + 1) = 6 - r by omega]; exact (thK_mem.mp hinq).2)
        refine lv_iload_n hx hb dX3_isSoundAbove_47 rfl (lv_at hl 4 rfl) ?_
        refine lv_aload_n hx hb dX3_isSoundAbove_48 rfl (lv_at hl 5 rfl) ?_
        refine q_get C hP f1 rfl inX3 5 (by decide) g366 rfl dX3_isSoundAbove_49 ?_
        refine q_alen C hP fk1 rfl dX3_isSoundAbove_52 ?_
        refine lv_icmp_ge (tgt := 72) hx hb dX3_isSoundAbove_53 (by decide) (fun c53 => ?_) (fun c53 => ?_)
        · replace c53 : ((trK m9 (r + 1) L).length) ≤ p9 := (nI_leI (a := (trK m9 (r + 1) L).length) (b := p9) (by omega) (by omega)).mp c53
          exfalso; omega
        · replace c53 : ¬ ((trK m9 (r + 1) L).length) ≤ p9 := fun zq => c53 ((nI_leI (a := (trK m9 (r + 1) L).length) (b := p9) (by omega) (by omega)).mpr zq)
          refine lv_aload_n hx hb dX3_isSoundAbove_56 rfl (lv_at hl 5 rfl) ?_
          refine lv_aload_n hx hb dX3_isSoundAbove_57 rfl (lv_at hl 5 rfl) ?_
          refine q_get C hP f1 rfl inX3 5 (by decide) g366 rfl dX3_isSoundAbove_58 ?_
          refine lv_iload_n hx hb dX3_isSoundAbove_61 rfl (lv_at hl 4 rfl) ?_
          refine q_laldN C hP fk1 (by omega) (by omega) dX3_isSoundAbove_62 ?_
          rw [th_key hatq]
          refine lv_iload_n hx hb dX3_isSoundAbove_63 rfl (lv_at hl 6 rfl) ?_
          refine lv_iload hx hb dX3_isSoundAbove_64 (lv_at hl 0 rfl) ?_
          rw [elq]
          refine q_callV (rest := []) C (c_X3_isOnPath l D cy N0 h a (7 - (r + 1)) m9 kq _ f1 (by omega)) kX3_isOnPath g1115 g1117 rfl gp40 g12 hP hS f1 (by first | decide | omega) hl.1 rfl (by decide) (by first | decide | omega) dX3_isSoundAbove_66 (fun q ce E h' H1 locs1 hE => hE.elim) (fun v hh2 H locs hq hP hS => ?_)
          obtain ⟨rfl, rfl⟩ := hq
          refine lv_if_ne (tgt := 74) hx hb dX3_isSoundAbove_69 (by decide) (fun c69 => ?_) (fun c69 => ?_)
          · replace c69 : ¬ 1 = 0 := fun zq => c69 ((nI_eq (a := 1) (b := 0) (by omega) (by omega)).mpr zq)
            refine lv_iinc (v := nI (p9 + 1)) (lv' := [(3, .int (nI (p9 + 1))), (7, .int lp9), (6, .int (nI v9)), (5, .int (nI f9)), (4, .int (nI b9)), (0, .ref a), (1, .int m9), (2, .int (nI pi9))]) hx hb dX3_isSoundAbove_74 hl (k := 4) rfl (nI_1 p9) (by decide) rfl (fun ls hl => ?_)
            refine lv_aload_n hx hb dX3_isSoundAbove_77 rfl (lv_at hl 5 rfl) ?_
            refine q_get C hP f1 rfl inX3 3 (by decide) g364 rfl dX3_isSoundAbove_78 ?_
            refine lv_iload hx hb dX3_isSoundAbove_81 (lv_at hl 2 rfl) ?_
            refine lv_iushr hx hb dX3_isSoundAbove_83 rfl ?_
            refine lv_iconst (v := nI 1) hx hb dX3_isSoundAbove_84 (by decide) ?_
            refine lv_iand hx hb dX3_isSoundAbove_85 ?_
            refine lv_if_eq (tgt := 151) hx hb dX3_isSoundAbove_86 (by decide) (fun c86 => ?_) (fun c86 => ?_)
            · have hMv : thM m9 (6 - r) L v9 = false := (tqB_sh (by omega)).mp c86
              refine lv_iinc (v := nI (v9 + 1)) (lv' := [(6, .int (nI (v9 + 1))), (3, .int (nI (p9 + 1))), (7, .int lp9), (5, .int (nI f9)), (4, .int (nI b9)), (0, .ref a), (1, .int m9), (2, .int (nI pi9))]) hx hb dX3_isSoundAbove_151 hl (k := 2) rfl (nI_1 v9) (by decide) rfl (fun ls hl => ?_)
              refine lv_goto (tgt := 15) hx hb dX3_isSoundAbove_154 (by decide) ?_
              exact ihl H locs ls (v9 + 1) _ _ _ (by omega) (lv_sub hl [0, 3, 4, 1, 5, 6, 7] rfl) (by omega) (by rw [thFd_s, hf9, if_neg (by rw [hMv]; decide), Nat.add_zero]) (by rw [tqC_f hMv, hb9]) (by rw [tqC_t hSv, hp9]) hP hS
            · have hMv : thM m9 (6 - r) L v9 = true := by
                cases z : thM m9 (6 - r) L v9 with
                | true => rfl
                | false => exact absurd ((tqB_sh (by omega)).mpr z) c86
              have hatm := trM_at (r := r) (show v9 < 32 by omega) hMv
              have hltm := (List.getElem?_eq_some_iff.mp hatm).1
              rw [← hb9] at hatm hltm
              obtain ⟨r8, er8, t8⟩ := hk1 _ _ hatm
              cases er8
              obtain ⟨owc, kac, vac, nac, Cc, Xsc, hnc, -, -⟩ := t8.inv
              have fc := hnc.1
              unfold thNo at fc
              have h2m : 2 ≤ (thK m9 (6 - r) v9 L).length := by unfold thM at hMv; exact of_decide_eq_true hMv
              have hbl2 := thK_len (m := m9) (d := 6 - r) (v := v9) (L := L)
              refine lv_iload hx hb dX3_isSoundAbove_89 (lv_at hl 4 rfl) ?_
              refine lv_aload_n hx hb dX3_isSoundAbove_91 rfl (lv_at hl 5 rfl) ?_
              refine q_get C hP f1 rfl inX3 7 (by decide) g369 rfl dX3_isSoundAbove_92 ?_
              refine q_alen C hP fn1 rfl dX3_isSoundAbove_95 ?_
              refine lv_icmp_ge (tgt := 131) hx hb dX3_isSoundAbove_96 (by decide) (fun c96 => ?_) (fun c96 => ?_)
              · replace c96 : ((trM m9 (r + 1) L).length) ≤ b9 := (nI_leI (a := (trM m9 (r + 1) L).length) (b := b9) (by omega) (by omega)).mp c96
                exfalso; omega
              · replace c96 : ¬ ((trM m9 (r + 1) L).length) ≤ b9 := fun zq => c96 ((nI_leI (a := (trM m9 (r + 1) L).length) (b := b9) (by omega) (by omega)).mpr zq)
                refine lv_aload_n hx hb dX3_isSoundAbove_99 rfl (lv_at hl 5 rfl) ?_
                refine q_get C hP f1 rfl inX3 7 (by decide) g369 rfl dX3_isSoundAbove_100 ?_
                refine lv_iload hx hb dX3_isSoundAbove_103 (lv_at hl 4 rfl) ?_
                refine q_aaldR C hP fn1 rfl (by omega) (by omega) rfl dX3_isSoundAbove_105 ?_
                refine lv_ifnull hx hb dX3_isSoundAbove_106 ?_
                refine lv_aload_n hx hb dX3_isSoundAbove_109 rfl (lv_at hl 5 rfl) ?_
                refine q_get C hP f1 rfl inX3 7 (by decide) g369 rfl dX3_isSoundAbove_110 ?_
                refine lv_iload hx hb dX3_isSoundAbove_113 (lv_at hl 4 rfl) ?_
                refine q_aaldR C hP fn1 rfl (by omega) (by omega) rfl dX3_isSoundAbove_115 ?_
                refine lv_aload_n hx hb dX3_isSoundAbove_116 rfl (lv_at hl 5 rfl) ?_
                refine q_get C hP f1 rfl inX3 0 (by decide) g361 rfl dX3_isSoundAbove_117 ?_
                refine lv_iconst (v := nI 1) hx hb dX3_isSoundAbove_120 (by decide) ?_
                refine q_iaddN hx hb dX3_isSoundAbove_121 ?_
                refine lv_iload_n hx hb dX3_isSoundAbove_122 rfl (lv_at hl 6 rfl) ?_
                refine lv_iload hx hb dX3_isSoundAbove_123 (lv_at hl 1 rfl) ?_
                obtain ⟨p7, hp7⟩ : ∃ p, p ∈ thK m9 (6 - r) v9 L := by cases hc : thK m9 (6 - r) v9 L with | nil => (rw [hc] at h2m; simp at h2m) | cons p t => exact ⟨p, List.mem_cons_self⟩
                have elm : lp9 = nI (thH m9 p7.1 % 32 ^ (7 - (r + 1) + 1)) := by rw [elp9]; exact lp_of (m := m9) (d := 7 - (r + 1)) (v := v9) (pi := pi9) (k := p7.1) (by omega) (hpi p7 (thK_mem.mp hp7).1) (by rw [show 7 - (r + 1) = 6 - r by omega]; exact (thK_mem.mp hp7).2)
                rw [elm]
                have hall : ∀ p ∈ thK m9 (6 - r) v9 L, thH m9 p.1 % 32 ^ (7 - (r + 1) + 1) = thH m9 p7.1 % 32 ^ (7 - (r + 1) + 1) := fun p hp => by
                  have z1 := thH_path (x := thH m9 p.1) (d := 7 - (r + 1))
                  have z2 := thH_path (x := thH m9 p7.1) (d := 7 - (r + 1))
                  have y1 := (thK_mem.mp hp).2
                  have y2 := (thK_mem.mp hp7).2
                  unfold thN at y1 y2
                  rw [show 6 - r = 7 - (r + 1) by omega] at y1 y2
                  rw [hpi _ (thK_mem.mp hp).1, y1] at z1
                  rw [hpi _ (thK_mem.mp hp7).1, y2] at z2
                  exact z1.symm.trans z2
                refine q_callS (rest := []) C (ih h (C1 b9) (thK m9 (6 - r) v9 L) (Xs1 b9) (7 - (r + 1) + 1) (thH m9 p7.1 % 32 ^ (7 - (r + 1) + 1)) t8 (by omega) (by omega) (qNo_k hno) hall ⟨by omega, fun _ => h2m⟩ (fun k => Nat.le_trans (List.Sublist.length_le (List.Sublist.filter _ List.filter_sublist)) (hal k))) kX3_isSound g1119 g1105 hP hS (by first | decide | omega) hl.1 rfl (by decide) (by first | decide | omega) dX3_isSoundAbove_125 (fun q ce E h' H1 locs1 hE => hE.elim) (fun v hh3 H locs hq hP hS => ?_)
                obtain ⟨rfl, rfl⟩ := hq
                refine lv_if_ne (tgt := 133) hx hb dX3_isSoundAbove_128 (by decide) (fun c128 => ?_) (fun c128 => ?_)
                · replace c128 : ¬ 1 = 0 := fun zq => c128 ((nI_eq (a := 1) (b := 0) (by omega) (by omega)).mpr zq)
                  refine lv_iload hx hb dX3_isSoundAbove_133 (lv_at hl 3 rfl) ?_
                  refine lv_aload_n hx hb dX3_isSoundAbove_135 rfl (lv_at hl 5 rfl) ?_
                  refine q_get C hP f1 rfl inX3 7 (by decide) g369 rfl dX3_isSoundAbove_136 ?_
                  refine lv_iload hx hb dX3_isSoundAbove_139 (lv_at hl 4 rfl) ?_
                  refine q_aaldR C hP fn1 rfl (by omega) (by omega) rfl dX3_isSoundAbove_141 ?_
                  refine q_get C hP fc rfl inX3 4 (by decide) g365 rfl dX3_isSoundAbove_142 ?_
                  refine q_iaddN hx hb dX3_isSoundAbove_145 ?_
                  refine lv_istore (lv' := [(5, .int (nI (f9 + ((thK m9 (6 - r) v9 L).length)))), (3, .int (nI (p9 + 1))), (7, .int lp9), (6, .int (nI v9)), (4, .int (nI b9)), (0, .ref a), (1, .int m9), (2, .int (nI pi9))]) hx hb dX3_isSoundAbove_146 hl (by decide) rfl (fun ls hl => ?_)
                  refine lv_iinc (v := nI (b9 + 1)) (lv' := [(4, .int (nI (b9 + 1))), (5, .int (nI (f9 + ((thK m9 (6 - r) v9 L).length)))), (3, .int (nI (p9 + 1))), (7, .int lp9), (6, .int (nI v9)), (0, .ref a), (1, .int m9), (2, .int (nI pi9))]) hx hb dX3_isSoundAbove_148 hl (k := 4) rfl (nI_1 b9) (by decide) rfl (fun ls hl => ?_)
                  refine lv_iinc (v := nI (v9 + 1)) (lv' := [(6, .int (nI (v9 + 1))), (4, .int (nI (b9 + 1))), (5, .int (nI (f9 + ((thK m9 (6 - r) v9 L).length)))), (3, .int (nI (p9 + 1))), (7, .int lp9), (0, .ref a), (1, .int m9), (2, .int (nI pi9))]) hx hb dX3_isSoundAbove_151 hl (k := 4) rfl (nI_1 v9) (by decide) rfl (fun ls hl => ?_)
                  refine lv_goto (tgt := 15) hx hb dX3_isSoundAbove_154 (by decide) ?_
                  exact ihl H locs ls (v9 + 1) _ _ _ (by omega) (lv_sub hl [0, 2, 1, 3, 5, 6, 7] rfl) (by omega) (by rw [thFd_s, hf9, if_pos hMv]) (by rw [tqC_t hMv, hb9]) (by rw [tqC_t hSv, hp9]) hP hS
                · replace c128 : 1 = 0 := (nI_eq (a := 1) (b := 0) (by omega) (by omega)).mp c128
                  exfalso; omega
          · replace c69 : 1 = 0 := (nI_eq (a := 1) (b := 0) (by omega) (by omega)).mp c69
            exfalso; omega
theorem dX3_isSound_0 : decode cX3_isSound 0 = .ok (.aload_n 0, 1) := by decide +kernel
theorem dX3_isSound_1 : decode cX3_isSound 1 = .ok (.ifnonnull 5, 3) := by decide +kernel
theorem dX3_isSound_6 : decode cX3_isSound 6 = .ok (.aload_n 0, 1) := by decide +kernel
theorem dX3_isSound_7 : decode cX3_isSound 7 = .ok (.getfield 21, 3) := by decide +kernel
theorem dX3_isSound_10 : decode cX3_isSound 10 = .ok (.iload_n 1, 1) := by decide +kernel
theorem dX3_isSound_11 : decode cX3_isSound 11 = .ok (.if_icmp .ne 44, 3) := by decide +kernel
theorem dX3_isSound_14 : decode cX3_isSound 14 = .ok (.aload_n 0, 1) := by decide +kernel
theorem dX3_isSound_15 : decode cX3_isSound 15 = .ok (.getfield 32, 3) := by decide +kernel
theorem dX3_isSound_18 : decode cX3_isSound 18 = .ok (.iload_n 1, 1) := by decide +kernel
theorem dX3_isSound_19 : decode cX3_isSound 19 = .ok (.ifCond .ne 7, 3) := by decide +kernel
theorem dX3_isSound_22 : decode cX3_isSound 22 = .ok (.iconst 1, 1) := by decide +kernel
theorem dX3_isSound_23 : decode cX3_isSound 23 = .ok (.goto 4, 3) := by decide +kernel
theorem dX3_isSound_26 : decode cX3_isSound 26 = .ok (.iconst 2, 1) := by decide +kernel
theorem dX3_isSound_27 : decode cX3_isSound 27 = .ok (.if_icmp .lt 28, 3) := by decide +kernel
theorem dX3_isSound_30 : decode cX3_isSound 30 = .ok (.aload_n 0, 1) := by decide +kernel
theorem dX3_isSound_31 : decode cX3_isSound 31 = .ok (.getfield 15, 3) := by decide +kernel
theorem dX3_isSound_34 : decode cX3_isSound 34 = .ok (.arraylength, 1) := by decide +kernel
theorem dX3_isSound_35 : decode cX3_isSound 35 = .ok (.aload_n 0, 1) := by decide +kernel
theorem dX3_isSound_36 : decode cX3_isSound 36 = .ok (.getfield 18, 3) := by decide +kernel
theorem dX3_isSound_39 : decode cX3_isSound 39 = .ok (.arraylength, 1) := by decide +kernel
theorem dX3_isSound_40 : decode cX3_isSound 40 = .ok (.if_icmp .ne 15, 3) := by decide +kernel
theorem dX3_isSound_43 : decode cX3_isSound 43 = .ok (.aload_n 0, 1) := by decide +kernel
theorem dX3_isSound_44 : decode cX3_isSound 44 = .ok (.getfield 55, 3) := by decide +kernel
theorem dX3_isSound_47 : decode cX3_isSound 47 = .ok (.aload_n 0, 1) := by decide +kernel
theorem dX3_isSound_48 : decode cX3_isSound 48 = .ok (.getfield 45, 3) := by decide +kernel
theorem dX3_isSound_51 : decode cX3_isSound 51 = .ok (.iand, 1) := by decide +kernel
theorem dX3_isSound_52 : decode cX3_isSound 52 = .ok (.ifCond .eq 5, 3) := by decide +kernel
theorem dX3_isSound_57 : decode cX3_isSound 57 = .ok (.iload_n 1, 1) := by decide +kernel
theorem dX3_isSound_58 : decode cX3_isSound 58 = .ok (.bipush 7, 2) := by decide +kernel
theorem dX3_isSound_60 : decode cX3_isSound 60 = .ok (.if_icmp .ne 12, 3) := by decide +kernel
theorem dX3_isSound_63 : decode cX3_isSound 63 = .ok (.aload_n 0, 1) := by decide +kernel
theorem dX3_isSound_64 : decode cX3_isSound 64 = .ok (.iload_n 2, 1) := by decide +kernel
theorem dX3_isSound_65 : decode cX3_isSound 65 = .ok (.iload_n 3, 1) := by decide +kernel
theorem dX3_isSound_66 : decode cX3_isSound 66 = .ok (.invokevirtual 165, 3) := by decide +kernel
theorem dX3_isSound_69 : decode cX3_isSound 69 = .ok (.goto 9, 3) := by decide +kernel
theorem dX3_isSound_72 : decode cX3_isSound 72 = .ok (.aload_n 0, 1) := by decide +kernel
theorem dX3_isSound_73 : decode cX3_isSound 73 = .ok (.iload_n 2, 1) := by decide +kernel
theorem dX3_isSound_74 : decode cX3_isSound 74 = .ok (.iload_n 3, 1) := by decide +kernel
theorem dX3_isSound_75 : decode cX3_isSound 75 = .ok (.invokevirtual 169, 3) := by decide +kernel
theorem dX3_isSound_78 : decode cX3_isSound 78 = .ok (.ireturn, 1) := by decide +kernel
set_option maxRecDepth 100000 in
set_option maxHeartbeats 4000000 in
theorem c_X3_isSound_open (l : Launch) (D : va_G) (cy : Nat → ClassId) (N0 : Nat) (h : qH) (Im : Nat → Prop) (e9 : Nat) (Ok : Nat → Prop) (m9 : Int32) (r a : Nat) (L : qKV) (X : Nat → Prop) (d pi9 : Nat) (hT : qTr cy h Im e9 Ok m9 r a L X) (hdr : d + r = 7) (hL : L.length < 1000000) (hno : qNo L) (hpi : ∀ p ∈ L, thH m9 p.1 % 32 ^ d = pi9) (hmin : 1 ≤ L.length ∧ (r < 7 → 2 ≤ L.length)) (hal : ∀ k, (L.filter (fun p => decide (thH m9 p.1 = thH m9 k))).length ≤ 16) (ih : ∀ r', r = r' + 1 → qSndC l D cy N0 Im e9 Ok m9 r') : qC l D cy N0 yX3_isSound cX3_isSound 4 (some .boolean) (3 + 2 * r) (100 + 80 * r) 0 0 [.ref a, .int (nI d), .int m9, .int (nI pi9)] h (fun v h' => v = some (.int (nI 1)) ∧ h = h') (fun E h' => False) := by
  refine q_ofW (by decide) (by exact Nat.le_of_ble_eq_true rfl) ?_
  intro p e s m below meth c ls C hP hl
  have hx := C.1
  have hb := C.2.1
  have hS : va_S (qA N0) s.heap s.heap [] := va_S.rf
  have hl : lv_has ls 4 [(0, .ref a), (1, .int (nI d)), (2, .int m9), (3, .int (nI pi9))] := hl
  obtain ⟨ow1, ka1, va1, na1, C1, Xs1, hn1, hx1, hk1⟩ := hT.inv
  have f1 := hn1.1
  have fk1 := hn1.2.1
  have fv1 := hn1.2.2.1
  have fn1 := hn1.2.2.2.1
  unfold thNo at f1
  unfold thJ at fk1 fv1
  unfold thA at fn1
  rw [List.length_map] at fk1 fv1
  have hkl := trK_len (m := m9) (r := r) (L := L)
  cases r with
  | zero =>
    refine lv_aload_n hx hb dX3_isSound_0 rfl (lv_at hl 0 rfl) ?_
    refine lv_ifnonnull (tgt := 6) hx hb dX3_isSound_1 (by decide) ?_
    refine lv_aload_n hx hb dX3_isSound_6 rfl (lv_at hl 0 rfl) ?_
    refine q_get C hP f1 rfl inX3 0 (by decide) g361 rfl dX3_isSound_7 ?_
    refine lv_iload_n hx hb dX3_isSound_10 rfl (lv_at hl 1 rfl) ?_
    refine lv_icmp_ne (tgt := 55) hx hb dX3_isSound_11 (by decide) (fun c11 => ?_) (fun c11 => ?_)
    · replace c11 : ¬ (7 - 0) = d := fun zq => c11 ((nI_eq (a := (7 - 0)) (b := d) (by omega) (by omega)).mpr zq)
      exfalso; omega
    · replace c11 : (7 - 0) = d := (nI_eq (a := (7 - 0)) (b := d) (by omega) (by omega)).mp c11
      refine lv_aload_n hx hb dX3_isSound_14 rfl (lv_at hl 0 rfl) ?_
      refine q_get C hP f1 rfl inX3 4 (by decide) g365 rfl dX3_isSound_15 ?_
      refine lv_iload_n hx hb dX3_isSound_18 rfl (lv_at hl 1 rfl) ?_
      refine lv_if_ne (tgt := 26) hx hb dX3_isSound_19 (by decide) (fun c19 => ?_) (fun c19 => ?_)
      · replace c19 : ¬ d = 0 := fun zq => c19 ((nI_eq (a := d) (b := 0) (by omega) (by omega)).mpr zq)
        refine lv_iconst (v := nI 2) hx hb dX3_isSound_26 (by decide) ?_
        refine lv_icmp_lt (tgt := 55) hx hb dX3_isSound_27 (by decide) (fun c27 => ?_) (fun c27 => ?_)
        · replace c27 : (L.length) < 2 := (nI_ltI (a := L.length) (b := 2) (by omega) (by omega)).mp c27
          exfalso; omega
        · replace c27 : ¬ (L.length) < 2 := fun zq => c27 ((nI_ltI (a := L.length) (b := 2) (by omega) (by omega)).mpr zq)
          refine lv_aload_n hx hb dX3_isSound_30 rfl (lv_at hl 0 rfl) ?_
          refine q_get C hP f1 rfl inX3 5 (by decide) g366 rfl dX3_isSound_31 ?_
          refine q_alen C hP fk1 rfl dX3_isSound_34 ?_
          refine lv_aload_n hx hb dX3_isSound_35 rfl (lv_at hl 0 rfl) ?_
          refine q_get C hP f1 rfl inX3 6 (by decide) g367 rfl dX3_isSound_36 ?_
          refine q_alen C hP fv1 rfl dX3_isSound_39 ?_
          refine lv_icmp_ne (tgt := 55) hx hb dX3_isSound_40 (by decide) (fun c40 => ?_) (fun c40 => ?_)
          · replace c40 : ¬ ((trK m9 0 L).length) = ((trK m9 0 L).length) := fun zq => c40 ((nI_eq (a := (trK m9 0 L).length) (b := (trK m9 0 L).length) (by omega) (by omega)).mpr zq)
            exfalso; omega
          · replace c40 : ((trK m9 0 L).length) = ((trK m9 0 L).length) := (nI_eq (a := (trK m9 0 L).length) (b := (trK m9 0 L).length) (by omega) (by omega)).mp c40
            refine lv_aload_n hx hb dX3_isSound_43 rfl (lv_at hl 0 rfl) ?_
            refine q_get C hP f1 rfl inX3 2 (by decide) g363 rfl dX3_isSound_44 ?_
            refine lv_aload_n hx hb dX3_isSound_47 rfl (lv_at hl 0 rfl) ?_
            refine q_get C hP f1 rfl inX3 3 (by decide) g364 rfl dX3_isSound_48 ?_
            refine lv_iand hx hb dX3_isSound_51 ?_
            rw [trKN]
            refine lv_if_eq (tgt := 57) hx hb dX3_isSound_52 (by decide) (fun _ => ?_) (fun c => absurd rfl c)
            refine lv_iload_n hx hb dX3_isSound_57 rfl (lv_at hl 1 rfl) ?_
            refine lv_bipush (v := nI 7) hx hb dX3_isSound_58 (by decide) ?_
            refine lv_icmp_ne (tgt := 72) hx hb dX3_isSound_60 (by decide) (fun c60 => ?_) (fun c60 => ?_)
            · replace c60 : ¬ d = 7 := fun zq => c60 ((nI_eq (a := d) (b := 7) (by omega) (by omega)).mpr zq)
              exfalso; omega
            · replace c60 : d = 7 := (nI_eq (a := d) (b := 7) (by omega) (by omega)).mp c60
              refine lv_aload_n hx hb dX3_isSound_63 rfl (lv_at hl 0 rfl) ?_
              refine lv_iload_n hx hb dX3_isSound_64 rfl (lv_at hl 2 rfl) ?_
              refine lv_iload_n hx hb dX3_isSound_65 rfl (lv_at hl 3 rfl) ?_
              have hp0 : ∀ p ∈ L, thH m9 p.1 = pi9 := fun p hp => by have := hpi p hp; rw [Nat.mod_eq_of_lt (Nat.lt_of_lt_of_le thH_lt (show 2 ^ 32 ≤ 32 ^ d by rw [show d = 7 by omega]; decide))] at this; exact this
              have h16 : L.length ≤ 16 := by
                obtain ⟨p7, hp7⟩ : ∃ p, p ∈ L := by cases hc : L with | nil => (rw [hc] at hmin; simp at hmin) | cons p t => exact ⟨p, List.mem_cons_self⟩
                have := hal p7.1
                rw [List.filter_eq_self.mpr (fun p hp => decide_eq_true (by rw [hp0 p hp, hp0 p7 hp7]))] at this
                exact this
              refine q_callV (rest := []) C (c_X3_isSoundBottom l D cy N0 h Im e9 Ok m9 a L X ow1 ka1 va1 na1 C1 pi9 hn1 hno hp0 h16) kX3_isSoundBottom g1107 g1109 rfl gp38 g12 hP hS f1 (by first | decide | omega) hl.1 rfl (by decide) (by first | decide | omega) dX3_isSound_66 (fun q ce E h' H1 locs1 hE => hE.elim) (fun v hh1 H locs hq hP hS => ?_)
              obtain ⟨rfl, rfl⟩ := hq
              refine lv_goto (tgt := 78) hx hb dX3_isSound_69 (by decide) ?_
              exact q_zret C hP hS (Or.inr rfl) ⟨rfl, rfl⟩ (by omega) dX3_isSound_78
      · replace c19 : d = 0 := (nI_eq (a := d) (b := 0) (by omega) (by omega)).mp c19
        refine lv_iconst (v := nI 1) hx hb dX3_isSound_22 (by decide) ?_
        refine lv_goto (tgt := 27) hx hb dX3_isSound_23 (by decide) ?_
        refine lv_icmp_lt (tgt := 55) hx hb dX3_isSound_27 (by decide) (fun c27 => ?_) (fun c27 => ?_)
        · replace c27 : (L.length) < 1 := (nI_ltI (a := L.length) (b := 1) (by omega) (by omega)).mp c27
          exfalso; omega
        · replace c27 : ¬ (L.length) < 1 := fun zq => c27 ((nI_ltI (a := L.length) (b := 1) (by omega) (by omega)).mpr zq)
          refine lv_aload_n hx hb dX3_isSound_30 rfl (lv_at hl 0 rfl) ?_
          refine q_get C hP f1 rfl inX3 5 (by decide) g366 rfl dX3_isSound_31 ?_
          refine q_alen C hP fk1 rfl dX3_isSound_34 ?_
          refine lv_aload_n hx hb dX3_isSound_35 rfl (lv_at hl 0 rfl) ?_
          refine q_get C hP f1 rfl inX3 6 (by decide) g367 rfl dX3_isSound_36 ?_
          refine q_alen C hP fv1 rfl dX3_isSound_39 ?_
          refine lv_icmp_ne (tgt := 55) hx hb dX3_isSound_40 (by decide) (fun c40 => ?_) (fun c40 => ?_)
          · replace c40 : ¬ ((trK m9 0 L).length) = ((trK m9 0 L).length) := fun zq => c40 ((nI_eq (a := (trK m9 0 L).length) (b := (trK m9 0 L).length) (by omega) (by omega)).mpr zq)
            exfalso; omega
          · replace c40 : ((trK m9 0 L).length) = ((trK m9 0 L).length) := (nI_eq (a := (trK m9 0 L).length) (b := (trK m9 0 L).length) (by omega) (by omega)).mp c40
            refine lv_aload_n hx hb dX3_isSound_43 rfl (lv_at hl 0 rfl) ?_
            refine q_get C hP f1 rfl inX3 2 (by decide) g363 rfl dX3_isSound_44 ?_
            refine lv_aload_n hx hb dX3_isSound_47 rfl (lv_at hl 0 rfl) ?_
            refine q_get C hP f1 rfl inX3 3 (by decide) g364 rfl dX3_isSound_48 ?_
            refine lv_iand hx hb dX3_isSound_51 ?_
            rw [trKN]
            refine lv_if_eq (tgt := 57) hx hb dX3_isSound_52 (by decide) (fun _ => ?_) (fun c => absurd rfl c)
            refine lv_iload_n hx hb dX3_isSound_57 rfl (lv_at hl 1 rfl) ?_
            refine lv_bipush (v := nI 7) hx hb dX3_isSound_58 (by decide) ?_
            refine lv_icmp_ne (tgt := 72) hx hb dX3_isSound_60 (by decide) (fun c60 => ?_) (fun c60 => ?_)
            · replace c60 : ¬ d = 7 := fun zq => c60 ((nI_eq (a := d) (b := 7) (by omega) (by omega)).mpr zq)
              exfalso; omega
            · replace c60 : d = 7 := (nI_eq (a := d) (b := 7) (by omega) (by omega)).mp c60
              refine lv_aload_n hx hb dX3_isSound_63 rfl (lv_at hl 0 rfl) ?_
              refine lv_iload_n hx hb dX3_isSound_64 rfl (lv_at hl 2 rfl) ?_
              refine lv_iload_n hx hb dX3_isSound_65 rfl (lv_at hl 3 rfl) ?_
              have hp0 : ∀ p ∈ L, thH m9 p.1 = pi9 := fun p hp => by have := hpi p hp; rw [Nat.mod_eq_of_lt (Nat.lt_of_lt_of_le thH_lt (show 2 ^ 32 ≤ 32 ^ d by rw [show d = 7 by omega]; decide))] at this; exact this
              have h16 : L.length ≤ 16 := by
                obtain ⟨p7, hp7⟩ : ∃ p, p ∈ L := by cases hc : L with | nil => (rw [hc] at hmin; simp at hmin) | cons p t => exact ⟨p, List.mem_cons_self⟩
                have := hal p7.1
                rw [List.filter_eq_self.mpr (fun p hp => decide_eq_true (by rw [hp0 p hp, hp0 p7 hp7]))] at this
                exact this
              refine q_callV (rest := []) C (c_X3_isSoundBottom l D cy N0 h Im e9 Ok m9 a L X ow1 ka1 va1 na1 C1 pi9 hn1 hno hp0 h16) kX3_isSoundBottom g1107 g1109 rfl gp38 g12 hP hS f1 (by first | decide | omega) hl.1 rfl (by decide) (by first | decide | omega) dX3_isSound_66 (fun q ce E h' H1 locs1 hE => hE.elim) (fun v hh2 H locs hq hP hS => ?_)
              obtain ⟨rfl, rfl⟩ := hq
              refine lv_goto (tgt := 78) hx hb dX3_isSound_69 (by decide) ?_
              exact q_zret C hP hS (Or.inr rfl) ⟨rfl, rfl⟩ (by omega) dX3_isSound_78
  | succ r =>
    refine lv_aload_n hx hb dX3_isSound_0 rfl (lv_at hl 0 rfl) ?_
    refine lv_ifnonnull (tgt := 6) hx hb dX3_isSound_1 (by decide) ?_
    refine lv_aload_n hx hb dX3_isSound_6 rfl (lv_at hl 0 rfl) ?_
    refine q_get C hP f1 rfl inX3 0 (by decide) g361 rfl dX3_isSound_7 ?_
    refine lv_iload_n hx hb dX3_isSound_10 rfl (lv_at hl 1 rfl) ?_
    refine lv_icmp_ne (tgt := 55) hx hb dX3_isSound_11 (by decide) (fun c11 => ?_) (fun c11 => ?_)
    · replace c11 : ¬ (7 - (r + 1)) = d := fun zq => c11 ((nI_eq (a := (7 - (r + 1))) (b := d) (by omega) (by omega)).mpr zq)
      exfalso; omega
    · replace c11 : (7 - (r + 1)) = d := (nI_eq (a := (7 - (r + 1))) (b := d) (by omega) (by omega)).mp c11
      refine lv_aload_n hx hb dX3_isSound_14 rfl (lv_at hl 0 rfl) ?_
      refine q_get C hP f1 rfl inX3 4 (by decide) g365 rfl dX3_isSound_15 ?_
      refine lv_iload_n hx hb dX3_isSound_18 rfl (lv_at hl 1 rfl) ?_
      refine lv_if_ne (tgt := 26) hx hb dX3_isSound_19 (by decide) (fun c19 => ?_) (fun c19 => ?_)
      · replace c19 : ¬ d = 0 := fun zq => c19 ((nI_eq (a := d) (b := 0) (by omega) (by omega)).mpr zq)
        refine lv_iconst (v := nI 2) hx hb dX3_isSound_26 (by decide) ?_
        refine lv_icmp_lt (tgt := 55) hx hb dX3_isSound_27 (by decide) (fun c27 => ?_) (fun c27 => ?_)
        · replace c27 : (L.length) < 2 := (nI_ltI (a := L.length) (b := 2) (by omega) (by omega)).mp c27
          exfalso; omega
        · replace c27 : ¬ (L.length) < 2 := fun zq => c27 ((nI_ltI (a := L.length) (b := 2) (by omega) (by omega)).mpr zq)
          refine lv_aload_n hx hb dX3_isSound_30 rfl (lv_at hl 0 rfl) ?_
          refine q_get C hP f1 rfl inX3 5 (by decide) g366 rfl dX3_isSound_31 ?_
          refine q_alen C hP fk1 rfl dX3_isSound_34 ?_
          refine lv_aload_n hx hb dX3_isSound_35 rfl (lv_at hl 0 rfl) ?_
          refine q_get C hP f1 rfl inX3 6 (by decide) g367 rfl dX3_isSound_36 ?_
          refine q_alen C hP fv1 rfl dX3_isSound_39 ?_
          refine lv_icmp_ne (tgt := 55) hx hb dX3_isSound_40 (by decide) (fun c40 => ?_) (fun c40 => ?_)
          · replace c40 : ¬ ((trK m9 (r + 1) L).length) = ((trK m9 (r + 1) L).length) := fun zq => c40 ((nI_eq (a := (trK m9 (r + 1) L).length) (b := (trK m9 (r + 1) L).length) (by omega) (by omega)).mpr zq)
            exfalso; omega
          · replace c40 : ((trK m9 (r + 1) L).length) = ((trK m9 (r + 1) L).length) := (nI_eq (a := (trK m9 (r + 1) L).length) (b := (trK m9 (r + 1) L).length) (by omega) (by omega)).mp c40
            refine lv_aload_n hx hb dX3_isSound_43 rfl (lv_at hl 0 rfl) ?_
            refine q_get C hP f1 rfl inX3 2 (by decide) g363 rfl dX3_isSound_44 ?_
            refine lv_aload_n hx hb dX3_isSound_47 rfl (lv_at hl 0 rfl) ?_
            refine q_get C hP f1 rfl inX3 3 (by decide) g364 rfl dX3_isSound_48 ?_
            refine lv_iand hx hb dX3_isSound_51 ?_
            rw [trKN]
            refine lv_if_eq (tgt := 57) hx hb dX3_isSound_52 (by decide) (fun _ => ?_) (fun c => absurd rfl c)
            refine lv_iload_n hx hb dX3_isSound_57 rfl (lv_at hl 1 rfl) ?_
            refine lv_bipush (v := nI 7) hx hb dX3_isSound_58 (by decide) ?_
            refine lv_icmp_ne (tgt := 72) hx hb dX3_isSound_60 (by decide) (fun c60 => ?_) (fun c60 => ?_)
            · replace c60 : ¬ d = 7 := fun zq => c60 ((nI_eq (a := d) (b := 7) (by omega) (by omega)).mpr zq)
              refine lv_aload_n hx hb dX3_isSound_72 rfl (lv_at hl 0 rfl) ?_
              refine lv_iload_n hx hb dX3_isSound_73 rfl (lv_at hl 2 rfl) ?_
              refine lv_iload_n hx hb dX3_isSound_74 rfl (lv_at hl 3 rfl) ?_
              refine q_callV (rest := []) C (c_X3_isSoundAbove l D cy N0 h Im e9 Ok m9 r a L X pi9 hT (by omega) hL hno (by rw [show 7 - (r + 1) = d by omega]; exact hpi) hal (ih r rfl)) kX3_isSoundAbove g1111 g1113 rfl gp39 g12 hP hS f1 (by first | decide | omega) hl.1 rfl (by decide) (by first | decide | omega) dX3_isSound_75 (fun q ce E h' H1 locs1 hE => hE.elim) (fun v hh3 H locs hq hP hS => ?_)
              obtain ⟨rfl, rfl⟩ := hq
              exact q_zret C hP hS (Or.inr rfl) ⟨rfl, rfl⟩ (by omega) dX3_isSound_78
            · replace c60 : d = 7 := (nI_eq (a := d) (b := 7) (by omega) (by omega)).mp c60
              exfalso; omega
      · replace c19 : d = 0 := (nI_eq (a := d) (b := 0) (by omega) (by omega)).mp c19
        refine lv_iconst (v := nI 1) hx hb dX3_isSound_22 (by decide) ?_
        refine lv_goto (tgt := 27) hx hb dX3_isSound_23 (by decide) ?_
        refine lv_icmp_lt (tgt := 55) hx hb dX3_isSound_27 (by decide) (fun c27 => ?_) (fun c27 => ?_)
        · replace c27 : (L.length) < 1 := (nI_ltI (a := L.length) (b := 1) (by omega) (by omega)).mp c27
          exfalso; omega
        · replace c27 : ¬ (L.length) < 1 := fun zq => c27 ((nI_ltI (a := L.length) (b := 1) (by omega) (by omega)).mpr zq)
          refine lv_aload_n hx hb dX3_isSound_30 rfl (lv_at hl 0 rfl) ?_
          refine q_get C hP f1 rfl inX3 5 (by decide) g366 rfl dX3_isSound_31 ?_
          refine q_alen C hP fk1 rfl dX3_isSound_34 ?_
          refine lv_aload_n hx hb dX3_isSound_35 rfl (lv_at hl 0 rfl) ?_
          refine q_get C hP f1 rfl inX3 6 (by decide) g367 rfl dX3_isSound_36 ?_
          refine q_alen C hP fv1 rfl dX3_isSound_39 ?_
          refine lv_icmp_ne (tgt := 55) hx hb dX3_isSound_40 (by decide) (fun c40 => ?_) (fun c40 => ?_)
          · replace c40 : ¬ ((trK m9 (r + 1) L).length) = ((trK m9 (r + 1) L).length) := fun zq => c40 ((nI_eq (a := (trK m9 (r + 1) L).length) (b := (trK m9 (r + 1) L).length) (by omega) (by omega)).mpr zq)
            exfalso; omega
          · replace c40 : ((trK m9 (r + 1) L).length) = ((trK m9 (r + 1) L).length) := (nI_eq (a := (trK m9 (r + 1) L).length) (b := (trK m9 (r + 1) L).length) (by omega) (by omega)).mp c40
            refine lv_aload_n hx hb dX3_isSound_43 rfl (lv_at hl 0 rfl) ?_
            refine q_get C hP f1 rfl inX3 2 (by decide) g363 rfl dX3_isSound_44 ?_
            refine lv_aload_n hx hb dX3_isSound_47 rfl (lv_at hl 0 rfl) ?_
            refine q_get C hP f1 rfl inX3 3 (by decide) g364 rfl dX3_isSound_48 ?_
            refine lv_iand hx hb dX3_isSound_51 ?_
            rw [trKN]
            refine lv_if_eq (tgt := 57) hx hb dX3_isSound_52 (by decide) (fun _ => ?_) (fun c => absurd rfl c)
            refine lv_iload_n hx hb dX3_isSound_57 rfl (lv_at hl 1 rfl) ?_
            refine lv_bipush (v := nI 7) hx hb dX3_isSound_58 (by decide) ?_
            refine lv_icmp_ne (tgt := 72) hx hb dX3_isSound_60 (by decide) (fun c60 => ?_) (fun c60 => ?_)
            · replace c60 : ¬ d = 7 := fun zq => c60 ((nI_eq (a := d) (b := 7) (by omega) (by omega)).mpr zq)
              refine lv_aload_n hx hb dX3_isSound_72 rfl (lv_at hl 0 rfl) ?_
              refine lv_iload_n hx hb dX3_isSound_73 rfl (lv_at hl 2 rfl) ?_
              refine lv_iload_n hx hb dX3_isSound_74 rfl (lv_at hl 3 rfl) ?_
              refine q_callV (rest := []) C (c_X3_isSoundAbove l D cy N0 h Im e9 Ok m9 r a L X pi9 hT (by omega) hL hno (by rw [show 7 - (r + 1) = d by omega]; exact hpi) hal (ih r rfl)) kX3_isSoundAbove g1111 g1113 rfl gp39 g12 hP hS f1 (by first | decide | omega) hl.1 rfl (by decide) (by first | decide | omega) dX3_isSound_75 (fun q ce E h' H1 locs1 hE => hE.elim) (fun v hh4 H locs hq hP hS => ?_)
              obtain ⟨rfl, rfl⟩ := hq
              exact q_zret C hP hS (Or.inr rfl) ⟨rfl, rfl⟩ (by omega) dX3_isSound_78
            · replace c60 : d = 7 := (nI_eq (a := d) (b := 7) (by omega) (by omega)).mp c60
              exfalso; omega
theorem c_X3_isSound (l : Launch) (D : va_G) (cy : Nat → ClassId) (N0 : Nat) (Im : Nat → Prop) (e9 : Nat) (Ok : Nat → Prop) (m9 : Int32) : ∀ r : Nat, qSndC l D cy N0 Im e9 Ok m9 r
  | 0 => fun h a L X d pi9 hT hdr hL hno hpi hmin hal => c_X3_isSound_open l D cy N0 h Im e9 Ok m9 0 a L X d pi9 hT hdr hL hno hpi hmin hal (fun r' e => by cases e)
  | r + 1 => fun h a L X d pi9 hT hdr hL hno hpi hmin hal => c_X3_isSound_open l D cy N0 h Im e9 Ok m9 (r + 1) a L X d pi9 hT hdr hL hno hpi hmin hal (fun r' e => by cases e; exact c_X3_isSound l D cy N0 Im e9 Ok m9 r)
theorem dX3_isSound_4 : decode cX3_isSound 4 = .ok (.iconst 1, 1) := by decide +kernel
theorem dX3_isSound_5 : decode cX3_isSound 5 = .ok (.ireturn, 1) := by decide +kernel
set_option maxRecDepth 100000 in
set_option maxHeartbeats 4000000 in
theorem c_X3_isSoundN (l : Launch) (D : va_G) (cy : Nat → ClassId) (N0 : Nat) (h : qH) (x1 x2 x3 : Int32) : qC l D cy N0 yX3_isSound cX3_isSound 4 (some .boolean) 0 0 0 0 [.null, .int x1, .int x2, .int x3] h (fun v h' => v = some (.int (nI 1)) ∧ h = h') (fun E h' => False) := by
  refine q_ofW (by decide) (by exact Nat.le_of_ble_eq_true rfl) ?_
  intro p e s m below meth c ls C hP hl
  have hx := C.1
  have hb := C.2.1
  have hS : va_S (qA N0) s.heap s.heap [] := va_S.rf
  have hl : lv_has ls 4 [(0, .null), (1, .int x1), (2, .int x2), (3, .int x3)] := hl
  refine lv_aload_nN hx hb dX3_isSound_0 rfl (lv_at hl 0 rfl) ?_
  refine lv_ifnonnullN hx hb dX3_isSound_1 ?_
  refine lv_iconst (v := nI 1) hx hb dX3_isSound_4 (by decide) ?_
  exact q_zret C hP hS (Or.inr rfl) ⟨rfl, rfl⟩ (by omega) dX3_isSound_5
