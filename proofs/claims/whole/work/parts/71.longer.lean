theorem q_nmul (a b : Nat) : nI a * nI b = nI (a * b) := (Int32.ofNat_mul a b).symm
section QROWSN3
variable {p : Program} {l : Launch} {e : Env} {R : Room} {s : State} {m : MethodId} {args : Array Value} {below : List Frame} {meth : Method} {c : Code} {H : Heap} {locs : List Loc} {cells slots : Nat} {Q : State → Prop}
variable {cc : ByteArray} {pc : Nat} {ls : Array Slot} {rest : List Value} {x y : Nat}
theorem q_imulN (hexec : p.tables.exec = Jvm.exec) (hb : c.code = cc) (hdg : decode cc pc = .ok (.imul, 1)) (k : W p l e R s m args below meth c H locs cells slots Q (F0 m (pc + 1) ls (.int (nI (x * y)) :: rest))) : W p l e R s m args below meth c H locs cells slots Q (F0 m pc ls (.int (nI y) :: .int (nI x) :: rest)) :=
  lv_imul hexec hb hdg (by rw [q_nmul]; exact k)
end QROWSN3
/-- the first i of f, then z -/
def qGr {α : Type} (f : Nat → α) (z : α) (i : Nat) : Nat → α := fun j => if j < i then f j else z
theorem qGr_0 {α : Type} {f : Nat → α} {z : α} : qGr f z 0 = fun _ => z := funext fun j => if_neg (by omega)
theorem qGr_i {f : Nat → Int32} {z : Int32} {i : Nat} : upd (qGr f z i) i (f i) = qGr f z (i + 1) := by
  funext j
  unfold upd qGr
  by_cases c : j = i
  · subst c; rw [if_pos rfl, if_pos (by omega)]
  · rw [if_neg c]
    by_cases c2 : j < i
    · rw [if_pos c2, if_pos (by omega)]
    · rw [if_neg c2, if_neg (by omega)]
theorem qGr_l {f : Nat → Int64} {z : Int64} {i : Nat} : vp_updL (qGr f z i) i (f i) = qGr f z (i + 1) := by
  funext j
  unfold vp_updL qGr
  by_cases c : j = i
  · subst c; rw [if_pos rfl, if_pos (by omega)]
  · rw [if_neg c]
    by_cases c2 : j < i
    · rw [if_pos c2, if_pos (by omega)]
    · rw [if_neg c2, if_neg (by omega)]
theorem dX8_longer_0 : decode cX8_longer 0 = .ok (.iconst 2, 1) := by decide +kernel
theorem dX8_longer_1 : decode cX8_longer 1 = .ok (.aload_n 0, 1) := by decide +kernel
theorem dX8_longer_2 : decode cX8_longer 2 = .ok (.arraylength, 1) := by decide +kernel
theorem dX8_longer_3 : decode cX8_longer 3 = .ok (.imul, 1) := by decide +kernel
theorem dX8_longer_4 : decode cX8_longer 4 = .ok (.newarray .int, 2) := by decide +kernel
theorem dX8_longer_6 : decode cX8_longer 6 = .ok (.astore_n 1, 1) := by decide +kernel
theorem dX8_longer_7 : decode cX8_longer 7 = .ok (.iconst 0, 1) := by decide +kernel
theorem dX8_longer_8 : decode cX8_longer 8 = .ok (.istore_n 2, 1) := by decide +kernel
theorem dX8_longer_9 : decode cX8_longer 9 = .ok (.iload_n 2, 1) := by decide +kernel
theorem dX8_longer_10 : decode cX8_longer 10 = .ok (.aload_n 0, 1) := by decide +kernel
theorem dX8_longer_11 : decode cX8_longer 11 = .ok (.arraylength, 1) := by decide +kernel
theorem dX8_longer_12 : decode cX8_longer 12 = .ok (.if_icmp .ge 15, 3) := by decide +kernel
theorem dX8_longer_15 : decode cX8_longer 15 = .ok (.aload_n 1, 1) := by decide +kernel
theorem dX8_longer_16 : decode cX8_longer 16 = .ok (.iload_n 2, 1) := by decide +kernel
theorem dX8_longer_17 : decode cX8_longer 17 = .ok (.aload_n 0, 1) := by decide +kernel
theorem dX8_longer_18 : decode cX8_longer 18 = .ok (.iload_n 2, 1) := by decide +kernel
theorem dX8_longer_19 : decode cX8_longer 19 = .ok (.iaload, 1) := by decide +kernel
theorem dX8_longer_20 : decode cX8_longer 20 = .ok (.iastore, 1) := by decide +kernel
theorem dX8_longer_21 : decode cX8_longer 21 = .ok (.iinc 2 1, 3) := by decide +kernel
theorem dX8_longer_24 : decode cX8_longer 24 = .ok (.goto (-15), 3) := by decide +kernel
theorem dX8_longer_27 : decode cX8_longer 27 = .ok (.aload_n 1, 1) := by decide +kernel
theorem dX8_longer_28 : decode cX8_longer 28 = .ok (.areturn, 1) := by decide +kernel
set_option maxRecDepth 100000 in
set_option maxHeartbeats 4000000 in
theorem c_X8_longer (l : Launch) (D : va_G) (cy : Nat → ClassId) (N0 : Nat) (h : qH) (a N : Nat) (f : Nat → Int32) (ha : h a = some (.inl (cy 0, N, .inl f))) (hN : N ≤ 1000000) : qC l D cy N0 yX8_longer cX8_longer 3 (some (.array .int)) 0 0 1 (2 * N) [.ref a] h (fun v h' => ∃ q, v = some (.ref q) ∧ h q = none ∧ h' = qs h q (.inl (cy 0, (2 * N), .inl (qGr f 0 N)))) (fun E h' => False) := by
  refine q_ofW (by decide) (by exact Nat.le_of_ble_eq_true rfl) ?_
  intro p e s m below meth c ls C hP hl
  have hx := C.1
  have hb := C.2.1
  have hS : va_S (qA N0) s.heap s.heap [] := va_S.rf
  have hl : lv_has ls 3 [(0, .ref a)] := hl
  have hle : qle h h := qle_rf
  have ha0 := ha
  refine lv_iconst (v := nI 2) hx hb dX8_longer_0 (by decide) ?_
  refine lv_aload_n hx hb dX8_longer_1 rfl (lv_at hl 0 rfl) ?_
  refine q_alen C hP ha rfl dX8_longer_2 ?_
  refine q_imulN hx hb dX8_longer_3 ?_
  refine q_newaI (N := (2 * N)) C g1237 hP hS (nI_pos (by omega)) (nI_clamp (by omega)) (by omega) (by omega) (by omega) dX8_longer_4 (fun q4 H eq4 hP hS => ?_)
  have n_q4_a : a ≠ q4 := qne_of eq4 ha
  replace ha := qle_new (o := (.inl (cy 0, (2 * N), .inl (fun _ => 0)))) eq4 _ _ ha
  have fq4 : (qs h q4 (.inl (cy 0, (2 * N), .inl (fun _ => 0)))) q4 = some (.inl (cy 0, (2 * N), .inl (fun _ => 0))) := qs_self
  refine lv_astore_n (lv' := [(1, .ref q4), (0, .ref a)]) hx hb dX8_longer_6 rfl hl (by decide) rfl (fun ls hl => ?_)
  refine lv_iconst (v := nI 0) hx hb dX8_longer_7 (by decide) ?_
  refine lv_istore_n (lv' := [(2, .int (nI 0)), (1, .ref q4), (0, .ref a)]) hx hb dX8_longer_8 rfl hl (by decide) rfl (fun ls hl => ?_)
  have na4 : a ≠ q4 := n_q4_a
  refine (?_ : ∀ (t : Nat) (H : Heap) (locs : List Loc) (ls : Array Slot) (i : Nat), N - i < t → lv_has ls 3 [(2, .int (nI i)), (1, .ref q4), (0, .ref a)] → i ≤ N → qP D N0 (qs h q4 (.inl (cy 0, (2 * N), .inl (qGr f 0 i)))) H → va_S (qA N0) s.heap H locs → W p l e _ s m _ below meth c H locs (0 + 1) (0 + 2 * N) _ (F0 m 9 ls [])) _ H [] ls 0 (Nat.lt_succ_self _) (lv_sub hl [0, 1, 2] rfl) (Nat.zero_le _) (by rw [qGr_0]; exact hP) hS
  clear hl hP hS
  intro t
  induction t with
  | zero => intro H locs ls i ht; exact absurd ht (Nat.not_lt_zero _)
  | succ t ihl =>
    intro H locs ls i ht hl hi hP hS
    have fq4 : (qs h q4 (.inl (cy 0, (2 * N), .inl (qGr f 0 i)))) q4 = some (.inl (cy 0, (2 * N), .inl (qGr f 0 i))) := qs_self
    have ha : (qs h q4 (.inl (cy 0, (2 * N), .inl (qGr f 0 i)))) a = some (.inl (cy 0, N, .inl f)) := (qs_ne na4).trans ha0
    refine lv_iload_n hx hb dX8_longer_9 rfl (lv_at hl 0 rfl) ?_
    refine lv_aload_n hx hb dX8_longer_10 rfl (lv_at hl 2 rfl) ?_
    refine q_alen C hP ha rfl dX8_longer_11 ?_
    refine lv_icmp_ge (tgt := 27) hx hb dX8_longer_12 (by decide) (fun c12 => ?_) (fun c12 => ?_)
    · replace c12 : N ≤ i := (nI_leI (a := N) (b := i) (by omega) (by omega)).mp c12
      refine lv_aload_n hx hb dX8_longer_27 rfl (lv_at hl 1 rfl) ?_
      exact q_aret (v := some q4) C (Or.inr ⟨_, rfl⟩) hP hS ⟨q4, rfl, eq4, by rw [show i = N by omega]⟩ (by omega) dX8_longer_28
    · replace c12 : ¬ N ≤ i := fun zq => c12 ((nI_leI (a := N) (b := i) (by omega) (by omega)).mpr zq)
      refine lv_aload_n hx hb dX8_longer_15 rfl (lv_at hl 1 rfl) ?_
      refine lv_iload_n hx hb dX8_longer_16 rfl (lv_at hl 0 rfl) ?_
      refine lv_aload_n hx hb dX8_longer_17 rfl (lv_at hl 2 rfl) ?_
      refine lv_iload_n hx hb dX8_longer_18 rfl (lv_at hl 0 rfl) ?_
      refine q_ialdN C hP ha (by omega) (by omega) dX8_longer_19 ?_
      refine q_iastN C hP hS fq4 (by omega) (by omega) dX8_longer_20 (fun H locs hP hS => ?_)
      rw [qs_qs] at hP
      replace ha := qs_re (o' := (.inl (cy 0, (2 * N), .inl (upd (qGr f 0 i) i (f i))))) n_q4_a ha
      replace fq4 : (qs h q4 (.inl (cy 0, (2 * N), .inl (upd (qGr f 0 i) i (f i))))) q4 = some (.inl (cy 0, (2 * N), .inl (upd (qGr f 0 i) i (f i)))) := qs_self
      refine lv_iinc (v := nI (i + 1)) (lv' := [(2, .int (nI (i + 1))), (1, .ref q4), (0, .ref a)]) hx hb dX8_longer_21 hl (k := 0) rfl (nI_1 i) (by decide) rfl (fun ls hl => ?_)
      refine lv_goto (tgt := 9) hx hb dX8_longer_24 (by decide) ?_
      exact ihl H locs ls (i + 1) (by omega) (lv_sub hl [0, 1, 2] rfl) (by omega) (by rw [qGr_i] at hP; exact hP) hS

theorem dX8_longer__0 : decode cX8_longer_ 0 = .ok (.iconst 2, 1) := by decide +kernel
theorem dX8_longer__1 : decode cX8_longer_ 1 = .ok (.aload_n 0, 1) := by decide +kernel
theorem dX8_longer__2 : decode cX8_longer_ 2 = .ok (.arraylength, 1) := by decide +kernel
theorem dX8_longer__3 : decode cX8_longer_ 3 = .ok (.imul, 1) := by decide +kernel
theorem dX8_longer__4 : decode cX8_longer_ 4 = .ok (.newarray .long, 2) := by decide +kernel
theorem dX8_longer__6 : decode cX8_longer_ 6 = .ok (.astore_n 1, 1) := by decide +kernel
theorem dX8_longer__7 : decode cX8_longer_ 7 = .ok (.iconst 0, 1) := by decide +kernel
theorem dX8_longer__8 : decode cX8_longer_ 8 = .ok (.istore_n 2, 1) := by decide +kernel
theorem dX8_longer__9 : decode cX8_longer_ 9 = .ok (.iload_n 2, 1) := by decide +kernel
theorem dX8_longer__10 : decode cX8_longer_ 10 = .ok (.aload_n 0, 1) := by decide +kernel
theorem dX8_longer__11 : decode cX8_longer_ 11 = .ok (.arraylength, 1) := by decide +kernel
theorem dX8_longer__12 : decode cX8_longer_ 12 = .ok (.if_icmp .ge 15, 3) := by decide +kernel
theorem dX8_longer__15 : decode cX8_longer_ 15 = .ok (.aload_n 1, 1) := by decide +kernel
theorem dX8_longer__16 : decode cX8_longer_ 16 = .ok (.iload_n 2, 1) := by decide +kernel
theorem dX8_longer__17 : decode cX8_longer_ 17 = .ok (.aload_n 0, 1) := by decide +kernel
theorem dX8_longer__18 : decode cX8_longer_ 18 = .ok (.iload_n 2, 1) := by decide +kernel
theorem dX8_longer__19 : decode cX8_longer_ 19 = .ok (.laload, 1) := by decide +kernel
theorem dX8_longer__20 : decode cX8_longer_ 20 = .ok (.lastore, 1) := by decide +kernel
theorem dX8_longer__21 : decode cX8_longer_ 21 = .ok (.iinc 2 1, 3) := by decide +kernel
theorem dX8_longer__24 : decode cX8_longer_ 24 = .ok (.goto (-15), 3) := by decide +kernel
theorem dX8_longer__27 : decode cX8_longer_ 27 = .ok (.aload_n 1, 1) := by decide +kernel
theorem dX8_longer__28 : decode cX8_longer_ 28 = .ok (.areturn, 1) := by decide +kernel
set_option maxRecDepth 100000 in
set_option maxHeartbeats 4000000 in
theorem c_X8_longer_ (l : Launch) (D : va_G) (cy : Nat → ClassId) (N0 : Nat) (h : qH) (a N : Nat) (f : Nat → Int64) (ha : h a = some (.inl (cy 1, N, .inr (.inl f)))) (hN : N ≤ 1000000) : qC l D cy N0 yX8_longer_ cX8_longer_ 3 (some (.array .long)) 0 0 1 (2 * N) [.ref a] h (fun v h' => ∃ q, v = some (.ref q) ∧ h q = none ∧ h' = qs h q (.inl (cy 1, (2 * N), .inr (.inl (qGr f 0 N))))) (fun E h' => False) := by
  refine q_ofW (by decide) (by exact Nat.le_of_ble_eq_true rfl) ?_
  intro p e s m below meth c ls C hP hl
  have hx := C.1
  have hb := C.2.1
  have hS : va_S (qA N0) s.heap s.heap [] := va_S.rf
  have hl : lv_has ls 3 [(0, .ref a)] := hl
  have hle : qle h h := qle_rf
  have ha0 := ha
  refine lv_iconst (v := nI 2) hx hb dX8_longer__0 (by decide) ?_
  refine lv_aload_n hx hb dX8_longer__1 rfl (lv_at hl 0 rfl) ?_
  refine q_alen C hP ha rfl dX8_longer__2 ?_
  refine q_imulN hx hb dX8_longer__3 ?_
  refine q_newaJ (N := (2 * N)) C g67 hP hS (nI_pos (by omega)) (nI_clamp (by omega)) (by omega) (by omega) (by omega) dX8_longer__4 (fun q4 H eq4 hP hS => ?_)
  have n_q4_a : a ≠ q4 := qne_of eq4 ha
  replace ha := qle_new (o := (.inl (cy 1, (2 * N), .inr (.inl (fun _ => 0))))) eq4 _ _ ha
  have fq4 : (qs h q4 (.inl (cy 1, (2 * N), .inr (.inl (fun _ => 0))))) q4 = some (.inl (cy 1, (2 * N), .inr (.inl (fun _ => 0)))) := qs_self
  refine lv_astore_n (lv' := [(1, .ref q4), (0, .ref a)]) hx hb dX8_longer__6 rfl hl (by decide) rfl (fun ls hl => ?_)
  refine lv_iconst (v := nI 0) hx hb dX8_longer__7 (by decide) ?_
  refine lv_istore_n (lv' := [(2, .int (nI 0)), (1, .ref q4), (0, .ref a)]) hx hb dX8_longer__8 rfl hl (by decide) rfl (fun ls hl => ?_)
  have na4 : a ≠ q4 := n_q4_a
  refine (?_ : ∀ (t : Nat) (H : Heap) (locs : List Loc) (ls : Array Slot) (i : Nat), N - i < t → lv_has ls 3 [(2, .int (nI i)), (1, .ref q4), (0, .ref a)] → i ≤ N → qP D N0 (qs h q4 (.inl (cy 1, (2 * N), .inr (.inl (qGr f 0 i))))) H → va_S (qA N0) s.heap H locs → W p l e _ s m _ below meth c H locs (0 + 1) (0 + 2 * N) _ (F0 m 9 ls [])) _ H [] ls 0 (Nat.lt_succ_self _) (lv_sub hl [0, 1, 2] rfl) (Nat.zero_le _) (by rw [qGr_0]; exact hP) hS
  clear hl hP hS
  intro t
  induction t with
  | zero => intro H locs ls i ht; exact absurd ht (Nat.not_lt_zero _)
  | succ t ihl =>
    intro H locs ls i ht hl hi hP hS
    have fq4 : (qs h q4 (.inl (cy 1, (2 * N), .inr (.inl (qGr f 0 i))))) q4 = some (.inl (cy 1, (2 * N), .inr (.inl (qGr f 0 i)))) := qs_self
    have ha : (qs h q4 (.inl (cy 1, (2 * N), .inr (.inl (qGr f 0 i))))) a = some (.inl (cy 1, N, .inr (.inl f))) := (qs_ne na4).trans ha0
    refine lv_iload_n hx hb dX8_longer__9 rfl (lv_at hl 0 rfl) ?_
    refine lv_aload_n hx hb dX8_longer__10 rfl (lv_at hl 2 rfl) ?_
    refine q_alen C hP ha rfl dX8_longer__11 ?_
    refine lv_icmp_ge (tgt := 27) hx hb dX8_longer__12 (by decide) (fun c12 => ?_) (fun c12 => ?_)
    · replace c12 : N ≤ i := (nI_leI (a := N) (b := i) (by omega) (by omega)).mp c12
      refine lv_aload_n hx hb dX8_longer__27 rfl (lv_at hl 1 rfl) ?_
      exact q_aret (v := some q4) C (Or.inr ⟨_, rfl⟩) hP hS ⟨q4, rfl, eq4, by rw [show i = N by omega]⟩ (by omega) dX8_longer__28
    · replace c12 : ¬ N ≤ i := fun zq => c12 ((nI_leI (a := N) (b := i) (by omega) (by omega)).mpr zq)
      refine lv_aload_n hx hb dX8_longer__15 rfl (lv_at hl 1 rfl) ?_
      refine lv_iload_n hx hb dX8_longer__16 rfl (lv_at hl 0 rfl) ?_
      refine lv_aload_n hx hb dX8_longer__17 rfl (lv_at hl 2 rfl) ?_
      refine lv_iload_n hx hb dX8_longer__18 rfl (lv_at hl 0 rfl) ?_
      refine q_laldN C hP ha (by omega) (by omega) dX8_longer__19 ?_
      refine q_lastN C hP hS fq4 (by omega) (by omega) dX8_longer__20 (fun H locs hP hS => ?_)
      rw [qs_qs] at hP
      replace ha := qs_re (o' := (.inl (cy 1, (2 * N), .inr (.inl (vp_updL (qGr f 0 i) i (f i)))))) n_q4_a ha
      replace fq4 : (qs h q4 (.inl (cy 1, (2 * N), .inr (.inl (vp_updL (qGr f 0 i) i (f i)))))) q4 = some (.inl (cy 1, (2 * N), .inr (.inl (vp_updL (qGr f 0 i) i (f i))))) := qs_self
      refine lv_iinc (v := nI (i + 1)) (lv' := [(2, .int (nI (i + 1))), (1, .ref q4), (0, .ref a)]) hx hb dX8_longer__21 hl (k := 0) rfl (nI_1 i) (by decide) rfl (fun ls hl => ?_)
      refine lv_goto (tgt := 9) hx hb dX8_longer__24 (by decide) ?_
      exact ihl H locs ls (i + 1) (by omega) (lv_sub hl [0, 1, 2] rfl) (by omega) (by rw [qGr_l] at hP; exact hP) hS
