def zRl (f : Nat → Int64) (n : Nat) : List Int64 := (List.range n).map f
theorem zRl_len {f : Nat → Int64} {n : Nat} : (zRl f n).length = n := by unfold zRl; rw [List.length_map, List.length_range]
theorem zRl_get {f : Nat → Int64} {n j : Nat} (h : j < n) : (zRl f n)[j]? = some (f j) := by unfold zRl; rw [List.getElem?_map, List.getElem?_range h]; rfl
theorem zRl_succ {f : Nat → Int64} {n : Nat} : zRl f (n + 1) = zRl f n ++ [f n] := by unfold zRl; rw [List.range_succ, List.map_append]; rfl
theorem zRl_ext {f g : Nat → Int64} {n : Nat} (h : ∀ j, j < n → f j = g j) : zRl f n = zRl g n := List.map_congr_left (fun j hj => h j (List.mem_range.mp hj))
theorem zRl_mem {f : Nat → Int64} {n : Nat} {v : Int64} : v ∈ zRl f n ↔ ∃ j, j < n ∧ f j = v := by
  unfold zRl
  rw [List.mem_map]
  exact ⟨fun ⟨j, h, e⟩ => ⟨j, List.mem_range.mp h, e⟩, fun ⟨j, h, e⟩ => ⟨j, List.mem_range.mpr h, e⟩⟩
theorem zRl_upd {f : Nat → Int64} {n k : Nat} {v : Int64} : zRl (vp_updL f k v) n = (zRl f n).set k v := by
  apply List.ext_getElem?
  intro j
  by_cases c : j < n
  · rw [zRl_get c]
    unfold vp_updL
    by_cases d : j = k
    · subst d; rw [if_pos rfl, List.getElem?_set_self (by rw [zRl_len]; exact c)]
    · rw [if_neg d, List.getElem?_set_ne (fun z => d z.symm), zRl_get c]
  · rw [List.getElem?_eq_none (by rw [zRl_len]; omega), List.getElem?_eq_none (by rw [List.length_set, zRl_len]; omega)]
theorem zRl_swap {f : Nat → Int64} {n i j : Nat} (hi : i < n) (hj : j < n) : (zRl (vp_updL (vp_updL f i (f j)) j (f i)) n).Perm (zRl f n) := by
  rw [zRl_upd, zRl_upd]
  have e1 : (zRl f n)[j]'(by rw [zRl_len]; exact hj) = f j := Option.some.inj ((List.getElem?_eq_getElem _).symm.trans (zRl_get hj))
  have e2 : (zRl f n)[i]'(by rw [zRl_len]; exact hi) = f i := Option.some.inj ((List.getElem?_eq_getElem _).symm.trans (zRl_get hi))
  have := List.set_set_perm (as := zRl f n) (i := i) (j := j) (by rw [zRl_len]; exact hi) (by rw [zRl_len]; exact hj)
  rw [e1, e2] at this
  exact this
theorem zRl_wide {f g : Nat → Int64} {n : Nat} (p : (zRl f n).Perm (zRl g n)) (h : ∀ j, n ≤ j → f j = g j) : ∀ N, n ≤ N → (zRl f N).Perm (zRl g N)
  | 0, hN => by rw [show n = 0 by omega] at p; exact p
  | N + 1, hN => by
    by_cases c : n = N + 1
    · subst c; exact p
    · rw [zRl_succ, zRl_succ, h N (by omega)]
      exact (zRl_wide p h N (by omega)).append_right _
/-- the heap's order at the parents q >= lo with P -/
def zHq (f : Nat → Int64) (lo n : Nat) (P : Nat → Prop) : Prop := ∀ c, 0 < c → c < n → lo ≤ (c - 1) / 2 → P ((c - 1) / 2) → (f c).toInt ≤ (f ((c - 1) / 2)).toInt
theorem zHq.max {f : Nat → Int64} {n : Nat} (h : zHq f 0 n (fun _ => True)) : ∀ c, c < n → (f c).toInt ≤ (f 0).toInt := fun c => by
  induction c using Nat.strongRecOn with
  | ind c ih =>
    intro hc
    by_cases z : c = 0
    · rw [z]; exact Int.le_refl _
    · exact Int.le_trans (h c (by omega) hc (Nat.zero_le _) trivial) (ih ((c - 1) / 2) (by omega) (by omega))
/-- while an element sinks -/
def zSk (f0 f : Nat → Int64) (lo n p : Nat) : Prop := zHq f lo n (fun q => q ≠ p) ∧ lo ≤ p ∧ p < n ∧ (p = lo ∨ (0 < p ∧ lo ≤ (p - 1) / 2 ∧ ∀ c, 0 < c → c < n → (c - 1) / 2 = p → (f c).toInt ≤ (f ((p - 1) / 2)).toInt)) ∧ (zRl f n).Perm (zRl f0 n) ∧ ∀ j, (j < lo ∨ n ≤ j) → f j = f0 j
theorem zSk.init {f : Nat → Int64} {lo n : Nat} (h : zHq f (lo + 1) n (fun _ => True)) (hn : lo < n) : zSk f f lo n lo := ⟨fun c h1 h2 h3 h4 => h c h1 h2 (by omega) trivial, Nat.le_refl _, hn, Or.inl rfl, List.Perm.refl _, fun _ _ => rfl⟩
theorem zSk.done {f0 f : Nat → Int64} {lo n p : Nat} (s : zSk f0 f lo n p) (h : ∀ c, 0 < c → c < n → (c - 1) / 2 = p → (f c).toInt ≤ (f p).toInt) : zHq f lo n (fun _ => True) := fun c h1 h2 h3 _ => by
  by_cases z : (c - 1) / 2 = p
  · rw [z]; exact h c h1 h2 z
  · exact s.1 c h1 h2 h3 z
theorem zSk.step {f0 f : Nat → Int64} {lo n p k : Nat} (s : zSk f0 f lo n p) (hk : k < n) (k0 : 0 < k) (kp : (k - 1) / 2 = p) (lt : (f p).toInt < (f k).toInt) (mx : ∀ c, 0 < c → c < n → (c - 1) / 2 = p → (f c).toInt ≤ (f k).toInt) : zSk f0 (vp_updL (vp_updL f k (f p)) p (f k)) lo n k := by
  obtain ⟨s1, s2, s3, s4, s5, s6⟩ := s
  have npk : p ≠ k := by omega
  have gp : vp_updL (vp_updL f k (f p)) p (f k) p = f k := by unfold vp_updL; rw [if_pos rfl]
  have gk : vp_updL (vp_updL f k (f p)) p (f k) k = f p := by unfold vp_updL; rw [if_neg (fun z => npk z.symm), if_pos rfl]
  have go : ∀ j, j ≠ p → j ≠ k → vp_updL (vp_updL f k (f p)) p (f k) j = f j := fun j h1 h2 => by unfold vp_updL; rw [if_neg h1, if_neg h2]
  refine ⟨fun c h1 h2 h3 h4 => ?_, by omega, hk, Or.inr ⟨k0, by omega, fun c h1 h2 h3 => ?_⟩, (zRl_swap hk s3).trans s5, fun j hj => ?_⟩
  · by_cases cp : (c - 1) / 2 = p
    · rw [cp, gp]
      by_cases ck : c = k
      · rw [ck, gk]; omega
      · rw [go c (by omega) ck]; exact mx c h1 h2 cp
    · rw [go ((c - 1) / 2) cp h4]
      by_cases c2 : c = p
      · rw [c2, gp]
        rcases s4 with z | ⟨z1, z2, z3⟩
        · omega
        · exact z3 k k0 hk kp
      · by_cases c3 : c = k
        · rw [c3] at cp; exact absurd kp cp
        · rw [go c c2 c3]; exact s1 c h1 h2 h3 cp
  · rw [kp, gp, go c (by omega) (by omega)]
    have := s1 c h1 h2 (by omega) (by omega)
    rw [h3] at this
    exact this
  · rw [go j (by omega) (by omega)]; exact s6 j hj
/-- what a sunk element leaves -/
def zSd (f0 f : Nat → Int64) (lo n : Nat) : Prop := zHq f lo n (fun _ => True) ∧ (zRl f n).Perm (zRl f0 n) ∧ ∀ j, (j < lo ∨ n ≤ j) → f j = f0 j
theorem zSk.end1 {f0 f : Nat → Int64} {lo n p : Nat} (s : zSk f0 f lo n p) (h : ∀ c, 0 < c → c < n → (c - 1) / 2 = p → (f c).toInt ≤ (f p).toInt) : zSd f0 f lo n := ⟨s.done h, s.2.2.2.2.1, s.2.2.2.2.2⟩
/-- the second half of the sort: heap up to e, sorted above -/
def zSt (f0 f : Nat → Int64) (N e : Nat) : Prop := e < N ∧ zHq f 0 (e + 1) (fun _ => True) ∧ (zRl f N).Perm (zRl f0 N) ∧ (∀ i j, e < i → i ≤ j → j < N → (f i).toInt ≤ (f j).toInt) ∧ (∀ i j, i ≤ e → e < j → j < N → (f i).toInt ≤ (f j).toInt) ∧ ∀ j, N ≤ j → f j = f0 j
theorem zSt.init {f0 f : Nat → Int64} {N : Nat} (h : zHq f 0 N (fun _ => True)) (p : (zRl f N).Perm (zRl f0 N)) (hN : 0 < N) (k : ∀ j, N ≤ j → f j = f0 j) : zSt f0 f N (N - 1) := ⟨by omega, by rw [show N - 1 + 1 = N by omega]; exact h, p, fun i j h1 h2 h3 => by omega, fun i j h1 h2 h3 => by omega, k⟩
theorem zSt.pre {f0 f : Nat → Int64} {N e : Nat} (s : zSt f0 f N e) : zHq (vp_updL (vp_updL f 0 (f e)) e (f 0)) (0 + 1) e (fun _ => True) := fun c h1 h2 h3 _ => by
  have g : ∀ j, j ≠ 0 → j ≠ e → vp_updL (vp_updL f 0 (f e)) e (f 0) j = f j := fun j h1 h2 => by unfold vp_updL; rw [if_neg h2, if_neg h1]
  rw [g c (by omega) (by omega), g _ (by omega) (by omega)]
  exact s.2.1 c h1 (by omega) (Nat.zero_le _) trivial
theorem zSt.step {f0 f f3 : Nat → Int64} {N e : Nat} (s : zSt f0 f N e) (he : 0 < e) (d : zSd (vp_updL (vp_updL f 0 (f e)) e (f 0)) f3 0 e) : zSt f0 f3 N (e - 1) := by
  obtain ⟨s1, s2, s3, s4, s5, s6⟩ := s
  obtain ⟨d1, d2, d3⟩ := d
  have ge : vp_updL (vp_updL f 0 (f e)) e (f 0) e = f 0 := by unfold vp_updL; rw [if_pos rfl]
  have go : ∀ j, j ≠ 0 → j ≠ e → vp_updL (vp_updL f 0 (f e)) e (f 0) j = f j := fun j h1 h2 => by unfold vp_updL; rw [if_neg h2, if_neg h1]
  have hi : ∀ j, e < j → f3 j = f j := fun j hj => by rw [d3 j (Or.inr (by omega)), go j (by omega) (by omega)]
  have h3e : f3 e = f 0 := by rw [d3 e (Or.inr (Nat.le_refl _)), ge]
  have lo : ∀ i, i < e → ∃ x, x ≤ e ∧ f3 i = f x := fun i hi => by
    obtain ⟨x, hx, ex⟩ := zRl_mem.mp (d2.subset (zRl_mem.mpr ⟨i, hi, rfl⟩))
    by_cases z : x = 0
    · rw [z] at ex
      refine ⟨e, Nat.le_refl _, ?_⟩
      rw [← ex]; unfold vp_updL; rw [if_neg (by omega), if_pos rfl]
    · exact ⟨x, by omega, by rw [← ex, go x z (by omega)]⟩
  refine ⟨by omega, by rw [show e - 1 + 1 = e by omega]; exact d1, (zRl_wide d2 (fun j hj => d3 j (Or.inr hj)) N (by omega)).trans ((zRl_swap (by omega) s1).trans s3), fun i j h1 h2 h3 => ?_, fun i j h1 h2 h3 => ?_, fun j hj => by rw [hi j (by omega)]; exact s6 j hj⟩
  · by_cases c : i = e
    · rw [c, h3e]
      by_cases c2 : j = e
      · rw [c2, h3e]; exact Int.le_refl _
      · rw [hi j (by omega)]; exact s5 0 j (Nat.zero_le _) (by omega) h3
    · rw [hi i (by omega), hi j (by omega)]; exact s4 i j (by omega) h2 h3
  · obtain ⟨x, hx, ex⟩ := lo i (by omega)
    rw [ex]
    by_cases c2 : j = e
    · rw [c2, h3e]; exact s2.max x (by omega)
    · rw [hi j (by omega)]; exact s5 x j hx (by omega) h3
/-- sorted -/
def zSo (f0 f : Nat → Int64) (N : Nat) : Prop := (zRl f N).Perm (zRl f0 N) ∧ (∀ i j, i ≤ j → j < N → (f i).toInt ≤ (f j).toInt) ∧ ∀ j, N ≤ j → f j = f0 j
theorem zSt.so {f0 f : Nat → Int64} {N e : Nat} (s : zSt f0 f N e) (he : ¬ 0 < e) : zSo f0 f N := by
  obtain ⟨s1, s2, s3, s4, s5, s6⟩ := s
  refine ⟨s3, fun i j h1 h2 => ?_, s6⟩
  by_cases c : i = j
  · rw [c]; exact Int.le_refl _
  · by_cases d : i ≤ e
    · exact s5 i j d (by omega) h2
    · exact s4 i j (by omega) h1 h2
theorem zSo.pw {f0 f : Nat → Int64} {N : Nat} (s : zSo f0 f N) : (zRl f N).Pairwise (fun a b => a.toInt ≤ b.toInt) := by
  unfold zRl
  rw [List.pairwise_map]
  refine List.Pairwise.imp_of_mem (R := fun a b => a < b) (fun {a b} ha hb h => s.2.1 a b (Nat.le_of_lt h) (List.mem_range.mp hb)) ?_
  exact List.pairwise_lt_range
theorem zSo.eq {f0 f : Nat → Int64} {N : Nat} {L : List Int64} (s : zSo f0 f N) (p : (zRl f0 N).Perm L) (u : L.Pairwise (fun a b => a.toInt ≤ b.toInt)) : zRl f N = L := (s.1.trans p).eq_of_pairwise (fun a b _ _ h1 h2 => Int64.toInt_inj.mp (Int.le_antisymm h1 h2)) s.pw u
theorem dX6_sink_0 : decode cX6_sink 0 = .ok (.iload_n 1, 1) := by decide +kernel
theorem dX6_sink_1 : decode cX6_sink 1 = .ok (.istore_n 3, 1) := by decide +kernel
theorem dX6_sink_2 : decode cX6_sink 2 = .ok (.iconst 2, 1) := by decide +kernel
theorem dX6_sink_3 : decode cX6_sink 3 = .ok (.iload_n 3, 1) := by decide +kernel
theorem dX6_sink_4 : decode cX6_sink 4 = .ok (.imul, 1) := by decide +kernel
theorem dX6_sink_5 : decode cX6_sink 5 = .ok (.iconst 1, 1) := by decide +kernel
theorem dX6_sink_6 : decode cX6_sink 6 = .ok (.iadd, 1) := by decide +kernel
theorem dX6_sink_7 : decode cX6_sink 7 = .ok (.istore 4, 2) := by decide +kernel
theorem dX6_sink_9 : decode cX6_sink 9 = .ok (.iload 4, 2) := by decide +kernel
theorem dX6_sink_11 : decode cX6_sink 11 = .ok (.iload_n 2, 1) := by decide +kernel
theorem dX6_sink_12 : decode cX6_sink 12 = .ok (.if_icmp .ge 71, 3) := by decide +kernel
theorem dX6_sink_15 : decode cX6_sink 15 = .ok (.iload 4, 2) := by decide +kernel
theorem dX6_sink_17 : decode cX6_sink 17 = .ok (.iconst 1, 1) := by decide +kernel
theorem dX6_sink_18 : decode cX6_sink 18 = .ok (.iadd, 1) := by decide +kernel
theorem dX6_sink_19 : decode cX6_sink 19 = .ok (.iload_n 2, 1) := by decide +kernel
theorem dX6_sink_20 : decode cX6_sink 20 = .ok (.if_icmp .ge 20, 3) := by decide +kernel
theorem dX6_sink_23 : decode cX6_sink 23 = .ok (.aload_n 0, 1) := by decide +kernel
theorem dX6_sink_24 : decode cX6_sink 24 = .ok (.iload 4, 2) := by decide +kernel
theorem dX6_sink_26 : decode cX6_sink 26 = .ok (.iconst 1, 1) := by decide +kernel
theorem dX6_sink_27 : decode cX6_sink 27 = .ok (.iadd, 1) := by decide +kernel
theorem dX6_sink_28 : decode cX6_sink 28 = .ok (.laload, 1) := by decide +kernel
theorem dX6_sink_29 : decode cX6_sink 29 = .ok (.aload_n 0, 1) := by decide +kernel
theorem dX6_sink_30 : decode cX6_sink 30 = .ok (.iload 4, 2) := by decide +kernel
theorem dX6_sink_32 : decode cX6_sink 32 = .ok (.laload, 1) := by decide +kernel
theorem dX6_sink_33 : decode cX6_sink 33 = .ok (.lcmp, 1) := by decide +kernel
theorem dX6_sink_34 : decode cX6_sink 34 = .ok (.ifCond .le 6, 3) := by decide +kernel
theorem dX6_sink_37 : decode cX6_sink 37 = .ok (.iinc 4 1, 3) := by decide +kernel
theorem dX6_sink_40 : decode cX6_sink 40 = .ok (.aload_n 0, 1) := by decide +kernel
theorem dX6_sink_41 : decode cX6_sink 41 = .ok (.iload_n 3, 1) := by decide +kernel
theorem dX6_sink_42 : decode cX6_sink 42 = .ok (.laload, 1) := by decide +kernel
theorem dX6_sink_43 : decode cX6_sink 43 = .ok (.aload_n 0, 1) := by decide +kernel
theorem dX6_sink_44 : decode cX6_sink 44 = .ok (.iload 4, 2) := by decide +kernel
theorem dX6_sink_46 : decode cX6_sink 46 = .ok (.laload, 1) := by decide +kernel
theorem dX6_sink_47 : decode cX6_sink 47 = .ok (.lcmp, 1) := by decide +kernel
theorem dX6_sink_48 : decode cX6_sink 48 = .ok (.ifCond .lt 4, 3) := by decide +kernel
theorem dX6_sink_51 : decode cX6_sink 51 = .ok (.return_, 1) := by decide +kernel
theorem dX6_sink_52 : decode cX6_sink 52 = .ok (.aload_n 0, 1) := by decide +kernel
theorem dX6_sink_53 : decode cX6_sink 53 = .ok (.iload 4, 2) := by decide +kernel
theorem dX6_sink_55 : decode cX6_sink 55 = .ok (.laload, 1) := by decide +kernel
theorem dX6_sink_56 : decode cX6_sink 56 = .ok (.lstore 5, 2) := by decide +kernel
theorem dX6_sink_58 : decode cX6_sink 58 = .ok (.aload_n 0, 1) := by decide +kernel
theorem dX6_sink_59 : decode cX6_sink 59 = .ok (.iload 4, 2) := by decide +kernel
theorem dX6_sink_61 : decode cX6_sink 61 = .ok (.aload_n 0, 1) := by decide +kernel
theorem dX6_sink_62 : decode cX6_sink 62 = .ok (.iload_n 3, 1) := by decide +kernel
theorem dX6_sink_63 : decode cX6_sink 63 = .ok (.laload, 1) := by decide +kernel
theorem dX6_sink_64 : decode cX6_sink 64 = .ok (.lastore, 1) := by decide +kernel
theorem dX6_sink_65 : decode cX6_sink 65 = .ok (.aload_n 0, 1) := by decide +kernel
theorem dX6_sink_66 : decode cX6_sink 66 = .ok (.iload_n 3, 1) := by decide +kernel
theorem dX6_sink_67 : decode cX6_sink 67 = .ok (.lload 5, 2) := by decide +kernel
theorem dX6_sink_69 : decode cX6_sink 69 = .ok (.lastore, 1) := by decide +kernel
theorem dX6_sink_70 : decode cX6_sink 70 = .ok (.iload 4, 2) := by decide +kernel
theorem dX6_sink_72 : decode cX6_sink 72 = .ok (.istore_n 3, 1) := by decide +kernel
theorem dX6_sink_73 : decode cX6_sink 73 = .ok (.iconst 2, 1) := by decide +kernel
theorem dX6_sink_74 : decode cX6_sink 74 = .ok (.iload_n 3, 1) := by decide +kernel
theorem dX6_sink_75 : decode cX6_sink 75 = .ok (.imul, 1) := by decide +kernel
theorem dX6_sink_76 : decode cX6_sink 76 = .ok (.iconst 1, 1) := by decide +kernel
theorem dX6_sink_77 : decode cX6_sink 77 = .ok (.iadd, 1) := by decide +kernel
theorem dX6_sink_78 : decode cX6_sink 78 = .ok (.istore 4, 2) := by decide +kernel
theorem dX6_sink_80 : decode cX6_sink 80 = .ok (.goto (-71), 3) := by decide +kernel
theorem dX6_sink_83 : decode cX6_sink 83 = .ok (.return_, 1) := by decide +kernel
set_option maxRecDepth 100000 in
set_option maxHeartbeats 4000000 in
theorem z_sink (l : Launch) (D : va_G) (cy : Nat → ClassId) (N0 : Nat) (h : qH) (a N : Nat) (f0 : Nat → Int64) (n : Nat) (lo : Nat) (hr : h a = some (.inl (cy 1, N, .inr (.inl f0)))) (hN : N < 1000000) (hn : n ≤ N) (hlo : lo < n) (hH : zHq f0 (lo + 1) n (fun _ => True)) : qC l D cy N0 yX6_sink cX6_sink 7 none 2 40 0 0 [.ref a, .int (nI lo), .int (nI n)] h (fun v h' => ∃ f' : Nat → Int64, v = none ∧ h' = qs h a (.inl (cy 1, N, .inr (.inl f'))) ∧ zSd f0 f' lo n) (fun E h' => False) := by
  refine q_ofW (by decide) (by exact Nat.le_of_ble_eq_true rfl) ?_
  intro p e s m below meth c ls C hP hl
  have hx := C.1
  have hb := C.2.1
  have hS : va_S (qA N0) s.heap s.heap [] := va_S.rf
  have hl : lv_has ls 7 [(0, .ref a), (1, .int (nI lo)), (2, .int (nI n))] := hl
  refine lv_iload_n hx hb dX6_sink_0 rfl (lv_at hl 1 rfl) ?_
  refine lv_istore_n (lv' := [(3, .int (nI lo)), (0, .ref a), (1, .int (nI lo)), (2, .int (nI n))]) hx hb dX6_sink_1 rfl hl (by decide) rfl (fun ls hl => ?_)
  refine lv_iconst (v := nI 2) hx hb dX6_sink_2 (by decide) ?_
  refine lv_iload_n hx hb dX6_sink_3 rfl (lv_at hl 0 rfl) ?_
  refine q_imulN hx hb dX6_sink_4 ?_
  refine lv_iconst (v := nI 1) hx hb dX6_sink_5 (by decide) ?_
  refine q_iaddN hx hb dX6_sink_6 ?_
  refine lv_istore (lv' := [(4, .int (nI ((2 * lo) + 1))), (3, .int (nI lo)), (0, .ref a), (1, .int (nI lo)), (2, .int (nI n))]) hx hb dX6_sink_7 hl (by decide) rfl (fun ls hl => ?_)
  rw [← qs_id hr] at hP
  refine (?_ : ∀ (t9 p9 : Nat) (H : Heap) (locs : List Loc) (ls : Array Slot) (f : Nat → Int64) (c1 c2 : Nat), n - p9 < t9 → lv_has ls 7 [(4, .int (nI (2 * p9 + 1))), (3, .int (nI p9)), (2, .int (nI n)), (1, .int (nI lo)), (0, .ref a)] → zSk f0 f lo n p9 → qP D N0 (qs h a (.inl (cy 1, N, .inr (.inl f)))) H → va_S (qA N0) s.heap H locs → c1 ≤ 0 ∧ c2 ≤ 0 → W p l e _ s m _ below meth c H locs c1 c2 _ (F0 m 9 ls [])) (n + 1) lo _ _ ls f0 _ _ (by omega) (lv_sub hl [0, 1, 4, 3, 2] rfl) (zSk.init hH hlo) hP hS ⟨by omega, by omega⟩
  clear hl hP hS
  intro t9
  induction t9 with
  | zero => intro p9 _ _ _ _ _ _ h; exact absurd h (Nat.not_lt_zero _)
  | succ t9 ihl =>
    intro p9 H locs ls f c1 c2 ht9 hl hsk hP hS hcc
    have hp9 := hsk.2.2.1
    have hrw : (qs h a (.inl (cy 1, N, .inr (.inl f)))) a = some (.inl (cy 1, N, .inr (.inl f))) := qs_self
    refine lv_iload hx hb dX6_sink_9 (lv_at hl 0 rfl) ?_
    refine lv_iload_n hx hb dX6_sink_11 rfl (lv_at hl 2 rfl) ?_
    refine lv_icmp_ge (tgt := 83) hx hb dX6_sink_12 (by decide) (fun c12 => ?_) (fun c12 => ?_)
    · replace c12 : n ≤ (2 * p9 + 1) := (nI_leI (a := n) (b := (2 * p9 + 1)) (by omega) (by omega)).mp c12
      exact q_vret C hP hS ⟨f, rfl, rfl, hsk.end1 (fun c g1 g2 g3 => by rcases (show c = 2 * p9 + 1 ∨ c = 2 * p9 + 1 + 1 by omega) with rfl | rfl <;> omega)⟩ (by omega) dX6_sink_83
    · replace c12 : ¬ n ≤ (2 * p9 + 1) := fun zq => c12 ((nI_leI (a := n) (b := (2 * p9 + 1)) (by omega) (by omega)).mpr zq)
      refine lv_iload hx hb dX6_sink_15 (lv_at hl 0 rfl) ?_
      refine lv_iconst (v := nI 1) hx hb dX6_sink_17 (by decide) ?_
      refine q_iaddN hx hb dX6_sink_18 ?_
      refine lv_iload_n hx hb dX6_sink_19 rfl (lv_at hl 2 rfl) ?_
      refine lv_icmp_ge (tgt := 40) hx hb dX6_sink_20 (by decide) (fun c20 => ?_) (fun c20 => ?_)
      · replace c20 : n ≤ ((2 * p9 + 1) + 1) := (nI_leI (a := n) (b := ((2 * p9 + 1) + 1)) (by omega) (by omega)).mp c20
        refine lv_aload_n hx hb dX6_sink_40 rfl (lv_at hl 4 rfl) ?_
        refine lv_iload_n hx hb dX6_sink_41 rfl (lv_at hl 1 rfl) ?_
        refine q_laldN C hP hrw (by omega) (by omega) dX6_sink_42 ?_
        refine lv_aload_n hx hb dX6_sink_43 rfl (lv_at hl 4 rfl) ?_
        refine lv_iload hx hb dX6_sink_44 (lv_at hl 0 rfl) ?_
        refine q_laldN C hP hrw (by omega) (by omega) dX6_sink_46 ?_
        refine W.lcmp hx hb dX6_sink_47 ?_
        refine lv_if_lt (tgt := 52) hx hb dX6_sink_48 (by decide) (fun c48 => ?_) (fun c48 => ?_)
        · replace c48 : (f p9).toInt < (f (2 * p9 + 1)).toInt := Int64.lt_iff_toInt_lt.mp ((lg_cmp_lt _ _).mp c48)
          refine lv_aload_n hx hb dX6_sink_52 rfl (lv_at hl 4 rfl) ?_
          refine lv_iload hx hb dX6_sink_53 (lv_at hl 0 rfl) ?_
          refine q_laldN C hP hrw (by omega) (by omega) dX6_sink_55 ?_
          refine lv_lstore (lv' := [(5, .long (f (2 * p9 + 1))), (4, .int (nI (2 * p9 + 1))), (3, .int (nI p9)), (2, .int (nI n)), (1, .int (nI lo)), (0, .ref a)]) hx hb dX6_sink_56 hl (by decide) rfl (fun ls hl => ?_)
          refine lv_aload_n hx hb dX6_sink_58 rfl (lv_at hl 5 rfl) ?_
          refine lv_iload hx hb dX6_sink_59 (lv_at hl 1 rfl) ?_
          refine lv_aload_n hx hb dX6_sink_61 rfl (lv_at hl 5 rfl) ?_
          refine lv_iload_n hx hb dX6_sink_62 rfl (lv_at hl 2 rfl) ?_
          refine q_laldN C hP hrw (by omega) (by omega) dX6_sink_63 ?_
          refine q_lastN C hP hS (f := f) qs_self (by omega) (by omega) dX6_sink_64 (fun H locs hP hS => ?_)
          rw [qs_qs] at hP
          replace hP : qP D N0 (qs h a (.inl (cy 1, N, .inr (.inl (vp_updL f (2 * p9 + 1) (f p9)))))) H := hP
          have hrw : (qs h a (.inl (cy 1, N, .inr (.inl (vp_updL f (2 * p9 + 1) (f p9)))))) a = some (.inl (cy 1, N, .inr (.inl (vp_updL f (2 * p9 + 1) (f p9))))) := qs_self
          refine lv_aload_n hx hb dX6_sink_65 rfl (lv_at hl 5 rfl) ?_
          refine lv_iload_n hx hb dX6_sink_66 rfl (lv_at hl 2 rfl) ?_
          refine lv_lload hx hb dX6_sink_67 (lv_at hl 0 rfl) ?_
          refine q_lastN C hP hS (f := (vp_updL f (2 * p9 + 1) (f p9))) qs_self (by omega) (by omega) dX6_sink_69 (fun H locs hP hS => ?_)
          rw [qs_qs] at hP
          replace hP : qP D N0 (qs h a (.inl (cy 1, N, .inr (.inl (vp_updL (vp_updL f (2 * p9 + 1) (f p9)) p9 (f (2 * p9 + 1))))))) H := hP
          have hrw : (qs h a (.inl (cy 1, N, .inr (.inl (vp_updL (vp_updL f (2 * p9 + 1) (f p9)) p9 (f (2 * p9 + 1))))))) a = some (.inl (cy 1, N, .inr (.inl (vp_updL (vp_updL f (2 * p9 + 1) (f p9)) p9 (f (2 * p9 + 1)))))) := qs_self
          refine lv_iload hx hb dX6_sink_70 (lv_at hl 1 rfl) ?_
          refine lv_istore_n (lv' := [(3, .int (nI (2 * p9 + 1))), (5, .long (f (2 * p9 + 1))), (4, .int (nI (2 * p9 + 1))), (2, .int (nI n)), (1, .int (nI lo)), (0, .ref a)]) hx hb dX6_sink_72 rfl hl (by decide) rfl (fun ls hl => ?_)
          refine lv_iconst (v := nI 2) hx hb dX6_sink_73 (by decide) ?_
          refine lv_iload_n hx hb dX6_sink_74 rfl (lv_at hl 0 rfl) ?_
          refine q_imulN hx hb dX6_sink_75 ?_
          refine lv_iconst (v := nI 1) hx hb dX6_sink_76 (by decide) ?_
          refine q_iaddN hx hb dX6_sink_77 ?_
          refine lv_istore (lv' := [(4, .int (nI ((2 * (2 * p9 + 1)) + 1))), (3, .int (nI (2 * p9 + 1))), (5, .long (f (2 * p9 + 1))), (2, .int (nI n)), (1, .int (nI lo)), (0, .ref a)]) hx hb dX6_sink_78 hl (by decide) rfl (fun ls hl => ?_)
          refine lv_goto (tgt := 9) hx hb dX6_sink_80 (by decide) ?_
          exact ihl (2 * p9 + 1) H locs ls _ _ _ (by omega) (lv_sub hl [0, 1, 3, 4, 5] rfl) (hsk.step (by omega) (by omega) (by omega) (by omega) (fun c g1 g2 g3 => by rcases (show c = 2 * p9 + 1 ∨ c = 2 * p9 + 1 + 1 by omega) with rfl | rfl <;> omega)) hP hS hcc
        · replace c48 : ¬ (f p9).toInt < (f (2 * p9 + 1)).toInt := fun zq => c48 ((lg_cmp_lt _ _).mpr (Int64.lt_iff_toInt_lt.mpr zq))
          exact q_vret C hP hS ⟨f, rfl, rfl, hsk.end1 (fun c g1 g2 g3 => by rcases (show c = 2 * p9 + 1 ∨ c = 2 * p9 + 1 + 1 by omega) with rfl | rfl <;> omega)⟩ (by omega) dX6_sink_51
      · replace c20 : ¬ n ≤ ((2 * p9 + 1) + 1) := fun zq => c20 ((nI_leI (a := n) (b := ((2 * p9 + 1) + 1)) (by omega) (by omega)).mpr zq)
        refine lv_aload_n hx hb dX6_sink_23 rfl (lv_at hl 4 rfl) ?_
        refine lv_iload hx hb dX6_sink_24 (lv_at hl 0 rfl) ?_
        refine lv_iconst (v := nI 1) hx hb dX6_sink_26 (by decide) ?_
        refine q_iaddN hx hb dX6_sink_27 ?_
        refine q_laldN C hP hrw (by omega) (by omega) dX6_sink_28 ?_
        refine lv_aload_n hx hb dX6_sink_29 rfl (lv_at hl 4 rfl) ?_
        refine lv_iload hx hb dX6_sink_30 (lv_at hl 0 rfl) ?_
        refine q_laldN C hP hrw (by omega) (by omega) dX6_sink_32 ?_
        refine W.lcmp hx hb dX6_sink_33 ?_
        refine lv_if_le (tgt := 40) hx hb dX6_sink_34 (by decide) (fun c34 => ?_) (fun c34 => ?_)
        · replace c34 : (f ((2 * p9 + 1) + 1)).toInt ≤ (f (2 * p9 + 1)).toInt := Int64.le_iff_toInt_le.mp ((lg_cmp_le _ _).mp c34)
          refine lv_aload_n hx hb dX6_sink_40 rfl (lv_at hl 4 rfl) ?_
          refine lv_iload_n hx hb dX6_sink_41 rfl (lv_at hl 1 rfl) ?_
          refine q_laldN C hP hrw (by omega) (by omega) dX6_sink_42 ?_
          refine lv_aload_n hx hb dX6_sink_43 rfl (lv_at hl 4 rfl) ?_
          refine lv_iload hx hb dX6_sink_44 (lv_at hl 0 rfl) ?_
          refine q_laldN C hP hrw (by omega) (by omega) dX6_sink_46 ?_
          refine W.lcmp hx hb dX6_sink_47 ?_
          refine lv_if_lt (tgt := 52) hx hb dX6_sink_48 (by decide) (fun c48 => ?_) (fun c48 => ?_)
          · replace c48 : (f p9).toInt < (f (2 * p9 + 1)).toInt := Int64.lt_iff_toInt_lt.mp ((lg_cmp_lt _ _).mp c48)
            refine lv_aload_n hx hb dX6_sink_52 rfl (lv_at hl 4 rfl) ?_
            refine lv_iload hx hb dX6_sink_53 (lv_at hl 0 rfl) ?_
            refine q_laldN C hP hrw (by omega) (by omega) dX6_sink_55 ?_
            refine lv_lstore (lv' := [(5, .long (f (2 * p9 + 1))), (4, .int (nI (2 * p9 + 1))), (3, .int (nI p9)), (2, .int (nI n)), (1, .int (nI lo)), (0, .ref a)]) hx hb dX6_sink_56 hl (by decide) rfl (fun ls hl => ?_)
            refine lv_aload_n hx hb dX6_sink_58 rfl (lv_at hl 5 rfl) ?_
            refine lv_iload hx hb dX6_sink_59 (lv_at hl 1 rfl) ?_
            refine lv_aload_n hx hb dX6_sink_61 rfl (lv_at hl 5 rfl) ?_
            refine lv_iload_n hx hb dX6_sink_62 rfl (lv_at hl 2 rfl) ?_
            refine q_laldN C hP hrw (by omega) (by omega) dX6_sink_63 ?_
            refine q_lastN C hP hS (f := f) qs_self (by omega) (by omega) dX6_sink_64 (fun H locs hP hS => ?_)
            rw [qs_qs] at hP
            replace hP : qP D N0 (qs h a (.inl (cy 1, N, .inr (.inl (vp_updL f (2 * p9 + 1) (f p9)))))) H := hP
            have hrw : (qs h a (.inl (cy 1, N, .inr (.inl (vp_updL f (2 * p9 + 1) (f p9)))))) a = some (.inl (cy 1, N, .inr (.inl (vp_updL f (2 * p9 + 1) (f p9))))) := qs_self
            refine lv_aload_n hx hb dX6_sink_65 rfl (lv_at hl 5 rfl) ?_
            refine lv_iload_n hx hb dX6_sink_66 rfl (lv_at hl 2 rfl) ?_
            refine lv_lload hx hb dX6_sink_67 (lv_at hl 0 rfl) ?_
            refine q_lastN C hP hS (f := (vp_updL f (2 * p9 + 1) (f p9))) qs_self (by omega) (by omega) dX6_sink_69 (fun H locs hP hS => ?_)
            rw [qs_qs] at hP
            replace hP : qP D N0 (qs h a (.inl (cy 1, N, .inr (.inl (vp_updL (vp_updL f (2 * p9 + 1) (f p9)) p9 (f (2 * p9 + 1))))))) H := hP
            have hrw : (qs h a (.inl (cy 1, N, .inr (.inl (vp_updL (vp_updL f (2 * p9 + 1) (f p9)) p9 (f (2 * p9 + 1))))))) a = some (.inl (cy 1, N, .inr (.inl (vp_updL (vp_updL f (2 * p9 + 1) (f p9)) p9 (f (2 * p9 + 1)))))) := qs_self
            refine lv_iload hx hb dX6_sink_70 (lv_at hl 1 rfl) ?_
            refine lv_istore_n (lv' := [(3, .int (nI (2 * p9 + 1))), (5, .long (f (2 * p9 + 1))), (4, .int (nI (2 * p9 + 1))), (2, .int (nI n)), (1, .int (nI lo)), (0, .ref a)]) hx hb dX6_sink_72 rfl hl (by decide) rfl (fun ls hl => ?_)
            refine lv_iconst (v := nI 2) hx hb dX6_sink_73 (by decide) ?_
            refine lv_iload_n hx hb dX6_sink_74 rfl (lv_at hl 0 rfl) ?_
            refine q_imulN hx hb dX6_sink_75 ?_
            refine lv_iconst (v := nI 1) hx hb dX6_sink_76 (by decide) ?_
            refine q_iaddN hx hb dX6_sink_77 ?_
            refine lv_istore (lv' := [(4, .int (nI ((2 * (2 * p9 + 1)) + 1))), (3, .int (nI (2 * p9 + 1))), (5, .long (f (2 * p9 + 1))), (2, .int (nI n)), (1, .int (nI lo)), (0, .ref a)]) hx hb dX6_sink_78 hl (by decide) rfl (fun ls hl => ?_)
            refine lv_goto (tgt := 9) hx hb dX6_sink_80 (by decide) ?_
            exact ihl (2 * p9 + 1) H locs ls _ _ _ (by omega) (lv_sub hl [0, 1, 3, 4, 5] rfl) (hsk.step (by omega) (by omega) (by omega) (by omega) (fun c g1 g2 g3 => by rcases (show c = 2 * p9 + 1 ∨ c = 2 * p9 + 1 + 1 by omega) with rfl | rfl <;> omega)) hP hS hcc
          · replace c48 : ¬ (f p9).toInt < (f (2 * p9 + 1)).toInt := fun zq => c48 ((lg_cmp_lt _ _).mpr (Int64.lt_iff_toInt_lt.mpr zq))
            exact q_vret C hP hS ⟨f, rfl, rfl, hsk.end1 (fun c g1 g2 g3 => by rcases (show c = 2 * p9 + 1 ∨ c = 2 * p9 + 1 + 1 by omega) with rfl | rfl <;> omega)⟩ (by omega) dX6_sink_51
        · replace c34 : ¬ (f ((2 * p9 + 1) + 1)).toInt ≤ (f (2 * p9 + 1)).toInt := fun zq => c34 ((lg_cmp_le _ _).mpr (Int64.le_iff_toInt_le.mpr zq))
          refine lv_iinc (v := nI ((2 * p9 + 1) + 1)) (lv' := [(4, .int (nI ((2 * p9 + 1) + 1))), (3, .int (nI p9)), (2, .int (nI n)), (1, .int (nI lo)), (0, .ref a)]) hx hb dX6_sink_37 hl (k := 0) rfl (nI_1 (2 * p9 + 1)) (by decide) rfl (fun ls hl => ?_)
          refine lv_aload_n hx hb dX6_sink_40 rfl (lv_at hl 4 rfl) ?_
          refine lv_iload_n hx hb dX6_sink_41 rfl (lv_at hl 1 rfl) ?_
          refine q_laldN C hP hrw (by omega) (by omega) dX6_sink_42 ?_
          refine lv_aload_n hx hb dX6_sink_43 rfl (lv_at hl 4 rfl) ?_
          refine lv_iload hx hb dX6_sink_44 (lv_at hl 0 rfl) ?_
          refine q_laldN C hP hrw (by omega) (by omega) dX6_sink_46 ?_
          refine W.lcmp hx hb dX6_sink_47 ?_
          refine lv_if_lt (tgt := 52) hx hb dX6_sink_48 (by decide) (fun c48 => ?_) (fun c48 => ?_)
          · replace c48 : (f p9).toInt < (f ((2 * p9 + 1) + 1)).toInt := Int64.lt_iff_toInt_lt.mp ((lg_cmp_lt _ _).mp c48)
            refine lv_aload_n hx hb dX6_sink_52 rfl (lv_at hl 4 rfl) ?_
            refine lv_iload hx hb dX6_sink_53 (lv_at hl 0 rfl) ?_
            refine q_laldN C hP hrw (by omega) (by omega) dX6_sink_55 ?_
            refine lv_lstore (lv' := [(5, .long (f ((2 * p9 + 1) + 1))), (4, .int (nI ((2 * p9 + 1) + 1))), (3, .int (nI p9)), (2, .int (nI n)), (1, .int (nI lo)), (0, .ref a)]) hx hb dX6_sink_56 hl (by decide) rfl (fun ls hl => ?_)
            refine lv_aload_n hx hb dX6_sink_58 rfl (lv_at hl 5 rfl) ?_
            refine lv_iload hx hb dX6_sink_59 (lv_at hl 1 rfl) ?_
            refine lv_aload_n hx hb dX6_sink_61 rfl (lv_at hl 5 rfl) ?_
            refine lv_iload_n hx hb dX6_sink_62 rfl (lv_at hl 2 rfl) ?_
            refine q_laldN C hP hrw (by omega) (by omega) dX6_sink_63 ?_
            refine q_lastN C hP hS (f := f) qs_self (by omega) (by omega) dX6_sink_64 (fun H locs hP hS => ?_)
            rw [qs_qs] at hP
            replace hP : qP D N0 (qs h a (.inl (cy 1, N, .inr (.inl (vp_updL f ((2 * p9 + 1) + 1) (f p9)))))) H := hP
            have hrw : (qs h a (.inl (cy 1, N, .inr (.inl (vp_updL f ((2 * p9 + 1) + 1) (f p9)))))) a = some (.inl (cy 1, N, .inr (.inl (vp_updL f ((2 * p9 + 1) + 1) (f p9))))) := qs_self
            refine lv_aload_n hx hb dX6_sink_65 rfl (lv_at hl 5 rfl) ?_
            refine lv_iload_n hx hb dX6_sink_66 rfl (lv_at hl 2 rfl) ?_
            refine lv_lload hx hb dX6_sink_67 (lv_at hl 0 rfl) ?_
            refine q_lastN C hP hS (f := (vp_updL f ((2 * p9 + 1) + 1) (f p9))) qs_self (by omega) (by omega) dX6_sink_69 (fun H locs hP hS => ?_)
            rw [qs_qs] at hP
            replace hP : qP D N0 (qs h a (.inl (cy 1, N, .inr (.inl (vp_updL (vp_updL f ((2 * p9 + 1) + 1) (f p9)) p9 (f ((2 * p9 + 1) + 1))))))) H := hP
            have hrw : (qs h a (.inl (cy 1, N, .inr (.inl (vp_updL (vp_updL f ((2 * p9 + 1) + 1) (f p9)) p9 (f ((2 * p9 + 1) + 1))))))) a = some (.inl (cy 1, N, .inr (.inl (vp_updL (vp_updL f ((2 * p9 + 1) + 1) (f p9)) p9 (f ((2 * p9 + 1) + 1)))))) := qs_self
            refine lv_iload hx hb dX6_sink_70 (lv_at hl 1 rfl) ?_
            refine lv_istore_n (lv' := [(3, .int (nI ((2 * p9 + 1) + 1))), (5, .long (f ((2 * p9 + 1) + 1))), (4, .int (nI ((2 * p9 + 1) + 1))), (2, .int (nI n)), (1, .int (nI lo)), (0, .ref a)]) hx hb dX6_sink_72 rfl hl (by decide) rfl (fun ls hl => ?_)
            refine lv_iconst (v := nI 2) hx hb dX6_sink_73 (by decide) ?_
            refine lv_iload_n hx hb dX6_sink_74 rfl (lv_at hl 0 rfl) ?_
            refine q_imulN hx hb dX6_sink_75 ?_
            refine lv_iconst (v := nI 1) hx hb dX6_sink_76 (by decide) ?_
            refine q_iaddN hx hb dX6_sink_77 ?_
            refine lv_istore (lv' := [(4, .int (nI ((2 * ((2 * p9 + 1) + 1)) + 1))), (3, .int (nI ((2 * p9 + 1) + 1))), (5, .long (f ((2 * p9 + 1) + 1))), (2, .int (nI n)), (1, .int (nI lo)), (0, .ref a)]) hx hb dX6_sink_78 hl (by decide) rfl (fun ls hl => ?_)
            refine lv_goto (tgt := 9) hx hb dX6_sink_80 (by decide) ?_
            exact ihl ((2 * p9 + 1) + 1) H locs ls _ _ _ (by omega) (lv_sub hl [0, 1, 3, 4, 5] rfl) (hsk.step (by omega) (by omega) (by omega) (by omega) (fun c g1 g2 g3 => by rcases (show c = 2 * p9 + 1 ∨ c = 2 * p9 + 1 + 1 by omega) with rfl | rfl <;> omega)) hP hS hcc
          · replace c48 : ¬ (f p9).toInt < (f ((2 * p9 + 1) + 1)).toInt := fun zq => c48 ((lg_cmp_lt _ _).mpr (Int64.lt_iff_toInt_lt.mpr zq))
            exact q_vret C hP hS ⟨f, rfl, rfl, hsk.end1 (fun c g1 g2 g3 => by rcases (show c = 2 * p9 + 1 ∨ c = 2 * p9 + 1 + 1 by omega) with rfl | rfl <;> omega)⟩ (by omega) dX6_sink_51
theorem nI_m1 (n : Nat) : nI (n + 1) - 1 = nI n := by
  rw [← nI_1 n]
  exact Int32.add_sub_cancel _ _
theorem nI_p1 (n : Nat) : nI (n + 1) + -1 = nI n := by
  rw [← Int32.sub_eq_add_neg]; exact nI_m1 n
theorem dX6_sort_0 : decode cX6_sort 0 = .ok (.iload_n 1, 1) := by decide +kernel
theorem dX6_sort_1 : decode cX6_sort 1 = .ok (.iconst 2, 1) := by decide +kernel
theorem dX6_sort_2 : decode cX6_sort 2 = .ok (.idiv, 1) := by decide +kernel
theorem dX6_sort_3 : decode cX6_sort 3 = .ok (.iconst 1, 1) := by decide +kernel
theorem dX6_sort_4 : decode cX6_sort 4 = .ok (.isub, 1) := by decide +kernel
theorem dX6_sort_5 : decode cX6_sort 5 = .ok (.istore_n 2, 1) := by decide +kernel
theorem dX6_sort_6 : decode cX6_sort 6 = .ok (.iload_n 2, 1) := by decide +kernel
theorem dX6_sort_7 : decode cX6_sort 7 = .ok (.ifCond .lt 15, 3) := by decide +kernel
theorem dX6_sort_10 : decode cX6_sort 10 = .ok (.aload_n 0, 1) := by decide +kernel
theorem dX6_sort_11 : decode cX6_sort 11 = .ok (.iload_n 2, 1) := by decide +kernel
theorem dX6_sort_12 : decode cX6_sort 12 = .ok (.iload_n 1, 1) := by decide +kernel
theorem dX6_sort_13 : decode cX6_sort 13 = .ok (.invokestatic 466, 3) := by decide +kernel
theorem dX6_sort_16 : decode cX6_sort 16 = .ok (.iinc 2 (-1), 3) := by decide +kernel
theorem dX6_sort_19 : decode cX6_sort 19 = .ok (.goto (-13), 3) := by decide +kernel
theorem dX6_sort_22 : decode cX6_sort 22 = .ok (.iload_n 1, 1) := by decide +kernel
theorem dX6_sort_23 : decode cX6_sort 23 = .ok (.iconst 1, 1) := by decide +kernel
theorem dX6_sort_24 : decode cX6_sort 24 = .ok (.isub, 1) := by decide +kernel
theorem dX6_sort_25 : decode cX6_sort 25 = .ok (.istore_n 2, 1) := by decide +kernel
theorem dX6_sort_26 : decode cX6_sort 26 = .ok (.iload_n 2, 1) := by decide +kernel
theorem dX6_sort_27 : decode cX6_sort 27 = .ok (.ifCond .le 29, 3) := by decide +kernel
theorem dX6_sort_30 : decode cX6_sort 30 = .ok (.aload_n 0, 1) := by decide +kernel
theorem dX6_sort_31 : decode cX6_sort 31 = .ok (.iconst 0, 1) := by decide +kernel
theorem dX6_sort_32 : decode cX6_sort 32 = .ok (.laload, 1) := by decide +kernel
theorem dX6_sort_33 : decode cX6_sort 33 = .ok (.lstore_n 3, 1) := by decide +kernel
theorem dX6_sort_34 : decode cX6_sort 34 = .ok (.aload_n 0, 1) := by decide +kernel
theorem dX6_sort_35 : decode cX6_sort 35 = .ok (.iconst 0, 1) := by decide +kernel
theorem dX6_sort_36 : decode cX6_sort 36 = .ok (.aload_n 0, 1) := by decide +kernel
theorem dX6_sort_37 : decode cX6_sort 37 = .ok (.iload_n 2, 1) := by decide +kernel
theorem dX6_sort_38 : decode cX6_sort 38 = .ok (.laload, 1) := by decide +kernel
theorem dX6_sort_39 : decode cX6_sort 39 = .ok (.lastore, 1) := by decide +kernel
theorem dX6_sort_40 : decode cX6_sort 40 = .ok (.aload_n 0, 1) := by decide +kernel
theorem dX6_sort_41 : decode cX6_sort 41 = .ok (.iload_n 2, 1) := by decide +kernel
theorem dX6_sort_42 : decode cX6_sort 42 = .ok (.lload_n 3, 1) := by decide +kernel
theorem dX6_sort_43 : decode cX6_sort 43 = .ok (.lastore, 1) := by decide +kernel
theorem dX6_sort_44 : decode cX6_sort 44 = .ok (.aload_n 0, 1) := by decide +kernel
theorem dX6_sort_45 : decode cX6_sort 45 = .ok (.iconst 0, 1) := by decide +kernel
theorem dX6_sort_46 : decode cX6_sort 46 = .ok (.iload_n 2, 1) := by decide +kernel
theorem dX6_sort_47 : decode cX6_sort 47 = .ok (.invokestatic 466, 3) := by decide +kernel
theorem dX6_sort_50 : decode cX6_sort 50 = .ok (.iinc 2 (-1), 3) := by decide +kernel
theorem dX6_sort_53 : decode cX6_sort 53 = .ok (.goto (-27), 3) := by decide +kernel
theorem dX6_sort_56 : decode cX6_sort 56 = .ok (.return_, 1) := by decide +kernel
set_option maxRecDepth 100000 in
set_option maxHeartbeats 4000000 in
theorem z_sort (l : Launch) (D : va_G) (cy : Nat → ClassId) (N0 : Nat) (h : qH) (a N : Nat) (f0 : Nat → Int64) (n : Nat) (hr : h a = some (.inl (cy 1, N, .inr (.inl f0)))) (hN : N < 1000000) (hn : n ≤ N) : qC l D cy N0 yX6_sort cX6_sort 5 none 4 80 0 0 [.ref a, .int (nI n)] h (fun v h' => ∃ f' : Nat → Int64, v = none ∧ h' = qs h a (.inl (cy 1, N, .inr (.inl f'))) ∧ zSo f0 f' n) (fun E h' => False) := by
  refine q_ofW (by decide) (by exact Nat.le_of_ble_eq_true rfl) ?_
  intro p e s m below meth c ls C hP hl
  have hx := C.1
  have hb := C.2.1
  have hS : va_S (qA N0) s.heap s.heap [] := va_S.rf
  have hl : lv_has ls 5 [(0, .ref a), (1, .int (nI n))] := hl
  refine lv_iload_n hx hb dX6_sort_0 rfl (lv_at hl 1 rfl) ?_
  refine lv_iconst (v := nI 2) hx hb dX6_sort_1 (by decide) ?_
  refine q_idivN hx hb dX6_sort_2 (by omega) ?_
  refine lv_iconst (v := nI 1) hx hb dX6_sort_3 (by decide) ?_
  refine lv_isub hx hb dX6_sort_4 ?_
  refine lv_istore_n (lv' := [(2, .int (nI (n / 2) - 1)), (0, .ref a), (1, .int (nI n))]) hx hb dX6_sort_5 rfl hl (by decide) rfl (fun ls hl => ?_)
  rw [← qs_id hr] at hP
  refine (?_ : ∀ (q9 : Nat) (H : Heap) (locs : List Loc) (ls : Array Slot) (f : Nat → Int64) (c1 c2 : Nat), lv_has ls 5 [(2, .int (nI q9 - 1)), (1, .int (nI n)), (0, .ref a)] → q9 ≤ n / 2 ∧ zHq f q9 n (fun _ => True) ∧ (zRl f n).Perm (zRl f0 n) ∧ (∀ j, n ≤ j → f j = f0 j) → qP D N0 (qs h a (.inl (cy 1, N, .inr (.inl f)))) H → va_S (qA N0) s.heap H locs → c1 ≤ 0 ∧ c2 ≤ 0 → W p l e _ s m _ below meth c H locs c1 c2 _ (F0 m 6 ls [])) (n / 2) _ _ ls f0 _ _ (lv_sub hl [0, 2, 1] rfl) ⟨Nat.le_refl _, fun c g1 g2 g3 _ => by omega, List.Perm.refl _, fun _ _ => rfl⟩ hP hS ⟨by omega, by omega⟩
  clear hl hP hS
  intro q9
  induction q9 with
  | zero =>
    intro H locs ls f c1 c2 hl hcp hP hS hcc
    rw [show nI 0 - 1 = (-1 : Int32) by decide] at hl
    refine lv_iload_n hx hb dX6_sort_6 rfl (lv_at hl 0 rfl) ?_
    refine lv_if_lt (tgt := 22) hx hb dX6_sort_7 (by decide) (fun _ => ?_) (fun z => absurd (by decide) z)
    by_cases hn0 : n = 0
    · subst hn0
      refine lv_iload_n hx hb dX6_sort_22 rfl (lv_at hl 1 rfl) ?_
      refine lv_iconst (v := nI 1) hx hb dX6_sort_23 (by decide) ?_
      refine lv_isub hx hb dX6_sort_24 ?_
      rw [show nI 0 - nI 1 = (-1 : Int32) by decide]
      refine lv_istore_n (lv' := [(2, .int (-1)), (1, .int (nI 0)), (0, .ref a)]) hx hb dX6_sort_25 rfl hl (by decide) rfl (fun ls hl => ?_)
      refine lv_iload_n hx hb dX6_sort_26 rfl (lv_at hl 0 rfl) ?_
      refine lv_if_le (tgt := 56) hx hb dX6_sort_27 (by decide) (fun _ => ?_) (fun z => absurd (by decide) z)
      exact q_vret C hP hS ⟨f, rfl, rfl, hcp.2.2.1, fun i j g1 g2 => absurd g2 (Nat.not_lt_zero _), hcp.2.2.2⟩ (by omega) dX6_sort_56
    · refine lv_iload_n hx hb dX6_sort_22 rfl (lv_at hl 1 rfl) ?_
      refine lv_iconst (v := nI 1) hx hb dX6_sort_23 (by decide) ?_
      refine lv_isub hx hb dX6_sort_24 ?_
      rw [show nI n - nI 1 = nI (n - 1) by have := nI_m1 (n - 1); rw [show n - 1 + 1 = n by omega] at this; exact this]
      refine lv_istore_n (lv' := [(2, .int (nI (n - 1))), (1, .int (nI n)), (0, .ref a)]) hx hb dX6_sort_25 rfl hl (by decide) rfl (fun ls hl => ?_)
      refine (?_ : ∀ (q9 : Nat) (H : Heap) (locs : List Loc) (ls : Array Slot) (f : Nat → Int64) (c1 c2 : Nat), lv_has ls 5 [(2, .int (nI q9)), (1, .int (nI n)), (0, .ref a)] → zSt f0 f n q9 → qP D N0 (qs h a (.inl (cy 1, N, .inr (.inl f)))) H → va_S (qA N0) s.heap H locs → c1 ≤ 0 ∧ c2 ≤ 0 → W p l e _ s m _ below meth c H locs c1 c2 _ (F0 m 26 ls [])) (n - 1) _ _ ls f _ _ (lv_sub hl [0, 1, 2] rfl) (zSt.init hcp.2.1 hcp.2.2.1 (by omega) hcp.2.2.2) hP hS hcc
      clear hl hP hS hcp
      intro q9
      induction q9 with
      | zero =>
        intro H locs ls f c1 c2 hl hst hP hS hcc
        have hq9 := hst.1
        refine lv_iload_n hx hb dX6_sort_26 rfl (lv_at hl 0 rfl) ?_
        refine lv_if_le (tgt := 56) hx hb dX6_sort_27 (by decide) (fun _ => ?_) (fun z => absurd (by decide) z)
        exact q_vret C hP hS ⟨f, rfl, rfl, hst.so (by omega)⟩ (by omega) dX6_sort_56
      | succ q9 ihl =>
        intro H locs ls f c1 c2 hl hst hP hS hcc
        have hq9 := hst.1
        refine lv_iload_n hx hb dX6_sort_26 rfl (lv_at hl 0 rfl) ?_
        refine lv_if_le (tgt := 56) hx hb dX6_sort_27 (by decide) (fun z => absurd ((nI_leI (a := q9 + 1) (b := 0) (by omega) (by omega)).mp z) (by omega)) (fun _ => ?_)
        refine lv_aload_n hx hb dX6_sort_30 rfl (lv_at hl 2 rfl) ?_
        refine lv_iconst (v := nI 0) hx hb dX6_sort_31 (by decide) ?_
        refine q_laldN C hP qs_self (by omega) (by omega) dX6_sort_32 ?_
        refine lv_lstore_n (lv' := [(3, .long (f 0)), (2, .int (nI (q9 + 1))), (1, .int (nI n)), (0, .ref a)]) hx hb dX6_sort_33 rfl hl (by decide) rfl (fun ls hl => ?_)
        refine lv_aload_n hx hb dX6_sort_34 rfl (lv_at hl 3 rfl) ?_
        refine lv_iconst (v := nI 0) hx hb dX6_sort_35 (by decide) ?_
        refine lv_aload_n hx hb dX6_sort_36 rfl (lv_at hl 3 rfl) ?_
        refine lv_iload_n hx hb dX6_sort_37 rfl (lv_at hl 1 rfl) ?_
        refine q_laldN C hP qs_self (by omega) (by omega) dX6_sort_38 ?_
        refine q_lastN C hP hS (f := f) qs_self (by omega) (by omega) dX6_sort_39 (fun H locs hP hS => ?_)
        rw [qs_qs] at hP
        replace hP : qP D N0 (qs h a (.inl (cy 1, N, .inr (.inl (vp_updL f 0 (f (q9 + 1))))))) H := hP
        have hrw : (qs h a (.inl (cy 1, N, .inr (.inl (vp_updL f 0 (f (q9 + 1))))))) a = some (.inl (cy 1, N, .inr (.inl (vp_updL f 0 (f (q9 + 1)))))) := qs_self
        refine lv_aload_n hx hb dX6_sort_40 rfl (lv_at hl 3 rfl) ?_
        refine lv_iload_n hx hb dX6_sort_41 rfl (lv_at hl 1 rfl) ?_
        refine lv_lload_n hx hb dX6_sort_42 rfl (lv_at hl 0 rfl) ?_
        refine q_lastN C hP hS (f := (vp_updL f 0 (f (q9 + 1)))) qs_self (by omega) (by omega) dX6_sort_43 (fun H locs hP hS => ?_)
        rw [qs_qs] at hP
        replace hP : qP D N0 (qs h a (.inl (cy 1, N, .inr (.inl (vp_updL (vp_updL f 0 (f (q9 + 1))) (q9 + 1) (f 0)))))) H := hP
        have hrw : (qs h a (.inl (cy 1, N, .inr (.inl (vp_updL (vp_updL f 0 (f (q9 + 1))) (q9 + 1) (f 0)))))) a = some (.inl (cy 1, N, .inr (.inl (vp_updL (vp_updL f 0 (f (q9 + 1))) (q9 + 1) (f 0))))) := qs_self
        refine lv_aload_n hx hb dX6_sort_44 rfl (lv_at hl 3 rfl) ?_
        refine lv_iconst (v := nI 0) hx hb dX6_sort_45 (by decide) ?_
        refine lv_iload_n hx hb dX6_sort_46 rfl (lv_at hl 1 rfl) ?_
        refine q_callS (rest := []) C (z_sink l D cy N0 (qs h a (.inl (cy 1, N, .inr (.inl (vp_updL (vp_updL f 0 (f (q9 + 1))) (q9 + 1) (f 0)))))) a N (vp_updL (vp_updL f 0 (f (q9 + 1))) (q9 + 1) (f 0)) (q9 + 1) 0 qs_self hN (by omega) (by omega) hst.pre) kX6_sink g926 g927 hP hS (by first | decide | omega) hl.1 rfl (by decide) (by first | decide | omega) dX6_sort_47 (fun q ce E h' H1 locs1 hE => hE.elim) (fun v hh1 H locs hq hP hS => ?_)
        obtain ⟨f3, rfl, rfl, hsd⟩ := hq
        rw [qs_qs] at hP
        obtain ⟨z1, ez1⟩ : ∃ y : Int32, y = (nI (q9 + 1)) + -1 := ⟨_, rfl⟩
        refine lv_iinc (v := z1) (lv' := [(2, .int z1), (3, .long (f 0)), (1, .int (nI n)), (0, .ref a)]) hx hb dX6_sort_50 hl (k := 1) rfl (by rw [ez1]; rfl) (by decide) rfl (fun ls hl => ?_)
        obtain rfl : z1 = nI q9 := ez1.trans (nI_p1 q9)
        refine lv_goto (tgt := 26) hx hb dX6_sort_53 (by decide) ?_
        exact ihl H locs ls f3 _ _ (lv_sub hl [0, 2, 3] rfl) (hst.step (by omega) hsd) hP hS hcc
  | succ q9 ihl =>
    intro H locs ls f c1 c2 hl hcp hP hS hcc
    rw [show nI (q9 + 1) - 1 = nI q9 from nI_m1 q9] at hl
    refine lv_iload_n hx hb dX6_sort_6 rfl (lv_at hl 0 rfl) ?_
    refine lv_if_lt (tgt := 22) hx hb dX6_sort_7 (by decide) (fun z => absurd z (nI_pos (by omega))) (fun _ => ?_)
    refine lv_aload_n hx hb dX6_sort_10 rfl (lv_at hl 2 rfl) ?_
    refine lv_iload_n hx hb dX6_sort_11 rfl (lv_at hl 0 rfl) ?_
    refine lv_iload_n hx hb dX6_sort_12 rfl (lv_at hl 1 rfl) ?_
    refine q_callS (rest := []) C (z_sink l D cy N0 (qs h a (.inl (cy 1, N, .inr (.inl f)))) a N f n q9 qs_self hN (by omega) (by omega) hcp.2.1) kX6_sink g926 g927 hP hS (by first | decide | omega) hl.1 rfl (by decide) (by first | decide | omega) dX6_sort_13 (fun q ce E h' H1 locs1 hE => hE.elim) (fun v hh2 H locs hq hP hS => ?_)
    obtain ⟨f3, rfl, rfl, hsd⟩ := hq
    rw [qs_qs] at hP
    obtain ⟨z2, ez2⟩ : ∃ y : Int32, y = (nI q9) + -1 := ⟨_, rfl⟩
    refine lv_iinc (v := z2) (lv' := [(2, .int z2), (1, .int (nI n)), (0, .ref a)]) hx hb dX6_sort_16 hl (k := 0) rfl (by rw [ez2]; rfl) (by decide) rfl (fun ls hl => ?_)
    obtain rfl : z2 = nI q9 - 1 := ez2.trans (Int32.sub_eq_add_neg ..).symm
    refine lv_goto (tgt := 6) hx hb dX6_sort_19 (by decide) ?_
    exact ihl H locs ls f3 _ _ (lv_sub hl [0, 1, 2] rfl) ⟨by omega, hsd.1, hsd.2.1.trans hcp.2.2.1, fun j hj => (hsd.2.2 j (Or.inr hj)).trans (hcp.2.2.2 j hj)⟩ hP hS hcc
