theorem q_ndiv2 {x : Nat} (h : x < 2 ^ 31) : nI x / nI 2 = nI (x / 2) := by
  apply Int32.toInt_inj.mp
  rw [Int32.toInt_div_of_ne_right _ _ (by decide), nI_toInt h, nI_toInt (by decide), nI_toInt (by omega)]
  rfl
section QROWSN2
variable {p : Program} {l : Launch} {e : Env} {R : Room} {s : State} {m : MethodId} {args : Array Value} {below : List Frame} {meth : Method} {c : Code} {H : Heap} {locs : List Loc} {cells slots : Nat} {Q : State → Prop}
variable {cc : ByteArray} {pc : Nat} {ls : Array Slot} {rest : List Value} {x y : Nat}
theorem q_idivN (hexec : p.tables.exec = Jvm.exec) (hb : c.code = cc) (hdg : decode cc pc = .ok (.idiv, 1)) (hx : x < 2 ^ 31) (k : W p l e R s m args below meth c H locs cells slots Q (F0 m (pc + 1) ls (.int (nI (x / 2)) :: rest))) : W p l e R s m args below meth c H locs cells slots Q (F0 m pc ls (.int (nI 2) :: .int (nI x) :: rest)) :=
  lv_idiv hexec hb hdg (by decide) (by rw [q_ndiv2 hx]; exact k)
end QROWSN2
/-- the elements of a row from lo on, m of them, with keys 0 -/
def qRl (f : Nat → Int64) : Nat → Nat → qKV
  | _, 0 => []
  | lo, m + 1 => (0, f lo) :: qRl f (lo + 1) m
theorem qRl_app {f : Nat → Int64} : ∀ (a lo b : Nat), qRl f lo (a + b) = qRl f lo a ++ qRl f (lo + a) b
  | 0, lo, b => by rw [Nat.zero_add]; rfl
  | a + 1, lo, b => by
    rw [show a + 1 + b = (a + b) + 1 by omega]
    show (0, f lo) :: qRl f (lo + 1) (a + b) = (0, f lo) :: (qRl f (lo + 1) a ++ qRl f (lo + (a + 1)) b)
    rw [qRl_app a (lo + 1) b, show lo + 1 + a = lo + (a + 1) by omega]
theorem qRl_len {f : Nat → Int64} : ∀ (m lo : Nat), (qRl f lo m).length = m
  | 0, _ => rfl
  | m + 1, lo => by
    show (qRl f (lo + 1) m).length + 1 = m + 1
    rw [qRl_len m (lo + 1)]
theorem qRl_cut {f : Nat → Int64} {lo hi mid : Nat} (h1 : lo ≤ mid) (h2 : mid < hi) : qRl f lo (hi - lo) = qRl f lo (mid - lo) ++ (0, f mid) :: qRl f (mid + 1) (hi - (mid + 1)) := by
  have e := qRl_app (f := f) (mid - lo) lo (hi - (mid + 1) + 1)
  rw [show mid - lo + (hi - (mid + 1) + 1) = hi - lo by omega, show lo + (mid - lo) = mid by omega] at e
  exact e
theorem qRl_no {f : Nat → Int64} {lo m : Nat} (h : m = 0) : qRl f lo m = [] := by subst h; rfl
theorem qs_same {h : qH} {a : Nat} {o : va_E} (e : h a = some o) : qs h a o = h := by
  funext b
  by_cases q : b = a
  · subst q; rw [qs_self, e]
  · rw [qs_ne q]
theorem qLg_0 : ∀ d : Nat, qLg d 0 = 0
  | 0 => rfl
  | _ + 1 => rfl
theorem dX0_ofRow_0 : decode cX0_ofRow 0 = .ok (.iload_n 1, 1) := by decide +kernel
theorem dX0_ofRow_1 : decode cX0_ofRow 1 = .ok (.ifCond .lt 14, 3) := by decide +kernel
theorem dX0_ofRow_4 : decode cX0_ofRow 4 = .ok (.iload_n 1, 1) := by decide +kernel
theorem dX0_ofRow_5 : decode cX0_ofRow 5 = .ok (.iload_n 2, 1) := by decide +kernel
theorem dX0_ofRow_6 : decode cX0_ofRow 6 = .ok (.if_icmp .ge 9, 3) := by decide +kernel
theorem dX0_ofRow_9 : decode cX0_ofRow 9 = .ok (.iload_n 2, 1) := by decide +kernel
theorem dX0_ofRow_10 : decode cX0_ofRow 10 = .ok (.aload_n 0, 1) := by decide +kernel
theorem dX0_ofRow_11 : decode cX0_ofRow 11 = .ok (.arraylength, 1) := by decide +kernel
theorem dX0_ofRow_12 : decode cX0_ofRow 12 = .ok (.if_icmp .le 5, 3) := by decide +kernel
theorem dX0_ofRow_15 : decode cX0_ofRow 15 = .ok (.aconst_null, 1) := by decide +kernel
theorem dX0_ofRow_16 : decode cX0_ofRow 16 = .ok (.areturn, 1) := by decide +kernel
theorem dX0_ofRow_17 : decode cX0_ofRow 17 = .ok (.iload_n 1, 1) := by decide +kernel
theorem dX0_ofRow_18 : decode cX0_ofRow 18 = .ok (.iload_n 2, 1) := by decide +kernel
theorem dX0_ofRow_19 : decode cX0_ofRow 19 = .ok (.iadd, 1) := by decide +kernel
theorem dX0_ofRow_20 : decode cX0_ofRow 20 = .ok (.iconst 2, 1) := by decide +kernel
theorem dX0_ofRow_21 : decode cX0_ofRow 21 = .ok (.idiv, 1) := by decide +kernel
theorem dX0_ofRow_22 : decode cX0_ofRow 22 = .ok (.istore_n 3, 1) := by decide +kernel
theorem dX0_ofRow_23 : decode cX0_ofRow 23 = .ok (.new 8, 3) := by decide +kernel
theorem dX0_ofRow_26 : decode cX0_ofRow 26 = .ok (.dup, 1) := by decide +kernel
theorem dX0_ofRow_27 : decode cX0_ofRow 27 = .ok (.aload_n 0, 1) := by decide +kernel
theorem dX0_ofRow_28 : decode cX0_ofRow 28 = .ok (.iload_n 1, 1) := by decide +kernel
theorem dX0_ofRow_29 : decode cX0_ofRow 29 = .ok (.iload_n 3, 1) := by decide +kernel
theorem dX0_ofRow_30 : decode cX0_ofRow 30 = .ok (.invokestatic 67, 3) := by decide +kernel
theorem dX0_ofRow_33 : decode cX0_ofRow 33 = .ok (.lconst 0, 1) := by decide +kernel
theorem dX0_ofRow_34 : decode cX0_ofRow 34 = .ok (.aload_n 0, 1) := by decide +kernel
theorem dX0_ofRow_35 : decode cX0_ofRow 35 = .ok (.iload_n 3, 1) := by decide +kernel
theorem dX0_ofRow_36 : decode cX0_ofRow 36 = .ok (.laload, 1) := by decide +kernel
theorem dX0_ofRow_37 : decode cX0_ofRow 37 = .ok (.aload_n 0, 1) := by decide +kernel
theorem dX0_ofRow_38 : decode cX0_ofRow 38 = .ok (.iload_n 3, 1) := by decide +kernel
theorem dX0_ofRow_39 : decode cX0_ofRow 39 = .ok (.iconst 1, 1) := by decide +kernel
theorem dX0_ofRow_40 : decode cX0_ofRow 40 = .ok (.iadd, 1) := by decide +kernel
theorem dX0_ofRow_41 : decode cX0_ofRow 41 = .ok (.iload_n 2, 1) := by decide +kernel
theorem dX0_ofRow_42 : decode cX0_ofRow 42 = .ok (.invokestatic 67, 3) := by decide +kernel
theorem dX0_ofRow_45 : decode cX0_ofRow 45 = .ok (.invokespecial 41, 3) := by decide +kernel
theorem dX0_ofRow_48 : decode cX0_ofRow 48 = .ok (.areturn, 1) := by decide +kernel
set_option maxRecDepth 100000 in
set_option maxHeartbeats 4000000 in
theorem c_X0_ofRow (l : Launch) (D : va_G) (cy : Nat → ClassId) (N0 : Nat) (s : Nat) : ∀ (h : qH) (a N : Nat) (f : Nat → Int64) (lo hi d : Nat) (hrow : h a = some (.inl (cy 1, N, .inr (.inl f)))) (hhi : hi ≤ N) (hN : N < 1000000) (hlo : lo < 1000000) (hd : hi - lo ≤ d) (hs : d < s), qC l D cy N0 yX0_ofRow cX0_ofRow 4 (some (.object RX0)) (2 + d) (40 + 23 * d) (hi - lo) (6 * (hi - lo)) [.ref a, .int (nI lo), .int (nI hi)] h (fun v h' => ∃ (r9 : Option Nat) (n9 : Nat), v = some (va_rf r9) ∧ qle h h' ∧ qBr h' n9 r9 (qRl f lo (hi - lo)) ∧ n9 = qLg d (hi - lo)) (fun E h' => False) := by
  induction s with
  | zero => intro h a N f lo hi d hrow hhi hN hlo hd hs; exact absurd hs (Nat.not_lt_zero _)
  | succ s ih =>
    intro h a N f lo hi d hrow hhi hN hlo hd hs
    refine q_ofW (by decide) (by exact Nat.le_of_ble_eq_true rfl) ?_
    intro p e s m below meth c ls C hP hl
    have hx := C.1
    have hb := C.2.1
    have hS : va_S (qA N0) s.heap s.heap [] := va_S.rf
    have hl : lv_has ls 4 [(0, .ref a), (1, .int (nI lo)), (2, .int (nI hi))] := hl
    have hle : qle h h := qle_rf
    refine lv_iload_n hx hb dX0_ofRow_0 rfl (lv_at hl 1 rfl) ?_
    refine lv_if_lt (tgt := 15) hx hb dX0_ofRow_1 (by decide) (fun c1 => ?_) (fun c1 => ?_)
    · replace c1 : lo < 0 := (nI_ltI (a := lo) (b := 0) (by omega) (by omega)).mp c1
      exfalso; omega
    · replace c1 : ¬ lo < 0 := fun zq => c1 ((nI_ltI (a := lo) (b := 0) (by omega) (by omega)).mpr zq)
      refine lv_iload_n hx hb dX0_ofRow_4 rfl (lv_at hl 1 rfl) ?_
      refine lv_iload_n hx hb dX0_ofRow_5 rfl (lv_at hl 2 rfl) ?_
      refine lv_icmp_ge (tgt := 15) hx hb dX0_ofRow_6 (by decide) (fun c6 => ?_) (fun c6 => ?_)
      · replace c6 : hi ≤ lo := (nI_leI (a := hi) (b := lo) (by omega) (by omega)).mp c6
        refine lv_null hx hb dX0_ofRow_15 ?_
        exact q_aret (v := none) C (Or.inl ⟨_, rfl⟩) hP hS ⟨none, 0, rfl, hle, by rw [qRl_no (by omega)]; exact qBr.nil, by rw [show hi - lo = 0 by omega, qLg_0]⟩ (by omega) dX0_ofRow_16
      · replace c6 : ¬ hi ≤ lo := fun zq => c6 ((nI_leI (a := hi) (b := lo) (by omega) (by omega)).mpr zq)
        refine lv_iload_n hx hb dX0_ofRow_9 rfl (lv_at hl 2 rfl) ?_
        refine lv_aload_n hx hb dX0_ofRow_10 rfl (lv_at hl 0 rfl) ?_
        refine q_alen C hP hrow rfl dX0_ofRow_11 ?_
        refine lv_icmp_le (tgt := 17) hx hb dX0_ofRow_12 (by decide) (fun c12 => ?_) (fun c12 => ?_)
        · replace c12 : hi ≤ N := (nI_leI (a := hi) (b := N) (by omega) (by omega)).mp c12
          obtain ⟨d', rfl⟩ : ∃ d', d = d' + 1 := ⟨d - 1, by omega⟩
          have e1 := qLg_mono d' (show hi - ((lo + hi) / 2 + 1) ≤ (lo + hi) / 2 - lo by omega)
          have e2 := Nat.le_trans (qLg_mono d' (show (lo + hi) / 2 - lo ≤ (hi - ((lo + hi) / 2 + 1)) + 1 by omega)) (qLg_near d' _)
          have e3 : qLg (d' + 1) (hi - lo) = qLg d' ((lo + hi) / 2 - lo) + 1 := by
            show (if hi - lo = 0 then _ else _) = _
            rw [if_neg (by omega), show (hi - lo) / 2 = (lo + hi) / 2 - lo by omega]
          have e4 := qLg_le d' ((lo + hi) / 2 - lo)
          refine lv_iload_n hx hb dX0_ofRow_17 rfl (lv_at hl 1 rfl) ?_
          refine lv_iload_n hx hb dX0_ofRow_18 rfl (lv_at hl 2 rfl) ?_
          refine q_iaddN hx hb dX0_ofRow_19 ?_
          refine lv_iconst (v := nI 2) hx hb dX0_ofRow_20 (by decide) ?_
          refine q_idivN hx hb dX0_ofRow_21 (by omega) ?_
          refine lv_istore_n (lv' := [(3, .int (nI ((lo + hi) / 2))), (0, .ref a), (1, .int (nI lo)), (2, .int (nI hi))]) hx hb dX0_ofRow_22 rfl hl (by decide) rfl (fun ls hl => ?_)
          refine q_new (ci := 0) (fs := [.null, .long 0, .long 0, .null, .int 0, .int 0]) C hP hS rfl inX0 tyX0 tyX0_ok g485 g486 g11 (fun j hj => by rcases (show j = 0 ∨ j = 1 ∨ j = 2 ∨ j = 3 ∨ j = 4 ∨ j = 5 by omega) with rfl | rfl | rfl | rfl | rfl | rfl <;> rfl) (by first | decide | omega) (by first | decide | omega) dX0_ofRow_23 (fun q23 H eq23 hP hS => ?_)
          obtain ⟨hv1, ehv1⟩ : ∃ z : qH, z = qs h q23 (.inr (0, [.null, .long 0, .long 0, .null, .int 0, .int 0])) := ⟨_, rfl⟩
          rw [← ehv1] at hP
          have khv1 : ∀ b o, b ≠ q23 → h b = some o → hv1 b = some o := by rw [ehv1]; exact fun b o nb hb => (qs_ne nb).trans hb
          have kp : qKp h hv1 := fun b o hb _ => khv1 b o (qne_of eq23 hb) hb
          clear kp
          have n_q23_a : a ≠ q23 := qne_of eq23 hrow
          replace hrow := khv1 _ _ n_q23_a hrow
          have oq23 := qle_none hle eq23
          replace hle : qle h hv1 := fun b o hb => khv1 b o (qne_of oq23 hb) (hle b o hb)
          have fq23 : hv1 q23 = some (.inr (0, [.null, .long 0, .long 0, .null, .int 0, .int 0])) := by rw [ehv1]; exact qs_self
          clear ehv1
          refine lv_dup hx hb dX0_ofRow_26 rfl ?_
          refine lv_aload_n hx hb dX0_ofRow_27 rfl (lv_at hl 1 rfl) ?_
          refine lv_iload_n hx hb dX0_ofRow_28 rfl (lv_at hl 2 rfl) ?_
          refine lv_iload_n hx hb dX0_ofRow_29 rfl (lv_at hl 0 rfl) ?_
          refine q_callS (rest := [.ref q23, .ref q23]) C (ih hv1 a N f lo ((lo + hi) / 2) d' hrow (by omega) (by omega) (by omega) (by omega) (by omega)) kX0_ofRow g946 g944 hP hS (by first | decide | omega) hl.1 rfl (by simp [q_catrf, q_cati, q_catl, q_cata, q_catn]) (by first | decide | omega) dX0_ofRow_30 (fun q ce E h' H1 locs1 hE => hE.elim) (fun v hh1 H locs hq hP hS => ?_)
          obtain ⟨r73, n73, rfl, hl73, b73, w73⟩ := hq
          replace hrow := hl73 _ _ hrow
          replace fq23 := hl73 _ _ fq23
          replace hle := qle_tr hle hl73
          have z73 := b73.len
          try simp only [List.length_append, List.length_cons, List.length_nil] at z73
          rw [qRl_len] at z73
          refine lv_lconst (v := 0) hx hb dX0_ofRow_33 (by decide) ?_
          refine lv_aload_n hx hb dX0_ofRow_34 rfl (lv_at hl 1 rfl) ?_
          refine lv_iload_n hx hb dX0_ofRow_35 rfl (lv_at hl 0 rfl) ?_
          refine q_laldN C hP hrow (by omega) (by omega) dX0_ofRow_36 ?_
          refine lv_aload_n hx hb dX0_ofRow_37 rfl (lv_at hl 1 rfl) ?_
          refine lv_iload_n hx hb dX0_ofRow_38 rfl (lv_at hl 0 rfl) ?_
          refine lv_iconst (v := nI 1) hx hb dX0_ofRow_39 (by decide) ?_
          refine q_iaddN hx hb dX0_ofRow_40 ?_
          refine lv_iload_n hx hb dX0_ofRow_41 rfl (lv_at hl 3 rfl) ?_
          refine q_callS (rest := [.long (f ((lo + hi) / 2)), .long 0, va_rf r73, .ref q23, .ref q23]) C (ih hh1 a N f (((lo + hi) / 2) + 1) hi d' hrow (by omega) (by omega) (by omega) (by omega) (by omega)) kX0_ofRow g946 g944 hP hS (by first | decide | omega) hl.1 rfl (by simp [q_catrf, q_cati, q_catl, q_cata, q_catn]) (by first | decide | omega) dX0_ofRow_42 (fun q ce E h' H1 locs1 hE => hE.elim) (fun v hh2 H locs hq hP hS => ?_)
          obtain ⟨r74, n74, rfl, hl74, b74, w74⟩ := hq
          replace hrow := hl74 _ _ hrow
          replace fq23 := hl74 _ _ fq23
          replace b73 := b73.le hl74
          replace hle := qle_tr hle hl74
          have z74 := b74.len
          try simp only [List.length_append, List.length_cons, List.length_nil] at z74
          rw [qRl_len] at z74
          refine q_callI (rest := [.ref q23]) C (c_X0_init l D cy N0 hh2 q23 r73 0 (f ((lo + hi) / 2)) r74 n73 n74 (max n73 n74 + 1) (qRl f lo (((lo + hi) / 2) - lo)) (qRl f (((lo + hi) / 2) + 1) (hi - (((lo + hi) / 2) + 1))) fq23 b73 b74 (by omega) (by omega)) kX0_init g487 g488 rfl hP hS (by first | decide | omega) hl.1 rfl (by simp [q_catrf, q_cati, q_catl, q_cata, q_catn]) (by first | decide | omega) dX0_ofRow_45 (fun v hh3 H locs hq hP hS => ?_)
          obtain ⟨rfl, rfl⟩ := hq
          replace hP : qP D N0 (qs hh2 q23 (.inr (0, [va_rf r73, .long 0, .long (f ((lo + hi) / 2)), va_rf r74, .int (nI (max n73 n74 + 1)), .int (nI ((qRl f lo (((lo + hi) / 2) - lo)).length + 1 + (qRl f (((lo + hi) / 2) + 1) (hi - (((lo + hi) / 2) + 1))).length))]))) H := hP
          obtain ⟨hv2, ehv2⟩ : ∃ z : qH, z = qs hh2 q23 (.inr (0, [va_rf r73, .long 0, .long (f ((lo + hi) / 2)), va_rf r74, .int (nI (max n73 n74 + 1)), .int (nI ((qRl f lo (((lo + hi) / 2) - lo)).length + 1 + (qRl f (((lo + hi) / 2) + 1) (hi - (((lo + hi) / 2) + 1))).length))])) := ⟨_, rfl⟩
          rw [← ehv2] at hP
          have khv2 : ∀ b o, b ≠ q23 → hh2 b = some o → hv2 b = some o := by rw [ehv2]; exact fun b o nb hb => (qs_ne nb).trans hb
          have kp : qKp hh2 hv2 := fun b o hb nb => khv2 b o (fun q => by subst q; exact nb (Option.some.inj (hb.symm.trans fq23))) hb
          replace b73 := b73.kp kp
          replace b74 := b74.kp kp
          clear kp
          replace hrow := khv2 _ _ n_q23_a hrow
          replace hle : qle h hv2 := fun b o hb => khv2 b o (qne_of oq23 hb) (hle b o hb)
          replace fq23 : hv2 q23 = some (.inr (0, [va_rf r73, .long 0, .long (f ((lo + hi) / 2)), va_rf r74, .int (nI (max n73 n74 + 1)), .int (nI ((qRl f lo (((lo + hi) / 2) - lo)).length + 1 + (qRl f (((lo + hi) / 2) + 1) (hi - (((lo + hi) / 2) + 1))).length))])) := by rw [ehv2]; exact qs_self
          clear ehv2
          have bq23 := qBr.mk fq23 b73 b74 ⟨by omega, by omega, by omega, by omega, by omega, by omega⟩
          exact q_aret (v := (some q23)) C (Or.inl ⟨_, rfl⟩) hP hS ⟨(some q23), (max n73 n74 + 1), rfl, hle, by rw [qRl_cut (mid := (lo + hi) / 2) (by omega) (by omega)]; exact bq23, by omega⟩ (by omega) dX0_ofRow_48
        · replace c12 : ¬ hi ≤ N := fun zq => c12 ((nI_leI (a := hi) (b := N) (by omega) (by omega)).mpr zq)
          exfalso; omega

theorem dX0_pourValues_0 : decode cX0_pourValues 0 = .ok (.aload_n 0, 1) := by decide +kernel
theorem dX0_pourValues_1 : decode cX0_pourValues 1 = .ok (.ifnonnull 5, 3) := by decide +kernel
theorem dX0_pourValues_4 : decode cX0_pourValues 4 = .ok (.iload_n 2, 1) := by decide +kernel
theorem dX0_pourValues_5 : decode cX0_pourValues 5 = .ok (.ireturn, 1) := by decide +kernel
theorem dX0_pourValues_6 : decode cX0_pourValues 6 = .ok (.aload_n 0, 1) := by decide +kernel
theorem dX0_pourValues_7 : decode cX0_pourValues 7 = .ok (.getfield 7, 3) := by decide +kernel
theorem dX0_pourValues_10 : decode cX0_pourValues 10 = .ok (.aload_n 1, 1) := by decide +kernel
theorem dX0_pourValues_11 : decode cX0_pourValues 11 = .ok (.iload_n 2, 1) := by decide +kernel
theorem dX0_pourValues_12 : decode cX0_pourValues 12 = .ok (.invokestatic 71, 3) := by decide +kernel
theorem dX0_pourValues_15 : decode cX0_pourValues 15 = .ok (.istore_n 3, 1) := by decide +kernel
theorem dX0_pourValues_16 : decode cX0_pourValues 16 = .ok (.iload_n 3, 1) := by decide +kernel
theorem dX0_pourValues_17 : decode cX0_pourValues 17 = .ok (.ifCond .lt 9, 3) := by decide +kernel
theorem dX0_pourValues_20 : decode cX0_pourValues 20 = .ok (.iload_n 3, 1) := by decide +kernel
theorem dX0_pourValues_21 : decode cX0_pourValues 21 = .ok (.aload_n 1, 1) := by decide +kernel
theorem dX0_pourValues_22 : decode cX0_pourValues 22 = .ok (.arraylength, 1) := by decide +kernel
theorem dX0_pourValues_23 : decode cX0_pourValues 23 = .ok (.if_icmp .lt 5, 3) := by decide +kernel
theorem dX0_pourValues_28 : decode cX0_pourValues 28 = .ok (.aload_n 1, 1) := by decide +kernel
theorem dX0_pourValues_29 : decode cX0_pourValues 29 = .ok (.iload_n 3, 1) := by decide +kernel
theorem dX0_pourValues_30 : decode cX0_pourValues 30 = .ok (.aload_n 0, 1) := by decide +kernel
theorem dX0_pourValues_31 : decode cX0_pourValues 31 = .ok (.getfield 17, 3) := by decide +kernel
theorem dX0_pourValues_34 : decode cX0_pourValues 34 = .ok (.lastore, 1) := by decide +kernel
theorem dX0_pourValues_35 : decode cX0_pourValues 35 = .ok (.aload_n 0, 1) := by decide +kernel
theorem dX0_pourValues_36 : decode cX0_pourValues 36 = .ok (.getfield 20, 3) := by decide +kernel
theorem dX0_pourValues_39 : decode cX0_pourValues 39 = .ok (.aload_n 1, 1) := by decide +kernel
theorem dX0_pourValues_40 : decode cX0_pourValues 40 = .ok (.iload_n 3, 1) := by decide +kernel
theorem dX0_pourValues_41 : decode cX0_pourValues 41 = .ok (.iconst 1, 1) := by decide +kernel
theorem dX0_pourValues_42 : decode cX0_pourValues 42 = .ok (.iadd, 1) := by decide +kernel
theorem dX0_pourValues_43 : decode cX0_pourValues 43 = .ok (.invokestatic 71, 3) := by decide +kernel
theorem dX0_pourValues_46 : decode cX0_pourValues 46 = .ok (.ireturn, 1) := by decide +kernel
set_option maxRecDepth 100000 in
set_option maxHeartbeats 4000000 in
theorem c_X0_pourValues (l : Launch) (D : va_G) (cy : Nat → ClassId) (N0 : Nat) (s : Nat) : ∀ (h : qH) (x : Option Nat) (n : Nat) (A : qKV) (a N : Nat) (f : Nat → Int64) (q : Nat) (hA : qBr h n x A) (hrow : h a = some (.inl (cy 1, N, .inr (.inl f)))) (hqN : q + A.length ≤ N) (hN : N < 1000000) (hs : n < s), qC l D cy N0 yX0_pourValues cX0_pourValues 4 (some .int) (1 + n) (24 * n) 0 0 [va_rf x, .ref a, .int (nI q)] h (fun v h' => v = some (.int (nI (q + A.length))) ∧ h' = qs h a (.inl (cy 1, N, .inr (.inl (qPour f q (List.map Prod.snd A)))))) (fun E h' => False) := by
  induction s with
  | zero => intro h x n A a N f q hA hrow hqN hN hs; exact absurd hs (Nat.not_lt_zero _)
  | succ s ih =>
    intro h x n A a N f q hA hrow hqN hN hs
    refine q_ofW (by decide) (by simp [lg_sl, q_catrf, q_cati, q_catl, q_cata, q_catn]) ?_
    intro p e s m below meth c ls C hP hl
    have hx := C.1
    have hb := C.2.1
    have hS : va_S (qA N0) s.heap s.heap [] := va_S.rf
    have hl : lv_has ls 4 [(0, va_rf x), (1, .ref a), (2, .int (nI q))] := by simpa [lv_args, q_catrf, q_cati, q_catl, q_cata, q_catn] using hl
    have hle : qle h h := qle_rf
    have hrow0 := hrow
    rcases hA.inv with ⟨rfl, rfl, rfl⟩ | ⟨a1, l1, k1, v1, r1, i1, j1, A1, B1, rfl, f1, hl1, hr1, rfl, hg11, hg12, hg13, hg14, hg15, hg16⟩
    · refine lv_aload_nN hx hb dX0_pourValues_0 rfl (lv_at hl 0 rfl) ?_
      refine lv_ifnonnullN hx hb dX0_pourValues_1 ?_
      refine lv_iload_n hx hb dX0_pourValues_4 rfl (lv_at hl 2 rfl) ?_
      exact q_iret C hP hS ⟨rfl, by rw [List.map_nil, qPour_nil]; exact (qs_same hrow).symm⟩ (by omega) dX0_pourValues_5
    · have zl1 := hl1.len
      have zr1 := hr1.len
      have eL1 : (A1 ++ (k1, v1) :: B1).length = A1.length + (B1.length + 1) := by rw [List.length_append, List.length_cons]
      simp only [List.length_append, List.length_cons, List.length_nil] at hqN
      refine lv_aload_n hx hb dX0_pourValues_0 rfl (lv_at hl 0 rfl) ?_
      refine lv_ifnonnull (tgt := 6) hx hb dX0_pourValues_1 (by decide) ?_
      refine lv_aload_n hx hb dX0_pourValues_6 rfl (lv_at hl 0 rfl) ?_
      refine q_get C hP f1 rfl inX0 0 (by decide) g491 rfl dX0_pourValues_7 ?_
      refine lv_aload_n hx hb dX0_pourValues_10 rfl (lv_at hl 1 rfl) ?_
      refine lv_iload_n hx hb dX0_pourValues_11 rfl (lv_at hl 2 rfl) ?_
      refine q_callS (rest := []) C (ih h l1 i1 A1 a N f q hl1 hrow (by omega) hN (by omega)) kX0_pourValues g942 g940 hP hS (by first | decide | omega) hl.1 rfl (by decide) (by first | decide | omega) dX0_pourValues_12 (fun q ce E h' H1 locs1 hE => hE.elim) (fun v hh1 H locs hq hP hS => ?_)
      obtain ⟨rfl, rfl⟩ := hq
      replace f1 := (qs_ne (h := h) (a := a) (o := (.inl (cy 1, N, .inr (.inl (qPour f q (List.map Prod.snd A1)))))) (fun q => by subst q; have := f1.symm.trans hrow; first | cases this | simp at this)).trans f1
      replace hrow : (qs h a (.inl (cy 1, N, .inr (.inl (qPour f q (List.map Prod.snd A1)))))) a = some (.inl (cy 1, N, .inr (.inl (qPour f q (List.map Prod.snd A1))))) := qs_self
      refine lv_istore_n (lv' := [(3, .int (nI (q + A1.length))), (0, .ref a1), (1, .ref a), (2, .int (nI q))]) hx hb dX0_pourValues_15 rfl hl (by decide) rfl (fun ls hl => ?_)
      refine lv_iload_n hx hb dX0_pourValues_16 rfl (lv_at hl 0 rfl) ?_
      refine lv_if_lt (tgt := 26) hx hb dX0_pourValues_17 (by decide) (fun c17 => ?_) (fun c17 => ?_)
      · replace c17 : (q + A1.length) < 0 := (nI_ltI (a := (q + A1.length)) (b := 0) (by omega) (by omega)).mp c17
        exfalso; omega
      · replace c17 : ¬ (q + A1.length) < 0 := fun zq => c17 ((nI_ltI (a := (q + A1.length)) (b := 0) (by omega) (by omega)).mpr zq)
        refine lv_iload_n hx hb dX0_pourValues_20 rfl (lv_at hl 0 rfl) ?_
        refine lv_aload_n hx hb dX0_pourValues_21 rfl (lv_at hl 2 rfl) ?_
        refine q_alen C hP hrow rfl dX0_pourValues_22 ?_
        refine lv_icmp_lt (tgt := 28) hx hb dX0_pourValues_23 (by decide) (fun c23 => ?_) (fun c23 => ?_)
        · replace c23 : (q + A1.length) < N := (nI_ltI (a := (q + A1.length)) (b := N) (by omega) (by omega)).mp c23
          refine lv_aload_n hx hb dX0_pourValues_28 rfl (lv_at hl 2 rfl) ?_
          refine lv_iload_n hx hb dX0_pourValues_29 rfl (lv_at hl 0 rfl) ?_
          refine lv_aload_n hx hb dX0_pourValues_30 rfl (lv_at hl 1 rfl) ?_
          refine q_get C hP f1 rfl inX0 2 (by decide) g494 rfl dX0_pourValues_31 ?_
          refine q_lastN C hP hS hrow (by omega) (by omega) dX0_pourValues_34 (fun H locs hP hS => ?_)
          rw [qs_qs] at hP
          replace f1 := qs_re (o' := (.inl (cy 1, N, .inr (.inl (vp_updL (qPour f q (List.map Prod.snd A1)) (q + A1.length) v1))))) (fun q => by subst q; have := f1.symm.trans hrow; first | cases this | simp at this) f1
          replace hrow : (qs h a (.inl (cy 1, N, .inr (.inl (vp_updL (qPour f q (List.map Prod.snd A1)) (q + A1.length) v1))))) a = some (.inl (cy 1, N, .inr (.inl (vp_updL (qPour f q (List.map Prod.snd A1)) (q + A1.length) v1)))) := qs_self
          refine lv_aload_n hx hb dX0_pourValues_35 rfl (lv_at hl 1 rfl) ?_
          refine q_get C hP f1 rfl inX0 3 (by decide) g497 rfl dX0_pourValues_36 ?_
          refine lv_aload_n hx hb dX0_pourValues_39 rfl (lv_at hl 2 rfl) ?_
          refine lv_iload_n hx hb dX0_pourValues_40 rfl (lv_at hl 0 rfl) ?_
          refine lv_iconst (v := nI 1) hx hb dX0_pourValues_41 (by decide) ?_
          refine q_iaddN hx hb dX0_pourValues_42 ?_
          refine q_callS (rest := []) C (ih (qs h a (.inl (cy 1, N, .inr (.inl (vp_updL (qPour f q (List.map Prod.snd A1)) (q + A1.length) v1))))) r1 j1 B1 a N (vp_updL (qPour f q (List.map Prod.snd A1)) (q + A1.length) v1) ((q + A1.length) + 1) (hr1.setl hrow0) hrow (by omega) hN (by omega)) kX0_pourValues g942 g940 hP hS (by first | decide | omega) hl.1 rfl (by decide) (by first | decide | omega) dX0_pourValues_43 (fun q ce E h' H1 locs1 hE => hE.elim) (fun v hh2 H locs hq hP hS => ?_)
          obtain ⟨rfl, rfl⟩ := hq
          rw [qs_qs] at hP
          replace f1 := qs_re (o' := (.inl (cy 1, N, .inr (.inl (qPour (vp_updL (qPour f q (List.map Prod.snd A1)) (q + A1.length) v1) ((q + A1.length) + 1) (List.map Prod.snd B1)))))) (fun q => by subst q; have := f1.symm.trans hrow; first | cases this | simp at this) f1
          replace hrow : (qs h a (.inl (cy 1, N, .inr (.inl (qPour (vp_updL (qPour f q (List.map Prod.snd A1)) (q + A1.length) v1) ((q + A1.length) + 1) (List.map Prod.snd B1)))))) a = some (.inl (cy 1, N, .inr (.inl (qPour (vp_updL (qPour f q (List.map Prod.snd A1)) (q + A1.length) v1) ((q + A1.length) + 1) (List.map Prod.snd B1))))) := qs_self
          exact q_iret C hP hS ⟨congrArg (fun z => some (Value.int (nI z))) (by simp only [List.length_append, List.length_cons]; omega), by rw [List.map_append, List.map_cons, ← qPour_app, List.length_map]⟩ (by omega) dX0_pourValues_46
        · replace c23 : ¬ (q + A1.length) < N := fun zq => c23 ((nI_ltI (a := (q + A1.length)) (b := N) (by omega) (by omega)).mpr zq)
          exfalso; omega
