/-- rows of the reference that hold nothing -/
def qRo (h : qH) (f : Nat → Option Nat) (N : Nat) : Prop := ∀ i, i < N → ∃ (r k v : Nat) (n st dp rw : Int32), f i = some r ∧ h r = some (.inr (7, [.ref k, .ref v, .int (-1), .int n, .int st, .int dp, .int rw]))
theorem qRo.set8 {h : qH} {f : Nat → Option Nat} {N y : Nat} {fs : List Value} {o : va_E} (g : qRo h f N) (hy : h y = some (.inr (8, fs))) : qRo (qs h y o) f N := fun i hi => by
  obtain ⟨r, k, v, n, st, dp, rw_, e1, e2⟩ := g i hi
  exact ⟨r, k, v, n, st, dp, rw_, e1, (qs_ne (fun q => by subst q; rw [hy] at e2; cases e2)).trans e2⟩
theorem qRo.le {h h' : qH} {f : Nat → Option Nat} {N : Nat} (g : qRo h f N) (hl : qle h h') : qRo h' f N := fun i hi => by
  obtain ⟨r, k, v, n, st, dp, rw_, e1, e2⟩ := g i hi
  exact ⟨r, k, v, n, st, dp, rw_, e1, hl _ _ e2⟩
theorem qSl_of {n : Int32} (a : ¬ n < 0) (b : ¬ (24 : Int32) ≤ n) : qSl n := ⟨a, by
  rw [Int32.le_iff_toInt_le] at b ⊢
  have e1 : (24 : Int32).toInt = 24 := by decide
  have e2 : (23 : Int32).toInt = 23 := by decide
  omega⟩
theorem qSl_no {n : Int32} (b : (24 : Int32) ≤ n) : ¬ qSl n := fun g => by
  have g2 := g.2
  rw [Int32.le_iff_toInt_le] at b g2
  have e1 : (24 : Int32).toInt = 24 := by decide
  have e2 : (23 : Int32).toInt = 23 := by decide
  omega
theorem qIn3_of {n : Int32} (a : ¬ n < 0) (b : ¬ (4 : Int32) ≤ n) : qIn n 3 := ⟨a, by
  rw [Int32.le_iff_toInt_le] at b ⊢
  have e1 : (4 : Int32).toInt = 4 := by decide
  have e2 : (3 : Int32).toInt = 3 := by decide
  omega⟩
theorem qIn3_no {n : Int32} (b : (4 : Int32) ≤ n) : ¬ qIn n 3 := fun g => by
  have g2 := g.2
  rw [Int32.le_iff_toInt_le] at b g2
  have e1 : (4 : Int32).toInt = 4 := by decide
  have e2 : (3 : Int32).toInt = 3 := by decide
  omega
theorem q32_not {a b : Int32} (h : ¬ a < b) : b ≤ a := by
  rw [Int32.lt_iff_toInt_lt] at h; rw [Int32.le_iff_toInt_le]; omega
theorem q32_no {a b : Int32} (h : a < b) (g : b ≤ a) : False := by
  rw [Int32.lt_iff_toInt_lt] at h; rw [Int32.le_iff_toInt_le] at g; omega

theorem dX8_good_0 : decode cX8_good 0 = .ok (.aload_n 0, 1) := by decide +kernel
theorem dX8_good_1 : decode cX8_good 1 = .ok (.iload_n 1, 1) := by decide +kernel
theorem dX8_good_2 : decode cX8_good 2 = .ok (.ifCond .eq 7, 3) := by decide +kernel
theorem dX8_good_5 : decode cX8_good 5 = .ok (.iconst 0, 1) := by decide +kernel
theorem dX8_good_6 : decode cX8_good 6 = .ok (.goto 4, 3) := by decide +kernel
theorem dX8_good_10 : decode cX8_good 10 = .ok (.putfield 72, 3) := by decide +kernel
theorem dX8_good_13 : decode cX8_good 13 = .ok (.iload_n 1, 1) := by decide +kernel
theorem dX8_good_14 : decode cX8_good 14 = .ok (.ireturn, 1) := by decide +kernel
set_option maxRecDepth 100000 in
set_option maxHeartbeats 4000000 in
theorem c_X8_good1 (l : Launch) (D : va_G) (cy : Nat → ClassId) (N0 : Nat) (h : qH) (y ms mb mw od pt fi re rc rs so ot cn la ro : Nat) (gr cd ca mv ct fa cs ce rn : Int32) (k : Int32) (hY : h y = some (.inr (8, [.ref ms, .ref mb, .ref mw, .int gr, .int cd, .int ca, .int mv, .ref od, .ref pt, .int ct, .int fa, .ref fi, .ref re, .int cs, .ref rc, .ref rs, .ref so, .ref ot, .ref cn, .ref la, .int ce, .ref ro, .int rn]))) : qC l D cy N0 yX8_good cX8_good 3 (some .boolean) 0 0 0 0 [.ref y, .int 1, .int k] h (fun v h' => v = some (.int 1) ∧ h' = qs h y (.inr (8, [.ref ms, .ref mb, .ref mw, .int gr, .int 0, .int ca, .int mv, .ref od, .ref pt, .int ct, .int fa, .ref fi, .ref re, .int cs, .ref rc, .ref rs, .ref so, .ref ot, .ref cn, .ref la, .int ce, .ref ro, .int rn]))) (fun E h' => False) := by
  refine q_ofW (by decide) (by exact Nat.le_of_ble_eq_true rfl) ?_
  intro p e s m below meth c ls C hP hl
  have hx := C.1
  have hb := C.2.1
  have hS : va_S (qA N0) s.heap s.heap [] := va_S.rf
  have hl : lv_has ls 3 [(0, .ref y), (1, .int 1), (2, .int k)] := hl
  refine lv_aload_n hx hb dX8_good_0 rfl (lv_at hl 0 rfl) ?_
  refine lv_iload_n hx hb dX8_good_1 rfl (lv_at hl 1 rfl) ?_
  refine lv_if_eq (tgt := 9) hx hb dX8_good_2 (by decide) (fun c2 => absurd c2 (by decide)) (fun _ => ?_)
  refine lv_iconst (v := 0) hx hb dX8_good_5 (by decide) ?_
  refine lv_goto (tgt := 10) hx hb dX8_good_6 (by decide) ?_
  refine q_put C hP hS hY rfl inX8 tyX8 tyX8_ok nmX8 4 (by decide) g1171 rfl rfl rfl (Nat.le_of_ble_eq_true rfl) dX8_good_10 (fun H locs hP hS => ?_)
  replace hY : (qs h y (.inr (8, [.ref ms, .ref mb, .ref mw, .int gr, .int 0, .int ca, .int mv, .ref od, .ref pt, .int ct, .int fa, .ref fi, .ref re, .int cs, .ref rc, .ref rs, .ref so, .ref ot, .ref cn, .ref la, .int ce, .ref ro, .int rn]))) y = some (.inr (8, [.ref ms, .ref mb, .ref mw, .int gr, .int 0, .int ca, .int mv, .ref od, .ref pt, .int ct, .int fa, .ref fi, .ref re, .int cs, .ref rc, .ref rs, .ref so, .ref ot, .ref cn, .ref la, .int ce, .ref ro, .int rn])) := qs_self
  replace hP : qP D N0 (qs h y (.inr (8, [.ref ms, .ref mb, .ref mw, .int gr, .int 0, .int ca, .int mv, .ref od, .ref pt, .int ct, .int fa, .ref fi, .ref re, .int cs, .ref rc, .ref rs, .ref so, .ref ot, .ref cn, .ref la, .int ce, .ref ro, .int rn]))) H := hP
  refine lv_iload_n hx hb dX8_good_13 rfl (lv_at hl 1 rfl) ?_
  exact q_zret C hP hS (Or.inr rfl) ⟨rfl, rfl⟩ (by omega) dX8_good_14

theorem dX8_good_9 : decode cX8_good 9 = .ok (.iload_n 2, 1) := by decide +kernel
set_option maxRecDepth 100000 in
set_option maxHeartbeats 4000000 in
theorem c_X8_good0 (l : Launch) (D : va_G) (cy : Nat → ClassId) (N0 : Nat) (h : qH) (y ms mb mw od pt fi re rc rs so ot cn la ro : Nat) (gr cd ca mv ct fa cs ce rn : Int32) (k : Int32) (hY : h y = some (.inr (8, [.ref ms, .ref mb, .ref mw, .int gr, .int cd, .int ca, .int mv, .ref od, .ref pt, .int ct, .int fa, .ref fi, .ref re, .int cs, .ref rc, .ref rs, .ref so, .ref ot, .ref cn, .ref la, .int ce, .ref ro, .int rn]))) : qC l D cy N0 yX8_good cX8_good 3 (some .boolean) 0 0 0 0 [.ref y, .int 0, .int k] h (fun v h' => v = some (.int 0) ∧ h' = qs h y (.inr (8, [.ref ms, .ref mb, .ref mw, .int gr, .int k, .int ca, .int mv, .ref od, .ref pt, .int ct, .int fa, .ref fi, .ref re, .int cs, .ref rc, .ref rs, .ref so, .ref ot, .ref cn, .ref la, .int ce, .ref ro, .int rn]))) (fun E h' => False) := by
  refine q_ofW (by decide) (by exact Nat.le_of_ble_eq_true rfl) ?_
  intro p e s m below meth c ls C hP hl
  have hx := C.1
  have hb := C.2.1
  have hS : va_S (qA N0) s.heap s.heap [] := va_S.rf
  have hl : lv_has ls 3 [(0, .ref y), (1, .int 0), (2, .int k)] := hl
  refine lv_aload_n hx hb dX8_good_0 rfl (lv_at hl 0 rfl) ?_
  refine lv_iload_n hx hb dX8_good_1 rfl (lv_at hl 1 rfl) ?_
  refine lv_if_eq (tgt := 9) hx hb dX8_good_2 (by decide) (fun _ => ?_) (fun c2 => absurd rfl c2)
  refine lv_iload_n hx hb dX8_good_9 rfl (lv_at hl 2 rfl) ?_
  refine q_put C hP hS hY rfl inX8 tyX8 tyX8_ok nmX8 4 (by decide) g1171 rfl rfl rfl (Nat.le_of_ble_eq_true rfl) dX8_good_10 (fun H locs hP hS => ?_)
  replace hY : (qs h y (.inr (8, [.ref ms, .ref mb, .ref mw, .int gr, .int k, .int ca, .int mv, .ref od, .ref pt, .int ct, .int fa, .ref fi, .ref re, .int cs, .ref rc, .ref rs, .ref so, .ref ot, .ref cn, .ref la, .int ce, .ref ro, .int rn]))) y = some (.inr (8, [.ref ms, .ref mb, .ref mw, .int gr, .int k, .int ca, .int mv, .ref od, .ref pt, .int ct, .int fa, .ref fi, .ref re, .int cs, .ref rc, .ref rs, .ref so, .ref ot, .ref cn, .ref la, .int ce, .ref ro, .int rn])) := qs_self
  replace hP : qP D N0 (qs h y (.inr (8, [.ref ms, .ref mb, .ref mw, .int gr, .int k, .int ca, .int mv, .ref od, .ref pt, .int ct, .int fa, .ref fi, .ref re, .int cs, .ref rc, .ref rs, .ref so, .ref ot, .ref cn, .ref la, .int ce, .ref ro, .int rn]))) H := hP
  refine lv_iload_n hx hb dX8_good_13 rfl (lv_at hl 1 rfl) ?_
  exact q_zret C hP hS (Or.inl rfl) ⟨rfl, rfl⟩ (by omega) dX8_good_14

theorem dX8_isSlot_0 : decode cX8_isSlot 0 = .ok (.iload_n 0, 1) := by decide +kernel
theorem dX8_isSlot_1 : decode cX8_isSlot 1 = .ok (.ifCond .lt 13, 3) := by decide +kernel
theorem dX8_isSlot_4 : decode cX8_isSlot 4 = .ok (.iload_n 0, 1) := by decide +kernel
theorem dX8_isSlot_5 : decode cX8_isSlot 5 = .ok (.bipush 24, 2) := by decide +kernel
theorem dX8_isSlot_7 : decode cX8_isSlot 7 = .ok (.if_icmp .ge 7, 3) := by decide +kernel
theorem dX8_isSlot_10 : decode cX8_isSlot 10 = .ok (.iconst 1, 1) := by decide +kernel
theorem dX8_isSlot_11 : decode cX8_isSlot 11 = .ok (.goto 4, 3) := by decide +kernel
theorem dX8_isSlot_14 : decode cX8_isSlot 14 = .ok (.iconst 0, 1) := by decide +kernel
theorem dX8_isSlot_15 : decode cX8_isSlot 15 = .ok (.ireturn, 1) := by decide +kernel
set_option maxRecDepth 100000 in
set_option maxHeartbeats 4000000 in
theorem c_X8_isSlot (l : Launch) (D : va_G) (cy : Nat → ClassId) (N0 : Nat) (h : qH) (n : Int32)  : qC l D cy N0 yX8_isSlot cX8_isSlot 1 (some .boolean) 0 0 0 0 [.int n] h (fun v h' => h = h' ∧ ((v = some (.int 1) ∧ qSl n) ∨ (v = some (.int 0) ∧ ¬ qSl n))) (fun E h' => False) := by
  refine q_ofW (by decide) (by exact Nat.le_of_ble_eq_true rfl) ?_
  intro p e s m below meth c ls C hP hl
  have hx := C.1
  have hb := C.2.1
  have hS : va_S (qA N0) s.heap s.heap [] := va_S.rf
  have hl : lv_has ls 1 [(0, .int n)] := hl
  refine lv_iload_n hx hb dX8_isSlot_0 rfl (lv_at hl 0 rfl) ?_
  refine lv_if_lt (tgt := 14) hx hb dX8_isSlot_1 (by decide) (fun c1 => ?_) (fun c1 => ?_)
  · refine lv_iconst (v := 0) hx hb dX8_isSlot_14 (by decide) ?_
    exact q_zret C hP hS (Or.inl rfl) ⟨rfl, Or.inr ⟨rfl, fun g => g.1 c1⟩⟩ (by omega) dX8_isSlot_15
  · refine lv_iload_n hx hb dX8_isSlot_4 rfl (lv_at hl 0 rfl) ?_
    refine lv_bipush (v := 24) hx hb dX8_isSlot_5 (by decide) ?_
    refine lv_icmp_ge (tgt := 14) hx hb dX8_isSlot_7 (by decide) (fun c7 => ?_) (fun c7 => ?_)
    · refine lv_iconst (v := 0) hx hb dX8_isSlot_14 (by decide) ?_
      exact q_zret C hP hS (Or.inl rfl) ⟨rfl, Or.inr ⟨rfl, qSl_no c7⟩⟩ (by omega) dX8_isSlot_15
    · refine lv_iconst (v := 1) hx hb dX8_isSlot_10 (by decide) ?_
      refine lv_goto (tgt := 15) hx hb dX8_isSlot_11 (by decide) ?_
      exact q_zret C hP hS (Or.inr rfl) ⟨rfl, Or.inl ⟨rfl, qSl_of c1 c7⟩⟩ (by omega) dX8_isSlot_15

theorem dX8_isBuilder_0 : decode cX8_isBuilder 0 = .ok (.iload_n 0, 1) := by decide +kernel
theorem dX8_isBuilder_1 : decode cX8_isBuilder 1 = .ok (.ifCond .lt 12, 3) := by decide +kernel
theorem dX8_isBuilder_4 : decode cX8_isBuilder 4 = .ok (.iload_n 0, 1) := by decide +kernel
theorem dX8_isBuilder_5 : decode cX8_isBuilder 5 = .ok (.iconst 4, 1) := by decide +kernel
theorem dX8_isBuilder_6 : decode cX8_isBuilder 6 = .ok (.if_icmp .ge 7, 3) := by decide +kernel
theorem dX8_isBuilder_9 : decode cX8_isBuilder 9 = .ok (.iconst 1, 1) := by decide +kernel
theorem dX8_isBuilder_10 : decode cX8_isBuilder 10 = .ok (.goto 4, 3) := by decide +kernel
theorem dX8_isBuilder_13 : decode cX8_isBuilder 13 = .ok (.iconst 0, 1) := by decide +kernel
theorem dX8_isBuilder_14 : decode cX8_isBuilder 14 = .ok (.ireturn, 1) := by decide +kernel
set_option maxRecDepth 100000 in
set_option maxHeartbeats 4000000 in
theorem c_X8_isBuilder (l : Launch) (D : va_G) (cy : Nat → ClassId) (N0 : Nat) (h : qH) (n : Int32)  : qC l D cy N0 yX8_isBuilder cX8_isBuilder 1 (some .boolean) 0 0 0 0 [.int n] h (fun v h' => h = h' ∧ ((v = some (.int 1) ∧ qIn n 3) ∨ (v = some (.int 0) ∧ ¬ qIn n 3))) (fun E h' => False) := by
  refine q_ofW (by decide) (by exact Nat.le_of_ble_eq_true rfl) ?_
  intro p e s m below meth c ls C hP hl
  have hx := C.1
  have hb := C.2.1
  have hS : va_S (qA N0) s.heap s.heap [] := va_S.rf
  have hl : lv_has ls 1 [(0, .int n)] := hl
  refine lv_iload_n hx hb dX8_isBuilder_0 rfl (lv_at hl 0 rfl) ?_
  refine lv_if_lt (tgt := 13) hx hb dX8_isBuilder_1 (by decide) (fun c1 => ?_) (fun c1 => ?_)
  · refine lv_iconst (v := 0) hx hb dX8_isBuilder_13 (by decide) ?_
    exact q_zret C hP hS (Or.inl rfl) ⟨rfl, Or.inr ⟨rfl, fun g => g.1 c1⟩⟩ (by omega) dX8_isBuilder_14
  · refine lv_iload_n hx hb dX8_isBuilder_4 rfl (lv_at hl 0 rfl) ?_
    refine lv_iconst (v := 4) hx hb dX8_isBuilder_5 (by decide) ?_
    refine lv_icmp_ge (tgt := 13) hx hb dX8_isBuilder_6 (by decide) (fun c6 => ?_) (fun c6 => ?_)
    · refine lv_iconst (v := 0) hx hb dX8_isBuilder_13 (by decide) ?_
      exact q_zret C hP hS (Or.inl rfl) ⟨rfl, Or.inr ⟨rfl, qIn3_no c6⟩⟩ (by omega) dX8_isBuilder_14
    · refine lv_iconst (v := 1) hx hb dX8_isBuilder_9 (by decide) ?_
      refine lv_goto (tgt := 14) hx hb dX8_isBuilder_10 (by decide) ?_
      exact q_zret C hP hS (Or.inr rfl) ⟨rfl, Or.inl ⟨rfl, qIn3_of c1 c6⟩⟩ (by omega) dX8_isBuilder_14

theorem dX8_thrown_0 : decode cX8_thrown 0 = .ok (.aload_n 0, 1) := by decide +kernel
theorem dX8_thrown_1 : decode cX8_thrown 1 = .ok (.getfield 72, 3) := by decide +kernel
theorem dX8_thrown_4 : decode cX8_thrown 4 = .ok (.ireturn, 1) := by decide +kernel
set_option maxRecDepth 100000 in
set_option maxHeartbeats 4000000 in
theorem c_X8_thrown (l : Launch) (D : va_G) (cy : Nat → ClassId) (N0 : Nat) (h : qH) (y ms mb mw od pt fi re rc rs so ot cn la ro : Nat) (gr cd ca mv ct fa cs ce rn : Int32) (hY : h y = some (.inr (8, [.ref ms, .ref mb, .ref mw, .int gr, .int cd, .int ca, .int mv, .ref od, .ref pt, .int ct, .int fa, .ref fi, .ref re, .int cs, .ref rc, .ref rs, .ref so, .ref ot, .ref cn, .ref la, .int ce, .ref ro, .int rn]))) : qC l D cy N0 yX8_thrown cX8_thrown 1 (some .int) 0 0 0 0 [.ref y] h (fun v h' => h = h' ∧ v = some (.int cd)) (fun E h' => False) := by
  refine q_ofW (by decide) (by exact Nat.le_of_ble_eq_true rfl) ?_
  intro p e s m below meth c ls C hP hl
  have hx := C.1
  have hb := C.2.1
  have hS : va_S (qA N0) s.heap s.heap [] := va_S.rf
  have hl : lv_has ls 1 [(0, .ref y)] := hl
  refine lv_aload_n hx hb dX8_thrown_0 rfl (lv_at hl 0 rfl) ?_
  refine q_get C hP hY rfl inX8 4 (by decide) g1171 rfl dX8_thrown_1 ?_
  exact q_iret C hP hS ⟨rfl, rfl⟩ (by omega) dX8_thrown_4

theorem dX8_holds_0 : decode cX8_holds 0 = .ok (.aload_n 0, 1) := by decide +kernel
theorem dX8_holds_1 : decode cX8_holds 1 = .ok (.getfield 9, 3) := by decide +kernel
theorem dX8_holds_4 : decode cX8_holds 4 = .ok (.iload_n 1, 1) := by decide +kernel
theorem dX8_holds_5 : decode cX8_holds 5 = .ok (.aaload, 1) := by decide +kernel
theorem dX8_holds_6 : decode cX8_holds 6 = .ok (.getfield 75, 3) := by decide +kernel
theorem dX8_holds_9 : decode cX8_holds 9 = .ok (.ifCond .lt 24, 3) := by decide +kernel
theorem dX8_holds_33 : decode cX8_holds 33 = .ok (.iconst 0, 1) := by decide +kernel
theorem dX8_holds_34 : decode cX8_holds 34 = .ok (.ireturn, 1) := by decide +kernel