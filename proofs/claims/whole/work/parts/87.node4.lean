theorem qP.reJ {D : va_G} {N0 : Nat} {cy : Nat → ClassId} {h : qH} {H : Heap} {q n : Nat} {F : Nat → Int64} {K : List Int64} (hP : qP D N0 (qs h q (.inl (cy 1, n, .inr (.inl F)))) H) (hn : n = K.length) (e : ∀ j, j < n → F j = K.getD j 0) : qP D N0 (qs h q (thJ cy K)) H := by
  subst hn
  have := hP.re (y := (K.length, .inr (.inl (fun j => K.getD j 0)))) qs_self (by rw [vp_cell_l, vp_cell_l]; exact arrV_same (fun j hj => by rw [e j hj])) rfl
  rw [qs_qs] at this
  exact this
theorem qP.reA {D : va_G} {N0 : Nat} {cy : Nat → ClassId} {h : qH} {H : Heap} {q n : Nat} {F : Nat → Option Nat} {C : Nat → Nat} (hP : qP D N0 (qs h q (.inl (cy 4, n, .inr (.inr (.inr (.inr F)))))) H) (e : ∀ j, j < n → F j = some (C j)) : qP D N0 (qs h q (thA cy n C)) H := by
  have := hP.re (y := (n, .inr (.inr (.inr (.inr (fun j => some (C j))))))) qs_self (by rw [vp_cell_q, vp_cell_q]; exact arrV_same (fun j hj => by rw [e j hj])) rfl
  rw [qs_qs] at this
  exact this
/-- a number laid in, a number taken out -/
def thIn (K : List Int64) (p : Nat) (x : Int64) : List Int64 := K.take p ++ x :: K.drop p
theorem thIn_len {K : List Int64} {p : Nat} {x : Int64} (hp : p ≤ K.length) : (thIn K p x).length = K.length + 1 := by
  unfold thIn
  rw [List.length_append, List.length_cons, List.length_take, List.length_drop]
  omega
theorem thIn_get {K : List Int64} {p : Nat} {x : Int64} (hp : p ≤ K.length) {j : Nat} (hj : j < K.length + 1) : va_cpy (fun j => K.getD j 0) (vp_updL (va_cpy (fun j => K.getD j 0) (fun _ => 0) 0 0 p) p x) p (p + 1) (K.length - p) j = (thIn K p x).getD j 0 := by
  unfold va_cpy vp_updL thIn
  dsimp only
  rw [List.getD_eq_getElem?_getD (l := K.take p ++ x :: K.drop p)]
  by_cases c : p + 1 ≤ j
  · rw [if_pos (by omega), List.getElem?_append_right (by rw [List.length_take]; omega), List.length_take, show j - min p K.length = (j - (p + 1)) + 1 by omega, List.getElem?_cons_succ, List.getElem?_drop, List.getD_eq_getElem?_getD]
  · rw [if_neg (by omega)]
    by_cases c2 : j = p
    · subst c2
      rw [if_pos rfl, List.getElem?_append_right (by rw [List.length_take]; omega), List.length_take, show j - min j K.length = 0 by omega]
      rfl
    · rw [if_neg c2, if_pos (by omega), List.getElem?_append_left (by rw [List.length_take]; omega), List.getElem?_take_of_lt (by omega), List.getD_eq_getElem?_getD, show 0 + (j - 0) = j by omega]
theorem thEr_get {K : List Int64} {p : Nat} (hp : p < K.length) {j : Nat} (hj : j < K.length - 1) : va_cpy (fun j => K.getD j 0) (va_cpy (fun j => K.getD j 0) (fun _ => 0) 0 0 p) (p + 1) p (K.length - 1 - p) j = (K.eraseIdx p).getD j 0 := by
  unfold va_cpy
  dsimp only
  rw [List.getD_eq_getElem?_getD (l := K.eraseIdx p), List.getElem?_eraseIdx]
  by_cases c : p ≤ j
  · rw [if_pos (by omega), if_neg (by omega), List.getD_eq_getElem?_getD, show p + 1 + (j - p) = j + 1 by omega]
  · rw [if_neg (by omega), if_pos (by omega), if_pos (by omega), List.getD_eq_getElem?_getD, show 0 + (j - 0) = j by omega]
theorem dX3_init_0 : decode cX3_init 0 = .ok (.aload_n 0, 1) := by decide +kernel
theorem dX3_init_1 : decode cX3_init 1 = .ok (.invokespecial 3, 3) := by decide +kernel
theorem dX3_init_4 : decode cX3_init 4 = .ok (.aload_n 0, 1) := by decide +kernel
theorem dX3_init_5 : decode cX3_init 5 = .ok (.getstatic 9, 3) := by decide +kernel
theorem dX3_init_8 : decode cX3_init 8 = .ok (.putfield 15, 3) := by decide +kernel
theorem dX3_init_11 : decode cX3_init 11 = .ok (.aload_n 0, 1) := by decide +kernel
theorem dX3_init_12 : decode cX3_init 12 = .ok (.getstatic 9, 3) := by decide +kernel
theorem dX3_init_15 : decode cX3_init 15 = .ok (.putfield 18, 3) := by decide +kernel
theorem dX3_init_18 : decode cX3_init 18 = .ok (.aload_n 0, 1) := by decide +kernel
theorem dX3_init_19 : decode cX3_init 19 = .ok (.iload_n 1, 1) := by decide +kernel
theorem dX3_init_20 : decode cX3_init 20 = .ok (.putfield 21, 3) := by decide +kernel
theorem dX3_init_23 : decode cX3_init 23 = .ok (.aload_n 0, 1) := by decide +kernel
theorem dX3_init_24 : decode cX3_init 24 = .ok (.iload_n 2, 1) := by decide +kernel
theorem dX3_init_25 : decode cX3_init 25 = .ok (.putfield 25, 3) := by decide +kernel
theorem dX3_init_28 : decode cX3_init 28 = .ok (.aload_n 0, 1) := by decide +kernel
theorem dX3_init_29 : decode cX3_init 29 = .ok (.aload_n 3, 1) := by decide +kernel
theorem dX3_init_30 : decode cX3_init 30 = .ok (.putfield 28, 3) := by decide +kernel
theorem dX3_init_33 : decode cX3_init 33 = .ok (.return_, 1) := by decide +kernel
set_option maxRecDepth 100000 in
set_option maxHeartbeats 4000000 in
theorem c_X3_init (l : Launch) (D : va_G) (cy : Nat → ClassId) (N0 : Nat) (h : qH) (a d ow na : Nat) (ha : h a = some (.inr (3, [.int 0, .int 0, .int 0, .int 0, .int 0, .null, .null, .null]))) : qC l D cy N0 yX3_init cX3_init 4 none 1 12 0 0 [.ref a, .int (nI d), .int (nI ow), .ref na] h (fun v h' => v = none ∧ h' = qs h a (thNo d ow 0 0 0 (cy 99) (cy 99) na)) (fun E h' => False) := by
  refine q_ofW (by decide) (by exact Nat.le_of_ble_eq_true rfl) ?_
  intro p e s m below meth c ls C hP hl
  have hx := C.1
  have hb := C.2.1
  have hS : va_S (qA N0) s.heap s.heap [] := va_S.rf
  have hl : lv_has ls 4 [(0, .ref a), (1, .int (nI d)), (2, .int (nI ow)), (3, .ref na)] := hl
  refine lv_aload_n hx hb dX3_init_0 rfl (lv_at hl 0 rfl) ?_
  refine q_obj C g358 g28 g29 hl.1 dX3_init_1 (by simp [q_catrf, q_cati, q_catl, q_cata, q_catn]) ?_
  refine lv_aload_n hx hb dX3_init_4 rfl (lv_at hl 0 rfl) ?_
  refine q_gets C hS dX3_init_5 ?_
  refine q_put C hP hS ha rfl inX3 tyX3 tyX3_ok nmX3 5 (by decide) g366 rfl rfl rfl (Nat.le_of_ble_eq_true rfl) dX3_init_8 (fun H locs hP hS => ?_)
  replace ha : (qs h a (.inr (3, [.int 0, .int 0, .int 0, .int 0, .int 0, .ref (cy 99), .null, .null]))) a = some (.inr (3, [.int 0, .int 0, .int 0, .int 0, .int 0, .ref (cy 99), .null, .null])) := qs_self
  replace hP : qP D N0 (qs h a (.inr (3, [.int 0, .int 0, .int 0, .int 0, .int 0, .ref (cy 99), .null, .null]))) H := hP
  refine lv_aload_n hx hb dX3_init_11 rfl (lv_at hl 0 rfl) ?_
  refine q_gets C hS dX3_init_12 ?_
  refine q_put C hP hS ha rfl inX3 tyX3 tyX3_ok nmX3 6 (by decide) g367 rfl rfl rfl (Nat.le_of_ble_eq_true rfl) dX3_init_15 (fun H locs hP hS => ?_)
  rw [qs_qs] at hP
  replace ha : (qs h a (.inr (3, [.int 0, .int 0, .int 0, .int 0, .int 0, .ref (cy 99), .ref (cy 99), .null]))) a = some (.inr (3, [.int 0, .int 0, .int 0, .int 0, .int 0, .ref (cy 99), .ref (cy 99), .null])) := qs_self
  replace hP : qP D N0 (qs h a (.inr (3, [.int 0, .int 0, .int 0, .int 0, .int 0, .ref (cy 99), .ref (cy 99), .null]))) H := hP
  refine lv_aload_n hx hb dX3_init_18 rfl (lv_at hl 0 rfl) ?_
  refine lv_iload_n hx hb dX3_init_19 rfl (lv_at hl 1 rfl) ?_
  refine q_putF C hP hS ha rfl inX3 tyX3 tyX3_ok nmX3 0 (by decide) g361 rfl rfl rfl rfl rfl (Nat.le_of_ble_eq_true rfl) dX3_init_20 (fun H locs hP hS => ?_)
  rw [qs_qs] at hP
  replace ha : (qs h a (.inr (3, [.int (nI d), .int 0, .int 0, .int 0, .int 0, .ref (cy 99), .ref (cy 99), .null]))) a = some (.inr (3, [.int (nI d), .int 0, .int 0, .int 0, .int 0, .ref (cy 99), .ref (cy 99), .null])) := qs_self
  replace hP : qP D N0 (qs h a (.inr (3, [.int (nI d), .int 0, .int 0, .int 0, .int 0, .ref (cy 99), .ref (cy 99), .null]))) H := hP
  refine lv_aload_n hx hb dX3_init_23 rfl (lv_at hl 0 rfl) ?_
  refine lv_iload_n hx hb dX3_init_24 rfl (lv_at hl 2 rfl) ?_
  refine q_putF C hP hS ha rfl inX3 tyX3 tyX3_ok nmX3 1 (by decide) g362 rfl rfl rfl rfl rfl (Nat.le_of_ble_eq_true rfl) dX3_init_25 (fun H locs hP hS => ?_)
  rw [qs_qs] at hP
  replace ha : (qs h a (.inr (3, [.int (nI d), .int (nI ow), .int 0, .int 0, .int 0, .ref (cy 99), .ref (cy 99), .null]))) a = some (.inr (3, [.int (nI d), .int (nI ow), .int 0, .int 0, .int 0, .ref (cy 99), .ref (cy 99), .null])) := qs_self
  replace hP : qP D N0 (qs h a (.inr (3, [.int (nI d), .int (nI ow), .int 0, .int 0, .int 0, .ref (cy 99), .ref (cy 99), .null]))) H := hP
  refine lv_aload_n hx hb dX3_init_28 rfl (lv_at hl 0 rfl) ?_
  refine lv_aload_n hx hb dX3_init_29 rfl (lv_at hl 3 rfl) ?_
  refine q_put C hP hS ha rfl inX3 tyX3 tyX3_ok nmX3 7 (by decide) g369 rfl rfl rfl (Nat.le_of_ble_eq_true rfl) dX3_init_30 (fun H locs hP hS => ?_)
  rw [qs_qs] at hP
  replace ha : (qs h a (.inr (3, [.int (nI d), .int (nI ow), .int 0, .int 0, .int 0, .ref (cy 99), .ref (cy 99), .ref na]))) a = some (.inr (3, [.int (nI d), .int (nI ow), .int 0, .int 0, .int 0, .ref (cy 99), .ref (cy 99), .ref na])) := qs_self
  replace hP : qP D N0 (qs h a (.inr (3, [.int (nI d), .int (nI ow), .int 0, .int 0, .int 0, .ref (cy 99), .ref (cy 99), .ref na]))) H := hP
  exact q_vret C hP hS ⟨rfl, rfl⟩ (by omega) dX3_init_33
theorem dX3_withNumber_0 : decode cX3_withNumber 0 = .ok (.aload_n 0, 1) := by decide +kernel
theorem dX3_withNumber_1 : decode cX3_withNumber 1 = .ok (.arraylength, 1) := by decide +kernel
theorem dX3_withNumber_2 : decode cX3_withNumber 2 = .ok (.iconst 1, 1) := by decide +kernel
theorem dX3_withNumber_3 : decode cX3_withNumber 3 = .ok (.iadd, 1) := by decide +kernel
theorem dX3_withNumber_4 : decode cX3_withNumber 4 = .ok (.newarray .long, 2) := by decide +kernel
theorem dX3_withNumber_6 : decode cX3_withNumber 6 = .ok (.astore 4, 2) := by decide +kernel
theorem dX3_withNumber_8 : decode cX3_withNumber 8 = .ok (.aload_n 0, 1) := by decide +kernel
theorem dX3_withNumber_9 : decode cX3_withNumber 9 = .ok (.iconst 0, 1) := by decide +kernel
theorem dX3_withNumber_10 : decode cX3_withNumber 10 = .ok (.aload 4, 2) := by decide +kernel
theorem dX3_withNumber_12 : decode cX3_withNumber 12 = .ok (.iconst 0, 1) := by decide +kernel
theorem dX3_withNumber_13 : decode cX3_withNumber 13 = .ok (.iload_n 1, 1) := by decide +kernel
theorem dX3_withNumber_14 : decode cX3_withNumber 14 = .ok (.invokestatic 135, 3) := by decide +kernel
theorem dX3_withNumber_17 : decode cX3_withNumber 17 = .ok (.aload 4, 2) := by decide +kernel
theorem dX3_withNumber_19 : decode cX3_withNumber 19 = .ok (.iload_n 1, 1) := by decide +kernel
theorem dX3_withNumber_20 : decode cX3_withNumber 20 = .ok (.lload_n 2, 1) := by decide +kernel
theorem dX3_withNumber_21 : decode cX3_withNumber 21 = .ok (.lastore, 1) := by decide +kernel
theorem dX3_withNumber_22 : decode cX3_withNumber 22 = .ok (.aload_n 0, 1) := by decide +kernel
theorem dX3_withNumber_23 : decode cX3_withNumber 23 = .ok (.iload_n 1, 1) := by decide +kernel
theorem dX3_withNumber_24 : decode cX3_withNumber 24 = .ok (.aload 4, 2) := by decide +kernel
theorem dX3_withNumber_26 : decode cX3_withNumber 26 = .ok (.iload_n 1, 1) := by decide +kernel
theorem dX3_withNumber_27 : decode cX3_withNumber 27 = .ok (.iconst 1, 1) := by decide +kernel
theorem dX3_withNumber_28 : decode cX3_withNumber 28 = .ok (.iadd, 1) := by decide +kernel
theorem dX3_withNumber_29 : decode cX3_withNumber 29 = .ok (.aload_n 0, 1) := by decide +kernel
theorem dX3_withNumber_30 : decode cX3_withNumber 30 = .ok (.arraylength, 1) := by decide +kernel
theorem dX3_withNumber_31 : decode cX3_withNumber 31 = .ok (.iload_n 1, 1) := by decide +kernel
theorem dX3_withNumber_32 : decode cX3_withNumber 32 = .ok (.isub, 1) := by decide +kernel
theorem dX3_withNumber_33 : decode cX3_withNumber 33 = .ok (.invokestatic 135, 3) := by decide +kernel
theorem dX3_withNumber_36 : decode cX3_withNumber 36 = .ok (.aload 4, 2) := by decide +kernel
theorem dX3_withNumber_38 : decode cX3_withNumber 38 = .ok (.areturn, 1) := by decide +kernel
set_option maxRecDepth 100000 in
set_option maxHeartbeats 4000000 in
theorem c_X3_withNumber (l : Launch) (D : va_G) (cy : Nat → ClassId) (N0 : Nat) (h : qH) (a : Nat) (K : List Int64) (p0 : Nat) (x : Int64) (ha : h a = some (thJ cy K)) (hp : p0 ≤ K.length) (hK : K.length < 1000000) : qC l D cy N0 yX3_withNumber cX3_withNumber 5 (some (.array .long)) 1 40 1 (K.length + 1) [.ref a, .int (nI p0), .long x] h (fun v h' => ∃ q, v = some (.ref q) ∧ h q = none ∧ h' = qs h q (thJ cy (thIn K p0 x))) (fun E h' => False) := by
  refine q_ofW (by decide) (by exact Nat.le_of_ble_eq_true rfl) ?_
  intro p e s m below meth c ls C hP hl
  have hx := C.1
  have hb := C.2.1
  have hS : va_S (qA N0) s.heap s.heap [] := va_S.rf
  have hl : lv_has ls 5 [(0, .ref a), (1, .int (nI p0)), (2, .long x)] := hl
  have ha0 := ha
  unfold thJ at ha
  refine lv_aload_n hx hb dX3_withNumber_0 rfl (lv_at hl 0 rfl) ?_
  refine q_alen C hP ha rfl dX3_withNumber_1 ?_
  refine lv_iconst (v := nI 1) hx hb dX3_withNumber_2 (by decide) ?_
  refine q_iaddN hx hb dX3_withNumber_3 ?_
  refine q_newaJ (N := ((K.length) + 1)) C g67 hP hS (nI_pos (by omega)) (nI_clamp (by omega)) (by omega) (by omega) (by omega) dX3_withNumber_4 (fun q4 H eq4 hP hS => ?_)
  have n_q4_a : a ≠ q4 := qne_of eq4 ha
  replace ha := qle_new (o := (.inl (cy 1, ((K.length) + 1), .inr (.inl (fun _ => 0))))) eq4 _ _ ha
  have fq4 : (qs h q4 (.inl (cy 1, ((K.length) + 1), .inr (.inl (fun _ => 0))))) q4 = some (.inl (cy 1, ((K.length) + 1), .inr (.inl (fun _ => 0)))) := qs_self
  refine lv_astore (lv' := [(4, .ref q4), (0, .ref a), (1, .int (nI p0)), (2, .long x)]) hx hb dX3_withNumber_6 hl (by decide) rfl (fun ls hl => ?_)
  refine lv_aload_n hx hb dX3_withNumber_8 rfl (lv_at hl 1 rfl) ?_
  refine lv_iconst (v := nI 0) hx hb dX3_withNumber_9 (by decide) ?_
  refine lv_aload hx hb dX3_withNumber_10 (lv_at hl 0 rfl) ?_
  refine lv_iconst (v := nI 0) hx hb dX3_withNumber_12 (by decide) ?_
  refine lv_iload_n hx hb dX3_withNumber_13 rfl (lv_at hl 2 rfl) ?_
  refine q_copyl (sp := 0) (dp := 0) (n := p0) C hP hS ha fq4 (hP.arr fq4 (nI_in (c := 0) (by omega) (by omega))) (by omega) (by omega) (by omega) (by omega) hl.1 (by omega) (by decide) dX3_withNumber_14 (fun H locs hP hS => ?_)
  rw [qs_qs] at hP
  replace ha := qs_re (o' := (.inl (cy 1, ((K.length) + 1), .inr (.inl (va_cpy (fun j => K.getD j 0) (fun _ => 0) 0 0 p0))))) n_q4_a ha
  replace fq4 : (qs h q4 (.inl (cy 1, ((K.length) + 1), .inr (.inl (va_cpy (fun j => K.getD j 0) (fun _ => 0) 0 0 p0))))) q4 = some (.inl (cy 1, ((K.length) + 1), .inr (.inl (va_cpy (fun j => K.getD j 0) (fun _ => 0) 0 0 p0)))) := qs_self
  refine lv_aload hx hb dX3_withNumber_17 (lv_at hl 0 rfl) ?_
  refine lv_iload_n hx hb dX3_withNumber_19 rfl (lv_at hl 2 rfl) ?_
  refine lv_lload_n hx hb dX3_withNumber_20 rfl (lv_at hl 3 rfl) ?_
  refine q_lastN C hP hS fq4 (by omega) (by omega) dX3_withNumber_21 (fun H locs hP hS => ?_)
  rw [qs_qs] at hP
  replace ha := qs_re (o' := (.inl (cy 1, ((K.length) + 1), .inr (.inl (vp_updL (va_cpy (fun j => K.getD j 0) (fun _ => 0) 0 0 p0) p0 x))))) n_q4_a ha
  replace fq4 : (qs h q4 (.inl (cy 1, ((K.length) + 1), .inr (.inl (vp_updL (va_cpy (fun j => K.getD j 0) (fun _ => 0) 0 0 p0) p0 x))))) q4 = some (.inl (cy 1, ((K.length) + 1), .inr (.inl (vp_updL (va_cpy (fun j => K.getD j 0) (fun _ => 0) 0 0 p0) p0 x)))) := qs_self
  refine lv_aload_n hx hb dX3_withNumber_22 rfl (lv_at hl 1 rfl) ?_
  refine lv_iload_n hx hb dX3_withNumber_23 rfl (lv_at hl 2 rfl) ?_
  refine lv_aload hx hb dX3_withNumber_24 (lv_at hl 0 rfl) ?_
  refine lv_iload_n hx hb dX3_withNumber_26 rfl (lv_at hl 2 rfl) ?_
  refine lv_iconst (v := nI 1) hx hb dX3_withNumber_27 (by decide) ?_
  refine q_iaddN hx hb dX3_withNumber_28 ?_
  refine lv_aload_n hx hb dX3_withNumber_29 rfl (lv_at hl 1 rfl) ?_
  refine q_alen C hP ha rfl dX3_withNumber_30 ?_
  refine lv_iload_n hx hb dX3_withNumber_31 rfl (lv_at hl 2 rfl) ?_
  refine q_isubN hx hb dX3_withNumber_32 (by omega) ?_
  refine q_copyl (sp := p0) (dp := (p0 + 1)) (n := ((K.length) - p0)) C hP hS ha fq4 (hP.arr fq4 (nI_in (c := 0) (by omega) (by omega))) (by omega) (by omega) (by omega) (by omega) hl.1 (by omega) (by decide) dX3_withNumber_33 (fun H locs hP hS => ?_)
  rw [qs_qs] at hP
  replace ha := qs_re (o' := (.inl (cy 1, ((K.length) + 1), .inr (.inl (va_cpy (fun j => K.getD j 0) (vp_updL (va_cpy (fun j => K.getD j 0) (fun _ => 0) 0 0 p0) p0 x) p0 (p0 + 1) ((K.length) - p0)))))) n_q4_a ha
  replace fq4 : (qs h q4 (.inl (cy 1, ((K.length) + 1), .inr (.inl (va_cpy (fun j => K.getD j 0) (vp_updL (va_cpy (fun j => K.getD j 0) (fun _ => 0) 0 0 p0) p0 x) p0 (p0 + 1) ((K.length) - p0)))))) q4 = some (.inl (cy 1, ((K.length) + 1), .inr (.inl (va_cpy (fun j => K.getD j 0) (vp_updL (va_cpy (fun j => K.getD j 0) (fun _ => 0) 0 0 p0) p0 x) p0 (p0 + 1) ((K.length) - p0))))) := qs_self
  refine lv_aload hx hb dX3_withNumber_36 (lv_at hl 0 rfl) ?_
  exact q_aret (v := some q4) C (Or.inr ⟨_, rfl⟩) (hP.reJ (thIn_len hp).symm (fun j hj => thIn_get hp hj)) hS ⟨q4, rfl, eq4, rfl⟩ (by omega) dX3_withNumber_38
theorem dX3_withoutNumber_0 : decode cX3_withoutNumber 0 = .ok (.aload_n 0, 1) := by decide +kernel
theorem dX3_withoutNumber_1 : decode cX3_withoutNumber 1 = .ok (.arraylength, 1) := by decide +kernel
theorem dX3_withoutNumber_2 : decode cX3_withoutNumber 2 = .ok (.iconst 1, 1) := by decide +kernel
theorem dX3_withoutNumber_3 : decode cX3_withoutNumber 3 = .ok (.if_icmp .gt 7, 3) := by decide +kernel
theorem dX3_withoutNumber_6 : decode cX3_withoutNumber 6 = .ok (.getstatic 9, 3) := by decide +kernel
theorem dX3_withoutNumber_9 : decode cX3_withoutNumber 9 = .ok (.areturn, 1) := by decide +kernel
theorem dX3_withoutNumber_10 : decode cX3_withoutNumber 10 = .ok (.aload_n 0, 1) := by decide +kernel
theorem dX3_withoutNumber_11 : decode cX3_withoutNumber 11 = .ok (.arraylength, 1) := by decide +kernel
theorem dX3_withoutNumber_12 : decode cX3_withoutNumber 12 = .ok (.iconst 1, 1) := by decide +kernel
theorem dX3_withoutNumber_13 : decode cX3_withoutNumber 13 = .ok (.isub, 1) := by decide +kernel
theorem dX3_withoutNumber_14 : decode cX3_withoutNumber 14 = .ok (.newarray .long, 2) := by decide +kernel
theorem dX3_withoutNumber_16 : decode cX3_withoutNumber 16 = .ok (.astore_n 2, 1) := by decide +kernel
theorem dX3_withoutNumber_17 : decode cX3_withoutNumber 17 = .ok (.aload_n 0, 1) := by decide +kernel
theorem dX3_withoutNumber_18 : decode cX3_withoutNumber 18 = .ok (.iconst 0, 1) := by decide +kernel
theorem dX3_withoutNumber_19 : decode cX3_withoutNumber 19 = .ok (.aload_n 2, 1) := by decide +kernel
theorem dX3_withoutNumber_20 : decode cX3_withoutNumber 20 = .ok (.iconst 0, 1) := by decide +kernel
theorem dX3_withoutNumber_21 : decode cX3_withoutNumber 21 = .ok (.iload_n 1, 1) := by decide +kernel
theorem dX3_withoutNumber_22 : decode cX3_withoutNumber 22 = .ok (.invokestatic 135, 3) := by decide +kernel
theorem dX3_withoutNumber_25 : decode cX3_withoutNumber 25 = .ok (.aload_n 0, 1) := by decide +kernel
theorem dX3_withoutNumber_26 : decode cX3_withoutNumber 26 = .ok (.iload_n 1, 1) := by decide +kernel
theorem dX3_withoutNumber_27 : decode cX3_withoutNumber 27 = .ok (.iconst 1, 1) := by decide +kernel
theorem dX3_withoutNumber_28 : decode cX3_withoutNumber 28 = .ok (.iadd, 1) := by decide +kernel
theorem dX3_withoutNumber_29 : decode cX3_withoutNumber 29 = .ok (.aload_n 2, 1) := by decide +kernel
theorem dX3_withoutNumber_30 : decode cX3_withoutNumber 30 = .ok (.iload_n 1, 1) := by decide +kernel
theorem dX3_withoutNumber_31 : decode cX3_withoutNumber 31 = .ok (.aload_n 2, 1) := by decide +kernel
theorem dX3_withoutNumber_32 : decode cX3_withoutNumber 32 = .ok (.arraylength, 1) := by decide +kernel
theorem dX3_withoutNumber_33 : decode cX3_withoutNumber 33 = .ok (.iload_n 1, 1) := by decide +kernel
theorem dX3_withoutNumber_34 : decode cX3_withoutNumber 34 = .ok (.isub, 1) := by decide +kernel
theorem dX3_withoutNumber_35 : decode cX3_withoutNumber 35 = .ok (.invokestatic 135, 3) := by decide +kernel
theorem dX3_withoutNumber_38 : decode cX3_withoutNumber 38 = .ok (.aload_n 2, 1) := by decide +kernel
theorem dX3_withoutNumber_39 : decode cX3_withoutNumber 39 = .ok (.areturn, 1) := by decide +kernel
set_option maxRecDepth 100000 in
set_option maxHeartbeats 4000000 in
theorem c_X3_withoutNumber (l : Launch) (D : va_G) (cy : Nat → ClassId) (N0 : Nat) (h : qH) (a : Nat) (K : List Int64) (p0 : Nat) (ha : h a = some (thJ cy K)) (hp : p0 < K.length) (hK : K.length < 1000000) : qC l D cy N0 yX3_withoutNumber cX3_withoutNumber 3 (some (.array .long)) 1 40 1 K.length [.ref a, .int (nI p0)] h (fun v h' => ∃ q, v = some (.ref q) ∧ ((q = cy 99 ∧ K.length ≤ 1 ∧ K.eraseIdx p0 = [] ∧ h = h') ∨ (1 < K.length ∧ h q = none ∧ h' = qs h q (thJ cy (K.eraseIdx p0))))) (fun E h' => False) := by
  refine q_ofW (by decide) (by exact Nat.le_of_ble_eq_true rfl) ?_
  intro p e s m below meth c ls C hP hl
  have hx := C.1
  have hb := C.2.1
  have hS : va_S (qA N0) s.heap s.heap [] := va_S.rf
  have hl : lv_has ls 3 [(0, .ref a), (1, .int (nI p0))] := hl
  have ha0 := ha
  unfold thJ at ha
  refine lv_aload_n hx hb dX3_withoutNumber_0 rfl (lv_at hl 0 rfl) ?_
  refine q_alen C hP ha rfl dX3_withoutNumber_1 ?_
  refine lv_iconst (v := nI 1) hx hb dX3_withoutNumber_2 (by decide) ?_
  refine lv_icmp_gt (tgt := 10) hx hb dX3_withoutNumber_3 (by decide) (fun c3 => ?_) (fun c3 => ?_)
  · replace c3 : 1 < (K.length) := (nI_ltI (a := 1) (b := K.length) (by omega) (by omega)).mp c3
    refine lv_aload_n hx hb dX3_withoutNumber_10 rfl (lv_at hl 0 rfl) ?_
    refine q_alen C hP ha rfl dX3_withoutNumber_11 ?_
    refine lv_iconst (v := nI 1) hx hb dX3_withoutNumber_12 (by decide) ?_
    refine q_isubN hx hb dX3_withoutNumber_13 (by omega) ?_
    refine q_newaJ (N := ((K.length) - 1)) C g67 hP hS (nI_pos (by omega)) (nI_clamp (by omega)) (by omega) (by omega) (by omega) dX3_withoutNumber_14 (fun q14 H eq14 hP hS => ?_)
    have n_q14_a : a ≠ q14 := qne_of eq14 ha
    replace ha := qle_new (o := (.inl (cy 1, ((K.length) - 1), .inr (.inl (fun _ => 0))))) eq14 _ _ ha
    have fq14 : (qs h q14 (.inl (cy 1, ((K.length) - 1), .inr (.inl (fun _ => 0))))) q14 = some (.inl (cy 1, ((K.length) - 1), .inr (.inl (fun _ => 0)))) := qs_self
    refine lv_astore_n (lv' := [(2, .ref q14), (0, .ref a), (1, .int (nI p0))]) hx hb dX3_withoutNumber_16 rfl hl (by decide) rfl (fun ls hl => ?_)
    refine lv_aload_n hx hb dX3_withoutNumber_17 rfl (lv_at hl 1 rfl) ?_
    refine lv_iconst (v := nI 0) hx hb dX3_withoutNumber_18 (by decide) ?_
    refine lv_aload_n hx hb dX3_withoutNumber_19 rfl (lv_at hl 0 rfl) ?_
    refine lv_iconst (v := nI 0) hx hb dX3_withoutNumber_20 (by decide) ?_
    refine lv_iload_n hx hb dX3_withoutNumber_21 rfl (lv_at hl 2 rfl) ?_
    refine q_copyl (sp := 0) (dp := 0) (n := p0) C hP hS ha fq14 (hP.arr fq14 (nI_in (c := 0) (by omega) (by omega))) (by omega) (by omega) (by omega) (by omega) hl.1 (by omega) (by decide) dX3_withoutNumber_22 (fun H locs hP hS => ?_)
    rw [qs_qs] at hP
    replace ha := qs_re (o' := (.inl (cy 1, ((K.length) - 1), .inr (.inl (va_cpy (fun j => K.getD j 0) (fun _ => 0) 0 0 p0))))) n_q14_a ha
    replace fq14 : (qs h q14 (.inl (cy 1, ((K.length) - 1), .inr (.inl (va_cpy (fun j => K.getD j 0) (fun _ => 0) 0 0 p0))))) q14 = some (.inl (cy 1, ((K.length) - 1), .inr (.inl (va_cpy (fun j => K.getD j 0) (fun _ => 0) 0 0 p0)))) := qs_self
    refine lv_aload_n hx hb dX3_withoutNumber_25 rfl (lv_at hl 1 rfl) ?_
    refine lv_iload_n hx hb dX3_withoutNumber_26 rfl (lv_at hl 2 rfl) ?_
    refine lv_iconst (v := nI 1) hx hb dX3_withoutNumber_27 (by decide) ?_
    refine q_iaddN hx hb dX3_withoutNumber_28 ?_
    refine lv_aload_n hx hb dX3_withoutNumber_29 rfl (lv_at hl 0 rfl) ?_
    refine lv_iload_n hx hb dX3_withoutNumber_30 rfl (lv_at hl 2 rfl) ?_
    refine lv_aload_n hx hb dX3_withoutNumber_31 rfl (lv_at hl 0 rfl) ?_
    refine q_alen C hP fq14 rfl dX3_withoutNumber_32 ?_
    refine lv_iload_n hx hb dX3_withoutNumber_33 rfl (lv_at hl 2 rfl) ?_
    refine q_isubN hx hb dX3_withoutNumber_34 (by omega) ?_
    refine q_copyl (sp := (p0 + 1)) (dp := p0) (n := (((K.length) - 1) - p0)) C hP hS ha fq14 (hP.arr fq14 (nI_in (c := 0) (by omega) (by omega))) (by omega) (by omega) (by omega) (by omega) hl.1 (by omega) (by decide) dX3_withoutNumber_35 (fun H locs hP hS => ?_)
    rw [qs_qs] at hP
    replace ha := qs_re (o' := (.inl (cy 1, ((K.length) - 1), .inr (.inl (va_cpy (fun j => K.getD j 0) (va_cpy (fun j => K.getD j 0) (fun _ => 0) 0 0 p0) (p0 + 1) p0 (((K.length) - 1) - p0)))))) n_q14_a ha
    replace fq14 : (qs h q14 (.inl (cy 1, ((K.length) - 1), .inr (.inl (va_cpy (fun j => K.getD j 0) (va_cpy (fun j => K.getD j 0) (fun _ => 0) 0 0 p0) (p0 + 1) p0 (((K.length) - 1) - p0)))))) q14 = some (.inl (cy 1, ((K.length) - 1), .inr (.inl (va_cpy (fun j => K.getD j 0) (va_cpy (fun j => K.getD j 0) (fun _ => 0) 0 0 p0) (p0 + 1) p0 (((K.length) - 1) - p0))))) := qs_self
    refine lv_aload_n hx hb dX3_withoutNumber_38 rfl (lv_at hl 0 rfl) ?_
    exact q_aret (v := some q14) C (Or.inr ⟨_, rfl⟩) (hP.reJ (List.length_eraseIdx_of_lt hp).symm (fun j hj => thEr_get hp hj)) hS ⟨q14, rfl, Or.inr ⟨by omega, eq14, rfl⟩⟩ (by omega) dX3_withoutNumber_39
  · replace c3 : ¬ 1 < (K.length) := fun zq => c3 ((nI_ltI (a := 1) (b := K.length) (by omega) (by omega)).mpr zq)
    refine q_gets C hS dX3_withoutNumber_6 ?_
    exact q_aret (v := some (cy 99)) C (Or.inr ⟨_, rfl⟩) hP hS ⟨cy 99, rfl, Or.inl ⟨rfl, by omega, List.eq_nil_of_length_eq_zero (by rw [List.length_eraseIdx_of_lt hp]; omega), rfl⟩⟩ (by omega) dX3_withoutNumber_9
theorem th_up {C : Nat → Nat} {j : Nat} : (fun i => if i < j + 1 then some (C i) else none) = va_up (fun i => if i < j then some (C i) else none) j (some (C j)) := by
  funext i
  unfold va_up
  by_cases c : i = j
  · subst c; rw [if_pos (by omega), if_pos rfl]
  · rw [if_neg c]
    by_cases c2 : i < j
    · rw [if_pos (by omega)]; exact (if_pos c2).symm
    · rw [if_neg (by omega)]; exact (if_neg c2).symm
def thCi (C : Nat → Nat) (p b : Nat) : Nat → Nat := fun i => if i < p then C i else if i = p then b else C (i - 1)
def thCe (C : Nat → Nat) (p : Nat) : Nat → Nat := fun i => if i < p then C i else C (i + 1)
theorem dX3_withNode_0 : decode cX3_withNode 0 = .ok (.aload_n 0, 1) := by decide +kernel
theorem dX3_withNode_1 : decode cX3_withNode 1 = .ok (.arraylength, 1) := by decide +kernel
theorem dX3_withNode_2 : decode cX3_withNode 2 = .ok (.iconst 1, 1) := by decide +kernel
theorem dX3_withNode_3 : decode cX3_withNode 3 = .ok (.iadd, 1) := by decide +kernel
theorem dX3_withNode_4 : decode cX3_withNode 4 = .ok (.anewarray 10, 3) := by decide +kernel
theorem dX3_withNode_7 : decode cX3_withNode 7 = .ok (.astore_n 3, 1) := by decide +kernel
theorem dX3_withNode_8 : decode cX3_withNode 8 = .ok (.iconst 0, 1) := by decide +kernel
theorem dX3_withNode_9 : decode cX3_withNode 9 = .ok (.istore 4, 2) := by decide +kernel
theorem dX3_withNode_11 : decode cX3_withNode 11 = .ok (.iload 4, 2) := by decide +kernel
theorem dX3_withNode_13 : decode cX3_withNode 13 = .ok (.aload_n 3, 1) := by decide +kernel
theorem dX3_withNode_14 : decode cX3_withNode 14 = .ok (.arraylength, 1) := by decide +kernel
theorem dX3_withNode_15 : decode cX3_withNode 15 = .ok (.if_icmp .ge 42, 3) := by decide +kernel
theorem dX3_withNode_18 : decode cX3_withNode 18 = .ok (.aload_n 3, 1) := by decide +kernel
theorem dX3_withNode_19 : decode cX3_withNode 19 = .ok (.iload 4, 2) := by decide +kernel
theorem dX3_withNode_21 : decode cX3_withNode 21 = .ok (.iload 4, 2) := by decide +kernel
theorem dX3_withNode_23 : decode cX3_withNode 23 = .ok (.iload_n 1, 1) := by decide +kernel
theorem dX3_withNode_24 : decode cX3_withNode 24 = .ok (.if_icmp .ge 10, 3) := by decide +kernel
theorem dX3_withNode_27 : decode cX3_withNode 27 = .ok (.aload_n 0, 1) := by decide +kernel
theorem dX3_withNode_28 : decode cX3_withNode 28 = .ok (.iload 4, 2) := by decide +kernel
theorem dX3_withNode_30 : decode cX3_withNode 30 = .ok (.aaload, 1) := by decide +kernel
theorem dX3_withNode_31 : decode cX3_withNode 31 = .ok (.goto 19, 3) := by decide +kernel
theorem dX3_withNode_34 : decode cX3_withNode 34 = .ok (.iload 4, 2) := by decide +kernel
theorem dX3_withNode_36 : decode cX3_withNode 36 = .ok (.iload_n 1, 1) := by decide +kernel
theorem dX3_withNode_37 : decode cX3_withNode 37 = .ok (.if_icmp .le 12, 3) := by decide +kernel
theorem dX3_withNode_40 : decode cX3_withNode 40 = .ok (.aload_n 0, 1) := by decide +kernel
theorem dX3_withNode_41 : decode cX3_withNode 41 = .ok (.iload 4, 2) := by decide +kernel
theorem dX3_withNode_43 : decode cX3_withNode 43 = .ok (.iconst 1, 1) := by decide +kernel
theorem dX3_withNode_44 : decode cX3_withNode 44 = .ok (.isub, 1) := by decide +kernel
theorem dX3_withNode_45 : decode cX3_withNode 45 = .ok (.aaload, 1) := by decide +kernel
theorem dX3_withNode_46 : decode cX3_withNode 46 = .ok (.goto 4, 3) := by decide +kernel
theorem dX3_withNode_49 : decode cX3_withNode 49 = .ok (.aload_n 2, 1) := by decide +kernel
theorem dX3_withNode_50 : decode cX3_withNode 50 = .ok (.aastore, 1) := by decide +kernel
theorem dX3_withNode_51 : decode cX3_withNode 51 = .ok (.iinc 4 1, 3) := by decide +kernel
theorem dX3_withNode_54 : decode cX3_withNode 54 = .ok (.goto (-43), 3) := by decide +kernel
theorem dX3_withNode_57 : decode cX3_withNode 57 = .ok (.aload_n 3, 1) := by decide +kernel
theorem dX3_withNode_58 : decode cX3_withNode 58 = .ok (.areturn, 1) := by decide +kernel
set_option maxRecDepth 100000 in
set_option maxHeartbeats 4000000 in
theorem c_X3_withNode (l : Launch) (D : va_G) (cy : Nat → ClassId) (N0 : Nat) (h : qH) (a n p0 b : Nat) (C9 : Nat → Nat) (fb : List Value) (ha : h a = some (thA cy n C9)) (hC : ∀ j, j < n → ∃ fs, h (C9 j) = some (.inr (3, fs))) (hb9 : h b = some (.inr (3, fb))) (hn : n < 1000000) (hp : p0 ≤ n) : qC l D cy N0 yX3_withNode cX3_withNode 5 (some (.array (.object RX3))) 0 0 1 (n + 1) [.ref a, .int (nI p0), .ref b] h (fun v h' => ∃ q, v = some (.ref q) ∧ h q = none ∧ h' = qs h q (thA cy (n + 1) (thCi C9 p0 b))) (fun E h' => False) := by
  refine q_ofW (by decide) (by exact Nat.le_of_ble_eq_true rfl) ?_
  intro p e s m below meth c ls C hP hl
  have hx := C.1
  have hb := C.2.1
  have hS : va_S (qA N0) s.heap s.heap [] := va_S.rf
  have hl : lv_has ls 5 [(0, .ref a), (1, .int (nI p0)), (2, .ref b)] := hl
  have ha0 := ha
  unfold thA at ha
  have hb0 := hb9
  refine lv_aload_n hx hb dX3_withNode_0 rfl (lv_at hl 0 rfl) ?_
  refine q_alen C hP ha rfl dX3_withNode_1 ?_
  refine lv_iconst (v := nI 1) hx hb dX3_withNode_2 (by decide) ?_
  refine q_iaddN hx hb dX3_withNode_3 ?_
  refine q_newq (t0 := 4) (N := (n + 1)) C g353 (by decide) rfl hP hS (nI_pos (by omega)) (nI_clamp (by omega)) (by omega) (by omega) (by omega) dX3_withNode_4 (fun q4 H eq4 hP hS => ?_)
  have n_q4_a : a ≠ q4 := qne_of eq4 ha
  replace ha := qle_new (o := (.inl (cy 4, (n + 1), .inr (.inr (.inr (.inr (fun _ => none))))))) eq4 _ _ ha
  have n_q4_b : b ≠ q4 := qne_of eq4 hb9
  replace hb9 := qle_new (o := (.inl (cy 4, (n + 1), .inr (.inr (.inr (.inr (fun _ => none))))))) eq4 _ _ hb9
  have fq4 : (qs h q4 (.inl (cy 4, (n + 1), .inr (.inr (.inr (.inr (fun _ => none))))))) q4 = some (.inl (cy 4, (n + 1), .inr (.inr (.inr (.inr (fun _ => none)))))) := qs_self
  refine lv_astore_n (lv' := [(3, .ref q4), (0, .ref a), (1, .int (nI p0)), (2, .ref b)]) hx hb dX3_withNode_7 rfl hl (by decide) rfl (fun ls hl => ?_)
  refine lv_iconst (v := nI 0) hx hb dX3_withNode_8 (by decide) ?_
  refine lv_istore (lv' := [(4, .int (nI 0)), (3, .ref q4), (0, .ref a), (1, .int (nI p0)), (2, .ref b)]) hx hb dX3_withNode_9 hl (by decide) rfl (fun ls hl => ?_)
  refine (?_ : ∀ (t : Nat) (H : Heap) (locs : List Loc) (ls : Array Slot) (j : Nat), (n + 1) - j < t → lv_has ls 5 [(4, .int (nI j)), (3, .ref q4), (0, .ref a), (1, .int (nI p0)), (2, .ref b)] → j ≤ (n + 1) → qP D N0 (qs h q4 (.inl (cy 4, (n + 1), .inr (.inr (.inr (.inr ((fun i => if i < j then some ((thCi C9 p0 b) i) else none)))))))) H → va_S (qA N0) s.heap H locs → W p l e _ s m _ below meth c H locs 1 (0 + (n + 1)) _ (F0 m 11 ls [])) _ _ _ ls 0 (Nat.lt_succ_self _) (lv_sub hl [0, 1, 2, 3, 4] rfl) (Nat.zero_le _) (by rw [show (fun i => if i < 0 then some ((thCi C9 p0 b) i) else none) = (fun _ => none) from funext fun i => if_neg (by omega)]; exact hP) hS
  clear hl hP hS
  intro t
  induction t with
  | zero => intro H locs ls j ht; exact absurd ht (Nat.not_lt_zero _)
  | succ t ihl =>
    intro H locs ls j ht hl hj hP hS
    have fq4 : (qs h q4 (.inl (cy 4, (n + 1), .inr (.inr (.inr (.inr ((fun i => if i < j then some ((thCi C9 p0 b) i) else none)))))))) q4 = some (.inl (cy 4, (n + 1), .inr (.inr (.inr (.inr ((fun i => if i < j then some ((thCi C9 p0 b) i) else none))))))) := qs_self
    replace ha : (qs h q4 (.inl (cy 4, (n + 1), .inr (.inr (.inr (.inr ((fun i => if i < j then some ((thCi C9 p0 b) i) else none)))))))) a = _ := (qs_ne (qne_of eq4 ha0)).trans ha0
    unfold thA at ha
    replace hb9 := (qs_ne (h := h) (a := q4) (o := (.inl (cy 4, (n + 1), .inr (.inr (.inr (.inr ((fun i => if i < j then some ((thCi C9 p0 b) i) else none)))))))) (qne_of eq4 hb0)).trans hb0
    refine lv_iload hx hb dX3_withNode_11 (lv_at hl 0 rfl) ?_
    refine lv_aload_n hx hb dX3_withNode_13 rfl (lv_at hl 1 rfl) ?_
    refine q_alen C hP fq4 rfl dX3_withNode_14 ?_
    refine lv_icmp_ge (tgt := 57) hx hb dX3_withNode_15 (by decide) (fun c15 => ?_) (fun c15 => ?_)
    · replace c15 : (n + 1) ≤ j := (nI_leI (a := (n + 1)) (b := j) (by omega) (by omega)).mp c15
      refine lv_aload_n hx hb dX3_withNode_57 rfl (lv_at hl 1 rfl) ?_
      exact q_aret (v := some q4) C (Or.inr ⟨_, rfl⟩) (hP.reA (C := (thCi C9 p0 b)) (fun i hi => if_pos (by omega))) hS ⟨q4, rfl, eq4, rfl⟩ (by omega) dX3_withNode_58
    · replace c15 : ¬ (n + 1) ≤ j := fun zq => c15 ((nI_leI (a := (n + 1)) (b := j) (by omega) (by omega)).mpr zq)
      refine lv_aload_n hx hb dX3_withNode_18 rfl (lv_at hl 1 rfl) ?_
      refine lv_iload hx hb dX3_withNode_19 (lv_at hl 0 rfl) ?_
      refine lv_iload hx hb dX3_withNode_21 (lv_at hl 0 rfl) ?_
      refine lv_iload_n hx hb dX3_withNode_23 rfl (lv_at hl 3 rfl) ?_
      refine lv_icmp_ge (tgt := 34) hx hb dX3_withNode_24 (by decide) (fun c24 => ?_) (fun c24 => ?_)
      · replace c24 : p0 ≤ j := (nI_leI (a := p0) (b := j) (by omega) (by omega)).mp c24
        refine lv_iload hx hb dX3_withNode_34 (lv_at hl 0 rfl) ?_
        refine lv_iload_n hx hb dX3_withNode_36 rfl (lv_at hl 3 rfl) ?_
        refine lv_icmp_le (tgt := 49) hx hb dX3_withNode_37 (by decide) (fun c37 => ?_) (fun c37 => ?_)
        · replace c37 : j ≤ p0 := (nI_leI (a := j) (b := p0) (by omega) (by omega)).mp c37
          refine lv_aload_n hx hb dX3_withNode_49 rfl (lv_at hl 4 rfl) ?_
          refine q_aastN (rc := (RX3, TX3, 8)) C rfl rfl hP hS fq4 hb9 (by omega) (by omega) dX3_withNode_50 (fun H locs hP hS => ?_)
          rw [qs_qs] at hP
          refine lv_iinc (v := nI (j + 1)) (lv' := [(4, .int (nI (j + 1))), (3, .ref q4), (0, .ref a), (1, .int (nI p0)), (2, .ref b)]) hx hb dX3_withNode_51 hl (k := 0) rfl (nI_1 j) (by decide) rfl (fun ls hl => ?_)
          refine lv_goto (tgt := 11) hx hb dX3_withNode_54 (by decide) ?_
          have ec9 : (thCi C9 p0 b) j = b := by unfold thCi; first | rw [if_pos (by omega)] | rw [if_neg (by omega), if_pos (by omega)] | rw [if_neg (by omega), if_neg (by omega)] | rw [if_neg (by omega)]
          exact ihl H locs ls (j + 1) (by omega) (lv_sub hl [0, 1, 2, 3, 4] rfl) (by omega) (by rw [th_up, ec9]; exact hP) hS
        · replace c37 : ¬ j ≤ p0 := fun zq => c37 ((nI_leI (a := j) (b := p0) (by omega) (by omega)).mpr zq)
          refine lv_aload_n hx hb dX3_withNode_40 rfl (lv_at hl 2 rfl) ?_
          refine lv_iload hx hb dX3_withNode_41 (lv_at hl 0 rfl) ?_
          refine lv_iconst (v := nI 1) hx hb dX3_withNode_43 (by decide) ?_
          refine q_isubN hx hb dX3_withNode_44 (by omega) ?_
          refine q_aaldR C hP ha rfl (by omega) (by omega) rfl dX3_withNode_45 ?_
          obtain ⟨fs1, hf1⟩ := hC (j - 1) (by omega)
          replace hf1 := (qs_ne (h := h) (a := q4) (o := (.inl (cy 4, (n + 1), .inr (.inr (.inr (.inr ((fun i => if i < j then some ((thCi C9 p0 b) i) else none)))))))) (qne_of eq4 hf1)).trans hf1
          refine lv_goto (tgt := 50) hx hb dX3_withNode_46 (by decide) ?_
          refine q_aastN (rc := (RX3, TX3, 8)) C rfl rfl hP hS fq4 hf1 (by omega) (by omega) dX3_withNode_50 (fun H locs hP hS => ?_)
          rw [qs_qs] at hP
          refine lv_iinc (v := nI (j + 1)) (lv' := [(4, .int (nI (j + 1))), (3, .ref q4), (0, .ref a), (1, .int (nI p0)), (2, .ref b)]) hx hb dX3_withNode_51 hl (k := 0) rfl (nI_1 j) (by decide) rfl (fun ls hl => ?_)
          refine lv_goto (tgt := 11) hx hb dX3_withNode_54 (by decide) ?_
          have ec9 : (thCi C9 p0 b) j = (C9 (j - 1)) := by unfold thCi; first | rw [if_pos (by omega)] | rw [if_neg (by omega), if_pos (by omega)] | rw [if_neg (by omega), if_neg (by omega)] | rw [if_neg (by omega)]
          exact ihl H locs ls (j + 1) (by omega) (lv_sub hl [0, 1, 2, 3, 4] rfl) (by omega) (by rw [th_up, ec9]; exact hP) hS
      · replace c24 : ¬ p0 ≤ j := fun zq => c24 ((nI_leI (a := p0) (b := j) (by omega) (by omega)).mpr zq)
        refine lv_aload_n hx hb dX3_withNode_27 rfl (lv_at hl 2 rfl) ?_
        refine lv_iload hx hb dX3_withNode_28 (lv_at hl 0 rfl) ?_
        refine q_aaldR C hP ha rfl (by omega) (by omega) rfl dX3_withNode_30 ?_
        obtain ⟨fs2, hf2⟩ := hC j (by omega)
        replace hf2 := (qs_ne (h := h) (a := q4) (o := (.inl (cy 4, (n + 1), .inr (.inr (.inr (.inr ((fun i => if i < j then some ((thCi C9 p0 b) i) else none)))))))) (qne_of eq4 hf2)).trans hf2
        refine lv_goto (tgt := 50) hx hb dX3_withNode_31 (by decide) ?_
        refine q_aastN (rc := (RX3, TX3, 8)) C rfl rfl hP hS fq4 hf2 (by omega) (by omega) dX3_withNode_50 (fun H locs hP hS => ?_)
        rw [qs_qs] at hP
        refine lv_iinc (v := nI (j + 1)) (lv' := [(4, .int (nI (j + 1))), (3, .ref q4), (0, .ref a), (1, .int (nI p0)), (2, .ref b)]) hx hb dX3_withNode_51 hl (k := 0) rfl (nI_1 j) (by decide) rfl (fun ls hl => ?_)
        refine lv_goto (tgt := 11) hx hb dX3_withNode_54 (by decide) ?_
        have ec9 : (thCi C9 p0 b) j = (C9 j) := by unfold thCi; first | rw [if_pos (by omega)] | rw [if_neg (by omega), if_pos (by omega)] | rw [if_neg (by omega), if_neg (by omega)] | rw [if_neg (by omega)]
        exact ihl H locs ls (j + 1) (by omega) (lv_sub hl [0, 1, 2, 3, 4] rfl) (by omega) (by rw [th_up, ec9]; exact hP) hS
theorem dX3_withoutNode_0 : decode cX3_withoutNode 0 = .ok (.iconst 0, 1) := by decide +kernel
theorem dX3_withoutNode_1 : decode cX3_withoutNode 1 = .ok (.aload_n 0, 1) := by decide +kernel
theorem dX3_withoutNode_2 : decode cX3_withoutNode 2 = .ok (.arraylength, 1) := by decide +kernel
theorem dX3_withoutNode_3 : decode cX3_withoutNode 3 = .ok (.iconst 1, 1) := by decide +kernel
theorem dX3_withoutNode_4 : decode cX3_withoutNode 4 = .ok (.isub, 1) := by decide +kernel
theorem dX3_withoutNode_5 : decode cX3_withoutNode 5 = .ok (.invokestatic 141, 3) := by decide +kernel
theorem dX3_withoutNode_8 : decode cX3_withoutNode 8 = .ok (.anewarray 10, 3) := by decide +kernel
theorem dX3_withoutNode_11 : decode cX3_withoutNode 11 = .ok (.astore_n 2, 1) := by decide +kernel
theorem dX3_withoutNode_12 : decode cX3_withoutNode 12 = .ok (.iconst 0, 1) := by decide +kernel
theorem dX3_withoutNode_13 : decode cX3_withoutNode 13 = .ok (.istore_n 3, 1) := by decide +kernel
theorem dX3_withoutNode_14 : decode cX3_withoutNode 14 = .ok (.iload_n 3, 1) := by decide +kernel
theorem dX3_withoutNode_15 : decode cX3_withoutNode 15 = .ok (.aload_n 2, 1) := by decide +kernel
theorem dX3_withoutNode_16 : decode cX3_withoutNode 16 = .ok (.arraylength, 1) := by decide +kernel
theorem dX3_withoutNode_17 : decode cX3_withoutNode 17 = .ok (.if_icmp .ge 28, 3) := by decide +kernel
theorem dX3_withoutNode_20 : decode cX3_withoutNode 20 = .ok (.aload_n 2, 1) := by decide +kernel
theorem dX3_withoutNode_21 : decode cX3_withoutNode 21 = .ok (.iload_n 3, 1) := by decide +kernel
theorem dX3_withoutNode_22 : decode cX3_withoutNode 22 = .ok (.iload_n 3, 1) := by decide +kernel
theorem dX3_withoutNode_23 : decode cX3_withoutNode 23 = .ok (.iload_n 1, 1) := by decide +kernel
theorem dX3_withoutNode_24 : decode cX3_withoutNode 24 = .ok (.if_icmp .ge 9, 3) := by decide +kernel
theorem dX3_withoutNode_27 : decode cX3_withoutNode 27 = .ok (.aload_n 0, 1) := by decide +kernel
theorem dX3_withoutNode_28 : decode cX3_withoutNode 28 = .ok (.iload_n 3, 1) := by decide +kernel
theorem dX3_withoutNode_29 : decode cX3_withoutNode 29 = .ok (.aaload, 1) := by decide +kernel
theorem dX3_withoutNode_30 : decode cX3_withoutNode 30 = .ok (.goto 8, 3) := by decide +kernel
theorem dX3_withoutNode_33 : decode cX3_withoutNode 33 = .ok (.aload_n 0, 1) := by decide +kernel
theorem dX3_withoutNode_34 : decode cX3_withoutNode 34 = .ok (.iload_n 3, 1) := by decide +kernel
theorem dX3_withoutNode_35 : decode cX3_withoutNode 35 = .ok (.iconst 1, 1) := by decide +kernel
theorem dX3_withoutNode_36 : decode cX3_withoutNode 36 = .ok (.iadd, 1) := by decide +kernel
theorem dX3_withoutNode_37 : decode cX3_withoutNode 37 = .ok (.aaload, 1) := by decide +kernel
theorem dX3_withoutNode_38 : decode cX3_withoutNode 38 = .ok (.aastore, 1) := by decide +kernel
theorem dX3_withoutNode_39 : decode cX3_withoutNode 39 = .ok (.iinc 3 1, 3) := by decide +kernel
theorem dX3_withoutNode_42 : decode cX3_withoutNode 42 = .ok (.goto (-28), 3) := by decide +kernel
theorem dX3_withoutNode_45 : decode cX3_withoutNode 45 = .ok (.aload_n 2, 1) := by decide +kernel
theorem dX3_withoutNode_46 : decode cX3_withoutNode 46 = .ok (.areturn, 1) := by decide +kernel
set_option maxRecDepth 100000 in
set_option maxHeartbeats 4000000 in
theorem c_X3_withoutNode (l : Launch) (D : va_G) (cy : Nat → ClassId) (N0 : Nat) (h : qH) (a n p0 : Nat) (C9 : Nat → Nat) (ha : h a = some (thA cy n C9)) (hC : ∀ j, j < n → j ≠ p0 → ∃ fs, h (C9 j) = some (.inr (3, fs))) (hn : n < 1000000) (hp : p0 < n) : qC l D cy N0 yX3_withoutNode cX3_withoutNode 4 (some (.array (.object RX3))) 1 40 1 n [.ref a, .int (nI p0)] h (fun v h' => ∃ q, v = some (.ref q) ∧ h q = none ∧ h' = qs h q (thA cy (n - 1) (thCe C9 p0))) (fun E h' => False) := by
  refine q_ofW (by decide) (by exact Nat.le_of_ble_eq_true rfl) ?_
  intro p e s m below meth c ls C hP hl
  have hx := C.1
  have hb := C.2.1
  have hS : va_S (qA N0) s.heap s.heap [] := va_S.rf
  have hl : lv_has ls 4 [(0, .ref a), (1, .int (nI p0))] := hl
  have ha0 := ha
  unfold thA at ha
  refine lv_iconst (v := nI 0) hx hb dX3_withoutNode_0 (by decide) ?_
  refine lv_aload_n hx hb dX3_withoutNode_1 rfl (lv_at hl 0 rfl) ?_
  refine q_alen C hP ha rfl dX3_withoutNode_2 ?_
  refine lv_iconst (v := nI 1) hx hb dX3_withoutNode_3 (by decide) ?_
  refine q_isubN hx hb dX3_withoutNode_4 (by omega) ?_
  refine q_callS (rest := []) C (c_J9_max l D cy N0 h 0 (n - 1) (by omega) (by omega)) kJ9_max_7cf53 g811 g812 hP hS (by first | decide | omega) hl.1 rfl (by decide) (by first | decide | omega) dX3_withoutNode_5 (fun q ce E h' H1 locs1 hE => hE.elim) (fun v hh1 H locs hq hP hS => ?_)
  obtain ⟨rfl, rfl⟩ := hq
  rw [show max 0 (n - 1) = n - 1 by omega]
  refine q_newq (t0 := 4) (N := (n - 1)) C g353 (by decide) rfl hP hS (nI_pos (by omega)) (nI_clamp (by omega)) (by omega) (by omega) (by omega) dX3_withoutNode_8 (fun q8 H eq8 hP hS => ?_)
  have n_q8_a : a ≠ q8 := qne_of eq8 ha
  replace ha := qle_new (o := (.inl (cy 4, (n - 1), .inr (.inr (.inr (.inr (fun _ => none))))))) eq8 _ _ ha
  have fq8 : (qs h q8 (.inl (cy 4, (n - 1), .inr (.inr (.inr (.inr (fun _ => none))))))) q8 = some (.inl (cy 4, (n - 1), .inr (.inr (.inr (.inr (fun _ => none)))))) := qs_self
  refine lv_astore_n (lv' := [(2, .ref q8), (0, .ref a), (1, .int (nI p0))]) hx hb dX3_withoutNode_11 rfl hl (by decide) rfl (fun ls hl => ?_)
  refine lv_iconst (v := nI 0) hx hb dX3_withoutNode_12 (by decide) ?_
  refine lv_istore_n (lv' := [(3, .int (nI 0)), (2, .ref q8), (0, .ref a), (1, .int (nI p0))]) hx hb dX3_withoutNode_13 rfl hl (by decide) rfl (fun ls hl => ?_)
  refine (?_ : ∀ (t : Nat) (H : Heap) (locs : List Loc) (ls : Array Slot) (j : Nat), (n - 1) - j < t → lv_has ls 4 [(3, .int (nI j)), (2, .ref q8), (0, .ref a), (1, .int (nI p0))] → j ≤ (n - 1) → qP D N0 (qs h q8 (.inl (cy 4, (n - 1), .inr (.inr (.inr (.inr ((fun i => if i < j then some ((thCe C9 p0) i) else none)))))))) H → va_S (qA N0) s.heap H locs → W p l e _ s m _ below meth c H locs 1 (0 + (n - 1)) _ (F0 m 14 ls [])) _ _ _ ls 0 (Nat.lt_succ_self _) (lv_sub hl [0, 1, 2, 3] rfl) (Nat.zero_le _) (by rw [show (fun i => if i < 0 then some ((thCe C9 p0) i) else none) = (fun _ => none) from funext fun i => if_neg (by omega)]; exact hP) hS
  clear hl hP hS
  intro t
  induction t with
  | zero => intro H locs ls j ht; exact absurd ht (Nat.not_lt_zero _)
  | succ t ihl =>
    intro H locs ls j ht hl hj hP hS
    have fq8 : (qs h q8 (.inl (cy 4, (n - 1), .inr (.inr (.inr (.inr ((fun i => if i < j then some ((thCe C9 p0) i) else none)))))))) q8 = some (.inl (cy 4, (n - 1), .inr (.inr (.inr (.inr ((fun i => if i < j then some ((thCe C9 p0) i) else none))))))) := qs_self
    replace ha : (qs h q8 (.inl (cy 4, (n - 1), .inr (.inr (.inr (.inr ((fun i => if i < j then some ((thCe C9 p0) i) else none)))))))) a = _ := (qs_ne (qne_of eq8 ha0)).trans ha0
    unfold thA at ha
    refine lv_iload_n hx hb dX3_withoutNode_14 rfl (lv_at hl 0 rfl) ?_
    refine lv_aload_n hx hb dX3_withoutNode_15 rfl (lv_at hl 1 rfl) ?_
    refine q_alen C hP fq8 rfl dX3_withoutNode_16 ?_
    refine lv_icmp_ge (tgt := 45) hx hb dX3_withoutNode_17 (by decide) (fun c17 => ?_) (fun c17 => ?_)
    · replace c17 : (n - 1) ≤ j := (nI_leI (a := (n - 1)) (b := j) (by omega) (by omega)).mp c17
      refine lv_aload_n hx hb dX3_withoutNode_45 rfl (lv_at hl 1 rfl) ?_
      exact q_aret (v := some q8) C (Or.inr ⟨_, rfl⟩) (hP.reA (C := (thCe C9 p0)) (fun i hi => if_pos (by omega))) hS ⟨q8, rfl, eq8, rfl⟩ (by omega) dX3_withoutNode_46
    · replace c17 : ¬ (n - 1) ≤ j := fun zq => c17 ((nI_leI (a := (n - 1)) (b := j) (by omega) (by omega)).mpr zq)
      refine lv_aload_n hx hb dX3_withoutNode_20 rfl (lv_at hl 1 rfl) ?_
      refine lv_iload_n hx hb dX3_withoutNode_21 rfl (lv_at hl 0 rfl) ?_
      refine lv_iload_n hx hb dX3_withoutNode_22 rfl (lv_at hl 0 rfl) ?_
      refine lv_iload_n hx hb dX3_withoutNode_23 rfl (lv_at hl 3 rfl) ?_
      refine lv_icmp_ge (tgt := 33) hx hb dX3_withoutNode_24 (by decide) (fun c24 => ?_) (fun c24 => ?_)
      · replace c24 : p0 ≤ j := (nI_leI (a := p0) (b := j) (by omega) (by omega)).mp c24
        refine lv_aload_n hx hb dX3_withoutNode_33 rfl (lv_at hl 2 rfl) ?_
        refine lv_iload_n hx hb dX3_withoutNode_34 rfl (lv_at hl 0 rfl) ?_
        refine lv_iconst (v := nI 1) hx hb dX3_withoutNode_35 (by decide) ?_
        refine q_iaddN hx hb dX3_withoutNode_36 ?_
        refine q_aaldR C hP ha rfl (by omega) (by omega) rfl dX3_withoutNode_37 ?_
        obtain ⟨fs1, hf1⟩ := hC (j + 1) (by omega) (by omega)
        replace hf1 := (qs_ne (h := h) (a := q8) (o := (.inl (cy 4, (n - 1), .inr (.inr (.inr (.inr ((fun i => if i < j then some ((thCe C9 p0) i) else none)))))))) (qne_of eq8 hf1)).trans hf1
        refine q_aastN (rc := (RX3, TX3, 8)) C rfl rfl hP hS fq8 hf1 (by omega) (by omega) dX3_withoutNode_38 (fun H locs hP hS => ?_)
        rw [qs_qs] at hP
        refine lv_iinc (v := nI (j + 1)) (lv' := [(3, .int (nI (j + 1))), (2, .ref q8), (0, .ref a), (1, .int (nI p0))]) hx hb dX3_withoutNode_39 hl (k := 0) rfl (nI_1 j) (by decide) rfl (fun ls hl => ?_)
        refine lv_goto (tgt := 14) hx hb dX3_withoutNode_42 (by decide) ?_
        have ec9 : (thCe C9 p0) j = (C9 (j + 1)) := by unfold thCe; first | rw [if_pos (by omega)] | rw [if_neg (by omega), if_pos (by omega)] | rw [if_neg (by omega), if_neg (by omega)] | rw [if_neg (by omega)]
        exact ihl H locs ls (j + 1) (by omega) (lv_sub hl [0, 1, 2, 3] rfl) (by omega) (by rw [th_up, ec9]; exact hP) hS
      · replace c24 : ¬ p0 ≤ j := fun zq => c24 ((nI_leI (a := p0) (b := j) (by omega) (by omega)).mpr zq)
        refine lv_aload_n hx hb dX3_withoutNode_27 rfl (lv_at hl 2 rfl) ?_
        refine lv_iload_n hx hb dX3_withoutNode_28 rfl (lv_at hl 0 rfl) ?_
        refine q_aaldR C hP ha rfl (by omega) (by omega) rfl dX3_withoutNode_29 ?_
        obtain ⟨fs2, hf2⟩ := hC j (by omega) (by omega)
        replace hf2 := (qs_ne (h := h) (a := q8) (o := (.inl (cy 4, (n - 1), .inr (.inr (.inr (.inr ((fun i => if i < j then some ((thCe C9 p0) i) else none)))))))) (qne_of eq8 hf2)).trans hf2
        refine lv_goto (tgt := 38) hx hb dX3_withoutNode_30 (by decide) ?_
        refine q_aastN (rc := (RX3, TX3, 8)) C rfl rfl hP hS fq8 hf2 (by omega) (by omega) dX3_withoutNode_38 (fun H locs hP hS => ?_)
        rw [qs_qs] at hP
        refine lv_iinc (v := nI (j + 1)) (lv' := [(3, .int (nI (j + 1))), (2, .ref q8), (0, .ref a), (1, .int (nI p0))]) hx hb dX3_withoutNode_39 hl (k := 0) rfl (nI_1 j) (by decide) rfl (fun ls hl => ?_)
        refine lv_goto (tgt := 14) hx hb dX3_withoutNode_42 (by decide) ?_
        have ec9 : (thCe C9 p0) j = (C9 j) := by unfold thCe; first | rw [if_pos (by omega)] | rw [if_neg (by omega), if_pos (by omega)] | rw [if_neg (by omega), if_neg (by omega)] | rw [if_neg (by omega)]
        exact ihl H locs ls (j + 1) (by omega) (lv_sub hl [0, 1, 2, 3] rfl) (by omega) (by rw [th_up, ec9]; exact hP) hS
