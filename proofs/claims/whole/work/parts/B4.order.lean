/-- the row 'ordered' and the rows 'parts' stand in the heap -/
def qOd (cy : Nat → ClassId) (h : qH) (od pt : Nat) (pa : Nat → Nat) : Prop := h pt = some (.inl (cy 6, 8, .inr (.inr (.inr (.inr (fun i => some (pa i))))))) ∧ (∃ O, h od = some (.inl (cy 0, 1000, .inl O))) ∧ (∃ Q : Nat → Nat → Int32, ∀ d, d < 8 → h (pa d) = some (.inl (cy 0, 1000, .inl (Q d)))) ∧ (∀ d, d < 8 → pa d ≠ od) ∧ ∀ i j, i < 8 → j < 8 → pa i = pa j → i = j
theorem qOd.nd {cy : Nat → ClassId} {h : qH} {od pt y : Nat} {pa : Nat → Nat} {fs : List Value} (o : qOd cy h od pt pa) (hy : h y = some (.inr (8, fs))) : qNd9 y od pa := by
  obtain ⟨-, ⟨O, h1⟩, ⟨Q, h2⟩, h3, h4⟩ := o
  refine ⟨fun z => ?_, fun d hd => ⟨fun z => ?_, h3 d hd⟩, h4⟩
  · rw [z, hy] at h1; cases h1
  · have := h2 d hd; rw [z, hy] at this; cases this
theorem qOd.no {cy : Nat → ClassId} {h : qH} {od pt y : Nat} {pa : Nat → Nat} {fs : List Value} (o : qOd cy h od pt pa) (hy : h y = some (.inr (8, fs))) {b : Nat} {x : va_E} (hb : h b = some x) (hx : (∃ z, x = .inl z ∧ ∀ O, z.2.2 ≠ .inl O) ∨ ∃ fs, x = .inr (7, fs)) : qNo9 y od pa b := by
  obtain ⟨-, ⟨O, h1⟩, ⟨Q, h2⟩, -, -⟩ := o
  have key : ∀ c O, h c = some (.inl (cy 0, 1000, .inl O)) → b ≠ c := fun c O hc z => by
    subst z
    rw [hb] at hc
    cases hc
    rcases hx with ⟨z, e, n⟩ | ⟨fs, e⟩
    · cases e; exact n O rfl
    · cases e
  refine ⟨fun z => ?_, key _ _ h1, fun d hd => key _ _ (h2 d hd)⟩
  subst z
  rw [hy] at hb
  cases hb
  rcases hx with ⟨z, e, -⟩ | ⟨fs, e⟩
  · cases e
  · cases e
/-- node at the top, over a row's places -/
theorem nodew (l : Launch) (D : va_G) (cy : Nat → ClassId) (N0 : Nat) (h : qH) (y ms mb mw od pt fi re rc rs so ot cn la ro : Nat) (gr cd ca mv fau cs ce rn : Int32) (pa : Nat → Nat) (a ka : Nat) (fs7 : List Value) (f : Nat → Int64) (Y : Int32 → va_E) (ct : Nat) (O : Nat → Int32) (Q : Nat → Nat → Int32) (n : Nat) (hY : Y = fun z9 => .inr (8, [.ref ms, .ref mb, .ref mw, .int gr, .int cd, .int ca, .int mv, .ref od, .ref pt, .int z9, .int fau, .ref fi, .ref re, .int cs, .ref rc, .ref rs, .ref so, .ref ot, .ref cn, .ref la, .int ce, .ref ro, .int rn])) (hnd : qNd9 y od pa) (hpt : h pt = some (.inl (cy 6, 8, .inr (.inr (.inr (.inr (fun i => some (pa i)))))))) (hA : h a = some (.inr (7, .ref ka :: fs7))) (hK : h ka = some (.inl (cy 1, 1001, .inr (.inl f)))) (hno : qNo9 y od pa pt ∧ qNo9 y od pa a ∧ qNo9 y od pa ka) (hn : ct + n ≤ 1000) (hqn : qNo (qIx f n)) (hQ : ∀ j, j < n → Q 0 j = nI j) :
    qC l D cy N0 yX8_node cX8_node 11 (some .int) 9 480 0 0 [.ref y, .ref a, .int (nI 0), .int (nI n)] (qNh cy h y od pa Y ct O Q) (fun v h' => v = some (.int (nI (thSh (qMk gr) 7 (qIx f n)))) ∧ ∃ Q', (∀ d', d' < 0 → Q' d' = Q d') ∧ h' = qNh cy h y od pa Y (ct + (qIx f n).length) (qPourI O ct ((thT (qMk gr) 7 (qIx f n)).map ix9)) Q') (fun E h' => False) := by
  have := c_X8_node l D cy N0 8 h y ms mb mw od pt fi re rc rs so ot cn la ro gr cd ca mv fau cs ce rn pa a ka fs7 f Y ct O Q 7 0 (qIx f n) hY hnd hpt hA hK hno rfl (by rw [qIx_len]; omega) (fun p hp => by obtain ⟨j, hj, e⟩ := qIx_mem hp; exact ⟨j, by omega, e⟩) hqn (fun i p e => by obtain ⟨hi, e⟩ := qIx_get e; rw [hQ i hi, e]; exact lN_i32.symm) (by rw [qIx_len]; exact hn) (by decide)
  rw [qIx_len] at this
  rw [qIx_len]
  exact this
theorem dX8_order_0 : decode cX8_order 0 = .ok (.iconst 0, 1) := by decide +kernel
theorem dX8_order_1 : decode cX8_order 1 = .ok (.istore_n 2, 1) := by decide +kernel
theorem dX8_order_2 : decode cX8_order 2 = .ok (.iload_n 2, 1) := by decide +kernel
theorem dX8_order_3 : decode cX8_order 3 = .ok (.aload_n 1, 1) := by decide +kernel
theorem dX8_order_4 : decode cX8_order 4 = .ok (.getfield 78, 3) := by decide +kernel
theorem dX8_order_7 : decode cX8_order 7 = .ok (.if_icmp .ge 18, 3) := by decide +kernel
theorem dX8_order_10 : decode cX8_order 10 = .ok (.aload_n 0, 1) := by decide +kernel
theorem dX8_order_11 : decode cX8_order 11 = .ok (.getfield 29, 3) := by decide +kernel
theorem dX8_order_14 : decode cX8_order 14 = .ok (.iconst 0, 1) := by decide +kernel
theorem dX8_order_15 : decode cX8_order 15 = .ok (.aaload, 1) := by decide +kernel
theorem dX8_order_16 : decode cX8_order 16 = .ok (.iload_n 2, 1) := by decide +kernel
theorem dX8_order_17 : decode cX8_order 17 = .ok (.iload_n 2, 1) := by decide +kernel
theorem dX8_order_18 : decode cX8_order 18 = .ok (.iastore, 1) := by decide +kernel
theorem dX8_order_19 : decode cX8_order 19 = .ok (.iinc 2 1, 3) := by decide +kernel
theorem dX8_order_22 : decode cX8_order 22 = .ok (.goto (-20), 3) := by decide +kernel
theorem dX8_order_25 : decode cX8_order 25 = .ok (.aload_n 0, 1) := by decide +kernel
theorem dX8_order_26 : decode cX8_order 26 = .ok (.iconst 0, 1) := by decide +kernel
theorem dX8_order_27 : decode cX8_order 27 = .ok (.putfield 171, 3) := by decide +kernel
theorem dX8_order_30 : decode cX8_order 30 = .ok (.aload_n 0, 1) := by decide +kernel
theorem dX8_order_31 : decode cX8_order 31 = .ok (.aload_n 1, 1) := by decide +kernel
theorem dX8_order_32 : decode cX8_order 32 = .ok (.iconst 0, 1) := by decide +kernel
theorem dX8_order_33 : decode cX8_order 33 = .ok (.aload_n 1, 1) := by decide +kernel
theorem dX8_order_34 : decode cX8_order 34 = .ok (.getfield 78, 3) := by decide +kernel
theorem dX8_order_37 : decode cX8_order 37 = .ok (.invokevirtual 174, 3) := by decide +kernel
theorem dX8_order_40 : decode cX8_order 40 = .ok (.pop, 1) := by decide +kernel
theorem dX8_order_41 : decode cX8_order 41 = .ok (.return_, 1) := by decide +kernel
set_option maxRecDepth 100000 in
set_option maxHeartbeats 4000000 in
theorem c_X8_order (l : Launch) (D : va_G) (cy : Nat → ClassId) (N0 : Nat) (h : qH) (y ms mb mw od pt fi re rc rs so ot cn la ro : Nat) (gr cd ca mv ct fau cs ce rn : Int32) (pa : Nat → Nat) (a ka va : Nat) (kd sm dp rw : Int32) (n : Nat) (f g : Nat → Int64) (hY : h y = some (.inr (8, [.ref ms, .ref mb, .ref mw, .int gr, .int cd, .int ca, .int mv, .ref od, .ref pt, .int ct, .int fau, .ref fi, .ref re, .int cs, .ref rc, .ref rs, .ref so, .ref ot, .ref cn, .ref la, .int ce, .ref ro, .int rn]))) (hO : qOd cy h od pt pa) (hR : qRw cy h a ka va kd (nI n) sm dp rw f g) (hn : n ≤ 1000) (hqn : qNo (qIx f n)) : qC l D cy N0 yX8_order cX8_order 3 none 12 600 0 0 [.ref y, .ref a] h (fun v h' => v = none ∧ h' y = some (.inr (8, [.ref ms, .ref mb, .ref mw, .int gr, .int cd, .int ca, .int mv, .ref od, .ref pt, .int (nI n), .int fau, .ref fi, .ref re, .int cs, .ref rc, .ref rs, .ref so, .ref ot, .ref cn, .ref la, .int ce, .ref ro, .int rn])) ∧ (∃ O, h' od = some (.inl (cy 0, 1000, .inl (qPourI O 0 ((thT (qMk gr) 7 (qIx f n)).map ix9))))) ∧ qOd cy h' od pt pa ∧ ∀ b o, h b = some o → b ≠ y → b ≠ od → (∀ d, d < 8 → b ≠ pa d) → h' b = some o) (fun E h' => False) := by
  refine q_ofW (by decide) (by exact Nat.le_of_ble_eq_true rfl) ?_
  intro p e s m below meth c ls C hP hl
  have hx := C.1
  have hb := C.2.1
  have hS : va_S (qA N0) s.heap s.heap [] := va_S.rf
  have hl : lv_has ls 3 [(0, .ref y), (1, .ref a)] := hl
  have fa := hR.2.2.2.1
  have fk := hR.2.2.2.2.1
  unfold qRb at fa
  unfold qJr at fk
  refine lv_iconst (v := nI 0) hx hb dX8_order_0 (by decide) ?_
  refine lv_istore_n (lv' := [(2, .int (nI 0)), (0, .ref y), (1, .ref a)]) hx hb dX8_order_1 rfl hl (by decide) rfl (fun ls hl => ?_)
  obtain ⟨ct9, ect9⟩ := qnI_any ct
  obtain ⟨Y9, hY9⟩ : ∃ Y : Int32 → va_E, Y = fun z9 => .inr (8, [.ref ms, .ref mb, .ref mw, .int gr, .int cd, .int ca, .int mv, .ref od, .ref pt, .int z9, .int fau, .ref fi, .ref re, .int cs, .ref rc, .ref rs, .ref so, .ref ot, .ref cn, .ref la, .int ce, .ref ro, .int rn]) := ⟨_, rfl⟩
  have hnd9 := hO.nd hY
  have hnp9 : qNo9 y od pa pt := hO.no hY hO.1 (Or.inl ⟨_, rfl, fun O z => by cases z⟩)
  have hna9 : qNo9 y od pa a := hO.no hY fa (Or.inr ⟨_, rfl⟩)
  have hnk9 : qNo9 y od pa ka := hO.no hY fk (Or.inl ⟨_, rfl, fun O z => by cases z⟩)
  obtain ⟨hpt9, ⟨O9, hod9⟩, ⟨Q9, hpa9⟩, hpo9, hpi9⟩ := id hO
  have hra9 := fa
  have hsm9 : qNh cy h y od pa Y9 ct9 O9 Q9 = h := qNh_same hnd9 (by rw [hY9]; rw [← ect9]; exact hY) hod9 hpa9
  rw [← hsm9] at hP
  refine (?_ : ∀ (tO : Nat) (H : Heap) (locs : List Loc) (ls : Array Slot) (i9 : Nat) (q9 : Nat → Int32), n - i9 < tO → lv_has ls 3 [(2, .int (nI i9)), (1, .ref a), (0, .ref y)] → i9 ≤ n → (∀ j, j < i9 → q9 j = nI j) → qP D N0 (qNh cy h y od pa Y9 ct9 O9 (qU Q9 0 q9)) H → va_S (qA N0) s.heap H locs → W p l e _ s m _ below meth c H locs 0 0 _ (F0 m 2 ls [])) _ _ _ ls 0 (Q9 0) (Nat.lt_succ_self _) (lv_sub hl [0, 2, 1] rfl) (Nat.zero_le _) (fun j hj => absurd hj (Nat.not_lt_zero _)) (by rw [show qU Q9 0 (Q9 0) = Q9 from funext fun z => by unfold qU; split <;> first | rfl | (rename_i z9; rw [z9])]; exact hP) hS
  clear hl hP hS
  intro tO
  induction tO with
  | zero => intro H locs ls i9 q9 htO; exact absurd htO (Nat.not_lt_zero _)
  | succ tO ihlO =>
    intro H locs ls i9 q9 htO hl hi9 hq9 hP hS
    have fy : (qNh cy h y od pa Y9 ct9 O9 (qU Q9 0 q9)) y = some (.inr (8, [.ref ms, .ref mb, .ref mw, .int gr, .int cd, .int ca, .int mv, .ref od, .ref pt, .int (nI ct9), .int fau, .ref fi, .ref re, .int cs, .ref rc, .ref rs, .ref so, .ref ot, .ref cn, .ref la, .int ce, .ref ro, .int rn])) := by rw [qNh_y, hY9]
    have fp : (qNh cy h y od pa Y9 ct9 O9 (qU Q9 0 q9)) (pa 0) = _ := qNh_pa hnd9 (show 0 < 8 by omega)
    have fpt : (qNh cy h y od pa Y9 ct9 O9 (qU Q9 0 q9)) pt = _ := (qNh_o hnp9).trans hpt9
    have fa9 : (qNh cy h y od pa Y9 ct9 O9 (qU Q9 0 q9)) a = _ := (qNh_o hna9).trans hra9
    rw [qU_at] at fp
    refine lv_iload_n hx hb dX8_order_2 rfl (lv_at hl 0 rfl) ?_
    refine lv_aload_n hx hb dX8_order_3 rfl (lv_at hl 1 rfl) ?_
    refine q_get C hP fa9 rfl inX7 3 (by decide) g1143 rfl dX8_order_4 ?_
    refine lv_icmp_ge (tgt := 25) hx hb dX8_order_7 (by decide) (fun c7 => ?_) (fun c7 => ?_)
    · replace c7 : n ≤ i9 := (nI_leI (a := n) (b := i9) (by omega) (by omega)).mp c7
      refine lv_aload_n hx hb dX8_order_25 rfl (lv_at hl 2 rfl) ?_
      refine lv_iconst (v := nI 0) hx hb dX8_order_26 (by decide) ?_
      refine q_put C hP hS fy rfl inX8 tyX8 tyX8_ok nmX8 9 (by decide) g1176 rfl rfl rfl (Nat.le_of_ble_eq_true rfl) dX8_order_27 (fun H locs hP hS => ?_)
      replace hP : qP D N0 (qs (qNh cy h y od pa Y9 ct9 O9 (qU Q9 0 q9)) y (.inr (8, [.ref ms, .ref mb, .ref mw, .int gr, .int cd, .int ca, .int mv, .ref od, .ref pt, .int (nI 0), .int fau, .ref fi, .ref re, .int cs, .ref rc, .ref rs, .ref so, .ref ot, .ref cn, .ref la, .int ce, .ref ro, .int rn]))) H := hP
      replace hP : qP D N0 (qs (qNh cy h y od pa Y9 ct9 O9 (qU Q9 0 q9)) y (.inr (8, [.ref ms, .ref mb, .ref mw, .int gr, .int cd, .int ca, .int mv, .ref od, .ref pt, .int (nI 0), .int fau, .ref fi, .ref re, .int cs, .ref rc, .ref rs, .ref so, .ref ot, .ref cn, .ref la, .int ce, .ref ro, .int rn]))) H := hP
      rw [show (.inr (8, [.ref ms, .ref mb, .ref mw, .int gr, .int cd, .int ca, .int mv, .ref od, .ref pt, .int (nI 0), .int fau, .ref fi, .ref re, .int cs, .ref rc, .ref rs, .ref so, .ref ot, .ref cn, .ref la, .int ce, .ref ro, .int rn]) : va_E) = Y9 (nI 0) from by rw [hY9], qNh_sy] at hP
      have fy : (qNh cy h y od pa Y9 0 O9 (qU Q9 0 q9)) y = some (.inr (8, [.ref ms, .ref mb, .ref mw, .int gr, .int cd, .int ca, .int mv, .ref od, .ref pt, .int (nI 0), .int fau, .ref fi, .ref re, .int cs, .ref rc, .ref rs, .ref so, .ref ot, .ref cn, .ref la, .int ce, .ref ro, .int rn])) := by rw [qNh_y, hY9]
      have fp : (qNh cy h y od pa Y9 0 O9 (qU Q9 0 q9)) (pa 0) = _ := qNh_pa hnd9 (show 0 < 8 by omega)
      have fpt : (qNh cy h y od pa Y9 0 O9 (qU Q9 0 q9)) pt = _ := (qNh_o hnp9).trans hpt9
      have fa9 : (qNh cy h y od pa Y9 0 O9 (qU Q9 0 q9)) a = _ := (qNh_o hna9).trans hra9
      refine lv_aload_n hx hb dX8_order_30 rfl (lv_at hl 2 rfl) ?_
      refine lv_aload_n hx hb dX8_order_31 rfl (lv_at hl 1 rfl) ?_
      refine lv_iconst (v := nI 0) hx hb dX8_order_32 (by decide) ?_
      refine lv_aload_n hx hb dX8_order_33 rfl (lv_at hl 1 rfl) ?_
      refine q_get C hP fa9 rfl inX7 3 (by decide) g1143 rfl dX8_order_34 ?_
      have ex9 : nI n = nI (qIx f n).length := by rw [qIx_len]
      refine q_callV (rest := []) C (nodew l D cy N0 h y ms mb mw od pt fi re rc rs so ot cn la ro gr cd ca mv fau cs ce rn pa a ka _ f Y9 0 O9 (qU Q9 0 q9) n hY9 hnd9 hpt9 hra9 fk ⟨hnp9, hna9, hnk9⟩ (by omega) hqn (fun j hj => by rw [qU_at]; exact hq9 j (by omega))) kX8_node g1371 g1373 rfl gp60 g4 hP hS fy (by first | decide | omega) hl.1 rfl (by decide) (by first | decide | omega) dX8_order_37 (fun q ce E h' H1 locs1 hE => hE.elim) (fun v hh1 H locs hq hP hS => ?_)
      obtain ⟨rfl, Qn, -, rfl⟩ := hq
      rw [qIx_len, Nat.zero_add] at hP
      refine lv_pop hx hb dX8_order_40 rfl ?_
      exact q_vret C hP hS ⟨rfl, by rw [qNh_y, hY9], ⟨O9, qNh_od hnd9⟩, ⟨(qNh_o hnp9).trans hpt9, ⟨_, qNh_od hnd9⟩, ⟨Qn, fun d hd => qNh_pa hnd9 hd⟩, hpo9, hpi9⟩, fun b o hb n1 n2 n3 => (qNh_o ⟨n1, n2, n3⟩).trans hb⟩ (by omega) dX8_order_41
    · replace c7 : ¬ n ≤ i9 := fun zq => c7 ((nI_leI (a := n) (b := i9) (by omega) (by omega)).mpr zq)
      refine lv_aload_n hx hb dX8_order_10 rfl (lv_at hl 2 rfl) ?_
      refine q_get C hP fy rfl inX8 8 (by decide) g1175 rfl dX8_order_11 ?_
      refine lv_iconst (v := nI 0) hx hb dX8_order_14 (by decide) ?_
      refine q_aaldA C hP fpt rfl (by omega) (by omega) rfl dX8_order_15 ?_
      refine lv_iload_n hx hb dX8_order_16 rfl (lv_at hl 0 rfl) ?_
      refine lv_iload_n hx hb dX8_order_17 rfl (lv_at hl 0 rfl) ?_
      refine q_iastN C hP hS fp (by omega) (by omega) dX8_order_18 (fun H locs hP hS => ?_)
      rw [qNh_sp hnd9 (show 0 < 8 by omega), qU_qU9] at hP
      have fy : (qNh cy h y od pa Y9 ct9 O9 (qU Q9 0 (upd q9 i9 (nI i9)))) y = some (.inr (8, [.ref ms, .ref mb, .ref mw, .int gr, .int cd, .int ca, .int mv, .ref od, .ref pt, .int (nI ct9), .int fau, .ref fi, .ref re, .int cs, .ref rc, .ref rs, .ref so, .ref ot, .ref cn, .ref la, .int ce, .ref ro, .int rn])) := by rw [qNh_y, hY9]
      have fp : (qNh cy h y od pa Y9 ct9 O9 (qU Q9 0 (upd q9 i9 (nI i9)))) (pa 0) = _ := qNh_pa hnd9 (show 0 < 8 by omega)
      have fpt : (qNh cy h y od pa Y9 ct9 O9 (qU Q9 0 (upd q9 i9 (nI i9)))) pt = _ := (qNh_o hnp9).trans hpt9
      have fa9 : (qNh cy h y od pa Y9 ct9 O9 (qU Q9 0 (upd q9 i9 (nI i9)))) a = _ := (qNh_o hna9).trans hra9
      refine lv_iinc (v := nI (i9 + 1)) (lv' := [(2, .int (nI (i9 + 1))), (1, .ref a), (0, .ref y)]) hx hb dX8_order_19 hl (k := 0) rfl (nI_1 i9) (by decide) rfl (fun ls hl => ?_)
      refine lv_goto (tgt := 2) hx hb dX8_order_22 (by decide) ?_
      exact ihlO H locs ls (i9 + 1) (upd q9 i9 (nI i9)) (by omega) (lv_sub hl [0, 1, 2] rfl) (by omega) (fun j hj => if z : j = i9 then by (rw [z]; exact upd_at9) else (upd_ne9 z).trans (hq9 j (by omega))) hP hS
