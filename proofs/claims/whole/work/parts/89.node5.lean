/-! an edit: what it may change (X) lies apart from what is never changed (Im) -/
def qEd (cy : Nat → ClassId) (h : qH) (Im X : Nat → Prop) : Prop := (∀ b, X b → ¬ Im b) ∧ (∀ b, Im b ∨ X b → ∃ o, h b = some o) ∧ h (cy 99) = some (thJ cy []) ∧ Im (cy 99)
def qCh (h : qH) (Im X : Nat → Prop) (h' : qH) (Im' X' : Nat → Prop) : Prop := (∀ b o, h b = some o → ¬ X b → h' b = some o) ∧ (∀ b, Im b → Im' b) ∧ (∀ b, Im' b → Im b ∨ h b = none) ∧ (∀ b, X' b → X b ∨ h b = none) ∧ (∀ b o, h b = some o → ∃ o', h' b = some o')
theorem qno {h h' : qH} {q : Nat} (fd : ∀ b o, h b = some o → ∃ o', h' b = some o') (e : h' q = none) : h q = none := by
  cases z : h q with
  | none => rfl
  | some o =>
    obtain ⟨o', h9⟩ := fd q o z
    rw [e] at h9
    cases h9
theorem qCh.rf {h : qH} {Im X : Nat → Prop} : qCh h Im X h Im X := ⟨fun _ _ e _ => e, fun _ z => z, fun _ z => Or.inl z, fun _ z => Or.inl z, fun _ o e => ⟨o, e⟩⟩
theorem qCh.tr {h h1 h2 : qH} {Im X Im1 X1 Im2 X2 : Nat → Prop} (a : qCh h Im X h1 Im1 X1) (b : qCh h1 Im1 X1 h2 Im2 X2) : qCh h Im X h2 Im2 X2 := by
  obtain ⟨a1, a2, a3, a4, a5⟩ := a
  obtain ⟨b1, b2, b3, b4, b5⟩ := b
  refine ⟨fun c o hc nx => b1 c o (a1 c o hc nx) (fun z => ?_), fun c z => b2 c (a2 c z), fun c z => ?_, fun c z => ?_, fun c o hc => ?_⟩
  · rcases a4 c z with q | q
    · exact nx q
    · rw [q] at hc; cases hc
  · rcases b3 c z with q | q
    · exact a3 c q
    · exact Or.inr (qno a5 q)
  · rcases b4 c z with q | q
    · exact a4 c q
    · exact Or.inr (qno a5 q)
  · obtain ⟨o', h9⟩ := a5 c o hc
    exact b5 c o' h9
/-- a node that the edit owns, with its nodes -/
def qOw (cy : Nat → ClassId) (h : qH) (Im : Nat → Prop) (e : Nat) (Ok : Nat → Prop) (m : Int32) (r a : Nat) (L : qKV) (n : Nat) (X : Nat → Prop) (ka va na : Nat) (C : Nat → Nat) (Xs : Nat → Nat → Prop) : Prop := thNd cy h Im e Ok m r a L n X e ka va na C ∧ thXs (trM m r L).length a va na X Xs ∧ ∀ j v, (trM m r L)[j]? = some v → ∃ r', r = r' + 1 ∧ qTr cy h Im e Ok m r' (C j) (thK m (6 - r') v L) (Xs j)
theorem qOw.tr {cy : Nat → ClassId} {h : qH} {Im : Nat → Prop} {e : Nat} {Ok : Nat → Prop} {m : Int32} {r a : Nat} {L : qKV} {X : Nat → Prop} {ka va na : Nat} {C : Nat → Nat} {Xs : Nat → Nat → Prop} (w : qOw cy h Im e Ok m r a L L.length X ka va na C Xs) : qTr cy h Im e Ok m r a L X := qTr.mk w.1 w.2.1 w.2.2
theorem thXs.mono {n a va na : Nat} {X X' : Nat → Prop} {Xs : Nat → Nat → Prop} (x : thXs n a va na X Xs) {a' va' na' : Nat} (k : ∀ b, X b → X' b) (k2 : ∀ b, X b → b ≠ a' ∧ b ≠ va' ∧ b ≠ na' ∨ (b = a ∨ b = va ∨ b = na)) : thXs n a' va' na' X' Xs := by
  refine ⟨fun j hj b z => ?_, x.2⟩
  obtain ⟨z1, z2, z3, z4⟩ := x.1 j hj b z
  refine ⟨k _ z1, ?_⟩
  rcases k2 b z1 with q | q | q | q
  · exact q
  · exact absurd q z2
  · exact absurd q z3
  · exact absurd q z4
theorem dX3_ownedBy_0 : decode cX3_ownedBy 0 = .ok (.aload_n 0, 1) := by decide +kernel
theorem dX3_ownedBy_1 : decode cX3_ownedBy 1 = .ok (.getfield 25, 3) := by decide +kernel
theorem dX3_ownedBy_4 : decode cX3_ownedBy 4 = .ok (.iload_n 1, 1) := by decide +kernel
theorem dX3_ownedBy_5 : decode cX3_ownedBy 5 = .ok (.if_icmp .ne 5, 3) := by decide +kernel
theorem dX3_ownedBy_8 : decode cX3_ownedBy 8 = .ok (.aload_n 0, 1) := by decide +kernel
theorem dX3_ownedBy_9 : decode cX3_ownedBy 9 = .ok (.areturn, 1) := by decide +kernel
theorem dX3_ownedBy_10 : decode cX3_ownedBy 10 = .ok (.new 10, 3) := by decide +kernel
theorem dX3_ownedBy_13 : decode cX3_ownedBy 13 = .ok (.dup, 1) := by decide +kernel
theorem dX3_ownedBy_14 : decode cX3_ownedBy 14 = .ok (.aload_n 0, 1) := by decide +kernel
theorem dX3_ownedBy_15 : decode cX3_ownedBy 15 = .ok (.getfield 21, 3) := by decide +kernel
theorem dX3_ownedBy_18 : decode cX3_ownedBy 18 = .ok (.iload_n 1, 1) := by decide +kernel
theorem dX3_ownedBy_19 : decode cX3_ownedBy 19 = .ok (.aload_n 0, 1) := by decide +kernel
theorem dX3_ownedBy_20 : decode cX3_ownedBy 20 = .ok (.getfield 28, 3) := by decide +kernel
theorem dX3_ownedBy_23 : decode cX3_ownedBy 23 = .ok (.arraylength, 1) := by decide +kernel
theorem dX3_ownedBy_24 : decode cX3_ownedBy 24 = .ok (.ifCond .ne 10, 3) := by decide +kernel
theorem dX3_ownedBy_27 : decode cX3_ownedBy 27 = .ok (.aload_n 0, 1) := by decide +kernel
theorem dX3_ownedBy_28 : decode cX3_ownedBy 28 = .ok (.getfield 28, 3) := by decide +kernel
theorem dX3_ownedBy_31 : decode cX3_ownedBy 31 = .ok (.goto 13, 3) := by decide +kernel
theorem dX3_ownedBy_34 : decode cX3_ownedBy 34 = .ok (.aload_n 0, 1) := by decide +kernel
theorem dX3_ownedBy_35 : decode cX3_ownedBy 35 = .ok (.getfield 28, 3) := by decide +kernel
theorem dX3_ownedBy_38 : decode cX3_ownedBy 38 = .ok (.invokevirtual 128, 3) := by decide +kernel
theorem dX3_ownedBy_41 : decode cX3_ownedBy 41 = .ok (.checkcast 129, 3) := by decide +kernel
theorem dX3_ownedBy_44 : decode cX3_ownedBy 44 = .ok (.invokespecial 70, 3) := by decide +kernel
theorem dX3_ownedBy_47 : decode cX3_ownedBy 47 = .ok (.astore_n 2, 1) := by decide +kernel
theorem dX3_ownedBy_48 : decode cX3_ownedBy 48 = .ok (.aload_n 2, 1) := by decide +kernel
theorem dX3_ownedBy_49 : decode cX3_ownedBy 49 = .ok (.aload_n 0, 1) := by decide +kernel
theorem dX3_ownedBy_50 : decode cX3_ownedBy 50 = .ok (.getfield 55, 3) := by decide +kernel
theorem dX3_ownedBy_53 : decode cX3_ownedBy 53 = .ok (.putfield 55, 3) := by decide +kernel
theorem dX3_ownedBy_56 : decode cX3_ownedBy 56 = .ok (.aload_n 2, 1) := by decide +kernel
theorem dX3_ownedBy_57 : decode cX3_ownedBy 57 = .ok (.aload_n 0, 1) := by decide +kernel
theorem dX3_ownedBy_58 : decode cX3_ownedBy 58 = .ok (.getfield 45, 3) := by decide +kernel
theorem dX3_ownedBy_61 : decode cX3_ownedBy 61 = .ok (.putfield 45, 3) := by decide +kernel
theorem dX3_ownedBy_64 : decode cX3_ownedBy 64 = .ok (.aload_n 2, 1) := by decide +kernel
theorem dX3_ownedBy_65 : decode cX3_ownedBy 65 = .ok (.aload_n 0, 1) := by decide +kernel
theorem dX3_ownedBy_66 : decode cX3_ownedBy 66 = .ok (.getfield 32, 3) := by decide +kernel
theorem dX3_ownedBy_69 : decode cX3_ownedBy 69 = .ok (.putfield 32, 3) := by decide +kernel
theorem dX3_ownedBy_72 : decode cX3_ownedBy 72 = .ok (.aload_n 2, 1) := by decide +kernel
theorem dX3_ownedBy_73 : decode cX3_ownedBy 73 = .ok (.aload_n 0, 1) := by decide +kernel
theorem dX3_ownedBy_74 : decode cX3_ownedBy 74 = .ok (.getfield 15, 3) := by decide +kernel
theorem dX3_ownedBy_77 : decode cX3_ownedBy 77 = .ok (.putfield 15, 3) := by decide +kernel
theorem dX3_ownedBy_80 : decode cX3_ownedBy 80 = .ok (.aload_n 2, 1) := by decide +kernel
theorem dX3_ownedBy_81 : decode cX3_ownedBy 81 = .ok (.aload_n 0, 1) := by decide +kernel
theorem dX3_ownedBy_82 : decode cX3_ownedBy 82 = .ok (.getfield 18, 3) := by decide +kernel
theorem dX3_ownedBy_85 : decode cX3_ownedBy 85 = .ok (.arraylength, 1) := by decide +kernel
theorem dX3_ownedBy_86 : decode cX3_ownedBy 86 = .ok (.ifCond .ne 10, 3) := by decide +kernel
theorem dX3_ownedBy_89 : decode cX3_ownedBy 89 = .ok (.aload_n 0, 1) := by decide +kernel
theorem dX3_ownedBy_90 : decode cX3_ownedBy 90 = .ok (.getfield 18, 3) := by decide +kernel
theorem dX3_ownedBy_93 : decode cX3_ownedBy 93 = .ok (.goto 13, 3) := by decide +kernel
theorem dX3_ownedBy_96 : decode cX3_ownedBy 96 = .ok (.aload_n 0, 1) := by decide +kernel
theorem dX3_ownedBy_97 : decode cX3_ownedBy 97 = .ok (.getfield 18, 3) := by decide +kernel
theorem dX3_ownedBy_100 : decode cX3_ownedBy 100 = .ok (.invokevirtual 133, 3) := by decide +kernel
theorem dX3_ownedBy_103 : decode cX3_ownedBy 103 = .ok (.checkcast 134, 3) := by decide +kernel
theorem dX3_ownedBy_106 : decode cX3_ownedBy 106 = .ok (.putfield 18, 3) := by decide +kernel
theorem dX3_ownedBy_109 : decode cX3_ownedBy 109 = .ok (.aload_n 2, 1) := by decide +kernel
theorem dX3_ownedBy_110 : decode cX3_ownedBy 110 = .ok (.areturn, 1) := by decide +kernel
set_option maxRecDepth 100000 in
set_option maxHeartbeats 4000000 in
theorem c_X3_ownedBy (l : Launch) (D : va_G) (cy : Nat → ClassId) (N0 : Nat) (h : qH) (Im : Nat → Prop) (e9 : Nat) (Ok : Nat → Prop) (m9 : Int32) (r a : Nat) (L : qKV) (X : Nat → Prop) (hT : qTr cy h Im e9 Ok m9 r a L X) (hr : r ≤ 7) (hL : L.length < 1000000) (hE : qEd cy h Im X) (he9 : e9 < 2 ^ 31) : qC l D cy N0 yX3_ownedBy cX3_ownedBy 3 (some (.object RX3)) 2 60 3 (40 + L.length) [.ref a, .int (nI e9)] h (fun v h' => ∃ (a1 ka va na : Nat) (C : Nat → Nat) (Xs : Nat → Nat → Prop) (X1 : Nat → Prop), v = some (.ref a1) ∧ qle h h' ∧ qOw cy h' Im e9 Ok m9 r a1 L L.length X1 ka va na C Xs ∧ qEd cy h' Im X1 ∧ qCh h Im X h' Im X1) (fun E h' => False) := by
  refine q_ofW (by decide) (by exact Nat.le_of_ble_eq_true rfl) ?_
  intro p e s m below meth c ls C hP hl
  have hx := C.1
  have hb := C.2.1
  have hS : va_S (qA N0) s.heap s.heap [] := va_S.rf
  have hl : lv_has ls 3 [(0, .ref a), (1, .int (nI e9))] := hl
  have hE0 := hE
  obtain ⟨hEx, hEd, hE9, hEi⟩ := hE
  obtain ⟨ow1, ka1, va1, na1, C1, Xs1, hn1, hx1, hk1⟩ := hT.inv
  have f1 := hn1.1
  have fk1 := hn1.2.1
  have fv1 := hn1.2.2.1
  have fn1 := hn1.2.2.2.1
  unfold thNo at f1
  unfold thJ at fk1 fv1
  unfold thA at fn1
  rw [List.length_map] at fk1 fv1
  have hw1 := hn1.2.2.2.2.2.1
  have hml := trM_len (m := m9) (r := r) (L := L)
  have hkl := trK_len (m := m9) (r := r) (L := L)
  have fr : ∀ b o, h b = some o → h b = some o := fun b o hb => hb
  have fd : ∀ b o, h b = some o → ∃ o', h b = some o' := fun b o hb => ⟨o, hb⟩
  refine lv_aload_n hx hb dX3_ownedBy_0 rfl (lv_at hl 0 rfl) ?_
  refine q_get C hP f1 rfl inX3 1 (by decide) g362 rfl dX3_ownedBy_1 ?_
  refine lv_iload_n hx hb dX3_ownedBy_4 rfl (lv_at hl 1 rfl) ?_
  refine lv_icmp_ne (tgt := 10) hx hb dX3_ownedBy_5 (by decide) (fun c5 => ?_) (fun c5 => ?_)
  · replace c5 : ¬ ow1 = e9 := fun zq => c5 ((nI_eq (a := ow1) (b := e9) (by omega) (by omega)).mpr zq)
    refine q_new (ci := 3) (fs := [.int 0, .int 0, .int 0, .int 0, .int 0, .null, .null, .null]) C hP hS rfl inX3 tyX3 tyX3_ok g353 g317 g12 (fun j hj => by rcases (show j = 0 ∨ j = 1 ∨ j = 2 ∨ j = 3 ∨ j = 4 ∨ j = 5 ∨ j = 6 ∨ j = 7 by omega) with rfl | rfl | rfl | rfl | rfl | rfl | rfl | rfl <;> rfl) (by first | decide | omega) (by first | decide | omega) dX3_ownedBy_10 (fun q10 H eq10 hP hS => ?_)
    obtain ⟨hv1, ehv1⟩ : ∃ z : qH, z = qs h q10 (.inr (3, [.int 0, .int 0, .int 0, .int 0, .int 0, .null, .null, .null])) := ⟨_, rfl⟩
    rw [← ehv1] at hP
    have khv1 : ∀ b o, b ≠ q10 → h b = some o → hv1 b = some o := by rw [ehv1]; exact fun b o nb hb => (qs_ne nb).trans hb
    have n_q10_a : a ≠ q10 := qne_of eq10 f1
    replace f1 := khv1 _ _ n_q10_a f1
    have n_q10_ka1 : ka1 ≠ q10 := qne_of eq10 fk1
    replace fk1 := khv1 _ _ n_q10_ka1 fk1
    have n_q10_va1 : va1 ≠ q10 := qne_of eq10 fv1
    replace fv1 := khv1 _ _ n_q10_va1 fv1
    have n_q10_na1 : na1 ≠ q10 := qne_of eq10 fn1
    replace fn1 := khv1 _ _ n_q10_na1 fn1
    have fq10 : hv1 q10 = some (.inr (3, [.int 0, .int 0, .int 0, .int 0, .int 0, .null, .null, .null])) := by rw [ehv1]; exact qs_self
    clear ehv1
    have oq10 : h q10 = none := qno fd eq10
    replace fr : ∀ b o, h b = some o → hv1 b = some o := fun b o hb => khv1 b o (qne_of oq10 hb) (fr b o hb )
    replace fd : ∀ b o, h b = some o → ∃ o', hv1 b = some o' := fun b o hb => (fd b o hb).elim (fun o9 h9 => ⟨o9, khv1 b o9 (qne_of oq10 hb) h9⟩)
    refine lv_dup hx hb dX3_ownedBy_13 rfl ?_
    refine lv_aload_n hx hb dX3_ownedBy_14 rfl (lv_at hl 0 rfl) ?_
    refine q_get C hP f1 rfl inX3 0 (by decide) g361 rfl dX3_ownedBy_15 ?_
    refine lv_iload_n hx hb dX3_ownedBy_18 rfl (lv_at hl 1 rfl) ?_
    refine lv_aload_n hx hb dX3_ownedBy_19 rfl (lv_at hl 0 rfl) ?_
    refine q_get C hP f1 rfl inX3 7 (by decide) g369 rfl dX3_ownedBy_20 ?_
    refine q_alen C hP fn1 rfl dX3_ownedBy_23 ?_
    refine lv_if_ne (tgt := 34) hx hb dX3_ownedBy_24 (by decide) (fun c24 => ?_) (fun c24 => ?_)
    · replace c24 : ¬ ((trM m9 r L).length) = 0 := fun zq => c24 ((nI_eq (a := (trM m9 r L).length) (b := 0) (by omega) (by omega)).mpr zq)
      refine lv_aload_n hx hb dX3_ownedBy_34 rfl (lv_at hl 0 rfl) ?_
      refine q_get C hP f1 rfl inX3 7 (by decide) g369 rfl dX3_ownedBy_35 ?_
      refine q_clone (t0 := 4) (ad := "[LPersistentTrove$Node;") (ty := .object RX3) C hP hS fn1 (by dsimp only; omega) rfl (q_fcN C) (va_fit (fun i hi => rfl)) g394 gn395 g398 (by decide) hl.1 (by omega) (by simp [q_catrf, q_cati, q_catl, q_cata, q_catn]) (by first | omega | (dsimp only; omega)) (by first | omega | (dsimp only; omega)) dX3_ownedBy_38 (fun q38 H eq38 hP hS => ?_)
      obtain ⟨hv2, ehv2⟩ : ∃ z : qH, z = qs hv1 q38 (.inl (cy 4, (trM m9 r L).length, .inr (.inr (.inr (.inr (fun i => some (C1 i))))))) := ⟨_, rfl⟩
      rw [← ehv2] at hP
      have khv2 : ∀ b o, b ≠ q38 → hv1 b = some o → hv2 b = some o := by rw [ehv2]; exact fun b o nb hb => (qs_ne nb).trans hb
      have n_q38_a : a ≠ q38 := qne_of eq38 f1
      replace f1 := khv2 _ _ n_q38_a f1
      have n_q38_ka1 : ka1 ≠ q38 := qne_of eq38 fk1
      replace fk1 := khv2 _ _ n_q38_ka1 fk1
      have n_q38_va1 : va1 ≠ q38 := qne_of eq38 fv1
      replace fv1 := khv2 _ _ n_q38_va1 fv1
      have n_q38_na1 : na1 ≠ q38 := qne_of eq38 fn1
      replace fn1 := khv2 _ _ n_q38_na1 fn1
      have n_q38_q10 : q10 ≠ q38 := qne_of eq38 fq10
      replace fq10 := khv2 _ _ n_q38_q10 fq10
      have fq38 : hv2 q38 = some (.inl (cy 4, (trM m9 r L).length, .inr (.inr (.inr (.inr (fun i => some (C1 i))))))) := by rw [ehv2]; exact qs_self
      clear ehv2
      have oq38 : h q38 = none := qno fd eq38
      replace fr : ∀ b o, h b = some o → hv2 b = some o := fun b o hb => khv2 b o (qne_of oq38 hb) (fr b o hb )
      replace fd : ∀ b o, h b = some o → ∃ o', hv2 b = some o' := fun b o hb => (fd b o hb).elim (fun o9 h9 => ⟨o9, khv2 b o9 (qne_of oq38 hb) h9⟩)
      refine q_castA C hP fq38 (by dsimp only; omega) g400 (q_fcN C) dX3_ownedBy_41 ?_
      refine q_callI (rest := [.ref q10]) C (c_X3_init l D cy N0 hv2 q10 (7 - r) e9 q38 fq10) kX3_init g355 g356 rfl hP hS (by first | decide | omega) hl.1 rfl (by simp [q_catrf, q_cati, q_catl, q_cata, q_catn]) (by first | decide | omega) dX3_ownedBy_44 (fun v hh1 H locs hq hP hS => ?_)
      obtain ⟨rfl, rfl⟩ := hq
      replace hP : qP D N0 (qs hv2 q10 (.inr (3, [.int (nI (7 - r)), .int (nI e9), .int (nI 0), .int (nI 0), .int (nI 0), .ref (cy 99), .ref (cy 99), .ref q38]))) H := hP
      obtain ⟨hv3, ehv3⟩ : ∃ z : qH, z = qs hv2 q10 (.inr (3, [.int (nI (7 - r)), .int (nI e9), .int (nI 0), .int (nI 0), .int (nI 0), .ref (cy 99), .ref (cy 99), .ref q38])) := ⟨_, rfl⟩
      rw [← ehv3] at hP
      have khv3 : ∀ b o, b ≠ q10 → hv2 b = some o → hv3 b = some o := by rw [ehv3]; exact fun b o nb hb => (qs_ne nb).trans hb
      replace f1 := khv3 _ _ n_q10_a f1
      replace fk1 := khv3 _ _ n_q10_ka1 fk1
      replace fv1 := khv3 _ _ n_q10_va1 fv1
      replace fn1 := khv3 _ _ n_q10_na1 fn1
      replace fq38 := khv3 _ _ n_q38_q10.symm fq38
      replace fq10 : hv3 q10 = some (.inr (3, [.int (nI (7 - r)), .int (nI e9), .int (nI 0), .int (nI 0), .int (nI 0), .ref (cy 99), .ref (cy 99), .ref q38])) := by rw [ehv3]; exact qs_self
      clear ehv3
      replace fr : ∀ b o, h b = some o → hv3 b = some o := fun b o hb => khv3 b o (qne_of oq10 hb) (fr b o hb )
      replace fd : ∀ b o, h b = some o → ∃ o', hv3 b = some o' := fun b o hb => (fd b o hb).elim (fun o9 h9 => ⟨o9, khv3 b o9 (qne_of oq10 hb) h9⟩)
      refine lv_astore_n (lv' := [(2, .ref q10), (0, .ref a), (1, .int (nI e9))]) hx hb dX3_ownedBy_47 rfl hl (by decide) rfl (fun ls hl => ?_)
      refine lv_aload_n hx hb dX3_ownedBy_48 rfl (lv_at hl 0 rfl) ?_
      refine lv_aload_n hx hb dX3_ownedBy_49 rfl (lv_at hl 1 rfl) ?_
      refine q_get C hP f1 rfl inX3 2 (by decide) g363 rfl dX3_ownedBy_50 ?_
      refine q_put C hP hS fq10 rfl inX3 tyX3 tyX3_ok nmX3 2 (by decide) g363 rfl rfl rfl (Nat.le_of_ble_eq_true rfl) dX3_ownedBy_53 (fun H locs hP hS => ?_)
      replace hP : qP D N0 (qs hv3 q10 (.inr (3, [.int (nI (7 - r)), .int (nI e9), .int (nI (trKb m9 r L)), .int (nI 0), .int (nI 0), .ref (cy 99), .ref (cy 99), .ref q38]))) H := hP
      obtain ⟨hv4, ehv4⟩ : ∃ z : qH, z = qs hv3 q10 (.inr (3, [.int (nI (7 - r)), .int (nI e9), .int (nI (trKb m9 r L)), .int (nI 0), .int (nI 0), .ref (cy 99), .ref (cy 99), .ref q38])) := ⟨_, rfl⟩
      rw [← ehv4] at hP
      have khv4 : ∀ b o, b ≠ q10 → hv3 b = some o → hv4 b = some o := by rw [ehv4]; exact fun b o nb hb => (qs_ne nb).trans hb
      replace f1 := khv4 _ _ n_q10_a f1
      replace fk1 := khv4 _ _ n_q10_ka1 fk1
      replace fv1 := khv4 _ _ n_q10_va1 fv1
      replace fn1 := khv4 _ _ n_q10_na1 fn1
      replace fq38 := khv4 _ _ n_q38_q10.symm fq38
      replace fq10 : hv4 q10 = some (.inr (3, [.int (nI (7 - r)), .int (nI e9), .int (nI (trKb m9 r L)), .int (nI 0), .int (nI 0), .ref (cy 99), .ref (cy 99), .ref q38])) := by rw [ehv4]; exact qs_self
      clear ehv4
      replace fr : ∀ b o, h b = some o → hv4 b = some o := fun b o hb => khv4 b o (qne_of oq10 hb) (fr b o hb )
      replace fd : ∀ b o, h b = some o → ∃ o', hv4 b = some o' := fun b o hb => (fd b o hb).elim (fun o9 h9 => ⟨o9, khv4 b o9 (qne_of oq10 hb) h9⟩)
      refine lv_aload_n hx hb dX3_ownedBy_56 rfl (lv_at hl 0 rfl) ?_
      refine lv_aload_n hx hb dX3_ownedBy_57 rfl (lv_at hl 1 rfl) ?_
      refine q_get C hP f1 rfl inX3 3 (by decide) g364 rfl dX3_ownedBy_58 ?_
      refine q_put C hP hS fq10 rfl inX3 tyX3 tyX3_ok nmX3 3 (by decide) g364 rfl rfl rfl (Nat.le_of_ble_eq_true rfl) dX3_ownedBy_61 (fun H locs hP hS => ?_)
      replace hP : qP D N0 (qs hv4 q10 (.inr (3, [.int (nI (7 - r)), .int (nI e9), .int (nI (trKb m9 r L)), .int (nI (trNb m9 r L)), .int (nI 0), .ref (cy 99), .ref (cy 99), .ref q38]))) H := hP
      obtain ⟨hv5, ehv5⟩ : ∃ z : qH, z = qs hv4 q10 (.inr (3, [.int (nI (7 - r)), .int (nI e9), .int (nI (trKb m9 r L)), .int (nI (trNb m9 r L)), .int (nI 0), .ref (cy 99), .ref (cy 99), .ref q38])) := ⟨_, rfl⟩
      rw [← ehv5] at hP
      have khv5 : ∀ b o, b ≠ q10 → hv4 b = some o → hv5 b = some o := by rw [ehv5]; exact fun b o nb hb => (qs_ne nb).trans hb
      replace f1 := khv5 _ _ n_q10_a f1
      replace fk1 := khv5 _ _ n_q10_ka1 fk1
      replace fv1 := khv5 _ _ n_q10_va1 fv1
      replace fn1 := khv5 _ _ n_q10_na1 fn1
      replace fq38 := khv5 _ _ n_q38_q10.symm fq38
      replace fq10 : hv5 q10 = some (.inr (3, [.int (nI (7 - r)), .int (nI e9), .int (nI (trKb m9 r L)), .int (nI (trNb m9 r L)), .int (nI 0), .ref (cy 99), .ref (cy 99), .ref q38])) := by rw [ehv5]; exact qs_self
      clear ehv5
      replace fr : ∀ b o, h b = some o → hv5 b = some o := fun b o hb => khv5 b o (qne_of oq10 hb) (fr b o hb )
      replace fd : ∀ b o, h b = some o → ∃ o', hv5 b = some o' := fun b o hb => (fd b o hb).elim (fun o9 h9 => ⟨o9, khv5 b o9 (qne_of oq10 hb) h9⟩)
      refine lv_aload_n hx hb dX3_ownedBy_64 rfl (lv_at hl 0 rfl) ?_
      refine lv_aload_n hx hb dX3_ownedBy_65 rfl (lv_at hl 1 rfl) ?_
      refine q_get C hP f1 rfl inX3 4 (by decide) g365 rfl dX3_ownedBy_66 ?_
      refine q_put C hP hS fq10 rfl inX3 tyX3 tyX3_ok nmX3 4 (by decide) g365 rfl rfl rfl (Nat.le_of_ble_eq_true rfl) dX3_ownedBy_69 (fun H locs hP hS => ?_)
      replace hP : qP D N0 (qs hv5 q10 (.inr (3, [.int (nI (7 - r)), .int (nI e9), .int (nI (trKb m9 r L)), .int (nI (trNb m9 r L)), .int (nI L.length), .ref (cy 99), .ref (cy 99), .ref q38]))) H := hP
      obtain ⟨hv6, ehv6⟩ : ∃ z : qH, z = qs hv5 q10 (.inr (3, [.int (nI (7 - r)), .int (nI e9), .int (nI (trKb m9 r L)), .int (nI (trNb m9 r L)), .int (nI L.length), .ref (cy 99), .ref (cy 99), .ref q38])) := ⟨_, rfl⟩
      rw [← ehv6] at hP
      have khv6 : ∀ b o, b ≠ q10 → hv5 b = some o → hv6 b = some o := by rw [ehv6]; exact fun b o nb hb => (qs_ne nb).trans hb
      replace f1 := khv6 _ _ n_q10_a f1
      replace fk1 := khv6 _ _ n_q10_ka1 fk1
      replace fv1 := khv6 _ _ n_q10_va1 fv1
      replace fn1 := khv6 _ _ n_q10_na1 fn1
      replace fq38 := khv6 _ _ n_q38_q10.symm fq38
      replace fq10 : hv6 q10 = some (.inr (3, [.int (nI (7 - r)), .int (nI e9), .int (nI (trKb m9 r L)), .int (nI (trNb m9 r L)), .int (nI L.length), .ref (cy 99), .ref (cy 99), .ref q38])) := by rw [ehv6]; exact qs_self
      clear ehv6
      replace fr : ∀ b o, h b = some o → hv6 b = some o := fun b o hb => khv6 b o (qne_of oq10 hb) (fr b o hb )
      replace fd : ∀ b o, h b = some o → ∃ o', hv6 b = some o' := fun b o hb => (fd b o hb).elim (fun o9 h9 => ⟨o9, khv6 b o9 (qne_of oq10 hb) h9⟩)
      refine lv_aload_n hx hb dX3_ownedBy_72 rfl (lv_at hl 0 rfl) ?_
      refine lv_aload_n hx hb dX3_ownedBy_73 rfl (lv_at hl 1 rfl) ?_
      refine q_get C hP f1 rfl inX3 5 (by decide) g366 rfl dX3_ownedBy_74 ?_
      refine q_put C hP hS fq10 rfl inX3 tyX3 tyX3_ok nmX3 5 (by decide) g366 rfl rfl rfl (Nat.le_of_ble_eq_true rfl) dX3_ownedBy_77 (fun H locs hP hS => ?_)
      replace hP : qP D N0 (qs hv6 q10 (.inr (3, [.int (nI (7 - r)), .int (nI e9), .int (nI (trKb m9 r L)), .int (nI (trNb m9 r L)), .int (nI L.length), .ref ka1, .ref (cy 99), .ref q38]))) H := hP
      obtain ⟨hv7, ehv7⟩ : ∃ z : qH, z = qs hv6 q10 (.inr (3, [.int (nI (7 - r)), .int (nI e9), .int (nI (trKb m9 r L)), .int (nI (trNb m9 r L)), .int (nI L.length), .ref ka1, .ref (cy 99), .ref q38])) := ⟨_, rfl⟩
      rw [← ehv7] at hP
      have khv7 : ∀ b o, b ≠ q10 → hv6 b = some o → hv7 b = some o := by rw [ehv7]; exact fun b o nb hb => (qs_ne nb).trans hb
      replace f1 := khv7 _ _ n_q10_a f1
      replace fk1 := khv7 _ _ n_q10_ka1 fk1
      replace fv1 := khv7 _ _ n_q10_va1 fv1
      replace fn1 := khv7 _ _ n_q10_na1 fn1
      replace fq38 := khv7 _ _ n_q38_q10.symm fq38
      replace fq10 : hv7 q10 = some (.inr (3, [.int (nI (7 - r)), .int (nI e9), .int (nI (trKb m9 r L)), .int (nI (trNb m9 r L)), .int (nI L.length), .ref ka1, .ref (cy 99), .ref q38])) := by rw [ehv7]; exact qs_self
      clear ehv7
      replace fr : ∀ b o, h b = some o → hv7 b = some o := fun b o hb => khv7 b o (qne_of oq10 hb) (fr b o hb )
      replace fd : ∀ b o, h b = some o → ∃ o', hv7 b = some o' := fun b o hb => (fd b o hb).elim (fun o9 h9 => ⟨o9, khv7 b o9 (qne_of oq10 hb) h9⟩)
      refine lv_aload_n hx hb dX3_ownedBy_80 rfl (lv_at hl 0 rfl) ?_
      refine lv_aload_n hx hb dX3_ownedBy_81 rfl (lv_at hl 1 rfl) ?_
      refine q_get C hP f1 rfl inX3 6 (by decide) g367 rfl dX3_ownedBy_82 ?_
      refine q_alen C hP fv1 rfl dX3_ownedBy_85 ?_
      refine lv_if_ne (tgt := 96) hx hb dX3_ownedBy_86 (by decide) (fun c86 => ?_) (fun c86 => ?_)
      · replace c86 : ¬ ((trK m9 r L).length) = 0 := fun zq => c86 ((nI_eq (a := (trK m9 r L).length) (b := 0) (by omega) (by omega)).mpr zq)
        refine lv_aload_n hx hb dX3_ownedBy_96 rfl (lv_at hl 1 rfl) ?_
        refine q_get C hP f1 rfl inX3 6 (by decide) g367 rfl dX3_ownedBy_97 ?_
        refine q_clone (t0 := 1) (ad := "[J") (ty := .long) C hP hS fv1 (by dsimp only; omega) rfl (q_fcJ C) (va_fit (fun i hi => rfl)) g401 gn402 g403 (by decide) hl.1 (by omega) (by simp [q_catrf, q_cati, q_catl, q_cata, q_catn]) (by first | omega | (dsimp only; omega)) (by first | omega | (dsimp only; omega)) dX3_ownedBy_100 (fun q100 H eq100 hP hS => ?_)
        obtain ⟨hv8, ehv8⟩ : ∃ z : qH, z = qs hv7 q100 (.inl (cy 1, (trK m9 r L).length, .inr (.inl (fun j => (List.map Prod.snd (trK m9 r L)).getD j 0)))) := ⟨_, rfl⟩
        rw [← ehv8] at hP
        have khv8 : ∀ b o, b ≠ q100 → hv7 b = some o → hv8 b = some o := by rw [ehv8]; exact fun b o nb hb => (qs_ne nb).trans hb
        have n_q100_a : a ≠ q100 := qne_of eq100 f1
        replace f1 := khv8 _ _ n_q100_a f1
        have n_q100_ka1 : ka1 ≠ q100 := qne_of eq100 fk1
        replace fk1 := khv8 _ _ n_q100_ka1 fk1
        have n_q100_va1 : va1 ≠ q100 := qne_of eq100 fv1
        replace fv1 := khv8 _ _ n_q100_va1 fv1
        have n_q100_na1 : na1 ≠ q100 := qne_of eq100 fn1
        replace fn1 := khv8 _ _ n_q100_na1 fn1
        have n_q100_q10 : q10 ≠ q100 := qne_of eq100 fq10
        replace fq10 := khv8 _ _ n_q100_q10 fq10
        have n_q100_q38 : q38 ≠ q100 := qne_of eq100 fq38
        replace fq38 := khv8 _ _ n_q100_q38 fq38
        have fq100 : hv8 q100 = some (.inl (cy 1, (trK m9 r L).length, .inr (.inl (fun j => (List.map Prod.snd (trK m9 r L)).getD j 0)))) := by rw [ehv8]; exact qs_self
        clear ehv8
        have oq100 : h q100 = none := qno fd eq100
        replace fr : ∀ b o, h b = some o → hv8 b = some o := fun b o hb => khv8 b o (qne_of oq100 hb) (fr b o hb )
        replace fd : ∀ b o, h b = some o → ∃ o', hv8 b = some o' := fun b o hb => (fd b o hb).elim (fun o9 h9 => ⟨o9, khv8 b o9 (qne_of oq100 hb) h9⟩)
        refine q_castA C hP fq100 (by dsimp only; omega) g405 (q_fcJ C) dX3_ownedBy_103 ?_
        refine q_put C hP hS fq10 rfl inX3 tyX3 tyX3_ok nmX3 6 (by decide) g367 rfl rfl rfl (Nat.le_of_ble_eq_true rfl) dX3_ownedBy_106 (fun H locs hP hS => ?_)
        replace hP : qP D N0 (qs hv8 q10 (.inr (3, [.int (nI (7 - r)), .int (nI e9), .int (nI (trKb m9 r L)), .int (nI (trNb m9 r L)), .int (nI L.length), .ref ka1, .ref q100, .ref q38]))) H := hP
        obtain ⟨hv9, ehv9⟩ : ∃ z : qH, z = qs hv8 q10 (.inr (3, [.int (nI (7 - r)), .int (nI e9), .int (nI (trKb m9 r L)), .int (nI (trNb m9 r L)), .int (nI L.length), .ref ka1, .ref q100, .ref q38])) := ⟨_, rfl⟩
        rw [← ehv9] at hP
        have khv9 : ∀ b o, b ≠ q10 → hv8 b = some o → hv9 b = some o := by rw [ehv9]; exact fun b o nb hb => (qs_ne nb).trans hb
        replace f1 := khv9 _ _ n_q10_a f1
        replace fk1 := khv9 _ _ n_q10_ka1 fk1
        replace fv1 := khv9 _ _ n_q10_va1 fv1
        replace fn1 := khv9 _ _ n_q10_na1 fn1
        replace fq38 := khv9 _ _ n_q38_q10.symm fq38
        replace fq100 := khv9 _ _ n_q100_q10.symm fq100
        replace fq10 : hv9 q10 = some (.inr (3, [.int (nI (7 - r)), .int (nI e9), .int (nI (trKb m9 r L)), .int (nI (trNb m9 r L)), .int (nI L.length), .ref ka1, .ref q100, .ref q38])) := by rw [ehv9]; exact qs_self
        clear ehv9
        replace fr : ∀ b o, h b = some o → hv9 b = some o := fun b o hb => khv9 b o (qne_of oq10 hb) (fr b o hb )
        replace fd : ∀ b o, h b = some o → ∃ o', hv9 b = some o' := fun b o hb => (fd b o hb).elim (fun o9 h9 => ⟨o9, khv9 b o9 (qne_of oq10 hb) h9⟩)
        refine lv_aload_n hx hb dX3_ownedBy_109 rfl (lv_at hl 0 rfl) ?_
        have hle9 : qle h hv9 := fr
        have hm1 := hn1.2.2.2.2.2.2
        have hnd : thNd cy hv9 Im e9 Ok m9 r q10 L L.length (fun b => X b ∨ b = q10 ∨ b = q100 ∨ b = q38) e9 ka1 q100 q38 C1 := by
          refine ⟨fq10, by rw [thJ, List.length_map]; exact fk1, by rw [thJ, List.length_map]; exact fq100, fq38, hn1.2.2.2.2.1, he9, Or.inl ⟨rfl, Or.inr (Or.inl rfl), (fun _ => Or.inr (Or.inr (Or.inl rfl))), (fun z => absurd (by rw [z]; rfl) c86), (fun _ => Or.inr (Or.inr (Or.inr (rfl)))), (fun z => absurd (by rw [z]; rfl) c24)⟩⟩
        have hap : ∀ b, Im b ∨ X b → b ≠ q10 ∧ b ≠ q100 ∧ b ≠ q38 := fun b z => by obtain ⟨o, ho⟩ := hEd b z; exact ⟨qne_of oq10 ho, qne_of oq100 ho, qne_of oq38 ho⟩
        have hxs : thXs (trM m9 r L).length q10 q100 q38 (fun b => X b ∨ b = q10 ∨ b = q100 ∨ b = q38) Xs1 := by
          refine ⟨fun j hj b z9 => ?_, hx1.2⟩
          obtain ⟨z, z2, z3, z4⟩ := hx1.1 j hj b z9
          exact ⟨Or.inl z, (hap b (Or.inr z)).1, (hap b (Or.inr z)).2.1, (hap b (Or.inr z)).2.2⟩
        have hkk : ∀ j v, (trM m9 r L)[j]? = some v → ∃ r', r = r' + 1 ∧ qTr cy hv9 Im e9 Ok m9 r' (C1 j) (thK m9 (6 - r') v L) (Xs1 j) := fun j v z => by obtain ⟨r9, e1, t9⟩ := hk1 j v z; exact ⟨r9, e1, t9.keep (fun b o hb _ => hle9 b o hb) (fun _ z => z)⟩
        have hed : qEd cy hv9 Im (fun b => X b ∨ b = q10 ∨ b = q100 ∨ b = q38) := by
          refine ⟨fun b z hi => ?_, fun b z => ?_, hle9 _ _ hE9, hEi⟩
          · rcases z with z | z
            · exact hEx b z hi
            · have := hap b (Or.inl hi)
              rcases z with z | z | z <;> simp_all
          · rcases z with z | z | z
            · obtain ⟨o, ho⟩ := hEd b (Or.inl z); exact ⟨o, hle9 b o ho⟩
            · obtain ⟨o, ho⟩ := hEd b (Or.inr z); exact ⟨o, hle9 b o ho⟩
            · rcases z with rfl | rfl | rfl
              · exact ⟨_, fq10⟩
              · exact ⟨_, fq100⟩
              · exact ⟨_, fq38⟩
        have hch : qCh h Im X hv9 Im (fun b => X b ∨ b = q10 ∨ b = q100 ∨ b = q38) := ⟨fun b o hb _ => hle9 b o hb, fun _ z => z, fun _ z => Or.inl z, fun b z => z.imp_right (fun z => by rcases z with rfl | rfl | rfl <;> assumption), fd⟩
        exact q_aret (v := some q10) C (Or.inl ⟨_, rfl⟩) hP hS ⟨q10, ka1, q100, q38, C1, Xs1, (fun b => X b ∨ b = q10 ∨ b = q100 ∨ b = q38), rfl, hle9, ⟨hnd, hxs, hkk⟩, hed, hch⟩ (by omega) dX3_ownedBy_110
      · replace c86 : ((trK m9 r L).length) = 0 := (nI_eq (a := (trK m9 r L).length) (b := 0) (by omega) (by omega)).mp c86
        refine lv_aload_n hx hb dX3_ownedBy_89 rfl (lv_at hl 1 rfl) ?_
        refine q_get C hP f1 rfl inX3 6 (by decide) g367 rfl dX3_ownedBy_90 ?_
        refine lv_goto (tgt := 106) hx hb dX3_ownedBy_93 (by decide) ?_
        refine q_put C hP hS fq10 rfl inX3 tyX3 tyX3_ok nmX3 6 (by decide) g367 rfl rfl rfl (Nat.le_of_ble_eq_true rfl) dX3_ownedBy_106 (fun H locs hP hS => ?_)
        replace hP : qP D N0 (qs hv7 q10 (.inr (3, [.int (nI (7 - r)), .int (nI e9), .int (nI (trKb m9 r L)), .int (nI (trNb m9 r L)), .int (nI L.length), .ref ka1, .ref va1, .ref q38]))) H := hP
        obtain ⟨hv10, ehv10⟩ : ∃ z : qH, z = qs hv7 q10 (.inr (3, [.int (nI (7 - r)), .int (nI e9), .int (nI (trKb m9 r L)), .int (nI (trNb m9 r L)), .int (nI L.length), .ref ka1, .ref va1, .ref q38])) := ⟨_, rfl⟩
        rw [← ehv10] at hP
        have khv10 : ∀ b o, b ≠ q10 → hv7 b = some o → hv10 b = some o := by rw [ehv10]; exact fun b o nb hb => (qs_ne nb).trans hb
        replace f1 := khv10 _ _ n_q10_a f1
        replace fk1 := khv10 _ _ n_q10_ka1 fk1
        replace fv1 := khv10 _ _ n_q10_va1 fv1
        replace fn1 := khv10 _ _ n_q10_na1 fn1
        replace fq38 := khv10 _ _ n_q38_q10.symm fq38
        replace fq10 : hv10 q10 = some (.inr (3, [.int (nI (7 - r)), .int (nI e9), .int (nI (trKb m9 r L)), .int (nI (trNb m9 r L)), .int (nI L.length), .ref ka1, .ref va1, .ref q38])) := by rw [ehv10]; exact qs_self
        clear ehv10
        replace fr : ∀ b o, h b = some o → hv10 b = some o := fun b o hb => khv10 b o (qne_of oq10 hb) (fr b o hb )
        replace fd : ∀ b o, h b = some o → ∃ o', hv10 b = some o' := fun b o hb => (fd b o hb).elim (fun o9 h9 => ⟨o9, khv10 b o9 (qne_of oq10 hb) h9⟩)
        refine lv_aload_n hx hb dX3_ownedBy_109 rfl (lv_at hl 0 rfl) ?_
        have hle9 : qle h hv10 := fr
        have hm1 := hn1.2.2.2.2.2.2
        have hnd : thNd cy hv10 Im e9 Ok m9 r q10 L L.length (fun b => X b ∨ b = q10 ∨ b = q38) e9 ka1 va1 q38 C1 := by
          refine ⟨fq10, by rw [thJ, List.length_map]; exact fk1, by rw [thJ, List.length_map]; exact fv1, fq38, hn1.2.2.2.2.1, he9, Or.inl ⟨rfl, Or.inr (Or.inl rfl), (fun z => absurd (List.eq_nil_of_length_eq_zero c86) z), (fun _ => ?_), (fun _ => Or.inr (Or.inr (rfl))), (fun z => absurd (by rw [z]; rfl) c24)⟩⟩
          · rcases hm1 with ⟨-, -, -, y, -, -⟩ | ⟨-, -, y, -⟩
            · exact y (List.eq_nil_of_length_eq_zero c86)
            · exact y
        have hap : ∀ b, Im b ∨ X b → b ≠ q10 ∧ b ≠ q38 := fun b z => by obtain ⟨o, ho⟩ := hEd b z; exact ⟨qne_of oq10 ho, qne_of oq38 ho⟩
        have hxs : thXs (trM m9 r L).length q10 va1 q38 (fun b => X b ∨ b = q10 ∨ b = q38) Xs1 := by
          refine ⟨fun j hj b z9 => ?_, hx1.2⟩
          obtain ⟨z, z2, z3, z4⟩ := hx1.1 j hj b z9
          exact ⟨Or.inl z, (hap b (Or.inr z)).1, z3, (hap b (Or.inr z)).2⟩
        have hkk : ∀ j v, (trM m9 r L)[j]? = some v → ∃ r', r = r' + 1 ∧ qTr cy hv10 Im e9 Ok m9 r' (C1 j) (thK m9 (6 - r') v L) (Xs1 j) := fun j v z => by obtain ⟨r9, e1, t9⟩ := hk1 j v z; exact ⟨r9, e1, t9.keep (fun b o hb _ => hle9 b o hb) (fun _ z => z)⟩
        have hed : qEd cy hv10 Im (fun b => X b ∨ b = q10 ∨ b = q38) := by
          refine ⟨fun b z hi => ?_, fun b z => ?_, hle9 _ _ hE9, hEi⟩
          · rcases z with z | z
            · exact hEx b z hi
            · have := hap b (Or.inl hi)
              rcases z with z | z <;> simp_all
          · rcases z with z | z | z
            · obtain ⟨o, ho⟩ := hEd b (Or.inl z); exact ⟨o, hle9 b o ho⟩
            · obtain ⟨o, ho⟩ := hEd b (Or.inr z); exact ⟨o, hle9 b o ho⟩
            · rcases z with rfl | rfl
              · exact ⟨_, fq10⟩
              · exact ⟨_, fq38⟩
        have hch : qCh h Im X hv10 Im (fun b => X b ∨ b = q10 ∨ b = q38) := ⟨fun b o hb _ => hle9 b o hb, fun _ z => z, fun _ z => Or.inl z, fun b z => z.imp_right (fun z => by rcases z with rfl | rfl <;> assumption), fd⟩
        exact q_aret (v := some q10) C (Or.inl ⟨_, rfl⟩) hP hS ⟨q10, ka1, va1, q38, C1, Xs1, (fun b => X b ∨ b = q10 ∨ b = q38), rfl, hle9, ⟨hnd, hxs, hkk⟩, hed, hch⟩ (by omega) dX3_ownedBy_110
    · replace c24 : ((trM m9 r L).length) = 0 := (nI_eq (a := (trM m9 r L).length) (b := 0) (by omega) (by omega)).mp c24
      refine lv_aload_n hx hb dX3_ownedBy_27 rfl (lv_at hl 0 rfl) ?_
      refine q_get C hP f1 rfl inX3 7 (by decide) g369 rfl dX3_ownedBy_28 ?_
      refine lv_goto (tgt := 44) hx hb dX3_ownedBy_31 (by decide) ?_
      refine q_callI (rest := [.ref q10]) C (c_X3_init l D cy N0 hv1 q10 (7 - r) e9 na1 fq10) kX3_init g355 g356 rfl hP hS (by first | decide | omega) hl.1 rfl (by simp [q_catrf, q_cati, q_catl, q_cata, q_catn]) (by first | decide | omega) dX3_ownedBy_44 (fun v hh2 H locs hq hP hS => ?_)
      obtain ⟨rfl, rfl⟩ := hq
      replace hP : qP D N0 (qs hv1 q10 (.inr (3, [.int (nI (7 - r)), .int (nI e9), .int (nI 0), .int (nI 0), .int (nI 0), .ref (cy 99), .ref (cy 99), .ref na1]))) H := hP
      obtain ⟨hv11, ehv11⟩ : ∃ z : qH, z = qs hv1 q10 (.inr (3, [.int (nI (7 - r)), .int (nI e9), .int (nI 0), .int (nI 0), .int (nI 0), .ref (cy 99), .ref (cy 99), .ref na1])) := ⟨_, rfl⟩
      rw [← ehv11] at hP
      have khv11 : ∀ b o, b ≠ q10 → hv1 b = some o → hv11 b = some o := by rw [ehv11]; exact fun b o nb hb => (qs_ne nb).trans hb
      replace f1 := khv11 _ _ n_q10_a f1
      replace fk1 := khv11 _ _ n_q10_ka1 fk1
      replace fv1 := khv11 _ _ n_q10_va1 fv1
      replace fn1 := khv11 _ _ n_q10_na1 fn1
      replace fq10 : hv11 q10 = some (.inr (3, [.int (nI (7 - r)), .int (nI e9), .int (nI 0), .int (nI 0), .int (nI 0), .ref (cy 99), .ref (cy 99), .ref na1])) := by rw [ehv11]; exact qs_self
      clear ehv11
      replace fr : ∀ b o, h b = some o → hv11 b = some o := fun b o hb => khv11 b o (qne_of oq10 hb) (fr b o hb )
      replace fd : ∀ b o, h b = some o → ∃ o', hv11 b = some o' := fun b o hb => (fd b o hb).elim (fun o9 h9 => ⟨o9, khv11 b o9 (qne_of oq10 hb) h9⟩)
      refine lv_astore_n (lv' := [(2, .ref q10), (0, .ref a), (1, .int (nI e9))]) hx hb dX3_ownedBy_47 rfl hl (by decide) rfl (fun ls hl => ?_)
      refine lv_aload_n hx hb dX3_ownedBy_48 rfl (lv_at hl 0 rfl) ?_
      refine lv_aload_n hx hb dX3_ownedBy_49 rfl (lv_at hl 1 rfl) ?_
      refine q_get C hP f1 rfl inX3 2 (by decide) g363 rfl dX3_ownedBy_50 ?_
      refine q_put C hP hS fq10 rfl inX3 tyX3 tyX3_ok nmX3 2 (by decide) g363 rfl rfl rfl (Nat.le_of_ble_eq_true rfl) dX3_ownedBy_53 (fun H locs hP hS => ?_)
      replace hP : qP D N0 (qs hv11 q10 (.inr (3, [.int (nI (7 - r)), .int (nI e9), .int (nI (trKb m9 r L)), .int (nI 0), .int (nI 0), .ref (cy 99), .ref (cy 99), .ref na1]))) H := hP
      obtain ⟨hv12, ehv12⟩ : ∃ z : qH, z = qs hv11 q10 (.inr (3, [.int (nI (7 - r)), .int (nI e9), .int (nI (trKb m9 r L)), .int (nI 0), .int (nI 0), .ref (cy 99), .ref (cy 99), .ref na1])) := ⟨_, rfl⟩
      rw [← ehv12] at hP
      have khv12 : ∀ b o, b ≠ q10 → hv11 b = some o → hv12 b = some o := by rw [ehv12]; exact fun b o nb hb => (qs_ne nb).trans hb
      replace f1 := khv12 _ _ n_q10_a f1
      replace fk1 := khv12 _ _ n_q10_ka1 fk1
      replace fv1 := khv12 _ _ n_q10_va1 fv1
      replace fn1 := khv12 _ _ n_q10_na1 fn1
      replace fq10 : hv12 q10 = some (.inr (3, [.int (nI (7 - r)), .int (nI e9), .int (nI (trKb m9 r L)), .int (nI 0), .int (nI 0), .ref (cy 99), .ref (cy 99), .ref na1])) := by rw [ehv12]; exact qs_self
      clear ehv12
      replace fr : ∀ b o, h b = some o → hv12 b = some o := fun b o hb => khv12 b o (qne_of oq10 hb) (fr b o hb )
      replace fd : ∀ b o, h b = some o → ∃ o', hv12 b = some o' := fun b o hb => (fd b o hb).elim (fun o9 h9 => ⟨o9, khv12 b o9 (qne_of oq10 hb) h9⟩)
      refine lv_aload_n hx hb dX3_ownedBy_56 rfl (lv_at hl 0 rfl) ?_
      refine lv_aload_n hx hb dX3_ownedBy_57 rfl (lv_at hl 1 rfl) ?_
      refine q_get C hP f1 rfl inX3 3 (by decide) g364 rfl dX3_ownedBy_58 ?_
      refine q_put C hP hS fq10 rfl inX3 tyX3 tyX3_ok nmX3 3 (by decide) g364 rfl rfl rfl (Nat.le_of_ble_eq_true rfl) dX3_ownedBy_61 (fun H locs hP hS => ?_)
      replace hP : qP D N0 (qs hv12 q10 (.inr (3, [.int (nI (7 - r)), .int (nI e9), .int (nI (trKb m9 r L)), .int (nI (trNb m9 r L)), .int (nI 0), .ref (cy 99), .ref (cy 99), .ref na1]))) H := hP
      obtain ⟨hv13, ehv13⟩ : ∃ z : qH, z = qs hv12 q10 (.inr (3, [.int (nI (7 - r)), .int (nI e9), .int (nI (trKb m9 r L)), .int (nI (trNb m9 r L)), .int (nI 0), .ref (cy 99), .ref (cy 99), .ref na1])) := ⟨_, rfl⟩
      rw [← ehv13] at hP
      have khv13 : ∀ b o, b ≠ q10 → hv12 b = some o → hv13 b = some o := by rw [ehv13]; exact fun b o nb hb => (qs_ne nb).trans hb
      replace f1 := khv13 _ _ n_q10_a f1
      replace fk1 := khv13 _ _ n_q10_ka1 fk1
      replace fv1 := khv13 _ _ n_q10_va1 fv1
      replace fn1 := khv13 _ _ n_q10_na1 fn1
      replace fq10 : hv13 q10 = some (.inr (3, [.int (nI (7 - r)), .int (nI e9), .int (nI (trKb m9 r L)), .int (nI (trNb m9 r L)), .int (nI 0), .ref (cy 99), .ref (cy 99), .ref na1])) := by rw [ehv13]; exact qs_self
      clear ehv13
      replace fr : ∀ b o, h b = some o → hv13 b = some o := fun b o hb => khv13 b o (qne_of oq10 hb) (fr b o hb )
      replace fd : ∀ b o, h b = some o → ∃ o', hv13 b = some o' := fun b o hb => (fd b o hb).elim (fun o9 h9 => ⟨o9, khv13 b o9 (qne_of oq10 hb) h9⟩)
      refine lv_aload_n hx hb dX3_ownedBy_64 rfl (lv_at hl 0 rfl) ?_
      refine lv_aload_n hx hb dX3_ownedBy_65 rfl (lv_at hl 1 rfl) ?_
      refine q_get C hP f1 rfl inX3 4 (by decide) g365 rfl dX3_ownedBy_66 ?_
      refine q_put C hP hS fq10 rfl inX3 tyX3 tyX3_ok nmX3 4 (by decide) g365 rfl rfl rfl (Nat.le_of_ble_eq_true rfl) dX3_ownedBy_69 (fun H locs hP hS => ?_)
      replace hP : qP D N0 (qs hv13 q10 (.inr (3, [.int (nI (7 - r)), .int (nI e9), .int (nI (trKb m9 r L)), .int (nI (trNb m9 r L)), .int (nI L.length), .ref (cy 99), .ref (cy 99), .ref na1]))) H := hP
      obtain ⟨hv14, ehv14⟩ : ∃ z : qH, z = qs hv13 q10 (.inr (3, [.int (nI (7 - r)), .int (nI e9), .int (nI (trKb m9 r L)), .int (nI (trNb m9 r L)), .int (nI L.length), .ref (cy 99), .ref (cy 99), .ref na1])) := ⟨_, rfl⟩
      rw [← ehv14] at hP
      have khv14 : ∀ b o, b ≠ q10 → hv13 b = some o → hv14 b = some o := by rw [ehv14]; exact fun b o nb hb => (qs_ne nb).trans hb
      replace f1 := khv14 _ _ n_q10_a f1
      replace fk1 := khv14 _ _ n_q10_ka1 fk1
      replace fv1 := khv14 _ _ n_q10_va1 fv1
      replace fn1 := khv14 _ _ n_q10_na1 fn1
      replace fq10 : hv14 q10 = some (.inr (3, [.int (nI (7 - r)), .int (nI e9), .int (nI (trKb m9 r L)), .int (nI (trNb m9 r L)), .int (nI L.length), .ref (cy 99), .ref (cy 99), .ref na1])) := by rw [ehv14]; exact qs_self
      clear ehv14
      replace fr : ∀ b o, h b = some o → hv14 b = some o := fun b o hb => khv14 b o (qne_of oq10 hb) (fr b o hb )
      replace fd : ∀ b o, h b = some o → ∃ o', hv14 b = some o' := fun b o hb => (fd b o hb).elim (fun o9 h9 => ⟨o9, khv14 b o9 (qne_of oq10 hb) h9⟩)
      refine lv_aload_n hx hb dX3_ownedBy_72 rfl (lv_at hl 0 rfl) ?_
      refine lv_aload_n hx hb dX3_ownedBy_73 rfl (lv_at hl 1 rfl) ?_
      refine q_get C hP f1 rfl inX3 5 (by decide) g366 rfl dX3_ownedBy_74 ?_
      refine q_put C hP hS fq10 rfl inX3 tyX3 tyX3_ok nmX3 5 (by decide) g366 rfl rfl rfl (Nat.le_of_ble_eq_true rfl) dX3_ownedBy_77 (fun H locs hP hS => ?_)
      replace hP : qP D N0 (qs hv14 q10 (.inr (3, [.int (nI (7 - r)), .int (nI e9), .int (nI (trKb m9 r L)), .int (nI (trNb m9 r L)), .int (nI L.length), .ref ka1, .ref (cy 99), .ref na1]))) H := hP
      obtain ⟨hv15, ehv15⟩ : ∃ z : qH, z = qs hv14 q10 (.inr (3, [.int (nI (7 - r)), .int (nI e9), .int (nI (trKb m9 r L)), .int (nI (trNb m9 r L)), .int (nI L.length), .ref ka1, .ref (cy 99), .ref na1])) := ⟨_, rfl⟩
      rw [← ehv15] at hP
      have khv15 : ∀ b o, b ≠ q10 → hv14 b = some o → hv15 b = some o := by rw [ehv15]; exact fun b o nb hb => (qs_ne nb).trans hb
      replace f1 := khv15 _ _ n_q10_a f1
      replace fk1 := khv15 _ _ n_q10_ka1 fk1
      replace fv1 := khv15 _ _ n_q10_va1 fv1
      replace fn1 := khv15 _ _ n_q10_na1 fn1
      replace fq10 : hv15 q10 = some (.inr (3, [.int (nI (7 - r)), .int (nI e9), .int (nI (trKb m9 r L)), .int (nI (trNb m9 r L)), .int (nI L.length), .ref ka1, .ref (cy 99), .ref na1])) := by rw [ehv15]; exact qs_self
      clear ehv15
      replace fr : ∀ b o, h b = some o → hv15 b = some o := fun b o hb => khv15 b o (qne_of oq10 hb) (fr b o hb )
      replace fd : ∀ b o, h b = some o → ∃ o', hv15 b = some o' := fun b o hb => (fd b o hb).elim (fun o9 h9 => ⟨o9, khv15 b o9 (qne_of oq10 hb) h9⟩)
      refine lv_aload_n hx hb dX3_ownedBy_80 rfl (lv_at hl 0 rfl) ?_
      refine lv_aload_n hx hb dX3_ownedBy_81 rfl (lv_at hl 1 rfl) ?_
      refine q_get C hP f1 rfl inX3 6 (by decide) g367 rfl dX3_ownedBy_82 ?_
      refine q_alen C hP fv1 rfl dX3_ownedBy_85 ?_
      refine lv_if_ne (tgt := 96) hx hb dX3_ownedBy_86 (by decide) (fun c86 => ?_) (fun c86 => ?_)
      · replace c86 : ¬ ((trK m9 r L).length) = 0 := fun zq => c86 ((nI_eq (a := (trK m9 r L).length) (b := 0) (by omega) (by omega)).mpr zq)
        refine lv_aload_n hx hb dX3_ownedBy_96 rfl (lv_at hl 1 rfl) ?_
        refine q_get C hP f1 rfl inX3 6 (by decide) g367 rfl dX3_ownedBy_97 ?_
        refine q_clone (t0 := 1) (ad := "[J") (ty := .long) C hP hS fv1 (by dsimp only; omega) rfl (q_fcJ C) (va_fit (fun i hi => rfl)) g401 gn402 g403 (by decide) hl.1 (by omega) (by simp [q_catrf, q_cati, q_catl, q_cata, q_catn]) (by first | omega | (dsimp only; omega)) (by first | omega | (dsimp only; omega)) dX3_ownedBy_100 (fun q100 H eq100 hP hS => ?_)
        obtain ⟨hv16, ehv16⟩ : ∃ z : qH, z = qs hv15 q100 (.inl (cy 1, (trK m9 r L).length, .inr (.inl (fun j => (List.map Prod.snd (trK m9 r L)).getD j 0)))) := ⟨_, rfl⟩
        rw [← ehv16] at hP
        have khv16 : ∀ b o, b ≠ q100 → hv15 b = some o → hv16 b = some o := by rw [ehv16]; exact fun b o nb hb => (qs_ne nb).trans hb
        have n_q100_a : a ≠ q100 := qne_of eq100 f1
        replace f1 := khv16 _ _ n_q100_a f1
        have n_q100_ka1 : ka1 ≠ q100 := qne_of eq100 fk1
        replace fk1 := khv16 _ _ n_q100_ka1 fk1
        have n_q100_va1 : va1 ≠ q100 := qne_of eq100 fv1
        replace fv1 := khv16 _ _ n_q100_va1 fv1
        have n_q100_na1 : na1 ≠ q100 := qne_of eq100 fn1
        replace fn1 := khv16 _ _ n_q100_na1 fn1
        have n_q100_q10 : q10 ≠ q100 := qne_of eq100 fq10
        replace fq10 := khv16 _ _ n_q100_q10 fq10
        have fq100 : hv16 q100 = some (.inl (cy 1, (trK m9 r L).length, .inr (.inl (fun j => (List.map Prod.snd (trK m9 r L)).getD j 0)))) := by rw [ehv16]; exact qs_self
        clear ehv16
        have oq100 : h q100 = none := qno fd eq100
        replace fr : ∀ b o, h b = some o → hv16 b = some o := fun b o hb => khv16 b o (qne_of oq100 hb) (fr b o hb )
        replace fd : ∀ b o, h b = some o → ∃ o', hv16 b = some o' := fun b o hb => (fd b o hb).elim (fun o9 h9 => ⟨o9, khv16 b o9 (qne_of oq100 hb) h9⟩)
        refine q_castA C hP fq100 (by dsimp only; omega) g405 (q_fcJ C) dX3_ownedBy_103 ?_
        refine q_put C hP hS fq10 rfl inX3 tyX3 tyX3_ok nmX3 6 (by decide) g367 rfl rfl rfl (Nat.le_of_ble_eq_true rfl) dX3_ownedBy_106 (fun H locs hP hS => ?_)
        replace hP : qP D N0 (qs hv16 q10 (.inr (3, [.int (nI (7 - r)), .int (nI e9), .int (nI (trKb m9 r L)), .int (nI (trNb m9 r L)), .int (nI L.length), .ref ka1, .ref q100, .ref na1]))) H := hP
        obtain ⟨hv17, ehv17⟩ : ∃ z : qH, z = qs hv16 q10 (.inr (3, [.int (nI (7 - r)), .int (nI e9), .int (nI (trKb m9 r L)), .int (nI (trNb m9 r L)), .int (nI L.length), .ref ka1, .ref q100, .ref na1])) := ⟨_, rfl⟩
        rw [← ehv17] at hP
        have khv17 : ∀ b o, b ≠ q10 → hv16 b = some o → hv17 b = some o := by rw [ehv17]; exact fun b o nb hb => (qs_ne nb).trans hb
        replace f1 := khv17 _ _ n_q10_a f1
        replace fk1 := khv17 _ _ n_q10_ka1 fk1
        replace fv1 := khv17 _ _ n_q10_va1 fv1
        replace fn1 := khv17 _ _ n_q10_na1 fn1
        replace fq100 := khv17 _ _ n_q100_q10.symm fq100
        replace fq10 : hv17 q10 = some (.inr (3, [.int (nI (7 - r)), .int (nI e9), .int (nI (trKb m9 r L)), .int (nI (trNb m9 r L)), .int (nI L.length), .ref ka1, .ref q100, .ref na1])) := by rw [ehv17]; exact qs_self
        clear ehv17
        replace fr : ∀ b o, h b = some o → hv17 b = some o := fun b o hb => khv17 b o (qne_of oq10 hb) (fr b o hb )
        replace fd : ∀ b o, h b = some o → ∃ o', hv17 b = some o' := fun b o hb => (fd b o hb).elim (fun o9 h9 => ⟨o9, khv17 b o9 (qne_of oq10 hb) h9⟩)
        refine lv_aload_n hx hb dX3_ownedBy_109 rfl (lv_at hl 0 rfl) ?_
        have hle9 : qle h hv17 := fr
        have hm1 := hn1.2.2.2.2.2.2
        have hnd : thNd cy hv17 Im e9 Ok m9 r q10 L L.length (fun b => X b ∨ b = q10 ∨ b = q100) e9 ka1 q100 na1 C1 := by
          refine ⟨fq10, by rw [thJ, List.length_map]; exact fk1, by rw [thJ, List.length_map]; exact fq100, fn1, hn1.2.2.2.2.1, he9, Or.inl ⟨rfl, Or.inr (Or.inl rfl), (fun _ => Or.inr (Or.inr (rfl))), (fun z => absurd (by rw [z]; rfl) c86), (fun z => absurd (List.eq_nil_of_length_eq_zero c24) z), (fun _ => ?_)⟩⟩
          · rcases hm1 with ⟨-, -, -, -, -, y⟩ | ⟨-, -, -, y⟩
            · exact y (List.eq_nil_of_length_eq_zero c24)
            · exact y
        have hap : ∀ b, Im b ∨ X b → b ≠ q10 ∧ b ≠ q100 := fun b z => by obtain ⟨o, ho⟩ := hEd b z; exact ⟨qne_of oq10 ho, qne_of oq100 ho⟩
        have hxs : thXs (trM m9 r L).length q10 q100 na1 (fun b => X b ∨ b = q10 ∨ b = q100) Xs1 := by
          refine ⟨fun j hj b z9 => ?_, hx1.2⟩
          obtain ⟨z, z2, z3, z4⟩ := hx1.1 j hj b z9
          exact ⟨Or.inl z, (hap b (Or.inr z)).1, (hap b (Or.inr z)).2, z4⟩
        have hkk : ∀ j v, (trM m9 r L)[j]? = some v → ∃ r', r = r' + 1 ∧ qTr cy hv17 Im e9 Ok m9 r' (C1 j) (thK m9 (6 - r') v L) (Xs1 j) := fun j v z => by obtain ⟨r9, e1, t9⟩ := hk1 j v z; exact ⟨r9, e1, t9.keep (fun b o hb _ => hle9 b o hb) (fun _ z => z)⟩
        have hed : qEd cy hv17 Im (fun b => X b ∨ b = q10 ∨ b = q100) := by
          refine ⟨fun b z hi => ?_, fun b z => ?_, hle9 _ _ hE9, hEi⟩
          · rcases z with z | z
            · exact hEx b z hi
            · have := hap b (Or.inl hi)
              rcases z with z | z <;> simp_all
          · rcases z with z | z | z
            · obtain ⟨o, ho⟩ := hEd b (Or.inl z); exact ⟨o, hle9 b o ho⟩
            · obtain ⟨o, ho⟩ := hEd b (Or.inr z); exact ⟨o, hle9 b o ho⟩
            · rcases z with rfl | rfl
              · exact ⟨_, fq10⟩
              · exact ⟨_, fq100⟩
        have hch : qCh h Im X hv17 Im (fun b => X b ∨ b = q10 ∨ b = q100) := ⟨fun b o hb _ => hle9 b o hb, fun _ z => z, fun _ z => Or.inl z, fun b z => z.imp_right (fun z => by rcases z with rfl | rfl <;> assumption), fd⟩
        exact q_aret (v := some q10) C (Or.inl ⟨_, rfl⟩) hP hS ⟨q10, ka1, q100, na1, C1, Xs1, (fun b => X b ∨ b = q10 ∨ b = q100), rfl, hle9, ⟨hnd, hxs, hkk⟩, hed, hch⟩ (by omega) dX3_ownedBy_110
      · replace c86 : ((trK m9 r L).length) = 0 := (nI_eq (a := (trK m9 r L).length) (b := 0) (by omega) (by omega)).mp c86
        refine lv_aload_n hx hb dX3_ownedBy_89 rfl (lv_at hl 1 rfl) ?_
        refine q_get C hP f1 rfl inX3 6 (by decide) g367 rfl dX3_ownedBy_90 ?_
        refine lv_goto (tgt := 106) hx hb dX3_ownedBy_93 (by decide) ?_
        refine q_put C hP hS fq10 rfl inX3 tyX3 tyX3_ok nmX3 6 (by decide) g367 rfl rfl rfl (Nat.le_of_ble_eq_true rfl) dX3_ownedBy_106 (fun H locs hP hS => ?_)
        replace hP : qP D N0 (qs hv15 q10 (.inr (3, [.int (nI (7 - r)), .int (nI e9), .int (nI (trKb m9 r L)), .int (nI (trNb m9 r L)), .int (nI L.length), .ref ka1, .ref va1, .ref na1]))) H := hP
        obtain ⟨hv18, ehv18⟩ : ∃ z : qH, z = qs hv15 q10 (.inr (3, [.int (nI (7 - r)), .int (nI e9), .int (nI (trKb m9 r L)), .int (nI (trNb m9 r L)), .int (nI L.length), .ref ka1, .ref va1, .ref na1])) := ⟨_, rfl⟩
        rw [← ehv18] at hP
        have khv18 : ∀ b o, b ≠ q10 → hv15 b = some o → hv18 b = some o := by rw [ehv18]; exact fun b o nb hb => (qs_ne nb).trans hb
        replace f1 := khv18 _ _ n_q10_a f1
        replace fk1 := khv18 _ _ n_q10_ka1 fk1
        replace fv1 := khv18 _ _ n_q10_va1 fv1
        replace fn1 := khv18 _ _ n_q10_na1 fn1
        replace fq10 : hv18 q10 = some (.inr (3, [.int (nI (7 - r)), .int (nI e9), .int (nI (trKb m9 r L)), .int (nI (trNb m9 r L)), .int (nI L.length), .ref ka1, .ref va1, .ref na1])) := by rw [ehv18]; exact qs_self
        clear ehv18
        replace fr : ∀ b o, h b = some o → hv18 b = some o := fun b o hb => khv18 b o (qne_of oq10 hb) (fr b o hb )
        replace fd : ∀ b o, h b = some o → ∃ o', hv18 b = some o' := fun b o hb => (fd b o hb).elim (fun o9 h9 => ⟨o9, khv18 b o9 (qne_of oq10 hb) h9⟩)
        refine lv_aload_n hx hb dX3_ownedBy_109 rfl (lv_at hl 0 rfl) ?_
        have hle9 : qle h hv18 := fr
        have hm1 := hn1.2.2.2.2.2.2
        have hnd : thNd cy hv18 Im e9 Ok m9 r q10 L L.length (fun b => X b ∨ b = q10) e9 ka1 va1 na1 C1 := by
          refine ⟨fq10, by rw [thJ, List.length_map]; exact fk1, by rw [thJ, List.length_map]; exact fv1, fn1, hn1.2.2.2.2.1, he9, Or.inl ⟨rfl, Or.inr (rfl), (fun z => absurd (List.eq_nil_of_length_eq_zero c86) z), (fun _ => ?_), (fun z => absurd (List.eq_nil_of_length_eq_zero c24) z), (fun _ => ?_)⟩⟩
          · rcases hm1 with ⟨-, -, -, y, -, -⟩ | ⟨-, -, y, -⟩
            · exact y (List.eq_nil_of_length_eq_zero c86)
            · exact y
          · rcases hm1 with ⟨-, -, -, -, -, y⟩ | ⟨-, -, -, y⟩
            · exact y (List.eq_nil_of_length_eq_zero c24)
            · exact y
        have hap : ∀ b, Im b ∨ X b → b ≠ q10 := fun b z => by obtain ⟨o, ho⟩ := hEd b z; exact qne_of oq10 ho
        have hxs : thXs (trM m9 r L).length q10 va1 na1 (fun b => X b ∨ b = q10) Xs1 := by
          refine ⟨fun j hj b z9 => ?_, hx1.2⟩
          obtain ⟨z, z2, z3, z4⟩ := hx1.1 j hj b z9
          exact ⟨Or.inl z, (hap b (Or.inr z)), z3, z4⟩
        have hkk : ∀ j v, (trM m9 r L)[j]? = some v → ∃ r', r = r' + 1 ∧ qTr cy hv18 Im e9 Ok m9 r' (C1 j) (thK m9 (6 - r') v L) (Xs1 j) := fun j v z => by obtain ⟨r9, e1, t9⟩ := hk1 j v z; exact ⟨r9, e1, t9.keep (fun b o hb _ => hle9 b o hb) (fun _ z => z)⟩
        have hed : qEd cy hv18 Im (fun b => X b ∨ b = q10) := by
          refine ⟨fun b z hi => ?_, fun b z => ?_, hle9 _ _ hE9, hEi⟩
          · rcases z with z | z
            · exact hEx b z hi
            · have := hap b (Or.inl hi)
              exact this z
          · rcases z with z | z | z
            · obtain ⟨o, ho⟩ := hEd b (Or.inl z); exact ⟨o, hle9 b o ho⟩
            · obtain ⟨o, ho⟩ := hEd b (Or.inr z); exact ⟨o, hle9 b o ho⟩
            · exact ⟨_, by rw [z]; exact fq10⟩
        have hch : qCh h Im X hv18 Im (fun b => X b ∨ b = q10) := ⟨fun b o hb _ => hle9 b o hb, fun _ z => z, fun _ z => Or.inl z, fun b z => z.imp_right (fun z => by subst z; assumption), fd⟩
        exact q_aret (v := some q10) C (Or.inl ⟨_, rfl⟩) hP hS ⟨q10, ka1, va1, na1, C1, Xs1, (fun b => X b ∨ b = q10), rfl, hle9, ⟨hnd, hxs, hkk⟩, hed, hch⟩ (by omega) dX3_ownedBy_110
  · replace c5 : ow1 = e9 := (nI_eq (a := ow1) (b := e9) (by omega) (by omega)).mp c5
    refine lv_aload_n hx hb dX3_ownedBy_8 rfl (lv_at hl 0 rfl) ?_
    subst c5
    exact q_aret (v := some a) C (Or.inl ⟨_, rfl⟩) hP hS ⟨a, ka1, va1, na1, C1, Xs1, X, rfl, qle_rf, ⟨hn1, hx1, hk1⟩, hE0, qCh.rf⟩ (by omega) dX3_ownedBy_9
