section ZBS
variable {cy : Nat → ClassId} {h h' : qH} {x sl bl kr vr E E' : Nat} {mk : Int32} {fs : Nat → Option Nat} {bd br eb eb' : Nat → Nat} {Im Im' : Nat → Prop} {Xb Xb' : Nat → Nat → Prop} {g : Nat → Nat} {S S' : Nat → qSlot} {W : qWo}
/-- a step of one builder -/
theorem zQ.bst (q : zQ cy h x mk sl bl kr vr E fs bd br eb Im Xb g S W) {b : Nat} (hb : b < 4) (hw : zW h' x mk sl bl kr vr (nI E') g (xRs S') W) (fr : ∀ z o, h z = some o → z ≠ bd b → z ≠ br b → ¬ Xb b z → z ≠ x → h' z = some o) (hE : E' < 1000) (hsl : ∀ i, i < 24 → S' i = S i)
    (hS : ∀ c, c < 4 → c ≠ b → S' (24 + c) = S (24 + c) ∧ eb' c = eb c ∧ Xb' c = Xb c) (hok : ∀ o, zOk E eb S o → zOk E' eb' S' o) (i1 : ∀ z, Im z → Im' z) (i2 : ∀ z, Im' z ∨ Xb' b z → Im z ∨ Xb b z ∨ h z = none) (i3 : ∀ z, Im' z ∨ Xb' b z → ∀ ci fv, h' z = some (.inr (ci, fv)) → ci = 3) (hed : qEd cy h' Im' (Xb' b))
    (hbu : zBu cy h' Im' (zOk E' eb' S') mk (S' (24 + b)) (bd b) (br b) (eb' b) (Xb' b)) (h5 : ∀ c, c < 4 → ((S' (24 + c)).1 = 1 ∨ (S' (24 + c)).1 = 2) → eb' c ≤ E' ∧ ∀ d, d < 4 → ((S' (24 + d)).1 = 1 ∨ (S' (24 + d)).1 = 2) → eb' c = eb' d → c = d) : zQ cy h' x mk sl bl kr vr E' fs bd br eb' Im' Xb' g S' W := by
  have kx := q.kx
  obtain ⟨q1, ⟨a1, ⟨q9, a2, a3⟩, ⟨f1, a4⟩, f2, a5⟩, q3, q4, s1, s2, s3, s4, s5, s6⟩ := q
  obtain ⟨op, kd, ln, ed, rt, f, b1, b2, -⟩ := q4 b hb
  have nx : ∀ {z : Nat} {o : va_E}, h z = some o → (∀ fv, o ≠ .inr (6, fv)) → z ≠ x := fun {z o} e n y => by rw [y, q1.1] at e; exact n _ (Option.some.inj e).symm
  have nd : ∀ {z : Nat} {o : va_E}, h z = some o → (∀ fv, o ≠ .inr (1, fv)) → z ≠ bd b := fun {z o} e n y => by rw [y, b1] at e; exact n _ (Option.some.inj e).symm
  have nr : ∀ {z : Nat} {o : va_E}, h z = some o → (∀ f, o ≠ .inl (cy 1, 1000, .inr (.inl f))) → z ≠ br b := fun {z o} e n y => by rw [y, b2] at e; exact n _ (Option.some.inj e).symm
  have nX : ∀ {z ci : Nat} {fv : List Value}, h z = some (.inr (ci, fv)) → ci ≠ 3 → ¬ Xb b z := fun {z ci fv} e n y => n ((s2 z (Or.inr ⟨b, hb, y⟩)).2.2.2.2.2.2 ci fv e)
  have sX := fun {z : Nat} (y : Xb b z) => s2 z (Or.inr ⟨b, hb, y⟩)
  have ko : ∀ {z ci : Nat} {fv : List Value}, h z = some (.inr (ci, fv)) → ci ≠ 1 → ci ≠ 3 → ci ≠ 6 → h' z = some (.inr (ci, fv)) := fun {z ci fv} e n1 n3 n6 => fr z _ e (nd e (fun fv y => by simp at y; exact n1 y.1)) (nr e (fun f y => by cases y)) (nX e n3) (nx e (fun fv y => by simp at y; exact n6 y.1))
  have kI : ∀ {z : Nat} {o : va_E}, h z = some o → Im z → h' z = some o := fun {z o} e y => by
    obtain ⟨t1, t2, t3, t4, t5, t6, t7⟩ := s2 z (Or.inl y)
    exact fr z o e (t6 b hb).1 (t6 b hb).2 (fun w => (s4 b hb).1 z w y) t1
  have kX : ∀ {c z : Nat} {o : va_E}, c < 4 → c ≠ b → h z = some o → Xb c z → h' z = some o := fun {c z o} hc n e y => by
    obtain ⟨t1, t2, t3, t4, t5, t6, t7⟩ := s2 z (Or.inr ⟨c, hc, y⟩)
    exact fr z o e (t6 b hb).1 (t6 b hb).2 (fun w => s3 c b hc hb n z y w) t1
  have ka : ∀ {z : Nat} {c : ClassId} {n : Nat} {f : Nat → Option Nat}, h z = some (.inl (c, n, .inr (.inr (.inr (.inr f))))) → ¬ Xb b z → h' z = some (.inl (c, n, .inr (.inr (.inr (.inr f))))) := fun {z c n f} e nX => fr z _ e (nd e (fun fv y => by cases y)) (nr e (fun f y => by simp at y)) nX (nx e (fun fv y => by cases y))
  refine ⟨hw, ⟨ka a1 (fun y => (sX y).2.1 rfl), ⟨q9, ka a2 (fun y => (sX y).2.2.1 rfl), a3⟩, ⟨f1, fr _ _ a4 (nd a4 (fun fv y => by cases y)) (fun y => (s1.2.2.1 b hb).1 y.symm) (fun y => (sX y).2.2.2.1 rfl) (nx a4 (fun fv y => by cases y))⟩, f2, fr _ _ a5 (nd a5 (fun fv y => by cases y)) (fun y => (s1.2.2.1 b hb).2 y.symm) (fun y => (sX y).2.2.2.2.1 rfl) (nx a5 (fun fv y => by cases y))⟩, fun i hi => ?_, fun c hc => ?_, s1, fun z hz => ?_, fun c d hc hd n z hz hy => ?_, fun c hc => ?_, h5, hE⟩
  · rw [hsl i hi]
    exact ((q3 i hi).keep (fun z ci fv e y => ko e (by rcases y with rfl | rfl | rfl <;> decide) (by rcases y with rfl | rfl | rfl <;> decide) (by rcases y with rfl | rfl | rfl <;> decide)) (fun z o e y => kI e y) (fun _ => rfl)).ok hok i1
  · by_cases n : c = b
    · subst n; exact hbu
    · obtain ⟨e1, e2, e3⟩ := hS c hc n
      rw [e1, e2, e3]
      obtain ⟨op2, kd2, ln2, ed2, rt2, f2, c1, c2, -⟩ := q4 c hc
      refine ((q4 c hc).keep (fun o e => ?_) (fun o e => ?_) (fun z o e y => y.elim (kI e) (kX hc n e))).ok hok i1
      · rw [c1] at e; cases e
        exact fr _ _ c1 (fun y => n (((s1.2.2.2 c b hc hb).2) y)) (nr c1 (fun f y => by cases y)) (nX c1 (by decide)) (nx c1 (fun fv y => by simp at y))
      · rw [c2] at e; cases e
        exact fr _ _ c2 (nd c2 (fun fv y => by cases y)) (fun y => n (((s1.2.2.2 c b hc hb).1) y)) (fun y => ((sX y).2.2.2.2.2.1 c hc).2 rfl) (nx c2 (fun fv y => by cases y))
  · have old : ∀ {z : Nat}, Im z ∨ Xb b z ∨ h z = none → z ≠ x ∧ z ≠ sl ∧ z ≠ bl ∧ z ≠ kr ∧ z ≠ vr ∧ (∀ b, b < 4 → z ≠ bd b ∧ z ≠ br b) := fun {z} y => by
      rcases y with y | y | y
      · obtain ⟨t1, t2, t3, t4, t5, t6, t7⟩ := s2 z (Or.inl y); exact ⟨t1, t2, t3, t4, t5, t6⟩
      · obtain ⟨t1, t2, t3, t4, t5, t6, t7⟩ := sX y; exact ⟨t1, t2, t3, t4, t5, t6⟩
      · obtain ⟨t1, t2, t3, t4, t5, t6, t7⟩ := kx z y; exact ⟨t1, t2, t3, t4, t5, t6⟩
    have mine : Im' z ∨ Xb' b z → z ≠ x ∧ z ≠ sl ∧ z ≠ bl ∧ z ≠ kr ∧ z ≠ vr ∧ (∀ b, b < 4 → z ≠ bd b ∧ z ≠ br b) ∧ ∀ ci fs, h' z = some (.inr (ci, fs)) → ci = 3 := fun y => by
      obtain ⟨t1, t2, t3, t4, t5, t6⟩ := old (i2 z y); exact ⟨t1, t2, t3, t4, t5, t6, i3 z y⟩
    rcases hz with y | ⟨c, hc, y⟩
    · exact mine (Or.inl y)
    · by_cases n : c = b
      · subst n; exact mine (Or.inr y)
      · rw [(hS c hc n).2.2] at y
        obtain ⟨t1, t2, t3, t4, t5, t6, t7⟩ := s2 z (Or.inr ⟨c, hc, y⟩)
        refine ⟨t1, t2, t3, t4, t5, t6, fun ci fv e => ?_⟩
        obtain ⟨o9, ho9⟩ := (s4 c hc).2.1 z (Or.inr y)
        have := kX hc n ho9 y
        rw [e] at this; cases this
        exact t7 ci fv ho9
  · have key : ∀ {d : Nat}, d < 4 → d ≠ b → ∀ z, Xb' b z → ¬ Xb d z := fun {d} hd n z y w => by
      rcases i2 z (Or.inr y) with v | v | v
      · exact (s4 d hd).1 z w v
      · exact s3 d b hd hb n z w v
      · obtain ⟨o9, ho9⟩ := (s4 d hd).2.1 z (Or.inr w); rw [v] at ho9; cases ho9
    by_cases nc : c = b
    · subst nc
      rw [(hS d hd (fun y => n y.symm)).2.2] at hy
      exact key hd (fun y => n y.symm) z hz hy
    · rw [(hS c hc nc).2.2] at hz
      by_cases nd2 : d = b
      · subst nd2; exact key hc nc z hy hz
      · rw [(hS d hd nd2).2.2] at hy
        exact s3 c d hc hd n z hz hy
  · by_cases n : c = b
    · subst n; exact hed
    · rw [(hS c hc n).2.2]
      refine ⟨fun z hz y => ?_, fun z hz => ?_, hed.2.2.1, hed.2.2.2⟩
      · rcases i2 z (Or.inl y) with v | v | v
        · exact (s4 c hc).1 z hz v
        · exact s3 c b hc hb n z hz v
        · obtain ⟨o9, ho9⟩ := (s4 c hc).2.1 z (Or.inr hz); rw [v] at ho9; cases ho9
      · rcases hz with y | y
        · exact hed.2.1 z (Or.inl y)
        · obtain ⟨o9, ho9⟩ := (s4 c hc).2.1 z (Or.inr y); exact ⟨o9, kX hc n ho9 y⟩
/-- how a step of a builder ends a call -/
theorem zQ.pob (q' : zQ cy h' x mk sl bl kr vr E' fs bd br eb' Im' Xb' g S' W) {b : Nat} (hb : b < 4) (fr : ∀ z o, h z = some o → z ≠ bd b → z ≠ br b → ¬ Xb b z → z ≠ x → h' z = some o) (fd : ∀ z, h' z = none → h z = none) (hE : E' ≤ E + 1) (hX : ∀ c, c < 4 → c ≠ b → Xb' c = Xb c) (i1 : ∀ z, Im z → Im' z) (i2 : ∀ z, Im' z ∨ Xb' b z → Im z ∨ Xb b z ∨ h z = none) : zPo cy h x mk sl bl kr vr E bd br Im Xb S' W h' := by
  refine ⟨E', fs, eb', Im', Xb', g, hE, q', ⟨fun z o e n => fr z o e (fun y => n ?_) (fun y => n ?_) (fun y => n ?_) (fun y => n (Or.inl y)), fd⟩, fun c hc z hz => ?_, fun z hz => ?_⟩
  · exact Or.inr (Or.inr (Or.inr (Or.inr (Or.inl ⟨b, hb, Or.inl y⟩))))
  · exact Or.inr (Or.inr (Or.inr (Or.inr (Or.inl ⟨b, hb, Or.inr (Or.inl y)⟩))))
  · exact Or.inr (Or.inr (Or.inr (Or.inr (Or.inl ⟨b, hb, Or.inr (Or.inr y)⟩))))
  · by_cases n : c = b
    · subst n
      rcases i2 z (Or.inr hz) with v | v | v
      · exact absurd (i1 z v) ((q'.2.2.2.2.2.2.2.1 c hc).1 z hz)
      · exact Or.inl v
      · exact Or.inr v
    · rw [hX c hc n] at hz; exact Or.inl hz
  · rcases i2 z (Or.inl hz) with v | v | v
    · exact Or.inl (Or.inl v)
    · exact Or.inl (Or.inr ⟨b, hb, v⟩)
    · exact Or.inr v
end ZBS
theorem dX6_needPlace_0 : decode cX6_needPlace 0 = .ok (.lload_n 1, 1) := by decide +kernel
theorem dX6_needPlace_1 : decode cX6_needPlace 1 = .ok (.lconst 0, 1) := by decide +kernel
theorem dX6_needPlace_2 : decode cX6_needPlace 2 = .ok (.lcmp, 1) := by decide +kernel
theorem dX6_needPlace_3 : decode cX6_needPlace 3 = .ok (.ifCond .lt 17, 3) := by decide +kernel
theorem dX6_needPlace_6 : decode cX6_needPlace 6 = .ok (.lload_n 1, 1) := by decide +kernel
theorem dX6_needPlace_7 : decode cX6_needPlace 7 = .ok (.aload_n 0, 1) := by decide +kernel
theorem dX6_needPlace_8 : decode cX6_needPlace 8 = .ok (.getfield 386, 3) := by decide +kernel
theorem dX6_needPlace_11 : decode cX6_needPlace 11 = .ok (.i2l, 1) := by decide +kernel
theorem dX6_needPlace_12 : decode cX6_needPlace 12 = .ok (.lcmp, 1) := by decide +kernel
theorem dX6_needPlace_13 : decode cX6_needPlace 13 = .ok (.ifCond .ge 7, 3) := by decide +kernel
theorem dX6_needPlace_16 : decode cX6_needPlace 16 = .ok (.iconst 1, 1) := by decide +kernel
theorem dX6_needPlace_17 : decode cX6_needPlace 17 = .ok (.goto 4, 3) := by decide +kernel
theorem dX6_needPlace_20 : decode cX6_needPlace 20 = .ok (.iconst 0, 1) := by decide +kernel
theorem dX6_needPlace_21 : decode cX6_needPlace 21 = .ok (.invokestatic 169, 3) := by decide +kernel
theorem dX6_needPlace_24 : decode cX6_needPlace 24 = .ok (.lload_n 1, 1) := by decide +kernel
theorem dX6_needPlace_25 : decode cX6_needPlace 25 = .ok (.l2i, 1) := by decide +kernel
theorem dX6_needPlace_26 : decode cX6_needPlace 26 = .ok (.ireturn, 1) := by decide +kernel
set_option maxRecDepth 100000 in
set_option maxHeartbeats 4000000 in
theorem z_needPlace (l : Launch) (D : va_G) (cy : Nat → ClassId) (N0 : Nat) (h : qH) (b : Nat) (rwv : Value) (io kd : Int32) (rtv : Value) (e2 : Int32) (n : Nat) (i0 : Int64) (hB : h b = some (.inr (1, [rwv, .int io, .int kd, .int (nI n), rtv, .int e2]))) (hn : n ≤ 1000) : qC l D cy N0 yX6_needPlace cX6_needPlace 3 (some .int) 9 140 1 6 [.ref b, .long i0] h (fun v h' => ∃ q : Nat, i0.toInt = q ∧ q < n ∧ v = some (.int (nI q)) ∧ h = h') (fun E h' => E = "java/util/NoSuchElementException" ∧ h = h' ∧ ¬ (0 ≤ i0.toInt ∧ i0.toInt < n)) := by
  refine q_ofW (by decide) (by exact Nat.le_of_ble_eq_true rfl) ?_
  intro p e s m below meth c ls C hP hl
  have hx := C.1
  have hb := C.2.1
  have hS : va_S (qA N0) s.heap s.heap [] := va_S.rf
  have hl : lv_has ls 3 [(0, .ref b), (1, .long i0)] := hl
  have el9 := q_i2l (n := n) (by omega)
  refine lv_lload_n hx hb dX6_needPlace_0 rfl (lv_at hl 1 rfl) ?_
  refine lv_lconst (v := 0) hx hb dX6_needPlace_1 (by decide) ?_
  refine W.lcmp hx hb dX6_needPlace_2 ?_
  refine lv_if_lt (tgt := 20) hx hb dX6_needPlace_3 (by decide) (fun c3 => ?_) (fun c3 => ?_)
  · replace c3 : i0.toInt < (0 : Int64).toInt := Int64.lt_iff_toInt_lt.mp ((lg_cmp_lt _ _).mp c3)
    refine lv_iconst (v := nI 0) hx hb dX6_needPlace_20 (by decide) ?_
    refine q_callS (rest := []) C (c_X6_needThere l D cy N0 h (nI 0)) kX6_needThere g598 g599 hP hS (by first | decide | omega) hl.1 rfl (by decide) (by first | decide | omega) dX6_needPlace_21 (fun q ce E h' H1 locs1 hE hP hS hc1 hc2 hc3 => by obtain ⟨rfl, rfl, hn9⟩ := hE; exact q_out C hP hS hc1 hc2 hc3 ⟨rfl, rfl, fun z => by have c3z : (0 : Int64).toInt = 0 := rfl; omega⟩ (by omega)) (fun v hh1 H locs hq hP hS => ?_)
    obtain ⟨rfl, rfl, hz9⟩ := hq
    exact absurd rfl hz9
  · replace c3 : ¬ i0.toInt < (0 : Int64).toInt := fun zq => c3 ((lg_cmp_lt _ _).mpr (Int64.lt_iff_toInt_lt.mpr zq))
    refine lv_lload_n hx hb dX6_needPlace_6 rfl (lv_at hl 1 rfl) ?_
    refine lv_aload_n hx hb dX6_needPlace_7 rfl (lv_at hl 0 rfl) ?_
    refine q_getN C hP hB rfl inX1 3 (by decide) (by decide +kernel) rfl dX6_needPlace_8 ?_
    refine lv_i2l hx hb dX6_needPlace_11 rfl ?_
    refine W.lcmp hx hb dX6_needPlace_12 ?_
    refine lv_if_ge (tgt := 20) hx hb dX6_needPlace_13 (by decide) (fun c13 => ?_) (fun c13 => ?_)
    · replace c13 : (((nI n)).toInt64).toInt ≤ i0.toInt := Int64.le_iff_toInt_le.mp ((lg_cmp_ge _ _).mp c13)
      refine lv_iconst (v := nI 0) hx hb dX6_needPlace_20 (by decide) ?_
      refine q_callS (rest := []) C (c_X6_needThere l D cy N0 h (nI 0)) kX6_needThere g598 g599 hP hS (by first | decide | omega) hl.1 rfl (by decide) (by first | decide | omega) dX6_needPlace_21 (fun q ce E h' H1 locs1 hE hP hS hc1 hc2 hc3 => by obtain ⟨rfl, rfl, hn9⟩ := hE; exact q_out C hP hS hc1 hc2 hc3 ⟨rfl, rfl, fun z => by rw [el9] at c13; omega⟩ (by omega)) (fun v hh2 H locs hq hP hS => ?_)
      obtain ⟨rfl, rfl, hz9⟩ := hq
      exact absurd rfl hz9
    · replace c13 : ¬ (((nI n)).toInt64).toInt ≤ i0.toInt := fun zq => c13 ((lg_cmp_ge _ _).mpr (Int64.le_iff_toInt_le.mpr zq))
      refine lv_iconst (v := nI 1) hx hb dX6_needPlace_16 (by decide) ?_
      refine lv_goto (tgt := 21) hx hb dX6_needPlace_17 (by decide) ?_
      refine q_callS (rest := []) C (c_X6_needThere l D cy N0 h (nI 1)) kX6_needThere g598 g599 hP hS (by first | decide | omega) hl.1 rfl (by decide) (by first | decide | omega) dX6_needPlace_21 (fun q ce E h' H1 locs1 hE hP hS hc1 hc2 hc3 => absurd hE.2.2 (by decide)) (fun v hh3 H locs hq hP hS => ?_)
      obtain ⟨rfl, rfl, hz9⟩ := hq
      refine lv_lload_n hx hb dX6_needPlace_24 rfl (lv_at hl 1 rfl) ?_
      have c3z : (0 : Int64).toInt = 0 := rfl
      rw [el9] at c13
      obtain ⟨q7, eq7⟩ : ∃ q7 : Nat, i0.toInt = q7 := ⟨i0.toInt.toNat, by omega⟩
      refine lv_l2i hx hb dX6_needPlace_25 rfl ?_
      rw [q_l2i eq7 (by omega)]
      exact q_iret C hP hS ⟨q7, eq7, by omega, rfl, rfl⟩ (by omega) dX6_needPlace_26
theorem dX6_look_10 : decode cX6_look 10 = .ok (.astore 4, 2) := by decide +kernel
theorem dX6_look_12 : decode cX6_look 12 = .ok (.aload 4, 2) := by decide +kernel
theorem dX6_look_14 : decode cX6_look 14 = .ok (.getfield 334, 3) := by decide +kernel
theorem dX6_look_17 : decode cX6_look 17 = .ok (.ifCond .ne 16, 3) := by decide +kernel
theorem dX6_look_20 : decode cX6_look 20 = .ok (.aload 4, 2) := by decide +kernel
theorem dX6_look_22 : decode cX6_look 22 = .ok (.getfield 343, 3) := by decide +kernel
theorem dX6_look_25 : decode cX6_look 25 = .ok (.aload 4, 2) := by decide +kernel
theorem dX6_look_27 : decode cX6_look 27 = .ok (.lload_n 2, 1) := by decide +kernel
theorem dX6_look_28 : decode cX6_look 28 = .ok (.invokestatic 346, 3) := by decide +kernel
theorem dX6_look_31 : decode cX6_look 31 = .ok (.laload, 1) := by decide +kernel
theorem dX6_look_32 : decode cX6_look 32 = .ok (.lreturn, 1) := by decide +kernel
theorem dX6_look_33 : decode cX6_look 33 = .ok (.aload_n 0, 1) := by decide +kernel
theorem dX6_look_34 : decode cX6_look 34 = .ok (.aload 4, 2) := by decide +kernel
theorem dX6_look_36 : decode cX6_look 36 = .ok (.getfield 350, 3) := by decide +kernel
theorem dX6_look_39 : decode cX6_look 39 = .ok (.lload_n 2, 1) := by decide +kernel
theorem dX6_look_40 : decode cX6_look 40 = .ok (.invokevirtual 201, 3) := by decide +kernel
theorem dX6_look_43 : decode cX6_look 43 = .ok (.lreturn, 1) := by decide +kernel
set_option maxRecDepth 100000 in
set_option maxHeartbeats 4000000 in
theorem z_look (l : Launch) (D : va_G) (cy : Nat → ClassId) (N0 : Nat) (h : qH) (x : Nat) (mk : Int32) (sl bl kr vr Ed : Nat) (fs : Nat → Option Nat) (bd br eb : Nat → Nat) (Im : Nat → Prop) (Xb : Nat → Nat → Prop) (g : Nat → Nat) (S : Nat → qSlot) (W : qWo) (Bd sk Rn : Nat) (dp : Nat → Nat) (p0 : Int32) (p1 : Int64) (hz : zQ cy h x mk sl bl kr vr Ed fs bd br eb Im Xb g S W) (hI : ∀ i, i < 28 → qOk (S i).1 (S i).2.1) (hLn : ∀ i, i < 28 → (S i).2.1.length ≤ 1000) (hV : qWv Bd sk Rn dp W) : qC l D cy N0 yX6_look cX6_look 5 (some .long) 14 260 12 60 [.ref x, .int p0, .long p1] h (fun v h' => (xs_look S p0 p1).1 = 0 ∧ v = some (.long (xs_look S p0 p1).2) ∧ zPo cy h x mk sl bl kr vr Ed bd br Im Xb S W h') (fun E h' => zXc [(1, "java/lang/IllegalArgumentException"), (2, "java/lang/IllegalStateException"), (3, "java/util/NoSuchElementException")] E (xs_look S p0 p1).1 ∧ zPo cy h x mk sl bl kr vr Ed bd br Im Xb S W h') := by
  refine q_ofW (by decide) (by exact Nat.le_of_ble_eq_true rfl) ?_
  intro p e s m below meth c ls C hP hl
  have hx := C.1
  have hb := C.2.1
  have hS : va_S (qA N0) s.heap s.heap [] := va_S.rf
  have hl : lv_has ls 5 [(0, .ref x), (1, .int p0), (2, .long p1)] := hl
  have hf : zFr h h x sl kr vr bd br Xb := zFr.rf
  refine lv_iload_n hx hb dX6_look_0 rfl (lv_at hl 1 rfl) ?_
  refine lv_iconst (v := nI 3) hx hb dX6_look_1 (by decide) ?_
  refine q_callS (rest := []) C (c_X6_needWithin l D cy N0 h p0 3) kX6_needWithin g107 g108 hP hS (by first | decide | omega) hl.1 rfl (by decide) (by first | decide | omega) dX6_look_2 (fun q ce E h' H1 locs1 hE hP hS hc1 hc2 hc3 => by obtain ⟨rfl, rfl, hn9⟩ := hE; exact q_out C hP hS hc1 hc2 hc3 (by have ex : (xs_look S p0 p1) = (1, 0) := (by unfold xs_look; rw [if_pos (bB3_f (fun z => hn9.elim z.1 (fun y => y z.2)))]); exact ⟨by rw [ex]; exact .head _, by exact hz.po hf⟩) (by omega)) (fun v hh1 H locs hq hP hS => ?_)
  obtain ⟨rfl, rfl, gw1, gw2⟩ := hq
  obtain ⟨bb, hbb, rfl⟩ := nI_of2 (M := 3) (n := 3) (by decide) gw1 gw2
  have ebb : bB3 (nI bb) = true := bB3_t ⟨gw1, gw2⟩
  have ecb : (nI bb).toNatClampNeg = bb := nI_clamp (by omega)
  refine lv_aload_n hx hb dX6_look_5 rfl (lv_at hl 0 rfl) ?_
  refine lv_iload_n hx hb dX6_look_6 rfl (lv_at hl 1 rfl) ?_
  obtain ⟨q9, hbl, hqb⟩ := hz.2.1.2.1
  obtain ⟨op, kd, ln, ed9, rt, fb, fbo, fbr, hbc⟩ := hz.2.2.2.1 bb (by omega)
  obtain ⟨ab, eab⟩ : ∃ z, bd bb = z := ⟨_, rfl⟩
  obtain ⟨rb, erb⟩ : ∃ z, br bb = z := ⟨_, rfl⟩
  rw [eab, erb] at fbo
  rw [erb] at fbr
  refine q_callV (rest := []) C (c_X6_openBuilder l D cy N0 h x sl bl kr vr mk (oCq W.1) (oMq W.1) (nI Ed) fs q9 bb ab rb op kd ln ed9 rt hz.1.1 hz.2.1.1 hbl (by omega) ⟨by rw [hqb bb (by omega), eab], fbo⟩) kX6_openBuilder g1015 g1017 rfl gp31 g1 hP hS hz.1.1 (by first | decide | omega) hl.1 rfl (by decide) (by first | decide | omega) dX6_look_7 (fun q ce E h' H1 locs1 hE hP hS hc1 hc2 hc3 => by obtain ⟨rfl, rfl, hop⟩ := hE; have hlt : (S (24 + bb)).1 < 0 := hbc.elim (fun z => by rw [z.1]; decide) (fun z => absurd (z.1.symm.trans hop) (by decide)); exact q_out C hP hS hc1 hc2 hc3 (by have ex : (xs_look S (nI bb) p1) = (2, 0) := (by unfold xs_look; rw [if_neg (by rw [ebb]; decide), ecb, if_pos hlt]); exact ⟨by rw [ex]; exact .tail _ (.head _), by exact hz.po hf⟩) (by omega)) (fun v hh2 H locs hq hP hS => ?_)
  obtain ⟨rfl, rfl, hop⟩ := hq
  rcases hbc with ⟨-, z, -⟩ | ⟨rfl, ekd, eed, hbc⟩
  · exact absurd z hop
  rcases hbc with ⟨hk9, rfl, hrow, hnx⟩ | ⟨hk9, rfl, hRb⟩
  · have hlb := hLn (24 + bb) (by omega)
    obtain rfl : kd = nI 0 := ekd.trans hk9
    have hlt : ¬ (S (24 + bb)).1 < 0 := by rw [hk9]; decide
    refine lv_astore (lv' := [(4, .ref ab), (0, .ref x), (1, .int (nI bb)), (2, .long p1)]) hx hb dX6_look_10 hl (by decide) rfl (fun ls hl => ?_)
    refine lv_aload hx hb dX6_look_12 (lv_at hl 0 rfl) ?_
    refine q_getN C hP fbo rfl inX1 2 (by decide) (by decide +kernel) rfl dX6_look_14 ?_
    refine lv_if_ne (tgt := 33) hx hb dX6_look_17 (by decide) (fun c17 => ?_) (fun c17 => ?_)
    · replace c17 : ¬ 0 = 0 := fun zq => c17 ((nI_eq (a := 0) (b := 0) (by omega) (by omega)).mpr zq)
      exfalso; omega
    · replace c17 : 0 = 0 := (nI_eq (a := 0) (b := 0) (by omega) (by omega)).mp c17
      refine lv_aload hx hb dX6_look_20 (lv_at hl 0 rfl) ?_
      refine q_getN C hP fbo rfl inX1 0 (by decide) (by decide +kernel) rfl dX6_look_22 ?_
      refine lv_aload hx hb dX6_look_25 (lv_at hl 0 rfl) ?_
      refine lv_lload_n hx hb dX6_look_27 rfl (lv_at hl 3 rfl) ?_
      refine q_callS (rest := [.ref rb]) C (z_needPlace l D cy N0 h ab (.ref rb) 1 (nI 0) (va_rf rt) ed9 (S (24 + bb)).2.1.length p1 fbo (by omega)) kX6_needPlace g1024 g1025 hP hS (by first | decide | omega) hl.1 rfl (by simp [q_catrf, q_cati, q_catl, q_cata, q_catn]) (by first | decide | omega) dX6_look_28 (fun q ce E h' H1 locs1 hE hP hS hc1 hc2 hc3 => by obtain ⟨rfl, rfl, hn9⟩ := hE; exact q_out C hP hS hc1 hc2 hc3 (by have ex : (xs_look S (nI bb) p1) = (3, 0) := (by unfold xs_look; rw [if_neg (by rw [ebb]; decide), ecb, if_neg hlt, if_pos hk9, if_neg hn9]); exact ⟨by rw [ex]; exact .tail _ (.tail _ (.head _)), by exact hz.po hf⟩) (by omega)) (fun v hh3 H locs hq hP hS => ?_)
      obtain ⟨q7, eq7, hq7, rfl, rfl⟩ := hq
      refine q_laldN C hP fbr (by omega) (by omega) dX6_look_31 ?_
      have ex : (xs_look S (nI bb) p1) = (0, fb q7) := by unfold xs_look; rw [if_neg (by rw [ebb]; decide), ecb, if_neg hlt, if_pos hk9, if_pos ⟨by omega, by omega⟩, eq7, show ((q7 : Int)).toNat = q7 from rfl, List.getD_eq_getElem?_getD, hrow q7 hq7]; rfl
      exact q_lret C hP hS ⟨by rw [ex], by first | (rw [ex]; done) | (rw [ex]), hz.po hf⟩ (by omega) dX6_look_32
  · have hlb := hLn (24 + bb) (by omega)
    have hlt : ¬ (S (24 + bb)).1 < 0 := by rcases hk9 with z | z <;> rw [z] <;> decide
    have hne0 : ¬ (S (24 + bb)).1 = 0 := by rcases hk9 with z | z <;> rw [z] <;> decide
    have hnob : qNo (S (24 + bb)).2.1 := (hI (24 + bb) (by omega)).2.1 (hk9.elim Or.inl (fun z => Or.inr (Or.inl z)))
    rcases hk9 with hk9 | hk9
    · obtain rfl : kd = nI 1 := ekd.trans hk9
      have hk12 : (S (24 + bb)).1 = 1 ∨ (S (24 + bb)).1 = 2 := Or.inl hk9
      refine lv_astore (lv' := [(4, .ref ab), (0, .ref x), (1, .int (nI bb)), (2, .long p1)]) hx hb dX6_look_10 hl (by decide) rfl (fun ls hl => ?_)
      refine lv_aload hx hb dX6_look_12 (lv_at hl 0 rfl) ?_
      refine q_getN C hP fbo rfl inX1 2 (by decide) (by decide +kernel) rfl dX6_look_14 ?_
      refine lv_if_ne (tgt := 33) hx hb dX6_look_17 (by decide) (fun c17 => ?_) (fun c17 => ?_)
      · replace c17 : ¬ 1 = 0 := fun zq => c17 ((nI_eq (a := 1) (b := 0) (by omega) (by omega)).mpr zq)
        refine lv_aload_n hx hb dX6_look_33 rfl (lv_at hl 1 rfl) ?_
        refine lv_aload hx hb dX6_look_34 (lv_at hl 0 rfl) ?_
        refine q_getN C hP fbo rfl inX1 4 (by decide) (by decide +kernel) rfl dX6_look_36 ?_
        refine lv_lload_n hx hb dX6_look_39 rfl (lv_at hl 3 rfl) ?_
        refine q_callV (rest := []) C (z_hashedValue l D cy N0 h Im (eb bb) (zOk Ed eb S) mk rt (zSv (S (24 + bb))) (Xb bb) x sl bl kr vr (oCq W.1) (oMq W.1) (nI Ed) p1 hRb hz.1.1 (by rw [zSv_len]; omega) (zSv_no hnob)) kX6_hashedValue g770 g772 rfl gp20 g1 hP hS hz.1.1 (by first | decide | omega) hl.1 rfl (by decide) (by first | decide | omega) dX6_look_40 (fun q ce E h' H1 locs1 hE hP hS hc1 hc2 hc3 => by obtain ⟨rfl, rfl, hx8⟩ := hE; rw [zSv_has] at hx8; exact q_out C hP hS hc1 hc2 hc3 (by have ex : (xs_look S (nI bb) p1) = (3, 0) := (by unfold xs_look; rw [if_neg (by rw [ebb]; decide), ecb, if_neg hlt, if_neg hne0, if_pos hx8]); exact ⟨by rw [ex]; exact .tail _ (.tail _ (.head _)), by exact hz.po hf⟩) (by omega)) (fun v hh4 H locs hq hP hS => ?_)
        obtain ⟨hx8, rfl, rfl⟩ := hq
        rw [zSv_has] at hx8
        have ex : (xs_look S (nI bb) p1) = (0, (xLook (zSv (S (24 + bb))) p1)) := by unfold xs_look; rw [if_neg (by rw [ebb]; decide), ecb, if_neg hlt, if_neg hne0, if_neg (by rw [hx8]; decide), zSv_look hnob hx8 hk12, if_neg (show ¬ (S (24 + bb)).1 = 2 from fun z => absurd (hk9.symm.trans z) (by decide)), if_pos (show (S (24 + bb)).1 = 1 from hk9)]
        exact q_lret C hP hS ⟨by rw [ex], by first | (rw [ex]; done) | (rw [ex]), hz.po hf⟩ (by omega) dX6_look_43
      · replace c17 : 1 = 0 := (nI_eq (a := 1) (b := 0) (by omega) (by omega)).mp c17
        exfalso; omega
    · obtain rfl : kd = nI 2 := ekd.trans hk9
      have hk12 : (S (24 + bb)).1 = 1 ∨ (S (24 + bb)).1 = 2 := Or.inr hk9
      refine lv_astore (lv' := [(4, .ref ab), (0, .ref x), (1, .int (nI bb)), (2, .long p1)]) hx hb dX6_look_10 hl (by decide) rfl (fun ls hl => ?_)
      refine lv_aload hx hb dX6_look_12 (lv_at hl 0 rfl) ?_
      refine q_getN C hP fbo rfl inX1 2 (by decide) (by decide +kernel) rfl dX6_look_14 ?_
      refine lv_if_ne (tgt := 33) hx hb dX6_look_17 (by decide) (fun c17 => ?_) (fun c17 => ?_)
      · replace c17 : ¬ 2 = 0 := fun zq => c17 ((nI_eq (a := 2) (b := 0) (by omega) (by omega)).mpr zq)
        refine lv_aload_n hx hb dX6_look_33 rfl (lv_at hl 1 rfl) ?_
        refine lv_aload hx hb dX6_look_34 (lv_at hl 0 rfl) ?_
        refine q_getN C hP fbo rfl inX1 4 (by decide) (by decide +kernel) rfl dX6_look_36 ?_
        refine lv_lload_n hx hb dX6_look_39 rfl (lv_at hl 3 rfl) ?_
        refine q_callV (rest := []) C (z_hashedValue l D cy N0 h Im (eb bb) (zOk Ed eb S) mk rt (zSv (S (24 + bb))) (Xb bb) x sl bl kr vr (oCq W.1) (oMq W.1) (nI Ed) p1 hRb hz.1.1 (by rw [zSv_len]; omega) (zSv_no hnob)) kX6_hashedValue g770 g772 rfl gp20 g1 hP hS hz.1.1 (by first | decide | omega) hl.1 rfl (by decide) (by first | decide | omega) dX6_look_40 (fun q ce E h' H1 locs1 hE hP hS hc1 hc2 hc3 => by obtain ⟨rfl, rfl, hx8⟩ := hE; rw [zSv_has] at hx8; exact q_out C hP hS hc1 hc2 hc3 (by have ex : (xs_look S (nI bb) p1) = (3, 0) := (by unfold xs_look; rw [if_neg (by rw [ebb]; decide), ecb, if_neg hlt, if_neg hne0, if_pos hx8]); exact ⟨by rw [ex]; exact .tail _ (.tail _ (.head _)), by exact hz.po hf⟩) (by omega)) (fun v hh5 H locs hq hP hS => ?_)
        obtain ⟨hx8, rfl, rfl⟩ := hq
        rw [zSv_has] at hx8
        have ex : (xs_look S (nI bb) p1) = (0, (xLook (zSv (S (24 + bb))) p1)) := by unfold xs_look; rw [if_neg (by rw [ebb]; decide), ecb, if_neg hlt, if_neg hne0, if_neg (by rw [hx8]; decide), zSv_look hnob hx8 hk12, if_pos (show (S (24 + bb)).1 = 2 from hk9), if_neg (show ¬ (S (24 + bb)).1 = 1 from fun z => absurd (hk9.symm.trans z) (by decide))]
        exact q_lret C hP hS ⟨by rw [ex], by first | (rw [ex]; done) | (rw [ex]), hz.po hf⟩ (by omega) dX6_look_43
      · replace c17 : 2 = 0 := (nI_eq (a := 2) (b := 0) (by omega) (by omega)).mp c17
        exfalso; omega
