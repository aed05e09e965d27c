section QROWS11
variable {p : Program} {l : Launch} {e : Env} {fr lo mc ms : Nat} {s : State} {m : MethodId} {args : Array Value} {below : List Frame} {meth : Method} {c : Code} {H : Heap} {locs : List Loc} {cells slots : Nat} {Q : State → Prop}
variable {nm : String} {cc : ByteArray} {nL : Nat} {ret : Option FieldType} {D : va_G} {cy : Nat → ClassId} {N0 : Nat} {tb : List ExceptionTableEntry} {h : qH} {pc : Nat} {ls : Array Slot} {rest : List Value}
theorem q_putN (C : qX p l s m args meth c RX6 cc nL ret nm D cy N0 tb) (hP : qP D N0 h H) (hS : va_S (qA N0) s.heap H locs) {a ci : Nat} {fs : List Value} (hf : h a = some (.inr (ci, fs))) {Cn : String} {T : u_T} {N : Nat} (hc : vwCl[ci]? = some (Cn, T, N)) (hin : ∀ w ∈ u_ws Cn T N, w ∈ qG)
    (ty0 : Nat → FieldType) (hty : ∀ k, k < N → parseFieldDescriptor (T k).2.2.1 = some (ty0 k)) (hnm : ∀ a, a < N → ∀ b, b < N → a ≠ b → (T a).2.1 ≠ (T b).2.1) (k : Nat) (hk : k < N) {index : Nat}
    (w : (index, (T k).1, (T k).2.1, (T k).2.2.1) ∈ qF) (hfin : (T k).2.2.2 = false) {v : Value} (hn : narrow (ty0 k) v = v) (hfit : fits (ty0 k) v = true) (hl : k < fs.length) (hdg : decode cc pc = .ok (.putfield index, 3))
    (kk : ∀ (H1 : Heap) (locs1 : List Loc), qP D N0 (qs h a (.inr (ci, fs.set k v))) H1 → va_S (qA N0) s.heap H1 locs1 → W p l e (qR fr lo mc ms) s m args below meth c H1 locs1 cells slots Q (F0 m (pc + 3) ls rest)) : W p l e (qR fr lo mc ms) s m args below meth c H locs cells slots Q (F0 m pc ls (v :: .ref a :: rest)) := by
  obtain ⟨hx, hb, -, -, hown, hts, -, -, -, hE, -⟩ := C
  have hK := hE.1
  have hap := va_apart (own := RX6) hts hin ty0 hty hnm hK hc
  have hN := hP.obj hf
  obtain ⟨r, h1, cell, q1, q2, q3, q4⟩ := hP.at hf hN
  have hr : r = (Cn, T, N) := Option.some.inj (h1.symm.trans hc)
  subst hr
  obtain ⟨hSl, hfc, kC, hkC, hkind⟩ := hK.1 ci _ hc
  obtain ⟨cf, kf, fi, f, hi, hsl⟩ := hSl k hk
  have hlay := hts _ (hin _ (u_in_lay hk))
  unfold u_lay at hlay
  rw [if_neg (by rw [hfin]; decide)] at hlay
  have hst := (u_facts hfc hkC (u_lays hts hin hk) hi).1
  have h6 := u_store hfc hkC hkind hlay hi (hty k hk) hn hfit
  refine va_WputK hx hb (f := f) hown (va_Nw.use rfl (hE.2.2.2.2.2.1.1 _ w)) hi hst (by rw [q2]; exact h6) q1 q3 (by rw [hsl]; exact k2_hasslot (q4 k hk)) rfl rfl hdg fun H' e1 e2 e3 => ?_
  rw [hsl] at e1 ⊢
  exact kk H' _ (hP.set hN ⟨_, hc, t_OB.to (V := updV (vp_V fs) k v) ⟨_, e1, q2, q3, t_set q4 hap hk v⟩ (fun j _ => vp_updV_set hl v j)⟩ e3) (hS.put e2 e3 hN)
end QROWS11
theorem qs_none {h : qH} {a z : Nat} {o : va_E} (e : qs h a o z = none) : h z = none := by
  by_cases n : z = a
  · rw [n, qs_self] at e; cases e
  · rw [qs_ne n] at e; exact e
theorem xRs_b {S : Nat → qSlot} {i : Nat} {s : qSlot} (hi : i < 28) : xRs (qU S i s) = xRs S := funext fun r => by unfold xRs; rw [qU_ne (by omega)]
section ZBO
variable {cy : Nat → ClassId} {h h' h1 : qH} {x sl bl kr vr E : Nat} {mk : Int32} {fs : Nat → Option Nat} {bd br eb : Nat → Nat} {Im Im2 X2 : Nat → Prop} {Xb : Nat → Nat → Prop} {g : Nat → Nat} {S : Nat → qSlot} {W : qWo} {Bd sk Rn : Nat} {dp : Nat → Nat}
theorem zOk.same {b : Nat} {s' : qSlot} (hs : s'.1 = (S (24 + b)).1) : ∀ o, zOk E eb S o → zOk E eb (qU S (24 + b) s') o := zOk.up (Nat.le_refl _) (fun c _ => by
  by_cases n : c = b
  · subst n; rw [qU_at, hs]
  · rw [qU_ne (by omega)])
/-- a builder's own object and row are others, its nodes are as they were -/
theorem zQ.bob (q : zQ cy h x mk sl bl kr vr E fs bd br eb Im Xb g S W) (iv : qWv Bd sk Rn dp W) {b : Nat} (hb : b < 4) {s' : qSlot} (hs : s'.1 = (S (24 + b)).1) (fr : ∀ z o, h z = some o → z ≠ bd b → z ≠ br b → h' z = some o) (hbu : zBu cy h' Im (zOk E eb (qU S (24 + b) s')) mk s' (bd b) (br b) (eb b) (Xb b)) : zQ cy h' x mk sl bl kr vr E fs bd br eb Im Xb g (qU S (24 + b) s') W := by
  have q0 := q
  obtain ⟨q1, -, q3, q4, s1, s2, s3, s4, s5, s6⟩ := q
  obtain ⟨op, kd, ln, ed, rt, f, b1, b2, -⟩ := q4 b hb
  obtain ⟨o, a, k⟩ := W
  have ko : ∀ {z ci : Nat} {fv : List Value}, h z = some (.inr (ci, fv)) → ci ≠ 1 → h' z = some (.inr (ci, fv)) := fun {z ci fv} e n => fr z _ e (fun y => by rw [y, b1] at e; simp at e; exact n e.1.symm) (fun y => by rw [y, b2] at e; cases e)
  have kN : ∀ {z : Nat} {o : va_E}, h z = some o → Im z ∨ Xb b z → h' z = some o := fun {z o} e y => by
    obtain ⟨t1, t2, t3, t4, t5, t6, t7⟩ := s2 z (y.imp id (fun w => ⟨b, hb, w⟩))
    exact fr z o e (t6 b hb).1 (t6 b hb).2
  have kk : ∀ c, ((qU S (24 + b) s') (24 + c)).1 = (S (24 + c)).1 := fun c => by
    by_cases n : c = b
    · subst n; rw [qU_at, hs]
    · rw [qU_ne (by omega)]
  refine q0.bst hb ⟨ko q1.1 (by decide), by rw [xRs_b (by omega)]; exact zG.keep iv q1.2 (fun b fs e _ => ko e (by decide)) (fun b fs e => ko e (by decide)) (fun _ _ => rfl)⟩ (fun z o e n1 n2 _ _ => fr z o e n1 n2) s6 (fun i hi => qU_ne (by omega)) (fun c hc n => ⟨qU_ne (by omega), rfl, rfl⟩) (zOk.same hs) (fun _ z => z) (fun z y => y.imp id Or.inl) (fun z y ci fv e => ?_) ?_ (by rw [qU_at]; exact hbu) (fun c hc y => ?_)
  · obtain ⟨o9, ho9⟩ := (s4 b hb).2.1 z y
    have := kN ho9 y
    rw [e] at this; cases this
    exact (s2 z (y.imp id (fun w => ⟨b, hb, w⟩))).2.2.2.2.2.2 ci fv ho9
  · obtain ⟨t1, t2, t3, t4⟩ := s4 b hb
    exact ⟨t1, fun z y => by obtain ⟨o9, ho9⟩ := t2 z y; exact ⟨o9, kN ho9 y⟩, kN t3 (Or.inl t4), t4⟩
  · rw [kk c] at y
    obtain ⟨y1, y2⟩ := s5 c hc y
    exact ⟨y1, fun d hd w => y2 d hd (by rw [kk d] at w; exact w)⟩
theorem zQ.bobp (q' : zQ cy h' x mk sl bl kr vr E fs bd br eb Im Xb g S W) {b : Nat} (hb : b < 4) (fr : ∀ z o, h z = some o → z ≠ bd b → z ≠ br b → h' z = some o) (fd : ∀ z, h' z = none → h z = none) : zPo cy h x mk sl bl kr vr E bd br Im Xb S W h' := q'.pob hb (fun z o e n1 n2 _ _ => fr z o e n1 n2) fd (Nat.le_succ _) (fun _ _ _ => rfl) (fun _ z => z) (fun _ y => y.imp id Or.inl)
/-- a builder's edit has gone on -/
theorem zQ.bed (q : zQ cy h x mk sl bl kr vr E fs bd br eb Im Xb g S W) (iv : qWv Bd sk Rn dp W) {b rb : Nat} {kd ln ed : Int32} {f : Nat → Int64} (hb : b < 4) {s' : qSlot} (hs : s'.1 = (S (24 + b)).1) (hk : (S (24 + b)).1 = 1 ∨ (S (24 + b)).1 = 2) {rt x2 : Option Nat} (hbo : h (bd b) = some (.inr (1, [.ref (br b), .int 1, .int kd, .int (nI 0), va_rf rt, .int ed]))) (hbr : h (br b) = some (.inl (cy 1, 1000, .inr (.inl f)))) (ekd : kd = (S (24 + b)).1) (eed : ed = nI (eb b))
    (hR : qRt cy h1 Im2 (eb b) (zOk E eb S) mk x2 (zSv s') X2) (hE : qEd cy h1 Im2 X2) (hC : qCh h Im (Xb b) h1 Im2 X2) : zPo cy h x mk sl bl kr vr E bd br Im Xb (qU S (24 + b) s') W (qs h1 (bd b) (.inr (1, [.ref (br b), .int 1, .int kd, .int (nI 0), va_rf x2, .int ed]))) := by
  have q0 := q
  obtain ⟨q1, -, q3, q4, s1, s2, s3, s4, s5, s6⟩ := q
  obtain ⟨o, a, k⟩ := W
  obtain ⟨h', eh'⟩ : ∃ z, qs h1 (bd b) (.inr (1, [.ref (br b), .int 1, .int kd, .int (nI 0), va_rf x2, .int ed])) = z := ⟨_, rfl⟩
  rw [eh']
  have sX := fun {z : Nat} (y : Xb b z) => s2 z (Or.inr ⟨b, hb, y⟩)
  have h1b : h1 (bd b) = some (.inr (1, [.ref (br b), .int 1, .int kd, .int (nI 0), va_rf rt, .int ed])) := hC.1 _ _ hbo (fun y => ((sX y).2.2.2.2.2.1 b hb).1 rfl)
  have ne : ∀ {z : Nat} {o : va_E}, h1 z = some o → z ≠ bd b → h' z = some o := fun {z o} e n => by rw [← eh']; exact (qs_ne n).trans e
  have fr : ∀ z o, h z = some o → z ≠ bd b → z ≠ br b → ¬ Xb b z → z ≠ x → h' z = some o := fun z o e n1 _ nX _ => ne (hC.1 z o e nX) n1
  have kk : ∀ c, ((qU S (24 + b) s') (24 + c)).1 = (S (24 + c)).1 := fun c => by
    by_cases n : c = b
    · subst n; rw [qU_at, hs]
    · rw [qU_ne (by omega)]
  have N : ∀ {z : Nat}, (∀ ci fv, h1 z = some (.inr (ci, fv)) → ci = 3) → z ≠ bd b := fun {z} n y => by rw [y] at n; exact absurd (n 1 _ h1b) (by decide)
  have i1 : ∀ z, Im z → Im2 z ∧ ∀ ci fv, h1 z = some (.inr (ci, fv)) → ci = 3 := fun z y => ⟨hC.2.1 z y, fun ci fv e => by
    obtain ⟨o9, ho9⟩ := (s4 b hb).2.1 z (Or.inl y)
    have := hC.1 z o9 ho9 (fun w => (s4 b hb).1 z w y)
    rw [e] at this; cases this
    exact (s2 z (Or.inl y)).2.2.2.2.2.2 ci fv ho9⟩
  have i2 : ∀ z, (Im2 z ∧ ∀ ci fv, h1 z = some (.inr (ci, fv)) → ci = 3) ∨ (X2 z ∧ ∀ ci fv, h1 z = some (.inr (ci, fv)) → ci = 3) → Im z ∨ Xb b z ∨ h z = none := fun z y => by
    rcases y with y | y
    · exact (hC.2.2.1 z y.1).imp id Or.inr
    · exact Or.inr (hC.2.2.2.1 z y.1)
  have cut : qRt cy h' (fun z => Im2 z ∧ ∀ ci fv, h1 z = some (.inr (ci, fv)) → ci = 3) (eb b) (zOk E eb (qU S (24 + b) s')) mk x2 (zSv s') (fun z => X2 z ∧ ∀ ci fv, h1 z = some (.inr (ci, fv)) → ci = 3) := by
    rcases hR with z | ⟨a9, z1, z2, z3⟩
    · exact Or.inl z
    · refine Or.inr ⟨a9, z1, z2, ?_⟩
      have := z3.cut (N := fun z => ∀ ci fv, h1 z = some (.inr (ci, fv)) → ci = 3) (fun b o e n ci fv y => n ci fv (Option.some.inj (e.symm.trans y)))
      exact (this.keep (h' := h') (fun z o e y => ne e (y.elim (fun w => N w.2) (fun w => N w.2))) (fun _ z => z)).ok (zOk.same hs) (fun _ z => z)
  have hbr1 : h' (br b) = some (.inl (cy 1, 1000, .inr (.inl f))) := ne (hC.1 _ _ hbr (fun y => ((sX y).2.2.2.2.2.1 b hb).2 rfl)) (fun y => by rw [y, hbo] at hbr; cases hbr)
  have ko : ∀ {z ci : Nat} {fv : List Value}, h z = some (.inr (ci, fv)) → ci ≠ 1 → ci ≠ 3 → h' z = some (.inr (ci, fv)) := fun {z ci fv} e n n3 => ne (hC.1 z _ e (fun y => n3 ((sX y).2.2.2.2.2.2 ci fv e))) (fun y => by rw [y, hbo] at e; simp at e; exact n e.1.symm)
  have hed : qEd cy h' (fun z => Im2 z ∧ ∀ ci fv, h1 z = some (.inr (ci, fv)) → ci = 3) (fun z => X2 z ∧ ∀ ci fv, h1 z = some (.inr (ci, fv)) → ci = 3) := by
    have n99 : ∀ ci fv, h1 (cy 99) = some (.inr (ci, fv)) → ci = 3 := fun ci fv e => by rw [hE.2.2.1] at e; unfold thJ at e; simp at e
    refine ⟨fun z y w => hE.1 z y.1 w.1, fun z y => ?_, ne hE.2.2.1 (N n99), hE.2.2.2, n99⟩
    obtain ⟨o9, ho9⟩ := hE.2.1 z (y.imp And.left And.left)
    exact ⟨o9, ne ho9 (y.elim (fun w => N w.2) (fun w => N w.2))⟩
  have fd : ∀ z, h' z = none → h z = none := fun z y => by
    cases e : h z with
    | none => rfl
    | some o9 =>
      obtain ⟨o8, ho8⟩ := hC.2.2.2.2 z o9 e
      by_cases n : z = bd b
      · rw [← eh', n, qs_self] at y; cases y
      · rw [ne ho8 n] at y; cases y
  have Q := q0.bst (h' := h') (E' := E) (eb' := eb) (S' := qU S (24 + b) s') (Im' := fun z => Im2 z ∧ ∀ ci fv, h1 z = some (.inr (ci, fv)) → ci = 3) (Xb' := fun c => if c = b then (fun z => X2 z ∧ ∀ ci fv, h1 z = some (.inr (ci, fv)) → ci = 3) else Xb c) hb ⟨ko q1.1 (by decide) (by decide), by rw [xRs_b (by omega)]; exact zG.keep iv q1.2 (fun b fs e _ => ko e (by decide) (by decide)) (fun b fs e => ko e (by decide) (by decide)) (fun _ _ => rfl)⟩ fr s6 (fun i hi => qU_ne (by omega)) (fun c hc n => ⟨qU_ne (by omega), rfl, if_neg n⟩) (zOk.same hs) i1 (fun z y => i2 z (by rw [if_pos rfl] at y; exact y)) (fun z y ci fv e => ?_) (by rw [if_pos rfl]; exact hed) ?_ (fun c hc y => ?_)
  · exact Q.pob hb fr fd (Nat.le_succ _) (fun c hc n => if_neg n) (fun z y => i1 z y) (fun z y => i2 z (by rw [if_pos rfl] at y; exact y))
  · rw [if_pos rfl] at y
    have n : z ≠ bd b := y.elim (fun w => N w.2) (fun w => N w.2)
    rw [← eh', qs_ne n] at e
    exact y.elim (fun w => w.2 ci fv e) (fun w => w.2 ci fv e)
  · rw [if_pos rfl, qU_at]
    refine ⟨1, kd, nI 0, ed, x2, f, by rw [← eh']; exact qs_self, hbr1, Or.inr ⟨rfl, ekd.trans hs.symm, eed, Or.inr ⟨by rw [hs]; exact hk, rfl, cut⟩⟩⟩
  · rw [kk c] at y
    obtain ⟨y1, y2⟩ := s5 c hc y
    exact ⟨y1, fun d hd w => y2 d hd (by rw [kk d] at w; exact w)⟩
end ZBO
theorem dX1_amount_0 : decode cX1_amount 0 = .ok (.aload_n 0, 1) := by decide +kernel
theorem dX1_amount_1 : decode cX1_amount 1 = .ok (.getfield 25, 3) := by decide +kernel
theorem dX1_amount_4 : decode cX1_amount 4 = .ok (.ifCond .ne 10, 3) := by decide +kernel
theorem dX1_amount_7 : decode cX1_amount 7 = .ok (.aload_n 0, 1) := by decide +kernel
theorem dX1_amount_8 : decode cX1_amount 8 = .ok (.getfield 46, 3) := by decide +kernel
theorem dX1_amount_11 : decode cX1_amount 11 = .ok (.goto 10, 3) := by decide +kernel
theorem dX1_amount_21 : decode cX1_amount 21 = .ok (.ireturn, 1) := by decide +kernel
set_option maxRecDepth 100000 in
set_option maxHeartbeats 4000000 in
theorem z_bamount0 (l : Launch) (D : va_G) (cy : Nat → ClassId) (N0 : Nat) (h : qH) (b : Nat) (rwv : Value) (io ln e2 t : Int32) (rt : Option Nat) (hB : h b = some (.inr (1, [rwv, .int io, .int (nI 0), .int ln, va_rf rt, .int e2]))) : qC l D cy N0 yX1_amount cX1_amount 1 (some .int) 2 40 0 0 [.ref b] h (fun v h' => v = some (.int ln) ∧ h = h') (fun E h' => False) := by
  refine q_ofW (by decide) (by exact Nat.le_of_ble_eq_true rfl) ?_
  intro p e s m below meth c ls C hP hl
  have hx := C.1
  have hb := C.2.1
  have hS : va_S (qA N0) s.heap s.heap [] := va_S.rf
  have hl : lv_has ls 1 [(0, .ref b)] := hl
  refine lv_aload_n hx hb dX1_amount_0 rfl (lv_at hl 0 rfl) ?_
  refine q_get C hP hB rfl inX1 2 (by decide) g46 rfl dX1_amount_1 ?_
  refine lv_if_ne (tgt := 14) hx hb dX1_amount_4 (by decide) (fun c4 => ?_) (fun c4 => ?_)
  · replace c4 : ¬ 0 = 0 := fun zq => c4 ((nI_eq (a := 0) (b := 0) (by omega) (by omega)).mpr zq)
    exfalso; omega
  · replace c4 : 0 = 0 := (nI_eq (a := 0) (b := 0) (by omega) (by omega)).mp c4
    refine lv_aload_n hx hb dX1_amount_7 rfl (lv_at hl 0 rfl) ?_
    refine q_get C hP hB rfl inX1 3 (by decide) g48 rfl dX1_amount_8 ?_
    refine lv_goto (tgt := 21) hx hb dX1_amount_11 (by decide) ?_
    exact q_iret C hP hS ⟨rfl, rfl⟩ (by omega) dX1_amount_21
theorem dX1_amount_14 : decode cX1_amount 14 = .ok (.aload_n 0, 1) := by decide +kernel
theorem dX1_amount_15 : decode cX1_amount 15 = .ok (.getfield 30, 3) := by decide +kernel
theorem dX1_amount_18 : decode cX1_amount 18 = .ok (.invokestatic 49, 3) := by decide +kernel
set_option maxRecDepth 100000 in
set_option maxHeartbeats 4000000 in
theorem z_bamount1 (l : Launch) (D : va_G) (cy : Nat → ClassId) (N0 : Nat) (h : qH) (b : Nat) (rwv : Value) (io ln e2 t : Int32) (rt : Option Nat) (hB : h b = some (.inr (1, [rwv, .int io, .int (nI 1), .int ln, va_rf rt, .int e2]))) (ht : qFi h 3 4 rt t) : qC l D cy N0 yX1_amount cX1_amount 1 (some .int) 2 40 0 0 [.ref b] h (fun v h' => v = some (.int t) ∧ h = h') (fun E h' => False) := by
  refine q_ofW (by decide) (by exact Nat.le_of_ble_eq_true rfl) ?_
  intro p e s m below meth c ls C hP hl
  have hx := C.1
  have hb := C.2.1
  have hS : va_S (qA N0) s.heap s.heap [] := va_S.rf
  have hl : lv_has ls 1 [(0, .ref b)] := hl
  refine lv_aload_n hx hb dX1_amount_0 rfl (lv_at hl 0 rfl) ?_
  refine q_get C hP hB rfl inX1 2 (by decide) g46 rfl dX1_amount_1 ?_
  refine lv_if_ne (tgt := 14) hx hb dX1_amount_4 (by decide) (fun c4 => ?_) (fun c4 => ?_)
  · replace c4 : ¬ 1 = 0 := fun zq => c4 ((nI_eq (a := 1) (b := 0) (by omega) (by omega)).mpr zq)
    refine lv_aload_n hx hb dX1_amount_14 rfl (lv_at hl 0 rfl) ?_
    refine q_get C hP hB rfl inX1 4 (by decide) g50 rfl dX1_amount_15 ?_
    refine q_callS (rest := []) C (c_X3_totalOf l D cy N0 h rt t ht) kX3_totalOf g1051 g230 hP hS (by first | decide | omega) hl.1 rfl (by decide) (by first | decide | omega) dX1_amount_18 (fun q ce E h' H1 locs1 hE => hE.elim) (fun v hh1 H locs hq hP hS => ?_)
    obtain ⟨rfl, rfl⟩ := hq
    exact q_iret C hP hS ⟨rfl, rfl⟩ (by omega) dX1_amount_21
  · replace c4 : 1 = 0 := (nI_eq (a := 1) (b := 0) (by omega) (by omega)).mp c4
    exfalso; omega

set_option maxRecDepth 100000 in
set_option maxHeartbeats 4000000 in
theorem z_bamount2 (l : Launch) (D : va_G) (cy : Nat → ClassId) (N0 : Nat) (h : qH) (b : Nat) (rwv : Value) (io ln e2 t : Int32) (rt : Option Nat) (hB : h b = some (.inr (1, [rwv, .int io, .int (nI 2), .int ln, va_rf rt, .int e2]))) (ht : qFi h 3 4 rt t) : qC l D cy N0 yX1_amount cX1_amount 1 (some .int) 2 40 0 0 [.ref b] h (fun v h' => v = some (.int t) ∧ h = h') (fun E h' => False) := by
  refine q_ofW (by decide) (by exact Nat.le_of_ble_eq_true rfl) ?_
  intro p e s m below meth c ls C hP hl
  have hx := C.1
  have hb := C.2.1
  have hS : va_S (qA N0) s.heap s.heap [] := va_S.rf
  have hl : lv_has ls 1 [(0, .ref b)] := hl
  refine lv_aload_n hx hb dX1_amount_0 rfl (lv_at hl 0 rfl) ?_
  refine q_get C hP hB rfl inX1 2 (by decide) g46 rfl dX1_amount_1 ?_
  refine lv_if_ne (tgt := 14) hx hb dX1_amount_4 (by decide) (fun c4 => ?_) (fun c4 => ?_)
  · replace c4 : ¬ 2 = 0 := fun zq => c4 ((nI_eq (a := 2) (b := 0) (by omega) (by omega)).mpr zq)
    refine lv_aload_n hx hb dX1_amount_14 rfl (lv_at hl 0 rfl) ?_
    refine q_get C hP hB rfl inX1 4 (by decide) g50 rfl dX1_amount_15 ?_
    refine q_callS (rest := []) C (c_X3_totalOf l D cy N0 h rt t ht) kX3_totalOf g1051 g230 hP hS (by first | decide | omega) hl.1 rfl (by decide) (by first | decide | omega) dX1_amount_18 (fun q ce E h' H1 locs1 hE => hE.elim) (fun v hh1 H locs hq hP hS => ?_)
    obtain ⟨rfl, rfl⟩ := hq
    exact q_iret C hP hS ⟨rfl, rfl⟩ (by omega) dX1_amount_21
  · replace c4 : 2 = 0 := (nI_eq (a := 2) (b := 0) (by omega) (by omega)).mp c4
    exfalso; omega
theorem dX6_buildSequence_0 : decode cX6_buildSequence 0 = .ok (.iload_n 2, 1) := by decide +kernel
theorem dX6_buildSequence_1 : decode cX6_buildSequence 1 = .ok (.lookupswitch 75 #[(0, 27), (1, 60)], 27) := by decide +kernel
theorem dX6_buildSequence_28 : decode cX6_buildSequence 28 = .ok (.aload_n 1, 1) := by decide +kernel
theorem dX6_buildSequence_29 : decode cX6_buildSequence 29 = .ok (.getfield 386, 3) := by decide +kernel
theorem dX6_buildSequence_32 : decode cX6_buildSequence 32 = .ok (.iconst 1, 1) := by decide +kernel
theorem dX6_buildSequence_33 : decode cX6_buildSequence 33 = .ok (.iadd, 1) := by decide +kernel
theorem dX6_buildSequence_34 : decode cX6_buildSequence 34 = .ok (.invokestatic 81, 3) := by decide +kernel
theorem dX6_buildSequence_37 : decode cX6_buildSequence 37 = .ok (.aload_n 1, 1) := by decide +kernel
theorem dX6_buildSequence_38 : decode cX6_buildSequence 38 = .ok (.getfield 343, 3) := by decide +kernel
theorem dX6_buildSequence_41 : decode cX6_buildSequence 41 = .ok (.aload_n 1, 1) := by decide +kernel
theorem dX6_buildSequence_42 : decode cX6_buildSequence 42 = .ok (.getfield 386, 3) := by decide +kernel
theorem dX6_buildSequence_45 : decode cX6_buildSequence 45 = .ok (.lload 5, 2) := by decide +kernel
theorem dX6_buildSequence_47 : decode cX6_buildSequence 47 = .ok (.lastore, 1) := by decide +kernel
theorem dX6_buildSequence_48 : decode cX6_buildSequence 48 = .ok (.aload_n 1, 1) := by decide +kernel
theorem dX6_buildSequence_49 : decode cX6_buildSequence 49 = .ok (.dup, 1) := by decide +kernel
theorem dX6_buildSequence_50 : decode cX6_buildSequence 50 = .ok (.getfield 386, 3) := by decide +kernel
theorem dX6_buildSequence_53 : decode cX6_buildSequence 53 = .ok (.iconst 1, 1) := by decide +kernel
theorem dX6_buildSequence_54 : decode cX6_buildSequence 54 = .ok (.iadd, 1) := by decide +kernel
theorem dX6_buildSequence_55 : decode cX6_buildSequence 55 = .ok (.putfield 386, 3) := by decide +kernel
theorem dX6_buildSequence_58 : decode cX6_buildSequence 58 = .ok (.goto 43, 3) := by decide +kernel
theorem dX6_buildSequence_101 : decode cX6_buildSequence 101 = .ok (.return_, 1) := by decide +kernel
set_option maxRecDepth 100000 in
set_option maxHeartbeats 4000000 in
theorem z_bseq0 (l : Launch) (D : va_G) (cy : Nat → ClassId) (N0 : Nat) (h : qH) (tx b rb : Nat) (kd e2 : Int32) (rtv : Value) (f : Nat → Int64) (n : Nat) (k0 v0 : Int64) (hB : h b = some (.inr (1, [.ref rb, .int 1, .int kd, .int (nI n), rtv, .int e2]))) (hr : h rb = some (.inl (cy 1, 1000, .inr (.inl f)))) (hn : n ≤ 1000) : qC l D cy N0 yX6_buildSequence cX6_buildSequence 7 none 12 200 1 6 [.ref tx, .ref b, .int (nI 0), .long k0, .long v0] h (fun v h' => v = none ∧ n + 1 ≤ 1000 ∧ h' = qs (qs h rb (.inl (cy 1, 1000, .inr (.inl (vp_updL f n v0))))) b (.inr (1, [.ref rb, .int 1, .int kd, .int (nI (n + 1)), rtv, .int e2]))) (fun E h' => E = "java/lang/IndexOutOfBoundsException" ∧ h = h' ∧ ¬ n + 1 ≤ 1000) := by
  refine q_ofW (by decide) (by exact Nat.le_of_ble_eq_true rfl) ?_
  intro p e s m below meth c ls C hP hl
  have hx := C.1
  have hb := C.2.1
  have hS : va_S (qA N0) s.heap s.heap [] := va_S.rf
  have hl : lv_has ls 7 [(0, .ref tx), (1, .ref b), (2, .int (nI 0)), (3, .long k0), (5, .long v0)] := hl
  have nbr : b ≠ rb := fun z => by rw [z, hr] at hB; cases hB
  refine lv_iload_n hx hb dX6_buildSequence_0 rfl (lv_at hl 2 rfl) ?_
  refine lv_lookup (tgt := 28) (off := 27) hx hb dX6_buildSequence_1 (by decide +kernel) (by decide +kernel) (by decide) ?_
  refine lv_aload_n hx hb dX6_buildSequence_28 rfl (lv_at hl 1 rfl) ?_
  refine q_getN C hP hB rfl inX1 3 (by decide) (by decide +kernel) rfl dX6_buildSequence_29 ?_
  refine lv_iconst (v := nI 1) hx hb dX6_buildSequence_32 (by decide) ?_
  refine q_iaddN hx hb dX6_buildSequence_33 ?_
  refine q_callS (rest := []) C (c_X6_needRoom l D cy N0 h (nI (n + 1))) kX6_needRoom g324 g325 hP hS (by first | decide | omega) hl.1 rfl (by decide) (by first | decide | omega) dX6_buildSequence_34 (fun q ce E h' H1 locs1 hE hP hS hc1 hc2 hc3 => by obtain ⟨rfl, rfl, hn9⟩ := hE; replace hn9 : ¬ n + 1 ≤ 1000 := fun z => hn9 ((nI_leI (a := n + 1) (b := 1000) (by omega) (by omega)).mpr z); exact q_out C hP hS hc1 hc2 hc3 ⟨rfl, rfl, hn9⟩ (by omega)) (fun v hh1 H locs hq hP hS => ?_)
  obtain ⟨rfl, rfl, hr9⟩ := hq
  replace hr9 := (nI_leI (a := n + 1) (b := 1000) (by omega) (by omega)).mp hr9
  refine lv_aload_n hx hb dX6_buildSequence_37 rfl (lv_at hl 1 rfl) ?_
  refine q_getN C hP hB rfl inX1 0 (by decide) (by decide +kernel) rfl dX6_buildSequence_38 ?_
  refine lv_aload_n hx hb dX6_buildSequence_41 rfl (lv_at hl 1 rfl) ?_
  refine q_getN C hP hB rfl inX1 3 (by decide) (by decide +kernel) rfl dX6_buildSequence_42 ?_
  refine lv_lload hx hb dX6_buildSequence_45 (lv_at hl 4 rfl) ?_
  refine q_lastN C hP hS hr (by omega) (by omega) dX6_buildSequence_47 (fun H locs hP hS => ?_)
  replace hB := (qs_ne (h := h) (a := rb) (o := (.inl (cy 1, 1000, .inr (.inl (vp_updL f n v0))))) nbr).trans hB
  replace hr : (qs h rb (.inl (cy 1, 1000, .inr (.inl (vp_updL f n v0))))) rb = some (.inl (cy 1, 1000, .inr (.inl (vp_updL f n v0)))) := qs_self
  refine lv_aload_n hx hb dX6_buildSequence_48 rfl (lv_at hl 1 rfl) ?_
  refine lv_dup hx hb dX6_buildSequence_49 rfl ?_
  refine q_getN C hP hB rfl inX1 3 (by decide) (by decide +kernel) rfl dX6_buildSequence_50 ?_
  refine lv_iconst (v := nI 1) hx hb dX6_buildSequence_53 (by decide) ?_
  refine q_iaddN hx hb dX6_buildSequence_54 ?_
  refine q_putN C hP hS hB rfl inX1 tyX1 tyX1_ok nmX1 3 (by decide) (by decide +kernel) rfl rfl rfl (Nat.le_of_ble_eq_true rfl) dX6_buildSequence_55 (fun H locs hP hS => ?_)
  replace hr := (qs_ne (h := (qs h rb (.inl (cy 1, 1000, .inr (.inl (vp_updL f n v0)))))) (a := b) (o := (.inr (1, [.ref rb, .int 1, .int kd, .int (nI (n + 1)), rtv, .int e2]))) nbr.symm).trans hr
  replace hB : (qs (qs h rb (.inl (cy 1, 1000, .inr (.inl (vp_updL f n v0))))) b (.inr (1, [.ref rb, .int 1, .int kd, .int (nI (n + 1)), rtv, .int e2]))) b = some (.inr (1, [.ref rb, .int 1, .int kd, .int (nI (n + 1)), rtv, .int e2])) := qs_self
  replace hP : qP D N0 (qs (qs h rb (.inl (cy 1, 1000, .inr (.inl (vp_updL f n v0))))) b (.inr (1, [.ref rb, .int 1, .int kd, .int (nI (n + 1)), rtv, .int e2]))) H := hP
  refine lv_goto (tgt := 101) hx hb dX6_buildSequence_58 (by decide) ?_
  exact q_vret C hP hS ⟨rfl, hr9, rfl⟩ (by omega) dX6_buildSequence_101
theorem dX6_buildSequence_61 : decode cX6_buildSequence 61 = .ok (.aload_n 1, 1) := by decide +kernel
theorem dX6_buildSequence_62 : decode cX6_buildSequence 62 = .ok (.getfield 343, 3) := by decide +kernel
theorem dX6_buildSequence_65 : decode cX6_buildSequence 65 = .ok (.aload_n 1, 1) := by decide +kernel
theorem dX6_buildSequence_66 : decode cX6_buildSequence 66 = .ok (.lload_n 3, 1) := by decide +kernel
theorem dX6_buildSequence_67 : decode cX6_buildSequence 67 = .ok (.invokestatic 346, 3) := by decide +kernel
theorem dX6_buildSequence_70 : decode cX6_buildSequence 70 = .ok (.lload 5, 2) := by decide +kernel
theorem dX6_buildSequence_72 : decode cX6_buildSequence 72 = .ok (.lastore, 1) := by decide +kernel
theorem dX6_buildSequence_73 : decode cX6_buildSequence 73 = .ok (.goto 28, 3) := by decide +kernel
set_option maxRecDepth 100000 in
set_option maxHeartbeats 4000000 in
theorem z_bseq1 (l : Launch) (D : va_G) (cy : Nat → ClassId) (N0 : Nat) (h : qH) (tx b rb : Nat) (kd e2 : Int32) (rtv : Value) (f : Nat → Int64) (n : Nat) (k0 v0 : Int64) (hB : h b = some (.inr (1, [.ref rb, .int 1, .int kd, .int (nI n), rtv, .int e2]))) (hr : h rb = some (.inl (cy 1, 1000, .inr (.inl f)))) (hn : n ≤ 1000) : qC l D cy N0 yX6_buildSequence cX6_buildSequence 7 none 12 200 1 6 [.ref tx, .ref b, .int (nI 1), .long k0, .long v0] h (fun v h' => ∃ q : Nat, k0.toInt = q ∧ q < n ∧ v = none ∧ h' = qs h rb (.inl (cy 1, 1000, .inr (.inl (vp_updL f q v0))))) (fun E h' => E = "java/util/NoSuchElementException" ∧ h = h' ∧ ¬ (0 ≤ k0.toInt ∧ k0.toInt < n)) := by
  refine q_ofW (by decide) (by exact Nat.le_of_ble_eq_true rfl) ?_
  intro p e s m below meth c ls C hP hl
  have hx := C.1
  have hb := C.2.1
  have hS : va_S (qA N0) s.heap s.heap [] := va_S.rf
  have hl : lv_has ls 7 [(0, .ref tx), (1, .ref b), (2, .int (nI 1)), (3, .long k0), (5, .long v0)] := hl
  have nbr : b ≠ rb := fun z => by rw [z, hr] at hB; cases hB
  refine lv_iload_n hx hb dX6_buildSequence_0 rfl (lv_at hl 2 rfl) ?_
  refine lv_lookup (tgt := 61) (off := 60) hx hb dX6_buildSequence_1 (by decide +kernel) (by decide +kernel) (by decide) ?_
  refine lv_aload_n hx hb dX6_buildSequence_61 rfl (lv_at hl 1 rfl) ?_
  refine q_getN C hP hB rfl inX1 0 (by decide) (by decide +kernel) rfl dX6_buildSequence_62 ?_
  refine lv_aload_n hx hb dX6_buildSequence_65 rfl (lv_at hl 1 rfl) ?_
  refine lv_lload_n hx hb dX6_buildSequence_66 rfl (lv_at hl 3 rfl) ?_
  refine q_callS (rest := [.ref rb]) C (z_needPlace l D cy N0 h b (.ref rb) 1 kd rtv e2 n k0 hB hn) kX6_needPlace g1024 g1025 hP hS (by first | decide | omega) hl.1 rfl (by simp [q_catrf, q_cati, q_catl, q_cata, q_catn]) (by first | decide | omega) dX6_buildSequence_67 (fun q ce E h' H1 locs1 hE hP hS hc1 hc2 hc3 => by obtain ⟨rfl, rfl, hn9⟩ := hE; exact q_out C hP hS hc1 hc2 hc3 ⟨rfl, rfl, hn9⟩ (by omega)) (fun v hh1 H locs hq hP hS => ?_)
  obtain ⟨q7, eq7, hq7, rfl, rfl⟩ := hq
  refine lv_lload hx hb dX6_buildSequence_70 (lv_at hl 4 rfl) ?_
  refine q_lastN C hP hS hr (by omega) (by omega) dX6_buildSequence_72 (fun H locs hP hS => ?_)
  replace hB := (qs_ne (h := h) (a := rb) (o := (.inl (cy 1, 1000, .inr (.inl (vp_updL f q7 v0))))) nbr).trans hB
  replace hr : (qs h rb (.inl (cy 1, 1000, .inr (.inl (vp_updL f q7 v0))))) rb = some (.inl (cy 1, 1000, .inr (.inl (vp_updL f q7 v0)))) := qs_self
  refine lv_goto (tgt := 101) hx hb dX6_buildSequence_73 (by decide) ?_
  exact q_vret C hP hS ⟨q7, eq7, hq7, rfl, rfl⟩ (by omega) dX6_buildSequence_101
theorem dX6_buildSequence_76 : decode cX6_buildSequence 76 = .ok (.aload_n 1, 1) := by decide +kernel
theorem dX6_buildSequence_77 : decode cX6_buildSequence 77 = .ok (.getfield 386, 3) := by decide +kernel
theorem dX6_buildSequence_80 : decode cX6_buildSequence 80 = .ok (.ifCond .le 7, 3) := by decide +kernel
theorem dX6_buildSequence_83 : decode cX6_buildSequence 83 = .ok (.iconst 1, 1) := by decide +kernel
theorem dX6_buildSequence_84 : decode cX6_buildSequence 84 = .ok (.goto 4, 3) := by decide +kernel
theorem dX6_buildSequence_87 : decode cX6_buildSequence 87 = .ok (.iconst 0, 1) := by decide +kernel
theorem dX6_buildSequence_88 : decode cX6_buildSequence 88 = .ok (.invokestatic 169, 3) := by decide +kernel
theorem dX6_buildSequence_91 : decode cX6_buildSequence 91 = .ok (.aload_n 1, 1) := by decide +kernel
theorem dX6_buildSequence_92 : decode cX6_buildSequence 92 = .ok (.dup, 1) := by decide +kernel
theorem dX6_buildSequence_93 : decode cX6_buildSequence 93 = .ok (.getfield 386, 3) := by decide +kernel
theorem dX6_buildSequence_96 : decode cX6_buildSequence 96 = .ok (.iconst 1, 1) := by decide +kernel
theorem dX6_buildSequence_97 : decode cX6_buildSequence 97 = .ok (.isub, 1) := by decide +kernel
theorem dX6_buildSequence_98 : decode cX6_buildSequence 98 = .ok (.putfield 386, 3) := by decide +kernel
set_option maxRecDepth 100000 in
set_option maxHeartbeats 4000000 in
theorem z_bseq2 (l : Launch) (D : va_G) (cy : Nat → ClassId) (N0 : Nat) (h : qH) (tx b rb : Nat) (kd e2 : Int32) (rtv : Value) (f : Nat → Int64) (n : Nat) (k0 v0 : Int64) (hB : h b = some (.inr (1, [.ref rb, .int 1, .int kd, .int (nI n), rtv, .int e2]))) (hr : h rb = some (.inl (cy 1, 1000, .inr (.inl f)))) (hn : n ≤ 1000) : qC l D cy N0 yX6_buildSequence cX6_buildSequence 7 none 12 200 1 6 [.ref tx, .ref b, .int (nI 2), .long k0, .long v0] h (fun v h' => v = none ∧ 0 < n ∧ h' = qs h b (.inr (1, [.ref rb, .int 1, .int kd, .int (nI (n - 1)), rtv, .int e2]))) (fun E h' => E = "java/util/NoSuchElementException" ∧ h = h' ∧ ¬ 0 < n) := by
  refine q_ofW (by decide) (by exact Nat.le_of_ble_eq_true rfl) ?_
  intro p e s m below meth c ls C hP hl
  have hx := C.1
  have hb := C.2.1
  have hS : va_S (qA N0) s.heap s.heap [] := va_S.rf
  have hl : lv_has ls 7 [(0, .ref tx), (1, .ref b), (2, .int (nI 2)), (3, .long k0), (5, .long v0)] := hl
  have nbr : b ≠ rb := fun z => by rw [z, hr] at hB; cases hB
  refine lv_iload_n hx hb dX6_buildSequence_0 rfl (lv_at hl 2 rfl) ?_
  refine lv_lookup (tgt := 76) (off := 75) hx hb dX6_buildSequence_1 (by decide +kernel) (by decide +kernel) (by decide) ?_
  refine lv_aload_n hx hb dX6_buildSequence_76 rfl (lv_at hl 1 rfl) ?_
  refine q_getN C hP hB rfl inX1 3 (by decide) (by decide +kernel) rfl dX6_buildSequence_77 ?_
  refine lv_if_le (tgt := 87) hx hb dX6_buildSequence_80 (by decide) (fun c80 => ?_) (fun c80 => ?_)
  · replace c80 : n ≤ 0 := (nI_leI (a := n) (b := 0) (by omega) (by omega)).mp c80
    refine lv_iconst (v := nI 0) hx hb dX6_buildSequence_87 (by decide) ?_
    refine q_callS (rest := []) C (c_X6_needThere l D cy N0 h (nI 0)) kX6_needThere g598 g599 hP hS (by first | decide | omega) hl.1 rfl (by decide) (by first | decide | omega) dX6_buildSequence_88 (fun q ce E h' H1 locs1 hE hP hS hc1 hc2 hc3 => by obtain ⟨rfl, rfl, hn9⟩ := hE; exact q_out C hP hS hc1 hc2 hc3 ⟨rfl, rfl, by omega⟩ (by omega)) (fun v hh1 H locs hq hP hS => ?_)
    obtain ⟨rfl, rfl, hz9⟩ := hq
    exact absurd rfl hz9
  · replace c80 : ¬ n ≤ 0 := fun zq => c80 ((nI_leI (a := n) (b := 0) (by omega) (by omega)).mpr zq)
    refine lv_iconst (v := nI 1) hx hb dX6_buildSequence_83 (by decide) ?_
    refine lv_goto (tgt := 88) hx hb dX6_buildSequence_84 (by decide) ?_
    refine q_callS (rest := []) C (c_X6_needThere l D cy N0 h (nI 1)) kX6_needThere g598 g599 hP hS (by first | decide | omega) hl.1 rfl (by decide) (by first | decide | omega) dX6_buildSequence_88 (fun q ce E h' H1 locs1 hE hP hS hc1 hc2 hc3 => absurd hE.2.2 (by decide)) (fun v hh2 H locs hq hP hS => ?_)
    obtain ⟨rfl, rfl, hz9⟩ := hq
    refine lv_aload_n hx hb dX6_buildSequence_91 rfl (lv_at hl 1 rfl) ?_
    refine lv_dup hx hb dX6_buildSequence_92 rfl ?_
    refine q_getN C hP hB rfl inX1 3 (by decide) (by decide +kernel) rfl dX6_buildSequence_93 ?_
    refine lv_iconst (v := nI 1) hx hb dX6_buildSequence_96 (by decide) ?_
    refine q_isubN hx hb dX6_buildSequence_97 (by omega) ?_
    refine q_putN C hP hS hB rfl inX1 tyX1 tyX1_ok nmX1 3 (by decide) (by decide +kernel) rfl rfl rfl (Nat.le_of_ble_eq_true rfl) dX6_buildSequence_98 (fun H locs hP hS => ?_)
    replace hr := (qs_ne (h := h) (a := b) (o := (.inr (1, [.ref rb, .int 1, .int kd, .int (nI (n - 1)), rtv, .int e2]))) nbr.symm).trans hr
    replace hB : (qs h b (.inr (1, [.ref rb, .int 1, .int kd, .int (nI (n - 1)), rtv, .int e2]))) b = some (.inr (1, [.ref rb, .int 1, .int kd, .int (nI (n - 1)), rtv, .int e2])) := qs_self
    replace hP : qP D N0 (qs h b (.inr (1, [.ref rb, .int 1, .int kd, .int (nI (n - 1)), rtv, .int e2]))) H := hP
    exact q_vret C hP hS ⟨rfl, by omega, rfl⟩ (by omega) dX6_buildSequence_101
theorem dX6_buildHashed_0 : decode cX6_buildHashed 0 = .ok (.iload_n 2, 1) := by decide +kernel
theorem dX6_buildHashed_1 : decode cX6_buildHashed 1 = .ok (.lookupswitch 72 #[(0, 27), (1, 61)], 27) := by decide +kernel
theorem dX6_buildHashed_28 : decode cX6_buildHashed 28 = .ok (.aload_n 1, 1) := by decide +kernel
theorem dX6_buildHashed_29 : decode cX6_buildHashed 29 = .ok (.aload_n 0, 1) := by decide +kernel
theorem dX6_buildHashed_30 : decode cX6_buildHashed 30 = .ok (.aload_n 1, 1) := by decide +kernel
theorem dX6_buildHashed_31 : decode cX6_buildHashed 31 = .ok (.getfield 350, 3) := by decide +kernel
theorem dX6_buildHashed_34 : decode cX6_buildHashed 34 = .ok (.aload_n 1, 1) := by decide +kernel
theorem dX6_buildHashed_35 : decode cX6_buildHashed 35 = .ok (.getfield 470, 3) := by decide +kernel
theorem dX6_buildHashed_38 : decode cX6_buildHashed 38 = .ok (.lload_n 3, 1) := by decide +kernel
theorem dX6_buildHashed_39 : decode cX6_buildHashed 39 = .ok (.aload_n 1, 1) := by decide +kernel
theorem dX6_buildHashed_40 : decode cX6_buildHashed 40 = .ok (.getfield 334, 3) := by decide +kernel
theorem dX6_buildHashed_43 : decode cX6_buildHashed 43 = .ok (.iconst 2, 1) := by decide +kernel
theorem dX6_buildHashed_44 : decode cX6_buildHashed 44 = .ok (.if_icmp .ne 7, 3) := by decide +kernel
theorem dX6_buildHashed_51 : decode cX6_buildHashed 51 = .ok (.lload 5, 2) := by decide +kernel
theorem dX6_buildHashed_53 : decode cX6_buildHashed 53 = .ok (.invokevirtual 73, 3) := by decide +kernel
theorem dX6_buildHashed_56 : decode cX6_buildHashed 56 = .ok (.putfield 350, 3) := by decide +kernel
theorem dX6_buildHashed_59 : decode cX6_buildHashed 59 = .ok (.goto 34, 3) := by decide +kernel
theorem dX6_buildHashed_93 : decode cX6_buildHashed 93 = .ok (.return_, 1) := by decide +kernel
set_option maxRecDepth 100000 in
set_option maxHeartbeats 4000000 in
theorem z_bh01 (l : Launch) (D : va_G) (cy : Nat → ClassId) (N0 : Nat) (h : qH) (Im : Nat → Prop) (e9 : Nat) (Ok : Nat → Prop) (m9 : Int32) (xr : Option Nat) (L : qKV) (X : Nat → Prop) (tx sl bl kr vr : Nat) (ca mv ed : Int32) (b rb : Nat) (k0 v0 : Int64) (N : Nat) (hR : qRt cy h Im e9 Ok m9 xr L X) (hT : h tx = some (.inr (6, [.int m9, .ref sl, .ref bl, .ref kr, .ref vr, .int ca, .int mv, .int ed]))) (hE : qEd cy h Im X) (hO : ¬ Ok e9) (he9 : e9 < 2 ^ 31) (hN : L.length ≤ N) (hN9 : N ≤ 1000) (hno : qNo L) (hB : h b = some (.inr (1, [.ref rb, .int 1, .int (nI 1), .int (nI 0), va_rf xr, .int (nI e9)]))) (hXb : ¬ X b) : qC l D cy N0 yX6_buildHashed cX6_buildHashed 7 none 30 2000 53 (aMs N 7 + 40) [.ref tx, .ref b, .int (nI 0), .long k0, .long v0] h (fun v h' => v = none ∧ (xHas L k0 = true ∨ (L.length + 1 ≤ 1000 ∧ (L.filter (fun p => decide (thH m9 p.1 = thH m9 k0))).length + 1 ≤ 16)) ∧ ∃ (h1 : qH) (x2 : Option Nat) (X2 Im2 : Nat → Prop), h' = qs h1 b (.inr (1, [.ref rb, .int 1, .int (nI 1), .int (nI 0), va_rf x2, .int (nI e9)])) ∧ qRt cy h1 Im2 e9 Ok m9 x2 (thP L k0 v0) X2 ∧ qEd cy h1 Im2 X2 ∧ qCh h Im X h1 Im2 X2) (fun E h' => E = "java/lang/IndexOutOfBoundsException" ∧ h = h' ∧ xHas L k0 = false ∧ (1000 < L.length + 1 ∨ 16 < (L.filter (fun p => decide (thH m9 p.1 = thH m9 k0))).length + 1)) := by
  refine q_ofW (by decide) (by exact Nat.le_of_ble_eq_true rfl) ?_
  intro p e s m below meth c ls C hP hl
  have hx := C.1
  have hb := C.2.1
  have hS : va_S (qA N0) s.heap s.heap [] := va_S.rf
  have hl : lv_has ls 7 [(0, .ref tx), (1, .ref b), (2, .int (nI 0)), (3, .long k0), (5, .long v0)] := hl
  refine lv_iload_n hx hb dX6_buildHashed_0 rfl (lv_at hl 2 rfl) ?_
  refine lv_lookup (tgt := 28) (off := 27) hx hb dX6_buildHashed_1 (by decide +kernel) (by decide +kernel) (by decide) ?_
  refine lv_aload_n hx hb dX6_buildHashed_28 rfl (lv_at hl 1 rfl) ?_
  refine lv_aload_n hx hb dX6_buildHashed_29 rfl (lv_at hl 0 rfl) ?_
  refine lv_aload_n hx hb dX6_buildHashed_30 rfl (lv_at hl 1 rfl) ?_
  refine q_getN C hP hB rfl inX1 4 (by decide) (by decide +kernel) rfl dX6_buildHashed_31 ?_
  refine lv_aload_n hx hb dX6_buildHashed_34 rfl (lv_at hl 1 rfl) ?_
  refine q_getN C hP hB rfl inX1 5 (by decide) (by decide +kernel) rfl dX6_buildHashed_35 ?_
  refine lv_lload_n hx hb dX6_buildHashed_38 rfl (lv_at hl 3 rfl) ?_
  refine lv_aload_n hx hb dX6_buildHashed_39 rfl (lv_at hl 1 rfl) ?_
  refine q_getN C hP hB rfl inX1 2 (by decide) (by decide +kernel) rfl dX6_buildHashed_40 ?_
  refine lv_iconst (v := nI 2) hx hb dX6_buildHashed_43 (by decide) ?_
  refine lv_icmp_ne (tgt := 51) hx hb dX6_buildHashed_44 (by decide) (fun c44 => ?_) (fun c44 => ?_)
  · replace c44 : ¬ 1 = 2 := fun zq => c44 ((nI_eq (a := 1) (b := 2) (by omega) (by omega)).mpr zq)
    refine lv_lload hx hb dX6_buildHashed_51 (lv_at hl 4 rfl) ?_
    refine q_callV (rest := [.ref b]) C (z_withHashed l D cy N0 h Im e9 Ok m9 xr L X tx sl bl kr vr ca mv ed k0 v0 N hR hT hE hO he9 hN hN9 hno) kX6_withHashed g289 g291 rfl gp4 g1 hP hS hT (by first | decide | omega) hl.1 rfl (by simp [q_catrf, q_cati, q_catl, q_cata, q_catn]) (by first | decide | omega) dX6_buildHashed_53 (fun q ce E h' H1 locs1 hE hP hS hc1 hc2 hc3 => q_out C hP hS hc1 hc2 hc3 hE (by omega)) (fun v hh1 H locs hq hP hS => ?_)
    obtain ⟨hrm, x2, X2, Im2, rfl, hR2, hE2, hC2⟩ := hq
    have hB2 := hC2.1 _ _ hB hXb
    refine q_putN C hP hS hB2 rfl inX1 tyX1 tyX1_ok nmX1 4 (by decide) (by decide +kernel) rfl (q_narf _) (q_firf _) (Nat.le_of_ble_eq_true rfl) dX6_buildHashed_56 (fun H locs hP hS => ?_)
    replace hB2 : (qs hh1 b (.inr (1, [.ref rb, .int 1, .int (nI 1), .int (nI 0), va_rf x2, .int (nI e9)]))) b = some (.inr (1, [.ref rb, .int 1, .int (nI 1), .int (nI 0), va_rf x2, .int (nI e9)])) := qs_self
    replace hP : qP D N0 (qs hh1 b (.inr (1, [.ref rb, .int 1, .int (nI 1), .int (nI 0), va_rf x2, .int (nI e9)]))) H := hP
    refine lv_goto (tgt := 93) hx hb dX6_buildHashed_59 (by decide) ?_
    exact q_vret C hP hS ⟨rfl, hrm, _, x2, X2, Im2, rfl, hR2, hE2, hC2⟩ (by omega) dX6_buildHashed_93
  · replace c44 : 1 = 2 := (nI_eq (a := 1) (b := 2) (by omega) (by omega)).mp c44
    exfalso; omega
theorem dX6_buildHashed_47 : decode cX6_buildHashed 47 = .ok (.lconst 1, 1) := by decide +kernel
theorem dX6_buildHashed_48 : decode cX6_buildHashed 48 = .ok (.goto 5, 3) := by decide +kernel
set_option maxRecDepth 100000 in
set_option maxHeartbeats 4000000 in
theorem z_bh02 (l : Launch) (D : va_G) (cy : Nat → ClassId) (N0 : Nat) (h : qH) (Im : Nat → Prop) (e9 : Nat) (Ok : Nat → Prop) (m9 : Int32) (xr : Option Nat) (L : qKV) (X : Nat → Prop) (tx sl bl kr vr : Nat) (ca mv ed : Int32) (b rb : Nat) (k0 v0 : Int64) (N : Nat) (hR : qRt cy h Im e9 Ok m9 xr L X) (hT : h tx = some (.inr (6, [.int m9, .ref sl, .ref bl, .ref kr, .ref vr, .int ca, .int mv, .int ed]))) (hE : qEd cy h Im X) (hO : ¬ Ok e9) (he9 : e9 < 2 ^ 31) (hN : L.length ≤ N) (hN9 : N ≤ 1000) (hno : qNo L) (hB : h b = some (.inr (1, [.ref rb, .int 1, .int (nI 2), .int (nI 0), va_rf xr, .int (nI e9)]))) (hXb : ¬ X b) : qC l D cy N0 yX6_buildHashed cX6_buildHashed 7 none 30 2000 53 (aMs N 7 + 40) [.ref tx, .ref b, .int (nI 0), .long k0, .long v0] h (fun v h' => v = none ∧ (xHas L k0 = true ∨ (L.length + 1 ≤ 1000 ∧ (L.filter (fun p => decide (thH m9 p.1 = thH m9 k0))).length + 1 ≤ 16)) ∧ ∃ (h1 : qH) (x2 : Option Nat) (X2 Im2 : Nat → Prop), h' = qs h1 b (.inr (1, [.ref rb, .int 1, .int (nI 2), .int (nI 0), va_rf x2, .int (nI e9)])) ∧ qRt cy h1 Im2 e9 Ok m9 x2 (thP L k0 1) X2 ∧ qEd cy h1 Im2 X2 ∧ qCh h Im X h1 Im2 X2) (fun E h' => E = "java/lang/IndexOutOfBoundsException" ∧ h = h' ∧ xHas L k0 = false ∧ (1000 < L.length + 1 ∨ 16 < (L.filter (fun p => decide (thH m9 p.1 = thH m9 k0))).length + 1)) := by
  refine q_ofW (by decide) (by exact Nat.le_of_ble_eq_true rfl) ?_
  intro p e s m below meth c ls C hP hl
  have hx := C.1
  have hb := C.2.1
  have hS : va_S (qA N0) s.heap s.heap [] := va_S.rf
  have hl : lv_has ls 7 [(0, .ref tx), (1, .ref b), (2, .int (nI 0)), (3, .long k0), (5, .long v0)] := hl
  refine lv_iload_n hx hb dX6_buildHashed_0 rfl (lv_at hl 2 rfl) ?_
  refine lv_lookup (tgt := 28) (off := 27) hx hb dX6_buildHashed_1 (by decide +kernel) (by decide +kernel) (by decide) ?_
  refine lv_aload_n hx hb dX6_buildHashed_28 rfl (lv_at hl 1 rfl) ?_
  refine lv_aload_n hx hb dX6_buildHashed_29 rfl (lv_at hl 0 rfl) ?_
  refine lv_aload_n hx hb dX6_buildHashed_30 rfl (lv_at hl 1 rfl) ?_
  refine q_getN C hP hB rfl inX1 4 (by decide) (by decide +kernel) rfl dX6_buildHashed_31 ?_
  refine lv_aload_n hx hb dX6_buildHashed_34 rfl (lv_at hl 1 rfl) ?_
  refine q_getN C hP hB rfl inX1 5 (by decide) (by decide +kernel) rfl dX6_buildHashed_35 ?_
  refine lv_lload_n hx hb dX6_buildHashed_38 rfl (lv_at hl 3 rfl) ?_
  refine lv_aload_n hx hb dX6_buildHashed_39 rfl (lv_at hl 1 rfl) ?_
  refine q_getN C hP hB rfl inX1 2 (by decide) (by decide +kernel) rfl dX6_buildHashed_40 ?_
  refine lv_iconst (v := nI 2) hx hb dX6_buildHashed_43 (by decide) ?_
  refine lv_icmp_ne (tgt := 51) hx hb dX6_buildHashed_44 (by decide) (fun c44 => ?_) (fun c44 => ?_)
  · replace c44 : ¬ 2 = 2 := fun zq => c44 ((nI_eq (a := 2) (b := 2) (by omega) (by omega)).mpr zq)
    exfalso; omega
  · replace c44 : 2 = 2 := (nI_eq (a := 2) (b := 2) (by omega) (by omega)).mp c44
    refine lv_lconst (v := 1) hx hb dX6_buildHashed_47 (by decide) ?_
    refine lv_goto (tgt := 53) hx hb dX6_buildHashed_48 (by decide) ?_
    refine q_callV (rest := [.ref b]) C (z_withHashed l D cy N0 h Im e9 Ok m9 xr L X tx sl bl kr vr ca mv ed k0 1 N hR hT hE hO he9 hN hN9 hno) kX6_withHashed g289 g291 rfl gp4 g1 hP hS hT (by first | decide | omega) hl.1 rfl (by simp [q_catrf, q_cati, q_catl, q_cata, q_catn]) (by first | decide | omega) dX6_buildHashed_53 (fun q ce E h' H1 locs1 hE hP hS hc1 hc2 hc3 => q_out C hP hS hc1 hc2 hc3 hE (by omega)) (fun v hh1 H locs hq hP hS => ?_)
    obtain ⟨hrm, x2, X2, Im2, rfl, hR2, hE2, hC2⟩ := hq
    have hB2 := hC2.1 _ _ hB hXb
    refine q_putN C hP hS hB2 rfl inX1 tyX1 tyX1_ok nmX1 4 (by decide) (by decide +kernel) rfl (q_narf _) (q_firf _) (Nat.le_of_ble_eq_true rfl) dX6_buildHashed_56 (fun H locs hP hS => ?_)
    replace hB2 : (qs hh1 b (.inr (1, [.ref rb, .int 1, .int (nI 2), .int (nI 0), va_rf x2, .int (nI e9)]))) b = some (.inr (1, [.ref rb, .int 1, .int (nI 2), .int (nI 0), va_rf x2, .int (nI e9)])) := qs_self
    replace hP : qP D N0 (qs hh1 b (.inr (1, [.ref rb, .int 1, .int (nI 2), .int (nI 0), va_rf x2, .int (nI e9)]))) H := hP
    refine lv_goto (tgt := 93) hx hb dX6_buildHashed_59 (by decide) ?_
    exact q_vret C hP hS ⟨rfl, hrm, _, x2, X2, Im2, rfl, hR2, hE2, hC2⟩ (by omega) dX6_buildHashed_93
theorem dX6_buildHashed_62 : decode cX6_buildHashed 62 = .ok (.new 473, 3) := by decide +kernel
theorem dX6_buildHashed_65 : decode cX6_buildHashed 65 = .ok (.dup, 1) := by decide +kernel
theorem dX6_buildHashed_66 : decode cX6_buildHashed 66 = .ok (.ldc_w 475, 3) := by decide +kernel
theorem dX6_buildHashed_69 : decode cX6_buildHashed 69 = .ok (.invokespecial 477, 3) := by decide +kernel
theorem dX6_buildHashed_72 : decode cX6_buildHashed 72 = .ok (.athrow, 1) := by decide +kernel
set_option maxRecDepth 100000 in
set_option maxHeartbeats 4000000 in
theorem z_bh11 (l : Launch) (D : va_G) (cy : Nat → ClassId) (N0 : Nat) (h : qH) (Im : Nat → Prop) (e9 : Nat) (Ok : Nat → Prop) (m9 : Int32) (xr : Option Nat) (L : qKV) (X : Nat → Prop) (tx sl bl kr vr : Nat) (ca mv ed : Int32) (b rb : Nat) (k0 v0 : Int64) (N : Nat) (hR : qRt cy h Im e9 Ok m9 xr L X) (hT : h tx = some (.inr (6, [.int m9, .ref sl, .ref bl, .ref kr, .ref vr, .int ca, .int mv, .int ed]))) (hE : qEd cy h Im X) (hO : ¬ Ok e9) (he9 : e9 < 2 ^ 31) (hN : L.length ≤ N) (hN9 : N ≤ 1000) (hno : qNo L) (hB : h b = some (.inr (1, [.ref rb, .int 1, .int (nI 1), .int (nI 0), va_rf xr, .int (nI e9)]))) (hXb : ¬ X b) : qC l D cy N0 yX6_buildHashed cX6_buildHashed 7 none 8 120 1 6 [.ref tx, .ref b, .int (nI 1), .long k0, .long v0] h (fun v h' => False) (fun E h' => E = "java/lang/UnsupportedOperationException" ∧ h = h') := by
  refine q_ofW (by decide) (by exact Nat.le_of_ble_eq_true rfl) ?_
  intro p e s m below meth c ls C hP hl
  have hx := C.1
  have hb := C.2.1
  have hS : va_S (qA N0) s.heap s.heap [] := va_S.rf
  have hl : lv_has ls 7 [(0, .ref tx), (1, .ref b), (2, .int (nI 1)), (3, .long k0), (5, .long v0)] := hl
  refine lv_iload_n hx hb dX6_buildHashed_0 rfl (lv_at hl 2 rfl) ?_
  refine lv_lookup (tgt := 62) (off := 61) hx hb dX6_buildHashed_1 (by decide +kernel) (by decide +kernel) (by decide) ?_
  exact q_throw (text := "only elements of a sequence have places") C kt_UOE (by decide) hP hS hl.1 dX6_buildHashed_62 dX6_buildHashed_65 dX6_buildHashed_66 dX6_buildHashed_69 dX6_buildHashed_72 (by simp [q_catrf, q_cati, q_catl, q_cata, q_catn]) (by omega) ⟨rfl, rfl⟩

set_option maxRecDepth 100000 in
set_option maxHeartbeats 4000000 in
theorem z_bh12 (l : Launch) (D : va_G) (cy : Nat → ClassId) (N0 : Nat) (h : qH) (Im : Nat → Prop) (e9 : Nat) (Ok : Nat → Prop) (m9 : Int32) (xr : Option Nat) (L : qKV) (X : Nat → Prop) (tx sl bl kr vr : Nat) (ca mv ed : Int32) (b rb : Nat) (k0 v0 : Int64) (N : Nat) (hR : qRt cy h Im e9 Ok m9 xr L X) (hT : h tx = some (.inr (6, [.int m9, .ref sl, .ref bl, .ref kr, .ref vr, .int ca, .int mv, .int ed]))) (hE : qEd cy h Im X) (hO : ¬ Ok e9) (he9 : e9 < 2 ^ 31) (hN : L.length ≤ N) (hN9 : N ≤ 1000) (hno : qNo L) (hB : h b = some (.inr (1, [.ref rb, .int 1, .int (nI 2), .int (nI 0), va_rf xr, .int (nI e9)]))) (hXb : ¬ X b) : qC l D cy N0 yX6_buildHashed cX6_buildHashed 7 none 8 120 1 6 [.ref tx, .ref b, .int (nI 1), .long k0, .long v0] h (fun v h' => False) (fun E h' => E = "java/lang/UnsupportedOperationException" ∧ h = h') := by
  refine q_ofW (by decide) (by exact Nat.le_of_ble_eq_true rfl) ?_
  intro p e s m below meth c ls C hP hl
  have hx := C.1
  have hb := C.2.1
  have hS : va_S (qA N0) s.heap s.heap [] := va_S.rf
  have hl : lv_has ls 7 [(0, .ref tx), (1, .ref b), (2, .int (nI 1)), (3, .long k0), (5, .long v0)] := hl
  refine lv_iload_n hx hb dX6_buildHashed_0 rfl (lv_at hl 2 rfl) ?_
  refine lv_lookup (tgt := 62) (off := 61) hx hb dX6_buildHashed_1 (by decide +kernel) (by decide +kernel) (by decide) ?_
  exact q_throw (text := "only elements of a sequence have places") C kt_UOE (by decide) hP hS hl.1 dX6_buildHashed_62 dX6_buildHashed_65 dX6_buildHashed_66 dX6_buildHashed_69 dX6_buildHashed_72 (by simp [q_catrf, q_cati, q_catl, q_cata, q_catn]) (by omega) ⟨rfl, rfl⟩
theorem dX6_buildHashed_73 : decode cX6_buildHashed 73 = .ok (.aload_n 1, 1) := by decide +kernel
theorem dX6_buildHashed_74 : decode cX6_buildHashed 74 = .ok (.aload_n 1, 1) := by decide +kernel
theorem dX6_buildHashed_75 : decode cX6_buildHashed 75 = .ok (.getfield 350, 3) := by decide +kernel
theorem dX6_buildHashed_78 : decode cX6_buildHashed 78 = .ok (.aload_n 1, 1) := by decide +kernel
theorem dX6_buildHashed_79 : decode cX6_buildHashed 79 = .ok (.getfield 470, 3) := by decide +kernel
theorem dX6_buildHashed_82 : decode cX6_buildHashed 82 = .ok (.aload_n 0, 1) := by decide +kernel
theorem dX6_buildHashed_83 : decode cX6_buildHashed 83 = .ok (.getfield 34, 3) := by decide +kernel
theorem dX6_buildHashed_86 : decode cX6_buildHashed 86 = .ok (.lload_n 3, 1) := by decide +kernel
theorem dX6_buildHashed_87 : decode cX6_buildHashed 87 = .ok (.invokestatic 208, 3) := by decide +kernel
theorem dX6_buildHashed_90 : decode cX6_buildHashed 90 = .ok (.putfield 350, 3) := by decide +kernel
set_option maxRecDepth 100000 in
set_option maxHeartbeats 4000000 in
theorem z_bh21 (l : Launch) (D : va_G) (cy : Nat → ClassId) (N0 : Nat) (h : qH) (Im : Nat → Prop) (e9 : Nat) (Ok : Nat → Prop) (m9 : Int32) (xr : Option Nat) (L : qKV) (X : Nat → Prop) (tx sl bl kr vr : Nat) (ca mv ed : Int32) (b rb : Nat) (k0 v0 : Int64) (N : Nat) (hR : qRt cy h Im e9 Ok m9 xr L X) (hT : h tx = some (.inr (6, [.int m9, .ref sl, .ref bl, .ref kr, .ref vr, .int ca, .int mv, .int ed]))) (hE : qEd cy h Im X) (hO : ¬ Ok e9) (he9 : e9 < 2 ^ 31) (hN : L.length ≤ N) (hN9 : N ≤ 1000) (hno : qNo L) (hB : h b = some (.inr (1, [.ref rb, .int 1, .int (nI 1), .int (nI 0), va_rf xr, .int (nI e9)]))) (hXb : ¬ X b) : qC l D cy N0 yX6_buildHashed cX6_buildHashed 7 none 26 1800 50 (rMs N 7) [.ref tx, .ref b, .int (nI 2), .long k0, .long v0] h (fun v h' => v = none ∧ ∃ (h1 : qH) (x2 : Option Nat) (X2 Im2 : Nat → Prop), h' = qs h1 b (.inr (1, [.ref rb, .int 1, .int (nI 1), .int (nI 0), va_rf x2, .int (nI e9)])) ∧ qRt cy h1 Im2 e9 Ok m9 x2 (thD L k0) X2 ∧ qEd cy h1 Im2 X2 ∧ qCh h Im X h1 Im2 X2) (fun E h' => False) := by
  refine q_ofW (by decide) (by exact Nat.le_of_ble_eq_true rfl) ?_
  intro p e s m below meth c ls C hP hl
  have hx := C.1
  have hb := C.2.1
  have hS : va_S (qA N0) s.heap s.heap [] := va_S.rf
  have hl : lv_has ls 7 [(0, .ref tx), (1, .ref b), (2, .int (nI 2)), (3, .long k0), (5, .long v0)] := hl
  refine lv_iload_n hx hb dX6_buildHashed_0 rfl (lv_at hl 2 rfl) ?_
  refine lv_lookup (tgt := 73) (off := 72) hx hb dX6_buildHashed_1 (by decide +kernel) (by decide +kernel) (by decide) ?_
  refine lv_aload_n hx hb dX6_buildHashed_73 rfl (lv_at hl 1 rfl) ?_
  refine lv_aload_n hx hb dX6_buildHashed_74 rfl (lv_at hl 1 rfl) ?_
  refine q_getN C hP hB rfl inX1 4 (by decide) (by decide +kernel) rfl dX6_buildHashed_75 ?_
  refine lv_aload_n hx hb dX6_buildHashed_78 rfl (lv_at hl 1 rfl) ?_
  refine q_getN C hP hB rfl inX1 5 (by decide) (by decide +kernel) rfl dX6_buildHashed_79 ?_
  refine lv_aload_n hx hb dX6_buildHashed_82 rfl (lv_at hl 0 rfl) ?_
  refine q_get C hP hT rfl inX6 0 (by decide) g68 rfl dX6_buildHashed_83 ?_
  refine lv_lload_n hx hb dX6_buildHashed_86 rfl (lv_at hl 3 rfl) ?_
  refine q_callS (rest := [.ref b]) C (c_X3_removed l D cy N0 h Im e9 Ok m9 xr L X k0 N hR hE hO he9 hN (by omega) hno) kX3_removed g797 g798 hP hS (by first | decide | omega) hl.1 rfl (by simp [q_catrf, q_cati, q_catl, q_cata, q_catn]) (by first | decide | omega) dX6_buildHashed_87 (fun q ce E h' H1 locs1 hE => hE.elim) (fun v hh1 H locs hq hP hS => ?_)
  obtain ⟨x2, X2, Im2, rfl, hR2, hE2, hC2⟩ := hq
  have hB2 := hC2.1 _ _ hB hXb
  refine q_putN C hP hS hB2 rfl inX1 tyX1 tyX1_ok nmX1 4 (by decide) (by decide +kernel) rfl (q_narf _) (q_firf _) (Nat.le_of_ble_eq_true rfl) dX6_buildHashed_90 (fun H locs hP hS => ?_)
  replace hB2 : (qs hh1 b (.inr (1, [.ref rb, .int 1, .int (nI 1), .int (nI 0), va_rf x2, .int (nI e9)]))) b = some (.inr (1, [.ref rb, .int 1, .int (nI 1), .int (nI 0), va_rf x2, .int (nI e9)])) := qs_self
  replace hP : qP D N0 (qs hh1 b (.inr (1, [.ref rb, .int 1, .int (nI 1), .int (nI 0), va_rf x2, .int (nI e9)]))) H := hP
  exact q_vret C hP hS ⟨rfl, _, x2, X2, Im2, rfl, hR2, hE2, hC2⟩ (by omega) dX6_buildHashed_93

set_option maxRecDepth 100000 in
set_option maxHeartbeats 4000000 in
theorem z_bh22 (l : Launch) (D : va_G) (cy : Nat → ClassId) (N0 : Nat) (h : qH) (Im : Nat → Prop) (e9 : Nat) (Ok : Nat → Prop) (m9 : Int32) (xr : Option Nat) (L : qKV) (X : Nat → Prop) (tx sl bl kr vr : Nat) (ca mv ed : Int32) (b rb : Nat) (k0 v0 : Int64) (N : Nat) (hR : qRt cy h Im e9 Ok m9 xr L X) (hT : h tx = some (.inr (6, [.int m9, .ref sl, .ref bl, .ref kr, .ref vr, .int ca, .int mv, .int ed]))) (hE : qEd cy h Im X) (hO : ¬ Ok e9) (he9 : e9 < 2 ^ 31) (hN : L.length ≤ N) (hN9 : N ≤ 1000) (hno : qNo L) (hB : h b = some (.inr (1, [.ref rb, .int 1, .int (nI 2), .int (nI 0), va_rf xr, .int (nI e9)]))) (hXb : ¬ X b) : qC l D cy N0 yX6_buildHashed cX6_buildHashed 7 none 26 1800 50 (rMs N 7) [.ref tx, .ref b, .int (nI 2), .long k0, .long v0] h (fun v h' => v = none ∧ ∃ (h1 : qH) (x2 : Option Nat) (X2 Im2 : Nat → Prop), h' = qs h1 b (.inr (1, [.ref rb, .int 1, .int (nI 2), .int (nI 0), va_rf x2, .int (nI e9)])) ∧ qRt cy h1 Im2 e9 Ok m9 x2 (thD L k0) X2 ∧ qEd cy h1 Im2 X2 ∧ qCh h Im X h1 Im2 X2) (fun E h' => False) := by
  refine q_ofW (by decide) (by exact Nat.le_of_ble_eq_true rfl) ?_
  intro p e s m below meth c ls C hP hl
  have hx := C.1
  have hb := C.2.1
  have hS : va_S (qA N0) s.heap s.heap [] := va_S.rf
  have hl : lv_has ls 7 [(0, .ref tx), (1, .ref b), (2, .int (nI 2)), (3, .long k0), (5, .long v0)] := hl
  refine lv_iload_n hx hb dX6_buildHashed_0 rfl (lv_at hl 2 rfl) ?_
  refine lv_lookup (tgt := 73) (off := 72) hx hb dX6_buildHashed_1 (by decide +kernel) (by decide +kernel) (by decide) ?_
  refine lv_aload_n hx hb dX6_buildHashed_73 rfl (lv_at hl 1 rfl) ?_
  refine lv_aload_n hx hb dX6_buildHashed_74 rfl (lv_at hl 1 rfl) ?_
  refine q_getN C hP hB rfl inX1 4 (by decide) (by decide +kernel) rfl dX6_buildHashed_75 ?_
  refine lv_aload_n hx hb dX6_buildHashed_78 rfl (lv_at hl 1 rfl) ?_
  refine q_getN C hP hB rfl inX1 5 (by decide) (by decide +kernel) rfl dX6_buildHashed_79 ?_
  refine lv_aload_n hx hb dX6_buildHashed_82 rfl (lv_at hl 0 rfl) ?_
  refine q_get C hP hT rfl inX6 0 (by decide) g68 rfl dX6_buildHashed_83 ?_
  refine lv_lload_n hx hb dX6_buildHashed_86 rfl (lv_at hl 3 rfl) ?_
  refine q_callS (rest := [.ref b]) C (c_X3_removed l D cy N0 h Im e9 Ok m9 xr L X k0 N hR hE hO he9 hN (by omega) hno) kX3_removed g797 g798 hP hS (by first | decide | omega) hl.1 rfl (by simp [q_catrf, q_cati, q_catl, q_cata, q_catn]) (by first | decide | omega) dX6_buildHashed_87 (fun q ce E h' H1 locs1 hE => hE.elim) (fun v hh1 H locs hq hP hS => ?_)
  obtain ⟨x2, X2, Im2, rfl, hR2, hE2, hC2⟩ := hq
  have hB2 := hC2.1 _ _ hB hXb
  refine q_putN C hP hS hB2 rfl inX1 tyX1 tyX1_ok nmX1 4 (by decide) (by decide +kernel) rfl (q_narf _) (q_firf _) (Nat.le_of_ble_eq_true rfl) dX6_buildHashed_90 (fun H locs hP hS => ?_)
  replace hB2 : (qs hh1 b (.inr (1, [.ref rb, .int 1, .int (nI 2), .int (nI 0), va_rf x2, .int (nI e9)]))) b = some (.inr (1, [.ref rb, .int 1, .int (nI 2), .int (nI 0), va_rf x2, .int (nI e9)])) := qs_self
  replace hP : qP D N0 (qs hh1 b (.inr (1, [.ref rb, .int 1, .int (nI 2), .int (nI 0), va_rf x2, .int (nI e9)]))) H := hP
  exact q_vret C hP hS ⟨rfl, _, x2, X2, Im2, rfl, hR2, hE2, hC2⟩ (by omega) dX6_buildHashed_93
