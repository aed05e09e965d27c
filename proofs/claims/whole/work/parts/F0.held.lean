/-! what a public call leaves -/
theorem zand1 (y : Int32) : (y &&& 1) = 0 ∨ (y &&& 1) = 1 := by
  have h : (y &&& 1).toBitVec.toNat = y.toBitVec.toNat % 2 := by
    rw [Int32.toBitVec_and, BitVec.toNat_and]
    exact Nat.and_one_is_mod _
  rcases Nat.mod_two_eq_zero_or_one y.toBitVec.toNat with e | e
  · exact Or.inl (Int32.toBitVec_inj.mp (BitVec.eq_of_toNat_eq (by rw [h, e]; rfl)))
  · exact Or.inr (Int32.toBitVec_inj.mp (BitVec.eq_of_toNat_eq (by rw [h, e]; rfl)))
/-- after a public call: S' and W' stand -/
def zPo (cy : Nat → ClassId) (h : qH) (x : Nat) (mk : Int32) (sl bl kr vr E : Nat) (bd br : Nat → Nat) (Im : Nat → Prop) (Xb : Nat → Nat → Prop) (S' : Nat → qSlot) (W' : qWo) (h' : qH) : Prop := ∃ (E' : Nat) (fs' : Nat → Option Nat) (eb' : Nat → Nat) (Im' : Nat → Prop) (Xb' : Nat → Nat → Prop) (g' : Nat → Nat), E' ≤ E + 1 ∧ zQ cy h' x mk sl bl kr vr E' fs' bd br eb' Im' Xb' g' S' W' ∧ zFr h h' x sl kr vr bd br Xb ∧ (∀ b, b < 4 → ∀ q, Xb' b q → Xb b q ∨ h q = none) ∧ ∀ q, Im' q → zNc Im Xb q ∨ h q = none
section ZF0
variable {cy : Nat → ClassId} {h h' : qH} {x sl bl kr vr E : Nat} {mk : Int32} {fs fs' : Nat → Option Nat} {bd br eb : Nat → Nat} {Im : Nat → Prop} {Xb : Nat → Nat → Prop} {g g' : Nat → Nat} {S S' : Nat → qSlot} {W W' : qWo}
theorem zQ.po (q : zQ cy h' x mk sl bl kr vr E fs' bd br eb Im Xb g' S' W') (f : zFr h h' x sl kr vr bd br Xb) : zPo cy h x mk sl bl kr vr E bd br Im Xb S' W' h' := ⟨E, fs', eb, Im, Xb, g', Nat.le_succ _, q, f, fun _ _ _ z => Or.inl z, fun _ z => Or.inl (Or.inl z)⟩
theorem zQ.po0 (q : zQ cy h x mk sl bl kr vr E fs bd br eb Im Xb g S W) : zPo cy h x mk sl bl kr vr E bd br Im Xb S W h := q.po zFr.rf
theorem zQ.held (q : zQ cy h x mk sl bl kr vr E fs bd br eb Im Xb g S W) {i a : Nat} (hi : i < 24) (e : fs i = some a) : ¬ (S i).1 = -1 ∧ zHd cy h Im (zOk E eb S) mk g (S i) a := by
  rcases q.2.2.1 i hi with ⟨z1, z2⟩ | ⟨b, z1, z2, z3⟩
  · rw [e] at z1; cases z1
  · rw [e] at z1; cases z1; exact ⟨z2, z3⟩
theorem zQ.hs (q : zQ cy h x mk sl bl kr vr E fs bd br eb Im Xb g S W) : qHs h fs := fun i hi a e => by
  obtain ⟨-, x1, x2, x3, x4, dv, z1, z2⟩ := q.held hi e
  exact ⟨_, x1, x2, x3, x4, dv, _, zHd.hd z1 z2⟩
theorem zkd0 {kd : Int32} (h1 : kd ∈ [(-1 : Int32), 0, 1, 2, 3, 4, 5, 6]) (h2 : ¬ kd = -1) : 0 ≤ kd := by
  simp only [List.mem_cons, List.not_mem_nil, or_false] at h1
  rcases h1 with rfl | rfl | rfl | rfl | rfl | rfl | rfl | rfl <;> revert h2 <;> decide
/-- what a slot holds, of the kinds ks -/
theorem z_heldIn (l : Launch) (D : va_G) (N0 : Nat) (n ks : Int32) (hq : zQ cy h x mk sl bl kr vr E fs bd br eb Im Xb g S W) (hI : ∀ i, i < 28 → qOk (S i).1 (S i).2.1) : qC l D cy N0 yX6_heldIn cX6_heldIn 4 (some (.object RX2)) 8 125 2 12 [.ref x, .int n, .int ks] h
    (fun v h' => h = h' ∧ ∃ i a, i < 24 ∧ n = nI i ∧ fs i = some a ∧ v = some (.ref a) ∧ bHo (S i).1 ks = true ∧ ∃ (x1 x2 x3 x4 : Option Nat) (dv : Int32), h a = some (.inr (2, [.int (S i).1, va_rf x1, va_rf x2, va_rf x3, va_rf x4, .int dv])) ∧ zV cy h Im (zOk E eb S) mk g (S i) x1 x2 x3 x4 dv)
    (fun E9 h' => h = h' ∧ ((E9 = "java/lang/IllegalArgumentException" ∧ bSl n = false) ∨ (E9 = "java/lang/IllegalStateException" ∧ ∃ i, i < 24 ∧ n = nI i ∧ bHo (S i).1 ks = false))) :=
  (c_X6_heldIn l D cy N0 h x sl bl kr vr mk _ _ _ fs n ks hq.1.1 hq.2.1.1 hq.hs).mono (fun v h' z => by
    obtain ⟨rfl, i, a, k, x1, x2, x3, x4, dp, t, hi, rfl, e, rfl, hd, hn⟩ := z
    obtain ⟨hk, y1, y2, y3, y4, dv, z1, z2⟩ := hq.held hi e
    have e2 := hd.1.symm.trans z1
    simp only [Option.some.injEq, Sum.inr.injEq, Prod.mk.injEq, List.cons.injEq, Value.int.injEq, true_and, and_true] at e2
    obtain ⟨rfl, -⟩ := e2
    exact ⟨rfl, i, a, hi, rfl, e, rfl, bHo_t (zkd0 (hI i (by omega)).2.2 hk) ((zand1 _).resolve_left hn), y1, y2, y3, y4, dv, z1, z2⟩) (fun E9 h' z => by
    obtain ⟨rfl, z⟩ := z
    refine ⟨rfl, z.imp (fun y => ⟨y.1, bSl_f y.2⟩) (fun ⟨y1, i, hi, y2, y3⟩ => ⟨y1, i, hi, y2, ?_⟩)⟩
    rcases y3 with e | ⟨a, k, x1, x2, x3, x4, dp, t, e, hd, hn⟩
    · rcases hq.2.2.1 i hi with ⟨w1, w2⟩ | ⟨b, w1, -⟩
      · rw [w2]; exact bHo_f1 (by decide)
      · rw [e] at w1; cases w1
    · obtain ⟨hk, y1, y2, y3, y4, dv, z1, z2⟩ := hq.held hi e
      have e2 := hd.1.symm.trans z1
      simp only [Option.some.injEq, Sum.inr.injEq, Prod.mk.injEq, List.cons.injEq, Value.int.injEq, true_and, and_true] at e2
      obtain ⟨rfl, -⟩ := e2
      exact bHo_f2 (by rw [hn]; decide))
end ZF0
