/-! an edit's end: the node anew -/
theorem qEd.no {cy : Nat → ClassId} {h : qH} {Im X : Nat → Prop} (e : qEd cy h Im X) : qEd cy h Im (fun _ => False) := ⟨fun _ z => z.elim, fun b z => e.2.1 b (z.imp_right (fun q => q.elim)), e.2.2.1, e.2.2.2⟩
/-- what an edit may change has grown: X0 was at work (and became X1), NI and NX are new -/
theorem ed_ext {cy : Nat → ClassId} {h h1 h2 : qH} {Im X X0 Im1 X1 NI NX : Nat → Prop} (hE : qEd cy h Im X) (hE1 : qEd cy h1 Im1 X1) (hX0 : ∀ b, X0 b → X b) (hc : qCh h Im X0 h1 Im1 X1) {S : Nat → Prop} (hS : ∀ b, S b → X b ∧ ¬ X0 b)
    (fr : ∀ b o, h1 b = some o → ¬ S b → h2 b = some o) (fd : ∀ b o, h1 b = some o → ∃ o', h2 b = some o') (n1 : ∀ b, NI b → h1 b = none) (n2 : ∀ b, NX b → h1 b = none) (n3 : ∀ b, NI b → ¬ NX b) (d1 : ∀ b, NI b ∨ NX b → ∃ o, h2 b = some o) : qEd cy h2 (fun b => Im1 b ∨ NI b) (fun b => X b ∨ X1 b ∨ NX b) ∧ qCh h Im X h2 (fun b => Im1 b ∨ NI b) (fun b => X b ∨ X1 b ∨ NX b) := by
  have dx : ∀ b, X b → h b ≠ none := fun b z q => by obtain ⟨o, ho⟩ := hE.2.1 b (Or.inr z); rw [q] at ho; cases ho
  have d9 : ∀ b, h1 b = none → h b = none := fun b q => qno hc.2.2.2.2 q
  have di : ∀ b, Im1 b ∨ X1 b → h1 b ≠ none := fun b z q => by obtain ⟨o, ho⟩ := hE1.2.1 b z; rw [q] at ho; cases ho
  refine ⟨⟨fun b z hi => ?_, fun b z => ?_, ?_, Or.inl hE1.2.2.2⟩, ⟨fun b o hb nx => ?_, fun b z => Or.inl (hc.2.1 b z), fun b z => ?_, fun b z => ?_, fun b o hb => ?_⟩⟩
  · rcases hi with hi | hi
    · rcases z with z | z | z
      · rcases hc.2.2.1 b hi with q | q
        · exact hE.1 b z q
        · exact dx b z q
      · exact hE1.1 b z hi
      · exact di b (Or.inl hi) (n2 b z)
    · rcases z with z | z | z
      · exact dx b z (d9 b (n1 b hi))
      · exact di b (Or.inr z) (n1 b hi)
      · exact n3 b hi z
  · rcases z with (z | z) | z | z | z
    · obtain ⟨o, ho⟩ := hE1.2.1 b (Or.inl z); exact fd b o ho
    · exact d1 b (Or.inl z)
    · obtain ⟨o, ho⟩ := hE.2.1 b (Or.inr z)
      obtain ⟨o', h9⟩ := hc.2.2.2.2 b o ho
      exact fd b o' h9
    · obtain ⟨o, ho⟩ := hE1.2.1 b (Or.inr z); exact fd b o ho
    · exact d1 b (Or.inr z)
  · exact fr _ _ hE1.2.2.1 (fun z => hE.1 _ (hS _ z).1 hE.2.2.2)
  · exact fr b o (hc.1 b o hb (fun z => nx (hX0 b z))) (fun z => nx (hS b z).1)
  · rcases z with z | z
    · exact hc.2.2.1 b z
    · exact Or.inr (d9 b (n1 b z))
  · rcases z with z | z | z
    · exact Or.inl z
    · exact (hc.2.2.2.1 b z).imp_left (hX0 b)
    · exact Or.inr (d9 b (n2 b z))
  · obtain ⟨o', h9⟩ := hc.2.2.2.2 b o hb
    exact fd b o' h9
theorem trK_re {m : Int32} {r : Nat} {L : qKV} {k x : Int64} (h : qNo L) : trK m r (xRe L k x) = xRe (trK m r L) k x := by
  cases r with
  | zero => exact thO_re h
  | succ r =>
    show (List.range 32).flatMap _ = xRe ((List.range 32).flatMap _) k x
    unfold xRe
    rw [List.map_flatMap]
    refine congrArg (fun f => (List.range 32).flatMap f) (funext fun v => ?_)
    have e : thK m (6 - r) v (List.map (fun p => if p.fst = k then (k, x) else p) L) = (thK m (6 - r) v L).map (fun p => if p.fst = k then (k, x) else p) := thK_re
    show thF m (6 - r) (List.map (fun p => if p.fst = k then (k, x) else p) L) v = (thF m (6 - r) L v).map _
    unfold thF thS
    rw [e, List.length_map]
    split
    · rfl
    · rfl
theorem trM_re {m : Int32} {r : Nat} {L : qKV} {k x : Int64} : trM m r (xRe L k x) = trM m r L ∧ trKb m r (xRe L k x) = trKb m r L ∧ trNb m r (xRe L k x) = trNb m r L := by
  cases r with
  | zero => exact ⟨rfl, rfl, rfl⟩
  | succ r =>
    have e : ∀ v, (thK m (6 - r) v (xRe L k x)).length = (thK m (6 - r) v L).length := fun v => by rw [thK_re, xRe_len]
    have eS : thS m (6 - r) (xRe L k x) = thS m (6 - r) L := funext fun v => by unfold thS; rw [e]
    have eM : thM m (6 - r) (xRe L k x) = thM m (6 - r) L := funext fun v => by unfold thM; rw [e]
    refine ⟨?_, ?_, ?_⟩
    · show (List.range 32).flatMap _ = (List.range 32).flatMap _
      refine congrArg (fun f => (List.range 32).flatMap f) (funext fun v => ?_)
      unfold thG; rw [eM]
    · show tqB _ 32 = tqB _ 32; rw [eS]
    · show tqB _ 32 = tqB _ 32; rw [eM]
section ASM
variable {cy : Nat → ClassId} {h h1 h2 : qH} {Im Im1 : Nat → Prop} {e : Nat} {Ok : Nat → Prop} {m : Int32} {r a n : Nat} {L : qKV} {X X1 : Nat → Prop} {ka va na : Nat} {C : Nat → Nat} {Xs : Nat → Nat → Prop}
/-- a key of this node gets another value -/
theorem own_set (hW : qOw cy h Im e Ok m r a L L.length X ka va na C Xs) (hE : qEd cy h Im X) (ne : ¬ Ok e) (hn : qNo L) {j : Nat} {k x0 x : Int64} (hj : (trK m r L)[j]? = some (k, x0)) (fr : ∀ b o, h b = some o → b ≠ va → h2 b = some o) (fv : h2 va = some (thJ cy ((List.map Prod.snd (trK m r L)).set j x))) :
    ∃ (X2 Im2 : Nat → Prop), qTr cy h2 Im2 e Ok m r a (thP L k x) X2 ∧ qEd cy h2 Im2 X2 ∧ qCh h Im X h2 Im2 X2 := by
  obtain ⟨o1, o2, o3, o4, o5⟩ := hW.own ne
  obtain ⟨⟨g1, g2, g3, g4, g5, g6, -⟩, gx, gk⟩ := hW
  have hne : trK m r L ≠ [] := fun z => by rw [z] at hj; cases hj
  have hL : ∃ p ∈ L, p.1 = k := by
    have hm := List.mem_of_getElem? hj
    cases r with
    | zero => exact ⟨_, (thO_perm L).mem_iff.mp hm, rfl⟩
    | succ r => exact ⟨_, (trK_mem.mp hm).1, rfl⟩
  have eP : thP L k x = xRe L k x := thP_yes (xHas_iff.mpr hL)
  have eK : trK m r (xRe L k x) = (trK m r L).set j (k, x) := by rw [trK_re hn, xRe_set (trK_no hn) hj]
  obtain ⟨m1, m2⟩ := map_set1 (x := x) hj
  obtain ⟨t1, t2, t3⟩ := trM_re (m := m) (r := r) (L := L) (k := k) (x := x)
  have nv : ∀ b, Im b → b ≠ va := fun b z q => hE.1 va (o2 hne) (q ▸ z)
  have na1 : a ≠ va := fun q => by rw [q] at g1; rw [g3] at g1; cases g1
  have nn : na ≠ va := fun q => by rw [q] at g4; rw [g3] at g4; unfold thJ thA at g4; simp at g4
  have hl : (xRe L k x).length = L.length := xRe_len
  refine ⟨X, Im, ?_, ⟨hE.1, fun b z => ?_, fr _ _ hE.2.2.1 (nv _ hE.2.2.2), hE.2.2.2⟩, ⟨fun b o hb nx => fr b o hb (fun q => nx (q ▸ o2 hne)), fun _ z => z, fun _ z => Or.inl z, fun _ z => Or.inl z, fun b o hb => ?_⟩⟩
  · rw [eP]
    refine qTr.mk (ow := e) (ka := ka) (va := va) (na := na) (C := C) (Xs := Xs) ⟨?_, ?_, ?_, ?_, g5, g6, Or.inl ⟨rfl, o1, fun _ => o2 hne, fun z => ?_, ?_, ?_⟩⟩ ?_ (fun j' v z => ?_)
    · rw [t2, t3, hl]; exact fr _ _ g1 na1
    · rw [eK, m1]; exact fr _ _ g2 (nv _ g5)
    · rw [eK, m2]; exact fv
    · rw [t1]; exact fr _ _ g4 nn
    · rw [eK] at z
      exact absurd ((List.set_eq_nil_iff _ _).mp z) hne
    · rw [t1]; exact o4
    · rw [t1]; exact o5
    · rw [t1]; exact gx
    · rw [t1] at z
      obtain ⟨r', rfl, t⟩ := gk j' v z
      refine ⟨r', rfl, ?_⟩
      have hv := (trM_mem.mp (List.mem_of_getElem? z)).2
      have hm := (trK_mem.mp (List.mem_of_getElem? hj)).2
      have e9 : thK m (6 - r') v (xRe L k x) = thK m (6 - r') v L := by
        rw [thK_re]
        refine xRe_no (xHas_no.mpr fun p hp ek => ?_)
        have hp2 := (thK_mem.mp hp).2
        rw [ek] at hp2
        unfold thS at hm
        unfold thM at hv
        have h8 := of_decide_eq_true hm
        have h9 := of_decide_eq_true hv
        dsimp only at h8
        rw [hp2] at h8
        omega
      rw [e9]
      refine t.keep (fun b o hb hx => fr b o hb (fun q => ?_)) (fun _ z => z)
      rcases hx with hx | hx
      · exact nv b hx q
      · exact (gx.1 j' (List.getElem?_eq_some_iff.mp z).1 b hx).2.2.1 q
  · obtain ⟨o, ho⟩ := hE.2.1 b z
    by_cases q : b = va
    · exact ⟨_, q ▸ fv⟩
    · exact ⟨o, fr b o ho q⟩
  · by_cases q : b = va
    · exact ⟨_, q ▸ fv⟩
    · exact ⟨o, fr b o hb q⟩
/-- a key comes into this node (by its number, or at the bottom): L' has it at place j -/
theorem own_ins (hW : qOw cy h Im e Ok m r a L n X ka va na C Xs) (hE : qEd cy h Im X) (ne : ¬ Ok e) {L' : qKV} {j : Nat} {p : Int64 × Int64} (eK : trK m r L' = (trK m r L).take j ++ p :: (trK m r L).drop j) (eM : trM m r L' = trM m r L) (eN : trNb m r L' = trNb m r L) (hk : ∀ v r', r = r' + 1 → v ∈ trM m r L → thK m (6 - r') v L' = thK m (6 - r') v L)
    {ka' va' : Nat} (n1 : h ka' = none) (n2 : h va' = none) (n3 : ka' ≠ va') (fr : ∀ b o, h b = some o → b ≠ a → h2 b = some o) (fd : ∀ b o, h b = some o → ∃ o', h2 b = some o') (fa : h2 a = some (thNo (7 - r) e (trKb m r L') (trNb m r L') L'.length ka' va' na)) (fk : h2 ka' = some (thJ cy (thIn (List.map Prod.fst (trK m r L)) j p.1))) (fv : h2 va' = some (thJ cy (thIn (List.map Prod.snd (trK m r L)) j p.2))) :
    ∃ (X2 Im2 : Nat → Prop), qTr cy h2 Im2 e Ok m r a L' X2 ∧ qEd cy h2 Im2 X2 ∧ qCh h Im X h2 Im2 X2 := by
  obtain ⟨o1, o2, o3, o4, o5⟩ := hW.own ne
  obtain ⟨⟨g1, g2, g3, g4, g5, g6, -⟩, gx, gk⟩ := hW
  have hnn : trK m r L' ≠ [] := fun z => by rw [eK] at z; simp at z
  have q1 : na ≠ a := fun q => by rw [q] at g4; rw [g1] at g4; cases g4
  obtain ⟨i1, i2⟩ := map_in (K := trK m r L) (j := j) (p := p)
  obtain ⟨hed, hch⟩ := ed_ext (NI := fun b => b = ka') (NX := fun b => b = va') (S := fun b => b = a) (X0 := fun _ => False) (h2 := h2) hE hE.no (fun _ z => z.elim) qCh.rf (fun b z => ⟨z ▸ o1, fun z => z⟩) (fun b o hb n => fr b o hb n) fd (fun b z => z ▸ n1) (fun b z => z ▸ n2) (fun b z z2 => n3 (z.symm.trans z2)) (fun b z => z.elim (fun z => ⟨_, z ▸ fk⟩) (fun z => ⟨_, z ▸ fv⟩))
  have nv : ∀ b, X b → b ≠ va' := fun b z q => by obtain ⟨o, ho⟩ := hE.2.1 b (Or.inr z); rw [q, n2] at ho; cases ho
  refine ⟨_, _, ?_, hed, hch⟩
  refine qTr.mk (ow := e) (ka := ka') (va := va') (na := na) (C := C) (Xs := Xs) ⟨fa, ?_, ?_, ?_, Or.inr rfl, g6, Or.inl ⟨rfl, Or.inl o1, fun _ => Or.inr (Or.inr rfl), fun z => absurd z hnn, ?_, ?_⟩⟩ ?_ (fun j' v z => ?_)
  · rw [eK, i1]; exact fk
  · rw [eK, i2]; exact fv
  · rw [eM]; exact fr _ _ g4 q1
  · rw [eM]; exact fun z => Or.inl (o4 z)
  · rw [eM]; exact fun z => Or.inl (o5 z)
  · rw [eM]
    refine ⟨fun j hj b z => ?_, gx.2⟩
    obtain ⟨z1, z2, z3, z4⟩ := gx.1 j hj b z
    exact ⟨Or.inl z1, z2, nv b z1, z4⟩
  · rw [eM] at z
    obtain ⟨r', rfl, t⟩ := gk j' v z
    refine ⟨r', rfl, ?_⟩
    rw [hk v r' rfl (List.mem_of_getElem? z)]
    refine t.keep (fun b o hb hx => fr b o hb (fun q => ?_)) (fun _ z => Or.inl z)
    rcases hx with hx | hx
    · exact hE.1 a o1 (q ▸ hx)
    · exact (gx.1 j' (List.getElem?_eq_some_iff.mp z).1 b hx).2.1 q
/-- a key goes out of this node -/
theorem own_del (hW : qOw cy h Im e Ok m r a L n X ka va na C Xs) (hE : qEd cy h Im X) (ne : ¬ Ok e) {L' : qKV} {j : Nat} (hj : j < (trK m r L).length) (eK : trK m r L' = (trK m r L).eraseIdx j) (eM : trM m r L' = trM m r L) (eN : trNb m r L' = trNb m r L) (hk : ∀ v r', r = r' + 1 → v ∈ trM m r L → thK m (6 - r') v L' = thK m (6 - r') v L)
    {ka' va' : Nat} (ho : ((trK m r L).length ≤ 1 ∧ ka' = cy 99 ∧ va' = cy 99) ∨ (1 < (trK m r L).length ∧ h ka' = none ∧ h va' = none ∧ ka' ≠ va')) (fr : ∀ b o, h b = some o → b ≠ a → h2 b = some o) (fd : ∀ b o, h b = some o → ∃ o', h2 b = some o') (fa : h2 a = some (thNo (7 - r) e (trKb m r L') (trNb m r L') L'.length ka' va' na)) (fk : h2 ka' = some (thJ cy ((List.map Prod.fst (trK m r L)).eraseIdx j))) (fv : h2 va' = some (thJ cy ((List.map Prod.snd (trK m r L)).eraseIdx j))) :
    ∃ (X2 Im2 : Nat → Prop), qTr cy h2 Im2 e Ok m r a L' X2 ∧ qEd cy h2 Im2 X2 ∧ qCh h Im X h2 Im2 X2 := by
  obtain ⟨o1, o2, o3, o4, o5⟩ := hW.own ne
  obtain ⟨⟨g1, g2, g3, g4, g5, g6, -⟩, gx, gk⟩ := hW
  have hl : (trK m r L').length = (trK m r L).length - 1 := by rw [eK, List.length_eraseIdx_of_lt hj]
  have q1 : na ≠ a := fun q => by rw [q] at g4; rw [g1] at g4; cases g4
  obtain ⟨hed, hch⟩ := ed_ext (NI := fun b => 1 < (trK m r L).length ∧ b = ka') (NX := fun b => 1 < (trK m r L).length ∧ b = va') (S := fun b => b = a) (X0 := fun _ => False) (h2 := h2) hE hE.no (fun _ z => z.elim) qCh.rf (fun b z => ⟨z ▸ o1, fun z => z⟩) (fun b o hb n => fr b o hb n) fd
    (fun b z => ho.elim (fun q => absurd z.1 (by omega)) (fun q => z.2 ▸ q.2.1)) (fun b z => ho.elim (fun q => absurd z.1 (by omega)) (fun q => z.2 ▸ q.2.2.1)) (fun b z z2 => ho.elim (fun q => absurd z.1 (by omega)) (fun q => q.2.2.2 (z.2.symm.trans z2.2))) (fun b z => z.elim (fun z => ⟨_, z.2 ▸ fk⟩) (fun z => ⟨_, z.2 ▸ fv⟩))
  have nv : ∀ b, X b → b ≠ va' := fun b z q => by
    rcases ho with w | w
    · exact hE.1 b z (by rw [q, w.2.2]; exact hE.2.2.2)
    · obtain ⟨o, ho⟩ := hE.2.1 b (Or.inr z); rw [q, w.2.2.1] at ho; cases ho
  refine ⟨_, _, ?_, hed, hch⟩
  refine qTr.mk (ow := e) (ka := ka') (va := va') (na := na) (C := C) (Xs := Xs) ⟨fa, ?_, ?_, ?_, ?_, g6, Or.inl ⟨rfl, Or.inl o1, fun z => ?_, fun z => ?_, ?_, ?_⟩⟩ ?_ (fun j' v z => ?_)
  · rw [eK, map_er]; exact fk
  · rw [eK, map_er]; exact fv
  · rw [eM]; exact fr _ _ g4 q1
  · rcases ho with w | w
    · rw [w.2.1]; exact Or.inl hE.2.2.2
    · exact Or.inr ⟨w.1, rfl⟩
  · rcases ho with w | w
    · exact absurd (List.eq_nil_of_length_eq_zero (by omega)) z
    · exact Or.inr (Or.inr ⟨w.1, rfl⟩)
  · rcases ho with w | w
    · rw [w.2.2]; exact Or.inl hE.2.2.2
    · rw [z] at hl; simp at hl; omega
  · rw [eM]; exact fun z => Or.inl (o4 z)
  · rw [eM]; exact fun z => Or.inl (o5 z)
  · rw [eM]
    refine ⟨fun j hj b z => ?_, gx.2⟩
    obtain ⟨z1, z2, z3, z4⟩ := gx.1 j hj b z
    exact ⟨Or.inl z1, z2, nv b z1, z4⟩
  · rw [eM] at z
    obtain ⟨r', rfl, t⟩ := gk j' v z
    refine ⟨r', rfl, ?_⟩
    rw [hk v r' rfl (List.mem_of_getElem? z)]
    refine t.keep (fun b o hb hx => fr b o hb (fun q => ?_)) (fun _ z => Or.inl z)
    rcases hx with hx | hx
    · exact hE.1 a o1 (q ▸ hx)
    · exact (gx.1 j' (List.getElem?_eq_some_iff.mp z).1 b hx).2.1 q
end ASM
