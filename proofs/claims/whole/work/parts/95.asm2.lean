section ASM2
variable {cy : Nat → ClassId} {h h1 h2 : qH} {Im Im1 : Nat → Prop} {e : Nat} {Ok : Nat → Prop} {m : Int32} {r a n : Nat} {L L' : qKV} {X X1 : Nat → Prop} {ka va na : Nat} {C : Nat → Nat} {Xs : Nat → Nat → Prop} {v : Nat}
theorem trM_nil_len {m : Int32} {r : Nat} {L L' : qKV} (h : (trM m r L').length = (trM m r L).length) : trM m r L' = [] ↔ trM m r L = [] := by
  constructor
  · intro z; rw [z] at h; exact List.eq_nil_of_length_eq_zero h.symm
  · intro z; rw [z] at h; exact List.eq_nil_of_length_eq_zero h
/-- a node below has been edited -/
theorem own_below (hW : qOw cy h Im e Ok m (r + 1) a L n X ka va na C Xs) (hE : qEd cy h Im X) (ne : ¬ Ok e) (hv : v < 32) (hu : ∀ u, u ≠ v → thK m (6 - r) u L' = thK m (6 - r) u L) (hm : thM m (6 - r) L v = true) (hm' : thM m (6 - r) L' v = true) {a2 : Nat}
    (hc : qCh h Im (Xs (tqC (thM m (6 - r) L) v)) h1 Im1 X1) (hE1 : qEd cy h1 Im1 X1) (hT1 : qTr cy h1 Im1 e Ok m r a2 (thK m (6 - r) v L') X1)
    (fr : ∀ b o, h1 b = some o → b ≠ a → b ≠ na → h2 b = some o) (fd : ∀ b o, h1 b = some o → ∃ o', h2 b = some o') (fa : h2 a = some (thNo (7 - (r + 1)) e (trKb m (r + 1) L) (trNb m (r + 1) L) L'.length ka va na)) (fn : h2 na = some (thA cy (trM m (r + 1) L).length (qU C (tqC (thM m (6 - r) L) v) a2))) :
    ∃ (X2 Im2 : Nat → Prop), qTr cy h2 Im2 e Ok m (r + 1) a L' X2 ∧ qEd cy h2 Im2 X2 ∧ qCh h Im X h2 Im2 X2 := by
  obtain ⟨o1, o2, o3, o4, o5⟩ := hW.own ne
  obtain ⟨⟨g1, g2, g3, g4, g5, g6, -⟩, gx, gk⟩ := hW
  have sn : ∀ {L : qKV}, thM m (6 - r) L v = true → thS m (6 - r) L v = false := fun z => by
    unfold thM at z; unfold thS
    have := of_decide_eq_true z
    exact decide_eq_false (by omega)
  obtain ⟨P, Q, e1, e2, -⟩ := trK_two hu hv
  have eK : trK m (r + 1) L' = trK m (r + 1) L := by
    rw [e1, e2]; unfold thF; rw [sn hm, sn hm']; rfl
  obtain ⟨P2, Q2, f1, f2, f3, f4⟩ := trM_two hu hv
  have eG : ∀ {L : qKV}, thM m (6 - r) L v = true → thG m (6 - r) L v = [v] := fun z => by unfold thG; rw [if_pos z]
  rw [eG hm] at f1
  rw [eG hm'] at f2
  have eM : trM m (r + 1) L' = trM m (r + 1) L := by rw [f1, f2]
  have eKb := (trKb_two hu hv).1 (by rw [sn hm, sn hm'])
  have eNb := (trNb_two hu hv).1 (by rw [hm, hm'])
  have hne : trM m (r + 1) L ≠ [] := by rw [f1]; simp
  have hlt : P2.length < (trM m (r + 1) L).length := by rw [f1]; simp
  have hX0 : ∀ b, Xs (tqC (thM m (6 - r) L) v) b → X b := fun b z => (gx.1 _ (by rw [← f3]; exact hlt) b z).1
  have hX1 : ∀ b, Xs (tqC (thM m (6 - r) L) v) b → b ≠ a ∧ b ≠ va ∧ b ≠ na := fun b z => (gx.1 _ (by rw [← f3]; exact hlt) b z).2
  have xn := o4 hne
  have k1 : ∀ b, X b → ¬ Xs (tqC (thM m (6 - r) L) v) b → ∀ o, h b = some o → h1 b = some o := fun b _ n o ho => hc.1 b o ho n
  have h1c : ∀ b o, h b = some o → ¬ Xs (tqC (thM m (6 - r) L) v) b → h1 b = some o := hc.1
  have nI : ∀ b, Im b → ¬ Xs (tqC (thM m (6 - r) L) v) b := fun b z q => hE.1 b (hX0 b q) z
  have na1 : a ≠ na := fun q => by rw [q] at g1; rw [g4] at g1; cases g1
  have nva : va ≠ a := fun q => by rw [q] at g3; rw [g1] at g3; cases g3
  have nka : ka ≠ a := fun q => by rw [q] at g2; rw [g1] at g2; cases g2
  have nvn : va ≠ na := fun q => by rw [q] at g3; rw [g4] at g3; unfold thJ thA at g3; simp at g3
  have nkn : ka ≠ na := fun q => by rw [q] at g2; rw [g4] at g2; unfold thJ thA at g2; simp at g2
  have iX1 : ∀ b, Im1 b ∨ X1 b → b ≠ a ∧ b ≠ na := fun b z => by
    have ha : h a ≠ none := by rw [g1]; exact fun z => by cases z
    have hn : h na ≠ none := by rw [g4]; exact fun z => by cases z
    rcases z with z | z
    · rcases hc.2.2.1 b z with q | q
      · exact ⟨fun w => hE.1 a o1 (w ▸ q), fun w => hE.1 na xn (w ▸ q)⟩
      · exact ⟨fun w => ha (w ▸ q), fun w => hn (w ▸ q)⟩
    · rcases hc.2.2.2.1 b z with q | q
      · exact ⟨(hX1 b q).1, (hX1 b q).2.2⟩
      · exact ⟨fun w => ha (w ▸ q), fun w => hn (w ▸ q)⟩
  obtain ⟨hed, hch⟩ := ed_ext (NI := fun _ => False) (NX := fun _ => False) (S := fun b => b = a ∨ b = na) (X0 := Xs (tqC (thM m (6 - r) L) v)) (h2 := h2) hE hE1 hX0 hc (fun b z => ⟨z.elim (fun z => z ▸ o1) (fun z => z ▸ xn), fun q => z.elim (hX1 b q).1 (hX1 b q).2.2⟩) (fun b o hb n => fr b o hb (fun z => n (Or.inl z)) (fun z => n (Or.inr z))) fd (fun _ z => z.elim) (fun _ z => z.elim) (fun _ z => z.elim) (fun _ z => z.elim (fun z => z.elim) (fun z => z.elim))
  refine ⟨_, _, ?_, hed, hch⟩
  have hT2 : qTr cy h2 (fun b => Im1 b ∨ False) e Ok m r a2 (thK m (6 - r) v L') X1 := hT1.keep (fun b o hb hx => fr b o hb (iX1 b hx).1 (iX1 b hx).2) (fun _ z => Or.inl z)
  refine ⟨e, ka, va, na, qU C P2.length a2, thXu Xs P2.length X1, ⟨?_, ?_, ?_, ?_, Or.inl (hc.2.1 _ g5), g6, Or.inl ⟨rfl, Or.inl o1, ?_, ?_, ?_, ?_⟩⟩, ?_, ?_⟩
  · rw [eKb, eNb]; exact fa
  · rw [eK]; exact fr _ _ (h1c _ _ g2 (nI _ g5)) nka nkn
  · rw [eK]
    refine fr _ _ (h1c _ _ g3 (fun q => (hX1 _ q).2.1 rfl)) nva nvn
  · rw [eM, f3]; exact fn
  · rw [eK]; exact fun z => Or.inl (o2 z)
  · rw [eK]; exact fun z => Or.inl (hc.2.1 _ (o3 z))
  · rw [eM]; exact fun z => Or.inl (o4 z)
  · rw [eM]; exact fun z => Or.inl (hc.2.1 _ (o5 z))
  · rw [eM]
    refine gx.upd (fun b z => Or.inl z) (fun b z => ⟨⟨Or.inr (Or.inl z), (iX1 b (Or.inr z)).1, ?_, (iX1 b (Or.inr z)).2⟩, fun j hj n q => ?_⟩)
    · rcases hc.2.2.2.1 b z with q | q
      · exact (hX1 b q).2.1
      · exact fun w => by rw [w, g3] at q; cases q
    · rcases hc.2.2.2.1 b z with w | w
      · rw [← f3] at w
        exact gx.2 j P2.length hj hlt n b q w
      · obtain ⟨o, ho⟩ := hE.2.1 b (Or.inr (gx.1 j hj b q).1)
        rw [w] at ho; cases ho
  · refine kids_up f1 (by rw [f2]; rfl) (fun j u hj n => ?_) hT2
    have hjl := (List.getElem?_eq_some_iff.mp hj).1
    obtain ⟨r', er, t⟩ := gk j u hj
    cases er
    have hun : u ≠ v := fun z => n (by
      rw [z] at hj
      have h9 : (trM m (r + 1) L)[P2.length]? = some v := by rw [f1, List.getElem?_append_right (Nat.le_refl _), Nat.sub_self]; rfl
      exact trM_nd hj h9)
    rw [hu u hun]
    refine t.keep (fun b o hb hx => ?_) (fun _ z => Or.inl (hc.2.1 _ z))
    have w : ¬ Xs (tqC (thM m (6 - r) L) v) b ∧ b ≠ a ∧ b ≠ na := by
      rcases hx with hx | hx
      · exact ⟨nI b hx, fun w => hE.1 a o1 (w ▸ hx), fun w => hE.1 na xn (w ▸ hx)⟩
      · refine ⟨fun q => gx.2 j _ hjl (by rw [← f3]; exact hlt) (by rw [← f3]; exact n) b hx q, (gx.1 j hjl b hx).2.1, (gx.1 j hjl b hx).2.2.2⟩
    exact fr b o (h1c b o hb w.1) w.2.1 w.2.2
/-- the key that stands alone at a number goes a level down, together with a new one -/
theorem own_push (hW : qOw cy h Im e Ok m (r + 1) a L n X ka va na C Xs) (hE : qEd cy h Im X) (ne : ¬ Ok e) (hv : v < 32) (hu : ∀ u, u ≠ v → thK m (6 - r) u L' = thK m (6 - r) u L) (hs : thS m (6 - r) L v = true) (hm' : thM m (6 - r) L' v = true) {a2 : Nat}
    (hc : qCh h Im (fun _ => False) h1 Im1 X1) (hE1 : qEd cy h1 Im1 X1) (hT1 : qTr cy h1 Im1 e Ok m r a2 (thK m (6 - r) v L') X1)
    (fr : ∀ b o, h1 b = some o → b ≠ a → h2 b = some o) (fd : ∀ b o, h1 b = some o → ∃ o', h2 b = some o') {ka' va' na' : Nat} (ho : ((trK m (r + 1) L).length ≤ 1 ∧ ka' = cy 99 ∧ va' = cy 99) ∨ (1 < (trK m (r + 1) L).length ∧ h1 ka' = none ∧ h1 va' = none ∧ ka' ≠ va')) (hna : h1 na' = none) (nd : na' ≠ ka' ∧ na' ≠ va')
    (fa : h2 a = some (thNo (7 - (r + 1)) e (trKb m (r + 1) L') (trNb m (r + 1) L') L'.length ka' va' na')) (fk : h2 ka' = some (thJ cy ((List.map Prod.fst (trK m (r + 1) L)).eraseIdx (tqC (thS m (6 - r) L) v)))) (fv : h2 va' = some (thJ cy ((List.map Prod.snd (trK m (r + 1) L)).eraseIdx (tqC (thS m (6 - r) L) v)))) (fn : h2 na' = some (thA cy ((trM m (r + 1) L).length + 1) (thCi C (tqC (thM m (6 - r) L) v) a2))) :
    ∃ (X2 Im2 : Nat → Prop), qTr cy h2 Im2 e Ok m (r + 1) a L' X2 ∧ qEd cy h2 Im2 X2 ∧ qCh h Im X h2 Im2 X2 := by
  obtain ⟨o1, o2, o3, o4, o5⟩ := hW.own ne
  obtain ⟨⟨g1, g2, g3, g4, g5, g6, -⟩, gx, gk⟩ := hW
  have hs' : thS m (6 - r) L' v = false := by
    unfold thM at hm'; unfold thS
    have := of_decide_eq_true hm'
    exact decide_eq_false (by omega)
  have hm : thM m (6 - r) L v = false := by
    unfold thS at hs; unfold thM
    have := of_decide_eq_true hs
    exact decide_eq_false (by omega)
  obtain ⟨p, hp1, hp2⟩ := thS_one hs
  obtain ⟨P, Q, e1, e2, e3⟩ := trK_two hu hv
  rw [hp2] at e1
  have eK : trK m (r + 1) L' = (trK m (r + 1) L).eraseIdx (tqC (thS m (6 - r) L) v) := by
    rw [e1, e2]
    show P ++ (thF m (6 - r) L' v ++ Q) = (P ++ p :: Q).eraseIdx _
    rw [thEr_at e3.symm]
    unfold thF; rw [hs']; rfl
  obtain ⟨P2, Q2, f1, f2, f3, f4⟩ := trM_two hu hv
  have f1 : trM m (r + 1) L = P2 ++ Q2 := by rw [f1]; unfold thG; rw [hm]; rfl
  have f2 : trM m (r + 1) L' = P2 ++ v :: Q2 := by rw [f2]; unfold thG; rw [if_pos hm']; rfl
  have hml : (trM m (r + 1) L').length = (trM m (r + 1) L).length + 1 := by rw [f1, f2, List.length_append, List.length_append, List.length_cons]; omega
  have hlen : (trK m (r + 1) L).length = P.length + Q.length + 1 := by rw [e1]; simp; omega
  have hKl : (trK m (r + 1) L').length = P.length + Q.length := by rw [e2]; unfold thF; rw [hs']; simp
  obtain ⟨hed, hch⟩ := ed_ext (NI := fun b => 1 < (trK m (r + 1) L).length ∧ b = ka') (NX := fun b => (1 < (trK m (r + 1) L).length ∧ b = va') ∨ b = na') (S := fun b => b = a) (X0 := fun _ => False) (h2 := h2) hE hE1 (fun _ z => z.elim) hc (fun b z => ⟨z ▸ o1, fun z => z⟩) (fun b o hb n => fr b o hb n) fd
    (fun b z => ho.elim (fun q => absurd z.1 (by omega)) (fun q => z.2 ▸ q.2.1)) (fun b z => z.elim (fun z => ho.elim (fun q => absurd z.1 (by omega)) (fun q => z.2 ▸ q.2.2.1)) (fun z => z ▸ hna)) (fun b z z2 => z2.elim (fun z2 => ho.elim (fun q => absurd z.1 (by omega)) (fun q => q.2.2.2 (z.2.symm.trans z2.2))) (fun z2 => nd.1 (z2.symm.trans z.2))) (fun b z => z.elim (fun z => ⟨_, z.2 ▸ fk⟩) (fun z => z.elim (fun z => ⟨_, z.2 ▸ fv⟩) (fun z => ⟨_, z ▸ fn⟩)))
  have d1 : ∀ b, X b → ∃ o, h1 b = some o := fun b z => by obtain ⟨o, ho⟩ := hE.2.1 b (Or.inr z); exact ⟨o, hc.1 b o ho (fun q => q)⟩
  have nv : ∀ b, X b ∨ X1 b → b ≠ va' ∧ b ≠ na' := fun b z => by
    obtain ⟨o, h9⟩ : ∃ o, h1 b = some o := z.elim (d1 b) (fun z => hE1.2.1 b (Or.inr z))
    refine ⟨fun q => ?_, fun q => by rw [q, hna] at h9; cases h9⟩
    rcases ho with w | w
    · rcases z with z | z
      · exact hE.1 b z (by rw [q, w.2.2]; exact hE.2.2.2)
      · exact hE1.1 b z (by rw [q, w.2.2]; exact hE1.2.2.2)
    · rw [q, w.2.2.1] at h9; cases h9
  have ha : h a ≠ none := by rw [g1]; exact fun z => by cases z
  have iX1 : ∀ b, Im1 b ∨ X1 b → b ≠ a := fun b z => by
    rcases z with z | z
    · rcases hc.2.2.1 b z with q | q
      · exact fun w => hE.1 a o1 (w ▸ q)
      · exact fun w => ha (w ▸ q)
    · rcases hc.2.2.2.1 b z with q | q
      · exact q.elim
      · exact fun w => ha (w ▸ q)
  have hT2 := hT1.keep (h' := h2) (Im' := fun b => Im1 b ∨ (1 < (trK m (r + 1) L).length ∧ b = ka')) (fun b o hb hx => fr b o hb (iX1 b hx)) (fun _ z => Or.inl z)
  refine ⟨_, _, ?_, hed, hch⟩
  refine ⟨e, ka', va', na', thCi C P2.length a2, thXi Xs P2.length X1, ⟨fa, ?_, ?_, ?_, ?_, g6, Or.inl ⟨rfl, Or.inl o1, fun z => ?_, fun z => ?_, fun _ => Or.inr (Or.inr (Or.inr rfl)), fun z => ?_⟩⟩, ?_, ?_⟩
  · rw [eK, map_er]; exact fk
  · rw [eK, map_er]; exact fv
  · rw [hml, f3]; exact fn
  · rcases ho with w | w
    · rw [w.2.1]; exact Or.inl hE1.2.2.2
    · exact Or.inr ⟨w.1, rfl⟩
  · rcases ho with w | w
    · exact absurd (List.eq_nil_of_length_eq_zero (by omega)) z
    · exact Or.inr (Or.inr (Or.inl ⟨w.1, rfl⟩))
  · rcases ho with w | w
    · rw [w.2.2]; exact Or.inl hE1.2.2.2
    · rw [z] at hKl; simp at hKl; omega
  · rw [f2] at z; simp at z
  · rw [hml]
    refine gx.ins (by rw [f1, List.length_append]; omega) (fun b z => Or.inl ⟨Or.inl z, nv b (Or.inl z)⟩) (fun b z => ⟨⟨Or.inr (Or.inl z), iX1 b (Or.inr z), nv b (Or.inr z)⟩, fun q => ?_⟩)
    rcases hc.2.2.2.1 b z with w | w
    · exact w
    · obtain ⟨o, h9⟩ := hE.2.1 b (Or.inr q); rw [w] at h9; cases h9
  · refine kids_in f1 f2 (fun j u hj => ?_) hT2
    have hjl := (List.getElem?_eq_some_iff.mp hj).1
    obtain ⟨r', er, t⟩ := gk j u hj
    cases er
    have hun : u ≠ v := f4 u (by rw [← f1]; exact List.mem_of_getElem? hj)
    rw [hu u hun]
    refine t.keep (fun b o hb hx => fr b o (hc.1 b o hb (fun q => q)) (fun w => ?_)) (fun _ z => Or.inl (hc.2.1 _ z))
    rcases hx with hx | hx
    · exact hE.1 a o1 (w ▸ hx)
    · exact (gx.1 j hjl b hx).2.1 w
/-- of two keys below one is left: it comes up -/
theorem own_pull (hW : qOw cy h Im e Ok m (r + 1) a L n X ka va na C Xs) (hE : qEd cy h Im X) (ne : ¬ Ok e) (hv : v < 32) (hu : ∀ u, u ≠ v → thK m (6 - r) u L' = thK m (6 - r) u L) (hm : thM m (6 - r) L v = true) {p : Int64 × Int64} (hp : thK m (6 - r) v L' = [p])
    (hc : qCh h Im (Xs (tqC (thM m (6 - r) L) v)) h1 Im1 X1) (hE1 : qEd cy h1 Im1 X1)
    (fr : ∀ b o, h1 b = some o → b ≠ a → h2 b = some o) (fd : ∀ b o, h1 b = some o → ∃ o', h2 b = some o') {ka' va' na' : Nat} (hka : h1 ka' = none) (hva : h1 va' = none) (hna : h1 na' = none) (nd : na' ≠ ka' ∧ na' ≠ va' ∧ ka' ≠ va')
    (fa : h2 a = some (thNo (7 - (r + 1)) e (trKb m (r + 1) L') (trNb m (r + 1) L') L'.length ka' va' na')) (fk : h2 ka' = some (thJ cy (thIn (List.map Prod.fst (trK m (r + 1) L)) (tqC (thS m (6 - r) L) v) p.1))) (fv : h2 va' = some (thJ cy (thIn (List.map Prod.snd (trK m (r + 1) L)) (tqC (thS m (6 - r) L) v) p.2))) (fn : h2 na' = some (thA cy ((trM m (r + 1) L).length - 1) (thCe C (tqC (thM m (6 - r) L) v)))) :
    ∃ (X2 Im2 : Nat → Prop), qTr cy h2 Im2 e Ok m (r + 1) a L' X2 ∧ qEd cy h2 Im2 X2 ∧ qCh h Im X h2 Im2 X2 := by
  obtain ⟨o1, o2, o3, o4, o5⟩ := hW.own ne
  obtain ⟨⟨g1, g2, g3, g4, g5, g6, -⟩, gx, gk⟩ := hW
  have hs' : thS m (6 - r) L' v = true := by unfold thS; rw [hp]; rfl
  have hm' : thM m (6 - r) L' v = false := by unfold thM; rw [hp]; rfl
  have hs : thS m (6 - r) L v = false := by
    unfold thM at hm; unfold thS
    have := of_decide_eq_true hm
    exact decide_eq_false (by omega)
  obtain ⟨P, Q, e1, e2, e3⟩ := trK_two hu hv
  have e1 : trK m (r + 1) L = P ++ Q := by rw [e1]; unfold thF; rw [hs]; rfl
  have eK : trK m (r + 1) L' = (trK m (r + 1) L).take (tqC (thS m (6 - r) L) v) ++ p :: (trK m (r + 1) L).drop (tqC (thS m (6 - r) L) v) := by
    rw [e1, e2, take_at e3.symm]
    unfold thF; rw [if_pos hs', hp]; rfl
  obtain ⟨P2, Q2, f1, f2, f3, f4⟩ := trM_two hu hv
  have f1 : trM m (r + 1) L = P2 ++ v :: Q2 := by rw [f1]; unfold thG; rw [if_pos hm]; rfl
  have f2 : trM m (r + 1) L' = P2 ++ Q2 := by rw [f2]; unfold thG; rw [hm']; rfl
  have hml : (trM m (r + 1) L').length = (trM m (r + 1) L).length - 1 := by rw [f1, f2, List.length_append, List.length_append, List.length_cons]; omega
  have hlt : P2.length < (trM m (r + 1) L).length := by rw [f1]; simp
  have hX0 : ∀ b, Xs (tqC (thM m (6 - r) L) v) b → X b := fun b z => (gx.1 _ (by rw [← f3]; exact hlt) b z).1
  have hX1 : ∀ b, Xs (tqC (thM m (6 - r) L) v) b → b ≠ a ∧ b ≠ va ∧ b ≠ na := fun b z => (gx.1 _ (by rw [← f3]; exact hlt) b z).2
  have hnn : trK m (r + 1) L' ≠ [] := fun z => by rw [eK] at z; simp at z
  obtain ⟨i1, i2⟩ := map_in (K := trK m (r + 1) L) (j := tqC (thS m (6 - r) L) v) (p := p)
  have em : ∀ b, trM m (r + 1) L' = [] ∧ b = na' ∨ ¬ trM m (r + 1) L' = [] ∧ b = na' → b = na' := fun b z => z.elim (fun z => z.2) (fun z => z.2)
  obtain ⟨hed, hch⟩ := ed_ext (NI := fun b => b = ka' ∨ (trM m (r + 1) L' = [] ∧ b = na')) (NX := fun b => b = va' ∨ (¬ trM m (r + 1) L' = [] ∧ b = na')) (S := fun b => b = a) (X0 := Xs (tqC (thM m (6 - r) L) v)) (h2 := h2) hE hE1 hX0 hc (fun b z => ⟨z ▸ o1, fun q => (hX1 b q).1 z⟩) (fun b o hb n => fr b o hb n) fd
    (fun b z => z.elim (fun z => z ▸ hka) (fun z => z.2 ▸ hna)) (fun b z => z.elim (fun z => z ▸ hva) (fun z => z.2 ▸ hna)) (fun b z z2 => z.elim (fun z => z2.elim (fun z2 => nd.2.2 (z.symm.trans z2)) (fun z2 => nd.1 (z2.2.symm.trans z))) (fun z => z2.elim (fun z2 => nd.2.1 (z.2.symm.trans z2)) (fun z2 => z2.1 z.1)))
    (fun b z => z.elim (fun z => z.elim (fun z => ⟨_, z ▸ fk⟩) (fun z => ⟨_, z.2 ▸ fn⟩)) (fun z => z.elim (fun z => ⟨_, z ▸ fv⟩) (fun z => ⟨_, z.2 ▸ fn⟩)))
  have d1 : ∀ b, X b → ∃ o, h1 b = some o := fun b z => by obtain ⟨o, ho⟩ := hE.2.1 b (Or.inr z); exact hc.2.2.2.2 b o ho
  have nv : ∀ b, X b → b ≠ va' ∧ b ≠ na' := fun b z => by
    obtain ⟨o, h9⟩ := d1 b z
    exact ⟨fun q => (by rw [q, hva] at h9; cases h9), fun q => (by rw [q, hna] at h9; cases h9)⟩
  have nI : ∀ b, Im b → ¬ Xs (tqC (thM m (6 - r) L) v) b := fun b z q => hE.1 b (hX0 b q) z
  refine ⟨_, _, ?_, hed, hch⟩
  refine ⟨e, ka', va', na', thCe C P2.length, thXe Xs P2.length, ⟨fa, ?_, ?_, ?_, Or.inr (Or.inl rfl), g6, Or.inl ⟨rfl, Or.inl o1, fun _ => Or.inr (Or.inr (Or.inl rfl)), fun z => absurd z hnn, fun z => Or.inr (Or.inr (Or.inr ⟨z, rfl⟩)), fun z => Or.inr (Or.inr ⟨z, rfl⟩)⟩⟩, ?_, ?_⟩
  · rw [eK, i1]; exact fk
  · rw [eK, i2]; exact fv
  · rw [hml, f3]; exact fn
  · rw [hml]
    exact gx.del hlt (fun b z => Or.inl ⟨Or.inl z, nv b z⟩)
  · refine kids_er f1 f2 (fun j u hj n => ?_)
    have hjl := (List.getElem?_eq_some_iff.mp hj).1
    obtain ⟨r', er, t⟩ := gk j u hj
    cases er
    have hun : u ≠ v := fun z => n (by
      rw [z] at hj
      have h9 : (trM m (r + 1) L)[P2.length]? = some v := by rw [f1, List.getElem?_append_right (Nat.le_refl _), Nat.sub_self]; rfl
      exact trM_nd hj h9)
    rw [hu u hun]
    refine t.keep (fun b o hb hx => ?_) (fun _ z => Or.inl (hc.2.1 _ z))
    have w : ¬ Xs (tqC (thM m (6 - r) L) v) b ∧ b ≠ a := by
      rcases hx with hx | hx
      · exact ⟨nI b hx, fun w => hE.1 a o1 (w ▸ hx)⟩
      · exact ⟨fun q => gx.2 j _ hjl (by rw [← f3]; exact hlt) (by rw [← f3]; exact n) b hx q, (gx.1 j hjl b hx).2.1⟩
    exact fr b o (hc.1 b o hb w.1) w.2
end ASM2
