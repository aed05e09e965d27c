theorem qOw.tot {cy : Nat → ClassId} {h h2 : qH} {Im : Nat → Prop} {e : Nat} {Ok : Nat → Prop} {m : Int32} {r a n n' : Nat} {L : qKV} {X : Nat → Prop} {ka va na : Nat} {C : Nat → Nat} {Xs : Nat → Nat → Prop} (hW : qOw cy h Im e Ok m r a L n X ka va na C Xs) (hE : qEd cy h Im X) (ne : ¬ Ok e) (fr : ∀ b o, h b = some o → b ≠ a → h2 b = some o) (fd : ∀ b o, h b = some o → ∃ o', h2 b = some o') (fa : h2 a = some (thNo (7 - r) e (trKb m r L) (trNb m r L) n' ka va na)) : qOw cy h2 Im e Ok m r a L n' X ka va na C Xs ∧ qEd cy h2 Im X ∧ qCh h Im X h2 Im X := by
  obtain ⟨o1, o2, o3, o4, o5⟩ := hW.own ne
  obtain ⟨⟨g1, g2, g3, g4, g5, g6, g7⟩, gx, gk⟩ := hW
  have nI : ∀ b, Im b → b ≠ a := fun b z q => hE.1 a o1 (q ▸ z)
  refine ⟨⟨⟨fa, fr _ _ g2 (nI _ g5), fr _ _ g3 (fun q => ?_), fr _ _ g4 (fun q => ?_), g5, g6, g7⟩, gx, fun j v z => ?_⟩, ⟨hE.1, fun b z => ?_, fr _ _ hE.2.2.1 (nI _ hE.2.2.2), hE.2.2.2⟩, ⟨fun b o hb nx => fr b o hb (fun q => nx (q ▸ o1)), fun _ z => z, fun _ z => Or.inl z, fun _ z => Or.inl z, fd⟩⟩
  · rw [q] at g3; rw [g1] at g3; cases g3
  · rw [q] at g4; rw [g1] at g4; cases g4
  · obtain ⟨r', er, t⟩ := gk j v z
    refine ⟨r', er, t.keep (fun b o hb hx => fr b o hb (fun q => ?_)) (fun _ z => z)⟩
    rcases hx with hx | hx
    · exact nI b hx q
    · exact (gx.1 j (List.getElem?_eq_some_iff.mp z).1 b hx).2.1 q
  · obtain ⟨o, ho⟩ := hE.2.1 b z
    exact fd b o ho
theorem trK_one {m : Int32} {r : Nat} {p : Int64 × Int64} : trK m r [p] = [p] := by
  cases r with
  | zero => show xSi [] p.1 p.2 = [p]; rfl
  | succ r =>
    have hb : thK m (6 - r) (thN m (6 - r) p.1) [p] = [p] := by unfold thK; simp
    have hu : ∀ u, u ≠ thN m (6 - r) p.1 → thK m (6 - r) u [p] = thK m (6 - r) u [] := fun u hu => by
      unfold thK
      simp
      exact fun e => hu e.symm
    obtain ⟨P, Q, e1, e2, -⟩ := trK_two hu thN_lt
    rw [trK_nil] at e1
    have e1 := e1.symm
    simp only [List.append_eq_nil_iff] at e1
    rw [e2, e1.1, e1.2.2]
    unfold thF thS
    rw [hb]
    rfl
theorem trM_one {m : Int32} {r : Nat} {p : Int64 × Int64} : trM m r [p] = [] := by
  cases r with
  | zero => rfl
  | succ r =>
    refine List.eq_nil_iff_forall_not_mem.mpr (fun v hv => ?_)
    have := (trM_mem.mp hv).2
    unfold thM at this
    have := of_decide_eq_true this
    have h2 := thK_len (m := m) (d := 6 - r) (v := v) (L := [p])
    simp at h2
    omega
def rMs (N : Nat) : Nat → Nat
  | 0 => 3 * N + 80
  | r + 1 => rMs N r + (3 * N + 100)
theorem rMs_ge {N : Nat} : ∀ r : Nat, 3 * N + 80 ≤ rMs N r
  | 0 => Nat.le_refl _
  | r + 1 => by
    have := rMs_ge (N := N) r
    show _ ≤ rMs N r + (3 * N + 100)
    omega
theorem rMs_s {N r : Nat} : rMs N (r + 1) = rMs N r + (3 * N + 100) := rfl
def qRemC (l : Launch) (D : va_G) (cy : Nat → ClassId) (N0 : Nat) (e9 : Nat) (Ok : Nat → Prop) (m9 : Int32) (N r : Nat) : Prop := ∀ (h : qH) (Im : Nat → Prop) (a : Nat) (L : qKV) (X : Nat → Prop) (k : Int64), qTr cy h Im e9 Ok m9 r a L X → qEd cy h Im X → L.length ≤ N → qNo L → xHas L k = true → qC l D cy N0 yX3_removing cX3_removing 8 (some (.object RX3)) (8 + 2 * r) (400 + 150 * r) (6 * r + 8) (rMs N r) [.ref a, .int (nI e9), .int m9, .long k] h (fun v h' => ∃ (a1 : Nat) (X2 Im2 : Nat → Prop), v = some (.ref a1) ∧ qTr cy h' Im2 e9 Ok m9 r a1 (thD L k) X2 ∧ qEd cy h' Im2 X2 ∧ qCh h Im X h' Im2 X2) (fun _ _ => False)
