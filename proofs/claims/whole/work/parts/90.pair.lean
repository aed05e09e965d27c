theorem thB_7 {m : Int32} {k : Int64} : thB m 7 k = 0 := rfl
theorem thB_6 {m : Int32} {r : Nat} {k : Int64} : thB m (6 - r) k = 2 ^ thN m (6 - r) k := by
  unfold thB
  rw [if_pos (by omega)]
theorem two_inj {u v : Nat} (hu : u < 32) (hv : v < 32) (h : nI (2 ^ u) = nI (2 ^ v)) : u = v := by
  rw [tqB_one hu, tqB_one hv] at h
  have := tqB_inj h hu
  simpa using this
theorem tqC_one {v : Nat} : ∀ n : Nat, tqC (fun u => decide (u = v)) n = if v < n then 1 else 0
  | 0 => by rw [if_neg (by omega)]; rfl
  | n + 1 => by
    show tqC _ n + _ = _
    rw [tqC_one n]
    by_cases c : n = v
    · subst c
      rw [if_neg (by omega), if_pos (by simp), if_pos (by omega)]
    · rw [if_neg (c := decide (n = v) = true) (by simp [c])]
      by_cases c2 : v < n
      · rw [if_pos c2, if_pos (by omega)]
      · rw [if_neg c2, if_neg (by omega)]
theorem qEd.le {cy : Nat → ClassId} {h h' : qH} {Im : Nat → Prop} (e : qEd cy h Im (fun _ => False)) (k : qle h h') : qEd cy h' Im (fun _ => False) := by
  obtain ⟨e1, e2, e3, e4⟩ := e
  refine ⟨fun b z => z.elim, fun b z => ?_, k _ _ e3, e4⟩
  obtain ⟨o, ho⟩ := e2 b z
  exact ⟨o, k b o ho⟩
theorem trK_nil {m : Int32} {r : Nat} : trK m r [] = [] := List.eq_nil_of_length_eq_zero (Nat.le_zero.mp (trK_len (m := m) (r := r) (L := [])))
theorem trM_nil {m : Int32} {r : Nat} : trM m r [] = [] := by
  cases r with
  | zero => rfl
  | succ r =>
    refine List.eq_nil_iff_forall_not_mem.mpr (fun v hv => ?_)
    have := (trM_mem.mp hv).2
    unfold thM thK at this
    simp at this
theorem trKb_nil {m : Int32} {r : Nat} : trKb m r [] = 0 := by
  cases r with
  | zero => rfl
  | succ r =>
    show tqB _ 32 = 0
    rw [tqB_ext (q := fun _ => false) (fun u _ => by unfold thS thK; simp)]
    decide
theorem trNb_nil {m : Int32} {r : Nat} : trNb m r [] = 0 := by
  cases r with
  | zero => rfl
  | succ r =>
    show tqB _ 32 = 0
    rw [tqB_ext (q := fun _ => false) (fun u _ => by unfold thM thK; simp)]
    decide
theorem nI_or0 (a : Nat) : nI 0 ||| nI a = nI a := by rw [nI_or, Nat.zero_or]
/-- two keys of one number -/
theorem pr_same {m : Int32} {r : Nat} {k0 x0 k x : Int64} (h : thN m (6 - r) k0 = thN m (6 - r) k) : thK m (6 - r) (thN m (6 - r) k) [(k0, x0), (k, x)] = [(k0, x0), (k, x)] ∧ trK m (r + 1) [(k0, x0), (k, x)] = [] ∧ trM m (r + 1) [(k0, x0), (k, x)] = [thN m (6 - r) k] ∧ trKb m (r + 1) [(k0, x0), (k, x)] = 0 ∧ nI (trNb m (r + 1) [(k0, x0), (k, x)]) = nI (2 ^ thN m (6 - r) k) := by
  have hk : thK m (6 - r) (thN m (6 - r) k) [(k0, x0), (k, x)] = [(k0, x0), (k, x)] := by
    unfold thK
    simp [h]
  have hu : ∀ u, u ≠ thN m (6 - r) k → thK m (6 - r) u [(k0, x0), (k, x)] = thK m (6 - r) u [] := fun u hu => by
    unfold thK
    simp [h, fun e : thN m (6 - r) k = u => hu e.symm]
    exact fun e => hu e.symm
  have hS : thS m (6 - r) [(k0, x0), (k, x)] (thN m (6 - r) k) = false := by unfold thS; rw [hk]; rfl
  have hM : thM m (6 - r) [(k0, x0), (k, x)] (thN m (6 - r) k) = true := by unfold thM; rw [hk]; rfl
  refine ⟨hk, ?_, ?_, ?_, ?_⟩
  · obtain ⟨P, Q, e1, e2, -⟩ := trK_two hu thN_lt
    rw [trK_nil] at e1
    have e1 := e1.symm
    simp only [List.append_eq_nil_iff] at e1
    rw [e2, e1.1, e1.2.2]
    unfold thF
    rw [hS]
    rfl
  · obtain ⟨P, Q, e1, e2, -, -⟩ := trM_two hu thN_lt
    rw [trM_nil] at e1
    have e1 := e1.symm
    simp only [List.append_eq_nil_iff] at e1
    rw [e2, e1.1, e1.2.2]
    unfold thG
    rw [hM]
    rfl
  · rw [(trKb_two hu thN_lt).1 (by rw [hS]; unfold thS thK; rfl)]
    exact trKb_nil
  · rw [← (trNb_two hu thN_lt).2.1 hM, trNb_nil, nI_or0]
/-- two keys of two numbers -/
theorem pr_diff {m : Int32} {r : Nat} {k0 x0 k x : Int64} (h : ¬ thN m (6 - r) k0 = thN m (6 - r) k) : trK m (r + 1) [(k0, x0), (k, x)] = (if thN m (6 - r) k0 < thN m (6 - r) k then [(k0, x0), (k, x)] else [(k, x), (k0, x0)]) ∧ trM m (r + 1) [(k0, x0), (k, x)] = [] ∧ nI (2 ^ thN m (6 - r) k0) ||| nI (2 ^ thN m (6 - r) k) = nI (trKb m (r + 1) [(k0, x0), (k, x)]) ∧ trNb m (r + 1) [(k0, x0), (k, x)] = 0 := by
  have k1 : ∀ u, u ≠ thN m (6 - r) k0 → thK m (6 - r) u [(k0, x0)] = thK m (6 - r) u [] := fun u hu => by
    unfold thK
    simp
    exact fun e => hu e.symm
  have k2 : ∀ u, u ≠ thN m (6 - r) k → thK m (6 - r) u [(k0, x0), (k, x)] = thK m (6 - r) u [(k0, x0)] := fun u hu => by
    unfold thK
    rw [List.filter_cons, List.filter_cons, List.filter_cons, if_neg (c := decide (thN m (6 - r) k = u) = true) (by simp; exact fun e => hu e.symm)]
  have b1 : thK m (6 - r) (thN m (6 - r) k0) [(k0, x0)] = [(k0, x0)] := by unfold thK; simp
  have b2 : thK m (6 - r) (thN m (6 - r) k) [(k0, x0)] = [] := by unfold thK; simp [h]
  have b3 : thK m (6 - r) (thN m (6 - r) k) [(k0, x0), (k, x)] = [(k, x)] := by unfold thK; simp [h]
  have s1 : thS m (6 - r) [(k0, x0)] = fun u => decide (u = thN m (6 - r) k0) := funext fun u => by
    by_cases c : u = thN m (6 - r) k0
    · subst c; unfold thS; rw [b1]; simp
    · unfold thS; rw [k1 u c]; unfold thK; simp [c]
  have s3 : thS m (6 - r) [(k0, x0), (k, x)] (thN m (6 - r) k) = true := by unfold thS; rw [b3]; rfl
  obtain ⟨P, Q, e1, e2, -⟩ := trK_two k1 thN_lt
  rw [trK_nil] at e1
  have e1 := e1.symm
  simp only [List.append_eq_nil_iff] at e1
  have f1 : trK m (r + 1) [(k0, x0)] = [(k0, x0)] := by
    rw [e2, e1.1, e1.2.2]
    unfold thF
    rw [s1, b1]
    simp
  have kb1 : nI (trKb m (r + 1) [(k0, x0)]) = nI (2 ^ thN m (6 - r) k0) := by
    show nI (tqB (thS m (6 - r) [(k0, x0)]) 32) = _
    rw [s1, ← tqB_one thN_lt]
  refine ⟨?_, ?_, ?_, ?_⟩
  · obtain ⟨P, Q, g1, g2, g3⟩ := trK_two k2 thN_lt
    rw [f1] at g1
    rw [s1, tqC_one] at g3
    have z1 : thF m (6 - r) [(k0, x0)] (thN m (6 - r) k) = [] := by
      unfold thF; rw [s1]; simp [fun e : thN m (6 - r) k = thN m (6 - r) k0 => h e.symm]; exact fun e => absurd e.symm h
    have z2 : thF m (6 - r) [(k0, x0), (k, x)] (thN m (6 - r) k) = [(k, x)] := by unfold thF; rw [if_pos s3, b3]
    rw [z1, List.nil_append] at g1
    rw [g2, z2]
    by_cases c : thN m (6 - r) k0 < thN m (6 - r) k
    · rw [if_pos c] at g3 ⊢
      obtain ⟨q, rfl⟩ := thLen1 g3
      cases g1
      rfl
    · rw [if_neg c] at g3 ⊢
      have := List.eq_nil_of_length_eq_zero g3
      subst this
      rw [List.nil_append] at g1
      rw [← g1]
      rfl
  · obtain ⟨P, Q, g1, g2, -, -⟩ := trM_two k1 thN_lt
    rw [trM_nil] at g1
    have g1 := g1.symm
    simp only [List.append_eq_nil_iff] at g1
    have f2 : trM m (r + 1) [(k0, x0)] = [] := by
      rw [g2, g1.1, g1.2.2]
      unfold thG thM
      rw [b1]
      simp
    obtain ⟨P, Q, g1, g2, -, -⟩ := trM_two k2 thN_lt
    rw [f2] at g1
    have g1 := g1.symm
    simp only [List.append_eq_nil_iff] at g1
    rw [g2, g1.1, g1.2.2]
    unfold thG thM
    rw [b3]
    simp
  · rw [← (trKb_two k2 thN_lt).2.1 s3, kb1]
  · rw [(trNb_two k2 thN_lt).1 (by unfold thM; rw [b2, b3]; rfl), (trNb_two k1 thN_lt).1 (by unfold thM; rw [b1]; unfold thK; rfl)]
    exact trNb_nil
theorem pr_low {k0 x0 k x : Int64} : thO [(k0, x0), (k, x)] = if k0.toInt < k.toInt then [(k0, x0), (k, x)] else [(k, x), (k0, x0)] := by
  show xSi (xSi [] k x) k0 x0 = _
  unfold xSi
  by_cases c : k0.toInt < k.toInt
  · simp [c]
  · have c2 : k.toInt ≤ k0.toInt := by omega
    simp [c, c2]
