/-! MAP, SET: what an edit makes of a node's rows -/
theorem trK_two {m : Int32} {r v : Nat} {L L' : qKV} (hu : ∀ u, u ≠ v → thK m (6 - r) u L' = thK m (6 - r) u L) (hv : v < 32) : ∃ P Q, trK m (r + 1) L = P ++ (thF m (6 - r) L v ++ Q) ∧ trK m (r + 1) L' = P ++ (thF m (6 - r) L' v ++ Q) ∧ P.length = tqC (thS m (6 - r) L) v := by
  have e : ∀ u, u ≠ v → thF m (6 - r) L' u = thF m (6 - r) L u := fun u h => by unfold thF thS; rw [hu u h]
  refine ⟨(List.range v).flatMap (thF m (6 - r) L), ((List.range 32).drop (v + 1)).flatMap (thF m (6 - r) L), thCut hv, ?_, thLen (fun u _ => thF_len)⟩
  show (List.range 32).flatMap _ = _
  rw [thCut hv, thPre e, thPost e]
theorem trM_two {m : Int32} {r v : Nat} {L L' : qKV} (hu : ∀ u, u ≠ v → thK m (6 - r) u L' = thK m (6 - r) u L) (hv : v < 32) : ∃ P Q, trM m (r + 1) L = P ++ (thG m (6 - r) L v ++ Q) ∧ trM m (r + 1) L' = P ++ (thG m (6 - r) L' v ++ Q) ∧ P.length = tqC (thM m (6 - r) L) v ∧ (∀ u ∈ P ++ Q, u ≠ v) := by
  have e : ∀ u, u ≠ v → thG m (6 - r) L' u = thG m (6 - r) L u := fun u h => by unfold thG thM; rw [hu u h]
  refine ⟨(List.range v).flatMap (thG m (6 - r) L), ((List.range 32).drop (v + 1)).flatMap (thG m (6 - r) L), thCut hv, ?_, thLen (fun u _ => thG_len), fun u hq => ?_⟩
  · show (List.range 32).flatMap _ = _
    rw [thCut hv, thPre e, thPost e]
  · have g : ∀ w u, u ∈ thG m (6 - r) L w → u = w := fun w u h => by
      unfold thG at h
      split at h
      · exact List.mem_singleton.mp h
      · cases h
    rcases List.mem_append.mp hq with h | h
    · obtain ⟨w, hw, h⟩ := List.mem_flatMap.mp h
      have := g w u h
      have := List.mem_range.mp hw
      omega
    · obtain ⟨w, hw, h⟩ := List.mem_flatMap.mp h
      have := g w u h
      obtain ⟨i, hi, e⟩ := List.mem_iff_getElem.mp hw
      rw [List.getElem_drop, List.getElem_range] at e
      omega
/-- the bits of what has changed at one number -/
theorem trKb_two {m : Int32} {r v : Nat} {L L' : qKV} (hu : ∀ u, u ≠ v → thK m (6 - r) u L' = thK m (6 - r) u L) (hv : v < 32) : (thS m (6 - r) L' v = thS m (6 - r) L v → trKb m (r + 1) L' = trKb m (r + 1) L) ∧ (thS m (6 - r) L' v = true → nI (trKb m (r + 1) L) ||| nI (2 ^ v) = nI (trKb m (r + 1) L')) ∧ (thS m (6 - r) L' v = false → nI (trKb m (r + 1) L) &&& (nI (2 ^ v) ^^^ (-1)) = nI (trKb m (r + 1) L')) := by
  have e : ∀ u, u ≠ v → thS m (6 - r) L' u = thS m (6 - r) L u := fun u h => by unfold thS; rw [hu u h]
  refine ⟨fun h => ?_, fun h => ?_, fun h => ?_⟩
  · refine tqB_ext (fun u _ => ?_)
    by_cases c : u = v
    · subst c; exact h
    · exact e u c
  · rw [tqB_one hv]
    show nI (tqB _ 32) ||| _ = nI (tqB _ 32)
    rw [tqB_or]
    congr 1
    refine tqB_ext (fun u _ => ?_)
    by_cases c : u = v
    · subst c; rw [h]; simp
    · rw [e u c]; simp [c]
  · rw [tqB_one hv, tqB_not]
    show nI (tqB _ 32) &&& _ = nI (tqB _ 32)
    rw [tqB_and]
    congr 1
    refine tqB_ext (fun u _ => ?_)
    by_cases c : u = v
    · subst c; rw [h]; simp
    · rw [e u c]; simp [c]
theorem trNb_two {m : Int32} {r v : Nat} {L L' : qKV} (hu : ∀ u, u ≠ v → thK m (6 - r) u L' = thK m (6 - r) u L) (hv : v < 32) : (thM m (6 - r) L' v = thM m (6 - r) L v → trNb m (r + 1) L' = trNb m (r + 1) L) ∧ (thM m (6 - r) L' v = true → nI (trNb m (r + 1) L) ||| nI (2 ^ v) = nI (trNb m (r + 1) L')) ∧ (thM m (6 - r) L' v = false → nI (trNb m (r + 1) L) &&& (nI (2 ^ v) ^^^ (-1)) = nI (trNb m (r + 1) L')) := by
  have e : ∀ u, u ≠ v → thM m (6 - r) L' u = thM m (6 - r) L u := fun u h => by unfold thM; rw [hu u h]
  refine ⟨fun h => ?_, fun h => ?_, fun h => ?_⟩
  · refine tqB_ext (fun u _ => ?_)
    by_cases c : u = v
    · subst c; exact h
    · exact e u c
  · rw [tqB_one hv]
    show nI (tqB _ 32) ||| _ = nI (tqB _ 32)
    rw [tqB_or]
    congr 1
    refine tqB_ext (fun u _ => ?_)
    by_cases c : u = v
    · subst c; rw [h]; simp
    · rw [e u c]; simp [c]
  · rw [tqB_one hv, tqB_not]
    show nI (tqB _ 32) &&& _ = nI (tqB _ 32)
    rw [tqB_and]
    congr 1
    refine tqB_ext (fun u _ => ?_)
    by_cases c : u = v
    · subst c; rw [h]; simp
    · rw [e u c]; simp [c]
theorem thIn_at {P Q : List Int64} {x : Int64} {j : Nat} (hj : j = P.length) : thIn (P ++ Q) j x = P ++ x :: Q := by
  subst hj
  unfold thIn
  rw [List.take_left' rfl, List.drop_left' rfl]
theorem thEr_at {α : Type} {P Q : List α} {x : α} {j : Nat} (hj : j = P.length) : (P ++ x :: Q).eraseIdx j = P ++ Q := by
  subst hj
  rw [List.eraseIdx_append_of_length_le (Nat.le_refl _), Nat.sub_self]
  rfl
theorem thSet_at {α : Type} {P Q : List α} {x y : α} {j : Nat} (hj : j = P.length) : (P ++ x :: Q).set j y = P ++ y :: Q := by
  subst hj
  rw [List.set_append_right _ _ (Nat.le_refl _), Nat.sub_self]
  rfl
theorem trK_no {m : Int32} {r : Nat} {L : qKV} (h : qNo L) : qNo (trK m r L) := by
  cases r with
  | zero => exact qNo_perm (thO_perm L).symm h
  | succ r =>
    have h1 := qNo_perm (thT_perm (m := m) (r + 1) L).symm h
    exact (List.pairwise_append.mp (show qNo (trK m (r + 1) L ++ _) from h1)).1
theorem qNo_idx {K : qKV} (h : qNo K) {i j : Nat} {p q : Int64 × Int64} (hi : K[i]? = some p) (hj : K[j]? = some q) (e : p.1 = q.1) : i = j := by
  obtain ⟨a1, e1⟩ := List.getElem?_eq_some_iff.mp hi
  obtain ⟨a2, e2⟩ := List.getElem?_eq_some_iff.mp hj
  rcases Nat.lt_trichotomy i j with c | c | c
  · have := List.pairwise_iff_getElem.mp h i j a1 a2 c
    rw [e1, e2] at this
    exact absurd e this
  · exact c
  · have := List.pairwise_iff_getElem.mp h j i a2 a1 c
    rw [e1, e2] at this
    exact absurd e.symm this
/-- the value of one key laid anew -/
theorem xRe_set {K : qKV} (h : qNo K) {j : Nat} {k x0 x : Int64} (hj : K[j]? = some (k, x0)) : xRe K k x = K.set j (k, x) := by
  refine List.ext_getElem? fun i => ?_
  unfold xRe
  rw [List.getElem?_map, List.getElem?_set]
  by_cases c : j = i
  · subst c
    rw [if_pos rfl, if_pos (List.getElem?_eq_some_iff.mp hj).1, hj, Option.map_some, if_pos rfl]
  · rw [if_neg c]
    cases hi : K[i]? with
    | none => rfl
    | some p =>
      rw [Option.map_some, if_neg (fun e => c (qNo_idx h hj hi e.symm))]
theorem thD_er {K : qKV} (h : qNo K) {j : Nat} {k x0 : Int64} (hj : K[j]? = some (k, x0)) : thD K k = K.eraseIdx j := by
  obtain ⟨hl, e⟩ := List.getElem?_eq_some_iff.mp hj
  have e0 : K = K.take j ++ (k, x0) :: K.drop (j + 1) := by
    conv => lhs; rw [← List.take_append_drop j K]
    rw [List.drop_eq_getElem_cons hl, e]
  have h0 := h
  rw [e0] at h0
  obtain ⟨-, h2, h3⟩ := List.pairwise_append.mp h0
  obtain ⟨h4, -⟩ := List.pairwise_cons.mp h2
  rw [List.eraseIdx_eq_take_drop_succ]
  unfold thD
  conv => lhs; rw [e0]
  have f1 : (K.take j).filter (fun p => decide (p.1 ≠ k)) = K.take j := List.filter_eq_self.mpr (fun p hp => decide_eq_true (h3 p hp (k, x0) List.mem_cons_self))
  have f2 : (K.drop (j + 1)).filter (fun p => decide (p.1 ≠ k)) = K.drop (j + 1) := List.filter_eq_self.mpr (fun p hp => decide_eq_true (fun z => h4 p hp z.symm))
  rw [List.filter_append, List.filter_cons, if_neg (by simp), f1, f2]
theorem map_set1 {K : qKV} {j : Nat} {k x0 x : Int64} (hj : K[j]? = some (k, x0)) : (K.set j (k, x)).map Prod.fst = K.map Prod.fst ∧ (K.set j (k, x)).map Prod.snd = (K.map Prod.snd).set j x := by
  refine ⟨?_, List.map_set⟩
  rw [List.map_set]
  refine List.ext_getElem? fun i => ?_
  rw [List.getElem?_set]
  by_cases c : j = i
  · subst c
    rw [if_pos rfl, List.getElem?_map, hj, List.length_map, if_pos (List.getElem?_eq_some_iff.mp hj).1]
    rfl
  · rw [if_neg c]
theorem map_er {K : qKV} {j : Nat} {f : Int64 × Int64 → Int64} : (K.eraseIdx j).map f = (K.map f).eraseIdx j := by
  rw [List.eraseIdx_eq_take_drop_succ, List.eraseIdx_eq_take_drop_succ, List.map_append, List.map_take, List.map_drop]
theorem map_in {K : qKV} {j : Nat} {p : Int64 × Int64} : (K.take j ++ p :: K.drop j).map Prod.fst = thIn (K.map Prod.fst) j p.1 ∧ (K.take j ++ p :: K.drop j).map Prod.snd = thIn (K.map Prod.snd) j p.2 := by
  unfold thIn
  rw [List.map_append, List.map_append, List.map_cons, List.map_cons, List.map_take, List.map_take, List.map_drop, List.map_drop]
  exact ⟨rfl, rfl⟩
theorem take_at {α : Type} {P Q : List α} {j : Nat} (hj : j = P.length) (x : α) : (P ++ Q).take j ++ x :: (P ++ Q).drop j = P ++ x :: Q := by
  subst hj
  rw [List.take_left' rfl, List.drop_left' rfl]
theorem thP_no {L : qKV} {k x : Int64} (h : xHas L k = false) : thP L k x = L ++ [(k, x)] := by unfold thP; rw [if_neg (by rw [h]; decide)]
theorem thP_yes {L : qKV} {k x : Int64} (h : xHas L k = true) : thP L k x = xRe L k x := by unfold thP; rw [if_pos h]
theorem thP_len {L : qKV} {k x : Int64} : (thP L k x).length = L.length + (if xHas L k = true then 0 else 1) := by
  unfold thP
  split
  · rw [xRe_len]; rfl
  · rw [List.length_append]; rfl
theorem xSi_at {K : qKV} (hu : qUp K) {j : Nat} {k x : Int64} (hj : j ≤ K.length) (h1 : ∀ q, q < j → ((K.map Prod.fst).getD q 0).toInt < k.toInt) (h2 : j < K.length → k.toInt < ((K.map Prod.fst).getD j 0).toInt) : xSi K k x = K.take j ++ (k, x) :: K.drop j := by
  have hT : ∀ p ∈ K.take j, p.1.toInt < k.toInt := fun p hp => by
    obtain ⟨i, hi, rfl⟩ := List.mem_iff_getElem.mp hp
    rw [List.length_take] at hi
    rw [List.getElem_take]
    have := h1 i (by omega)
    rw [th_key (List.getElem?_eq_getElem (show i < K.length by omega))] at this
    exact this
  have hD : ∀ p ∈ K.drop j, k.toInt < p.1.toInt := fun p hp => by
    obtain ⟨i, hi, rfl⟩ := List.mem_iff_getElem.mp hp
    rw [List.length_drop] at hi
    rw [List.getElem_drop]
    have g := h2 (by omega)
    rw [th_key (List.getElem?_eq_getElem (show j < K.length by omega))] at g
    rcases Nat.eq_zero_or_pos i with c | c
    · subst c; exact g
    · have := List.pairwise_iff_getElem.mp hu j (j + i) (by omega) (by omega) (by omega)
      omega
  unfold xSi
  have e1 : K.filter (fun p => decide (p.1.toInt ≤ k.toInt)) = K.take j := by
    conv => lhs; rw [← List.take_append_drop j K]
    rw [List.filter_append, List.filter_eq_self.mpr (fun x hx => decide_eq_true (by have := hT x hx; omega)), List.filter_eq_nil_iff.mpr (fun x hx => by have := hD x hx; simp; omega), List.append_nil]
  have e2 : K.filter (fun p => decide (k.toInt < p.1.toInt)) = K.drop j := by
    conv => lhs; rw [← List.take_append_drop j K]
    rw [List.filter_append, List.filter_eq_self.mpr (fun x hx => decide_eq_true (hD x hx)), List.filter_eq_nil_iff.mpr (fun x hx => by have := hT x hx; simp; omega), List.nil_append]
  rw [e1, e2]
