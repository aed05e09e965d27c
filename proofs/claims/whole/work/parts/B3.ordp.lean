/-! the order does not see the values -/
section TMAP
variable {φ : Int64 × Int64 → Int64 × Int64}
theorem xSi_map (hf : ∀ p, (φ p).1 = p.1) {A : qKV} {p : Int64 × Int64} : xSi (A.map φ) (φ p).1 (φ p).2 = (xSi A p.1 p.2).map φ := by
  unfold xSi
  rw [List.filter_map, List.filter_map, List.map_append, List.map_cons]
  have e1 : ((fun q : Int64 × Int64 => decide (q.1.toInt ≤ (φ p).1.toInt)) ∘ φ) = fun q => decide (q.1.toInt ≤ p.1.toInt) := funext fun q => by
    show decide ((φ q).1.toInt ≤ (φ p).1.toInt) = _
    rw [hf, hf]
  have e2 : ((fun q : Int64 × Int64 => decide ((φ p).1.toInt < q.1.toInt)) ∘ φ) = fun q => decide (p.1.toInt < q.1.toInt) := funext fun q => by
    show decide ((φ p).1.toInt < (φ q).1.toInt) = _
    rw [hf, hf]
  rw [e1, e2]
theorem thO_map (hf : ∀ p, (φ p).1 = p.1) : ∀ L : qKV, thO (L.map φ) = (thO L).map φ
  | [] => rfl
  | p :: L => by
    show xSi (thO (L.map φ)) (φ p).1 (φ p).2 = (xSi (thO L) p.1 p.2).map φ
    rw [thO_map hf L, xSi_map hf]
theorem thK_map (hf : ∀ p, (φ p).1 = p.1) {m : Int32} {d v : Nat} {L : qKV} : thK m d v (L.map φ) = (thK m d v L).map φ := by
  unfold thK
  rw [List.filter_map]
  congr 1
  refine List.filter_congr fun q _ => ?_
  show decide (thN m d (φ q).1 = v) = _
  rw [hf]
theorem thS_map (hf : ∀ p, (φ p).1 = p.1) {m : Int32} {d : Nat} {L : qKV} : thS m d (L.map φ) = thS m d L := funext fun v => by
  unfold thS
  rw [thK_map hf, List.length_map]
theorem thM_map (hf : ∀ p, (φ p).1 = p.1) {m : Int32} {d : Nat} {L : qKV} : thM m d (L.map φ) = thM m d L := funext fun v => by
  unfold thM
  rw [thK_map hf, List.length_map]
theorem thF_map (hf : ∀ p, (φ p).1 = p.1) {m : Int32} {d v : Nat} {L : qKV} : thF m d (L.map φ) v = (thF m d L v).map φ := by
  unfold thF
  rw [thS_map hf, thK_map hf]
  split <;> rfl
theorem thT_map (hf : ∀ p, (φ p).1 = p.1) {m : Int32} : ∀ (r : Nat) (L : qKV), thT m r (L.map φ) = (thT m r L).map φ
  | 0, L => thO_map hf L
  | r + 1, L => by
    show (List.range 32).flatMap (thF m (6 - r) (L.map φ)) ++ (List.range 32).flatMap (fun v => if thM m (6 - r) (L.map φ) v = true then thT m r (thK m (6 - r) v (L.map φ)) else []) = ((List.range 32).flatMap (thF m (6 - r) L) ++ (List.range 32).flatMap (fun v => if thM m (6 - r) L v = true then thT m r (thK m (6 - r) v L) else [])).map φ
    rw [List.map_append, List.map_flatMap, List.map_flatMap]
    congr 1
    · congr 1
      exact funext fun v => thF_map hf
    · congr 1
      funext v
      rw [thM_map hf, thK_map hf, thT_map hf r]
      split <;> rfl
theorem thSh_map (hf : ∀ p, (φ p).1 = p.1) {m : Int32} : ∀ (r : Nat) (L : qKV), thSh m r (L.map φ) = thSh m r L
  | 0, L => by
    show 7 + (L.map φ).length = 7 + L.length
    rw [List.length_map]
  | r + 1, L => by
    show ((List.range 32).flatMap (thG m (6 - r) (L.map φ))).foldl (fun s v => 31 * s + thSh m r (thK m (6 - r) v (L.map φ))) (31 * (31 * 17 + tqB (thS m (6 - r) (L.map φ)) 32) + tqB (thM m (6 - r) (L.map φ)) 32) = ((List.range 32).flatMap (thG m (6 - r) L)).foldl (fun s v => 31 * s + thSh m r (thK m (6 - r) v L)) (31 * (31 * 17 + tqB (thS m (6 - r) L) 32) + tqB (thM m (6 - r) L) 32)
    have e1 : thG m (6 - r) (L.map φ) = thG m (6 - r) L := funext fun v => by
      unfold thG
      rw [thM_map hf]
    have e2 : (fun (s v : Nat) => 31 * s + thSh m r (thK m (6 - r) v (L.map φ))) = fun s v => 31 * s + thSh m r (thK m (6 - r) v L) := funext fun s => funext fun v => by
      rw [thK_map hf, thSh_map hf r]
    rw [e1, e2, thS_map hf, thM_map hf]
end TMAP
/-- a row's keys with their places -/
def qIx (f : Nat → Int64) (n : Nat) : qKV := (List.range n).map (fun j => (f j, lN j))
def qIv (kd : Int32) (g : Nat → Int64) (p : Int64 × Int64) : Int64 × Int64 := (p.1, xV kd (g p.2.toBitVec.toNat))
theorem qIx_len {f : Nat → Int64} {n : Nat} : (qIx f n).length = n := by
  unfold qIx
  rw [List.length_map, List.length_range]
theorem lN_tn {j : Nat} (h : j < 2 ^ 64) : (lN j).toBitVec.toNat = j := by
  show (BitVec.ofNat 64 j).toNat = j
  rw [BitVec.toNat_ofNat, Nat.mod_eq_of_lt h]
theorem qIx_v {kd : Int32} {f g : Nat → Int64} {n : Nat} (hn : n ≤ 1000) : (qIx f n).map (qIv kd g) = qLs kd f g n := by
  unfold qIx
  rw [List.map_map, qLs_def]
  refine List.map_congr_left fun j hj => ?_
  have := List.mem_range.mp hj
  show (f j, xV kd (g (lN j).toBitVec.toNat)) = _
  rw [lN_tn (by omega)]
theorem qIx_get {f : Nat → Int64} {n i : Nat} {p : Int64 × Int64} (h : (qIx f n)[i]? = some p) : i < n ∧ p = (f i, lN i) := by
  have hi := (List.getElem?_eq_some_iff.mp h).1
  rw [qIx_len] at hi
  unfold qIx at h
  rw [List.getElem?_map, List.getElem?_range hi] at h
  cases h
  exact ⟨hi, rfl⟩
theorem qIx_mem {f : Nat → Int64} {n : Nat} {p : Int64 × Int64} (h : p ∈ qIx f n) : ∃ j, j < n ∧ p = (f j, lN j) := by
  obtain ⟨i, hi⟩ := List.mem_iff_getElem?.mp h
  exact ⟨i, qIx_get hi⟩
theorem qIx_no {kd : Int32} {f g : Nat → Int64} {n : Nat} (hn : n ≤ 1000) (h : qNo (qLs kd f g n)) : qNo (qIx f n) := by
  rw [← qIx_v hn] at h
  unfold qNo at h ⊢
  rw [List.pairwise_map] at h
  exact h
/-- the row 'ordered', after the order was found -/
theorem qIx_or {kd m : Int32} {f g : Nat → Int64} {n i : Nat} {O : Nat → Int32} (hn : n ≤ 1000) (hi : i < n) : ∃ j, j < n ∧ qPourI O 0 ((thT m 7 (qIx f n)).map ix9) i = nI j ∧ (thT m 7 (qLs kd f g n))[i]? = some (f j, xV kd (g j)) := by
  have hl : i < (thT m 7 (qIx f n)).length := by rw [thT_len, qIx_len]; exact hi
  obtain ⟨p, hp⟩ : ∃ p, (thT m 7 (qIx f n))[i]? = some p := ⟨_, List.getElem?_eq_getElem hl⟩
  obtain ⟨j, hj, e⟩ := qIx_mem ((thT_perm 7 _).mem_iff.mp (List.mem_of_getElem? hp))
  refine ⟨j, hj, ?_, ?_⟩
  · unfold qPourI
    rw [List.length_map, if_pos ⟨Nat.zero_le _, by rw [Nat.zero_add]; exact hl⟩, List.getD_eq_getElem?_getD, Nat.sub_zero, List.getElem?_map, hp]
    show ix9 p = _
    rw [e]
    exact lN_i32
  · rw [← qIx_v hn, thT_map (φ := qIv kd g) (fun _ => rfl), List.getElem?_map, hp, e]
    show some (f j, xV kd (g (lN j).toBitVec.toNat)) = _
    rw [lN_tn (by omega)]
theorem qIx_sh {kd m : Int32} {f g : Nat → Int64} {n : Nat} (hn : n ≤ 1000) : thSh m 7 (qIx f n) = thSh m 7 (qLs kd f g n) := by
  rw [← qIx_v (kd := kd) (g := g) hn, thSh_map (φ := qIv kd g) (fun _ => rfl)]
