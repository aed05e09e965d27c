/-! MAP, SET: what a node holds, as a list of keys with values -/
/-- a key's hash -/
def thH (m : Int32) (k : Int64) : Nat := (k.toInt32 &&& m).toBitVec.toNat
theorem thH_lt {m : Int32} {k : Int64} : thH m k < 2 ^ 32 := BitVec.isLt _
/-- its number at a level -/
def thN (m : Int32) (d : Nat) (k : Int64) : Nat := thH m k / 32 ^ d % 32
theorem thN_lt {m : Int32} {d : Nat} {k : Int64} : thN m d k < 32 := Nat.mod_lt _ (by decide)
/-- those of a number -/
def thK (m : Int32) (d v : Nat) (L : qKV) : qKV := L.filter (fun p => decide (thN m d p.1 = v))
def thS (m : Int32) (d : Nat) (L : qKV) (v : Nat) : Bool := decide ((thK m d v L).length = 1)
def thM (m : Int32) (d : Nat) (L : qKV) (v : Nat) : Bool := decide (2 ≤ (thK m d v L).length)
/-- put and out of a list -/
def thP (L : qKV) (k x : Int64) : qKV := if xHas L k = true then xRe L k x else L ++ [(k, x)]
def thD (L : qKV) (k : Int64) : qKV := L.filter (fun p => decide (p.1 ≠ k))
theorem xHas_iff {L : qKV} {k : Int64} : xHas L k = true ↔ ∃ p ∈ L, p.1 = k := by
  unfold xHas
  simp [List.any_eq_true]
theorem xHas_no {L : qKV} {k : Int64} : xHas L k = false ↔ ∀ p ∈ L, p.1 ≠ k := by
  rw [← Bool.not_eq_true, xHas_iff]
  exact ⟨fun h p hp e => h ⟨p, hp, e⟩, fun h ⟨p, hp, e⟩ => h p hp e⟩
theorem thK_mem {m : Int32} {d v : Nat} {L : qKV} {p : Int64 × Int64} : p ∈ thK m d v L ↔ p ∈ L ∧ thN m d p.1 = v := by
  unfold thK
  rw [List.mem_filter, decide_eq_true_iff]
theorem thK_has {m : Int32} {d : Nat} {L : qKV} {k : Int64} : xHas (thK m d (thN m d k) L) k = xHas L k := by
  rw [Bool.eq_iff_iff, xHas_iff, xHas_iff]
  constructor
  · rintro ⟨p, hp, e⟩
    exact ⟨p, (thK_mem.mp hp).1, e⟩
  · rintro ⟨p, hp, e⟩
    exact ⟨p, thK_mem.mpr ⟨hp, by rw [e]⟩, e⟩
theorem xRe_keys {L : qKV} {k x : Int64} : (xRe L k x).map Prod.fst = L.map Prod.fst := by
  unfold xRe
  rw [List.map_map]
  refine List.map_congr_left fun p _ => ?_
  show (if p.1 = k then (k, x) else p).1 = p.1
  split
  · rename_i e; exact e.symm
  · rfl
theorem xRe_len {L : qKV} {k x : Int64} : (xRe L k x).length = L.length := by unfold xRe; rw [List.length_map]
theorem thK_re {m : Int32} {d v : Nat} {L : qKV} {k x : Int64} : thK m d v (xRe L k x) = xRe (thK m d v L) k x := by
  unfold thK xRe
  rw [List.filter_map]
  congr 1
  refine List.filter_congr fun p _ => ?_
  show decide (thN m d (if p.1 = k then (k, x) else p).1 = v) = _
  split
  · rename_i e; rw [e]
  · rfl
theorem xRe_no {L : qKV} {k x : Int64} (h : xHas L k = false) : xRe L k x = L := by
  unfold xRe
  have e : List.map (fun p => if p.fst = k then (k, x) else p) L = List.map id L := List.map_congr_left (fun p hp => if_neg (xHas_no.mp h p hp))
  rw [e, List.map_id]
theorem thK_put {m : Int32} {d : Nat} {L : qKV} {k x : Int64} : thK m d (thN m d k) (thP L k x) = thP (thK m d (thN m d k) L) k x := by
  unfold thP
  rw [thK_has]
  split
  · exact thK_re
  · unfold thK; rw [List.filter_append]; simp
theorem thK_put2 {m : Int32} {d v : Nat} {L : qKV} {k x : Int64} (h : v ≠ thN m d k) : thK m d v (thP L k x) = thK m d v L := by
  unfold thP
  split
  · rw [thK_re, xRe_no]
    rw [xHas_no]
    intro p hp e
    exact h (by rw [← e]; exact (thK_mem.mp hp).2.symm)
  · unfold thK; rw [List.filter_append]; simp; exact fun e => h e.symm
theorem thK_del {m : Int32} {d : Nat} {L : qKV} {k : Int64} {v : Nat} : thK m d v (thD L k) = thD (thK m d v L) k := by
  unfold thK thD
  rw [List.filter_filter, List.filter_filter]
  refine List.filter_congr fun p _ => Bool.and_comm _ _
theorem thD_no {L : qKV} {k : Int64} (h : xHas L k = false) : thD L k = L := List.filter_eq_self.mpr (fun p hp => decide_eq_true (xHas_no.mp h p hp))
theorem thK_del2 {m : Int32} {d v : Nat} {L : qKV} {k : Int64} (h : v ≠ thN m d k) : thK m d v (thD L k) = thK m d v L := by
  rw [thK_del, thD_no]
  rw [xHas_no]
  intro p hp e
  exact h (by rw [← e]; exact (thK_mem.mp hp).2.symm)
theorem qNo_k {m : Int32} {d v : Nat} {L : qKV} (h : qNo L) : qNo (thK m d v L) := List.Pairwise.filter _ h
theorem qNo_d {L : qKV} {k : Int64} (h : qNo L) : qNo (thD L k) := List.Pairwise.filter _ h
theorem qNo_keys {L : qKV} : qNo L ↔ (L.map Prod.fst).Pairwise (· ≠ ·) := by
  unfold qNo
  rw [List.pairwise_map]
theorem qNo_re {L : qKV} {k x : Int64} (h : qNo L) : qNo (xRe L k x) := by
  rw [qNo_keys, xRe_keys, ← qNo_keys]; exact h
theorem qNo_p {L : qKV} {k x : Int64} (h : qNo L) : qNo (thP L k x) := by
  unfold thP
  split
  · exact qNo_re h
  · rename_i c
    have c := xHas_no.mp (Bool.not_eq_true _ ▸ c)
    refine List.pairwise_append.mpr ⟨h, List.pairwise_singleton _ _, fun a ha b hb => ?_⟩
    rw [List.mem_singleton.mp hb]
    exact c a ha
theorem qNo_uni {L : qKV} (h : qNo L) {p q : Int64 × Int64} (hp : p ∈ L) (hq : q ∈ L) (e : p.1 = q.1) : p = q := by
  induction L with
  | nil => cases hp
  | cons a L ih =>
    obtain ⟨h1, h2⟩ := List.pairwise_cons.mp h
    rcases List.mem_cons.mp hp with e1 | hp
    · rcases List.mem_cons.mp hq with e2 | hq
      · rw [e1, e2]
      · exact absurd (e1 ▸ e) (h1 q hq)
    · rcases List.mem_cons.mp hq with e2 | hq
      · exact absurd (e2 ▸ e.symm) (h1 p hp)
      · exact ih h2 hp hq
/-- one less -/
theorem thD_len {L : qKV} {k : Int64} (h : qNo L) (hk : xHas L k = true) : (thD L k).length + 1 = L.length := by
  induction L with
  | nil => obtain ⟨p, hp, -⟩ := xHas_iff.mp hk; cases hp
  | cons a L ih =>
    obtain ⟨h1, h2⟩ := List.pairwise_cons.mp h
    by_cases c : a.1 = k
    · have : xHas L k = false := xHas_no.mpr (fun p hp e => h1 p hp (c.trans e.symm))
      have e : thD (a :: L) k = thD L k := by unfold thD; rw [List.filter_cons, if_neg (by simp [c])]
      rw [e, thD_no this]
      rfl
    · have hk2 : xHas L k = true := by
        obtain ⟨p, hp, e⟩ := xHas_iff.mp hk
        rcases List.mem_cons.mp hp with rfl | hp
        · exact absurd e c
        · exact xHas_iff.mpr ⟨p, hp, e⟩
      have e : thD (a :: L) k = a :: thD L k := by unfold thD; rw [List.filter_cons, if_pos (by simp [c])]
      rw [e, List.length_cons, List.length_cons, ih h2 hk2]
/-! sorted by key: the bottom -/
def thO : qKV → qKV
  | [] => []
  | p :: L => xSi (thO L) p.1 p.2
theorem xSi_perm {A : qKV} {k v : Int64} : (xSi A k v).Perm ((k, v) :: A) := by
  unfold xSi
  refine List.Perm.trans List.perm_middle ?_
  refine List.Perm.cons _ ?_
  have := List.filter_append_perm (fun p : Int64 × Int64 => decide (p.1.toInt ≤ k.toInt)) A
  rw [show (fun p : Int64 × Int64 => decide (k.toInt < p.1.toInt)) = (fun p => !decide (p.1.toInt ≤ k.toInt)) from funext fun p => by
    by_cases c : k.toInt < p.1.toInt
    · simp [c]
    · simp [c]; omega]
  exact this
theorem xSi_up {A : qKV} {k v : Int64} (h : qUp A) : qUp (xSi A k v) := by
  unfold xSi
  refine List.pairwise_append.mpr ⟨List.Pairwise.filter _ h, List.pairwise_cons.mpr ⟨fun p hp => ?_, List.Pairwise.filter _ h⟩, fun p hp q hq => ?_⟩
  · have := (List.mem_filter.mp hp).2
    have := of_decide_eq_true this
    show k.toInt ≤ p.1.toInt
    omega
  · have h1 := of_decide_eq_true (List.mem_filter.mp hp).2
    rcases List.mem_cons.mp hq with rfl | hq
    · exact h1
    · have h2 := of_decide_eq_true (List.mem_filter.mp hq).2
      show p.1.toInt ≤ q.1.toInt
      omega
theorem thO_perm : ∀ L : qKV, (thO L).Perm L
  | [] => List.Perm.nil
  | p :: L => List.Perm.trans xSi_perm (List.Perm.cons _ (thO_perm L))
theorem thO_up : ∀ L : qKV, qUp (thO L)
  | [] => List.Pairwise.nil
  | _ :: L => xSi_up (thO_up L)
theorem thO_len {L : qKV} : (thO L).length = L.length := (thO_perm L).length_eq
theorem qNo_perm {A B : qKV} (p : A.Perm B) (h : qNo A) : qNo B := p.pairwise h (fun {a b} e => fun z => e z.symm)
/-- what is sorted is determined by what it holds -/
theorem qUp_uni {A B : qKV} (hA : qUp A) (hB : qUp B) (hn : qNo A) (p : A.Perm B) : A = B := by
  refine List.Perm.eq_of_pairwise (fun a b ha hb h1 h2 => ?_) hA hB p
  exact qNo_uni hn ha (p.mem_iff.mpr hb) (Int64.toInt_inj.mp (Int.le_antisymm h1 h2))
theorem thO_put {L : qKV} {k x : Int64} (h : qNo L) (hk : xHas L k = false) : thO (L ++ [(k, x)]) = xSi (thO L) k x := by
  have hp : qNo (L ++ [(k, x)]) := by
    have := qNo_p (k := k) (x := x) h
    unfold thP at this
    rw [if_neg (by rw [hk]; decide)] at this
    exact this
  refine qUp_uni (thO_up _) (xSi_up (thO_up _)) (qNo_perm (thO_perm _).symm hp) ?_
  refine List.Perm.trans (thO_perm _) (List.Perm.trans ?_ xSi_perm.symm)
  refine List.Perm.trans List.perm_append_comm ?_
  exact List.Perm.cons _ (thO_perm L).symm
theorem thO_re {L : qKV} {k x : Int64} (h : qNo L) : thO (xRe L k x) = xRe (thO L) k x := by
  refine qUp_uni (thO_up _) ?_ (qNo_perm (thO_perm _).symm (qNo_re h)) (List.Perm.trans (thO_perm _) ?_)
  · have e := xRe_keys (L := thO L) (k := k) (x := x)
    have h1 := thO_up L
    unfold qUp at h1 ⊢
    rw [← List.pairwise_map (f := Prod.fst) (R := fun a b : Int64 => a.toInt ≤ b.toInt)] at h1 ⊢
    rw [e]; exact h1
  · unfold xRe; exact List.Perm.map _ (thO_perm L).symm
theorem thO_del {L : qKV} {k : Int64} (h : qNo L) : thO (thD L k) = thD (thO L) k := by
  refine qUp_uni (thO_up _) (List.Pairwise.filter _ (thO_up _)) (qNo_perm (thO_perm _).symm (qNo_d h)) (List.Perm.trans (thO_perm _) ?_)
  exact List.Perm.filter _ (thO_perm L).symm
/-! by number: a level above -/
/-- cut at a number -/
theorem thCut {α : Type} {f : Nat → List α} {v : Nat} (hv : v < 32) : (List.range 32).flatMap f = (List.range v).flatMap f ++ (f v ++ ((List.range 32).drop (v + 1)).flatMap f) := by
  have e : List.range 32 = List.range v ++ v :: (List.range 32).drop (v + 1) := by
    have e1 := List.take_append_drop v (List.range 32)
    rw [List.take_range, Nat.min_eq_left (by omega), List.drop_eq_getElem_cons (by rw [List.length_range]; exact hv)] at e1
    rw [List.getElem_range] at e1
    exact e1.symm
  conv => lhs; rw [e]
  rw [List.flatMap_append, List.flatMap_cons]
theorem thPre {α : Type} {f g : Nat → List α} {v : Nat} (h : ∀ u, u ≠ v → f u = g u) : (List.range v).flatMap f = (List.range v).flatMap g := by
  rw [List.flatMap_def, List.flatMap_def, List.map_congr_left (fun u hu => h u (fun e => by have := List.mem_range.mp hu; omega))]
theorem thPost {α : Type} {f g : Nat → List α} {v : Nat} (h : ∀ u, u ≠ v → f u = g u) : ((List.range 32).drop (v + 1)).flatMap f = ((List.range 32).drop (v + 1)).flatMap g := by
  rw [List.flatMap_def, List.flatMap_def, List.map_congr_left (fun u hu => h u (fun e => ?_))]
  subst e
  obtain ⟨i, hi, e⟩ := List.mem_iff_getElem.mp hu
  rw [List.getElem_drop, List.getElem_range] at e
  omega
theorem thLen {α : Type} {f : Nat → List α} {p : Nat → Bool} : ∀ {v : Nat}, (∀ u, u < v → (f u).length = if p u = true then 1 else 0) → ((List.range v).flatMap f).length = tqC p v
  | 0, _ => rfl
  | v + 1, h => by
    rw [List.range_succ, List.flatMap_append, List.length_append, thLen (v := v) (fun u hu => h u (by omega))]
    simp only [List.flatMap_cons, List.flatMap_nil, List.append_nil]
    rw [h v (by omega)]
    rfl
def thF (m : Int32) (d : Nat) (L : qKV) (v : Nat) : qKV := if thS m d L v = true then thK m d v L else []
def thG (m : Int32) (d : Nat) (L : qKV) (v : Nat) : List Nat := if thM m d L v = true then [v] else []
theorem thF_len {m : Int32} {d : Nat} {L : qKV} {v : Nat} : (thF m d L v).length = if thS m d L v = true then 1 else 0 := by
  unfold thF
  split
  · rename_i h; unfold thS at h; exact of_decide_eq_true h
  · rfl
theorem thG_len {m : Int32} {d : Nat} {L : qKV} {v : Nat} : (thG m d L v).length = if thM m d L v = true then 1 else 0 := by
  unfold thG
  split <;> rfl
/-- the keys of a node itself, the numbers of its nodes, the bits of both; r levels lie below -/
def trK (m : Int32) : Nat → qKV → qKV
  | 0, L => thO L
  | r + 1, L => (List.range 32).flatMap (thF m (6 - r) L)
def trM (m : Int32) : Nat → qKV → List Nat
  | 0, _ => []
  | r + 1, L => (List.range 32).flatMap (thG m (6 - r) L)
def trKb (m : Int32) : Nat → qKV → Nat
  | 0, _ => 0
  | r + 1, L => tqB (thS m (6 - r) L) 32
def trNb (m : Int32) : Nat → qKV → Nat
  | 0, _ => 0
  | r + 1, L => tqB (thM m (6 - r) L) 32
theorem thF_put {m : Int32} {d : Nat} {L : qKV} {k x : Int64} {u : Nat} (h : u ≠ thN m d k) : thF m d (thP L k x) u = thF m d L u ∧ thG m d (thP L k x) u = thG m d L u ∧ thS m d (thP L k x) u = thS m d L u ∧ thM m d (thP L k x) u = thM m d L u := by
  unfold thF thG thS thM
  rw [thK_put2 h]
  exact ⟨rfl, rfl, rfl, rfl⟩
theorem thF_del {m : Int32} {d : Nat} {L : qKV} {k : Int64} {u : Nat} (h : u ≠ thN m d k) : thF m d (thD L k) u = thF m d L u ∧ thG m d (thD L k) u = thG m d L u ∧ thS m d (thD L k) u = thS m d L u ∧ thM m d (thD L k) u = thM m d L u := by
  unfold thF thG thS thM
  rw [thK_del2 h]
  exact ⟨rfl, rfl, rfl, rfl⟩
theorem thLen1 {α : Type} {L : List α} (h : L.length = 1) : ∃ a, L = [a] := by
  match L, h with
  | [a], _ => exact ⟨a, rfl⟩
/-- the key that stands alone at a number -/
theorem thS_one {m : Int32} {d : Nat} {L : qKV} {v : Nat} (h : thS m d L v = true) : ∃ p, thK m d v L = [p] ∧ thF m d L v = [p] := by
  have h1 : (thK m d v L).length = 1 := of_decide_eq_true h
  obtain ⟨p, e⟩ := thLen1 h1
  exact ⟨p, e, by unfold thF; rw [if_pos h, e]⟩
theorem trK_at {m : Int32} {r : Nat} {L : qKV} {v : Nat} (hv : v < 32) {p : Int64 × Int64} (h : thF m (6 - r) L v = [p]) : (trK m (r + 1) L)[tqC (thS m (6 - r) L) v]? = some p := by
  show ((List.range 32).flatMap (thF m (6 - r) L))[_]? = _
  rw [thCut hv, List.getElem?_append_right (by rw [thLen (fun u _ => thF_len)]; exact Nat.le_refl _), thLen (fun u _ => thF_len), Nat.sub_self, h]
  rfl
theorem trM_at {m : Int32} {r : Nat} {L : qKV} {v : Nat} (hv : v < 32) (h : thM m (6 - r) L v = true) : (trM m (r + 1) L)[tqC (thM m (6 - r) L) v]? = some v := by
  show ((List.range 32).flatMap (thG m (6 - r) L))[_]? = _
  rw [thCut hv, List.getElem?_append_right (by rw [thLen (fun u _ => thG_len)]; exact Nat.le_refl _), thLen (fun u _ => thG_len), Nat.sub_self]
  unfold thG
  rw [if_pos h]
  rfl
theorem trM_mem {m : Int32} {r : Nat} {L : qKV} {v : Nat} : v ∈ trM m (r + 1) L ↔ v < 32 ∧ thM m (6 - r) L v = true := by
  show v ∈ (List.range 32).flatMap (thG m (6 - r) L) ↔ _
  rw [List.mem_flatMap]
  constructor
  · rintro ⟨u, hu, h⟩
    unfold thG at h
    split at h
    · rename_i c
      rw [List.mem_singleton.mp h]
      exact ⟨List.mem_range.mp hu, c⟩
    · cases h
  · rintro ⟨hv, h⟩
    exact ⟨v, List.mem_range.mpr hv, by unfold thG; rw [if_pos h]; exact List.mem_singleton.mpr rfl⟩
theorem trK_mem {m : Int32} {r : Nat} {L : qKV} {p : Int64 × Int64} : p ∈ trK m (r + 1) L ↔ p ∈ L ∧ thS m (6 - r) L (thN m (6 - r) p.1) = true := by
  show p ∈ (List.range 32).flatMap (thF m (6 - r) L) ↔ _
  rw [List.mem_flatMap]
  constructor
  · rintro ⟨u, hu, h⟩
    unfold thF at h
    split at h
    · rename_i c
      obtain ⟨h1, rfl⟩ := thK_mem.mp h
      exact ⟨h1, c⟩
    · cases h
  · rintro ⟨hp, h⟩
    exact ⟨_, List.mem_range.mpr thN_lt, by unfold thF; rw [if_pos h]; exact thK_mem.mpr ⟨hp, rfl⟩⟩
/-- the numbers are each there once -/
theorem trM_nd {m : Int32} {r : Nat} {L : qKV} {i j v : Nat} (hi : (trM m r L)[i]? = some v) (hj : (trM m r L)[j]? = some v) : i = j := by
  cases r with
  | zero => cases hi
  | succ r =>
    have nd : ∀ n : Nat, ((List.range n).flatMap (thG m (6 - r) L)).Pairwise (fun a b => a < b) ∧ ∀ a ∈ (List.range n).flatMap (thG m (6 - r) L), a < n := by
      intro n
      induction n with
      | zero => exact ⟨List.Pairwise.nil, fun a h => by cases h⟩
      | succ n ih =>
        rw [List.range_succ, List.flatMap_append]
        have hm : ∀ b ∈ [n].flatMap (thG m (6 - r) L), b = n := fun b hb => by
          rw [List.flatMap_cons, List.flatMap_nil, List.append_nil] at hb
          unfold thG at hb
          split at hb
          · exact List.mem_singleton.mp hb
          · cases hb
        refine ⟨List.pairwise_append.mpr ⟨ih.1, ?_, fun a ha b hb => ?_⟩, fun a ha => ?_⟩
        · rw [List.flatMap_cons, List.flatMap_nil, List.append_nil]
          unfold thG
          split
          · exact List.pairwise_singleton _ _
          · exact List.Pairwise.nil
        · rw [hm b hb]; exact ih.2 a ha
        · rcases List.mem_append.mp ha with h | h
          · have := ih.2 a h; omega
          · rw [hm a h]; omega
    have h : (trM m (r + 1) L).Pairwise (fun a b => a < b) := (nd 32).1
    obtain ⟨a1, e1⟩ := List.getElem?_eq_some_iff.mp hi
    obtain ⟨a2, e2⟩ := List.getElem?_eq_some_iff.mp hj
    rcases Nat.lt_trichotomy i j with c | c | c
    · have := List.pairwise_iff_getElem.mp h i j a1 a2 c
      rw [e1, e2] at this
      omega
    · exact c
    · have := List.pairwise_iff_getElem.mp h j i a2 a1 c
      rw [e1, e2] at this
      omega
theorem trM_len {m : Int32} {r : Nat} {L : qKV} : (trM m r L).length ≤ 32 := by
  cases r with
  | zero => exact Nat.zero_le _
  | succ r =>
    show ((List.range 32).flatMap (thG m (6 - r) L)).length ≤ 32
    rw [thLen (fun u _ => thG_len)]
    exact tqC_le 32
/-- a node's bit for a key -/
theorem trNb_has {m : Int32} {r : Nat} {L : qKV} {v : Nat} (hv : v < 32) : nI (trNb m (r + 1) L) &&& nI (2 ^ v) = 0 ↔ thM m (6 - r) L v = false := tqB_has hv
theorem trKb_has {m : Int32} {r : Nat} {L : qKV} {v : Nat} (hv : v < 32) : nI (trKb m (r + 1) L) &&& nI (2 ^ v) = 0 ↔ thS m (6 - r) L v = false := tqB_has hv
