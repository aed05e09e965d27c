/-- the elements of the number c stand side by side -/
def zBk (H : Int64 × Int64 → Nat) (c : Nat) (T : qKV) : Prop := ∃ A F B : qKV, T = A ++ (F ++ B) ∧ (∀ p ∈ F, H p = c) ∧ (∀ p ∈ A, H p ≠ c) ∧ ∀ p ∈ B, H p ≠ c
theorem zBk.none {H : Int64 × Int64 → Nat} {c : Nat} {T : qKV} (h : ∀ p ∈ T, H p ≠ c) : zBk H c T := ⟨[], [], T, rfl, fun _ z => (by cases z), fun _ z => (by cases z), h⟩
theorem zBk.all {H : Int64 × Int64 → Nat} {c : Nat} {T : qKV} (h : ∀ p ∈ T, H p = c) : zBk H c T := ⟨[], T, [], by simp, h, fun _ z => (by cases z), fun _ z => (by cases z)⟩
theorem zBk.left {H : Int64 × Int64 → Nat} {c : Nat} {T U : qKV} (h : ∀ p ∈ T, H p ≠ c) (b : zBk H c U) : zBk H c (T ++ U) := by
  obtain ⟨A, F, B, e, h1, h2, h3⟩ := b
  exact ⟨T ++ A, F, B, by rw [e, List.append_assoc], h1, fun p hp => (List.mem_append.mp hp).elim (h p) (h2 p), h3⟩
theorem zBk.right {H : Int64 × Int64 → Nat} {c : Nat} {T U : qKV} (b : zBk H c T) (h : ∀ p ∈ U, H p ≠ c) : zBk H c (T ++ U) := by
  obtain ⟨A, F, B, e, h1, h2, h3⟩ := b
  exact ⟨A, F, B ++ U, by rw [e, List.append_assoc, List.append_assoc], h1, h2, fun p hp => (List.mem_append.mp hp).elim (h3 p) (h p)⟩
theorem zBk.flat {H : Int64 × Int64 → Nat} {c v0 : Nat} {f : Nat → qKV} (h0 : zBk H c (f v0)) (h : ∀ v, v ≠ v0 → ∀ p ∈ f v, H p ≠ c) : ∀ vs : List Nat, vs.Nodup → zBk H c (vs.flatMap f)
  | [], _ => zBk.none (fun p hp => by cases hp)
  | v :: vs, hn => by
    have hn := List.nodup_cons.mp hn
    rw [List.flatMap_cons]
    by_cases e : v = v0
    · subst e
      refine zBk.right h0 (fun p hp => ?_)
      obtain ⟨w, hw, hp⟩ := List.mem_flatMap.mp hp
      exact h w (fun z => hn.1 (z ▸ hw)) p hp
    · exact zBk.left (h v e) (zBk.flat h0 h vs hn.2)
theorem thT_mem {m : Int32} {r : Nat} {L : qKV} {p : Int64 × Int64} (h : p ∈ thT m r L) : p ∈ L := (thT_perm r L).subset h
theorem thT_bk {m : Int32} (c : Nat) : ∀ (r : Nat) (L : qKV), r ≤ 7 → (∀ p ∈ L, ∀ q ∈ L, thH m p.1 % 32 ^ (7 - r) = thH m q.1 % 32 ^ (7 - r)) → zBk (fun p => thH m p.1) c (thT m r L)
  | 0, L, _, hh => by
    by_cases e : ∃ p ∈ thT m 0 L, thH m p.1 = c
    · obtain ⟨p, hp, e⟩ := e
      refine zBk.all (fun q hq => ?_)
      have := hh q (thT_mem hq) p (thT_mem hp)
      rw [Nat.mod_eq_of_lt (Nat.lt_trans thH_lt (by decide)), Nat.mod_eq_of_lt (Nat.lt_trans thH_lt (by decide))] at this
      exact this.trans e
    · exact zBk.none (fun p hp z => e ⟨p, hp, z⟩)
  | r + 1, L, hr, hh => by
    have dig : ∀ {v : Nat} {p : Int64 × Int64}, p ∈ thK m (6 - r) v L → p ∈ L ∧ thN m (6 - r) p.1 = v := fun {v p} hp => by
      obtain ⟨h1, h2⟩ := List.mem_filter.mp hp; exact ⟨h1, of_decide_eq_true h2⟩
    have sub : ∀ v, ∀ p ∈ thK m (6 - r) v L, ∀ q ∈ thK m (6 - r) v L, thH m p.1 % 32 ^ (7 - r) = thH m q.1 % 32 ^ (7 - r) := fun v p hp q hq => by
      obtain ⟨p1, p2⟩ := dig hp
      obtain ⟨q1, q2⟩ := dig hq
      have e := hh p p1 q q1
      rw [show 7 - (r + 1) = 6 - r by omega] at e
      rw [show 7 - r = (6 - r) + 1 by omega, Nat.pow_succ, Nat.mod_mul, Nat.mod_mul, e]
      unfold thN at p2 q2
      rw [p2, q2]
    have c0 : ∀ v, v ≠ c / 32 ^ (6 - r) % 32 → ∀ p : Int64 × Int64, thN m (6 - r) p.1 = v → thH m p.1 ≠ c := fun v n p e z => n (by rw [← z, ← e]; rfl)
    show zBk _ c (trK m (r + 1) L ++ (List.range 32).flatMap (fun v => if thM m (6 - r) L v = true then thT m r (thK m (6 - r) v L) else []))
    by_cases s : thM m (6 - r) L (c / 32 ^ (6 - r) % 32) = true
    · refine zBk.left (fun p hp => ?_) (zBk.flat (v0 := c / 32 ^ (6 - r) % 32) (by rw [if_pos s]; exact thT_bk c r _ (by omega) (sub _)) (fun v n p hp => ?_) _ List.nodup_range)
      · obtain ⟨v, hv, hp⟩ := List.mem_flatMap.mp hp
        unfold thF at hp
        by_cases s1 : thS m (6 - r) L v = true
        · rw [if_pos s1] at hp
          refine c0 v (fun z => ?_) p (dig hp).2
          subst z
          unfold thS at s1
          unfold thM at s
          have := of_decide_eq_true s1
          have := of_decide_eq_true s
          omega
        · rw [if_neg s1] at hp; cases hp
      · by_cases s1 : thM m (6 - r) L v = true
        · rw [if_pos s1] at hp
          exact c0 v n p (dig (thT_mem hp)).2
        · rw [if_neg s1] at hp; cases hp
    · refine zBk.right (zBk.flat (v0 := c / 32 ^ (6 - r) % 32) ?_ (fun v n p hp => ?_) _ List.nodup_range) (fun p hp => ?_)
      · show zBk _ c (thF m (6 - r) L (c / 32 ^ (6 - r) % 32))
        unfold thF
        by_cases s1 : thS m (6 - r) L (c / 32 ^ (6 - r) % 32) = true
        · rw [if_pos s1]
          unfold thS at s1
          have l1 := of_decide_eq_true s1
          obtain ⟨x, ex⟩ := List.length_eq_one_iff.mp l1
          rw [ex]
          by_cases z : thH m x.1 = c
          · exact zBk.all (fun p hp => by rw [List.mem_singleton.mp hp]; exact z)
          · exact zBk.none (fun p hp => by rw [List.mem_singleton.mp hp]; exact z)
        · rw [if_neg s1]; exact zBk.none (fun p hp => by cases hp)
      · change p ∈ thF m (6 - r) L v at hp
        unfold thF at hp
        by_cases s1 : thS m (6 - r) L v = true
        · rw [if_pos s1] at hp; exact c0 v n p (dig hp).2
        · rw [if_neg s1] at hp; cases hp
      · obtain ⟨v, hv, hp⟩ := List.mem_flatMap.mp hp
        by_cases s1 : thM m (6 - r) L v = true
        · rw [if_pos s1] at hp
          exact c0 v (fun z => s (z ▸ s1)) p (dig (thT_mem hp)).2
        · rw [if_neg s1] at hp; cases hp
/-- the keys of one number stand side by side -/
theorem zBk.mid {H : Int64 × Int64 → Nat} {T : qKV} (h : ∀ c, zBk H c T) {a b c : Nat} (hab : a ≤ b) (hbc : b ≤ c) {p q w : Int64 × Int64} (ea : T[a]? = some p) (eb : T[b]? = some w) (ec : T[c]? = some q) (e : H p = H q) : H w = H q := by
  obtain ⟨A, F, B, eT, h1, h2, h3⟩ := h (H q)
  have inF : ∀ {i : Nat} {x : Int64 × Int64}, T[i]? = some x → H x = H q → A.length ≤ i ∧ i < A.length + F.length := fun {i x} ei hx => by
    rw [eT] at ei
    by_cases i1 : i < A.length
    · rw [List.getElem?_append_left i1] at ei
      exact absurd hx (h2 x (List.mem_of_getElem? ei))
    · rw [List.getElem?_append_right (by omega)] at ei
      by_cases i2 : i - A.length < F.length
      · omega
      · rw [List.getElem?_append_right (by omega)] at ei
        exact absurd hx (h3 x (List.mem_of_getElem? ei))
  have ia := inF ea e
  have ic := inF ec rfl
  rw [eT, List.getElem?_append_right (by omega), List.getElem?_append_left (by omega)] at eb
  exact h1 w (List.mem_of_getElem? eb)
theorem thT_mid {m : Int32} {L : qKV} {a b c : Nat} (hab : a ≤ b) (hbc : b ≤ c) {p q w : Int64 × Int64} (ea : (thT m 7 L)[a]? = some p) (eb : (thT m 7 L)[b]? = some w) (ec : (thT m 7 L)[c]? = some q) (e : thH m p.1 = thH m q.1) : thH m w.1 = thH m q.1 := zBk.mid (H := fun p => thH m p.1) (fun c => thT_bk c 7 L (Nat.le_refl _) (fun p _ q _ => by rw [show 7 - 7 = 0 from rfl, Nat.pow_zero, Nat.mod_one, Nat.mod_one])) hab hbc ea eb ec e
theorem xPut_mem {kd : Int32} {L : qKV} {k v : Int64} {e : Int64 × Int64} : e ∈ xPut kd false L k v ↔ e = (k, v) ∨ (e ∈ L ∧ e.1 ≠ k) := by
  unfold xPut
  by_cases c : xHas L k = true
  · rw [if_pos ⟨rfl, c⟩]
    unfold xRe
    rw [List.mem_map]
    constructor
    · rintro ⟨p, hp, h⟩
      by_cases d : p.1 = k
      · rw [if_pos d] at h; exact Or.inl h.symm
      · rw [if_neg d] at h; rw [← h]; exact Or.inr ⟨hp, d⟩
    · rintro (rfl | ⟨h1, h2⟩)
      · obtain ⟨p, hp, h⟩ := xHas_iff.mp c
        exact ⟨p, hp, if_pos h⟩
      · exact ⟨e, h1, if_neg h2⟩
  · rw [if_neg (fun z => c z.2)]
    have nk : ∀ p ∈ L, p.1 ≠ k := xHas_no.mp (Bool.not_eq_true _ ▸ c)
    split
    · rw [xSi_mem]
      exact ⟨fun z => z.imp id (fun y => ⟨y, nk e y⟩), fun z => z.imp id And.left⟩
    · rw [List.mem_append, List.mem_singleton]
      exact ⟨fun z => z.symm.imp id (fun y => ⟨y, nk e y⟩), fun z => (z.imp id And.left).symm⟩
theorem qNo_cons {p : Int64 × Int64} {M : qKV} (h : qNo (p :: M)) : (∀ q ∈ M, p.1 ≠ q.1) ∧ qNo M := List.pairwise_cons.mp h
theorem xJn_mem {kd : Int32} {e : Int64 × Int64} : ∀ (M L : qKV), qNo M → (e ∈ xJn kd false L M ↔ e ∈ M ∨ (e ∈ L ∧ ∀ w ∈ M, w.1 ≠ e.1))
  | [], L, _ => by show e ∈ L ↔ _; simp
  | p :: M, L, hM => by
    obtain ⟨h1, h2⟩ := qNo_cons hM
    show e ∈ xJn kd false (xPut kd false L p.1 p.2) M ↔ _
    rw [xJn_mem M _ h2, xPut_mem]
    constructor
    · rintro (h | ⟨h | ⟨h3, h4⟩, h5⟩)
      · exact Or.inl (List.mem_cons_of_mem _ h)
      · exact Or.inl (by rw [h]; exact List.mem_cons_self)
      · refine Or.inr ⟨h3, fun w hw => ?_⟩
        rcases List.mem_cons.mp hw with z | z
        · rw [z]; exact fun y => h4 y.symm
        · exact h5 w z
    · rintro (h | ⟨h3, h4⟩)
      · rcases List.mem_cons.mp h with z | z
        · rw [z]; exact Or.inr ⟨Or.inl rfl, fun w hw y => h1 w hw y.symm⟩
        · exact Or.inl z
      · exact Or.inr ⟨Or.inr ⟨h3, fun y => h4 p List.mem_cons_self y.symm⟩, fun w hw => h4 w (List.mem_cons_of_mem _ hw)⟩
theorem qNo_nd {L : qKV} (h : qNo L) : L.Nodup := List.Pairwise.imp (fun {a b} n e => n (by rw [e])) h
theorem zperm_mem : ∀ {A B : qKV}, qNo A → qNo B → (∀ p, p ∈ A ↔ p ∈ B) → A.Perm B
  | [], B, _, _, e => by
    cases B with
    | nil => exact List.Perm.refl _
    | cons b B => exact absurd ((e b).mpr List.mem_cons_self) (by intro z; cases z)
  | a :: A, B, hA, hB, e => by
    obtain ⟨h1, h2⟩ := qNo_cons hA
    have p1 := List.perm_cons_erase ((e a).mp List.mem_cons_self)
    have nb := qNo_nd hB
    have hB2 : qNo (B.erase a) := (qNo_cons (qNo_perm p1 hB)).2
    refine (List.Perm.cons a (zperm_mem h2 hB2 (fun p => ?_))).trans p1.symm
    rw [nb.mem_erase_iff, ← e p, List.mem_cons]
    exact ⟨fun hp => ⟨fun z => h1 p hp (by rw [z]), Or.inr hp⟩, fun ⟨z, y⟩ => y.resolve_left z⟩
theorem xHas_put {kd : Int32} {L : qKV} {k v k2 : Int64} (n : k ≠ k2) : xHas (xPut kd false L k v) k2 = xHas L k2 := by
  rw [xPut_has, beq_eq_false_iff_ne.mpr n, Bool.or_false]
theorem xJn_len {kd : Int32} : ∀ (M L : qKV), qNo M → (xJn kd false L M).length = L.length + (M.filter (fun p => !xHas L p.1)).length
  | [], L, _ => rfl
  | p :: M, L, hM => by
    obtain ⟨h1, h2⟩ := qNo_cons hM
    show (xJn kd false (xPut kd false L p.1 p.2) M).length = _
    rw [xJn_len M _ h2, xPut_len, List.filter_congr (q := fun q => !xHas L q.1) (fun q hq => by rw [xHas_put (h1 q hq)]), List.filter_cons]
    cases c : xHas L p.1
    · rw [if_neg (fun z => by cases z.2), if_pos (show (!false) = true from rfl), List.length_cons]; omega
    · rw [if_pos ⟨rfl, rfl⟩, if_neg (show ¬ (!true) = true by decide)]
theorem xAl_put {kd gr : Int32} {L : qKV} {k v k2 : Int64} : xAl gr (xPut kd false L k v) k2 = xAl gr L k2 + (if xHas L k = false ∧ qHsh gr k = qHsh gr k2 then 1 else 0) := by
  unfold xPut
  cases c : xHas L k
  · rw [if_neg (fun z => by cases z.2)]
    have e1 : xAl gr ((k, v) :: L) k2 = xAl gr L k2 + (if false = false ∧ qHsh gr k = qHsh gr k2 then 1 else 0) := by
      unfold xAl
      rw [List.filter_cons]
      by_cases d : qHsh gr k = qHsh gr k2
      · rw [if_pos (decide_eq_true d), if_pos ⟨rfl, d⟩, List.length_cons]
      · rw [if_neg (by rw [decide_eq_false d]; decide), if_neg (fun z => d z.2)]; rfl
    split
    · rw [← e1]; exact (xSi_perm.filter _).length_eq
    · rw [← e1]; exact ((List.perm_append_singleton (k, v) L).filter _).length_eq
  · rw [if_pos ⟨rfl, rfl⟩, if_neg (fun z => by cases z.1), Nat.add_zero]
    unfold xAl xRe
    rw [List.filter_map, List.length_map]
    congr 1
    apply List.filter_congr
    intro p _
    show decide (qHsh gr (if p.1 = k then (k, v) else p).1 = qHsh gr k2) = _
    split
    · rename_i z; rw [z]
    · rfl
theorem xAl_jn {kd gr : Int32} {k : Int64} : ∀ (M L : qKV), qNo M → xAl gr (xJn kd false L M) k = xAl gr L k + (M.filter (fun p => !xHas L p.1 && decide (qHsh gr p.1 = qHsh gr k))).length
  | [], L, _ => rfl
  | p :: M, L, hM => by
    obtain ⟨h1, h2⟩ := qNo_cons hM
    show xAl gr (xJn kd false (xPut kd false L p.1 p.2) M) k = _
    rw [xAl_jn M _ h2, xAl_put, List.filter_congr (q := fun q => !xHas L q.1 && decide (qHsh gr q.1 = qHsh gr k)) (fun q hq => by rw [xHas_put (h1 q hq)]), List.filter_cons]
    cases c : xHas L p.1
    · by_cases d : qHsh gr p.1 = qHsh gr k
      · rw [if_pos ⟨rfl, d⟩, if_pos (by rw [decide_eq_true d]; rfl), List.length_cons]; omega
      · rw [if_neg (fun z => d z.2), if_neg (by rw [decide_eq_false d]; decide)]; omega
    · rw [if_neg (fun z => by cases z.1), if_neg (by simp)]; omega
theorem xJn_heap : ∀ (M L : qKV), ((xJn 5 true L M).map Prod.fst).Perm (L.map Prod.fst ++ M.map Prod.fst)
  | [], L => by show (L.map Prod.fst).Perm _; rw [List.map_nil, List.append_nil]
  | p :: M, L => by
    show ((xJn 5 true (xPut 5 true L p.1 p.2) M).map Prod.fst).Perm _
    refine (xJn_heap M _).trans ?_
    have e : ((xPut 5 true L p.1 p.2).map Prod.fst).Perm (p.1 :: L.map Prod.fst) := by
      unfold xPut
      rw [if_neg (fun z => by cases z.1), if_pos (Or.inr rfl)]
      exact xSi_perm.map Prod.fst
    rw [List.map_cons]
    exact (e.append_right _).trans (List.perm_middle.symm)
theorem xJn_app {kd : Int32} (hk : kd = 0 ∨ kd = 4) : ∀ (M L : qKV), xJn kd true L M = L ++ M
  | [], L => (List.append_nil L).symm
  | p :: M, L => by
    show xJn kd true (xPut kd true L p.1 p.2) M = _
    rw [xJn_app hk M]
    unfold xPut
    rw [if_neg (fun z => by cases z.1), if_neg (by rcases hk with rfl | rfl <;> decide), List.append_assoc]; rfl
theorem xJn_no {kd : Int32} (hk : kd = 1 ∨ kd = 2 ∨ kd = 3) : ∀ (M L : qKV), qNo L → qNo (xJn kd false L M)
  | [], L, h => h
  | p :: M, L, h => by
    refine xJn_no hk M (xPut kd false L p.1 p.2) ?_
    unfold xPut
    cases c : xHas L p.1
    · rw [if_neg (fun z => by cases z.2)]
      split
      · exact xSi_no h c
      · exact qNo_perm (List.perm_append_singleton _ _).symm (List.pairwise_cons.mpr ⟨fun q hq z => xHas_no.mp c q hq z.symm, h⟩)
    · rw [if_pos ⟨rfl, rfl⟩]
      have e : (xRe L p.1 p.2).map Prod.fst = L.map Prod.fst := xRe_keys
      have : ((xRe L p.1 p.2).map Prod.fst).Pairwise (· ≠ ·) := by rw [e]; exact List.pairwise_map.mpr h
      exact List.pairwise_map.mp this
theorem xJn_tree {A B R : qKV} (hA : qSo A) (hB : qSo B) (u : qUn A B R) : xJn 3 false A B = R := by
  have nA : qNo A := List.Pairwise.imp (fun {a b} z e => by rw [e] at z; omega) hA
  have nB : qNo B := List.Pairwise.imp (fun {a b} z e => by rw [e] at z; omega) hB
  have nR : qNo R := List.Pairwise.imp (fun {a b} z e => by rw [e] at z; omega) u.1
  have uR : qUp R := List.Pairwise.imp (fun {a b} z => Int.le_of_lt z) u.1
  have o := xJn_ok (kd := 3) (e := false) (Or.inl rfl) B A ⟨fun _ => List.Pairwise.imp (fun {a b} z => Int.le_of_lt z) hA, fun _ => nA, by decide⟩
  refine qUp_uni (o.1 (Or.inl rfl)) uR (o.2.1 (Or.inr (Or.inr rfl))) (zperm_mem (o.2.1 (Or.inr (Or.inr rfl))) nR (fun p => ?_))
  rw [xJn_mem B A nB, u.2.1 p]
theorem qTr.perm {cy : Nat → ClassId} {h : qH} {Im : Nat → Prop} {e : Nat} {Ok : Nat → Prop} {m : Int32} : ∀ {r a : Nat} {L1 L2 : qKV} {X : Nat → Prop}, qTr cy h Im e Ok m r a L1 X → L1.Perm L2 → qNo L1 → qTr cy h Im e Ok m r a L2 X
  | 0, a, L1, L2, X, t, p, hn => by
    obtain ⟨ow, ka, va, na, C, nd⟩ := t
    obtain ⟨e1, e2, e3, e4⟩ := tr_perm (m := m) (r := 0) p hn
    refine ⟨ow, ka, va, na, C, ?_⟩
    unfold thNd at nd ⊢
    rw [← e1, ← e2, ← e3, ← e4, ← p.length_eq]
    exact nd
  | r + 1, a, L1, L2, X, t, p, hn => by
    obtain ⟨ow, ka, va, na, C, Xs, nd, xs, ch⟩ := t
    obtain ⟨e1, e2, e3, e4⟩ := tr_perm (m := m) (r := r + 1) p hn
    refine ⟨ow, ka, va, na, C, Xs, ?_, by rw [← e2]; exact xs, fun j v hj => ?_⟩
    · unfold thNd at nd ⊢
      rw [← e1, ← e2, ← e3, ← e4, ← p.length_eq]
      exact nd
    · rw [← e2] at hj
      exact (ch j v hj).perm (p.filter _) (hn.filter _)
theorem qRt.perm {cy : Nat → ClassId} {h : qH} {Im : Nat → Prop} {e : Nat} {Ok : Nat → Prop} {m : Int32} {x : Option Nat} {L1 L2 : qKV} {X : Nat → Prop} (t : qRt cy h Im e Ok m x L1 X) (p : L1.Perm L2) (hn : qNo L1) : qRt cy h Im e Ok m x L2 X := by
  rcases t with ⟨z1, z2⟩ | ⟨a, z1, z2, z3⟩
  · subst z2; exact Or.inl ⟨z1, p.symm.eq_nil⟩
  · exact Or.inr ⟨a, z1, fun z => z2 (by rw [z] at p; exact p.eq_nil), z3.perm p hn⟩
theorem zSv_jn {s t : qSlot} {m : Int32} (hk : s.1 = 1 ∨ s.1 = 2) (ht : t.1 = s.1) (n1 : qNo s.2.1) (n2 : qNo t.2.1) : (xJn 1 false (zSv s) (thT m 7 (zSv t))).Perm (zSv (s.1, xJn s.1 false s.2.1 t.2.1, s.2.2)) := by
  have pt := thT_perm (m := m) 7 (zSv t)
  have nT : qNo (thT m 7 (zSv t)) := qNo_perm pt.symm (zSv_no n2)
  have nS : qNo (xJn s.1 false s.2.1 t.2.1) := xJn_no (hk.elim Or.inl (fun z => Or.inr (Or.inl z))) _ _ n1
  refine zperm_mem (xJn_no (Or.inl rfl) _ _ (zSv_no n1)) (zSv_no (s := (s.1, xJn s.1 false s.2.1 t.2.1, s.2.2)) nS) (fun p => ?_)
  rw [xJn_mem _ _ nT]
  rcases hk with hk | hk
  · have e1 : zSv s = s.2.1 := by unfold zSv; rw [if_neg (by rw [hk]; decide)]
    have e2 : zSv t = t.2.1 := by unfold zSv; rw [if_neg (by rw [ht, hk]; decide)]
    have e3 : zSv (s.1, xJn s.1 false s.2.1 t.2.1, s.2.2) = xJn s.1 false s.2.1 t.2.1 := by unfold zSv; rw [if_neg (show ¬ s.1 = 2 by rw [hk]; decide)]
    rw [e3, xJn_mem _ _ n2, e1]
    rw [e2] at pt ⊢
    exact ⟨fun z => z.imp pt.mem_iff.mp (fun y => ⟨y.1, fun w hw => y.2 w (pt.mem_iff.mpr hw)⟩), fun z => z.imp pt.mem_iff.mpr (fun y => ⟨y.1, fun w hw => y.2 w (pt.mem_iff.mp hw)⟩)⟩
  · have e1 : zSv s = s.2.1.map (fun p => (p.1, 1)) := by unfold zSv; rw [if_pos hk]
    have e2 : zSv t = t.2.1.map (fun p => (p.1, 1)) := by unfold zSv; rw [if_pos (by rw [ht, hk])]
    have e3 : zSv (s.1, xJn s.1 false s.2.1 t.2.1, s.2.2) = (xJn s.1 false s.2.1 t.2.1).map (fun p => (p.1, 1)) := by unfold zSv; rw [if_pos (show s.1 = 2 from hk)]
    rw [e3, e1, pt.mem_iff]
    constructor
    · rintro (h | ⟨h1, h2⟩)
      · rw [e2] at h
        obtain ⟨q, hq, eq⟩ := List.mem_map.mp h
        exact List.mem_map.mpr ⟨q, (xJn_mem _ _ n2).mpr (Or.inl hq), eq⟩
      · obtain ⟨q, hq, eq⟩ := List.mem_map.mp h1
        by_cases c : ∃ w ∈ t.2.1, w.1 = q.1
        · obtain ⟨w, hw, ew⟩ := c
          exact List.mem_map.mpr ⟨w, (xJn_mem _ _ n2).mpr (Or.inl hw), by rw [ew]; exact eq⟩
        · exact List.mem_map.mpr ⟨q, (xJn_mem _ _ n2).mpr (Or.inr ⟨hq, fun w hw z => c ⟨w, hw, z⟩⟩), eq⟩
    · intro hp
      obtain ⟨q, hq, eq⟩ := List.mem_map.mp hp
      rcases (xJn_mem _ _ n2).mp hq with z | ⟨z1, z2⟩
      · exact Or.inl (by rw [e2]; exact List.mem_map.mpr ⟨q, z, eq⟩)
      · refine Or.inr ⟨List.mem_map.mpr ⟨q, z1, eq⟩, fun w hw => ?_⟩
        have hw := pt.mem_iff.mp hw
        rw [e2] at hw
        obtain ⟨y, hy, ey⟩ := List.mem_map.mp hw
        rw [← ey, ← eq]
        exact z2 y hy
/-- how many are fresh, how many of them have this hash -/
def zNf (L T : qKV) : Nat := (T.filter (fun p => !xHas L p.1)).length
def zNa (m : Int32) (L T : qKV) (c : Nat) : Nat := (T.filter (fun p => !xHas L p.1 && decide (thH m p.1 = c))).length
def zAk (m : Int32) (L : qKV) (k : Int64) : Nat := (L.filter (fun p => decide (thH m p.1 = thH m k))).length
theorem take_s {T : qKV} {i : Nat} {p : Int64 × Int64} (e : T[i]? = some p) : T.take (i + 1) = T.take i ++ [p] := by rw [List.take_add_one, e]; rfl
theorem zNf_s {L T : qKV} {i : Nat} {p : Int64 × Int64} (e : T[i]? = some p) : zNf L (T.take (i + 1)) = zNf L (T.take i) + (if xHas L p.1 = true then 0 else 1) := by
  unfold zNf
  rw [take_s e, List.filter_append, List.length_append]
  cases c : xHas L p.1 <;> simp [List.filter_cons, c]
theorem zNa_s {m : Int32} {L T : qKV} {c i : Nat} {p : Int64 × Int64} (e : T[i]? = some p) : zNa m L (T.take (i + 1)) c = zNa m L (T.take i) c + (if xHas L p.1 = false ∧ thH m p.1 = c then 1 else 0) := by
  unfold zNa
  rw [take_s e, List.filter_append, List.length_append]
  cases d : xHas L p.1 <;> by_cases b : thH m p.1 = c <;> simp [List.filter_cons, d, b]
theorem zNa_le {m : Int32} {L T : qKV} {c i : Nat} : zNa m L (T.take i) c ≤ zNa m L T c := ((List.take_sublist i T).filter _).length_le
def zNr (m : Int32) (L T : qKV) (i fr fa : Nat) : Prop := i ≤ T.length ∧ fr = zNf L (T.take i) ∧ fa ≤ i ∧ (i = 0 → fa = 0) ∧ (∀ p, 0 < i → T[i - 1]? = some p → fa = zNa m L (T.take i) (thH m p.1)) ∧ ∀ j p, j < i → T[j]? = some p → xHas L p.1 = false → zAk m L p.1 + zNa m L (T.take (j + 1)) (thH m p.1) ≤ 16
theorem zNr.init {m : Int32} {L T : qKV} : zNr m L T 0 0 0 := ⟨Nat.zero_le _, rfl, Nat.zero_le _, fun _ => rfl, fun _ z => absurd z (by decide), fun _ _ z => absurd z (Nat.not_lt_zero _)⟩
/-- as the next key comes -/
theorem zNr.cur {m : Int32} {L M : qKV} {i fr fa : Nat} (z : zNr m L (thT m 7 M) i fr fa) {p : Int64 × Int64} (e : (thT m 7 M)[i]? = some p) : (i = 0 → fa = zNa m L ((thT m 7 M).take i) (thH m p.1)) ∧ ∀ q, 0 < i → (thT m 7 M)[i - 1]? = some q → (thH m p.1 = thH m q.1 → fa = zNa m L ((thT m 7 M).take i) (thH m p.1)) ∧ (thH m p.1 ≠ thH m q.1 → 0 = zNa m L ((thT m 7 M).take i) (thH m p.1)) := by
  refine ⟨fun h => ?_, fun q h0 eq => ⟨fun h => ?_, fun h => ?_⟩⟩
  · rw [z.2.2.2.1 h, h, List.take_zero]; rfl
  · rw [h]; exact z.2.2.2.2.1 q h0 eq
  · symm
    unfold zNa
    rw [List.length_eq_zero_iff, List.filter_eq_nil_iff]
    intro w hw c
    rw [Bool.and_eq_true, decide_eq_true_iff] at c
    obtain ⟨a, ha, ea⟩ := List.getElem_of_mem hw
    rw [List.length_take] at ha
    have ew : (thT m 7 M)[a]? = some w := by rw [← ea, List.getElem_take, List.getElem?_eq_getElem (by omega)]
    exact h (thT_mid (a := a) (b := i - 1) (c := i) (by omega) (by omega) ew eq e c.2).symm
theorem zNr.no {m : Int32} {L M : qKV} {i fr fa fb : Nat} (z : zNr m L (thT m 7 M) i fr fa) {p : Int64 × Int64} (e : (thT m 7 M)[i]? = some p) (hb : fb = zNa m L ((thT m 7 M).take i) (thH m p.1)) (hb2 : fb ≤ i) (hx : xHas L p.1 = true) : zNr m L (thT m 7 M) (i + 1) fr fb := by
  obtain ⟨z1, z2, z3, z4, z5, z6⟩ := z
  have il : i < (thT m 7 M).length := (List.getElem?_eq_some_iff.mp e).1
  refine ⟨il, by rw [zNf_s e, if_pos hx]; exact z2, by omega, fun h => by omega, fun q _ eq => ?_, fun j q hj eq hq => ?_⟩
  · rw [Nat.add_sub_cancel, e] at eq; cases eq
    rw [zNa_s e, if_neg (fun y => by rw [hx] at y; cases y.1)]; exact hb
  · by_cases c : j = i
    · subst c; rw [e] at eq; cases eq; rw [hx] at hq; cases hq
    · exact z6 j q (by omega) eq hq
theorem zNr.yes {m : Int32} {L M : qKV} {i fr fa fb : Nat} (z : zNr m L (thT m 7 M) i fr fa) {p : Int64 × Int64} (e : (thT m 7 M)[i]? = some p) (hb : fb = zNa m L ((thT m 7 M).take i) (thH m p.1)) (hb2 : fb ≤ i) (hx : xHas L p.1 = false) (h16 : zAk m L p.1 + (fb + 1) ≤ 16) : zNr m L (thT m 7 M) (i + 1) (fr + 1) (fb + 1) := by
  obtain ⟨z1, z2, z3, z4, z5, z6⟩ := z
  have il : i < (thT m 7 M).length := (List.getElem?_eq_some_iff.mp e).1
  have e2 : zNa m L ((thT m 7 M).take (i + 1)) (thH m p.1) = fb + 1 := by rw [zNa_s e, if_pos ⟨hx, rfl⟩, hb]
  refine ⟨il, by rw [zNf_s e, if_neg (by rw [hx]; decide), z2], by omega, fun h => by omega, fun q _ eq => ?_, fun j q hj eq hq => ?_⟩
  · rw [Nat.add_sub_cancel, e] at eq; cases eq; exact e2.symm
  · by_cases c : j = i
    · subst c; rw [e] at eq; cases eq; rw [e2]; exact h16
    · exact z6 j q (by omega) eq hq
theorem zNr.bad {m : Int32} {L T : qKV} {i fb : Nat} {p : Int64 × Int64} (e : T[i]? = some p) (hb : fb = zNa m L (T.take i) (thH m p.1)) (hx : xHas L p.1 = false) (h16 : 16 < zAk m L p.1 + (fb + 1)) : 16 < zAk m L p.1 + zNa m L T (thH m p.1) := by
  have := zNa_le (m := m) (L := L) (T := T) (c := thH m p.1) (i := i + 1)
  rw [zNa_s e, if_pos ⟨hx, rfl⟩, ← hb] at this
  omega
theorem zNr.fin {m : Int32} {L T : qKV} {fr fa : Nat} (z : zNr m L T T.length fr fa) (h : ∀ k, zAk m L k ≤ 16) : fr = zNf L T ∧ ∀ k, zAk m L k + zNa m L T (thH m k) ≤ 16 := by
  obtain ⟨z1, z2, z3, z4, z5, z6⟩ := z
  rw [List.take_length] at z2
  refine ⟨z2, fun k => ?_⟩
  have : ∀ i, i ≤ T.length → zAk m L k + zNa m L (T.take i) (thH m k) ≤ 16 := fun i => by
    induction i with
    | zero => intro _; rw [List.take_zero]; exact h k
    | succ i ih =>
      intro hi
      have e : T[i]? = some (T[i]'hi) := List.getElem?_eq_getElem hi
      rw [zNa_s e]
      by_cases c : xHas L (T[i]'hi).1 = false ∧ thH m (T[i]'hi).1 = thH m k
      · have := z6 i _ (by omega) e c.1
        rw [zNa_s e, if_pos ⟨c.1, rfl⟩, c.2] at this
        rw [if_pos c]
        have ek : zAk m L (T[i]'hi).1 = zAk m L k := by unfold zAk; rw [c.2]
        rw [ek] at this
        exact this
      · rw [if_neg c]; exact ih (by omega)
  have := this T.length (Nat.le_refl _)
  rw [List.take_length] at this
  exact this
theorem zthH {gr mk : Int32} {a b : Int64} (h : qMk gr = mk) : decide (thH mk a = thH mk b) = decide (qHsh gr a = qHsh gr b) := by
  subst h
  rw [qMk_h, qMk_h]
  exact decide_eq_decide.mpr thH_eq.symm
theorem zNa_jn {s t : qSlot} {gr mk : Int32} {k : Int64} (hmk : qMk gr = mk) (n2 : qNo t.2.1) : zAk mk (zSv s) k + zNa mk (zSv s) (thT mk 7 (zSv t)) (thH mk k) = xAl gr (xJn s.1 false s.2.1 t.2.1) k := by
  rw [xAl_jn _ _ n2]
  have e1 : zAk mk (zSv s) k = xAl gr s.2.1 k := by unfold zAk; rw [zfilt hmk, zSv_al]
  have e2 : zNa mk (zSv s) (thT mk 7 (zSv t)) (thH mk k) = (t.2.1.filter (fun p => !xHas s.2.1 p.1 && decide (qHsh gr p.1 = qHsh gr k))).length := by
    unfold zNa
    rw [((thT_perm (m := mk) 7 (zSv t)).filter _).length_eq]
    have c : ∀ p : Int64 × Int64, (!xHas (zSv s) p.1 && decide (thH mk p.1 = thH mk k)) = (!xHas s.2.1 p.1 && decide (qHsh gr p.1 = qHsh gr k)) := fun p => by rw [zSv_has, zthH hmk]
    rw [List.filter_congr (fun p _ => c p)]
    unfold zSv
    split
    · rw [List.filter_map, List.length_map]; rfl
    · rfl
  rw [e1, e2]
theorem zNf_jn {s t : qSlot} {mk : Int32} : (zSv s).length + zNf (zSv s) (thT mk 7 (zSv t)) = xJc false s.2.1 t.2.1 := by
  unfold zNf xJc
  rw [((thT_perm (m := mk) 7 (zSv t)).filter _).length_eq, zSv_len]
  have c : ∀ p : Int64 × Int64, (!xHas (zSv s) p.1) = (false || !xHas s.2.1 p.1) := fun p => by rw [zSv_has, Bool.false_or]
  rw [List.filter_congr (fun p _ => c p)]
  congr 1
  unfold zSv
  split
  · rw [List.filter_map, List.length_map]; rfl
  · rfl
