theorem xHas_yes {L : qKV} {k : Int64} : xHas L k = true ↔ ∃ p, p ∈ L ∧ p.1 = k := by
  unfold xHas
  rw [List.any_eq_true]
  exact ⟨fun ⟨p, hp, e⟩ => ⟨p, hp, by simpa using e⟩, fun ⟨p, hp, e⟩ => ⟨p, hp, by simpa using e⟩⟩
theorem qUp_fst {L M : qKV} (e : M.map Prod.fst = L.map Prod.fst) (h : qUp L) : qUp M := by
  have h1 : (L.map Prod.fst).Pairwise (fun a b : Int64 => a.toInt ≤ b.toInt) := List.pairwise_map.mpr h
  rw [← e] at h1
  exact (List.pairwise_map (f := Prod.fst) (R := fun a b : Int64 => a.toInt ≤ b.toInt)).mp h1
theorem qNo_fst {L M : qKV} (e : M.map Prod.fst = L.map Prod.fst) (h : qNo L) : qNo M := by
  have h1 : (L.map Prod.fst).Pairwise (fun a b : Int64 => a ≠ b) := List.pairwise_map.mpr h
  rw [← e] at h1
  exact (List.pairwise_map (f := Prod.fst) (R := fun a b : Int64 => a ≠ b)).mp h1
theorem xSi_mem {L : qKV} {k v : Int64} {p : Int64 × Int64} : p ∈ xSi L k v ↔ p = (k, v) ∨ p ∈ L := by
  unfold xSi
  rw [List.mem_append, List.mem_cons, List.mem_filter, List.mem_filter]
  constructor
  · rintro (h | h | h)
    · exact Or.inr h.1
    · exact Or.inl h
    · exact Or.inr h.1
  · rintro (h | h)
    · exact Or.inr (Or.inl h)
    · by_cases c : p.1.toInt ≤ k.toInt
      · exact Or.inl ⟨h, decide_eq_true c⟩
      · exact Or.inr (Or.inr ⟨h, decide_eq_true (by omega)⟩)
theorem xSi_no {L : qKV} {k v : Int64} (h : qNo L) (hk : xHas L k = false) : qNo (xSi L k v) := by
  have hk := xHas_no.mp hk
  unfold xSi qNo
  refine List.pairwise_append.mpr ⟨h.filter _, List.pairwise_cons.mpr ⟨fun p hp => ?_, h.filter _⟩, fun a ha b hb => ?_⟩
  · exact fun z => hk p (List.mem_filter.mp hp).1 z.symm
  · have h1 := of_decide_eq_true (List.mem_filter.mp ha).2
    rcases List.mem_cons.mp hb with z | z
    · subst z; exact hk a (List.mem_filter.mp ha).1
    · have h2 := of_decide_eq_true (List.mem_filter.mp z).2
      intro e
      rw [e] at h1
      omega
theorem xSi_len {L : qKV} {k v : Int64} : (xSi L k v).length = L.length + 1 := by
  unfold xSi
  rw [List.length_append, List.length_cons]
  have : ∀ L : qKV, (L.filter (fun p => decide (p.1.toInt ≤ k.toInt))).length + (L.filter (fun p => decide (k.toInt < p.1.toInt))).length = L.length := by
    intro L
    induction L with
    | nil => rfl
    | cons a L ih =>
      rw [List.filter_cons, List.filter_cons]
      by_cases c : a.1.toInt ≤ k.toInt
      · rw [if_pos (decide_eq_true c), if_neg (by simp; omega), List.length_cons, List.length_cons]; omega
      · rw [if_neg (by simp; omega), if_pos (decide_eq_true (by omega)), List.length_cons, List.length_cons]; omega
  have := this L
  omega
theorem xPut_ok {kd : Int32} {e : Bool} {L : qKV} {k v : Int64} (h : qOk kd L) (he : e = false ∨ ¬ (kd = 1 ∨ kd = 2 ∨ kd = 3)) : qOk kd (xPut kd e L k v) := by
  obtain ⟨h1, h2, h3⟩ := h
  unfold xPut
  by_cases c : e = false ∧ xHas L k = true
  · rw [if_pos c]
    exact ⟨fun z => qUp_fst xRe_keys (h1 z), fun z => qNo_fst xRe_keys (h2 z), h3⟩
  · rw [if_neg c]
    have hk : kd = 1 ∨ kd = 2 ∨ kd = 3 → xHas L k = false := fun z => by
      cases hx : xHas L k with
      | false => rfl
      | true => exact absurd ⟨he.resolve_right (fun q => q z), hx⟩ c
    by_cases c2 : kd = 3 ∨ kd = 5
    · rw [if_pos c2]
      exact ⟨fun z => xSi_up (h1 z), fun z => xSi_no (h2 z) (hk z), h3⟩
    · rw [if_neg c2]
      refine ⟨fun z => absurd z c2, fun z => ?_, h3⟩
      refine List.pairwise_append.mpr ⟨h2 z, List.pairwise_singleton _ _, fun a ha b hb => ?_⟩
      rw [List.mem_singleton.mp hb]
      exact xHas_no.mp (hk z) a ha
theorem xPut_has {kd : Int32} {e : Bool} {L : qKV} {k v k2 : Int64} : xHas (xPut kd e L k v) k2 = (xHas L k2 || k == k2) := by
  have key : ∀ M : qKV, (∀ x, (∃ p, p ∈ M ∧ p.1 = x) ↔ (∃ p, p ∈ L ∧ p.1 = x) ∨ k = x) → xHas M k2 = (xHas L k2 || k == k2) := fun M hM => by
    rw [Bool.eq_iff_iff, Bool.or_eq_true, xHas_yes, xHas_yes, beq_iff_eq]
    exact hM k2
  unfold xPut
  by_cases c : e = false ∧ xHas L k = true
  · rw [if_pos c]
    refine key _ (fun x => ?_)
    have hm : ∀ M : qKV, (∃ p, p ∈ M ∧ p.1 = x) ↔ x ∈ M.map Prod.fst := fun M => by rw [List.mem_map]
    rw [hm, hm, xRe_keys, ← hm]
    constructor
    · exact Or.inl
    · rintro (z | rfl)
      · exact z
      · exact xHas_yes.mp c.2
  · rw [if_neg c]
    by_cases c2 : kd = 3 ∨ kd = 5
    · rw [if_pos c2]
      refine key _ (fun x => ?_)
      constructor
      · rintro ⟨p, hp, rfl⟩
        rcases xSi_mem.mp hp with rfl | z
        · exact Or.inr rfl
        · exact Or.inl ⟨p, z, rfl⟩
      · rintro (⟨p, hp, rfl⟩ | rfl)
        · exact ⟨p, xSi_mem.mpr (Or.inr hp), rfl⟩
        · exact ⟨(k, v), xSi_mem.mpr (Or.inl rfl), rfl⟩
    · rw [if_neg c2]
      refine key _ (fun x => ?_)
      constructor
      · rintro ⟨p, hp, rfl⟩
        rcases List.mem_append.mp hp with z | z
        · exact Or.inl ⟨p, z, rfl⟩
        · rw [List.mem_singleton.mp z]; exact Or.inr rfl
      · rintro (⟨p, hp, rfl⟩ | rfl)
        · exact ⟨p, List.mem_append.mpr (Or.inl hp), rfl⟩
        · exact ⟨(k, v), List.mem_append.mpr (Or.inr (List.mem_singleton.mpr rfl)), rfl⟩
theorem xPut_len {kd : Int32} {e : Bool} {L : qKV} {k v : Int64} : (xPut kd e L k v).length = if e = false ∧ xHas L k = true then L.length else L.length + 1 := by
  unfold xPut
  by_cases c : e = false ∧ xHas L k = true
  · rw [if_pos c, if_pos c, xRe_len]
  · rw [if_neg c, if_neg c]
    split
    · exact xSi_len
    · rw [List.length_append]; rfl
/-- all of M put into L -/
def xJn (kd : Int32) (e : Bool) (L M : qKV) : qKV := M.foldl (fun L p => xPut kd e L p.1 p.2) L
theorem xJn_snoc {kd : Int32} {e : Bool} {L M : qKV} {k v : Int64} : xJn kd e L (M ++ [(k, v)]) = xPut kd e (xJn kd e L M) k v := by unfold xJn; rw [List.foldl_append]; rfl
def xJc (e : Bool) (L M : qKV) : Nat := L.length + (M.filter (fun p => e || !xHas L p.1)).length
theorem xJn_has {kd : Int32} {e : Bool} {k2 : Int64} : ∀ (M L : qKV), xHas (xJn kd e L M) k2 = (xHas L k2 || xHas M k2)
  | [], L => by show xHas L k2 = _; simp [xHas]
  | p :: M, L => by
    show xHas (xJn kd e (xPut kd e L p.1 p.2) M) k2 = _
    rw [xJn_has M, xPut_has]
    show _ = (_ || (p.1 == k2 || xHas M k2))
    rw [Bool.or_assoc]
theorem xJn_ok {kd : Int32} {e : Bool} (he : e = false ∨ ¬ (kd = 1 ∨ kd = 2 ∨ kd = 3)) : ∀ (M L : qKV), qOk kd L → qOk kd (xJn kd e L M)
  | [], _, h => h
  | _ :: M, _, h => xJn_ok he M _ (xPut_ok h he)
theorem xJn_le {kd : Int32} {e : Bool} {L0 : qKV} : ∀ (M L : qKV), (∀ k, xHas L0 k = true → xHas L k = true) → (xJn kd e L M).length ≤ L.length + (M.filter (fun p => e || !xHas L0 p.1)).length
  | [], _, _ => by exact Nat.le_add_right _ _
  | p :: M, L, h => by
    have ih := xJn_le (kd := kd) (e := e) (L0 := L0) M (xPut kd e L p.1 p.2) (fun k hk => by rw [xPut_has, h k hk]; rfl)
    have e1 : xJn kd e L (p :: M) = xJn kd e (xPut kd e L p.1 p.2) M := rfl
    rw [e1, List.filter_cons]
    have hl := xPut_len (kd := kd) (e := e) (L := L) (k := p.1) (v := p.2)
    by_cases c : (e || !xHas L0 p.1) = true
    · rw [if_pos c, List.length_cons]
      split at hl <;> omega
    · rw [if_neg c]
      have c1 : e = false ∧ xHas L p.1 = true := by
        cases e with
        | true => exact absurd rfl c
        | false => exact ⟨rfl, h _ (by cases z : xHas L0 p.1 with | true => rfl | false => rw [z] at c; exact absurd rfl c)⟩
      rw [if_pos c1] at hl
      omega
/-- kinds that keep a key as often as it is put -/
def xEa (kd : Int32) : Bool := decide (kd = 0 ∨ kd = 4 ∨ kd = 5)
theorem xEa_or {kd : Int32} : xEa kd = false ∨ ¬ (kd = 1 ∨ kd = 2 ∨ kd = 3) := by
  by_cases c : kd = 1 ∨ kd = 2 ∨ kd = 3
  · exact Or.inl (by rcases c with rfl | rfl | rfl <;> rfl)
  · exact Or.inr c
def xCo (kd : Int32) (n m : Nat) : Nat := if kd = 5 then 0 else n + m
def xr_join (gr : Int32) (S : Nat → qSlot) (W : qWo) (i j z7 : Nat) : Int32 × Int32 × (Nat → qSlot) × qWo :=
  if (S j).1 = 6 then (if 100 < 1 + max (S j).2.2.2 (S z7).2.2.2 then (3, 0, S, W) else (0, 0, qU S i ((S j).1, (S j).2.1, (xJoin W.2.1 W.2.2 (S j).2.2.1 (S z7).2.2.1).1, 1 + max (S j).2.2.2 (S z7).2.2.2), W.1, (xJoin W.2.1 W.2.2 (S j).2.2.1 (S z7).2.2.1).2)) else
  if 1000 < xJc (xEa (S j).1) (S j).2.1 (S z7).2.1 ∨ 20000 < (oMq W.1).toNatClampNeg + xCo (S j).1 (S j).2.1.length (S z7).2.1.length then (3, 0, S, W) else
  if (S z7).2.1.any (fun p => decide (16 < xAl gr (xJn (S j).1 (xEa (S j).1) (S j).2.1 (S z7).2.1) p.1 ∧ ((S j).1 = 1 ∨ (S j).1 = 2))) = true then (3, 0, S, W) else
  (0, nI (xJn (S j).1 (xEa (S j).1) (S j).2.1 (S z7).2.1).length, qU S i ((S j).1, xJn (S j).1 (xEa (S j).1) (S j).2.1 (S z7).2.1, (S j).2.2), oMv W.1 (oMq W.1 + nI (xCo (S j).1 (S j).2.1.length (S z7).2.1.length)), W.2)
def xs_join (S : Nat → qSlot) (W : qWo) (p0 p1 p2 : Int32) : Int32 × Int32 × (Nat → qSlot) × qWo := if bSl p0 = false ∨ bSl p1 = false ∨ bSl p2 = false then (1, 0, S, W) else if (S p1.toNatClampNeg).1 < 0 ∨ ¬ (S p1.toNatClampNeg).1 = (S p2.toNatClampNeg).1 then (2, 0, S, W) else xr_join W.1.2.2.2.2.2.2.1 S W p0.toNatClampNeg p1.toNatClampNeg p2.toNatClampNeg
theorem xkd_123 {kd : Int32} (h : kd ∈ [(-1 : Int32), 0, 1, 2, 3, 4, 5, 6]) (h1 : ¬ kd < 0) (h2 : ¬ kd = 0) (h3 : kd ≤ 3) : kd = 1 ∨ kd = 2 ∨ kd = 3 := by
  simp only [List.mem_cons, List.not_mem_nil, or_false] at h
  rcases h with rfl | rfl | rfl | rfl | rfl | rfl | rfl | rfl <;> revert h1 h2 h3 <;> decide
theorem xkd_4 {kd : Int32} (h : kd ∈ [(-1 : Int32), 0, 1, 2, 3, 4, 5, 6]) (h1 : ¬ kd = 6) (h2 : ¬ kd = 5) (h3 : ¬ kd ≤ 3) : kd = 4 := by
  simp only [List.mem_cons, List.not_mem_nil, or_false] at h
  rcases h with rfl | rfl | rfl | rfl | rfl | rfl | rfl | rfl <;> revert h1 h2 h3 <;> decide
theorem qLs_cnt {kd : Int32} {f g : Nat → Int64} {n i : Nat} (q : Int64 × Int64 → Bool) (h : i ≤ n) : ((qLs kd f g i).filter q).length ≤ ((qLs kd f g n).filter q).length := by
  induction n with
  | zero => rw [show i = 0 by omega]; exact Nat.le_refl _
  | succ n ih =>
    by_cases c : i = n + 1
    · rw [c]; exact Nat.le_refl _
    · have := ih (by omega)
      rw [qLs_succ, List.filter_append, List.length_append]
      omega
theorem dX8_join_47 : decode cX8_join 47 = .ok (.aload_n 0, 1) := by decide +kernel
theorem dX8_join_48 : decode cX8_join 48 = .ok (.getfield 9, 3) := by decide +kernel
theorem dX8_join_51 : decode cX8_join 51 = .ok (.iload_n 2, 1) := by decide +kernel
theorem dX8_join_52 : decode cX8_join 52 = .ok (.aaload, 1) := by decide +kernel
theorem dX8_join_53 : decode cX8_join 53 = .ok (.getfield 75, 3) := by decide +kernel
theorem dX8_join_56 : decode cX8_join 56 = .ok (.aload_n 0, 1) := by decide +kernel
theorem dX8_join_57 : decode cX8_join 57 = .ok (.getfield 9, 3) := by decide +kernel
theorem dX8_join_60 : decode cX8_join 60 = .ok (.iload_n 3, 1) := by decide +kernel
theorem dX8_join_61 : decode cX8_join 61 = .ok (.aaload, 1) := by decide +kernel
theorem dX8_join_62 : decode cX8_join 62 = .ok (.getfield 75, 3) := by decide +kernel
theorem dX8_join_65 : decode cX8_join 65 = .ok (.if_icmp .ne 7, 3) := by decide +kernel
theorem dX8_join_68 : decode cX8_join 68 = .ok (.iconst 1, 1) := by decide +kernel
theorem dX8_join_69 : decode cX8_join 69 = .ok (.goto 4, 3) := by decide +kernel
theorem dX8_join_82 : decode cX8_join 82 = .ok (.aload_n 0, 1) := by decide +kernel
theorem dX8_join_83 : decode cX8_join 83 = .ok (.getfield 9, 3) := by decide +kernel
theorem dX8_join_86 : decode cX8_join 86 = .ok (.iload_n 2, 1) := by decide +kernel
theorem dX8_join_87 : decode cX8_join 87 = .ok (.aaload, 1) := by decide +kernel
theorem dX8_join_88 : decode cX8_join 88 = .ok (.astore 4, 2) := by decide +kernel
theorem dX8_join_90 : decode cX8_join 90 = .ok (.aload_n 0, 1) := by decide +kernel
theorem dX8_join_91 : decode cX8_join 91 = .ok (.getfield 9, 3) := by decide +kernel
theorem dX8_join_94 : decode cX8_join 94 = .ok (.iload_n 3, 1) := by decide +kernel
theorem dX8_join_95 : decode cX8_join 95 = .ok (.aaload, 1) := by decide +kernel
theorem dX8_join_96 : decode cX8_join 96 = .ok (.astore 5, 2) := by decide +kernel
theorem dX8_join_98 : decode cX8_join 98 = .ok (.aload 4, 2) := by decide +kernel
theorem dX8_join_100 : decode cX8_join 100 = .ok (.getfield 75, 3) := by decide +kernel
theorem dX8_join_103 : decode cX8_join 103 = .ok (.bipush 6, 2) := by decide +kernel
theorem dX8_join_105 : decode cX8_join 105 = .ok (.if_icmp .ne 103, 3) := by decide +kernel
theorem dX8_join_108 : decode cX8_join 108 = .ok (.iconst 1, 1) := by decide +kernel
theorem dX8_join_109 : decode cX8_join 109 = .ok (.aload 4, 2) := by decide +kernel
theorem dX8_join_111 : decode cX8_join 111 = .ok (.getfield 84, 3) := by decide +kernel
theorem dX8_join_114 : decode cX8_join 114 = .ok (.aload 5, 2) := by decide +kernel
theorem dX8_join_116 : decode cX8_join 116 = .ok (.getfield 84, 3) := by decide +kernel
theorem dX8_join_119 : decode cX8_join 119 = .ok (.if_icmp .le 11, 3) := by decide +kernel
theorem dX8_join_122 : decode cX8_join 122 = .ok (.aload 4, 2) := by decide +kernel
theorem dX8_join_124 : decode cX8_join 124 = .ok (.getfield 84, 3) := by decide +kernel
theorem dX8_join_127 : decode cX8_join 127 = .ok (.goto 8, 3) := by decide +kernel
theorem dX8_join_130 : decode cX8_join 130 = .ok (.aload 5, 2) := by decide +kernel
theorem dX8_join_132 : decode cX8_join 132 = .ok (.getfield 84, 3) := by decide +kernel
theorem dX8_join_135 : decode cX8_join 135 = .ok (.iadd, 1) := by decide +kernel
theorem dX8_join_136 : decode cX8_join 136 = .ok (.istore 6, 2) := by decide +kernel
theorem dX8_join_138 : decode cX8_join 138 = .ok (.aload_n 0, 1) := by decide +kernel
theorem dX8_join_139 : decode cX8_join 139 = .ok (.iload 6, 2) := by decide +kernel
theorem dX8_join_141 : decode cX8_join 141 = .ok (.bipush 100, 2) := by decide +kernel
theorem dX8_join_143 : decode cX8_join 143 = .ok (.if_icmp .gt 7, 3) := by decide +kernel
theorem dX8_join_146 : decode cX8_join 146 = .ok (.iconst 1, 1) := by decide +kernel
theorem dX8_join_147 : decode cX8_join 147 = .ok (.goto 4, 3) := by decide +kernel
theorem dX8_join_150 : decode cX8_join 150 = .ok (.iconst 0, 1) := by decide +kernel
theorem dX8_join_151 : decode cX8_join 151 = .ok (.iconst 3, 1) := by decide +kernel
theorem dX8_join_152 : decode cX8_join 152 = .ok (.invokevirtual 100, 3) := by decide +kernel
theorem dX8_join_155 : decode cX8_join 155 = .ok (.ifCond .ne 5, 3) := by decide +kernel
theorem dX8_join_158 : decode cX8_join 158 = .ok (.iconst 0, 1) := by decide +kernel
theorem dX8_join_159 : decode cX8_join 159 = .ok (.ireturn, 1) := by decide +kernel
theorem dX8_join_160 : decode cX8_join 160 = .ok (.aload 4, 2) := by decide +kernel
theorem dX8_join_162 : decode cX8_join 162 = .ok (.aload_n 0, 1) := by decide +kernel
theorem dX8_join_163 : decode cX8_join 163 = .ok (.getfield 19, 3) := by decide +kernel
theorem dX8_join_166 : decode cX8_join 166 = .ok (.invokestatic 104, 3) := by decide +kernel
theorem dX8_join_169 : decode cX8_join 169 = .ok (.aload_n 0, 1) := by decide +kernel
theorem dX8_join_170 : decode cX8_join 170 = .ok (.getfield 19, 3) := by decide +kernel
theorem dX8_join_173 : decode cX8_join 173 = .ok (.aload_n 0, 1) := by decide +kernel
theorem dX8_join_174 : decode cX8_join 174 = .ok (.aload 4, 2) := by decide +kernel
theorem dX8_join_176 : decode cX8_join 176 = .ok (.getfield 81, 3) := by decide +kernel
theorem dX8_join_179 : decode cX8_join 179 = .ok (.aload 5, 2) := by decide +kernel
theorem dX8_join_181 : decode cX8_join 181 = .ok (.getfield 81, 3) := by decide +kernel
theorem dX8_join_184 : decode cX8_join 184 = .ok (.invokevirtual 168, 3) := by decide +kernel
theorem dX8_join_187 : decode cX8_join 187 = .ok (.putfield 81, 3) := by decide +kernel
theorem dX8_join_190 : decode cX8_join 190 = .ok (.aload_n 0, 1) := by decide +kernel
theorem dX8_join_191 : decode cX8_join 191 = .ok (.getfield 19, 3) := by decide +kernel
theorem dX8_join_194 : decode cX8_join 194 = .ok (.iload 6, 2) := by decide +kernel
theorem dX8_join_196 : decode cX8_join 196 = .ok (.putfield 84, 3) := by decide +kernel
theorem dX8_join_199 : decode cX8_join 199 = .ok (.aload_n 0, 1) := by decide +kernel
theorem dX8_join_200 : decode cX8_join 200 = .ok (.iload_n 1, 1) := by decide +kernel
theorem dX8_join_201 : decode cX8_join 201 = .ok (.iconst 0, 1) := by decide +kernel
theorem dX8_join_202 : decode cX8_join 202 = .ok (.invokevirtual 135, 3) := by decide +kernel
theorem dX8_join_205 : decode cX8_join 205 = .ok (.pop, 1) := by decide +kernel
theorem dX8_join_206 : decode cX8_join 206 = .ok (.iconst 0, 1) := by decide +kernel
theorem dX8_join_207 : decode cX8_join 207 = .ok (.ireturn, 1) := by decide +kernel
theorem dX8_join_208 : decode cX8_join 208 = .ok (.aload 4, 2) := by decide +kernel
theorem dX8_join_210 : decode cX8_join 210 = .ok (.getfield 75, 3) := by decide +kernel
theorem dX8_join_213 : decode cX8_join 213 = .ok (.iconst 5, 1) := by decide +kernel
theorem dX8_join_214 : decode cX8_join 214 = .ok (.if_icmp .ne 7, 3) := by decide +kernel
theorem dX8_join_217 : decode cX8_join 217 = .ok (.iconst 0, 1) := by decide +kernel
theorem dX8_join_218 : decode cX8_join 218 = .ok (.goto 14, 3) := by decide +kernel
theorem dX8_join_221 : decode cX8_join 221 = .ok (.aload 4, 2) := by decide +kernel
theorem dX8_join_223 : decode cX8_join 223 = .ok (.getfield 78, 3) := by decide +kernel
theorem dX8_join_226 : decode cX8_join 226 = .ok (.aload 5, 2) := by decide +kernel
theorem dX8_join_228 : decode cX8_join 228 = .ok (.getfield 78, 3) := by decide +kernel
theorem dX8_join_231 : decode cX8_join 231 = .ok (.iadd, 1) := by decide +kernel
theorem dX8_join_232 : decode cX8_join 232 = .ok (.istore 6, 2) := by decide +kernel
theorem dX8_join_234 : decode cX8_join 234 = .ok (.aload 4, 2) := by decide +kernel
theorem dX8_join_236 : decode cX8_join 236 = .ok (.getfield 78, 3) := by decide +kernel
theorem dX8_join_239 : decode cX8_join 239 = .ok (.istore 7, 2) := by decide +kernel
theorem dX8_join_241 : decode cX8_join 241 = .ok (.aload 4, 2) := by decide +kernel
theorem dX8_join_243 : decode cX8_join 243 = .ok (.getfield 75, 3) := by decide +kernel
theorem dX8_join_246 : decode cX8_join 246 = .ok (.ifCond .eq 12, 3) := by decide +kernel
theorem dX8_join_249 : decode cX8_join 249 = .ok (.aload 4, 2) := by decide +kernel
theorem dX8_join_251 : decode cX8_join 251 = .ok (.getfield 75, 3) := by decide +kernel
theorem dX8_join_254 : decode cX8_join 254 = .ok (.iconst 3, 1) := by decide +kernel
theorem dX8_join_255 : decode cX8_join 255 = .ok (.if_icmp .le 7, 3) := by decide +kernel
theorem dX8_join_258 : decode cX8_join 258 = .ok (.iconst 1, 1) := by decide +kernel
theorem dX8_join_259 : decode cX8_join 259 = .ok (.goto 4, 3) := by decide +kernel
theorem dX8_join_262 : decode cX8_join 262 = .ok (.iconst 0, 1) := by decide +kernel
theorem dX8_join_263 : decode cX8_join 263 = .ok (.istore 8, 2) := by decide +kernel
theorem dX8_join_265 : decode cX8_join 265 = .ok (.iconst 0, 1) := by decide +kernel
theorem dX8_join_266 : decode cX8_join 266 = .ok (.istore 9, 2) := by decide +kernel
theorem dX8_join_268 : decode cX8_join 268 = .ok (.iload 9, 2) := by decide +kernel
theorem dX8_join_270 : decode cX8_join 270 = .ok (.aload 5, 2) := by decide +kernel
theorem dX8_join_272 : decode cX8_join 272 = .ok (.getfield 78, 3) := by decide +kernel
theorem dX8_join_275 : decode cX8_join 275 = .ok (.if_icmp .ge 33, 3) := by decide +kernel
theorem dX8_join_278 : decode cX8_join 278 = .ok (.iload 8, 2) := by decide +kernel
theorem dX8_join_280 : decode cX8_join 280 = .ok (.ifCond .ne 19, 3) := by decide +kernel
theorem dX8_join_283 : decode cX8_join 283 = .ok (.aload 4, 2) := by decide +kernel
theorem dX8_join_285 : decode cX8_join 285 = .ok (.aload 5, 2) := by decide +kernel
theorem dX8_join_287 : decode cX8_join 287 = .ok (.getfield 90, 3) := by decide +kernel
theorem dX8_join_290 : decode cX8_join 290 = .ok (.iload 9, 2) := by decide +kernel
theorem dX8_join_292 : decode cX8_join 292 = .ok (.laload, 1) := by decide +kernel
theorem dX8_join_293 : decode cX8_join 293 = .ok (.invokestatic 112, 3) := by decide +kernel
theorem dX8_join_296 : decode cX8_join 296 = .ok (.ifCond .ge 6, 3) := by decide +kernel
theorem dX8_join_299 : decode cX8_join 299 = .ok (.iinc 7 1, 3) := by decide +kernel
theorem dX8_join_302 : decode cX8_join 302 = .ok (.iinc 9 1, 3) := by decide +kernel
theorem dX8_join_305 : decode cX8_join 305 = .ok (.goto (-37), 3) := by decide +kernel
theorem dX8_join_308 : decode cX8_join 308 = .ok (.aload_n 0, 1) := by decide +kernel
theorem dX8_join_309 : decode cX8_join 309 = .ok (.aload_n 0, 1) := by decide +kernel
theorem dX8_join_310 : decode cX8_join 310 = .ok (.iload 7, 2) := by decide +kernel
theorem dX8_join_312 : decode cX8_join 312 = .ok (.iload 6, 2) := by decide +kernel
theorem dX8_join_314 : decode cX8_join 314 = .ok (.invokevirtual 165, 3) := by decide +kernel
theorem dX8_join_317 : decode cX8_join 317 = .ok (.iconst 3, 1) := by decide +kernel
theorem dX8_join_318 : decode cX8_join 318 = .ok (.invokevirtual 100, 3) := by decide +kernel
theorem dX8_join_321 : decode cX8_join 321 = .ok (.ifCond .ne 5, 3) := by decide +kernel
theorem dX8_join_324 : decode cX8_join 324 = .ok (.iconst 0, 1) := by decide +kernel
theorem dX8_join_325 : decode cX8_join 325 = .ok (.ireturn, 1) := by decide +kernel
theorem dX8_join_326 : decode cX8_join 326 = .ok (.aload 4, 2) := by decide +kernel
theorem dX8_join_328 : decode cX8_join 328 = .ok (.aload_n 0, 1) := by decide +kernel
theorem dX8_join_329 : decode cX8_join 329 = .ok (.getfield 19, 3) := by decide +kernel
theorem dX8_join_332 : decode cX8_join 332 = .ok (.invokestatic 104, 3) := by decide +kernel
theorem dX8_join_335 : decode cX8_join 335 = .ok (.iconst 0, 1) := by decide +kernel
theorem dX8_join_336 : decode cX8_join 336 = .ok (.istore 9, 2) := by decide +kernel
theorem dX8_join_338 : decode cX8_join 338 = .ok (.iload 9, 2) := by decide +kernel
theorem dX8_join_340 : decode cX8_join 340 = .ok (.aload 5, 2) := by decide +kernel
theorem dX8_join_342 : decode cX8_join 342 = .ok (.getfield 78, 3) := by decide +kernel
theorem dX8_join_345 : decode cX8_join 345 = .ok (.if_icmp .ge 34, 3) := by decide +kernel
theorem dX8_join_348 : decode cX8_join 348 = .ok (.aload_n 0, 1) := by decide +kernel
theorem dX8_join_349 : decode cX8_join 349 = .ok (.getfield 19, 3) := by decide +kernel
theorem dX8_join_352 : decode cX8_join 352 = .ok (.aload 5, 2) := by decide +kernel
theorem dX8_join_354 : decode cX8_join 354 = .ok (.getfield 90, 3) := by decide +kernel
theorem dX8_join_357 : decode cX8_join 357 = .ok (.iload 9, 2) := by decide +kernel
theorem dX8_join_359 : decode cX8_join 359 = .ok (.laload, 1) := by decide +kernel
theorem dX8_join_360 : decode cX8_join 360 = .ok (.aload 5, 2) := by decide +kernel
theorem dX8_join_362 : decode cX8_join 362 = .ok (.getfield 93, 3) := by decide +kernel
theorem dX8_join_365 : decode cX8_join 365 = .ok (.iload 9, 2) := by decide +kernel
theorem dX8_join_367 : decode cX8_join 367 = .ok (.laload, 1) := by decide +kernel
theorem dX8_join_368 : decode cX8_join 368 = .ok (.iload 8, 2) := by decide +kernel
theorem dX8_join_370 : decode cX8_join 370 = .ok (.invokestatic 127, 3) := by decide +kernel
theorem dX8_join_373 : decode cX8_join 373 = .ok (.iinc 9 1, 3) := by decide +kernel
theorem dX8_join_376 : decode cX8_join 376 = .ok (.goto (-38), 3) := by decide +kernel
theorem dX8_join_379 : decode cX8_join 379 = .ok (.iconst 0, 1) := by decide +kernel
theorem dX8_join_380 : decode cX8_join 380 = .ok (.istore 9, 2) := by decide +kernel
theorem dX8_join_382 : decode cX8_join 382 = .ok (.iload 9, 2) := by decide +kernel
theorem dX8_join_384 : decode cX8_join 384 = .ok (.aload 5, 2) := by decide +kernel
theorem dX8_join_386 : decode cX8_join 386 = .ok (.getfield 78, 3) := by decide +kernel
theorem dX8_join_389 : decode cX8_join 389 = .ok (.if_icmp .ge 43, 3) := by decide +kernel
theorem dX8_join_392 : decode cX8_join 392 = .ok (.aload_n 0, 1) := by decide +kernel
theorem dX8_join_393 : decode cX8_join 393 = .ok (.aload_n 0, 1) := by decide +kernel
theorem dX8_join_394 : decode cX8_join 394 = .ok (.aload_n 0, 1) := by decide +kernel
theorem dX8_join_395 : decode cX8_join 395 = .ok (.getfield 19, 3) := by decide +kernel
theorem dX8_join_398 : decode cX8_join 398 = .ok (.aload 5, 2) := by decide +kernel
theorem dX8_join_400 : decode cX8_join 400 = .ok (.getfield 90, 3) := by decide +kernel
theorem dX8_join_403 : decode cX8_join 403 = .ok (.iload 9, 2) := by decide +kernel
theorem dX8_join_405 : decode cX8_join 405 = .ok (.laload, 1) := by decide +kernel
theorem dX8_join_406 : decode cX8_join 406 = .ok (.invokevirtual 131, 3) := by decide +kernel
theorem dX8_join_409 : decode cX8_join 409 = .ok (.ifCond .ne 7, 3) := by decide +kernel
theorem dX8_join_412 : decode cX8_join 412 = .ok (.iconst 1, 1) := by decide +kernel
theorem dX8_join_413 : decode cX8_join 413 = .ok (.goto 4, 3) := by decide +kernel
theorem dX8_join_416 : decode cX8_join 416 = .ok (.iconst 0, 1) := by decide +kernel
theorem dX8_join_417 : decode cX8_join 417 = .ok (.iconst 3, 1) := by decide +kernel
theorem dX8_join_418 : decode cX8_join 418 = .ok (.invokevirtual 100, 3) := by decide +kernel
theorem dX8_join_421 : decode cX8_join 421 = .ok (.ifCond .ne 5, 3) := by decide +kernel
theorem dX8_join_424 : decode cX8_join 424 = .ok (.iconst 0, 1) := by decide +kernel
theorem dX8_join_425 : decode cX8_join 425 = .ok (.ireturn, 1) := by decide +kernel
theorem dX8_join_426 : decode cX8_join 426 = .ok (.iinc 9 1, 3) := by decide +kernel
theorem dX8_join_429 : decode cX8_join 429 = .ok (.goto (-47), 3) := by decide +kernel
theorem dX8_join_432 : decode cX8_join 432 = .ok (.aload_n 0, 1) := by decide +kernel
theorem dX8_join_433 : decode cX8_join 433 = .ok (.iload_n 1, 1) := by decide +kernel
theorem dX8_join_434 : decode cX8_join 434 = .ok (.iload 6, 2) := by decide +kernel
theorem dX8_join_436 : decode cX8_join 436 = .ok (.invokevirtual 135, 3) := by decide +kernel
theorem dX8_join_439 : decode cX8_join 439 = .ok (.ireturn, 1) := by decide +kernel
set_option maxRecDepth 100000 in
set_option maxHeartbeats 4000000 in
theorem w_join (l : Launch) (D : va_G) (cy : Nat → ClassId) (N0 : Nat) (h : qH) (y ms mb mw od pt fi re rc rs so ot cn la ro : Nat) (gr cd ca mv ct fau cs ce rn : Int32) (ra rk rv : Nat → Nat) (S : Nat → qSlot) (pa : Nat → Nat) (A : Nat → Prop) (a : qWd) (k : qKd) (R : Nat → List Int64) (ad : Nat → Nat) (Rn : Nat) (Bd sl d dc : Nat) (dp : Nat → Nat) (F : qWo → Nat → Nat × qWo) (p0 p1 p2 : Int32) (X : Int32 × Int32 × (Nat → qSlot) × qWo) (hY : h y = some (.inr (8, [.ref ms, .ref mb, .ref mw, .int gr, .int cd, .int ca, .int mv, .ref od, .ref pt, .int ct, .int fau, .ref fi, .ref re, .int cs, .ref rc, .ref rs, .ref so, .ref ot, .ref cn, .ref la, .int ce, .ref ro, .int rn]))) (hQ : qRF cy h y A ra rk rv pa (ms, mb, mw, od, pt, ro, gr, cd, ca, mv, ct, fau, rn) a k S Rn R ad) (hI : ∀ i, i < 28 → qOk (S i).1 (S i).2.1) (hV : qWv Bd sl Rn dp ((ms, mb, mw, od, pt, ro, gr, cd, ca, mv, ct, fau, rn), a, k)) (hB : Bd ≤ 4000) (hF : qFS l D cy N0 y Bd Rn R ad F d) (hG : qFg Bd Rn F d) (hdc : dc < d) (hSt : ∀ i, i < 24 → (S i).1 = 6 → (S i).2.2.1 < a.1 ∧ dp (S i).2.2.1 ≤ dc) (hDp : ∀ i, i < 24 → (S i).2.2.2 ≤ 100) (hX : xs_join S ((ms, mb, mw, od, pt, ro, gr, cd, ca, mv, ct, fau, rn), a, k) p0 p1 p2 = X) : qC l D cy N0 yX8_join cX8_join 10 (some .int) 5 200 (qP1 X.2.2.2.2.1 - qP1 a) (qP2 X.2.2.2.2.1 - qP2 a) [.ref y, .int p0, .int p1, .int p2] h (fun v h' => v = some (.int X.2.1) ∧ ∃ A', qRF cy h' y A' ra rk rv pa (oCd X.2.2.2.1 X.1) X.2.2.2.2.1 X.2.2.2.2.2 X.2.2.1 Rn R ad ∧ qFR h h' y od ra rk rv pa A A') (fun E h' => False) := by
  refine q_ofW (by decide) (by exact Nat.le_of_ble_eq_true rfl) ?_
  intro p e s m below meth c ls C hP hl
  have hx := C.1
  have hb := C.2.1
  have hS : va_S (qA N0) s.heap s.heap [] := va_S.rf
  have hl : lv_has ls 10 [(0, .ref y), (1, .int p0), (2, .int p1), (3, .int p2)] := hl
  have hM : qMR cy h ms mb mw ra rk rv S := hQ.2.2.1
  obtain ⟨m0, em0, hm0, hbd0⟩ := id hV.m
  replace em0 : mv = nI m0 := em0
  subst em0
  have ecm : (nI m0).toNatClampNeg = m0 := nI_clamp (by omega)
  dsimp only at hbd0
  have hY0 := hY
  obtain ⟨hms, hmb, hmw, hmd, hrs, kdw, smw, dpw, rww, nw, fw, gw, hRw⟩ := id hM
  subst hmw
  have fr : ∀ b o, h b = some o → b ≠ y → qOf (ra 28) (rk 28) (rv 28) b → h b = some o := fun b o hb _ _ => hb
  have faw := hRw.2.2.2.1
  have fkw := hRw.2.2.2.2.1
  have fvw := hRw.2.2.2.2.2
  unfold qRb at faw
  unfold qJr at fkw fvw
  refine lv_aload_n hx hb dX8_join_0 rfl (lv_at hl 0 rfl) ?_
  refine lv_iload_n hx hb dX8_join_1 rfl (lv_at hl 1 rfl) ?_
  refine q_callS (rest := [.ref y]) C (c_X8_isSlot l D cy N0 h p0) kX8_isSlot g1246 g1247 hP hS (by first | decide | omega) hl.1 rfl (by simp [q_catrf, q_cati, q_catl, q_cata, q_catn]) (by first | decide | omega) dX8_join_2 (fun q ce E h' H1 locs1 hE => hE.elim) (fun v hh1 H locs hq hP hS => ?_)
  obtain ⟨rfl, ⟨rfl, sl9⟩ | ⟨rfl, sl9⟩⟩ := hq
  · obtain ⟨i, hi, rfl⟩ := sl9.of
    have ebi : bSl (nI i) = true := bSl_t sl9
    have eci : (nI i).toNatClampNeg = i := nI_clamp (by omega)
    refine lv_if_eq (tgt := 26) hx hb dX8_join_5 (by decide) (fun c5 => ?_) (fun c5 => ?_)
    · replace c5 : 1 = 0 := (nI_eq (a := 1) (b := 0) (by omega) (by omega)).mp c5
      exfalso; omega
    · replace c5 : ¬ 1 = 0 := fun zq => c5 ((nI_eq (a := 1) (b := 0) (by omega) (by omega)).mpr zq)
      refine lv_iload_n hx hb dX8_join_8 rfl (lv_at hl 2 rfl) ?_
      refine q_callS (rest := [.ref y]) C (c_X8_isSlot l D cy N0 h p1) kX8_isSlot g1246 g1247 hP hS (by first | decide | omega) hl.1 rfl (by simp [q_catrf, q_cati, q_catl, q_cata, q_catn]) (by first | decide | omega) dX8_join_9 (fun q ce E h' H1 locs1 hE => hE.elim) (fun v hh2 H locs hq hP hS => ?_)
      obtain ⟨rfl, ⟨rfl, sl9⟩ | ⟨rfl, sl9⟩⟩ := hq
      · obtain ⟨j, hj, rfl⟩ := sl9.of
        have ebj : bSl (nI j) = true := bSl_t sl9
        have ecj : (nI j).toNatClampNeg = j := nI_clamp (by omega)
        refine lv_if_eq (tgt := 26) hx hb dX8_join_12 (by decide) (fun c12 => ?_) (fun c12 => ?_)
        · replace c12 : 1 = 0 := (nI_eq (a := 1) (b := 0) (by omega) (by omega)).mp c12
          exfalso; omega
        · replace c12 : ¬ 1 = 0 := fun zq => c12 ((nI_eq (a := 1) (b := 0) (by omega) (by omega)).mpr zq)
          refine lv_iload_n hx hb dX8_join_15 rfl (lv_at hl 3 rfl) ?_
          refine q_callS (rest := [.ref y]) C (c_X8_isSlot l D cy N0 h p2) kX8_isSlot g1246 g1247 hP hS (by first | decide | omega) hl.1 rfl (by simp [q_catrf, q_cati, q_catl, q_cata, q_catn]) (by first | decide | omega) dX8_join_16 (fun q ce E h' H1 locs1 hE => hE.elim) (fun v hh3 H locs hq hP hS => ?_)
          obtain ⟨rfl, ⟨rfl, sl9⟩ | ⟨rfl, sl9⟩⟩ := hq
          · obtain ⟨z7, hz7, rfl⟩ := sl9.of
            have ebz7 : bSl (nI z7) = true := bSl_t sl9
            have ecz7 : (nI z7).toNatClampNeg = z7 := nI_clamp (by omega)
            refine lv_if_eq (tgt := 26) hx hb dX8_join_19 (by decide) (fun c19 => ?_) (fun c19 => ?_)
            · replace c19 : 1 = 0 := (nI_eq (a := 1) (b := 0) (by omega) (by omega)).mp c19
              exfalso; omega
            · replace c19 : ¬ 1 = 0 := fun zq => c19 ((nI_eq (a := 1) (b := 0) (by omega) (by omega)).mpr zq)
              refine lv_iconst (v := nI 1) hx hb dX8_join_22 (by decide) ?_
              refine lv_goto (tgt := 27) hx hb dX8_join_23 (by decide) ?_
              refine lv_iconst (v := nI 1) hx hb dX8_join_27 (by decide) ?_
              refine q_callV (rest := []) C (c_X8_good1 l D cy N0 h y ms mb (ra 28) od pt fi re rc rs so ot cn la ro gr cd ca (nI m0) ct fau cs ce rn (nI 1) hY) kX8_good g1249 g1251 rfl gp41 g4 hP hS hY (by first | decide | omega) hl.1 rfl (by decide) (by first | decide | omega) dX8_join_28 (fun q ce E h' H1 locs1 hE => hE.elim) (fun v hh4 H locs hq hP hS => ?_)
              obtain ⟨rfl, rfl⟩ := hq
              replace hP : qP D N0 (qs h y (.inr (8, [.ref ms, .ref mb, .ref (ra 28), .int gr, .int 0, .int ca, .int (nI m0), .ref od, .ref pt, .int ct, .int fau, .ref fi, .ref re, .int cs, .ref rc, .ref rs, .ref so, .ref ot, .ref cn, .ref la, .int ce, .ref ro, .int rn]))) H := hP
              obtain ⟨hv1, ehv1⟩ : ∃ z : qH, z = qs h y (.inr (8, [.ref ms, .ref mb, .ref (ra 28), .int gr, .int 0, .int ca, .int (nI m0), .ref od, .ref pt, .int ct, .int fau, .ref fi, .ref re, .int cs, .ref rc, .ref rs, .ref so, .ref ot, .ref cn, .ref la, .int ce, .ref ro, .int rn])) := ⟨_, rfl⟩
              rw [← ehv1] at hP
              have khv1 : ∀ b o, b ≠ y → h b = some o → hv1 b = some o := by rw [ehv1]; exact fun b o nb hb => (qs_ne nb).trans hb
              replace hms := khv1 _ _ (fun q => by subst q; have := hms.symm.trans hY; first | cases this | simp at this) hms
              replace hmb := khv1 _ _ (fun q => by subst q; have := hmb.symm.trans hY; first | cases this | simp at this) hmb
              replace faw := khv1 _ _ (fun q => by have z9 := faw; rw [q] at z9; have := z9.symm.trans hY; first | cases this | simp at this) faw
              replace fkw := khv1 _ _ (fun q => by have z9 := fkw; rw [q] at z9; have := z9.symm.trans hY; first | cases this | simp at this) fkw
              replace fvw := khv1 _ _ (fun q => by have z9 := fvw; rw [q] at z9; have := z9.symm.trans hY; first | cases this | simp at this) fvw
              replace hY : hv1 y = some (.inr (8, [.ref ms, .ref mb, .ref (ra 28), .int gr, .int 0, .int ca, .int (nI m0), .ref od, .ref pt, .int ct, .int fau, .ref fi, .ref re, .int cs, .ref rc, .ref rs, .ref so, .ref ot, .ref cn, .ref la, .int ce, .ref ro, .int rn])) := by rw [ehv1]; exact qs_self
              clear ehv1
              replace fr := fun b o hb n1 n2 => khv1 b o n1 (fr b o hb n1 n2)
              refine lv_if_eq (tgt := 80) hx hb dX8_join_31 (by decide) (fun c31 => ?_) (fun c31 => ?_)
              · replace c31 : 1 = 0 := (nI_eq (a := 1) (b := 0) (by omega) (by omega)).mp c31
                exfalso; omega
              · replace c31 : ¬ 1 = 0 := fun zq => c31 ((nI_eq (a := 1) (b := 0) (by omega) (by omega)).mpr zq)
                refine lv_aload_n hx hb dX8_join_34 rfl (lv_at hl 0 rfl) ?_
                refine lv_aload_n hx hb dX8_join_35 rfl (lv_at hl 0 rfl) ?_
                refine q_get C hP hY rfl inX8 0 (by decide) g1167 rfl dX8_join_36 ?_
                refine lv_iload_n hx hb dX8_join_39 rfl (lv_at hl 2 rfl) ?_
                refine q_aaldR C hP hms rfl (by omega) (by omega) rfl dX8_join_40 ?_
                obtain ⟨nj, rwj, Fj, Gj, hRj, hnj, hLj, hKj⟩ := hrs j (by omega)
                have apj := hRj.apart hRw (hmd.two (i := j) (j := 28) (by omega) (by omega) (by omega))
                replace hRj := hRj.keep2 (fun b o hb ho => fr b o ho (hRj.ney hY0 hb) (hb.elim (fun q => q ▸ apj.1) (fun hb => hb.elim (fun q => q ▸ apj.2.1) (fun q => q ▸ apj.2.2))))
                have faj := hRj.2.2.2.1
                have fkj := hRj.2.2.2.2.1
                have fvj := hRj.2.2.2.2.2
                unfold qRb at faj
                unfold qJr at fkj fvj
                refine q_get C hP faj rfl inX7 2 (by decide) g1142 rfl dX8_join_41 ?_
                refine lv_if_lt (tgt := 72) hx hb dX8_join_44 (by decide) (fun c44 => ?_) (fun c44 => ?_)
                · refine lv_iconst (v := nI 0) hx hb dX8_join_72 (by decide) ?_
                  refine lv_iconst (v := nI 2) hx hb dX8_join_73 (by decide) ?_
                  refine q_callV (rest := []) C (c_X8_good0 l D cy N0 hv1 y ms mb (ra 28) od pt fi re rc rs so ot cn la ro gr 0 ca (nI m0) ct fau cs ce rn (nI 2) hY) kX8_good g1249 g1251 rfl gp41 g4 hP hS hY (by first | decide | omega) hl.1 rfl (by decide) (by first | decide | omega) dX8_join_74 (fun q ce E h' H1 locs1 hE => hE.elim) (fun v hh5 H locs hq hP hS => ?_)
                  obtain ⟨rfl, rfl⟩ := hq
                  replace hP : qP D N0 (qs hv1 y (.inr (8, [.ref ms, .ref mb, .ref (ra 28), .int gr, .int (nI 2), .int ca, .int (nI m0), .ref od, .ref pt, .int ct, .int fau, .ref fi, .ref re, .int cs, .ref rc, .ref rs, .ref so, .ref ot, .ref cn, .ref la, .int ce, .ref ro, .int rn]))) H := hP
                  obtain ⟨hv2, ehv2⟩ : ∃ z : qH, z = qs hv1 y (.inr (8, [.ref ms, .ref mb, .ref (ra 28), .int gr, .int (nI 2), .int ca, .int (nI m0), .ref od, .ref pt, .int ct, .int fau, .ref fi, .ref re, .int cs, .ref rc, .ref rs, .ref so, .ref ot, .ref cn, .ref la, .int ce, .ref ro, .int rn])) := ⟨_, rfl⟩
                  rw [← ehv2] at hP
                  have khv2 : ∀ b o, b ≠ y → hv1 b = some o → hv2 b = some o := by rw [ehv2]; exact fun b o nb hb => (qs_ne nb).trans hb
                  replace hms := khv2 _ _ (fun q => by subst q; have := hms.symm.trans hY; first | cases this | simp at this) hms
                  replace hmb := khv2 _ _ (fun q => by subst q; have := hmb.symm.trans hY; first | cases this | simp at this) hmb
                  replace faw := khv2 _ _ (fun q => by have z9 := faw; rw [q] at z9; have := z9.symm.trans hY; first | cases this | simp at this) faw
                  replace fkw := khv2 _ _ (fun q => by have z9 := fkw; rw [q] at z9; have := z9.symm.trans hY; first | cases this | simp at this) fkw
                  replace fvw := khv2 _ _ (fun q => by have z9 := fvw; rw [q] at z9; have := z9.symm.trans hY; first | cases this | simp at this) fvw
                  replace faj := khv2 _ _ (fun q => by have z9 := faj; rw [q] at z9; have := z9.symm.trans hY; first | cases this | simp at this) faj
                  replace fkj := khv2 _ _ (fun q => by have z9 := fkj; rw [q] at z9; have := z9.symm.trans hY; first | cases this | simp at this) fkj
                  replace fvj := khv2 _ _ (fun q => by have z9 := fvj; rw [q] at z9; have := z9.symm.trans hY; first | cases this | simp at this) fvj
                  replace hY : hv2 y = some (.inr (8, [.ref ms, .ref mb, .ref (ra 28), .int gr, .int (nI 2), .int ca, .int (nI m0), .ref od, .ref pt, .int ct, .int fau, .ref fi, .ref re, .int cs, .ref rc, .ref rs, .ref so, .ref ot, .ref cn, .ref la, .int ce, .ref ro, .int rn])) := by rw [ehv2]; exact qs_self
                  clear ehv2
                  replace fr := fun b o hb n1 n2 => khv2 b o n1 (fr b o hb n1 n2)
                  refine lv_if_ne (tgt := 82) hx hb dX8_join_77 (by decide) (fun c77 => ?_) (fun c77 => ?_)
                  · replace c77 : ¬ 0 = 0 := fun zq => c77 ((nI_eq (a := 0) (b := 0) (by omega) (by omega)).mpr zq)
                    exfalso; omega
                  · replace c77 : 0 = 0 := (nI_eq (a := 0) (b := 0) (by omega) (by omega)).mp c77
                    refine lv_iconst (v := nI 0) hx hb dX8_join_80 (by decide) ?_
                    have eX : X = (2, 0, S, (ms, mb, ra 28, od, pt, ro, gr, cd, ca, nI m0, ct, fau, rn), a, k) := by rw [← hX]; unfold xs_join; rw [if_neg (by rw [ebi, ebj, ebz7]; decide), ecj, ecz7, if_pos (Or.inl c44)]
                    obtain ⟨m8, f8⟩ := hM.fin0 hY0 (h' := hv2) ⟨hRw.1, hRw.2.1, hRw.2.2.1, faw, fkw, fvw⟩ fr
                    obtain ⟨q8, r8⟩ := hQ.rowM (o' := oCd (ms, mb, ra 28, od, pt, ro, gr, cd, ca, nI m0, ct, fau, rn) 2) hY0 hY m8 f8 ⟨rfl, rfl, rfl, rfl, rfl, rfl⟩
                    exact q_iret C hP hS ⟨by rw [eX]; rfl, A, by rw [eX]; exact q8, r8⟩ (by omega) dX8_join_81
                · refine lv_aload_n hx hb dX8_join_47 rfl (lv_at hl 0 rfl) ?_
                  refine q_get C hP hY rfl inX8 0 (by decide) g1167 rfl dX8_join_48 ?_
                  refine lv_iload_n hx hb dX8_join_51 rfl (lv_at hl 2 rfl) ?_
                  refine q_aaldR C hP hms rfl (by omega) (by omega) rfl dX8_join_52 ?_
                  refine q_get C hP faj rfl inX7 2 (by decide) g1142 rfl dX8_join_53 ?_
                  refine lv_aload_n hx hb dX8_join_56 rfl (lv_at hl 0 rfl) ?_
                  refine q_get C hP hY rfl inX8 0 (by decide) g1167 rfl dX8_join_57 ?_
                  refine lv_iload_n hx hb dX8_join_60 rfl (lv_at hl 3 rfl) ?_
                  refine q_aaldR C hP hms rfl (by omega) (by omega) rfl dX8_join_61 ?_
                  obtain ⟨nz7, rwz7, Fz7, Gz7, hRz7, hnz7, hLz7, hKz7⟩ := hrs z7 (by omega)
                  have apz7 := hRz7.apart hRw (hmd.two (i := z7) (j := 28) (by omega) (by omega) (by omega))
                  replace hRz7 := hRz7.keep2 (fun b o hb ho => fr b o ho (hRz7.ney hY0 hb) (hb.elim (fun q => q ▸ apz7.1) (fun hb => hb.elim (fun q => q ▸ apz7.2.1) (fun q => q ▸ apz7.2.2))))
                  have faz7 := hRz7.2.2.2.1
                  have fkz7 := hRz7.2.2.2.2.1
                  have fvz7 := hRz7.2.2.2.2.2
                  unfold qRb at faz7
                  unfold qJr at fkz7 fvz7
                  refine q_get C hP faz7 rfl inX7 2 (by decide) g1142 rfl dX8_join_62 ?_
                  refine lv_icmp_ne (tgt := 72) hx hb dX8_join_65 (by decide) (fun c65 => ?_) (fun c65 => ?_)
                  · refine lv_iconst (v := nI 0) hx hb dX8_join_72 (by decide) ?_
                    refine lv_iconst (v := nI 2) hx hb dX8_join_73 (by decide) ?_
                    refine q_callV (rest := []) C (c_X8_good0 l D cy N0 hv1 y ms mb (ra 28) od pt fi re rc rs so ot cn la ro gr 0 ca (nI m0) ct fau cs ce rn (nI 2) hY) kX8_good g1249 g1251 rfl gp41 g4 hP hS hY (by first | decide | omega) hl.1 rfl (by decide) (by first | decide | omega) dX8_join_74 (fun q ce E h' H1 locs1 hE => hE.elim) (fun v hh6 H locs hq hP hS => ?_)
                    obtain ⟨rfl, rfl⟩ := hq
                    replace hP : qP D N0 (qs hv1 y (.inr (8, [.ref ms, .ref mb, .ref (ra 28), .int gr, .int (nI 2), .int ca, .int (nI m0), .ref od, .ref pt, .int ct, .int fau, .ref fi, .ref re, .int cs, .ref rc, .ref rs, .ref so, .ref ot, .ref cn, .ref la, .int ce, .ref ro, .int rn]))) H := hP
                    obtain ⟨hv3, ehv3⟩ : ∃ z : qH, z = qs hv1 y (.inr (8, [.ref ms, .ref mb, .ref (ra 28), .int gr, .int (nI 2), .int ca, .int (nI m0), .ref od, .ref pt, .int ct, .int fau, .ref fi, .ref re, .int cs, .ref rc, .ref rs, .ref so, .ref ot, .ref cn, .ref la, .int ce, .ref ro, .int rn])) := ⟨_, rfl⟩
                    rw [← ehv3] at hP
                    have khv3 : ∀ b o, b ≠ y → hv1 b = some o → hv3 b = some o := by rw [ehv3]; exact fun b o nb hb => (qs_ne nb).trans hb
                    replace hms := khv3 _ _ (fun q => by subst q; have := hms.symm.trans hY; first | cases this | simp at this) hms
                    replace hmb := khv3 _ _ (fun q => by subst q; have := hmb.symm.trans hY; first | cases this | simp at this) hmb
                    replace faw := khv3 _ _ (fun q => by have z9 := faw; rw [q] at z9; have := z9.symm.trans hY; first | cases this | simp at this) faw
                    replace fkw := khv3 _ _ (fun q => by have z9 := fkw; rw [q] at z9; have := z9.symm.trans hY; first | cases this | simp at this) fkw
                    replace fvw := khv3 _ _ (fun q => by have z9 := fvw; rw [q] at z9; have := z9.symm.trans hY; first | cases this | simp at this) fvw
                    replace faj := khv3 _ _ (fun q => by have z9 := faj; rw [q] at z9; have := z9.symm.trans hY; first | cases this | simp at this) faj
                    replace fkj := khv3 _ _ (fun q => by have z9 := fkj; rw [q] at z9; have := z9.symm.trans hY; first | cases this | simp at this) fkj
                    replace fvj := khv3 _ _ (fun q => by have z9 := fvj; rw [q] at z9; have := z9.symm.trans hY; first | cases this | simp at this) fvj
                    replace faz7 := khv3 _ _ (fun q => by have z9 := faz7; rw [q] at z9; have := z9.symm.trans hY; first | cases this | simp at this) faz7
                    replace fkz7 := khv3 _ _ (fun q => by have z9 := fkz7; rw [q] at z9; have := z9.symm.trans hY; first | cases this | simp at this) fkz7
                    replace fvz7 := khv3 _ _ (fun q => by have z9 := fvz7; rw [q] at z9; have := z9.symm.trans hY; first | cases this | simp at this) fvz7
                    replace hY : hv3 y = some (.inr (8, [.ref ms, .ref mb, .ref (ra 28), .int gr, .int (nI 2), .int ca, .int (nI m0), .ref od, .ref pt, .int ct, .int fau, .ref fi, .ref re, .int cs, .ref rc, .ref rs, .ref so, .ref ot, .ref cn, .ref la, .int ce, .ref ro, .int rn])) := by rw [ehv3]; exact qs_self
                    clear ehv3
                    replace fr := fun b o hb n1 n2 => khv3 b o n1 (fr b o hb n1 n2)
                    refine lv_if_ne (tgt := 82) hx hb dX8_join_77 (by decide) (fun c77 => ?_) (fun c77 => ?_)
                    · replace c77 : ¬ 0 = 0 := fun zq => c77 ((nI_eq (a := 0) (b := 0) (by omega) (by omega)).mpr zq)
                      exfalso; omega
                    · replace c77 : 0 = 0 := (nI_eq (a := 0) (b := 0) (by omega) (by omega)).mp c77
                      refine lv_iconst (v := nI 0) hx hb dX8_join_80 (by decide) ?_
                      have eX : X = (2, 0, S, (ms, mb, ra 28, od, pt, ro, gr, cd, ca, nI m0, ct, fau, rn), a, k) := by rw [← hX]; unfold xs_join; rw [if_neg (by rw [ebi, ebj, ebz7]; decide), ecj, ecz7, if_pos (Or.inr c65)]
                      obtain ⟨m8, f8⟩ := hM.fin0 hY0 (h' := hv3) ⟨hRw.1, hRw.2.1, hRw.2.2.1, faw, fkw, fvw⟩ fr
                      obtain ⟨q8, r8⟩ := hQ.rowM (o' := oCd (ms, mb, ra 28, od, pt, ro, gr, cd, ca, nI m0, ct, fau, rn) 2) hY0 hY m8 f8 ⟨rfl, rfl, rfl, rfl, rfl, rfl⟩
                      exact q_iret C hP hS ⟨by rw [eX]; rfl, A, by rw [eX]; exact q8, r8⟩ (by omega) dX8_join_81
                  · refine lv_iconst (v := nI 1) hx hb dX8_join_68 (by decide) ?_
                    refine lv_goto (tgt := 73) hx hb dX8_join_69 (by decide) ?_
                    refine lv_iconst (v := nI 2) hx hb dX8_join_73 (by decide) ?_
                    refine q_callV (rest := []) C (c_X8_good1 l D cy N0 hv1 y ms mb (ra 28) od pt fi re rc rs so ot cn la ro gr 0 ca (nI m0) ct fau cs ce rn (nI 2) hY) kX8_good g1249 g1251 rfl gp41 g4 hP hS hY (by first | decide | omega) hl.1 rfl (by decide) (by first | decide | omega) dX8_join_74 (fun q ce E h' H1 locs1 hE => hE.elim) (fun v hh7 H locs hq hP hS => ?_)
                    obtain ⟨rfl, rfl⟩ := hq
                    replace hP : qP D N0 (qs hv1 y (.inr (8, [.ref ms, .ref mb, .ref (ra 28), .int gr, .int 0, .int ca, .int (nI m0), .ref od, .ref pt, .int ct, .int fau, .ref fi, .ref re, .int cs, .ref rc, .ref rs, .ref so, .ref ot, .ref cn, .ref la, .int ce, .ref ro, .int rn]))) H := hP
                    obtain ⟨hv4, ehv4⟩ : ∃ z : qH, z = qs hv1 y (.inr (8, [.ref ms, .ref mb, .ref (ra 28), .int gr, .int 0, .int ca, .int (nI m0), .ref od, .ref pt, .int ct, .int fau, .ref fi, .ref re, .int cs, .ref rc, .ref rs, .ref so, .ref ot, .ref cn, .ref la, .int ce, .ref ro, .int rn])) := ⟨_, rfl⟩
                    rw [← ehv4] at hP
                    have khv4 : ∀ b o, b ≠ y → hv1 b = some o → hv4 b = some o := by rw [ehv4]; exact fun b o nb hb => (qs_ne nb).trans hb
                    replace hms := khv4 _ _ (fun q => by subst q; have := hms.symm.trans hY; first | cases this | simp at this) hms
                    replace hmb := khv4 _ _ (fun q => by subst q; have := hmb.symm.trans hY; first | cases this | simp at this) hmb
                    replace faw := khv4 _ _ (fun q => by have z9 := faw; rw [q] at z9; have := z9.symm.trans hY; first | cases this | simp at this) faw
                    replace fkw := khv4 _ _ (fun q => by have z9 := fkw; rw [q] at z9; have := z9.symm.trans hY; first | cases this | simp at this) fkw
                    replace fvw := khv4 _ _ (fun q => by have z9 := fvw; rw [q] at z9; have := z9.symm.trans hY; first | cases this | simp at this) fvw
                    replace faj := khv4 _ _ (fun q => by have z9 := faj; rw [q] at z9; have := z9.symm.trans hY; first | cases this | simp at this) faj
                    replace fkj := khv4 _ _ (fun q => by have z9 := fkj; rw [q] at z9; have := z9.symm.trans hY; first | cases this | simp at this) fkj
                    replace fvj := khv4 _ _ (fun q => by have z9 := fvj; rw [q] at z9; have := z9.symm.trans hY; first | cases this | simp at this) fvj
                    replace faz7 := khv4 _ _ (fun q => by have z9 := faz7; rw [q] at z9; have := z9.symm.trans hY; first | cases this | simp at this) faz7
                    replace fkz7 := khv4 _ _ (fun q => by have z9 := fkz7; rw [q] at z9; have := z9.symm.trans hY; first | cases this | simp at this) fkz7
                    replace fvz7 := khv4 _ _ (fun q => by have z9 := fvz7; rw [q] at z9; have := z9.symm.trans hY; first | cases this | simp at this) fvz7
                    replace hY : hv4 y = some (.inr (8, [.ref ms, .ref mb, .ref (ra 28), .int gr, .int 0, .int ca, .int (nI m0), .ref od, .ref pt, .int ct, .int fau, .ref fi, .ref re, .int cs, .ref rc, .ref rs, .ref so, .ref ot, .ref cn, .ref la, .int ce, .ref ro, .int rn])) := by rw [ehv4]; exact qs_self
                    clear ehv4
                    replace fr := fun b o hb n1 n2 => khv4 b o n1 (fr b o hb n1 n2)
                    refine lv_if_ne (tgt := 82) hx hb dX8_join_77 (by decide) (fun c77 => ?_) (fun c77 => ?_)
                    · replace c77 : ¬ 1 = 0 := fun zq => c77 ((nI_eq (a := 1) (b := 0) (by omega) (by omega)).mpr zq)
                      have hlj : (S j).2.1.length = nj := by rw [hLj, qLs_len]
                      have hlz7 : (S z7).2.1.length = nz7 := by rw [hLz7, qLs_len]
                      have hdj := hDp j (by omega)
                      have hdz7 := hDp z7 (by omega)
                      refine lv_aload_n hx hb dX8_join_82 rfl (lv_at hl 0 rfl) ?_
                      refine q_get C hP hY rfl inX8 0 (by decide) g1167 rfl dX8_join_83 ?_
                      refine lv_iload_n hx hb dX8_join_86 rfl (lv_at hl 2 rfl) ?_
                      refine q_aaldR C hP hms rfl (by omega) (by omega) rfl dX8_join_87 ?_
                      refine lv_astore (lv' := [(4, .ref (ra j)), (0, .ref y), (1, .int (nI i)), (2, .int (nI j)), (3, .int (nI z7))]) hx hb dX8_join_88 hl (by decide) rfl (fun ls hl => ?_)
                      refine lv_aload_n hx hb dX8_join_90 rfl (lv_at hl 1 rfl) ?_
                      refine q_get C hP hY rfl inX8 0 (by decide) g1167 rfl dX8_join_91 ?_
                      refine lv_iload_n hx hb dX8_join_94 rfl (lv_at hl 4 rfl) ?_
                      refine q_aaldR C hP hms rfl (by omega) (by omega) rfl dX8_join_95 ?_
                      refine lv_astore (lv' := [(5, .ref (ra z7)), (4, .ref (ra j)), (0, .ref y), (1, .int (nI i)), (2, .int (nI j)), (3, .int (nI z7))]) hx hb dX8_join_96 hl (by decide) rfl (fun ls hl => ?_)
                      refine lv_aload hx hb dX8_join_98 (lv_at hl 1 rfl) ?_
                      refine q_get C hP faj rfl inX7 2 (by decide) g1142 rfl dX8_join_100 ?_
                      refine lv_bipush (v := 6) hx hb dX8_join_103 (by decide) ?_
                      refine lv_icmp_ne (tgt := 208) hx hb dX8_join_105 (by decide) (fun c105 => ?_) (fun c105 => ?_)
                      · refine lv_aload hx hb dX8_join_208 (lv_at hl 1 rfl) ?_
                        refine q_get C hP faj rfl inX7 2 (by decide) g1142 rfl dX8_join_210 ?_
                        refine lv_iconst (v := 5) hx hb dX8_join_213 (by decide) ?_
                        refine lv_icmp_ne (tgt := 221) hx hb dX8_join_214 (by decide) (fun c214 => ?_) (fun c214 => ?_)
                        · refine lv_aload hx hb dX8_join_221 (lv_at hl 1 rfl) ?_
                          refine q_get C hP faj rfl inX7 3 (by decide) g1143 rfl dX8_join_223 ?_
                          refine lv_aload hx hb dX8_join_226 (lv_at hl 0 rfl) ?_
                          refine q_get C hP faz7 rfl inX7 3 (by decide) g1143 rfl dX8_join_228 ?_
                          refine q_iaddN hx hb dX8_join_231 ?_
                          refine lv_istore (lv' := [(6, .int (nI (nj + nz7))), (5, .ref (ra z7)), (4, .ref (ra j)), (0, .ref y), (1, .int (nI i)), (2, .int (nI j)), (3, .int (nI z7))]) hx hb dX8_join_232 hl (by decide) rfl (fun ls hl => ?_)
                          refine lv_aload hx hb dX8_join_234 (lv_at hl 2 rfl) ?_
                          refine q_get C hP faj rfl inX7 3 (by decide) g1143 rfl dX8_join_236 ?_
                          refine lv_istore (lv' := [(7, .int (nI nj)), (6, .int (nI (nj + nz7))), (5, .ref (ra z7)), (4, .ref (ra j)), (0, .ref y), (1, .int (nI i)), (2, .int (nI j)), (3, .int (nI z7))]) hx hb dX8_join_239 hl (by decide) rfl (fun ls hl => ?_)
                          refine lv_aload hx hb dX8_join_241 (lv_at hl 3 rfl) ?_
                          refine q_get C hP faj rfl inX7 2 (by decide) g1142 rfl dX8_join_243 ?_
                          refine lv_if_eq (tgt := 258) hx hb dX8_join_246 (by decide) (fun c246 => ?_) (fun c246 => ?_)
                          · have hE : xEa (S j).1 = true := by rw [show (S j).1 = 0 from c246]; rfl
                            refine lv_iconst (v := nI 1) hx hb dX8_join_258 (by decide) ?_
                            refine lv_goto (tgt := 263) hx hb dX8_join_259 (by decide) ?_
                            refine lv_istore (lv' := [(8, .int (nI 1)), (7, .int (nI nj)), (6, .int (nI (nj + nz7))), (5, .ref (ra z7)), (4, .ref (ra j)), (0, .ref y), (1, .int (nI i)), (2, .int (nI j)), (3, .int (nI z7))]) hx hb dX8_join_263 hl (by decide) rfl (fun ls hl => ?_)
                            refine lv_iconst (v := nI 0) hx hb dX8_join_265 (by decide) ?_
                            refine lv_istore (lv' := [(9, .int (nI 0)), (8, .int (nI 1)), (7, .int (nI nj)), (6, .int (nI (nj + nz7))), (5, .ref (ra z7)), (4, .ref (ra j)), (0, .ref y), (1, .int (nI i)), (2, .int (nI j)), (3, .int (nI z7))]) hx hb dX8_join_266 hl (by decide) rfl (fun ls hl => ?_)
                            have eco : xCo (S j).1 nj nz7 = nj + nz7 := by unfold xCo; exact if_neg c214
                            refine (?_ : ∀ (t : Nat) (H : Heap) (locs : List Loc) (ls : Array Slot) (ii cc : Nat), nz7 - ii < t → lv_has ls 10 [(9, .int (nI ii)), (7, .int (nI (nj + cc))), (8, .int (nI 1)), (6, .int (nI (nj + nz7))), (5, .ref (ra z7)), (4, .ref (ra j)), (0, .ref y), (1, .int (nI i))] → ii ≤ nz7 ∧ cc ≤ ii → cc = ((qLs (S z7).1 Fz7 Gz7 ii).filter (fun p => xEa (S j).1 || !xHas (S j).2.1 p.1)).length → qP D N0 hv4 H → va_S (qA N0) s.heap H locs → W p l e _ s m _ below meth c H locs 0 0 _ (F0 m 268 ls [])) _ H locs ls 0 0 (Nat.lt_succ_self _) (lv_sub hl [0, 2, 1, 3, 4, 5, 6, 7] rfl) ⟨Nat.zero_le _, Nat.le_refl _⟩ rfl hP hS
                            clear hl hP hS
                            intro t
                            induction t with
                            | zero => intro H locs ls ii cc ht; exact absurd ht (Nat.not_lt_zero _)
                            | succ t ihl =>
                              intro H locs ls ii cc ht hl hii hcc hP hS
                              refine lv_iload hx hb dX8_join_268 (lv_at hl 0 rfl) ?_
                              refine lv_aload hx hb dX8_join_270 (lv_at hl 4 rfl) ?_
                              refine q_get C hP faz7 rfl inX7 3 (by decide) g1143 rfl dX8_join_272 ?_
                              refine lv_icmp_ge (tgt := 308) hx hb dX8_join_275 (by decide) (fun c275 => ?_) (fun c275 => ?_)
                              · replace c275 : nz7 ≤ ii := (nI_leI (a := nz7) (b := ii) (by omega) (by omega)).mp c275
                                have eii : ii = nz7 := by omega
                                rw [eii, ← hLz7] at hcc
                                have ejc : xJc (xEa (S j).1) (S j).2.1 (S z7).2.1 = nj + cc := by unfold xJc; rw [hlj, ← hcc]
                                clear ihl
                                refine lv_aload_n hx hb dX8_join_308 rfl (lv_at hl 6 rfl) ?_
                                refine lv_aload_n hx hb dX8_join_309 rfl (lv_at hl 6 rfl) ?_
                                refine lv_iload hx hb dX8_join_310 (lv_at hl 1 rfl) ?_
                                refine lv_iload hx hb dX8_join_312 (lv_at hl 3 rfl) ?_
                                refine q_callV (rest := [.ref y]) C (c_X8_fits l D cy N0 hv4 y m0 (nj + cc) (nj + nz7) _ hY rfl (by omega) (by omega)) kX8_fits g1413 g1415 rfl gp61 g4 hP hS hY (by first | decide | omega) hl.1 rfl (by simp [q_catrf, q_cati, q_catl, q_cata, q_catn]) (by first | decide | omega) dX8_join_314 (fun q ce E h' H1 locs1 hE => hE.elim) (fun v hh8 H locs hq hP hS => ?_)
                                obtain ⟨rfl, rfl⟩ := hq
                                by_cases cf : (nj + cc) ≤ 1000 ∧ m0 + (nj + nz7) ≤ 20000
                                · rw [if_pos cf]
                                  refine lv_iconst (v := nI 3) hx hb dX8_join_317 (by decide) ?_
                                  refine q_callV (rest := []) C (c_X8_good1 l D cy N0 hv4 y ms mb (ra 28) od pt fi re rc rs so ot cn la ro gr 0 ca (nI m0) ct fau cs ce rn (nI 3) hY) kX8_good g1249 g1251 rfl gp41 g4 hP hS hY (by first | decide | omega) hl.1 rfl (by decide) (by first | decide | omega) dX8_join_318 (fun q ce E h' H1 locs1 hE => hE.elim) (fun v hh9 H locs hq hP hS => ?_)
                                  obtain ⟨rfl, rfl⟩ := hq
                                  replace hP : qP D N0 (qs hv4 y (.inr (8, [.ref ms, .ref mb, .ref (ra 28), .int gr, .int 0, .int ca, .int (nI m0), .ref od, .ref pt, .int ct, .int fau, .ref fi, .ref re, .int cs, .ref rc, .ref rs, .ref so, .ref ot, .ref cn, .ref la, .int ce, .ref ro, .int rn]))) H := hP
                                  obtain ⟨hv5, ehv5⟩ : ∃ z : qH, z = qs hv4 y (.inr (8, [.ref ms, .ref mb, .ref (ra 28), .int gr, .int 0, .int ca, .int (nI m0), .ref od, .ref pt, .int ct, .int fau, .ref fi, .ref re, .int cs, .ref rc, .ref rs, .ref so, .ref ot, .ref cn, .ref la, .int ce, .ref ro, .int rn])) := ⟨_, rfl⟩
                                  rw [← ehv5] at hP
                                  have khv5 : ∀ b o, b ≠ y → hv4 b = some o → hv5 b = some o := by rw [ehv5]; exact fun b o nb hb => (qs_ne nb).trans hb
                                  replace hms := khv5 _ _ (fun q => by subst q; have := hms.symm.trans hY; first | cases this | simp at this) hms
                                  replace hmb := khv5 _ _ (fun q => by subst q; have := hmb.symm.trans hY; first | cases this | simp at this) hmb
                                  replace faw := khv5 _ _ (fun q => by have z9 := faw; rw [q] at z9; have := z9.symm.trans hY; first | cases this | simp at this) faw
                                  replace fkw := khv5 _ _ (fun q => by have z9 := fkw; rw [q] at z9; have := z9.symm.trans hY; first | cases this | simp at this) fkw
                                  replace fvw := khv5 _ _ (fun q => by have z9 := fvw; rw [q] at z9; have := z9.symm.trans hY; first | cases this | simp at this) fvw
                                  replace faj := khv5 _ _ (fun q => by have z9 := faj; rw [q] at z9; have := z9.symm.trans hY; first | cases this | simp at this) faj
                                  replace fkj := khv5 _ _ (fun q => by have z9 := fkj; rw [q] at z9; have := z9.symm.trans hY; first | cases this | simp at this) fkj
                                  replace fvj := khv5 _ _ (fun q => by have z9 := fvj; rw [q] at z9; have := z9.symm.trans hY; first | cases this | simp at this) fvj
                                  replace faz7 := khv5 _ _ (fun q => by have z9 := faz7; rw [q] at z9; have := z9.symm.trans hY; first | cases this | simp at this) faz7
                                  replace fkz7 := khv5 _ _ (fun q => by have z9 := fkz7; rw [q] at z9; have := z9.symm.trans hY; first | cases this | simp at this) fkz7
                                  replace fvz7 := khv5 _ _ (fun q => by have z9 := fvz7; rw [q] at z9; have := z9.symm.trans hY; first | cases this | simp at this) fvz7
                                  replace hY : hv5 y = some (.inr (8, [.ref ms, .ref mb, .ref (ra 28), .int gr, .int 0, .int ca, .int (nI m0), .ref od, .ref pt, .int ct, .int fau, .ref fi, .ref re, .int cs, .ref rc, .ref rs, .ref so, .ref ot, .ref cn, .ref la, .int ce, .ref ro, .int rn])) := by rw [ehv5]; exact qs_self
                                  clear ehv5
                                  replace fr := fun b o hb n1 n2 => khv5 b o n1 (fr b o hb n1 n2)
                                  refine lv_if_ne (tgt := 326) hx hb dX8_join_321 (by decide) (fun c321 => ?_) (fun c321 => ?_)
                                  · replace c321 : ¬ 1 = 0 := fun zq => c321 ((nI_eq (a := 1) (b := 0) (by omega) (by omega)).mpr zq)
                                    refine lv_aload hx hb dX8_join_326 (lv_at hl 5 rfl) ?_
                                    refine lv_aload_n hx hb dX8_join_328 rfl (lv_at hl 6 rfl) ?_
                                    refine q_get C hP hY rfl inX8 2 (by decide) g1169 rfl dX8_join_329 ?_
                                    refine q_callS (rest := []) C (c_X8_copy l D cy N0 hv5 (ra j) (rk j) (rv j) (S j).1 (nI (S j).2.2.1) (nI (S j).2.2.2) rwj nj Fj Gj (ra 28) (rk 28) (rv 28) kdw smw dpw rww nw fw gw ⟨hRj.1, hRj.2.1, hRj.2.2.1, faj, fkj, fvj⟩ ⟨hRw.1, hRw.2.1, hRw.2.2.1, faw, fkw, fvw⟩ apj (by omega)) kX8_copy g1257 g1258 hP hS (by first | decide | omega) hl.1 rfl (by decide) (by first | decide | omega) dX8_join_332 (fun q ce E h' H1 locs1 hE => hE.elim) (fun v hh10 H locs hq hP hS => ?_)
                                    obtain ⟨rfl, rfl⟩ := hq
                                    obtain ⟨hv6, ehv6⟩ : ∃ z : qH, z = qRh cy hv5 (ra 28) (rk 28) (rv 28) ((S j).1) (nI nj) (nI (S j).2.2.1) (nI (S j).2.2.2) rwj (qCp Fj fw nj) (qCp Gj gw nj) := ⟨_, rfl⟩
                                    rw [← ehv6] at hP
                                    have r9 : qRw cy hv6 (ra 28) (rk 28) (rv 28) ((S j).1) (nI nj) (nI (S j).2.2.1) (nI (S j).2.2.2) rwj (qCp Fj fw nj) (qCp Gj gw nj) := by rw [ehv6]; exact qRw.new (cy := cy) (h := hv5) (kd := kdw) (n := (nI nw)) (sm := smw) (dp := dpw) (rw := rww) (f := fw) (g := gw) ⟨hRw.1, hRw.2.1, hRw.2.2.1, faw, fkw, fvw⟩
                                    have khv6 : ∀ b o, qOf (ra 28) (rk 28) (rv 28) b → hv5 b = some o → hv6 b = some o := by rw [ehv6]; exact fun b o q hb => (qRh_o q.1 q.2.1 q.2.2).trans hb
                                    replace hY := khv6 _ _ ⟨fun q => by rw [q] at hY; have := faw.symm.trans hY; first | cases this | simp at this, fun q => by rw [q] at hY; have := fkw.symm.trans hY; first | cases this | simp at this, fun q => by rw [q] at hY; have := fvw.symm.trans hY; first | cases this | simp at this⟩ hY
                                    replace hms := khv6 _ _ ⟨fun q => by rw [q] at hms; have := faw.symm.trans hms; first | cases this | simp at this, fun q => by rw [q] at hms; have := fkw.symm.trans hms; first | cases this | simp at this, fun q => by rw [q] at hms; have := fvw.symm.trans hms; first | cases this | simp at this⟩ hms
                                    replace hmb := khv6 _ _ ⟨fun q => by rw [q] at hmb; have := faw.symm.trans hmb; first | cases this | simp at this, fun q => by rw [q] at hmb; have := fkw.symm.trans hmb; first | cases this | simp at this, fun q => by rw [q] at hmb; have := fvw.symm.trans hmb; first | cases this | simp at this⟩ hmb
                                    replace faj := khv6 _ _ apj.1 faj
                                    replace fkj := khv6 _ _ apj.2.1 fkj
                                    replace fvj := khv6 _ _ apj.2.2 fvj
                                    replace faz7 := khv6 _ _ apz7.1 faz7
                                    replace fkz7 := khv6 _ _ apz7.2.1 fkz7
                                    replace fvz7 := khv6 _ _ apz7.2.2 fvz7
                                    replace fr := fun b o hb n1 n2 => khv6 b o n2 (fr b o hb n1 n2)
                                    clear faw fkw fvw
                                    have faw := r9.2.2.2.1
                                    have fkw := r9.2.2.2.2.1
                                    have fvw := r9.2.2.2.2.2
                                    unfold qRb at faw
                                    unfold qJr at fkw fvw
                                    clear r9 ehv6
                                    have lw : qLs ((S j).1) (qCp Fj fw nj) (qCp Gj gw nj) nj = (S j).2.1 := by rw [qLs_cp]; exact hLj.symm
                                    refine lv_iconst (v := nI 0) hx hb dX8_join_335 (by decide) ?_
                                    refine lv_istore (lv' := [(9, .int (nI 0)), (7, .int (nI (nj + cc))), (8, .int (nI 1)), (6, .int (nI (nj + nz7))), (5, .ref (ra z7)), (4, .ref (ra j)), (0, .ref y), (1, .int (nI i))]) hx hb dX8_join_336 hl (by decide) rfl (fun ls hl => ?_)
                                    refine (?_ : ∀ (t : Nat) (H : Heap) (locs : List Loc) (ls : Array Slot) (hv0 : qH) (fW gW : Nat → Int64) (nW i2 : Nat), nz7 - i2 < t → hv0 y = some (.inr (8, [.ref ms, .ref mb, .ref (ra 28), .int gr, .int 0, .int ca, .int (nI m0), .ref od, .ref pt, .int ct, .int fau, .ref fi, .ref re, .int cs, .ref rc, .ref rs, .ref so, .ref ot, .ref cn, .ref la, .int ce, .ref ro, .int rn])) → hv0 ms = some (.inl (cy 5, 24, .inr (.inr (.inr (.inr (fun i => some (ra i))))))) → hv0 mb = some (.inl (cy 5, 4, .inr (.inr (.inr (.inr (fun i => some (ra (24 + i)))))))) → hv0 (ra 28) = some (.inr (7, [.ref (rk 28), .ref (rv 28), .int (S j).1, .int (nI nW), .int (nI (S j).2.2.1), .int (nI (S j).2.2.2), .int rwj])) → hv0 (rk 28) = some (.inl (cy 1, 1001, .inr (.inl fW))) → hv0 (rv 28) = some (.inl (cy 1, 1001, .inr (.inl gW))) → hv0 (ra j) = some (.inr (7, [.ref (rk j), .ref (rv j), .int (S j).1, .int (nI nj), .int (nI (S j).2.2.1), .int (nI (S j).2.2.2), .int rwj])) → hv0 (rk j) = some (.inl (cy 1, 1001, .inr (.inl Fj))) → hv0 (rv j) = some (.inl (cy 1, 1001, .inr (.inl Gj))) → hv0 (ra z7) = some (.inr (7, [.ref (rk z7), .ref (rv z7), .int (S z7).1, .int (nI nz7), .int (nI (S z7).2.2.1), .int (nI (S z7).2.2.2), .int rwz7])) → hv0 (rk z7) = some (.inl (cy 1, 1001, .inr (.inl Fz7))) → hv0 (rv z7) = some (.inl (cy 1, 1001, .inr (.inl Gz7))) → (∀ b o, h b = some o → b ≠ y → qOf (ra 28) (rk 28) (rv 28) b → hv0 b = some o) → qLs (S j).1 fW gW nW = xJn (S j).1 (xEa (S j).1) (S j).2.1 (qLs (S z7).1 Fz7 Gz7 i2) → nW ≤ 1000 ∧ i2 ≤ nz7 → lv_has ls 10 [(9, .int (nI i2)), (8, .int (nI 1)), (6, .int (nI (nj + nz7))), (5, .ref (ra z7)), (0, .ref y), (1, .int (nI i))] → qP D N0 hv0 H → va_S (qA N0) s.heap H locs → W p l e _ s m _ below meth c H locs 0 0 _ (F0 m 338 ls [])) _ H locs ls hv6 (qCp Fj fw nj) (qCp Gj gw nj) nj 0 (Nat.lt_succ_self _) hY hms hmb faw fkw fvw faj fkj fvj faz7 fkz7 fvz7 fr lw ⟨by omega, Nat.zero_le _⟩ (lv_sub hl [0, 2, 3, 4, 6, 7] rfl) hP hS
                                    clear hl hP hS
                                    intro t
                                    induction t with
                                    | zero => intro H locs ls hv0 fW gW nW i2 ht; exact absurd ht (Nat.not_lt_zero _)
                                    | succ t ihl =>
                                      intro H locs ls hv0 fW gW nW i2 ht hY hms hmb faw fkw fvw faj fkj fvj faz7 fkz7 fvz7 fr lw hnW hl hP hS
                                      have hok : qOk (S j).1 (xJn (S j).1 (xEa (S j).1) (S j).2.1 (qLs (S z7).1 Fz7 Gz7 i2)) := xJn_ok xEa_or _ _ (hI j (by omega))
                                      refine lv_iload hx hb dX8_join_338 (lv_at hl 0 rfl) ?_
                                      refine lv_aload hx hb dX8_join_340 (lv_at hl 3 rfl) ?_
                                      refine q_get C hP faz7 rfl inX7 3 (by decide) g1143 rfl dX8_join_342 ?_
                                      refine lv_icmp_ge (tgt := 379) hx hb dX8_join_345 (by decide) (fun c345 => ?_) (fun c345 => ?_)
                                      · replace c345 : nz7 ≤ i2 := (nI_leI (a := nz7) (b := i2) (by omega) (by omega)).mp c345
                                        have ei2 : i2 = nz7 := by omega
                                        rw [ei2, ← hLz7] at lw
                                        clear ihl
                                        refine lv_iconst (v := nI 0) hx hb dX8_join_379 (by decide) ?_
                                        refine lv_istore (lv' := [(9, .int (nI 0)), (8, .int (nI 1)), (6, .int (nI (nj + nz7))), (5, .ref (ra z7)), (0, .ref y), (1, .int (nI i))]) hx hb dX8_join_380 hl (by decide) rfl (fun ls hl => ?_)
                                        refine (?_ : ∀ (t : Nat) (H : Heap) (locs : List Loc) (ls : Array Slot) (hv0 : qH) (i3 : Nat), nz7 - i3 < t → hv0 y = some (.inr (8, [.ref ms, .ref mb, .ref (ra 28), .int gr, .int 0, .int ca, .int (nI m0), .ref od, .ref pt, .int ct, .int fau, .ref fi, .ref re, .int cs, .ref rc, .ref rs, .ref so, .ref ot, .ref cn, .ref la, .int ce, .ref ro, .int rn])) → hv0 ms = some (.inl (cy 5, 24, .inr (.inr (.inr (.inr (fun i => some (ra i))))))) → hv0 mb = some (.inl (cy 5, 4, .inr (.inr (.inr (.inr (fun i => some (ra (24 + i)))))))) → hv0 (ra 28) = some (.inr (7, [.ref (rk 28), .ref (rv 28), .int (S j).1, .int (nI nW), .int (nI (S j).2.2.1), .int (nI (S j).2.2.2), .int rwj])) → hv0 (rk 28) = some (.inl (cy 1, 1001, .inr (.inl fW))) → hv0 (rv 28) = some (.inl (cy 1, 1001, .inr (.inl gW))) → hv0 (ra j) = some (.inr (7, [.ref (rk j), .ref (rv j), .int (S j).1, .int (nI nj), .int (nI (S j).2.2.1), .int (nI (S j).2.2.2), .int rwj])) → hv0 (rk j) = some (.inl (cy 1, 1001, .inr (.inl Fj))) → hv0 (rv j) = some (.inl (cy 1, 1001, .inr (.inl Gj))) → hv0 (ra z7) = some (.inr (7, [.ref (rk z7), .ref (rv z7), .int (S z7).1, .int (nI nz7), .int (nI (S z7).2.2.1), .int (nI (S z7).2.2.2), .int rwz7])) → hv0 (rk z7) = some (.inl (cy 1, 1001, .inr (.inl Fz7))) → hv0 (rv z7) = some (.inl (cy 1, 1001, .inr (.inl Gz7))) → (∀ b o, h b = some o → b ≠ y → qOf (ra 28) (rk 28) (rv 28) b → hv0 b = some o) → (∀ q9, q9 < i3 → ¬ (16 < xAl gr (xJn (S j).1 (xEa (S j).1) (S j).2.1 (S z7).2.1) (Fz7 q9) ∧ ((S j).1 = 1 ∨ (S j).1 = 2))) → i3 ≤ nz7 → lv_has ls 10 [(9, .int (nI i3)), (6, .int (nI (nj + nz7))), (5, .ref (ra z7)), (0, .ref y), (1, .int (nI i))] → qP D N0 hv0 H → va_S (qA N0) s.heap H locs → W p l e _ s m _ below meth c H locs 0 0 _ (F0 m 382 ls [])) _ H locs ls hv0 0 (Nat.lt_succ_self _) hY hms hmb faw fkw fvw faj fkj fvj faz7 fkz7 fvz7 fr (fun q9 z => absurd z (Nat.not_lt_zero _)) (Nat.zero_le _) (lv_sub hl [0, 2, 3, 4, 5] rfl) hP hS
                                        clear hl hP hS
                                        intro t
                                        induction t with
                                        | zero => intro H locs ls hv0 i3 ht; exact absurd ht (Nat.not_lt_zero _)
                                        | succ t ihl =>
                                          intro H locs ls hv0 i3 ht hY hms hmb faw fkw fvw faj fkj fvj faz7 fkz7 fvz7 fr hcr hi3 hl hP hS
                                          refine lv_iload hx hb dX8_join_382 (lv_at hl 0 rfl) ?_
                                          refine lv_aload hx hb dX8_join_384 (lv_at hl 2 rfl) ?_
                                          refine q_get C hP faz7 rfl inX7 3 (by decide) g1143 rfl dX8_join_386 ?_
                                          refine lv_icmp_ge (tgt := 432) hx hb dX8_join_389 (by decide) (fun c389 => ?_) (fun c389 => ?_)
                                          · replace c389 : nz7 ≤ i3 := (nI_leI (a := nz7) (b := i3) (by omega) (by omega)).mp c389
                                            refine lv_aload_n hx hb dX8_join_432 rfl (lv_at hl 3 rfl) ?_
                                            refine lv_iload_n hx hb dX8_join_433 rfl (lv_at hl 4 rfl) ?_
                                            refine lv_iload hx hb dX8_join_434 (lv_at hl 1 rfl) ?_
                                            obtain ⟨ni, rwi, Fi, Gi, hRi, hni, hLi, hKi⟩ := hrs i (by omega)
                                            have api := hRi.apart hRw (hmd.two (i := i) (j := 28) (by omega) (by omega) (by omega))
                                            replace hRi := hRi.keep2 (fun b o hb ho => fr b o ho (hRi.ney hY0 hb) (hb.elim (fun q => q ▸ api.1) (fun hb => hb.elim (fun q => q ▸ api.2.1) (fun q => q ▸ api.2.2))))
                                            have fai := hRi.2.2.2.1
                                            have fki := hRi.2.2.2.2.1
                                            have fvi := hRi.2.2.2.2.2
                                            unfold qRb at fai
                                            unfold qJr at fki fvi
                                            refine q_callV (rest := []) C (c_X8_done l D cy N0 hv0 y ms mb od pt fi re rc rs so ot cn la ro gr 0 ca (nI m0) ct fau cs ce rn ra rk rv i (nI (nj + nz7)) (S j).1 (nI (S j).2.2.1) (nI (S j).2.2.2) rwj nW fW gW (S i).1 (nI (S i).2.2.1) (nI (S i).2.2.2) rwi ni Fi Gi hY hms hmd ⟨hRw.1, hRw.2.1, hRw.2.2.1, faw, fkw, fvw⟩ ⟨hRi.1, hRi.2.1, hRi.2.2.1, fai, fki, fvi⟩ (by omega) (by omega)) kX8_done g1293 g1295 rfl gp45 g4 hP hS hY (by first | decide | omega) hl.1 rfl (by decide) (by first | decide | omega) dX8_join_436 (fun q ce E h' H1 locs1 hE => hE.elim) (fun v hh11 H locs hq hP hS => ?_)
                                            obtain ⟨rfl, hY9, hw9, hi9, fr9⟩ := hq
                                            replace fr := fun b o hb n1 n2 n3 => fr9 b o (fr b o hb n1 n2) n1 n2 n3
                                            rw [nI_add] at hY9
                                            have hno : ¬ (S z7).2.1.any (fun p => decide (16 < xAl gr (xJn (S j).1 (xEa (S j).1) (S j).2.1 (S z7).2.1) p.1 ∧ ((S j).1 = 1 ∨ (S j).1 = 2))) = true := fun z => by obtain ⟨p, hp, z⟩ := List.any_eq_true.mp z; rw [hLz7] at hp; obtain ⟨q9, hq9, rfl⟩ := List.mem_map.mp hp; exact hcr q9 (by have := List.mem_range.mp hq9; omega) (of_decide_eq_true z)
                                            have el : (xJn (S j).1 (xEa (S j).1) (S j).2.1 (S z7).2.1).length = nW := by rw [← lw, qLs_len]
                                            obtain ⟨m9, f9⟩ := hM.fin hY0 (i := i) (by omega) (s := ((S j).1, (xJn (S j).1 (xEa (S j).1) (S j).2.1 (S z7).2.1), (S j).2.2.1, (S j).2.2.2)) ⟨nW, _, _, _, hi9, by omega, by rw [qLs_cp]; exact lw.symm, Or.inl rfl⟩ hw9 fr
                                            have eX : X = (0, nI nW, qU S i ((S j).1, (xJn (S j).1 (xEa (S j).1) (S j).2.1 (S z7).2.1), (S j).2.2), oMv (ms, mb, ra 28, od, pt, ro, gr, cd, ca, nI m0, ct, fau, rn) (nI (m0 + (nj + nz7))), a, k) := by rw [← hX]; unfold xs_join; rw [if_neg (by rw [ebi, ebj, ebz7]; decide), ecj, ecz7, if_neg (fun z => z.elim c44 (fun z => z c65)), eci]; unfold xr_join; dsimp only; rw [if_neg c105, ejc, show oMq (ms, mb, ra 28, od, pt, ro, gr, cd, ca, nI m0, ct, fau, rn) = nI m0 from rfl, ecm, hlj, hlz7, eco, if_neg (by omega), if_neg hno, el, nI_add]
                                            obtain ⟨q9, r9⟩ := hQ.rowM (o' := oCd (oMv (ms, mb, ra 28, od, pt, ro, gr, cd, ca, nI m0, ct, fau, rn) (nI (m0 + (nj + nz7)))) 0) hY0 hY9 m9 f9 ⟨rfl, rfl, rfl, rfl, rfl, rfl⟩
                                            exact q_iret C hP hS ⟨by rw [eX], A, by rw [eX]; exact q9, r9⟩ (by omega) dX8_join_439
                                          · replace c389 : ¬ nz7 ≤ i3 := fun zq => c389 ((nI_leI (a := nz7) (b := i3) (by omega) (by omega)).mpr zq)
                                            refine lv_aload_n hx hb dX8_join_392 rfl (lv_at hl 3 rfl) ?_
                                            refine lv_aload_n hx hb dX8_join_393 rfl (lv_at hl 3 rfl) ?_
                                            refine lv_aload_n hx hb dX8_join_394 rfl (lv_at hl 3 rfl) ?_
                                            refine q_get C hP hY rfl inX8 2 (by decide) g1169 rfl dX8_join_395 ?_
                                            refine lv_aload hx hb dX8_join_398 (lv_at hl 2 rfl) ?_
                                            refine q_get C hP faz7 rfl inX7 0 (by decide) g1138 rfl dX8_join_400 ?_
                                            refine lv_iload hx hb dX8_join_403 (lv_at hl 0 rfl) ?_
                                            refine q_laldN C hP fkz7 (by omega) (by omega) dX8_join_405 ?_
                                            refine q_callV (rest := [.ref y]) C (c_X8_crowded l D cy N0 hv0 y ms mb (ra 28) od pt fi re rc rs so ot cn la ro gr 0 ca (nI m0) ct fau cs ce rn (ra 28) (rk 28) (rv 28) ((S j).1) (nI (S j).2.2.1) (nI (S j).2.2.2) rwj nW fW gW (Fz7 i3) hY ⟨hRw.1, hRw.2.1, hRw.2.2.1, faw, fkw, fvw⟩ (by omega)) kX8_crowded g1285 g1287 rfl gp43 g4 hP hS hY (by first | decide | omega) hl.1 rfl (by simp [q_catrf, q_cati, q_catl, q_cata, q_catn]) (by first | decide | omega) dX8_join_406 (fun q ce E h' H1 locs1 hE => hE.elim) (fun v hh12 H locs hq hP hS => ?_)
                                            obtain ⟨rfl, rfl⟩ := hq
                                            rw [xAl_row (kd := (S j).1) (g := gW), lw]
                                            by_cases cr : 16 < xAl gr (xJn (S j).1 (xEa (S j).1) (S j).2.1 (S z7).2.1) (Fz7 i3) ∧ (((S j).1) = 1 ∨ ((S j).1) = 2)
                                            · rw [if_pos cr]
                                              refine lv_if_ne (tgt := 416) hx hb dX8_join_409 (by decide) (fun c409 => ?_) (fun c409 => ?_)
                                              · replace c409 : ¬ 1 = 0 := fun zq => c409 ((nI_eq (a := 1) (b := 0) (by omega) (by omega)).mpr zq)
                                                refine lv_iconst (v := nI 0) hx hb dX8_join_416 (by decide) ?_
                                                refine lv_iconst (v := nI 3) hx hb dX8_join_417 (by decide) ?_
                                                refine q_callV (rest := []) C (c_X8_good0 l D cy N0 hv0 y ms mb (ra 28) od pt fi re rc rs so ot cn la ro gr 0 ca (nI m0) ct fau cs ce rn (nI 3) hY) kX8_good g1249 g1251 rfl gp41 g4 hP hS hY (by first | decide | omega) hl.1 rfl (by decide) (by first | decide | omega) dX8_join_418 (fun q ce E h' H1 locs1 hE => hE.elim) (fun v hh13 H locs hq hP hS => ?_)
                                                obtain ⟨rfl, rfl⟩ := hq
                                                replace hP : qP D N0 (qs hv0 y (.inr (8, [.ref ms, .ref mb, .ref (ra 28), .int gr, .int (nI 3), .int ca, .int (nI m0), .ref od, .ref pt, .int ct, .int fau, .ref fi, .ref re, .int cs, .ref rc, .ref rs, .ref so, .ref ot, .ref cn, .ref la, .int ce, .ref ro, .int rn]))) H := hP
                                                obtain ⟨hv7, ehv7⟩ : ∃ z : qH, z = qs hv0 y (.inr (8, [.ref ms, .ref mb, .ref (ra 28), .int gr, .int (nI 3), .int ca, .int (nI m0), .ref od, .ref pt, .int ct, .int fau, .ref fi, .ref re, .int cs, .ref rc, .ref rs, .ref so, .ref ot, .ref cn, .ref la, .int ce, .ref ro, .int rn])) := ⟨_, rfl⟩
                                                rw [← ehv7] at hP
                                                have khv7 : ∀ b o, b ≠ y → hv0 b = some o → hv7 b = some o := by rw [ehv7]; exact fun b o nb hb => (qs_ne nb).trans hb
                                                replace hms := khv7 _ _ (fun q => by subst q; have := hms.symm.trans hY; first | cases this | simp at this) hms
                                                replace hmb := khv7 _ _ (fun q => by subst q; have := hmb.symm.trans hY; first | cases this | simp at this) hmb
                                                replace faw := khv7 _ _ (fun q => by have z9 := faw; rw [q] at z9; have := z9.symm.trans hY; first | cases this | simp at this) faw
                                                replace fkw := khv7 _ _ (fun q => by have z9 := fkw; rw [q] at z9; have := z9.symm.trans hY; first | cases this | simp at this) fkw
                                                replace fvw := khv7 _ _ (fun q => by have z9 := fvw; rw [q] at z9; have := z9.symm.trans hY; first | cases this | simp at this) fvw
                                                replace faj := khv7 _ _ (fun q => by have z9 := faj; rw [q] at z9; have := z9.symm.trans hY; first | cases this | simp at this) faj
                                                replace fkj := khv7 _ _ (fun q => by have z9 := fkj; rw [q] at z9; have := z9.symm.trans hY; first | cases this | simp at this) fkj
                                                replace fvj := khv7 _ _ (fun q => by have z9 := fvj; rw [q] at z9; have := z9.symm.trans hY; first | cases this | simp at this) fvj
                                                replace faz7 := khv7 _ _ (fun q => by have z9 := faz7; rw [q] at z9; have := z9.symm.trans hY; first | cases this | simp at this) faz7
                                                replace fkz7 := khv7 _ _ (fun q => by have z9 := fkz7; rw [q] at z9; have := z9.symm.trans hY; first | cases this | simp at this) fkz7
                                                replace fvz7 := khv7 _ _ (fun q => by have z9 := fvz7; rw [q] at z9; have := z9.symm.trans hY; first | cases this | simp at this) fvz7
                                                replace hY : hv7 y = some (.inr (8, [.ref ms, .ref mb, .ref (ra 28), .int gr, .int (nI 3), .int ca, .int (nI m0), .ref od, .ref pt, .int ct, .int fau, .ref fi, .ref re, .int cs, .ref rc, .ref rs, .ref so, .ref ot, .ref cn, .ref la, .int ce, .ref ro, .int rn])) := by rw [ehv7]; exact qs_self
                                                clear ehv7
                                                replace fr := fun b o hb n1 n2 => khv7 b o n1 (fr b o hb n1 n2)
                                                refine lv_if_ne (tgt := 426) hx hb dX8_join_421 (by decide) (fun c421 => ?_) (fun c421 => ?_)
                                                · replace c421 : ¬ 0 = 0 := fun zq => c421 ((nI_eq (a := 0) (b := 0) (by omega) (by omega)).mpr zq)
                                                  exfalso; omega
                                                · replace c421 : 0 = 0 := (nI_eq (a := 0) (b := 0) (by omega) (by omega)).mp c421
                                                  refine lv_iconst (v := nI 0) hx hb dX8_join_424 (by decide) ?_
                                                  have hyes : (S z7).2.1.any (fun p => decide (16 < xAl gr (xJn (S j).1 (xEa (S j).1) (S j).2.1 (S z7).2.1) p.1 ∧ ((S j).1 = 1 ∨ (S j).1 = 2))) = true := List.any_eq_true.mpr ⟨(Fz7 i3, xV (S z7).1 (Gz7 i3)), hLz7 ▸ List.mem_of_getElem? (qLs_get2 (show i3 < nz7 by omega)), decide_eq_true cr⟩
                                                  have eX : X = (3, 0, S, (ms, mb, ra 28, od, pt, ro, gr, cd, ca, nI m0, ct, fau, rn), a, k) := by rw [← hX]; unfold xs_join; rw [if_neg (by rw [ebi, ebj, ebz7]; decide), ecj, ecz7, if_neg (fun z => z.elim c44 (fun z => z c65)), eci]; unfold xr_join; dsimp only; rw [if_neg c105, ejc, show oMq (ms, mb, ra 28, od, pt, ro, gr, cd, ca, nI m0, ct, fau, rn) = nI m0 from rfl, ecm, hlj, hlz7, eco, if_neg (by omega), if_pos hyes]
                                                  obtain ⟨m8, f8⟩ := hM.fin0 hY0 (h' := hv7) ⟨hRw.1, hRw.2.1, hRw.2.2.1, faw, fkw, fvw⟩ fr
                                                  obtain ⟨q8, r8⟩ := hQ.rowM (o' := oCd (ms, mb, ra 28, od, pt, ro, gr, cd, ca, nI m0, ct, fau, rn) 3) hY0 hY m8 f8 ⟨rfl, rfl, rfl, rfl, rfl, rfl⟩
                                                  exact q_iret C hP hS ⟨by rw [eX]; rfl, A, by rw [eX]; exact q8, r8⟩ (by omega) dX8_join_425
                                              · replace c409 : 1 = 0 := (nI_eq (a := 1) (b := 0) (by omega) (by omega)).mp c409
                                                exfalso; omega
                                            · rw [if_neg cr]
                                              refine lv_if_ne (tgt := 416) hx hb dX8_join_409 (by decide) (fun c409 => ?_) (fun c409 => ?_)
                                              · replace c409 : ¬ 0 = 0 := fun zq => c409 ((nI_eq (a := 0) (b := 0) (by omega) (by omega)).mpr zq)
                                                exfalso; omega
                                              · replace c409 : 0 = 0 := (nI_eq (a := 0) (b := 0) (by omega) (by omega)).mp c409
                                                refine lv_iconst (v := nI 1) hx hb dX8_join_412 (by decide) ?_
                                                refine lv_goto (tgt := 417) hx hb dX8_join_413 (by decide) ?_
                                                refine lv_iconst (v := nI 3) hx hb dX8_join_417 (by decide) ?_
                                                refine q_callV (rest := []) C (c_X8_good1 l D cy N0 hv0 y ms mb (ra 28) od pt fi re rc rs so ot cn la ro gr 0 ca (nI m0) ct fau cs ce rn (nI 3) hY) kX8_good g1249 g1251 rfl gp41 g4 hP hS hY (by first | decide | omega) hl.1 rfl (by decide) (by first | decide | omega) dX8_join_418 (fun q ce E h' H1 locs1 hE => hE.elim) (fun v hh14 H locs hq hP hS => ?_)
                                                obtain ⟨rfl, rfl⟩ := hq
                                                replace hP : qP D N0 (qs hv0 y (.inr (8, [.ref ms, .ref mb, .ref (ra 28), .int gr, .int 0, .int ca, .int (nI m0), .ref od, .ref pt, .int ct, .int fau, .ref fi, .ref re, .int cs, .ref rc, .ref rs, .ref so, .ref ot, .ref cn, .ref la, .int ce, .ref ro, .int rn]))) H := hP
                                                obtain ⟨hv8, ehv8⟩ : ∃ z : qH, z = qs hv0 y (.inr (8, [.ref ms, .ref mb, .ref (ra 28), .int gr, .int 0, .int ca, .int (nI m0), .ref od, .ref pt, .int ct, .int fau, .ref fi, .ref re, .int cs, .ref rc, .ref rs, .ref so, .ref ot, .ref cn, .ref la, .int ce, .ref ro, .int rn])) := ⟨_, rfl⟩
                                                rw [← ehv8] at hP
                                                have khv8 : ∀ b o, b ≠ y → hv0 b = some o → hv8 b = some o := by rw [ehv8]; exact fun b o nb hb => (qs_ne nb).trans hb
                                                replace hms := khv8 _ _ (fun q => by subst q; have := hms.symm.trans hY; first | cases this | simp at this) hms
                                                replace hmb := khv8 _ _ (fun q => by subst q; have := hmb.symm.trans hY; first | cases this | simp at this) hmb
                                                replace faw := khv8 _ _ (fun q => by have z9 := faw; rw [q] at z9; have := z9.symm.trans hY; first | cases this | simp at this) faw
                                                replace fkw := khv8 _ _ (fun q => by have z9 := fkw; rw [q] at z9; have := z9.symm.trans hY; first | cases this | simp at this) fkw
                                                replace fvw := khv8 _ _ (fun q => by have z9 := fvw; rw [q] at z9; have := z9.symm.trans hY; first | cases this | simp at this) fvw
                                                replace faj := khv8 _ _ (fun q => by have z9 := faj; rw [q] at z9; have := z9.symm.trans hY; first | cases this | simp at this) faj
                                                replace fkj := khv8 _ _ (fun q => by have z9 := fkj; rw [q] at z9; have := z9.symm.trans hY; first | cases this | simp at this) fkj
                                                replace fvj := khv8 _ _ (fun q => by have z9 := fvj; rw [q] at z9; have := z9.symm.trans hY; first | cases this | simp at this) fvj
                                                replace faz7 := khv8 _ _ (fun q => by have z9 := faz7; rw [q] at z9; have := z9.symm.trans hY; first | cases this | simp at this) faz7
                                                replace fkz7 := khv8 _ _ (fun q => by have z9 := fkz7; rw [q] at z9; have := z9.symm.trans hY; first | cases this | simp at this) fkz7
                                                replace fvz7 := khv8 _ _ (fun q => by have z9 := fvz7; rw [q] at z9; have := z9.symm.trans hY; first | cases this | simp at this) fvz7
                                                replace hY : hv8 y = some (.inr (8, [.ref ms, .ref mb, .ref (ra 28), .int gr, .int 0, .int ca, .int (nI m0), .ref od, .ref pt, .int ct, .int fau, .ref fi, .ref re, .int cs, .ref rc, .ref rs, .ref so, .ref ot, .ref cn, .ref la, .int ce, .ref ro, .int rn])) := by rw [ehv8]; exact qs_self
                                                clear ehv8
                                                replace fr := fun b o hb n1 n2 => khv8 b o n1 (fr b o hb n1 n2)
                                                refine lv_if_ne (tgt := 426) hx hb dX8_join_421 (by decide) (fun c421 => ?_) (fun c421 => ?_)
                                                · replace c421 : ¬ 1 = 0 := fun zq => c421 ((nI_eq (a := 1) (b := 0) (by omega) (by omega)).mpr zq)
                                                  refine lv_iinc (v := nI (i3 + 1)) (lv' := [(9, .int (nI (i3 + 1))), (6, .int (nI (nj + nz7))), (5, .ref (ra z7)), (0, .ref y), (1, .int (nI i))]) hx hb dX8_join_426 hl (k := 0) rfl (nI_1 i3) (by decide) rfl (fun ls hl => ?_)
                                                  refine lv_goto (tgt := 382) hx hb dX8_join_429 (by decide) ?_
                                                  exact ihl H locs ls hv8 (i3 + 1) (by omega) hY hms hmb faw fkw fvw faj fkj fvj faz7 fkz7 fvz7 fr (fun q9 z => if e : q9 = i3 then by (subst e; exact cr) else hcr q9 (by omega)) (by omega) (lv_sub hl [0, 1, 2, 3, 4] rfl) hP hS
                                                · replace c421 : 1 = 0 := (nI_eq (a := 1) (b := 0) (by omega) (by omega)).mp c421
                                                  exfalso; omega
                                      · replace c345 : ¬ nz7 ≤ i2 := fun zq => c345 ((nI_leI (a := nz7) (b := i2) (by omega) (by omega)).mpr zq)
                                        refine lv_aload_n hx hb dX8_join_348 rfl (lv_at hl 4 rfl) ?_
                                        refine q_get C hP hY rfl inX8 2 (by decide) g1169 rfl dX8_join_349 ?_
                                        refine lv_aload hx hb dX8_join_352 (lv_at hl 3 rfl) ?_
                                        refine q_get C hP faz7 rfl inX7 0 (by decide) g1138 rfl dX8_join_354 ?_
                                        refine lv_iload hx hb dX8_join_357 (lv_at hl 0 rfl) ?_
                                        refine q_laldN C hP fkz7 (by omega) (by omega) dX8_join_359 ?_
                                        refine lv_aload hx hb dX8_join_360 (lv_at hl 3 rfl) ?_
                                        refine q_get C hP faz7 rfl inX7 1 (by decide) g1140 rfl dX8_join_362 ?_
                                        refine lv_iload hx hb dX8_join_365 (lv_at hl 0 rfl) ?_
                                        refine q_laldN C hP fvz7 (by omega) (by omega) dX8_join_367 ?_
                                        refine lv_iload hx hb dX8_join_368 (lv_at hl 1 rfl) ?_
                                        refine q_callS (rest := []) C (c_X8_put l D cy N0 hv0 (ra 28) (rk 28) (rv 28) ((S j).1) (nI (S j).2.2.1) (nI (S j).2.2.2) rwj nW fW gW (Fz7 i2) (Gz7 i2) 1 ⟨hRw.1, hRw.2.1, hRw.2.2.1, faw, fkw, fvw⟩ (by omega) (by decide)) kX8_put g1276 g1277 hP hS (by first | decide | omega) hl.1 rfl (by decide) (by first | decide | omega) dX8_join_370 (fun q ce E h' H1 locs1 hE => hE.elim) (fun v hh15 H locs hq hP hS => ?_)
                                        obtain ⟨rfl, hq⟩ := hq
                                        rcases hq with ⟨hz9, j9, hj9, e9, m9, rfl⟩ | ⟨hno9, p9, hp9, hs9, ht9, rfl⟩
                                        · exact absurd hz9 (by decide)
                                        · obtain ⟨hv9, ehv9⟩ : ∃ z : qH, z = qRh cy hv0 (ra 28) (rk 28) (rv 28) ((S j).1) (nI (nW + 1)) (nI (S j).2.2.1) (nI (S j).2.2.2) rwj (vp_updL (qSh fW p9 nW) p9 (Fz7 i2)) (vp_updL (qSh gW p9 nW) p9 (Gz7 i2)) := ⟨_, rfl⟩
                                          rw [← ehv9] at hP
                                          have r9 : qRw cy hv9 (ra 28) (rk 28) (rv 28) ((S j).1) (nI (nW + 1)) (nI (S j).2.2.1) (nI (S j).2.2.2) rwj (vp_updL (qSh fW p9 nW) p9 (Fz7 i2)) (vp_updL (qSh gW p9 nW) p9 (Gz7 i2)) := by rw [ehv9]; exact qRw.new (cy := cy) (h := hv0) (kd := (S j).1) (n := (nI nW)) (sm := (nI (S j).2.2.1)) (dp := (nI (S j).2.2.2)) (rw := rwj) (f := fW) (g := gW) ⟨hRw.1, hRw.2.1, hRw.2.2.1, faw, fkw, fvw⟩
                                          have khv9 : ∀ b o, qOf (ra 28) (rk 28) (rv 28) b → hv0 b = some o → hv9 b = some o := by rw [ehv9]; exact fun b o q hb => (qRh_o q.1 q.2.1 q.2.2).trans hb
                                          replace hY := khv9 _ _ ⟨fun q => by rw [q] at hY; have := faw.symm.trans hY; first | cases this | simp at this, fun q => by rw [q] at hY; have := fkw.symm.trans hY; first | cases this | simp at this, fun q => by rw [q] at hY; have := fvw.symm.trans hY; first | cases this | simp at this⟩ hY
                                          replace hms := khv9 _ _ ⟨fun q => by rw [q] at hms; have := faw.symm.trans hms; first | cases this | simp at this, fun q => by rw [q] at hms; have := fkw.symm.trans hms; first | cases this | simp at this, fun q => by rw [q] at hms; have := fvw.symm.trans hms; first | cases this | simp at this⟩ hms
                                          replace hmb := khv9 _ _ ⟨fun q => by rw [q] at hmb; have := faw.symm.trans hmb; first | cases this | simp at this, fun q => by rw [q] at hmb; have := fkw.symm.trans hmb; first | cases this | simp at this, fun q => by rw [q] at hmb; have := fvw.symm.trans hmb; first | cases this | simp at this⟩ hmb
                                          replace faj := khv9 _ _ apj.1 faj
                                          replace fkj := khv9 _ _ apj.2.1 fkj
                                          replace fvj := khv9 _ _ apj.2.2 fvj
                                          replace faz7 := khv9 _ _ apz7.1 faz7
                                          replace fkz7 := khv9 _ _ apz7.2.1 fkz7
                                          replace fvz7 := khv9 _ _ apz7.2.2 fvz7
                                          replace fr := fun b o hb n1 n2 => khv9 b o n2 (fr b o hb n1 n2)
                                          clear faw fkw fvw
                                          have faw := r9.2.2.2.1
                                          have fkw := r9.2.2.2.2.1
                                          have fvw := r9.2.2.2.2.2
                                          unfold qRb at faw
                                          unfold qJr at fkw fvw
                                          clear r9 ehv9
                                          replace lw : qLs ((S j).1) (vp_updL (qSh fW p9 nW) p9 (Fz7 i2)) (vp_updL (qSh gW p9 nW) p9 (Gz7 i2)) (nW + 1) = xPut ((S j).1) (xEa (S j).1) (xJn (S j).1 (xEa (S j).1) (S j).2.1 (qLs (S z7).1 Fz7 Gz7 i2)) (Fz7 i2) (xV ((S j).1) (Gz7 i2)) := by
                                            rw [xPut, if_neg (fun q => by rw [hE] at q; cases q.1), qLs_ins hp9]
                                            by_cases z9 : ((S j).1) = 3 ∨ ((S j).1) = 5
                                            · rw [if_pos z9, ← lw]; exact xSi_row (lw ▸ hok.1 z9) hp9 (hs9 z9).1 (hs9 z9).2
                                            · rw [if_neg z9, ht9 z9, lw, List.take_of_length_le (by rw [← lw, qLs_len]; omega), List.drop_of_length_le (by rw [← lw, qLs_len]; omega)]
                                          refine lv_iinc (v := nI (i2 + 1)) (lv' := [(9, .int (nI (i2 + 1))), (8, .int (nI 1)), (6, .int (nI (nj + nz7))), (5, .ref (ra z7)), (0, .ref y), (1, .int (nI i))]) hx hb dX8_join_373 hl (k := 0) rfl (nI_1 i2) (by decide) rfl (fun ls hl => ?_)
                                          refine lv_goto (tgt := 338) hx hb dX8_join_376 (by decide) ?_
                                          replace lw : qLs (S j).1 (vp_updL (qSh fW p9 nW) p9 (Fz7 i2)) (vp_updL (qSh gW p9 nW) p9 (Gz7 i2)) (nW + 1) = xJn (S j).1 (xEa (S j).1) (S j).2.1 (qLs (S z7).1 Fz7 Gz7 (i2 + 1)) := by rw [lw, qLs_succ, xJn_snoc, ← c65]
                                          have hle9 : (nW + 1) ≤ 1000 := by have z1 := congrArg List.length lw; rw [qLs_len] at z1; have z2 := xJn_le (kd := (S j).1) (e := xEa (S j).1) (L0 := (S j).2.1) (qLs (S z7).1 Fz7 Gz7 (i2 + 1)) (S j).2.1 (fun _ z => z); have z3 := qLs_cnt (kd := (S z7).1) (f := Fz7) (g := Gz7) (n := nz7) (fun p => xEa (S j).1 || !xHas (S j).2.1 p.1) (show i2 + 1 ≤ nz7 by omega); rw [← hLz7, ← hcc] at z3; omega
                                          exact ihl H locs ls hv9 _ _ (nW + 1) (i2 + 1) (by omega) hY hms hmb faw fkw fvw faj fkj fvj faz7 fkz7 fvz7 fr lw ⟨hle9, by omega⟩ (lv_sub hl [0, 1, 2, 3, 4, 5] rfl) hP hS
                                  · replace c321 : 1 = 0 := (nI_eq (a := 1) (b := 0) (by omega) (by omega)).mp c321
                                    exfalso; omega
                                · rw [if_neg cf]
                                  refine lv_iconst (v := nI 3) hx hb dX8_join_317 (by decide) ?_
                                  refine q_callV (rest := []) C (c_X8_good0 l D cy N0 hv4 y ms mb (ra 28) od pt fi re rc rs so ot cn la ro gr 0 ca (nI m0) ct fau cs ce rn (nI 3) hY) kX8_good g1249 g1251 rfl gp41 g4 hP hS hY (by first | decide | omega) hl.1 rfl (by decide) (by first | decide | omega) dX8_join_318 (fun q ce E h' H1 locs1 hE => hE.elim) (fun v hh16 H locs hq hP hS => ?_)
                                  obtain ⟨rfl, rfl⟩ := hq
                                  replace hP : qP D N0 (qs hv4 y (.inr (8, [.ref ms, .ref mb, .ref (ra 28), .int gr, .int (nI 3), .int ca, .int (nI m0), .ref od, .ref pt, .int ct, .int fau, .ref fi, .ref re, .int cs, .ref rc, .ref rs, .ref so, .ref ot, .ref cn, .ref la, .int ce, .ref ro, .int rn]))) H := hP
                                  obtain ⟨hv10, ehv10⟩ : ∃ z : qH, z = qs hv4 y (.inr (8, [.ref ms, .ref mb, .ref (ra 28), .int gr, .int (nI 3), .int ca, .int (nI m0), .ref od, .ref pt, .int ct, .int fau, .ref fi, .ref re, .int cs, .ref rc, .ref rs, .ref so, .ref ot, .ref cn, .ref la, .int ce, .ref ro, .int rn])) := ⟨_, rfl⟩
                                  rw [← ehv10] at hP
                                  have khv10 : ∀ b o, b ≠ y → hv4 b = some o → hv10 b = some o := by rw [ehv10]; exact fun b o nb hb => (qs_ne nb).trans hb
                                  replace hms := khv10 _ _ (fun q => by subst q; have := hms.symm.trans hY; first | cases this | simp at this) hms
                                  replace hmb := khv10 _ _ (fun q => by subst q; have := hmb.symm.trans hY; first | cases this | simp at this) hmb
                                  replace faw := khv10 _ _ (fun q => by have z9 := faw; rw [q] at z9; have := z9.symm.trans hY; first | cases this | simp at this) faw
                                  replace fkw := khv10 _ _ (fun q => by have z9 := fkw; rw [q] at z9; have := z9.symm.trans hY; first | cases this | simp at this) fkw
                                  replace fvw := khv10 _ _ (fun q => by have z9 := fvw; rw [q] at z9; have := z9.symm.trans hY; first | cases this | simp at this) fvw
                                  replace faj := khv10 _ _ (fun q => by have z9 := faj; rw [q] at z9; have := z9.symm.trans hY; first | cases this | simp at this) faj
                                  replace fkj := khv10 _ _ (fun q => by have z9 := fkj; rw [q] at z9; have := z9.symm.trans hY; first | cases this | simp at this) fkj
                                  replace fvj := khv10 _ _ (fun q => by have z9 := fvj; rw [q] at z9; have := z9.symm.trans hY; first | cases this | simp at this) fvj
                                  replace faz7 := khv10 _ _ (fun q => by have z9 := faz7; rw [q] at z9; have := z9.symm.trans hY; first | cases this | simp at this) faz7
                                  replace fkz7 := khv10 _ _ (fun q => by have z9 := fkz7; rw [q] at z9; have := z9.symm.trans hY; first | cases this | simp at this) fkz7
                                  replace fvz7 := khv10 _ _ (fun q => by have z9 := fvz7; rw [q] at z9; have := z9.symm.trans hY; first | cases this | simp at this) fvz7
                                  replace hY : hv10 y = some (.inr (8, [.ref ms, .ref mb, .ref (ra 28), .int gr, .int (nI 3), .int ca, .int (nI m0), .ref od, .ref pt, .int ct, .int fau, .ref fi, .ref re, .int cs, .ref rc, .ref rs, .ref so, .ref ot, .ref cn, .ref la, .int ce, .ref ro, .int rn])) := by rw [ehv10]; exact qs_self
                                  clear ehv10
                                  replace fr := fun b o hb n1 n2 => khv10 b o n1 (fr b o hb n1 n2)
                                  refine lv_if_ne (tgt := 326) hx hb dX8_join_321 (by decide) (fun c321 => ?_) (fun c321 => ?_)
                                  · replace c321 : ¬ 0 = 0 := fun zq => c321 ((nI_eq (a := 0) (b := 0) (by omega) (by omega)).mpr zq)
                                    exfalso; omega
                                  · replace c321 : 0 = 0 := (nI_eq (a := 0) (b := 0) (by omega) (by omega)).mp c321
                                    refine lv_iconst (v := nI 0) hx hb dX8_join_324 (by decide) ?_
                                    have eX : X = (3, 0, S, (ms, mb, ra 28, od, pt, ro, gr, cd, ca, nI m0, ct, fau, rn), a, k) := by rw [← hX]; unfold xs_join; rw [if_neg (by rw [ebi, ebj, ebz7]; decide), ecj, ecz7, if_neg (fun z => z.elim c44 (fun z => z c65)), eci]; unfold xr_join; dsimp only; rw [if_neg c105, ejc, show oMq (ms, mb, ra 28, od, pt, ro, gr, cd, ca, nI m0, ct, fau, rn) = nI m0 from rfl, ecm, hlj, hlz7, eco, if_pos (by omega)]
                                    obtain ⟨m8, f8⟩ := hM.fin0 hY0 (h' := hv10) ⟨hRw.1, hRw.2.1, hRw.2.2.1, faw, fkw, fvw⟩ fr
                                    obtain ⟨q8, r8⟩ := hQ.rowM (o' := oCd (ms, mb, ra 28, od, pt, ro, gr, cd, ca, nI m0, ct, fau, rn) 3) hY0 hY m8 f8 ⟨rfl, rfl, rfl, rfl, rfl, rfl⟩
                                    exact q_iret C hP hS ⟨by rw [eX]; rfl, A, by rw [eX]; exact q8, r8⟩ (by omega) dX8_join_325
                              · replace c275 : ¬ nz7 ≤ ii := fun zq => c275 ((nI_leI (a := nz7) (b := ii) (by omega) (by omega)).mpr zq)
                                refine lv_iload hx hb dX8_join_278 (lv_at hl 2 rfl) ?_
                                refine lv_if_ne (tgt := 299) hx hb dX8_join_280 (by decide) (fun c280 => ?_) (fun c280 => ?_)
                                · replace c280 : ¬ 1 = 0 := fun zq => c280 ((nI_eq (a := 1) (b := 0) (by omega) (by omega)).mpr zq)
                                  refine lv_iinc (v := nI ((nj + cc) + 1)) (lv' := [(7, .int (nI ((nj + cc) + 1))), (9, .int (nI ii)), (8, .int (nI 1)), (6, .int (nI (nj + nz7))), (5, .ref (ra z7)), (4, .ref (ra j)), (0, .ref y), (1, .int (nI i))]) hx hb dX8_join_299 hl (k := 1) rfl (nI_1 (nj + cc)) (by decide) rfl (fun ls hl => ?_)
                                  refine lv_iinc (v := nI (ii + 1)) (lv' := [(9, .int (nI (ii + 1))), (7, .int (nI ((nj + cc) + 1))), (8, .int (nI 1)), (6, .int (nI (nj + nz7))), (5, .ref (ra z7)), (4, .ref (ra j)), (0, .ref y), (1, .int (nI i))]) hx hb dX8_join_302 hl (k := 1) rfl (nI_1 ii) (by decide) rfl (fun ls hl => ?_)
                                  refine lv_goto (tgt := 268) hx hb dX8_join_305 (by decide) ?_
                                  rw [Nat.add_assoc] at hl
                                  exact ihl H locs ls (ii + 1) (cc + 1) (by omega) (lv_sub hl [0, 1, 2, 3, 4, 5, 6, 7] rfl) ⟨by omega, by omega⟩ (by rw [qLs_succ, List.filter_append, List.length_append, ← hcc, List.filter_cons, if_pos (by rw [hE]; rfl)]; rfl) hP hS
                                · replace c280 : 1 = 0 := (nI_eq (a := 1) (b := 0) (by omega) (by omega)).mp c280
                                  exfalso; omega
                          · refine lv_aload hx hb dX8_join_249 (lv_at hl 3 rfl) ?_
                            refine q_get C hP faj rfl inX7 2 (by decide) g1142 rfl dX8_join_251 ?_
                            refine lv_iconst (v := 3) hx hb dX8_join_254 (by decide) ?_
                            refine lv_icmp_le (tgt := 262) hx hb dX8_join_255 (by decide) (fun c255 => ?_) (fun c255 => ?_)
                            · have hk3 : (S j).1 = 1 ∨ (S j).1 = 2 ∨ (S j).1 = 3 := xkd_123 (hI j (by omega)).2.2 c44 c246 c255
                              have hE : xEa (S j).1 = false := xEa_or.resolve_right (fun z => z hk3)
                              refine lv_iconst (v := nI 0) hx hb dX8_join_262 (by decide) ?_
                              refine lv_istore (lv' := [(8, .int (nI 0)), (7, .int (nI nj)), (6, .int (nI (nj + nz7))), (5, .ref (ra z7)), (4, .ref (ra j)), (0, .ref y), (1, .int (nI i)), (2, .int (nI j)), (3, .int (nI z7))]) hx hb dX8_join_263 hl (by decide) rfl (fun ls hl => ?_)
                              refine lv_iconst (v := nI 0) hx hb dX8_join_265 (by decide) ?_
                              refine lv_istore (lv' := [(9, .int (nI 0)), (8, .int (nI 0)), (7, .int (nI nj)), (6, .int (nI (nj + nz7))), (5, .ref (ra z7)), (4, .ref (ra j)), (0, .ref y), (1, .int (nI i)), (2, .int (nI j)), (3, .int (nI z7))]) hx hb dX8_join_266 hl (by decide) rfl (fun ls hl => ?_)
                              have eco : xCo (S j).1 nj nz7 = nj + nz7 := by unfold xCo; exact if_neg c214
                              refine (?_ : ∀ (t : Nat) (H : Heap) (locs : List Loc) (ls : Array Slot) (ii cc : Nat), nz7 - ii < t → lv_has ls 10 [(9, .int (nI ii)), (7, .int (nI (nj + cc))), (8, .int (nI 0)), (6, .int (nI (nj + nz7))), (5, .ref (ra z7)), (4, .ref (ra j)), (0, .ref y), (1, .int (nI i))] → ii ≤ nz7 ∧ cc ≤ ii → cc = ((qLs (S z7).1 Fz7 Gz7 ii).filter (fun p => xEa (S j).1 || !xHas (S j).2.1 p.1)).length → qP D N0 hv4 H → va_S (qA N0) s.heap H locs → W p l e _ s m _ below meth c H locs 0 0 _ (F0 m 268 ls [])) _ H locs ls 0 0 (Nat.lt_succ_self _) (lv_sub hl [0, 2, 1, 3, 4, 5, 6, 7] rfl) ⟨Nat.zero_le _, Nat.le_refl _⟩ rfl hP hS
                              clear hl hP hS
                              intro t
                              induction t with
                              | zero => intro H locs ls ii cc ht; exact absurd ht (Nat.not_lt_zero _)
                              | succ t ihl =>
                                intro H locs ls ii cc ht hl hii hcc hP hS
                                refine lv_iload hx hb dX8_join_268 (lv_at hl 0 rfl) ?_
                                refine lv_aload hx hb dX8_join_270 (lv_at hl 4 rfl) ?_
                                refine q_get C hP faz7 rfl inX7 3 (by decide) g1143 rfl dX8_join_272 ?_
                                refine lv_icmp_ge (tgt := 308) hx hb dX8_join_275 (by decide) (fun c275 => ?_) (fun c275 => ?_)
                                · replace c275 : nz7 ≤ ii := (nI_leI (a := nz7) (b := ii) (by omega) (by omega)).mp c275
                                  have eii : ii = nz7 := by omega
                                  rw [eii, ← hLz7] at hcc
                                  have ejc : xJc (xEa (S j).1) (S j).2.1 (S z7).2.1 = nj + cc := by unfold xJc; rw [hlj, ← hcc]
                                  clear ihl
                                  refine lv_aload_n hx hb dX8_join_308 rfl (lv_at hl 6 rfl) ?_
                                  refine lv_aload_n hx hb dX8_join_309 rfl (lv_at hl 6 rfl) ?_
                                  refine lv_iload hx hb dX8_join_310 (lv_at hl 1 rfl) ?_
                                  refine lv_iload hx hb dX8_join_312 (lv_at hl 3 rfl) ?_
                                  refine q_callV (rest := [.ref y]) C (c_X8_fits l D cy N0 hv4 y m0 (nj + cc) (nj + nz7) _ hY rfl (by omega) (by omega)) kX8_fits g1413 g1415 rfl gp61 g4 hP hS hY (by first | decide | omega) hl.1 rfl (by simp [q_catrf, q_cati, q_catl, q_cata, q_catn]) (by first | decide | omega) dX8_join_314 (fun q ce E h' H1 locs1 hE => hE.elim) (fun v hh17 H locs hq hP hS => ?_)
                                  obtain ⟨rfl, rfl⟩ := hq
                                  by_cases cf : (nj + cc) ≤ 1000 ∧ m0 + (nj + nz7) ≤ 20000
                                  · rw [if_pos cf]
                                    refine lv_iconst (v := nI 3) hx hb dX8_join_317 (by decide) ?_
                                    refine q_callV (rest := []) C (c_X8_good1 l D cy N0 hv4 y ms mb (ra 28) od pt fi re rc rs so ot cn la ro gr 0 ca (nI m0) ct fau cs ce rn (nI 3) hY) kX8_good g1249 g1251 rfl gp41 g4 hP hS hY (by first | decide | omega) hl.1 rfl (by decide) (by first | decide | omega) dX8_join_318 (fun q ce E h' H1 locs1 hE => hE.elim) (fun v hh18 H locs hq hP hS => ?_)
                                    obtain ⟨rfl, rfl⟩ := hq
                                    replace hP : qP D N0 (qs hv4 y (.inr (8, [.ref ms, .ref mb, .ref (ra 28), .int gr, .int 0, .int ca, .int (nI m0), .ref od, .ref pt, .int ct, .int fau, .ref fi, .ref re, .int cs, .ref rc, .ref rs, .ref so, .ref ot, .ref cn, .ref la, .int ce, .ref ro, .int rn]))) H := hP
                                    obtain ⟨hv11, ehv11⟩ : ∃ z : qH, z = qs hv4 y (.inr (8, [.ref ms, .ref mb, .ref (ra 28), .int gr, .int 0, .int ca, .int (nI m0), .ref od, .ref pt, .int ct, .int fau, .ref fi, .ref re, .int cs, .ref rc, .ref rs, .ref so, .ref ot, .ref cn, .ref la, .int ce, .ref ro, .int rn])) := ⟨_, rfl⟩
                                    rw [← ehv11] at hP
                                    have khv11 : ∀ b o, b ≠ y → hv4 b = some o → hv11 b = some o := by rw [ehv11]; exact fun b o nb hb => (qs_ne nb).trans hb
                                    replace hms := khv11 _ _ (fun q => by subst q; have := hms.symm.trans hY; first | cases this | simp at this) hms
                                    replace hmb := khv11 _ _ (fun q => by subst q; have := hmb.symm.trans hY; first | cases this | simp at this) hmb
                                    replace faw := khv11 _ _ (fun q => by have z9 := faw; rw [q] at z9; have := z9.symm.trans hY; first | cases this | simp at this) faw
                                    replace fkw := khv11 _ _ (fun q => by have z9 := fkw; rw [q] at z9; have := z9.symm.trans hY; first | cases this | simp at this) fkw
                                    replace fvw := khv11 _ _ (fun q => by have z9 := fvw; rw [q] at z9; have := z9.symm.trans hY; first | cases this | simp at this) fvw
                                    replace faj := khv11 _ _ (fun q => by have z9 := faj; rw [q] at z9; have := z9.symm.trans hY; first | cases this | simp at this) faj
                                    replace fkj := khv11 _ _ (fun q => by have z9 := fkj; rw [q] at z9; have := z9.symm.trans hY; first | cases this | simp at this) fkj
                                    replace fvj := khv11 _ _ (fun q => by have z9 := fvj; rw [q] at z9; have := z9.symm.trans hY; first | cases this | simp at this) fvj
                                    replace faz7 := khv11 _ _ (fun q => by have z9 := faz7; rw [q] at z9; have := z9.symm.trans hY; first | cases this | simp at this) faz7
                                    replace fkz7 := khv11 _ _ (fun q => by have z9 := fkz7; rw [q] at z9; have := z9.symm.trans hY; first | cases this | simp at this) fkz7
                                    replace fvz7 := khv11 _ _ (fun q => by have z9 := fvz7; rw [q] at z9; have := z9.symm.trans hY; first | cases this | simp at this) fvz7
                                    replace hY : hv11 y = some (.inr (8, [.ref ms, .ref mb, .ref (ra 28), .int gr, .int 0, .int ca, .int (nI m0), .ref od, .ref pt, .int ct, .int fau, .ref fi, .ref re, .int cs, .ref rc, .ref rs, .ref so, .ref ot, .ref cn, .ref la, .int ce, .ref ro, .int rn])) := by rw [ehv11]; exact qs_self
                                    clear ehv11
                                    replace fr := fun b o hb n1 n2 => khv11 b o n1 (fr b o hb n1 n2)
                                    refine lv_if_ne (tgt := 326) hx hb dX8_join_321 (by decide) (fun c321 => ?_) (fun c321 => ?_)
                                    · replace c321 : ¬ 1 = 0 := fun zq => c321 ((nI_eq (a := 1) (b := 0) (by omega) (by omega)).mpr zq)
                                      refine lv_aload hx hb dX8_join_326 (lv_at hl 5 rfl) ?_
                                      refine lv_aload_n hx hb dX8_join_328 rfl (lv_at hl 6 rfl) ?_
                                      refine q_get C hP hY rfl inX8 2 (by decide) g1169 rfl dX8_join_329 ?_
                                      refine q_callS (rest := []) C (c_X8_copy l D cy N0 hv11 (ra j) (rk j) (rv j) (S j).1 (nI (S j).2.2.1) (nI (S j).2.2.2) rwj nj Fj Gj (ra 28) (rk 28) (rv 28) kdw smw dpw rww nw fw gw ⟨hRj.1, hRj.2.1, hRj.2.2.1, faj, fkj, fvj⟩ ⟨hRw.1, hRw.2.1, hRw.2.2.1, faw, fkw, fvw⟩ apj (by omega)) kX8_copy g1257 g1258 hP hS (by first | decide | omega) hl.1 rfl (by decide) (by first | decide | omega) dX8_join_332 (fun q ce E h' H1 locs1 hE => hE.elim) (fun v hh19 H locs hq hP hS => ?_)
                                      obtain ⟨rfl, rfl⟩ := hq
                                      obtain ⟨hv12, ehv12⟩ : ∃ z : qH, z = qRh cy hv11 (ra 28) (rk 28) (rv 28) ((S j).1) (nI nj) (nI (S j).2.2.1) (nI (S j).2.2.2) rwj (qCp Fj fw nj) (qCp Gj gw nj) := ⟨_, rfl⟩
                                      rw [← ehv12] at hP
                                      have r9 : qRw cy hv12 (ra 28) (rk 28) (rv 28) ((S j).1) (nI nj) (nI (S j).2.2.1) (nI (S j).2.2.2) rwj (qCp Fj fw nj) (qCp Gj gw nj) := by rw [ehv12]; exact qRw.new (cy := cy) (h := hv11) (kd := kdw) (n := (nI nw)) (sm := smw) (dp := dpw) (rw := rww) (f := fw) (g := gw) ⟨hRw.1, hRw.2.1, hRw.2.2.1, faw, fkw, fvw⟩
                                      have khv12 : ∀ b o, qOf (ra 28) (rk 28) (rv 28) b → hv11 b = some o → hv12 b = some o := by rw [ehv12]; exact fun b o q hb => (qRh_o q.1 q.2.1 q.2.2).trans hb
                                      replace hY := khv12 _ _ ⟨fun q => by rw [q] at hY; have := faw.symm.trans hY; first | cases this | simp at this, fun q => by rw [q] at hY; have := fkw.symm.trans hY; first | cases this | simp at this, fun q => by rw [q] at hY; have := fvw.symm.trans hY; first | cases this | simp at this⟩ hY
                                      replace hms := khv12 _ _ ⟨fun q => by rw [q] at hms; have := faw.symm.trans hms; first | cases this | simp at this, fun q => by rw [q] at hms; have := fkw.symm.trans hms; first | cases this | simp at this, fun q => by rw [q] at hms; have := fvw.symm.trans hms; first | cases this | simp at this⟩ hms
                                      replace hmb := khv12 _ _ ⟨fun q => by rw [q] at hmb; have := faw.symm.trans hmb; first | cases this | simp at this, fun q => by rw [q] at hmb; have := fkw.symm.trans hmb; first | cases this | simp at this, fun q => by rw [q] at hmb; have := fvw.symm.trans hmb; first | cases this | simp at this⟩ hmb
                                      replace faj := khv12 _ _ apj.1 faj
                                      replace fkj := khv12 _ _ apj.2.1 fkj
                                      replace fvj := khv12 _ _ apj.2.2 fvj
                                      replace faz7 := khv12 _ _ apz7.1 faz7
                                      replace fkz7 := khv12 _ _ apz7.2.1 fkz7
                                      replace fvz7 := khv12 _ _ apz7.2.2 fvz7
                                      replace fr := fun b o hb n1 n2 => khv12 b o n2 (fr b o hb n1 n2)
                                      clear faw fkw fvw
                                      have faw := r9.2.2.2.1
                                      have fkw := r9.2.2.2.2.1
                                      have fvw := r9.2.2.2.2.2
                                      unfold qRb at faw
                                      unfold qJr at fkw fvw
                                      clear r9 ehv12
                                      have lw : qLs ((S j).1) (qCp Fj fw nj) (qCp Gj gw nj) nj = (S j).2.1 := by rw [qLs_cp]; exact hLj.symm
                                      refine lv_iconst (v := nI 0) hx hb dX8_join_335 (by decide) ?_
                                      refine lv_istore (lv' := [(9, .int (nI 0)), (7, .int (nI (nj + cc))), (8, .int (nI 0)), (6, .int (nI (nj + nz7))), (5, .ref (ra z7)), (4, .ref (ra j)), (0, .ref y), (1, .int (nI i))]) hx hb dX8_join_336 hl (by decide) rfl (fun ls hl => ?_)
                                      refine (?_ : ∀ (t : Nat) (H : Heap) (locs : List Loc) (ls : Array Slot) (hv0 : qH) (fW gW : Nat → Int64) (nW i2 : Nat), nz7 - i2 < t → hv0 y = some (.inr (8, [.ref ms, .ref mb, .ref (ra 28), .int gr, .int 0, .int ca, .int (nI m0), .ref od, .ref pt, .int ct, .int fau, .ref fi, .ref re, .int cs, .ref rc, .ref rs, .ref so, .ref ot, .ref cn, .ref la, .int ce, .ref ro, .int rn])) → hv0 ms = some (.inl (cy 5, 24, .inr (.inr (.inr (.inr (fun i => some (ra i))))))) → hv0 mb = some (.inl (cy 5, 4, .inr (.inr (.inr (.inr (fun i => some (ra (24 + i)))))))) → hv0 (ra 28) = some (.inr (7, [.ref (rk 28), .ref (rv 28), .int (S j).1, .int (nI nW), .int (nI (S j).2.2.1), .int (nI (S j).2.2.2), .int rwj])) → hv0 (rk 28) = some (.inl (cy 1, 1001, .inr (.inl fW))) → hv0 (rv 28) = some (.inl (cy 1, 1001, .inr (.inl gW))) → hv0 (ra j) = some (.inr (7, [.ref (rk j), .ref (rv j), .int (S j).1, .int (nI nj), .int (nI (S j).2.2.1), .int (nI (S j).2.2.2), .int rwj])) → hv0 (rk j) = some (.inl (cy 1, 1001, .inr (.inl Fj))) → hv0 (rv j) = some (.inl (cy 1, 1001, .inr (.inl Gj))) → hv0 (ra z7) = some (.inr (7, [.ref (rk z7), .ref (rv z7), .int (S z7).1, .int (nI nz7), .int (nI (S z7).2.2.1), .int (nI (S z7).2.2.2), .int rwz7])) → hv0 (rk z7) = some (.inl (cy 1, 1001, .inr (.inl Fz7))) → hv0 (rv z7) = some (.inl (cy 1, 1001, .inr (.inl Gz7))) → (∀ b o, h b = some o → b ≠ y → qOf (ra 28) (rk 28) (rv 28) b → hv0 b = some o) → qLs (S j).1 fW gW nW = xJn (S j).1 (xEa (S j).1) (S j).2.1 (qLs (S z7).1 Fz7 Gz7 i2) → nW ≤ 1000 ∧ i2 ≤ nz7 → lv_has ls 10 [(9, .int (nI i2)), (8, .int (nI 0)), (6, .int (nI (nj + nz7))), (5, .ref (ra z7)), (0, .ref y), (1, .int (nI i))] → qP D N0 hv0 H → va_S (qA N0) s.heap H locs → W p l e _ s m _ below meth c H locs 0 0 _ (F0 m 338 ls [])) _ H locs ls hv12 (qCp Fj fw nj) (qCp Gj gw nj) nj 0 (Nat.lt_succ_self _) hY hms hmb faw fkw fvw faj fkj fvj faz7 fkz7 fvz7 fr lw ⟨by omega, Nat.zero_le _⟩ (lv_sub hl [0, 2, 3, 4, 6, 7] rfl) hP hS
                                      clear hl hP hS
                                      intro t
                                      induction t with
                                      | zero => intro H locs ls hv0 fW gW nW i2 ht; exact absurd ht (Nat.not_lt_zero _)
                                      | succ t ihl =>
                                        intro H locs ls hv0 fW gW nW i2 ht hY hms hmb faw fkw fvw faj fkj fvj faz7 fkz7 fvz7 fr lw hnW hl hP hS
                                        have hok : qOk (S j).1 (xJn (S j).1 (xEa (S j).1) (S j).2.1 (qLs (S z7).1 Fz7 Gz7 i2)) := xJn_ok xEa_or _ _ (hI j (by omega))
                                        refine lv_iload hx hb dX8_join_338 (lv_at hl 0 rfl) ?_
                                        refine lv_aload hx hb dX8_join_340 (lv_at hl 3 rfl) ?_
                                        refine q_get C hP faz7 rfl inX7 3 (by decide) g1143 rfl dX8_join_342 ?_
                                        refine lv_icmp_ge (tgt := 379) hx hb dX8_join_345 (by decide) (fun c345 => ?_) (fun c345 => ?_)
                                        · replace c345 : nz7 ≤ i2 := (nI_leI (a := nz7) (b := i2) (by omega) (by omega)).mp c345
                                          have ei2 : i2 = nz7 := by omega
                                          rw [ei2, ← hLz7] at lw
                                          clear ihl
                                          refine lv_iconst (v := nI 0) hx hb dX8_join_379 (by decide) ?_
                                          refine lv_istore (lv' := [(9, .int (nI 0)), (8, .int (nI 0)), (6, .int (nI (nj + nz7))), (5, .ref (ra z7)), (0, .ref y), (1, .int (nI i))]) hx hb dX8_join_380 hl (by decide) rfl (fun ls hl => ?_)
                                          refine (?_ : ∀ (t : Nat) (H : Heap) (locs : List Loc) (ls : Array Slot) (hv0 : qH) (i3 : Nat), nz7 - i3 < t → hv0 y = some (.inr (8, [.ref ms, .ref mb, .ref (ra 28), .int gr, .int 0, .int ca, .int (nI m0), .ref od, .ref pt, .int ct, .int fau, .ref fi, .ref re, .int cs, .ref rc, .ref rs, .ref so, .ref ot, .ref cn, .ref la, .int ce, .ref ro, .int rn])) → hv0 ms = some (.inl (cy 5, 24, .inr (.inr (.inr (.inr (fun i => some (ra i))))))) → hv0 mb = some (.inl (cy 5, 4, .inr (.inr (.inr (.inr (fun i => some (ra (24 + i)))))))) → hv0 (ra 28) = some (.inr (7, [.ref (rk 28), .ref (rv 28), .int (S j).1, .int (nI nW), .int (nI (S j).2.2.1), .int (nI (S j).2.2.2), .int rwj])) → hv0 (rk 28) = some (.inl (cy 1, 1001, .inr (.inl fW))) → hv0 (rv 28) = some (.inl (cy 1, 1001, .inr (.inl gW))) → hv0 (ra j) = some (.inr (7, [.ref (rk j), .ref (rv j), .int (S j).1, .int (nI nj), .int (nI (S j).2.2.1), .int (nI (S j).2.2.2), .int rwj])) → hv0 (rk j) = some (.inl (cy 1, 1001, .inr (.inl Fj))) → hv0 (rv j) = some (.inl (cy 1, 1001, .inr (.inl Gj))) → hv0 (ra z7) = some (.inr (7, [.ref (rk z7), .ref (rv z7), .int (S z7).1, .int (nI nz7), .int (nI (S z7).2.2.1), .int (nI (S z7).2.2.2), .int rwz7])) → hv0 (rk z7) = some (.inl (cy 1, 1001, .inr (.inl Fz7))) → hv0 (rv z7) = some (.inl (cy 1, 1001, .inr (.inl Gz7))) → (∀ b o, h b = some o → b ≠ y → qOf (ra 28) (rk 28) (rv 28) b → hv0 b = some o) → (∀ q9, q9 < i3 → ¬ (16 < xAl gr (xJn (S j).1 (xEa (S j).1) (S j).2.1 (S z7).2.1) (Fz7 q9) ∧ ((S j).1 = 1 ∨ (S j).1 = 2))) → i3 ≤ nz7 → lv_has ls 10 [(9, .int (nI i3)), (6, .int (nI (nj + nz7))), (5, .ref (ra z7)), (0, .ref y), (1, .int (nI i))] → qP D N0 hv0 H → va_S (qA N0) s.heap H locs → W p l e _ s m _ below meth c H locs 0 0 _ (F0 m 382 ls [])) _ H locs ls hv0 0 (Nat.lt_succ_self _) hY hms hmb faw fkw fvw faj fkj fvj faz7 fkz7 fvz7 fr (fun q9 z => absurd z (Nat.not_lt_zero _)) (Nat.zero_le _) (lv_sub hl [0, 2, 3, 4, 5] rfl) hP hS
                                          clear hl hP hS
                                          intro t
                                          induction t with
                                          | zero => intro H locs ls hv0 i3 ht; exact absurd ht (Nat.not_lt_zero _)
                                          | succ t ihl =>
                                            intro H locs ls hv0 i3 ht hY hms hmb faw fkw fvw faj fkj fvj faz7 fkz7 fvz7 fr hcr hi3 hl hP hS
                                            refine lv_iload hx hb dX8_join_382 (lv_at hl 0 rfl) ?_
                                            refine lv_aload hx hb dX8_join_384 (lv_at hl 2 rfl) ?_
                                            refine q_get C hP faz7 rfl inX7 3 (by decide) g1143 rfl dX8_join_386 ?_
                                            refine lv_icmp_ge (tgt := 432) hx hb dX8_join_389 (by decide) (fun c389 => ?_) (fun c389 => ?_)
                                            · replace c389 : nz7 ≤ i3 := (nI_leI (a := nz7) (b := i3) (by omega) (by omega)).mp c389
                                              refine lv_aload_n hx hb dX8_join_432 rfl (lv_at hl 3 rfl) ?_
                                              refine lv_iload_n hx hb dX8_join_433 rfl (lv_at hl 4 rfl) ?_
                                              refine lv_iload hx hb dX8_join_434 (lv_at hl 1 rfl) ?_
                                              obtain ⟨ni, rwi, Fi, Gi, hRi, hni, hLi, hKi⟩ := hrs i (by omega)
                                              have api := hRi.apart hRw (hmd.two (i := i) (j := 28) (by omega) (by omega) (by omega))
                                              replace hRi := hRi.keep2 (fun b o hb ho => fr b o ho (hRi.ney hY0 hb) (hb.elim (fun q => q ▸ api.1) (fun hb => hb.elim (fun q => q ▸ api.2.1) (fun q => q ▸ api.2.2))))
                                              have fai := hRi.2.2.2.1
                                              have fki := hRi.2.2.2.2.1
                                              have fvi := hRi.2.2.2.2.2
                                              unfold qRb at fai
                                              unfold qJr at fki fvi
                                              refine q_callV (rest := []) C (c_X8_done l D cy N0 hv0 y ms mb od pt fi re rc rs so ot cn la ro gr 0 ca (nI m0) ct fau cs ce rn ra rk rv i (nI (nj + nz7)) (S j).1 (nI (S j).2.2.1) (nI (S j).2.2.2) rwj nW fW gW (S i).1 (nI (S i).2.2.1) (nI (S i).2.2.2) rwi ni Fi Gi hY hms hmd ⟨hRw.1, hRw.2.1, hRw.2.2.1, faw, fkw, fvw⟩ ⟨hRi.1, hRi.2.1, hRi.2.2.1, fai, fki, fvi⟩ (by omega) (by omega)) kX8_done g1293 g1295 rfl gp45 g4 hP hS hY (by first | decide | omega) hl.1 rfl (by decide) (by first | decide | omega) dX8_join_436 (fun q ce E h' H1 locs1 hE => hE.elim) (fun v hh20 H locs hq hP hS => ?_)
                                              obtain ⟨rfl, hY9, hw9, hi9, fr9⟩ := hq
                                              replace fr := fun b o hb n1 n2 n3 => fr9 b o (fr b o hb n1 n2) n1 n2 n3
                                              rw [nI_add] at hY9
                                              have hno : ¬ (S z7).2.1.any (fun p => decide (16 < xAl gr (xJn (S j).1 (xEa (S j).1) (S j).2.1 (S z7).2.1) p.1 ∧ ((S j).1 = 1 ∨ (S j).1 = 2))) = true := fun z => by obtain ⟨p, hp, z⟩ := List.any_eq_true.mp z; rw [hLz7] at hp; obtain ⟨q9, hq9, rfl⟩ := List.mem_map.mp hp; exact hcr q9 (by have := List.mem_range.mp hq9; omega) (of_decide_eq_true z)
                                              have el : (xJn (S j).1 (xEa (S j).1) (S j).2.1 (S z7).2.1).length = nW := by rw [← lw, qLs_len]
                                              obtain ⟨m9, f9⟩ := hM.fin hY0 (i := i) (by omega) (s := ((S j).1, (xJn (S j).1 (xEa (S j).1) (S j).2.1 (S z7).2.1), (S j).2.2.1, (S j).2.2.2)) ⟨nW, _, _, _, hi9, by omega, by rw [qLs_cp]; exact lw.symm, Or.inl rfl⟩ hw9 fr
                                              have eX : X = (0, nI nW, qU S i ((S j).1, (xJn (S j).1 (xEa (S j).1) (S j).2.1 (S z7).2.1), (S j).2.2), oMv (ms, mb, ra 28, od, pt, ro, gr, cd, ca, nI m0, ct, fau, rn) (nI (m0 + (nj + nz7))), a, k) := by rw [← hX]; unfold xs_join; rw [if_neg (by rw [ebi, ebj, ebz7]; decide), ecj, ecz7, if_neg (fun z => z.elim c44 (fun z => z c65)), eci]; unfold xr_join; dsimp only; rw [if_neg c105, ejc, show oMq (ms, mb, ra 28, od, pt, ro, gr, cd, ca, nI m0, ct, fau, rn) = nI m0 from rfl, ecm, hlj, hlz7, eco, if_neg (by omega), if_neg hno, el, nI_add]
                                              obtain ⟨q9, r9⟩ := hQ.rowM (o' := oCd (oMv (ms, mb, ra 28, od, pt, ro, gr, cd, ca, nI m0, ct, fau, rn) (nI (m0 + (nj + nz7)))) 0) hY0 hY9 m9 f9 ⟨rfl, rfl, rfl, rfl, rfl, rfl⟩
                                              exact q_iret C hP hS ⟨by rw [eX], A, by rw [eX]; exact q9, r9⟩ (by omega) dX8_join_439
                                            · replace c389 : ¬ nz7 ≤ i3 := fun zq => c389 ((nI_leI (a := nz7) (b := i3) (by omega) (by omega)).mpr zq)
                                              refine lv_aload_n hx hb dX8_join_392 rfl (lv_at hl 3 rfl) ?_
                                              refine lv_aload_n hx hb dX8_join_393 rfl (lv_at hl 3 rfl) ?_
                                              refine lv_aload_n hx hb dX8_join_394 rfl (lv_at hl 3 rfl) ?_
                                              refine q_get C hP hY rfl inX8 2 (by decide) g1169 rfl dX8_join_395 ?_
                                              refine lv_aload hx hb dX8_join_398 (lv_at hl 2 rfl) ?_
                                              refine q_get C hP faz7 rfl inX7 0 (by decide) g1138 rfl dX8_join_400 ?_
                                              refine lv_iload hx hb dX8_join_403 (lv_at hl 0 rfl) ?_
                                              refine q_laldN C hP fkz7 (by omega) (by omega) dX8_join_405 ?_
                                              refine q_callV (rest := [.ref y]) C (c_X8_crowded l D cy N0 hv0 y ms mb (ra 28) od pt fi re rc rs so ot cn la ro gr 0 ca (nI m0) ct fau cs ce rn (ra 28) (rk 28) (rv 28) ((S j).1) (nI (S j).2.2.1) (nI (S j).2.2.2) rwj nW fW gW (Fz7 i3) hY ⟨hRw.1, hRw.2.1, hRw.2.2.1, faw, fkw, fvw⟩ (by omega)) kX8_crowded g1285 g1287 rfl gp43 g4 hP hS hY (by first | decide | omega) hl.1 rfl (by simp [q_catrf, q_cati, q_catl, q_cata, q_catn]) (by first | decide | omega) dX8_join_406 (fun q ce E h' H1 locs1 hE => hE.elim) (fun v hh21 H locs hq hP hS => ?_)
                                              obtain ⟨rfl, rfl⟩ := hq
                                              rw [xAl_row (kd := (S j).1) (g := gW), lw]
                                              by_cases cr : 16 < xAl gr (xJn (S j).1 (xEa (S j).1) (S j).2.1 (S z7).2.1) (Fz7 i3) ∧ (((S j).1) = 1 ∨ ((S j).1) = 2)
                                              · rw [if_pos cr]
                                                refine lv_if_ne (tgt := 416) hx hb dX8_join_409 (by decide) (fun c409 => ?_) (fun c409 => ?_)
                                                · replace c409 : ¬ 1 = 0 := fun zq => c409 ((nI_eq (a := 1) (b := 0) (by omega) (by omega)).mpr zq)
                                                  refine lv_iconst (v := nI 0) hx hb dX8_join_416 (by decide) ?_
                                                  refine lv_iconst (v := nI 3) hx hb dX8_join_417 (by decide) ?_
                                                  refine q_callV (rest := []) C (c_X8_good0 l D cy N0 hv0 y ms mb (ra 28) od pt fi re rc rs so ot cn la ro gr 0 ca (nI m0) ct fau cs ce rn (nI 3) hY) kX8_good g1249 g1251 rfl gp41 g4 hP hS hY (by first | decide | omega) hl.1 rfl (by decide) (by first | decide | omega) dX8_join_418 (fun q ce E h' H1 locs1 hE => hE.elim) (fun v hh22 H locs hq hP hS => ?_)
                                                  obtain ⟨rfl, rfl⟩ := hq
                                                  replace hP : qP D N0 (qs hv0 y (.inr (8, [.ref ms, .ref mb, .ref (ra 28), .int gr, .int (nI 3), .int ca, .int (nI m0), .ref od, .ref pt, .int ct, .int fau, .ref fi, .ref re, .int cs, .ref rc, .ref rs, .ref so, .ref ot, .ref cn, .ref la, .int ce, .ref ro, .int rn]))) H := hP
                                                  obtain ⟨hv13, ehv13⟩ : ∃ z : qH, z = qs hv0 y (.inr (8, [.ref ms, .ref mb, .ref (ra 28), .int gr, .int (nI 3), .int ca, .int (nI m0), .ref od, .ref pt, .int ct, .int fau, .ref fi, .ref re, .int cs, .ref rc, .ref rs, .ref so, .ref ot, .ref cn, .ref la, .int ce, .ref ro, .int rn])) := ⟨_, rfl⟩
                                                  rw [← ehv13] at hP
                                                  have khv13 : ∀ b o, b ≠ y → hv0 b = some o → hv13 b = some o := by rw [ehv13]; exact fun b o nb hb => (qs_ne nb).trans hb
                                                  replace hms := khv13 _ _ (fun q => by subst q; have := hms.symm.trans hY; first | cases this | simp at this) hms
                                                  replace hmb := khv13 _ _ (fun q => by subst q; have := hmb.symm.trans hY; first | cases this | simp at this) hmb
                                                  replace faw := khv13 _ _ (fun q => by have z9 := faw; rw [q] at z9; have := z9.symm.trans hY; first | cases this | simp at this) faw
                                                  replace fkw := khv13 _ _ (fun q => by have z9 := fkw; rw [q] at z9; have := z9.symm.trans hY; first | cases this | simp at this) fkw
                                                  replace fvw := khv13 _ _ (fun q => by have z9 := fvw; rw [q] at z9; have := z9.symm.trans hY; first | cases this | simp at this) fvw
                                                  replace faj := khv13 _ _ (fun q => by have z9 := faj; rw [q] at z9; have := z9.symm.trans hY; first | cases this | simp at this) faj
                                                  replace fkj := khv13 _ _ (fun q => by have z9 := fkj; rw [q] at z9; have := z9.symm.trans hY; first | cases this | simp at this) fkj
                                                  replace fvj := khv13 _ _ (fun q => by have z9 := fvj; rw [q] at z9; have := z9.symm.trans hY; first | cases this | simp at this) fvj
                                                  replace faz7 := khv13 _ _ (fun q => by have z9 := faz7; rw [q] at z9; have := z9.symm.trans hY; first | cases this | simp at this) faz7
                                                  replace fkz7 := khv13 _ _ (fun q => by have z9 := fkz7; rw [q] at z9; have := z9.symm.trans hY; first | cases this | simp at this) fkz7
                                                  replace fvz7 := khv13 _ _ (fun q => by have z9 := fvz7; rw [q] at z9; have := z9.symm.trans hY; first | cases this | simp at this) fvz7
                                                  replace hY : hv13 y = some (.inr (8, [.ref ms, .ref mb, .ref (ra 28), .int gr, .int (nI 3), .int ca, .int (nI m0), .ref od, .ref pt, .int ct, .int fau, .ref fi, .ref re, .int cs, .ref rc, .ref rs, .ref so, .ref ot, .ref cn, .ref la, .int ce, .ref ro, .int rn])) := by rw [ehv13]; exact qs_self
                                                  clear ehv13
                                                  replace fr := fun b o hb n1 n2 => khv13 b o n1 (fr b o hb n1 n2)
                                                  refine lv_if_ne (tgt := 426) hx hb dX8_join_421 (by decide) (fun c421 => ?_) (fun c421 => ?_)
                                                  · replace c421 : ¬ 0 = 0 := fun zq => c421 ((nI_eq (a := 0) (b := 0) (by omega) (by omega)).mpr zq)
                                                    exfalso; omega
                                                  · replace c421 : 0 = 0 := (nI_eq (a := 0) (b := 0) (by omega) (by omega)).mp c421
                                                    refine lv_iconst (v := nI 0) hx hb dX8_join_424 (by decide) ?_
                                                    have hyes : (S z7).2.1.any (fun p => decide (16 < xAl gr (xJn (S j).1 (xEa (S j).1) (S j).2.1 (S z7).2.1) p.1 ∧ ((S j).1 = 1 ∨ (S j).1 = 2))) = true := List.any_eq_true.mpr ⟨(Fz7 i3, xV (S z7).1 (Gz7 i3)), hLz7 ▸ List.mem_of_getElem? (qLs_get2 (show i3 < nz7 by omega)), decide_eq_true cr⟩
                                                    have eX : X = (3, 0, S, (ms, mb, ra 28, od, pt, ro, gr, cd, ca, nI m0, ct, fau, rn), a, k) := by rw [← hX]; unfold xs_join; rw [if_neg (by rw [ebi, ebj, ebz7]; decide), ecj, ecz7, if_neg (fun z => z.elim c44 (fun z => z c65)), eci]; unfold xr_join; dsimp only; rw [if_neg c105, ejc, show oMq (ms, mb, ra 28, od, pt, ro, gr, cd, ca, nI m0, ct, fau, rn) = nI m0 from rfl, ecm, hlj, hlz7, eco, if_neg (by omega), if_pos hyes]
                                                    obtain ⟨m8, f8⟩ := hM.fin0 hY0 (h' := hv13) ⟨hRw.1, hRw.2.1, hRw.2.2.1, faw, fkw, fvw⟩ fr
                                                    obtain ⟨q8, r8⟩ := hQ.rowM (o' := oCd (ms, mb, ra 28, od, pt, ro, gr, cd, ca, nI m0, ct, fau, rn) 3) hY0 hY m8 f8 ⟨rfl, rfl, rfl, rfl, rfl, rfl⟩
                                                    exact q_iret C hP hS ⟨by rw [eX]; rfl, A, by rw [eX]; exact q8, r8⟩ (by omega) dX8_join_425
                                                · replace c409 : 1 = 0 := (nI_eq (a := 1) (b := 0) (by omega) (by omega)).mp c409
                                                  exfalso; omega
                                              · rw [if_neg cr]
                                                refine lv_if_ne (tgt := 416) hx hb dX8_join_409 (by decide) (fun c409 => ?_) (fun c409 => ?_)
                                                · replace c409 : ¬ 0 = 0 := fun zq => c409 ((nI_eq (a := 0) (b := 0) (by omega) (by omega)).mpr zq)
                                                  exfalso; omega
                                                · replace c409 : 0 = 0 := (nI_eq (a := 0) (b := 0) (by omega) (by omega)).mp c409
                                                  refine lv_iconst (v := nI 1) hx hb dX8_join_412 (by decide) ?_
                                                  refine lv_goto (tgt := 417) hx hb dX8_join_413 (by decide) ?_
                                                  refine lv_iconst (v := nI 3) hx hb dX8_join_417 (by decide) ?_
                                                  refine q_callV (rest := []) C (c_X8_good1 l D cy N0 hv0 y ms mb (ra 28) od pt fi re rc rs so ot cn la ro gr 0 ca (nI m0) ct fau cs ce rn (nI 3) hY) kX8_good g1249 g1251 rfl gp41 g4 hP hS hY (by first | decide | omega) hl.1 rfl (by decide) (by first | decide | omega) dX8_join_418 (fun q ce E h' H1 locs1 hE => hE.elim) (fun v hh23 H locs hq hP hS => ?_)
                                                  obtain ⟨rfl, rfl⟩ := hq
                                                  replace hP : qP D N0 (qs hv0 y (.inr (8, [.ref ms, .ref mb, .ref (ra 28), .int gr, .int 0, .int ca, .int (nI m0), .ref od, .ref pt, .int ct, .int fau, .ref fi, .ref re, .int cs, .ref rc, .ref rs, .ref so, .ref ot, .ref cn, .ref la, .int ce, .ref ro, .int rn]))) H := hP
                                                  obtain ⟨hv14, ehv14⟩ : ∃ z : qH, z = qs hv0 y (.inr (8, [.ref ms, .ref mb, .ref (ra 28), .int gr, .int 0, .int ca, .int (nI m0), .ref od, .ref pt, .int ct, .int fau, .ref fi, .ref re, .int cs, .ref rc, .ref rs, .ref so, .ref ot, .ref cn, .ref la, .int ce, .ref ro, .int rn])) := ⟨_, rfl⟩
                                                  rw [← ehv14] at hP
                                                  have khv14 : ∀ b o, b ≠ y → hv0 b = some o → hv14 b = some o := by rw [ehv14]; exact fun b o nb hb => (qs_ne nb).trans hb
                                                  replace hms := khv14 _ _ (fun q => by subst q; have := hms.symm.trans hY; first | cases this | simp at this) hms
                                                  replace hmb := khv14 _ _ (fun q => by subst q; have := hmb.symm.trans hY; first | cases this | simp at this) hmb
                                                  replace faw := khv14 _ _ (fun q => by have z9 := faw; rw [q] at z9; have := z9.symm.trans hY; first | cases this | simp at this) faw
                                                  replace fkw := khv14 _ _ (fun q => by have z9 := fkw; rw [q] at z9; have := z9.symm.trans hY; first | cases this | simp at this) fkw
                                                  replace fvw := khv14 _ _ (fun q => by have z9 := fvw; rw [q] at z9; have := z9.symm.trans hY; first | cases this | simp at this) fvw
                                                  replace faj := khv14 _ _ (fun q => by have z9 := faj; rw [q] at z9; have := z9.symm.trans hY; first | cases this | simp at this) faj
                                                  replace fkj := khv14 _ _ (fun q => by have z9 := fkj; rw [q] at z9; have := z9.symm.trans hY; first | cases this | simp at this) fkj
                                                  replace fvj := khv14 _ _ (fun q => by have z9 := fvj; rw [q] at z9; have := z9.symm.trans hY; first | cases this | simp at this) fvj
                                                  replace faz7 := khv14 _ _ (fun q => by have z9 := faz7; rw [q] at z9; have := z9.symm.trans hY; first | cases this | simp at this) faz7
                                                  replace fkz7 := khv14 _ _ (fun q => by have z9 := fkz7; rw [q] at z9; have := z9.symm.trans hY; first | cases this | simp at this) fkz7
                                                  replace fvz7 := khv14 _ _ (fun q => by have z9 := fvz7; rw [q] at z9; have := z9.symm.trans hY; first | cases this | simp at this) fvz7
                                                  replace hY : hv14 y = some (.inr (8, [.ref ms, .ref mb, .ref (ra 28), .int gr, .int 0, .int ca, .int (nI m0), .ref od, .ref pt, .int ct, .int fau, .ref fi, .ref re, .int cs, .ref rc, .ref rs, .ref so, .ref ot, .ref cn, .ref la, .int ce, .ref ro, .int rn])) := by rw [ehv14]; exact qs_self
                                                  clear ehv14
                                                  replace fr := fun b o hb n1 n2 => khv14 b o n1 (fr b o hb n1 n2)
                                                  refine lv_if_ne (tgt := 426) hx hb dX8_join_421 (by decide) (fun c421 => ?_) (fun c421 => ?_)
                                                  · replace c421 : ¬ 1 = 0 := fun zq => c421 ((nI_eq (a := 1) (b := 0) (by omega) (by omega)).mpr zq)
                                                    refine lv_iinc (v := nI (i3 + 1)) (lv' := [(9, .int (nI (i3 + 1))), (6, .int (nI (nj + nz7))), (5, .ref (ra z7)), (0, .ref y), (1, .int (nI i))]) hx hb dX8_join_426 hl (k := 0) rfl (nI_1 i3) (by decide) rfl (fun ls hl => ?_)
                                                    refine lv_goto (tgt := 382) hx hb dX8_join_429 (by decide) ?_
                                                    exact ihl H locs ls hv14 (i3 + 1) (by omega) hY hms hmb faw fkw fvw faj fkj fvj faz7 fkz7 fvz7 fr (fun q9 z => if e : q9 = i3 then by (subst e; exact cr) else hcr q9 (by omega)) (by omega) (lv_sub hl [0, 1, 2, 3, 4] rfl) hP hS
                                                  · replace c421 : 1 = 0 := (nI_eq (a := 1) (b := 0) (by omega) (by omega)).mp c421
                                                    exfalso; omega
                                        · replace c345 : ¬ nz7 ≤ i2 := fun zq => c345 ((nI_leI (a := nz7) (b := i2) (by omega) (by omega)).mpr zq)
                                          refine lv_aload_n hx hb dX8_join_348 rfl (lv_at hl 4 rfl) ?_
                                          refine q_get C hP hY rfl inX8 2 (by decide) g1169 rfl dX8_join_349 ?_
                                          refine lv_aload hx hb dX8_join_352 (lv_at hl 3 rfl) ?_
                                          refine q_get C hP faz7 rfl inX7 0 (by decide) g1138 rfl dX8_join_354 ?_
                                          refine lv_iload hx hb dX8_join_357 (lv_at hl 0 rfl) ?_
                                          refine q_laldN C hP fkz7 (by omega) (by omega) dX8_join_359 ?_
                                          refine lv_aload hx hb dX8_join_360 (lv_at hl 3 rfl) ?_
                                          refine q_get C hP faz7 rfl inX7 1 (by decide) g1140 rfl dX8_join_362 ?_
                                          refine lv_iload hx hb dX8_join_365 (lv_at hl 0 rfl) ?_
                                          refine q_laldN C hP fvz7 (by omega) (by omega) dX8_join_367 ?_
                                          refine lv_iload hx hb dX8_join_368 (lv_at hl 1 rfl) ?_
                                          refine q_callS (rest := []) C (c_X8_put l D cy N0 hv0 (ra 28) (rk 28) (rv 28) ((S j).1) (nI (S j).2.2.1) (nI (S j).2.2.2) rwj nW fW gW (Fz7 i2) (Gz7 i2) 0 ⟨hRw.1, hRw.2.1, hRw.2.2.1, faw, fkw, fvw⟩ (by omega) (by decide)) kX8_put g1276 g1277 hP hS (by first | decide | omega) hl.1 rfl (by decide) (by first | decide | omega) dX8_join_370 (fun q ce E h' H1 locs1 hE => hE.elim) (fun v hh24 H locs hq hP hS => ?_)
                                          obtain ⟨rfl, hq⟩ := hq
                                          rcases hq with ⟨hz9, j9, hj9, e9, m9, rfl⟩ | ⟨hno9, p9, hp9, hs9, ht9, rfl⟩
                                          · obtain ⟨hv15, ehv15⟩ : ∃ z : qH, z = qRh cy hv0 (ra 28) (rk 28) (rv 28) ((S j).1) (nI nW) (nI (S j).2.2.1) (nI (S j).2.2.2) rwj fW (vp_updL gW j9 (Gz7 i2)) := ⟨_, rfl⟩
                                            rw [← ehv15] at hP
                                            have r9 : qRw cy hv15 (ra 28) (rk 28) (rv 28) ((S j).1) (nI nW) (nI (S j).2.2.1) (nI (S j).2.2.2) rwj fW (vp_updL gW j9 (Gz7 i2)) := by rw [ehv15]; exact qRw.new (cy := cy) (h := hv0) (kd := (S j).1) (n := (nI nW)) (sm := (nI (S j).2.2.1)) (dp := (nI (S j).2.2.2)) (rw := rwj) (f := fW) (g := gW) ⟨hRw.1, hRw.2.1, hRw.2.2.1, faw, fkw, fvw⟩
                                            have khv15 : ∀ b o, qOf (ra 28) (rk 28) (rv 28) b → hv0 b = some o → hv15 b = some o := by rw [ehv15]; exact fun b o q hb => (qRh_o q.1 q.2.1 q.2.2).trans hb
                                            replace hY := khv15 _ _ ⟨fun q => by rw [q] at hY; have := faw.symm.trans hY; first | cases this | simp at this, fun q => by rw [q] at hY; have := fkw.symm.trans hY; first | cases this | simp at this, fun q => by rw [q] at hY; have := fvw.symm.trans hY; first | cases this | simp at this⟩ hY
                                            replace hms := khv15 _ _ ⟨fun q => by rw [q] at hms; have := faw.symm.trans hms; first | cases this | simp at this, fun q => by rw [q] at hms; have := fkw.symm.trans hms; first | cases this | simp at this, fun q => by rw [q] at hms; have := fvw.symm.trans hms; first | cases this | simp at this⟩ hms
                                            replace hmb := khv15 _ _ ⟨fun q => by rw [q] at hmb; have := faw.symm.trans hmb; first | cases this | simp at this, fun q => by rw [q] at hmb; have := fkw.symm.trans hmb; first | cases this | simp at this, fun q => by rw [q] at hmb; have := fvw.symm.trans hmb; first | cases this | simp at this⟩ hmb
                                            replace faj := khv15 _ _ apj.1 faj
                                            replace fkj := khv15 _ _ apj.2.1 fkj
                                            replace fvj := khv15 _ _ apj.2.2 fvj
                                            replace faz7 := khv15 _ _ apz7.1 faz7
                                            replace fkz7 := khv15 _ _ apz7.2.1 fkz7
                                            replace fvz7 := khv15 _ _ apz7.2.2 fvz7
                                            replace fr := fun b o hb n1 n2 => khv15 b o n2 (fr b o hb n1 n2)
                                            clear faw fkw fvw
                                            have faw := r9.2.2.2.1
                                            have fkw := r9.2.2.2.2.1
                                            have fvw := r9.2.2.2.2.2
                                            unfold qRb at faw
                                            unfold qJr at fkw fvw
                                            clear r9 ehv15
                                            have hx9 : xHas (xJn (S j).1 (xEa (S j).1) (S j).2.1 (qLs (S z7).1 Fz7 Gz7 i2)) (Fz7 i2) = true := by rw [← lw]; exact xHas_t hj9 e9
                                            replace lw : qLs ((S j).1) fW (vp_updL gW j9 (Gz7 i2)) nW = xPut ((S j).1) (xEa (S j).1) (xJn (S j).1 (xEa (S j).1) (S j).2.1 (qLs (S z7).1 Fz7 Gz7 i2)) (Fz7 i2) (xV ((S j).1) (Gz7 i2)) := by rw [qLs_re (lw ▸ hok.2.1 hk3) hj9 e9, lw, xPut, if_pos ⟨hE, hx9⟩]
                                            refine lv_iinc (v := nI (i2 + 1)) (lv' := [(9, .int (nI (i2 + 1))), (8, .int (nI 0)), (6, .int (nI (nj + nz7))), (5, .ref (ra z7)), (0, .ref y), (1, .int (nI i))]) hx hb dX8_join_373 hl (k := 0) rfl (nI_1 i2) (by decide) rfl (fun ls hl => ?_)
                                            refine lv_goto (tgt := 338) hx hb dX8_join_376 (by decide) ?_
                                            replace lw : qLs (S j).1 fW (vp_updL gW j9 (Gz7 i2)) nW = xJn (S j).1 (xEa (S j).1) (S j).2.1 (qLs (S z7).1 Fz7 Gz7 (i2 + 1)) := by rw [lw, qLs_succ, xJn_snoc, ← c65]
                                            have hle9 : nW ≤ 1000 := by have z1 := congrArg List.length lw; rw [qLs_len] at z1; have z2 := xJn_le (kd := (S j).1) (e := xEa (S j).1) (L0 := (S j).2.1) (qLs (S z7).1 Fz7 Gz7 (i2 + 1)) (S j).2.1 (fun _ z => z); have z3 := qLs_cnt (kd := (S z7).1) (f := Fz7) (g := Gz7) (n := nz7) (fun p => xEa (S j).1 || !xHas (S j).2.1 p.1) (show i2 + 1 ≤ nz7 by omega); rw [← hLz7, ← hcc] at z3; omega
                                            exact ihl H locs ls hv15 _ _ nW (i2 + 1) (by omega) hY hms hmb faw fkw fvw faj fkj fvj faz7 fkz7 fvz7 fr lw ⟨hle9, by omega⟩ (lv_sub hl [0, 1, 2, 3, 4, 5] rfl) hP hS
                                          · obtain ⟨hv16, ehv16⟩ : ∃ z : qH, z = qRh cy hv0 (ra 28) (rk 28) (rv 28) ((S j).1) (nI (nW + 1)) (nI (S j).2.2.1) (nI (S j).2.2.2) rwj (vp_updL (qSh fW p9 nW) p9 (Fz7 i2)) (vp_updL (qSh gW p9 nW) p9 (Gz7 i2)) := ⟨_, rfl⟩
                                            rw [← ehv16] at hP
                                            have r9 : qRw cy hv16 (ra 28) (rk 28) (rv 28) ((S j).1) (nI (nW + 1)) (nI (S j).2.2.1) (nI (S j).2.2.2) rwj (vp_updL (qSh fW p9 nW) p9 (Fz7 i2)) (vp_updL (qSh gW p9 nW) p9 (Gz7 i2)) := by rw [ehv16]; exact qRw.new (cy := cy) (h := hv0) (kd := (S j).1) (n := (nI nW)) (sm := (nI (S j).2.2.1)) (dp := (nI (S j).2.2.2)) (rw := rwj) (f := fW) (g := gW) ⟨hRw.1, hRw.2.1, hRw.2.2.1, faw, fkw, fvw⟩
                                            have khv16 : ∀ b o, qOf (ra 28) (rk 28) (rv 28) b → hv0 b = some o → hv16 b = some o := by rw [ehv16]; exact fun b o q hb => (qRh_o q.1 q.2.1 q.2.2).trans hb
                                            replace hY := khv16 _ _ ⟨fun q => by rw [q] at hY; have := faw.symm.trans hY; first | cases this | simp at this, fun q => by rw [q] at hY; have := fkw.symm.trans hY; first | cases this | simp at this, fun q => by rw [q] at hY; have := fvw.symm.trans hY; first | cases this | simp at this⟩ hY
                                            replace hms := khv16 _ _ ⟨fun q => by rw [q] at hms; have := faw.symm.trans hms; first | cases this | simp at this, fun q => by rw [q] at hms; have := fkw.symm.trans hms; first | cases this | simp at this, fun q => by rw [q] at hms; have := fvw.symm.trans hms; first | cases this | simp at this⟩ hms
                                            replace hmb := khv16 _ _ ⟨fun q => by rw [q] at hmb; have := faw.symm.trans hmb; first | cases this | simp at this, fun q => by rw [q] at hmb; have := fkw.symm.trans hmb; first | cases this | simp at this, fun q => by rw [q] at hmb; have := fvw.symm.trans hmb; first | cases this | simp at this⟩ hmb
                                            replace faj := khv16 _ _ apj.1 faj
                                            replace fkj := khv16 _ _ apj.2.1 fkj
                                            replace fvj := khv16 _ _ apj.2.2 fvj
                                            replace faz7 := khv16 _ _ apz7.1 faz7
                                            replace fkz7 := khv16 _ _ apz7.2.1 fkz7
                                            replace fvz7 := khv16 _ _ apz7.2.2 fvz7
                                            replace fr := fun b o hb n1 n2 => khv16 b o n2 (fr b o hb n1 n2)
                                            clear faw fkw fvw
                                            have faw := r9.2.2.2.1
                                            have fkw := r9.2.2.2.2.1
                                            have fvw := r9.2.2.2.2.2
                                            unfold qRb at faw
                                            unfold qJr at fkw fvw
                                            clear r9 ehv16
                                            replace lw : qLs ((S j).1) (vp_updL (qSh fW p9 nW) p9 (Fz7 i2)) (vp_updL (qSh gW p9 nW) p9 (Gz7 i2)) (nW + 1) = xPut ((S j).1) (xEa (S j).1) (xJn (S j).1 (xEa (S j).1) (S j).2.1 (qLs (S z7).1 Fz7 Gz7 i2)) (Fz7 i2) (xV ((S j).1) (Gz7 i2)) := by
                                              rw [xPut, if_neg (fun q => by have := q.2; rw [← lw, xHas_f (hno9.resolve_right (by decide))] at this; cases this), qLs_ins hp9]
                                              by_cases z9 : ((S j).1) = 3 ∨ ((S j).1) = 5
                                              · rw [if_pos z9, ← lw]; exact xSi_row (lw ▸ hok.1 z9) hp9 (hs9 z9).1 (hs9 z9).2
                                              · rw [if_neg z9, ht9 z9, lw, List.take_of_length_le (by rw [← lw, qLs_len]; omega), List.drop_of_length_le (by rw [← lw, qLs_len]; omega)]
                                            refine lv_iinc (v := nI (i2 + 1)) (lv' := [(9, .int (nI (i2 + 1))), (8, .int (nI 0)), (6, .int (nI (nj + nz7))), (5, .ref (ra z7)), (0, .ref y), (1, .int (nI i))]) hx hb dX8_join_373 hl (k := 0) rfl (nI_1 i2) (by decide) rfl (fun ls hl => ?_)
                                            refine lv_goto (tgt := 338) hx hb dX8_join_376 (by decide) ?_
                                            replace lw : qLs (S j).1 (vp_updL (qSh fW p9 nW) p9 (Fz7 i2)) (vp_updL (qSh gW p9 nW) p9 (Gz7 i2)) (nW + 1) = xJn (S j).1 (xEa (S j).1) (S j).2.1 (qLs (S z7).1 Fz7 Gz7 (i2 + 1)) := by rw [lw, qLs_succ, xJn_snoc, ← c65]
                                            have hle9 : (nW + 1) ≤ 1000 := by have z1 := congrArg List.length lw; rw [qLs_len] at z1; have z2 := xJn_le (kd := (S j).1) (e := xEa (S j).1) (L0 := (S j).2.1) (qLs (S z7).1 Fz7 Gz7 (i2 + 1)) (S j).2.1 (fun _ z => z); have z3 := qLs_cnt (kd := (S z7).1) (f := Fz7) (g := Gz7) (n := nz7) (fun p => xEa (S j).1 || !xHas (S j).2.1 p.1) (show i2 + 1 ≤ nz7 by omega); rw [← hLz7, ← hcc] at z3; omega
                                            exact ihl H locs ls hv16 _ _ (nW + 1) (i2 + 1) (by omega) hY hms hmb faw fkw fvw faj fkj fvj faz7 fkz7 fvz7 fr lw ⟨hle9, by omega⟩ (lv_sub hl [0, 1, 2, 3, 4, 5] rfl) hP hS
                                    · replace c321 : 1 = 0 := (nI_eq (a := 1) (b := 0) (by omega) (by omega)).mp c321
                                      exfalso; omega
                                  · rw [if_neg cf]
                                    refine lv_iconst (v := nI 3) hx hb dX8_join_317 (by decide) ?_
                                    refine q_callV (rest := []) C (c_X8_good0 l D cy N0 hv4 y ms mb (ra 28) od pt fi re rc rs so ot cn la ro gr 0 ca (nI m0) ct fau cs ce rn (nI 3) hY) kX8_good g1249 g1251 rfl gp41 g4 hP hS hY (by first | decide | omega) hl.1 rfl (by decide) (by first | decide | omega) dX8_join_318 (fun q ce E h' H1 locs1 hE => hE.elim) (fun v hh25 H locs hq hP hS => ?_)
                                    obtain ⟨rfl, rfl⟩ := hq
                                    replace hP : qP D N0 (qs hv4 y (.inr (8, [.ref ms, .ref mb, .ref (ra 28), .int gr, .int (nI 3), .int ca, .int (nI m0), .ref od, .ref pt, .int ct, .int fau, .ref fi, .ref re, .int cs, .ref rc, .ref rs, .ref so, .ref ot, .ref cn, .ref la, .int ce, .ref ro, .int rn]))) H := hP
                                    obtain ⟨hv17, ehv17⟩ : ∃ z : qH, z = qs hv4 y (.inr (8, [.ref ms, .ref mb, .ref (ra 28), .int gr, .int (nI 3), .int ca, .int (nI m0), .ref od, .ref pt, .int ct, .int fau, .ref fi, .ref re, .int cs, .ref rc, .ref rs, .ref so, .ref ot, .ref cn, .ref la, .int ce, .ref ro, .int rn])) := ⟨_, rfl⟩
                                    rw [← ehv17] at hP
                                    have khv17 : ∀ b o, b ≠ y → hv4 b = some o → hv17 b = some o := by rw [ehv17]; exact fun b o nb hb => (qs_ne nb).trans hb
                                    replace hms := khv17 _ _ (fun q => by subst q; have := hms.symm.trans hY; first | cases this | simp at this) hms
                                    replace hmb := khv17 _ _ (fun q => by subst q; have := hmb.symm.trans hY; first | cases this | simp at this) hmb
                                    replace faw := khv17 _ _ (fun q => by have z9 := faw; rw [q] at z9; have := z9.symm.trans hY; first | cases this | simp at this) faw
                                    replace fkw := khv17 _ _ (fun q => by have z9 := fkw; rw [q] at z9; have := z9.symm.trans hY; first | cases this | simp at this) fkw
                                    replace fvw := khv17 _ _ (fun q => by have z9 := fvw; rw [q] at z9; have := z9.symm.trans hY; first | cases this | simp at this) fvw
                                    replace faj := khv17 _ _ (fun q => by have z9 := faj; rw [q] at z9; have := z9.symm.trans hY; first | cases this | simp at this) faj
                                    replace fkj := khv17 _ _ (fun q => by have z9 := fkj; rw [q] at z9; have := z9.symm.trans hY; first | cases this | simp at this) fkj
                                    replace fvj := khv17 _ _ (fun q => by have z9 := fvj; rw [q] at z9; have := z9.symm.trans hY; first | cases this | simp at this) fvj
                                    replace faz7 := khv17 _ _ (fun q => by have z9 := faz7; rw [q] at z9; have := z9.symm.trans hY; first | cases this | simp at this) faz7
                                    replace fkz7 := khv17 _ _ (fun q => by have z9 := fkz7; rw [q] at z9; have := z9.symm.trans hY; first | cases this | simp at this) fkz7
                                    replace fvz7 := khv17 _ _ (fun q => by have z9 := fvz7; rw [q] at z9; have := z9.symm.trans hY; first | cases this | simp at this) fvz7
                                    replace hY : hv17 y = some (.inr (8, [.ref ms, .ref mb, .ref (ra 28), .int gr, .int (nI 3), .int ca, .int (nI m0), .ref od, .ref pt, .int ct, .int fau, .ref fi, .ref re, .int cs, .ref rc, .ref rs, .ref so, .ref ot, .ref cn, .ref la, .int ce, .ref ro, .int rn])) := by rw [ehv17]; exact qs_self
                                    clear ehv17
                                    replace fr := fun b o hb n1 n2 => khv17 b o n1 (fr b o hb n1 n2)
                                    refine lv_if_ne (tgt := 326) hx hb dX8_join_321 (by decide) (fun c321 => ?_) (fun c321 => ?_)
                                    · replace c321 : ¬ 0 = 0 := fun zq => c321 ((nI_eq (a := 0) (b := 0) (by omega) (by omega)).mpr zq)
                                      exfalso; omega
                                    · replace c321 : 0 = 0 := (nI_eq (a := 0) (b := 0) (by omega) (by omega)).mp c321
                                      refine lv_iconst (v := nI 0) hx hb dX8_join_324 (by decide) ?_
                                      have eX : X = (3, 0, S, (ms, mb, ra 28, od, pt, ro, gr, cd, ca, nI m0, ct, fau, rn), a, k) := by rw [← hX]; unfold xs_join; rw [if_neg (by rw [ebi, ebj, ebz7]; decide), ecj, ecz7, if_neg (fun z => z.elim c44 (fun z => z c65)), eci]; unfold xr_join; dsimp only; rw [if_neg c105, ejc, show oMq (ms, mb, ra 28, od, pt, ro, gr, cd, ca, nI m0, ct, fau, rn) = nI m0 from rfl, ecm, hlj, hlz7, eco, if_pos (by omega)]
                                      obtain ⟨m8, f8⟩ := hM.fin0 hY0 (h' := hv17) ⟨hRw.1, hRw.2.1, hRw.2.2.1, faw, fkw, fvw⟩ fr
                                      obtain ⟨q8, r8⟩ := hQ.rowM (o' := oCd (ms, mb, ra 28, od, pt, ro, gr, cd, ca, nI m0, ct, fau, rn) 3) hY0 hY m8 f8 ⟨rfl, rfl, rfl, rfl, rfl, rfl⟩
                                      exact q_iret C hP hS ⟨by rw [eX]; rfl, A, by rw [eX]; exact q8, r8⟩ (by omega) dX8_join_325
                                · replace c275 : ¬ nz7 ≤ ii := fun zq => c275 ((nI_leI (a := nz7) (b := ii) (by omega) (by omega)).mpr zq)
                                  refine lv_iload hx hb dX8_join_278 (lv_at hl 2 rfl) ?_
                                  refine lv_if_ne (tgt := 299) hx hb dX8_join_280 (by decide) (fun c280 => ?_) (fun c280 => ?_)
                                  · replace c280 : ¬ 0 = 0 := fun zq => c280 ((nI_eq (a := 0) (b := 0) (by omega) (by omega)).mpr zq)
                                    exfalso; omega
                                  · replace c280 : 0 = 0 := (nI_eq (a := 0) (b := 0) (by omega) (by omega)).mp c280
                                    refine lv_aload hx hb dX8_join_283 (lv_at hl 5 rfl) ?_
                                    refine lv_aload hx hb dX8_join_285 (lv_at hl 4 rfl) ?_
                                    refine q_get C hP faz7 rfl inX7 0 (by decide) g1138 rfl dX8_join_287 ?_
                                    refine lv_iload hx hb dX8_join_290 (lv_at hl 0 rfl) ?_
                                    refine q_laldN C hP fkz7 (by omega) (by omega) dX8_join_292 ?_
                                    refine q_callS (rest := []) C (c_X8_find l D cy N0 hv4 (ra j) (rk j) (rv j) ((S j).1) (nI (S j).2.2.1) (nI (S j).2.2.2) rwj nj Fj Gj (Fz7 ii) ⟨hRj.1, hRj.2.1, hRj.2.2.1, faj, fkj, fvj⟩ (by omega)) kX8_find g1279 g1280 hP hS (by first | decide | omega) hl.1 rfl (by decide) (by first | decide | omega) dX8_join_293 (fun q ce E h' H1 locs1 hE => hE.elim) (fun v hh26 H locs hq hP hS => ?_)
                                    obtain ⟨rfl, hq⟩ := hq
                                    rcases hq with ⟨j8, rfl, hj8, e8, m8⟩ | ⟨rfl, m8⟩
                                    · have hx8 := xHas_t (kd := (S j).1) (g := Gj) hj8 e8
                                      rw [← hLj] at hx8
                                      refine lv_if_ge (tgt := 302) hx hb dX8_join_296 (by decide) (fun c296 => ?_) (fun c296 => ?_)
                                      · replace c296 : 0 ≤ j8 := (nI_leI (a := 0) (b := j8) (by omega) (by omega)).mp c296
                                        refine lv_iinc (v := nI (ii + 1)) (lv' := [(9, .int (nI (ii + 1))), (7, .int (nI (nj + cc))), (8, .int (nI 0)), (6, .int (nI (nj + nz7))), (5, .ref (ra z7)), (4, .ref (ra j)), (0, .ref y), (1, .int (nI i))]) hx hb dX8_join_302 hl (k := 0) rfl (nI_1 ii) (by decide) rfl (fun ls hl => ?_)
                                        refine lv_goto (tgt := 268) hx hb dX8_join_305 (by decide) ?_
                                        exact ihl H locs ls (ii + 1) cc (by omega) (lv_sub hl [0, 1, 2, 3, 4, 5, 6, 7] rfl) ⟨by omega, by omega⟩ (by rw [qLs_succ, List.filter_append, List.length_append, ← hcc, List.filter_cons, if_neg (by rw [hE, hx8]; decide)]; rfl) hP hS
                                      · replace c296 : ¬ 0 ≤ j8 := fun zq => c296 ((nI_leI (a := 0) (b := j8) (by omega) (by omega)).mpr zq)
                                        exfalso; omega
                                    · have hx8 := xHas_f (kd := (S j).1) (g := Gj) m8
                                      rw [← hLj] at hx8
                                      refine lv_if_ge (tgt := 302) hx hb dX8_join_296 (by decide) (fun c => absurd c (by decide)) (fun _ => ?_)
                                      refine lv_iinc (v := nI ((nj + cc) + 1)) (lv' := [(7, .int (nI ((nj + cc) + 1))), (9, .int (nI ii)), (8, .int (nI 0)), (6, .int (nI (nj + nz7))), (5, .ref (ra z7)), (4, .ref (ra j)), (0, .ref y), (1, .int (nI i))]) hx hb dX8_join_299 hl (k := 1) rfl (nI_1 (nj + cc)) (by decide) rfl (fun ls hl => ?_)
                                      refine lv_iinc (v := nI (ii + 1)) (lv' := [(9, .int (nI (ii + 1))), (7, .int (nI ((nj + cc) + 1))), (8, .int (nI 0)), (6, .int (nI (nj + nz7))), (5, .ref (ra z7)), (4, .ref (ra j)), (0, .ref y), (1, .int (nI i))]) hx hb dX8_join_302 hl (k := 1) rfl (nI_1 ii) (by decide) rfl (fun ls hl => ?_)
                                      refine lv_goto (tgt := 268) hx hb dX8_join_305 (by decide) ?_
                                      rw [Nat.add_assoc] at hl
                                      exact ihl H locs ls (ii + 1) (cc + 1) (by omega) (lv_sub hl [0, 1, 2, 3, 4, 5, 6, 7] rfl) ⟨by omega, by omega⟩ (by rw [qLs_succ, List.filter_append, List.length_append, ← hcc, List.filter_cons, if_pos (by rw [hx8]; simp)]; rfl) hP hS
                            · have hE : xEa (S j).1 = true := by rw [xkd_4 (hI j (by omega)).2.2 c105 c214 c255]; rfl
                              refine lv_iconst (v := nI 1) hx hb dX8_join_258 (by decide) ?_
                              refine lv_goto (tgt := 263) hx hb dX8_join_259 (by decide) ?_
                              refine lv_istore (lv' := [(8, .int (nI 1)), (7, .int (nI nj)), (6, .int (nI (nj + nz7))), (5, .ref (ra z7)), (4, .ref (ra j)), (0, .ref y), (1, .int (nI i)), (2, .int (nI j)), (3, .int (nI z7))]) hx hb dX8_join_263 hl (by decide) rfl (fun ls hl => ?_)
                              refine lv_iconst (v := nI 0) hx hb dX8_join_265 (by decide) ?_
                              refine lv_istore (lv' := [(9, .int (nI 0)), (8, .int (nI 1)), (7, .int (nI nj)), (6, .int (nI (nj + nz7))), (5, .ref (ra z7)), (4, .ref (ra j)), (0, .ref y), (1, .int (nI i)), (2, .int (nI j)), (3, .int (nI z7))]) hx hb dX8_join_266 hl (by decide) rfl (fun ls hl => ?_)
                              have eco : xCo (S j).1 nj nz7 = nj + nz7 := by unfold xCo; exact if_neg c214
                              refine (?_ : ∀ (t : Nat) (H : Heap) (locs : List Loc) (ls : Array Slot) (ii cc : Nat), nz7 - ii < t → lv_has ls 10 [(9, .int (nI ii)), (7, .int (nI (nj + cc))), (8, .int (nI 1)), (6, .int (nI (nj + nz7))), (5, .ref (ra z7)), (4, .ref (ra j)), (0, .ref y), (1, .int (nI i))] → ii ≤ nz7 ∧ cc ≤ ii → cc = ((qLs (S z7).1 Fz7 Gz7 ii).filter (fun p => xEa (S j).1 || !xHas (S j).2.1 p.1)).length → qP D N0 hv4 H → va_S (qA N0) s.heap H locs → W p l e _ s m _ below meth c H locs 0 0 _ (F0 m 268 ls [])) _ H locs ls 0 0 (Nat.lt_succ_self _) (lv_sub hl [0, 2, 1, 3, 4, 5, 6, 7] rfl) ⟨Nat.zero_le _, Nat.le_refl _⟩ rfl hP hS
                              clear hl hP hS
                              intro t
                              induction t with
                              | zero => intro H locs ls ii cc ht; exact absurd ht (Nat.not_lt_zero _)
                              | succ t ihl =>
                                intro H locs ls ii cc ht hl hii hcc hP hS
                                refine lv_iload hx hb dX8_join_268 (lv_at hl 0 rfl) ?_
                                refine lv_aload hx hb dX8_join_270 (lv_at hl 4 rfl) ?_
                                refine q_get C hP faz7 rfl inX7 3 (by decide) g1143 rfl dX8_join_272 ?_
                                refine lv_icmp_ge (tgt := 308) hx hb dX8_join_275 (by decide) (fun c275 => ?_) (fun c275 => ?_)
                                · replace c275 : nz7 ≤ ii := (nI_leI (a := nz7) (b := ii) (by omega) (by omega)).mp c275
                                  have eii : ii = nz7 := by omega
                                  rw [eii, ← hLz7] at hcc
                                  have ejc : xJc (xEa (S j).1) (S j).2.1 (S z7).2.1 = nj + cc := by unfold xJc; rw [hlj, ← hcc]
                                  clear ihl
                                  refine lv_aload_n hx hb dX8_join_308 rfl (lv_at hl 6 rfl) ?_
                                  refine lv_aload_n hx hb dX8_join_309 rfl (lv_at hl 6 rfl) ?_
                                  refine lv_iload hx hb dX8_join_310 (lv_at hl 1 rfl) ?_
                                  refine lv_iload hx hb dX8_join_312 (lv_at hl 3 rfl) ?_
                                  refine q_callV (rest := [.ref y]) C (c_X8_fits l D cy N0 hv4 y m0 (nj + cc) (nj + nz7) _ hY rfl (by omega) (by omega)) kX8_fits g1413 g1415 rfl gp61 g4 hP hS hY (by first | decide | omega) hl.1 rfl (by simp [q_catrf, q_cati, q_catl, q_cata, q_catn]) (by first | decide | omega) dX8_join_314 (fun q ce E h' H1 locs1 hE => hE.elim) (fun v hh27 H locs hq hP hS => ?_)
                                  obtain ⟨rfl, rfl⟩ := hq
                                  by_cases cf : (nj + cc) ≤ 1000 ∧ m0 + (nj + nz7) ≤ 20000
                                  · rw [if_pos cf]
                                    refine lv_iconst (v := nI 3) hx hb dX8_join_317 (by decide) ?_
                                    refine q_callV (rest := []) C (c_X8_good1 l D cy N0 hv4 y ms mb (ra 28) od pt fi re rc rs so ot cn la ro gr 0 ca (nI m0) ct fau cs ce rn (nI 3) hY) kX8_good g1249 g1251 rfl gp41 g4 hP hS hY (by first | decide | omega) hl.1 rfl (by decide) (by first | decide | omega) dX8_join_318 (fun q ce E h' H1 locs1 hE => hE.elim) (fun v hh28 H locs hq hP hS => ?_)
                                    obtain ⟨rfl, rfl⟩ := hq
                                    replace hP : qP D N0 (qs hv4 y (.inr (8, [.ref ms, .ref mb, .ref (ra 28), .int gr, .int 0, .int ca, .int (nI m0), .ref od, .ref pt, .int ct, .int fau, .ref fi, .ref re, .int cs, .ref rc, .ref rs, .ref so, .ref ot, .ref cn, .ref la, .int ce, .ref ro, .int rn]))) H := hP
                                    obtain ⟨hv18, ehv18⟩ : ∃ z : qH, z = qs hv4 y (.inr (8, [.ref ms, .ref mb, .ref (ra 28), .int gr, .int 0, .int ca, .int (nI m0), .ref od, .ref pt, .int ct, .int fau, .ref fi, .ref re, .int cs, .ref rc, .ref rs, .ref so, .ref ot, .ref cn, .ref la, .int ce, .ref ro, .int rn])) := ⟨_, rfl⟩
                                    rw [← ehv18] at hP
                                    have khv18 : ∀ b o, b ≠ y → hv4 b = some o → hv18 b = some o := by rw [ehv18]; exact fun b o nb hb => (qs_ne nb).trans hb
                                    replace hms := khv18 _ _ (fun q => by subst q; have := hms.symm.trans hY; first | cases this | simp at this) hms
                                    replace hmb := khv18 _ _ (fun q => by subst q; have := hmb.symm.trans hY; first | cases this | simp at this) hmb
                                    replace faw := khv18 _ _ (fun q => by have z9 := faw; rw [q] at z9; have := z9.symm.trans hY; first | cases this | simp at this) faw
                                    replace fkw := khv18 _ _ (fun q => by have z9 := fkw; rw [q] at z9; have := z9.symm.trans hY; first | cases this | simp at this) fkw
                                    replace fvw := khv18 _ _ (fun q => by have z9 := fvw; rw [q] at z9; have := z9.symm.trans hY; first | cases this | simp at this) fvw
                                    replace faj := khv18 _ _ (fun q => by have z9 := faj; rw [q] at z9; have := z9.symm.trans hY; first | cases this | simp at this) faj
                                    replace fkj := khv18 _ _ (fun q => by have z9 := fkj; rw [q] at z9; have := z9.symm.trans hY; first | cases this | simp at this) fkj
                                    replace fvj := khv18 _ _ (fun q => by have z9 := fvj; rw [q] at z9; have := z9.symm.trans hY; first | cases this | simp at this) fvj
                                    replace faz7 := khv18 _ _ (fun q => by have z9 := faz7; rw [q] at z9; have := z9.symm.trans hY; first | cases this | simp at this) faz7
                                    replace fkz7 := khv18 _ _ (fun q => by have z9 := fkz7; rw [q] at z9; have := z9.symm.trans hY; first | cases this | simp at this) fkz7
                                    replace fvz7 := khv18 _ _ (fun q => by have z9 := fvz7; rw [q] at z9; have := z9.symm.trans hY; first | cases this | simp at this) fvz7
                                    replace hY : hv18 y = some (.inr (8, [.ref ms, .ref mb, .ref (ra 28), .int gr, .int 0, .int ca, .int (nI m0), .ref od, .ref pt, .int ct, .int fau, .ref fi, .ref re, .int cs, .ref rc, .ref rs, .ref so, .ref ot, .ref cn, .ref la, .int ce, .ref ro, .int rn])) := by rw [ehv18]; exact qs_self
                                    clear ehv18
                                    replace fr := fun b o hb n1 n2 => khv18 b o n1 (fr b o hb n1 n2)
                                    refine lv_if_ne (tgt := 326) hx hb dX8_join_321 (by decide) (fun c321 => ?_) (fun c321 => ?_)
                                    · replace c321 : ¬ 1 = 0 := fun zq => c321 ((nI_eq (a := 1) (b := 0) (by omega) (by omega)).mpr zq)
                                      refine lv_aload hx hb dX8_join_326 (lv_at hl 5 rfl) ?_
                                      refine lv_aload_n hx hb dX8_join_328 rfl (lv_at hl 6 rfl) ?_
                                      refine q_get C hP hY rfl inX8 2 (by decide) g1169 rfl dX8_join_329 ?_
                                      refine q_callS (rest := []) C (c_X8_copy l D cy N0 hv18 (ra j) (rk j) (rv j) (S j).1 (nI (S j).2.2.1) (nI (S j).2.2.2) rwj nj Fj Gj (ra 28) (rk 28) (rv 28) kdw smw dpw rww nw fw gw ⟨hRj.1, hRj.2.1, hRj.2.2.1, faj, fkj, fvj⟩ ⟨hRw.1, hRw.2.1, hRw.2.2.1, faw, fkw, fvw⟩ apj (by omega)) kX8_copy g1257 g1258 hP hS (by first | decide | omega) hl.1 rfl (by decide) (by first | decide | omega) dX8_join_332 (fun q ce E h' H1 locs1 hE => hE.elim) (fun v hh29 H locs hq hP hS => ?_)
                                      obtain ⟨rfl, rfl⟩ := hq
                                      obtain ⟨hv19, ehv19⟩ : ∃ z : qH, z = qRh cy hv18 (ra 28) (rk 28) (rv 28) ((S j).1) (nI nj) (nI (S j).2.2.1) (nI (S j).2.2.2) rwj (qCp Fj fw nj) (qCp Gj gw nj) := ⟨_, rfl⟩
                                      rw [← ehv19] at hP
                                      have r9 : qRw cy hv19 (ra 28) (rk 28) (rv 28) ((S j).1) (nI nj) (nI (S j).2.2.1) (nI (S j).2.2.2) rwj (qCp Fj fw nj) (qCp Gj gw nj) := by rw [ehv19]; exact qRw.new (cy := cy) (h := hv18) (kd := kdw) (n := (nI nw)) (sm := smw) (dp := dpw) (rw := rww) (f := fw) (g := gw) ⟨hRw.1, hRw.2.1, hRw.2.2.1, faw, fkw, fvw⟩
                                      have khv19 : ∀ b o, qOf (ra 28) (rk 28) (rv 28) b → hv18 b = some o → hv19 b = some o := by rw [ehv19]; exact fun b o q hb => (qRh_o q.1 q.2.1 q.2.2).trans hb
                                      replace hY := khv19 _ _ ⟨fun q => by rw [q] at hY; have := faw.symm.trans hY; first | cases this | simp at this, fun q => by rw [q] at hY; have := fkw.symm.trans hY; first | cases this | simp at this, fun q => by rw [q] at hY; have := fvw.symm.trans hY; first | cases this | simp at this⟩ hY
                                      replace hms := khv19 _ _ ⟨fun q => by rw [q] at hms; have := faw.symm.trans hms; first | cases this | simp at this, fun q => by rw [q] at hms; have := fkw.symm.trans hms; first | cases this | simp at this, fun q => by rw [q] at hms; have := fvw.symm.trans hms; first | cases this | simp at this⟩ hms
                                      replace hmb := khv19 _ _ ⟨fun q => by rw [q] at hmb; have := faw.symm.trans hmb; first | cases this | simp at this, fun q => by rw [q] at hmb; have := fkw.symm.trans hmb; first | cases this | simp at this, fun q => by rw [q] at hmb; have := fvw.symm.trans hmb; first | cases this | simp at this⟩ hmb
                                      replace faj := khv19 _ _ apj.1 faj
                                      replace fkj := khv19 _ _ apj.2.1 fkj
                                      replace fvj := khv19 _ _ apj.2.2 fvj
                                      replace faz7 := khv19 _ _ apz7.1 faz7
                                      replace fkz7 := khv19 _ _ apz7.2.1 fkz7
                                      replace fvz7 := khv19 _ _ apz7.2.2 fvz7
                                      replace fr := fun b o hb n1 n2 => khv19 b o n2 (fr b o hb n1 n2)
                                      clear faw fkw fvw
                                      have faw := r9.2.2.2.1
                                      have fkw := r9.2.2.2.2.1
                                      have fvw := r9.2.2.2.2.2
                                      unfold qRb at faw
                                      unfold qJr at fkw fvw
                                      clear r9 ehv19
                                      have lw : qLs ((S j).1) (qCp Fj fw nj) (qCp Gj gw nj) nj = (S j).2.1 := by rw [qLs_cp]; exact hLj.symm
                                      refine lv_iconst (v := nI 0) hx hb dX8_join_335 (by decide) ?_
                                      refine lv_istore (lv' := [(9, .int (nI 0)), (7, .int (nI (nj + cc))), (8, .int (nI 1)), (6, .int (nI (nj + nz7))), (5, .ref (ra z7)), (4, .ref (ra j)), (0, .ref y), (1, .int (nI i))]) hx hb dX8_join_336 hl (by decide) rfl (fun ls hl => ?_)
                                      refine (?_ : ∀ (t : Nat) (H : Heap) (locs : List Loc) (ls : Array Slot) (hv0 : qH) (fW gW : Nat → Int64) (nW i2 : Nat), nz7 - i2 < t → hv0 y = some (.inr (8, [.ref ms, .ref mb, .ref (ra 28), .int gr, .int 0, .int ca, .int (nI m0), .ref od, .ref pt, .int ct, .int fau, .ref fi, .ref re, .int cs, .ref rc, .ref rs, .ref so, .ref ot, .ref cn, .ref la, .int ce, .ref ro, .int rn])) → hv0 ms = some (.inl (cy 5, 24, .inr (.inr (.inr (.inr (fun i => some (ra i))))))) → hv0 mb = some (.inl (cy 5, 4, .inr (.inr (.inr (.inr (fun i => some (ra (24 + i)))))))) → hv0 (ra 28) = some (.inr (7, [.ref (rk 28), .ref (rv 28), .int (S j).1, .int (nI nW), .int (nI (S j).2.2.1), .int (nI (S j).2.2.2), .int rwj])) → hv0 (rk 28) = some (.inl (cy 1, 1001, .inr (.inl fW))) → hv0 (rv 28) = some (.inl (cy 1, 1001, .inr (.inl gW))) → hv0 (ra j) = some (.inr (7, [.ref (rk j), .ref (rv j), .int (S j).1, .int (nI nj), .int (nI (S j).2.2.1), .int (nI (S j).2.2.2), .int rwj])) → hv0 (rk j) = some (.inl (cy 1, 1001, .inr (.inl Fj))) → hv0 (rv j) = some (.inl (cy 1, 1001, .inr (.inl Gj))) → hv0 (ra z7) = some (.inr (7, [.ref (rk z7), .ref (rv z7), .int (S z7).1, .int (nI nz7), .int (nI (S z7).2.2.1), .int (nI (S z7).2.2.2), .int rwz7])) → hv0 (rk z7) = some (.inl (cy 1, 1001, .inr (.inl Fz7))) → hv0 (rv z7) = some (.inl (cy 1, 1001, .inr (.inl Gz7))) → (∀ b o, h b = some o → b ≠ y → qOf (ra 28) (rk 28) (rv 28) b → hv0 b = some o) → qLs (S j).1 fW gW nW = xJn (S j).1 (xEa (S j).1) (S j).2.1 (qLs (S z7).1 Fz7 Gz7 i2) → nW ≤ 1000 ∧ i2 ≤ nz7 → lv_has ls 10 [(9, .int (nI i2)), (8, .int (nI 1)), (6, .int (nI (nj + nz7))), (5, .ref (ra z7)), (0, .ref y), (1, .int (nI i))] → qP D N0 hv0 H → va_S (qA N0) s.heap H locs → W p l e _ s m _ below meth c H locs 0 0 _ (F0 m 338 ls [])) _ H locs ls hv19 (qCp Fj fw nj) (qCp Gj gw nj) nj 0 (Nat.lt_succ_self _) hY hms hmb faw fkw fvw faj fkj fvj faz7 fkz7 fvz7 fr lw ⟨by omega, Nat.zero_le _⟩ (lv_sub hl [0, 2, 3, 4, 6, 7] rfl) hP hS
                                      clear hl hP hS
                                      intro t
                                      induction t with
                                      | zero => intro H locs ls hv0 fW gW nW i2 ht; exact absurd ht (Nat.not_lt_zero _)
                                      | succ t ihl =>
                                        intro H locs ls hv0 fW gW nW i2 ht hY hms hmb faw fkw fvw faj fkj fvj faz7 fkz7 fvz7 fr lw hnW hl hP hS
                                        have hok : qOk (S j).1 (xJn (S j).1 (xEa (S j).1) (S j).2.1 (qLs (S z7).1 Fz7 Gz7 i2)) := xJn_ok xEa_or _ _ (hI j (by omega))
                                        refine lv_iload hx hb dX8_join_338 (lv_at hl 0 rfl) ?_
                                        refine lv_aload hx hb dX8_join_340 (lv_at hl 3 rfl) ?_
                                        refine q_get C hP faz7 rfl inX7 3 (by decide) g1143 rfl dX8_join_342 ?_
                                        refine lv_icmp_ge (tgt := 379) hx hb dX8_join_345 (by decide) (fun c345 => ?_) (fun c345 => ?_)
                                        · replace c345 : nz7 ≤ i2 := (nI_leI (a := nz7) (b := i2) (by omega) (by omega)).mp c345
                                          have ei2 : i2 = nz7 := by omega
                                          rw [ei2, ← hLz7] at lw
                                          clear ihl
                                          refine lv_iconst (v := nI 0) hx hb dX8_join_379 (by decide) ?_
                                          refine lv_istore (lv' := [(9, .int (nI 0)), (8, .int (nI 1)), (6, .int (nI (nj + nz7))), (5, .ref (ra z7)), (0, .ref y), (1, .int (nI i))]) hx hb dX8_join_380 hl (by decide) rfl (fun ls hl => ?_)
                                          refine (?_ : ∀ (t : Nat) (H : Heap) (locs : List Loc) (ls : Array Slot) (hv0 : qH) (i3 : Nat), nz7 - i3 < t → hv0 y = some (.inr (8, [.ref ms, .ref mb, .ref (ra 28), .int gr, .int 0, .int ca, .int (nI m0), .ref od, .ref pt, .int ct, .int fau, .ref fi, .ref re, .int cs, .ref rc, .ref rs, .ref so, .ref ot, .ref cn, .ref la, .int ce, .ref ro, .int rn])) → hv0 ms = some (.inl (cy 5, 24, .inr (.inr (.inr (.inr (fun i => some (ra i))))))) → hv0 mb = some (.inl (cy 5, 4, .inr (.inr (.inr (.inr (fun i => some (ra (24 + i)))))))) → hv0 (ra 28) = some (.inr (7, [.ref (rk 28), .ref (rv 28), .int (S j).1, .int (nI nW), .int (nI (S j).2.2.1), .int (nI (S j).2.2.2), .int rwj])) → hv0 (rk 28) = some (.inl (cy 1, 1001, .inr (.inl fW))) → hv0 (rv 28) = some (.inl (cy 1, 1001, .inr (.inl gW))) → hv0 (ra j) = some (.inr (7, [.ref (rk j), .ref (rv j), .int (S j).1, .int (nI nj), .int (nI (S j).2.2.1), .int (nI (S j).2.2.2), .int rwj])) → hv0 (rk j) = some (.inl (cy 1, 1001, .inr (.inl Fj))) → hv0 (rv j) = some (.inl (cy 1, 1001, .inr (.inl Gj))) → hv0 (ra z7) = some (.inr (7, [.ref (rk z7), .ref (rv z7), .int (S z7).1, .int (nI nz7), .int (nI (S z7).2.2.1), .int (nI (S z7).2.2.2), .int rwz7])) → hv0 (rk z7) = some (.inl (cy 1, 1001, .inr (.inl Fz7))) → hv0 (rv z7) = some (.inl (cy 1, 1001, .inr (.inl Gz7))) → (∀ b o, h b = some o → b ≠ y → qOf (ra 28) (rk 28) (rv 28) b → hv0 b = some o) → (∀ q9, q9 < i3 → ¬ (16 < xAl gr (xJn (S j).1 (xEa (S j).1) (S j).2.1 (S z7).2.1) (Fz7 q9) ∧ ((S j).1 = 1 ∨ (S j).1 = 2))) → i3 ≤ nz7 → lv_has ls 10 [(9, .int (nI i3)), (6, .int (nI (nj + nz7))), (5, .ref (ra z7)), (0, .ref y), (1, .int (nI i))] → qP D N0 hv0 H → va_S (qA N0) s.heap H locs → W p l e _ s m _ below meth c H locs 0 0 _ (F0 m 382 ls [])) _ H locs ls hv0 0 (Nat.lt_succ_self _) hY hms hmb faw fkw fvw faj fkj fvj faz7 fkz7 fvz7 fr (fun q9 z => absurd z (Nat.not_lt_zero _)) (Nat.zero_le _) (lv_sub hl [0, 2, 3, 4, 5] rfl) hP hS
                                          clear hl hP hS
                                          intro t
                                          induction t with
                                          | zero => intro H locs ls hv0 i3 ht; exact absurd ht (Nat.not_lt_zero _)
                                          | succ t ihl =>
                                            intro H locs ls hv0 i3 ht hY hms hmb faw fkw fvw faj fkj fvj faz7 fkz7 fvz7 fr hcr hi3 hl hP hS
                                            refine lv_iload hx hb dX8_join_382 (lv_at hl 0 rfl) ?_
                                            refine lv_aload hx hb dX8_join_384 (lv_at hl 2 rfl) ?_
                                            refine q_get C hP faz7 rfl inX7 3 (by decide) g1143 rfl dX8_join_386 ?_
                                            refine lv_icmp_ge (tgt := 432) hx hb dX8_join_389 (by decide) (fun c389 => ?_) (fun c389 => ?_)
                                            · replace c389 : nz7 ≤ i3 := (nI_leI (a := nz7) (b := i3) (by omega) (by omega)).mp c389
                                              refine lv_aload_n hx hb dX8_join_432 rfl (lv_at hl 3 rfl) ?_
                                              refine lv_iload_n hx hb dX8_join_433 rfl (lv_at hl 4 rfl) ?_
                                              refine lv_iload hx hb dX8_join_434 (lv_at hl 1 rfl) ?_
                                              obtain ⟨ni, rwi, Fi, Gi, hRi, hni, hLi, hKi⟩ := hrs i (by omega)
                                              have api := hRi.apart hRw (hmd.two (i := i) (j := 28) (by omega) (by omega) (by omega))
                                              replace hRi := hRi.keep2 (fun b o hb ho => fr b o ho (hRi.ney hY0 hb) (hb.elim (fun q => q ▸ api.1) (fun hb => hb.elim (fun q => q ▸ api.2.1) (fun q => q ▸ api.2.2))))
                                              have fai := hRi.2.2.2.1
                                              have fki := hRi.2.2.2.2.1
                                              have fvi := hRi.2.2.2.2.2
                                              unfold qRb at fai
                                              unfold qJr at fki fvi
                                              refine q_callV (rest := []) C (c_X8_done l D cy N0 hv0 y ms mb od pt fi re rc rs so ot cn la ro gr 0 ca (nI m0) ct fau cs ce rn ra rk rv i (nI (nj + nz7)) (S j).1 (nI (S j).2.2.1) (nI (S j).2.2.2) rwj nW fW gW (S i).1 (nI (S i).2.2.1) (nI (S i).2.2.2) rwi ni Fi Gi hY hms hmd ⟨hRw.1, hRw.2.1, hRw.2.2.1, faw, fkw, fvw⟩ ⟨hRi.1, hRi.2.1, hRi.2.2.1, fai, fki, fvi⟩ (by omega) (by omega)) kX8_done g1293 g1295 rfl gp45 g4 hP hS hY (by first | decide | omega) hl.1 rfl (by decide) (by first | decide | omega) dX8_join_436 (fun q ce E h' H1 locs1 hE => hE.elim) (fun v hh30 H locs hq hP hS => ?_)
                                              obtain ⟨rfl, hY9, hw9, hi9, fr9⟩ := hq
                                              replace fr := fun b o hb n1 n2 n3 => fr9 b o (fr b o hb n1 n2) n1 n2 n3
                                              rw [nI_add] at hY9
                                              have hno : ¬ (S z7).2.1.any (fun p => decide (16 < xAl gr (xJn (S j).1 (xEa (S j).1) (S j).2.1 (S z7).2.1) p.1 ∧ ((S j).1 = 1 ∨ (S j).1 = 2))) = true := fun z => by obtain ⟨p, hp, z⟩ := List.any_eq_true.mp z; rw [hLz7] at hp; obtain ⟨q9, hq9, rfl⟩ := List.mem_map.mp hp; exact hcr q9 (by have := List.mem_range.mp hq9; omega) (of_decide_eq_true z)
                                              have el : (xJn (S j).1 (xEa (S j).1) (S j).2.1 (S z7).2.1).length = nW := by rw [← lw, qLs_len]
                                              obtain ⟨m9, f9⟩ := hM.fin hY0 (i := i) (by omega) (s := ((S j).1, (xJn (S j).1 (xEa (S j).1) (S j).2.1 (S z7).2.1), (S j).2.2.1, (S j).2.2.2)) ⟨nW, _, _, _, hi9, by omega, by rw [qLs_cp]; exact lw.symm, Or.inl rfl⟩ hw9 fr
                                              have eX : X = (0, nI nW, qU S i ((S j).1, (xJn (S j).1 (xEa (S j).1) (S j).2.1 (S z7).2.1), (S j).2.2), oMv (ms, mb, ra 28, od, pt, ro, gr, cd, ca, nI m0, ct, fau, rn) (nI (m0 + (nj + nz7))), a, k) := by rw [← hX]; unfold xs_join; rw [if_neg (by rw [ebi, ebj, ebz7]; decide), ecj, ecz7, if_neg (fun z => z.elim c44 (fun z => z c65)), eci]; unfold xr_join; dsimp only; rw [if_neg c105, ejc, show oMq (ms, mb, ra 28, od, pt, ro, gr, cd, ca, nI m0, ct, fau, rn) = nI m0 from rfl, ecm, hlj, hlz7, eco, if_neg (by omega), if_neg hno, el, nI_add]
                                              obtain ⟨q9, r9⟩ := hQ.rowM (o' := oCd (oMv (ms, mb, ra 28, od, pt, ro, gr, cd, ca, nI m0, ct, fau, rn) (nI (m0 + (nj + nz7)))) 0) hY0 hY9 m9 f9 ⟨rfl, rfl, rfl, rfl, rfl, rfl⟩
                                              exact q_iret C hP hS ⟨by rw [eX], A, by rw [eX]; exact q9, r9⟩ (by omega) dX8_join_439
                                            · replace c389 : ¬ nz7 ≤ i3 := fun zq => c389 ((nI_leI (a := nz7) (b := i3) (by omega) (by omega)).mpr zq)
                                              refine lv_aload_n hx hb dX8_join_392 rfl (lv_at hl 3 rfl) ?_
                                              refine lv_aload_n hx hb dX8_join_393 rfl (lv_at hl 3 rfl) ?_
                                              refine lv_aload_n hx hb dX8_join_394 rfl (lv_at hl 3 rfl) ?_
                                              refine q_get C hP hY rfl inX8 2 (by decide) g1169 rfl dX8_join_395 ?_
                                              refine lv_aload hx hb dX8_join_398 (lv_at hl 2 rfl) ?_
                                              refine q_get C hP faz7 rfl inX7 0 (by decide) g1138 rfl dX8_join_400 ?_
                                              refine lv_iload hx hb dX8_join_403 (lv_at hl 0 rfl) ?_
                                              refine q_laldN C hP fkz7 (by omega) (by omega) dX8_join_405 ?_
                                              refine q_callV (rest := [.ref y]) C (c_X8_crowded l D cy N0 hv0 y ms mb (ra 28) od pt fi re rc rs so ot cn la ro gr 0 ca (nI m0) ct fau cs ce rn (ra 28) (rk 28) (rv 28) ((S j).1) (nI (S j).2.2.1) (nI (S j).2.2.2) rwj nW fW gW (Fz7 i3) hY ⟨hRw.1, hRw.2.1, hRw.2.2.1, faw, fkw, fvw⟩ (by omega)) kX8_crowded g1285 g1287 rfl gp43 g4 hP hS hY (by first | decide | omega) hl.1 rfl (by simp [q_catrf, q_cati, q_catl, q_cata, q_catn]) (by first | decide | omega) dX8_join_406 (fun q ce E h' H1 locs1 hE => hE.elim) (fun v hh31 H locs hq hP hS => ?_)
                                              obtain ⟨rfl, rfl⟩ := hq
                                              rw [xAl_row (kd := (S j).1) (g := gW), lw]
                                              by_cases cr : 16 < xAl gr (xJn (S j).1 (xEa (S j).1) (S j).2.1 (S z7).2.1) (Fz7 i3) ∧ (((S j).1) = 1 ∨ ((S j).1) = 2)
                                              · rw [if_pos cr]
                                                refine lv_if_ne (tgt := 416) hx hb dX8_join_409 (by decide) (fun c409 => ?_) (fun c409 => ?_)
                                                · replace c409 : ¬ 1 = 0 := fun zq => c409 ((nI_eq (a := 1) (b := 0) (by omega) (by omega)).mpr zq)
                                                  refine lv_iconst (v := nI 0) hx hb dX8_join_416 (by decide) ?_
                                                  refine lv_iconst (v := nI 3) hx hb dX8_join_417 (by decide) ?_
                                                  refine q_callV (rest := []) C (c_X8_good0 l D cy N0 hv0 y ms mb (ra 28) od pt fi re rc rs so ot cn la ro gr 0 ca (nI m0) ct fau cs ce rn (nI 3) hY) kX8_good g1249 g1251 rfl gp41 g4 hP hS hY (by first | decide | omega) hl.1 rfl (by decide) (by first | decide | omega) dX8_join_418 (fun q ce E h' H1 locs1 hE => hE.elim) (fun v hh32 H locs hq hP hS => ?_)
                                                  obtain ⟨rfl, rfl⟩ := hq
                                                  replace hP : qP D N0 (qs hv0 y (.inr (8, [.ref ms, .ref mb, .ref (ra 28), .int gr, .int (nI 3), .int ca, .int (nI m0), .ref od, .ref pt, .int ct, .int fau, .ref fi, .ref re, .int cs, .ref rc, .ref rs, .ref so, .ref ot, .ref cn, .ref la, .int ce, .ref ro, .int rn]))) H := hP
                                                  obtain ⟨hv20, ehv20⟩ : ∃ z : qH, z = qs hv0 y (.inr (8, [.ref ms, .ref mb, .ref (ra 28), .int gr, .int (nI 3), .int ca, .int (nI m0), .ref od, .ref pt, .int ct, .int fau, .ref fi, .ref re, .int cs, .ref rc, .ref rs, .ref so, .ref ot, .ref cn, .ref la, .int ce, .ref ro, .int rn])) := ⟨_, rfl⟩
                                                  rw [← ehv20] at hP
                                                  have khv20 : ∀ b o, b ≠ y → hv0 b = some o → hv20 b = some o := by rw [ehv20]; exact fun b o nb hb => (qs_ne nb).trans hb
                                                  replace hms := khv20 _ _ (fun q => by subst q; have := hms.symm.trans hY; first | cases this | simp at this) hms
                                                  replace hmb := khv20 _ _ (fun q => by subst q; have := hmb.symm.trans hY; first | cases this | simp at this) hmb
                                                  replace faw := khv20 _ _ (fun q => by have z9 := faw; rw [q] at z9; have := z9.symm.trans hY; first | cases this | simp at this) faw
                                                  replace fkw := khv20 _ _ (fun q => by have z9 := fkw; rw [q] at z9; have := z9.symm.trans hY; first | cases this | simp at this) fkw
                                                  replace fvw := khv20 _ _ (fun q => by have z9 := fvw; rw [q] at z9; have := z9.symm.trans hY; first | cases this | simp at this) fvw
                                                  replace faj := khv20 _ _ (fun q => by have z9 := faj; rw [q] at z9; have := z9.symm.trans hY; first | cases this | simp at this) faj
                                                  replace fkj := khv20 _ _ (fun q => by have z9 := fkj; rw [q] at z9; have := z9.symm.trans hY; first | cases this | simp at this) fkj
                                                  replace fvj := khv20 _ _ (fun q => by have z9 := fvj; rw [q] at z9; have := z9.symm.trans hY; first | cases this | simp at this) fvj
                                                  replace faz7 := khv20 _ _ (fun q => by have z9 := faz7; rw [q] at z9; have := z9.symm.trans hY; first | cases this | simp at this) faz7
                                                  replace fkz7 := khv20 _ _ (fun q => by have z9 := fkz7; rw [q] at z9; have := z9.symm.trans hY; first | cases this | simp at this) fkz7
                                                  replace fvz7 := khv20 _ _ (fun q => by have z9 := fvz7; rw [q] at z9; have := z9.symm.trans hY; first | cases this | simp at this) fvz7
                                                  replace hY : hv20 y = some (.inr (8, [.ref ms, .ref mb, .ref (ra 28), .int gr, .int (nI 3), .int ca, .int (nI m0), .ref od, .ref pt, .int ct, .int fau, .ref fi, .ref re, .int cs, .ref rc, .ref rs, .ref so, .ref ot, .ref cn, .ref la, .int ce, .ref ro, .int rn])) := by rw [ehv20]; exact qs_self
                                                  clear ehv20
                                                  replace fr := fun b o hb n1 n2 => khv20 b o n1 (fr b o hb n1 n2)
                                                  refine lv_if_ne (tgt := 426) hx hb dX8_join_421 (by decide) (fun c421 => ?_) (fun c421 => ?_)
                                                  · replace c421 : ¬ 0 = 0 := fun zq => c421 ((nI_eq (a := 0) (b := 0) (by omega) (by omega)).mpr zq)
                                                    exfalso; omega
                                                  · replace c421 : 0 = 0 := (nI_eq (a := 0) (b := 0) (by omega) (by omega)).mp c421
                                                    refine lv_iconst (v := nI 0) hx hb dX8_join_424 (by decide) ?_
                                                    have hyes : (S z7).2.1.any (fun p => decide (16 < xAl gr (xJn (S j).1 (xEa (S j).1) (S j).2.1 (S z7).2.1) p.1 ∧ ((S j).1 = 1 ∨ (S j).1 = 2))) = true := List.any_eq_true.mpr ⟨(Fz7 i3, xV (S z7).1 (Gz7 i3)), hLz7 ▸ List.mem_of_getElem? (qLs_get2 (show i3 < nz7 by omega)), decide_eq_true cr⟩
                                                    have eX : X = (3, 0, S, (ms, mb, ra 28, od, pt, ro, gr, cd, ca, nI m0, ct, fau, rn), a, k) := by rw [← hX]; unfold xs_join; rw [if_neg (by rw [ebi, ebj, ebz7]; decide), ecj, ecz7, if_neg (fun z => z.elim c44 (fun z => z c65)), eci]; unfold xr_join; dsimp only; rw [if_neg c105, ejc, show oMq (ms, mb, ra 28, od, pt, ro, gr, cd, ca, nI m0, ct, fau, rn) = nI m0 from rfl, ecm, hlj, hlz7, eco, if_neg (by omega), if_pos hyes]
                                                    obtain ⟨m8, f8⟩ := hM.fin0 hY0 (h' := hv20) ⟨hRw.1, hRw.2.1, hRw.2.2.1, faw, fkw, fvw⟩ fr
                                                    obtain ⟨q8, r8⟩ := hQ.rowM (o' := oCd (ms, mb, ra 28, od, pt, ro, gr, cd, ca, nI m0, ct, fau, rn) 3) hY0 hY m8 f8 ⟨rfl, rfl, rfl, rfl, rfl, rfl⟩
                                                    exact q_iret C hP hS ⟨by rw [eX]; rfl, A, by rw [eX]; exact q8, r8⟩ (by omega) dX8_join_425
                                                · replace c409 : 1 = 0 := (nI_eq (a := 1) (b := 0) (by omega) (by omega)).mp c409
                                                  exfalso; omega
                                              · rw [if_neg cr]
                                                refine lv_if_ne (tgt := 416) hx hb dX8_join_409 (by decide) (fun c409 => ?_) (fun c409 => ?_)
                                                · replace c409 : ¬ 0 = 0 := fun zq => c409 ((nI_eq (a := 0) (b := 0) (by omega) (by omega)).mpr zq)
                                                  exfalso; omega
                                                · replace c409 : 0 = 0 := (nI_eq (a := 0) (b := 0) (by omega) (by omega)).mp c409
                                                  refine lv_iconst (v := nI 1) hx hb dX8_join_412 (by decide) ?_
                                                  refine lv_goto (tgt := 417) hx hb dX8_join_413 (by decide) ?_
                                                  refine lv_iconst (v := nI 3) hx hb dX8_join_417 (by decide) ?_
                                                  refine q_callV (rest := []) C (c_X8_good1 l D cy N0 hv0 y ms mb (ra 28) od pt fi re rc rs so ot cn la ro gr 0 ca (nI m0) ct fau cs ce rn (nI 3) hY) kX8_good g1249 g1251 rfl gp41 g4 hP hS hY (by first | decide | omega) hl.1 rfl (by decide) (by first | decide | omega) dX8_join_418 (fun q ce E h' H1 locs1 hE => hE.elim) (fun v hh33 H locs hq hP hS => ?_)
                                                  obtain ⟨rfl, rfl⟩ := hq
                                                  replace hP : qP D N0 (qs hv0 y (.inr (8, [.ref ms, .ref mb, .ref (ra 28), .int gr, .int 0, .int ca, .int (nI m0), .ref od, .ref pt, .int ct, .int fau, .ref fi, .ref re, .int cs, .ref rc, .ref rs, .ref so, .ref ot, .ref cn, .ref la, .int ce, .ref ro, .int rn]))) H := hP
                                                  obtain ⟨hv21, ehv21⟩ : ∃ z : qH, z = qs hv0 y (.inr (8, [.ref ms, .ref mb, .ref (ra 28), .int gr, .int 0, .int ca, .int (nI m0), .ref od, .ref pt, .int ct, .int fau, .ref fi, .ref re, .int cs, .ref rc, .ref rs, .ref so, .ref ot, .ref cn, .ref la, .int ce, .ref ro, .int rn])) := ⟨_, rfl⟩
                                                  rw [← ehv21] at hP
                                                  have khv21 : ∀ b o, b ≠ y → hv0 b = some o → hv21 b = some o := by rw [ehv21]; exact fun b o nb hb => (qs_ne nb).trans hb
                                                  replace hms := khv21 _ _ (fun q => by subst q; have := hms.symm.trans hY; first | cases this | simp at this) hms
                                                  replace hmb := khv21 _ _ (fun q => by subst q; have := hmb.symm.trans hY; first | cases this | simp at this) hmb
                                                  replace faw := khv21 _ _ (fun q => by have z9 := faw; rw [q] at z9; have := z9.symm.trans hY; first | cases this | simp at this) faw
                                                  replace fkw := khv21 _ _ (fun q => by have z9 := fkw; rw [q] at z9; have := z9.symm.trans hY; first | cases this | simp at this) fkw
                                                  replace fvw := khv21 _ _ (fun q => by have z9 := fvw; rw [q] at z9; have := z9.symm.trans hY; first | cases this | simp at this) fvw
                                                  replace faj := khv21 _ _ (fun q => by have z9 := faj; rw [q] at z9; have := z9.symm.trans hY; first | cases this | simp at this) faj
                                                  replace fkj := khv21 _ _ (fun q => by have z9 := fkj; rw [q] at z9; have := z9.symm.trans hY; first | cases this | simp at this) fkj
                                                  replace fvj := khv21 _ _ (fun q => by have z9 := fvj; rw [q] at z9; have := z9.symm.trans hY; first | cases this | simp at this) fvj
                                                  replace faz7 := khv21 _ _ (fun q => by have z9 := faz7; rw [q] at z9; have := z9.symm.trans hY; first | cases this | simp at this) faz7
                                                  replace fkz7 := khv21 _ _ (fun q => by have z9 := fkz7; rw [q] at z9; have := z9.symm.trans hY; first | cases this | simp at this) fkz7
                                                  replace fvz7 := khv21 _ _ (fun q => by have z9 := fvz7; rw [q] at z9; have := z9.symm.trans hY; first | cases this | simp at this) fvz7
                                                  replace hY : hv21 y = some (.inr (8, [.ref ms, .ref mb, .ref (ra 28), .int gr, .int 0, .int ca, .int (nI m0), .ref od, .ref pt, .int ct, .int fau, .ref fi, .ref re, .int cs, .ref rc, .ref rs, .ref so, .ref ot, .ref cn, .ref la, .int ce, .ref ro, .int rn])) := by rw [ehv21]; exact qs_self
                                                  clear ehv21
                                                  replace fr := fun b o hb n1 n2 => khv21 b o n1 (fr b o hb n1 n2)
                                                  refine lv_if_ne (tgt := 426) hx hb dX8_join_421 (by decide) (fun c421 => ?_) (fun c421 => ?_)
                                                  · replace c421 : ¬ 1 = 0 := fun zq => c421 ((nI_eq (a := 1) (b := 0) (by omega) (by omega)).mpr zq)
                                                    refine lv_iinc (v := nI (i3 + 1)) (lv' := [(9, .int (nI (i3 + 1))), (6, .int (nI (nj + nz7))), (5, .ref (ra z7)), (0, .ref y), (1, .int (nI i))]) hx hb dX8_join_426 hl (k := 0) rfl (nI_1 i3) (by decide) rfl (fun ls hl => ?_)
                                                    refine lv_goto (tgt := 382) hx hb dX8_join_429 (by decide) ?_
                                                    exact ihl H locs ls hv21 (i3 + 1) (by omega) hY hms hmb faw fkw fvw faj fkj fvj faz7 fkz7 fvz7 fr (fun q9 z => if e : q9 = i3 then by (subst e; exact cr) else hcr q9 (by omega)) (by omega) (lv_sub hl [0, 1, 2, 3, 4] rfl) hP hS
                                                  · replace c421 : 1 = 0 := (nI_eq (a := 1) (b := 0) (by omega) (by omega)).mp c421
                                                    exfalso; omega
                                        · replace c345 : ¬ nz7 ≤ i2 := fun zq => c345 ((nI_leI (a := nz7) (b := i2) (by omega) (by omega)).mpr zq)
                                          refine lv_aload_n hx hb dX8_join_348 rfl (lv_at hl 4 rfl) ?_
                                          refine q_get C hP hY rfl inX8 2 (by decide) g1169 rfl dX8_join_349 ?_
                                          refine lv_aload hx hb dX8_join_352 (lv_at hl 3 rfl) ?_
                                          refine q_get C hP faz7 rfl inX7 0 (by decide) g1138 rfl dX8_join_354 ?_
                                          refine lv_iload hx hb dX8_join_357 (lv_at hl 0 rfl) ?_
                                          refine q_laldN C hP fkz7 (by omega) (by omega) dX8_join_359 ?_
                                          refine lv_aload hx hb dX8_join_360 (lv_at hl 3 rfl) ?_
                                          refine q_get C hP faz7 rfl inX7 1 (by decide) g1140 rfl dX8_join_362 ?_
                                          refine lv_iload hx hb dX8_join_365 (lv_at hl 0 rfl) ?_
                                          refine q_laldN C hP fvz7 (by omega) (by omega) dX8_join_367 ?_
                                          refine lv_iload hx hb dX8_join_368 (lv_at hl 1 rfl) ?_
                                          refine q_callS (rest := []) C (c_X8_put l D cy N0 hv0 (ra 28) (rk 28) (rv 28) ((S j).1) (nI (S j).2.2.1) (nI (S j).2.2.2) rwj nW fW gW (Fz7 i2) (Gz7 i2) 1 ⟨hRw.1, hRw.2.1, hRw.2.2.1, faw, fkw, fvw⟩ (by omega) (by decide)) kX8_put g1276 g1277 hP hS (by first | decide | omega) hl.1 rfl (by decide) (by first | decide | omega) dX8_join_370 (fun q ce E h' H1 locs1 hE => hE.elim) (fun v hh34 H locs hq hP hS => ?_)
                                          obtain ⟨rfl, hq⟩ := hq
                                          rcases hq with ⟨hz9, j9, hj9, e9, m9, rfl⟩ | ⟨hno9, p9, hp9, hs9, ht9, rfl⟩
                                          · exact absurd hz9 (by decide)
                                          · obtain ⟨hv22, ehv22⟩ : ∃ z : qH, z = qRh cy hv0 (ra 28) (rk 28) (rv 28) ((S j).1) (nI (nW + 1)) (nI (S j).2.2.1) (nI (S j).2.2.2) rwj (vp_updL (qSh fW p9 nW) p9 (Fz7 i2)) (vp_updL (qSh gW p9 nW) p9 (Gz7 i2)) := ⟨_, rfl⟩
                                            rw [← ehv22] at hP
                                            have r9 : qRw cy hv22 (ra 28) (rk 28) (rv 28) ((S j).1) (nI (nW + 1)) (nI (S j).2.2.1) (nI (S j).2.2.2) rwj (vp_updL (qSh fW p9 nW) p9 (Fz7 i2)) (vp_updL (qSh gW p9 nW) p9 (Gz7 i2)) := by rw [ehv22]; exact qRw.new (cy := cy) (h := hv0) (kd := (S j).1) (n := (nI nW)) (sm := (nI (S j).2.2.1)) (dp := (nI (S j).2.2.2)) (rw := rwj) (f := fW) (g := gW) ⟨hRw.1, hRw.2.1, hRw.2.2.1, faw, fkw, fvw⟩
                                            have khv22 : ∀ b o, qOf (ra 28) (rk 28) (rv 28) b → hv0 b = some o → hv22 b = some o := by rw [ehv22]; exact fun b o q hb => (qRh_o q.1 q.2.1 q.2.2).trans hb
                                            replace hY := khv22 _ _ ⟨fun q => by rw [q] at hY; have := faw.symm.trans hY; first | cases this | simp at this, fun q => by rw [q] at hY; have := fkw.symm.trans hY; first | cases this | simp at this, fun q => by rw [q] at hY; have := fvw.symm.trans hY; first | cases this | simp at this⟩ hY
                                            replace hms := khv22 _ _ ⟨fun q => by rw [q] at hms; have := faw.symm.trans hms; first | cases this | simp at this, fun q => by rw [q] at hms; have := fkw.symm.trans hms; first | cases this | simp at this, fun q => by rw [q] at hms; have := fvw.symm.trans hms; first | cases this | simp at this⟩ hms
                                            replace hmb := khv22 _ _ ⟨fun q => by rw [q] at hmb; have := faw.symm.trans hmb; first | cases this | simp at this, fun q => by rw [q] at hmb; have := fkw.symm.trans hmb; first | cases this | simp at this, fun q => by rw [q] at hmb; have := fvw.symm.trans hmb; first | cases this | simp at this⟩ hmb
                                            replace faj := khv22 _ _ apj.1 faj
                                            replace fkj := khv22 _ _ apj.2.1 fkj
                                            replace fvj := khv22 _ _ apj.2.2 fvj
                                            replace faz7 := khv22 _ _ apz7.1 faz7
                                            replace fkz7 := khv22 _ _ apz7.2.1 fkz7
                                            replace fvz7 := khv22 _ _ apz7.2.2 fvz7
                                            replace fr := fun b o hb n1 n2 => khv22 b o n2 (fr b o hb n1 n2)
                                            clear faw fkw fvw
                                            have faw := r9.2.2.2.1
                                            have fkw := r9.2.2.2.2.1
                                            have fvw := r9.2.2.2.2.2
                                            unfold qRb at faw
                                            unfold qJr at fkw fvw
                                            clear r9 ehv22
                                            replace lw : qLs ((S j).1) (vp_updL (qSh fW p9 nW) p9 (Fz7 i2)) (vp_updL (qSh gW p9 nW) p9 (Gz7 i2)) (nW + 1) = xPut ((S j).1) (xEa (S j).1) (xJn (S j).1 (xEa (S j).1) (S j).2.1 (qLs (S z7).1 Fz7 Gz7 i2)) (Fz7 i2) (xV ((S j).1) (Gz7 i2)) := by
                                              rw [xPut, if_neg (fun q => by rw [hE] at q; cases q.1), qLs_ins hp9]
                                              by_cases z9 : ((S j).1) = 3 ∨ ((S j).1) = 5
                                              · rw [if_pos z9, ← lw]; exact xSi_row (lw ▸ hok.1 z9) hp9 (hs9 z9).1 (hs9 z9).2
                                              · rw [if_neg z9, ht9 z9, lw, List.take_of_length_le (by rw [← lw, qLs_len]; omega), List.drop_of_length_le (by rw [← lw, qLs_len]; omega)]
                                            refine lv_iinc (v := nI (i2 + 1)) (lv' := [(9, .int (nI (i2 + 1))), (8, .int (nI 1)), (6, .int (nI (nj + nz7))), (5, .ref (ra z7)), (0, .ref y), (1, .int (nI i))]) hx hb dX8_join_373 hl (k := 0) rfl (nI_1 i2) (by decide) rfl (fun ls hl => ?_)
                                            refine lv_goto (tgt := 338) hx hb dX8_join_376 (by decide) ?_
                                            replace lw : qLs (S j).1 (vp_updL (qSh fW p9 nW) p9 (Fz7 i2)) (vp_updL (qSh gW p9 nW) p9 (Gz7 i2)) (nW + 1) = xJn (S j).1 (xEa (S j).1) (S j).2.1 (qLs (S z7).1 Fz7 Gz7 (i2 + 1)) := by rw [lw, qLs_succ, xJn_snoc, ← c65]
                                            have hle9 : (nW + 1) ≤ 1000 := by have z1 := congrArg List.length lw; rw [qLs_len] at z1; have z2 := xJn_le (kd := (S j).1) (e := xEa (S j).1) (L0 := (S j).2.1) (qLs (S z7).1 Fz7 Gz7 (i2 + 1)) (S j).2.1 (fun _ z => z); have z3 := qLs_cnt (kd := (S z7).1) (f := Fz7) (g := Gz7) (n := nz7) (fun p => xEa (S j).1 || !xHas (S j).2.1 p.1) (show i2 + 1 ≤ nz7 by omega); rw [← hLz7, ← hcc] at z3; omega
                                            exact ihl H locs ls hv22 _ _ (nW + 1) (i2 + 1) (by omega) hY hms hmb faw fkw fvw faj fkj fvj faz7 fkz7 fvz7 fr lw ⟨hle9, by omega⟩ (lv_sub hl [0, 1, 2, 3, 4, 5] rfl) hP hS
                                    · replace c321 : 1 = 0 := (nI_eq (a := 1) (b := 0) (by omega) (by omega)).mp c321
                                      exfalso; omega
                                  · rw [if_neg cf]
                                    refine lv_iconst (v := nI 3) hx hb dX8_join_317 (by decide) ?_
                                    refine q_callV (rest := []) C (c_X8_good0 l D cy N0 hv4 y ms mb (ra 28) od pt fi re rc rs so ot cn la ro gr 0 ca (nI m0) ct fau cs ce rn (nI 3) hY) kX8_good g1249 g1251 rfl gp41 g4 hP hS hY (by first | decide | omega) hl.1 rfl (by decide) (by first | decide | omega) dX8_join_318 (fun q ce E h' H1 locs1 hE => hE.elim) (fun v hh35 H locs hq hP hS => ?_)
                                    obtain ⟨rfl, rfl⟩ := hq
                                    replace hP : qP D N0 (qs hv4 y (.inr (8, [.ref ms, .ref mb, .ref (ra 28), .int gr, .int (nI 3), .int ca, .int (nI m0), .ref od, .ref pt, .int ct, .int fau, .ref fi, .ref re, .int cs, .ref rc, .ref rs, .ref so, .ref ot, .ref cn, .ref la, .int ce, .ref ro, .int rn]))) H := hP
                                    obtain ⟨hv23, ehv23⟩ : ∃ z : qH, z = qs hv4 y (.inr (8, [.ref ms, .ref mb, .ref (ra 28), .int gr, .int (nI 3), .int ca, .int (nI m0), .ref od, .ref pt, .int ct, .int fau, .ref fi, .ref re, .int cs, .ref rc, .ref rs, .ref so, .ref ot, .ref cn, .ref la, .int ce, .ref ro, .int rn])) := ⟨_, rfl⟩
                                    rw [← ehv23] at hP
                                    have khv23 : ∀ b o, b ≠ y → hv4 b = some o → hv23 b = some o := by rw [ehv23]; exact fun b o nb hb => (qs_ne nb).trans hb
                                    replace hms := khv23 _ _ (fun q => by subst q; have := hms.symm.trans hY; first | cases this | simp at this) hms
                                    replace hmb := khv23 _ _ (fun q => by subst q; have := hmb.symm.trans hY; first | cases this | simp at this) hmb
                                    replace faw := khv23 _ _ (fun q => by have z9 := faw; rw [q] at z9; have := z9.symm.trans hY; first | cases this | simp at this) faw
                                    replace fkw := khv23 _ _ (fun q => by have z9 := fkw; rw [q] at z9; have := z9.symm.trans hY; first | cases this | simp at this) fkw
                                    replace fvw := khv23 _ _ (fun q => by have z9 := fvw; rw [q] at z9; have := z9.symm.trans hY; first | cases this | simp at this) fvw
                                    replace faj := khv23 _ _ (fun q => by have z9 := faj; rw [q] at z9; have := z9.symm.trans hY; first | cases this | simp at this) faj
                                    replace fkj := khv23 _ _ (fun q => by have z9 := fkj; rw [q] at z9; have := z9.symm.trans hY; first | cases this | simp at this) fkj
                                    replace fvj := khv23 _ _ (fun q => by have z9 := fvj; rw [q] at z9; have := z9.symm.trans hY; first | cases this | simp at this) fvj
                                    replace faz7 := khv23 _ _ (fun q => by have z9 := faz7; rw [q] at z9; have := z9.symm.trans hY; first | cases this | simp at this) faz7
                                    replace fkz7 := khv23 _ _ (fun q => by have z9 := fkz7; rw [q] at z9; have := z9.symm.trans hY; first | cases this | simp at this) fkz7
                                    replace fvz7 := khv23 _ _ (fun q => by have z9 := fvz7; rw [q] at z9; have := z9.symm.trans hY; first | cases this | simp at this) fvz7
                                    replace hY : hv23 y = some (.inr (8, [.ref ms, .ref mb, .ref (ra 28), .int gr, .int (nI 3), .int ca, .int (nI m0), .ref od, .ref pt, .int ct, .int fau, .ref fi, .ref re, .int cs, .ref rc, .ref rs, .ref so, .ref ot, .ref cn, .ref la, .int ce, .ref ro, .int rn])) := by rw [ehv23]; exact qs_self
                                    clear ehv23
                                    replace fr := fun b o hb n1 n2 => khv23 b o n1 (fr b o hb n1 n2)
                                    refine lv_if_ne (tgt := 326) hx hb dX8_join_321 (by decide) (fun c321 => ?_) (fun c321 => ?_)
                                    · replace c321 : ¬ 0 = 0 := fun zq => c321 ((nI_eq (a := 0) (b := 0) (by omega) (by omega)).mpr zq)
                                      exfalso; omega
                                    · replace c321 : 0 = 0 := (nI_eq (a := 0) (b := 0) (by omega) (by omega)).mp c321
                                      refine lv_iconst (v := nI 0) hx hb dX8_join_324 (by decide) ?_
                                      have eX : X = (3, 0, S, (ms, mb, ra 28, od, pt, ro, gr, cd, ca, nI m0, ct, fau, rn), a, k) := by rw [← hX]; unfold xs_join; rw [if_neg (by rw [ebi, ebj, ebz7]; decide), ecj, ecz7, if_neg (fun z => z.elim c44 (fun z => z c65)), eci]; unfold xr_join; dsimp only; rw [if_neg c105, ejc, show oMq (ms, mb, ra 28, od, pt, ro, gr, cd, ca, nI m0, ct, fau, rn) = nI m0 from rfl, ecm, hlj, hlz7, eco, if_pos (by omega)]
                                      obtain ⟨m8, f8⟩ := hM.fin0 hY0 (h' := hv23) ⟨hRw.1, hRw.2.1, hRw.2.2.1, faw, fkw, fvw⟩ fr
                                      obtain ⟨q8, r8⟩ := hQ.rowM (o' := oCd (ms, mb, ra 28, od, pt, ro, gr, cd, ca, nI m0, ct, fau, rn) 3) hY0 hY m8 f8 ⟨rfl, rfl, rfl, rfl, rfl, rfl⟩
                                      exact q_iret C hP hS ⟨by rw [eX]; rfl, A, by rw [eX]; exact q8, r8⟩ (by omega) dX8_join_325
                                · replace c275 : ¬ nz7 ≤ ii := fun zq => c275 ((nI_leI (a := nz7) (b := ii) (by omega) (by omega)).mpr zq)
                                  refine lv_iload hx hb dX8_join_278 (lv_at hl 2 rfl) ?_
                                  refine lv_if_ne (tgt := 299) hx hb dX8_join_280 (by decide) (fun c280 => ?_) (fun c280 => ?_)
                                  · replace c280 : ¬ 1 = 0 := fun zq => c280 ((nI_eq (a := 1) (b := 0) (by omega) (by omega)).mpr zq)
                                    refine lv_iinc (v := nI ((nj + cc) + 1)) (lv' := [(7, .int (nI ((nj + cc) + 1))), (9, .int (nI ii)), (8, .int (nI 1)), (6, .int (nI (nj + nz7))), (5, .ref (ra z7)), (4, .ref (ra j)), (0, .ref y), (1, .int (nI i))]) hx hb dX8_join_299 hl (k := 1) rfl (nI_1 (nj + cc)) (by decide) rfl (fun ls hl => ?_)
                                    refine lv_iinc (v := nI (ii + 1)) (lv' := [(9, .int (nI (ii + 1))), (7, .int (nI ((nj + cc) + 1))), (8, .int (nI 1)), (6, .int (nI (nj + nz7))), (5, .ref (ra z7)), (4, .ref (ra j)), (0, .ref y), (1, .int (nI i))]) hx hb dX8_join_302 hl (k := 1) rfl (nI_1 ii) (by decide) rfl (fun ls hl => ?_)
                                    refine lv_goto (tgt := 268) hx hb dX8_join_305 (by decide) ?_
                                    rw [Nat.add_assoc] at hl
                                    exact ihl H locs ls (ii + 1) (cc + 1) (by omega) (lv_sub hl [0, 1, 2, 3, 4, 5, 6, 7] rfl) ⟨by omega, by omega⟩ (by rw [qLs_succ, List.filter_append, List.length_append, ← hcc, List.filter_cons, if_pos (by rw [hE]; rfl)]; rfl) hP hS
                                  · replace c280 : 1 = 0 := (nI_eq (a := 1) (b := 0) (by omega) (by omega)).mp c280
                                    exfalso; omega
                        · refine lv_iconst (v := nI 0) hx hb dX8_join_217 (by decide) ?_
                          refine lv_goto (tgt := 232) hx hb dX8_join_218 (by decide) ?_
                          refine lv_istore (lv' := [(6, .int (nI 0)), (5, .ref (ra z7)), (4, .ref (ra j)), (0, .ref y), (1, .int (nI i)), (2, .int (nI j)), (3, .int (nI z7))]) hx hb dX8_join_232 hl (by decide) rfl (fun ls hl => ?_)
                          refine lv_aload hx hb dX8_join_234 (lv_at hl 2 rfl) ?_
                          refine q_get C hP faj rfl inX7 3 (by decide) g1143 rfl dX8_join_236 ?_
                          refine lv_istore (lv' := [(7, .int (nI nj)), (6, .int (nI 0)), (5, .ref (ra z7)), (4, .ref (ra j)), (0, .ref y), (1, .int (nI i)), (2, .int (nI j)), (3, .int (nI z7))]) hx hb dX8_join_239 hl (by decide) rfl (fun ls hl => ?_)
                          refine lv_aload hx hb dX8_join_241 (lv_at hl 3 rfl) ?_
                          refine q_get C hP faj rfl inX7 2 (by decide) g1142 rfl dX8_join_243 ?_
                          refine lv_if_eq (tgt := 258) hx hb dX8_join_246 (by decide) (fun c => absurd (c214.symm.trans c) (by decide)) (fun _ => ?_)
                          refine lv_aload hx hb dX8_join_249 (lv_at hl 3 rfl) ?_
                          refine q_get C hP faj rfl inX7 2 (by decide) g1142 rfl dX8_join_251 ?_
                          refine lv_iconst (v := 3) hx hb dX8_join_254 (by decide) ?_
                          have hE : xEa (S j).1 = true := by rw [show (S j).1 = 5 from c214]; rfl
                          refine lv_icmp_le (tgt := 262) hx hb dX8_join_255 (by decide) (fun c => absurd (show (5 : Int32) ≤ 3 from c214 ▸ c) (by decide)) (fun _ => ?_)
                          refine lv_iconst (v := nI 1) hx hb dX8_join_258 (by decide) ?_
                          refine lv_goto (tgt := 263) hx hb dX8_join_259 (by decide) ?_
                          refine lv_istore (lv' := [(8, .int (nI 1)), (7, .int (nI nj)), (6, .int (nI 0)), (5, .ref (ra z7)), (4, .ref (ra j)), (0, .ref y), (1, .int (nI i)), (2, .int (nI j)), (3, .int (nI z7))]) hx hb dX8_join_263 hl (by decide) rfl (fun ls hl => ?_)
                          refine lv_iconst (v := nI 0) hx hb dX8_join_265 (by decide) ?_
                          refine lv_istore (lv' := [(9, .int (nI 0)), (8, .int (nI 1)), (7, .int (nI nj)), (6, .int (nI 0)), (5, .ref (ra z7)), (4, .ref (ra j)), (0, .ref y), (1, .int (nI i)), (2, .int (nI j)), (3, .int (nI z7))]) hx hb dX8_join_266 hl (by decide) rfl (fun ls hl => ?_)
                          have eco : xCo (S j).1 nj nz7 = 0 := by unfold xCo; exact if_pos c214
                          refine (?_ : ∀ (t : Nat) (H : Heap) (locs : List Loc) (ls : Array Slot) (ii cc : Nat), nz7 - ii < t → lv_has ls 10 [(9, .int (nI ii)), (7, .int (nI (nj + cc))), (8, .int (nI 1)), (6, .int (nI 0)), (5, .ref (ra z7)), (4, .ref (ra j)), (0, .ref y), (1, .int (nI i))] → ii ≤ nz7 ∧ cc ≤ ii → cc = ((qLs (S z7).1 Fz7 Gz7 ii).filter (fun p => xEa (S j).1 || !xHas (S j).2.1 p.1)).length → qP D N0 hv4 H → va_S (qA N0) s.heap H locs → W p l e _ s m _ below meth c H locs 0 0 _ (F0 m 268 ls [])) _ H locs ls 0 0 (Nat.lt_succ_self _) (lv_sub hl [0, 2, 1, 3, 4, 5, 6, 7] rfl) ⟨Nat.zero_le _, Nat.le_refl _⟩ rfl hP hS
                          clear hl hP hS
                          intro t
                          induction t with
                          | zero => intro H locs ls ii cc ht; exact absurd ht (Nat.not_lt_zero _)
                          | succ t ihl =>
                            intro H locs ls ii cc ht hl hii hcc hP hS
                            refine lv_iload hx hb dX8_join_268 (lv_at hl 0 rfl) ?_
                            refine lv_aload hx hb dX8_join_270 (lv_at hl 4 rfl) ?_
                            refine q_get C hP faz7 rfl inX7 3 (by decide) g1143 rfl dX8_join_272 ?_
                            refine lv_icmp_ge (tgt := 308) hx hb dX8_join_275 (by decide) (fun c275 => ?_) (fun c275 => ?_)
                            · replace c275 : nz7 ≤ ii := (nI_leI (a := nz7) (b := ii) (by omega) (by omega)).mp c275
                              have eii : ii = nz7 := by omega
                              rw [eii, ← hLz7] at hcc
                              have ejc : xJc (xEa (S j).1) (S j).2.1 (S z7).2.1 = nj + cc := by unfold xJc; rw [hlj, ← hcc]
                              clear ihl
                              refine lv_aload_n hx hb dX8_join_308 rfl (lv_at hl 6 rfl) ?_
                              refine lv_aload_n hx hb dX8_join_309 rfl (lv_at hl 6 rfl) ?_
                              refine lv_iload hx hb dX8_join_310 (lv_at hl 1 rfl) ?_
                              refine lv_iload hx hb dX8_join_312 (lv_at hl 3 rfl) ?_
                              refine q_callV (rest := [.ref y]) C (c_X8_fits l D cy N0 hv4 y m0 (nj + cc) 0 _ hY rfl (by omega) (by omega)) kX8_fits g1413 g1415 rfl gp61 g4 hP hS hY (by first | decide | omega) hl.1 rfl (by simp [q_catrf, q_cati, q_catl, q_cata, q_catn]) (by first | decide | omega) dX8_join_314 (fun q ce E h' H1 locs1 hE => hE.elim) (fun v hh36 H locs hq hP hS => ?_)
                              obtain ⟨rfl, rfl⟩ := hq
                              by_cases cf : (nj + cc) ≤ 1000 ∧ m0 + 0 ≤ 20000
                              · rw [if_pos cf]
                                refine lv_iconst (v := nI 3) hx hb dX8_join_317 (by decide) ?_
                                refine q_callV (rest := []) C (c_X8_good1 l D cy N0 hv4 y ms mb (ra 28) od pt fi re rc rs so ot cn la ro gr 0 ca (nI m0) ct fau cs ce rn (nI 3) hY) kX8_good g1249 g1251 rfl gp41 g4 hP hS hY (by first | decide | omega) hl.1 rfl (by decide) (by first | decide | omega) dX8_join_318 (fun q ce E h' H1 locs1 hE => hE.elim) (fun v hh37 H locs hq hP hS => ?_)
                                obtain ⟨rfl, rfl⟩ := hq
                                replace hP : qP D N0 (qs hv4 y (.inr (8, [.ref ms, .ref mb, .ref (ra 28), .int gr, .int 0, .int ca, .int (nI m0), .ref od, .ref pt, .int ct, .int fau, .ref fi, .ref re, .int cs, .ref rc, .ref rs, .ref so, .ref ot, .ref cn, .ref la, .int ce, .ref ro, .int rn]))) H := hP
                                obtain ⟨hv24, ehv24⟩ : ∃ z : qH, z = qs hv4 y (.inr (8, [.ref ms, .ref mb, .ref (ra 28), .int gr, .int 0, .int ca, .int (nI m0), .ref od, .ref pt, .int ct, .int fau, .ref fi, .ref re, .int cs, .ref rc, .ref rs, .ref so, .ref ot, .ref cn, .ref la, .int ce, .ref ro, .int rn])) := ⟨_, rfl⟩
                                rw [← ehv24] at hP
                                have khv24 : ∀ b o, b ≠ y → hv4 b = some o → hv24 b = some o := by rw [ehv24]; exact fun b o nb hb => (qs_ne nb).trans hb
                                replace hms := khv24 _ _ (fun q => by subst q; have := hms.symm.trans hY; first | cases this | simp at this) hms
                                replace hmb := khv24 _ _ (fun q => by subst q; have := hmb.symm.trans hY; first | cases this | simp at this) hmb
                                replace faw := khv24 _ _ (fun q => by have z9 := faw; rw [q] at z9; have := z9.symm.trans hY; first | cases this | simp at this) faw
                                replace fkw := khv24 _ _ (fun q => by have z9 := fkw; rw [q] at z9; have := z9.symm.trans hY; first | cases this | simp at this) fkw
                                replace fvw := khv24 _ _ (fun q => by have z9 := fvw; rw [q] at z9; have := z9.symm.trans hY; first | cases this | simp at this) fvw
                                replace faj := khv24 _ _ (fun q => by have z9 := faj; rw [q] at z9; have := z9.symm.trans hY; first | cases this | simp at this) faj
                                replace fkj := khv24 _ _ (fun q => by have z9 := fkj; rw [q] at z9; have := z9.symm.trans hY; first | cases this | simp at this) fkj
                                replace fvj := khv24 _ _ (fun q => by have z9 := fvj; rw [q] at z9; have := z9.symm.trans hY; first | cases this | simp at this) fvj
                                replace faz7 := khv24 _ _ (fun q => by have z9 := faz7; rw [q] at z9; have := z9.symm.trans hY; first | cases this | simp at this) faz7
                                replace fkz7 := khv24 _ _ (fun q => by have z9 := fkz7; rw [q] at z9; have := z9.symm.trans hY; first | cases this | simp at this) fkz7
                                replace fvz7 := khv24 _ _ (fun q => by have z9 := fvz7; rw [q] at z9; have := z9.symm.trans hY; first | cases this | simp at this) fvz7
                                replace hY : hv24 y = some (.inr (8, [.ref ms, .ref mb, .ref (ra 28), .int gr, .int 0, .int ca, .int (nI m0), .ref od, .ref pt, .int ct, .int fau, .ref fi, .ref re, .int cs, .ref rc, .ref rs, .ref so, .ref ot, .ref cn, .ref la, .int ce, .ref ro, .int rn])) := by rw [ehv24]; exact qs_self
                                clear ehv24
                                replace fr := fun b o hb n1 n2 => khv24 b o n1 (fr b o hb n1 n2)
                                refine lv_if_ne (tgt := 326) hx hb dX8_join_321 (by decide) (fun c321 => ?_) (fun c321 => ?_)
                                · replace c321 : ¬ 1 = 0 := fun zq => c321 ((nI_eq (a := 1) (b := 0) (by omega) (by omega)).mpr zq)
                                  refine lv_aload hx hb dX8_join_326 (lv_at hl 5 rfl) ?_
                                  refine lv_aload_n hx hb dX8_join_328 rfl (lv_at hl 6 rfl) ?_
                                  refine q_get C hP hY rfl inX8 2 (by decide) g1169 rfl dX8_join_329 ?_
                                  refine q_callS (rest := []) C (c_X8_copy l D cy N0 hv24 (ra j) (rk j) (rv j) (S j).1 (nI (S j).2.2.1) (nI (S j).2.2.2) rwj nj Fj Gj (ra 28) (rk 28) (rv 28) kdw smw dpw rww nw fw gw ⟨hRj.1, hRj.2.1, hRj.2.2.1, faj, fkj, fvj⟩ ⟨hRw.1, hRw.2.1, hRw.2.2.1, faw, fkw, fvw⟩ apj (by omega)) kX8_copy g1257 g1258 hP hS (by first | decide | omega) hl.1 rfl (by decide) (by first | decide | omega) dX8_join_332 (fun q ce E h' H1 locs1 hE => hE.elim) (fun v hh38 H locs hq hP hS => ?_)
                                  obtain ⟨rfl, rfl⟩ := hq
                                  obtain ⟨hv25, ehv25⟩ : ∃ z : qH, z = qRh cy hv24 (ra 28) (rk 28) (rv 28) ((S j).1) (nI nj) (nI (S j).2.2.1) (nI (S j).2.2.2) rwj (qCp Fj fw nj) (qCp Gj gw nj) := ⟨_, rfl⟩
                                  rw [← ehv25] at hP
                                  have r9 : qRw cy hv25 (ra 28) (rk 28) (rv 28) ((S j).1) (nI nj) (nI (S j).2.2.1) (nI (S j).2.2.2) rwj (qCp Fj fw nj) (qCp Gj gw nj) := by rw [ehv25]; exact qRw.new (cy := cy) (h := hv24) (kd := kdw) (n := (nI nw)) (sm := smw) (dp := dpw) (rw := rww) (f := fw) (g := gw) ⟨hRw.1, hRw.2.1, hRw.2.2.1, faw, fkw, fvw⟩
                                  have khv25 : ∀ b o, qOf (ra 28) (rk 28) (rv 28) b → hv24 b = some o → hv25 b = some o := by rw [ehv25]; exact fun b o q hb => (qRh_o q.1 q.2.1 q.2.2).trans hb
                                  replace hY := khv25 _ _ ⟨fun q => by rw [q] at hY; have := faw.symm.trans hY; first | cases this | simp at this, fun q => by rw [q] at hY; have := fkw.symm.trans hY; first | cases this | simp at this, fun q => by rw [q] at hY; have := fvw.symm.trans hY; first | cases this | simp at this⟩ hY
                                  replace hms := khv25 _ _ ⟨fun q => by rw [q] at hms; have := faw.symm.trans hms; first | cases this | simp at this, fun q => by rw [q] at hms; have := fkw.symm.trans hms; first | cases this | simp at this, fun q => by rw [q] at hms; have := fvw.symm.trans hms; first | cases this | simp at this⟩ hms
                                  replace hmb := khv25 _ _ ⟨fun q => by rw [q] at hmb; have := faw.symm.trans hmb; first | cases this | simp at this, fun q => by rw [q] at hmb; have := fkw.symm.trans hmb; first | cases this | simp at this, fun q => by rw [q] at hmb; have := fvw.symm.trans hmb; first | cases this | simp at this⟩ hmb
                                  replace faj := khv25 _ _ apj.1 faj
                                  replace fkj := khv25 _ _ apj.2.1 fkj
                                  replace fvj := khv25 _ _ apj.2.2 fvj
                                  replace faz7 := khv25 _ _ apz7.1 faz7
                                  replace fkz7 := khv25 _ _ apz7.2.1 fkz7
                                  replace fvz7 := khv25 _ _ apz7.2.2 fvz7
                                  replace fr := fun b o hb n1 n2 => khv25 b o n2 (fr b o hb n1 n2)
                                  clear faw fkw fvw
                                  have faw := r9.2.2.2.1
                                  have fkw := r9.2.2.2.2.1
                                  have fvw := r9.2.2.2.2.2
                                  unfold qRb at faw
                                  unfold qJr at fkw fvw
                                  clear r9 ehv25
                                  have lw : qLs ((S j).1) (qCp Fj fw nj) (qCp Gj gw nj) nj = (S j).2.1 := by rw [qLs_cp]; exact hLj.symm
                                  refine lv_iconst (v := nI 0) hx hb dX8_join_335 (by decide) ?_
                                  refine lv_istore (lv' := [(9, .int (nI 0)), (7, .int (nI (nj + cc))), (8, .int (nI 1)), (6, .int (nI 0)), (5, .ref (ra z7)), (4, .ref (ra j)), (0, .ref y), (1, .int (nI i))]) hx hb dX8_join_336 hl (by decide) rfl (fun ls hl => ?_)
                                  refine (?_ : ∀ (t : Nat) (H : Heap) (locs : List Loc) (ls : Array Slot) (hv0 : qH) (fW gW : Nat → Int64) (nW i2 : Nat), nz7 - i2 < t → hv0 y = some (.inr (8, [.ref ms, .ref mb, .ref (ra 28), .int gr, .int 0, .int ca, .int (nI m0), .ref od, .ref pt, .int ct, .int fau, .ref fi, .ref re, .int cs, .ref rc, .ref rs, .ref so, .ref ot, .ref cn, .ref la, .int ce, .ref ro, .int rn])) → hv0 ms = some (.inl (cy 5, 24, .inr (.inr (.inr (.inr (fun i => some (ra i))))))) → hv0 mb = some (.inl (cy 5, 4, .inr (.inr (.inr (.inr (fun i => some (ra (24 + i)))))))) → hv0 (ra 28) = some (.inr (7, [.ref (rk 28), .ref (rv 28), .int (S j).1, .int (nI nW), .int (nI (S j).2.2.1), .int (nI (S j).2.2.2), .int rwj])) → hv0 (rk 28) = some (.inl (cy 1, 1001, .inr (.inl fW))) → hv0 (rv 28) = some (.inl (cy 1, 1001, .inr (.inl gW))) → hv0 (ra j) = some (.inr (7, [.ref (rk j), .ref (rv j), .int (S j).1, .int (nI nj), .int (nI (S j).2.2.1), .int (nI (S j).2.2.2), .int rwj])) → hv0 (rk j) = some (.inl (cy 1, 1001, .inr (.inl Fj))) → hv0 (rv j) = some (.inl (cy 1, 1001, .inr (.inl Gj))) → hv0 (ra z7) = some (.inr (7, [.ref (rk z7), .ref (rv z7), .int (S z7).1, .int (nI nz7), .int (nI (S z7).2.2.1), .int (nI (S z7).2.2.2), .int rwz7])) → hv0 (rk z7) = some (.inl (cy 1, 1001, .inr (.inl Fz7))) → hv0 (rv z7) = some (.inl (cy 1, 1001, .inr (.inl Gz7))) → (∀ b o, h b = some o → b ≠ y → qOf (ra 28) (rk 28) (rv 28) b → hv0 b = some o) → qLs (S j).1 fW gW nW = xJn (S j).1 (xEa (S j).1) (S j).2.1 (qLs (S z7).1 Fz7 Gz7 i2) → nW ≤ 1000 ∧ i2 ≤ nz7 → lv_has ls 10 [(9, .int (nI i2)), (8, .int (nI 1)), (6, .int (nI 0)), (5, .ref (ra z7)), (0, .ref y), (1, .int (nI i))] → qP D N0 hv0 H → va_S (qA N0) s.heap H locs → W p l e _ s m _ below meth c H locs 0 0 _ (F0 m 338 ls [])) _ H locs ls hv25 (qCp Fj fw nj) (qCp Gj gw nj) nj 0 (Nat.lt_succ_self _) hY hms hmb faw fkw fvw faj fkj fvj faz7 fkz7 fvz7 fr lw ⟨by omega, Nat.zero_le _⟩ (lv_sub hl [0, 2, 3, 4, 6, 7] rfl) hP hS
                                  clear hl hP hS
                                  intro t
                                  induction t with
                                  | zero => intro H locs ls hv0 fW gW nW i2 ht; exact absurd ht (Nat.not_lt_zero _)
                                  | succ t ihl =>
                                    intro H locs ls hv0 fW gW nW i2 ht hY hms hmb faw fkw fvw faj fkj fvj faz7 fkz7 fvz7 fr lw hnW hl hP hS
                                    have hok : qOk (S j).1 (xJn (S j).1 (xEa (S j).1) (S j).2.1 (qLs (S z7).1 Fz7 Gz7 i2)) := xJn_ok xEa_or _ _ (hI j (by omega))
                                    refine lv_iload hx hb dX8_join_338 (lv_at hl 0 rfl) ?_
                                    refine lv_aload hx hb dX8_join_340 (lv_at hl 3 rfl) ?_
                                    refine q_get C hP faz7 rfl inX7 3 (by decide) g1143 rfl dX8_join_342 ?_
                                    refine lv_icmp_ge (tgt := 379) hx hb dX8_join_345 (by decide) (fun c345 => ?_) (fun c345 => ?_)
                                    · replace c345 : nz7 ≤ i2 := (nI_leI (a := nz7) (b := i2) (by omega) (by omega)).mp c345
                                      have ei2 : i2 = nz7 := by omega
                                      rw [ei2, ← hLz7] at lw
                                      clear ihl
                                      refine lv_iconst (v := nI 0) hx hb dX8_join_379 (by decide) ?_
                                      refine lv_istore (lv' := [(9, .int (nI 0)), (8, .int (nI 1)), (6, .int (nI 0)), (5, .ref (ra z7)), (0, .ref y), (1, .int (nI i))]) hx hb dX8_join_380 hl (by decide) rfl (fun ls hl => ?_)
                                      refine (?_ : ∀ (t : Nat) (H : Heap) (locs : List Loc) (ls : Array Slot) (hv0 : qH) (i3 : Nat), nz7 - i3 < t → hv0 y = some (.inr (8, [.ref ms, .ref mb, .ref (ra 28), .int gr, .int 0, .int ca, .int (nI m0), .ref od, .ref pt, .int ct, .int fau, .ref fi, .ref re, .int cs, .ref rc, .ref rs, .ref so, .ref ot, .ref cn, .ref la, .int ce, .ref ro, .int rn])) → hv0 ms = some (.inl (cy 5, 24, .inr (.inr (.inr (.inr (fun i => some (ra i))))))) → hv0 mb = some (.inl (cy 5, 4, .inr (.inr (.inr (.inr (fun i => some (ra (24 + i)))))))) → hv0 (ra 28) = some (.inr (7, [.ref (rk 28), .ref (rv 28), .int (S j).1, .int (nI nW), .int (nI (S j).2.2.1), .int (nI (S j).2.2.2), .int rwj])) → hv0 (rk 28) = some (.inl (cy 1, 1001, .inr (.inl fW))) → hv0 (rv 28) = some (.inl (cy 1, 1001, .inr (.inl gW))) → hv0 (ra j) = some (.inr (7, [.ref (rk j), .ref (rv j), .int (S j).1, .int (nI nj), .int (nI (S j).2.2.1), .int (nI (S j).2.2.2), .int rwj])) → hv0 (rk j) = some (.inl (cy 1, 1001, .inr (.inl Fj))) → hv0 (rv j) = some (.inl (cy 1, 1001, .inr (.inl Gj))) → hv0 (ra z7) = some (.inr (7, [.ref (rk z7), .ref (rv z7), .int (S z7).1, .int (nI nz7), .int (nI (S z7).2.2.1), .int (nI (S z7).2.2.2), .int rwz7])) → hv0 (rk z7) = some (.inl (cy 1, 1001, .inr (.inl Fz7))) → hv0 (rv z7) = some (.inl (cy 1, 1001, .inr (.inl Gz7))) → (∀ b o, h b = some o → b ≠ y → qOf (ra 28) (rk 28) (rv 28) b → hv0 b = some o) → (∀ q9, q9 < i3 → ¬ (16 < xAl gr (xJn (S j).1 (xEa (S j).1) (S j).2.1 (S z7).2.1) (Fz7 q9) ∧ ((S j).1 = 1 ∨ (S j).1 = 2))) → i3 ≤ nz7 → lv_has ls 10 [(9, .int (nI i3)), (6, .int (nI 0)), (5, .ref (ra z7)), (0, .ref y), (1, .int (nI i))] → qP D N0 hv0 H → va_S (qA N0) s.heap H locs → W p l e _ s m _ below meth c H locs 0 0 _ (F0 m 382 ls [])) _ H locs ls hv0 0 (Nat.lt_succ_self _) hY hms hmb faw fkw fvw faj fkj fvj faz7 fkz7 fvz7 fr (fun q9 z => absurd z (Nat.not_lt_zero _)) (Nat.zero_le _) (lv_sub hl [0, 2, 3, 4, 5] rfl) hP hS
                                      clear hl hP hS
                                      intro t
                                      induction t with
                                      | zero => intro H locs ls hv0 i3 ht; exact absurd ht (Nat.not_lt_zero _)
                                      | succ t ihl =>
                                        intro H locs ls hv0 i3 ht hY hms hmb faw fkw fvw faj fkj fvj faz7 fkz7 fvz7 fr hcr hi3 hl hP hS
                                        refine lv_iload hx hb dX8_join_382 (lv_at hl 0 rfl) ?_
                                        refine lv_aload hx hb dX8_join_384 (lv_at hl 2 rfl) ?_
                                        refine q_get C hP faz7 rfl inX7 3 (by decide) g1143 rfl dX8_join_386 ?_
                                        refine lv_icmp_ge (tgt := 432) hx hb dX8_join_389 (by decide) (fun c389 => ?_) (fun c389 => ?_)
                                        · replace c389 : nz7 ≤ i3 := (nI_leI (a := nz7) (b := i3) (by omega) (by omega)).mp c389
                                          refine lv_aload_n hx hb dX8_join_432 rfl (lv_at hl 3 rfl) ?_
                                          refine lv_iload_n hx hb dX8_join_433 rfl (lv_at hl 4 rfl) ?_
                                          refine lv_iload hx hb dX8_join_434 (lv_at hl 1 rfl) ?_
                                          obtain ⟨ni, rwi, Fi, Gi, hRi, hni, hLi, hKi⟩ := hrs i (by omega)
                                          have api := hRi.apart hRw (hmd.two (i := i) (j := 28) (by omega) (by omega) (by omega))
                                          replace hRi := hRi.keep2 (fun b o hb ho => fr b o ho (hRi.ney hY0 hb) (hb.elim (fun q => q ▸ api.1) (fun hb => hb.elim (fun q => q ▸ api.2.1) (fun q => q ▸ api.2.2))))
                                          have fai := hRi.2.2.2.1
                                          have fki := hRi.2.2.2.2.1
                                          have fvi := hRi.2.2.2.2.2
                                          unfold qRb at fai
                                          unfold qJr at fki fvi
                                          refine q_callV (rest := []) C (c_X8_done l D cy N0 hv0 y ms mb od pt fi re rc rs so ot cn la ro gr 0 ca (nI m0) ct fau cs ce rn ra rk rv i (nI 0) (S j).1 (nI (S j).2.2.1) (nI (S j).2.2.2) rwj nW fW gW (S i).1 (nI (S i).2.2.1) (nI (S i).2.2.2) rwi ni Fi Gi hY hms hmd ⟨hRw.1, hRw.2.1, hRw.2.2.1, faw, fkw, fvw⟩ ⟨hRi.1, hRi.2.1, hRi.2.2.1, fai, fki, fvi⟩ (by omega) (by omega)) kX8_done g1293 g1295 rfl gp45 g4 hP hS hY (by first | decide | omega) hl.1 rfl (by decide) (by first | decide | omega) dX8_join_436 (fun q ce E h' H1 locs1 hE => hE.elim) (fun v hh39 H locs hq hP hS => ?_)
                                          obtain ⟨rfl, hY9, hw9, hi9, fr9⟩ := hq
                                          replace fr := fun b o hb n1 n2 n3 => fr9 b o (fr b o hb n1 n2) n1 n2 n3
                                          rw [show (nI m0) + nI 0 = (nI m0) from Int32.add_zero _] at hY9
                                          have hno : ¬ (S z7).2.1.any (fun p => decide (16 < xAl gr (xJn (S j).1 (xEa (S j).1) (S j).2.1 (S z7).2.1) p.1 ∧ ((S j).1 = 1 ∨ (S j).1 = 2))) = true := fun z => by obtain ⟨p, hp, z⟩ := List.any_eq_true.mp z; rw [hLz7] at hp; obtain ⟨q9, hq9, rfl⟩ := List.mem_map.mp hp; exact hcr q9 (by have := List.mem_range.mp hq9; omega) (of_decide_eq_true z)
                                          have el : (xJn (S j).1 (xEa (S j).1) (S j).2.1 (S z7).2.1).length = nW := by rw [← lw, qLs_len]
                                          obtain ⟨m9, f9⟩ := hM.fin hY0 (i := i) (by omega) (s := ((S j).1, (xJn (S j).1 (xEa (S j).1) (S j).2.1 (S z7).2.1), (S j).2.2.1, (S j).2.2.2)) ⟨nW, _, _, _, hi9, by omega, by rw [qLs_cp]; exact lw.symm, Or.inl rfl⟩ hw9 fr
                                          have eX : X = (0, nI nW, qU S i ((S j).1, (xJn (S j).1 (xEa (S j).1) (S j).2.1 (S z7).2.1), (S j).2.2), oMv (ms, mb, ra 28, od, pt, ro, gr, cd, ca, nI m0, ct, fau, rn) (nI m0), a, k) := by rw [← hX]; unfold xs_join; rw [if_neg (by rw [ebi, ebj, ebz7]; decide), ecj, ecz7, if_neg (fun z => z.elim c44 (fun z => z c65)), eci]; unfold xr_join; dsimp only; rw [if_neg c105, ejc, show oMq (ms, mb, ra 28, od, pt, ro, gr, cd, ca, nI m0, ct, fau, rn) = nI m0 from rfl, ecm, hlj, hlz7, eco, if_neg (by omega), if_neg hno, el]; rw [show nI m0 + nI 0 = nI m0 from Int32.add_zero _]
                                          obtain ⟨q9, r9⟩ := hQ.rowM (o' := oCd (oMv (ms, mb, ra 28, od, pt, ro, gr, cd, ca, nI m0, ct, fau, rn) (nI m0)) 0) hY0 hY9 m9 f9 ⟨rfl, rfl, rfl, rfl, rfl, rfl⟩
                                          exact q_iret C hP hS ⟨by rw [eX], A, by rw [eX]; exact q9, r9⟩ (by omega) dX8_join_439
                                        · replace c389 : ¬ nz7 ≤ i3 := fun zq => c389 ((nI_leI (a := nz7) (b := i3) (by omega) (by omega)).mpr zq)
                                          refine lv_aload_n hx hb dX8_join_392 rfl (lv_at hl 3 rfl) ?_
                                          refine lv_aload_n hx hb dX8_join_393 rfl (lv_at hl 3 rfl) ?_
                                          refine lv_aload_n hx hb dX8_join_394 rfl (lv_at hl 3 rfl) ?_
                                          refine q_get C hP hY rfl inX8 2 (by decide) g1169 rfl dX8_join_395 ?_
                                          refine lv_aload hx hb dX8_join_398 (lv_at hl 2 rfl) ?_
                                          refine q_get C hP faz7 rfl inX7 0 (by decide) g1138 rfl dX8_join_400 ?_
                                          refine lv_iload hx hb dX8_join_403 (lv_at hl 0 rfl) ?_
                                          refine q_laldN C hP fkz7 (by omega) (by omega) dX8_join_405 ?_
                                          refine q_callV (rest := [.ref y]) C (c_X8_crowded l D cy N0 hv0 y ms mb (ra 28) od pt fi re rc rs so ot cn la ro gr 0 ca (nI m0) ct fau cs ce rn (ra 28) (rk 28) (rv 28) ((S j).1) (nI (S j).2.2.1) (nI (S j).2.2.2) rwj nW fW gW (Fz7 i3) hY ⟨hRw.1, hRw.2.1, hRw.2.2.1, faw, fkw, fvw⟩ (by omega)) kX8_crowded g1285 g1287 rfl gp43 g4 hP hS hY (by first | decide | omega) hl.1 rfl (by simp [q_catrf, q_cati, q_catl, q_cata, q_catn]) (by first | decide | omega) dX8_join_406 (fun q ce E h' H1 locs1 hE => hE.elim) (fun v hh40 H locs hq hP hS => ?_)
                                          obtain ⟨rfl, rfl⟩ := hq
                                          rw [xAl_row (kd := (S j).1) (g := gW), lw]
                                          by_cases cr : 16 < xAl gr (xJn (S j).1 (xEa (S j).1) (S j).2.1 (S z7).2.1) (Fz7 i3) ∧ (((S j).1) = 1 ∨ ((S j).1) = 2)
                                          · rw [if_pos cr]
                                            refine lv_if_ne (tgt := 416) hx hb dX8_join_409 (by decide) (fun c409 => ?_) (fun c409 => ?_)
                                            · replace c409 : ¬ 1 = 0 := fun zq => c409 ((nI_eq (a := 1) (b := 0) (by omega) (by omega)).mpr zq)
                                              refine lv_iconst (v := nI 0) hx hb dX8_join_416 (by decide) ?_
                                              refine lv_iconst (v := nI 3) hx hb dX8_join_417 (by decide) ?_
                                              refine q_callV (rest := []) C (c_X8_good0 l D cy N0 hv0 y ms mb (ra 28) od pt fi re rc rs so ot cn la ro gr 0 ca (nI m0) ct fau cs ce rn (nI 3) hY) kX8_good g1249 g1251 rfl gp41 g4 hP hS hY (by first | decide | omega) hl.1 rfl (by decide) (by first | decide | omega) dX8_join_418 (fun q ce E h' H1 locs1 hE => hE.elim) (fun v hh41 H locs hq hP hS => ?_)
                                              obtain ⟨rfl, rfl⟩ := hq
                                              replace hP : qP D N0 (qs hv0 y (.inr (8, [.ref ms, .ref mb, .ref (ra 28), .int gr, .int (nI 3), .int ca, .int (nI m0), .ref od, .ref pt, .int ct, .int fau, .ref fi, .ref re, .int cs, .ref rc, .ref rs, .ref so, .ref ot, .ref cn, .ref la, .int ce, .ref ro, .int rn]))) H := hP
                                              obtain ⟨hv26, ehv26⟩ : ∃ z : qH, z = qs hv0 y (.inr (8, [.ref ms, .ref mb, .ref (ra 28), .int gr, .int (nI 3), .int ca, .int (nI m0), .ref od, .ref pt, .int ct, .int fau, .ref fi, .ref re, .int cs, .ref rc, .ref rs, .ref so, .ref ot, .ref cn, .ref la, .int ce, .ref ro, .int rn])) := ⟨_, rfl⟩
                                              rw [← ehv26] at hP
                                              have khv26 : ∀ b o, b ≠ y → hv0 b = some o → hv26 b = some o := by rw [ehv26]; exact fun b o nb hb => (qs_ne nb).trans hb
                                              replace hms := khv26 _ _ (fun q => by subst q; have := hms.symm.trans hY; first | cases this | simp at this) hms
                                              replace hmb := khv26 _ _ (fun q => by subst q; have := hmb.symm.trans hY; first | cases this | simp at this) hmb
                                              replace faw := khv26 _ _ (fun q => by have z9 := faw; rw [q] at z9; have := z9.symm.trans hY; first | cases this | simp at this) faw
                                              replace fkw := khv26 _ _ (fun q => by have z9 := fkw; rw [q] at z9; have := z9.symm.trans hY; first | cases this | simp at this) fkw
                                              replace fvw := khv26 _ _ (fun q => by have z9 := fvw; rw [q] at z9; have := z9.symm.trans hY; first | cases this | simp at this) fvw
                                              replace faj := khv26 _ _ (fun q => by have z9 := faj; rw [q] at z9; have := z9.symm.trans hY; first | cases this | simp at this) faj
                                              replace fkj := khv26 _ _ (fun q => by have z9 := fkj; rw [q] at z9; have := z9.symm.trans hY; first | cases this | simp at this) fkj
                                              replace fvj := khv26 _ _ (fun q => by have z9 := fvj; rw [q] at z9; have := z9.symm.trans hY; first | cases this | simp at this) fvj
                                              replace faz7 := khv26 _ _ (fun q => by have z9 := faz7; rw [q] at z9; have := z9.symm.trans hY; first | cases this | simp at this) faz7
                                              replace fkz7 := khv26 _ _ (fun q => by have z9 := fkz7; rw [q] at z9; have := z9.symm.trans hY; first | cases this | simp at this) fkz7
                                              replace fvz7 := khv26 _ _ (fun q => by have z9 := fvz7; rw [q] at z9; have := z9.symm.trans hY; first | cases this | simp at this) fvz7
                                              replace hY : hv26 y = some (.inr (8, [.ref ms, .ref mb, .ref (ra 28), .int gr, .int (nI 3), .int ca, .int (nI m0), .ref od, .ref pt, .int ct, .int fau, .ref fi, .ref re, .int cs, .ref rc, .ref rs, .ref so, .ref ot, .ref cn, .ref la, .int ce, .ref ro, .int rn])) := by rw [ehv26]; exact qs_self
                                              clear ehv26
                                              replace fr := fun b o hb n1 n2 => khv26 b o n1 (fr b o hb n1 n2)
                                              refine lv_if_ne (tgt := 426) hx hb dX8_join_421 (by decide) (fun c421 => ?_) (fun c421 => ?_)
                                              · replace c421 : ¬ 0 = 0 := fun zq => c421 ((nI_eq (a := 0) (b := 0) (by omega) (by omega)).mpr zq)
                                                exfalso; omega
                                              · replace c421 : 0 = 0 := (nI_eq (a := 0) (b := 0) (by omega) (by omega)).mp c421
                                                refine lv_iconst (v := nI 0) hx hb dX8_join_424 (by decide) ?_
                                                have hyes : (S z7).2.1.any (fun p => decide (16 < xAl gr (xJn (S j).1 (xEa (S j).1) (S j).2.1 (S z7).2.1) p.1 ∧ ((S j).1 = 1 ∨ (S j).1 = 2))) = true := List.any_eq_true.mpr ⟨(Fz7 i3, xV (S z7).1 (Gz7 i3)), hLz7 ▸ List.mem_of_getElem? (qLs_get2 (show i3 < nz7 by omega)), decide_eq_true cr⟩
                                                have eX : X = (3, 0, S, (ms, mb, ra 28, od, pt, ro, gr, cd, ca, nI m0, ct, fau, rn), a, k) := by rw [← hX]; unfold xs_join; rw [if_neg (by rw [ebi, ebj, ebz7]; decide), ecj, ecz7, if_neg (fun z => z.elim c44 (fun z => z c65)), eci]; unfold xr_join; dsimp only; rw [if_neg c105, ejc, show oMq (ms, mb, ra 28, od, pt, ro, gr, cd, ca, nI m0, ct, fau, rn) = nI m0 from rfl, ecm, hlj, hlz7, eco, if_neg (by omega), if_pos hyes]
                                                obtain ⟨m8, f8⟩ := hM.fin0 hY0 (h' := hv26) ⟨hRw.1, hRw.2.1, hRw.2.2.1, faw, fkw, fvw⟩ fr
                                                obtain ⟨q8, r8⟩ := hQ.rowM (o' := oCd (ms, mb, ra 28, od, pt, ro, gr, cd, ca, nI m0, ct, fau, rn) 3) hY0 hY m8 f8 ⟨rfl, rfl, rfl, rfl, rfl, rfl⟩
                                                exact q_iret C hP hS ⟨by rw [eX]; rfl, A, by rw [eX]; exact q8, r8⟩ (by omega) dX8_join_425
                                            · replace c409 : 1 = 0 := (nI_eq (a := 1) (b := 0) (by omega) (by omega)).mp c409
                                              exfalso; omega
                                          · rw [if_neg cr]
                                            refine lv_if_ne (tgt := 416) hx hb dX8_join_409 (by decide) (fun c409 => ?_) (fun c409 => ?_)
                                            · replace c409 : ¬ 0 = 0 := fun zq => c409 ((nI_eq (a := 0) (b := 0) (by omega) (by omega)).mpr zq)
                                              exfalso; omega
                                            · replace c409 : 0 = 0 := (nI_eq (a := 0) (b := 0) (by omega) (by omega)).mp c409
                                              refine lv_iconst (v := nI 1) hx hb dX8_join_412 (by decide) ?_
                                              refine lv_goto (tgt := 417) hx hb dX8_join_413 (by decide) ?_
                                              refine lv_iconst (v := nI 3) hx hb dX8_join_417 (by decide) ?_
                                              refine q_callV (rest := []) C (c_X8_good1 l D cy N0 hv0 y ms mb (ra 28) od pt fi re rc rs so ot cn la ro gr 0 ca (nI m0) ct fau cs ce rn (nI 3) hY) kX8_good g1249 g1251 rfl gp41 g4 hP hS hY (by first | decide | omega) hl.1 rfl (by decide) (by first | decide | omega) dX8_join_418 (fun q ce E h' H1 locs1 hE => hE.elim) (fun v hh42 H locs hq hP hS => ?_)
                                              obtain ⟨rfl, rfl⟩ := hq
                                              replace hP : qP D N0 (qs hv0 y (.inr (8, [.ref ms, .ref mb, .ref (ra 28), .int gr, .int 0, .int ca, .int (nI m0), .ref od, .ref pt, .int ct, .int fau, .ref fi, .ref re, .int cs, .ref rc, .ref rs, .ref so, .ref ot, .ref cn, .ref la, .int ce, .ref ro, .int rn]))) H := hP
                                              obtain ⟨hv27, ehv27⟩ : ∃ z : qH, z = qs hv0 y (.inr (8, [.ref ms, .ref mb, .ref (ra 28), .int gr, .int 0, .int ca, .int (nI m0), .ref od, .ref pt, .int ct, .int fau, .ref fi, .ref re, .int cs, .ref rc, .ref rs, .ref so, .ref ot, .ref cn, .ref la, .int ce, .ref ro, .int rn])) := ⟨_, rfl⟩
                                              rw [← ehv27] at hP
                                              have khv27 : ∀ b o, b ≠ y → hv0 b = some o → hv27 b = some o := by rw [ehv27]; exact fun b o nb hb => (qs_ne nb).trans hb
                                              replace hms := khv27 _ _ (fun q => by subst q; have := hms.symm.trans hY; first | cases this | simp at this) hms
                                              replace hmb := khv27 _ _ (fun q => by subst q; have := hmb.symm.trans hY; first | cases this | simp at this) hmb
                                              replace faw := khv27 _ _ (fun q => by have z9 := faw; rw [q] at z9; have := z9.symm.trans hY; first | cases this | simp at this) faw
                                              replace fkw := khv27 _ _ (fun q => by have z9 := fkw; rw [q] at z9; have := z9.symm.trans hY; first | cases this | simp at this) fkw
                                              replace fvw := khv27 _ _ (fun q => by have z9 := fvw; rw [q] at z9; have := z9.symm.trans hY; first | cases this | simp at this) fvw
                                              replace faj := khv27 _ _ (fun q => by have z9 := faj; rw [q] at z9; have := z9.symm.trans hY; first | cases this | simp at this) faj
                                              replace fkj := khv27 _ _ (fun q => by have z9 := fkj; rw [q] at z9; have := z9.symm.trans hY; first | cases this | simp at this) fkj
                                              replace fvj := khv27 _ _ (fun q => by have z9 := fvj; rw [q] at z9; have := z9.symm.trans hY; first | cases this | simp at this) fvj
                                              replace faz7 := khv27 _ _ (fun q => by have z9 := faz7; rw [q] at z9; have := z9.symm.trans hY; first | cases this | simp at this) faz7
                                              replace fkz7 := khv27 _ _ (fun q => by have z9 := fkz7; rw [q] at z9; have := z9.symm.trans hY; first | cases this | simp at this) fkz7
                                              replace fvz7 := khv27 _ _ (fun q => by have z9 := fvz7; rw [q] at z9; have := z9.symm.trans hY; first | cases this | simp at this) fvz7
                                              replace hY : hv27 y = some (.inr (8, [.ref ms, .ref mb, .ref (ra 28), .int gr, .int 0, .int ca, .int (nI m0), .ref od, .ref pt, .int ct, .int fau, .ref fi, .ref re, .int cs, .ref rc, .ref rs, .ref so, .ref ot, .ref cn, .ref la, .int ce, .ref ro, .int rn])) := by rw [ehv27]; exact qs_self
                                              clear ehv27
                                              replace fr := fun b o hb n1 n2 => khv27 b o n1 (fr b o hb n1 n2)
                                              refine lv_if_ne (tgt := 426) hx hb dX8_join_421 (by decide) (fun c421 => ?_) (fun c421 => ?_)
                                              · replace c421 : ¬ 1 = 0 := fun zq => c421 ((nI_eq (a := 1) (b := 0) (by omega) (by omega)).mpr zq)
                                                refine lv_iinc (v := nI (i3 + 1)) (lv' := [(9, .int (nI (i3 + 1))), (6, .int (nI 0)), (5, .ref (ra z7)), (0, .ref y), (1, .int (nI i))]) hx hb dX8_join_426 hl (k := 0) rfl (nI_1 i3) (by decide) rfl (fun ls hl => ?_)
                                                refine lv_goto (tgt := 382) hx hb dX8_join_429 (by decide) ?_
                                                exact ihl H locs ls hv27 (i3 + 1) (by omega) hY hms hmb faw fkw fvw faj fkj fvj faz7 fkz7 fvz7 fr (fun q9 z => if e : q9 = i3 then by (subst e; exact cr) else hcr q9 (by omega)) (by omega) (lv_sub hl [0, 1, 2, 3, 4] rfl) hP hS
                                              · replace c421 : 1 = 0 := (nI_eq (a := 1) (b := 0) (by omega) (by omega)).mp c421
                                                exfalso; omega
                                    · replace c345 : ¬ nz7 ≤ i2 := fun zq => c345 ((nI_leI (a := nz7) (b := i2) (by omega) (by omega)).mpr zq)
                                      refine lv_aload_n hx hb dX8_join_348 rfl (lv_at hl 4 rfl) ?_
                                      refine q_get C hP hY rfl inX8 2 (by decide) g1169 rfl dX8_join_349 ?_
                                      refine lv_aload hx hb dX8_join_352 (lv_at hl 3 rfl) ?_
                                      refine q_get C hP faz7 rfl inX7 0 (by decide) g1138 rfl dX8_join_354 ?_
                                      refine lv_iload hx hb dX8_join_357 (lv_at hl 0 rfl) ?_
                                      refine q_laldN C hP fkz7 (by omega) (by omega) dX8_join_359 ?_
                                      refine lv_aload hx hb dX8_join_360 (lv_at hl 3 rfl) ?_
                                      refine q_get C hP faz7 rfl inX7 1 (by decide) g1140 rfl dX8_join_362 ?_
                                      refine lv_iload hx hb dX8_join_365 (lv_at hl 0 rfl) ?_
                                      refine q_laldN C hP fvz7 (by omega) (by omega) dX8_join_367 ?_
                                      refine lv_iload hx hb dX8_join_368 (lv_at hl 1 rfl) ?_
                                      refine q_callS (rest := []) C (c_X8_put l D cy N0 hv0 (ra 28) (rk 28) (rv 28) ((S j).1) (nI (S j).2.2.1) (nI (S j).2.2.2) rwj nW fW gW (Fz7 i2) (Gz7 i2) 1 ⟨hRw.1, hRw.2.1, hRw.2.2.1, faw, fkw, fvw⟩ (by omega) (by decide)) kX8_put g1276 g1277 hP hS (by first | decide | omega) hl.1 rfl (by decide) (by first | decide | omega) dX8_join_370 (fun q ce E h' H1 locs1 hE => hE.elim) (fun v hh43 H locs hq hP hS => ?_)
                                      obtain ⟨rfl, hq⟩ := hq
                                      rcases hq with ⟨hz9, j9, hj9, e9, m9, rfl⟩ | ⟨hno9, p9, hp9, hs9, ht9, rfl⟩
                                      · exact absurd hz9 (by decide)
                                      · obtain ⟨hv28, ehv28⟩ : ∃ z : qH, z = qRh cy hv0 (ra 28) (rk 28) (rv 28) ((S j).1) (nI (nW + 1)) (nI (S j).2.2.1) (nI (S j).2.2.2) rwj (vp_updL (qSh fW p9 nW) p9 (Fz7 i2)) (vp_updL (qSh gW p9 nW) p9 (Gz7 i2)) := ⟨_, rfl⟩
                                        rw [← ehv28] at hP
                                        have r9 : qRw cy hv28 (ra 28) (rk 28) (rv 28) ((S j).1) (nI (nW + 1)) (nI (S j).2.2.1) (nI (S j).2.2.2) rwj (vp_updL (qSh fW p9 nW) p9 (Fz7 i2)) (vp_updL (qSh gW p9 nW) p9 (Gz7 i2)) := by rw [ehv28]; exact qRw.new (cy := cy) (h := hv0) (kd := (S j).1) (n := (nI nW)) (sm := (nI (S j).2.2.1)) (dp := (nI (S j).2.2.2)) (rw := rwj) (f := fW) (g := gW) ⟨hRw.1, hRw.2.1, hRw.2.2.1, faw, fkw, fvw⟩
                                        have khv28 : ∀ b o, qOf (ra 28) (rk 28) (rv 28) b → hv0 b = some o → hv28 b = some o := by rw [ehv28]; exact fun b o q hb => (qRh_o q.1 q.2.1 q.2.2).trans hb
                                        replace hY := khv28 _ _ ⟨fun q => by rw [q] at hY; have := faw.symm.trans hY; first | cases this | simp at this, fun q => by rw [q] at hY; have := fkw.symm.trans hY; first | cases this | simp at this, fun q => by rw [q] at hY; have := fvw.symm.trans hY; first | cases this | simp at this⟩ hY
                                        replace hms := khv28 _ _ ⟨fun q => by rw [q] at hms; have := faw.symm.trans hms; first | cases this | simp at this, fun q => by rw [q] at hms; have := fkw.symm.trans hms; first | cases this | simp at this, fun q => by rw [q] at hms; have := fvw.symm.trans hms; first | cases this | simp at this⟩ hms
                                        replace hmb := khv28 _ _ ⟨fun q => by rw [q] at hmb; have := faw.symm.trans hmb; first | cases this | simp at this, fun q => by rw [q] at hmb; have := fkw.symm.trans hmb; first | cases this | simp at this, fun q => by rw [q] at hmb; have := fvw.symm.trans hmb; first | cases this | simp at this⟩ hmb
                                        replace faj := khv28 _ _ apj.1 faj
                                        replace fkj := khv28 _ _ apj.2.1 fkj
                                        replace fvj := khv28 _ _ apj.2.2 fvj
                                        replace faz7 := khv28 _ _ apz7.1 faz7
                                        replace fkz7 := khv28 _ _ apz7.2.1 fkz7
                                        replace fvz7 := khv28 _ _ apz7.2.2 fvz7
                                        replace fr := fun b o hb n1 n2 => khv28 b o n2 (fr b o hb n1 n2)
                                        clear faw fkw fvw
                                        have faw := r9.2.2.2.1
                                        have fkw := r9.2.2.2.2.1
                                        have fvw := r9.2.2.2.2.2
                                        unfold qRb at faw
                                        unfold qJr at fkw fvw
                                        clear r9 ehv28
                                        replace lw : qLs ((S j).1) (vp_updL (qSh fW p9 nW) p9 (Fz7 i2)) (vp_updL (qSh gW p9 nW) p9 (Gz7 i2)) (nW + 1) = xPut ((S j).1) (xEa (S j).1) (xJn (S j).1 (xEa (S j).1) (S j).2.1 (qLs (S z7).1 Fz7 Gz7 i2)) (Fz7 i2) (xV ((S j).1) (Gz7 i2)) := by
                                          rw [xPut, if_neg (fun q => by rw [hE] at q; cases q.1), qLs_ins hp9]
                                          by_cases z9 : ((S j).1) = 3 ∨ ((S j).1) = 5
                                          · rw [if_pos z9, ← lw]; exact xSi_row (lw ▸ hok.1 z9) hp9 (hs9 z9).1 (hs9 z9).2
                                          · rw [if_neg z9, ht9 z9, lw, List.take_of_length_le (by rw [← lw, qLs_len]; omega), List.drop_of_length_le (by rw [← lw, qLs_len]; omega)]
                                        refine lv_iinc (v := nI (i2 + 1)) (lv' := [(9, .int (nI (i2 + 1))), (8, .int (nI 1)), (6, .int (nI 0)), (5, .ref (ra z7)), (0, .ref y), (1, .int (nI i))]) hx hb dX8_join_373 hl (k := 0) rfl (nI_1 i2) (by decide) rfl (fun ls hl => ?_)
                                        refine lv_goto (tgt := 338) hx hb dX8_join_376 (by decide) ?_
                                        replace lw : qLs (S j).1 (vp_updL (qSh fW p9 nW) p9 (Fz7 i2)) (vp_updL (qSh gW p9 nW) p9 (Gz7 i2)) (nW + 1) = xJn (S j).1 (xEa (S j).1) (S j).2.1 (qLs (S z7).1 Fz7 Gz7 (i2 + 1)) := by rw [lw, qLs_succ, xJn_snoc, ← c65]
                                        have hle9 : (nW + 1) ≤ 1000 := by have z1 := congrArg List.length lw; rw [qLs_len] at z1; have z2 := xJn_le (kd := (S j).1) (e := xEa (S j).1) (L0 := (S j).2.1) (qLs (S z7).1 Fz7 Gz7 (i2 + 1)) (S j).2.1 (fun _ z => z); have z3 := qLs_cnt (kd := (S z7).1) (f := Fz7) (g := Gz7) (n := nz7) (fun p => xEa (S j).1 || !xHas (S j).2.1 p.1) (show i2 + 1 ≤ nz7 by omega); rw [← hLz7, ← hcc] at z3; omega
                                        exact ihl H locs ls hv28 _ _ (nW + 1) (i2 + 1) (by omega) hY hms hmb faw fkw fvw faj fkj fvj faz7 fkz7 fvz7 fr lw ⟨hle9, by omega⟩ (lv_sub hl [0, 1, 2, 3, 4, 5] rfl) hP hS
                                · replace c321 : 1 = 0 := (nI_eq (a := 1) (b := 0) (by omega) (by omega)).mp c321
                                  exfalso; omega
                              · rw [if_neg cf]
                                refine lv_iconst (v := nI 3) hx hb dX8_join_317 (by decide) ?_
                                refine q_callV (rest := []) C (c_X8_good0 l D cy N0 hv4 y ms mb (ra 28) od pt fi re rc rs so ot cn la ro gr 0 ca (nI m0) ct fau cs ce rn (nI 3) hY) kX8_good g1249 g1251 rfl gp41 g4 hP hS hY (by first | decide | omega) hl.1 rfl (by decide) (by first | decide | omega) dX8_join_318 (fun q ce E h' H1 locs1 hE => hE.elim) (fun v hh44 H locs hq hP hS => ?_)
                                obtain ⟨rfl, rfl⟩ := hq
                                replace hP : qP D N0 (qs hv4 y (.inr (8, [.ref ms, .ref mb, .ref (ra 28), .int gr, .int (nI 3), .int ca, .int (nI m0), .ref od, .ref pt, .int ct, .int fau, .ref fi, .ref re, .int cs, .ref rc, .ref rs, .ref so, .ref ot, .ref cn, .ref la, .int ce, .ref ro, .int rn]))) H := hP
                                obtain ⟨hv29, ehv29⟩ : ∃ z : qH, z = qs hv4 y (.inr (8, [.ref ms, .ref mb, .ref (ra 28), .int gr, .int (nI 3), .int ca, .int (nI m0), .ref od, .ref pt, .int ct, .int fau, .ref fi, .ref re, .int cs, .ref rc, .ref rs, .ref so, .ref ot, .ref cn, .ref la, .int ce, .ref ro, .int rn])) := ⟨_, rfl⟩
                                rw [← ehv29] at hP
                                have khv29 : ∀ b o, b ≠ y → hv4 b = some o → hv29 b = some o := by rw [ehv29]; exact fun b o nb hb => (qs_ne nb).trans hb
                                replace hms := khv29 _ _ (fun q => by subst q; have := hms.symm.trans hY; first | cases this | simp at this) hms
                                replace hmb := khv29 _ _ (fun q => by subst q; have := hmb.symm.trans hY; first | cases this | simp at this) hmb
                                replace faw := khv29 _ _ (fun q => by have z9 := faw; rw [q] at z9; have := z9.symm.trans hY; first | cases this | simp at this) faw
                                replace fkw := khv29 _ _ (fun q => by have z9 := fkw; rw [q] at z9; have := z9.symm.trans hY; first | cases this | simp at this) fkw
                                replace fvw := khv29 _ _ (fun q => by have z9 := fvw; rw [q] at z9; have := z9.symm.trans hY; first | cases this | simp at this) fvw
                                replace faj := khv29 _ _ (fun q => by have z9 := faj; rw [q] at z9; have := z9.symm.trans hY; first | cases this | simp at this) faj
                                replace fkj := khv29 _ _ (fun q => by have z9 := fkj; rw [q] at z9; have := z9.symm.trans hY; first | cases this | simp at this) fkj
                                replace fvj := khv29 _ _ (fun q => by have z9 := fvj; rw [q] at z9; have := z9.symm.trans hY; first | cases this | simp at this) fvj
                                replace faz7 := khv29 _ _ (fun q => by have z9 := faz7; rw [q] at z9; have := z9.symm.trans hY; first | cases this | simp at this) faz7
                                replace fkz7 := khv29 _ _ (fun q => by have z9 := fkz7; rw [q] at z9; have := z9.symm.trans hY; first | cases this | simp at this) fkz7
                                replace fvz7 := khv29 _ _ (fun q => by have z9 := fvz7; rw [q] at z9; have := z9.symm.trans hY; first | cases this | simp at this) fvz7
                                replace hY : hv29 y = some (.inr (8, [.ref ms, .ref mb, .ref (ra 28), .int gr, .int (nI 3), .int ca, .int (nI m0), .ref od, .ref pt, .int ct, .int fau, .ref fi, .ref re, .int cs, .ref rc, .ref rs, .ref so, .ref ot, .ref cn, .ref la, .int ce, .ref ro, .int rn])) := by rw [ehv29]; exact qs_self
                                clear ehv29
                                replace fr := fun b o hb n1 n2 => khv29 b o n1 (fr b o hb n1 n2)
                                refine lv_if_ne (tgt := 326) hx hb dX8_join_321 (by decide) (fun c321 => ?_) (fun c321 => ?_)
                                · replace c321 : ¬ 0 = 0 := fun zq => c321 ((nI_eq (a := 0) (b := 0) (by omega) (by omega)).mpr zq)
                                  exfalso; omega
                                · replace c321 : 0 = 0 := (nI_eq (a := 0) (b := 0) (by omega) (by omega)).mp c321
                                  refine lv_iconst (v := nI 0) hx hb dX8_join_324 (by decide) ?_
                                  have eX : X = (3, 0, S, (ms, mb, ra 28, od, pt, ro, gr, cd, ca, nI m0, ct, fau, rn), a, k) := by rw [← hX]; unfold xs_join; rw [if_neg (by rw [ebi, ebj, ebz7]; decide), ecj, ecz7, if_neg (fun z => z.elim c44 (fun z => z c65)), eci]; unfold xr_join; dsimp only; rw [if_neg c105, ejc, show oMq (ms, mb, ra 28, od, pt, ro, gr, cd, ca, nI m0, ct, fau, rn) = nI m0 from rfl, ecm, hlj, hlz7, eco, if_pos (by omega)]
                                  obtain ⟨m8, f8⟩ := hM.fin0 hY0 (h' := hv29) ⟨hRw.1, hRw.2.1, hRw.2.2.1, faw, fkw, fvw⟩ fr
                                  obtain ⟨q8, r8⟩ := hQ.rowM (o' := oCd (ms, mb, ra 28, od, pt, ro, gr, cd, ca, nI m0, ct, fau, rn) 3) hY0 hY m8 f8 ⟨rfl, rfl, rfl, rfl, rfl, rfl⟩
                                  exact q_iret C hP hS ⟨by rw [eX]; rfl, A, by rw [eX]; exact q8, r8⟩ (by omega) dX8_join_325
                            · replace c275 : ¬ nz7 ≤ ii := fun zq => c275 ((nI_leI (a := nz7) (b := ii) (by omega) (by omega)).mpr zq)
                              refine lv_iload hx hb dX8_join_278 (lv_at hl 2 rfl) ?_
                              refine lv_if_ne (tgt := 299) hx hb dX8_join_280 (by decide) (fun c280 => ?_) (fun c280 => ?_)
                              · replace c280 : ¬ 1 = 0 := fun zq => c280 ((nI_eq (a := 1) (b := 0) (by omega) (by omega)).mpr zq)
                                refine lv_iinc (v := nI ((nj + cc) + 1)) (lv' := [(7, .int (nI ((nj + cc) + 1))), (9, .int (nI ii)), (8, .int (nI 1)), (6, .int (nI 0)), (5, .ref (ra z7)), (4, .ref (ra j)), (0, .ref y), (1, .int (nI i))]) hx hb dX8_join_299 hl (k := 1) rfl (nI_1 (nj + cc)) (by decide) rfl (fun ls hl => ?_)
                                refine lv_iinc (v := nI (ii + 1)) (lv' := [(9, .int (nI (ii + 1))), (7, .int (nI ((nj + cc) + 1))), (8, .int (nI 1)), (6, .int (nI 0)), (5, .ref (ra z7)), (4, .ref (ra j)), (0, .ref y), (1, .int (nI i))]) hx hb dX8_join_302 hl (k := 1) rfl (nI_1 ii) (by decide) rfl (fun ls hl => ?_)
                                refine lv_goto (tgt := 268) hx hb dX8_join_305 (by decide) ?_
                                rw [Nat.add_assoc] at hl
                                exact ihl H locs ls (ii + 1) (cc + 1) (by omega) (lv_sub hl [0, 1, 2, 3, 4, 5, 6, 7] rfl) ⟨by omega, by omega⟩ (by rw [qLs_succ, List.filter_append, List.length_append, ← hcc, List.filter_cons, if_pos (by rw [hE]; rfl)]; rfl) hP hS
                              · replace c280 : 1 = 0 := (nI_eq (a := 1) (b := 0) (by omega) (by omega)).mp c280
                                exfalso; omega
                      · refine lv_iconst (v := nI 1) hx hb dX8_join_108 (by decide) ?_
                        refine lv_aload hx hb dX8_join_109 (lv_at hl 1 rfl) ?_
                        refine q_get C hP faj rfl inX7 5 (by decide) g1145 rfl dX8_join_111 ?_
                        refine lv_aload hx hb dX8_join_114 (lv_at hl 0 rfl) ?_
                        refine q_get C hP faz7 rfl inX7 5 (by decide) g1145 rfl dX8_join_116 ?_
                        refine lv_icmp_le (tgt := 130) hx hb dX8_join_119 (by decide) (fun c119 => ?_) (fun c119 => ?_)
                        · replace c119 : ((S j).2.2.2) ≤ ((S z7).2.2.2) := (nI_leI (a := (S j).2.2.2) (b := (S z7).2.2.2) (by omega) (by omega)).mp c119
                          refine lv_aload hx hb dX8_join_130 (lv_at hl 0 rfl) ?_
                          refine q_get C hP faz7 rfl inX7 5 (by decide) g1145 rfl dX8_join_132 ?_
                          refine q_iaddN hx hb dX8_join_135 ?_
                          refine lv_istore (lv' := [(6, .int (nI (1 + ((S z7).2.2.2)))), (5, .ref (ra z7)), (4, .ref (ra j)), (0, .ref y), (1, .int (nI i)), (2, .int (nI j)), (3, .int (nI z7))]) hx hb dX8_join_136 hl (by decide) rfl (fun ls hl => ?_)
                          refine lv_aload_n hx hb dX8_join_138 rfl (lv_at hl 3 rfl) ?_
                          refine lv_iload hx hb dX8_join_139 (lv_at hl 0 rfl) ?_
                          refine lv_bipush (v := nI 100) hx hb dX8_join_141 (by decide) ?_
                          refine lv_icmp_gt (tgt := 150) hx hb dX8_join_143 (by decide) (fun c143 => ?_) (fun c143 => ?_)
                          · replace c143 : 100 < (1 + ((S z7).2.2.2)) := (nI_ltI (a := 100) (b := (1 + ((S z7).2.2.2))) (by omega) (by omega)).mp c143
                            refine lv_iconst (v := nI 0) hx hb dX8_join_150 (by decide) ?_
                            refine lv_iconst (v := nI 3) hx hb dX8_join_151 (by decide) ?_
                            refine q_callV (rest := []) C (c_X8_good0 l D cy N0 hv4 y ms mb (ra 28) od pt fi re rc rs so ot cn la ro gr 0 ca (nI m0) ct fau cs ce rn (nI 3) hY) kX8_good g1249 g1251 rfl gp41 g4 hP hS hY (by first | decide | omega) hl.1 rfl (by decide) (by first | decide | omega) dX8_join_152 (fun q ce E h' H1 locs1 hE => hE.elim) (fun v hh45 H locs hq hP hS => ?_)
                            obtain ⟨rfl, rfl⟩ := hq
                            replace hP : qP D N0 (qs hv4 y (.inr (8, [.ref ms, .ref mb, .ref (ra 28), .int gr, .int (nI 3), .int ca, .int (nI m0), .ref od, .ref pt, .int ct, .int fau, .ref fi, .ref re, .int cs, .ref rc, .ref rs, .ref so, .ref ot, .ref cn, .ref la, .int ce, .ref ro, .int rn]))) H := hP
                            obtain ⟨hv30, ehv30⟩ : ∃ z : qH, z = qs hv4 y (.inr (8, [.ref ms, .ref mb, .ref (ra 28), .int gr, .int (nI 3), .int ca, .int (nI m0), .ref od, .ref pt, .int ct, .int fau, .ref fi, .ref re, .int cs, .ref rc, .ref rs, .ref so, .ref ot, .ref cn, .ref la, .int ce, .ref ro, .int rn])) := ⟨_, rfl⟩
                            rw [← ehv30] at hP
                            have khv30 : ∀ b o, b ≠ y → hv4 b = some o → hv30 b = some o := by rw [ehv30]; exact fun b o nb hb => (qs_ne nb).trans hb
                            replace hms := khv30 _ _ (fun q => by subst q; have := hms.symm.trans hY; first | cases this | simp at this) hms
                            replace hmb := khv30 _ _ (fun q => by subst q; have := hmb.symm.trans hY; first | cases this | simp at this) hmb
                            replace faw := khv30 _ _ (fun q => by have z9 := faw; rw [q] at z9; have := z9.symm.trans hY; first | cases this | simp at this) faw
                            replace fkw := khv30 _ _ (fun q => by have z9 := fkw; rw [q] at z9; have := z9.symm.trans hY; first | cases this | simp at this) fkw
                            replace fvw := khv30 _ _ (fun q => by have z9 := fvw; rw [q] at z9; have := z9.symm.trans hY; first | cases this | simp at this) fvw
                            replace faj := khv30 _ _ (fun q => by have z9 := faj; rw [q] at z9; have := z9.symm.trans hY; first | cases this | simp at this) faj
                            replace fkj := khv30 _ _ (fun q => by have z9 := fkj; rw [q] at z9; have := z9.symm.trans hY; first | cases this | simp at this) fkj
                            replace fvj := khv30 _ _ (fun q => by have z9 := fvj; rw [q] at z9; have := z9.symm.trans hY; first | cases this | simp at this) fvj
                            replace faz7 := khv30 _ _ (fun q => by have z9 := faz7; rw [q] at z9; have := z9.symm.trans hY; first | cases this | simp at this) faz7
                            replace fkz7 := khv30 _ _ (fun q => by have z9 := fkz7; rw [q] at z9; have := z9.symm.trans hY; first | cases this | simp at this) fkz7
                            replace fvz7 := khv30 _ _ (fun q => by have z9 := fvz7; rw [q] at z9; have := z9.symm.trans hY; first | cases this | simp at this) fvz7
                            replace hY : hv30 y = some (.inr (8, [.ref ms, .ref mb, .ref (ra 28), .int gr, .int (nI 3), .int ca, .int (nI m0), .ref od, .ref pt, .int ct, .int fau, .ref fi, .ref re, .int cs, .ref rc, .ref rs, .ref so, .ref ot, .ref cn, .ref la, .int ce, .ref ro, .int rn])) := by rw [ehv30]; exact qs_self
                            clear ehv30
                            replace fr := fun b o hb n1 n2 => khv30 b o n1 (fr b o hb n1 n2)
                            refine lv_if_ne (tgt := 160) hx hb dX8_join_155 (by decide) (fun c155 => ?_) (fun c155 => ?_)
                            · replace c155 : ¬ 0 = 0 := fun zq => c155 ((nI_eq (a := 0) (b := 0) (by omega) (by omega)).mpr zq)
                              exfalso; omega
                            · replace c155 : 0 = 0 := (nI_eq (a := 0) (b := 0) (by omega) (by omega)).mp c155
                              refine lv_iconst (v := nI 0) hx hb dX8_join_158 (by decide) ?_
                              have eX : X = (3, 0, S, (ms, mb, ra 28, od, pt, ro, gr, cd, ca, nI m0, ct, fau, rn), a, k) := by rw [← hX]; unfold xs_join; rw [if_neg (by rw [ebi, ebj, ebz7]; decide), ecj, ecz7, if_neg (fun z => z.elim c44 (fun z => z c65)), eci]; unfold xr_join; dsimp only; rw [if_pos c105, if_pos (by omega)]
                              obtain ⟨m8, f8⟩ := hM.fin0 hY0 (h' := hv30) ⟨hRw.1, hRw.2.1, hRw.2.2.1, faw, fkw, fvw⟩ fr
                              obtain ⟨q8, r8⟩ := hQ.rowM (o' := oCd (ms, mb, ra 28, od, pt, ro, gr, cd, ca, nI m0, ct, fau, rn) 3) hY0 hY m8 f8 ⟨rfl, rfl, rfl, rfl, rfl, rfl⟩
                              exact q_iret C hP hS ⟨by rw [eX]; rfl, A, by rw [eX]; exact q8, r8⟩ (by omega) dX8_join_159
                          · replace c143 : ¬ 100 < (1 + ((S z7).2.2.2)) := fun zq => c143 ((nI_ltI (a := 100) (b := (1 + ((S z7).2.2.2))) (by omega) (by omega)).mpr zq)
                            refine lv_iconst (v := nI 1) hx hb dX8_join_146 (by decide) ?_
                            refine lv_goto (tgt := 151) hx hb dX8_join_147 (by decide) ?_
                            refine lv_iconst (v := nI 3) hx hb dX8_join_151 (by decide) ?_
                            refine q_callV (rest := []) C (c_X8_good1 l D cy N0 hv4 y ms mb (ra 28) od pt fi re rc rs so ot cn la ro gr 0 ca (nI m0) ct fau cs ce rn (nI 3) hY) kX8_good g1249 g1251 rfl gp41 g4 hP hS hY (by first | decide | omega) hl.1 rfl (by decide) (by first | decide | omega) dX8_join_152 (fun q ce E h' H1 locs1 hE => hE.elim) (fun v hh46 H locs hq hP hS => ?_)
                            obtain ⟨rfl, rfl⟩ := hq
                            replace hP : qP D N0 (qs hv4 y (.inr (8, [.ref ms, .ref mb, .ref (ra 28), .int gr, .int 0, .int ca, .int (nI m0), .ref od, .ref pt, .int ct, .int fau, .ref fi, .ref re, .int cs, .ref rc, .ref rs, .ref so, .ref ot, .ref cn, .ref la, .int ce, .ref ro, .int rn]))) H := hP
                            obtain ⟨hv31, ehv31⟩ : ∃ z : qH, z = qs hv4 y (.inr (8, [.ref ms, .ref mb, .ref (ra 28), .int gr, .int 0, .int ca, .int (nI m0), .ref od, .ref pt, .int ct, .int fau, .ref fi, .ref re, .int cs, .ref rc, .ref rs, .ref so, .ref ot, .ref cn, .ref la, .int ce, .ref ro, .int rn])) := ⟨_, rfl⟩
                            rw [← ehv31] at hP
                            have khv31 : ∀ b o, b ≠ y → hv4 b = some o → hv31 b = some o := by rw [ehv31]; exact fun b o nb hb => (qs_ne nb).trans hb
                            replace hms := khv31 _ _ (fun q => by subst q; have := hms.symm.trans hY; first | cases this | simp at this) hms
                            replace hmb := khv31 _ _ (fun q => by subst q; have := hmb.symm.trans hY; first | cases this | simp at this) hmb
                            replace faw := khv31 _ _ (fun q => by have z9 := faw; rw [q] at z9; have := z9.symm.trans hY; first | cases this | simp at this) faw
                            replace fkw := khv31 _ _ (fun q => by have z9 := fkw; rw [q] at z9; have := z9.symm.trans hY; first | cases this | simp at this) fkw
                            replace fvw := khv31 _ _ (fun q => by have z9 := fvw; rw [q] at z9; have := z9.symm.trans hY; first | cases this | simp at this) fvw
                            replace faj := khv31 _ _ (fun q => by have z9 := faj; rw [q] at z9; have := z9.symm.trans hY; first | cases this | simp at this) faj
                            replace fkj := khv31 _ _ (fun q => by have z9 := fkj; rw [q] at z9; have := z9.symm.trans hY; first | cases this | simp at this) fkj
                            replace fvj := khv31 _ _ (fun q => by have z9 := fvj; rw [q] at z9; have := z9.symm.trans hY; first | cases this | simp at this) fvj
                            replace faz7 := khv31 _ _ (fun q => by have z9 := faz7; rw [q] at z9; have := z9.symm.trans hY; first | cases this | simp at this) faz7
                            replace fkz7 := khv31 _ _ (fun q => by have z9 := fkz7; rw [q] at z9; have := z9.symm.trans hY; first | cases this | simp at this) fkz7
                            replace fvz7 := khv31 _ _ (fun q => by have z9 := fvz7; rw [q] at z9; have := z9.symm.trans hY; first | cases this | simp at this) fvz7
                            replace hY : hv31 y = some (.inr (8, [.ref ms, .ref mb, .ref (ra 28), .int gr, .int 0, .int ca, .int (nI m0), .ref od, .ref pt, .int ct, .int fau, .ref fi, .ref re, .int cs, .ref rc, .ref rs, .ref so, .ref ot, .ref cn, .ref la, .int ce, .ref ro, .int rn])) := by rw [ehv31]; exact qs_self
                            clear ehv31
                            replace fr := fun b o hb n1 n2 => khv31 b o n1 (fr b o hb n1 n2)
                            refine lv_if_ne (tgt := 160) hx hb dX8_join_155 (by decide) (fun c155 => ?_) (fun c155 => ?_)
                            · replace c155 : ¬ 1 = 0 := fun zq => c155 ((nI_eq (a := 1) (b := 0) (by omega) (by omega)).mpr zq)
                              refine lv_aload hx hb dX8_join_160 (lv_at hl 2 rfl) ?_
                              refine lv_aload_n hx hb dX8_join_162 rfl (lv_at hl 3 rfl) ?_
                              refine q_get C hP hY rfl inX8 2 (by decide) g1169 rfl dX8_join_163 ?_
                              refine q_callS (rest := []) C (c_X8_copy l D cy N0 hv31 (ra j) (rk j) (rv j) (S j).1 (nI (S j).2.2.1) (nI (S j).2.2.2) rwj nj Fj Gj (ra 28) (rk 28) (rv 28) kdw smw dpw rww nw fw gw ⟨hRj.1, hRj.2.1, hRj.2.2.1, faj, fkj, fvj⟩ ⟨hRw.1, hRw.2.1, hRw.2.2.1, faw, fkw, fvw⟩ apj (by omega)) kX8_copy g1257 g1258 hP hS (by first | decide | omega) hl.1 rfl (by decide) (by first | decide | omega) dX8_join_166 (fun q ce E h' H1 locs1 hE => hE.elim) (fun v hh47 H locs hq hP hS => ?_)
                              obtain ⟨rfl, rfl⟩ := hq
                              obtain ⟨hv32, ehv32⟩ : ∃ z : qH, z = qRh cy hv31 (ra 28) (rk 28) (rv 28) ((S j).1) (nI nj) (nI (S j).2.2.1) (nI (S j).2.2.2) rwj (qCp Fj fw nj) (qCp Gj gw nj) := ⟨_, rfl⟩
                              rw [← ehv32] at hP
                              have r9 : qRw cy hv32 (ra 28) (rk 28) (rv 28) ((S j).1) (nI nj) (nI (S j).2.2.1) (nI (S j).2.2.2) rwj (qCp Fj fw nj) (qCp Gj gw nj) := by rw [ehv32]; exact qRw.new (cy := cy) (h := hv31) (kd := kdw) (n := (nI nw)) (sm := smw) (dp := dpw) (rw := rww) (f := fw) (g := gw) ⟨hRw.1, hRw.2.1, hRw.2.2.1, faw, fkw, fvw⟩
                              have khv32 : ∀ b o, qOf (ra 28) (rk 28) (rv 28) b → hv31 b = some o → hv32 b = some o := by rw [ehv32]; exact fun b o q hb => (qRh_o q.1 q.2.1 q.2.2).trans hb
                              replace hY := khv32 _ _ ⟨fun q => by rw [q] at hY; have := faw.symm.trans hY; first | cases this | simp at this, fun q => by rw [q] at hY; have := fkw.symm.trans hY; first | cases this | simp at this, fun q => by rw [q] at hY; have := fvw.symm.trans hY; first | cases this | simp at this⟩ hY
                              replace hms := khv32 _ _ ⟨fun q => by rw [q] at hms; have := faw.symm.trans hms; first | cases this | simp at this, fun q => by rw [q] at hms; have := fkw.symm.trans hms; first | cases this | simp at this, fun q => by rw [q] at hms; have := fvw.symm.trans hms; first | cases this | simp at this⟩ hms
                              replace hmb := khv32 _ _ ⟨fun q => by rw [q] at hmb; have := faw.symm.trans hmb; first | cases this | simp at this, fun q => by rw [q] at hmb; have := fkw.symm.trans hmb; first | cases this | simp at this, fun q => by rw [q] at hmb; have := fvw.symm.trans hmb; first | cases this | simp at this⟩ hmb
                              replace faj := khv32 _ _ apj.1 faj
                              replace fkj := khv32 _ _ apj.2.1 fkj
                              replace fvj := khv32 _ _ apj.2.2 fvj
                              replace faz7 := khv32 _ _ apz7.1 faz7
                              replace fkz7 := khv32 _ _ apz7.2.1 fkz7
                              replace fvz7 := khv32 _ _ apz7.2.2 fvz7
                              replace fr := fun b o hb n1 n2 => khv32 b o n2 (fr b o hb n1 n2)
                              clear faw fkw fvw
                              have faw := r9.2.2.2.1
                              have fkw := r9.2.2.2.2.1
                              have fvw := r9.2.2.2.2.2
                              unfold qRb at faw
                              unfold qJr at fkw fvw
                              clear r9 ehv32
                              have lw : qLs ((S j).1) (qCp Fj fw nj) (qCp Gj gw nj) nj = (S j).2.1 := by rw [qLs_cp]; exact hLj.symm
                              refine lv_aload_n hx hb dX8_join_169 rfl (lv_at hl 3 rfl) ?_
                              refine q_get C hP hY rfl inX8 2 (by decide) g1169 rfl dX8_join_170 ?_
                              refine lv_aload_n hx hb dX8_join_173 rfl (lv_at hl 3 rfl) ?_
                              refine lv_aload hx hb dX8_join_174 (lv_at hl 2 rfl) ?_
                              refine q_get C hP faj rfl inX7 4 (by decide) g1144 rfl dX8_join_176 ?_
                              refine lv_aload hx hb dX8_join_179 (lv_at hl 1 rfl) ?_
                              refine q_get C hP faz7 rfl inX7 4 (by decide) g1144 rfl dX8_join_181 ?_
                              have hs8 := hSt j (by omega) c105
                              have hs9 := hSt z7 (by omega) (c65.symm.trans c105)
                              have hL8 := (hV.L hB).1
                              have hLn := (hV.L hB).2
                              have emx : 1 + max (S j).2.2.2 (S z7).2.2.2 = 1 + (S z7).2.2.2 := by omega
                              have eX : X = (0, 0, qU S i ((S j).1, (S j).2.1, (xJoin a k (S j).2.2.1 (S z7).2.2.1).1, 1 + (S z7).2.2.2), (ms, mb, ra 28, od, pt, ro, gr, cd, ca, nI m0, ct, fau, rn), (xJoin a k (S j).2.2.1 (S z7).2.2.1).2) := by rw [← hX]; unfold xs_join; rw [if_neg (by rw [ebi, ebj, ebz7]; decide), ecj, ecz7, if_neg (fun z => z.elim c44 (fun z => z c65)), eci]; unfold xr_join; dsimp only; rw [if_pos c105, emx, if_neg (by omega)]
                              obtain ⟨ep1, ep2⟩ := xJoin_P hV (s := (S j).2.2.1) (n := (S z7).2.2.1)
                              have eP1 : qP1 X.2.2.2.2.1 = qP1 (xJoin a k (S j).2.2.1 (S z7).2.2.1).2.1 := by rw [eX]
                              have eP2 : qP2 X.2.2.2.2.1 = qP2 (xJoin a k (S j).2.2.1 (S z7).2.2.1).2.1 := by rw [eX]
                              obtain ⟨m8, f8⟩ := hM.fin0 hY0 (h' := hv32) ⟨hRw.1, hRw.2.1, hRw.2.2.1, faw, fkw, fvw⟩ fr
                              obtain ⟨q8, r8⟩ := hQ.rowM (o' := (oCd (ms, mb, ra 28, od, pt, ro, gr, cd, ca, nI m0, ct, fau, rn) 0)) hY0 hY m8 f8 ⟨rfl, rfl, rfl, rfl, rfl, rfl⟩
                              refine q_callV (rest := [.ref (ra 28)]) C (w_joined l D cy N0 hv32 y A (oCd (ms, mb, ra 28, od, pt, ro, gr, cd, ca, nI m0, ct, fau, rn) 0) a k (S j).2.2.1 (S z7).2.2.1 q8.1 q8.2.1 hL8 ⟨hs8.1, by omega⟩ (by omega)) kX8_joined g1363 g1365 rfl gp58 g4 hP hS hY (by first | decide | omega) hl.1 rfl (by simp [q_catrf, q_cati, q_catl, q_cata, q_catn]) (by first | decide | omega) dX8_join_184 (fun q ce E h' H1 locs1 hE => hE.elim) (fun v hh48 H locs hq hP hS => ?_)
                              obtain ⟨rfl, A1, hS1, hF1, nA1⟩ := hq
                              have ap9 := q8.2.2.2.2.2
                              replace hms := hF1.1 _ _ hms (qne_arr (cy := cy) hms hY) ap9.two.1
                              replace hmb := hF1.1 _ _ hmb (qne_arr (cy := cy) hmb hY) ap9.two.2
                              replace faw := hF1.1 _ _ faw (fun z => by rw [z] at faw; have := faw.symm.trans hY; cases this) (ap9.row (i := 28) (by omega)).1
                              replace fkw := hF1.1 _ _ fkw (qne_arr (cy := cy) fkw hY) (ap9.row (i := 28) (by omega)).2.1
                              replace fvw := hF1.1 _ _ fvw (qne_arr (cy := cy) fvw hY) (ap9.row (i := 28) (by omega)).2.2
                              replace faj := hF1.1 _ _ faj (fun z => by rw [z] at faj; have := faj.symm.trans hY; cases this) (ap9.row (i := j) (by omega)).1
                              replace fkj := hF1.1 _ _ fkj (qne_arr (cy := cy) fkj hY) (ap9.row (i := j) (by omega)).2.1
                              replace fvj := hF1.1 _ _ fvj (qne_arr (cy := cy) fvj hY) (ap9.row (i := j) (by omega)).2.2
                              replace faz7 := hF1.1 _ _ faz7 (fun z => by rw [z] at faz7; have := faz7.symm.trans hY; cases this) (ap9.row (i := z7) (by omega)).1
                              replace fkz7 := hF1.1 _ _ fkz7 (qne_arr (cy := cy) fkz7 hY) (ap9.row (i := z7) (by omega)).2.1
                              replace fvz7 := hF1.1 _ _ fvz7 (qne_arr (cy := cy) fvz7 hY) (ap9.row (i := z7) (by omega)).2.2
                              obtain ⟨q7a, r7a⟩ := q8.str hS1 hF1 nA1 ⟨rfl, rfl, rfl, rfl, rfl, rfl⟩
                              have rta := r8.tr q8 rfl r7a
                              clear hY
                              obtain ⟨fja, rja, rcja, rsja, soja, otja, cnja, laja, hY⟩ := q7a.1.yo2
                              unfold qYo at hY
                              have hY0 := hY
                              have hM := q7a.2.2.1
                              have hrs := hM.2.2.2.2.1
                              replace hRw : qRw cy hh48 (ra 28) (rk 28) (rv 28) ((S j).1) (nI nj) (nI (S j).2.2.1) (nI (S j).2.2.2) rwj (qCp Fj fw nj) (qCp Gj gw nj) := ⟨hRw.1, hRw.2.1, hRw.2.2.1, faw, fkw, fvw⟩
                              replace fr : ∀ b o, hh48 b = some o → b ≠ y → qOf (ra 28) (rk 28) (rv 28) b → hh48 b = some o := fun b o hb _ _ => hb
                              refine q_put C hP hS faw rfl inX7 tyX7 tyX7_ok nmX7 4 (by decide) g1144 rfl rfl rfl (Nat.le_of_ble_eq_true rfl) dX8_join_187 (fun H locs hP hS => ?_)
                              replace hP : qP D N0 (qs hh48 (ra 28) (.inr (7, [.ref (rk 28), .ref (rv 28), .int (S j).1, .int (nI nj), .int (nI (xJoin a k (S j).2.2.1 (S z7).2.2.1).1), .int (nI (S j).2.2.2), .int rwj]))) H := hP
                              obtain ⟨hv33, ehv33⟩ : ∃ z : qH, z = qs hh48 (ra 28) (.inr (7, [.ref (rk 28), .ref (rv 28), .int (S j).1, .int (nI nj), .int (nI (xJoin a k (S j).2.2.1 (S z7).2.2.1).1), .int (nI (S j).2.2.2), .int rwj])) := ⟨_, rfl⟩
                              rw [← ehv33] at hP
                              have khv33 : ∀ b o, b ≠ (ra 28) → hh48 b = some o → hv33 b = some o := by rw [ehv33]; exact fun b o nb hb => (qs_ne nb).trans hb
                              replace hY := khv33 _ _ (fun q => by have z9 := hY; rw [q] at z9; have := z9.symm.trans faw; first | cases this | simp at this) hY
                              replace hms := khv33 _ _ (fun q => by have z9 := hms; rw [q] at z9; have := z9.symm.trans faw; first | cases this | simp at this) hms
                              replace hmb := khv33 _ _ (fun q => by have z9 := hmb; rw [q] at z9; have := z9.symm.trans faw; first | cases this | simp at this) hmb
                              replace fkw := khv33 _ _ (fun q => by have z9 := fkw; rw [q] at z9; have := z9.symm.trans faw; first | cases this | simp at this) fkw
                              replace fvw := khv33 _ _ (fun q => by have z9 := fvw; rw [q] at z9; have := z9.symm.trans faw; first | cases this | simp at this) fvw
                              replace faj := khv33 _ _ apj.1.1 faj
                              replace fkj := khv33 _ _ apj.2.1.1 fkj
                              replace fvj := khv33 _ _ apj.2.2.1 fvj
                              replace faz7 := khv33 _ _ apz7.1.1 faz7
                              replace fkz7 := khv33 _ _ apz7.2.1.1 fkz7
                              replace fvz7 := khv33 _ _ apz7.2.2.1 fvz7
                              replace faw : hv33 (ra 28) = some (.inr (7, [.ref (rk 28), .ref (rv 28), .int (S j).1, .int (nI nj), .int (nI (xJoin a k (S j).2.2.1 (S z7).2.2.1).1), .int (nI (S j).2.2.2), .int rwj])) := by rw [ehv33]; exact qs_self
                              clear ehv33
                              replace fr := fun b o hb n1 n2 => khv33 b o n2.1 (fr b o hb n1 n2)
                              refine lv_aload_n hx hb dX8_join_190 rfl (lv_at hl 3 rfl) ?_
                              refine q_get C hP hY rfl inX8 2 (by decide) g1169 rfl dX8_join_191 ?_
                              refine lv_iload hx hb dX8_join_194 (lv_at hl 0 rfl) ?_
                              refine q_put C hP hS faw rfl inX7 tyX7 tyX7_ok nmX7 5 (by decide) g1145 rfl rfl rfl (Nat.le_of_ble_eq_true rfl) dX8_join_196 (fun H locs hP hS => ?_)
                              replace hP : qP D N0 (qs hv33 (ra 28) (.inr (7, [.ref (rk 28), .ref (rv 28), .int (S j).1, .int (nI nj), .int (nI (xJoin a k (S j).2.2.1 (S z7).2.2.1).1), .int (nI (1 + ((S z7).2.2.2))), .int rwj]))) H := hP
                              obtain ⟨hv34, ehv34⟩ : ∃ z : qH, z = qs hv33 (ra 28) (.inr (7, [.ref (rk 28), .ref (rv 28), .int (S j).1, .int (nI nj), .int (nI (xJoin a k (S j).2.2.1 (S z7).2.2.1).1), .int (nI (1 + ((S z7).2.2.2))), .int rwj])) := ⟨_, rfl⟩
                              rw [← ehv34] at hP
                              have khv34 : ∀ b o, b ≠ (ra 28) → hv33 b = some o → hv34 b = some o := by rw [ehv34]; exact fun b o nb hb => (qs_ne nb).trans hb
                              replace hY := khv34 _ _ (fun q => by have z9 := hY; rw [q] at z9; have := z9.symm.trans faw; first | cases this | simp at this) hY
                              replace hms := khv34 _ _ (fun q => by have z9 := hms; rw [q] at z9; have := z9.symm.trans faw; first | cases this | simp at this) hms
                              replace hmb := khv34 _ _ (fun q => by have z9 := hmb; rw [q] at z9; have := z9.symm.trans faw; first | cases this | simp at this) hmb
                              replace fkw := khv34 _ _ (fun q => by have z9 := fkw; rw [q] at z9; have := z9.symm.trans faw; first | cases this | simp at this) fkw
                              replace fvw := khv34 _ _ (fun q => by have z9 := fvw; rw [q] at z9; have := z9.symm.trans faw; first | cases this | simp at this) fvw
                              replace faj := khv34 _ _ apj.1.1 faj
                              replace fkj := khv34 _ _ apj.2.1.1 fkj
                              replace fvj := khv34 _ _ apj.2.2.1 fvj
                              replace faz7 := khv34 _ _ apz7.1.1 faz7
                              replace fkz7 := khv34 _ _ apz7.2.1.1 fkz7
                              replace fvz7 := khv34 _ _ apz7.2.2.1 fvz7
                              replace faw : hv34 (ra 28) = some (.inr (7, [.ref (rk 28), .ref (rv 28), .int (S j).1, .int (nI nj), .int (nI (xJoin a k (S j).2.2.1 (S z7).2.2.1).1), .int (nI (1 + ((S z7).2.2.2))), .int rwj])) := by rw [ehv34]; exact qs_self
                              clear ehv34
                              replace fr := fun b o hb n1 n2 => khv34 b o n2.1 (fr b o hb n1 n2)
                              refine lv_aload_n hx hb dX8_join_199 rfl (lv_at hl 3 rfl) ?_
                              refine lv_iload_n hx hb dX8_join_200 rfl (lv_at hl 4 rfl) ?_
                              refine lv_iconst (v := nI 0) hx hb dX8_join_201 (by decide) ?_
                              obtain ⟨ni, rwi, Fi, Gi, hRi, hni, hLi, hKi⟩ := hrs i (by omega)
                              have api := hRi.apart hRw (hmd.two (i := i) (j := 28) (by omega) (by omega) (by omega))
                              replace hRi := hRi.keep2 (fun b o hb ho => fr b o ho (hRi.ney hY0 hb) (hb.elim (fun q => q ▸ api.1) (fun hb => hb.elim (fun q => q ▸ api.2.1) (fun q => q ▸ api.2.2))))
                              have fai := hRi.2.2.2.1
                              have fki := hRi.2.2.2.2.1
                              have fvi := hRi.2.2.2.2.2
                              unfold qRb at fai
                              unfold qJr at fki fvi
                              refine q_callV (rest := []) C (c_X8_done l D cy N0 hv34 y ms mb od pt fja rja rcja rsja soja otja cnja laja ro gr 0 ca (nI m0) ct fau (nI (xJoin a k (S j).2.2.1 (S z7).2.2.1).2.1.1) (nI (xJoin a k (S j).2.2.1 (S z7).2.2.1).2.2.1) rn ra rk rv i (nI 0) (S j).1 (nI (xJoin a k (S j).2.2.1 (S z7).2.2.1).1) (nI (1 + ((S z7).2.2.2))) rwj nj (qCp Fj fw nj) (qCp Gj gw nj) (S i).1 (nI (S i).2.2.1) (nI (S i).2.2.2) rwi ni Fi Gi hY hms hmd ⟨hRw.1, hRw.2.1, hRw.2.2.1, faw, fkw, fvw⟩ ⟨hRi.1, hRi.2.1, hRi.2.2.1, fai, fki, fvi⟩ (by omega) (by omega)) kX8_done g1293 g1295 rfl gp45 g4 hP hS hY (by first | decide | omega) hl.1 rfl (by decide) (by first | decide | omega) dX8_join_202 (fun q ce E h' H1 locs1 hE => hE.elim) (fun v hh49 H locs hq hP hS => ?_)
                              obtain ⟨rfl, hY9, hw9, hi9, fr9⟩ := hq
                              replace fr := fun b o hb n1 n2 n3 => fr9 b o (fr b o hb n1 n2) n1 n2 n3
                              rw [show (nI m0) + nI 0 = (nI m0) from Int32.add_zero _] at hY9
                              refine lv_pop hx hb dX8_join_205 rfl ?_
                              refine lv_iconst (v := nI 0) hx hb dX8_join_206 (by decide) ?_
                              obtain ⟨m9, f9⟩ := hM.fin hY0 (i := i) (by omega) (s := ((S j).1, (S j).2.1, (xJoin a k (S j).2.2.1 (S z7).2.2.1).1, (1 + ((S z7).2.2.2)))) ⟨nj, _, _, _, hi9, by omega, by rw [qLs_cp]; exact lw.symm, Or.inl rfl⟩ hw9 fr
                              obtain ⟨q9, r9⟩ := q7a.rowM (o' := (oCd (ms, mb, ra 28, od, pt, ro, gr, cd, ca, nI m0, ct, fau, rn) 0)) hY0 hY9 m9 f9 ⟨rfl, rfl, rfl, rfl, rfl, rfl⟩
                              exact q_iret C hP hS ⟨by rw [eX]; rfl, A1, by rw [eX]; exact q9, rta.tr q7a rfl r9⟩ (by omega) dX8_join_207
                            · replace c155 : 1 = 0 := (nI_eq (a := 1) (b := 0) (by omega) (by omega)).mp c155
                              exfalso; omega
                        · replace c119 : ¬ ((S j).2.2.2) ≤ ((S z7).2.2.2) := fun zq => c119 ((nI_leI (a := (S j).2.2.2) (b := (S z7).2.2.2) (by omega) (by omega)).mpr zq)
                          refine lv_aload hx hb dX8_join_122 (lv_at hl 1 rfl) ?_
                          refine q_get C hP faj rfl inX7 5 (by decide) g1145 rfl dX8_join_124 ?_
                          refine lv_goto (tgt := 135) hx hb dX8_join_127 (by decide) ?_
                          refine q_iaddN hx hb dX8_join_135 ?_
                          refine lv_istore (lv' := [(6, .int (nI (1 + ((S j).2.2.2)))), (5, .ref (ra z7)), (4, .ref (ra j)), (0, .ref y), (1, .int (nI i)), (2, .int (nI j)), (3, .int (nI z7))]) hx hb dX8_join_136 hl (by decide) rfl (fun ls hl => ?_)
                          refine lv_aload_n hx hb dX8_join_138 rfl (lv_at hl 3 rfl) ?_
                          refine lv_iload hx hb dX8_join_139 (lv_at hl 0 rfl) ?_
                          refine lv_bipush (v := nI 100) hx hb dX8_join_141 (by decide) ?_
                          refine lv_icmp_gt (tgt := 150) hx hb dX8_join_143 (by decide) (fun c143 => ?_) (fun c143 => ?_)
                          · replace c143 : 100 < (1 + ((S j).2.2.2)) := (nI_ltI (a := 100) (b := (1 + ((S j).2.2.2))) (by omega) (by omega)).mp c143
                            refine lv_iconst (v := nI 0) hx hb dX8_join_150 (by decide) ?_
                            refine lv_iconst (v := nI 3) hx hb dX8_join_151 (by decide) ?_
                            refine q_callV (rest := []) C (c_X8_good0 l D cy N0 hv4 y ms mb (ra 28) od pt fi re rc rs so ot cn la ro gr 0 ca (nI m0) ct fau cs ce rn (nI 3) hY) kX8_good g1249 g1251 rfl gp41 g4 hP hS hY (by first | decide | omega) hl.1 rfl (by decide) (by first | decide | omega) dX8_join_152 (fun q ce E h' H1 locs1 hE => hE.elim) (fun v hh50 H locs hq hP hS => ?_)
                            obtain ⟨rfl, rfl⟩ := hq
                            replace hP : qP D N0 (qs hv4 y (.inr (8, [.ref ms, .ref mb, .ref (ra 28), .int gr, .int (nI 3), .int ca, .int (nI m0), .ref od, .ref pt, .int ct, .int fau, .ref fi, .ref re, .int cs, .ref rc, .ref rs, .ref so, .ref ot, .ref cn, .ref la, .int ce, .ref ro, .int rn]))) H := hP
                            obtain ⟨hv35, ehv35⟩ : ∃ z : qH, z = qs hv4 y (.inr (8, [.ref ms, .ref mb, .ref (ra 28), .int gr, .int (nI 3), .int ca, .int (nI m0), .ref od, .ref pt, .int ct, .int fau, .ref fi, .ref re, .int cs, .ref rc, .ref rs, .ref so, .ref ot, .ref cn, .ref la, .int ce, .ref ro, .int rn])) := ⟨_, rfl⟩
                            rw [← ehv35] at hP
                            have khv35 : ∀ b o, b ≠ y → hv4 b = some o → hv35 b = some o := by rw [ehv35]; exact fun b o nb hb => (qs_ne nb).trans hb
                            replace hms := khv35 _ _ (fun q => by subst q; have := hms.symm.trans hY; first | cases this | simp at this) hms
                            replace hmb := khv35 _ _ (fun q => by subst q; have := hmb.symm.trans hY; first | cases this | simp at this) hmb
                            replace faw := khv35 _ _ (fun q => by have z9 := faw; rw [q] at z9; have := z9.symm.trans hY; first | cases this | simp at this) faw
                            replace fkw := khv35 _ _ (fun q => by have z9 := fkw; rw [q] at z9; have := z9.symm.trans hY; first | cases this | simp at this) fkw
                            replace fvw := khv35 _ _ (fun q => by have z9 := fvw; rw [q] at z9; have := z9.symm.trans hY; first | cases this | simp at this) fvw
                            replace faj := khv35 _ _ (fun q => by have z9 := faj; rw [q] at z9; have := z9.symm.trans hY; first | cases this | simp at this) faj
                            replace fkj := khv35 _ _ (fun q => by have z9 := fkj; rw [q] at z9; have := z9.symm.trans hY; first | cases this | simp at this) fkj
                            replace fvj := khv35 _ _ (fun q => by have z9 := fvj; rw [q] at z9; have := z9.symm.trans hY; first | cases this | simp at this) fvj
                            replace faz7 := khv35 _ _ (fun q => by have z9 := faz7; rw [q] at z9; have := z9.symm.trans hY; first | cases this | simp at this) faz7
                            replace fkz7 := khv35 _ _ (fun q => by have z9 := fkz7; rw [q] at z9; have := z9.symm.trans hY; first | cases this | simp at this) fkz7
                            replace fvz7 := khv35 _ _ (fun q => by have z9 := fvz7; rw [q] at z9; have := z9.symm.trans hY; first | cases this | simp at this) fvz7
                            replace hY : hv35 y = some (.inr (8, [.ref ms, .ref mb, .ref (ra 28), .int gr, .int (nI 3), .int ca, .int (nI m0), .ref od, .ref pt, .int ct, .int fau, .ref fi, .ref re, .int cs, .ref rc, .ref rs, .ref so, .ref ot, .ref cn, .ref la, .int ce, .ref ro, .int rn])) := by rw [ehv35]; exact qs_self
                            clear ehv35
                            replace fr := fun b o hb n1 n2 => khv35 b o n1 (fr b o hb n1 n2)
                            refine lv_if_ne (tgt := 160) hx hb dX8_join_155 (by decide) (fun c155 => ?_) (fun c155 => ?_)
                            · replace c155 : ¬ 0 = 0 := fun zq => c155 ((nI_eq (a := 0) (b := 0) (by omega) (by omega)).mpr zq)
                              exfalso; omega
                            · replace c155 : 0 = 0 := (nI_eq (a := 0) (b := 0) (by omega) (by omega)).mp c155
                              refine lv_iconst (v := nI 0) hx hb dX8_join_158 (by decide) ?_
                              have eX : X = (3, 0, S, (ms, mb, ra 28, od, pt, ro, gr, cd, ca, nI m0, ct, fau, rn), a, k) := by rw [← hX]; unfold xs_join; rw [if_neg (by rw [ebi, ebj, ebz7]; decide), ecj, ecz7, if_neg (fun z => z.elim c44 (fun z => z c65)), eci]; unfold xr_join; dsimp only; rw [if_pos c105, if_pos (by omega)]
                              obtain ⟨m8, f8⟩ := hM.fin0 hY0 (h' := hv35) ⟨hRw.1, hRw.2.1, hRw.2.2.1, faw, fkw, fvw⟩ fr
                              obtain ⟨q8, r8⟩ := hQ.rowM (o' := oCd (ms, mb, ra 28, od, pt, ro, gr, cd, ca, nI m0, ct, fau, rn) 3) hY0 hY m8 f8 ⟨rfl, rfl, rfl, rfl, rfl, rfl⟩
                              exact q_iret C hP hS ⟨by rw [eX]; rfl, A, by rw [eX]; exact q8, r8⟩ (by omega) dX8_join_159
                          · replace c143 : ¬ 100 < (1 + ((S j).2.2.2)) := fun zq => c143 ((nI_ltI (a := 100) (b := (1 + ((S j).2.2.2))) (by omega) (by omega)).mpr zq)
                            refine lv_iconst (v := nI 1) hx hb dX8_join_146 (by decide) ?_
                            refine lv_goto (tgt := 151) hx hb dX8_join_147 (by decide) ?_
                            refine lv_iconst (v := nI 3) hx hb dX8_join_151 (by decide) ?_
                            refine q_callV (rest := []) C (c_X8_good1 l D cy N0 hv4 y ms mb (ra 28) od pt fi re rc rs so ot cn la ro gr 0 ca (nI m0) ct fau cs ce rn (nI 3) hY) kX8_good g1249 g1251 rfl gp41 g4 hP hS hY (by first | decide | omega) hl.1 rfl (by decide) (by first | decide | omega) dX8_join_152 (fun q ce E h' H1 locs1 hE => hE.elim) (fun v hh51 H locs hq hP hS => ?_)
                            obtain ⟨rfl, rfl⟩ := hq
                            replace hP : qP D N0 (qs hv4 y (.inr (8, [.ref ms, .ref mb, .ref (ra 28), .int gr, .int 0, .int ca, .int (nI m0), .ref od, .ref pt, .int ct, .int fau, .ref fi, .ref re, .int cs, .ref rc, .ref rs, .ref so, .ref ot, .ref cn, .ref la, .int ce, .ref ro, .int rn]))) H := hP
                            obtain ⟨hv36, ehv36⟩ : ∃ z : qH, z = qs hv4 y (.inr (8, [.ref ms, .ref mb, .ref (ra 28), .int gr, .int 0, .int ca, .int (nI m0), .ref od, .ref pt, .int ct, .int fau, .ref fi, .ref re, .int cs, .ref rc, .ref rs, .ref so, .ref ot, .ref cn, .ref la, .int ce, .ref ro, .int rn])) := ⟨_, rfl⟩
                            rw [← ehv36] at hP
                            have khv36 : ∀ b o, b ≠ y → hv4 b = some o → hv36 b = some o := by rw [ehv36]; exact fun b o nb hb => (qs_ne nb).trans hb
                            replace hms := khv36 _ _ (fun q => by subst q; have := hms.symm.trans hY; first | cases this | simp at this) hms
                            replace hmb := khv36 _ _ (fun q => by subst q; have := hmb.symm.trans hY; first | cases this | simp at this) hmb
                            replace faw := khv36 _ _ (fun q => by have z9 := faw; rw [q] at z9; have := z9.symm.trans hY; first | cases this | simp at this) faw
                            replace fkw := khv36 _ _ (fun q => by have z9 := fkw; rw [q] at z9; have := z9.symm.trans hY; first | cases this | simp at this) fkw
                            replace fvw := khv36 _ _ (fun q => by have z9 := fvw; rw [q] at z9; have := z9.symm.trans hY; first | cases this | simp at this) fvw
                            replace faj := khv36 _ _ (fun q => by have z9 := faj; rw [q] at z9; have := z9.symm.trans hY; first | cases this | simp at this) faj
                            replace fkj := khv36 _ _ (fun q => by have z9 := fkj; rw [q] at z9; have := z9.symm.trans hY; first | cases this | simp at this) fkj
                            replace fvj := khv36 _ _ (fun q => by have z9 := fvj; rw [q] at z9; have := z9.symm.trans hY; first | cases this | simp at this) fvj
                            replace faz7 := khv36 _ _ (fun q => by have z9 := faz7; rw [q] at z9; have := z9.symm.trans hY; first | cases this | simp at this) faz7
                            replace fkz7 := khv36 _ _ (fun q => by have z9 := fkz7; rw [q] at z9; have := z9.symm.trans hY; first | cases this | simp at this) fkz7
                            replace fvz7 := khv36 _ _ (fun q => by have z9 := fvz7; rw [q] at z9; have := z9.symm.trans hY; first | cases this | simp at this) fvz7
                            replace hY : hv36 y = some (.inr (8, [.ref ms, .ref mb, .ref (ra 28), .int gr, .int 0, .int ca, .int (nI m0), .ref od, .ref pt, .int ct, .int fau, .ref fi, .ref re, .int cs, .ref rc, .ref rs, .ref so, .ref ot, .ref cn, .ref la, .int ce, .ref ro, .int rn])) := by rw [ehv36]; exact qs_self
                            clear ehv36
                            replace fr := fun b o hb n1 n2 => khv36 b o n1 (fr b o hb n1 n2)
                            refine lv_if_ne (tgt := 160) hx hb dX8_join_155 (by decide) (fun c155 => ?_) (fun c155 => ?_)
                            · replace c155 : ¬ 1 = 0 := fun zq => c155 ((nI_eq (a := 1) (b := 0) (by omega) (by omega)).mpr zq)
                              refine lv_aload hx hb dX8_join_160 (lv_at hl 2 rfl) ?_
                              refine lv_aload_n hx hb dX8_join_162 rfl (lv_at hl 3 rfl) ?_
                              refine q_get C hP hY rfl inX8 2 (by decide) g1169 rfl dX8_join_163 ?_
                              refine q_callS (rest := []) C (c_X8_copy l D cy N0 hv36 (ra j) (rk j) (rv j) (S j).1 (nI (S j).2.2.1) (nI (S j).2.2.2) rwj nj Fj Gj (ra 28) (rk 28) (rv 28) kdw smw dpw rww nw fw gw ⟨hRj.1, hRj.2.1, hRj.2.2.1, faj, fkj, fvj⟩ ⟨hRw.1, hRw.2.1, hRw.2.2.1, faw, fkw, fvw⟩ apj (by omega)) kX8_copy g1257 g1258 hP hS (by first | decide | omega) hl.1 rfl (by decide) (by first | decide | omega) dX8_join_166 (fun q ce E h' H1 locs1 hE => hE.elim) (fun v hh52 H locs hq hP hS => ?_)
                              obtain ⟨rfl, rfl⟩ := hq
                              obtain ⟨hv37, ehv37⟩ : ∃ z : qH, z = qRh cy hv36 (ra 28) (rk 28) (rv 28) ((S j).1) (nI nj) (nI (S j).2.2.1) (nI (S j).2.2.2) rwj (qCp Fj fw nj) (qCp Gj gw nj) := ⟨_, rfl⟩
                              rw [← ehv37] at hP
                              have r9 : qRw cy hv37 (ra 28) (rk 28) (rv 28) ((S j).1) (nI nj) (nI (S j).2.2.1) (nI (S j).2.2.2) rwj (qCp Fj fw nj) (qCp Gj gw nj) := by rw [ehv37]; exact qRw.new (cy := cy) (h := hv36) (kd := kdw) (n := (nI nw)) (sm := smw) (dp := dpw) (rw := rww) (f := fw) (g := gw) ⟨hRw.1, hRw.2.1, hRw.2.2.1, faw, fkw, fvw⟩
                              have khv37 : ∀ b o, qOf (ra 28) (rk 28) (rv 28) b → hv36 b = some o → hv37 b = some o := by rw [ehv37]; exact fun b o q hb => (qRh_o q.1 q.2.1 q.2.2).trans hb
                              replace hY := khv37 _ _ ⟨fun q => by rw [q] at hY; have := faw.symm.trans hY; first | cases this | simp at this, fun q => by rw [q] at hY; have := fkw.symm.trans hY; first | cases this | simp at this, fun q => by rw [q] at hY; have := fvw.symm.trans hY; first | cases this | simp at this⟩ hY
                              replace hms := khv37 _ _ ⟨fun q => by rw [q] at hms; have := faw.symm.trans hms; first | cases this | simp at this, fun q => by rw [q] at hms; have := fkw.symm.trans hms; first | cases this | simp at this, fun q => by rw [q] at hms; have := fvw.symm.trans hms; first | cases this | simp at this⟩ hms
                              replace hmb := khv37 _ _ ⟨fun q => by rw [q] at hmb; have := faw.symm.trans hmb; first | cases this | simp at this, fun q => by rw [q] at hmb; have := fkw.symm.trans hmb; first | cases this | simp at this, fun q => by rw [q] at hmb; have := fvw.symm.trans hmb; first | cases this | simp at this⟩ hmb
                              replace faj := khv37 _ _ apj.1 faj
                              replace fkj := khv37 _ _ apj.2.1 fkj
                              replace fvj := khv37 _ _ apj.2.2 fvj
                              replace faz7 := khv37 _ _ apz7.1 faz7
                              replace fkz7 := khv37 _ _ apz7.2.1 fkz7
                              replace fvz7 := khv37 _ _ apz7.2.2 fvz7
                              replace fr := fun b o hb n1 n2 => khv37 b o n2 (fr b o hb n1 n2)
                              clear faw fkw fvw
                              have faw := r9.2.2.2.1
                              have fkw := r9.2.2.2.2.1
                              have fvw := r9.2.2.2.2.2
                              unfold qRb at faw
                              unfold qJr at fkw fvw
                              clear r9 ehv37
                              have lw : qLs ((S j).1) (qCp Fj fw nj) (qCp Gj gw nj) nj = (S j).2.1 := by rw [qLs_cp]; exact hLj.symm
                              refine lv_aload_n hx hb dX8_join_169 rfl (lv_at hl 3 rfl) ?_
                              refine q_get C hP hY rfl inX8 2 (by decide) g1169 rfl dX8_join_170 ?_
                              refine lv_aload_n hx hb dX8_join_173 rfl (lv_at hl 3 rfl) ?_
                              refine lv_aload hx hb dX8_join_174 (lv_at hl 2 rfl) ?_
                              refine q_get C hP faj rfl inX7 4 (by decide) g1144 rfl dX8_join_176 ?_
                              refine lv_aload hx hb dX8_join_179 (lv_at hl 1 rfl) ?_
                              refine q_get C hP faz7 rfl inX7 4 (by decide) g1144 rfl dX8_join_181 ?_
                              have hs8 := hSt j (by omega) c105
                              have hs9 := hSt z7 (by omega) (c65.symm.trans c105)
                              have hL8 := (hV.L hB).1
                              have hLn := (hV.L hB).2
                              have emx : 1 + max (S j).2.2.2 (S z7).2.2.2 = 1 + (S j).2.2.2 := by omega
                              have eX : X = (0, 0, qU S i ((S j).1, (S j).2.1, (xJoin a k (S j).2.2.1 (S z7).2.2.1).1, 1 + (S j).2.2.2), (ms, mb, ra 28, od, pt, ro, gr, cd, ca, nI m0, ct, fau, rn), (xJoin a k (S j).2.2.1 (S z7).2.2.1).2) := by rw [← hX]; unfold xs_join; rw [if_neg (by rw [ebi, ebj, ebz7]; decide), ecj, ecz7, if_neg (fun z => z.elim c44 (fun z => z c65)), eci]; unfold xr_join; dsimp only; rw [if_pos c105, emx, if_neg (by omega)]
                              obtain ⟨ep1, ep2⟩ := xJoin_P hV (s := (S j).2.2.1) (n := (S z7).2.2.1)
                              have eP1 : qP1 X.2.2.2.2.1 = qP1 (xJoin a k (S j).2.2.1 (S z7).2.2.1).2.1 := by rw [eX]
                              have eP2 : qP2 X.2.2.2.2.1 = qP2 (xJoin a k (S j).2.2.1 (S z7).2.2.1).2.1 := by rw [eX]
                              obtain ⟨m8, f8⟩ := hM.fin0 hY0 (h' := hv37) ⟨hRw.1, hRw.2.1, hRw.2.2.1, faw, fkw, fvw⟩ fr
                              obtain ⟨q8, r8⟩ := hQ.rowM (o' := (oCd (ms, mb, ra 28, od, pt, ro, gr, cd, ca, nI m0, ct, fau, rn) 0)) hY0 hY m8 f8 ⟨rfl, rfl, rfl, rfl, rfl, rfl⟩
                              refine q_callV (rest := [.ref (ra 28)]) C (w_joined l D cy N0 hv37 y A (oCd (ms, mb, ra 28, od, pt, ro, gr, cd, ca, nI m0, ct, fau, rn) 0) a k (S j).2.2.1 (S z7).2.2.1 q8.1 q8.2.1 hL8 ⟨hs8.1, by omega⟩ (by omega)) kX8_joined g1363 g1365 rfl gp58 g4 hP hS hY (by first | decide | omega) hl.1 rfl (by simp [q_catrf, q_cati, q_catl, q_cata, q_catn]) (by first | decide | omega) dX8_join_184 (fun q ce E h' H1 locs1 hE => hE.elim) (fun v hh53 H locs hq hP hS => ?_)
                              obtain ⟨rfl, A1, hS1, hF1, nA1⟩ := hq
                              have ap9 := q8.2.2.2.2.2
                              replace hms := hF1.1 _ _ hms (qne_arr (cy := cy) hms hY) ap9.two.1
                              replace hmb := hF1.1 _ _ hmb (qne_arr (cy := cy) hmb hY) ap9.two.2
                              replace faw := hF1.1 _ _ faw (fun z => by rw [z] at faw; have := faw.symm.trans hY; cases this) (ap9.row (i := 28) (by omega)).1
                              replace fkw := hF1.1 _ _ fkw (qne_arr (cy := cy) fkw hY) (ap9.row (i := 28) (by omega)).2.1
                              replace fvw := hF1.1 _ _ fvw (qne_arr (cy := cy) fvw hY) (ap9.row (i := 28) (by omega)).2.2
                              replace faj := hF1.1 _ _ faj (fun z => by rw [z] at faj; have := faj.symm.trans hY; cases this) (ap9.row (i := j) (by omega)).1
                              replace fkj := hF1.1 _ _ fkj (qne_arr (cy := cy) fkj hY) (ap9.row (i := j) (by omega)).2.1
                              replace fvj := hF1.1 _ _ fvj (qne_arr (cy := cy) fvj hY) (ap9.row (i := j) (by omega)).2.2
                              replace faz7 := hF1.1 _ _ faz7 (fun z => by rw [z] at faz7; have := faz7.symm.trans hY; cases this) (ap9.row (i := z7) (by omega)).1
                              replace fkz7 := hF1.1 _ _ fkz7 (qne_arr (cy := cy) fkz7 hY) (ap9.row (i := z7) (by omega)).2.1
                              replace fvz7 := hF1.1 _ _ fvz7 (qne_arr (cy := cy) fvz7 hY) (ap9.row (i := z7) (by omega)).2.2
                              obtain ⟨q7a, r7a⟩ := q8.str hS1 hF1 nA1 ⟨rfl, rfl, rfl, rfl, rfl, rfl⟩
                              have rta := r8.tr q8 rfl r7a
                              clear hY
                              obtain ⟨fja, rja, rcja, rsja, soja, otja, cnja, laja, hY⟩ := q7a.1.yo2
                              unfold qYo at hY
                              have hY0 := hY
                              have hM := q7a.2.2.1
                              have hrs := hM.2.2.2.2.1
                              replace hRw : qRw cy hh53 (ra 28) (rk 28) (rv 28) ((S j).1) (nI nj) (nI (S j).2.2.1) (nI (S j).2.2.2) rwj (qCp Fj fw nj) (qCp Gj gw nj) := ⟨hRw.1, hRw.2.1, hRw.2.2.1, faw, fkw, fvw⟩
                              replace fr : ∀ b o, hh53 b = some o → b ≠ y → qOf (ra 28) (rk 28) (rv 28) b → hh53 b = some o := fun b o hb _ _ => hb
                              refine q_put C hP hS faw rfl inX7 tyX7 tyX7_ok nmX7 4 (by decide) g1144 rfl rfl rfl (Nat.le_of_ble_eq_true rfl) dX8_join_187 (fun H locs hP hS => ?_)
                              replace hP : qP D N0 (qs hh53 (ra 28) (.inr (7, [.ref (rk 28), .ref (rv 28), .int (S j).1, .int (nI nj), .int (nI (xJoin a k (S j).2.2.1 (S z7).2.2.1).1), .int (nI (S j).2.2.2), .int rwj]))) H := hP
                              obtain ⟨hv38, ehv38⟩ : ∃ z : qH, z = qs hh53 (ra 28) (.inr (7, [.ref (rk 28), .ref (rv 28), .int (S j).1, .int (nI nj), .int (nI (xJoin a k (S j).2.2.1 (S z7).2.2.1).1), .int (nI (S j).2.2.2), .int rwj])) := ⟨_, rfl⟩
                              rw [← ehv38] at hP
                              have khv38 : ∀ b o, b ≠ (ra 28) → hh53 b = some o → hv38 b = some o := by rw [ehv38]; exact fun b o nb hb => (qs_ne nb).trans hb
                              replace hY := khv38 _ _ (fun q => by have z9 := hY; rw [q] at z9; have := z9.symm.trans faw; first | cases this | simp at this) hY
                              replace hms := khv38 _ _ (fun q => by have z9 := hms; rw [q] at z9; have := z9.symm.trans faw; first | cases this | simp at this) hms
                              replace hmb := khv38 _ _ (fun q => by have z9 := hmb; rw [q] at z9; have := z9.symm.trans faw; first | cases this | simp at this) hmb
                              replace fkw := khv38 _ _ (fun q => by have z9 := fkw; rw [q] at z9; have := z9.symm.trans faw; first | cases this | simp at this) fkw
                              replace fvw := khv38 _ _ (fun q => by have z9 := fvw; rw [q] at z9; have := z9.symm.trans faw; first | cases this | simp at this) fvw
                              replace faj := khv38 _ _ apj.1.1 faj
                              replace fkj := khv38 _ _ apj.2.1.1 fkj
                              replace fvj := khv38 _ _ apj.2.2.1 fvj
                              replace faz7 := khv38 _ _ apz7.1.1 faz7
                              replace fkz7 := khv38 _ _ apz7.2.1.1 fkz7
                              replace fvz7 := khv38 _ _ apz7.2.2.1 fvz7
                              replace faw : hv38 (ra 28) = some (.inr (7, [.ref (rk 28), .ref (rv 28), .int (S j).1, .int (nI nj), .int (nI (xJoin a k (S j).2.2.1 (S z7).2.2.1).1), .int (nI (S j).2.2.2), .int rwj])) := by rw [ehv38]; exact qs_self
                              clear ehv38
                              replace fr := fun b o hb n1 n2 => khv38 b o n2.1 (fr b o hb n1 n2)
                              refine lv_aload_n hx hb dX8_join_190 rfl (lv_at hl 3 rfl) ?_
                              refine q_get C hP hY rfl inX8 2 (by decide) g1169 rfl dX8_join_191 ?_
                              refine lv_iload hx hb dX8_join_194 (lv_at hl 0 rfl) ?_
                              refine q_put C hP hS faw rfl inX7 tyX7 tyX7_ok nmX7 5 (by decide) g1145 rfl rfl rfl (Nat.le_of_ble_eq_true rfl) dX8_join_196 (fun H locs hP hS => ?_)
                              replace hP : qP D N0 (qs hv38 (ra 28) (.inr (7, [.ref (rk 28), .ref (rv 28), .int (S j).1, .int (nI nj), .int (nI (xJoin a k (S j).2.2.1 (S z7).2.2.1).1), .int (nI (1 + ((S j).2.2.2))), .int rwj]))) H := hP
                              obtain ⟨hv39, ehv39⟩ : ∃ z : qH, z = qs hv38 (ra 28) (.inr (7, [.ref (rk 28), .ref (rv 28), .int (S j).1, .int (nI nj), .int (nI (xJoin a k (S j).2.2.1 (S z7).2.2.1).1), .int (nI (1 + ((S j).2.2.2))), .int rwj])) := ⟨_, rfl⟩
                              rw [← ehv39] at hP
                              have khv39 : ∀ b o, b ≠ (ra 28) → hv38 b = some o → hv39 b = some o := by rw [ehv39]; exact fun b o nb hb => (qs_ne nb).trans hb
                              replace hY := khv39 _ _ (fun q => by have z9 := hY; rw [q] at z9; have := z9.symm.trans faw; first | cases this | simp at this) hY
                              replace hms := khv39 _ _ (fun q => by have z9 := hms; rw [q] at z9; have := z9.symm.trans faw; first | cases this | simp at this) hms
                              replace hmb := khv39 _ _ (fun q => by have z9 := hmb; rw [q] at z9; have := z9.symm.trans faw; first | cases this | simp at this) hmb
                              replace fkw := khv39 _ _ (fun q => by have z9 := fkw; rw [q] at z9; have := z9.symm.trans faw; first | cases this | simp at this) fkw
                              replace fvw := khv39 _ _ (fun q => by have z9 := fvw; rw [q] at z9; have := z9.symm.trans faw; first | cases this | simp at this) fvw
                              replace faj := khv39 _ _ apj.1.1 faj
                              replace fkj := khv39 _ _ apj.2.1.1 fkj
                              replace fvj := khv39 _ _ apj.2.2.1 fvj
                              replace faz7 := khv39 _ _ apz7.1.1 faz7
                              replace fkz7 := khv39 _ _ apz7.2.1.1 fkz7
                              replace fvz7 := khv39 _ _ apz7.2.2.1 fvz7
                              replace faw : hv39 (ra 28) = some (.inr (7, [.ref (rk 28), .ref (rv 28), .int (S j).1, .int (nI nj), .int (nI (xJoin a k (S j).2.2.1 (S z7).2.2.1).1), .int (nI (1 + ((S j).2.2.2))), .int rwj])) := by rw [ehv39]; exact qs_self
                              clear ehv39
                              replace fr := fun b o hb n1 n2 => khv39 b o n2.1 (fr b o hb n1 n2)
                              refine lv_aload_n hx hb dX8_join_199 rfl (lv_at hl 3 rfl) ?_
                              refine lv_iload_n hx hb dX8_join_200 rfl (lv_at hl 4 rfl) ?_
                              refine lv_iconst (v := nI 0) hx hb dX8_join_201 (by decide) ?_
                              obtain ⟨ni, rwi, Fi, Gi, hRi, hni, hLi, hKi⟩ := hrs i (by omega)
                              have api := hRi.apart hRw (hmd.two (i := i) (j := 28) (by omega) (by omega) (by omega))
                              replace hRi := hRi.keep2 (fun b o hb ho => fr b o ho (hRi.ney hY0 hb) (hb.elim (fun q => q ▸ api.1) (fun hb => hb.elim (fun q => q ▸ api.2.1) (fun q => q ▸ api.2.2))))
                              have fai := hRi.2.2.2.1
                              have fki := hRi.2.2.2.2.1
                              have fvi := hRi.2.2.2.2.2
                              unfold qRb at fai
                              unfold qJr at fki fvi
                              refine q_callV (rest := []) C (c_X8_done l D cy N0 hv39 y ms mb od pt fja rja rcja rsja soja otja cnja laja ro gr 0 ca (nI m0) ct fau (nI (xJoin a k (S j).2.2.1 (S z7).2.2.1).2.1.1) (nI (xJoin a k (S j).2.2.1 (S z7).2.2.1).2.2.1) rn ra rk rv i (nI 0) (S j).1 (nI (xJoin a k (S j).2.2.1 (S z7).2.2.1).1) (nI (1 + ((S j).2.2.2))) rwj nj (qCp Fj fw nj) (qCp Gj gw nj) (S i).1 (nI (S i).2.2.1) (nI (S i).2.2.2) rwi ni Fi Gi hY hms hmd ⟨hRw.1, hRw.2.1, hRw.2.2.1, faw, fkw, fvw⟩ ⟨hRi.1, hRi.2.1, hRi.2.2.1, fai, fki, fvi⟩ (by omega) (by omega)) kX8_done g1293 g1295 rfl gp45 g4 hP hS hY (by first | decide | omega) hl.1 rfl (by decide) (by first | decide | omega) dX8_join_202 (fun q ce E h' H1 locs1 hE => hE.elim) (fun v hh54 H locs hq hP hS => ?_)
                              obtain ⟨rfl, hY9, hw9, hi9, fr9⟩ := hq
                              replace fr := fun b o hb n1 n2 n3 => fr9 b o (fr b o hb n1 n2) n1 n2 n3
                              rw [show (nI m0) + nI 0 = (nI m0) from Int32.add_zero _] at hY9
                              refine lv_pop hx hb dX8_join_205 rfl ?_
                              refine lv_iconst (v := nI 0) hx hb dX8_join_206 (by decide) ?_
                              obtain ⟨m9, f9⟩ := hM.fin hY0 (i := i) (by omega) (s := ((S j).1, (S j).2.1, (xJoin a k (S j).2.2.1 (S z7).2.2.1).1, (1 + ((S j).2.2.2)))) ⟨nj, _, _, _, hi9, by omega, by rw [qLs_cp]; exact lw.symm, Or.inl rfl⟩ hw9 fr
                              obtain ⟨q9, r9⟩ := q7a.rowM (o' := (oCd (ms, mb, ra 28, od, pt, ro, gr, cd, ca, nI m0, ct, fau, rn) 0)) hY0 hY9 m9 f9 ⟨rfl, rfl, rfl, rfl, rfl, rfl⟩
                              exact q_iret C hP hS ⟨by rw [eX]; rfl, A1, by rw [eX]; exact q9, rta.tr q7a rfl r9⟩ (by omega) dX8_join_207
                            · replace c155 : 1 = 0 := (nI_eq (a := 1) (b := 0) (by omega) (by omega)).mp c155
                              exfalso; omega
                    · replace c77 : 1 = 0 := (nI_eq (a := 1) (b := 0) (by omega) (by omega)).mp c77
                      exfalso; omega
          · have ebz7 : bSl p2 = false := bSl_f sl9
            refine lv_if_eq (tgt := 26) hx hb dX8_join_19 (by decide) (fun c19 => ?_) (fun c19 => ?_)
            · replace c19 : 0 = 0 := (nI_eq (a := 0) (b := 0) (by omega) (by omega)).mp c19
              refine lv_iconst (v := nI 0) hx hb dX8_join_26 (by decide) ?_
              refine lv_iconst (v := nI 1) hx hb dX8_join_27 (by decide) ?_
              refine q_callV (rest := []) C (c_X8_good0 l D cy N0 h y ms mb (ra 28) od pt fi re rc rs so ot cn la ro gr cd ca (nI m0) ct fau cs ce rn (nI 1) hY) kX8_good g1249 g1251 rfl gp41 g4 hP hS hY (by first | decide | omega) hl.1 rfl (by decide) (by first | decide | omega) dX8_join_28 (fun q ce E h' H1 locs1 hE => hE.elim) (fun v hh55 H locs hq hP hS => ?_)
              obtain ⟨rfl, rfl⟩ := hq
              replace hP : qP D N0 (qs h y (.inr (8, [.ref ms, .ref mb, .ref (ra 28), .int gr, .int (nI 1), .int ca, .int (nI m0), .ref od, .ref pt, .int ct, .int fau, .ref fi, .ref re, .int cs, .ref rc, .ref rs, .ref so, .ref ot, .ref cn, .ref la, .int ce, .ref ro, .int rn]))) H := hP
              obtain ⟨hv40, ehv40⟩ : ∃ z : qH, z = qs h y (.inr (8, [.ref ms, .ref mb, .ref (ra 28), .int gr, .int (nI 1), .int ca, .int (nI m0), .ref od, .ref pt, .int ct, .int fau, .ref fi, .ref re, .int cs, .ref rc, .ref rs, .ref so, .ref ot, .ref cn, .ref la, .int ce, .ref ro, .int rn])) := ⟨_, rfl⟩
              rw [← ehv40] at hP
              have khv40 : ∀ b o, b ≠ y → h b = some o → hv40 b = some o := by rw [ehv40]; exact fun b o nb hb => (qs_ne nb).trans hb
              replace hms := khv40 _ _ (fun q => by subst q; have := hms.symm.trans hY; first | cases this | simp at this) hms
              replace hmb := khv40 _ _ (fun q => by subst q; have := hmb.symm.trans hY; first | cases this | simp at this) hmb
              replace faw := khv40 _ _ (fun q => by have z9 := faw; rw [q] at z9; have := z9.symm.trans hY; first | cases this | simp at this) faw
              replace fkw := khv40 _ _ (fun q => by have z9 := fkw; rw [q] at z9; have := z9.symm.trans hY; first | cases this | simp at this) fkw
              replace fvw := khv40 _ _ (fun q => by have z9 := fvw; rw [q] at z9; have := z9.symm.trans hY; first | cases this | simp at this) fvw
              replace hY : hv40 y = some (.inr (8, [.ref ms, .ref mb, .ref (ra 28), .int gr, .int (nI 1), .int ca, .int (nI m0), .ref od, .ref pt, .int ct, .int fau, .ref fi, .ref re, .int cs, .ref rc, .ref rs, .ref so, .ref ot, .ref cn, .ref la, .int ce, .ref ro, .int rn])) := by rw [ehv40]; exact qs_self
              clear ehv40
              replace fr := fun b o hb n1 n2 => khv40 b o n1 (fr b o hb n1 n2)
              refine lv_if_eq (tgt := 80) hx hb dX8_join_31 (by decide) (fun c31 => ?_) (fun c31 => ?_)
              · replace c31 : 0 = 0 := (nI_eq (a := 0) (b := 0) (by omega) (by omega)).mp c31
                refine lv_iconst (v := nI 0) hx hb dX8_join_80 (by decide) ?_
                have eX : X = (1, 0, S, (ms, mb, ra 28, od, pt, ro, gr, cd, ca, nI m0, ct, fau, rn), a, k) := by rw [← hX]; unfold xs_join; rw [if_pos (by simp [ebi, ebj, ebz7])]
                obtain ⟨m8, f8⟩ := hM.fin0 hY0 (h' := hv40) ⟨hRw.1, hRw.2.1, hRw.2.2.1, faw, fkw, fvw⟩ fr
                obtain ⟨q8, r8⟩ := hQ.rowM (o' := oCd (ms, mb, ra 28, od, pt, ro, gr, cd, ca, nI m0, ct, fau, rn) 1) hY0 hY m8 f8 ⟨rfl, rfl, rfl, rfl, rfl, rfl⟩
                exact q_iret C hP hS ⟨by rw [eX]; rfl, A, by rw [eX]; exact q8, r8⟩ (by omega) dX8_join_81
              · replace c31 : ¬ 0 = 0 := fun zq => c31 ((nI_eq (a := 0) (b := 0) (by omega) (by omega)).mpr zq)
                exfalso; omega
            · replace c19 : ¬ 0 = 0 := fun zq => c19 ((nI_eq (a := 0) (b := 0) (by omega) (by omega)).mpr zq)
              exfalso; omega
      · have ebj : bSl p1 = false := bSl_f sl9
        refine lv_if_eq (tgt := 26) hx hb dX8_join_12 (by decide) (fun c12 => ?_) (fun c12 => ?_)
        · replace c12 : 0 = 0 := (nI_eq (a := 0) (b := 0) (by omega) (by omega)).mp c12
          refine lv_iconst (v := nI 0) hx hb dX8_join_26 (by decide) ?_
          refine lv_iconst (v := nI 1) hx hb dX8_join_27 (by decide) ?_
          refine q_callV (rest := []) C (c_X8_good0 l D cy N0 h y ms mb (ra 28) od pt fi re rc rs so ot cn la ro gr cd ca (nI m0) ct fau cs ce rn (nI 1) hY) kX8_good g1249 g1251 rfl gp41 g4 hP hS hY (by first | decide | omega) hl.1 rfl (by decide) (by first | decide | omega) dX8_join_28 (fun q ce E h' H1 locs1 hE => hE.elim) (fun v hh56 H locs hq hP hS => ?_)
          obtain ⟨rfl, rfl⟩ := hq
          replace hP : qP D N0 (qs h y (.inr (8, [.ref ms, .ref mb, .ref (ra 28), .int gr, .int (nI 1), .int ca, .int (nI m0), .ref od, .ref pt, .int ct, .int fau, .ref fi, .ref re, .int cs, .ref rc, .ref rs, .ref so, .ref ot, .ref cn, .ref la, .int ce, .ref ro, .int rn]))) H := hP
          obtain ⟨hv41, ehv41⟩ : ∃ z : qH, z = qs h y (.inr (8, [.ref ms, .ref mb, .ref (ra 28), .int gr, .int (nI 1), .int ca, .int (nI m0), .ref od, .ref pt, .int ct, .int fau, .ref fi, .ref re, .int cs, .ref rc, .ref rs, .ref so, .ref ot, .ref cn, .ref la, .int ce, .ref ro, .int rn])) := ⟨_, rfl⟩
          rw [← ehv41] at hP
          have khv41 : ∀ b o, b ≠ y → h b = some o → hv41 b = some o := by rw [ehv41]; exact fun b o nb hb => (qs_ne nb).trans hb
          replace hms := khv41 _ _ (fun q => by subst q; have := hms.symm.trans hY; first | cases this | simp at this) hms
          replace hmb := khv41 _ _ (fun q => by subst q; have := hmb.symm.trans hY; first | cases this | simp at this) hmb
          replace faw := khv41 _ _ (fun q => by have z9 := faw; rw [q] at z9; have := z9.symm.trans hY; first | cases this | simp at this) faw
          replace fkw := khv41 _ _ (fun q => by have z9 := fkw; rw [q] at z9; have := z9.symm.trans hY; first | cases this | simp at this) fkw
          replace fvw := khv41 _ _ (fun q => by have z9 := fvw; rw [q] at z9; have := z9.symm.trans hY; first | cases this | simp at this) fvw
          replace hY : hv41 y = some (.inr (8, [.ref ms, .ref mb, .ref (ra 28), .int gr, .int (nI 1), .int ca, .int (nI m0), .ref od, .ref pt, .int ct, .int fau, .ref fi, .ref re, .int cs, .ref rc, .ref rs, .ref so, .ref ot, .ref cn, .ref la, .int ce, .ref ro, .int rn])) := by rw [ehv41]; exact qs_self
          clear ehv41
          replace fr := fun b o hb n1 n2 => khv41 b o n1 (fr b o hb n1 n2)
          refine lv_if_eq (tgt := 80) hx hb dX8_join_31 (by decide) (fun c31 => ?_) (fun c31 => ?_)
          · replace c31 : 0 = 0 := (nI_eq (a := 0) (b := 0) (by omega) (by omega)).mp c31
            refine lv_iconst (v := nI 0) hx hb dX8_join_80 (by decide) ?_
            have eX : X = (1, 0, S, (ms, mb, ra 28, od, pt, ro, gr, cd, ca, nI m0, ct, fau, rn), a, k) := by rw [← hX]; unfold xs_join; rw [if_pos (by simp [ebi, ebj])]
            obtain ⟨m8, f8⟩ := hM.fin0 hY0 (h' := hv41) ⟨hRw.1, hRw.2.1, hRw.2.2.1, faw, fkw, fvw⟩ fr
            obtain ⟨q8, r8⟩ := hQ.rowM (o' := oCd (ms, mb, ra 28, od, pt, ro, gr, cd, ca, nI m0, ct, fau, rn) 1) hY0 hY m8 f8 ⟨rfl, rfl, rfl, rfl, rfl, rfl⟩
            exact q_iret C hP hS ⟨by rw [eX]; rfl, A, by rw [eX]; exact q8, r8⟩ (by omega) dX8_join_81
          · replace c31 : ¬ 0 = 0 := fun zq => c31 ((nI_eq (a := 0) (b := 0) (by omega) (by omega)).mpr zq)
            exfalso; omega
        · replace c12 : ¬ 0 = 0 := fun zq => c12 ((nI_eq (a := 0) (b := 0) (by omega) (by omega)).mpr zq)
          exfalso; omega
  · have ebi : bSl p0 = false := bSl_f sl9
    refine lv_if_eq (tgt := 26) hx hb dX8_join_5 (by decide) (fun c5 => ?_) (fun c5 => ?_)
    · replace c5 : 0 = 0 := (nI_eq (a := 0) (b := 0) (by omega) (by omega)).mp c5
      refine lv_iconst (v := nI 0) hx hb dX8_join_26 (by decide) ?_
      refine lv_iconst (v := nI 1) hx hb dX8_join_27 (by decide) ?_
      refine q_callV (rest := []) C (c_X8_good0 l D cy N0 h y ms mb (ra 28) od pt fi re rc rs so ot cn la ro gr cd ca (nI m0) ct fau cs ce rn (nI 1) hY) kX8_good g1249 g1251 rfl gp41 g4 hP hS hY (by first | decide | omega) hl.1 rfl (by decide) (by first | decide | omega) dX8_join_28 (fun q ce E h' H1 locs1 hE => hE.elim) (fun v hh57 H locs hq hP hS => ?_)
      obtain ⟨rfl, rfl⟩ := hq
      replace hP : qP D N0 (qs h y (.inr (8, [.ref ms, .ref mb, .ref (ra 28), .int gr, .int (nI 1), .int ca, .int (nI m0), .ref od, .ref pt, .int ct, .int fau, .ref fi, .ref re, .int cs, .ref rc, .ref rs, .ref so, .ref ot, .ref cn, .ref la, .int ce, .ref ro, .int rn]))) H := hP
      obtain ⟨hv42, ehv42⟩ : ∃ z : qH, z = qs h y (.inr (8, [.ref ms, .ref mb, .ref (ra 28), .int gr, .int (nI 1), .int ca, .int (nI m0), .ref od, .ref pt, .int ct, .int fau, .ref fi, .ref re, .int cs, .ref rc, .ref rs, .ref so, .ref ot, .ref cn, .ref la, .int ce, .ref ro, .int rn])) := ⟨_, rfl⟩
      rw [← ehv42] at hP
      have khv42 : ∀ b o, b ≠ y → h b = some o → hv42 b = some o := by rw [ehv42]; exact fun b o nb hb => (qs_ne nb).trans hb
      replace hms := khv42 _ _ (fun q => by subst q; have := hms.symm.trans hY; first | cases this | simp at this) hms
      replace hmb := khv42 _ _ (fun q => by subst q; have := hmb.symm.trans hY; first | cases this | simp at this) hmb
      replace faw := khv42 _ _ (fun q => by have z9 := faw; rw [q] at z9; have := z9.symm.trans hY; first | cases this | simp at this) faw
      replace fkw := khv42 _ _ (fun q => by have z9 := fkw; rw [q] at z9; have := z9.symm.trans hY; first | cases this | simp at this) fkw
      replace fvw := khv42 _ _ (fun q => by have z9 := fvw; rw [q] at z9; have := z9.symm.trans hY; first | cases this | simp at this) fvw
      replace hY : hv42 y = some (.inr (8, [.ref ms, .ref mb, .ref (ra 28), .int gr, .int (nI 1), .int ca, .int (nI m0), .ref od, .ref pt, .int ct, .int fau, .ref fi, .ref re, .int cs, .ref rc, .ref rs, .ref so, .ref ot, .ref cn, .ref la, .int ce, .ref ro, .int rn])) := by rw [ehv42]; exact qs_self
      clear ehv42
      replace fr := fun b o hb n1 n2 => khv42 b o n1 (fr b o hb n1 n2)
      refine lv_if_eq (tgt := 80) hx hb dX8_join_31 (by decide) (fun c31 => ?_) (fun c31 => ?_)
      · replace c31 : 0 = 0 := (nI_eq (a := 0) (b := 0) (by omega) (by omega)).mp c31
        refine lv_iconst (v := nI 0) hx hb dX8_join_80 (by decide) ?_
        have eX : X = (1, 0, S, (ms, mb, ra 28, od, pt, ro, gr, cd, ca, nI m0, ct, fau, rn), a, k) := by rw [← hX]; unfold xs_join; rw [if_pos (by simp [ebi])]
        obtain ⟨m8, f8⟩ := hM.fin0 hY0 (h' := hv42) ⟨hRw.1, hRw.2.1, hRw.2.2.1, faw, fkw, fvw⟩ fr
        obtain ⟨q8, r8⟩ := hQ.rowM (o' := oCd (ms, mb, ra 28, od, pt, ro, gr, cd, ca, nI m0, ct, fau, rn) 1) hY0 hY m8 f8 ⟨rfl, rfl, rfl, rfl, rfl, rfl⟩
        exact q_iret C hP hS ⟨by rw [eX]; rfl, A, by rw [eX]; exact q8, r8⟩ (by omega) dX8_join_81
      · replace c31 : ¬ 0 = 0 := fun zq => c31 ((nI_eq (a := 0) (b := 0) (by omega) (by omega)).mpr zq)
        exfalso; omega
    · replace c5 : ¬ 0 = 0 := fun zq => c5 ((nI_eq (a := 0) (b := 0) (by omega) (by omega)).mpr zq)
      exfalso; omega
