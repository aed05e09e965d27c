/-! MAP, SET: the ORDER -/
theorem flatMap_two {α : Type} {f g : Nat → List α} : ∀ l : List Nat, (l.flatMap f ++ l.flatMap g).Perm (l.flatMap (fun v => f v ++ g v))
  | [] => List.Perm.nil
  | v :: l => by
    rw [List.flatMap_cons, List.flatMap_cons, List.flatMap_cons, List.append_assoc, List.append_assoc]
    refine List.Perm.append_left _ ?_
    refine List.Perm.trans ?_ (List.Perm.append_left _ (flatMap_two l))
    rw [← List.append_assoc, ← List.append_assoc]
    exact List.Perm.append_right _ List.perm_append_comm
theorem flatMap_perm {α : Type} {f g : Nat → List α} : ∀ {l : List Nat}, (∀ v ∈ l, (f v).Perm (g v)) → (l.flatMap f).Perm (l.flatMap g)
  | [], _ => List.Perm.nil
  | v :: l, h => by
    rw [List.flatMap_cons, List.flatMap_cons]
    exact List.Perm.append (h v List.mem_cons_self) (flatMap_perm (fun u hu => h u (List.mem_cons_of_mem _ hu)))
theorem thK_cons {m : Int32} {d v : Nat} {L : qKV} {p : Int64 × Int64} : thK m d v (p :: L) = if thN m d p.1 = v then p :: thK m d v L else thK m d v L := by
  unfold thK
  rw [List.filter_cons]
  by_cases c : thN m d p.1 = v
  · rw [if_pos (decide_eq_true c), if_pos c]
  · rw [if_neg (by rw [decide_eq_true_iff]; exact c), if_neg c]
theorem thAll {m : Int32} {d : Nat} : ∀ L : qKV, ((List.range 32).flatMap (fun v => thK m d v L)).Perm L
  | [] => by
    have : ∀ l : List Nat, l.flatMap (fun v => thK m d v []) = [] := fun l => by
      induction l with
      | nil => rfl
      | cons a l ih => rw [List.flatMap_cons, ih]; rfl
    rw [this]
  | p :: L => by
    have hv : thN m d p.1 < 32 := thN_lt
    have ih := thAll (m := m) (d := d) L
    rw [thCut (v := thN m d p.1) hv] at ih ⊢
    have e : ∀ u, u ≠ thN m d p.1 → thK m d u (p :: L) = thK m d u L := fun u hu => by rw [thK_cons, if_neg (fun z => hu z.symm)]
    rw [thPre (g := fun v => thK m d v L) e, thPost (g := fun v => thK m d v L) e, thK_cons, if_pos rfl]
    refine List.Perm.trans List.perm_middle ?_
    exact List.Perm.cons _ ih
def thT (m : Int32) : Nat → qKV → qKV
  | 0, L => thO L
  | r + 1, L => trK m (r + 1) L ++ (List.range 32).flatMap (fun v => if thM m (6 - r) L v = true then thT m r (thK m (6 - r) v L) else [])
theorem thT_perm {m : Int32} : ∀ (r : Nat) (L : qKV), (thT m r L).Perm L
  | 0, L => thO_perm L
  | r + 1, L => by
    show ((List.range 32).flatMap (thF m (6 - r) L) ++ (List.range 32).flatMap _).Perm L
    refine List.Perm.trans (flatMap_two _) (List.Perm.trans (flatMap_perm (g := fun v => thK m (6 - r) v L) fun v _ => ?_) (thAll (m := m) (d := 6 - r) L))
    unfold thF thS thM
    by_cases c : (thK m (6 - r) v L).length = 1
    · rw [if_pos (decide_eq_true c), if_neg (by rw [decide_eq_true_iff]; omega), List.append_nil]
    · rw [if_neg (by rw [decide_eq_true_iff]; exact c), List.nil_append]
      by_cases c2 : 2 ≤ (thK m (6 - r) v L).length
      · rw [if_pos (decide_eq_true c2)]
        exact thT_perm r _
      · rw [if_neg (by rw [decide_eq_true_iff]; exact c2), show thK m (6 - r) v L = [] from List.eq_nil_of_length_eq_zero (by omega)]
theorem thT_len {m : Int32} {r : Nat} {L : qKV} : (thT m r L).length = L.length := (thT_perm r L).length_eq
theorem trK_len {m : Int32} {r : Nat} {L : qKV} : (trK m r L).length ≤ L.length := by
  cases r with
  | zero => exact Nat.le_of_eq thO_len
  | succ r =>
    have := thT_len (m := m) (r := r + 1) (L := L)
    have e : thT m (r + 1) L = trK m (r + 1) L ++ (List.range 32).flatMap (fun v => if thM m (6 - r) L v = true then thT m r (thK m (6 - r) v L) else []) := rfl
    rw [e, List.length_append] at this
    omega
theorem thT_s {m : Int32} {r : Nat} {L : qKV} : thT m (r + 1) L = trK m (r + 1) L ++ (trM m (r + 1) L).flatMap (fun v => thT m r (thK m (6 - r) v L)) := by
  show _ ++ _ = _ ++ ((List.range 32).flatMap (thG m (6 - r) L)).flatMap _
  rw [List.flatMap_assoc]
  congr 1
  refine congrArg (fun f => (List.range 32).flatMap f) (funext fun v => ?_)
  unfold thG
  split
  · rw [List.flatMap_cons, List.flatMap_nil, List.append_nil]
  · rw [List.flatMap_nil]
theorem thK_len {m : Int32} {d v : Nat} {L : qKV} : (thK m d v L).length ≤ L.length := List.length_filter_le _ _
theorem thHm_len {m : Int32} {k : Int64} : ∀ (r : Nat) (L : qKV), (thHm m k r L).2.length ≤ L.length
  | 0, L => Nat.le_refl _
  | r + 1, L => by
    show (if thM m (6 - r) L (thN m (6 - r) k) = true then thHm m k r (thK m (6 - r) (thN m (6 - r) k) L) else (r + 1, L)).2.length ≤ _
    split
    · exact Nat.le_trans (thHm_len r _) thK_len
    · exact Nat.le_refl _
/-- the key is in the list just if it stands in its home -/
theorem thHome_has {m : Int32} {k : Int64} {L : qKV} {p : Int64 × Int64} (e : p.1 = k) : p ∈ L ↔ p ∈ trK m (thHm m k 7 L).1 (thHm m k 7 L).2 := (thHm_has 7 L p e).trans (thEnd_has (thHm_end 7 L) p e)
theorem dX3_holds_0 : decode cX3_holds 0 = .ok (.aload_n 0, 1) := by decide +kernel
theorem dX3_holds_1 : decode cX3_holds 1 = .ok (.iload_n 1, 1) := by decide +kernel
theorem dX3_holds_2 : decode cX3_holds 2 = .ok (.lload_n 2, 1) := by decide +kernel
theorem dX3_holds_3 : decode cX3_holds 3 = .ok (.invokestatic 62, 3) := by decide +kernel
theorem dX3_holds_6 : decode cX3_holds 6 = .ok (.astore 4, 2) := by decide +kernel
theorem dX3_holds_8 : decode cX3_holds 8 = .ok (.aload 4, 2) := by decide +kernel
theorem dX3_holds_10 : decode cX3_holds 10 = .ok (.ifnull 17, 3) := by decide +kernel
theorem dX3_holds_13 : decode cX3_holds 13 = .ok (.aload 4, 2) := by decide +kernel
theorem dX3_holds_15 : decode cX3_holds 15 = .ok (.iload_n 1, 1) := by decide +kernel
theorem dX3_holds_16 : decode cX3_holds 16 = .ok (.lload_n 2, 1) := by decide +kernel
theorem dX3_holds_17 : decode cX3_holds 17 = .ok (.invokevirtual 66, 3) := by decide +kernel
theorem dX3_holds_20 : decode cX3_holds 20 = .ok (.ifCond .lt 7, 3) := by decide +kernel
theorem dX3_holds_23 : decode cX3_holds 23 = .ok (.iconst 1, 1) := by decide +kernel
theorem dX3_holds_24 : decode cX3_holds 24 = .ok (.goto 4, 3) := by decide +kernel
theorem dX3_holds_27 : decode cX3_holds 27 = .ok (.iconst 0, 1) := by decide +kernel
theorem dX3_holds_28 : decode cX3_holds 28 = .ok (.ireturn, 1) := by decide +kernel
set_option maxRecDepth 100000 in
set_option maxHeartbeats 4000000 in
theorem c_X3_holds (l : Launch) (D : va_G) (cy : Nat → ClassId) (N0 : Nat) (h : qH) (Im : Nat → Prop) (e9 : Nat) (Ok : Nat → Prop) (m9 : Int32) (x : Option Nat) (L : qKV) (X : Nat → Prop) (k : Int64) (hR : qRt cy h Im e9 Ok m9 x L X) (hL : L.length < 1000000) : qC l D cy N0 yX3_holds cX3_holds 5 (some .boolean) 3 90 0 0 [va_rf x, .int m9, .long k] h (fun v h' => v = some (.int (nI (if xHas L k = true then 1 else 0))) ∧ h = h') (fun E h' => False) := by
  refine q_ofW (by decide) (by simp [lg_sl, q_catrf, q_cati, q_catl, q_cata, q_catn]) ?_
  intro p e s m below meth c ls C hP hl
  have hx := C.1
  have hb := C.2.1
  have hS : va_S (qA N0) s.heap s.heap [] := va_S.rf
  have hl : lv_has ls 5 [(0, va_rf x), (1, .int m9), (2, .long k)] := by simpa [lv_args, q_catrf, q_cati, q_catl, q_cata, q_catn] using hl
  refine q_aload_n hx hb dX3_holds_0 rfl (lv_at hl 0 rfl) ?_
  refine lv_iload_n hx hb dX3_holds_1 rfl (lv_at hl 1 rfl) ?_
  refine lv_lload_n hx hb dX3_holds_2 rfl (lv_at hl 2 rfl) ?_
  refine q_callS (rest := []) C (c_X3_homeOf l D cy N0 h Im e9 Ok m9 x L X k hR) kX3_homeOf g296 g297 hP hS (by first | decide | omega) hl.1 rfl (by decide) (by first | decide | omega) dX3_holds_3 (fun q ce E h' H1 locs1 hE => hE.elim) (fun v hh1 H locs hq hP hS => ?_)
  obtain ⟨rfl, hq⟩ := hq
  rcases hq with ⟨hxn, rfl⟩ | ⟨a1, X1, rfl, hne9, hT1⟩
  · refine lv_astoreN (lv' := [(4, .null), (0, va_rf x), (1, .int m9), (2, .long k)]) hx hb dX3_holds_6 hl (by decide) rfl (fun ls hl => ?_)
    refine lv_aloadN hx hb dX3_holds_8 (lv_at hl 0 rfl) ?_
    refine lv_ifnullN (tgt := 27) hx hb dX3_holds_10 (by decide) ?_
    refine lv_iconst (v := nI 0) hx hb dX3_holds_27 (by decide) ?_
    exact q_zret C hP hS (Or.inl rfl) ⟨by rw [show xHas L k = false from by rcases hR with ⟨-, rfl⟩ | ⟨a, z, -⟩ <;> first | rfl | (rw [hxn] at z; cases z)]; rfl, rfl⟩ (by omega) dX3_holds_28
  · obtain ⟨r1, L1, eH1⟩ : ∃ (r1 : Nat) (L1 : qKV), thHm m9 k 7 L = (r1, L1) := ⟨_, _, rfl⟩
    have hrl := thHm_le (m := m9) (k := k) 7 L
    have hll := thHm_len (m := m9) (k := k) 7 L
    have hend := thHm_end (m := m9) (k := k) 7 L
    have hal := thHm_al (m := m9) (k := k) 7 L
    have hhas := fun p => thHome_has (m := m9) (k := k) (L := L) (p := p)
    rw [eH1] at hT1 hrl hll hend hal hhas
    dsimp only at hT1 hrl hll hend hal hhas
    obtain ⟨ow1, ka1, va1, na1, C1, Xs1, hn1, hx1, hk1⟩ := hT1.inv
    have f1 := hn1.1
    have fk1 := hn1.2.1
    have fv1 := hn1.2.2.1
    have fn1 := hn1.2.2.2.1
    unfold thNo at f1
    unfold thJ at fk1 fv1
    unfold thA at fn1
    rw [List.length_map] at fk1 fv1
    have hkl := trK_len (m := m9) (r := r1) (L := L1)
    refine lv_astore (lv' := [(4, .ref a1), (0, va_rf x), (1, .int m9), (2, .long k)]) hx hb dX3_holds_6 hl (by decide) rfl (fun ls hl => ?_)
    refine lv_aload hx hb dX3_holds_8 (lv_at hl 0 rfl) ?_
    refine lv_ifnull hx hb dX3_holds_10 ?_
    refine lv_aload hx hb dX3_holds_13 (lv_at hl 0 rfl) ?_
    refine lv_iload_n hx hb dX3_holds_15 rfl (lv_at hl 2 rfl) ?_
    refine lv_lload_n hx hb dX3_holds_16 rfl (lv_at hl 3 rfl) ?_
    refine q_callV (rest := []) C (c_X3_placeOf l D cy N0 h Im e9 Ok m9 r1 a1 L1 L1.length X1 ow1 ka1 va1 na1 C1 k hn1 (by omega) (by omega) (by omega)) kX3_placeOf g314 g316 rfl gp5 g12 hP hS f1 (by first | decide | omega) hl.1 rfl (by decide) (by first | decide | omega) dX3_holds_17 (fun q ce E h' H1 locs1 hE => hE.elim) (fun v hh2 H locs hq hP hS => ?_)
    obtain ⟨rfl, hq⟩ := hq
    rcases hq with ⟨j9, x9, rfl, ex9⟩ | ⟨rfl, no9⟩
    · have hjl := (List.getElem?_eq_some_iff.mp ex9).1
      refine lv_if_lt (tgt := 27) hx hb dX3_holds_20 (by decide) (fun c20 => ?_) (fun c20 => ?_)
      · replace c20 : j9 < 0 := (nI_ltI (a := j9) (b := 0) (by omega) (by omega)).mp c20
        exfalso; omega
      · replace c20 : ¬ j9 < 0 := fun zq => c20 ((nI_ltI (a := j9) (b := 0) (by omega) (by omega)).mpr zq)
        refine lv_iconst (v := nI 1) hx hb dX3_holds_23 (by decide) ?_
        refine lv_goto (tgt := 28) hx hb dX3_holds_24 (by decide) ?_
        exact q_zret C hP hS (Or.inr rfl) ⟨by rw [show xHas L k = true from xHas_iff.mpr ⟨(k, x9), (hhas _ rfl).mpr (List.mem_of_getElem? ex9), rfl⟩]; rfl, rfl⟩ (by omega) dX3_holds_28
    · refine lv_if_lt (tgt := 27) hx hb dX3_holds_20 (by decide) (fun _ => ?_) (fun c => absurd (by decide) c)
      refine lv_iconst (v := nI 0) hx hb dX3_holds_27 (by decide) ?_
      exact q_zret C hP hS (Or.inl rfl) ⟨by rw [show xHas L k = false from xHas_no.mpr (fun p hp e => no9 p ((hhas p e).mp hp) e)]; rfl, rfl⟩ (by omega) dX3_holds_28
theorem th_cnt {K : qKV} {j : Nat} {p : Int64 × Int64} {f : Int64 × Int64 → Bool} (h : K[j]? = some p) : ((K.take (j + 1)).filter f).length = ((K.take j).filter f).length + (if f p = true then 1 else 0) := by
  rw [List.take_succ, h]
  simp only [Option.toList_some]
  rw [List.filter_append, List.length_append]
  congr 1
  rw [List.filter_cons]
  split <;> rfl
theorem dX3_alikeKeys_0 : decode cX3_alikeKeys 0 = .ok (.aload_n 0, 1) := by decide +kernel
theorem dX3_alikeKeys_1 : decode cX3_alikeKeys 1 = .ok (.iload_n 1, 1) := by decide +kernel
theorem dX3_alikeKeys_2 : decode cX3_alikeKeys 2 = .ok (.lload_n 2, 1) := by decide +kernel
theorem dX3_alikeKeys_3 : decode cX3_alikeKeys 3 = .ok (.invokestatic 62, 3) := by decide +kernel
theorem dX3_alikeKeys_6 : decode cX3_alikeKeys 6 = .ok (.astore 4, 2) := by decide +kernel
theorem dX3_alikeKeys_8 : decode cX3_alikeKeys 8 = .ok (.iconst 0, 1) := by decide +kernel
theorem dX3_alikeKeys_9 : decode cX3_alikeKeys 9 = .ok (.istore 5, 2) := by decide +kernel
theorem dX3_alikeKeys_11 : decode cX3_alikeKeys 11 = .ok (.iconst 0, 1) := by decide +kernel
theorem dX3_alikeKeys_12 : decode cX3_alikeKeys 12 = .ok (.istore 6, 2) := by decide +kernel
theorem dX3_alikeKeys_14 : decode cX3_alikeKeys 14 = .ok (.aload 4, 2) := by decide +kernel
theorem dX3_alikeKeys_16 : decode cX3_alikeKeys 16 = .ok (.ifnull 43, 3) := by decide +kernel
theorem dX3_alikeKeys_19 : decode cX3_alikeKeys 19 = .ok (.iload 6, 2) := by decide +kernel
theorem dX3_alikeKeys_21 : decode cX3_alikeKeys 21 = .ok (.aload 4, 2) := by decide +kernel
theorem dX3_alikeKeys_23 : decode cX3_alikeKeys 23 = .ok (.getfield 15, 3) := by decide +kernel
theorem dX3_alikeKeys_26 : decode cX3_alikeKeys 26 = .ok (.arraylength, 1) := by decide +kernel
theorem dX3_alikeKeys_27 : decode cX3_alikeKeys 27 = .ok (.if_icmp .ge 32, 3) := by decide +kernel
theorem dX3_alikeKeys_30 : decode cX3_alikeKeys 30 = .ok (.aload 4, 2) := by decide +kernel
theorem dX3_alikeKeys_32 : decode cX3_alikeKeys 32 = .ok (.getfield 15, 3) := by decide +kernel
theorem dX3_alikeKeys_35 : decode cX3_alikeKeys 35 = .ok (.iload 6, 2) := by decide +kernel
theorem dX3_alikeKeys_37 : decode cX3_alikeKeys 37 = .ok (.laload, 1) := by decide +kernel
theorem dX3_alikeKeys_38 : decode cX3_alikeKeys 38 = .ok (.iload_n 1, 1) := by decide +kernel
theorem dX3_alikeKeys_39 : decode cX3_alikeKeys 39 = .ok (.invokestatic 41, 3) := by decide +kernel
theorem dX3_alikeKeys_42 : decode cX3_alikeKeys 42 = .ok (.lload_n 2, 1) := by decide +kernel
theorem dX3_alikeKeys_43 : decode cX3_alikeKeys 43 = .ok (.iload_n 1, 1) := by decide +kernel
theorem dX3_alikeKeys_44 : decode cX3_alikeKeys 44 = .ok (.invokestatic 41, 3) := by decide +kernel
theorem dX3_alikeKeys_47 : decode cX3_alikeKeys 47 = .ok (.if_icmp .ne 6, 3) := by decide +kernel
theorem dX3_alikeKeys_50 : decode cX3_alikeKeys 50 = .ok (.iinc 5 1, 3) := by decide +kernel
theorem dX3_alikeKeys_53 : decode cX3_alikeKeys 53 = .ok (.iinc 6 1, 3) := by decide +kernel
theorem dX3_alikeKeys_56 : decode cX3_alikeKeys 56 = .ok (.goto (-42), 3) := by decide +kernel
theorem dX3_alikeKeys_59 : decode cX3_alikeKeys 59 = .ok (.iload 5, 2) := by decide +kernel
theorem dX3_alikeKeys_61 : decode cX3_alikeKeys 61 = .ok (.ireturn, 1) := by decide +kernel
set_option maxRecDepth 100000 in
set_option maxHeartbeats 4000000 in
theorem c_X3_alikeKeys (l : Launch) (D : va_G) (cy : Nat → ClassId) (N0 : Nat) (h : qH) (Im : Nat → Prop) (e9 : Nat) (Ok : Nat → Prop) (m9 : Int32) (x : Option Nat) (L : qKV) (X : Nat → Prop) (k : Int64) (hR : qRt cy h Im e9 Ok m9 x L X) (hL : L.length < 1000000) : qC l D cy N0 yX3_alikeKeys cX3_alikeKeys 7 (some .int) 3 90 0 0 [va_rf x, .int m9, .long k] h (fun v h' => v = some (.int (nI (L.filter (fun p => decide (thH m9 p.1 = thH m9 k))).length)) ∧ h = h') (fun E h' => False) := by
  refine q_ofW (by decide) (by simp [lg_sl, q_catrf, q_cati, q_catl, q_cata, q_catn]) ?_
  intro p e s m below meth c ls C hP hl
  have hx := C.1
  have hb := C.2.1
  have hS : va_S (qA N0) s.heap s.heap [] := va_S.rf
  have hl : lv_has ls 7 [(0, va_rf x), (1, .int m9), (2, .long k)] := by simpa [lv_args, q_catrf, q_cati, q_catl, q_cata, q_catn] using hl
  refine q_aload_n hx hb dX3_alikeKeys_0 rfl (lv_at hl 0 rfl) ?_
  refine lv_iload_n hx hb dX3_alikeKeys_1 rfl (lv_at hl 1 rfl) ?_
  refine lv_lload_n hx hb dX3_alikeKeys_2 rfl (lv_at hl 2 rfl) ?_
  refine q_callS (rest := []) C (c_X3_homeOf l D cy N0 h Im e9 Ok m9 x L X k hR) kX3_homeOf g296 g297 hP hS (by first | decide | omega) hl.1 rfl (by decide) (by first | decide | omega) dX3_alikeKeys_3 (fun q ce E h' H1 locs1 hE => hE.elim) (fun v hh1 H locs hq hP hS => ?_)
  obtain ⟨rfl, hq⟩ := hq
  rcases hq with ⟨hxn, rfl⟩ | ⟨a1, X1, rfl, hne9, hT1⟩
  · refine lv_astoreN (lv' := [(4, .null), (0, va_rf x), (1, .int m9), (2, .long k)]) hx hb dX3_alikeKeys_6 hl (by decide) rfl (fun ls hl => ?_)
    refine lv_iconst (v := nI 0) hx hb dX3_alikeKeys_8 (by decide) ?_
    refine lv_istore (lv' := [(5, .int (nI 0)), (4, .null), (0, va_rf x), (1, .int m9), (2, .long k)]) hx hb dX3_alikeKeys_9 hl (by decide) rfl (fun ls hl => ?_)
    refine lv_iconst (v := nI 0) hx hb dX3_alikeKeys_11 (by decide) ?_
    refine lv_istore (lv' := [(6, .int (nI 0)), (5, .int (nI 0)), (4, .null), (0, va_rf x), (1, .int m9), (2, .long k)]) hx hb dX3_alikeKeys_12 hl (by decide) rfl (fun ls hl => ?_)
    refine lv_aloadN hx hb dX3_alikeKeys_14 (lv_at hl 2 rfl) ?_
    refine lv_ifnullN (tgt := 59) hx hb dX3_alikeKeys_16 (by decide) ?_
    refine lv_iload hx hb dX3_alikeKeys_59 (lv_at hl 1 rfl) ?_
    exact q_iret C hP hS ⟨by rcases hR with ⟨-, rfl⟩ | ⟨a, z, -⟩ <;> first | rfl | (rw [hxn] at z; cases z), rfl⟩ (by omega) dX3_alikeKeys_61
  · obtain ⟨r1, L1, eH1⟩ : ∃ (r1 : Nat) (L1 : qKV), thHm m9 k 7 L = (r1, L1) := ⟨_, _, rfl⟩
    have hrl := thHm_le (m := m9) (k := k) 7 L
    have hll := thHm_len (m := m9) (k := k) 7 L
    have hend := thHm_end (m := m9) (k := k) 7 L
    have hal := thHm_al (m := m9) (k := k) 7 L
    have hhas := fun p => thHome_has (m := m9) (k := k) (L := L) (p := p)
    rw [eH1] at hT1 hrl hll hend hal hhas
    dsimp only at hT1 hrl hll hend hal hhas
    obtain ⟨ow1, ka1, va1, na1, C1, Xs1, hn1, hx1, hk1⟩ := hT1.inv
    have f1 := hn1.1
    have fk1 := hn1.2.1
    have fv1 := hn1.2.2.1
    have fn1 := hn1.2.2.2.1
    unfold thNo at f1
    unfold thJ at fk1 fv1
    unfold thA at fn1
    rw [List.length_map] at fk1 fv1
    have hkl := trK_len (m := m9) (r := r1) (L := L1)
    refine lv_astore (lv' := [(4, .ref a1), (0, va_rf x), (1, .int m9), (2, .long k)]) hx hb dX3_alikeKeys_6 hl (by decide) rfl (fun ls hl => ?_)
    refine lv_iconst (v := nI 0) hx hb dX3_alikeKeys_8 (by decide) ?_
    refine lv_istore (lv' := [(5, .int (nI 0)), (4, .ref a1), (0, va_rf x), (1, .int m9), (2, .long k)]) hx hb dX3_alikeKeys_9 hl (by decide) rfl (fun ls hl => ?_)
    refine lv_iconst (v := nI 0) hx hb dX3_alikeKeys_11 (by decide) ?_
    refine lv_istore (lv' := [(6, .int (nI 0)), (5, .int (nI 0)), (4, .ref a1), (0, va_rf x), (1, .int m9), (2, .long k)]) hx hb dX3_alikeKeys_12 hl (by decide) rfl (fun ls hl => ?_)
    refine (?_ : ∀ (t : Nat) (H : Heap) (locs : List Loc) (ls : Array Slot) (j c9 : Nat), (trK m9 r1 L1).length - j < t → lv_has ls 7 [(6, .int (nI j)), (5, .int (nI c9)), (4, .ref a1), (1, .int m9), (2, .long k)] → c9 = ((List.take j (trK m9 r1 L1)).filter (fun p => decide (thH m9 p.1 = thH m9 k))).length → j ≤ (trK m9 r1 L1).length → qP D N0 h H → va_S (qA N0) s.heap H locs → W p l e _ s m _ below meth c H locs 0 0 _ (F0 m 14 ls [])) _ _ _ ls 0 0 (Nat.lt_succ_self _) (lv_sub hl [0, 1, 2, 4, 5] rfl) rfl (Nat.zero_le _) hP hS
    clear hl hP hS
    intro t
    induction t with
    | zero => intro H locs ls j c9 ht; exact absurd ht (Nat.not_lt_zero _)
    | succ t ihl =>
      intro H locs ls j c9 ht hl hc9 hj hP hS
      have hcl : c9 ≤ L.length := by rw [hc9]; exact Nat.le_trans (List.length_filter_le _ _) (by rw [List.length_take]; omega)
      refine lv_aload hx hb dX3_alikeKeys_14 (lv_at hl 2 rfl) ?_
      refine lv_ifnull hx hb dX3_alikeKeys_16 ?_
      refine lv_iload hx hb dX3_alikeKeys_19 (lv_at hl 0 rfl) ?_
      refine lv_aload hx hb dX3_alikeKeys_21 (lv_at hl 2 rfl) ?_
      refine q_get C hP f1 rfl inX3 5 (by decide) g366 rfl dX3_alikeKeys_23 ?_
      refine q_alen C hP fk1 rfl dX3_alikeKeys_26 ?_
      refine lv_icmp_ge (tgt := 59) hx hb dX3_alikeKeys_27 (by decide) (fun c27 => ?_) (fun c27 => ?_)
      · replace c27 : ((trK m9 r1 L1).length) ≤ j := (nI_leI (a := (trK m9 r1 L1).length) (b := j) (by omega) (by omega)).mp c27
        refine lv_iload hx hb dX3_alikeKeys_59 (lv_at hl 1 rfl) ?_
        exact q_iret C hP hS ⟨by rw [hc9, List.take_of_length_le (by omega), thEnd_al hend, ← hal], rfl⟩ (by omega) dX3_alikeKeys_61
      · replace c27 : ¬ ((trK m9 r1 L1).length) ≤ j := fun zq => c27 ((nI_leI (a := (trK m9 r1 L1).length) (b := j) (by omega) (by omega)).mpr zq)
        refine lv_aload hx hb dX3_alikeKeys_30 (lv_at hl 2 rfl) ?_
        refine q_get C hP f1 rfl inX3 5 (by decide) g366 rfl dX3_alikeKeys_32 ?_
        refine lv_iload hx hb dX3_alikeKeys_35 (lv_at hl 0 rfl) ?_
        refine q_laldN C hP fk1 (by omega) (by omega) dX3_alikeKeys_37 ?_
        refine lv_iload_n hx hb dX3_alikeKeys_38 rfl (lv_at hl 3 rfl) ?_
        refine q_callS (rest := []) C (c_X3_hashOf l D cy N0 h ((List.map Prod.fst (trK m9 r1 L1)).getD j 0) m9) kX3_hashOf g299 g300 hP hS (by first | decide | omega) hl.1 rfl (by decide) (by first | decide | omega) dX3_alikeKeys_39 (fun q ce E h' H1 locs1 hE => hE.elim) (fun v hh2 H locs hq hP hS => ?_)
        obtain ⟨rfl, rfl⟩ := hq
        refine lv_lload_n hx hb dX3_alikeKeys_42 rfl (lv_at hl 4 rfl) ?_
        refine lv_iload_n hx hb dX3_alikeKeys_43 rfl (lv_at hl 3 rfl) ?_
        refine q_callS (rest := [.int (((List.map Prod.fst (trK m9 r1 L1)).getD j 0).toInt32 &&& m9)]) C (c_X3_hashOf l D cy N0 h k m9) kX3_hashOf g299 g300 hP hS (by first | decide | omega) hl.1 rfl (by simp [q_catrf, q_cati, q_catl, q_cata, q_catn]) (by first | decide | omega) dX3_alikeKeys_44 (fun q ce E h' H1 locs1 hE => hE.elim) (fun v hh3 H locs hq hP hS => ?_)
        obtain ⟨rfl, rfl⟩ := hq
        refine lv_icmp_ne (tgt := 53) hx hb dX3_alikeKeys_47 (by decide) (fun c47 => ?_) (fun c47 => ?_)
        · refine lv_iinc (v := nI (j + 1)) (lv' := [(6, .int (nI (j + 1))), (5, .int (nI c9)), (4, .ref a1), (1, .int m9), (2, .long k)]) hx hb dX3_alikeKeys_53 hl (k := 0) rfl (nI_1 j) (by decide) rfl (fun ls hl => ?_)
          refine lv_goto (tgt := 14) hx hb dX3_alikeKeys_56 (by decide) ?_
          have hjg := List.getElem?_eq_getElem (l := (trK m9 r1 L1)) (show j < (trK m9 r1 L1).length by omega)
          have hcn := th_cnt (f := fun p => decide (thH m9 p.1 = thH m9 k)) hjg
          rw [th_key hjg] at c47
          rw [if_neg (by rw [decide_eq_true_iff]; exact fun z => c47 (thH_eq.mpr z))] at hcn
          exact ihl H locs ls (j + 1) c9 (by omega) (lv_sub hl [0, 1, 2, 3, 4] rfl) (by omega) (by omega) hP hS
        · refine lv_iinc (v := nI (c9 + 1)) (lv' := [(5, .int (nI (c9 + 1))), (6, .int (nI j)), (4, .ref a1), (1, .int m9), (2, .long k)]) hx hb dX3_alikeKeys_50 hl (k := 1) rfl (nI_1 c9) (by decide) rfl (fun ls hl => ?_)
          refine lv_iinc (v := nI (j + 1)) (lv' := [(6, .int (nI (j + 1))), (5, .int (nI (c9 + 1))), (4, .ref a1), (1, .int m9), (2, .long k)]) hx hb dX3_alikeKeys_53 hl (k := 1) rfl (nI_1 j) (by decide) rfl (fun ls hl => ?_)
          refine lv_goto (tgt := 14) hx hb dX3_alikeKeys_56 (by decide) ?_
          have hjg := List.getElem?_eq_getElem (l := (trK m9 r1 L1)) (show j < (trK m9 r1 L1).length by omega)
          have hcn := th_cnt (f := fun p => decide (thH m9 p.1 = thH m9 k)) hjg
          rw [th_key hjg] at c47
          rw [if_pos (decide_eq_true (thH_eq.mp c47))] at hcn
          exact ihl H locs ls (j + 1) (c9 + 1) (by omega) (lv_sub hl [0, 1, 2, 3, 4] rfl) (by omega) (by omega) hP hS
