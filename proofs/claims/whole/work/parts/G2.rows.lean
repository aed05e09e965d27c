theorem qs_id {h : qH} {a : Nat} {o : va_E} (e : h a = some o) : qs h a o = h := by
  funext b
  by_cases c : b = a
  · rw [c, qs_self, e]
  · rw [qs_ne c]

set_option maxRecDepth 100000 in
set_option maxHeartbeats 4000000 in
theorem z_pourKeysN (l : Launch) (D : va_G) (cy : Nat → ClassId) (N0 : Nat) (h : qH) (b q : Nat) : qC l D cy N0 yX3_pourKeys cX3_pourKeys 8 (some .int) 9 340 0 0 [.null, .ref b, .int (nI q)] h (fun v h' => v = some (.int (nI q)) ∧ h = h') (fun E h' => False) := by
  refine q_ofW (by decide) (by exact Nat.le_of_ble_eq_true rfl) ?_
  intro p e s m below meth c ls C hP hl
  have hx := C.1
  have hb := C.2.1
  have hS : va_S (qA N0) s.heap s.heap [] := va_S.rf
  have hl : lv_has ls 8 [(0, .null), (1, .ref b), (2, .int (nI q))] := hl
  refine lv_aload_nN hx hb dX3_pourKeys_0 rfl (lv_at hl 0 rfl) ?_
  refine lv_ifnullN (tgt := 15) hx hb dX3_pourKeys_1 (by decide) ?_
  refine lv_iload_n hx hb dX3_pourKeys_15 rfl (lv_at hl 2 rfl) ?_
  exact q_iret C hP hS ⟨rfl, rfl⟩ (by omega) dX3_pourKeys_16
theorem z_pourKeys (l : Launch) (D : va_G) (cy : Nat → ClassId) (N0 : Nat) (h : qH) (Im : Nat → Prop) (e9 : Nat) (Ok : Nat → Prop) (m9 : Int32) (xr : Option Nat) (L : qKV) (X : Nat → Prop) (b : Nat) (f : Nat → Int64) (hR : qRt cy h Im e9 Ok m9 xr L X) (hnb : ¬ Im b ∧ ¬ X b) (hrow : h b = some (.inl (cy 1, 1000, .inr (.inl f)))) (hL : L.length ≤ 1000) : qC l D cy N0 yX3_pourKeys cX3_pourKeys 8 (some .int) 9 340 0 0 [va_rf xr, .ref b, .int (nI 0)] h (fun v h' => v = some (.int (nI L.length)) ∧ h' = qs h b (.inl (cy 1, 1000, .inr (.inl (qPour f 0 ((thT m9 7 L).map Prod.fst)))))) (fun E h' => False) := by
  rcases hR with ⟨rfl, rfl⟩ | ⟨a, rfl, -, hT⟩
  · refine (z_pourKeysN l D cy N0 h b 0).mono (fun v h' z => ⟨z.1, ?_⟩) (fun _ _ z => z)
    rw [← z.2, show ((thT m9 7 ([] : qKV)).map Prod.fst) = [] from List.length_eq_zero_iff.mp (by rw [List.length_map, thT_len]; rfl), qPour_nil, qs_id hrow]
  · exact (c_X3_pourKeys l D cy N0 Im e9 Ok m9 8 h 7 a L X b 1000 f 0 hT hnb hrow (by omega) (by omega) (by omega) (by omega) (by omega)).mono (fun v h' z => ⟨by rw [z.1, Nat.zero_add], z.2⟩) (fun _ _ z => z)

set_option maxRecDepth 100000 in
set_option maxHeartbeats 4000000 in
theorem z_pourValuesN (l : Launch) (D : va_G) (cy : Nat → ClassId) (N0 : Nat) (h : qH) (b q : Nat) : qC l D cy N0 yX3_pourValues cX3_pourValues 8 (some .int) 9 340 0 0 [.null, .ref b, .int (nI q)] h (fun v h' => v = some (.int (nI q)) ∧ h = h') (fun E h' => False) := by
  refine q_ofW (by decide) (by exact Nat.le_of_ble_eq_true rfl) ?_
  intro p e s m below meth c ls C hP hl
  have hx := C.1
  have hb := C.2.1
  have hS : va_S (qA N0) s.heap s.heap [] := va_S.rf
  have hl : lv_has ls 8 [(0, .null), (1, .ref b), (2, .int (nI q))] := hl
  refine lv_aload_nN hx hb dX3_pourValues_0 rfl (lv_at hl 0 rfl) ?_
  refine lv_ifnullN (tgt := 15) hx hb dX3_pourValues_1 (by decide) ?_
  refine lv_iload_n hx hb dX3_pourValues_15 rfl (lv_at hl 2 rfl) ?_
  exact q_iret C hP hS ⟨rfl, rfl⟩ (by omega) dX3_pourValues_16
theorem z_pourValues (l : Launch) (D : va_G) (cy : Nat → ClassId) (N0 : Nat) (h : qH) (Im : Nat → Prop) (e9 : Nat) (Ok : Nat → Prop) (m9 : Int32) (xr : Option Nat) (L : qKV) (X : Nat → Prop) (b : Nat) (f : Nat → Int64) (hR : qRt cy h Im e9 Ok m9 xr L X) (hnb : ¬ Im b ∧ ¬ X b) (hrow : h b = some (.inl (cy 1, 1000, .inr (.inl f)))) (hL : L.length ≤ 1000) : qC l D cy N0 yX3_pourValues cX3_pourValues 8 (some .int) 9 340 0 0 [va_rf xr, .ref b, .int (nI 0)] h (fun v h' => v = some (.int (nI L.length)) ∧ h' = qs h b (.inl (cy 1, 1000, .inr (.inl (qPour f 0 ((thT m9 7 L).map Prod.snd)))))) (fun E h' => False) := by
  rcases hR with ⟨rfl, rfl⟩ | ⟨a, rfl, -, hT⟩
  · refine (z_pourValuesN l D cy N0 h b 0).mono (fun v h' z => ⟨z.1, ?_⟩) (fun _ _ z => z)
    rw [← z.2, show ((thT m9 7 ([] : qKV)).map Prod.snd) = [] from List.length_eq_zero_iff.mp (by rw [List.length_map, thT_len]; rfl), qPour_nil, qs_id hrow]
  · exact (c_X3_pourValues l D cy N0 Im e9 Ok m9 8 h 7 a L X b 1000 f 0 hT hnb hrow (by omega) (by omega) (by omega) (by omega) (by omega)).mono (fun v h' z => ⟨by rw [z.1, Nat.zero_add], z.2⟩) (fun _ _ z => z)
/-- a list without the keys f 0, f 1, .. -/
def zDs (L : qKV) (f : Nat → Int64) : Nat → qKV
  | 0 => L
  | i + 1 => thD (zDs L f i) (f i)
theorem zDs_len {L : qKV} {f : Nat → Int64} : ∀ n : Nat, (zDs L f n).length ≤ L.length
  | 0 => Nat.le_refl _
  | n + 1 => Nat.le_trans (List.length_filter_le ..) (zDs_len n)
theorem zDs_no {L : qKV} {f : Nat → Int64} (h : qNo L) : ∀ n : Nat, qNo (zDs L f n)
  | 0 => h
  | n + 1 => (zDs_no h n).filter _
theorem zDs_eq {L : qKV} {f : Nat → Int64} {M : List Int64} : ∀ n : Nat, n ≤ M.length → (∀ j, j < n → f j = M.getD j 0) → zDs L f n = L.filter (fun p => decide (p.1 ∉ M.take n))
  | 0, _, _ => by
    rw [List.take_zero]
    exact (List.filter_eq_self.mpr (fun p _ => decide_eq_true (List.not_mem_nil))).symm
  | n + 1, hn, hf => by
    show thD (zDs L f n) (f n) = _
    rw [zDs_eq n (by omega) (fun j hj => hf j (by omega))]
    unfold thD
    rw [List.filter_filter]
    congr 1
    funext p
    rw [← Bool.decide_and, List.take_succ_eq_append_getElem (by omega)]
    refine decide_eq_decide.mpr ?_
    have e : f n = M[n]'(by omega) := by rw [hf n (by omega), List.getD_eq_getElem?_getD, List.getElem?_eq_getElem (by omega)]; rfl
    rw [e, List.mem_append, List.mem_singleton]
    exact ⟨fun z y => y.elim z.2 z.1, fun z => ⟨fun y => z (Or.inr y), fun y => z (Or.inl y)⟩⟩
/-- the row f: of the first i numbers of K those that pass P stand at its beginning -/
def zCp (K : List Int64) (P : Int64 → Bool) (f : Nat → Int64) (i g : Nat) : Prop := i ≤ K.length ∧ g = ((K.take i).filter P).length ∧ (∀ j, j < g → f j = ((K.take i).filter P).getD j 0) ∧ ∀ j, i ≤ j → j < K.length → f j = K.getD j 0
section ZCP
variable {K : List Int64} {P : Int64 → Bool} {f : Nat → Int64} {i g : Nat}
theorem zCp.init {f0 : Nat → Int64} : zCp K P (qPour f0 0 K) 0 0 := ⟨Nat.zero_le _, rfl, fun j hj => absurd hj (Nat.not_lt_zero _), fun j _ hj => by unfold qPour; rw [if_pos ⟨Nat.zero_le _, by omega⟩, Nat.sub_zero]⟩
theorem zCp.le (z : zCp K P f i g) : g ≤ i := by
  rw [z.2.1]
  exact Nat.le_trans (List.length_filter_le ..) (by rw [List.length_take]; omega)
theorem zCp.at (z : zCp K P f i g) (h : i < K.length) : f i = K[i] := by rw [z.2.2.2 i (Nat.le_refl _) h, List.getD_eq_getElem?_getD, List.getElem?_eq_getElem h]; rfl
theorem zCp.yes (z : zCp K P f i g) (h : i < K.length) (hp : P (f i) = true) : zCp K P (vp_updL f g (f i)) (i + 1) (g + 1) := by
  have hl := z.le
  have ht : (K.take (i + 1)).filter P = (K.take i).filter P ++ [f i] := by rw [List.take_succ_eq_append_getElem h, List.filter_append, ← z.at h, List.filter_cons_of_pos hp, List.filter_nil]
  refine ⟨h, by rw [ht, List.length_append, ← z.2.1]; rfl, fun j hj => ?_, fun j h1 h2 => ?_⟩
  · rw [ht]
    unfold vp_updL
    by_cases c : j = g
    · rw [if_pos c, c, z.2.1, List.getD_eq_getElem?_getD, List.getElem?_append_right (Nat.le_refl _), Nat.sub_self]; rfl
    · rw [if_neg c, z.2.2.1 j (by omega), List.getD_eq_getElem?_getD, List.getD_eq_getElem?_getD, List.getElem?_append_left (by rw [← z.2.1]; omega)]
  · unfold vp_updL
    rw [if_neg (by omega)]
    exact z.2.2.2 j (by omega) h2
theorem zCp.no (z : zCp K P f i g) (h : i < K.length) (hp : P (f i) = false) : zCp K P f (i + 1) g := by
  have ht : (K.take (i + 1)).filter P = (K.take i).filter P := by rw [List.take_succ_eq_append_getElem h, List.filter_append, ← z.at h, List.filter_cons_of_neg (by rw [hp]; decide), List.filter_nil, List.append_nil]
  exact ⟨h, by rw [ht]; exact z.2.1, fun j hj => by rw [ht]; exact z.2.2.1 j hj, fun j h1 h2 => z.2.2.2 j (by omega) h2⟩
theorem zCp.fin (z : zCp K P f i g) (h : i = K.length) : g = (K.filter P).length ∧ ∀ j, j < g → f j = (K.filter P).getD j 0 := by
  have := z.2
  rw [h, List.take_length] at this
  exact ⟨this.1, this.2.1⟩
end ZCP
theorem zDs_cp {L : qKV} {K : List Int64} {P : Int64 → Bool} {f : Nat → Int64} {i g : Nat} (z : zCp K P f i g) (h : i = K.length) (hK : ∀ p ∈ L, p.1 ∈ K) : zDs L f g = L.filter (fun p => !P p.1) := by
  obtain ⟨e1, e2⟩ := z.fin h
  rw [zDs_eq g (by omega) e2, e1, List.take_length]
  refine List.filter_congr (fun p hp => ?_)
  have := hK p hp
  cases c : P p.1 with
  | true => exact decide_eq_false (fun y => y (List.mem_filter.mpr ⟨this, c⟩))
  | false => exact decide_eq_true (fun y => by have := (List.mem_filter.mp y).2; rw [c] at this; cases this)
theorem zSv_fi {s : qSlot} {Q : Int64 → Bool} : zSv (s.1, s.2.1.filter (fun p => Q p.1), s.2.2) = (zSv s).filter (fun p => Q p.1) := by
  unfold zSv
  show (if s.1 = 2 then _ else _) = _
  by_cases c2 : s.1 = 2
  · rw [if_pos c2, if_pos c2, List.filter_map]; rfl
  · rw [if_neg c2, if_neg c2]
theorem thT_key {m : Int32} {L : qKV} : ∀ p ∈ L, p.1 ∈ (thT m 7 L).map Prod.fst := fun p hp => List.mem_map.mpr ⟨p, (thT_perm 7 L).symm.subset hp, rfl⟩
theorem zmul {i n c : Nat} (h : i < n) : i * c + c ≤ n * c := by rw [← Nat.succ_mul]; exact Nat.mul_le_mul_right c h
theorem zmul1 {i c : Nat} : (i + 1) * c = i * c + c := Nat.succ_mul ..
theorem dX6_withoutRow_0 : decode cX6_withoutRow 0 = .ok (.aload_n 0, 1) := by decide +kernel
theorem dX6_withoutRow_1 : decode cX6_withoutRow 1 = .ok (.invokevirtual 70, 3) := by decide +kernel
theorem dX6_withoutRow_4 : decode cX6_withoutRow 4 = .ok (.istore_n 3, 1) := by decide +kernel
theorem dX6_withoutRow_5 : decode cX6_withoutRow 5 = .ok (.aload_n 1, 1) := by decide +kernel
theorem dX6_withoutRow_6 : decode cX6_withoutRow 6 = .ok (.astore 4, 2) := by decide +kernel
theorem dX6_withoutRow_8 : decode cX6_withoutRow 8 = .ok (.iconst 0, 1) := by decide +kernel
theorem dX6_withoutRow_9 : decode cX6_withoutRow 9 = .ok (.istore 5, 2) := by decide +kernel
theorem dX6_withoutRow_11 : decode cX6_withoutRow 11 = .ok (.iload 5, 2) := by decide +kernel
theorem dX6_withoutRow_13 : decode cX6_withoutRow 13 = .ok (.iload_n 2, 1) := by decide +kernel
theorem dX6_withoutRow_14 : decode cX6_withoutRow 14 = .ok (.if_icmp .ge 28, 3) := by decide +kernel
theorem dX6_withoutRow_17 : decode cX6_withoutRow 17 = .ok (.aload 4, 2) := by decide +kernel
theorem dX6_withoutRow_19 : decode cX6_withoutRow 19 = .ok (.iload_n 3, 1) := by decide +kernel
theorem dX6_withoutRow_20 : decode cX6_withoutRow 20 = .ok (.aload_n 0, 1) := by decide +kernel
theorem dX6_withoutRow_21 : decode cX6_withoutRow 21 = .ok (.getfield 34, 3) := by decide +kernel
theorem dX6_withoutRow_24 : decode cX6_withoutRow 24 = .ok (.aload_n 0, 1) := by decide +kernel
theorem dX6_withoutRow_25 : decode cX6_withoutRow 25 = .ok (.getfield 21, 3) := by decide +kernel
theorem dX6_withoutRow_28 : decode cX6_withoutRow 28 = .ok (.iload 5, 2) := by decide +kernel
theorem dX6_withoutRow_30 : decode cX6_withoutRow 30 = .ok (.laload, 1) := by decide +kernel
theorem dX6_withoutRow_31 : decode cX6_withoutRow 31 = .ok (.invokestatic 208, 3) := by decide +kernel
theorem dX6_withoutRow_34 : decode cX6_withoutRow 34 = .ok (.astore 4, 2) := by decide +kernel
theorem dX6_withoutRow_36 : decode cX6_withoutRow 36 = .ok (.iinc 5 1, 3) := by decide +kernel
theorem dX6_withoutRow_39 : decode cX6_withoutRow 39 = .ok (.goto (-28), 3) := by decide +kernel
theorem dX6_withoutRow_42 : decode cX6_withoutRow 42 = .ok (.aload 4, 2) := by decide +kernel
theorem dX6_withoutRow_44 : decode cX6_withoutRow 44 = .ok (.areturn, 1) := by decide +kernel
set_option maxRecDepth 100000 in
set_option maxHeartbeats 4000000 in
theorem z_withoutRow (l : Launch) (D : va_G) (cy : Nat → ClassId) (N0 : Nat) (h : qH) (x : Nat) (mk : Int32) (sl bl kr vr Ed : Nat) (fs : Nat → Option Nat) (bd br eb : Nat → Nat) (Im : Nat → Prop) (Xb : Nat → Nat → Prop) (g : Nat → Nat) (S : Nat → qSlot) (Bd sk Rn : Nat) (dp : Nat → Nat) (o : qYf) (a : qWd) (k : qKd) (xr : Option Nat) (L : qKV) (f : Nat → Int64) (n N : Nat) (hz : zQ cy h x mk sl bl kr vr Ed fs bd br eb Im Xb g S (o, a, k)) (hV : qWv Bd sk Rn dp (o, a, k)) (hE9 : Ed + 1 < 1000) (hR : qRt cy h Im 0 (zOk Ed eb S) mk xr L (fun _ => False)) (hno : qNo L) (hL : L.length ≤ N) (hN : N ≤ 1000) (hkr : h kr = some (.inl (cy 1, 1000, .inr (.inl f)))) (hn : n ≤ 1000) : qC l D cy N0 yX6_withoutRow cX6_withoutRow 6 (some (.object RX3)) 26 1700 (50 * n) (n * rMs N 7) [.ref x, va_rf xr, .int (nI n)] h (fun v h' => ∃ (x8 : Option Nat) (X8 Im8 : Nat → Prop), v = some (va_rf x8) ∧ qRt cy h' Im8 (Ed + 1) (zOk Ed eb S) mk x8 (zDs L f n) X8 ∧ qEd cy h' Im8 X8 ∧ qCh (qs h x (.inr (6, [.int mk, .ref sl, .ref bl, .ref kr, .ref vr, .int (oCq o), .int (oMq o), .int (nI (Ed + 1))]))) Im (fun _ => False) h' Im8 X8) (fun E h' => False) := by
  refine q_ofW (by decide) (by simp [lg_sl, q_catrf, q_cati, q_catl, q_cata, q_catn]) ?_
  intro p e s m below meth c ls C hP hl
  have hx := C.1
  have hb := C.2.1
  have hS : va_S (qA N0) s.heap s.heap [] := va_S.rf
  have hl : lv_has ls 6 [(0, .ref x), (1, va_rf xr), (2, .int (nI n))] := by simpa [lv_args, q_catrf, q_cati, q_catl, q_cata, q_catn] using hl
  refine lv_aload_n hx hb dX6_withoutRow_0 rfl (lv_at hl 0 rfl) ?_
  refine q_callV (rest := []) C (c_X6_nextEdit l D cy N0 h x sl bl kr vr mk (oCq o) (oMq o) (nI Ed) fs hz.1.1 hz.2.1.1) kX6_nextEdit g285 g287 rfl gp3 g1 hP hS hz.1.1 (by first | decide | omega) hl.1 rfl (by decide) (by first | decide | omega) dX6_withoutRow_1 (fun q ce E h' H1 locs1 hE => hE.elim) (fun v hh1 H locs hq hP hS => ?_)
  obtain ⟨rfl, rfl⟩ := hq
  rw [nI_1 Ed] at hP
  rw [nI_1 Ed]
  replace hP : qP D N0 (qs h x (.inr (6, [.int mk, .ref sl, .ref bl, .ref kr, .ref vr, .int (oCq o), .int (oMq o), .int (nI (Ed + 1))]))) H := hP
  have hRe : qRt cy (qs h x (.inr (6, [.int mk, .ref sl, .ref bl, .ref kr, .ref vr, .int (oCq o), .int (oMq o), .int (nI (Ed + 1))]))) Im (Ed + 1) (zOk Ed eb S) mk xr L (fun _ => False) := hR.go.keep (fun b o e y => (qs_ne (hz.2.2.2.2.2.1 b (Or.inl (y.resolve_right id))).1).trans e)
  have hk1 : (qs h x (.inr (6, [.int mk, .ref sl, .ref bl, .ref kr, .ref vr, .int (oCq o), .int (oMq o), .int (nI (Ed + 1))]))) kr = some (.inl (cy 1, 1000, .inr (.inl f))) := (qs_ne (fun z => by rw [z, hz.1.1] at hkr; cases hkr)).trans hkr
  have hed1 := ((hz.up hV hE9).2.2.2.2.2.2.2.1 0 (by decide)).no
  have hx1 : (qs h x (.inr (6, [.int mk, .ref sl, .ref bl, .ref kr, .ref vr, .int (oCq o), .int (oMq o), .int (nI (Ed + 1))]))) x = some (.inr (6, [.int mk, .ref sl, .ref bl, .ref kr, .ref vr, .int (oCq o), .int (oMq o), .int (nI (Ed + 1))])) := qs_self
  refine lv_istore_n (lv' := [(3, .int (nI (Ed + 1))), (0, .ref x), (1, va_rf xr), (2, .int (nI n))]) hx hb dX6_withoutRow_4 rfl hl (by decide) rfl (fun ls hl => ?_)
  refine q_aload_n hx hb dX6_withoutRow_5 rfl (lv_at hl 2 rfl) ?_
  refine q_astore (lv' := [(4, va_rf xr), (3, .int (nI (Ed + 1))), (0, .ref x), (1, va_rf xr), (2, .int (nI n))]) hx hb dX6_withoutRow_6 hl (by decide) rfl (fun ls hl => ?_)
  refine lv_iconst (v := nI 0) hx hb dX6_withoutRow_8 (by decide) ?_
  refine lv_istore (lv' := [(5, .int (nI 0)), (4, va_rf xr), (3, .int (nI (Ed + 1))), (0, .ref x), (1, va_rf xr), (2, .int (nI n))]) hx hb dX6_withoutRow_9 hl (by decide) (by cases xr <;> rfl) (fun ls hl => ?_)
  refine (?_ : ∀ (u i : Nat) (H : Heap) (locs : List Loc) (ls : Array Slot) (hh : qH) (xl : Option Nat) (Xl Il : Nat → Prop) (c1 c2 : Nat), n - i < u → lv_has ls 6 [(5, .int (nI i)), (4, va_rf xl), (3, .int (nI (Ed + 1))), (2, .int (nI n)), (0, .ref x)] → i ≤ n → qP D N0 hh H → va_S (qA N0) s.heap H locs → qRt cy hh Il (Ed + 1) (zOk Ed eb S) mk xl (zDs L f i) Xl → qEd cy hh Il Xl → qCh (qs h x (.inr (6, [.int mk, .ref sl, .ref bl, .ref kr, .ref vr, .int (oCq o), .int (oMq o), .int (nI (Ed + 1))]))) Im (fun _ => False) hh Il Xl → c1 ≤ 50 * i ∧ c2 ≤ i * rMs N 7 → W p l e _ s m _ below meth c H locs c1 c2 _ (F0 m 11 ls [])) (n + 1) 0 _ _ ls _ xr (fun _ => False) Im _ _ (by omega) (lv_sub hl [0, 1, 2, 5, 3] rfl) (Nat.zero_le _) hP hS hRe hed1 qCh.rf ⟨by omega, by omega⟩
  clear hl hP hS hRe hed1
  intro u
  induction u with
  | zero => intro i _ _ _ _ _ _ _ _ _ h; exact absurd h (Nat.not_lt_zero _)
  | succ u ihu =>
    intro i H locs ls hh xl Xl Il c1 c2 htu hl hin hP hS hRl hEl hCl hcc
    have hxx := hCl.1 _ _ hx1 id
    have hkk := hCl.1 _ _ hk1 id
    have hdl := zDs_len (L := L) (f := f) i
    refine lv_iload hx hb dX6_withoutRow_11 (lv_at hl 0 rfl) ?_
    refine lv_iload_n hx hb dX6_withoutRow_13 rfl (lv_at hl 3 rfl) ?_
    refine lv_icmp_ge (tgt := 42) hx hb dX6_withoutRow_14 (by decide) (fun c14 => ?_) (fun c14 => ?_)
    · replace c14 : n ≤ i := (nI_leI (a := n) (b := i) (by omega) (by omega)).mp c14
      refine q_aload hx hb dX6_withoutRow_42 (lv_at hl 1 rfl) ?_
      obtain rfl : i = n := by omega
      exact q_aret C (Or.inl ⟨_, rfl⟩) hP hS ⟨xl, Xl, Il, rfl, hRl, hEl, hCl⟩ (by omega) dX6_withoutRow_44
    · replace c14 : ¬ n ≤ i := fun zq => c14 ((nI_leI (a := n) (b := i) (by omega) (by omega)).mpr zq)
      refine q_aload hx hb dX6_withoutRow_17 (lv_at hl 1 rfl) ?_
      refine lv_iload_n hx hb dX6_withoutRow_19 rfl (lv_at hl 2 rfl) ?_
      refine lv_aload_n hx hb dX6_withoutRow_20 rfl (lv_at hl 4 rfl) ?_
      refine q_get C hP hxx rfl inX6 0 (by decide) g68 rfl dX6_withoutRow_21 ?_
      refine lv_aload_n hx hb dX6_withoutRow_24 rfl (lv_at hl 4 rfl) ?_
      refine q_get C hP hxx rfl inX6 3 (by decide) g71 rfl dX6_withoutRow_25 ?_
      refine lv_iload hx hb dX6_withoutRow_28 (lv_at hl 0 rfl) ?_
      refine q_laldN C hP hkk (by omega) (by omega) dX6_withoutRow_30 ?_
      have hmu := zmul (c := rMs N 7) (show i < n by omega)
      have hmu1 := zmul1 (i := i) (c := rMs N 7)
      refine q_callS (rest := []) C (c_X3_removed l D cy N0 hh Il (Ed + 1) (zOk Ed eb S) mk xl (zDs L f i) Xl (f i) N hRl hEl zOk_no (by omega) (by omega) (by omega) (zDs_no hno i)) kX3_removed g797 g798 hP hS (by first | decide | omega) hl.1 rfl (by decide) (by first | decide | omega) dX6_withoutRow_31 (fun q ce E h' H1 locs1 hE => hE.elim) (fun v hh2 H locs hq hP hS => ?_)
      obtain ⟨x2, X2, Im2, rfl, hR2, hE2, hC2⟩ := hq
      refine q_astore (lv' := [(4, va_rf x2), (5, .int (nI i)), (3, .int (nI (Ed + 1))), (2, .int (nI n)), (0, .ref x)]) hx hb dX6_withoutRow_34 hl (by decide) rfl (fun ls hl => ?_)
      refine lv_iinc (v := nI (i + 1)) (lv' := [(5, .int (nI (i + 1))), (4, va_rf x2), (3, .int (nI (Ed + 1))), (2, .int (nI n)), (0, .ref x)]) hx hb dX6_withoutRow_36 hl (k := 1) rfl (nI_1 i) (by decide) (by cases x2 <;> rfl) (fun ls hl => ?_)
      refine lv_goto (tgt := 11) hx hb dX6_withoutRow_39 (by decide) ?_
      exact ihu (i + 1) H locs ls _ x2 X2 Im2 _ _ (by omega) (lv_sub hl [0, 1, 2, 3, 4] rfl) (by omega) hP hS hR2 hE2 (hCl.tr hC2) ⟨by omega, by omega⟩
