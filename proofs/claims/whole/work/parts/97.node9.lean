theorem va_up_q {C : Nat → Nat} {j b : Nat} : va_up (fun i => some (C i)) j (some b) = fun i => some (qU C j b i) := by
  funext i
  unfold va_up qU
  split <;> rfl
theorem qP.setJ {D : va_G} {N0 : Nat} {cy : Nat → ClassId} {h : qH} {H : Heap} (hP : qP D N0 h H) {a n : Nat} {F : Nat → Int64} {K : List Int64} (e : h a = some (.inl (cy 1, n, .inr (.inl F)))) (hn : n = K.length) (hF : ∀ i, i < n → F i = K.getD i 0) : qP D N0 (qs h a (thJ cy K)) H := by
  subst hn
  exact hP.re (y := (K.length, .inr (.inl (fun j => K.getD j 0)))) e (by rw [vp_cell_l, vp_cell_l]; exact arrV_same (fun j hj => by rw [hF j hj])) rfl
theorem th_setJ {K : List Int64} {j : Nat} {x : Int64} {i : Nat} (hi : i < K.length) : vp_updL (fun j => K.getD j 0) j x i = (K.set j x).getD i 0 := by
  unfold vp_updL
  rw [List.getD_eq_getElem?_getD, List.getElem?_set]
  by_cases c : j = i
  · subst c
    rw [if_pos rfl, if_pos rfl, if_pos hi]
    rfl
  · rw [if_neg (fun z => c z.symm), if_neg c]
    show K.getD i 0 = _
    rw [List.getD_eq_getElem?_getD]
/-- slots that an addition takes, r levels above the bottom -/
def aMs (N : Nat) : Nat → Nat
  | 0 => 3 * N + 110
  | r + 1 => aMs N r + (N + 60)
theorem aMs_ge {N : Nat} : ∀ r : Nat, 3 * N + 110 + 60 * r ≤ aMs N r
  | 0 => Nat.le_refl _
  | r + 1 => by
    have := aMs_ge (N := N) r
    show _ ≤ aMs N r + (N + 60)
    omega
theorem aMs_s {N r : Nat} : aMs N (r + 1) = aMs N r + (N + 60) := rfl
def qAddC (l : Launch) (D : va_G) (cy : Nat → ClassId) (N0 : Nat) (e9 : Nat) (Ok : Nat → Prop) (m9 : Int32) (N r : Nat) : Prop := ∀ (h : qH) (Im : Nat → Prop) (a : Nat) (L : qKV) (X : Nat → Prop) (k x : Int64), qTr cy h Im e9 Ok m9 r a L X → qEd cy h Im X → L.length ≤ N → qNo L → qC l D cy N0 yX3_adding cX3_adding 10 (some (.object RX3)) (8 + 2 * r) (400 + 150 * r) (5 * r + 10) (aMs N r) [.ref a, .int (nI e9), .int m9, .long k, .long x] h (fun v h' => ∃ (a1 : Nat) (X2 Im2 : Nat → Prop), v = some (.ref a1) ∧ qTr cy h' Im2 e9 Ok m9 r a1 (thP L k x) X2 ∧ qEd cy h' Im2 X2 ∧ qCh h Im X h' Im2 X2) (fun _ _ => False)
theorem dX3_addBelow_0 : decode cX3_addBelow 0 = .ok (.iload_n 1, 1) := by decide +kernel
theorem dX3_addBelow_1 : decode cX3_addBelow 1 = .ok (.aload_n 0, 1) := by decide +kernel
theorem dX3_addBelow_2 : decode cX3_addBelow 2 = .ok (.getfield 45, 3) := by decide +kernel
theorem dX3_addBelow_5 : decode cX3_addBelow 5 = .ok (.invokestatic 52, 3) := by decide +kernel
theorem dX3_addBelow_8 : decode cX3_addBelow 8 = .ok (.istore 7, 2) := by decide +kernel
theorem dX3_addBelow_10 : decode cX3_addBelow 10 = .ok (.aload_n 0, 1) := by decide +kernel
theorem dX3_addBelow_11 : decode cX3_addBelow 11 = .ok (.getfield 28, 3) := by decide +kernel
theorem dX3_addBelow_14 : decode cX3_addBelow 14 = .ok (.iload 7, 2) := by decide +kernel
theorem dX3_addBelow_16 : decode cX3_addBelow 16 = .ok (.aaload, 1) := by decide +kernel
theorem dX3_addBelow_17 : decode cX3_addBelow 17 = .ok (.getfield 32, 3) := by decide +kernel
theorem dX3_addBelow_20 : decode cX3_addBelow 20 = .ok (.istore 8, 2) := by decide +kernel
theorem dX3_addBelow_22 : decode cX3_addBelow 22 = .ok (.aload_n 0, 1) := by decide +kernel
theorem dX3_addBelow_23 : decode cX3_addBelow 23 = .ok (.getfield 28, 3) := by decide +kernel
theorem dX3_addBelow_26 : decode cX3_addBelow 26 = .ok (.iload 7, 2) := by decide +kernel
theorem dX3_addBelow_28 : decode cX3_addBelow 28 = .ok (.aload_n 0, 1) := by decide +kernel
theorem dX3_addBelow_29 : decode cX3_addBelow 29 = .ok (.getfield 28, 3) := by decide +kernel
theorem dX3_addBelow_32 : decode cX3_addBelow 32 = .ok (.iload 7, 2) := by decide +kernel
theorem dX3_addBelow_34 : decode cX3_addBelow 34 = .ok (.aaload, 1) := by decide +kernel
theorem dX3_addBelow_35 : decode cX3_addBelow 35 = .ok (.aload_n 0, 1) := by decide +kernel
theorem dX3_addBelow_36 : decode cX3_addBelow 36 = .ok (.getfield 25, 3) := by decide +kernel
theorem dX3_addBelow_39 : decode cX3_addBelow 39 = .ok (.iload_n 2, 1) := by decide +kernel
theorem dX3_addBelow_40 : decode cX3_addBelow 40 = .ok (.lload_n 3, 1) := by decide +kernel
theorem dX3_addBelow_41 : decode cX3_addBelow 41 = .ok (.lload 5, 2) := by decide +kernel
theorem dX3_addBelow_43 : decode cX3_addBelow 43 = .ok (.invokestatic 73, 3) := by decide +kernel
theorem dX3_addBelow_46 : decode cX3_addBelow 46 = .ok (.aastore, 1) := by decide +kernel
theorem dX3_addBelow_47 : decode cX3_addBelow 47 = .ok (.aload_n 0, 1) := by decide +kernel
theorem dX3_addBelow_48 : decode cX3_addBelow 48 = .ok (.dup, 1) := by decide +kernel
theorem dX3_addBelow_49 : decode cX3_addBelow 49 = .ok (.getfield 32, 3) := by decide +kernel
theorem dX3_addBelow_52 : decode cX3_addBelow 52 = .ok (.aload_n 0, 1) := by decide +kernel
theorem dX3_addBelow_53 : decode cX3_addBelow 53 = .ok (.getfield 28, 3) := by decide +kernel
theorem dX3_addBelow_56 : decode cX3_addBelow 56 = .ok (.iload 7, 2) := by decide +kernel
theorem dX3_addBelow_58 : decode cX3_addBelow 58 = .ok (.aaload, 1) := by decide +kernel
theorem dX3_addBelow_59 : decode cX3_addBelow 59 = .ok (.getfield 32, 3) := by decide +kernel
theorem dX3_addBelow_62 : decode cX3_addBelow 62 = .ok (.iload 8, 2) := by decide +kernel
theorem dX3_addBelow_64 : decode cX3_addBelow 64 = .ok (.isub, 1) := by decide +kernel
theorem dX3_addBelow_65 : decode cX3_addBelow 65 = .ok (.iadd, 1) := by decide +kernel
theorem dX3_addBelow_66 : decode cX3_addBelow 66 = .ok (.putfield 32, 3) := by decide +kernel
theorem dX3_addBelow_69 : decode cX3_addBelow 69 = .ok (.return_, 1) := by decide +kernel
set_option maxRecDepth 100000 in
set_option maxHeartbeats 4000000 in
theorem c_X3_addBelow (l : Launch) (D : va_G) (cy : Nat → ClassId) (N0 : Nat) (h : qH) (Im : Nat → Prop) (e9 : Nat) (Ok : Nat → Prop) (m9 : Int32) (r a : Nat) (L : qKV) (X : Nat → Prop) (ka1 va1 na1 : Nat) (C1 : Nat → Nat) (Xs1 : Nat → Nat → Prop) (k x : Int64) (N : Nat) (hW : qOw cy h Im e9 Ok m9 (r + 1) a L (L.length) X ka1 va1 na1 C1 Xs1) (hE : qEd cy h Im X) (hO : ¬ Ok e9) (he9 : e9 < 2 ^ 31) (hr : r + 1 ≤ 7) (hL : L.length < 100000) (hno : qNo L) (hM1 : thM m9 (6 - r) L (thN m9 (6 - r) k) = true) (hN : L.length ≤ N) (ih : qAddC l D cy N0 e9 Ok m9 N r) : qC l D cy N0 yX3_addBelow cX3_addBelow 9 none (9 + 2 * r) (460 + 150 * r) (5 * r + 10) (aMs N r) [.ref a, .int (nI (2 ^ thN m9 (6 - r) k)), .int m9, .long k, .long x] h (fun v h' => v = none ∧ ∃ (X2 Im2 : Nat → Prop), qTr cy h' Im2 e9 Ok m9 (r + 1) a (thP L k x) X2 ∧ qEd cy h' Im2 X2 ∧ qCh h Im X h' Im2 X2) (fun E h' => False) := by
  refine q_ofW (by decide) (by exact Nat.le_of_ble_eq_true rfl) ?_
  intro p e s m below meth c ls C hP hl
  have hx := C.1
  have hb := C.2.1
  have hS : va_S (qA N0) s.heap s.heap [] := va_S.rf
  have hl : lv_has ls 9 [(0, .ref a), (1, .int (nI (2 ^ thN m9 (6 - r) k))), (2, .int m9), (3, .long k), (5, .long x)] := hl
  have ow0 := hW.own hO
  have hW1 := hW.1
  have f1 := hW.1.1
  have fk1 := hW.1.2.1
  have fv1 := hW.1.2.2.1
  have fn1 := hW.1.2.2.2.1
  unfold thNo at f1
  unfold thJ at fk1 fv1
  unfold thA at fn1
  rw [List.length_map] at fk1 fv1
  have hat := trM_at (r := r) thN_lt hM1
  have hlt := (List.getElem?_eq_some_iff.mp hat).1
  have hml := trM_len (m := m9) (r := r + 1) (L := L)
  have hbl := thK_len (m := m9) (d := 6 - r) (v := (thN m9 (6 - r) k)) (L := L)
  have hTc : qTr cy h Im e9 Ok m9 r (C1 (tqC (thM m9 (6 - r) L) (thN m9 (6 - r) k))) (thK m9 (6 - r) (thN m9 (6 - r) k) L) (Xs1 (tqC (thM m9 (6 - r) L) (thN m9 (6 - r) k))) := by obtain ⟨r9, er, t9⟩ := hW.2.2 _ _ hat; cases er; exact t9
  have hxa : ∀ b, Xs1 (tqC (thM m9 (6 - r) L) (thN m9 (6 - r) k)) b → X b ∧ b ≠ a ∧ b ≠ va1 ∧ b ≠ na1 := hW.2.1.1 _ hlt
  have hEc : qEd cy h Im (Xs1 (tqC (thM m9 (6 - r) L) (thN m9 (6 - r) k))) := ⟨fun b z => hE.1 b (hxa b z).1, fun b z => hE.2.1 b (z.imp_right (fun q => (hxa b q).1)), hE.2.2.1, hE.2.2.2⟩
  obtain ⟨owc, kac, vac, nac, Cc, Xsc, hnc, -, -⟩ := hTc.inv
  have fc := hnc.1
  unfold thNo at fc
  have hge := thP_len (L := (thK m9 (6 - r) (thN m9 (6 - r) k) L)) (k := k) (x := x)
  have hge2 := thP_len (L := L) (k := k) (x := x)
  rw [thK_has] at hge
  obtain ⟨z9, ez9⟩ : ∃ z, z = (if xHas L k = true then 0 else 1) := ⟨_, rfl⟩
  rw [← ez9] at hge hge2
  have hz9 : z9 ≤ 1 := by rw [ez9]; split <;> omega
  refine lv_iload_n hx hb dX3_addBelow_0 rfl (lv_at hl 1 rfl) ?_
  refine lv_aload_n hx hb dX3_addBelow_1 rfl (lv_at hl 0 rfl) ?_
  refine q_get C hP f1 rfl inX3 3 (by decide) g364 rfl dX3_addBelow_2 ?_
  refine q_callS (rest := []) C (c_X3_rankOf l D cy N0 h (thM m9 (6 - r) L) (thN m9 (6 - r) k) thN_lt) kX3_rankOf g305 g306 hP hS (by first | decide | omega) hl.1 rfl (by decide) (by first | decide | omega) dX3_addBelow_5 (fun q ce E h' H1 locs1 hE => hE.elim) (fun v hh1 H locs hq hP hS => ?_)
  obtain ⟨rfl, rfl⟩ := hq
  refine lv_istore (lv' := [(7, .int (nI (tqC (thM m9 (6 - r) L) (thN m9 (6 - r) k)))), (0, .ref a), (1, .int (nI (2 ^ thN m9 (6 - r) k))), (2, .int m9), (3, .long k), (5, .long x)]) hx hb dX3_addBelow_8 hl (by decide) rfl (fun ls hl => ?_)
  refine lv_aload_n hx hb dX3_addBelow_10 rfl (lv_at hl 1 rfl) ?_
  refine q_get C hP f1 rfl inX3 7 (by decide) g369 rfl dX3_addBelow_11 ?_
  refine lv_iload hx hb dX3_addBelow_14 (lv_at hl 0 rfl) ?_
  refine q_aaldR C hP fn1 rfl hlt (by omega) rfl dX3_addBelow_16 ?_
  refine q_get C hP fc rfl inX3 4 (by decide) g365 rfl dX3_addBelow_17 ?_
  refine lv_istore (lv' := [(8, .int (nI (thK m9 (6 - r) (thN m9 (6 - r) k) L).length)), (7, .int (nI (tqC (thM m9 (6 - r) L) (thN m9 (6 - r) k)))), (0, .ref a), (1, .int (nI (2 ^ thN m9 (6 - r) k))), (2, .int m9), (3, .long k), (5, .long x)]) hx hb dX3_addBelow_20 hl (by decide) rfl (fun ls hl => ?_)
  refine lv_aload_n hx hb dX3_addBelow_22 rfl (lv_at hl 2 rfl) ?_
  refine q_get C hP f1 rfl inX3 7 (by decide) g369 rfl dX3_addBelow_23 ?_
  refine lv_iload hx hb dX3_addBelow_26 (lv_at hl 1 rfl) ?_
  refine lv_aload_n hx hb dX3_addBelow_28 rfl (lv_at hl 2 rfl) ?_
  refine q_get C hP f1 rfl inX3 7 (by decide) g369 rfl dX3_addBelow_29 ?_
  refine lv_iload hx hb dX3_addBelow_32 (lv_at hl 1 rfl) ?_
  refine q_aaldR C hP fn1 rfl hlt (by omega) rfl dX3_addBelow_34 ?_
  refine lv_aload_n hx hb dX3_addBelow_35 rfl (lv_at hl 2 rfl) ?_
  refine q_get C hP f1 rfl inX3 1 (by decide) g362 rfl dX3_addBelow_36 ?_
  refine lv_iload_n hx hb dX3_addBelow_39 rfl (lv_at hl 4 rfl) ?_
  refine lv_lload_n hx hb dX3_addBelow_40 rfl (lv_at hl 5 rfl) ?_
  refine lv_lload hx hb dX3_addBelow_41 (lv_at hl 6 rfl) ?_
  refine q_callS (rest := [.int (nI (tqC (thM m9 (6 - r) L) (thN m9 (6 - r) k))), .ref na1]) C (ih h Im (C1 (tqC (thM m9 (6 - r) L) (thN m9 (6 - r) k))) (thK m9 (6 - r) (thN m9 (6 - r) k) L) (Xs1 (tqC (thM m9 (6 - r) L) (thN m9 (6 - r) k))) k x hTc hEc (by omega) (qNo_k hno)) kX3_adding g387 g388 hP hS (by first | decide | omega) hl.1 rfl (by simp [q_catrf, q_cati, q_catl, q_cata, q_catn]) (by first | decide | omega) dX3_addBelow_43 (fun q ce E h' H1 locs1 hE => hE.elim) (fun v hh2 H locs hq hP hS => ?_)
  obtain ⟨a2, X1, Im1, rfl, hT1, hE1, hch1⟩ := hq
  replace f1 := hch1.1 _ _ f1 (fun q => (hxa _ q).2.1 rfl)
  replace fn1 := hch1.1 _ _ fn1 (fun q => (hxa _ q).2.2.2 rfl)
  obtain ⟨ow2, ka2, va2, na2, C2, Xs2, hn2, -, -⟩ := hT1.inv
  have fa2 := hn2.1
  unfold thNo at fa2
  have n_a_a2 : a2 ≠ a := fun z => by
    have ha9 : h a ≠ none := by rw [hW1.1]; exact fun z => by cases z
    rcases hT1.root.1 with q | q
    · rcases hch1.2.2.1 _ q with q | q
      · exact hE.1 a ow0.1 (z ▸ q)
      · exact ha9 (z ▸ q)
    · rcases hch1.2.2.2.1 _ q with q | q
      · exact (hxa _ q).2.1 z
      · exact ha9 (z ▸ q)
  have kp9 : ∀ b o, hh2 b = some o → b ≠ a → b ≠ na1 → hh2 b = some o := fun b o hb _ _ => hb
  have kd9 : ∀ b o, hh2 b = some o → ∃ o', hh2 b = some o' := fun b o hb => ⟨o, hb⟩
  refine q_aastN (rc := (RX3, TX3, 8)) C rfl rfl hP hS fn1 fa2 hlt (by omega) dX3_addBelow_46 (fun H locs hP hS => ?_)
  rw [va_up_q] at hP
  obtain ⟨hv1, ehv1⟩ : ∃ z : qH, z = qs hh2 na1 (.inl (cy 4, (trM m9 (r + 1) L).length, .inr (.inr (.inr (.inr (fun i => some (qU C1 (tqC (thM m9 (6 - r) L) (thN m9 (6 - r) k)) a2 i))))))) := ⟨_, rfl⟩
  rw [← ehv1] at hP
  have khv1 : ∀ b o, b ≠ na1 → hh2 b = some o → hv1 b = some o := by rw [ehv1]; exact fun b o nb hb => (qs_ne nb).trans hb
  replace f1 := khv1 _ _ (fun q => by subst q; have := f1.symm.trans fn1; first | cases this | simp at this) f1
  replace fa2 := khv1 _ _ (fun q => by subst q; have := fa2.symm.trans fn1; first | cases this | simp at this) fa2
  replace fn1 : hv1 na1 = some (.inl (cy 4, (trM m9 (r + 1) L).length, .inr (.inr (.inr (.inr (fun i => some (qU C1 (tqC (thM m9 (6 - r) L) (thN m9 (6 - r) k)) a2 i))))))) := by rw [ehv1]; exact qs_self
  clear ehv1
  replace kp9 : ∀ b o, hh2 b = some o → b ≠ a → b ≠ na1 → hv1 b = some o := fun b o hb n0_ n1_ => khv1 b o n1_ (kp9 b o hb n0_ n1_)
  replace kd9 : ∀ b o, hh2 b = some o → ∃ o', hv1 b = some o' := fun b o hb => if z9 : b = na1 then ⟨_, (congrArg hv1 z9).trans fn1⟩ else (kd9 b o hb).elim (fun o9 h9 => ⟨o9, khv1 b o9 z9 h9⟩)
  refine lv_aload_n hx hb dX3_addBelow_47 rfl (lv_at hl 2 rfl) ?_
  refine lv_dup hx hb dX3_addBelow_48 rfl ?_
  refine q_get C hP f1 rfl inX3 4 (by decide) g365 rfl dX3_addBelow_49 ?_
  refine lv_aload_n hx hb dX3_addBelow_52 rfl (lv_at hl 2 rfl) ?_
  refine q_get C hP f1 rfl inX3 7 (by decide) g369 rfl dX3_addBelow_53 ?_
  refine lv_iload hx hb dX3_addBelow_56 (lv_at hl 1 rfl) ?_
  refine q_aaldR C hP fn1 rfl hlt (by omega) rfl dX3_addBelow_58 ?_
  rw [qU_at]
  refine q_get C hP fa2 rfl inX3 4 (by decide) g365 rfl dX3_addBelow_59 ?_
  refine lv_iload hx hb dX3_addBelow_62 (lv_at hl 0 rfl) ?_
  refine q_isubN hx hb dX3_addBelow_64 (by omega) ?_
  refine q_iaddN hx hb dX3_addBelow_65 ?_
  refine q_put C hP hS f1 rfl inX3 tyX3 tyX3_ok nmX3 4 (by decide) g365 rfl rfl rfl (Nat.le_of_ble_eq_true rfl) dX3_addBelow_66 (fun H locs hP hS => ?_)
  replace hP : qP D N0 (qs hv1 a (.inr (3, [.int (nI (7 - (r + 1))), .int (nI e9), .int (nI (trKb m9 (r + 1) L)), .int (nI (trNb m9 (r + 1) L)), .int (nI ((L.length) + (((thP (thK m9 (6 - r) (thN m9 (6 - r) k) L) k x).length) - ((thK m9 (6 - r) (thN m9 (6 - r) k) L).length)))), .ref ka1, .ref va1, .ref na1]))) H := hP
  obtain ⟨hv2, ehv2⟩ : ∃ z : qH, z = qs hv1 a (.inr (3, [.int (nI (7 - (r + 1))), .int (nI e9), .int (nI (trKb m9 (r + 1) L)), .int (nI (trNb m9 (r + 1) L)), .int (nI ((L.length) + (((thP (thK m9 (6 - r) (thN m9 (6 - r) k) L) k x).length) - ((thK m9 (6 - r) (thN m9 (6 - r) k) L).length)))), .ref ka1, .ref va1, .ref na1])) := ⟨_, rfl⟩
  rw [← ehv2] at hP
  have khv2 : ∀ b o, b ≠ a → hv1 b = some o → hv2 b = some o := by rw [ehv2]; exact fun b o nb hb => (qs_ne nb).trans hb
  replace fn1 := khv2 _ _ (fun q => by subst q; have := fn1.symm.trans f1; first | cases this | simp at this) fn1
  replace fa2 := khv2 _ _ n_a_a2 fa2
  replace f1 : hv2 a = some (.inr (3, [.int (nI (7 - (r + 1))), .int (nI e9), .int (nI (trKb m9 (r + 1) L)), .int (nI (trNb m9 (r + 1) L)), .int (nI ((L.length) + (((thP (thK m9 (6 - r) (thN m9 (6 - r) k) L) k x).length) - ((thK m9 (6 - r) (thN m9 (6 - r) k) L).length)))), .ref ka1, .ref va1, .ref na1])) := by rw [ehv2]; exact qs_self
  clear ehv2
  replace kp9 : ∀ b o, hh2 b = some o → b ≠ a → b ≠ na1 → hv2 b = some o := fun b o hb n0_ n1_ => khv2 b o n0_ (kp9 b o hb n0_ n1_)
  replace kd9 : ∀ b o, hh2 b = some o → ∃ o', hv2 b = some o' := fun b o hb => if z9 : b = a then ⟨_, (congrArg hv2 z9).trans f1⟩ else (kd9 b o hb).elim (fun o9 h9 => ⟨o9, khv2 b o9 z9 h9⟩)
  have hu9 : ∀ u, u ≠ (thN m9 (6 - r) k) → thK m9 (6 - r) u (thP L k x) = thK m9 (6 - r) u L := fun u hu => thK_put2 hu
  have hM2 : thM m9 (6 - r) (thP L k x) (thN m9 (6 - r) k) = true := by unfold thM at hM1 ⊢; rw [thK_put]; have := of_decide_eq_true hM1; exact decide_eq_true (by omega)
  obtain ⟨X2, Im2, hr1, hr2, hr3⟩ := own_below hW hE hO thN_lt hu9 hM1 hM2 hch1 hE1 (by rw [thK_put]; exact hT1) kp9 kd9 (by unfold thNo; rw [show (thP L k x).length = L.length + ((thP (thK m9 (6 - r) (thN m9 (6 - r) k) L) k x).length - (thK m9 (6 - r) (thN m9 (6 - r) k) L).length) by omega]; exact f1) fn1
  exact q_vret C hP hS ⟨rfl, X2, Im2, hr1, hr2, hr3⟩ (by omega) dX3_addBelow_69
