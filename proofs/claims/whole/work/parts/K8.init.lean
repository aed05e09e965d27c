theorem qP.ref {D : va_G} {N0 : Nat} {h : qH} {H : Heap} (hP : qP D N0 h H) {a n : Nat} {c : ClassId} {f f' : Nat → Option Nat} (e : h a = some (.inl (c, n, .inr (.inr (.inr (.inr f)))))) (hf : ∀ i, i < n → f i = f' i) : qP D N0 (qs h a (.inl (c, n, .inr (.inr (.inr (.inr f')))))) H := fun b o hb => by
  by_cases z : b = a
  · subst z
    rw [qs_self] at hb
    cases hb
    rcases hP b _ e with ⟨h1, h2⟩ | ⟨z1, ⟨c', f9, q⟩, z2⟩
    · refine Or.inl ⟨h1, ?_⟩
      show H[b]? = some (vp_cell c (n, .inr (.inr (.inr (.inr f')))))
      have h2 : H[b]? = some (vp_cell c (n, .inr (.inr (.inr (.inr f))))) := h2
      rw [h2]
      congr 1
      show arrV c n (fun j => va_rf (f j)) = arrV c n (fun j => va_rf (f' j))
      unfold arrV
      congr 2
      funext j
      show va_rf (f j.val) = va_rf (f' j.val)
      rw [hf j.val j.isLt]
    · cases q
      exact Or.inr ⟨z1, ⟨_, _, rfl⟩, z2⟩
  · rw [qs_ne z] at hb
    exact hP b o hb
/-- new rows of the reference -/
def RI (cy : Nat → ClassId) (h0 h : qH) (J : Nat → Prop) (ra rk rv : Nat → Nat) : Prop := ∀ i, J i → qRw cy h (ra i) (rk i) (rv i) (-1) 0 0 0 (-1) (fun _ => 0) (fun _ => 0) ∧ (h0 (ra i) = none ∧ h0 (rk i) = none ∧ h0 (rv i) = none) ∧ ∀ k, J k → (ra i = ra k → i = k) ∧ (rk i = rk k → i = k) ∧ (rv i = rv k → i = k) ∧ rk i ≠ rv k
theorem RI.keep {cy : Nat → ClassId} {h0 h h' : qH} {J : Nat → Prop} {ra rk rv : Nat → Nat} (r : RI cy h0 h J ra rk rv) (k : ∀ b o, h b = some o → ((∃ fs, o = .inr (7, fs)) ∨ ∃ f, o = qJr cy f) → h' b = some o) : RI cy h0 h' J ra rk rv := fun i hi => by
  obtain ⟨⟨a1, a2, a3, a4, a5, a6⟩, b, c⟩ := r i hi
  exact ⟨⟨a1, a2, a3, k _ _ a4 (Or.inl ⟨_, rfl⟩), k _ _ a5 (Or.inr ⟨_, rfl⟩), k _ _ a6 (Or.inr ⟨_, rfl⟩)⟩, b, c⟩
theorem RI.add {cy : Nat → ClassId} {h0 h h' : qH} {J : Nat → Prop} {ra rk rv : Nat → Nat} (q : RI cy h0 h J ra rk rv) {i0 r k u : Nat} (hn : ¬ J i0) (kp : ∀ b o, h b = some o → ((∃ fs, o = .inr (7, fs)) ∨ ∃ f, o = qJr cy f) → h' b = some o) (w : qRw cy h' r k u (-1) 0 0 0 (-1) (fun _ => 0) (fun _ => 0)) (f : h0 r = none ∧ h0 k = none ∧ h0 u = none) (e : h r = none ∧ h k = none ∧ h u = none) : RI cy h0 h' (fun i => J i ∨ i = i0) (qU ra i0 r) (qU rk i0 k) (qU rv i0 u) := by
  have q2 := q.keep kp
  have old : ∀ i, J i → ra i ≠ r ∧ rk i ≠ k ∧ rv i ≠ u ∧ rk i ≠ u ∧ rv i ≠ k := fun i hi => by
    obtain ⟨⟨a1, a2, a3, a4, a5, a6⟩, -, -⟩ := q i hi
    exact ⟨fun z => (by rw [z, e.1] at a4; cases a4), fun z => (by rw [z, e.2.1] at a5; cases a5), fun z => (by rw [z, e.2.2] at a6; cases a6), fun z => (by rw [z, e.2.2] at a5; cases a5), fun z => (by rw [z, e.2.1] at a6; cases a6)⟩
  have ne : ∀ i, J i → i ≠ i0 := fun i hi z => hn (z ▸ hi)
  intro i hi
  rcases hi with hi | rfl
  · rw [qU_ne (ne i hi), qU_ne (ne i hi), qU_ne (ne i hi)]
    obtain ⟨b1, b2, b3⟩ := q2 i hi
    refine ⟨b1, b2, fun k2 hk => ?_⟩
    rcases hk with hk | rfl
    · rw [qU_ne (ne k2 hk), qU_ne (ne k2 hk), qU_ne (ne k2 hk)]; exact b3 k2 hk
    · rw [qU_at, qU_at, qU_at]
      obtain ⟨o1, o2, o3, o4, o5⟩ := old i hi
      exact ⟨fun z => absurd z o1, fun z => absurd z o2, fun z => absurd z o3, o4⟩
  · rw [qU_at, qU_at, qU_at]
    refine ⟨w, f, fun k2 hk => ?_⟩
    rcases hk with hk | rfl
    · rw [qU_ne (ne k2 hk), qU_ne (ne k2 hk), qU_ne (ne k2 hk)]
      obtain ⟨o1, o2, o3, o4, o5⟩ := old k2 hk
      exact ⟨fun z => absurd z.symm o1, fun z => absurd z.symm o2, fun z => absurd z.symm o3, fun z => o5 z.symm⟩
    · rw [qU_at, qU_at, qU_at]
      exact ⟨fun _ => rfl, fun _ => rfl, fun _ => rfl, w.1⟩
theorem RI.sub {cy : Nat → ClassId} {h0 h : qH} {J J' : Nat → Prop} {ra rk rv : Nat → Nat} (q : RI cy h0 h J ra rk rv) (s : ∀ i, J' i → J i) : RI cy h0 h J' ra rk rv := fun i hi => by
  obtain ⟨a, b, c⟩ := q i (s i hi)
  exact ⟨a, b, fun k hk => c k (s k hk)⟩
theorem nfresh {h0 h : qH} (k : qle h0 h) {a : Nat} (e : h a = none) : h0 a = none := by
  cases z : h0 a with
  | none => rfl
  | some o => exact absurd ((k _ _ z).symm.trans e) (by simp)
def qGrn (n : Int32) : Int32 := (n - n / 3 * 3 + 3) - (n - n / 3 * 3 + 3) / 3 * 3

set_option maxRecDepth 100000 in
set_option maxHeartbeats 4000000 in
theorem w_init (l : Launch) (D : va_G) (cy : Nat → ClassId) (N0 : Nat) (h : qH) (y : Nat) (p0 : Int32) (hY : h y = some (.inr (8, [.null, .null, .null, .int 0, .int 0, .int 0, .int 0, .null, .null, .int 0, .int 0, .null, .null, .int 0, .null, .null, .null, .null, .null, .null, .int 0, .null, .int 0]))) : qC l D cy N0 yX8_init cX8_init 3 none 2 40 110 85000 [.ref y, .int p0] h (fun v h' => v = none ∧ ∃ (ms mb od pt fi re rc rs so ot cn la ro : Nat) (gr : Int32) (f g fp fr : Nat → Option Nat) (ra rk rv pa : Nat → Nat), gr = qGrn p0 ∧ h' y = some (qYo (ms, mb, ra 28, od, pt, ro, gr, 0, 0, 0, 0, 0, 0) fi re rc rs so ot cn la (nI 1) (nI 1)) ∧ (h' ms = some (.inl (cy 5, 24, .inr (.inr (.inr (.inr f))))) ∧ ∀ i, i < 24 → f i = some (ra i)) ∧ (h' mb = some (.inl (cy 5, 4, .inr (.inr (.inr (.inr g))))) ∧ ∀ i, i < 4 → g i = some (ra (24 + i))) ∧ RI cy (qdel h y) h' (fun i => i < 29) ra rk rv ∧ (h' pt = some (.inl (cy 6, 8, .inr (.inr (.inr (.inr fp))))) ∧ ∀ d, d < 8 → fp d = some (pa d)) ∧ ((∀ d, d < 8 → h' (pa d) = some (.inl (cy 0, 1000, .inl (fun _ => 0))) ∧ pa d ≠ od ∧ qdel h y (pa d) = none) ∧ ∀ i j, i < 8 → j < 8 → pa i = pa j → i = j) ∧ h' od = some (.inl (cy 0, 1000, .inl (fun _ => 0))) ∧ h' ro = some (.inl (cy 7, 4100, .inr (.inr (.inr (.inr fr))))) ∧ (h' fi = some (.inl (cy 1, 1024, .inr (.inl (fun _ => 0)))) ∧ h' re = some (.inl (cy 0, 1024, .inl (fun _ => 0))) ∧ h' rc = some (.inl (cy 0, 1024, .inl (fun _ => 0))) ∧ h' rs = some (.inl (cy 0, 1024, .inl (fun _ => 0))) ∧ h' so = some (.inl (cy 0, 1024, .inl (fun _ => 0))) ∧ h' ot = some (.inl (cy 0, 1024, .inl (fun _ => 0))) ∧ h' cn = some (.inl (cy 1, 1024, .inr (.inl (fun _ => 0)))) ∧ h' la = some (.inl (cy 1, 1024, .inr (.inl (fun _ => 0))))) ∧ (rc ≠ rs ∧ rc ≠ so ∧ rc ≠ ot ∧ rs ≠ so ∧ rs ≠ ot ∧ so ≠ ot ∧ cn ≠ la) ∧ (re ≠ rc ∧ re ≠ rs ∧ re ≠ so ∧ re ≠ ot ∧ fi ≠ cn ∧ fi ≠ la) ∧ (qdel h y ms = none ∧ qdel h y mb = none ∧ qdel h y od = none ∧ qdel h y pt = none ∧ qdel h y ro = none ∧ qdel h y fi = none ∧ qdel h y re = none ∧ qdel h y rc = none ∧ qdel h y rs = none ∧ qdel h y so = none ∧ qdel h y ot = none ∧ qdel h y cn = none ∧ qdel h y la = none) ∧ qle (qdel h y) h') (fun E h' => False) := by
  refine q_ofW (by decide) (by exact Nat.le_of_ble_eq_true rfl) ?_
  intro p e s m below meth c ls C hP hl
  have hx := C.1
  have hb := C.2.1
  have hS : va_S (qA N0) s.heap s.heap [] := va_S.rf
  have hl : lv_has ls 3 [(0, .ref y), (1, .int p0)] := hl
  have hle : qle (qdel h y) h := qdel_le
  have oy : qdel h y y = none := qdel_self
  refine lv_aload_n hx hb dX8_init_0 rfl (lv_at hl 0 rfl) ?_
  refine q_obj C g1129 g28 g29 hl.1 dX8_init_1 (by simp [q_catrf, q_cati, q_catl, q_cata, q_catn]) ?_
  refine lv_aload_n hx hb dX8_init_4 rfl (lv_at hl 0 rfl) ?_
  refine lv_bipush (v := 24) hx hb dX8_init_5 (by decide) ?_
  refine q_newq (t0 := 5) (N := 24) C g1130 (by decide) rfl hP hS (by decide) (by decide) (by decide) (by first | decide | omega) (by first | decide | omega) dX8_init_7 (fun q7 H eq7 hP hS => ?_)
  obtain ⟨hv1, ehv1⟩ : ∃ z : qH, z = qs h q7 (.inl (cy 5, 24, .inr (.inr (.inr (.inr (fun _ => none)))))) := ⟨_, rfl⟩
  rw [← ehv1] at hP
  have khv1 : ∀ b o, b ≠ q7 → h b = some o → hv1 b = some o := by rw [ehv1]; exact fun b o nb hb => (qs_ne nb).trans hb
  have n_q7_y : y ≠ q7 := qne_of eq7 hY
  replace hY := khv1 _ _ n_q7_y hY
  have oq7 := qle_none hle eq7
  replace hle : qle (qdel h y) hv1 := fun b o hb => khv1 b o (qne_of oq7 hb) (hle b o hb)
  have fq7 : hv1 q7 = some (.inl (cy 5, 24, .inr (.inr (.inr (.inr (fun _ => none)))))) := by rw [ehv1]; exact qs_self
  clear ehv1
  refine q_putF C hP hS hY rfl inX8 tyX8 tyX8_ok nmX8 0 (by decide) g1167 rfl rfl rfl rfl rfl (Nat.le_of_ble_eq_true rfl) dX8_init_10 (fun H locs hP hS => ?_)
  replace hP : qP D N0 (qs hv1 y (.inr (8, [.ref q7, .null, .null, .int 0, .int 0, .int 0, .int 0, .null, .null, .int 0, .int 0, .null, .null, .int 0, .null, .null, .null, .null, .null, .null, .int 0, .null, .int 0]))) H := hP
  obtain ⟨hv2, ehv2⟩ : ∃ z : qH, z = qs hv1 y (.inr (8, [.ref q7, .null, .null, .int 0, .int 0, .int 0, .int 0, .null, .null, .int 0, .int 0, .null, .null, .int 0, .null, .null, .null, .null, .null, .null, .int 0, .null, .int 0])) := ⟨_, rfl⟩
  rw [← ehv2] at hP
  have khv2 : ∀ b o, b ≠ y → hv1 b = some o → hv2 b = some o := by rw [ehv2]; exact fun b o nb hb => (qs_ne nb).trans hb
  replace fq7 := khv2 _ _ n_q7_y.symm fq7
  replace hle : qle (qdel h y) hv2 := fun b o hb => khv2 b o (qne_of oy hb) (hle b o hb)
  replace hY : hv2 y = some (.inr (8, [.ref q7, .null, .null, .int 0, .int 0, .int 0, .int 0, .null, .null, .int 0, .int 0, .null, .null, .int 0, .null, .null, .null, .null, .null, .null, .int 0, .null, .int 0])) := by rw [ehv2]; exact qs_self
  clear ehv2
  refine lv_aload_n hx hb dX8_init_13 rfl (lv_at hl 0 rfl) ?_
  refine lv_iconst (v := 4) hx hb dX8_init_14 (by decide) ?_
  refine q_newq (t0 := 5) (N := 4) C g1130 (by decide) rfl hP hS (by decide) (by decide) (by decide) (by first | decide | omega) (by first | decide | omega) dX8_init_15 (fun q15 H eq15 hP hS => ?_)
  obtain ⟨hv3, ehv3⟩ : ∃ z : qH, z = qs hv2 q15 (.inl (cy 5, 4, .inr (.inr (.inr (.inr (fun _ => none)))))) := ⟨_, rfl⟩
  rw [← ehv3] at hP
  have khv3 : ∀ b o, b ≠ q15 → hv2 b = some o → hv3 b = some o := by rw [ehv3]; exact fun b o nb hb => (qs_ne nb).trans hb
  have n_q15_y : y ≠ q15 := qne_of eq15 hY
  replace hY := khv3 _ _ n_q15_y hY
  have n_q15_q7 : q7 ≠ q15 := qne_of eq15 fq7
  replace fq7 := khv3 _ _ n_q15_q7 fq7
  have oq15 := qle_none hle eq15
  replace hle : qle (qdel h y) hv3 := fun b o hb => khv3 b o (qne_of oq15 hb) (hle b o hb)
  have fq15 : hv3 q15 = some (.inl (cy 5, 4, .inr (.inr (.inr (.inr (fun _ => none)))))) := by rw [ehv3]; exact qs_self
  clear ehv3
  refine q_putF C hP hS hY rfl inX8 tyX8 tyX8_ok nmX8 1 (by decide) g1168 rfl rfl rfl rfl rfl (Nat.le_of_ble_eq_true rfl) dX8_init_18 (fun H locs hP hS => ?_)
  replace hP : qP D N0 (qs hv3 y (.inr (8, [.ref q7, .ref q15, .null, .int 0, .int 0, .int 0, .int 0, .null, .null, .int 0, .int 0, .null, .null, .int 0, .null, .null, .null, .null, .null, .null, .int 0, .null, .int 0]))) H := hP
  obtain ⟨hv4, ehv4⟩ : ∃ z : qH, z = qs hv3 y (.inr (8, [.ref q7, .ref q15, .null, .int 0, .int 0, .int 0, .int 0, .null, .null, .int 0, .int 0, .null, .null, .int 0, .null, .null, .null, .null, .null, .null, .int 0, .null, .int 0])) := ⟨_, rfl⟩
  rw [← ehv4] at hP
  have khv4 : ∀ b o, b ≠ y → hv3 b = some o → hv4 b = some o := by rw [ehv4]; exact fun b o nb hb => (qs_ne nb).trans hb
  replace fq7 := khv4 _ _ n_q7_y.symm fq7
  replace fq15 := khv4 _ _ n_q15_y.symm fq15
  replace hle : qle (qdel h y) hv4 := fun b o hb => khv4 b o (qne_of oy hb) (hle b o hb)
  replace hY : hv4 y = some (.inr (8, [.ref q7, .ref q15, .null, .int 0, .int 0, .int 0, .int 0, .null, .null, .int 0, .int 0, .null, .null, .int 0, .null, .null, .null, .null, .null, .null, .int 0, .null, .int 0])) := by rw [ehv4]; exact qs_self
  clear ehv4
  refine lv_aload_n hx hb dX8_init_21 rfl (lv_at hl 0 rfl) ?_
  refine q_new (ci := 7) (fs := [.null, .null, .int 0, .int 0, .int 0, .int 0, .int 0]) C hP hS rfl inX7 tyX7 tyX7_ok g1130 g1132 g5 (fun j hj => by rcases (show j = 0 ∨ j = 1 ∨ j = 2 ∨ j = 3 ∨ j = 4 ∨ j = 5 ∨ j = 6 by omega) with rfl | rfl | rfl | rfl | rfl | rfl | rfl <;> rfl) (by first | decide | omega) (by first | decide | omega) dX8_init_22 (fun q22 H eq22 hP hS => ?_)
  obtain ⟨hv5, ehv5⟩ : ∃ z : qH, z = qs hv4 q22 (.inr (7, [.null, .null, .int 0, .int 0, .int 0, .int 0, .int 0])) := ⟨_, rfl⟩
  rw [← ehv5] at hP
  have khv5 : ∀ b o, b ≠ q22 → hv4 b = some o → hv5 b = some o := by rw [ehv5]; exact fun b o nb hb => (qs_ne nb).trans hb
  have n_q22_y : y ≠ q22 := qne_of eq22 hY
  replace hY := khv5 _ _ n_q22_y hY
  have n_q22_q7 : q7 ≠ q22 := qne_of eq22 fq7
  replace fq7 := khv5 _ _ n_q22_q7 fq7
  have n_q22_q15 : q15 ≠ q22 := qne_of eq22 fq15
  replace fq15 := khv5 _ _ n_q22_q15 fq15
  have oq22 := qle_none hle eq22
  replace hle : qle (qdel h y) hv5 := fun b o hb => khv5 b o (qne_of oq22 hb) (hle b o hb)
  have fq22 : hv5 q22 = some (.inr (7, [.null, .null, .int 0, .int 0, .int 0, .int 0, .int 0])) := by rw [ehv5]; exact qs_self
  clear ehv5
  refine lv_dup hx hb dX8_init_25 rfl ?_
  refine q_callIN (host := RX8) (rest := [.ref q22, .ref y]) C (c_X7_init l D cy N0 (hv5) q22 fq22) kX7_init (by decide +kernel) g1134 rfl hP hS (by first | decide | omega) hl.1 rfl (by simp [q_catrf, q_cati, q_catl, q_cata, q_catn]) (by first | decide | omega) dX8_init_26 (fun v hh1 H locs hq hP hS => ?_)
  obtain ⟨rfl, kq22, uq22, nkuq22, nkaq22, nuaq22, okq22, ouq22, zq22, zkq22, zuq22, hlhh1⟩ := hq
  replace hY := hlhh1 _ _ (qdel_at hY n_q22_y)
  replace fq7 := hlhh1 _ _ (qdel_at fq7 n_q22_q7)
  replace fq15 := hlhh1 _ _ (qdel_at fq15 n_q22_q15)
  replace fq22 := zq22
  have fr22 : qdel h y q22 = none ∧ qdel h y kq22 = none ∧ qdel h y uq22 = none := ⟨oq22, nfresh hle okq22, nfresh hle ouq22⟩
  replace hle := qle_del hle oq22 hlhh1
  refine q_putF C hP hS hY rfl inX8 tyX8 tyX8_ok nmX8 2 (by decide) g1169 rfl rfl rfl rfl rfl (Nat.le_of_ble_eq_true rfl) dX8_init_29 (fun H locs hP hS => ?_)
  replace hP : qP D N0 (qs hh1 y (.inr (8, [.ref q7, .ref q15, .ref q22, .int 0, .int 0, .int 0, .int 0, .null, .null, .int 0, .int 0, .null, .null, .int 0, .null, .null, .null, .null, .null, .null, .int 0, .null, .int 0]))) H := hP
  obtain ⟨hv6, ehv6⟩ : ∃ z : qH, z = qs hh1 y (.inr (8, [.ref q7, .ref q15, .ref q22, .int 0, .int 0, .int 0, .int 0, .null, .null, .int 0, .int 0, .null, .null, .int 0, .null, .null, .null, .null, .null, .null, .int 0, .null, .int 0])) := ⟨_, rfl⟩
  rw [← ehv6] at hP
  have khv6 : ∀ b o, b ≠ y → hh1 b = some o → hv6 b = some o := by rw [ehv6]; exact fun b o nb hb => (qs_ne nb).trans hb
  replace fq7 := khv6 _ _ n_q7_y.symm fq7
  replace fq15 := khv6 _ _ n_q15_y.symm fq15
  replace fq22 := khv6 _ _ n_q22_y.symm fq22
  replace zkq22 := khv6 _ _ (fun q => by subst q; have := zkq22.symm.trans hY; first | cases this | simp at this) zkq22
  replace zuq22 := khv6 _ _ (fun q => by subst q; have := zuq22.symm.trans hY; first | cases this | simp at this) zuq22
  replace hle : qle (qdel h y) hv6 := fun b o hb => khv6 b o (qne_of oy hb) (hle b o hb)
  replace hY : hv6 y = some (.inr (8, [.ref q7, .ref q15, .ref q22, .int 0, .int 0, .int 0, .int 0, .null, .null, .int 0, .int 0, .null, .null, .int 0, .null, .null, .null, .null, .null, .null, .int 0, .null, .int 0])) := by rw [ehv6]; exact qs_self
  clear ehv6
  refine lv_aload_n hx hb dX8_init_32 rfl (lv_at hl 0 rfl) ?_
  refine lv_sipush (v := 1000) hx hb dX8_init_33 (by decide) ?_
  refine q_newaI (N := 1000) C g1237 hP hS (by decide) (by decide) (by decide) (by first | decide | omega) (by first | decide | omega) dX8_init_36 (fun q36 H eq36 hP hS => ?_)
  obtain ⟨hv7, ehv7⟩ : ∃ z : qH, z = qs hv6 q36 (.inl (cy 0, 1000, .inl (fun _ => 0))) := ⟨_, rfl⟩
  rw [← ehv7] at hP
  have khv7 : ∀ b o, b ≠ q36 → hv6 b = some o → hv7 b = some o := by rw [ehv7]; exact fun b o nb hb => (qs_ne nb).trans hb
  have n_q36_y : y ≠ q36 := qne_of eq36 hY
  replace hY := khv7 _ _ n_q36_y hY
  have n_q36_q7 : q7 ≠ q36 := qne_of eq36 fq7
  replace fq7 := khv7 _ _ n_q36_q7 fq7
  have n_q36_q15 : q15 ≠ q36 := qne_of eq36 fq15
  replace fq15 := khv7 _ _ n_q36_q15 fq15
  have n_q36_q22 : q22 ≠ q36 := qne_of eq36 fq22
  replace fq22 := khv7 _ _ n_q36_q22 fq22
  have n_q36_kq22 : kq22 ≠ q36 := qne_of eq36 zkq22
  replace zkq22 := khv7 _ _ n_q36_kq22 zkq22
  have n_q36_uq22 : uq22 ≠ q36 := qne_of eq36 zuq22
  replace zuq22 := khv7 _ _ n_q36_uq22 zuq22
  have oq36 := qle_none hle eq36
  replace hle : qle (qdel h y) hv7 := fun b o hb => khv7 b o (qne_of oq36 hb) (hle b o hb)
  have fq36 : hv7 q36 = some (.inl (cy 0, 1000, .inl (fun _ => 0))) := by rw [ehv7]; exact qs_self
  clear ehv7
  refine q_putF C hP hS hY rfl inX8 tyX8 tyX8_ok nmX8 7 (by decide) g1174 rfl rfl rfl rfl rfl (Nat.le_of_ble_eq_true rfl) dX8_init_38 (fun H locs hP hS => ?_)
  replace hP : qP D N0 (qs hv7 y (.inr (8, [.ref q7, .ref q15, .ref q22, .int 0, .int 0, .int 0, .int 0, .ref q36, .null, .int 0, .int 0, .null, .null, .int 0, .null, .null, .null, .null, .null, .null, .int 0, .null, .int 0]))) H := hP
  obtain ⟨hv8, ehv8⟩ : ∃ z : qH, z = qs hv7 y (.inr (8, [.ref q7, .ref q15, .ref q22, .int 0, .int 0, .int 0, .int 0, .ref q36, .null, .int 0, .int 0, .null, .null, .int 0, .null, .null, .null, .null, .null, .null, .int 0, .null, .int 0])) := ⟨_, rfl⟩
  rw [← ehv8] at hP
  have khv8 : ∀ b o, b ≠ y → hv7 b = some o → hv8 b = some o := by rw [ehv8]; exact fun b o nb hb => (qs_ne nb).trans hb
  replace fq7 := khv8 _ _ n_q7_y.symm fq7
  replace fq15 := khv8 _ _ n_q15_y.symm fq15
  replace fq22 := khv8 _ _ n_q22_y.symm fq22
  replace zkq22 := khv8 _ _ (fun q => by subst q; have := zkq22.symm.trans hY; first | cases this | simp at this) zkq22
  replace zuq22 := khv8 _ _ (fun q => by subst q; have := zuq22.symm.trans hY; first | cases this | simp at this) zuq22
  replace fq36 := khv8 _ _ n_q36_y.symm fq36
  replace hle : qle (qdel h y) hv8 := fun b o hb => khv8 b o (qne_of oy hb) (hle b o hb)
  replace hY : hv8 y = some (.inr (8, [.ref q7, .ref q15, .ref q22, .int 0, .int 0, .int 0, .int 0, .ref q36, .null, .int 0, .int 0, .null, .null, .int 0, .null, .null, .null, .null, .null, .null, .int 0, .null, .int 0])) := by rw [ehv8]; exact qs_self
  clear ehv8
  refine lv_aload_n hx hb dX8_init_41 rfl (lv_at hl 0 rfl) ?_
  refine lv_bipush (v := 8) hx hb dX8_init_42 (by decide) ?_
  refine lv_sipush (v := 1000) hx hb dX8_init_44 (by decide) ?_
  refine q_mna (N := 8) (K := 1000) C g1163 g1237 hP hS (by decide) (by decide) (by decide) (by decide) (by decide) (by decide) (by first | decide | omega) (by first | decide | omega) dX8_init_47 (fun q47 H eq47 hP hS => ?_)
  have n_q47_y : y ≠ q47 := fun z => by have := eq47 y (Nat.le_of_eq z.symm); rw [hY] at this; cases this
  have n_q47_q7 : q7 ≠ q47 := fun z => by have := eq47 q7 (Nat.le_of_eq z.symm); rw [fq7] at this; cases this
  have n_q47_q15 : q15 ≠ q47 := fun z => by have := eq47 q15 (Nat.le_of_eq z.symm); rw [fq15] at this; cases this
  have n_q47_q22 : q22 ≠ q47 := fun z => by have := eq47 q22 (Nat.le_of_eq z.symm); rw [fq22] at this; cases this
  have n_q47_kq22 : kq22 ≠ q47 := fun z => by have := eq47 kq22 (Nat.le_of_eq z.symm); rw [zkq22] at this; cases this
  have n_q47_uq22 : uq22 ≠ q47 := fun z => by have := eq47 uq22 (Nat.le_of_eq z.symm); rw [zuq22] at this; cases this
  have n_q47_q36 : q36 ≠ q47 := fun z => by have := eq47 q36 (Nat.le_of_eq z.symm); rw [fq36] at this; cases this
  have hO : ∀ d, d < 8 → qdel h y (q47 + 1 + d) = none := fun d _ => nfresh hle (eq47 _ (Nat.le_trans (Nat.le_succ q47) (Nat.le_add_right _ d)))
  have hN : ∀ d, q47 + 1 + d ≠ q36 := fun d z => by have := eq47 q36 (z ▸ Nat.le_trans (Nat.le_succ q47) (Nat.le_add_right _ d)); rw [fq36] at this; cases this
  have oq47 : qdel h y q47 = none := nfresh hle (eq47 _ (Nat.le_refl _))
  replace hY := qgrid_le (cy := cy) (N := 8) (K := 1000) eq47 _ _ hY
  replace fq7 := qgrid_le (cy := cy) (N := 8) (K := 1000) eq47 _ _ fq7
  replace fq15 := qgrid_le (cy := cy) (N := 8) (K := 1000) eq47 _ _ fq15
  replace fq22 := qgrid_le (cy := cy) (N := 8) (K := 1000) eq47 _ _ fq22
  replace zkq22 := qgrid_le (cy := cy) (N := 8) (K := 1000) eq47 _ _ zkq22
  replace zuq22 := qgrid_le (cy := cy) (N := 8) (K := 1000) eq47 _ _ zuq22
  replace fq36 := qgrid_le (cy := cy) (N := 8) (K := 1000) eq47 _ _ fq36
  replace hle := qle_tr hle (qgrid_le (cy := cy) (N := 8) (K := 1000) eq47)
  have fq47 : (qgrid cy hv8 q47 8 1000) q47 = some (.inl (cy 6, 8, .inr (.inr (.inr (.inr (fun i => if i < 8 then some (q47 + 1 + i) else none)))))) := if_pos rfl
  have hG : ∀ d, d < 8 → (qgrid cy hv8 q47 8 1000) (q47 + 1 + d) = some (.inl (cy 0, 1000, .inl (fun _ => 0))) := fun d hd => (if_neg (Nat.ne_of_gt (Nat.lt_of_lt_of_le (Nat.lt_succ_self q47) (Nat.le_add_right _ d)))).trans (if_pos ⟨Nat.lt_of_lt_of_le (Nat.lt_succ_self q47) (Nat.le_add_right _ d), (Nat.add_assoc q47 1 d).symm ▸ Nat.add_le_add_left (by clear hO hN; omega) q47⟩)
  clear eq47
  refine q_putF C hP hS hY rfl inX8 tyX8 tyX8_ok nmX8 8 (by decide) g1175 rfl rfl rfl rfl rfl (Nat.le_of_ble_eq_true rfl) dX8_init_51 (fun H locs hP hS => ?_)
  replace hP : qP D N0 (qs (qgrid cy hv8 q47 8 1000) y (.inr (8, [.ref q7, .ref q15, .ref q22, .int 0, .int 0, .int 0, .int 0, .ref q36, .ref q47, .int 0, .int 0, .null, .null, .int 0, .null, .null, .null, .null, .null, .null, .int 0, .null, .int 0]))) H := hP
  obtain ⟨hv9, ehv9⟩ : ∃ z : qH, z = qs (qgrid cy hv8 q47 8 1000) y (.inr (8, [.ref q7, .ref q15, .ref q22, .int 0, .int 0, .int 0, .int 0, .ref q36, .ref q47, .int 0, .int 0, .null, .null, .int 0, .null, .null, .null, .null, .null, .null, .int 0, .null, .int 0])) := ⟨_, rfl⟩
  rw [← ehv9] at hP
  have khv9 : ∀ b o, b ≠ y → qgrid cy hv8 q47 8 1000 b = some o → hv9 b = some o := by rw [ehv9]; exact fun b o nb hb => (qs_ne nb).trans hb
  replace fq7 := khv9 _ _ n_q7_y.symm fq7
  replace fq15 := khv9 _ _ n_q15_y.symm fq15
  replace fq22 := khv9 _ _ n_q22_y.symm fq22
  replace zkq22 := khv9 _ _ (fun q => by subst q; have := zkq22.symm.trans hY; first | cases this | simp at this) zkq22
  replace zuq22 := khv9 _ _ (fun q => by subst q; have := zuq22.symm.trans hY; first | cases this | simp at this) zuq22
  replace fq36 := khv9 _ _ n_q36_y.symm fq36
  replace fq47 := khv9 _ _ n_q47_y.symm fq47
  replace hG : ∀ d, d < 8 → hv9 (q47 + 1 + d) = some (.inl (cy 0, 1000, .inl (fun _ => 0))) := fun d hd => khv9 _ _ (fun z => by have z9 := hG d hd; rw [z] at z9; have := z9.symm.trans hY; first | cases this | simp at this) (hG d hd)
  replace hle : qle (qdel h y) hv9 := fun b o hb => khv9 b o (qne_of oy hb) (hle b o hb)
  replace hY : hv9 y = some (.inr (8, [.ref q7, .ref q15, .ref q22, .int 0, .int 0, .int 0, .int 0, .ref q36, .ref q47, .int 0, .int 0, .null, .null, .int 0, .null, .null, .null, .null, .null, .null, .int 0, .null, .int 0])) := by rw [ehv9]; exact qs_self
  clear ehv9
  refine lv_aload_n hx hb dX8_init_54 rfl (lv_at hl 0 rfl) ?_
  refine lv_sipush (v := 1024) hx hb dX8_init_55 (by decide) ?_
  refine q_newaJ (N := 1024) C g67 hP hS (by decide) (by decide) (by decide) (by first | decide | omega) (by first | decide | omega) dX8_init_58 (fun q58 H eq58 hP hS => ?_)
  obtain ⟨hv10, ehv10⟩ : ∃ z : qH, z = qs hv9 q58 (.inl (cy 1, 1024, .inr (.inl (fun _ => 0)))) := ⟨_, rfl⟩
  rw [← ehv10] at hP
  have khv10 : ∀ b o, b ≠ q58 → hv9 b = some o → hv10 b = some o := by rw [ehv10]; exact fun b o nb hb => (qs_ne nb).trans hb
  have n_q58_y : y ≠ q58 := qne_of eq58 hY
  replace hY := khv10 _ _ n_q58_y hY
  have n_q58_q7 : q7 ≠ q58 := qne_of eq58 fq7
  replace fq7 := khv10 _ _ n_q58_q7 fq7
  have n_q58_q15 : q15 ≠ q58 := qne_of eq58 fq15
  replace fq15 := khv10 _ _ n_q58_q15 fq15
  have n_q58_q22 : q22 ≠ q58 := qne_of eq58 fq22
  replace fq22 := khv10 _ _ n_q58_q22 fq22
  have n_q58_kq22 : kq22 ≠ q58 := qne_of eq58 zkq22
  replace zkq22 := khv10 _ _ n_q58_kq22 zkq22
  have n_q58_uq22 : uq22 ≠ q58 := qne_of eq58 zuq22
  replace zuq22 := khv10 _ _ n_q58_uq22 zuq22
  have n_q58_q36 : q36 ≠ q58 := qne_of eq58 fq36
  replace fq36 := khv10 _ _ n_q58_q36 fq36
  have n_q58_q47 : q47 ≠ q58 := qne_of eq58 fq47
  replace fq47 := khv10 _ _ n_q58_q47 fq47
  replace hG : ∀ d, d < 8 → hv10 (q47 + 1 + d) = some (.inl (cy 0, 1000, .inl (fun _ => 0))) := fun d hd => khv10 _ _ (qne_of eq58 (hG d hd)) (hG d hd)
  have oq58 := qle_none hle eq58
  replace hle : qle (qdel h y) hv10 := fun b o hb => khv10 b o (qne_of oq58 hb) (hle b o hb)
  have fq58 : hv10 q58 = some (.inl (cy 1, 1024, .inr (.inl (fun _ => 0)))) := by rw [ehv10]; exact qs_self
  clear ehv10
  refine q_put C hP hS hY rfl inX8 tyX8 tyX8_ok nmX8 11 (by decide) g1178 rfl rfl rfl (Nat.le_of_ble_eq_true rfl) dX8_init_60 (fun H locs hP hS => ?_)
  replace hP : qP D N0 (qs hv10 y (.inr (8, [.ref q7, .ref q15, .ref q22, .int 0, .int 0, .int 0, .int 0, .ref q36, .ref q47, .int 0, .int 0, .ref q58, .null, .int 0, .null, .null, .null, .null, .null, .null, .int 0, .null, .int 0]))) H := hP
  obtain ⟨hv11, ehv11⟩ : ∃ z : qH, z = qs hv10 y (.inr (8, [.ref q7, .ref q15, .ref q22, .int 0, .int 0, .int 0, .int 0, .ref q36, .ref q47, .int 0, .int 0, .ref q58, .null, .int 0, .null, .null, .null, .null, .null, .null, .int 0, .null, .int 0])) := ⟨_, rfl⟩
  rw [← ehv11] at hP
  have khv11 : ∀ b o, b ≠ y → hv10 b = some o → hv11 b = some o := by rw [ehv11]; exact fun b o nb hb => (qs_ne nb).trans hb
  replace fq7 := khv11 _ _ n_q7_y.symm fq7
  replace fq15 := khv11 _ _ n_q15_y.symm fq15
  replace fq22 := khv11 _ _ n_q22_y.symm fq22
  replace zkq22 := khv11 _ _ (fun q => by subst q; have := zkq22.symm.trans hY; first | cases this | simp at this) zkq22
  replace zuq22 := khv11 _ _ (fun q => by subst q; have := zuq22.symm.trans hY; first | cases this | simp at this) zuq22
  replace fq36 := khv11 _ _ n_q36_y.symm fq36
  replace fq47 := khv11 _ _ n_q47_y.symm fq47
  replace fq58 := khv11 _ _ n_q58_y.symm fq58
  replace hG : ∀ d, d < 8 → hv11 (q47 + 1 + d) = some (.inl (cy 0, 1000, .inl (fun _ => 0))) := fun d hd => khv11 _ _ (fun z => by have z9 := hG d hd; rw [z] at z9; have := z9.symm.trans hY; first | cases this | simp at this) (hG d hd)
  replace hle : qle (qdel h y) hv11 := fun b o hb => khv11 b o (qne_of oy hb) (hle b o hb)
  replace hY : hv11 y = some (.inr (8, [.ref q7, .ref q15, .ref q22, .int 0, .int 0, .int 0, .int 0, .ref q36, .ref q47, .int 0, .int 0, .ref q58, .null, .int 0, .null, .null, .null, .null, .null, .null, .int 0, .null, .int 0])) := by rw [ehv11]; exact qs_self
  clear ehv11
  refine lv_aload_n hx hb dX8_init_63 rfl (lv_at hl 0 rfl) ?_
  refine lv_sipush (v := 1024) hx hb dX8_init_64 (by decide) ?_
  refine q_newaI (N := 1024) C g1237 hP hS (by decide) (by decide) (by decide) (by first | decide | omega) (by first | decide | omega) dX8_init_67 (fun q67 H eq67 hP hS => ?_)
  obtain ⟨hv12, ehv12⟩ : ∃ z : qH, z = qs hv11 q67 (.inl (cy 0, 1024, .inl (fun _ => 0))) := ⟨_, rfl⟩
  rw [← ehv12] at hP
  have khv12 : ∀ b o, b ≠ q67 → hv11 b = some o → hv12 b = some o := by rw [ehv12]; exact fun b o nb hb => (qs_ne nb).trans hb
  have n_q67_y : y ≠ q67 := qne_of eq67 hY
  replace hY := khv12 _ _ n_q67_y hY
  have n_q67_q7 : q7 ≠ q67 := qne_of eq67 fq7
  replace fq7 := khv12 _ _ n_q67_q7 fq7
  have n_q67_q15 : q15 ≠ q67 := qne_of eq67 fq15
  replace fq15 := khv12 _ _ n_q67_q15 fq15
  have n_q67_q22 : q22 ≠ q67 := qne_of eq67 fq22
  replace fq22 := khv12 _ _ n_q67_q22 fq22
  have n_q67_kq22 : kq22 ≠ q67 := qne_of eq67 zkq22
  replace zkq22 := khv12 _ _ n_q67_kq22 zkq22
  have n_q67_uq22 : uq22 ≠ q67 := qne_of eq67 zuq22
  replace zuq22 := khv12 _ _ n_q67_uq22 zuq22
  have n_q67_q36 : q36 ≠ q67 := qne_of eq67 fq36
  replace fq36 := khv12 _ _ n_q67_q36 fq36
  have n_q67_q47 : q47 ≠ q67 := qne_of eq67 fq47
  replace fq47 := khv12 _ _ n_q67_q47 fq47
  have n_q67_q58 : q58 ≠ q67 := qne_of eq67 fq58
  replace fq58 := khv12 _ _ n_q67_q58 fq58
  replace hG : ∀ d, d < 8 → hv12 (q47 + 1 + d) = some (.inl (cy 0, 1000, .inl (fun _ => 0))) := fun d hd => khv12 _ _ (qne_of eq67 (hG d hd)) (hG d hd)
  have oq67 := qle_none hle eq67
  replace hle : qle (qdel h y) hv12 := fun b o hb => khv12 b o (qne_of oq67 hb) (hle b o hb)
  have fq67 : hv12 q67 = some (.inl (cy 0, 1024, .inl (fun _ => 0))) := by rw [ehv12]; exact qs_self
  clear ehv12
  refine q_put C hP hS hY rfl inX8 tyX8 tyX8_ok nmX8 12 (by decide) g1179 rfl rfl rfl (Nat.le_of_ble_eq_true rfl) dX8_init_69 (fun H locs hP hS => ?_)
  replace hP : qP D N0 (qs hv12 y (.inr (8, [.ref q7, .ref q15, .ref q22, .int 0, .int 0, .int 0, .int 0, .ref q36, .ref q47, .int 0, .int 0, .ref q58, .ref q67, .int 0, .null, .null, .null, .null, .null, .null, .int 0, .null, .int 0]))) H := hP
  obtain ⟨hv13, ehv13⟩ : ∃ z : qH, z = qs hv12 y (.inr (8, [.ref q7, .ref q15, .ref q22, .int 0, .int 0, .int 0, .int 0, .ref q36, .ref q47, .int 0, .int 0, .ref q58, .ref q67, .int 0, .null, .null, .null, .null, .null, .null, .int 0, .null, .int 0])) := ⟨_, rfl⟩
  rw [← ehv13] at hP
  have khv13 : ∀ b o, b ≠ y → hv12 b = some o → hv13 b = some o := by rw [ehv13]; exact fun b o nb hb => (qs_ne nb).trans hb
  replace fq7 := khv13 _ _ n_q7_y.symm fq7
  replace fq15 := khv13 _ _ n_q15_y.symm fq15
  replace fq22 := khv13 _ _ n_q22_y.symm fq22
  replace zkq22 := khv13 _ _ (fun q => by subst q; have := zkq22.symm.trans hY; first | cases this | simp at this) zkq22
  replace zuq22 := khv13 _ _ (fun q => by subst q; have := zuq22.symm.trans hY; first | cases this | simp at this) zuq22
  replace fq36 := khv13 _ _ n_q36_y.symm fq36
  replace fq47 := khv13 _ _ n_q47_y.symm fq47
  replace fq58 := khv13 _ _ n_q58_y.symm fq58
  replace fq67 := khv13 _ _ n_q67_y.symm fq67
  replace hG : ∀ d, d < 8 → hv13 (q47 + 1 + d) = some (.inl (cy 0, 1000, .inl (fun _ => 0))) := fun d hd => khv13 _ _ (fun z => by have z9 := hG d hd; rw [z] at z9; have := z9.symm.trans hY; first | cases this | simp at this) (hG d hd)
  replace hle : qle (qdel h y) hv13 := fun b o hb => khv13 b o (qne_of oy hb) (hle b o hb)
  replace hY : hv13 y = some (.inr (8, [.ref q7, .ref q15, .ref q22, .int 0, .int 0, .int 0, .int 0, .ref q36, .ref q47, .int 0, .int 0, .ref q58, .ref q67, .int 0, .null, .null, .null, .null, .null, .null, .int 0, .null, .int 0])) := by rw [ehv13]; exact qs_self
  clear ehv13
  refine lv_aload_n hx hb dX8_init_72 rfl (lv_at hl 0 rfl) ?_
  refine lv_iconst (v := 1) hx hb dX8_init_73 (by decide) ?_
  refine q_put C hP hS hY rfl inX8 tyX8 tyX8_ok nmX8 13 (by decide) g1180 rfl rfl rfl (Nat.le_of_ble_eq_true rfl) dX8_init_74 (fun H locs hP hS => ?_)
  replace hP : qP D N0 (qs hv13 y (.inr (8, [.ref q7, .ref q15, .ref q22, .int 0, .int 0, .int 0, .int 0, .ref q36, .ref q47, .int 0, .int 0, .ref q58, .ref q67, .int 1, .null, .null, .null, .null, .null, .null, .int 0, .null, .int 0]))) H := hP
  obtain ⟨hv14, ehv14⟩ : ∃ z : qH, z = qs hv13 y (.inr (8, [.ref q7, .ref q15, .ref q22, .int 0, .int 0, .int 0, .int 0, .ref q36, .ref q47, .int 0, .int 0, .ref q58, .ref q67, .int 1, .null, .null, .null, .null, .null, .null, .int 0, .null, .int 0])) := ⟨_, rfl⟩
  rw [← ehv14] at hP
  have khv14 : ∀ b o, b ≠ y → hv13 b = some o → hv14 b = some o := by rw [ehv14]; exact fun b o nb hb => (qs_ne nb).trans hb
  replace fq7 := khv14 _ _ n_q7_y.symm fq7
  replace fq15 := khv14 _ _ n_q15_y.symm fq15
  replace fq22 := khv14 _ _ n_q22_y.symm fq22
  replace zkq22 := khv14 _ _ (fun q => by subst q; have := zkq22.symm.trans hY; first | cases this | simp at this) zkq22
  replace zuq22 := khv14 _ _ (fun q => by subst q; have := zuq22.symm.trans hY; first | cases this | simp at this) zuq22
  replace fq36 := khv14 _ _ n_q36_y.symm fq36
  replace fq47 := khv14 _ _ n_q47_y.symm fq47
  replace fq58 := khv14 _ _ n_q58_y.symm fq58
  replace fq67 := khv14 _ _ n_q67_y.symm fq67
  replace hG : ∀ d, d < 8 → hv14 (q47 + 1 + d) = some (.inl (cy 0, 1000, .inl (fun _ => 0))) := fun d hd => khv14 _ _ (fun z => by have z9 := hG d hd; rw [z] at z9; have := z9.symm.trans hY; first | cases this | simp at this) (hG d hd)
  replace hle : qle (qdel h y) hv14 := fun b o hb => khv14 b o (qne_of oy hb) (hle b o hb)
  replace hY : hv14 y = some (.inr (8, [.ref q7, .ref q15, .ref q22, .int 0, .int 0, .int 0, .int 0, .ref q36, .ref q47, .int 0, .int 0, .ref q58, .ref q67, .int 1, .null, .null, .null, .null, .null, .null, .int 0, .null, .int 0])) := by rw [ehv14]; exact qs_self
  clear ehv14
  refine lv_aload_n hx hb dX8_init_77 rfl (lv_at hl 0 rfl) ?_
  refine lv_sipush (v := 1024) hx hb dX8_init_78 (by decide) ?_
  refine q_newaI (N := 1024) C g1237 hP hS (by decide) (by decide) (by decide) (by first | decide | omega) (by first | decide | omega) dX8_init_81 (fun q81 H eq81 hP hS => ?_)
  obtain ⟨hv15, ehv15⟩ : ∃ z : qH, z = qs hv14 q81 (.inl (cy 0, 1024, .inl (fun _ => 0))) := ⟨_, rfl⟩
  rw [← ehv15] at hP
  have khv15 : ∀ b o, b ≠ q81 → hv14 b = some o → hv15 b = some o := by rw [ehv15]; exact fun b o nb hb => (qs_ne nb).trans hb
  have n_q81_y : y ≠ q81 := qne_of eq81 hY
  replace hY := khv15 _ _ n_q81_y hY
  have n_q81_q7 : q7 ≠ q81 := qne_of eq81 fq7
  replace fq7 := khv15 _ _ n_q81_q7 fq7
  have n_q81_q15 : q15 ≠ q81 := qne_of eq81 fq15
  replace fq15 := khv15 _ _ n_q81_q15 fq15
  have n_q81_q22 : q22 ≠ q81 := qne_of eq81 fq22
  replace fq22 := khv15 _ _ n_q81_q22 fq22
  have n_q81_kq22 : kq22 ≠ q81 := qne_of eq81 zkq22
  replace zkq22 := khv15 _ _ n_q81_kq22 zkq22
  have n_q81_uq22 : uq22 ≠ q81 := qne_of eq81 zuq22
  replace zuq22 := khv15 _ _ n_q81_uq22 zuq22
  have n_q81_q36 : q36 ≠ q81 := qne_of eq81 fq36
  replace fq36 := khv15 _ _ n_q81_q36 fq36
  have n_q81_q47 : q47 ≠ q81 := qne_of eq81 fq47
  replace fq47 := khv15 _ _ n_q81_q47 fq47
  have n_q81_q58 : q58 ≠ q81 := qne_of eq81 fq58
  replace fq58 := khv15 _ _ n_q81_q58 fq58
  have n_q81_q67 : q67 ≠ q81 := qne_of eq81 fq67
  replace fq67 := khv15 _ _ n_q81_q67 fq67
  replace hG : ∀ d, d < 8 → hv15 (q47 + 1 + d) = some (.inl (cy 0, 1000, .inl (fun _ => 0))) := fun d hd => khv15 _ _ (qne_of eq81 (hG d hd)) (hG d hd)
  have oq81 := qle_none hle eq81
  replace hle : qle (qdel h y) hv15 := fun b o hb => khv15 b o (qne_of oq81 hb) (hle b o hb)
  have fq81 : hv15 q81 = some (.inl (cy 0, 1024, .inl (fun _ => 0))) := by rw [ehv15]; exact qs_self
  clear ehv15
  refine q_put C hP hS hY rfl inX8 tyX8 tyX8_ok nmX8 14 (by decide) g1181 rfl rfl rfl (Nat.le_of_ble_eq_true rfl) dX8_init_83 (fun H locs hP hS => ?_)
  replace hP : qP D N0 (qs hv15 y (.inr (8, [.ref q7, .ref q15, .ref q22, .int 0, .int 0, .int 0, .int 0, .ref q36, .ref q47, .int 0, .int 0, .ref q58, .ref q67, .int 1, .ref q81, .null, .null, .null, .null, .null, .int 0, .null, .int 0]))) H := hP
  obtain ⟨hv16, ehv16⟩ : ∃ z : qH, z = qs hv15 y (.inr (8, [.ref q7, .ref q15, .ref q22, .int 0, .int 0, .int 0, .int 0, .ref q36, .ref q47, .int 0, .int 0, .ref q58, .ref q67, .int 1, .ref q81, .null, .null, .null, .null, .null, .int 0, .null, .int 0])) := ⟨_, rfl⟩
  rw [← ehv16] at hP
  have khv16 : ∀ b o, b ≠ y → hv15 b = some o → hv16 b = some o := by rw [ehv16]; exact fun b o nb hb => (qs_ne nb).trans hb
  replace fq7 := khv16 _ _ n_q7_y.symm fq7
  replace fq15 := khv16 _ _ n_q15_y.symm fq15
  replace fq22 := khv16 _ _ n_q22_y.symm fq22
  replace zkq22 := khv16 _ _ (fun q => by subst q; have := zkq22.symm.trans hY; first | cases this | simp at this) zkq22
  replace zuq22 := khv16 _ _ (fun q => by subst q; have := zuq22.symm.trans hY; first | cases this | simp at this) zuq22
  replace fq36 := khv16 _ _ n_q36_y.symm fq36
  replace fq47 := khv16 _ _ n_q47_y.symm fq47
  replace fq58 := khv16 _ _ n_q58_y.symm fq58
  replace fq67 := khv16 _ _ n_q67_y.symm fq67
  replace fq81 := khv16 _ _ n_q81_y.symm fq81
  replace hG : ∀ d, d < 8 → hv16 (q47 + 1 + d) = some (.inl (cy 0, 1000, .inl (fun _ => 0))) := fun d hd => khv16 _ _ (fun z => by have z9 := hG d hd; rw [z] at z9; have := z9.symm.trans hY; first | cases this | simp at this) (hG d hd)
  replace hle : qle (qdel h y) hv16 := fun b o hb => khv16 b o (qne_of oy hb) (hle b o hb)
  replace hY : hv16 y = some (.inr (8, [.ref q7, .ref q15, .ref q22, .int 0, .int 0, .int 0, .int 0, .ref q36, .ref q47, .int 0, .int 0, .ref q58, .ref q67, .int 1, .ref q81, .null, .null, .null, .null, .null, .int 0, .null, .int 0])) := by rw [ehv16]; exact qs_self
  clear ehv16
  refine lv_aload_n hx hb dX8_init_86 rfl (lv_at hl 0 rfl) ?_
  refine lv_sipush (v := 1024) hx hb dX8_init_87 (by decide) ?_
  refine q_newaI (N := 1024) C g1237 hP hS (by decide) (by decide) (by decide) (by first | decide | omega) (by first | decide | omega) dX8_init_90 (fun q90 H eq90 hP hS => ?_)
  obtain ⟨hv17, ehv17⟩ : ∃ z : qH, z = qs hv16 q90 (.inl (cy 0, 1024, .inl (fun _ => 0))) := ⟨_, rfl⟩
  rw [← ehv17] at hP
  have khv17 : ∀ b o, b ≠ q90 → hv16 b = some o → hv17 b = some o := by rw [ehv17]; exact fun b o nb hb => (qs_ne nb).trans hb
  have n_q90_y : y ≠ q90 := qne_of eq90 hY
  replace hY := khv17 _ _ n_q90_y hY
  have n_q90_q7 : q7 ≠ q90 := qne_of eq90 fq7
  replace fq7 := khv17 _ _ n_q90_q7 fq7
  have n_q90_q15 : q15 ≠ q90 := qne_of eq90 fq15
  replace fq15 := khv17 _ _ n_q90_q15 fq15
  have n_q90_q22 : q22 ≠ q90 := qne_of eq90 fq22
  replace fq22 := khv17 _ _ n_q90_q22 fq22
  have n_q90_kq22 : kq22 ≠ q90 := qne_of eq90 zkq22
  replace zkq22 := khv17 _ _ n_q90_kq22 zkq22
  have n_q90_uq22 : uq22 ≠ q90 := qne_of eq90 zuq22
  replace zuq22 := khv17 _ _ n_q90_uq22 zuq22
  have n_q90_q36 : q36 ≠ q90 := qne_of eq90 fq36
  replace fq36 := khv17 _ _ n_q90_q36 fq36
  have n_q90_q47 : q47 ≠ q90 := qne_of eq90 fq47
  replace fq47 := khv17 _ _ n_q90_q47 fq47
  have n_q90_q58 : q58 ≠ q90 := qne_of eq90 fq58
  replace fq58 := khv17 _ _ n_q90_q58 fq58
  have n_q90_q67 : q67 ≠ q90 := qne_of eq90 fq67
  replace fq67 := khv17 _ _ n_q90_q67 fq67
  have n_q90_q81 : q81 ≠ q90 := qne_of eq90 fq81
  replace fq81 := khv17 _ _ n_q90_q81 fq81
  replace hG : ∀ d, d < 8 → hv17 (q47 + 1 + d) = some (.inl (cy 0, 1000, .inl (fun _ => 0))) := fun d hd => khv17 _ _ (qne_of eq90 (hG d hd)) (hG d hd)
  have oq90 := qle_none hle eq90
  replace hle : qle (qdel h y) hv17 := fun b o hb => khv17 b o (qne_of oq90 hb) (hle b o hb)
  have fq90 : hv17 q90 = some (.inl (cy 0, 1024, .inl (fun _ => 0))) := by rw [ehv17]; exact qs_self
  clear ehv17
  refine q_put C hP hS hY rfl inX8 tyX8 tyX8_ok nmX8 15 (by decide) g1182 rfl rfl rfl (Nat.le_of_ble_eq_true rfl) dX8_init_92 (fun H locs hP hS => ?_)
  replace hP : qP D N0 (qs hv17 y (.inr (8, [.ref q7, .ref q15, .ref q22, .int 0, .int 0, .int 0, .int 0, .ref q36, .ref q47, .int 0, .int 0, .ref q58, .ref q67, .int 1, .ref q81, .ref q90, .null, .null, .null, .null, .int 0, .null, .int 0]))) H := hP
  obtain ⟨hv18, ehv18⟩ : ∃ z : qH, z = qs hv17 y (.inr (8, [.ref q7, .ref q15, .ref q22, .int 0, .int 0, .int 0, .int 0, .ref q36, .ref q47, .int 0, .int 0, .ref q58, .ref q67, .int 1, .ref q81, .ref q90, .null, .null, .null, .null, .int 0, .null, .int 0])) := ⟨_, rfl⟩
  rw [← ehv18] at hP
  have khv18 : ∀ b o, b ≠ y → hv17 b = some o → hv18 b = some o := by rw [ehv18]; exact fun b o nb hb => (qs_ne nb).trans hb
  replace fq7 := khv18 _ _ n_q7_y.symm fq7
  replace fq15 := khv18 _ _ n_q15_y.symm fq15
  replace fq22 := khv18 _ _ n_q22_y.symm fq22
  replace zkq22 := khv18 _ _ (fun q => by subst q; have := zkq22.symm.trans hY; first | cases this | simp at this) zkq22
  replace zuq22 := khv18 _ _ (fun q => by subst q; have := zuq22.symm.trans hY; first | cases this | simp at this) zuq22
  replace fq36 := khv18 _ _ n_q36_y.symm fq36
  replace fq47 := khv18 _ _ n_q47_y.symm fq47
  replace fq58 := khv18 _ _ n_q58_y.symm fq58
  replace fq67 := khv18 _ _ n_q67_y.symm fq67
  replace fq81 := khv18 _ _ n_q81_y.symm fq81
  replace fq90 := khv18 _ _ n_q90_y.symm fq90
  replace hG : ∀ d, d < 8 → hv18 (q47 + 1 + d) = some (.inl (cy 0, 1000, .inl (fun _ => 0))) := fun d hd => khv18 _ _ (fun z => by have z9 := hG d hd; rw [z] at z9; have := z9.symm.trans hY; first | cases this | simp at this) (hG d hd)
  replace hle : qle (qdel h y) hv18 := fun b o hb => khv18 b o (qne_of oy hb) (hle b o hb)
  replace hY : hv18 y = some (.inr (8, [.ref q7, .ref q15, .ref q22, .int 0, .int 0, .int 0, .int 0, .ref q36, .ref q47, .int 0, .int 0, .ref q58, .ref q67, .int 1, .ref q81, .ref q90, .null, .null, .null, .null, .int 0, .null, .int 0])) := by rw [ehv18]; exact qs_self
  clear ehv18
  refine lv_aload_n hx hb dX8_init_95 rfl (lv_at hl 0 rfl) ?_
  refine lv_sipush (v := 1024) hx hb dX8_init_96 (by decide) ?_
  refine q_newaI (N := 1024) C g1237 hP hS (by decide) (by decide) (by decide) (by first | decide | omega) (by first | decide | omega) dX8_init_99 (fun q99 H eq99 hP hS => ?_)
  obtain ⟨hv19, ehv19⟩ : ∃ z : qH, z = qs hv18 q99 (.inl (cy 0, 1024, .inl (fun _ => 0))) := ⟨_, rfl⟩
  rw [← ehv19] at hP
  have khv19 : ∀ b o, b ≠ q99 → hv18 b = some o → hv19 b = some o := by rw [ehv19]; exact fun b o nb hb => (qs_ne nb).trans hb
  have n_q99_y : y ≠ q99 := qne_of eq99 hY
  replace hY := khv19 _ _ n_q99_y hY
  have n_q99_q7 : q7 ≠ q99 := qne_of eq99 fq7
  replace fq7 := khv19 _ _ n_q99_q7 fq7
  have n_q99_q15 : q15 ≠ q99 := qne_of eq99 fq15
  replace fq15 := khv19 _ _ n_q99_q15 fq15
  have n_q99_q22 : q22 ≠ q99 := qne_of eq99 fq22
  replace fq22 := khv19 _ _ n_q99_q22 fq22
  have n_q99_kq22 : kq22 ≠ q99 := qne_of eq99 zkq22
  replace zkq22 := khv19 _ _ n_q99_kq22 zkq22
  have n_q99_uq22 : uq22 ≠ q99 := qne_of eq99 zuq22
  replace zuq22 := khv19 _ _ n_q99_uq22 zuq22
  have n_q99_q36 : q36 ≠ q99 := qne_of eq99 fq36
  replace fq36 := khv19 _ _ n_q99_q36 fq36
  have n_q99_q47 : q47 ≠ q99 := qne_of eq99 fq47
  replace fq47 := khv19 _ _ n_q99_q47 fq47
  have n_q99_q58 : q58 ≠ q99 := qne_of eq99 fq58
  replace fq58 := khv19 _ _ n_q99_q58 fq58
  have n_q99_q67 : q67 ≠ q99 := qne_of eq99 fq67
  replace fq67 := khv19 _ _ n_q99_q67 fq67
  have n_q99_q81 : q81 ≠ q99 := qne_of eq99 fq81
  replace fq81 := khv19 _ _ n_q99_q81 fq81
  have n_q99_q90 : q90 ≠ q99 := qne_of eq99 fq90
  replace fq90 := khv19 _ _ n_q99_q90 fq90
  replace hG : ∀ d, d < 8 → hv19 (q47 + 1 + d) = some (.inl (cy 0, 1000, .inl (fun _ => 0))) := fun d hd => khv19 _ _ (qne_of eq99 (hG d hd)) (hG d hd)
  have oq99 := qle_none hle eq99
  replace hle : qle (qdel h y) hv19 := fun b o hb => khv19 b o (qne_of oq99 hb) (hle b o hb)
  have fq99 : hv19 q99 = some (.inl (cy 0, 1024, .inl (fun _ => 0))) := by rw [ehv19]; exact qs_self
  clear ehv19
  refine q_put C hP hS hY rfl inX8 tyX8 tyX8_ok nmX8 16 (by decide) g1183 rfl rfl rfl (Nat.le_of_ble_eq_true rfl) dX8_init_101 (fun H locs hP hS => ?_)
  replace hP : qP D N0 (qs hv19 y (.inr (8, [.ref q7, .ref q15, .ref q22, .int 0, .int 0, .int 0, .int 0, .ref q36, .ref q47, .int 0, .int 0, .ref q58, .ref q67, .int 1, .ref q81, .ref q90, .ref q99, .null, .null, .null, .int 0, .null, .int 0]))) H := hP
  obtain ⟨hv20, ehv20⟩ : ∃ z : qH, z = qs hv19 y (.inr (8, [.ref q7, .ref q15, .ref q22, .int 0, .int 0, .int 0, .int 0, .ref q36, .ref q47, .int 0, .int 0, .ref q58, .ref q67, .int 1, .ref q81, .ref q90, .ref q99, .null, .null, .null, .int 0, .null, .int 0])) := ⟨_, rfl⟩
  rw [← ehv20] at hP
  have khv20 : ∀ b o, b ≠ y → hv19 b = some o → hv20 b = some o := by rw [ehv20]; exact fun b o nb hb => (qs_ne nb).trans hb
  replace fq7 := khv20 _ _ n_q7_y.symm fq7
  replace fq15 := khv20 _ _ n_q15_y.symm fq15
  replace fq22 := khv20 _ _ n_q22_y.symm fq22
  replace zkq22 := khv20 _ _ (fun q => by subst q; have := zkq22.symm.trans hY; first | cases this | simp at this) zkq22
  replace zuq22 := khv20 _ _ (fun q => by subst q; have := zuq22.symm.trans hY; first | cases this | simp at this) zuq22
  replace fq36 := khv20 _ _ n_q36_y.symm fq36
  replace fq47 := khv20 _ _ n_q47_y.symm fq47
  replace fq58 := khv20 _ _ n_q58_y.symm fq58
  replace fq67 := khv20 _ _ n_q67_y.symm fq67
  replace fq81 := khv20 _ _ n_q81_y.symm fq81
  replace fq90 := khv20 _ _ n_q90_y.symm fq90
  replace fq99 := khv20 _ _ n_q99_y.symm fq99
  replace hG : ∀ d, d < 8 → hv20 (q47 + 1 + d) = some (.inl (cy 0, 1000, .inl (fun _ => 0))) := fun d hd => khv20 _ _ (fun z => by have z9 := hG d hd; rw [z] at z9; have := z9.symm.trans hY; first | cases this | simp at this) (hG d hd)
  replace hle : qle (qdel h y) hv20 := fun b o hb => khv20 b o (qne_of oy hb) (hle b o hb)
  replace hY : hv20 y = some (.inr (8, [.ref q7, .ref q15, .ref q22, .int 0, .int 0, .int 0, .int 0, .ref q36, .ref q47, .int 0, .int 0, .ref q58, .ref q67, .int 1, .ref q81, .ref q90, .ref q99, .null, .null, .null, .int 0, .null, .int 0])) := by rw [ehv20]; exact qs_self
  clear ehv20
  refine lv_aload_n hx hb dX8_init_104 rfl (lv_at hl 0 rfl) ?_
  refine lv_sipush (v := 1024) hx hb dX8_init_105 (by decide) ?_
  refine q_newaI (N := 1024) C g1237 hP hS (by decide) (by decide) (by decide) (by first | decide | omega) (by first | decide | omega) dX8_init_108 (fun q108 H eq108 hP hS => ?_)
  obtain ⟨hv21, ehv21⟩ : ∃ z : qH, z = qs hv20 q108 (.inl (cy 0, 1024, .inl (fun _ => 0))) := ⟨_, rfl⟩
  rw [← ehv21] at hP
  have khv21 : ∀ b o, b ≠ q108 → hv20 b = some o → hv21 b = some o := by rw [ehv21]; exact fun b o nb hb => (qs_ne nb).trans hb
  have n_q108_y : y ≠ q108 := qne_of eq108 hY
  replace hY := khv21 _ _ n_q108_y hY
  have n_q108_q7 : q7 ≠ q108 := qne_of eq108 fq7
  replace fq7 := khv21 _ _ n_q108_q7 fq7
  have n_q108_q15 : q15 ≠ q108 := qne_of eq108 fq15
  replace fq15 := khv21 _ _ n_q108_q15 fq15
  have n_q108_q22 : q22 ≠ q108 := qne_of eq108 fq22
  replace fq22 := khv21 _ _ n_q108_q22 fq22
  have n_q108_kq22 : kq22 ≠ q108 := qne_of eq108 zkq22
  replace zkq22 := khv21 _ _ n_q108_kq22 zkq22
  have n_q108_uq22 : uq22 ≠ q108 := qne_of eq108 zuq22
  replace zuq22 := khv21 _ _ n_q108_uq22 zuq22
  have n_q108_q36 : q36 ≠ q108 := qne_of eq108 fq36
  replace fq36 := khv21 _ _ n_q108_q36 fq36
  have n_q108_q47 : q47 ≠ q108 := qne_of eq108 fq47
  replace fq47 := khv21 _ _ n_q108_q47 fq47
  have n_q108_q58 : q58 ≠ q108 := qne_of eq108 fq58
  replace fq58 := khv21 _ _ n_q108_q58 fq58
  have n_q108_q67 : q67 ≠ q108 := qne_of eq108 fq67
  replace fq67 := khv21 _ _ n_q108_q67 fq67
  have n_q108_q81 : q81 ≠ q108 := qne_of eq108 fq81
  replace fq81 := khv21 _ _ n_q108_q81 fq81
  have n_q108_q90 : q90 ≠ q108 := qne_of eq108 fq90
  replace fq90 := khv21 _ _ n_q108_q90 fq90
  have n_q108_q99 : q99 ≠ q108 := qne_of eq108 fq99
  replace fq99 := khv21 _ _ n_q108_q99 fq99
  replace hG : ∀ d, d < 8 → hv21 (q47 + 1 + d) = some (.inl (cy 0, 1000, .inl (fun _ => 0))) := fun d hd => khv21 _ _ (qne_of eq108 (hG d hd)) (hG d hd)
  have oq108 := qle_none hle eq108
  replace hle : qle (qdel h y) hv21 := fun b o hb => khv21 b o (qne_of oq108 hb) (hle b o hb)
  have fq108 : hv21 q108 = some (.inl (cy 0, 1024, .inl (fun _ => 0))) := by rw [ehv21]; exact qs_self
  clear ehv21
  refine q_put C hP hS hY rfl inX8 tyX8 tyX8_ok nmX8 17 (by decide) g1184 rfl rfl rfl (Nat.le_of_ble_eq_true rfl) dX8_init_110 (fun H locs hP hS => ?_)
  replace hP : qP D N0 (qs hv21 y (.inr (8, [.ref q7, .ref q15, .ref q22, .int 0, .int 0, .int 0, .int 0, .ref q36, .ref q47, .int 0, .int 0, .ref q58, .ref q67, .int 1, .ref q81, .ref q90, .ref q99, .ref q108, .null, .null, .int 0, .null, .int 0]))) H := hP
  obtain ⟨hv22, ehv22⟩ : ∃ z : qH, z = qs hv21 y (.inr (8, [.ref q7, .ref q15, .ref q22, .int 0, .int 0, .int 0, .int 0, .ref q36, .ref q47, .int 0, .int 0, .ref q58, .ref q67, .int 1, .ref q81, .ref q90, .ref q99, .ref q108, .null, .null, .int 0, .null, .int 0])) := ⟨_, rfl⟩
  rw [← ehv22] at hP
  have khv22 : ∀ b o, b ≠ y → hv21 b = some o → hv22 b = some o := by rw [ehv22]; exact fun b o nb hb => (qs_ne nb).trans hb
  replace fq7 := khv22 _ _ n_q7_y.symm fq7
  replace fq15 := khv22 _ _ n_q15_y.symm fq15
  replace fq22 := khv22 _ _ n_q22_y.symm fq22
  replace zkq22 := khv22 _ _ (fun q => by subst q; have := zkq22.symm.trans hY; first | cases this | simp at this) zkq22
  replace zuq22 := khv22 _ _ (fun q => by subst q; have := zuq22.symm.trans hY; first | cases this | simp at this) zuq22
  replace fq36 := khv22 _ _ n_q36_y.symm fq36
  replace fq47 := khv22 _ _ n_q47_y.symm fq47
  replace fq58 := khv22 _ _ n_q58_y.symm fq58
  replace fq67 := khv22 _ _ n_q67_y.symm fq67
  replace fq81 := khv22 _ _ n_q81_y.symm fq81
  replace fq90 := khv22 _ _ n_q90_y.symm fq90
  replace fq99 := khv22 _ _ n_q99_y.symm fq99
  replace fq108 := khv22 _ _ n_q108_y.symm fq108
  replace hG : ∀ d, d < 8 → hv22 (q47 + 1 + d) = some (.inl (cy 0, 1000, .inl (fun _ => 0))) := fun d hd => khv22 _ _ (fun z => by have z9 := hG d hd; rw [z] at z9; have := z9.symm.trans hY; first | cases this | simp at this) (hG d hd)
  replace hle : qle (qdel h y) hv22 := fun b o hb => khv22 b o (qne_of oy hb) (hle b o hb)
  replace hY : hv22 y = some (.inr (8, [.ref q7, .ref q15, .ref q22, .int 0, .int 0, .int 0, .int 0, .ref q36, .ref q47, .int 0, .int 0, .ref q58, .ref q67, .int 1, .ref q81, .ref q90, .ref q99, .ref q108, .null, .null, .int 0, .null, .int 0])) := by rw [ehv22]; exact qs_self
  clear ehv22
  refine lv_aload_n hx hb dX8_init_113 rfl (lv_at hl 0 rfl) ?_
  refine lv_sipush (v := 1024) hx hb dX8_init_114 (by decide) ?_
  refine q_newaJ (N := 1024) C g67 hP hS (by decide) (by decide) (by decide) (by first | decide | omega) (by first | decide | omega) dX8_init_117 (fun q117 H eq117 hP hS => ?_)
  obtain ⟨hv23, ehv23⟩ : ∃ z : qH, z = qs hv22 q117 (.inl (cy 1, 1024, .inr (.inl (fun _ => 0)))) := ⟨_, rfl⟩
  rw [← ehv23] at hP
  have khv23 : ∀ b o, b ≠ q117 → hv22 b = some o → hv23 b = some o := by rw [ehv23]; exact fun b o nb hb => (qs_ne nb).trans hb
  have n_q117_y : y ≠ q117 := qne_of eq117 hY
  replace hY := khv23 _ _ n_q117_y hY
  have n_q117_q7 : q7 ≠ q117 := qne_of eq117 fq7
  replace fq7 := khv23 _ _ n_q117_q7 fq7
  have n_q117_q15 : q15 ≠ q117 := qne_of eq117 fq15
  replace fq15 := khv23 _ _ n_q117_q15 fq15
  have n_q117_q22 : q22 ≠ q117 := qne_of eq117 fq22
  replace fq22 := khv23 _ _ n_q117_q22 fq22
  have n_q117_kq22 : kq22 ≠ q117 := qne_of eq117 zkq22
  replace zkq22 := khv23 _ _ n_q117_kq22 zkq22
  have n_q117_uq22 : uq22 ≠ q117 := qne_of eq117 zuq22
  replace zuq22 := khv23 _ _ n_q117_uq22 zuq22
  have n_q117_q36 : q36 ≠ q117 := qne_of eq117 fq36
  replace fq36 := khv23 _ _ n_q117_q36 fq36
  have n_q117_q47 : q47 ≠ q117 := qne_of eq117 fq47
  replace fq47 := khv23 _ _ n_q117_q47 fq47
  have n_q117_q58 : q58 ≠ q117 := qne_of eq117 fq58
  replace fq58 := khv23 _ _ n_q117_q58 fq58
  have n_q117_q67 : q67 ≠ q117 := qne_of eq117 fq67
  replace fq67 := khv23 _ _ n_q117_q67 fq67
  have n_q117_q81 : q81 ≠ q117 := qne_of eq117 fq81
  replace fq81 := khv23 _ _ n_q117_q81 fq81
  have n_q117_q90 : q90 ≠ q117 := qne_of eq117 fq90
  replace fq90 := khv23 _ _ n_q117_q90 fq90
  have n_q117_q99 : q99 ≠ q117 := qne_of eq117 fq99
  replace fq99 := khv23 _ _ n_q117_q99 fq99
  have n_q117_q108 : q108 ≠ q117 := qne_of eq117 fq108
  replace fq108 := khv23 _ _ n_q117_q108 fq108
  replace hG : ∀ d, d < 8 → hv23 (q47 + 1 + d) = some (.inl (cy 0, 1000, .inl (fun _ => 0))) := fun d hd => khv23 _ _ (qne_of eq117 (hG d hd)) (hG d hd)
  have oq117 := qle_none hle eq117
  replace hle : qle (qdel h y) hv23 := fun b o hb => khv23 b o (qne_of oq117 hb) (hle b o hb)
  have fq117 : hv23 q117 = some (.inl (cy 1, 1024, .inr (.inl (fun _ => 0)))) := by rw [ehv23]; exact qs_self
  clear ehv23
  refine q_put C hP hS hY rfl inX8 tyX8 tyX8_ok nmX8 18 (by decide) g1185 rfl rfl rfl (Nat.le_of_ble_eq_true rfl) dX8_init_119 (fun H locs hP hS => ?_)
  replace hP : qP D N0 (qs hv23 y (.inr (8, [.ref q7, .ref q15, .ref q22, .int 0, .int 0, .int 0, .int 0, .ref q36, .ref q47, .int 0, .int 0, .ref q58, .ref q67, .int 1, .ref q81, .ref q90, .ref q99, .ref q108, .ref q117, .null, .int 0, .null, .int 0]))) H := hP
  obtain ⟨hv24, ehv24⟩ : ∃ z : qH, z = qs hv23 y (.inr (8, [.ref q7, .ref q15, .ref q22, .int 0, .int 0, .int 0, .int 0, .ref q36, .ref q47, .int 0, .int 0, .ref q58, .ref q67, .int 1, .ref q81, .ref q90, .ref q99, .ref q108, .ref q117, .null, .int 0, .null, .int 0])) := ⟨_, rfl⟩
  rw [← ehv24] at hP
  have khv24 : ∀ b o, b ≠ y → hv23 b = some o → hv24 b = some o := by rw [ehv24]; exact fun b o nb hb => (qs_ne nb).trans hb
  replace fq7 := khv24 _ _ n_q7_y.symm fq7
  replace fq15 := khv24 _ _ n_q15_y.symm fq15
  replace fq22 := khv24 _ _ n_q22_y.symm fq22
  replace zkq22 := khv24 _ _ (fun q => by subst q; have := zkq22.symm.trans hY; first | cases this | simp at this) zkq22
  replace zuq22 := khv24 _ _ (fun q => by subst q; have := zuq22.symm.trans hY; first | cases this | simp at this) zuq22
  replace fq36 := khv24 _ _ n_q36_y.symm fq36
  replace fq47 := khv24 _ _ n_q47_y.symm fq47
  replace fq58 := khv24 _ _ n_q58_y.symm fq58
  replace fq67 := khv24 _ _ n_q67_y.symm fq67
  replace fq81 := khv24 _ _ n_q81_y.symm fq81
  replace fq90 := khv24 _ _ n_q90_y.symm fq90
  replace fq99 := khv24 _ _ n_q99_y.symm fq99
  replace fq108 := khv24 _ _ n_q108_y.symm fq108
  replace fq117 := khv24 _ _ n_q117_y.symm fq117
  replace hG : ∀ d, d < 8 → hv24 (q47 + 1 + d) = some (.inl (cy 0, 1000, .inl (fun _ => 0))) := fun d hd => khv24 _ _ (fun z => by have z9 := hG d hd; rw [z] at z9; have := z9.symm.trans hY; first | cases this | simp at this) (hG d hd)
  replace hle : qle (qdel h y) hv24 := fun b o hb => khv24 b o (qne_of oy hb) (hle b o hb)
  replace hY : hv24 y = some (.inr (8, [.ref q7, .ref q15, .ref q22, .int 0, .int 0, .int 0, .int 0, .ref q36, .ref q47, .int 0, .int 0, .ref q58, .ref q67, .int 1, .ref q81, .ref q90, .ref q99, .ref q108, .ref q117, .null, .int 0, .null, .int 0])) := by rw [ehv24]; exact qs_self
  clear ehv24
  refine lv_aload_n hx hb dX8_init_122 rfl (lv_at hl 0 rfl) ?_
  refine lv_sipush (v := 1024) hx hb dX8_init_123 (by decide) ?_
  refine q_newaJ (N := 1024) C g67 hP hS (by decide) (by decide) (by decide) (by first | decide | omega) (by first | decide | omega) dX8_init_126 (fun q126 H eq126 hP hS => ?_)
  obtain ⟨hv25, ehv25⟩ : ∃ z : qH, z = qs hv24 q126 (.inl (cy 1, 1024, .inr (.inl (fun _ => 0)))) := ⟨_, rfl⟩
  rw [← ehv25] at hP
  have khv25 : ∀ b o, b ≠ q126 → hv24 b = some o → hv25 b = some o := by rw [ehv25]; exact fun b o nb hb => (qs_ne nb).trans hb
  have n_q126_y : y ≠ q126 := qne_of eq126 hY
  replace hY := khv25 _ _ n_q126_y hY
  have n_q126_q7 : q7 ≠ q126 := qne_of eq126 fq7
  replace fq7 := khv25 _ _ n_q126_q7 fq7
  have n_q126_q15 : q15 ≠ q126 := qne_of eq126 fq15
  replace fq15 := khv25 _ _ n_q126_q15 fq15
  have n_q126_q22 : q22 ≠ q126 := qne_of eq126 fq22
  replace fq22 := khv25 _ _ n_q126_q22 fq22
  have n_q126_kq22 : kq22 ≠ q126 := qne_of eq126 zkq22
  replace zkq22 := khv25 _ _ n_q126_kq22 zkq22
  have n_q126_uq22 : uq22 ≠ q126 := qne_of eq126 zuq22
  replace zuq22 := khv25 _ _ n_q126_uq22 zuq22
  have n_q126_q36 : q36 ≠ q126 := qne_of eq126 fq36
  replace fq36 := khv25 _ _ n_q126_q36 fq36
  have n_q126_q47 : q47 ≠ q126 := qne_of eq126 fq47
  replace fq47 := khv25 _ _ n_q126_q47 fq47
  have n_q126_q58 : q58 ≠ q126 := qne_of eq126 fq58
  replace fq58 := khv25 _ _ n_q126_q58 fq58
  have n_q126_q67 : q67 ≠ q126 := qne_of eq126 fq67
  replace fq67 := khv25 _ _ n_q126_q67 fq67
  have n_q126_q81 : q81 ≠ q126 := qne_of eq126 fq81
  replace fq81 := khv25 _ _ n_q126_q81 fq81
  have n_q126_q90 : q90 ≠ q126 := qne_of eq126 fq90
  replace fq90 := khv25 _ _ n_q126_q90 fq90
  have n_q126_q99 : q99 ≠ q126 := qne_of eq126 fq99
  replace fq99 := khv25 _ _ n_q126_q99 fq99
  have n_q126_q108 : q108 ≠ q126 := qne_of eq126 fq108
  replace fq108 := khv25 _ _ n_q126_q108 fq108
  have n_q126_q117 : q117 ≠ q126 := qne_of eq126 fq117
  replace fq117 := khv25 _ _ n_q126_q117 fq117
  replace hG : ∀ d, d < 8 → hv25 (q47 + 1 + d) = some (.inl (cy 0, 1000, .inl (fun _ => 0))) := fun d hd => khv25 _ _ (qne_of eq126 (hG d hd)) (hG d hd)
  have oq126 := qle_none hle eq126
  replace hle : qle (qdel h y) hv25 := fun b o hb => khv25 b o (qne_of oq126 hb) (hle b o hb)
  have fq126 : hv25 q126 = some (.inl (cy 1, 1024, .inr (.inl (fun _ => 0)))) := by rw [ehv25]; exact qs_self
  clear ehv25
  refine q_put C hP hS hY rfl inX8 tyX8 tyX8_ok nmX8 19 (by decide) g1186 rfl rfl rfl (Nat.le_of_ble_eq_true rfl) dX8_init_128 (fun H locs hP hS => ?_)
  replace hP : qP D N0 (qs hv25 y (.inr (8, [.ref q7, .ref q15, .ref q22, .int 0, .int 0, .int 0, .int 0, .ref q36, .ref q47, .int 0, .int 0, .ref q58, .ref q67, .int 1, .ref q81, .ref q90, .ref q99, .ref q108, .ref q117, .ref q126, .int 0, .null, .int 0]))) H := hP
  obtain ⟨hv26, ehv26⟩ : ∃ z : qH, z = qs hv25 y (.inr (8, [.ref q7, .ref q15, .ref q22, .int 0, .int 0, .int 0, .int 0, .ref q36, .ref q47, .int 0, .int 0, .ref q58, .ref q67, .int 1, .ref q81, .ref q90, .ref q99, .ref q108, .ref q117, .ref q126, .int 0, .null, .int 0])) := ⟨_, rfl⟩
  rw [← ehv26] at hP
  have khv26 : ∀ b o, b ≠ y → hv25 b = some o → hv26 b = some o := by rw [ehv26]; exact fun b o nb hb => (qs_ne nb).trans hb
  replace fq7 := khv26 _ _ n_q7_y.symm fq7
  replace fq15 := khv26 _ _ n_q15_y.symm fq15
  replace fq22 := khv26 _ _ n_q22_y.symm fq22
  replace zkq22 := khv26 _ _ (fun q => by subst q; have := zkq22.symm.trans hY; first | cases this | simp at this) zkq22
  replace zuq22 := khv26 _ _ (fun q => by subst q; have := zuq22.symm.trans hY; first | cases this | simp at this) zuq22
  replace fq36 := khv26 _ _ n_q36_y.symm fq36
  replace fq47 := khv26 _ _ n_q47_y.symm fq47
  replace fq58 := khv26 _ _ n_q58_y.symm fq58
  replace fq67 := khv26 _ _ n_q67_y.symm fq67
  replace fq81 := khv26 _ _ n_q81_y.symm fq81
  replace fq90 := khv26 _ _ n_q90_y.symm fq90
  replace fq99 := khv26 _ _ n_q99_y.symm fq99
  replace fq108 := khv26 _ _ n_q108_y.symm fq108
  replace fq117 := khv26 _ _ n_q117_y.symm fq117
  replace fq126 := khv26 _ _ n_q126_y.symm fq126
  replace hG : ∀ d, d < 8 → hv26 (q47 + 1 + d) = some (.inl (cy 0, 1000, .inl (fun _ => 0))) := fun d hd => khv26 _ _ (fun z => by have z9 := hG d hd; rw [z] at z9; have := z9.symm.trans hY; first | cases this | simp at this) (hG d hd)
  replace hle : qle (qdel h y) hv26 := fun b o hb => khv26 b o (qne_of oy hb) (hle b o hb)
  replace hY : hv26 y = some (.inr (8, [.ref q7, .ref q15, .ref q22, .int 0, .int 0, .int 0, .int 0, .ref q36, .ref q47, .int 0, .int 0, .ref q58, .ref q67, .int 1, .ref q81, .ref q90, .ref q99, .ref q108, .ref q117, .ref q126, .int 0, .null, .int 0])) := by rw [ehv26]; exact qs_self
  clear ehv26
  refine lv_aload_n hx hb dX8_init_131 rfl (lv_at hl 0 rfl) ?_
  refine lv_iconst (v := 1) hx hb dX8_init_132 (by decide) ?_
  refine q_put C hP hS hY rfl inX8 tyX8 tyX8_ok nmX8 20 (by decide) g1187 rfl rfl rfl (Nat.le_of_ble_eq_true rfl) dX8_init_133 (fun H locs hP hS => ?_)
  replace hP : qP D N0 (qs hv26 y (.inr (8, [.ref q7, .ref q15, .ref q22, .int 0, .int 0, .int 0, .int 0, .ref q36, .ref q47, .int 0, .int 0, .ref q58, .ref q67, .int 1, .ref q81, .ref q90, .ref q99, .ref q108, .ref q117, .ref q126, .int 1, .null, .int 0]))) H := hP
  obtain ⟨hv27, ehv27⟩ : ∃ z : qH, z = qs hv26 y (.inr (8, [.ref q7, .ref q15, .ref q22, .int 0, .int 0, .int 0, .int 0, .ref q36, .ref q47, .int 0, .int 0, .ref q58, .ref q67, .int 1, .ref q81, .ref q90, .ref q99, .ref q108, .ref q117, .ref q126, .int 1, .null, .int 0])) := ⟨_, rfl⟩
  rw [← ehv27] at hP
  have khv27 : ∀ b o, b ≠ y → hv26 b = some o → hv27 b = some o := by rw [ehv27]; exact fun b o nb hb => (qs_ne nb).trans hb
  replace fq7 := khv27 _ _ n_q7_y.symm fq7
  replace fq15 := khv27 _ _ n_q15_y.symm fq15
  replace fq22 := khv27 _ _ n_q22_y.symm fq22
  replace zkq22 := khv27 _ _ (fun q => by subst q; have := zkq22.symm.trans hY; first | cases this | simp at this) zkq22
  replace zuq22 := khv27 _ _ (fun q => by subst q; have := zuq22.symm.trans hY; first | cases this | simp at this) zuq22
  replace fq36 := khv27 _ _ n_q36_y.symm fq36
  replace fq47 := khv27 _ _ n_q47_y.symm fq47
  replace fq58 := khv27 _ _ n_q58_y.symm fq58
  replace fq67 := khv27 _ _ n_q67_y.symm fq67
  replace fq81 := khv27 _ _ n_q81_y.symm fq81
  replace fq90 := khv27 _ _ n_q90_y.symm fq90
  replace fq99 := khv27 _ _ n_q99_y.symm fq99
  replace fq108 := khv27 _ _ n_q108_y.symm fq108
  replace fq117 := khv27 _ _ n_q117_y.symm fq117
  replace fq126 := khv27 _ _ n_q126_y.symm fq126
  replace hG : ∀ d, d < 8 → hv27 (q47 + 1 + d) = some (.inl (cy 0, 1000, .inl (fun _ => 0))) := fun d hd => khv27 _ _ (fun z => by have z9 := hG d hd; rw [z] at z9; have := z9.symm.trans hY; first | cases this | simp at this) (hG d hd)
  replace hle : qle (qdel h y) hv27 := fun b o hb => khv27 b o (qne_of oy hb) (hle b o hb)
  replace hY : hv27 y = some (.inr (8, [.ref q7, .ref q15, .ref q22, .int 0, .int 0, .int 0, .int 0, .ref q36, .ref q47, .int 0, .int 0, .ref q58, .ref q67, .int 1, .ref q81, .ref q90, .ref q99, .ref q108, .ref q117, .ref q126, .int 1, .null, .int 0])) := by rw [ehv27]; exact qs_self
  clear ehv27
  refine lv_aload_n hx hb dX8_init_136 rfl (lv_at hl 0 rfl) ?_
  refine lv_sipush (v := 4100) hx hb dX8_init_137 (by decide) ?_
  refine q_newqA (t := .long) (t0 := 7) (N := 4100) C g1165 (by decide) rfl (fun _ z => z) hP hS (by decide) (by decide) (by decide) (by first | decide | omega) (by first | decide | omega) dX8_init_140 (fun q140 H eq140 hP hS => ?_)
  obtain ⟨hv28, ehv28⟩ : ∃ z : qH, z = qs hv27 q140 (.inl (cy 7, 4100, .inr (.inr (.inr (.inr (fun _ => none)))))) := ⟨_, rfl⟩
  rw [← ehv28] at hP
  have khv28 : ∀ b o, b ≠ q140 → hv27 b = some o → hv28 b = some o := by rw [ehv28]; exact fun b o nb hb => (qs_ne nb).trans hb
  have n_q140_y : y ≠ q140 := qne_of eq140 hY
  replace hY := khv28 _ _ n_q140_y hY
  have n_q140_q7 : q7 ≠ q140 := qne_of eq140 fq7
  replace fq7 := khv28 _ _ n_q140_q7 fq7
  have n_q140_q15 : q15 ≠ q140 := qne_of eq140 fq15
  replace fq15 := khv28 _ _ n_q140_q15 fq15
  have n_q140_q22 : q22 ≠ q140 := qne_of eq140 fq22
  replace fq22 := khv28 _ _ n_q140_q22 fq22
  have n_q140_kq22 : kq22 ≠ q140 := qne_of eq140 zkq22
  replace zkq22 := khv28 _ _ n_q140_kq22 zkq22
  have n_q140_uq22 : uq22 ≠ q140 := qne_of eq140 zuq22
  replace zuq22 := khv28 _ _ n_q140_uq22 zuq22
  have n_q140_q36 : q36 ≠ q140 := qne_of eq140 fq36
  replace fq36 := khv28 _ _ n_q140_q36 fq36
  have n_q140_q47 : q47 ≠ q140 := qne_of eq140 fq47
  replace fq47 := khv28 _ _ n_q140_q47 fq47
  have n_q140_q58 : q58 ≠ q140 := qne_of eq140 fq58
  replace fq58 := khv28 _ _ n_q140_q58 fq58
  have n_q140_q67 : q67 ≠ q140 := qne_of eq140 fq67
  replace fq67 := khv28 _ _ n_q140_q67 fq67
  have n_q140_q81 : q81 ≠ q140 := qne_of eq140 fq81
  replace fq81 := khv28 _ _ n_q140_q81 fq81
  have n_q140_q90 : q90 ≠ q140 := qne_of eq140 fq90
  replace fq90 := khv28 _ _ n_q140_q90 fq90
  have n_q140_q99 : q99 ≠ q140 := qne_of eq140 fq99
  replace fq99 := khv28 _ _ n_q140_q99 fq99
  have n_q140_q108 : q108 ≠ q140 := qne_of eq140 fq108
  replace fq108 := khv28 _ _ n_q140_q108 fq108
  have n_q140_q117 : q117 ≠ q140 := qne_of eq140 fq117
  replace fq117 := khv28 _ _ n_q140_q117 fq117
  have n_q140_q126 : q126 ≠ q140 := qne_of eq140 fq126
  replace fq126 := khv28 _ _ n_q140_q126 fq126
  replace hG : ∀ d, d < 8 → hv28 (q47 + 1 + d) = some (.inl (cy 0, 1000, .inl (fun _ => 0))) := fun d hd => khv28 _ _ (qne_of eq140 (hG d hd)) (hG d hd)
  have oq140 := qle_none hle eq140
  replace hle : qle (qdel h y) hv28 := fun b o hb => khv28 b o (qne_of oq140 hb) (hle b o hb)
  have fq140 : hv28 q140 = some (.inl (cy 7, 4100, .inr (.inr (.inr (.inr (fun _ => none)))))) := by rw [ehv28]; exact qs_self
  clear ehv28
  refine q_putF C hP hS hY rfl inX8 tyX8 tyX8_ok nmX8 21 (by decide) g1188 rfl rfl rfl rfl rfl (Nat.le_of_ble_eq_true rfl) dX8_init_143 (fun H locs hP hS => ?_)
  replace hP : qP D N0 (qs hv28 y (.inr (8, [.ref q7, .ref q15, .ref q22, .int 0, .int 0, .int 0, .int 0, .ref q36, .ref q47, .int 0, .int 0, .ref q58, .ref q67, .int 1, .ref q81, .ref q90, .ref q99, .ref q108, .ref q117, .ref q126, .int 1, .ref q140, .int 0]))) H := hP
  obtain ⟨hv29, ehv29⟩ : ∃ z : qH, z = qs hv28 y (.inr (8, [.ref q7, .ref q15, .ref q22, .int 0, .int 0, .int 0, .int 0, .ref q36, .ref q47, .int 0, .int 0, .ref q58, .ref q67, .int 1, .ref q81, .ref q90, .ref q99, .ref q108, .ref q117, .ref q126, .int 1, .ref q140, .int 0])) := ⟨_, rfl⟩
  rw [← ehv29] at hP
  have khv29 : ∀ b o, b ≠ y → hv28 b = some o → hv29 b = some o := by rw [ehv29]; exact fun b o nb hb => (qs_ne nb).trans hb
  replace fq7 := khv29 _ _ n_q7_y.symm fq7
  replace fq15 := khv29 _ _ n_q15_y.symm fq15
  replace fq22 := khv29 _ _ n_q22_y.symm fq22
  replace zkq22 := khv29 _ _ (fun q => by subst q; have := zkq22.symm.trans hY; first | cases this | simp at this) zkq22
  replace zuq22 := khv29 _ _ (fun q => by subst q; have := zuq22.symm.trans hY; first | cases this | simp at this) zuq22
  replace fq36 := khv29 _ _ n_q36_y.symm fq36
  replace fq47 := khv29 _ _ n_q47_y.symm fq47
  replace fq58 := khv29 _ _ n_q58_y.symm fq58
  replace fq67 := khv29 _ _ n_q67_y.symm fq67
  replace fq81 := khv29 _ _ n_q81_y.symm fq81
  replace fq90 := khv29 _ _ n_q90_y.symm fq90
  replace fq99 := khv29 _ _ n_q99_y.symm fq99
  replace fq108 := khv29 _ _ n_q108_y.symm fq108
  replace fq117 := khv29 _ _ n_q117_y.symm fq117
  replace fq126 := khv29 _ _ n_q126_y.symm fq126
  replace fq140 := khv29 _ _ n_q140_y.symm fq140
  replace hG : ∀ d, d < 8 → hv29 (q47 + 1 + d) = some (.inl (cy 0, 1000, .inl (fun _ => 0))) := fun d hd => khv29 _ _ (fun z => by have z9 := hG d hd; rw [z] at z9; have := z9.symm.trans hY; first | cases this | simp at this) (hG d hd)
  replace hle : qle (qdel h y) hv29 := fun b o hb => khv29 b o (qne_of oy hb) (hle b o hb)
  replace hY : hv29 y = some (.inr (8, [.ref q7, .ref q15, .ref q22, .int 0, .int 0, .int 0, .int 0, .ref q36, .ref q47, .int 0, .int 0, .ref q58, .ref q67, .int 1, .ref q81, .ref q90, .ref q99, .ref q108, .ref q117, .ref q126, .int 1, .ref q140, .int 0])) := by rw [ehv29]; exact qs_self
  clear ehv29
  refine lv_aload_n hx hb dX8_init_146 rfl (lv_at hl 0 rfl) ?_
  refine lv_iload_n hx hb dX8_init_147 rfl (lv_at hl 1 rfl) ?_
  refine lv_iconst (v := 3) hx hb dX8_init_148 (by decide) ?_
  refine lv_irem hx hb dX8_init_149 (by decide) ?_
  refine lv_iconst (v := 3) hx hb dX8_init_150 (by decide) ?_
  refine lv_iadd hx hb dX8_init_151 ?_
  refine lv_iconst (v := 3) hx hb dX8_init_152 (by decide) ?_
  refine lv_irem hx hb dX8_init_153 (by decide) ?_
  refine q_putF C hP hS hY rfl inX8 tyX8 tyX8_ok nmX8 3 (by decide) g1170 rfl rfl rfl rfl rfl (Nat.le_of_ble_eq_true rfl) dX8_init_154 (fun H locs hP hS => ?_)
  replace hP : qP D N0 (qs hv29 y (.inr (8, [.ref q7, .ref q15, .ref q22, .int (((p0 - p0 / 3 * 3) + 3) - ((p0 - p0 / 3 * 3) + 3) / 3 * 3), .int 0, .int 0, .int 0, .ref q36, .ref q47, .int 0, .int 0, .ref q58, .ref q67, .int 1, .ref q81, .ref q90, .ref q99, .ref q108, .ref q117, .ref q126, .int 1, .ref q140, .int 0]))) H := hP
  obtain ⟨hv30, ehv30⟩ : ∃ z : qH, z = qs hv29 y (.inr (8, [.ref q7, .ref q15, .ref q22, .int (((p0 - p0 / 3 * 3) + 3) - ((p0 - p0 / 3 * 3) + 3) / 3 * 3), .int 0, .int 0, .int 0, .ref q36, .ref q47, .int 0, .int 0, .ref q58, .ref q67, .int 1, .ref q81, .ref q90, .ref q99, .ref q108, .ref q117, .ref q126, .int 1, .ref q140, .int 0])) := ⟨_, rfl⟩
  rw [← ehv30] at hP
  have khv30 : ∀ b o, b ≠ y → hv29 b = some o → hv30 b = some o := by rw [ehv30]; exact fun b o nb hb => (qs_ne nb).trans hb
  replace fq7 := khv30 _ _ n_q7_y.symm fq7
  replace fq15 := khv30 _ _ n_q15_y.symm fq15
  replace fq22 := khv30 _ _ n_q22_y.symm fq22
  replace zkq22 := khv30 _ _ (fun q => by subst q; have := zkq22.symm.trans hY; first | cases this | simp at this) zkq22
  replace zuq22 := khv30 _ _ (fun q => by subst q; have := zuq22.symm.trans hY; first | cases this | simp at this) zuq22
  replace fq36 := khv30 _ _ n_q36_y.symm fq36
  replace fq47 := khv30 _ _ n_q47_y.symm fq47
  replace fq58 := khv30 _ _ n_q58_y.symm fq58
  replace fq67 := khv30 _ _ n_q67_y.symm fq67
  replace fq81 := khv30 _ _ n_q81_y.symm fq81
  replace fq90 := khv30 _ _ n_q90_y.symm fq90
  replace fq99 := khv30 _ _ n_q99_y.symm fq99
  replace fq108 := khv30 _ _ n_q108_y.symm fq108
  replace fq117 := khv30 _ _ n_q117_y.symm fq117
  replace fq126 := khv30 _ _ n_q126_y.symm fq126
  replace fq140 := khv30 _ _ n_q140_y.symm fq140
  replace hG : ∀ d, d < 8 → hv30 (q47 + 1 + d) = some (.inl (cy 0, 1000, .inl (fun _ => 0))) := fun d hd => khv30 _ _ (fun z => by have z9 := hG d hd; rw [z] at z9; have := z9.symm.trans hY; first | cases this | simp at this) (hG d hd)
  replace hle : qle (qdel h y) hv30 := fun b o hb => khv30 b o (qne_of oy hb) (hle b o hb)
  replace hY : hv30 y = some (.inr (8, [.ref q7, .ref q15, .ref q22, .int (((p0 - p0 / 3 * 3) + 3) - ((p0 - p0 / 3 * 3) + 3) / 3 * 3), .int 0, .int 0, .int 0, .ref q36, .ref q47, .int 0, .int 0, .ref q58, .ref q67, .int 1, .ref q81, .ref q90, .ref q99, .ref q108, .ref q117, .ref q126, .int 1, .ref q140, .int 0])) := by rw [ehv30]; exact qs_self
  clear ehv30
  refine lv_iconst (v := 0) hx hb dX8_init_157 (by decide) ?_
  refine lv_istore_n (lv' := [(2, .int 0), (0, .ref y), (1, .int p0)]) hx hb dX8_init_158 rfl hl (by decide) rfl (fun ls hl => ?_)
  have hRI : RI cy (qdel h y) hv30 (fun i => i = 28) (fun _ => q22) (fun _ => kq22) (fun _ => uq22) := fun i hi => ⟨⟨nkuq22, nkaq22, nuaq22, fq22, zkq22, zuq22⟩, fr22, fun k hk => ⟨fun _ => hi.trans hk.symm, fun _ => hi.trans hk.symm, fun _ => hi.trans hk.symm, nkuq22⟩⟩
  obtain ⟨ra, era⟩ : ∃ z : Nat → Nat, z = fun _ => q22 := ⟨_, rfl⟩
  obtain ⟨rk, erk⟩ : ∃ z : Nat → Nat, z = fun _ => kq22 := ⟨_, rfl⟩
  obtain ⟨rv, erv⟩ : ∃ z : Nat → Nat, z = fun _ => uq22 := ⟨_, rfl⟩
  rw [← era, ← erk, ← erv] at hRI
  have e28 : ra 28 = q22 := by rw [era]
  clear era erk erv
  generalize hv30 = hc at hP hY fq7 fq15 fq36 fq47 fq58 fq67 fq81 fq90 fq99 fq108 fq117 fq126 fq140 hle hRI hG
  obtain ⟨f, eg⟩ : ∃ g : Nat → Option Nat, g = fun _ => none := ⟨_, rfl⟩
  rw [← eg] at fq7
  clear eg
  clear n_q108_kq22 n_q108_q22 n_q108_q36 n_q108_q47 n_q108_q58 n_q108_uq22 n_q108_y n_q117_kq22 n_q117_q108 n_q117_q22 n_q117_q36 n_q117_q47 n_q117_q67 n_q117_q81 n_q117_q90 n_q117_q99 n_q117_uq22 n_q117_y n_q126_kq22 n_q126_q108 n_q126_q22 n_q126_q36 n_q126_q47 n_q126_q67 n_q126_q81 n_q126_q90 n_q126_q99 n_q126_uq22 n_q126_y n_q140_kq22 n_q140_q108 n_q140_q117 n_q140_q126 n_q140_q22 n_q140_q36 n_q140_q47 n_q140_q58 n_q140_q67 n_q140_q81 n_q140_q90 n_q140_q99 n_q140_uq22 n_q140_y n_q22_y n_q36_kq22 n_q36_q22 n_q36_uq22 n_q36_y n_q47_kq22 n_q47_q22 n_q47_q36 n_q47_uq22 n_q47_y n_q58_kq22 n_q58_q22 n_q58_q36 n_q58_q47 n_q58_uq22 n_q58_y n_q67_kq22 n_q67_q22 n_q67_q36 n_q67_q47 n_q67_q58 n_q67_uq22 n_q67_y n_q81_kq22 n_q81_q22 n_q81_q36 n_q81_q47 n_q81_q58 n_q81_uq22 n_q81_y n_q90_kq22 n_q90_q22 n_q90_q36 n_q90_q47 n_q90_q58 n_q90_uq22 n_q90_y n_q99_kq22 n_q99_q22 n_q99_q36 n_q99_q47 n_q99_q58 n_q99_uq22 n_q99_y
  replace n_q108_q15 := fun _ : Unit => n_q108_q15
  replace n_q108_q67 := fun _ : Unit => n_q108_q67
  replace n_q108_q7 := fun _ : Unit => n_q108_q7
  replace n_q108_q81 := fun _ : Unit => n_q108_q81
  replace n_q108_q90 := fun _ : Unit => n_q108_q90
  replace n_q108_q99 := fun _ : Unit => n_q108_q99
  replace n_q117_q15 := fun _ : Unit => n_q117_q15
  replace n_q117_q58 := fun _ : Unit => n_q117_q58
  replace n_q117_q7 := fun _ : Unit => n_q117_q7
  replace n_q126_q117 := fun _ : Unit => n_q126_q117
  replace n_q126_q15 := fun _ : Unit => n_q126_q15
  replace n_q126_q58 := fun _ : Unit => n_q126_q58
  replace n_q126_q7 := fun _ : Unit => n_q126_q7
  replace n_q140_q15 := fun _ : Unit => n_q140_q15
  replace n_q140_q7 := fun _ : Unit => n_q140_q7
  replace n_q15_q7 := fun _ : Unit => n_q15_q7
  replace n_q15_y := fun _ : Unit => n_q15_y
  replace n_q22_q15 := fun _ : Unit => n_q22_q15
  replace n_q22_q7 := fun _ : Unit => n_q22_q7
  replace n_q36_q15 := fun _ : Unit => n_q36_q15
  replace n_q36_q7 := fun _ : Unit => n_q36_q7
  replace n_q47_q15 := fun _ : Unit => n_q47_q15
  replace n_q47_q7 := fun _ : Unit => n_q47_q7
  replace n_q58_q15 := fun _ : Unit => n_q58_q15
  replace n_q58_q7 := fun _ : Unit => n_q58_q7
  replace n_q67_q15 := fun _ : Unit => n_q67_q15
  replace n_q67_q7 := fun _ : Unit => n_q67_q7
  replace n_q7_y := fun _ : Unit => n_q7_y
  replace n_q81_q15 := fun _ : Unit => n_q81_q15
  replace n_q81_q67 := fun _ : Unit => n_q81_q67
  replace n_q81_q7 := fun _ : Unit => n_q81_q7
  replace n_q90_q15 := fun _ : Unit => n_q90_q15
  replace n_q90_q67 := fun _ : Unit => n_q90_q67
  replace n_q90_q7 := fun _ : Unit => n_q90_q7
  replace n_q90_q81 := fun _ : Unit => n_q90_q81
  replace n_q99_q15 := fun _ : Unit => n_q99_q15
  replace n_q99_q67 := fun _ : Unit => n_q99_q67
  replace n_q99_q7 := fun _ : Unit => n_q99_q7
  replace n_q99_q81 := fun _ : Unit => n_q99_q81
  replace n_q99_q90 := fun _ : Unit => n_q99_q90
  obtain ⟨j, ej⟩ : ∃ j : Nat, j = 0 := ⟨_, rfl⟩
  replace hl : lv_has ls 3 [(2, .int (nI j)), (0, .ref y), (1, .int p0)] := by rw [ej, nI_0]; exact hl
  obtain ⟨nj, hnj⟩ : ∃ n, j + n = 24 := ⟨24, by omega⟩
  have hIf : ∀ i9, i9 < j → f i9 = some (ra i9) := fun i hi => absurd hi (by omega)
  replace hRI : RI cy (qdel h y) hc (fun i9 => i9 < j ∨ i9 = 28) ra rk rv := hRI.sub (fun i9 h9 => h9.resolve_left (by omega))
  refine W.widen (k := 24 + 3 * j) (n := 23400 + 2009 * j) (by rw [ej]; decide) (by rw [ej]; decide) ?_
  clear ej
  induction nj generalizing j ls f hc H locs ra rk rv with
  | zero =>
    refine lv_iload_n hx hb dX8_init_159 rfl (lv_at hl 0 rfl) ?_
    refine lv_bipush (v := 24) hx hb dX8_init_160 (by decide) ?_
    refine lv_icmp_ge (tgt := 184) hx hb dX8_init_162 (by decide) (fun c162 => ?_) (fun c162 => ?_)
    · refine lv_iconst (v := 0) hx hb dX8_init_184 (by decide) ?_
      refine lv_istore_n (lv' := [(2, .int 0), (0, .ref y), (1, .int p0)]) hx hb dX8_init_185 rfl hl (by decide) rfl (fun ls hl => ?_)
      obtain ⟨g, eg⟩ : ∃ g : Nat → Option Nat, g = fun _ => none := ⟨_, rfl⟩
      rw [← eg] at fq15
      clear eg
      obtain ⟨i, ei⟩ : ∃ j : Nat, j = 0 := ⟨_, rfl⟩
      replace hl : lv_has ls 3 [(2, .int (nI i)), (0, .ref y), (1, .int p0)] := by rw [ei, nI_0]; exact hl
      obtain ⟨ni, hni⟩ : ∃ n, i + n = 4 := ⟨4, by omega⟩
      replace hIf : ∀ i9, i9 < 24 → f i9 = some (ra i9) := fun i9 h9 => hIf i9 (by omega)
      have hIg : ∀ i9, i9 < i → g i9 = some (ra (24 + i9)) := fun i hi => absurd hi (by omega)
      replace hRI : RI cy (qdel h y) hc (fun i9 => i9 < 24 + i ∨ i9 = 28) ra rk rv := hRI.sub (fun i9 h9 => h9.imp (fun z => by omega) id)
      refine W.widen (k := 96 + 3 * i) (n := 71616 + 2009 * i) (by omega) (by omega) ?_
      clear ei
      induction ni generalizing i ls g hc H locs ra rk rv with
      | zero =>
        refine lv_iload_n hx hb dX8_init_186 rfl (lv_at hl 0 rfl) ?_
        refine lv_iconst (v := 4) hx hb dX8_init_187 (by decide) ?_
        refine lv_icmp_ge (tgt := 210) hx hb dX8_init_188 (by decide) (fun c188 => ?_) (fun c188 => ?_)
        · obtain rfl : i = 4 := by omega
          have hpa : ∀ d, d < 8 → hc (q47 + 1 + d) = some (.inl (cy 0, 1000, .inl (fun _ => 0))) ∧ q47 + 1 + d ≠ q36 ∧ qdel h y (q47 + 1 + d) = none := fun d hd => ⟨hG d hd, hN d, hO d hd⟩
          exact q_vret C hP hS ⟨rfl, q7, q15, q36, q47, q58, q67, q81, q90, q99, q108, q117, q126, q140, _, f, g, _, _, ra, rk, rv, (fun d => q47 + 1 + d), rfl, by rw [e28]; exact hY, ⟨fq7, hIf⟩, ⟨fq15, fun i9 h9 => hIg i9 (by omega)⟩, hRI.sub (fun i9 h9 => by omega), ⟨fq47, fun d hd => if_pos hd⟩, ⟨hpa, fun i9 j9 _ _ z => Nat.add_left_cancel z⟩, fq36, fq140, ⟨fq58, fq67, fq81, fq90, fq99, fq108, fq117, fq126⟩, ⟨n_q90_q81 (), n_q99_q81 (), n_q108_q81 (), n_q99_q90 (), n_q108_q90 (), n_q108_q99 (), n_q126_q117 ()⟩, ⟨n_q81_q67 (), n_q90_q67 (), n_q99_q67 (), n_q108_q67 (), n_q117_q58 (), n_q126_q58 ()⟩, ⟨oq7, oq15, oq36, oq47, oq140, oq58, oq67, oq81, oq90, oq99, oq108, oq117, oq126⟩, hle⟩ (by omega) dX8_init_210
        · exact absurd ((nI_leI (a := 4) (b := i) (by omega) (by omega)).mpr (by omega)) c188
      | succ ni ihi =>
        refine lv_iload_n hx hb dX8_init_186 rfl (lv_at hl 0 rfl) ?_
        refine lv_iconst (v := 4) hx hb dX8_init_187 (by decide) ?_
        refine lv_icmp_ge (tgt := 210) hx hb dX8_init_188 (by decide) (fun c188 => ?_) (fun c188 => ?_)
        · exact absurd ((nI_leI (a := 4) (b := i) (by omega) (by omega)).mp c188) (by omega)
        · refine lv_aload_n hx hb dX8_init_191 rfl (lv_at hl 1 rfl) ?_
          refine q_get C hP hY rfl inX8 1 (by decide) g1168 rfl dX8_init_192 ?_
          refine lv_iload_n hx hb dX8_init_195 rfl (lv_at hl 0 rfl) ?_
          refine q_new (ci := 7) (fs := [.null, .null, .int 0, .int 0, .int 0, .int 0, .int 0]) C hP hS rfl inX7 tyX7 tyX7_ok g1130 g1132 g5 (fun j hj => by rcases (show j = 0 ∨ j = 1 ∨ j = 2 ∨ j = 3 ∨ j = 4 ∨ j = 5 ∨ j = 6 by omega) with rfl | rfl | rfl | rfl | rfl | rfl | rfl <;> rfl) (by first | decide | omega) (by first | decide | omega) dX8_init_196 (fun q196 H eq196 hP hS => ?_)
          obtain ⟨hv31, ehv31⟩ : ∃ z : qH, z = qs hc q196 (.inr (7, [.null, .null, .int 0, .int 0, .int 0, .int 0, .int 0])) := ⟨_, rfl⟩
          rw [← ehv31] at hP
          have khv31 : ∀ b o, b ≠ q196 → hc b = some o → hv31 b = some o := by rw [ehv31]; exact fun b o nb hb => (qs_ne nb).trans hb
          have n_q196_y : y ≠ q196 := qne_of eq196 hY
          replace hY := khv31 _ _ n_q196_y hY
          have n_q196_q7 : q7 ≠ q196 := qne_of eq196 fq7
          replace fq7 := khv31 _ _ n_q196_q7 fq7
          have n_q196_q15 : q15 ≠ q196 := qne_of eq196 fq15
          replace fq15 := khv31 _ _ n_q196_q15 fq15
          have n_q196_q36 : q36 ≠ q196 := qne_of eq196 fq36
          replace fq36 := khv31 _ _ n_q196_q36 fq36
          have n_q196_q47 : q47 ≠ q196 := qne_of eq196 fq47
          replace fq47 := khv31 _ _ n_q196_q47 fq47
          have n_q196_q58 : q58 ≠ q196 := qne_of eq196 fq58
          replace fq58 := khv31 _ _ n_q196_q58 fq58
          have n_q196_q67 : q67 ≠ q196 := qne_of eq196 fq67
          replace fq67 := khv31 _ _ n_q196_q67 fq67
          have n_q196_q81 : q81 ≠ q196 := qne_of eq196 fq81
          replace fq81 := khv31 _ _ n_q196_q81 fq81
          have n_q196_q90 : q90 ≠ q196 := qne_of eq196 fq90
          replace fq90 := khv31 _ _ n_q196_q90 fq90
          have n_q196_q99 : q99 ≠ q196 := qne_of eq196 fq99
          replace fq99 := khv31 _ _ n_q196_q99 fq99
          have n_q196_q108 : q108 ≠ q196 := qne_of eq196 fq108
          replace fq108 := khv31 _ _ n_q196_q108 fq108
          have n_q196_q117 : q117 ≠ q196 := qne_of eq196 fq117
          replace fq117 := khv31 _ _ n_q196_q117 fq117
          have n_q196_q126 : q126 ≠ q196 := qne_of eq196 fq126
          replace fq126 := khv31 _ _ n_q196_q126 fq126
          have n_q196_q140 : q140 ≠ q196 := qne_of eq196 fq140
          replace fq140 := khv31 _ _ n_q196_q140 fq140
          replace hG : ∀ d, d < 8 → hv31 (q47 + 1 + d) = some (.inl (cy 0, 1000, .inl (fun _ => 0))) := fun d hd => khv31 _ _ (qne_of eq196 (hG d hd)) (hG d hd)
          have oq196 := qle_none hle eq196
          replace hle : qle (qdel h y) hv31 := fun b o hb => khv31 b o (qne_of oq196 hb) (hle b o hb)
          have fq196 : hv31 q196 = some (.inr (7, [.null, .null, .int 0, .int 0, .int 0, .int 0, .int 0])) := by rw [ehv31]; exact qs_self
          clear ehv31
          refine lv_dup hx hb dX8_init_199 rfl ?_
          refine q_callIN (host := RX8) (rest := [.ref q196, .int (nI i), .ref q15]) C (c_X7_init l D cy N0 (hv31) q196 fq196) kX7_init (by decide +kernel) g1134 rfl hP hS (by first | decide | omega) hl.1 rfl (by simp [q_catrf, q_cati, q_catl, q_cata, q_catn]) (by first | decide | omega) dX8_init_200 (fun v hh2 H locs hq hP hS => ?_)
          obtain ⟨rfl, kq196, uq196, nkuq196, nkaq196, nuaq196, okq196, ouq196, zq196, zkq196, zuq196, hlhh2⟩ := hq
          replace hY := hlhh2 _ _ (qdel_at hY n_q196_y)
          replace fq7 := hlhh2 _ _ (qdel_at fq7 n_q196_q7)
          replace fq15 := hlhh2 _ _ (qdel_at fq15 n_q196_q15)
          replace fq36 := hlhh2 _ _ (qdel_at fq36 n_q196_q36)
          replace fq47 := hlhh2 _ _ (qdel_at fq47 n_q196_q47)
          replace fq58 := hlhh2 _ _ (qdel_at fq58 n_q196_q58)
          replace fq67 := hlhh2 _ _ (qdel_at fq67 n_q196_q67)
          replace fq81 := hlhh2 _ _ (qdel_at fq81 n_q196_q81)
          replace fq90 := hlhh2 _ _ (qdel_at fq90 n_q196_q90)
          replace fq99 := hlhh2 _ _ (qdel_at fq99 n_q196_q99)
          replace fq108 := hlhh2 _ _ (qdel_at fq108 n_q196_q108)
          replace fq117 := hlhh2 _ _ (qdel_at fq117 n_q196_q117)
          replace fq126 := hlhh2 _ _ (qdel_at fq126 n_q196_q126)
          replace fq140 := hlhh2 _ _ (qdel_at fq140 n_q196_q140)
          replace hG : ∀ d, d < 8 → hh2 (q47 + 1 + d) = some (.inl (cy 0, 1000, .inl (fun _ => 0))) := fun d hd => hlhh2 _ _ (qdel_at (hG d hd) (fun z => by have z9 := hG d hd; rw [z] at z9; have := z9.symm.trans fq196; first | cases this | simp at this))
          replace fq196 := zq196
          have frq196 : qdel h y q196 = none ∧ qdel h y kq196 = none ∧ qdel h y uq196 = none := ⟨oq196, nfresh hle okq196, nfresh hle ouq196⟩
          have fcq196 : hc q196 = none ∧ hc kq196 = none ∧ hc uq196 = none := ⟨eq196, nfresh (h0 := hc) (fun a o z => khv31 _ _ (qne_of eq196 z) z) okq196, nfresh (h0 := hc) (fun a o z => khv31 _ _ (qne_of eq196 z) z) ouq196⟩
          have kpq196 : ∀ a9 o9, hc a9 = some o9 → hh2 a9 = some o9 := fun a9 o9 h9 => hlhh2 _ _ (qdel_at (khv31 _ _ (qne_of eq196 h9) h9) (qne_of eq196 h9))
          replace hle := qle_del hle oq196 hlhh2
          have fq150 := fq15
          refine q_aastN (rc := (RX7, TX7, 7)) C rfl rfl hP hS fq15 fq196 (by omega) (by omega) dX8_init_203 (fun H locs hP hS => ?_)
          obtain ⟨hv32, ehv32⟩ : ∃ z : qH, z = qs hh2 q15 (.inl (cy 5, 4, .inr (.inr (.inr (.inr (va_up g i (some q196))))))) := ⟨_, rfl⟩
          rw [← ehv32] at hP
          have khv32 : ∀ b o, b ≠ q15 → hh2 b = some o → hv32 b = some o := by rw [ehv32]; exact fun b o nb hb => (qs_ne nb).trans hb
          replace hY := khv32 _ _ (n_q15_y ()) hY
          replace fq7 := khv32 _ _ (n_q15_q7 ()) fq7
          replace fq36 := khv32 _ _ (n_q36_q15 ()).symm fq36
          replace fq47 := khv32 _ _ (n_q47_q15 ()).symm fq47
          replace fq58 := khv32 _ _ (n_q58_q15 ()).symm fq58
          replace fq67 := khv32 _ _ (n_q67_q15 ()).symm fq67
          replace fq81 := khv32 _ _ (n_q81_q15 ()).symm fq81
          replace fq90 := khv32 _ _ (n_q90_q15 ()).symm fq90
          replace fq99 := khv32 _ _ (n_q99_q15 ()).symm fq99
          replace fq108 := khv32 _ _ (n_q108_q15 ()).symm fq108
          replace fq117 := khv32 _ _ (n_q117_q15 ()).symm fq117
          replace fq126 := khv32 _ _ (n_q126_q15 ()).symm fq126
          replace fq140 := khv32 _ _ (n_q140_q15 ()).symm fq140
          replace fq196 := khv32 _ _ n_q196_q15.symm fq196
          replace hG : ∀ d, d < 8 → hv32 (q47 + 1 + d) = some (.inl (cy 0, 1000, .inl (fun _ => 0))) := fun d hd => khv32 _ _ (fun z => by have z9 := hG d hd; rw [z] at z9; have := z9.symm.trans fq15; first | cases this | simp at this) (hG d hd)
          replace hle : qle (qdel h y) hv32 := fun b o hb => khv32 b o (qne_of oq15 hb) (hle b o hb)
          replace fq15 : hv32 q15 = some (.inl (cy 5, 4, .inr (.inr (.inr (.inr (va_up g i (some q196))))))) := by rw [ehv32]; exact qs_self
          clear ehv32
          refine lv_iinc (v := nI (i + 1)) (lv' := [(2, .int (nI (i + 1))), (0, .ref y), (1, .int p0)]) hx hb dX8_init_204 hl (k := 0) rfl (nI_1 i) (by decide) rfl (fun ls hl => ?_)
          refine lv_goto (tgt := 186) hx hb dX8_init_207 (by decide) ?_
          clear n_q196_q108 n_q196_q117 n_q196_q126 n_q196_q140 n_q196_q15 n_q196_q36 n_q196_q47 n_q196_q58 n_q196_q67 n_q196_q7 n_q196_q81 n_q196_q90 n_q196_q99 n_q196_y
          refine W.widen (k := 96 + 3 * (i + 1)) (n := 71616 + 2009 * (i + 1)) (by omega) (by omega) ?_
          have hk9 : ∀ a9 o9, hc a9 = some o9 → ((∃ fs, o9 = .inr (7, fs)) ∨ ∃ f, o9 = qJr cy f) → hv32 a9 = some o9 := fun a9 o9 h9 c9 => khv32 _ _ (fun q => by subst q; have := (kpq196 _ _ h9).symm.trans fq150; rcases c9 with ⟨fs, rfl⟩ | ⟨f, rfl⟩ <;> (first | cases this | (unfold qJr at this; simp at this))) (kpq196 _ _ h9)
          have hw9 : qRw cy hv32 q196 kq196 uq196 (-1) 0 0 0 (-1) (fun _ => 0) (fun _ => 0) := ⟨nkuq196, nkaq196, nuaq196, fq196, khv32 _ _ (fun q => by subst q; have := zkq196.symm.trans fq150; simp at this) zkq196, khv32 _ _ (fun q => by subst q; have := zuq196.symm.trans fq150; simp at this) zuq196⟩
          have hR9 := hRI.add (i0 := (24 + i)) (fun z => by omega) hk9 hw9 frq196 fcq196
          refine ihi (ls := ls) (i := i + 1) (hP := hP) (hY := hY) (fq7 := fq7) (fq15 := fq15) (fq36 := fq36) (fq47 := fq47) (fq58 := fq58) (fq67 := fq67) (fq81 := fq81) (fq90 := fq90) (fq99 := fq99) (fq108 := fq108) (fq117 := fq117) (fq126 := fq126) (fq140 := fq140) (hle := hle) (hG := hG) (hS := hS) (hl := lv_sub hl [0, 1, 2] rfl) (hni := by omega) (ra := qU ra (24 + i) q196) (rk := qU rk (24 + i) kq196) (rv := qU rv (24 + i) uq196) (hRI := hR9.sub (fun i9 h9 => by omega)) (e28 := (qU_ne (by omega)).trans e28) (hIf := ?_) (hIg := ?_)
          · intro i9 hi9; rw [qU_ne (by omega)]; exact hIf i9 hi9
          · intro i9 hi9
            rcases Nat.lt_succ_iff_lt_or_eq.mp hi9 with hi9 | rfl
            · rw [qU_ne (by omega)]; exact (va_up_ne g _ (by omega)).trans (hIg i9 hi9)
            · rw [qU_at]; exact va_up_self g _ _
    · exact absurd ((nI_leI (a := 24) (b := j) (by omega) (by omega)).mpr (by omega)) c162
  | succ nj ihj =>
    refine lv_iload_n hx hb dX8_init_159 rfl (lv_at hl 0 rfl) ?_
    refine lv_bipush (v := 24) hx hb dX8_init_160 (by decide) ?_
    refine lv_icmp_ge (tgt := 184) hx hb dX8_init_162 (by decide) (fun c162 => ?_) (fun c162 => ?_)
    · exact absurd ((nI_leI (a := 24) (b := j) (by omega) (by omega)).mp c162) (by omega)
    · refine lv_aload_n hx hb dX8_init_165 rfl (lv_at hl 1 rfl) ?_
      refine q_get C hP hY rfl inX8 0 (by decide) g1167 rfl dX8_init_166 ?_
      refine lv_iload_n hx hb dX8_init_169 rfl (lv_at hl 0 rfl) ?_
      refine q_new (ci := 7) (fs := [.null, .null, .int 0, .int 0, .int 0, .int 0, .int 0]) C hP hS rfl inX7 tyX7 tyX7_ok g1130 g1132 g5 (fun j hj => by rcases (show j = 0 ∨ j = 1 ∨ j = 2 ∨ j = 3 ∨ j = 4 ∨ j = 5 ∨ j = 6 by omega) with rfl | rfl | rfl | rfl | rfl | rfl | rfl <;> rfl) (by first | decide | omega) (by first | decide | omega) dX8_init_170 (fun q170 H eq170 hP hS => ?_)
      obtain ⟨hv33, ehv33⟩ : ∃ z : qH, z = qs hc q170 (.inr (7, [.null, .null, .int 0, .int 0, .int 0, .int 0, .int 0])) := ⟨_, rfl⟩
      rw [← ehv33] at hP
      have khv33 : ∀ b o, b ≠ q170 → hc b = some o → hv33 b = some o := by rw [ehv33]; exact fun b o nb hb => (qs_ne nb).trans hb
      have n_q170_y : y ≠ q170 := qne_of eq170 hY
      replace hY := khv33 _ _ n_q170_y hY
      have n_q170_q7 : q7 ≠ q170 := qne_of eq170 fq7
      replace fq7 := khv33 _ _ n_q170_q7 fq7
      have n_q170_q15 : q15 ≠ q170 := qne_of eq170 fq15
      replace fq15 := khv33 _ _ n_q170_q15 fq15
      have n_q170_q36 : q36 ≠ q170 := qne_of eq170 fq36
      replace fq36 := khv33 _ _ n_q170_q36 fq36
      have n_q170_q47 : q47 ≠ q170 := qne_of eq170 fq47
      replace fq47 := khv33 _ _ n_q170_q47 fq47
      have n_q170_q58 : q58 ≠ q170 := qne_of eq170 fq58
      replace fq58 := khv33 _ _ n_q170_q58 fq58
      have n_q170_q67 : q67 ≠ q170 := qne_of eq170 fq67
      replace fq67 := khv33 _ _ n_q170_q67 fq67
      have n_q170_q81 : q81 ≠ q170 := qne_of eq170 fq81
      replace fq81 := khv33 _ _ n_q170_q81 fq81
      have n_q170_q90 : q90 ≠ q170 := qne_of eq170 fq90
      replace fq90 := khv33 _ _ n_q170_q90 fq90
      have n_q170_q99 : q99 ≠ q170 := qne_of eq170 fq99
      replace fq99 := khv33 _ _ n_q170_q99 fq99
      have n_q170_q108 : q108 ≠ q170 := qne_of eq170 fq108
      replace fq108 := khv33 _ _ n_q170_q108 fq108
      have n_q170_q117 : q117 ≠ q170 := qne_of eq170 fq117
      replace fq117 := khv33 _ _ n_q170_q117 fq117
      have n_q170_q126 : q126 ≠ q170 := qne_of eq170 fq126
      replace fq126 := khv33 _ _ n_q170_q126 fq126
      have n_q170_q140 : q140 ≠ q170 := qne_of eq170 fq140
      replace fq140 := khv33 _ _ n_q170_q140 fq140
      replace hG : ∀ d, d < 8 → hv33 (q47 + 1 + d) = some (.inl (cy 0, 1000, .inl (fun _ => 0))) := fun d hd => khv33 _ _ (qne_of eq170 (hG d hd)) (hG d hd)
      have oq170 := qle_none hle eq170
      replace hle : qle (qdel h y) hv33 := fun b o hb => khv33 b o (qne_of oq170 hb) (hle b o hb)
      have fq170 : hv33 q170 = some (.inr (7, [.null, .null, .int 0, .int 0, .int 0, .int 0, .int 0])) := by rw [ehv33]; exact qs_self
      clear ehv33
      refine lv_dup hx hb dX8_init_173 rfl ?_
      refine q_callIN (host := RX8) (rest := [.ref q170, .int (nI j), .ref q7]) C (c_X7_init l D cy N0 (hv33) q170 fq170) kX7_init (by decide +kernel) g1134 rfl hP hS (by first | decide | omega) hl.1 rfl (by simp [q_catrf, q_cati, q_catl, q_cata, q_catn]) (by first | decide | omega) dX8_init_174 (fun v hh3 H locs hq hP hS => ?_)
      obtain ⟨rfl, kq170, uq170, nkuq170, nkaq170, nuaq170, okq170, ouq170, zq170, zkq170, zuq170, hlhh3⟩ := hq
      replace hY := hlhh3 _ _ (qdel_at hY n_q170_y)
      replace fq7 := hlhh3 _ _ (qdel_at fq7 n_q170_q7)
      replace fq15 := hlhh3 _ _ (qdel_at fq15 n_q170_q15)
      replace fq36 := hlhh3 _ _ (qdel_at fq36 n_q170_q36)
      replace fq47 := hlhh3 _ _ (qdel_at fq47 n_q170_q47)
      replace fq58 := hlhh3 _ _ (qdel_at fq58 n_q170_q58)
      replace fq67 := hlhh3 _ _ (qdel_at fq67 n_q170_q67)
      replace fq81 := hlhh3 _ _ (qdel_at fq81 n_q170_q81)
      replace fq90 := hlhh3 _ _ (qdel_at fq90 n_q170_q90)
      replace fq99 := hlhh3 _ _ (qdel_at fq99 n_q170_q99)
      replace fq108 := hlhh3 _ _ (qdel_at fq108 n_q170_q108)
      replace fq117 := hlhh3 _ _ (qdel_at fq117 n_q170_q117)
      replace fq126 := hlhh3 _ _ (qdel_at fq126 n_q170_q126)
      replace fq140 := hlhh3 _ _ (qdel_at fq140 n_q170_q140)
      replace hG : ∀ d, d < 8 → hh3 (q47 + 1 + d) = some (.inl (cy 0, 1000, .inl (fun _ => 0))) := fun d hd => hlhh3 _ _ (qdel_at (hG d hd) (fun z => by have z9 := hG d hd; rw [z] at z9; have := z9.symm.trans fq170; first | cases this | simp at this))
      replace fq170 := zq170
      have frq170 : qdel h y q170 = none ∧ qdel h y kq170 = none ∧ qdel h y uq170 = none := ⟨oq170, nfresh hle okq170, nfresh hle ouq170⟩
      have fcq170 : hc q170 = none ∧ hc kq170 = none ∧ hc uq170 = none := ⟨eq170, nfresh (h0 := hc) (fun a o z => khv33 _ _ (qne_of eq170 z) z) okq170, nfresh (h0 := hc) (fun a o z => khv33 _ _ (qne_of eq170 z) z) ouq170⟩
      have kpq170 : ∀ a9 o9, hc a9 = some o9 → hh3 a9 = some o9 := fun a9 o9 h9 => hlhh3 _ _ (qdel_at (khv33 _ _ (qne_of eq170 h9) h9) (qne_of eq170 h9))
      replace hle := qle_del hle oq170 hlhh3
      have fq70 := fq7
      refine q_aastN (rc := (RX7, TX7, 7)) C rfl rfl hP hS fq7 fq170 (by omega) (by omega) dX8_init_177 (fun H locs hP hS => ?_)
      obtain ⟨hv34, ehv34⟩ : ∃ z : qH, z = qs hh3 q7 (.inl (cy 5, 24, .inr (.inr (.inr (.inr (va_up f j (some q170))))))) := ⟨_, rfl⟩
      rw [← ehv34] at hP
      have khv34 : ∀ b o, b ≠ q7 → hh3 b = some o → hv34 b = some o := by rw [ehv34]; exact fun b o nb hb => (qs_ne nb).trans hb
      replace hY := khv34 _ _ (n_q7_y ()) hY
      replace fq15 := khv34 _ _ (n_q15_q7 ()).symm fq15
      replace fq36 := khv34 _ _ (n_q36_q7 ()).symm fq36
      replace fq47 := khv34 _ _ (n_q47_q7 ()).symm fq47
      replace fq58 := khv34 _ _ (n_q58_q7 ()).symm fq58
      replace fq67 := khv34 _ _ (n_q67_q7 ()).symm fq67
      replace fq81 := khv34 _ _ (n_q81_q7 ()).symm fq81
      replace fq90 := khv34 _ _ (n_q90_q7 ()).symm fq90
      replace fq99 := khv34 _ _ (n_q99_q7 ()).symm fq99
      replace fq108 := khv34 _ _ (n_q108_q7 ()).symm fq108
      replace fq117 := khv34 _ _ (n_q117_q7 ()).symm fq117
      replace fq126 := khv34 _ _ (n_q126_q7 ()).symm fq126
      replace fq140 := khv34 _ _ (n_q140_q7 ()).symm fq140
      replace fq170 := khv34 _ _ n_q170_q7.symm fq170
      replace hG : ∀ d, d < 8 → hv34 (q47 + 1 + d) = some (.inl (cy 0, 1000, .inl (fun _ => 0))) := fun d hd => khv34 _ _ (fun z => by have z9 := hG d hd; rw [z] at z9; have := z9.symm.trans fq7; first | cases this | simp at this) (hG d hd)
      replace hle : qle (qdel h y) hv34 := fun b o hb => khv34 b o (qne_of oq7 hb) (hle b o hb)
      replace fq7 : hv34 q7 = some (.inl (cy 5, 24, .inr (.inr (.inr (.inr (va_up f j (some q170))))))) := by rw [ehv34]; exact qs_self
      clear ehv34
      refine lv_iinc (v := nI (j + 1)) (lv' := [(2, .int (nI (j + 1))), (0, .ref y), (1, .int p0)]) hx hb dX8_init_178 hl (k := 0) rfl (nI_1 j) (by decide) rfl (fun ls hl => ?_)
      refine lv_goto (tgt := 159) hx hb dX8_init_181 (by decide) ?_
      clear n_q170_q108 n_q170_q117 n_q170_q126 n_q170_q140 n_q170_q15 n_q170_q36 n_q170_q47 n_q170_q58 n_q170_q67 n_q170_q7 n_q170_q81 n_q170_q90 n_q170_q99 n_q170_y
      refine W.widen (k := 24 + 3 * (j + 1)) (n := 23400 + 2009 * (j + 1)) (by omega) (by omega) ?_
      have hk9 : ∀ a9 o9, hc a9 = some o9 → ((∃ fs, o9 = .inr (7, fs)) ∨ ∃ f, o9 = qJr cy f) → hv34 a9 = some o9 := fun a9 o9 h9 c9 => khv34 _ _ (fun q => by subst q; have := (kpq170 _ _ h9).symm.trans fq70; rcases c9 with ⟨fs, rfl⟩ | ⟨f, rfl⟩ <;> (first | cases this | (unfold qJr at this; simp at this))) (kpq170 _ _ h9)
      have hw9 : qRw cy hv34 q170 kq170 uq170 (-1) 0 0 0 (-1) (fun _ => 0) (fun _ => 0) := ⟨nkuq170, nkaq170, nuaq170, fq170, khv34 _ _ (fun q => by subst q; have := zkq170.symm.trans fq70; simp at this) zkq170, khv34 _ _ (fun q => by subst q; have := zuq170.symm.trans fq70; simp at this) zuq170⟩
      have hR9 := hRI.add (i0 := j) (fun z => by omega) hk9 hw9 frq170 fcq170
      refine ihj (ls := ls) (j := j + 1) (hP := hP) (hY := hY) (fq7 := fq7) (fq15 := fq15) (fq36 := fq36) (fq47 := fq47) (fq58 := fq58) (fq67 := fq67) (fq81 := fq81) (fq90 := fq90) (fq99 := fq99) (fq108 := fq108) (fq117 := fq117) (fq126 := fq126) (fq140 := fq140) (hle := hle) (hG := hG) (hS := hS) (hl := lv_sub hl [0, 1, 2] rfl) (hnj := by omega) (ra := qU ra j q170) (rk := qU rk j kq170) (rv := qU rv j uq170) (hRI := hR9.sub (fun i9 h9 => by omega)) (e28 := (qU_ne (by omega)).trans e28) (hIf := ?_)
      intro i9 hi9
      rcases Nat.lt_succ_iff_lt_or_eq.mp hi9 with hi9 | rfl
      · rw [qU_ne (by omega)]; exact (va_up_ne f _ (by omega)).trans (hIf i9 hi9)
      · rw [qU_at]; exact va_up_self f _ _

