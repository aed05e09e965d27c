/-- E is what the code c names -/
def zXc (l : List (Int32 × String)) (E : String) (c : Int32) : Prop := (c, E) ∈ l
theorem qle.dom {h h' : qH} (k : qle h h') : ∀ b, h' b = none → h b = none := fun b z => by
  cases e : h b with
  | none => rfl
  | some o => rw [k b o e] at z; cases z
theorem zV.le {cy : Nat → ClassId} {h h' : qH} {Im Ok : Nat → Prop} {mk : Int32} {g : Nat → Nat} {s : qSlot} {x1 x2 x3 x4 : Option Nat} {dv : Int32} (z : zV cy h Im Ok mk g s x1 x2 x3 x4 dv) (k : qle h h') : zV cy h' Im Ok mk g s x1 x2 x3 x4 dv := z.keep (fun b fs e => k _ _ e) (fun b fs e => k _ _ e) (fun b o e _ => k _ _ e) (fun _ => rfl)
theorem zV.empty {cy : Nat → ClassId} {h : qH} {Im Ok : Nat → Prop} {mk : Int32} {g : Nat → Nat} {k : Int32} (hk : k ∈ [(0 : Int32), 1, 2, 3, 4, 5, 6]) : zV cy h Im Ok mk g (k, [], 0, 0) none none none none 0 := by
  simp only [List.mem_cons, List.not_mem_nil, or_false] at hk
  rcases hk with rfl | rfl | rfl | rfl | rfl | rfl | rfl
  · exact Or.inl ⟨Or.inl rfl, rfl, rfl, rfl, rfl, 0, qBr.nil⟩
  · exact Or.inr (Or.inr (Or.inr (Or.inl ⟨Or.inl rfl, rfl, rfl, rfl, rfl, Or.inl ⟨rfl, rfl⟩⟩)))
  · exact Or.inr (Or.inr (Or.inr (Or.inl ⟨Or.inr rfl, rfl, rfl, rfl, rfl, Or.inl ⟨rfl, rfl⟩⟩)))
  · exact Or.inr (Or.inl ⟨rfl, rfl, rfl, rfl, rfl, 0, qBr.nil⟩)
  · exact Or.inl ⟨Or.inr rfl, rfl, rfl, rfl, rfl, 0, qBr.nil⟩
  · exact Or.inr (Or.inr (Or.inl ⟨rfl, rfl, rfl, rfl, rfl, 0, [], qPi.nil, List.Perm.refl _⟩))
  · exact Or.inr (Or.inr (Or.inr (Or.inr ⟨rfl, rfl, rfl, rfl, zO_z.symm, rfl⟩)))
theorem zkd06 {k : Int32} (h1 : ¬ k < 0) (h2 : k ≤ 6) : k ∈ [(0 : Int32), 1, 2, 3, 4, 5, 6] := by
  obtain ⟨n, hn, rfl⟩ := nI_of2 (M := 6) (n := 6) (by decide) h1 h2
  have : n = 0 ∨ n = 1 ∨ n = 2 ∨ n = 3 ∨ n = 4 ∨ n = 5 ∨ n = 6 := by omega
  rcases this with rfl | rfl | rfl | rfl | rfl | rfl | rfl <;> decide
theorem dX6_size_7 : decode cX6_size 7 = .ok (.invokevirtual 59, 3) := by decide +kernel
theorem dX6_size_10 : decode cX6_size 10 = .ok (.ireturn, 1) := by decide +kernel
set_option maxRecDepth 100000 in
set_option maxHeartbeats 4000000 in
theorem z_size (l : Launch) (D : va_G) (cy : Nat → ClassId) (N0 : Nat) (h : qH) (x : Nat) (mk : Int32) (sl bl kr vr Ed : Nat) (fs : Nat → Option Nat) (bd br eb : Nat → Nat) (Im : Nat → Prop) (Xb : Nat → Nat → Prop) (g : Nat → Nat) (S : Nat → qSlot) (W : qWo) (Bd sk Rn : Nat) (dp : Nat → Nat) (p0 : Int32) (hz : zQ cy h x mk sl bl kr vr Ed fs bd br eb Im Xb g S W) (hI : ∀ i, i < 28 → qOk (S i).1 (S i).2.1) (hLn : ∀ i, i < 28 → (S i).2.1.length ≤ 1000) (hV : qWv Bd sk Rn dp W) : qC l D cy N0 yX6_size cX6_size 2 (some .int) 10 170 4 30 [.ref x, .int p0] h (fun v h' => (xs_size S p0).1 = 0 ∧ v = some (.int (xs_size S p0).2) ∧ zPo cy h x mk sl bl kr vr Ed bd br Im Xb S W h') (fun E h' => zXc [(1, "java/lang/IllegalArgumentException"), (2, "java/lang/IllegalStateException")] E (xs_size S p0).1 ∧ zPo cy h x mk sl bl kr vr Ed bd br Im Xb S W h') := by
  refine q_ofW (by decide) (by exact Nat.le_of_ble_eq_true rfl) ?_
  intro p e s m below meth c ls C hP hl
  have hx := C.1
  have hb := C.2.1
  have hS : va_S (qA N0) s.heap s.heap [] := va_S.rf
  have hl : lv_has ls 2 [(0, .ref x), (1, .int p0)] := hl
  have hf : zFr h h x sl kr vr bd br Xb := zFr.rf
  refine lv_aload_n hx hb dX6_size_0 rfl (lv_at hl 0 rfl) ?_
  refine lv_iload_n hx hb dX6_size_1 rfl (lv_at hl 1 rfl) ?_
  refine lv_bipush (v := nI 63) hx hb dX6_size_2 (by decide) ?_
  refine q_callV (rest := []) C (z_heldIn l D N0 p0 63 hz hI) kX6_heldIn g243 g245 rfl gp2 g1 hP hS hz.1.1 (by first | decide | omega) hl.1 rfl (by decide) (by first | decide | omega) dX6_size_4 (fun q ce E h' H1 locs1 hE hP hS hc1 hc2 hc3 => hE.2.elim (fun y => by obtain ⟨rfl, -⟩ := hE; obtain ⟨rfl, hn9⟩ := y; exact q_out C hP hS hc1 hc2 hc3 (by have ex : (xs_size S p0) = (1, 0) := (by have ebi := hn9; simp [xs_size, ebi]); exact ⟨by rw [ex]; exact .head _, by exact hz.po hf⟩) (by omega)) (fun y => by obtain ⟨rfl, -⟩ := hE; obtain ⟨rfl, i, hi8, rfl, ho8⟩ := y; exact q_out C hP hS hc1 hc2 hc3 (by have ex : (xs_size S (nI i)) = (2, 0) := (by have ebi : bSl (nI i) = true := bSl_t (qSl.nI hi8); have eci : (nI i).toNatClampNeg = i := nI_clamp (by omega); have hoi := ho8; simp [xs_size, ebi, eci, hoi]); exact ⟨by rw [ex]; exact .tail _ (.head _), by exact hz.po hf⟩) (by omega))) (fun v hh1 H locs hq hP hS => ?_)
  obtain ⟨rfl, i, ai, hi, rfl, hfsi, rfl, hoi, x1i, x2i, x3i, x4i, dvi, fai, zvi⟩ := hq
  have ebi : bSl (nI i) = true := bSl_t (qSl.nI hi)
  have eci : (nI i).toNatClampNeg = i := nI_clamp (by omega)
  obtain ⟨t1i, t2i, t3i, f1i, f2i, f3i, eti⟩ := zvi.size
  refine q_callV (rest := []) C (c_X2_amount l D cy N0 h ai ((S i).1) dvi t1i t2i t3i x1i x2i x3i x4i fai f1i f2i f3i) kX2_amount g222 g223 rfl g224 g10 hP hS fai (by first | decide | omega) hl.1 rfl (by decide) (by first | decide | omega) dX6_size_7 (fun q ce E h' H1 locs1 hE => hE.elim) (fun v hh2 H locs hq hP hS => ?_)
  obtain ⟨rfl, rfl⟩ := hq
  rw [← eti]
  have ex : (xs_size S (nI i)) = (0, nI (S i).2.1.length) := by simp [xs_size, ebi, eci, hoi]
  exact q_iret C hP hS ⟨by rw [ex], by first | (rw [ex]; done) | (rw [ex]; show some (Value.int (nI (zAm (S i)))) = _; unfold zAm; rw [if_neg (fun z => by rw [z] at hoi; exact absurd hoi (by decide))]), hz.po hf⟩ (by omega) dX6_size_10

set_option maxRecDepth 100000 in
set_option maxHeartbeats 4000000 in
theorem z_kind (l : Launch) (D : va_G) (cy : Nat → ClassId) (N0 : Nat) (h : qH) (x : Nat) (mk : Int32) (sl bl kr vr Ed : Nat) (fs : Nat → Option Nat) (bd br eb : Nat → Nat) (Im : Nat → Prop) (Xb : Nat → Nat → Prop) (g : Nat → Nat) (S : Nat → qSlot) (W : qWo) (Bd sk Rn : Nat) (dp : Nat → Nat) (p0 : Int32) (hz : zQ cy h x mk sl bl kr vr Ed fs bd br eb Im Xb g S W) (hI : ∀ i, i < 28 → qOk (S i).1 (S i).2.1) (hLn : ∀ i, i < 28 → (S i).2.1.length ≤ 1000) (hV : qWv Bd sk Rn dp W) : qC l D cy N0 yX6_kind cX6_kind 3 (some .int) 10 170 4 30 [.ref x, .int p0] h (fun v h' => (xs_kind S p0).1 = 0 ∧ v = some (.int (xs_kind S p0).2) ∧ zPo cy h x mk sl bl kr vr Ed bd br Im Xb S W h') (fun E h' => zXc [(1, "java/lang/IllegalArgumentException")] E (xs_kind S p0).1 ∧ zPo cy h x mk sl bl kr vr Ed bd br Im Xb S W h') := by
  refine q_ofW (by decide) (by exact Nat.le_of_ble_eq_true rfl) ?_
  intro p e s m below meth c ls C hP hl
  have hx := C.1
  have hb := C.2.1
  have hS : va_S (qA N0) s.heap s.heap [] := va_S.rf
  have hl : lv_has ls 3 [(0, .ref x), (1, .int p0)] := hl
  have hf : zFr h h x sl kr vr bd br Xb := zFr.rf
  refine lv_iload_n hx hb dX6_kind_0 rfl (lv_at hl 1 rfl) ?_
  refine q_callS (rest := []) C (c_X6_needSlot l D cy N0 h p0) kX6_needSlot g104 g105 hP hS (by first | decide | omega) hl.1 rfl (by decide) (by first | decide | omega) dX6_kind_1 (fun q ce E h' H1 locs1 hE hP hS hc1 hc2 hc3 => by obtain ⟨rfl, rfl, hn9⟩ := hE; have eb9 := bSl_f hn9; exact q_out C hP hS hc1 hc2 hc3 (by have ex : (xs_kind S p0) = (1, 0) := (by simp [xs_kind, eb9]); exact ⟨by rw [ex]; exact .head _, by exact hz.po hf⟩) (by omega)) (fun v hh1 H locs hq hP hS => ?_)
  obtain ⟨rfl, rfl, sl9⟩ := hq
  obtain ⟨i, hi, rfl⟩ := sl9.of
  have ebi : bSl (nI i) = true := bSl_t sl9
  have eci : (nI i).toNatClampNeg = i := nI_clamp (by omega)
  refine lv_aload_n hx hb dX6_kind_4 rfl (lv_at hl 0 rfl) ?_
  refine q_get C hP hz.1.1 rfl inX6 1 (by decide) g69 rfl dX6_kind_5 ?_
  refine lv_iload_n hx hb dX6_kind_8 rfl (lv_at hl 1 rfl) ?_
  refine q_aaldN C hP hz.2.1.1 rfl (by omega) (by omega) dX6_kind_9 ?_
  rcases hz.2.2.1 i hi with ⟨e1, hk9⟩ | ⟨a9, e1, -, x1, x2, x3, x4, dv, fa9, -⟩
  · rw [e1]
    replace hk9 : (-1 : Int32) = (S i).1 := hk9.symm
    refine lv_astore_nN (lv' := [(2, .null), (0, .ref x), (1, .int (nI i))]) hx hb dX6_kind_10 rfl hl (by decide) rfl (fun ls hl => ?_)
    refine lv_aload_nN hx hb dX6_kind_11 rfl (lv_at hl 0 rfl) ?_
    refine lv_ifnonnullN hx hb dX6_kind_12 ?_
    refine lv_iconst (v := -1) hx hb dX6_kind_15 (by decide) ?_
    refine lv_goto (tgt := 23) hx hb dX6_kind_16 (by decide) ?_
    have ex : (xs_kind S (nI i)) = (0, (S i).1) := by simp [xs_kind, ebi, eci]
    exact q_iret C hP hS ⟨by rw [ex], by first | (rw [ex]; done) | (rw [ex]; exact congrArg (fun z => some (Value.int z)) hk9), hz.po hf⟩ (by omega) dX6_kind_23
  · rw [e1]
    have hk9 : (S i).1 = (S i).1 := rfl
    refine lv_astore_n (lv' := [(2, .ref a9), (0, .ref x), (1, .int (nI i))]) hx hb dX6_kind_10 rfl hl (by decide) rfl (fun ls hl => ?_)
    refine lv_aload_n hx hb dX6_kind_11 rfl (lv_at hl 0 rfl) ?_
    refine lv_ifnonnull (tgt := 19) hx hb dX6_kind_12 (by decide) ?_
    refine lv_aload_n hx hb dX6_kind_19 rfl (lv_at hl 0 rfl) ?_
    refine q_get C hP fa9 rfl inX2 0 (by decide) g192 rfl dX6_kind_20 ?_
    have ex : (xs_kind S (nI i)) = (0, (S i).1) := by simp [xs_kind, ebi, eci]
    exact q_iret C hP hS ⟨by rw [ex], by first | (rw [ex]; done) | (rw [ex]; exact congrArg (fun z => some (Value.int z)) hk9), hz.po hf⟩ (by omega) dX6_kind_23

set_option maxRecDepth 100000 in
set_option maxHeartbeats 4000000 in
theorem z_make (l : Launch) (D : va_G) (cy : Nat → ClassId) (N0 : Nat) (h : qH) (x : Nat) (mk : Int32) (sl bl kr vr Ed : Nat) (fs : Nat → Option Nat) (bd br eb : Nat → Nat) (Im : Nat → Prop) (Xb : Nat → Nat → Prop) (g : Nat → Nat) (S : Nat → qSlot) (W : qWo) (Bd sk Rn : Nat) (dp : Nat → Nat) (p0 p1 : Int32) (hz : zQ cy h x mk sl bl kr vr Ed fs bd br eb Im Xb g S W) (hI : ∀ i, i < 28 → qOk (S i).1 (S i).2.1) (hLn : ∀ i, i < 28 → (S i).2.1.length ≤ 1000) (hV : qWv Bd sk Rn dp W) : qC l D cy N0 yX6_make cX6_make 3 none 10 170 6 40 [.ref x, .int p0, .int p1] h (fun v h' => (xs_make S p0 p1).1 = 0 ∧ v = none ∧ zPo cy h x mk sl bl kr vr Ed bd br Im Xb ((xs_make S p0 p1).2) W h') (fun E h' => zXc [(1, "java/lang/IllegalArgumentException")] E (xs_make S p0 p1).1 ∧ zPo cy h x mk sl bl kr vr Ed bd br Im Xb S W h') := by
  refine q_ofW (by decide) (by exact Nat.le_of_ble_eq_true rfl) ?_
  intro p e s m below meth c ls C hP hl
  have hx := C.1
  have hb := C.2.1
  have hS : va_S (qA N0) s.heap s.heap [] := va_S.rf
  have hl : lv_has ls 3 [(0, .ref x), (1, .int p0), (2, .int p1)] := hl
  have hf : zFr h h x sl kr vr bd br Xb := zFr.rf
  refine lv_iload_n hx hb dX6_make_0 rfl (lv_at hl 1 rfl) ?_
  refine q_callS (rest := []) C (c_X6_needSlot l D cy N0 h p0) kX6_needSlot g104 g105 hP hS (by first | decide | omega) hl.1 rfl (by decide) (by first | decide | omega) dX6_make_1 (fun q ce E h' H1 locs1 hE hP hS hc1 hc2 hc3 => by obtain ⟨rfl, rfl, hn9⟩ := hE; have eb9 := bSl_f hn9; exact q_out C hP hS hc1 hc2 hc3 (by have ex : (xs_make S p0 p1) = (1, S) := (by unfold xs_make; rw [if_pos (Or.inl eb9)]); exact ⟨by rw [ex]; exact .head _, by exact hz.po hf⟩) (by omega)) (fun v hh1 H locs hq hP hS => ?_)
  obtain ⟨rfl, rfl, sl9⟩ := hq
  obtain ⟨i, hi, rfl⟩ := sl9.of
  have ebi : bSl (nI i) = true := bSl_t sl9
  have eci : (nI i).toNatClampNeg = i := nI_clamp (by omega)
  refine lv_iload_n hx hb dX6_make_4 rfl (lv_at hl 2 rfl) ?_
  refine lv_bipush (v := nI 6) hx hb dX6_make_5 (by decide) ?_
  refine q_callS (rest := []) C (c_X6_needWithin l D cy N0 h p1 6) kX6_needWithin g107 g108 hP hS (by first | decide | omega) hl.1 rfl (by decide) (by first | decide | omega) dX6_make_7 (fun q ce E h' H1 locs1 hE hP hS hc1 hc2 hc3 => by obtain ⟨rfl, rfl, hn9⟩ := hE; exact q_out C hP hS hc1 hc2 hc3 (by have ex : (xs_make S (nI i) p1) = (1, S) := (by unfold xs_make; rw [if_pos (Or.inr (bIn_f (fun z => hn9.elim z.1 (fun y => y z.2))))]); exact ⟨by rw [ex]; exact .head _, by exact hz.po hf⟩) (by omega)) (fun v hh2 H locs hq hP hS => ?_)
  obtain ⟨rfl, rfl, gw1, gw2⟩ := hq
  refine lv_aload_n hx hb dX6_make_10 rfl (lv_at hl 0 rfl) ?_
  refine lv_iload_n hx hb dX6_make_11 rfl (lv_at hl 1 rfl) ?_
  refine lv_iload_n hx hb dX6_make_12 rfl (lv_at hl 2 rfl) ?_
  refine q_callS (rest := [.int (nI i), .ref x]) C (c_X2_emptyOf l D cy N0 h p1) kX2_emptyOf g181 g182 hP hS (by first | decide | omega) hl.1 rfl (by simp [q_catrf, q_cati, q_catl, q_cata, q_catn]) (by first | decide | omega) dX6_make_13 (fun q ce E h' H1 locs1 hE => hE.elim) (fun v hh3 H locs hq hP hS => ?_)
  obtain ⟨qh, rfl, oqh, rfl⟩ := hq
  replace hP : qP D N0 (qs h qh (.inr (2, [.int p1, .null, .null, .null, .null, .int 0]))) H := hP
  have hleh : qle h (qs h qh (.inr (2, [.int p1, .null, .null, .null, .null, .int 0]))) := qle_new oqh
  replace hf := hf.trs (zFr.le hleh (qle.dom hleh))
  replace hz := hz.le hV hleh (qle.dom hleh)
  have fqh : (qs h qh (.inr (2, [.int p1, .null, .null, .null, .null, .int 0]))) qh = some (.inr (2, [.int p1, .null, .null, .null, .null, .int 0])) := qs_self
  have hk9 := zkd06 gw1 gw2
  have zvn := zV.empty (cy := cy) (h := qs h qh (.inr (2, [.int p1, .null, .null, .null, .null, .int 0]))) (Im := Im) (Ok := zOk Ed eb S) (mk := mk) (g := g) hk9
  have hzp := hz.put hV hi (s := (p1, [], 0, 0)) (fun z => by rw [show p1 = -1 from z] at gw1; exact gw1 (by decide)) ⟨none, none, none, none, 0, fqh, zvn⟩
  have hfp : zFr h (qs (qs h qh (.inr (2, [.int p1, .null, .null, .null, .null, .int 0]))) sl (.inl (cy 3, 24, .inr (.inr (.inr (.inr (va_up fs i (some qh)))))))) x sl kr vr bd br Xb := hf.trs (zFr.set hz.2.1.1 (Or.inr (Or.inl rfl)))
  have hkd : qHd (qs h qh (.inr (2, [.int p1, .null, .null, .null, .null, .int 0]))) qh p1 none none none none 0 (nI (zAm (p1, [], 0, 0))) := zHd.hd (s := (p1, [], 0, 0)) fqh zvn
  refine q_callV (rest := []) C (c_X6_keep l D cy N0 (qs h qh (.inr (2, [.int p1, .null, .null, .null, .null, .int 0]))) x sl bl kr vr mk (oCq W.1) (oMq W.1) (nI Ed) fs i qh p1 none none none none 0 (nI (zAm (p1, [], 0, 0))) hz.1.1 hz.2.1.1 hi hkd) kX6_keep g218 g220 rfl gp1 g1 hP hS hz.1.1 (by first | decide | omega) hl.1 rfl (by decide) (by first | decide | omega) dX6_make_16 (fun q ce E h' H1 locs1 hE => hE.elim) (fun v hh4 H locs hq hP hS => ?_)
  obtain ⟨rfl, rfl⟩ := hq
  refine lv_pop hx hb dX6_make_19 rfl ?_
  have ex : (xs_make S (nI i) p1) = (0, qU S i (p1, [], 0, 0)) := by unfold xs_make; rw [if_neg (by rw [ebi, bIn_t ⟨gw1, gw2⟩]; decide), eci]
  exact q_vret C hP hS ⟨by rw [ex], rfl, by rw [ex]; exact hzp.po hfp⟩ (by omega) dX6_make_20
theorem zkn {kd : Int32} (h : kd ∈ [(-1 : Int32), 0, 1, 2, 3, 4, 5, 6]) (e : bHo kd 127 = false) : kd < 0 := by
  simp only [List.mem_cons, List.not_mem_nil, or_false] at h
  rcases h with rfl | rfl | rfl | rfl | rfl | rfl | rfl | rfl <;> revert e <;> decide
theorem dX6_copy_13 : decode cX6_copy 13 = .ok (.invokevirtual 51, 3) := by decide +kernel
theorem dX6_copy_16 : decode cX6_copy 16 = .ok (.pop, 1) := by decide +kernel
theorem dX6_copy_17 : decode cX6_copy 17 = .ok (.return_, 1) := by decide +kernel
set_option maxRecDepth 100000 in
set_option maxHeartbeats 4000000 in
theorem z_copy (l : Launch) (D : va_G) (cy : Nat → ClassId) (N0 : Nat) (h : qH) (x : Nat) (mk : Int32) (sl bl kr vr Ed : Nat) (fs : Nat → Option Nat) (bd br eb : Nat → Nat) (Im : Nat → Prop) (Xb : Nat → Nat → Prop) (g : Nat → Nat) (S : Nat → qSlot) (W : qWo) (Bd sk Rn : Nat) (dp : Nat → Nat) (p0 p1 : Int32) (hz : zQ cy h x mk sl bl kr vr Ed fs bd br eb Im Xb g S W) (hI : ∀ i, i < 28 → qOk (S i).1 (S i).2.1) (hLn : ∀ i, i < 28 → (S i).2.1.length ≤ 1000) (hV : qWv Bd sk Rn dp W) : qC l D cy N0 yX6_copy cX6_copy 3 none 10 170 6 40 [.ref x, .int p0, .int p1] h (fun v h' => (xs_copy S p0 p1).1 = 0 ∧ v = none ∧ zPo cy h x mk sl bl kr vr Ed bd br Im Xb ((xs_copy S p0 p1).2) W h') (fun E h' => zXc [(1, "java/lang/IllegalArgumentException"), (2, "java/lang/IllegalStateException")] E (xs_copy S p0 p1).1 ∧ zPo cy h x mk sl bl kr vr Ed bd br Im Xb S W h') := by
  refine q_ofW (by decide) (by exact Nat.le_of_ble_eq_true rfl) ?_
  intro p e s m below meth c ls C hP hl
  have hx := C.1
  have hb := C.2.1
  have hS : va_S (qA N0) s.heap s.heap [] := va_S.rf
  have hl : lv_has ls 3 [(0, .ref x), (1, .int p0), (2, .int p1)] := hl
  have hf : zFr h h x sl kr vr bd br Xb := zFr.rf
  refine lv_iload_n hx hb dX6_copy_0 rfl (lv_at hl 1 rfl) ?_
  refine q_callS (rest := []) C (c_X6_needSlot l D cy N0 h p0) kX6_needSlot g104 g105 hP hS (by first | decide | omega) hl.1 rfl (by decide) (by first | decide | omega) dX6_copy_1 (fun q ce E h' H1 locs1 hE hP hS hc1 hc2 hc3 => by obtain ⟨rfl, rfl, hn9⟩ := hE; have eb9 := bSl_f hn9; exact q_out C hP hS hc1 hc2 hc3 (by have ex : (xs_copy S p0 p1) = (1, S) := (by unfold xs_copy; rw [if_pos (Or.inl eb9)]); exact ⟨by rw [ex]; exact .head _, by exact hz.po hf⟩) (by omega)) (fun v hh1 H locs hq hP hS => ?_)
  obtain ⟨rfl, rfl, sl9⟩ := hq
  obtain ⟨i, hi, rfl⟩ := sl9.of
  have ebi : bSl (nI i) = true := bSl_t sl9
  have eci : (nI i).toNatClampNeg = i := nI_clamp (by omega)
  refine lv_aload_n hx hb dX6_copy_4 rfl (lv_at hl 0 rfl) ?_
  refine lv_iload_n hx hb dX6_copy_5 rfl (lv_at hl 1 rfl) ?_
  refine lv_aload_n hx hb dX6_copy_6 rfl (lv_at hl 0 rfl) ?_
  refine lv_iload_n hx hb dX6_copy_7 rfl (lv_at hl 2 rfl) ?_
  refine lv_bipush (v := nI 127) hx hb dX6_copy_8 (by decide) ?_
  refine q_callV (rest := [.int (nI i), .ref x]) C (z_heldIn l D N0 p1 127 hz hI) kX6_heldIn g243 g245 rfl gp2 g1 hP hS hz.1.1 (by first | decide | omega) hl.1 rfl (by simp [q_catrf, q_cati, q_catl, q_cata, q_catn]) (by first | decide | omega) dX6_copy_10 (fun q ce E h' H1 locs1 hE hP hS hc1 hc2 hc3 => hE.2.elim (fun y => by obtain ⟨rfl, -⟩ := hE; obtain ⟨rfl, hn9⟩ := y; exact q_out C hP hS hc1 hc2 hc3 (by have ex : (xs_copy S (nI i) p1) = (1, S) := (by have ebj := hn9; unfold xs_copy; rw [if_pos (Or.inr ebj)]); exact ⟨by rw [ex]; exact .head _, by exact hz.po hf⟩) (by omega)) (fun y => by obtain ⟨rfl, -⟩ := hE; obtain ⟨rfl, j, hi8, rfl, ho8⟩ := y; exact q_out C hP hS hc1 hc2 hc3 (by have ex : (xs_copy S (nI i) (nI j)) = (2, S) := (by have ebj : bSl (nI j) = true := bSl_t (qSl.nI hi8); have ecj : (nI j).toNatClampNeg = j := nI_clamp (by omega); have hoj := ho8; unfold xs_copy; rw [if_neg (by rw [ebi, ebj]; decide), ecj, if_pos (zkn (hI j (by omega)).2.2 hoj)]); exact ⟨by rw [ex]; exact .tail _ (.head _), by exact hz.po hf⟩) (by omega))) (fun v hh2 H locs hq hP hS => ?_)
  obtain ⟨rfl, j, aj, hj, rfl, hfsj, rfl, hoj, x1j, x2j, x3j, x4j, dvj, faj, zvj⟩ := hq
  have ebj : bSl (nI j) = true := bSl_t (qSl.nI hj)
  have ecj : (nI j).toNatClampNeg = j := nI_clamp (by omega)
  have hzp := hz.put hV hi (s := (S j)) ((hz.held hj hfsj).1) ⟨x1j, x2j, x3j, x4j, dvj, faj, zvj⟩
  have hfp : zFr h (qs h sl (.inl (cy 3, 24, .inr (.inr (.inr (.inr (va_up fs i (some aj)))))))) x sl kr vr bd br Xb := hf.trs (zFr.set hz.2.1.1 (Or.inr (Or.inl rfl)))
  have hkd : qHd h aj ((S j).1) x1j x2j x3j x4j dvj (nI (zAm (S j))) := zHd.hd (s := (S j)) faj zvj
  refine q_callV (rest := []) C (c_X6_keep l D cy N0 h x sl bl kr vr mk (oCq W.1) (oMq W.1) (nI Ed) fs i aj ((S j).1) x1j x2j x3j x4j dvj (nI (zAm (S j))) hz.1.1 hz.2.1.1 hi hkd) kX6_keep g218 g220 rfl gp1 g1 hP hS hz.1.1 (by first | decide | omega) hl.1 rfl (by decide) (by first | decide | omega) dX6_copy_13 (fun q ce E h' H1 locs1 hE => hE.elim) (fun v hh3 H locs hq hP hS => ?_)
  obtain ⟨rfl, rfl⟩ := hq
  replace faj := (qs_ne (h := h) (a := sl) (o := (.inl (cy 3, 24, .inr (.inr (.inr (.inr (va_up fs i (some aj)))))))) (fun z => by rw [z, hz.2.1.1] at faj; cases faj)).trans faj
  refine lv_pop hx hb dX6_copy_16 rfl ?_
  have ex : (xs_copy S (nI i) (nI j)) = (0, qU S i (S j)) := by unfold xs_copy; rw [if_neg (by rw [ebi, ebj]; decide), ecj, if_neg (fun z => by rw [bHo_f1 z] at hoj; cases hoj), eci]
  exact q_vret C hP hS ⟨by rw [ex], rfl, by rw [ex]; exact hzp.po hfp⟩ (by omega) dX6_copy_17
