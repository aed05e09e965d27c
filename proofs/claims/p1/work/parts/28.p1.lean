theorem dL_cell_0 : decode cL_cell 0 = .ok (.iload_n 1, 1) := by decide +kernel
theorem dL_cell_1 : decode cL_cell 1 = .ok (.aload_n 0, 1) := by decide +kernel
theorem dL_cell_2 : decode cL_cell 2 = .ok (.arraylength, 1) := by decide +kernel
theorem dL_cell_3 : decode cL_cell 3 = .ok (.if_icmp .ge 9, 3) := by decide +kernel
theorem dL_cell_6 : decode cL_cell 6 = .ok (.aload_n 0, 1) := by decide +kernel
theorem dL_cell_7 : decode cL_cell 7 = .ok (.iload_n 1, 1) := by decide +kernel
theorem dL_cell_8 : decode cL_cell 8 = .ok (.iaload, 1) := by decide +kernel
theorem dL_cell_9 : decode cL_cell 9 = .ok (.goto 4, 3) := by decide +kernel
theorem dL_cell_12 : decode cL_cell 12 = .ok (.iconst 0, 1) := by decide +kernel
theorem dL_cell_13 : decode cL_cell 13 = .ok (.ireturn, 1) := by decide +kernel

/-- cell(script, 0) -/
def qgv (L : Nat) (xs : Nat → Int32) : Int32 := if 0 < L then xs 0 else 0
def qPcS (D : va_G) (cy : Nat → ClassId) (N0 b L : Nat) (xs : Nat → Int32) (h : qH) : Array Value → State → Prop := fun a U => a = #[Value.ref b, Value.int 0] ∧ qE D cy N0 U ∧ qP D N0 h U.heap ∧ va_X b L xs U U.heap ∧ b < U.heap.size
theorem qPcS.blind {D : va_G} {cy : Nat → ClassId} {N0 b L : Nat} {xs : Nat → Int32} {h : qH} : FrameBlind (qPcS D cy N0 b L xs h) := fun a U g mk q => ⟨q.1, q.2.1.calling, q.2.2.1, va_X.moved (u := U) (Vm.Alike.refl U.vm) q.2.2.2.1, q.2.2.2.2⟩
theorem c_L_cell (l : Launch) (D : va_G) (cy : Nat → ClassId) (N0 b L : Nat) (xs : Nat → Int32) (h : qH) (hb9 : b < N0) (hL : L < 2 ^ 31) (hst : l.stackTraces = false) : vx_Met l yL_cell (.code yL_cell cL_cell 2 (some .int) :: qG) (qR 0 0 0 0) (qPcS D cy N0 b L xs h) (qQc D N0 (fun v h' => v = some (.int (qgv L xs)) ∧ h = h')) (qXc D N0 (fun _ _ => False)) 0 0 (qA N0) := by
  refine vx_ofW (by decide +kernel) rfl ?_
  intro p e s m args below meth c s₁ B hml ht hv
  obtain ⟨rfl, hE, hP, hX, hbl⟩ := hv
  have hts := atoms_spec (ws := .code yL_cell cL_cell 2 (some .int) :: qG) B.pre
  have hown : s.vm.findClass yL_cell.cls = some m.cls := findClass_of_methodNamed B.named
  have C : qX p l s m #[Value.ref b, Value.int 0] meth c RL cL_cell 2 (some .int) "cell" D cy N0 [] := ⟨B.exec, B.bytes, B.returns, hml, hown, fun w hw => hts w (List.mem_cons_of_mem _ hw), B.notSynchronized, List.eq_nil_iff_forall_not_mem.mpr (fun x hx => (ht x hx).elim), (name_of_methodNamed B.named B.method).1, hE, hst⟩
  have hx := C.1
  have hb := C.2.1
  have hbA : ¬ qA N0 b := Nat.not_le.mpr hb9
  have hS : va_S (qA N0) s.heap s.heap [] := va_S.rf
  rw [show (#[Value.ref b, Value.int 0] : Array Value) = ([Value.ref b, Value.int 0] : List Value).toArray from rfl, lg_entry_eq]
  obtain ⟨ls, hls⟩ : ∃ ls, ls = (lg_sl [Value.ref b, Value.int 0] ++ List.replicate (2 - (lg_sl [Value.ref b, Value.int 0]).length) Slot.unset).toArray := ⟨_, rfl⟩
  have hl : lv_has ls 2 [(0, .ref b), (1, .int 0)] := by rw [hls]; exact lv_entry [Value.ref b, Value.int 0] (Nat.le_of_ble_eq_true rfl)
  rw [← hls]
  refine lv_iload_n hx hb dL_cell_0 rfl (lv_at hl 1 rfl) ?_
  refine lv_aload_n hx hb dL_cell_1 rfl (lv_at hl 0 rfl) ?_
  refine va_slen hx hb hX hbl hbA hS dL_cell_2 ?_
  refine lv_icmp_ge (tgt := 12) hx hb dL_cell_3 (by decide) (fun k => ?_) (fun k => ?_)
  · have hz : L = 0 := by
      have := (nI_leI (a := L) (b := 0) hL (by decide)).mp (by rw [nI_0]; exact k)
      omega
    refine lv_iconst (v := 0) hx hb dL_cell_12 (by decide) ?_
    exact q_iret C hP hS ⟨by rw [qgv, if_neg (by omega)], rfl⟩ ⟨Nat.le_refl _, Nat.le_refl _⟩ dL_cell_13
  · have hz : 0 < L := Nat.pos_of_ne_zero (fun q => k (by subst q; decide))
    refine lv_aload_n hx hb dL_cell_6 rfl (lv_at hl 0 rfl) ?_
    refine lv_iload_n hx hb dL_cell_7 rfl (lv_at hl 1 rfl) ?_
    refine va_sld hx hb hX hbl hbA hS (by rw [← nI_0]; exact vp_in_nI hz (by omega)) dL_cell_8 ?_
    refine lv_goto (tgt := 13) hx hb dL_cell_9 (by decide) ?_
    exact q_iret C hP hS ⟨by rw [qgv, if_pos hz]; rfl, rfl⟩ ⟨Nat.le_refl _, Nat.le_refl _⟩ dL_cell_13
section QSCR
variable {p : Program} {l : Launch} {e : Env} {fr lo mc ms : Nat} {s : State} {m : MethodId} {args : Array Value} {below : List Frame} {meth : Method} {c : Code} {H : Heap} {locs : List Loc} {cells slots : Nat} {Q : State → Prop}
variable {own nm : String} {cc : ByteArray} {nL : Nat} {ret : Option FieldType} {D : va_G} {cy : Nat → ClassId} {N0 : Nat} {tb : List ExceptionTableEntry} {h : qH} {pc : Nat} {ls : Array Slot} {rest : List Value} {index b L : Nat} {xs : Nat → Int32}
theorem q_cell (C : qX p l s m args meth c own cc nL ret nm D cy N0 tb) (hX : va_X b L xs s s.heap) (hb0 : b < s.heap.size) (hb9 : b < N0) (hL : L < 2 ^ 31) (w1 : Cond.methodLink own index yL_cell ∈ qG) (hP : qP D N0 h H) (hS : va_S (qA N0) s.heap H locs)
    (hR : 0 + 1 ≤ fr ∧ 8 + (2 + 11) + 0 ≤ lo) (hsz : ls.size = nL) (hW : (rest.map fun v => v.category).sum ≤ 8) (hf : cells + 0 ≤ mc ∧ slots + 0 ≤ ms) (hdg : decode cc pc = .ok (.invokestatic index, 3))
    (kr : ∀ (H1 : Heap) (locs1 : List Loc), qP D N0 h H1 → va_S (qA N0) s.heap H1 locs1 → W p l e (qR fr lo mc ms) s m args below meth c H1 locs1 cells slots Q (F0 m (pc + 3) ls (.int (qgv L xs) :: rest))) :
    W p l e (qR fr lo mc ms) s m args below meth c H locs cells slots Q (F0 m pc ls (.int 0 :: .ref b :: rest)) := by
  obtain ⟨hx, hb, -, hml, hown, hts, -, -, -, hE, hl⟩ := C
  obtain ⟨y1, y2, y3, y4, y5⟩ := kL_cell
  have hT : GoodIn qG (va_wsS own index yL_cell (.code yL_cell cL_cell 2 (some .int) :: qG)) := by
    intro w hw
    rcases List.mem_append.mp hw with hw | hw
    · simp only [List.mem_cons, List.not_mem_nil, or_false] at hw
      rcases hw with rfl | rfl | rfl
      · exact q_good _ w1
      · exact q_good _ g94
      · exact q_good _ y1
    · exact q_goodc y2 w hw
  have hp : PreS s H (qPcS D cy N0 b L xs h) [Value.ref b, Value.int 0] := ⟨qPcS.blind, fun U hU hWm => ⟨rfl, hE.moved hWm hS hU, by rw [hU]; exact hP, by rw [hU]; exact (va_X.moved hWm.alike hX).kept (hS.2.1 b hb0 (Nat.not_le.mpr hb9)), by rw [hU]; exact Nat.lt_of_lt_of_le hb0 hS.1⟩⟩
  exact q_run (h := h) (vx_runS (As := [Value.ref b, Value.int 0]) (rest := rest) ⟨hx, hb, hml, hown, hts⟩ (c_L_cell l D cy N0 b L xs h hb9 hL hl) (va_cwS 2 hts hT rfl rfl rfl ⟨y3, y4, y5⟩ hR) hp rfl rfl hsz rfl (by show 2 * 0 + _ ≤ 8; omega) hdg hf) hS (fun v h' H1 locs1 hq hP1 hS1 => by
    obtain ⟨rfl, rfl⟩ := hq
    exact kr H1 locs1 hP1 hS1) (fun q ce E h' H1 locs1 hx => hx.elim)
end QSCR
theorem q_and31 (a : Int32) : ∃ k : Nat, k < 32 ∧ (a &&& 31) = nI k := by
  have e : (a &&& 31).toBitVec.toNat = a.toBitVec.toNat &&& 31 := by rw [Int32.toBitVec_and, BitVec.toNat_and]; rfl
  refine ⟨a.toBitVec.toNat &&& 31, Nat.lt_of_le_of_lt Nat.and_le_right (by decide), ?_⟩
  apply Int32.toBitVec.inj
  apply BitVec.eq_of_toNat_eq
  rw [e]
  have hlt : a.toBitVec.toNat &&& 31 < 32 := Nat.lt_of_le_of_lt Nat.and_le_right (by decide)
  show _ = (BitVec.ofNat 32 (a.toBitVec.toNat &&& 31)).toNat
  rw [BitVec.toNat_ofNat, Nat.mod_eq_of_lt (by omega)]

theorem dL_law_0 : decode cL_law 0 = .ok (.new 8, 3) := by decide +kernel
theorem dL_law_3 : decode cL_law 3 = .ok (.dup, 1) := by decide +kernel
theorem dL_law_4 : decode cL_law 4 = .ok (.aload_n 0, 1) := by decide +kernel
theorem dL_law_5 : decode cL_law 5 = .ok (.iconst 0, 1) := by decide +kernel
theorem dL_law_6 : decode cL_law 6 = .ok (.invokestatic 131, 3) := by decide +kernel
theorem dL_law_9 : decode cL_law 9 = .ok (.invokespecial 137, 3) := by decide +kernel
theorem dL_law_12 : decode cL_law 12 = .ok (.astore_n 1, 1) := by decide +kernel
theorem dL_law_13 : decode cL_law 13 = .ok (.new 140, 3) := by decide +kernel
theorem dL_law_16 : decode cL_law 16 = .ok (.dup, 1) := by decide +kernel
theorem dL_law_17 : decode cL_law 17 = .ok (.aload_n 0, 1) := by decide +kernel
theorem dL_law_18 : decode cL_law 18 = .ok (.iconst 0, 1) := by decide +kernel
theorem dL_law_19 : decode cL_law 19 = .ok (.invokestatic 131, 3) := by decide +kernel
theorem dL_law_22 : decode cL_law 22 = .ok (.invokespecial 142, 3) := by decide +kernel
theorem dL_law_25 : decode cL_law 25 = .ok (.astore_n 2, 1) := by decide +kernel
theorem dL_law_26 : decode cL_law 26 = .ok (.iconst 1, 1) := by decide +kernel
theorem dL_law_27 : decode cL_law 27 = .ok (.newarray .long, 2) := by decide +kernel
theorem dL_law_29 : decode cL_law 29 = .ok (.astore_n 3, 1) := by decide +kernel
theorem dL_law_30 : decode cL_law 30 = .ok (.iconst 1, 1) := by decide +kernel
theorem dL_law_31 : decode cL_law 31 = .ok (.istore 4, 2) := by decide +kernel
theorem dL_law_33 : decode cL_law 33 = .ok (.iload 4, 2) := by decide +kernel
theorem dL_law_35 : decode cL_law 35 = .ok (.aload_n 0, 1) := by decide +kernel
theorem dL_law_36 : decode cL_law 36 = .ok (.arraylength, 1) := by decide +kernel
theorem dL_law_37 : decode cL_law 37 = .ok (.bipush 7, 2) := by decide +kernel
theorem dL_law_39 : decode cL_law 39 = .ok (.isub, 1) := by decide +kernel
theorem dL_law_40 : decode cL_law 40 = .ok (.if_icmp .gt 2906, 3) := by decide +kernel
theorem dL_law_43 : decode cL_law 43 = .ok (.aload_n 0, 1) := by decide +kernel
theorem dL_law_44 : decode cL_law 44 = .ok (.iload 4, 2) := by decide +kernel
theorem dL_law_46 : decode cL_law 46 = .ok (.iaload, 1) := by decide +kernel
theorem dL_law_47 : decode cL_law 47 = .ok (.bipush 31, 2) := by decide +kernel
theorem dL_law_49 : decode cL_law 49 = .ok (.iand, 1) := by decide +kernel
theorem dL_law_2940 : decode cL_law 2940 = .ok (.iinc 4 7, 3) := by decide +kernel
theorem dL_law_2943 : decode cL_law 2943 = .ok (.goto (-2910), 3) := by decide +kernel
theorem dL_law_2946 : decode cL_law 2946 = .ok (.iconst 1, 1) := by decide +kernel
theorem dL_law_2947 : decode cL_law 2947 = .ok (.ireturn, 1) := by decide +kernel
theorem dL_law_50 : decode cL_law 50 = .ok (.tableswitch 2890 0 30 #[138, 186, 234, 290, 346, 458, 550, 673, 740, 848, 915, 970, 1128, 1227, 1339, 1450, 1608, 1688, 1796, 1852, 1927, 2031, 2135, 2273, 2333, 2413, 2461, 2509, 2667, 2766, 2834], 138) := by decide +kernel
/-- from the loop head, the first time, to the end -/
theorem p1_end {p : Program} {l : Launch} {e : Env} {mc ms : Nat} {s : State} {m : MethodId} {below : List Frame} {meth : Method} {c : Code} {Q : State → Prop} {rt0 : Option FieldType} {nm0 : String} {D : va_G} {cy : Nat → ClassId} {N0 : Nat} {tb : List ExceptionTableEntry} {ls : Array Slot} {b L : Nat} {xs : Nat → Int32} {H : Heap} {locs : List Loc} {cells slots : Nat} (C : qX p l s m #[Value.ref b] meth c RL cL_law 8 rt0 nm0 D cy N0 tb) (hX : va_X b 8 xs s s.heap) (hbl0 : b < s.heap.size) (hbA : ¬ qA N0 b) (hS : va_S (qA N0) s.heap H locs) (hl : lv_has ls 8 [(4, .int 1), (0, .ref b)])
    (kfin : ∀ (ls : Array Slot), W p l e (qR 2048 84000 mc ms) s m #[Value.ref b] below meth c H locs cells slots Q (F0 m 2946 ls [])) : W p l e (qR 2048 84000 mc ms) s m #[Value.ref b] below meth c H locs cells slots Q (F0 m 2940 ls []) := by
  have hx := C.1
  have hb := C.2.1
  refine lv_iinc (v := 8) (lv' := [(4, .int 8), (0, .ref b)]) (k := 0) hx hb dL_law_2940 hl rfl (by decide) (by decide) rfl (fun ls hl => ?_)
  refine lv_goto (tgt := 33) hx hb dL_law_2943 (by decide) ?_
  refine lv_iload hx hb dL_law_33 (lv_at hl 0 rfl) ?_
  refine lv_aload_n hx hb dL_law_35 rfl (lv_at hl 1 rfl) ?_
  refine va_slen hx hb hX hbl0 hbA hS dL_law_36 ?_
  refine lv_bipush (v := 7) hx hb dL_law_37 (by decide) ?_
  refine lv_isub hx hb dL_law_39 ?_
  exact lv_icmp_gt (tgt := 2946) hx hb dL_law_40 (by decide) (fun _ => kfin ls) (fun k => absurd (by decide) k)
set_option maxRecDepth 100000 in
set_option maxHeartbeats 4000000 in
theorem p1_run {p : Program} {l : Launch} {e : Env} {mc ms : Nat} {s : State} {m : MethodId} {below : List Frame} {meth : Method} {c : Code} {Q : State → Prop} {rt0 : Option FieldType} {nm0 : String} {D : va_G} {cy : Nat → ClassId} {N0 : Nat} {tb : List ExceptionTableEntry} {ls : Array Slot} {b L : Nat} {xs : Nat → Int32} (C : qX p l s m #[Value.ref b] meth c RL cL_law 8 rt0 nm0 D cy N0 tb) (hX : va_X b L xs s s.heap) (hL : L ≤ 8) (hbl0 : b < s.heap.size) (hb9 : b < N0) (hmc : 1000 ≤ mc) (hmS : 100000 ≤ ms) (hl : lv_has ls 8 [(0, .ref b)])
    (kfin : ∀ (ls : Array Slot) (H : Heap) (locs : List Loc) (ce sl : Nat), ce ≤ mc → sl ≤ ms → va_S (qA N0) s.heap H locs → W p l e (qR 2048 84000 mc ms) s m #[Value.ref b] below meth c H locs ce sl Q (F0 m 2946 ls [])) : W p l e (qR 2048 84000 mc ms) s m #[Value.ref b] below meth c s.heap [] 0 0 Q (F0 m 0 ls []) := by
  have hx := C.1
  have hb := C.2.1
  have hbA : ¬ qA N0 b := Nat.not_le.mpr hb9
  have hS : va_S (qA N0) s.heap s.heap [] := va_S.rf
  have hP : qP D N0 (fun _ => none) s.heap := fun a o z => by cases z
  refine q_new (ci := 6) (fs := [.int 0, .null, .null, .null, .null, .int 0, .int 0, .int 0]) C hP hS rfl inX6 tyX6 tyX6_ok g22 g23 g1 (fun j hj => by rcases (show j = 0 ∨ j = 1 ∨ j = 2 ∨ j = 3 ∨ j = 4 ∨ j = 5 ∨ j = 6 ∨ j = 7 by omega) with rfl | rfl | rfl | rfl | rfl | rfl | rfl | rfl <;> rfl) (by omega) (by omega) dL_law_0 (fun x H ex hP hS => ?_)
  refine lv_dup hx hb dL_law_3 rfl ?_
  refine lv_aload_n hx hb dL_law_4 rfl (lv_at hl 0 rfl) ?_
  refine lv_iconst (v := 0) hx hb dL_law_5 (by decide) ?_
  refine q_cell C hX hbl0 hb9 (by omega) g93 hP hS (by decide) hl.1 (by simp [q_cata]) (by omega) dL_law_6 (fun H locs hP hS => ?_)
  refine q_callI (rest := [.ref x]) C (c_X6_init l D cy N0 (qs (fun _ => none) x (.inr (6, [.int 0, .null, .null, .null, .null, .int 0, .int 0, .int 0]))) x (qgv L xs) qs_self) kX6_init g24 g25 rfl hP hS (by decide) hl.1 rfl (by simp [q_cata]) (by omega) dL_law_9 (fun v h1 H locs hq hP hS => ?_)
  obtain ⟨rfl, sl, bl, kr, vr, g, hT, hsl, hbl, -, -, -, hB0, -⟩ := hq
  refine lv_astore_n (lv' := [(1, .ref x), (0, .ref b)]) hx hb dL_law_12 rfl hl (by decide) rfl (fun ls hl => ?_)
  refine q_new (ci := 8) (fs := [.null, .null, .null, .int 0, .int 0, .int 0, .int 0, .null, .null, .int 0, .int 0, .null, .null, .int 0, .null, .null, .null, .null, .null, .null, .int 0, .null, .int 0]) C hP hS rfl inX8 tyX8 tyX8_ok g1124 g1125 g4 (fun j hj => by rcases (show j = 0 ∨ j = 1 ∨ j = 2 ∨ j = 3 ∨ j = 4 ∨ j = 5 ∨ j = 6 ∨ j = 7 ∨ j = 8 ∨ j = 9 ∨ j = 10 ∨ j = 11 ∨ j = 12 ∨ j = 13 ∨ j = 14 ∨ j = 15 ∨ j = 16 ∨ j = 17 ∨ j = 18 ∨ j = 19 ∨ j = 20 ∨ j = 21 ∨ j = 22 by omega) with rfl | rfl | rfl | rfl | rfl | rfl | rfl | rfl | rfl | rfl | rfl | rfl | rfl | rfl | rfl | rfl | rfl | rfl | rfl | rfl | rfl | rfl | rfl <;> rfl) (by omega) (by omega) dL_law_13 (fun y H ey hP hS => ?_)
  refine lv_dup hx hb dL_law_16 rfl ?_
  refine lv_aload_n hx hb dL_law_17 rfl (lv_at hl 1 rfl) ?_
  refine lv_iconst (v := 0) hx hb dL_law_18 (by decide) ?_
  refine q_cell C hX hbl0 hb9 (by omega) g93 hP hS (by decide) hl.1 (by simp [q_cata]) (by omega) dL_law_19 (fun H locs hP hS => ?_)
  refine q_callI (rest := [.ref y]) C (c_X8_init l D cy N0 (qs h1 y (.inr (8, [.null, .null, .null, .int 0, .int 0, .int 0, .int 0, .null, .null, .int 0, .int 0, .null, .null, .int 0, .null, .null, .null, .null, .null, .null, .int 0, .null, .int 0]))) y (qgv L xs) qs_self) kX8_init g1126 g1127 rfl hP hS (by decide) hl.1 rfl (by simp [q_cata]) (by omega) dL_law_22 (fun v h2 H locs hq hP hS => ?_)
  obtain ⟨rfl, ms_, mb, mw, od, pt, fi, re, rc, rs, so, ot, cn, la, ro, gr, f2, g2, hY, hms, hmb, hR, hRB, hfi, hre, hrc, -, hso, hot, hcn, hla, n1, n2, n3, n4, n5, n6, n7, n8, n9, nm, nb, hle⟩ := hq
  refine lv_astore_n (lv' := [(2, .ref y), (1, .ref x), (0, .ref b)]) hx hb dL_law_25 rfl hl (by decide) rfl (fun ls hl => ?_)
  have up : ∀ a o, h1 a = some o → qdel (qs h1 y (.inr (8, [.null, .null, .null, .int 0, .int 0, .int 0, .int 0, .null, .null, .int 0, .int 0, .null, .null, .int 0, .null, .null, .null, .null, .null, .null, .int 0, .null, .int 0]))) y a = some o := fun a o z => qdel_at ((qs_ne (qne_of ey z)).trans z) (qne_of ey z)
  have nms : ms_ ≠ sl := fun q => by rw [q, up _ _ hsl] at nm; cases nm
  have nmb : mb ≠ sl := fun q => by rw [q, up _ _ hsl] at nb; cases nb
  replace hT := hle _ _ (up _ _ hT)
  replace hsl := hle _ _ (up _ _ hsl)
  replace hbl := hle _ _ (up _ _ hbl)
  replace hB0 : ∀ j, j < 4 → ∃ (b rw : Nat) (kd ln e2 : Int32) (rt : Option Nat), qBd h2 g j b rw 0 kd ln e2 rt := fun j hj => by
    obtain ⟨b1, rw1, e1, e2, -⟩ := hB0 j hj
    exact ⟨b1, rw1, 0, 0, 0, none, e1, hle _ _ (up _ _ e2)⟩
  clear up hle nm nb
  refine lv_iconst (v := 1) hx hb dL_law_26 (by decide) ?_
  refine q_newaJ (N := 1) C g67 hP hS (by decide) (by decide) (by decide) (by omega) (by omega) dL_law_27 (fun o H eo hP hS => ?_)
  refine lv_astore_n (lv' := [(3, .ref o), (2, .ref y), (1, .ref x), (0, .ref b)]) hx hb dL_law_29 rfl hl (by decide) rfl (fun ls hl => ?_)
  have up : ∀ a p, h2 a = some p → qs h2 o (.inl (cy 1, 1, .inr (.inl (fun _ => 0)))) a = some p := qle_new eo
  obtain ⟨h3, e3⟩ : ∃ h3, h3 = qs h2 o (.inl (cy 1, 1, .inr (.inl (fun _ => 0)))) := ⟨_, rfl⟩
  have ho : h3 o = some (.inl (cy 1, 1, .inr (.inl (fun _ => 0)))) := by rw [e3]; exact qs_self
  rw [← e3] at up hP
  replace hR := hR.keep (fun a f z => up a _ z)
  replace hRB := hRB.keep (fun a f z => up a _ z)
  replace hB0 : ∀ j, j < 4 → ∃ (b rw : Nat) (kd ln e2 : Int32) (rt : Option Nat), qBd h3 g j b rw 0 kd ln e2 rt := fun j hj => by
    obtain ⟨b1, rw1, k1, l1, x1, r1, e1, e2⟩ := hB0 j hj
    exact ⟨b1, rw1, k1, l1, x1, r1, e1, up _ _ e2⟩
  replace hT := up _ _ hT
  replace hsl := up _ _ hsl
  replace hbl := up _ _ hbl
  replace hms := up _ _ hms
  replace hmb := up _ _ hmb
  replace hfi := up _ _ hfi
  replace hre := up _ _ hre
  replace hrc := up _ _ hrc
  replace hso := up _ _ hso
  replace hot := up _ _ hot
  replace hcn := up _ _ hcn
  replace hla := up _ _ hla
  replace hY := up _ _ hY
  rw [show (.int 1 : Value) = .int (nI 1) from rfl] at hY
  clear up
  refine lv_iconst (v := 1) hx hb dL_law_30 (by decide) ?_
  refine lv_istore (lv' := [(4, .int 1), (3, .ref o), (2, .ref y), (1, .ref x), (0, .ref b)]) hx hb dL_law_31 hl (by decide) rfl (fun ls hl => ?_)
  refine lv_iload hx hb dL_law_33 (lv_at hl 0 rfl) ?_
  refine lv_aload_n hx hb dL_law_35 rfl (lv_at hl 4 rfl) ?_
  refine va_slen hx hb hX hbl0 hbA hS dL_law_36 ?_
  refine lv_bipush (v := 7) hx hb dL_law_37 (by decide) ?_
  refine lv_isub hx hb dL_law_39 ?_
  refine lv_icmp_gt (tgt := 2946) hx hb dL_law_40 (by decide) (fun _ => kfin ls H locs _ _ (by omega) (by omega) hS) (fun k => ?_)
  have h8 : L = 8 := by
    refine Classical.byContradiction fun q => k ?_
    rcases (show L = 0 ∨ L = 1 ∨ L = 2 ∨ L = 3 ∨ L = 4 ∨ L = 5 ∨ L = 6 ∨ L = 7 by omega) with rfl | rfl | rfl | rfl | rfl | rfl | rfl | rfl <;> decide
  subst h8
  refine lv_aload_n hx hb dL_law_43 rfl (lv_at hl 4 rfl) ?_
  refine lv_iload hx hb dL_law_44 (lv_at hl 0 rfl) ?_
  refine va_sld hx hb hX hbl0 hbA hS (by unfold vp_in; decide) dL_law_46 ?_
  refine lv_bipush (v := 31) hx hb dL_law_47 (by decide) ?_
  refine lv_iand hx hb dL_law_49 ?_
  obtain ⟨k9, hk9, ek9⟩ := q_and31 (xs (1 : Int32).toNatClampNeg)
  rw [ek9]
  have kend : ∀ (ls : Array Slot) (H : Heap) (locs : List Loc) (ce sl : Nat), ce ≤ mc → sl ≤ ms → va_S (qA N0) s.heap H locs → lv_has ls 8 [(4, .int 1), (0, .ref b)] → W p l e (qR 2048 84000 mc ms) s m #[Value.ref b] below meth c H locs ce sl Q (F0 m 2940 ls []) := fun ls H locs ce sl h1 h2 hS hl => p1_end (L := 0) C hX hbl0 hbA hS hl (fun ls => kfin ls H locs ce sl h1 h2 hS)
  clear k kfin ek9
  match k9, hk9 with
  | 0, _ =>
    refine lv_tableIn (off := 138) (tgt := 188) hx hb dL_law_50 (by decide) (by decide) (by decide) (by decide) ?_
    exact lc_make C hX hbl0 hbA hP hS (by omega) (by omega) hT hsl (fun _ _ => rfl) hbl hB0 hY hms hmb hR hRB ho hfi hre hrc hso hot hcn hla n1 n2 n3 n4 n5 n6 n7 n8 n9 nms nmb hl (fun ls H locs ce sl h1 h2 hS hl => kend ls H locs ce sl (by omega) (by omega) hS hl)
  | 1, _ =>
    refine lv_tableIn (off := 186) (tgt := 236) hx hb dL_law_50 (by decide) (by decide) (by decide) (by decide) ?_
    exact lc_copy C hX hbl0 hbA hP hS (by omega) (by omega) hT hsl (fun _ _ => rfl) hbl hB0 hY hms hmb hR hRB ho hfi hre hrc hso hot hcn hla n1 n2 n3 n4 n5 n6 n7 n8 n9 nms nmb hl (fun ls H locs ce sl h1 h2 hS hl => kend ls H locs ce sl (by omega) (by omega) hS hl)
  | 2, _ =>
    refine lv_tableIn (off := 234) (tgt := 284) hx hb dL_law_50 (by decide) (by decide) (by decide) (by decide) ?_
    exact lc_size C hX hbl0 hbA hP hS (by omega) (by omega) hT hsl (fun _ _ => rfl) hbl hB0 hY hms hmb hR hRB ho hfi hre hrc hso hot hcn hla n1 n2 n3 n4 n5 n6 n7 n8 n9 nms nmb hl (fun ls H locs ce sl h1 h2 hS hl => kend ls H locs ce sl (by omega) (by omega) hS hl)
  | 3, _ =>
    refine lv_tableIn (off := 290) (tgt := 340) hx hb dL_law_50 (by decide) (by decide) (by decide) (by decide) ?_
    exact lc_kind C hX hbl0 hbA hP hS (by omega) (by omega) hT hsl (fun _ _ => rfl) hbl hB0 hY hms hmb hR hRB ho hfi hre hrc hso hot hcn hla n1 n2 n3 n4 n5 n6 n7 n8 n9 nms nmb hl (fun ls H locs ce sl h1 h2 hS hl => kend ls H locs ce sl (by omega) (by omega) hS hl)
  | 4, _ =>
    refine lv_tableIn (off := 346) (tgt := 396) hx hb dL_law_50 (by decide) (by decide) (by decide) (by decide) ?_
    exact lc_add C hX hbl0 hbA hP hS (by omega) (by omega) hT hsl (fun _ _ => rfl) hbl hB0 hY hms hmb hR hRB ho hfi hre hrc hso hot hcn hla n1 n2 n3 n4 n5 n6 n7 n8 n9 nms nmb hl (fun ls H locs ce sl h1 h2 hS hl => kend ls H locs ce sl (by omega) (by omega) hS hl)
  | 5, _ =>
    refine lv_tableIn (off := 458) (tgt := 508) hx hb dL_law_50 (by decide) (by decide) (by decide) (by decide) ?_
    exact lc_push C hX hbl0 hbA hP hS (by omega) (by omega) hT hsl (fun _ _ => rfl) hbl hB0 hY hms hmb hR hRB ho hfi hre hrc hso hot hcn hla n1 n2 n3 n4 n5 n6 n7 n8 n9 nms nmb hl (fun ls H locs ce sl h1 h2 hS hl => kend ls H locs ce sl (by omega) (by omega) hS hl)
  | 6, _ =>
    refine lv_tableIn (off := 550) (tgt := 600) hx hb dL_law_50 (by decide) (by decide) (by decide) (by decide) ?_
    exact lc_set C hX hbl0 hbA hP hS (by omega) (by omega) hT hsl (fun _ _ => rfl) hbl hB0 hY hms hmb hR hRB ho hfi hre hrc hso hot hcn hla n1 n2 n3 n4 n5 n6 n7 n8 n9 nms nmb hl (fun ls H locs ce sl h1 h2 hS hl => kend ls H locs ce sl (by omega) (by omega) hS hl)
  | 7, _ =>
    refine lv_tableIn (off := 673) (tgt := 723) hx hb dL_law_50 (by decide) (by decide) (by decide) (by decide) ?_
    exact lc_at C hX hbl0 hbA hP hS (by omega) (by omega) hT hsl (fun _ _ => rfl) hbl hB0 hY hms hmb hR hRB ho hfi hre hrc hso hot hcn hla n1 n2 n3 n4 n5 n6 n7 n8 n9 nms nmb hl (fun ls H locs ce sl h1 h2 hS hl => kend ls H locs ce sl (by omega) (by omega) hS hl)
  | 8, _ =>
    refine lv_tableIn (off := 740) (tgt := 790) hx hb dL_law_50 (by decide) (by decide) (by decide) (by decide) ?_
    exact lc_drop C hX hbl0 hbA hP hS (by omega) (by omega) hT hsl (fun _ _ => rfl) hbl hB0 hY hms hmb hR hRB ho hfi hre hrc hso hot hcn hla n1 n2 n3 n4 n5 n6 n7 n8 n9 nms nmb hl (fun ls H locs ce sl h1 h2 hS hl => kend ls H locs ce sl (by omega) (by omega) hS hl)
  | 9, _ =>
    refine lv_tableIn (off := 848) (tgt := 898) hx hb dL_law_50 (by decide) (by decide) (by decide) (by decide) ?_
    exact lc_pop C hX hbl0 hbA hP hS (by omega) (by omega) hT hsl (fun _ _ => rfl) hbl hB0 hY hms hmb hR hRB ho hfi hre hrc hso hot hcn hla n1 n2 n3 n4 n5 n6 n7 n8 n9 nms nmb hl (fun ls H locs ce sl h1 h2 hS hl => kend ls H locs ce sl (by omega) (by omega) hS hl)
  | 10, _ =>
    refine lv_tableIn (off := 915) (tgt := 965) hx hb dL_law_50 (by decide) (by decide) (by decide) (by decide) ?_
    exact lc_front C hX hbl0 hbA hP hS (by omega) (by omega) hT hsl (fun _ _ => rfl) hbl hB0 hY hms hmb hR hRB ho hfi hre hrc hso hot hcn hla n1 n2 n3 n4 n5 n6 n7 n8 n9 nms nmb hl (fun ls H locs ce sl h1 h2 hS hl => kend ls H locs ce sl (by omega) (by omega) hS hl)
  | 11, _ =>
    refine lv_tableIn (off := 970) (tgt := 1020) hx hb dL_law_50 (by decide) (by decide) (by decide) (by decide) ?_
    exact lc_put C hX hbl0 hbA hP hS (by omega) (by omega) hT hsl (fun _ _ => rfl) hbl hB0 hY hms hmb hR hRB ho hfi hre hrc hso hot hcn hla n1 n2 n3 n4 n5 n6 n7 n8 n9 nms nmb hl (fun ls H locs ce sl h1 h2 hS hl => kend ls H locs ce sl (by omega) (by omega) hS hl)
  | 12, _ =>
    refine lv_tableIn (off := 1128) (tgt := 1178) hx hb dL_law_50 (by decide) (by decide) (by decide) (by decide) ?_
    exact lc_find C hX hbl0 hbA hP hS (by omega) (by omega) hT hsl (fun _ _ => rfl) hbl hB0 hY hms hmb hR hRB ho hfi hre hrc hso hot hcn hla n1 n2 n3 n4 n5 n6 n7 n8 n9 nms nmb hl (fun ls H locs ce sl h1 h2 hS hl => kend ls H locs ce sl (by omega) (by omega) hS hl)
  | 13, _ =>
    refine lv_tableIn (off := 1227) (tgt := 1277) hx hb dL_law_50 (by decide) (by decide) (by decide) (by decide) ?_
    exact lc_out C hX hbl0 hbA hP hS (by omega) (by omega) hT hsl (fun _ _ => rfl) hbl hB0 hY hms hmb hR hRB ho hfi hre hrc hso hot hcn hla n1 n2 n3 n4 n5 n6 n7 n8 n9 nms nmb hl (fun ls H locs ce sl h1 h2 hS hl => kend ls H locs ce sl (by omega) (by omega) hS hl)
  | 14, _ =>
    refine lv_tableIn (off := 1339) (tgt := 1389) hx hb dL_law_50 (by decide) (by decide) (by decide) (by decide) ?_
    exact lc_near C hX hbl0 hbA hP hS (by omega) (by omega) hT hsl (fun _ _ => rfl) hbl hB0 hY hms hmb hR hRB ho hfi hre hrc hso hot hcn hla n1 n2 n3 n4 n5 n6 n7 n8 n9 nms nmb hl (fun ls H locs ce sl h1 h2 hS hl => kend ls H locs ce sl (by omega) (by omega) hS hl)
  | 15, _ =>
    refine lv_tableIn (off := 1450) (tgt := 1500) hx hb dL_law_50 (by decide) (by decide) (by decide) (by decide) ?_
    exact lc_range C hX hbl0 hbA hP hS (by omega) (by omega) hT hsl (fun _ _ => rfl) hbl hB0 hY hms hmb hR hRB ho hfi hre hrc hso hot hcn hla n1 n2 n3 n4 n5 n6 n7 n8 n9 nms nmb hl (fun ls H locs ce sl h1 h2 hS hl => kend ls H locs ce sl (by omega) (by omega) hS hl)
  | 16, _ =>
    refine lv_tableIn (off := 1608) (tgt := 1658) hx hb dL_law_50 (by decide) (by decide) (by decide) (by decide) ?_
    exact lc_join C hX hbl0 hbA hP hS (by omega) (by omega) hT hsl (fun _ _ => rfl) hbl hB0 hY hms hmb hR hRB ho hfi hre hrc hso hot hcn hla n1 n2 n3 n4 n5 n6 n7 n8 n9 nms nmb hl (fun ls H locs ce sl h1 h2 hS hl => kend ls H locs ce sl (by omega) (by omega) hS hl)
  | 17, _ =>
    refine lv_tableIn (off := 1688) (tgt := 1738) hx hb dL_law_50 (by decide) (by decide) (by decide) (by decide) ?_
    exact lc_meet C hX hbl0 hbA hP hS (by omega) (by omega) hT hsl (fun _ _ => rfl) hbl hB0 hY hms hmb hR hRB ho hfi hre hrc hso hot hcn hla n1 n2 n3 n4 n5 n6 n7 n8 n9 nms nmb hl (fun ls H locs ce sl h1 h2 hS hl => kend ls H locs ce sl (by omega) (by omega) hS hl)
  | 18, _ =>
    refine lv_tableIn (off := 1796) (tgt := 1846) hx hb dL_law_50 (by decide) (by decide) (by decide) (by decide) ?_
    exact lc_shape C hX hbl0 hbA hP hS (by omega) (by omega) hT hsl (fun _ _ => rfl) hbl hB0 hY hms hmb hR hRB ho hfi hre hrc hso hot hcn hla n1 n2 n3 n4 n5 n6 n7 n8 n9 nms nmb hl (fun ls H locs ce sl h1 h2 hS hl => kend ls H locs ce sl (by omega) (by omega) hS hl)
  | 19, _ =>
    refine lv_tableIn (off := 1852) (tgt := 1902) hx hb dL_law_50 (by decide) (by decide) (by decide) (by decide) ?_
    exact lc_same C hX hbl0 hbA hP hS (by omega) (by omega) hT hsl (fun _ _ => rfl) hbl hB0 hY hms hmb hR hRB ho hfi hre hrc hso hot hcn hla n1 n2 n3 n4 n5 n6 n7 n8 n9 nms nmb hl (fun ls H locs ce sl h1 h2 hS hl => kend ls H locs ce sl (by omega) (by omega) hS hl)
  | 20, _ =>
    refine lv_tableIn (off := 1927) (tgt := 1977) hx hb dL_law_50 (by decide) (by decide) (by decide) (by decide) ?_
    exact lc_map C hX hbl0 hbA hP hS (by omega) (by omega) hT hsl (fun _ _ => rfl) hbl hB0 hY hms hmb hR hRB ho hfi hre hrc hso hot hcn hla n1 n2 n3 n4 n5 n6 n7 n8 n9 nms nmb hl (fun ls H locs ce sl h1 h2 hS hl => kend ls H locs ce sl (by omega) (by omega) hS hl)
  | 21, _ =>
    refine lv_tableIn (off := 2031) (tgt := 2081) hx hb dL_law_50 (by decide) (by decide) (by decide) (by decide) ?_
    exact lc_filter C hX hbl0 hbA hP hS (by omega) (by omega) hT hsl (fun _ _ => rfl) hbl hB0 hY hms hmb hR hRB ho hfi hre hrc hso hot hcn hla n1 n2 n3 n4 n5 n6 n7 n8 n9 nms nmb hl (fun ls H locs ce sl h1 h2 hS hl => kend ls H locs ce sl (by omega) (by omega) hS hl)
  | 22, _ =>
    refine lv_tableIn (off := 2135) (tgt := 2185) hx hb dL_law_50 (by decide) (by decide) (by decide) (by decide) ?_
    exact lc_iterate C hX hbl0 hbA hP hS (by omega) (by omega) hT hsl (fun _ _ => rfl) hbl hB0 hY hms hmb hR hRB ho hfi hre hrc hso hot hcn hla n1 n2 n3 n4 n5 n6 n7 n8 n9 nms nmb hl (fun ls H locs ce sl h1 h2 hS hl => kend ls H locs ce sl (by omega) (by omega) hS hl)
  | 23, _ =>
    refine lv_tableIn (off := 2273) (tgt := 2323) hx hb dL_law_50 (by decide) (by decide) (by decide) (by decide) ?_
    exact lc_take C hX hbl0 hbA hP hS (by omega) (by omega) hT hsl (fun _ _ => rfl) hbl hB0 hY hms hmb hR hRB ho hfi hre hrc hso hot hcn hla n1 n2 n3 n4 n5 n6 n7 n8 n9 nms nmb hl (fun ls H locs ce sl h1 h2 hS hl => kend ls H locs ce sl (by omega) (by omega) hS hl)
  | 24, _ =>
    refine lv_tableIn (off := 2333) (tgt := 2383) hx hb dL_law_50 (by decide) (by decide) (by decide) (by decide) ?_
    exact lc_list C hX hbl0 hbA hP hS (by omega) (by omega) hT hsl (fun _ _ => rfl) hbl hB0 hY hms hmb hR hRB ho hfi hre hrc hso hot hcn hla n1 n2 n3 n4 n5 n6 n7 n8 n9 nms nmb hl (fun ls H locs ce sl h1 h2 hS hl => kend ls H locs ce sl (by omega) (by omega) hS hl)
  | 25, _ =>
    refine lv_tableIn (off := 2413) (tgt := 2463) hx hb dL_law_50 (by decide) (by decide) (by decide) (by decide) ?_
    exact lc_turn C hX hbl0 hbA hP hS (by omega) (by omega) hT hsl (fun _ _ => rfl) hbl hB0 hY hms hmb hR hRB ho hfi hre hrc hso hot hcn hla n1 n2 n3 n4 n5 n6 n7 n8 n9 nms nmb hl (fun ls H locs ce sl h1 h2 hS hl => kend ls H locs ce sl (by omega) (by omega) hS hl)
  | 26, _ =>
    refine lv_tableIn (off := 2461) (tgt := 2511) hx hb dL_law_50 (by decide) (by decide) (by decide) (by decide) ?_
    exact lc_open C hX hbl0 hbA hP hS (by omega) (by omega) hT hsl (fun _ _ => rfl) hbl hB0 hY hms hmb hR hRB ho hfi hre hrc hso hot hcn hla n1 n2 n3 n4 n5 n6 n7 n8 n9 nms nmb hl (fun ls H locs ce sl h1 h2 hS hl => kend ls H locs ce sl (by omega) (by omega) hS hl)
  | 27, _ =>
    refine lv_tableIn (off := 2509) (tgt := 2559) hx hb dL_law_50 (by decide) (by decide) (by decide) (by decide) ?_
    exact lc_build C hX hbl0 hbA hP hS (by omega) (by omega) hT hsl (fun _ _ => rfl) hbl hB0 hY hms hmb hR hRB ho hfi hre hrc hso hot hcn hla n1 n2 n3 n4 n5 n6 n7 n8 n9 nms nmb hl (fun ls H locs ce sl h1 h2 hS hl => kend ls H locs ce sl (by omega) (by omega) hS hl)
  | 28, _ =>
    refine lv_tableIn (off := 2667) (tgt := 2717) hx hb dL_law_50 (by decide) (by decide) (by decide) (by decide) ?_
    exact lc_look C hX hbl0 hbA hP hS (by omega) (by omega) hT hsl (fun _ _ => rfl) hbl hB0 hY hms hmb hR hRB ho hfi hre hrc hso hot hcn hla n1 n2 n3 n4 n5 n6 n7 n8 n9 nms nmb hl (fun ls H locs ce sl h1 h2 hS hl => kend ls H locs ce sl (by omega) (by omega) hS hl)
  | 29, _ =>
    refine lv_tableIn (off := 2766) (tgt := 2816) hx hb dL_law_50 (by decide) (by decide) (by decide) (by decide) ?_
    exact lc_freeze C hX hbl0 hbA hP hS (by omega) (by omega) hT hsl (fun _ _ => rfl) hbl hB0 hY hms hmb hR hRB ho hfi hre hrc hso hot hcn hla n1 n2 n3 n4 n5 n6 n7 n8 n9 nms nmb hl (fun ls H locs ce sl h1 h2 hS hl => kend ls H locs ce sl (by omega) (by omega) hS hl)
  | 30, _ =>
    refine lv_tableIn (off := 2834) (tgt := 2884) hx hb dL_law_50 (by decide) (by decide) (by decide) (by decide) ?_
    exact lc_count C hX hbl0 hbA hP hS (by omega) (by omega) hT hsl (fun _ _ => rfl) hbl hB0 hY hms hmb hR hRB ho hfi hre hrc hso hot hcn hla n1 n2 n3 n4 n5 n6 n7 n8 n9 nms nmb hl (fun ls H locs ce sl h1 h2 hS hl => kend ls H locs ce sl (by omega) (by omega) hS hl)
  | 31, _ =>
    refine lv_tableOut (tgt := 2940) hx hb dL_law_50 (by decide) (by decide) ?_
    exact kend ls H locs _ _ (by omega) (by omega) hS (lv_sub hl [0, 4] rfl)
  | n + 32, h => exact absurd h (by omega)
