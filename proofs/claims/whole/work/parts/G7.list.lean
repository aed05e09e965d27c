theorem xLst_1 {F : qWo → Nat → Nat × qWo} {W : qWo} {s : Nat} (hs : ¬ s = 0) : xLst F 1 W s = ([W.2.1.2.2.1 s], W) := by
  rw [show (1 : Nat) = 0 + 1 from rfl, xLst, if_neg hs, if_pos rfl]
theorem zrow_app {A : List Int64} {v : Int64} {f : Nat → Int64} (h : ∀ q, q < A.length → f q = A.getD q 0) : ∀ q, q < (A ++ [v]).length → (vp_updL f A.length v) q = (A ++ [v]).getD q 0 := fun q hq => by
  rw [List.length_append] at hq
  unfold vp_updL
  by_cases c : q = A.length
  · rw [if_pos c, c, List.getD_eq_getElem?_getD, List.getElem?_append_right (Nat.le_refl _), Nat.sub_self]; rfl
  · have : q < A.length := by have : q < A.length + 1 := hq; omega
    rw [if_neg c, h q this, List.getD_eq_getElem?_getD, List.getD_eq_getElem?_getD, List.getElem?_append_left this]
theorem dX6_list_22 : decode cX6_list 22 = .ok (.getfield 115, 3) := by decide +kernel
theorem dX6_list_25 : decode cX6_list 25 = .ok (.astore 4, 2) := by decide +kernel
theorem dX6_list_27 : decode cX6_list 27 = .ok (.iconst 0, 1) := by decide +kernel
theorem dX6_list_28 : decode cX6_list 28 = .ok (.istore 5, 2) := by decide +kernel
theorem dX6_list_30 : decode cX6_list 30 = .ok (.iload 5, 2) := by decide +kernel
theorem dX6_list_32 : decode cX6_list 32 = .ok (.iload_n 3, 1) := by decide +kernel
theorem dX6_list_33 : decode cX6_list 33 = .ok (.if_icmp .ge 44, 3) := by decide +kernel
theorem dX6_list_36 : decode cX6_list 36 = .ok (.aload 4, 2) := by decide +kernel
theorem dX6_list_38 : decode cX6_list 38 = .ok (.ifnull 39, 3) := by decide +kernel
theorem dX6_list_41 : decode cX6_list 41 = .ok (.aload_n 0, 1) := by decide +kernel
theorem dX6_list_42 : decode cX6_list 42 = .ok (.getfield 25, 3) := by decide +kernel
theorem dX6_list_45 : decode cX6_list 45 = .ok (.iload 5, 2) := by decide +kernel
theorem dX6_list_47 : decode cX6_list 47 = .ok (.aload 4, 2) := by decide +kernel
theorem dX6_list_49 : decode cX6_list 49 = .ok (.getfield 159, 3) := by decide +kernel
theorem dX6_list_52 : decode cX6_list 52 = .ok (.lastore, 1) := by decide +kernel
theorem dX6_list_53 : decode cX6_list 53 = .ok (.iinc 5 1, 3) := by decide +kernel
theorem dX6_list_56 : decode cX6_list 56 = .ok (.iload 5, 2) := by decide +kernel
theorem dX6_list_58 : decode cX6_list 58 = .ok (.iload_n 3, 1) := by decide +kernel
theorem dX6_list_59 : decode cX6_list 59 = .ok (.if_icmp .ge 12, 3) := by decide +kernel
theorem dX6_list_62 : decode cX6_list 62 = .ok (.aload_n 0, 1) := by decide +kernel
theorem dX6_list_63 : decode cX6_list 63 = .ok (.aload 4, 2) := by decide +kernel
theorem dX6_list_65 : decode cX6_list 65 = .ok (.invokevirtual 179, 3) := by decide +kernel
theorem dX6_list_68 : decode cX6_list 68 = .ok (.goto 4, 3) := by decide +kernel
theorem dX6_list_71 : decode cX6_list 71 = .ok (.aconst_null, 1) := by decide +kernel
theorem dX6_list_72 : decode cX6_list 72 = .ok (.astore 4, 2) := by decide +kernel
theorem dX6_list_74 : decode cX6_list 74 = .ok (.goto (-44), 3) := by decide +kernel
theorem dX6_list_77 : decode cX6_list 77 = .ok (.aload_n 0, 1) := by decide +kernel
theorem dX6_list_78 : decode cX6_list 78 = .ok (.iload_n 3, 1) := by decide +kernel
theorem dX6_list_79 : decode cX6_list 79 = .ok (.invokevirtual 218, 3) := by decide +kernel
theorem dX6_list_82 : decode cX6_list 82 = .ok (.aload_n 0, 1) := by decide +kernel
theorem dX6_list_83 : decode cX6_list 83 = .ok (.iload_n 1, 1) := by decide +kernel
theorem dX6_list_84 : decode cX6_list 84 = .ok (.aload_n 0, 1) := by decide +kernel
theorem dX6_list_85 : decode cX6_list 85 = .ok (.iload 5, 2) := by decide +kernel
theorem dX6_list_87 : decode cX6_list 87 = .ok (.invokevirtual 306, 3) := by decide +kernel
theorem dX6_list_90 : decode cX6_list 90 = .ok (.invokevirtual 51, 3) := by decide +kernel
theorem dX6_list_93 : decode cX6_list 93 = .ok (.ireturn, 1) := by decide +kernel
set_option maxRecDepth 100000 in
set_option maxHeartbeats 4000000 in
theorem z_list (l : Launch) (D : va_G) (cy : Nat → ClassId) (N0 : Nat) (h : qH) (x : Nat) (mk : Int32) (sl bl kr vr Ed : Nat) (fs : Nat → Option Nat) (bd br eb : Nat → Nat) (Im : Nat → Prop) (Xb : Nat → Nat → Prop) (g : Nat → Nat) (S : Nat → qSlot) (W : qWo) (Bd sk Rn : Nat) (dp : Nat → Nat) (dc : Nat) (d : Nat) (F : qWo → Nat → Nat × qWo) (p0 p1 p2 : Int32) (hz : zQ cy h x mk sl bl kr vr Ed fs bd br eb Im Xb g S W) (hI : ∀ i, i < 28 → qOk (S i).1 (S i).2.1) (hLn : ∀ i, i < 28 → (S i).2.1.length ≤ 1000) (hV : qWv Bd (sk + 1) Rn dp W) (hSt : ∀ i, i < 24 → (S i).1 = 6 → (S i).2.2.1 < W.2.1.1 ∧ dp (S i).2.2.1 ≤ dc) (hF : zCS l D cy N0 x mk sl bl kr vr (nI Ed) Bd Rn (xRs S) F d) (hG : qFg Bd Rn F d) (hdc : dc < d) : qC l D cy N0 yX6_list cX6_list 6 (some .int) (4 * d + 1020) (200 * d + 23300) (1100 + ((xs_list F S W p0 p1 p2).2.2.2.2.1.1 - W.2.1.1)) (6400 + 10 * ((xs_list F S W p0 p1 p2).2.2.2.2.1.1 - W.2.1.1)) [.ref x, .int p0, .int p1, .int p2] h (fun v h' => (xs_list F S W p0 p1 p2).1 = 0 ∧ v = some (.int (xs_list F S W p0 p1 p2).2.1) ∧ zPo cy h x mk sl bl kr vr Ed bd br Im Xb ((xs_list F S W p0 p1 p2).2.2.1) ((xs_list F S W p0 p1 p2).2.2.2) h') (fun E h' => zXc [(1, "java/lang/IllegalArgumentException"), (2, "java/lang/IllegalStateException"), (3, "java/lang/ArithmeticException"), (4, "java/lang/IndexOutOfBoundsException")] E (xs_list F S W p0 p1 p2).1 ∧ zPo cy h x mk sl bl kr vr Ed bd br Im Xb S ((xs_list F S W p0 p1 p2).2.2.2) h') := by
  refine q_ofW (by decide) (by exact Nat.le_of_ble_eq_true rfl) ?_
  intro p e s m below meth c ls C hP hl
  have hx := C.1
  have hb := C.2.1
  have hS : va_S (qA N0) s.heap s.heap [] := va_S.rf
  have hl : lv_has ls 6 [(0, .ref x), (1, .int p0), (2, .int p1), (3, .int p2)] := hl
  have hf : zFr h h x sl kr vr bd br Xb := zFr.rf
  obtain ⟨o, a, k⟩ := W
  dsimp only at hSt
  have hp9 : 1 ≤ a.1 ∧ a.1 ≤ a.2.1 := hV.p
  refine lv_iload_n hx hb dX6_list_0 rfl (lv_at hl 1 rfl) ?_
  refine q_callS (rest := []) C (c_X6_needSlot l D cy N0 h p0) kX6_needSlot g104 g105 hP hS (by first | decide | omega) hl.1 rfl (by decide) (by first | decide | omega) dX6_list_1 (fun q ce E h' H1 locs1 hE hP hS hc1 hc2 hc3 => by obtain ⟨rfl, rfl, hn9⟩ := hE; have eb9 := bSl_f hn9; exact q_out C hP hS hc1 hc2 hc3 (by have ex : (xs_list F S (o, a, k) p0 p1 p2) = (1, 0, S, o, a, k) := (by unfold xs_list; rw [if_pos (Or.inl eb9)]); exact ⟨by rw [ex]; exact .head _, by rw [ex]; exact hz.po hf⟩) (by omega)) (fun v hh1 H locs hq hP hS => ?_)
  obtain ⟨rfl, rfl, sl9⟩ := hq
  obtain ⟨i, hi, rfl⟩ := sl9.of
  have ebi : bSl (nI i) = true := bSl_t sl9
  have eci : (nI i).toNatClampNeg = i := nI_clamp (by omega)
  refine lv_iload_n hx hb dX6_list_4 rfl (lv_at hl 2 rfl) ?_
  refine q_callS (rest := []) C (c_X6_needSlot l D cy N0 h p1) kX6_needSlot g104 g105 hP hS (by first | decide | omega) hl.1 rfl (by decide) (by first | decide | omega) dX6_list_5 (fun q ce E h' H1 locs1 hE hP hS hc1 hc2 hc3 => by obtain ⟨rfl, rfl, hn9⟩ := hE; have eb9 := bSl_f hn9; exact q_out C hP hS hc1 hc2 hc3 (by have ex : (xs_list F S (o, a, k) (nI i) p1 p2) = (1, 0, S, o, a, k) := (by unfold xs_list; rw [if_pos (Or.inr (Or.inl eb9))]); exact ⟨by rw [ex]; exact .head _, by rw [ex]; exact hz.po hf⟩) (by omega)) (fun v hh2 H locs hq hP hS => ?_)
  obtain ⟨rfl, rfl, sl9⟩ := hq
  obtain ⟨j, hj, rfl⟩ := sl9.of
  have ebj : bSl (nI j) = true := bSl_t sl9
  have ecj : (nI j).toNatClampNeg = j := nI_clamp (by omega)
  refine lv_iload_n hx hb dX6_list_8 rfl (lv_at hl 3 rfl) ?_
  refine lv_sipush (v := nI 1000) hx hb dX6_list_9 (by decide) ?_
  refine q_callS (rest := []) C (c_X6_needWithin l D cy N0 h p2 1000) kX6_needWithin g107 g108 hP hS (by first | decide | omega) hl.1 rfl (by decide) (by first | decide | omega) dX6_list_12 (fun q ce E h' H1 locs1 hE hP hS hc1 hc2 hc3 => by obtain ⟨rfl, rfl, hn9⟩ := hE; exact q_out C hP hS hc1 hc2 hc3 (by have ex : (xs_list F S (o, a, k) (nI i) (nI j) p2) = (1, 0, S, o, a, k) := (by unfold xs_list; rw [if_pos (Or.inr (Or.inr (hn9.elim Or.inl (fun z => zltN (m := 1000) (by decide) z))))]); exact ⟨by rw [ex]; exact .head _, by rw [ex]; exact hz.po hf⟩) (by omega)) (fun v hh3 H locs hq hP hS => ?_)
  obtain ⟨rfl, rfl, gw1, gw2⟩ := hq
  obtain ⟨q8, hq8, rfl⟩ := nI_of2 (M := 1000) (n := 1000) (by decide) gw1 gw2
  have ecq : (nI q8).toNatClampNeg = q8 := nI_clamp (by omega)
  refine lv_aload_n hx hb dX6_list_15 rfl (lv_at hl 0 rfl) ?_
  refine lv_iload_n hx hb dX6_list_16 rfl (lv_at hl 2 rfl) ?_
  refine lv_bipush (v := nI 64) hx hb dX6_list_17 (by decide) ?_
  refine q_callV (rest := []) C (z_heldIn l D N0 (nI j) 64 hz hI) kX6_heldIn g243 g245 rfl gp2 g1 hP hS hz.1.1 (by first | decide | omega) hl.1 rfl (by decide) (by first | decide | omega) dX6_list_19 (fun q ce E h' H1 locs1 hE hP hS hc1 hc2 hc3 => hE.2.elim (fun y => by obtain ⟨rfl, -⟩ := hE; obtain ⟨rfl, hn9⟩ := y; exact absurd hn9 (by rw [ebj]; decide)) (fun y => by obtain ⟨rfl, -⟩ := hE; obtain ⟨rfl, i8, hi8, e8, ho8⟩ := y; obtain rfl : j = i8 := nI_inj32 (by omega) (by omega) e8; exact q_out C hP hS hc1 hc2 hc3 (by have ex : (xs_list F S (o, a, k) (nI i) (nI j) (nI q8)) = (2, 0, S, o, a, k) := (by have ebj : bSl (nI j) = true := bSl_t (qSl.nI hi8); have ecj : (nI j).toNatClampNeg = j := nI_clamp (by omega); have hoj := ho8; unfold xs_list; rw [if_neg (by rw [ebi, ebj, ecq]; exact fun z => z.elim (fun z => by cases z) (fun z => z.elim (fun z => by cases z) (fun z => z.elim gw1 (fun z => by omega)))), ecj, if_pos hoj]); exact ⟨by rw [ex]; exact .tail _ (.head _), by rw [ex]; exact hz.po hf⟩) (by omega))) (fun v hh4 H locs hq hP hS => ?_)
  obtain ⟨rfl, j9, aj, hj9, ej9, hfsj, rfl, hoj, x1j, x2j, x3j, x4j, dvj, faj, zvj⟩ := hq
  obtain rfl : j = j9 := nI_inj32 (by omega) (by omega) ej9
  have hk9 : (S j).1 = nI 6 := bHo_64 (hI j (by omega)).2.2 hoj
  obtain ⟨rfl, rfl, rfl, rfl, rfl⟩ := zvj.strm hk9
  have hs8 := hSt j (by omega) hk9
  obtain ⟨sv, esv⟩ : ∃ z, zO g (S j).2.2.1 = z := ⟨_, rfl⟩
  rw [esv] at faj
  obtain ⟨X, hXs⟩ : ∃ z, xLst F q8 ((oFa (oCd o 0) 0), a, k) (S j).2.2.1 = z := ⟨_, rfl⟩
  obtain ⟨f0v, hf0v⟩ := hz.2.1.2.2.2
  refine q_get C hP faj rfl inX2 4 (by decide) g202 rfl dX6_list_22 ?_
  refine q_astore (lv' := [(4, va_rf sv), (0, .ref x), (1, .int (nI i)), (2, .int (nI j)), (3, .int (nI q8))]) hx hb dX6_list_25 hl (by decide) rfl (fun ls hl => ?_)
  refine lv_iconst (v := nI 0) hx hb dX6_list_27 (by decide) ?_
  refine lv_istore (lv' := [(5, .int (nI 0)), (4, va_rf sv), (0, .ref x), (1, .int (nI i)), (2, .int (nI j)), (3, .int (nI q8))]) hx hb dX6_list_28 hl (by decide) (by cases sv <;> rfl) (fun ls hl => ?_)
  refine (?_ : ∀ (u9 t9 : Nat) (A : List Int64) (H : Heap) (locs : List Loc) (ls : Array Slot) (hh : qH) (g9 : Nat → Nat) (o9 : qYf) (a9 : qWd) (k9 : qKd) (dp9 : Nat → Nat) (s9 : Nat) (hv : Option Nat) (f : Nat → Int64) (c1 c2 : Nat), t9 < u9 → lv_has ls 6 [(5, .int (nI A.length)), (4, va_rf hv), (3, .int (nI q8)), (1, .int (nI i)), (0, .ref x)] → A.length + t9 = q8 → (¬ t9 = 0 → hv = zO g9 s9) → qP D N0 hh H → va_S (qA N0) s.heap H locs → zQ cy hh x mk sl bl kr vr Ed fs bd br eb Im Xb g9 S (o9, a9, k9) → qWv Bd (sk + 1) Rn dp9 (o9, a9, k9) → oFq o9 = 0 → s9 < a9.1 ∧ dp9 s9 ≤ dc → X = (A ++ (xLst F t9 (o9, a9, k9) s9).1, (xLst F t9 (o9, a9, k9) s9).2) → hh vr = some (.inl (cy 1, 1000, .inr (.inl f))) → (∀ q, q < A.length → f q = A.getD q 0) → a.1 ≤ a9.1 → zFr h hh x sl kr vr bd br Xb → c1 + a.1 ≤ a9.1 + 10 ∧ c2 + 10 * a.1 ≤ 10 * a9.1 + 60 → W p l e _ s m _ below meth c H locs c1 c2 _ (F0 m 30 ls [])) (q8 + 1) q8 [] _ _ ls h g (oFa (oCd o 0) 0) a k dp (S j).2.2.1 sv f0v _ _ (by omega) (lv_sub hl [0, 1, 5, 3, 2] rfl) (Nat.zero_add _) (fun _ => esv.symm) hP hS (hz.obj rfl rfl) (hV.obj rfl) rfl hs8 (by rw [hXs]; rfl) hf0v (fun q hq => absurd hq (Nat.not_lt_zero _)) (Nat.le_refl _) hf ⟨by omega, by omega⟩
  clear hl hP hS hz hV hf hs8 hf0v faj
  intro u9
  induction u9 with
  | zero => intro t9 _ _ _ _ _ _ _ _ _ _ _ _ _ _ _ h; exact absurd h (Nat.not_lt_zero _)
  | succ u9 ihl =>
    intro t9 A H locs ls hh g9 o9 a9 k9 dp9 s9 hv f c1 c2 htu hl hAt hhv hP hS hz hV hfa hss hXX hkk hfA ha9 hf hcc
    have hp9 : 1 ≤ a9.1 ∧ a9.1 ≤ a9.2.1 := hV.p
    obtain ⟨m1, hm1, hm9, -⟩ := hV.m
    dsimp only at hm1
    replace hSt : ∀ i, i < 24 → (S i).1 = 6 → (S i).2.2.1 < a9.1 := fun i hi y => by have := (hSt i hi y).1; omega
    have stX := xLst_stp hG hdc t9 s9 dp9 (o9, a9, k9) hV hfa hss
    have hmX : a9.1 ≤ X.2.2.1.1 := by obtain ⟨_, _, _, z, _⟩ := stX; rw [hXX]; exact z
    clear stX
    have eA : (xs_list F S (o, a, k) (nI i) (nI j) (nI q8)).2.2.2.2.1.1 = X.2.2.1.1 := by unfold xs_list; rw [if_neg (by rw [ebi, ebj, ecq]; exact fun z => z.elim (fun z => by cases z) (fun z => z.elim (fun z => by cases z) (fun z => z.elim gw1 (fun z => by omega)))), ecj, if_neg (by rw [hoj]; decide), eci, ecq]; dsimp only; rw [hXs]; rw [xLfin_a]
    have e0 : ((o, a, k) : qWo).2.1.1 = a.1 := rfl
    by_cases ct : t9 = 0
    · have eX : X = (A, o9, a9, k9) := by rw [hXX, xLst_nil (Or.inl ct), List.append_nil]
      refine lv_iload hx hb dX6_list_30 (lv_at hl 0 rfl) ?_
      refine lv_iload_n hx hb dX6_list_32 rfl (lv_at hl 2 rfl) ?_
      refine lv_icmp_ge (tgt := 77) hx hb dX6_list_33 (by decide) (fun _ => ?_) (fun c => absurd ((nI_leI (a := q8) (b := A.length) (by omega) (by omega)).mpr (by omega)) c)
      refine lv_aload_n hx hb dX6_list_77 rfl (lv_at hl 4 rfl) ?_
      refine lv_iload_n hx hb dX6_list_78 rfl (lv_at hl 2 rfl) ?_
      refine q_callV (rest := []) C (c_X6_takeMoves l D cy N0 hh x sl bl kr vr mk (oCq (o9, a9, k9).1) (oMq (o9, a9, k9).1) (nI Ed) fs (nI q8) hz.1.1 hz.2.1.1) kX6_takeMoves g641 g643 rfl gp15 g1 hP hS hz.1.1 (by first | decide | omega) hl.1 rfl (by decide) (by first | decide | omega) dX6_list_79 (fun q ce E h' H1 locs1 hE hP hS hc1 hc2 hc3 => by obtain ⟨rfl, rfl, hn9⟩ := hE; replace hn9 : ¬ m1 + q8 ≤ 20000 := fun z => hn9 (by rw [show oMq (o9, a9, k9).1 = nI m1 from hm1]; exact (zmvs hm9 (by omega)).mpr z); exact q_out C hP hS hc1 hc2 hc3 (by have ex : (xs_list F S (o, a, k) (nI i) (nI j) (nI q8)) = (4, 0, S, o9, a9, k9) := (by unfold xs_list; rw [if_neg (by rw [ebi, ebj, ecq]; exact fun z => z.elim (fun z => by cases z) (fun z => z.elim (fun z => by cases z) (fun z => z.elim gw1 (fun z => by omega)))), ecj, if_neg (by rw [hoj]; decide), eci, ecq]; dsimp only; rw [hXs, eX]; unfold xLfin; dsimp only; rw [if_neg (show ¬ oFq o9 = 1 from fun z => absurd (hfa.symm.trans z) (by decide)), show (oMq o9).toNatClampNeg = m1 from by rw [hm1]; exact nI_clamp (by omega), if_pos (Or.inr (by omega))]); exact ⟨by rw [ex]; exact .tail _ (.tail _ (.tail _ (.head _))), by rw [ex]; exact hz.po hf⟩) (by omega)) (fun v hh5 H locs hq hP hS => ?_)
      obtain ⟨rfl, rfl, hmv⟩ := hq
      have hmv2 : m1 + q8 ≤ 20000 := (zmvs hm9 (by omega)).mp (by rw [← hm1]; exact hmv)
      rw [show oMq (o9, a9, k9).1 = nI m1 from hm1, nI_add] at hP
      replace hP : qP D N0 (qs hh x (.inr (6, [.int mk, .ref sl, .ref bl, .ref kr, .ref vr, .int (oCq (o9, a9, k9).1), .int (nI (m1 + q8)), .int (nI Ed)]))) H := hP
      replace hkk := (qs_ne (h := hh) (a := x) (o := (.inr (6, [.int mk, .ref sl, .ref bl, .ref kr, .ref vr, .int (oCq (o9, a9, k9).1), .int (nI (m1 + q8)), .int (nI Ed)]))) (qne_cl hkk hz.1.1)).trans hkk
      replace hf := hf.trs (zFr.set (o' := .inr (6, [.int mk, .ref sl, .ref bl, .ref kr, .ref vr, .int (oCq (o9, a9, k9).1), .int (nI (m1 + q8)), .int (nI Ed)])) hz.1.1 (Or.inl rfl))
      replace hz : zQ cy (qs hh x (.inr (6, [.int mk, .ref sl, .ref bl, .ref kr, .ref vr, .int (oCq (o9, a9, k9).1), .int (nI (m1 + q8)), .int (nI Ed)]))) x mk sl bl kr vr Ed fs bd br eb Im Xb g9 S (oMv o9 (nI (m1 + q8)), a9, k9) := hz.mv hV
      replace hV := hV.mvs hm1 (M2 := m1 + q8) ⟨by omega, by omega⟩ hmv2
      replace hV : qWv Bd (sk + 1) Rn dp9 (oMv o9 (nI (m1 + q8)), a9, k9) := hV
      refine lv_aload_n hx hb dX6_list_82 rfl (lv_at hl 4 rfl) ?_
      refine lv_iload_n hx hb dX6_list_83 rfl (lv_at hl 3 rfl) ?_
      refine lv_aload_n hx hb dX6_list_84 rfl (lv_at hl 4 rfl) ?_
      refine lv_iload hx hb dX6_list_85 (lv_at hl 0 rfl) ?_
      refine q_callV (rest := [.int (nI i), .ref x]) C (z_sequenceOfValues l D cy N0 (qs hh x (.inr (6, [.int mk, .ref sl, .ref bl, .ref kr, .ref vr, .int (oCq (o9, a9, k9).1), .int (nI (m1 + q8)), .int (nI Ed)]))) x sl bl kr vr mk (oCq (oMv o9 (nI (m1 + q8)), a9, k9).1) (oMq (oMv o9 (nI (m1 + q8)), a9, k9).1) (nI Ed) f A.length hz.1.1 hkk (by omega)) kX6_sequenceOfValues g962 g964 rfl gp29 g1 hP hS hz.1.1 (by first | decide | omega) hl.1 rfl (by simp [q_catrf, q_cati, q_catl, q_cata, q_catn]) (by first | decide | omega) dX6_list_87 (fun q ce E h' H1 locs1 hE => hE.elim) (fun v hh6 H locs hq hP hS => ?_)
      obtain ⟨qh, r8, n7, rfl, hle8, fqh, hb8⟩ := hq
      replace hf := hf.trs (zFr.le hle8 (qle.dom hle8))
      replace hz := hz.le hV hle8 (qle.dom hle8)
      have zvn : zV cy hh6 Im (zOk Ed eb S) mk g9 (0, A.map (fun v => (v, 0)), 0, 0) r8 none none none 0 := Or.inl ⟨Or.inl rfl, rfl, rfl, rfl, rfl, n7, by show qBr _ _ _ ((A.map (fun v => ((v, 0) : Int64 × Int64))).map (fun p => (0, p.1))); rw [List.map_map]; have := qRl_eq (f := f) (L := A) (lo := 0) (fun q hq => by rw [Nat.zero_add]; exact hfA q hq); rw [this] at hb8; exact hb8⟩
      have hzp := hz.put hV hi (s := (0, A.map (fun v => (v, 0)), 0, 0)) (show ¬ ((0 : Int32) = -1) by decide) ⟨r8, none, none, none, 0, fqh, zvn⟩
      have hfp : zFr h (qs hh6 sl (.inl (cy 3, 24, .inr (.inr (.inr (.inr (va_up fs i (some qh)))))))) x sl kr vr bd br Xb := hf.trs (zFr.set hz.2.1.1 (Or.inr (Or.inl rfl)))
      have hkd : qHd hh6 qh 0 r8 none none none 0 (nI (zAm (0, A.map (fun v => (v, 0)), 0, 0))) := zHd.hd (s := (0, A.map (fun v => (v, 0)), 0, 0)) fqh zvn
      refine q_callV (rest := []) C (c_X6_keep l D cy N0 hh6 x sl bl kr vr mk (oCq (oMv o9 (nI (m1 + q8)), a9, k9).1) (oMq (oMv o9 (nI (m1 + q8)), a9, k9).1) (nI Ed) fs i qh 0 r8 none none none 0 (nI (zAm (0, A.map (fun v => (v, 0)), 0, 0))) hz.1.1 hz.2.1.1 hi hkd) kX6_keep g218 g220 rfl gp1 g1 hP hS hz.1.1 (by first | decide | omega) hl.1 rfl (by decide) (by first | decide | omega) dX6_list_90 (fun q ce E h' H1 locs1 hE => hE.elim) (fun v hh7 H locs hq hP hS => ?_)
      obtain ⟨rfl, rfl⟩ := hq
      have ex : (xs_list F S (o, a, k) (nI i) (nI j) (nI q8)) = (0, nI A.length, qU S i (0, A.map (fun v => (v, 0)), 0, 0), oMv o9 (nI (m1 + q8)), a9, k9) := by unfold xs_list; rw [if_neg (by rw [ebi, ebj, ecq]; exact fun z => z.elim (fun z => by cases z) (fun z => z.elim (fun z => by cases z) (fun z => z.elim gw1 (fun z => by omega)))), ecj, if_neg (by rw [hoj]; decide), eci, ecq]; dsimp only; rw [hXs, eX]; unfold xLfin; dsimp only; rw [if_neg (show ¬ oFq o9 = 1 from fun z => absurd (hfa.symm.trans z) (by decide)), show (oMq o9).toNatClampNeg = m1 from by rw [hm1]; exact nI_clamp (by omega), if_neg (fun z => z.elim (fun z => z hfa) (fun z => by omega)), hm1, nI_add]
      exact q_iret C hP hS ⟨by rw [ex], by first | (rw [ex]; done) | (rw [ex]; show some (Value.int (nI (zAm (0, A.map (fun v => (v, 0)), 0, 0)))) = _; rw [zAm_n (s := (0, A.map (fun v => (v, 0)), 0, 0)) (show ¬ ((0 : Int32) = 6) by decide)]; show some (Value.int (nI (A.map _).length)) = _; rw [List.length_map]), by rw [ex]; exact hzp.po hfp⟩ (by omega) dX6_list_93
    · have ehv := hhv ct
      by_cases cs : s9 = 0
      · have eX : X = (A, o9, a9, k9) := by rw [hXX, xLst_nil (Or.inr cs), List.append_nil]
        rw [cs, zO_z] at ehv
        subst ehv
        refine lv_iload hx hb dX6_list_30 (lv_at hl 0 rfl) ?_
        refine lv_iload_n hx hb dX6_list_32 rfl (lv_at hl 2 rfl) ?_
        refine lv_icmp_ge (tgt := 77) hx hb dX6_list_33 (by decide) (fun c => absurd ((nI_leI (a := q8) (b := A.length) (by omega) (by omega)).mp c) (by omega)) (fun _ => ?_)
        refine lv_aloadN hx hb dX6_list_36 (lv_at hl 1 rfl) ?_
        refine lv_ifnullN (tgt := 77) hx hb dX6_list_38 (by decide) ?_
        refine lv_aload_n hx hb dX6_list_77 rfl (lv_at hl 4 rfl) ?_
        refine lv_iload_n hx hb dX6_list_78 rfl (lv_at hl 2 rfl) ?_
        refine q_callV (rest := []) C (c_X6_takeMoves l D cy N0 hh x sl bl kr vr mk (oCq (o9, a9, k9).1) (oMq (o9, a9, k9).1) (nI Ed) fs (nI q8) hz.1.1 hz.2.1.1) kX6_takeMoves g641 g643 rfl gp15 g1 hP hS hz.1.1 (by first | decide | omega) hl.1 rfl (by decide) (by first | decide | omega) dX6_list_79 (fun q ce E h' H1 locs1 hE hP hS hc1 hc2 hc3 => by obtain ⟨rfl, rfl, hn9⟩ := hE; replace hn9 : ¬ m1 + q8 ≤ 20000 := fun z => hn9 (by rw [show oMq (o9, a9, k9).1 = nI m1 from hm1]; exact (zmvs hm9 (by omega)).mpr z); exact q_out C hP hS hc1 hc2 hc3 (by have ex : (xs_list F S (o, a, k) (nI i) (nI j) (nI q8)) = (4, 0, S, o9, a9, k9) := (by unfold xs_list; rw [if_neg (by rw [ebi, ebj, ecq]; exact fun z => z.elim (fun z => by cases z) (fun z => z.elim (fun z => by cases z) (fun z => z.elim gw1 (fun z => by omega)))), ecj, if_neg (by rw [hoj]; decide), eci, ecq]; dsimp only; rw [hXs, eX]; unfold xLfin; dsimp only; rw [if_neg (show ¬ oFq o9 = 1 from fun z => absurd (hfa.symm.trans z) (by decide)), show (oMq o9).toNatClampNeg = m1 from by rw [hm1]; exact nI_clamp (by omega), if_pos (Or.inr (by omega))]); exact ⟨by rw [ex]; exact .tail _ (.tail _ (.tail _ (.head _))), by rw [ex]; exact hz.po hf⟩) (by omega)) (fun v hh8 H locs hq hP hS => ?_)
        obtain ⟨rfl, rfl, hmv⟩ := hq
        have hmv2 : m1 + q8 ≤ 20000 := (zmvs hm9 (by omega)).mp (by rw [← hm1]; exact hmv)
        rw [show oMq (o9, a9, k9).1 = nI m1 from hm1, nI_add] at hP
        replace hP : qP D N0 (qs hh x (.inr (6, [.int mk, .ref sl, .ref bl, .ref kr, .ref vr, .int (oCq (o9, a9, k9).1), .int (nI (m1 + q8)), .int (nI Ed)]))) H := hP
        replace hkk := (qs_ne (h := hh) (a := x) (o := (.inr (6, [.int mk, .ref sl, .ref bl, .ref kr, .ref vr, .int (oCq (o9, a9, k9).1), .int (nI (m1 + q8)), .int (nI Ed)]))) (qne_cl hkk hz.1.1)).trans hkk
        replace hf := hf.trs (zFr.set (o' := .inr (6, [.int mk, .ref sl, .ref bl, .ref kr, .ref vr, .int (oCq (o9, a9, k9).1), .int (nI (m1 + q8)), .int (nI Ed)])) hz.1.1 (Or.inl rfl))
        replace hz : zQ cy (qs hh x (.inr (6, [.int mk, .ref sl, .ref bl, .ref kr, .ref vr, .int (oCq (o9, a9, k9).1), .int (nI (m1 + q8)), .int (nI Ed)]))) x mk sl bl kr vr Ed fs bd br eb Im Xb g9 S (oMv o9 (nI (m1 + q8)), a9, k9) := hz.mv hV
        replace hV := hV.mvs hm1 (M2 := m1 + q8) ⟨by omega, by omega⟩ hmv2
        replace hV : qWv Bd (sk + 1) Rn dp9 (oMv o9 (nI (m1 + q8)), a9, k9) := hV
        refine lv_aload_n hx hb dX6_list_82 rfl (lv_at hl 4 rfl) ?_
        refine lv_iload_n hx hb dX6_list_83 rfl (lv_at hl 3 rfl) ?_
        refine lv_aload_n hx hb dX6_list_84 rfl (lv_at hl 4 rfl) ?_
        refine lv_iload hx hb dX6_list_85 (lv_at hl 0 rfl) ?_
        refine q_callV (rest := [.int (nI i), .ref x]) C (z_sequenceOfValues l D cy N0 (qs hh x (.inr (6, [.int mk, .ref sl, .ref bl, .ref kr, .ref vr, .int (oCq (o9, a9, k9).1), .int (nI (m1 + q8)), .int (nI Ed)]))) x sl bl kr vr mk (oCq (oMv o9 (nI (m1 + q8)), a9, k9).1) (oMq (oMv o9 (nI (m1 + q8)), a9, k9).1) (nI Ed) f A.length hz.1.1 hkk (by omega)) kX6_sequenceOfValues g962 g964 rfl gp29 g1 hP hS hz.1.1 (by first | decide | omega) hl.1 rfl (by simp [q_catrf, q_cati, q_catl, q_cata, q_catn]) (by first | decide | omega) dX6_list_87 (fun q ce E h' H1 locs1 hE => hE.elim) (fun v hh9 H locs hq hP hS => ?_)
        obtain ⟨qh, r8, n7, rfl, hle8, fqh, hb8⟩ := hq
        replace hf := hf.trs (zFr.le hle8 (qle.dom hle8))
        replace hz := hz.le hV hle8 (qle.dom hle8)
        have zvn : zV cy hh9 Im (zOk Ed eb S) mk g9 (0, A.map (fun v => (v, 0)), 0, 0) r8 none none none 0 := Or.inl ⟨Or.inl rfl, rfl, rfl, rfl, rfl, n7, by show qBr _ _ _ ((A.map (fun v => ((v, 0) : Int64 × Int64))).map (fun p => (0, p.1))); rw [List.map_map]; have := qRl_eq (f := f) (L := A) (lo := 0) (fun q hq => by rw [Nat.zero_add]; exact hfA q hq); rw [this] at hb8; exact hb8⟩
        have hzp := hz.put hV hi (s := (0, A.map (fun v => (v, 0)), 0, 0)) (show ¬ ((0 : Int32) = -1) by decide) ⟨r8, none, none, none, 0, fqh, zvn⟩
        have hfp : zFr h (qs hh9 sl (.inl (cy 3, 24, .inr (.inr (.inr (.inr (va_up fs i (some qh)))))))) x sl kr vr bd br Xb := hf.trs (zFr.set hz.2.1.1 (Or.inr (Or.inl rfl)))
        have hkd : qHd hh9 qh 0 r8 none none none 0 (nI (zAm (0, A.map (fun v => (v, 0)), 0, 0))) := zHd.hd (s := (0, A.map (fun v => (v, 0)), 0, 0)) fqh zvn
        refine q_callV (rest := []) C (c_X6_keep l D cy N0 hh9 x sl bl kr vr mk (oCq (oMv o9 (nI (m1 + q8)), a9, k9).1) (oMq (oMv o9 (nI (m1 + q8)), a9, k9).1) (nI Ed) fs i qh 0 r8 none none none 0 (nI (zAm (0, A.map (fun v => (v, 0)), 0, 0))) hz.1.1 hz.2.1.1 hi hkd) kX6_keep g218 g220 rfl gp1 g1 hP hS hz.1.1 (by first | decide | omega) hl.1 rfl (by decide) (by first | decide | omega) dX6_list_90 (fun q ce E h' H1 locs1 hE => hE.elim) (fun v hh10 H locs hq hP hS => ?_)
        obtain ⟨rfl, rfl⟩ := hq
        have ex : (xs_list F S (o, a, k) (nI i) (nI j) (nI q8)) = (0, nI A.length, qU S i (0, A.map (fun v => (v, 0)), 0, 0), oMv o9 (nI (m1 + q8)), a9, k9) := by unfold xs_list; rw [if_neg (by rw [ebi, ebj, ecq]; exact fun z => z.elim (fun z => by cases z) (fun z => z.elim (fun z => by cases z) (fun z => z.elim gw1 (fun z => by omega)))), ecj, if_neg (by rw [hoj]; decide), eci, ecq]; dsimp only; rw [hXs, eX]; unfold xLfin; dsimp only; rw [if_neg (show ¬ oFq o9 = 1 from fun z => absurd (hfa.symm.trans z) (by decide)), show (oMq o9).toNatClampNeg = m1 from by rw [hm1]; exact nI_clamp (by omega), if_neg (fun z => z.elim (fun z => z hfa) (fun z => by omega)), hm1, nI_add]
        exact q_iret C hP hS ⟨by rw [ex], by first | (rw [ex]; done) | (rw [ex]; show some (Value.int (nI (zAm (0, A.map (fun v => (v, 0)), 0, 0)))) = _; rw [zAm_n (s := (0, A.map (fun v => (v, 0)), 0, 0)) (show ¬ ((0 : Int32) = 6) by decide)]; show some (Value.int (nI (A.map _).length)) = _; rw [List.length_map]), by rw [ex]; exact hzp.po hfp⟩ (by omega) dX6_list_93
      · obtain ⟨way, cod, cc0, num, src, beh, row, dn, rst, fgi, -⟩ := hz.1.2.1 s9 (by omega) hss.1
        obtain ⟨gi, egi⟩ : ∃ z, g9 s9 = z := ⟨_, rfl⟩
        rw [egi] at fgi
        dsimp only at fgi
        rw [zO_s cs, egi] at ehv
        subst ehv
        refine lv_iload hx hb dX6_list_30 (lv_at hl 0 rfl) ?_
        refine lv_iload_n hx hb dX6_list_32 rfl (lv_at hl 2 rfl) ?_
        refine lv_icmp_ge (tgt := 77) hx hb dX6_list_33 (by decide) (fun c => absurd ((nI_leI (a := q8) (b := A.length) (by omega) (by omega)).mp c) (by omega)) (fun _ => ?_)
        refine lv_aload hx hb dX6_list_36 (lv_at hl 1 rfl) ?_
        refine lv_ifnull hx hb dX6_list_38 ?_
        refine lv_aload_n hx hb dX6_list_41 rfl (lv_at hl 4 rfl) ?_
        refine q_get C hP hz.1.1 rfl inX6 4 (by decide) g72 rfl dX6_list_42 ?_
        refine lv_iload hx hb dX6_list_45 (lv_at hl 0 rfl) ?_
        refine lv_aload hx hb dX6_list_47 (lv_at hl 1 rfl) ?_
        refine q_get C hP fgi rfl inX5 0 (by decide) g536 rfl dX6_list_49 ?_
        refine q_lastN C hP hS hkk (by omega) (by omega) dX6_list_52 (fun H locs hP hS => ?_)
        replace hP : qP D N0 (qs hh vr (.inl (cy 1, 1000, .inr (.inl (vp_updL f A.length (a9.2.2.1 s9)))))) H := hP
        replace fgi := (qs_ne (h := hh) (a := vr) (o := (.inl (cy 1, 1000, .inr (.inl (vp_updL f A.length (a9.2.2.1 s9)))))) (fun z => by rw [z, hz.2.1.2.2.2.choose_spec] at fgi; simp at fgi)).trans fgi
        replace hf := hf.trs (zFr.set (o' := .inl (cy 1, 1000, .inr (.inl (vp_updL f A.length (a9.2.2.1 s9))))) hz.2.1.2.2.2.choose_spec (Or.inr (Or.inr (Or.inr rfl))))
        replace hz := hz.rowv hV (vp_updL f A.length (a9.2.2.1 s9))
        have hk2 : (qs hh vr (.inl (cy 1, 1000, .inr (.inl (vp_updL f A.length (a9.2.2.1 s9)))))) vr = some (.inl (cy 1, 1000, .inr (.inl (vp_updL f A.length (a9.2.2.1 s9))))) := qs_self
        have hfB : ∀ q, q < (A ++ [a9.2.2.1 s9]).length → (vp_updL f A.length (a9.2.2.1 s9)) q = (A ++ [a9.2.2.1 s9]).getD q 0 := zrow_app hfA
        have hAl9 : (A ++ [a9.2.2.1 s9]).length = A.length + 1 := List.length_append ..
        refine lv_iinc (v := nI (A.length + 1)) (lv' := [(5, .int (nI (A.length + 1))), (4, .ref gi), (3, .int (nI q8)), (1, .int (nI i)), (0, .ref x)]) hx hb dX6_list_53 hl (k := 0) rfl (nI_1 (A.length)) (by decide) rfl (fun ls hl => ?_)
        refine lv_iload hx hb dX6_list_56 (lv_at hl 0 rfl) ?_
        refine lv_iload_n hx hb dX6_list_58 rfl (lv_at hl 2 rfl) ?_
        by_cases ct1 : t9 = 1
        · refine lv_icmp_ge (tgt := 71) hx hb dX6_list_59 (by decide) (fun _ => ?_) (fun c => absurd ((nI_leI (a := q8) (b := A.length + 1) (by omega) (by omega)).mpr (by omega)) c)
          have hXn : X = ((A ++ [a9.2.2.1 s9]) ++ (xLst F 0 (o9, a9, k9) s9).1, (xLst F 0 (o9, a9, k9) s9).2) := by rw [hXX, ct1, xLst_1 cs, xLst_nil (Or.inl rfl), List.append_nil]
          refine lv_null hx hb dX6_list_71 ?_
          refine lv_astoreN (lv' := [(4, .null), (5, .int (nI (A.length + 1))), (3, .int (nI q8)), (1, .int (nI i)), (0, .ref x)]) hx hb dX6_list_72 hl (by decide) rfl (fun ls hl => ?_)
          refine lv_goto (tgt := 30) hx hb dX6_list_74 (by decide) ?_
          exact ihl 0 (A ++ [a9.2.2.1 s9]) H locs ls _ g9 o9 a9 k9 dp9 s9 none _ _ _ (by omega) (by rw [hAl9]; exact lv_sub hl [1, 0, 2, 3, 4] rfl) (by omega) (fun z => absurd rfl z) hP hS hz hV hfa hss hXn hk2 hfB ha9 hf ⟨by omega, by omega⟩
        · refine lv_icmp_ge (tgt := 71) hx hb dX6_list_59 (by decide) (fun c => absurd ((nI_leI (a := q8) (b := A.length + 1) (by omega) (by omega)).mp c) (by omega)) (fun _ => ?_)
          refine lv_aload_n hx hb dX6_list_62 rfl (lv_at hl 4 rfl) ?_
          refine lv_aload hx hb dX6_list_63 (lv_at hl 1 rfl) ?_
          obtain ⟨s2, o2, a2, k2, er9⟩ : ∃ z1 z2 z3 z4, F (o9, a9, k9) s9 = (z1, z2, z3, z4) := ⟨_, _, _, _, rfl⟩
          obtain ⟨t8, et8⟩ : ∃ t8, t9 = t8 + 1 := ⟨t9 - 1, by omega⟩
          have hX2 : X = if ¬ oFq o2 = 0 then (A ++ [a9.2.2.1 s9], (o2, a2, k2)) else ((A ++ [a9.2.2.1 s9]) ++ (xLst F t8 (o2, a2, k2) s2).1, (xLst F t8 (o2, a2, k2) s2).2) := by
            rw [hXX, et8, xLst_step cs (by omega) er9]
            split
            · rfl
            · rw [List.append_assoc]; rfl
          have hcall := hF (qs hh vr (.inl (cy 1, 1000, .inr (.inl (vp_updL f A.length (a9.2.2.1 s9)))))) g9 o9 a9 k9 _ dp9 s9 hz.1 hV hfa (by omega) hss.1 (by omega)
          rw [er9, egi] at hcall
          dsimp only at hcall
          have st9 := hG _ dp9 (o9, a9, k9) s9 hV hfa hss.1 (by omega)
          rw [er9] at st9
          obtain ⟨dp2, d1, w2, d3, d4, d5, -, d7⟩ := st9
          dsimp only at d1 d3 d4 d5 w2
          have e1 : (if oFq o2 = 0 then 0 else 1) ≤ 1 ∧ (if oFq o2 = 0 then 0 else 6) ≤ 6 := ⟨by split <;> omega, by split <;> omega⟩
          have hm2 : a2.1 ≤ X.2.2.1.1 := by
            by_cases z : ¬ oFq o2 = 0
            · rw [hX2, if_pos z]; exact Nat.le_refl _
            · have z1 := Decidable.not_not.mp z; have z2 := d5 z1; rw [hX2, if_neg z]; obtain ⟨_, _, _, z3, _⟩ := xLst_stp hG hdc t8 s2 dp2 (o2, a2, k2) w2 z1 ⟨z2.1, by omega⟩; exact z3
          refine q_callV (rest := []) C (hcall) kX6_restOf g637 g639 rfl gp14 g1 hP hS hz.1.1 (by first | decide | omega) hl.1 rfl (by decide) (by first | decide | omega) dX6_list_65 (fun q ce E h' H1 locs1 hE hP hS hc1 hc2 hc3 => by obtain ⟨hE1, gw2, ag2, hz2, hH2⟩ := hE; dsimp only at hE1; have hf2 : ¬ oFq o2 = 0 := hE1.elim (fun y z => absurd (z.symm.trans y.2) (by decide)) (fun y z => absurd (z.symm.trans y.2) (by decide)); rw [if_pos hf2] at hX2; have ex : (xs_list F S (o, a, k) (nI i) (nI j) (nI q8)) = ((if oFq o2 = 1 then 3 else 4), 0, S, o2, a2, k2) := (by unfold xs_list; rw [if_neg (by rw [ebi, ebj, ecq]; exact fun z => z.elim (fun z => by cases z) (fun z => z.elim (fun z => by cases z) (fun z => z.elim gw1 (fun z => by omega)))), ecj, if_neg (by rw [hoj]; decide), eci, ecq]; dsimp only; rw [hXs, hX2]; unfold xLfin; dsimp only; exact hE1.elim (fun y => by rw [if_pos y.2, if_pos y.2]) (fun y => by rw [if_neg (fun z => absurd (y.2.symm.trans z) (by decide)), if_neg (fun z => absurd (y.2.symm.trans z) (by decide)), if_pos (Or.inl hf2)])); exact q_out C hP hS hc1 hc2 hc3 ⟨by rw [ex]; exact hE1.elim (fun y => by rw [y.1, if_pos y.2]; exact .tail _ (.tail _ (.head _))) (fun y => by rw [y.1, if_neg (fun z => absurd (y.2.symm.trans z) (by decide))]; exact .tail _ (.tail _ (.tail _ (.head _)))), by rw [ex]; exact (hz.str hz2 hH2 ag2 hSt).po (hf.trs (zH.fr hH2))⟩ (by omega)) (fun v hh11 H locs hq hP hS => ?_)
          obtain ⟨hf2, gw2, ag2, rfl, hz2, hH2⟩ := hq
          dsimp only at hf2
          have e60 : (if oFq o2 = 0 then 0 else 1) = 0 ∧ (if oFq o2 = 0 then 0 else 6) = 0 := ⟨if_pos hf2, if_pos hf2⟩
          rw [if_neg (fun z => z hf2)] at hX2
          have z5 := d5 hf2
          have hk3 := hH2.1 _ _ hk2 (qne_cl hk2 hz.1.1) (fun fv z => by cases z)
          obtain ⟨sw, esw⟩ : ∃ z, zO gw2 s2 = z := ⟨_, rfl⟩
          dsimp only
          rw [esw]
          refine lv_goto (tgt := 72) hx hb dX6_list_68 (by decide) ?_
          refine q_astore (lv' := [(4, va_rf sw), (5, .int (nI (A.length + 1))), (3, .int (nI q8)), (1, .int (nI i)), (0, .ref x)]) hx hb dX6_list_72 hl (by decide) rfl (fun ls hl => ?_)
          refine lv_goto (tgt := 30) hx hb dX6_list_74 (by decide) ?_
          exact ihl t8 (A ++ [a9.2.2.1 s9]) H locs ls _ gw2 o2 a2 k2 dp2 s2 sw _ _ _ (by omega) (by rw [hAl9]; exact lv_sub hl [1, 0, 2, 3, 4] rfl) (by omega) (fun _ => esw.symm) hP hS (hz.str hz2 hH2 ag2 hSt) w2 hf2 ⟨z5.1, by omega⟩ hX2 hk3 hfB (by omega) (hf.trs (zH.fr hH2)) ⟨by omega, by omega⟩
