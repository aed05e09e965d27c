def oCd (o : qYf) (x : Int32) : qYf := (o.1, o.2.1, o.2.2.1, o.2.2.2.1, o.2.2.2.2.1, o.2.2.2.2.2.1, o.2.2.2.2.2.2.1, x, o.2.2.2.2.2.2.2.2.1, o.2.2.2.2.2.2.2.2.2.1, o.2.2.2.2.2.2.2.2.2.2.1, o.2.2.2.2.2.2.2.2.2.2.2.1, o.2.2.2.2.2.2.2.2.2.2.2.2)
/-- i rests on from s; it stops at the end, or at a fault -/
def xWalk (F : qWo → Nat → Nat × qWo) : Nat → qWo → Nat → Nat × qWo
  | 0, W, s => (s, W)
  | i + 1, W, s => if s = 0 then (0, W) else if ¬ oFq (F W s).2.1 = 0 then (0, (F W s).2) else xWalk F i (F W s).2 (F W s).1
theorem xWalk_stp {Bd Rn sl d dc : Nat} {F : qWo → Nat → Nat × qWo} (hF : qFg Bd Rn F d) (hdc : dc < d) : ∀ (i s : Nat) (dp : Nat → Nat) (W : qWo), qWv Bd sl Rn dp W → oFq W.1 = 0 → s < W.2.1.1 ∧ dp s ≤ dc → qStp Bd sl Rn dp W (xWalk F i W s) dc
  | 0, s, dp, W, i, _, hs => i.at hs
  | t + 1, s, dp, W, i, hf, hs => by
    unfold xWalk
    by_cases c1 : s = 0
    · rw [if_pos c1]; exact i.stay rfl oSame
    rw [if_neg c1]
    have st := hF sl dp W s i hf hs.1 (by omega)
    by_cases c5 : ¬ oFq (F W s).2.1 = 0
    · rw [if_pos c5]; exact st.bad c5
    · rw [if_neg c5]
      have c6 := Decidable.not_not.mp c5
      refine st.tr (fun dp' h1 h2 h3 => xWalk_stp hF hdc t _ dp' _ h2 c6 ?_)
      have := h3 c6
      exact ⟨this.1, by omega⟩
/-- streamAt's answer, and the object after it -/
def xStV (X : Nat × qWo) : Int64 := if ¬ oFq X.2.1 = 0 then 0 else if X.1 = 0 then 0 else X.2.2.1.2.2.1 X.1
def xStC (X : Nat × qWo) : Int32 := if ¬ oFq X.2.1 = 0 then (if oFq X.2.1 = 1 then 4 else 5) else if X.1 = 0 then 3 else 0
theorem dX8_streamAt_0 : decode cX8_streamAt 0 = .ok (.aload_n 0, 1) := by decide +kernel
theorem dX8_streamAt_1 : decode cX8_streamAt 1 = .ok (.iconst 0, 1) := by decide +kernel
theorem dX8_streamAt_2 : decode cX8_streamAt 2 = .ok (.putfield 155, 3) := by decide +kernel
theorem dX8_streamAt_5 : decode cX8_streamAt 5 = .ok (.iload_n 1, 1) := by decide +kernel
theorem dX8_streamAt_6 : decode cX8_streamAt 6 = .ok (.istore_n 3, 1) := by decide +kernel
theorem dX8_streamAt_7 : decode cX8_streamAt 7 = .ok (.iconst 0, 1) := by decide +kernel
theorem dX8_streamAt_8 : decode cX8_streamAt 8 = .ok (.istore 4, 2) := by decide +kernel
theorem dX8_streamAt_10 : decode cX8_streamAt 10 = .ok (.iload 4, 2) := by decide +kernel
theorem dX8_streamAt_12 : decode cX8_streamAt 12 = .ok (.iload_n 2, 1) := by decide +kernel
theorem dX8_streamAt_13 : decode cX8_streamAt 13 = .ok (.if_icmp .ge 50, 3) := by decide +kernel
theorem dX8_streamAt_16 : decode cX8_streamAt 16 = .ok (.iload_n 3, 1) := by decide +kernel
theorem dX8_streamAt_17 : decode cX8_streamAt 17 = .ok (.ifCond .le 46, 3) := by decide +kernel
theorem dX8_streamAt_20 : decode cX8_streamAt 20 = .ok (.aload_n 0, 1) := by decide +kernel
theorem dX8_streamAt_21 : decode cX8_streamAt 21 = .ok (.aload_n 0, 1) := by decide +kernel
theorem dX8_streamAt_22 : decode cX8_streamAt 22 = .ok (.getfield 36, 3) := by decide +kernel
theorem dX8_streamAt_25 : decode cX8_streamAt 25 = .ok (.iload_n 3, 1) := by decide +kernel
theorem dX8_streamAt_26 : decode cX8_streamAt 26 = .ok (.iaload, 1) := by decide +kernel
theorem dX8_streamAt_27 : decode cX8_streamAt 27 = .ok (.invokevirtual 158, 3) := by decide +kernel
theorem dX8_streamAt_30 : decode cX8_streamAt 30 = .ok (.istore_n 3, 1) := by decide +kernel
theorem dX8_streamAt_31 : decode cX8_streamAt 31 = .ok (.aload_n 0, 1) := by decide +kernel
theorem dX8_streamAt_32 : decode cX8_streamAt 32 = .ok (.getfield 155, 3) := by decide +kernel
theorem dX8_streamAt_35 : decode cX8_streamAt 35 = .ok (.ifCond .eq 22, 3) := by decide +kernel
theorem dX8_streamAt_38 : decode cX8_streamAt 38 = .ok (.aload_n 0, 1) := by decide +kernel
theorem dX8_streamAt_39 : decode cX8_streamAt 39 = .ok (.aload_n 0, 1) := by decide +kernel
theorem dX8_streamAt_40 : decode cX8_streamAt 40 = .ok (.getfield 155, 3) := by decide +kernel
theorem dX8_streamAt_43 : decode cX8_streamAt 43 = .ok (.iconst 1, 1) := by decide +kernel
theorem dX8_streamAt_44 : decode cX8_streamAt 44 = .ok (.if_icmp .ne 7, 3) := by decide +kernel
theorem dX8_streamAt_47 : decode cX8_streamAt 47 = .ok (.iconst 4, 1) := by decide +kernel
theorem dX8_streamAt_48 : decode cX8_streamAt 48 = .ok (.goto 4, 3) := by decide +kernel
theorem dX8_streamAt_51 : decode cX8_streamAt 51 = .ok (.iconst 5, 1) := by decide +kernel
theorem dX8_streamAt_52 : decode cX8_streamAt 52 = .ok (.putfield 72, 3) := by decide +kernel
theorem dX8_streamAt_55 : decode cX8_streamAt 55 = .ok (.lconst 0, 1) := by decide +kernel
theorem dX8_streamAt_56 : decode cX8_streamAt 56 = .ok (.lreturn, 1) := by decide +kernel
theorem dX8_streamAt_57 : decode cX8_streamAt 57 = .ok (.iinc 4 1, 3) := by decide +kernel
theorem dX8_streamAt_60 : decode cX8_streamAt 60 = .ok (.goto (-50), 3) := by decide +kernel
theorem dX8_streamAt_63 : decode cX8_streamAt 63 = .ok (.aload_n 0, 1) := by decide +kernel
theorem dX8_streamAt_64 : decode cX8_streamAt 64 = .ok (.iload_n 3, 1) := by decide +kernel
theorem dX8_streamAt_65 : decode cX8_streamAt 65 = .ok (.ifCond .le 7, 3) := by decide +kernel
theorem dX8_streamAt_68 : decode cX8_streamAt 68 = .ok (.iconst 1, 1) := by decide +kernel
theorem dX8_streamAt_69 : decode cX8_streamAt 69 = .ok (.goto 4, 3) := by decide +kernel
theorem dX8_streamAt_72 : decode cX8_streamAt 72 = .ok (.iconst 0, 1) := by decide +kernel
theorem dX8_streamAt_73 : decode cX8_streamAt 73 = .ok (.iconst 3, 1) := by decide +kernel
theorem dX8_streamAt_74 : decode cX8_streamAt 74 = .ok (.invokevirtual 100, 3) := by decide +kernel
theorem dX8_streamAt_77 : decode cX8_streamAt 77 = .ok (.ifCond .eq 12, 3) := by decide +kernel
theorem dX8_streamAt_80 : decode cX8_streamAt 80 = .ok (.aload_n 0, 1) := by decide +kernel
theorem dX8_streamAt_81 : decode cX8_streamAt 81 = .ok (.getfield 32, 3) := by decide +kernel
theorem dX8_streamAt_84 : decode cX8_streamAt 84 = .ok (.iload_n 3, 1) := by decide +kernel
theorem dX8_streamAt_85 : decode cX8_streamAt 85 = .ok (.laload, 1) := by decide +kernel
theorem dX8_streamAt_86 : decode cX8_streamAt 86 = .ok (.goto 4, 3) := by decide +kernel
theorem dX8_streamAt_89 : decode cX8_streamAt 89 = .ok (.lconst 0, 1) := by decide +kernel
theorem dX8_streamAt_90 : decode cX8_streamAt 90 = .ok (.lreturn, 1) := by decide +kernel
set_option maxRecDepth 100000 in
set_option maxHeartbeats 4000000 in
theorem w_streamAt (l : Launch) (D : va_G) (cy : Nat → ClassId) (N0 : Nat) (h : qH) (y : Nat) (A : Nat → Prop) (o : qYf) (a : qWd) (k : qKd) (R : Nat → List Int64) (ad : Nat → Nat) (Rn : Nat) (Bd sl d dc : Nat) (dp : Nat → Nat) (F : qWo → Nat → Nat × qWo) (ss ii : Nat) (X : Nat × qWo) (hW : qSy cy h y A o a k) (nA : ¬ A y) (hR : qRz cy h A o.2.2.2.2.2.1 Rn R ad) (hV : qWv Bd sl Rn dp (o, a, k)) (hB : Bd ≤ 4000) (hF : qFS l D cy N0 y Bd Rn R ad F d) (hG : qFg Bd Rn F d) (hdc : dc < d) (hss : ss < a.1 ∧ dp ss ≤ dc) (hii : ii < 2147483648) (hX : xWalk F ii (oFa o 0, a, k) ss = X) : qC l D cy N0 yX8_streamAt cX8_streamAt 5 (some .long) (4 * d + 6) (200 * d + 260) (qP1 X.2.2.1 - qP1 a) (qP2 X.2.2.1 - qP2 a) [.ref y, .int (nI ss), .int (nI ii)] h (fun v h' => v = some (.long (xStV X)) ∧ ∃ A', qSy cy h' y A' (oCd X.2.1 (xStC X)) X.2.2.1 X.2.2.2 ∧ qFy h h' y A A' ∧ ¬ A' y) (fun E h' => False) := by
  refine q_ofW (by decide) (by exact Nat.le_of_ble_eq_true rfl) ?_
  intro p e s m below meth c ls C hP hl
  have hx := C.1
  have hb := C.2.1
  have hS9 : va_S (qA N0) s.heap s.heap [] := va_S.rf
  have hl : lv_has ls 5 [(0, .ref y), (1, .int (nI ss)), (2, .int (nI ii))] := hl
  have hle : qle h h := qle_rf
  have hS := hW
  obtain ⟨fi1, re1, rc1, rs1, so1, ot1, cn1, la1, F1, Rt1, Rc1, Rs1, So1, Ot1, Cn1, La1, hY1, ⟨s0_1, s1_1, s2_1, s3_1, s4_1, s5_1, s6_1, s7_1⟩, hg1_, hk1_, hz1_, hd1_, he1_, hA1_, hb1_⟩ := id hS
  replace hd1_ := fun _ : Unit => hd1_
  replace he1_ := fun _ : Unit => he1_
  unfold qYo at hY1
  obtain ⟨P0, eP0⟩ : ∃ z, z = qP1 a := ⟨_, rfl⟩
  obtain ⟨Q0, eQ0⟩ : ∃ z, z = qP2 a := ⟨_, rfl⟩
  refine lv_aload_n hx hb dX8_streamAt_0 rfl (lv_at hl 0 rfl) ?_
  refine lv_iconst (v := nI 0) hx hb dX8_streamAt_1 (by decide) ?_
  have hY0 := hY1
  refine q_put C hP hS9 hY1 rfl inX8 tyX8 tyX8_ok nmX8 10 (by decide) g1177 rfl rfl rfl (Nat.le_of_ble_eq_true rfl) dX8_streamAt_2 (fun H locs hP hS9 => ?_)
  replace hP : qP D N0 (qs h y (.inr (8, [.ref o.1, .ref o.2.1, .ref o.2.2.1, .int o.2.2.2.2.2.2.1, .int o.2.2.2.2.2.2.2.1, .int o.2.2.2.2.2.2.2.2.1, .int o.2.2.2.2.2.2.2.2.2.1, .ref o.2.2.2.1, .ref o.2.2.2.2.1, .int o.2.2.2.2.2.2.2.2.2.2.1, .int (nI 0), .ref fi1, .ref re1, .int (nI a.1), .ref rc1, .ref rs1, .ref so1, .ref ot1, .ref cn1, .ref la1, .int (nI k.1), .ref o.2.2.2.2.2.1, .int o.2.2.2.2.2.2.2.2.2.2.2.2]))) H := hP
  obtain ⟨hv1, ehv1⟩ : ∃ z : qH, z = qs h y (.inr (8, [.ref o.1, .ref o.2.1, .ref o.2.2.1, .int o.2.2.2.2.2.2.1, .int o.2.2.2.2.2.2.2.1, .int o.2.2.2.2.2.2.2.2.1, .int o.2.2.2.2.2.2.2.2.2.1, .ref o.2.2.2.1, .ref o.2.2.2.2.1, .int o.2.2.2.2.2.2.2.2.2.2.1, .int (nI 0), .ref fi1, .ref re1, .int (nI a.1), .ref rc1, .ref rs1, .ref so1, .ref ot1, .ref cn1, .ref la1, .int (nI k.1), .ref o.2.2.2.2.2.1, .int o.2.2.2.2.2.2.2.2.2.2.2.2])) := ⟨_, rfl⟩
  rw [← ehv1] at hP
  have khv1 : ∀ b o, b ≠ y → h b = some o → hv1 b = some o := by rw [ehv1]; exact fun b o nb hb => (qs_ne nb).trans hb
  replace s0_1 := khv1 _ _ (fun q => by subst q; have := s0_1.symm.trans hY1; first | cases this | simp at this) s0_1
  replace s1_1 := khv1 _ _ (fun q => by subst q; have := s1_1.symm.trans hY1; first | cases this | simp at this) s1_1
  replace s2_1 := khv1 _ _ (fun q => by subst q; have := s2_1.symm.trans hY1; first | cases this | simp at this) s2_1
  replace s3_1 := khv1 _ _ (fun q => by subst q; have := s3_1.symm.trans hY1; first | cases this | simp at this) s3_1
  replace s4_1 := khv1 _ _ (fun q => by subst q; have := s4_1.symm.trans hY1; first | cases this | simp at this) s4_1
  replace s5_1 := khv1 _ _ (fun q => by subst q; have := s5_1.symm.trans hY1; first | cases this | simp at this) s5_1
  replace s6_1 := khv1 _ _ (fun q => by subst q; have := s6_1.symm.trans hY1; first | cases this | simp at this) s6_1
  replace s7_1 := khv1 _ _ (fun q => by subst q; have := s7_1.symm.trans hY1; first | cases this | simp at this) s7_1
  replace hY1 : hv1 y = some (.inr (8, [.ref o.1, .ref o.2.1, .ref o.2.2.1, .int o.2.2.2.2.2.2.1, .int o.2.2.2.2.2.2.2.1, .int o.2.2.2.2.2.2.2.2.1, .int o.2.2.2.2.2.2.2.2.2.1, .ref o.2.2.2.1, .ref o.2.2.2.2.1, .int o.2.2.2.2.2.2.2.2.2.2.1, .int (nI 0), .ref fi1, .ref re1, .int (nI a.1), .ref rc1, .ref rs1, .ref so1, .ref ot1, .ref cn1, .ref la1, .int (nI k.1), .ref o.2.2.2.2.2.1, .int o.2.2.2.2.2.2.2.2.2.2.2.2])) := by rw [ehv1]; exact qs_self
  clear ehv1
  replace hS : qSy cy hv1 y A (oFa o 0) a (k) := ⟨fi1, re1, rc1, rs1, so1, ot1, cn1, la1, F1, Rt1, Rc1, Rs1, So1, Ot1, Cn1, La1, hY1, ⟨s0_1, s1_1, s2_1, s3_1, s4_1, s5_1, s6_1, s7_1⟩, hg1_, hk1_, hz1_, (hd1_ ()), (he1_ ()), hA1_, hb1_⟩
  have hFq1 : qFy h hv1 y A A := ⟨fun b o hb n1 n2 => khv1 b o n1 hb, fun _ z => z, fun _ z => Or.inl z⟩
  have hFt1 := hFq1
  replace hR := hR.keep hFq1 hY0
  have hV0 : qWv Bd sl Rn dp (oFa o 0, a, k) := hV.obj rfl
  refine lv_iload_n hx hb dX8_streamAt_5 rfl (lv_at hl 1 rfl) ?_
  refine lv_istore_n (lv' := [(3, .int (nI ss)), (0, .ref y), (1, .int (nI ss)), (2, .int (nI ii))]) hx hb dX8_streamAt_6 rfl hl (by decide) rfl (fun ls hl => ?_)
  refine lv_iconst (v := nI 0) hx hb dX8_streamAt_7 (by decide) ?_
  refine lv_istore (lv' := [(4, .int (nI 0)), (3, .int (nI ss)), (0, .ref y), (1, .int (nI ss)), (2, .int (nI ii))]) hx hb dX8_streamAt_8 hl (by decide) rfl (fun ls hl => ?_)
  refine (?_ : ∀ (u kk : Nat) (H : Heap) (locs : List Loc) (ls : Array Slot) (hh : qH) (A9 : Nat → Prop) (o : qYf) (a9 : qWd) (k9 : qKd) (dp9 : Nat → Nat) (s9 c1 c2 : Nat), ii - kk < u → lv_has ls 5 [(4, .int (nI kk)), (3, .int (nI s9)), (2, .int (nI ii)), (0, .ref y)] → kk ≤ ii → qP D N0 hh H → va_S (qA N0) s.heap H locs → qSy cy hh y A9 o a9 k9 → ¬ A9 y → qRz cy hh A9 o.2.2.2.2.2.1 Rn R ad → qWv Bd sl Rn dp9 (o, a9, k9) → oFq o = 0 → s9 < a9.1 ∧ dp9 s9 ≤ dc → xWalk F (ii - kk) (o, a9, k9) s9 = X → c1 + P0 = qP1 a9 ∧ c2 + Q0 = qP2 a9 → qFy h hh y A A9 → W p l e _ s m _ below meth c H locs c1 c2 _ (F0 m 10 ls [])) (ii + 1) 0 _ _ ls hv1 A (oFa o 0) a k dp ss 0 0 (by omega) (lv_sub hl [0, 1, 4, 2] rfl) (by omega) hP hS9 hS nA hR hV0 rfl hss hX ⟨by omega, by omega⟩ hFt1
  clear hl hP hS9 hS nA hR hV hV0 hss hX hW
  intro u
  induction u with
  | zero => intro kk _ _ _ _ _ _ _ _ _ _ _ _ h; exact absurd h (Nat.not_lt_zero _)
  | succ u ihu =>
    intro kk H locs ls hh A9 o a9 k9 dp9 s9 c1 c2 htu hl hkk hP hS9 hS nA9 hRz hV9 hfa hss hX hcc hfr9
    have hL := (hV9.L hB).1
    have hLk := hL.2
    have hLn := (hV9.L hB).2
    have hp9 : 1 ≤ a9.1 ∧ a9.1 ≤ a9.2.1 := hV9.p
    have stX := xWalk_stp hG hdc (ii - kk) s9 dp9 (o, a9, k9) hV9 hfa hss
    rw [hX] at stX
    have hmX := qStp.P hV9 stX
    clear stX
    obtain ⟨fi2, re2, rc2, rs2, so2, ot2, cn2, la2, F2, Rt2, Rc2, Rs2, So2, Ot2, Cn2, La2, hY2, ⟨s0_2, s1_2, s2_2, s3_2, s4_2, s5_2, s6_2, s7_2⟩, hg2_, hk2_, hz2_, hd2_, he2_, hA2_, hb2_⟩ := id hS
    replace hd2_ := fun _ : Unit => hd2_
    replace he2_ := fun _ : Unit => he2_
    unfold qYo at hY2
    refine lv_iload hx hb dX8_streamAt_10 (lv_at hl 0 rfl) ?_
    refine lv_iload_n hx hb dX8_streamAt_12 rfl (lv_at hl 2 rfl) ?_
    refine lv_icmp_ge (tgt := 63) hx hb dX8_streamAt_13 (by decide) (fun c13 => ?_) (fun c13 => ?_)
    · replace c13 : ii ≤ kk := (nI_leI (a := ii) (b := kk) (by omega) (by omega)).mp c13
      have eX : X = (s9, o, a9, k9) := by rw [← hX, show ii - kk = 0 by omega, xWalk]
      refine lv_aload_n hx hb dX8_streamAt_63 rfl (lv_at hl 3 rfl) ?_
      refine lv_iload_n hx hb dX8_streamAt_64 rfl (lv_at hl 1 rfl) ?_
      refine lv_if_le (tgt := 72) hx hb dX8_streamAt_65 (by decide) (fun c65 => ?_) (fun c65 => ?_)
      · replace c65 : s9 ≤ 0 := (nI_leI (a := s9) (b := 0) (by omega) (by omega)).mp c65
        refine lv_iconst (v := nI 0) hx hb dX8_streamAt_72 (by decide) ?_
        refine lv_iconst (v := nI 3) hx hb dX8_streamAt_73 (by decide) ?_
        refine q_callV (rest := []) C (c_X8_good0 l D cy N0 hh y (o.1) (o.2.1) (o.2.2.1) (o.2.2.2.1) (o.2.2.2.2.1) fi2 re2 rc2 rs2 so2 ot2 cn2 la2 (o.2.2.2.2.2.1) (o.2.2.2.2.2.2.1) (o.2.2.2.2.2.2.2.1) (o.2.2.2.2.2.2.2.2.1) (o.2.2.2.2.2.2.2.2.2.1) (o.2.2.2.2.2.2.2.2.2.2.1) (o.2.2.2.2.2.2.2.2.2.2.2.1) (nI a9.1) (nI k9.1) (o.2.2.2.2.2.2.2.2.2.2.2.2) (nI 3) hY2) kX8_good g1249 g1251 rfl gp41 g4 hP hS9 hY2 (by first | decide | omega) hl.1 rfl (by decide) (by first | decide | omega) dX8_streamAt_74 (fun q ce E h' H1 locs1 hE => hE.elim) (fun v hh1 H locs hq hP hS9 => ?_)
        obtain ⟨rfl, rfl⟩ := hq
        replace hP : qP D N0 (qs hh y (.inr (8, [.ref o.1, .ref o.2.1, .ref o.2.2.1, .int o.2.2.2.2.2.2.1, .int (nI 3), .int o.2.2.2.2.2.2.2.2.1, .int o.2.2.2.2.2.2.2.2.2.1, .ref o.2.2.2.1, .ref o.2.2.2.2.1, .int o.2.2.2.2.2.2.2.2.2.2.1, .int o.2.2.2.2.2.2.2.2.2.2.2.1, .ref fi2, .ref re2, .int (nI a9.1), .ref rc2, .ref rs2, .ref so2, .ref ot2, .ref cn2, .ref la2, .int (nI k9.1), .ref o.2.2.2.2.2.1, .int o.2.2.2.2.2.2.2.2.2.2.2.2]))) H := hP
        obtain ⟨hv2, ehv2⟩ : ∃ z : qH, z = qs hh y (.inr (8, [.ref o.1, .ref o.2.1, .ref o.2.2.1, .int o.2.2.2.2.2.2.1, .int (nI 3), .int o.2.2.2.2.2.2.2.2.1, .int o.2.2.2.2.2.2.2.2.2.1, .ref o.2.2.2.1, .ref o.2.2.2.2.1, .int o.2.2.2.2.2.2.2.2.2.2.1, .int o.2.2.2.2.2.2.2.2.2.2.2.1, .ref fi2, .ref re2, .int (nI a9.1), .ref rc2, .ref rs2, .ref so2, .ref ot2, .ref cn2, .ref la2, .int (nI k9.1), .ref o.2.2.2.2.2.1, .int o.2.2.2.2.2.2.2.2.2.2.2.2])) := ⟨_, rfl⟩
        rw [← ehv2] at hP
        have khv2 : ∀ b o, b ≠ y → hh b = some o → hv2 b = some o := by rw [ehv2]; exact fun b o nb hb => (qs_ne nb).trans hb
        replace s0_2 := khv2 _ _ (fun q => by subst q; have := s0_2.symm.trans hY2; first | cases this | simp at this) s0_2
        replace s1_2 := khv2 _ _ (fun q => by subst q; have := s1_2.symm.trans hY2; first | cases this | simp at this) s1_2
        replace s2_2 := khv2 _ _ (fun q => by subst q; have := s2_2.symm.trans hY2; first | cases this | simp at this) s2_2
        replace s3_2 := khv2 _ _ (fun q => by subst q; have := s3_2.symm.trans hY2; first | cases this | simp at this) s3_2
        replace s4_2 := khv2 _ _ (fun q => by subst q; have := s4_2.symm.trans hY2; first | cases this | simp at this) s4_2
        replace s5_2 := khv2 _ _ (fun q => by subst q; have := s5_2.symm.trans hY2; first | cases this | simp at this) s5_2
        replace s6_2 := khv2 _ _ (fun q => by subst q; have := s6_2.symm.trans hY2; first | cases this | simp at this) s6_2
        replace s7_2 := khv2 _ _ (fun q => by subst q; have := s7_2.symm.trans hY2; first | cases this | simp at this) s7_2
        replace hY2 : hv2 y = some (.inr (8, [.ref o.1, .ref o.2.1, .ref o.2.2.1, .int o.2.2.2.2.2.2.1, .int (nI 3), .int o.2.2.2.2.2.2.2.2.1, .int o.2.2.2.2.2.2.2.2.2.1, .ref o.2.2.2.1, .ref o.2.2.2.2.1, .int o.2.2.2.2.2.2.2.2.2.2.1, .int o.2.2.2.2.2.2.2.2.2.2.2.1, .ref fi2, .ref re2, .int (nI a9.1), .ref rc2, .ref rs2, .ref so2, .ref ot2, .ref cn2, .ref la2, .int (nI k9.1), .ref o.2.2.2.2.2.1, .int o.2.2.2.2.2.2.2.2.2.2.2.2])) := by rw [ehv2]; exact qs_self
        clear ehv2
        replace hS : qSy cy hv2 y A9 (oCd o (nI 3)) a9 (k9) := ⟨fi2, re2, rc2, rs2, so2, ot2, cn2, la2, F2, Rt2, Rc2, Rs2, So2, Ot2, Cn2, La2, hY2, ⟨s0_2, s1_2, s2_2, s3_2, s4_2, s5_2, s6_2, s7_2⟩, hg2_, hk2_, hz2_, (hd2_ ()), (he2_ ()), hA2_, hb2_⟩
        have hFq2 : qFy hh hv2 y A9 A9 := ⟨fun b o hb n1 n2 => khv2 b o n1 hb, fun _ z => z, fun _ z => Or.inl z⟩
        have hFt2 := hfr9.tr hFq2 nA9
        refine lv_if_eq (tgt := 89) hx hb dX8_streamAt_77 (by decide) (fun c77 => ?_) (fun c77 => ?_)
        · replace c77 : 0 = 0 := (nI_eq (a := 0) (b := 0) (by omega) (by omega)).mp c77
          refine lv_lconst (v := 0) hx hb dX8_streamAt_89 (by decide) ?_
          have eC : xStC X = 3 := by rw [eX]; show (if ¬ oFq o = 0 then _ else if s9 = 0 then (3 : Int32) else 0) = _; rw [if_neg (fun z => z hfa), if_pos (show s9 = 0 by omega)]
          exact q_lret C hP hS9 ⟨by rw [eX]; show _ = some (Value.long (if ¬ oFq o = 0 then 0 else if s9 = 0 then 0 else a9.2.2.1 s9)); rw [if_neg (fun z => z hfa), if_pos (show s9 = 0 by omega)], A9, by rw [eC, eX]; exact hS, hFt2, nA9⟩ (by omega) dX8_streamAt_90
        · replace c77 : ¬ 0 = 0 := fun zq => c77 ((nI_eq (a := 0) (b := 0) (by omega) (by omega)).mpr zq)
          exfalso; omega
      · replace c65 : ¬ s9 ≤ 0 := fun zq => c65 ((nI_leI (a := s9) (b := 0) (by omega) (by omega)).mpr zq)
        refine lv_iconst (v := nI 1) hx hb dX8_streamAt_68 (by decide) ?_
        refine lv_goto (tgt := 73) hx hb dX8_streamAt_69 (by decide) ?_
        refine lv_iconst (v := nI 3) hx hb dX8_streamAt_73 (by decide) ?_
        refine q_callV (rest := []) C (c_X8_good1 l D cy N0 hh y (o.1) (o.2.1) (o.2.2.1) (o.2.2.2.1) (o.2.2.2.2.1) fi2 re2 rc2 rs2 so2 ot2 cn2 la2 (o.2.2.2.2.2.1) (o.2.2.2.2.2.2.1) (o.2.2.2.2.2.2.2.1) (o.2.2.2.2.2.2.2.2.1) (o.2.2.2.2.2.2.2.2.2.1) (o.2.2.2.2.2.2.2.2.2.2.1) (o.2.2.2.2.2.2.2.2.2.2.2.1) (nI a9.1) (nI k9.1) (o.2.2.2.2.2.2.2.2.2.2.2.2) (nI 3) hY2) kX8_good g1249 g1251 rfl gp41 g4 hP hS9 hY2 (by first | decide | omega) hl.1 rfl (by decide) (by first | decide | omega) dX8_streamAt_74 (fun q ce E h' H1 locs1 hE => hE.elim) (fun v hh2 H locs hq hP hS9 => ?_)
        obtain ⟨rfl, rfl⟩ := hq
        replace hP : qP D N0 (qs hh y (.inr (8, [.ref o.1, .ref o.2.1, .ref o.2.2.1, .int o.2.2.2.2.2.2.1, .int 0, .int o.2.2.2.2.2.2.2.2.1, .int o.2.2.2.2.2.2.2.2.2.1, .ref o.2.2.2.1, .ref o.2.2.2.2.1, .int o.2.2.2.2.2.2.2.2.2.2.1, .int o.2.2.2.2.2.2.2.2.2.2.2.1, .ref fi2, .ref re2, .int (nI a9.1), .ref rc2, .ref rs2, .ref so2, .ref ot2, .ref cn2, .ref la2, .int (nI k9.1), .ref o.2.2.2.2.2.1, .int o.2.2.2.2.2.2.2.2.2.2.2.2]))) H := hP
        obtain ⟨hv3, ehv3⟩ : ∃ z : qH, z = qs hh y (.inr (8, [.ref o.1, .ref o.2.1, .ref o.2.2.1, .int o.2.2.2.2.2.2.1, .int 0, .int o.2.2.2.2.2.2.2.2.1, .int o.2.2.2.2.2.2.2.2.2.1, .ref o.2.2.2.1, .ref o.2.2.2.2.1, .int o.2.2.2.2.2.2.2.2.2.2.1, .int o.2.2.2.2.2.2.2.2.2.2.2.1, .ref fi2, .ref re2, .int (nI a9.1), .ref rc2, .ref rs2, .ref so2, .ref ot2, .ref cn2, .ref la2, .int (nI k9.1), .ref o.2.2.2.2.2.1, .int o.2.2.2.2.2.2.2.2.2.2.2.2])) := ⟨_, rfl⟩
        rw [← ehv3] at hP
        have khv3 : ∀ b o, b ≠ y → hh b = some o → hv3 b = some o := by rw [ehv3]; exact fun b o nb hb => (qs_ne nb).trans hb
        replace s0_2 := khv3 _ _ (fun q => by subst q; have := s0_2.symm.trans hY2; first | cases this | simp at this) s0_2
        replace s1_2 := khv3 _ _ (fun q => by subst q; have := s1_2.symm.trans hY2; first | cases this | simp at this) s1_2
        replace s2_2 := khv3 _ _ (fun q => by subst q; have := s2_2.symm.trans hY2; first | cases this | simp at this) s2_2
        replace s3_2 := khv3 _ _ (fun q => by subst q; have := s3_2.symm.trans hY2; first | cases this | simp at this) s3_2
        replace s4_2 := khv3 _ _ (fun q => by subst q; have := s4_2.symm.trans hY2; first | cases this | simp at this) s4_2
        replace s5_2 := khv3 _ _ (fun q => by subst q; have := s5_2.symm.trans hY2; first | cases this | simp at this) s5_2
        replace s6_2 := khv3 _ _ (fun q => by subst q; have := s6_2.symm.trans hY2; first | cases this | simp at this) s6_2
        replace s7_2 := khv3 _ _ (fun q => by subst q; have := s7_2.symm.trans hY2; first | cases this | simp at this) s7_2
        replace hY2 : hv3 y = some (.inr (8, [.ref o.1, .ref o.2.1, .ref o.2.2.1, .int o.2.2.2.2.2.2.1, .int 0, .int o.2.2.2.2.2.2.2.2.1, .int o.2.2.2.2.2.2.2.2.2.1, .ref o.2.2.2.1, .ref o.2.2.2.2.1, .int o.2.2.2.2.2.2.2.2.2.2.1, .int o.2.2.2.2.2.2.2.2.2.2.2.1, .ref fi2, .ref re2, .int (nI a9.1), .ref rc2, .ref rs2, .ref so2, .ref ot2, .ref cn2, .ref la2, .int (nI k9.1), .ref o.2.2.2.2.2.1, .int o.2.2.2.2.2.2.2.2.2.2.2.2])) := by rw [ehv3]; exact qs_self
        clear ehv3
        replace hS : qSy cy hv3 y A9 (oCd o 0) a9 (k9) := ⟨fi2, re2, rc2, rs2, so2, ot2, cn2, la2, F2, Rt2, Rc2, Rs2, So2, Ot2, Cn2, La2, hY2, ⟨s0_2, s1_2, s2_2, s3_2, s4_2, s5_2, s6_2, s7_2⟩, hg2_, hk2_, hz2_, (hd2_ ()), (he2_ ()), hA2_, hb2_⟩
        have hFq3 : qFy hh hv3 y A9 A9 := ⟨fun b o hb n1 n2 => khv3 b o n1 hb, fun _ z => z, fun _ z => Or.inl z⟩
        have hFt3 := hfr9.tr hFq3 nA9
        refine lv_if_eq (tgt := 89) hx hb dX8_streamAt_77 (by decide) (fun c77 => ?_) (fun c77 => ?_)
        · replace c77 : 1 = 0 := (nI_eq (a := 1) (b := 0) (by omega) (by omega)).mp c77
          exfalso; omega
        · replace c77 : ¬ 1 = 0 := fun zq => c77 ((nI_eq (a := 1) (b := 0) (by omega) (by omega)).mpr zq)
          refine lv_aload_n hx hb dX8_streamAt_80 rfl (lv_at hl 3 rfl) ?_
          refine q_get C hP hY2 rfl inX8 11 (by decide) g1178 rfl dX8_streamAt_81 ?_
          refine lv_iload_n hx hb dX8_streamAt_84 rfl (lv_at hl 1 rfl) ?_
          refine q_laldN C hP s0_2 (by omega) (by omega) dX8_streamAt_85 ?_
          rw [(hg2_ s9 (by omega)).1]
          refine lv_goto (tgt := 90) hx hb dX8_streamAt_86 (by decide) ?_
          have eC : xStC X = 0 := by rw [eX]; show (if ¬ oFq o = 0 then _ else if s9 = 0 then (3 : Int32) else 0) = _; rw [if_neg (fun z => z hfa), if_neg (show ¬ s9 = 0 by omega)]
          exact q_lret C hP hS9 ⟨by rw [eX]; show _ = some (Value.long (if ¬ oFq o = 0 then 0 else if s9 = 0 then 0 else a9.2.2.1 s9)); rw [if_neg (fun z => z hfa), if_neg (show ¬ s9 = 0 by omega)], A9, by rw [eC, eX]; exact hS, hFt3, nA9⟩ (by omega) dX8_streamAt_90
    · replace c13 : ¬ ii ≤ kk := fun zq => c13 ((nI_leI (a := ii) (b := kk) (by omega) (by omega)).mpr zq)
      refine lv_iload_n hx hb dX8_streamAt_16 rfl (lv_at hl 1 rfl) ?_
      refine lv_if_le (tgt := 63) hx hb dX8_streamAt_17 (by decide) (fun c17 => ?_) (fun c17 => ?_)
      · replace c17 : s9 ≤ 0 := (nI_leI (a := s9) (b := 0) (by omega) (by omega)).mp c17
        have eX : X = (s9, o, a9, k9) := by rw [← hX, show ii - kk = (ii - kk - 1) + 1 by omega, xWalk, if_pos (by omega), show s9 = 0 by omega]
        refine lv_aload_n hx hb dX8_streamAt_63 rfl (lv_at hl 3 rfl) ?_
        refine lv_iload_n hx hb dX8_streamAt_64 rfl (lv_at hl 1 rfl) ?_
        refine lv_if_le (tgt := 72) hx hb dX8_streamAt_65 (by decide) (fun c65 => ?_) (fun c65 => ?_)
        · replace c65 : s9 ≤ 0 := (nI_leI (a := s9) (b := 0) (by omega) (by omega)).mp c65
          refine lv_iconst (v := nI 0) hx hb dX8_streamAt_72 (by decide) ?_
          refine lv_iconst (v := nI 3) hx hb dX8_streamAt_73 (by decide) ?_
          refine q_callV (rest := []) C (c_X8_good0 l D cy N0 hh y (o.1) (o.2.1) (o.2.2.1) (o.2.2.2.1) (o.2.2.2.2.1) fi2 re2 rc2 rs2 so2 ot2 cn2 la2 (o.2.2.2.2.2.1) (o.2.2.2.2.2.2.1) (o.2.2.2.2.2.2.2.1) (o.2.2.2.2.2.2.2.2.1) (o.2.2.2.2.2.2.2.2.2.1) (o.2.2.2.2.2.2.2.2.2.2.1) (o.2.2.2.2.2.2.2.2.2.2.2.1) (nI a9.1) (nI k9.1) (o.2.2.2.2.2.2.2.2.2.2.2.2) (nI 3) hY2) kX8_good g1249 g1251 rfl gp41 g4 hP hS9 hY2 (by first | decide | omega) hl.1 rfl (by decide) (by first | decide | omega) dX8_streamAt_74 (fun q ce E h' H1 locs1 hE => hE.elim) (fun v hh3 H locs hq hP hS9 => ?_)
          obtain ⟨rfl, rfl⟩ := hq
          replace hP : qP D N0 (qs hh y (.inr (8, [.ref o.1, .ref o.2.1, .ref o.2.2.1, .int o.2.2.2.2.2.2.1, .int (nI 3), .int o.2.2.2.2.2.2.2.2.1, .int o.2.2.2.2.2.2.2.2.2.1, .ref o.2.2.2.1, .ref o.2.2.2.2.1, .int o.2.2.2.2.2.2.2.2.2.2.1, .int o.2.2.2.2.2.2.2.2.2.2.2.1, .ref fi2, .ref re2, .int (nI a9.1), .ref rc2, .ref rs2, .ref so2, .ref ot2, .ref cn2, .ref la2, .int (nI k9.1), .ref o.2.2.2.2.2.1, .int o.2.2.2.2.2.2.2.2.2.2.2.2]))) H := hP
          obtain ⟨hv4, ehv4⟩ : ∃ z : qH, z = qs hh y (.inr (8, [.ref o.1, .ref o.2.1, .ref o.2.2.1, .int o.2.2.2.2.2.2.1, .int (nI 3), .int o.2.2.2.2.2.2.2.2.1, .int o.2.2.2.2.2.2.2.2.2.1, .ref o.2.2.2.1, .ref o.2.2.2.2.1, .int o.2.2.2.2.2.2.2.2.2.2.1, .int o.2.2.2.2.2.2.2.2.2.2.2.1, .ref fi2, .ref re2, .int (nI a9.1), .ref rc2, .ref rs2, .ref so2, .ref ot2, .ref cn2, .ref la2, .int (nI k9.1), .ref o.2.2.2.2.2.1, .int o.2.2.2.2.2.2.2.2.2.2.2.2])) := ⟨_, rfl⟩
          rw [← ehv4] at hP
          have khv4 : ∀ b o, b ≠ y → hh b = some o → hv4 b = some o := by rw [ehv4]; exact fun b o nb hb => (qs_ne nb).trans hb
          replace s0_2 := khv4 _ _ (fun q => by subst q; have := s0_2.symm.trans hY2; first | cases this | simp at this) s0_2
          replace s1_2 := khv4 _ _ (fun q => by subst q; have := s1_2.symm.trans hY2; first | cases this | simp at this) s1_2
          replace s2_2 := khv4 _ _ (fun q => by subst q; have := s2_2.symm.trans hY2; first | cases this | simp at this) s2_2
          replace s3_2 := khv4 _ _ (fun q => by subst q; have := s3_2.symm.trans hY2; first | cases this | simp at this) s3_2
          replace s4_2 := khv4 _ _ (fun q => by subst q; have := s4_2.symm.trans hY2; first | cases this | simp at this) s4_2
          replace s5_2 := khv4 _ _ (fun q => by subst q; have := s5_2.symm.trans hY2; first | cases this | simp at this) s5_2
          replace s6_2 := khv4 _ _ (fun q => by subst q; have := s6_2.symm.trans hY2; first | cases this | simp at this) s6_2
          replace s7_2 := khv4 _ _ (fun q => by subst q; have := s7_2.symm.trans hY2; first | cases this | simp at this) s7_2
          replace hY2 : hv4 y = some (.inr (8, [.ref o.1, .ref o.2.1, .ref o.2.2.1, .int o.2.2.2.2.2.2.1, .int (nI 3), .int o.2.2.2.2.2.2.2.2.1, .int o.2.2.2.2.2.2.2.2.2.1, .ref o.2.2.2.1, .ref o.2.2.2.2.1, .int o.2.2.2.2.2.2.2.2.2.2.1, .int o.2.2.2.2.2.2.2.2.2.2.2.1, .ref fi2, .ref re2, .int (nI a9.1), .ref rc2, .ref rs2, .ref so2, .ref ot2, .ref cn2, .ref la2, .int (nI k9.1), .ref o.2.2.2.2.2.1, .int o.2.2.2.2.2.2.2.2.2.2.2.2])) := by rw [ehv4]; exact qs_self
          clear ehv4
          replace hS : qSy cy hv4 y A9 (oCd o (nI 3)) a9 (k9) := ⟨fi2, re2, rc2, rs2, so2, ot2, cn2, la2, F2, Rt2, Rc2, Rs2, So2, Ot2, Cn2, La2, hY2, ⟨s0_2, s1_2, s2_2, s3_2, s4_2, s5_2, s6_2, s7_2⟩, hg2_, hk2_, hz2_, (hd2_ ()), (he2_ ()), hA2_, hb2_⟩
          have hFq4 : qFy hh hv4 y A9 A9 := ⟨fun b o hb n1 n2 => khv4 b o n1 hb, fun _ z => z, fun _ z => Or.inl z⟩
          have hFt4 := hfr9.tr hFq4 nA9
          refine lv_if_eq (tgt := 89) hx hb dX8_streamAt_77 (by decide) (fun c77 => ?_) (fun c77 => ?_)
          · replace c77 : 0 = 0 := (nI_eq (a := 0) (b := 0) (by omega) (by omega)).mp c77
            refine lv_lconst (v := 0) hx hb dX8_streamAt_89 (by decide) ?_
            have eC : xStC X = 3 := by rw [eX]; show (if ¬ oFq o = 0 then _ else if s9 = 0 then (3 : Int32) else 0) = _; rw [if_neg (fun z => z hfa), if_pos (show s9 = 0 by omega)]
            exact q_lret C hP hS9 ⟨by rw [eX]; show _ = some (Value.long (if ¬ oFq o = 0 then 0 else if s9 = 0 then 0 else a9.2.2.1 s9)); rw [if_neg (fun z => z hfa), if_pos (show s9 = 0 by omega)], A9, by rw [eC, eX]; exact hS, hFt4, nA9⟩ (by omega) dX8_streamAt_90
          · replace c77 : ¬ 0 = 0 := fun zq => c77 ((nI_eq (a := 0) (b := 0) (by omega) (by omega)).mpr zq)
            exfalso; omega
        · replace c65 : ¬ s9 ≤ 0 := fun zq => c65 ((nI_leI (a := s9) (b := 0) (by omega) (by omega)).mpr zq)
          refine lv_iconst (v := nI 1) hx hb dX8_streamAt_68 (by decide) ?_
          refine lv_goto (tgt := 73) hx hb dX8_streamAt_69 (by decide) ?_
          refine lv_iconst (v := nI 3) hx hb dX8_streamAt_73 (by decide) ?_
          refine q_callV (rest := []) C (c_X8_good1 l D cy N0 hh y (o.1) (o.2.1) (o.2.2.1) (o.2.2.2.1) (o.2.2.2.2.1) fi2 re2 rc2 rs2 so2 ot2 cn2 la2 (o.2.2.2.2.2.1) (o.2.2.2.2.2.2.1) (o.2.2.2.2.2.2.2.1) (o.2.2.2.2.2.2.2.2.1) (o.2.2.2.2.2.2.2.2.2.1) (o.2.2.2.2.2.2.2.2.2.2.1) (o.2.2.2.2.2.2.2.2.2.2.2.1) (nI a9.1) (nI k9.1) (o.2.2.2.2.2.2.2.2.2.2.2.2) (nI 3) hY2) kX8_good g1249 g1251 rfl gp41 g4 hP hS9 hY2 (by first | decide | omega) hl.1 rfl (by decide) (by first | decide | omega) dX8_streamAt_74 (fun q ce E h' H1 locs1 hE => hE.elim) (fun v hh4 H locs hq hP hS9 => ?_)
          obtain ⟨rfl, rfl⟩ := hq
          replace hP : qP D N0 (qs hh y (.inr (8, [.ref o.1, .ref o.2.1, .ref o.2.2.1, .int o.2.2.2.2.2.2.1, .int 0, .int o.2.2.2.2.2.2.2.2.1, .int o.2.2.2.2.2.2.2.2.2.1, .ref o.2.2.2.1, .ref o.2.2.2.2.1, .int o.2.2.2.2.2.2.2.2.2.2.1, .int o.2.2.2.2.2.2.2.2.2.2.2.1, .ref fi2, .ref re2, .int (nI a9.1), .ref rc2, .ref rs2, .ref so2, .ref ot2, .ref cn2, .ref la2, .int (nI k9.1), .ref o.2.2.2.2.2.1, .int o.2.2.2.2.2.2.2.2.2.2.2.2]))) H := hP
          obtain ⟨hv5, ehv5⟩ : ∃ z : qH, z = qs hh y (.inr (8, [.ref o.1, .ref o.2.1, .ref o.2.2.1, .int o.2.2.2.2.2.2.1, .int 0, .int o.2.2.2.2.2.2.2.2.1, .int o.2.2.2.2.2.2.2.2.2.1, .ref o.2.2.2.1, .ref o.2.2.2.2.1, .int o.2.2.2.2.2.2.2.2.2.2.1, .int o.2.2.2.2.2.2.2.2.2.2.2.1, .ref fi2, .ref re2, .int (nI a9.1), .ref rc2, .ref rs2, .ref so2, .ref ot2, .ref cn2, .ref la2, .int (nI k9.1), .ref o.2.2.2.2.2.1, .int o.2.2.2.2.2.2.2.2.2.2.2.2])) := ⟨_, rfl⟩
          rw [← ehv5] at hP
          have khv5 : ∀ b o, b ≠ y → hh b = some o → hv5 b = some o := by rw [ehv5]; exact fun b o nb hb => (qs_ne nb).trans hb
          replace s0_2 := khv5 _ _ (fun q => by subst q; have := s0_2.symm.trans hY2; first | cases this | simp at this) s0_2
          replace s1_2 := khv5 _ _ (fun q => by subst q; have := s1_2.symm.trans hY2; first | cases this | simp at this) s1_2
          replace s2_2 := khv5 _ _ (fun q => by subst q; have := s2_2.symm.trans hY2; first | cases this | simp at this) s2_2
          replace s3_2 := khv5 _ _ (fun q => by subst q; have := s3_2.symm.trans hY2; first | cases this | simp at this) s3_2
          replace s4_2 := khv5 _ _ (fun q => by subst q; have := s4_2.symm.trans hY2; first | cases this | simp at this) s4_2
          replace s5_2 := khv5 _ _ (fun q => by subst q; have := s5_2.symm.trans hY2; first | cases this | simp at this) s5_2
          replace s6_2 := khv5 _ _ (fun q => by subst q; have := s6_2.symm.trans hY2; first | cases this | simp at this) s6_2
          replace s7_2 := khv5 _ _ (fun q => by subst q; have := s7_2.symm.trans hY2; first | cases this | simp at this) s7_2
          replace hY2 : hv5 y = some (.inr (8, [.ref o.1, .ref o.2.1, .ref o.2.2.1, .int o.2.2.2.2.2.2.1, .int 0, .int o.2.2.2.2.2.2.2.2.1, .int o.2.2.2.2.2.2.2.2.2.1, .ref o.2.2.2.1, .ref o.2.2.2.2.1, .int o.2.2.2.2.2.2.2.2.2.2.1, .int o.2.2.2.2.2.2.2.2.2.2.2.1, .ref fi2, .ref re2, .int (nI a9.1), .ref rc2, .ref rs2, .ref so2, .ref ot2, .ref cn2, .ref la2, .int (nI k9.1), .ref o.2.2.2.2.2.1, .int o.2.2.2.2.2.2.2.2.2.2.2.2])) := by rw [ehv5]; exact qs_self
          clear ehv5
          replace hS : qSy cy hv5 y A9 (oCd o 0) a9 (k9) := ⟨fi2, re2, rc2, rs2, so2, ot2, cn2, la2, F2, Rt2, Rc2, Rs2, So2, Ot2, Cn2, La2, hY2, ⟨s0_2, s1_2, s2_2, s3_2, s4_2, s5_2, s6_2, s7_2⟩, hg2_, hk2_, hz2_, (hd2_ ()), (he2_ ()), hA2_, hb2_⟩
          have hFq5 : qFy hh hv5 y A9 A9 := ⟨fun b o hb n1 n2 => khv5 b o n1 hb, fun _ z => z, fun _ z => Or.inl z⟩
          have hFt5 := hfr9.tr hFq5 nA9
          refine lv_if_eq (tgt := 89) hx hb dX8_streamAt_77 (by decide) (fun c77 => ?_) (fun c77 => ?_)
          · replace c77 : 1 = 0 := (nI_eq (a := 1) (b := 0) (by omega) (by omega)).mp c77
            exfalso; omega
          · replace c77 : ¬ 1 = 0 := fun zq => c77 ((nI_eq (a := 1) (b := 0) (by omega) (by omega)).mpr zq)
            refine lv_aload_n hx hb dX8_streamAt_80 rfl (lv_at hl 3 rfl) ?_
            refine q_get C hP hY2 rfl inX8 11 (by decide) g1178 rfl dX8_streamAt_81 ?_
            refine lv_iload_n hx hb dX8_streamAt_84 rfl (lv_at hl 1 rfl) ?_
            refine q_laldN C hP s0_2 (by omega) (by omega) dX8_streamAt_85 ?_
            rw [(hg2_ s9 (by omega)).1]
            refine lv_goto (tgt := 90) hx hb dX8_streamAt_86 (by decide) ?_
            have eC : xStC X = 0 := by rw [eX]; show (if ¬ oFq o = 0 then _ else if s9 = 0 then (3 : Int32) else 0) = _; rw [if_neg (fun z => z hfa), if_neg (show ¬ s9 = 0 by omega)]
            exact q_lret C hP hS9 ⟨by rw [eX]; show _ = some (Value.long (if ¬ oFq o = 0 then 0 else if s9 = 0 then 0 else a9.2.2.1 s9)); rw [if_neg (fun z => z hfa), if_neg (show ¬ s9 = 0 by omega)], A9, by rw [eC, eX]; exact hS, hFt5, nA9⟩ (by omega) dX8_streamAt_90
      · replace c17 : ¬ s9 ≤ 0 := fun zq => c17 ((nI_leI (a := s9) (b := 0) (by omega) (by omega)).mpr zq)
        refine lv_aload_n hx hb dX8_streamAt_20 rfl (lv_at hl 3 rfl) ?_
        refine lv_aload_n hx hb dX8_streamAt_21 rfl (lv_at hl 3 rfl) ?_
        refine q_get C hP hY2 rfl inX8 12 (by decide) g1179 rfl dX8_streamAt_22 ?_
        refine lv_iload_n hx hb dX8_streamAt_25 rfl (lv_at hl 1 rfl) ?_
        refine q_ialdN C hP s1_2 (by omega) (by omega) dX8_streamAt_26 ?_
        rw [(hg2_ s9 (by omega)).2]
        have er0 : a9.2.2.2 s9 = s9 := hV9.r s9 hss.1
        rw [er0]
        obtain ⟨s2, o2, a2, k2, er9⟩ : ∃ z1 z2 z3 z4, F (o, a9, k9) s9 = (z1, z2, z3, z4) := ⟨_, _, _, _, rfl⟩
        have hcall := hF hh A9 o a9 k9 _ dp9 s9 hS nA9 hRz hV9 hfa hss.1 (by omega)
        rw [er9] at hcall
        dsimp only at hcall
        have st9 := hG _ dp9 (o, a9, k9) s9 hV9 hfa hss.1 (by omega)
        rw [er9] at st9
        obtain ⟨dp2, d1, w2, d3, d4, d5, ⟨x6, y6, z6, e6⟩, d7⟩ := st9
        dsimp only at d1 d3 d4 d5 e6 d7
        have hX2 : X = if ¬ oFq o2 = 0 then (0, (o2, a2, k2)) else xWalk F (ii - (kk + 1)) (o2, a2, k2) s2 := by rw [← hX, show ii - kk = (ii - (kk + 1)) + 1 by omega, xWalk, if_neg (by omega), er9]
        have hpm := qP_mono (a := a9) (b := a2) (by omega) d4
        have hpX : qP1 a2 ≤ qP1 X.2.2.1 ∧ qP2 a2 ≤ qP2 X.2.2.1 := by
          rw [hX2]
          by_cases z : ¬ oFq o2 = 0
          · rw [if_pos z]; exact ⟨Nat.le_refl _, Nat.le_refl _⟩
          · rw [if_neg z]; have z2 := d5 (Decidable.not_not.mp z); exact qStp.P w2 (xWalk_stp hG hdc _ s2 dp2 (o2, a2, k2) w2 (Decidable.not_not.mp z) ⟨z2.1, by omega⟩)
        refine q_callV (rest := []) C (hcall) kX8_force g1331 g1333 rfl gp50 g4 hP hS9 hY2 (by first | decide | omega) hl.1 rfl (by decide) (by first | decide | omega) dX8_streamAt_27 (fun q ce E h' H1 locs1 hE => hE.elim) (fun v hh5 H locs hq hP hS9 => ?_)
        obtain ⟨rfl, Aq6, hSq6, hFq6, nAq6⟩ := hq
        replace hS := hSq6
        have hRz2 := hRz.keep hFq6 hY2
        replace hRz2 : qRz cy hh5 Aq6 o2.2.2.2.2.2.1 Rn R ad := by rw [e6]; exact hRz2
        have hFt6 := hfr9.tr hFq6 nAq6
        obtain ⟨fi3, re3, rc3, rs3, so3, ot3, cn3, la3, F3, Rt3, Rc3, Rs3, So3, Ot3, Cn3, La3, hY3, ⟨s0_3, s1_3, s2_3, s3_3, s4_3, s5_3, s6_3, s7_3⟩, hg3_, hk3_, hz3_, hd3_, he3_, hA3_, hb3_⟩ := id hS
        replace hd3_ := fun _ : Unit => hd3_
        replace he3_ := fun _ : Unit => he3_
        unfold qYo at hY3
        refine lv_istore_n (lv' := [(3, .int (nI s2)), (4, .int (nI kk)), (2, .int (nI ii)), (0, .ref y)]) hx hb dX8_streamAt_30 rfl hl (by decide) rfl (fun ls hl => ?_)
        refine lv_aload_n hx hb dX8_streamAt_31 rfl (lv_at hl 3 rfl) ?_
        refine q_get C hP hY3 rfl inX8 10 (by decide) g1177 rfl dX8_streamAt_32 ?_
        refine lv_if_eq (tgt := 57) hx hb dX8_streamAt_35 (by decide) (fun c35 => ?_) (fun c35 => ?_)
        · refine lv_iinc (v := nI (kk + 1)) (lv' := [(4, .int (nI (kk + 1))), (3, .int (nI s2)), (2, .int (nI ii)), (0, .ref y)]) hx hb dX8_streamAt_57 hl (k := 1) rfl (nI_1 kk) (by decide) rfl (fun ls hl => ?_)
          refine lv_goto (tgt := 10) hx hb dX8_streamAt_60 (by decide) ?_
          have z2 := d5 c35
          exact ihu (kk + 1) H locs ls _ Aq6 o2 a2 k2 dp2 s2 _ _ (by omega) (lv_sub hl [0, 1, 2, 3] rfl) (by omega) hP hS9 hS nAq6 hRz2 w2 c35 ⟨z2.1, by omega⟩ (by rw [hX2, if_neg (fun z => z c35)]) ⟨by omega, by omega⟩ hFt6
        · refine lv_aload_n hx hb dX8_streamAt_38 rfl (lv_at hl 3 rfl) ?_
          refine lv_aload_n hx hb dX8_streamAt_39 rfl (lv_at hl 3 rfl) ?_
          refine q_get C hP hY3 rfl inX8 10 (by decide) g1177 rfl dX8_streamAt_40 ?_
          refine lv_iconst (v := 1) hx hb dX8_streamAt_43 (by decide) ?_
          refine lv_icmp_ne (tgt := 51) hx hb dX8_streamAt_44 (by decide) (fun c44 => ?_) (fun c44 => ?_)
          · refine lv_iconst (v := nI 5) hx hb dX8_streamAt_51 (by decide) ?_
            refine q_put C hP hS9 hY3 rfl inX8 tyX8 tyX8_ok nmX8 4 (by decide) g1171 rfl rfl rfl (Nat.le_of_ble_eq_true rfl) dX8_streamAt_52 (fun H locs hP hS9 => ?_)
            replace hP : qP D N0 (qs hh5 y (.inr (8, [.ref o2.1, .ref o2.2.1, .ref o2.2.2.1, .int o2.2.2.2.2.2.2.1, .int (nI 5), .int o2.2.2.2.2.2.2.2.2.1, .int o2.2.2.2.2.2.2.2.2.2.1, .ref o2.2.2.2.1, .ref o2.2.2.2.2.1, .int o2.2.2.2.2.2.2.2.2.2.2.1, .int o2.2.2.2.2.2.2.2.2.2.2.2.1, .ref fi3, .ref re3, .int (nI a2.1), .ref rc3, .ref rs3, .ref so3, .ref ot3, .ref cn3, .ref la3, .int (nI k2.1), .ref o2.2.2.2.2.2.1, .int o2.2.2.2.2.2.2.2.2.2.2.2.2]))) H := hP
            obtain ⟨hv6, ehv6⟩ : ∃ z : qH, z = qs hh5 y (.inr (8, [.ref o2.1, .ref o2.2.1, .ref o2.2.2.1, .int o2.2.2.2.2.2.2.1, .int (nI 5), .int o2.2.2.2.2.2.2.2.2.1, .int o2.2.2.2.2.2.2.2.2.2.1, .ref o2.2.2.2.1, .ref o2.2.2.2.2.1, .int o2.2.2.2.2.2.2.2.2.2.2.1, .int o2.2.2.2.2.2.2.2.2.2.2.2.1, .ref fi3, .ref re3, .int (nI a2.1), .ref rc3, .ref rs3, .ref so3, .ref ot3, .ref cn3, .ref la3, .int (nI k2.1), .ref o2.2.2.2.2.2.1, .int o2.2.2.2.2.2.2.2.2.2.2.2.2])) := ⟨_, rfl⟩
            rw [← ehv6] at hP
            have khv6 : ∀ b o, b ≠ y → hh5 b = some o → hv6 b = some o := by rw [ehv6]; exact fun b o nb hb => (qs_ne nb).trans hb
            replace s0_3 := khv6 _ _ (fun q => by subst q; have := s0_3.symm.trans hY3; first | cases this | simp at this) s0_3
            replace s1_3 := khv6 _ _ (fun q => by subst q; have := s1_3.symm.trans hY3; first | cases this | simp at this) s1_3
            replace s2_3 := khv6 _ _ (fun q => by subst q; have := s2_3.symm.trans hY3; first | cases this | simp at this) s2_3
            replace s3_3 := khv6 _ _ (fun q => by subst q; have := s3_3.symm.trans hY3; first | cases this | simp at this) s3_3
            replace s4_3 := khv6 _ _ (fun q => by subst q; have := s4_3.symm.trans hY3; first | cases this | simp at this) s4_3
            replace s5_3 := khv6 _ _ (fun q => by subst q; have := s5_3.symm.trans hY3; first | cases this | simp at this) s5_3
            replace s6_3 := khv6 _ _ (fun q => by subst q; have := s6_3.symm.trans hY3; first | cases this | simp at this) s6_3
            replace s7_3 := khv6 _ _ (fun q => by subst q; have := s7_3.symm.trans hY3; first | cases this | simp at this) s7_3
            replace hY3 : hv6 y = some (.inr (8, [.ref o2.1, .ref o2.2.1, .ref o2.2.2.1, .int o2.2.2.2.2.2.2.1, .int (nI 5), .int o2.2.2.2.2.2.2.2.2.1, .int o2.2.2.2.2.2.2.2.2.2.1, .ref o2.2.2.2.1, .ref o2.2.2.2.2.1, .int o2.2.2.2.2.2.2.2.2.2.2.1, .int o2.2.2.2.2.2.2.2.2.2.2.2.1, .ref fi3, .ref re3, .int (nI a2.1), .ref rc3, .ref rs3, .ref so3, .ref ot3, .ref cn3, .ref la3, .int (nI k2.1), .ref o2.2.2.2.2.2.1, .int o2.2.2.2.2.2.2.2.2.2.2.2.2])) := by rw [ehv6]; exact qs_self
            clear ehv6
            replace hS : qSy cy hv6 y Aq6 (oCd o2 5) a2 (k2) := ⟨fi3, re3, rc3, rs3, so3, ot3, cn3, la3, F3, Rt3, Rc3, Rs3, So3, Ot3, Cn3, La3, hY3, ⟨s0_3, s1_3, s2_3, s3_3, s4_3, s5_3, s6_3, s7_3⟩, hg3_, hk3_, hz3_, (hd3_ ()), (he3_ ()), hA3_, hb3_⟩
            have hFq7 : qFy hh5 hv6 y Aq6 Aq6 := ⟨fun b o hb n1 n2 => khv6 b o n1 hb, fun _ z => z, fun _ z => Or.inl z⟩
            have hFt7 := hFt6.tr hFq7 nAq6
            refine lv_lconst (v := 0) hx hb dX8_streamAt_55 (by decide) ?_
            have eX : X = (0, o2, a2, k2) := by rw [hX2, if_pos c35]
            have eC : xStC X = 5 := by rw [eX]; show (if ¬ oFq o2 = 0 then (if oFq o2 = 1 then (4 : Int32) else 5) else _) = _; rw [if_pos c35, if_neg c44]
            exact q_lret C hP hS9 ⟨by rw [eX]; show _ = some (Value.long (if ¬ oFq o2 = 0 then 0 else _)); rw [if_pos c35], Aq6, by rw [eC, eX]; exact hS, hFt7, nAq6⟩ (by omega) dX8_streamAt_56
          · refine lv_iconst (v := nI 4) hx hb dX8_streamAt_47 (by decide) ?_
            refine lv_goto (tgt := 52) hx hb dX8_streamAt_48 (by decide) ?_
            refine q_put C hP hS9 hY3 rfl inX8 tyX8 tyX8_ok nmX8 4 (by decide) g1171 rfl rfl rfl (Nat.le_of_ble_eq_true rfl) dX8_streamAt_52 (fun H locs hP hS9 => ?_)
            replace hP : qP D N0 (qs hh5 y (.inr (8, [.ref o2.1, .ref o2.2.1, .ref o2.2.2.1, .int o2.2.2.2.2.2.2.1, .int (nI 4), .int o2.2.2.2.2.2.2.2.2.1, .int o2.2.2.2.2.2.2.2.2.2.1, .ref o2.2.2.2.1, .ref o2.2.2.2.2.1, .int o2.2.2.2.2.2.2.2.2.2.2.1, .int o2.2.2.2.2.2.2.2.2.2.2.2.1, .ref fi3, .ref re3, .int (nI a2.1), .ref rc3, .ref rs3, .ref so3, .ref ot3, .ref cn3, .ref la3, .int (nI k2.1), .ref o2.2.2.2.2.2.1, .int o2.2.2.2.2.2.2.2.2.2.2.2.2]))) H := hP
            obtain ⟨hv7, ehv7⟩ : ∃ z : qH, z = qs hh5 y (.inr (8, [.ref o2.1, .ref o2.2.1, .ref o2.2.2.1, .int o2.2.2.2.2.2.2.1, .int (nI 4), .int o2.2.2.2.2.2.2.2.2.1, .int o2.2.2.2.2.2.2.2.2.2.1, .ref o2.2.2.2.1, .ref o2.2.2.2.2.1, .int o2.2.2.2.2.2.2.2.2.2.2.1, .int o2.2.2.2.2.2.2.2.2.2.2.2.1, .ref fi3, .ref re3, .int (nI a2.1), .ref rc3, .ref rs3, .ref so3, .ref ot3, .ref cn3, .ref la3, .int (nI k2.1), .ref o2.2.2.2.2.2.1, .int o2.2.2.2.2.2.2.2.2.2.2.2.2])) := ⟨_, rfl⟩
            rw [← ehv7] at hP
            have khv7 : ∀ b o, b ≠ y → hh5 b = some o → hv7 b = some o := by rw [ehv7]; exact fun b o nb hb => (qs_ne nb).trans hb
            replace s0_3 := khv7 _ _ (fun q => by subst q; have := s0_3.symm.trans hY3; first | cases this | simp at this) s0_3
            replace s1_3 := khv7 _ _ (fun q => by subst q; have := s1_3.symm.trans hY3; first | cases this | simp at this) s1_3
            replace s2_3 := khv7 _ _ (fun q => by subst q; have := s2_3.symm.trans hY3; first | cases this | simp at this) s2_3
            replace s3_3 := khv7 _ _ (fun q => by subst q; have := s3_3.symm.trans hY3; first | cases this | simp at this) s3_3
            replace s4_3 := khv7 _ _ (fun q => by subst q; have := s4_3.symm.trans hY3; first | cases this | simp at this) s4_3
            replace s5_3 := khv7 _ _ (fun q => by subst q; have := s5_3.symm.trans hY3; first | cases this | simp at this) s5_3
            replace s6_3 := khv7 _ _ (fun q => by subst q; have := s6_3.symm.trans hY3; first | cases this | simp at this) s6_3
            replace s7_3 := khv7 _ _ (fun q => by subst q; have := s7_3.symm.trans hY3; first | cases this | simp at this) s7_3
            replace hY3 : hv7 y = some (.inr (8, [.ref o2.1, .ref o2.2.1, .ref o2.2.2.1, .int o2.2.2.2.2.2.2.1, .int (nI 4), .int o2.2.2.2.2.2.2.2.2.1, .int o2.2.2.2.2.2.2.2.2.2.1, .ref o2.2.2.2.1, .ref o2.2.2.2.2.1, .int o2.2.2.2.2.2.2.2.2.2.2.1, .int o2.2.2.2.2.2.2.2.2.2.2.2.1, .ref fi3, .ref re3, .int (nI a2.1), .ref rc3, .ref rs3, .ref so3, .ref ot3, .ref cn3, .ref la3, .int (nI k2.1), .ref o2.2.2.2.2.2.1, .int o2.2.2.2.2.2.2.2.2.2.2.2.2])) := by rw [ehv7]; exact qs_self
            clear ehv7
            replace hS : qSy cy hv7 y Aq6 (oCd o2 4) a2 (k2) := ⟨fi3, re3, rc3, rs3, so3, ot3, cn3, la3, F3, Rt3, Rc3, Rs3, So3, Ot3, Cn3, La3, hY3, ⟨s0_3, s1_3, s2_3, s3_3, s4_3, s5_3, s6_3, s7_3⟩, hg3_, hk3_, hz3_, (hd3_ ()), (he3_ ()), hA3_, hb3_⟩
            have hFq8 : qFy hh5 hv7 y Aq6 Aq6 := ⟨fun b o hb n1 n2 => khv7 b o n1 hb, fun _ z => z, fun _ z => Or.inl z⟩
            have hFt8 := hFt6.tr hFq8 nAq6
            refine lv_lconst (v := 0) hx hb dX8_streamAt_55 (by decide) ?_
            have eX : X = (0, o2, a2, k2) := by rw [hX2, if_pos c35]
            have eC : xStC X = 4 := by rw [eX]; show (if ¬ oFq o2 = 0 then (if oFq o2 = 1 then (4 : Int32) else 5) else _) = _; rw [if_pos c35, if_pos c44]
            exact q_lret C hP hS9 ⟨by rw [eX]; show _ = some (Value.long (if ¬ oFq o2 = 0 then 0 else _)); rw [if_pos c35], Aq6, by rw [eC, eX]; exact hS, hFt8, nAq6⟩ (by omega) dX8_streamAt_56
