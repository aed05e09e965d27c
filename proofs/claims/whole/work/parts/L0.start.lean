theorem q_eqt {args : Array Value} {s : State} {t : Term} {z : Int32} (h : (Cond.eq t (.int z)).before args s = true) : t.eval args s none [] s = some (.int z) := by
  cases hv : t.eval args s none [] s with
  | none => simp [Cond.before, Cond.holds, Cond.value, hv] at h
  | some w =>
    have hz : (Term.int z).eval args s none [] s = some (.int z) := rfl
    simp only [Cond.before, Cond.holds, Cond.value, hv, hz] at h
    cases w <;> simp_all
theorem qt_m1 {w : Cond} (i : Nat) (h : tables_1_1[i]? = some w) : w ∈ lw_tbl := List.mem_append_right _ (show w ∈ tables_1 from List.mem_append_left _ (List.mem_of_getElem? h))
theorem qt_m2 {w : Cond} (i : Nat) (h : tables_1_2[i]? = some w) : w ∈ lw_tbl := List.mem_append_right _ (show w ∈ tables_1 from List.mem_append_right _ (List.mem_append_left _ (List.mem_of_getElem? h)))
theorem qt_m3 {w : Cond} (i : Nat) (h : tables_1_3[i]? = some w) : w ∈ lw_tbl := List.mem_append_right _ (show w ∈ tables_1 from List.mem_append_right _ (List.mem_append_right _ (List.mem_append_left _ (List.mem_of_getElem? h))))
theorem qt_m4 {w : Cond} (i : Nat) (h : tables_1_4[i]? = some w) : w ∈ lw_tbl := List.mem_append_right _ (show w ∈ tables_1 from List.mem_append_right _ (List.mem_append_right _ (List.mem_append_right _ (List.mem_append_left _ (List.mem_of_getElem? h)))))
theorem qt_m5 {w : Cond} (i : Nat) (h : tables_1_5[i]? = some w) : w ∈ lw_tbl := List.mem_append_right _ (show w ∈ tables_1 from List.mem_append_right _ (List.mem_append_right _ (List.mem_append_right _ (List.mem_append_right _ (List.mem_append_left _ (List.mem_of_getElem? h))))))
theorem qt_m6 {w : Cond} (i : Nat) (h : tables_1_6[i]? = some w) : w ∈ lw_tbl := List.mem_append_right _ (show w ∈ tables_1 from List.mem_append_right _ (List.mem_append_right _ (List.mem_append_right _ (List.mem_append_right _ (List.mem_append_right _ (List.mem_append_left _ (List.mem_of_getElem? h)))))))
theorem qt_m7 {w : Cond} (i : Nat) (h : tables_1_7[i]? = some w) : w ∈ lw_tbl := List.mem_append_right _ (show w ∈ tables_1 from List.mem_append_right _ (List.mem_append_right _ (List.mem_append_right _ (List.mem_append_right _ (List.mem_append_right _ (List.mem_append_right _ (List.mem_of_getElem? h)))))))
theorem qE_classes {args : Array Value} {s : State} (hts : ∀ w ∈ lw_tbl, w.before args s = true) : ∃ (dC : Nat → ClassId) (dI : Nat → Nat → Nat), ∀ (c : Nat) (q : vw_C), vwCl[c]? = some q → u_Kn s q.1 q.2.1 q.2.2 (dC c) (dI c) := by
  have hG : ∀ w ∈ qG, w.before args s = true := fun w hw => hts w (qg_tbl hw)
  have key : ∀ c : Nat, ∃ z : ClassId × (Nat → Nat), ∀ q : vw_C, vwCl[c]? = some q → u_Kn s q.1 q.2.1 q.2.2 z.1 z.2 := by
    intro c
    match c with
    | 0 =>
      obtain ⟨cC, iS, hk⟩ := u_known (C := RX0) (T := TX0) (N := 6) hG inX0 (hG (.instantiable RX0 6) g486)
      exact ⟨(cC, iS), fun q hq => by cases hq; exact hk⟩
    | 1 =>
      obtain ⟨cC, iS, hk⟩ := u_known (C := RX1) (T := TX1) (N := 6) hG inX1 (hG (.instantiable RX1 6) g37)
      exact ⟨(cC, iS), fun q hq => by cases hq; exact hk⟩
    | 2 =>
      obtain ⟨cC, iS, hk⟩ := u_known (C := RX2) (T := TX2) (N := 6) hG inX2 (hG (.instantiable RX2 6) g185)
      exact ⟨(cC, iS), fun q hq => by cases hq; exact hk⟩
    | 3 =>
      obtain ⟨cC, iS, hk⟩ := u_known (C := RX3) (T := TX3) (N := 8) hG inX3 (hG (.instantiable RX3 8) g317)
      exact ⟨(cC, iS), fun q hq => by cases hq; exact hk⟩
    | 4 =>
      obtain ⟨cC, iS, hk⟩ := u_known (C := RX4) (T := TX4) (N := 4) hG inX4 (hG (.instantiable RX4 4) g441)
      exact ⟨(cC, iS), fun q hq => by cases hq; exact hk⟩
    | 5 =>
      obtain ⟨cC, iS, hk⟩ := u_known (C := RX5) (T := TX5) (N := 10) hG inX5 (hG (.instantiable RX5 10) g530)
      exact ⟨(cC, iS), fun q hq => by cases hq; exact hk⟩
    | 6 =>
      obtain ⟨cC, iS, hk⟩ := u_known (C := RX6) (T := TX6) (N := 8) hG inX6 (hG (.instantiable RX6 8) g23)
      exact ⟨(cC, iS), fun q hq => by cases hq; exact hk⟩
    | 7 =>
      obtain ⟨cC, iS, hk⟩ := u_known (C := RX7) (T := TX7) (N := 7) hG inX7 (hG (.instantiable RX7 7) g1132)
      exact ⟨(cC, iS), fun q hq => by cases hq; exact hk⟩
    | 8 =>
      obtain ⟨cC, iS, hk⟩ := u_known (C := RX8) (T := TX8) (N := 23) hG inX8 (hG (.instantiable RX8 23) g1125)
      exact ⟨(cC, iS), fun q hq => by cases hq; exact hk⟩
    | n + 9 => exact ⟨(0, fun _ => 0), fun q hq => by simp [vwCl] at hq⟩
  obtain ⟨z, hz⟩ := Classical.skolem.mp key
  exact ⟨fun c => (z c).1, fun c => (z c).2, hz⟩

theorem qE_prim {args : Array Value} {s : State} {ty : FieldType} (h : (Cond.arrayClass ty).before args s = true) (hp : ∀ U cA, U.vm.findClass ("[" ++ ty.toString) = some cA → va_RA U cA ty) : ∃ cA, ArrOfT s cA ty ∧ va_RA s cA ty := by
  obtain ⟨c, k, comp, h1, h2, h3⟩ := Cond.arrayClass_spec h
  exact ⟨c, fun n z => ⟨fun k h => (by cases h), k, h2, comp, h3⟩, hp s c h1⟩
theorem qE_obj {args : Array Value} {s : State} {C : String} (h : (Cond.arrayOver (.object C)).before args s = true) : ∃ cA, ArrOfT s cA (.object C) ∧ va_RA s cA (.object C) := by
  obtain ⟨comp, c, k, h1, h2, h3, h4, h5⟩ := Cond.arrayOver_spec h
  exact ⟨c, fun n z => ⟨fun k h => (by cases h), k, h3, comp, h4⟩, k, comp, h3, h4, h1, h5⟩
theorem qE_arr {args : Array Value} {s : State} {ty : FieldType} (h : (Cond.arrayOver (.array ty)).before args s = true) : ∃ cA, ArrOfT s cA (.array ty) ∧ va_RA s cA (.array ty) := by
  obtain ⟨comp, c, k, h1, h2, h3, h4, h5⟩ := arrayOverA_spec h
  exact ⟨c, fun n z => ⟨fun k h => (by cases h), k, h3, comp, h4⟩, h5⟩

set_option maxRecDepth 100000 in
set_option maxHeartbeats 4000000 in
theorem qE_words {args : Array Value} {s : State} (hts : ∀ w ∈ lw_tbl, w.before args s = true) (hgv : (Jvm.Cond.and given_1 narrow_1).before args s = true) : qW s := by
  have hs := flat_of_before _ hgv
  refine ⟨List.forall_mem_cons.mpr ⟨va_Nw.of rfl (hts _ (qt_m1 (w := Cond.fieldLinkNest RX6 343 RX1 "row" "[J" RX6) 43 rfl)), List.forall_mem_cons.mpr ⟨va_Nw.of rfl (hts _ (qt_m1 (w := Cond.fieldLinkNest RX6 315 RX1 "isOpen" "Z" RX6) 45 rfl)), List.forall_mem_cons.mpr ⟨va_Nw.of rfl (hts _ (qt_m1 (w := Cond.fieldLinkNest RX6 334 RX1 "kind" "I" RX6) 47 rfl)), List.forall_mem_cons.mpr ⟨va_Nw.of rfl (hts _ (qt_m1 (w := Cond.fieldLinkNest RX6 386 RX1 "length" "I" RX6) 49 rfl)), List.forall_mem_cons.mpr ⟨va_Nw.of rfl (hts _ (qt_m1 (w := Cond.fieldLinkNest RX6 350 RX1 "root" "LPersistentTrove$Node;" RX6) 51 rfl)), List.forall_mem_cons.mpr ⟨va_Nw.of rfl (hts _ (qt_m1 (w := Cond.fieldLinkNest RX6 470 RX1 "edit" "I" RX6) 53 rfl)), List.forall_mem_cons.mpr ⟨va_Nw.of rfl (hts _ (qt_m2 (w := Cond.fieldLinkNest RX6 429 RX3 "values" "[J" RX6) 128 rfl)), List.forall_mem_cons.mpr ⟨va_Nw.of rfl (hts _ (qt_m3 (w := Cond.fieldLinkNest RX6 499 RX5 "code" "I" RX6) 60 rfl)), List.forall_mem_cons.mpr ⟨va_Nw.of rfl (hts _ (qt_m3 (w := Cond.fieldLinkNest RX6 502 RX5 "c" "J" RX6) 62 rfl)), List.forall_mem_cons.mpr ⟨va_Nw.of rfl (hts _ (qt_m3 (w := Cond.fieldLinkNest RX6 514 RX5 "number" "I" RX6) 64 rfl)), List.forall_mem_cons.mpr ⟨va_Nw.of rfl (hts _ (qt_m3 (w := Cond.fieldLinkNest RX6 493 RX5 "source" "LPersistentTrove$Stream;" RX6) 66 rfl)), List.forall_mem_cons.mpr ⟨va_Nw.of rfl (hts _ (qt_m3 (w := Cond.fieldLinkNest RX6 517 RX5 "behind" "LPersistentTrove$Stream;" RX6) 68 rfl)), List.forall_mem_cons.mpr ⟨va_Nw.of rfl (hts _ (qt_m3 (w := Cond.fieldLinkNest RX6 512 RX5 "row" "LPersistentTrove$Branch;" RX6) 70 rfl)), List.forall_mem_cons.mpr ⟨va_Nw.of rfl (hts _ (qt_m3 (w := Cond.fieldLinkNest RX6 487 RX5 "isDone" "Z" RX6) 72 rfl)), List.forall_mem_cons.mpr ⟨va_Nw.of rfl (hts _ (qt_m3 (w := Cond.fieldLinkNest RX6 490 RX5 "rest" "LPersistentTrove$Stream;" RX6) 74 rfl)), fun _ h => absurd h List.not_mem_nil⟩⟩⟩⟩⟩⟩⟩⟩⟩⟩⟩⟩⟩⟩⟩, List.forall_mem_cons.mpr ⟨va_Nw.of rfl (hts _ (qt_m1 (w := Cond.methodLinkNest RX6 38 yX1_init RX6) 38 rfl)), List.forall_mem_cons.mpr ⟨va_Nw.of rfl (hts _ (qt_m3 (w := Cond.methodLinkNest RX6 508 yX5_finish RX6) 195 rfl)), List.forall_mem_cons.mpr ⟨va_Nw.of rfl (hts _ (qt_m4 (w := Cond.methodLinkNest RX6 425 yX3_placeOf RX6) 55 rfl)), List.forall_mem_cons.mpr ⟨va_Nw.of rfl (hts _ (qt_m5 (w := Cond.methodLinkNest RX6 326 yX1_start RX6) 42 rfl)), List.forall_mem_cons.mpr ⟨va_Nw.of rfl (hts _ (qt_m5 (w := Cond.methodLinkNest RX6 342 yX1_amount RX6) 87 rfl)), List.forall_mem_cons.mpr ⟨va_Nw.of rfl (hts _ (qt_m5 (w := Cond.methodLinkNest RX6 353 yX1_finished RX6) 106 rfl)), List.forall_mem_cons.mpr ⟨va_Nw.of rfl (hts _ (qt_m5 (w := Cond.methodLinkNest RX8 18 yX7_init RX8) 173 rfl)), List.forall_mem_cons.mpr ⟨va_Nw.of rfl (hts _ (qt_m2 (w := Cond.methodLinkNest RX6 93 yX4_merged RX6) 223 rfl)), List.forall_mem_cons.mpr ⟨va_Nw.of rfl (hts _ (qt_m2 (w := Cond.methodLinkNest RX6 105 yX0_linked RX6) 232 rfl)), List.forall_mem_cons.mpr ⟨va_Nw.of rfl (hts _ (qt_m3 (w := Cond.methodLinkNest RX6 144 yX0_withValueAt RX6) 137 rfl)), List.forall_mem_cons.mpr ⟨va_Nw.of rfl (hts _ (qt_m4 (w := Cond.methodLinkNest RX6 173 yX0_withoutFirst RX6) 4 rfl)), List.forall_mem_cons.mpr ⟨va_Nw.of rfl (hts _ (qt_m4 (w := Cond.methodLinkNest RX6 176 yX0_firstOf RX6) 8 rfl)), List.forall_mem_cons.mpr ⟨va_Nw.of rfl (hts _ (qt_m4 (w := Cond.methodLinkNest RX6 197 yX0_withKey RX6) 39 rfl)), List.forall_mem_cons.mpr ⟨va_Nw.of rfl (hts _ (qt_m4 (w := Cond.methodLinkNest RX6 221 yX0_above RX6) 111 rfl)), List.forall_mem_cons.mpr ⟨va_Nw.of rfl (hts _ (qt_m4 (w := Cond.methodLinkNest RX6 225 yX0_below RX6) 112 rfl)), List.forall_mem_cons.mpr ⟨va_Nw.of rfl (hts _ (qt_m4 (w := Cond.methodLinkNest RX6 447 yX0_commonKeys RX6) 132 rfl)), List.forall_mem_cons.mpr ⟨va_Nw.of rfl (hts _ (qt_m4 (w := Cond.methodLinkNest RX6 451 yX0_united RX6) 136 rfl)), List.forall_mem_cons.mpr ⟨va_Nw.of rfl (hts _ (qt_m4 (w := Cond.methodLinkNest RX6 242 yX3_pourKeys RX6) 144 rfl)), List.forall_mem_cons.mpr ⟨va_Nw.of rfl (hts _ (qt_m4 (w := Cond.methodLinkNest RX6 313 yX3_pourValues RX6) 148 rfl)), List.forall_mem_cons.mpr ⟨va_Nw.of rfl (hts _ (qt_m4 (w := Cond.methodLinkNest RX6 254 yX3_shapeOf RX6) 176 rfl)), List.forall_mem_cons.mpr ⟨va_Nw.of rfl (hts _ (qt_m4 (w := Cond.methodLinkNest RX6 258 yX3_alike RX6) 187 rfl)), List.forall_mem_cons.mpr ⟨va_Nw.of rfl (hts _ (qt_m4 (w := Cond.methodLinkNest RX6 458 yX4_pour RX6) 199 rfl)), List.forall_mem_cons.mpr ⟨va_Nw.of rfl (hts _ (qt_m4 (w := Cond.methodLinkNest RX6 277 yX0_pourValues RX6) 219 rfl)), List.forall_mem_cons.mpr ⟨va_Nw.of rfl (hts _ (qt_m4 (w := Cond.methodLinkNest RX6 285 yX0_ofRow RX6) 223 rfl)), List.forall_mem_cons.mpr ⟨va_Nw.of rfl (hts _ (qt_m5 (w := Cond.methodLinkNest RX1 40 yX0_pourValues RX6) 46 rfl)), List.forall_mem_cons.mpr ⟨va_Nw.of rfl (hts _ (qt_m5 (w := Cond.methodLinkNest RX1 55 yX0_ofRow RX6) 110 rfl)), List.forall_mem_cons.mpr ⟨va_Nw.of rfl (hts _ (qt_m5 (w := Cond.methodLinkNest RX2 58 yX0_isSound RX6) 133 rfl)), List.forall_mem_cons.mpr ⟨va_Nw.of rfl (hts _ (qt_m5 (w := Cond.methodLinkNest RX2 68 yX0_isSorted RX6) 140 rfl)), List.forall_mem_cons.mpr ⟨va_Nw.of rfl (hts _ (qt_m5 (w := Cond.methodLinkNest RX2 72 yX3_isSound RX6) 144 rfl)), List.forall_mem_cons.mpr ⟨va_Nw.of rfl (hts _ (qt_m5 (w := Cond.methodLinkNest RX2 75 yX4_isSound RX6) 160 rfl)), fun _ h => absurd h List.not_mem_nil⟩⟩⟩⟩⟩⟩⟩⟩⟩⟩⟩⟩⟩⟩⟩⟩⟩⟩⟩⟩⟩⟩⟩⟩⟩⟩⟩⟩⟩⟩, List.forall_mem_cons.mpr ⟨va_AO.of (hts _ (qt_m1 (w := Cond.arrayOver (.object RX1)) 33 rfl)), List.forall_mem_cons.mpr ⟨va_AO.of (hts _ (qt_m1 (w := Cond.arrayOver (.object RX2)) 31 rfl)), List.forall_mem_cons.mpr ⟨va_AO.of (hts _ (qt_m2 (w := Cond.arrayOver (.object RX3)) 114 rfl)), List.forall_mem_cons.mpr ⟨va_AO.of (hts _ (qt_m5 (w := Cond.arrayOver (.object RX7)) 171 rfl)), fun _ h => absurd h List.not_mem_nil⟩⟩⟩⟩, List.forall_mem_cons.mpr ⟨va_Nw.of rfl (hts _ (qt_m1 (w := Cond.castable "java/lang/IllegalArgumentException" "java/lang/IllegalArgumentException") 112 rfl)), List.forall_mem_cons.mpr ⟨va_Nw.of rfl (hts _ (qt_m2 (w := Cond.castable "java/lang/IllegalStateException" "java/lang/IllegalStateException") 9 rfl)), List.forall_mem_cons.mpr ⟨va_Nw.of rfl (hts _ (qt_m2 (w := Cond.castable "java/lang/IndexOutOfBoundsException" "java/lang/IndexOutOfBoundsException") 89 rfl)), List.forall_mem_cons.mpr ⟨va_Nw.of rfl (hts _ (qt_m3 (w := Cond.castable "java/util/NoSuchElementException" "java/util/NoSuchElementException") 123 rfl)), List.forall_mem_cons.mpr ⟨va_Nw.of rfl (hts _ (qt_m3 (w := Cond.castable "java/lang/ArithmeticException" "java/lang/ArithmeticException") 178 rfl)), List.forall_mem_cons.mpr ⟨va_Nw.of rfl (hts _ (qt_m5 (w := Cond.castable "java/lang/UnsupportedOperationException" "java/lang/UnsupportedOperationException") 73 rfl)), fun _ h => absurd h List.not_mem_nil⟩⟩⟩⟩⟩⟩, List.forall_mem_cons.mpr ⟨va_Nw.of rfl (hts _ (qt_m1 (w := Cond.declares ⟨"java/lang/RuntimeException", "<init>", "(Ljava/lang/String;)V"⟩) 114 rfl)), List.forall_mem_cons.mpr ⟨va_Nw.of rfl (hts _ (qt_m1 (w := Cond.declares ⟨"java/lang/Exception", "<init>", "(Ljava/lang/String;)V"⟩) 116 rfl)), List.forall_mem_cons.mpr ⟨va_Nw.of rfl (hts _ (qt_m1 (w := Cond.declares ⟨"java/lang/Throwable", "<init>", "(Ljava/lang/String;)V"⟩) 118 rfl)), fun _ h => absurd h List.not_mem_nil⟩⟩⟩, List.forall_mem_cons.mpr ⟨(show qAOA .int s from hts _ (qt_m5 (w := Cond.arrayOver (.array .int)) 204 rfl)), List.forall_mem_cons.mpr ⟨(show qAOA .long s from hts _ (qt_m5 (w := Cond.arrayOver (.array .long)) 206 rfl)), fun _ h => absurd h List.not_mem_nil⟩⟩, List.forall_mem_cons.mpr ⟨va_Nw.of rfl (hts _ (qt_m2 (w := Cond.castable "[J" "java/lang/Cloneable") 164 rfl)), List.forall_mem_cons.mpr ⟨va_Nw.of rfl (hts _ (qt_m2 (w := Cond.castable "[LPersistentTrove$Node;" "java/lang/Cloneable") 159 rfl)), fun _ h => absurd h List.not_mem_nil⟩⟩, fun a ha b hb n => ?_⟩
  simp only [qCast, List.mem_cons, List.not_mem_nil, or_false] at ha hb
  rcases ha with rfl | rfl | rfl | rfl | rfl | rfl <;> rcases hb with rfl | rfl | rfl | rfl | rfl | rfl <;> first | exact absurd rfl n | exact va_Nc.of (hs _ (by decide +kernel))

set_option maxRecDepth 100000 in
set_option maxHeartbeats 4000000 in
theorem qE_strs {args : Array Value} {s : State} (hts : ∀ w ∈ lw_tbl, w.before args s = true) (hgv : (Jvm.Cond.and given_1 narrow_1).before args s = true) : ∀ q ∈ qStr, ∃ sa, vk_R RX6 q.1 q.2 sa s := by
  have hs := flat_of_before _ hgv
  have one : ∀ (k : Nat) (tx : String), (Cond.stringRef RX6 k tx).before args s = true → (Cond.exactly (Term.string RX6 k) "java/lang/String").before args s = true → ∃ sa, vk_R RX6 k tx sa s := fun k tx h1 h2 => by
    obtain ⟨a, c, cell, kk, h3, -⟩ := Cond.exactly_spec h2
    exact ⟨a, vk_R.of h1 h3⟩
  exact List.forall_mem_cons.mpr ⟨one 375 "a number is out of range" (hts _ (qt_m1 (w := Cond.stringRef RX6 375 "a number is out of range") 154 rfl)) (hs _ (by decide +kernel)), List.forall_mem_cons.mpr ⟨one 400 "the slot holds none of this kind" (hts _ (qt_m2 (w := Cond.stringRef RX6 400 "the slot holds none of this kind") 16 rfl)) (hs _ (by decide +kernel)), List.forall_mem_cons.mpr ⟨one 391 "more elements than a collection may have" (hts _ (qt_m2 (w := Cond.stringRef RX6 391 "more elements than a collection may have") 96 rfl)) (hs _ (by decide +kernel)), List.forall_mem_cons.mpr ⟨one 394 "more keys of one hash than there may be" (hts _ (qt_m2 (w := Cond.stringRef RX6 394 "more keys of one hash than there may be") 109 rfl)) (hs _ (by decide +kernel)), List.forall_mem_cons.mpr ⟨one 383 "there is none" (hts _ (qt_m3 (w := Cond.stringRef RX6 383 "there is none") 130 rfl)) (hs _ (by decide +kernel)), List.forall_mem_cons.mpr ⟨one 398 "more moves than there may be" (hts _ (qt_m3 (w := Cond.stringRef RX6 398 "more moves than there may be") 165 rfl)) (hs _ (by decide +kernel)), List.forall_mem_cons.mpr ⟨one 484 "division by 0" (hts _ (qt_m3 (w := Cond.stringRef RX6 484 "division by 0") 185 rfl)) (hs _ (by decide +kernel)), List.forall_mem_cons.mpr ⟨one 396 "deeper than a stream may be" (hts _ (qt_m4 (w := Cond.stringRef RX6 396 "deeper than a stream may be") 127 rfl)) (hs _ (by decide +kernel)), List.forall_mem_cons.mpr ⟨one 321 "the builder is open" (hts _ (qt_m5 (w := Cond.stringRef RX6 321 "the builder is open") 41 rfl)) (hs _ (by decide +kernel)), List.forall_mem_cons.mpr ⟨one 402 "the builder is not open" (hts _ (qt_m5 (w := Cond.stringRef RX6 402 "the builder is not open") 59 rfl)) (hs _ (by decide +kernel)), List.forall_mem_cons.mpr ⟨one 475 "only elements of a sequence have places" (hts _ (qt_m5 (w := Cond.stringRef RX6 475 "only elements of a sequence have places") 80 rfl)) (hs _ (by decide +kernel)), fun _ h => absurd h List.not_mem_nil⟩⟩⟩⟩⟩⟩⟩⟩⟩⟩⟩

theorem q_len0 {args : Array Value} {s : State} {t : Term} (h : (Term.length t).eval args s none [] s = some (.int 0)) : ∃ (a : Addr) (cell : Cell), t.eval args s none [] s = some (.ref a) ∧ s.arrayAt? a = some cell ∧ cell.slots.size = 0 := by
  obtain ⟨a, cell, h1, h2, h3⟩ := Term.length_spec h
  refine ⟨a, cell, h1, h2, ?_⟩
  have hlt : cell.slots.size < 2 ^ 31 := by
    refine Classical.byContradiction fun q => ?_
    simp only [Term.eval, h1, h2, Option.bind_eq_bind, Option.bind_some, if_neg q] at h
    cases h
  have e : nI cell.slots.size = nI 0 := by
    have := Value.int.inj h3
    rw [nI_0]
    exact this.symm
  exact (nI_eq hlt (by decide)).mp e
set_option maxRecDepth 100000 in
set_option maxHeartbeats 4000000 in
theorem qE_start {args : Array Value} {s : State} (hts : ∀ w ∈ lw_tbl, w.before args s = true) (hgv : (Jvm.Cond.and given_1 narrow_1).before args s = true) : ∃ (D : va_G) (cy : Nat → ClassId), qE D cy s.heap.size s ∧ qP D s.heap.size (fun a => if a = cy 99 then some (thJ cy []) else none) s.heap := by
  have hs := flat_of_before _ hgv
  obtain ⟨dC, dI, hK⟩ := qE_classes hts
  have hA : ∀ a : Nat, a < s.heap.size → ¬ qA s.heap.size a := fun a h1 h2 => absurd h1 (Nat.not_lt.mpr h2)
  obtain ⟨c0, h0⟩ := qE_prim (ty := .int) (hts _ (qt_m6 (w := Cond.arrayClass .int) 37 rfl)) (fun _ _ h => h)
  obtain ⟨c1, h1⟩ := qE_prim (ty := .long) (hts _ (qt_m1 (w := Cond.arrayClass .long) 67 rfl)) (fun _ _ h => h)
  obtain ⟨c2, h2⟩ := qE_obj (hts _ (qt_m1 (w := Cond.arrayOver (.object RX1)) 33 rfl))
  obtain ⟨c3, h3⟩ := qE_obj (hts _ (qt_m1 (w := Cond.arrayOver (.object RX2)) 31 rfl))
  obtain ⟨c4, h4⟩ := qE_obj (hts _ (qt_m2 (w := Cond.arrayOver (.object RX3)) 114 rfl))
  obtain ⟨c5, h5⟩ := qE_obj (hts _ (qt_m5 (w := Cond.arrayOver (.object RX7)) 171 rfl))
  obtain ⟨c6, h6⟩ := qE_arr (hts _ (qt_m5 (w := Cond.arrayOver (.array .int)) 204 rfl))
  obtain ⟨c7, h7⟩ := qE_arr (hts _ (qt_m5 (w := Cond.arrayOver (.array .long)) 206 rfl))
  obtain ⟨nn, cellN, ht, hat, hv⟩ := q_len0 (show (Term.length (.static RX3 "NO_NUMBERS" "[J")).eval args s none [] s = some (.int 0) from q_eqt (hs _ (by decide +kernel)))
  obtain ⟨hc1, hc2, -, -⟩ := State.arrayAt?_spec hat
  have hao := Cond.arrayOf_spec (o := none) (idx := []) (first := s) (ty := .long) (hs (Cond.arrayOf (.static RX3 "NO_NUMBERS" "[J") .long) (by decide +kernel)) ht hc1
  have hCl : ∃ (k : Class) (comp : ClassId), s.vm.classes[cellN.cls]? = some k ∧ k.kind = .array comp .long := by
    obtain ⟨-, k, hk, comp, hkk⟩ := hao.1
    exact ⟨k, comp, hk, hkk⟩
  have hnl : nn < s.heap.size := (Array.getElem?_eq_some_iff.mp hc1).1
  have hQ0 : ∀ cy : Nat → ClassId, cy 99 = nn → qP (fun k => if k = 98 then cellN.cls else dC k, dI) s.heap.size (fun a => if a = cy 99 then some (thJ cy []) else none) s.heap := fun cy e a o z => by
    dsimp only at z
    split at z
    · rename_i e2
      cases z
      rw [e2, e]
      exact Or.inr ⟨hnl, ⟨_, _, rfl⟩, cellN, hc1, rfl, hv, hc2, hao.1.1⟩
    · cases z
  refine ⟨(fun k => if k = 98 then cellN.cls else dC k, dI), fun k => if k = 0 then c0 else if k = 1 then c1 else if k = 2 then c2 else if k = 3 then c3 else if k = 4 then c4 else if k = 5 then c5 else if k = 6 then c6 else if k = 7 then c7 else nn, ⟨⟨fun k q hq => ?_, fun k q hq => ?_⟩, Nat.le_refl _, vx_Zqof (hts _ (qt_m1 (w := Cond.laysStatic "java/lang/Throwable" "UNASSIGNED_STACK" "[Ljava/lang/StackTraceElement;") 137 rfl)) (hts _ (qt_m1 (w := Cond.initialized "java/lang/Throwable") 6 rfl)) (hs _ (by decide +kernel)) hA, vx_Zqof (hts _ (qt_m1 (w := Cond.laysStatic "java/lang/Throwable" "SUPPRESSED_SENTINEL" "Ljava/util/List;") 139 rfl)) (hts _ (qt_m1 (w := Cond.initialized "java/lang/Throwable") 6 rfl)) (hs _ (by decide +kernel)) hA, qE_strs hts hgv, qE_words hts hgv, va_Zref (hts _ (qt_m2 (w := Cond.laysStatic RX3 "NO_NUMBERS" "[J") 120 rfl)) (hts _ (qt_m1 (w := Cond.initialized RX3) 12 rfl)) ht hA, hCl⟩, hQ0 (fun k => if k = 0 then c0 else if k = 1 then c1 else if k = 2 then c2 else if k = 3 then c3 else if k = 4 then c4 else if k = 5 then c5 else if k = 6 then c6 else if k = 7 then c7 else nn) rfl⟩
  · have n98 : k ≠ 98 := fun z => by subst z; simp [vwCl] at hq
    show u_Kn s q.1 q.2.1 q.2.2 (if k = 98 then cellN.cls else dC k) (dI k)
    rw [if_neg n98]
    exact hK k q hq
  · match k, hq with
    | 0, hq => cases hq; exact h0
    | 1, hq => cases hq; exact h1
    | 2, hq => cases hq; exact h2
    | 3, hq => cases hq; exact h3
    | 4, hq => cases hq; exact h4
    | 5, hq => cases hq; exact h5
    | 6, hq => cases hq; exact h6
    | 7, hq => cases hq; exact h7
    | n + 8, hq => simp [qT] at hq

