theorem xRe_same {L : qKV} (h : qNo L) {k x : Int64} (hm : (k, x) ∈ L) : xRe L k x = L := by
  unfold xRe
  have e : List.map (fun p => if p.fst = k then (k, x) else p) L = List.map id L := List.map_congr_left (fun p hp => by
    by_cases c : p.1 = k
    · rw [if_pos c]; exact (qNo_uni h hp hm c).symm
    · rw [if_neg c]; rfl)
  rw [e, List.map_id]
theorem thP_ne {L : qKV} {k x : Int64} : thP L k x ≠ [] := fun z => by
  unfold thP at z
  split at z
  · rename_i c
    obtain ⟨p, hp, -⟩ := xHas_iff.mp c
    have h1 := congrArg List.length z
    rw [xRe_len] at h1
    rw [List.eq_nil_of_length_eq_zero h1] at hp
    cases hp
  · simp at z
theorem qEd.tr {cy : Nat → ClassId} {h : qH} {Im X : Nat → Prop} (e : qEd cy h Im X) : qEd cy h Im X := e
theorem dX3_added_0 : decode cX3_added 0 = .ok (.aload_n 0, 1) := by decide +kernel
theorem dX3_added_1 : decode cX3_added 1 = .ok (.iload_n 2, 1) := by decide +kernel
theorem dX3_added_2 : decode cX3_added 2 = .ok (.lload_n 3, 1) := by decide +kernel
theorem dX3_added_3 : decode cX3_added 3 = .ok (.invokestatic 62, 3) := by decide +kernel
theorem dX3_added_6 : decode cX3_added 6 = .ok (.astore 7, 2) := by decide +kernel
theorem dX3_added_8 : decode cX3_added 8 = .ok (.aload 7, 2) := by decide +kernel
theorem dX3_added_10 : decode cX3_added 10 = .ok (.ifnonnull 7, 3) := by decide +kernel
theorem dX3_added_13 : decode cX3_added 13 = .ok (.iconst (-1), 1) := by decide +kernel
theorem dX3_added_14 : decode cX3_added 14 = .ok (.goto 10, 3) := by decide +kernel
theorem dX3_added_17 : decode cX3_added 17 = .ok (.aload 7, 2) := by decide +kernel
theorem dX3_added_19 : decode cX3_added 19 = .ok (.iload_n 2, 1) := by decide +kernel
theorem dX3_added_20 : decode cX3_added 20 = .ok (.lload_n 3, 1) := by decide +kernel
theorem dX3_added_21 : decode cX3_added 21 = .ok (.invokevirtual 66, 3) := by decide +kernel
theorem dX3_added_24 : decode cX3_added 24 = .ok (.istore 8, 2) := by decide +kernel
theorem dX3_added_26 : decode cX3_added 26 = .ok (.iload 8, 2) := by decide +kernel
theorem dX3_added_28 : decode cX3_added 28 = .ok (.ifCond .lt 19, 3) := by decide +kernel
theorem dX3_added_31 : decode cX3_added 31 = .ok (.aload 7, 2) := by decide +kernel
theorem dX3_added_33 : decode cX3_added 33 = .ok (.getfield 18, 3) := by decide +kernel
theorem dX3_added_36 : decode cX3_added 36 = .ok (.iload 8, 2) := by decide +kernel
theorem dX3_added_38 : decode cX3_added 38 = .ok (.laload, 1) := by decide +kernel
theorem dX3_added_39 : decode cX3_added 39 = .ok (.lload 5, 2) := by decide +kernel
theorem dX3_added_41 : decode cX3_added 41 = .ok (.lcmp, 1) := by decide +kernel
theorem dX3_added_42 : decode cX3_added 42 = .ok (.ifCond .ne 5, 3) := by decide +kernel
theorem dX3_added_45 : decode cX3_added 45 = .ok (.aload_n 0, 1) := by decide +kernel
theorem dX3_added_46 : decode cX3_added 46 = .ok (.areturn, 1) := by decide +kernel
theorem dX3_added_47 : decode cX3_added 47 = .ok (.aload_n 0, 1) := by decide +kernel
theorem dX3_added_48 : decode cX3_added 48 = .ok (.ifnonnull 19, 3) := by decide +kernel
theorem dX3_added_51 : decode cX3_added 51 = .ok (.new 10, 3) := by decide +kernel
theorem dX3_added_54 : decode cX3_added 54 = .ok (.dup, 1) := by decide +kernel
theorem dX3_added_55 : decode cX3_added 55 = .ok (.iconst 0, 1) := by decide +kernel
theorem dX3_added_56 : decode cX3_added 56 = .ok (.iload_n 1, 1) := by decide +kernel
theorem dX3_added_57 : decode cX3_added 57 = .ok (.iconst 0, 1) := by decide +kernel
theorem dX3_added_58 : decode cX3_added 58 = .ok (.anewarray 10, 3) := by decide +kernel
theorem dX3_added_61 : decode cX3_added 61 = .ok (.invokespecial 70, 3) := by decide +kernel
theorem dX3_added_64 : decode cX3_added 64 = .ok (.goto 4, 3) := by decide +kernel
theorem dX3_added_67 : decode cX3_added 67 = .ok (.aload_n 0, 1) := by decide +kernel
theorem dX3_added_68 : decode cX3_added 68 = .ok (.iload_n 1, 1) := by decide +kernel
theorem dX3_added_69 : decode cX3_added 69 = .ok (.iload_n 2, 1) := by decide +kernel
theorem dX3_added_70 : decode cX3_added 70 = .ok (.lload_n 3, 1) := by decide +kernel
theorem dX3_added_71 : decode cX3_added 71 = .ok (.lload 5, 2) := by decide +kernel
theorem dX3_added_73 : decode cX3_added 73 = .ok (.invokestatic 73, 3) := by decide +kernel
theorem dX3_added_76 : decode cX3_added 76 = .ok (.areturn, 1) := by decide +kernel
set_option maxRecDepth 100000 in
set_option maxHeartbeats 4000000 in
theorem c_X3_added (l : Launch) (D : va_G) (cy : Nat → ClassId) (N0 : Nat) (h : qH) (Im : Nat → Prop) (e9 : Nat) (Ok : Nat → Prop) (m9 : Int32) (x : Option Nat) (L : qKV) (X : Nat → Prop) (k xv : Int64) (N : Nat) (hR : qRt cy h Im e9 Ok m9 x L X) (hE : qEd cy h Im X) (hO : ¬ Ok e9) (he9 : e9 < 2 ^ 31) (hN : L.length ≤ N) (hN9 : N < 100000) (hno : qNo L) : qC l D cy N0 yX3_added cX3_added 9 (some (.object RX3)) 24 1600 50 (aMs N 7 + 20) [va_rf x, .int (nI e9), .int m9, .long k, .long xv] h (fun v h' => ∃ (x2 : Option Nat) (X2 Im2 : Nat → Prop), v = some (va_rf x2) ∧ qRt cy h' Im2 e9 Ok m9 x2 (thP L k xv) X2 ∧ qEd cy h' Im2 X2 ∧ qCh h Im X h' Im2 X2) (fun E h' => False) := by
  refine q_ofW (by decide) (by simp [lg_sl, q_catrf, q_cati, q_catl, q_cata, q_catn]) ?_
  intro p e s m below meth c ls C hP hl
  have hx := C.1
  have hb := C.2.1
  have hS : va_S (qA N0) s.heap s.heap [] := va_S.rf
  have hl : lv_has ls 9 [(0, va_rf x), (1, .int (nI e9)), (2, .int m9), (3, .long k), (5, .long xv)] := by simpa [lv_args, q_catrf, q_cati, q_catl, q_cata, q_catn] using hl
  refine q_aload_n hx hb dX3_added_0 rfl (lv_at hl 0 rfl) ?_
  refine lv_iload_n hx hb dX3_added_1 rfl (lv_at hl 2 rfl) ?_
  refine lv_lload_n hx hb dX3_added_2 rfl (lv_at hl 3 rfl) ?_
  refine q_callS (rest := []) C (c_X3_homeOf l D cy N0 h Im e9 Ok m9 x L X k hR) kX3_homeOf g296 g297 hP hS (by first | decide | omega) hl.1 rfl (by decide) (by first | decide | omega) dX3_added_3 (fun q ce E h' H1 locs1 hE => hE.elim) (fun v hh1 H locs hq hP hS => ?_)
  obtain ⟨rfl, hq⟩ := hq
  rcases hq with ⟨rfl, rfl⟩ | ⟨a1, X1, rfl, hne9, hT1⟩
  · have hLn : L = [] := by rcases hR with ⟨-, z⟩ | ⟨a, z, -⟩; exact z; cases z
    refine lv_astoreN (lv' := [(7, .null), (0, .null), (1, .int (nI e9)), (2, .int m9), (3, .long k), (5, .long xv)]) hx hb dX3_added_6 hl (by decide) rfl (fun ls hl => ?_)
    refine lv_aloadN hx hb dX3_added_8 (lv_at hl 0 rfl) ?_
    refine lv_ifnonnullN hx hb dX3_added_10 ?_
    refine lv_iconst (v := -1) hx hb dX3_added_13 (by decide) ?_
    refine lv_goto (tgt := 24) hx hb dX3_added_14 (by decide) ?_
    refine lv_istore (lv' := [(8, .int (-1)), (7, .null), (0, .null), (1, .int (nI e9)), (2, .int m9), (3, .long k), (5, .long xv)]) hx hb dX3_added_24 hl (by decide) rfl (fun ls hl => ?_)
    refine lv_iload hx hb dX3_added_26 (lv_at hl 0 rfl) ?_
    refine lv_if_lt (tgt := 47) hx hb dX3_added_28 (by decide) (fun _ => ?_) (fun c => absurd (by decide) c)
    refine lv_aload_nN hx hb dX3_added_47 rfl (lv_at hl 2 rfl) ?_
    refine lv_ifnonnullN hx hb dX3_added_48 ?_
    have fr : ∀ b o, h b = some o → h b = some o := fun b o hb => hb
    have fd : ∀ b o, h b = some o → ∃ o', h b = some o' := fun b o hb => ⟨o, hb⟩
    refine q_new (ci := 3) (fs := [.int 0, .int 0, .int 0, .int 0, .int 0, .null, .null, .null]) C hP hS rfl inX3 tyX3 tyX3_ok g353 g317 g12 (fun j hj => by rcases (show j = 0 ∨ j = 1 ∨ j = 2 ∨ j = 3 ∨ j = 4 ∨ j = 5 ∨ j = 6 ∨ j = 7 by omega) with rfl | rfl | rfl | rfl | rfl | rfl | rfl | rfl <;> rfl) (by first | decide | omega) (by first | decide | omega) dX3_added_51 (fun q51 H eq51 hP hS => ?_)
    obtain ⟨hv1, ehv1⟩ : ∃ z : qH, z = qs h q51 (.inr (3, [.int 0, .int 0, .int 0, .int 0, .int 0, .null, .null, .null])) := ⟨_, rfl⟩
    rw [← ehv1] at hP
    have khv1 : ∀ b o, b ≠ q51 → h b = some o → hv1 b = some o := by rw [ehv1]; exact fun b o nb hb => (qs_ne nb).trans hb
    have fq51 : hv1 q51 = some (.inr (3, [.int 0, .int 0, .int 0, .int 0, .int 0, .null, .null, .null])) := by rw [ehv1]; exact qs_self
    clear ehv1
    have oq51 : h q51 = none := qno fd eq51
    replace fr : ∀ b o, h b = some o → hv1 b = some o := fun b o hb => khv1 b o (qne_of oq51 hb) (fr b o hb )
    replace fd : ∀ b o, h b = some o → ∃ o', hv1 b = some o' := fun b o hb => (fd b o hb).elim (fun o9 h9 => ⟨o9, khv1 b o9 (qne_of oq51 hb) h9⟩)
    refine lv_dup hx hb dX3_added_54 rfl ?_
    refine lv_iconst (v := nI 0) hx hb dX3_added_55 (by decide) ?_
    refine lv_iload_n hx hb dX3_added_56 rfl (lv_at hl 3 rfl) ?_
    refine lv_iconst (v := nI 0) hx hb dX3_added_57 (by decide) ?_
    refine q_newq (t0 := 4) (N := 0) C g353 (by decide) rfl hP hS (by decide) (by decide) (by decide) (by first | decide | omega) (by first | decide | omega) dX3_added_58 (fun q58 H eq58 hP hS => ?_)
    obtain ⟨hv2, ehv2⟩ : ∃ z : qH, z = qs hv1 q58 (.inl (cy 4, 0, .inr (.inr (.inr (.inr (fun _ => none)))))) := ⟨_, rfl⟩
    rw [← ehv2] at hP
    have khv2 : ∀ b o, b ≠ q58 → hv1 b = some o → hv2 b = some o := by rw [ehv2]; exact fun b o nb hb => (qs_ne nb).trans hb
    have n_q58_q51 : q51 ≠ q58 := qne_of eq58 fq51
    replace fq51 := khv2 _ _ n_q58_q51 fq51
    have fq58 : hv2 q58 = some (.inl (cy 4, 0, .inr (.inr (.inr (.inr (fun _ => none)))))) := by rw [ehv2]; exact qs_self
    clear ehv2
    have oq58 : h q58 = none := qno fd eq58
    replace fr : ∀ b o, h b = some o → hv2 b = some o := fun b o hb => khv2 b o (qne_of oq58 hb) (fr b o hb )
    replace fd : ∀ b o, h b = some o → ∃ o', hv2 b = some o' := fun b o hb => (fd b o hb).elim (fun o9 h9 => ⟨o9, khv2 b o9 (qne_of oq58 hb) h9⟩)
    replace hP : qP D N0 (qs hv2 q58 (.inl (cy 4, 0, .inr (.inr (.inr (.inr (fun j => some ((fun _ => 0) j)))))))) H := hP.re (y := (0, .inr (.inr (.inr (.inr (fun j => some ((fun _ => 0) j))))))) fq58 (by rw [vp_cell_q, vp_cell_q]; exact arrV_same (fun j hj => by omega)) rfl
    obtain ⟨hv3, ehv3⟩ : ∃ z : qH, z = qs hv2 q58 (.inl (cy 4, 0, .inr (.inr (.inr (.inr (fun j => some ((fun _ => 0) j))))))) := ⟨_, rfl⟩
    rw [← ehv3] at hP
    have khv3 : ∀ b o, b ≠ q58 → hv2 b = some o → hv3 b = some o := by rw [ehv3]; exact fun b o nb hb => (qs_ne nb).trans hb
    replace fq51 := khv3 _ _ n_q58_q51 fq51
    replace fq58 : hv3 q58 = some (.inl (cy 4, 0, .inr (.inr (.inr (.inr (fun j => some ((fun _ => 0) j))))))) := by rw [ehv3]; exact qs_self
    clear ehv3
    replace fr : ∀ b o, h b = some o → hv3 b = some o := fun b o hb => khv3 b o (qne_of oq58 hb) (fr b o hb )
    replace fd : ∀ b o, h b = some o → ∃ o', hv3 b = some o' := fun b o hb => (fd b o hb).elim (fun o9 h9 => ⟨o9, khv3 b o9 (qne_of oq58 hb) h9⟩)
    refine q_callI (rest := [.ref q51]) C (c_X3_init l D cy N0 hv3 q51 0 e9 q58 fq51) kX3_init g355 g356 rfl hP hS (by first | decide | omega) hl.1 rfl (by simp [q_catrf, q_cati, q_catl, q_cata, q_catn]) (by first | decide | omega) dX3_added_61 (fun v hh2 H locs hq hP hS => ?_)
    obtain ⟨rfl, rfl⟩ := hq
    replace hP : qP D N0 (qs hv3 q51 (.inr (3, [.int (nI 0), .int (nI e9), .int (nI 0), .int (nI 0), .int (nI 0), .ref (cy 99), .ref (cy 99), .ref q58]))) H := hP
    obtain ⟨hv4, ehv4⟩ : ∃ z : qH, z = qs hv3 q51 (.inr (3, [.int (nI 0), .int (nI e9), .int (nI 0), .int (nI 0), .int (nI 0), .ref (cy 99), .ref (cy 99), .ref q58])) := ⟨_, rfl⟩
    rw [← ehv4] at hP
    have khv4 : ∀ b o, b ≠ q51 → hv3 b = some o → hv4 b = some o := by rw [ehv4]; exact fun b o nb hb => (qs_ne nb).trans hb
    replace fq58 := khv4 _ _ n_q58_q51.symm fq58
    replace fq51 : hv4 q51 = some (.inr (3, [.int (nI 0), .int (nI e9), .int (nI 0), .int (nI 0), .int (nI 0), .ref (cy 99), .ref (cy 99), .ref q58])) := by rw [ehv4]; exact qs_self
    clear ehv4
    replace fr : ∀ b o, h b = some o → hv4 b = some o := fun b o hb => khv4 b o (qne_of oq51 hb) (fr b o hb )
    replace fd : ∀ b o, h b = some o → ∃ o', hv4 b = some o' := fun b o hb => (fd b o hb).elim (fun o9 h9 => ⟨o9, khv4 b o9 (qne_of oq51 hb) h9⟩)
    refine lv_goto (tgt := 68) hx hb dX3_added_64 (by decide) ?_
    refine lv_iload_n hx hb dX3_added_68 rfl (lv_at hl 3 rfl) ?_
    refine lv_iload_n hx hb dX3_added_69 rfl (lv_at hl 4 rfl) ?_
    refine lv_lload_n hx hb dX3_added_70 rfl (lv_at hl 5 rfl) ?_
    refine lv_lload hx hb dX3_added_71 (lv_at hl 6 rfl) ?_
    have hap : ∀ b, Im b ∨ X b → b ≠ q51 ∧ b ≠ q58 := fun b z => by obtain ⟨o, ho⟩ := hE.2.1 b z; exact ⟨qne_of oq51 ho, qne_of oq58 ho⟩
    have h99 := fr _ _ hE.2.2.1
    have htr : qTr cy hv4 (fun b => Im b ∨ b = q58) e9 Ok m9 7 q51 [] (fun b => X b ∨ b = q51) := qTr.mk (ow := e9) (ka := cy 99) (va := cy 99) (na := q58) (C := fun _ => 0) (Xs := fun _ _ => False) ⟨by unfold thNo; rw [trKb_nil, trNb_nil]; exact fq51, by rw [trK_nil]; exact h99, by rw [trK_nil]; exact h99, by rw [trM_nil]; exact fq58, Or.inl hE.2.2.2, he9, Or.inl ⟨rfl, Or.inr rfl, fun z => absurd trK_nil z, fun _ => Or.inl hE.2.2.2, fun z => absurd trM_nil z, fun _ => Or.inr rfl⟩⟩ ⟨fun j _ b z => z.elim, fun i j _ _ _ b z => z.elim⟩ (fun j v z => by rw [trM_nil] at z; cases z)
    have hed : qEd cy hv4 (fun b => Im b ∨ b = q58) (fun b => X b ∨ b = q51) := by
      refine ⟨fun b z hi => ?_, fun b z => ?_, h99, Or.inl hE.2.2.2⟩
      · rcases hi with hi | hi
        · rcases z with z | z
          · exact hE.1 b z hi
          · exact (hap b (Or.inl hi)).1 z
        · rcases z with z | z
          · exact (hap b (Or.inr z)).2 hi
          · exact n_q58_q51.symm (hi.symm.trans z)
      · rcases z with (z | z) | z | z
        · obtain ⟨o, ho⟩ := hE.2.1 b (Or.inl z); exact ⟨o, fr b o ho⟩
        · exact ⟨_, by rw [z]; exact fq58⟩
        · obtain ⟨o, ho⟩ := hE.2.1 b (Or.inr z); exact ⟨o, fr b o ho⟩
        · exact ⟨_, by rw [z]; exact fq51⟩
    have hch0 : qCh h Im X hv4 (fun b => Im b ∨ b = q58) (fun b => X b ∨ b = q51) := ⟨fun b o hb _ => fr b o hb, fun _ z => Or.inl z, fun b z => Or.elim z Or.inl (fun z => Or.inr (by rw [show b = q58 from z]; exact oq58)), fun b z => Or.elim z Or.inl (fun z => Or.inr (by rw [show b = q51 from z]; exact oq51)), fd⟩
    subst hLn
    refine q_callS (rest := []) C (c_X3_adding l D cy N0 e9 Ok m9 N hO he9 hN9 7 (Nat.le_refl _) hv4 (fun b => Im b ∨ b = q58) q51 [] (fun b => X b ∨ b = q51) k xv htr hed (Nat.zero_le _) List.Pairwise.nil) kX3_adding g387 g388 hP hS (by first | decide | omega) hl.1 rfl (by decide) (by first | decide | omega) dX3_added_73 (fun q ce E h' H1 locs1 hE => hE.elim) (fun v hh3 H locs hq hP hS => ?_)
    obtain ⟨a2, X2, Im2, rfl, hr1, hr2, hr3⟩ := hq
    exact q_aret (v := some a2) C (Or.inl ⟨_, rfl⟩) hP hS ⟨some a2, X2, Im2, rfl, Or.inr ⟨a2, rfl, thP_ne, hr1⟩, hr2, hch0.tr hr3⟩ (by omega) dX3_added_76
  · obtain ⟨aR, rfl, hneR, hTR⟩ : ∃ a, x = some a ∧ L ≠ [] ∧ qTr cy h Im e9 Ok m9 7 a L X := by rcases hR with ⟨-, z⟩ | z; exact absurd z hne9; exact z
    obtain ⟨r1, L1, eH1⟩ : ∃ (r1 : Nat) (L1 : qKV), thHm m9 k 7 L = (r1, L1) := ⟨_, _, rfl⟩
    have hrl := thHm_le (m := m9) (k := k) 7 L
    have hll := thHm_len (m := m9) (k := k) 7 L
    have hhas := fun p => thHome_has (m := m9) (k := k) (L := L) (p := p)
    rw [eH1] at hT1 hrl hll hhas
    dsimp only at hT1 hrl hll hhas
    obtain ⟨ow1, ka1, va1, na1, C1, Xs1, hn1, hx1, hk1⟩ := hT1.inv
    have f1 := hn1.1
    have fk1 := hn1.2.1
    have fv1 := hn1.2.2.1
    have fn1 := hn1.2.2.2.1
    unfold thNo at f1
    unfold thJ at fk1 fv1
    unfold thA at fn1
    rw [List.length_map] at fk1 fv1
    have hkl := trK_len (m := m9) (r := r1) (L := L1)
    refine lv_astore (lv' := [(7, .ref a1), (0, .ref aR), (1, .int (nI e9)), (2, .int m9), (3, .long k), (5, .long xv)]) hx hb dX3_added_6 hl (by decide) rfl (fun ls hl => ?_)
    refine lv_aload hx hb dX3_added_8 (lv_at hl 0 rfl) ?_
    refine lv_ifnonnull (tgt := 17) hx hb dX3_added_10 (by decide) ?_
    refine lv_aload hx hb dX3_added_17 (lv_at hl 0 rfl) ?_
    refine lv_iload_n hx hb dX3_added_19 rfl (lv_at hl 3 rfl) ?_
    refine lv_lload_n hx hb dX3_added_20 rfl (lv_at hl 4 rfl) ?_
    refine q_callV (rest := []) C (c_X3_placeOf l D cy N0 h Im e9 Ok m9 r1 a1 L1 L1.length X1 ow1 ka1 va1 na1 C1 k hn1 (by omega) (by omega) (by omega)) kX3_placeOf g314 g316 rfl gp5 g12 hP hS f1 (by first | decide | omega) hl.1 rfl (by decide) (by first | decide | omega) dX3_added_21 (fun q ce E h' H1 locs1 hE => hE.elim) (fun v hh4 H locs hq hP hS => ?_)
    obtain ⟨rfl, hq⟩ := hq
    rcases hq with ⟨j9, x9, rfl, ex9⟩ | ⟨rfl, no9⟩
    · have hjl := (List.getElem?_eq_some_iff.mp ex9).1
      refine lv_istore (lv' := [(8, .int (nI j9)), (7, .ref a1), (0, .ref aR), (1, .int (nI e9)), (2, .int m9), (3, .long k), (5, .long xv)]) hx hb dX3_added_24 hl (by decide) rfl (fun ls hl => ?_)
      refine lv_iload hx hb dX3_added_26 (lv_at hl 0 rfl) ?_
      refine lv_if_lt (tgt := 47) hx hb dX3_added_28 (by decide) (fun c28 => ?_) (fun c28 => ?_)
      · replace c28 : j9 < 0 := (nI_ltI (a := j9) (b := 0) (by omega) (by omega)).mp c28
        exfalso; omega
      · replace c28 : ¬ j9 < 0 := fun zq => c28 ((nI_ltI (a := j9) (b := 0) (by omega) (by omega)).mpr zq)
        refine lv_aload hx hb dX3_added_31 (lv_at hl 1 rfl) ?_
        refine q_get C hP f1 rfl inX3 6 (by decide) g367 rfl dX3_added_33 ?_
        refine lv_iload hx hb dX3_added_36 (lv_at hl 0 rfl) ?_
        refine q_laldN C hP fv1 (by omega) (by omega) dX3_added_38 ?_
        rw [th_val ex9]
        refine lv_lload hx hb dX3_added_39 (lv_at hl 6 rfl) ?_
        refine W.lcmp hx hb dX3_added_41 ?_
        refine lv_if_ne (tgt := 47) hx hb dX3_added_42 (by decide) (fun c42 => ?_) (fun c42 => ?_)
        · replace c42 : ¬ x9.toInt = xv.toInt := fun zq => c42 ((lg_cmp_eq _ _).mpr (Int64.toInt_inj.symm.mpr zq))
          refine lv_aload_n hx hb dX3_added_47 rfl (lv_at hl 2 rfl) ?_
          refine lv_ifnonnull (tgt := 67) hx hb dX3_added_48 (by decide) ?_
          refine lv_aload_n hx hb dX3_added_67 rfl (lv_at hl 2 rfl) ?_
          refine lv_iload_n hx hb dX3_added_68 rfl (lv_at hl 3 rfl) ?_
          refine lv_iload_n hx hb dX3_added_69 rfl (lv_at hl 4 rfl) ?_
          refine lv_lload_n hx hb dX3_added_70 rfl (lv_at hl 5 rfl) ?_
          refine lv_lload hx hb dX3_added_71 (lv_at hl 6 rfl) ?_
          have hch0 : qCh h Im X h Im X := qCh.rf
          refine q_callS (rest := []) C (c_X3_adding l D cy N0 e9 Ok m9 N hO he9 hN9 7 (Nat.le_refl _) h Im aR L X k xv hTR hE hN hno) kX3_adding g387 g388 hP hS (by first | decide | omega) hl.1 rfl (by decide) (by first | decide | omega) dX3_added_73 (fun q ce E h' H1 locs1 hE => hE.elim) (fun v hh5 H locs hq hP hS => ?_)
          obtain ⟨a2, X2, Im2, rfl, hr1, hr2, hr3⟩ := hq
          exact q_aret (v := some a2) C (Or.inl ⟨_, rfl⟩) hP hS ⟨some a2, X2, Im2, rfl, Or.inr ⟨a2, rfl, thP_ne, hr1⟩, hr2, hch0.tr hr3⟩ (by omega) dX3_added_76
        · replace c42 : x9.toInt = xv.toInt := Int64.toInt_inj.symm.mp ((lg_cmp_eq _ _).mp c42)
          refine lv_aload_n hx hb dX3_added_45 rfl (lv_at hl 2 rfl) ?_
          have hmm : (k, xv) ∈ L := (hhas _ rfl).mpr (by rw [show xv = x9 from Int64.toInt_inj.mp (by omega)]; exact List.mem_of_getElem? ex9)
          have hsame : thP L k xv = L := by rw [thP_yes (xHas_iff.mpr ⟨_, hmm, rfl⟩)]; exact xRe_same hno hmm
          exact q_aret (v := some aR) C (Or.inl ⟨_, rfl⟩) hP hS ⟨some aR, X, Im, rfl, by rw [hsame]; exact Or.inr ⟨aR, rfl, hneR, hTR⟩, hE, qCh.rf⟩ (by omega) dX3_added_46
    · refine lv_istore (lv' := [(8, .int (-1)), (7, .ref a1), (0, .ref aR), (1, .int (nI e9)), (2, .int m9), (3, .long k), (5, .long xv)]) hx hb dX3_added_24 hl (by decide) rfl (fun ls hl => ?_)
      refine lv_iload hx hb dX3_added_26 (lv_at hl 0 rfl) ?_
      refine lv_if_lt (tgt := 47) hx hb dX3_added_28 (by decide) (fun _ => ?_) (fun c => absurd (by decide) c)
      refine lv_aload_n hx hb dX3_added_47 rfl (lv_at hl 2 rfl) ?_
      refine lv_ifnonnull (tgt := 67) hx hb dX3_added_48 (by decide) ?_
      refine lv_aload_n hx hb dX3_added_67 rfl (lv_at hl 2 rfl) ?_
      refine lv_iload_n hx hb dX3_added_68 rfl (lv_at hl 3 rfl) ?_
      refine lv_iload_n hx hb dX3_added_69 rfl (lv_at hl 4 rfl) ?_
      refine lv_lload_n hx hb dX3_added_70 rfl (lv_at hl 5 rfl) ?_
      refine lv_lload hx hb dX3_added_71 (lv_at hl 6 rfl) ?_
      have hch0 : qCh h Im X h Im X := qCh.rf
      refine q_callS (rest := []) C (c_X3_adding l D cy N0 e9 Ok m9 N hO he9 hN9 7 (Nat.le_refl _) h Im aR L X k xv hTR hE hN hno) kX3_adding g387 g388 hP hS (by first | decide | omega) hl.1 rfl (by decide) (by first | decide | omega) dX3_added_73 (fun q ce E h' H1 locs1 hE => hE.elim) (fun v hh6 H locs hq hP hS => ?_)
      obtain ⟨a2, X2, Im2, rfl, hr1, hr2, hr3⟩ := hq
      exact q_aret (v := some a2) C (Or.inl ⟨_, rfl⟩) hP hS ⟨some a2, X2, Im2, rfl, Or.inr ⟨a2, rfl, thP_ne, hr1⟩, hr2, hch0.tr hr3⟩ (by omega) dX3_added_76
