section QROWS2
variable {p : Program} {l : Launch} {e : Env} {fr lo mc ms : Nat} {s : State} {m : MethodId} {args : Array Value} {below : List Frame} {meth : Method} {c : Code} {H : Heap} {locs : List Loc} {cells slots : Nat} {Q : State → Prop}
variable {own nm : String} {cc : ByteArray} {nL : Nat} {ret : Option FieldType} {D : va_G} {cy : Nat → ClassId} {N0 : Nat} {tb : List ExceptionTableEntry} {h : qH} {pc : Nat} {ls : Array Slot} {rest : List Value}
variable {y : MethodName} {bytes : ByteArray} {maxL fr2 lo2 mc2 ms2 index : Nat} {rt : Option FieldType} {As : List Value} {Post Post2 : Option Value → qH → Prop} {Exc Exc2 : String → qH → Prop} {st0 : List Value}
theorem q_callS (C : qX p l s m args meth c own cc nL ret nm D cy N0 tb) (hM : qC l D cy N0 y bytes maxL rt fr2 lo2 mc2 ms2 As h Post Exc) (hY : qY y bytes maxL rt As.length) (w1 : Cond.methodLink own index y ∈ qG) (w2 : Cond.static y ∈ qG) (hP : qP D N0 h H) (hS : va_S (qA N0) s.heap H locs)
    (hR : fr2 + 1 ≤ fr ∧ 8 + (maxL + 11) + lo2 ≤ lo) (hsz : ls.size = nL) (hst : st0 = As.reverse ++ rest) (hW : (rest.map fun v => v.category).sum ≤ 8) (hf : cells + mc2 ≤ mc ∧ slots + ms2 ≤ ms) (hdg : decode cc pc = .ok (.invokestatic index, 3))
    (kx : ∀ (q : Addr) (ce : Cell) (E : String) (h' : qH) (H1 : Heap) (locs1 : List Loc), Exc E h' → qP D N0 h' H1 → va_S (qA N0) s.heap H1 locs1 → H1[q]? = some ce → ce.vm = .none → s.vm.findClass E = some ce.cls → vx_W p l e (qR fr lo mc ms) s m args below meth c H1 locs1 (cells + mc2) (slots + ms2) Q (F0 m pc ls rest) q)
    (kr : ∀ (v : Option Value) (h' : qH) (H1 : Heap) (locs1 : List Loc), Post v h' → qP D N0 h' H1 → va_S (qA N0) s.heap H1 locs1 → W p l e (qR fr lo mc ms) s m args below meth c H1 locs1 (cells + mc2) (slots + ms2) Q (F0 m (pc + 3) ls (v.toList ++ rest))) :
    W p l e (qR fr lo mc ms) s m args below meth c H locs cells slots Q (F0 m pc ls st0) := by
  obtain ⟨hx, hb, -, hml, hown, hts, -, -, -, hE, hl⟩ := C
  obtain ⟨y1, y2, y3, y4, y5⟩ := hY
  have hT : GoodIn qG (va_wsS own index y (.code y bytes maxL rt :: qG)) := by
    intro w hw
    rcases List.mem_append.mp hw with hw | hw
    · simp only [List.mem_cons, List.not_mem_nil, or_false] at hw
      rcases hw with rfl | rfl | rfl
      · exact q_good _ w1
      · exact q_good _ w2
      · exact q_good _ y1
    · exact q_goodc y2 w hw
  have hp : PreS s H (qPc D cy N0 As h) As := ⟨q_blind, fun U hU hWm => ⟨rfl, hE.moved hWm hS hU, by rw [hU]; exact hP⟩⟩
  exact q_run (h := h) (vx_runS (As := As) (rest := rest) ⟨hx, hb, hml, hown, hts⟩ (hM hl) (va_cwS As.length hts hT rfl rfl rfl ⟨y3, y4, y5⟩ hR) hp rfl rfl hsz hst (by show 2 * 0 + _ ≤ 8; omega) hdg hf) hS kr kx
theorem q_callV (C : qX p l s m args meth c own cc nL ret nm D cy N0 tb) {b ci : Nat} {fs : List Value} {Cn : String} {T : u_T} {N : Nat} (hM : qC l D cy N0 y bytes maxL rt fr2 lo2 mc2 ms2 (.ref b :: As) h Post Exc) (hY : qY y bytes maxL rt As.length) (w1 : Cond.methodLink own index y ∈ qG) (w2 : Cond.instanceMethod y ∈ qG) (hc : vwCl[ci]? = some (Cn, T, N)) (w3 : Cond.selects Cn y y ∈ qG) (w4 : Cond.initialized Cn ∈ qG) (hP : qP D N0 h H) (hS : va_S (qA N0) s.heap H locs) (hb0 : h b = some (.inr (ci, fs)))
    (hR : fr2 + 1 ≤ fr ∧ 8 + (maxL + 11) + lo2 ≤ lo) (hsz : ls.size = nL) (hst : st0 = As.reverse ++ .ref b :: rest) (hW : (rest.map fun v => v.category).sum ≤ 8) (hf : cells + mc2 ≤ mc ∧ slots + ms2 ≤ ms) (hdg : decode cc pc = .ok (.invokevirtual index, 3))
    (kx : ∀ (q : Addr) (ce : Cell) (E : String) (h' : qH) (H1 : Heap) (locs1 : List Loc), Exc E h' → qP D N0 h' H1 → va_S (qA N0) s.heap H1 locs1 → H1[q]? = some ce → ce.vm = .none → s.vm.findClass E = some ce.cls → vx_W p l e (qR fr lo mc ms) s m args below meth c H1 locs1 (cells + mc2) (slots + ms2) Q (F0 m pc ls rest) q)
    (kr : ∀ (v : Option Value) (h' : qH) (H1 : Heap) (locs1 : List Loc), Post v h' → qP D N0 h' H1 → va_S (qA N0) s.heap H1 locs1 → W p l e (qR fr lo mc ms) s m args below meth c H1 locs1 (cells + mc2) (slots + ms2) Q (F0 m (pc + 3) ls (v.toList ++ rest))) :
    W p l e (qR fr lo mc ms) s m args below meth c H locs cells slots Q (F0 m pc ls st0) := by
  obtain ⟨hx, hb, -, hml, hown, hts, -, -, -, hE, hl⟩ := C
  obtain ⟨y1, y2, y3, y4, y5⟩ := hY
  have hT : GoodIn qG (wsV own index Cn y (.code y bytes maxL rt :: qG)) := by
    intro w hw
    rcases List.mem_append.mp hw with hw | hw
    · simp only [List.mem_cons, List.not_mem_nil, or_false] at hw
      rcases hw with rfl | rfl | rfl | rfl
      · exact q_good _ w1
      · exact q_good _ w2
      · exact q_good _ w3
      · exact q_good _ w4
    · exact q_goodc y2 w hw
  have cw : CallW (qR fr lo mc ms) s args own Cn index y bytes maxL rt (.code y bytes maxL rt :: qG) (qR fr2 lo2 mc2 ms2) mc2 ms2 As.length :=
    ⟨callB_of As.length hts (q_goodc y2) rfl rfl rfl (hts _ y1) (hts _ w1) ⟨y3, y4, y5⟩ hR, hts _ w2, hts _ w3⟩
  have hp : PreV s H Cn b (qPc D cy N0 (.ref b :: As) h) As := ⟨q_blind, va_recv hE.1 (hP.one hb0 (hP.obj hb0)) hc (q0 := 0) rfl, fun U hU hWm => ⟨rfl, hE.moved hWm hS hU, by rw [hU]; exact hP⟩⟩
  exact q_run (h := h) (vx_runV (As := As) (rest := rest) ⟨hx, hb, hml, hown, hts⟩ (hM hl) cw hp rfl rfl hsz hst (by show 2 * 0 + _ ≤ 8; omega) hdg hf) hS kr kx
/-- out of the method, uncaught -/
theorem q_out {q : Addr} {ce : Cell} {E : String} (C : qX p l s m args meth c own cc nL ret nm D cy N0 []) (hP : qP D N0 h H) (hS : va_S (qA N0) s.heap H locs) (hce : H[q]? = some ce) (hcv : ce.vm = .none) (hcl : s.vm.findClass E = some ce.cls) (hx : Exc E h) (hc : cells ≤ mc ∧ slots ≤ ms) :
    vx_W p l e (qR fr lo mc ms) s m args below meth c H locs cells slots (vx_MQ below (qQc D N0 Post) (qXc D N0 Exc) args s mc ms (qA N0)) (F0 m pc ls rest) q := by
  obtain ⟨-, -, -, -, -, -, hlk, ht, -, -, -⟩ := C
  exact vx_out (fun x hx => by rw [ht] at hx; cases hx) hlk hce hcv hcl (fun t ht _ => ⟨h, hx, by rw [ht]; exact hP, hS.F ht⟩) hS.2.2 hc.1 hc.2
theorem q_iret (C : qX p l s m args meth c own cc nL (some .int) nm D cy N0 tb) (hP : qP D N0 h H) (hS : va_S (qA N0) s.heap H locs) {v : Int32} (hq : Post (some (.int v)) h) (hc : cells ≤ mc ∧ slots ≤ ms) (hdg : decode cc pc = .ok (.ireturn, 1)) :
    W p l e (qR fr lo mc ms) s m args below meth c H locs cells slots (vx_MQ below (qQc D N0 Post) (qXc D N0 Exc) args s mc ms (qA N0)) (F0 m pc ls [.int v]) := by
  obtain ⟨hx, hb, hr, -, -, -, hlocks, -, -, -, -⟩ := C
  refine vx_ret (W.widen hc.1 hc.2 ?_)
  exact W.iret hx hb hr (fun t ht _ => ⟨_, h, rfl, hq, by rw [ht]; exact hP, hS.F ht⟩) hS.2.2 hdg hlocks
theorem q_zret (C : qX p l s m args meth c own cc nL (some .boolean) nm D cy N0 tb) (hP : qP D N0 h H) (hS : va_S (qA N0) s.heap H locs) {v : Int32} (hv : v = 0 ∨ v = 1) (hq : Post (some (.int v)) h) (hc : cells ≤ mc ∧ slots ≤ ms) (hdg : decode cc pc = .ok (.ireturn, 1)) :
    W p l e (qR fr lo mc ms) s m args below meth c H locs cells slots (vx_MQ below (qQc D N0 Post) (qXc D N0 Exc) args s mc ms (qA N0)) (F0 m pc ls [.int v]) := by
  obtain ⟨hx, hb, hr, -, -, -, hlocks, -, -, -, -⟩ := C
  refine vx_ret (W.widen hc.1 hc.2 ?_)
  exact W.zret hx hb hr (by rcases hv with rfl | rfl <;> rfl) (fun t ht _ => ⟨_, h, rfl, hq, by rw [ht]; exact hP, hS.F ht⟩) hS.2.2 hdg hlocks
theorem q_lret (C : qX p l s m args meth c own cc nL (some .long) nm D cy N0 tb) (hP : qP D N0 h H) (hS : va_S (qA N0) s.heap H locs) {v : Int64} (hq : Post (some (.long v)) h) (hc : cells ≤ mc ∧ slots ≤ ms) (hdg : decode cc pc = .ok (.lreturn, 1)) :
    W p l e (qR fr lo mc ms) s m args below meth c H locs cells slots (vx_MQ below (qQc D N0 Post) (qXc D N0 Exc) args s mc ms (qA N0)) (F0 m pc ls [.long v]) := by
  obtain ⟨hx, hb, hr, -, -, -, hlocks, -, -, -, -⟩ := C
  refine vx_ret (W.widen hc.1 hc.2 ?_)
  exact W.lret hx hb hr (fun t ht _ => ⟨_, h, rfl, hq, by rw [ht]; exact hP, hS.F ht⟩) hS.2.2 hdg hlocks
theorem q_vret (C : qX p l s m args meth c own cc nL none nm D cy N0 tb) (hP : qP D N0 h H) (hS : va_S (qA N0) s.heap H locs) (hq : Post none h) (hc : cells ≤ mc ∧ slots ≤ ms) (hdg : decode cc pc = .ok (.return_, 1)) :
    W p l e (qR fr lo mc ms) s m args below meth c H locs cells slots (vx_MQ below (qQc D N0 Post) (qXc D N0 Exc) args s mc ms (qA N0)) (F0 m pc ls []) := by
  obtain ⟨hx, hb, hr, -, -, -, hlocks, -, -, -, -⟩ := C
  refine vx_ret (W.widen hc.1 hc.2 ?_)
  exact W.vret hx hb hr (fun t ht _ => ⟨_, h, rfl, hq, by rw [ht]; exact hP, hS.F ht⟩) hS.2.2 hdg hlocks
theorem q_aret {rt0 : FieldType} (C : qX p l s m args meth c own cc nL (some rt0) nm D cy N0 tb) (hrt : (∃ n, rt0 = .object n) ∨ ∃ t, rt0 = .array t) (hP : qP D N0 h H) (hS : va_S (qA N0) s.heap H locs) {v : Option Nat} (hq : Post (some (va_rf v)) h) (hc : cells ≤ mc ∧ slots ≤ ms) (hdg : decode cc pc = .ok (.areturn, 1)) :
    W p l e (qR fr lo mc ms) s m args below meth c H locs cells slots (vx_MQ below (qQc D N0 Post) (qXc D N0 Exc) args s mc ms (qA N0)) (F0 m pc ls [va_rf v]) := by
  obtain ⟨hx, hb, hr, -, -, -, hlocks, -, -, -, -⟩ := C
  refine vx_ret (W.widen hc.1 hc.2 ?_)
  exact W.aret hx hb hr hrt (by cases v with | none => exact Or.inl rfl | some a => exact Or.inr ⟨a, rfl⟩) (fun t ht _ => ⟨_, h, rfl, hq, by rw [ht]; exact hP, hS.F ht⟩) hS.2.2 hdg hlocks
theorem q_last (C : qX p l s m args meth c own cc nL ret nm D cy N0 tb) (hP : qP D N0 h H) (hS : va_S (qA N0) s.heap H locs) {a n : Nat} {f : Nat → Int64} (hf : h a = some (.inl (cy 1, n, .inr (.inl f)))) {i : Int32} {x : Int64} (hin : vp_in i n) (hdg : decode cc pc = .ok (.lastore, 1))
    (kk : ∀ (H1 : Heap) (locs1 : List Loc), qP D N0 (qs h a (.inl (cy 1, n, .inr (.inl (vp_updL f i.toNatClampNeg x))))) H1 → va_S (qA N0) s.heap H1 locs1 → W p l e (qR fr lo mc ms) s m args below meth c H1 locs1 cells slots Q (F0 m (pc + 1) ls rest)) : W p l e (qR fr lo mc ms) s m args below meth c H locs cells slots Q (F0 m pc ls (.long x :: .int i :: .ref a :: rest)) := by
  obtain ⟨hx, hb, -, -, hown, hts, -, -, -, hE, -⟩ := C
  have hN := hP.arr hf hin
  have hat := hP.at hf hN
  have hA : ArrOfT s (cy 1) .long := (hE.1.2 1 _ rfl).1
  refine W.last hx hb hat (hA n (fun j => .long (f j))) (fun q => by cases q) (by show ¬ (i < 0 ∨ (arrV _ _ _).slots.size ≤ _); rw [arrV_size]; exact hin) rfl rfl hdg fun H1 e z oq => ?_
  refine kk H1 _ (hP.set hN ?_ oq) (hS.put z oq hN)
  show H1[a]? = some (vp_cell _ _)
  rw [e, vp_cell_l, vp_cell_l, arrV_store]
  congr 2
  funext q
  by_cases hq : q = i.toNatClampNeg
  · subst hq; simp [updV, vp_updL]
  · simp [updV, vp_updL, hq]
theorem q_iast (C : qX p l s m args meth c own cc nL ret nm D cy N0 tb) (hP : qP D N0 h H) (hS : va_S (qA N0) s.heap H locs) {a n : Nat} {f : Nat → Int32} (hf : h a = some (.inl (cy 0, n, .inl f))) {i : Int32} {x : Int32} (hin : vp_in i n) (hdg : decode cc pc = .ok (.iastore, 1))
    (kk : ∀ (H1 : Heap) (locs1 : List Loc), qP D N0 (qs h a (.inl (cy 0, n, .inl (upd f i.toNatClampNeg x)))) H1 → va_S (qA N0) s.heap H1 locs1 → W p l e (qR fr lo mc ms) s m args below meth c H1 locs1 cells slots Q (F0 m (pc + 1) ls rest)) : W p l e (qR fr lo mc ms) s m args below meth c H locs cells slots Q (F0 m pc ls (.int x :: .int i :: .ref a :: rest)) := by
  obtain ⟨hx, hb, -, -, hown, hts, -, -, -, hE, -⟩ := C
  have hN := hP.arr hf hin
  have hat := hP.at hf hN
  have hA : ArrOfT s (cy 0) .int := (hE.1.2 0 _ rfl).1
  refine W.iast hx hb hat (hA n (fun j => .int (f j))) (fun q => by cases q) (by show ¬ (i < 0 ∨ (arrV _ _ _).slots.size ≤ _); rw [arrV_size]; exact hin) rfl rfl hdg fun H1 e z oq => ?_
  refine kk H1 _ (hP.set hN ?_ oq) (hS.put z oq hN)
  show H1[a]? = some (vp_cell _ _)
  rw [e, vp_cell_i, vp_cell_i, arrV_store]
  congr 2
  funext q
  by_cases hq : q = i.toNatClampNeg
  · subst hq; simp [updV, upd]
  · simp [updV, upd, hq]
theorem q_newaJ (C : qX p l s m args meth c own cc nL ret nm D cy N0 tb) (w : Cond.arrayClass .long ∈ qG) (hP : qP D N0 h H) (hS : va_S (qA N0) s.heap H locs) {n : Int32} {N : Nat} (hn : ¬ n < 0) (hN : n.toNatClampNeg = N) (hbytes : N * 8 ≤ 536870912) (hcells : cells + 1 ≤ mc) (hslots : slots + N ≤ ms) (hdg : decode cc pc = .ok (.newarray .long, 2))
    (kk : ∀ (q : Nat) (H1 : Heap), h q = none → qP D N0 (qs h q (.inl (cy 1, N, .inr (.inl (fun _ => 0))))) H1 → va_S (qA N0) s.heap H1 locs → W p l e (qR fr lo mc ms) s m args below meth c H1 locs (cells + 1) (slots + N) Q (F0 m (pc + 2) ls (.ref q :: rest))) : W p l e (qR fr lo mc ms) s m args below meth c H locs cells slots Q (F0 m pc ls (.int n :: rest)) := by
  obtain ⟨hx, hb, -, -, hown, hts, -, -, -, hE, -⟩ := C
  refine va_newaK (atype := .long) hx hb (hts _ w) rfl hdg rfl hn hN hbytes hcells hslots rfl fun H1 cA e1 z1 o1 hA hf => ?_
  have hcA : cA = cy 1 := Option.some.inj (hf.symm.trans (hE.1.2 1 _ rfl).2)
  subst hcA
  have hN0 : N0 ≤ H.size := Nat.le_trans hE.2.1 hS.1
  exact kk H.size H1 (hP.fresh (Nat.le_refl _)) (hP.push rfl hN0 (show H1[H.size]? = some (vp_cell _ _) from by rw [e1]; rfl) o1) ⟨Nat.le_trans hS.1 (by omega), fun x h1 h2 => (o1 x (Nat.lt_of_lt_of_le h1 hS.1)).trans (hS.2.1 x h1 h2), hS.2.2⟩
theorem q_newaI (C : qX p l s m args meth c own cc nL ret nm D cy N0 tb) (w : Cond.arrayClass .int ∈ qG) (hP : qP D N0 h H) (hS : va_S (qA N0) s.heap H locs) {n : Int32} {N : Nat} (hn : ¬ n < 0) (hN : n.toNatClampNeg = N) (hbytes : N * 4 ≤ 536870912) (hcells : cells + 1 ≤ mc) (hslots : slots + N ≤ ms) (hdg : decode cc pc = .ok (.newarray .int, 2))
    (kk : ∀ (q : Nat) (H1 : Heap), h q = none → qP D N0 (qs h q (.inl (cy 0, N, .inl (fun _ => 0)))) H1 → va_S (qA N0) s.heap H1 locs → W p l e (qR fr lo mc ms) s m args below meth c H1 locs (cells + 1) (slots + N) Q (F0 m (pc + 2) ls (.ref q :: rest))) : W p l e (qR fr lo mc ms) s m args below meth c H locs cells slots Q (F0 m pc ls (.int n :: rest)) := by
  obtain ⟨hx, hb, -, -, hown, hts, -, -, -, hE, -⟩ := C
  refine va_newaK (atype := .int) hx hb (hts _ w) rfl hdg rfl hn hN hbytes hcells hslots rfl fun H1 cA e1 z1 o1 hA hf => ?_
  have hcA : cA = cy 0 := Option.some.inj (hf.symm.trans (hE.1.2 0 _ rfl).2)
  subst hcA
  have hN0 : N0 ≤ H.size := Nat.le_trans hE.2.1 hS.1
  exact kk H.size H1 (hP.fresh (Nat.le_refl _)) (hP.push rfl hN0 (show H1[H.size]? = some (vp_cell _ _) from by rw [e1]; rfl) o1) ⟨Nat.le_trans hS.1 (by omega), fun x h1 h2 => (o1 x (Nat.lt_of_lt_of_le h1 hS.1)).trans (hS.2.1 x h1 h2), hS.2.2⟩
theorem q_newq (C : qX p l s m args meth c own cc nL ret nm D cy N0 tb) {Cn : String} {t0 : Nat} (w : Cond.classLink own index Cn ∈ qG) (hO : Cn ∈ qO) (ht : (qT cy)[t0]? = some (cy t0, .object Cn)) (hP : qP D N0 h H) (hS : va_S (qA N0) s.heap H locs) {n : Int32} {N : Nat} (hn : ¬ n < 0) (hN : n.toNatClampNeg = N) (hbytes : N * 4 ≤ 536870912) (hcells : cells + 1 ≤ mc) (hslots : slots + N ≤ ms) (hdg : decode cc pc = .ok (.anewarray index, 3))
    (kk : ∀ (q : Nat) (H1 : Heap), h q = none → qP D N0 (qs h q (.inl (cy t0, N, .inr (.inr (.inr (.inr (fun _ => none))))))) H1 → va_S (qA N0) s.heap H1 locs → W p l e (qR fr lo mc ms) s m args below meth c H1 locs (cells + 1) (slots + N) Q (F0 m (pc + 3) ls (.ref q :: rest))) : W p l e (qR fr lo mc ms) s m args below meth c H locs cells slots Q (F0 m pc ls (.int n :: rest)) := by
  obtain ⟨hx, hb, -, -, hown, hts, -, -, -, hE, -⟩ := C
  subst hN
  refine W.anew hx hb hown (hts _ w) (va_AO.use (hE.2.2.2.2.2.1.2.2.1 _ hO)) rfl hdg rfl hn hbytes hcells hslots fun cA kA comp f1 f2 f3 f4 => ?_
  generalize hH1 : H.push ({ cls := cA, slots := Array.replicate n.toNatClampNeg .null, vm := .none } : Cell) = H1
  have e1 : H1[H.size]? = some (arrV cA n.toNatClampNeg (fun _ => .null)) := by rw [← hH1, Array.getElem?_push_size, ← arrV_new]
  have z1 : H1.size = H.size + 1 := by rw [← hH1, Array.size_push]
  have o1 : ∀ q : Nat, q < H.size → H1[q]? = H[q]? := fun q hq => by rw [← hH1, Array.getElem?_push, if_neg (Nat.ne_of_lt hq)]
  obtain ⟨kA', comp', k1, k2, k3, k4⟩ := (hE.1.2 t0 _ ht).2
  have hcA : cA = cy t0 := Option.some.inj (f1.symm.trans k4)
  subst hcA
  have hN0 : N0 ≤ H.size := Nat.le_trans hE.2.1 hS.1
  exact kk H.size H1 (hP.fresh (Nat.le_refl _)) (hP.push rfl hN0 (show H1[H.size]? = some (vp_cell _ _) from by rw [e1]; rfl) o1) ⟨Nat.le_trans hS.1 (by omega), fun x h1 h2 => (o1 x (Nat.lt_of_lt_of_le h1 hS.1)).trans (hS.2.1 x h1 h2), hS.2.2⟩
theorem q_aast (C : qX p l s m args meth c own cc nL ret nm D cy N0 tb) {t0 ci : Nat} {rc : vw_C} (ht : (qT cy)[t0]? = some (cy t0, .object rc.1)) (hc : vwCl[ci]? = some rc) (hP : qP D N0 h H) (hS : va_S (qA N0) s.heap H locs) {a n v : Nat} {f : Nat → Option Nat} {vs : List Value} (hf : h a = some (.inl (cy t0, n, .inr (.inr (.inr (.inr f)))))) (hv : h v = some (.inr (ci, vs))) {i : Int32} (hin : vp_in i n) (hdg : decode cc pc = .ok (.aastore, 1))
    (kk : ∀ (H1 : Heap) (locs1 : List Loc), qP D N0 (qs h a (.inl (cy t0, n, .inr (.inr (.inr (.inr (va_up f i.toNatClampNeg (some v)))))))) H1 → va_S (qA N0) s.heap H1 locs1 → W p l e (qR fr lo mc ms) s m args below meth c H1 locs1 cells slots Q (F0 m (pc + 1) ls rest)) : W p l e (qR fr lo mc ms) s m args below meth c H locs cells slots Q (F0 m pc ls (.ref v :: .int i :: .ref a :: rest)) := by
  obtain ⟨hx, hb, -, -, hown, hts, -, -, -, hE, -⟩ := C
  have hN := hP.arr hf hin
  have hat := hP.at hf hN
  obtain ⟨r', hr', cellV, g1, g2, g3, -⟩ := hP.at hv (hP.obj hv)
  have hlt : i.toNatClampNeg < n := Nat.not_le.mp fun q => hin (Or.inr q)
  have h0 : ¬ i < 0 := fun q => hin (Or.inl q)
  have hcls := (hE.1.1 ci rc hc).2
  obtain ⟨kA, comp, k1, k2, k3, -⟩ := (hE.1.2 t0 _ ht).2
  have hcomp : comp = D.1 ci := Option.some.inj (k3.symm.trans hcls.1)
  subst hcomp
  obtain ⟨kC, hkC, -⟩ := hcls.2
  refine W.aast hx hb hat (fun q h => by cases h) (fun h => by cases h) k1 k2 rfl hkC ⟨h0, by show _ < (arrV _ _ _).slots.size; rw [arrV_size]; exact hlt⟩ g1 (fun q h => by rw [g3] at h; cases h) (by rw [g2]; exact hkC) (by rw [g2]; exact va_assign hcls) rfl rfl hdg fun H1 e z oq => ?_
  refine kk H1 _ (hP.set hN ?_ oq) (hS.put z oq hN)
  show H1[a]? = some (vp_cell _ _)
  rw [e, vp_cell_q, vp_cell_q, arrV_store]
  congr 2
  funext q
  by_cases hq : q = i.toNatClampNeg
  · subst hq; simp [updV, va_up, va_rf]
  · simp [updV, va_up, hq]
end QROWS2
