section QROWS3
variable {p : Program} {l : Launch} {e : Env} {fr lo mc ms : Nat} {s : State} {m : MethodId} {args : Array Value} {below : List Frame} {meth : Method} {c : Code} {H : Heap} {locs : List Loc} {cells slots : Nat} {Q : State → Prop}
variable {own nm : String} {cc : ByteArray} {nL : Nat} {ret : Option FieldType} {D : va_G} {cy : Nat → ClassId} {N0 : Nat} {tb : List ExceptionTableEntry} {h : qH} {pc : Nat} {ls : Array Slot} {rest : List Value}
variable {y : MethodName} {bytes : ByteArray} {maxL fr2 lo2 mc2 ms2 index : Nat} {rt : Option FieldType} {As : List Value} {Post Post2 : Option Value → qH → Prop} {Exc Exc2 : String → qH → Prop} {st0 : List Value}
/-- a contract that throws nothing -/
theorem q_met {av : List Value} (hM : qC l D cy N0 y bytes maxL rt fr2 lo2 mc2 ms2 av h Post (fun _ _ => False)) (hl : l.stackTraces = false) : Met l y (.code y bytes maxL rt :: qG) (qR fr2 lo2 mc2 ms2) (qPc D cy N0 av h) (qQc D N0 Post) mc2 ms2 (qA N0) := by
  intro p e ha hc hk s m args below hf happ hP hK
  obtain ⟨n, o, h1, h2, h3, hq⟩ := hM hl p e ha hc hk s m args below hf happ hP hK
  rcases hq with hq | ⟨q, -, E, ce, L, ⟨h', hx, -⟩, -⟩
  · exact ⟨n, o, h1, h2, h3, hq⟩
  · exact hx.elim
/-- behind a run of a callee that throws nothing -/
theorem q_runM {Q : State → Prop} {a : Array Value} (hr : va_Run p l e (qR fr lo mc ms) s m args below meth c H locs cells slots mc2 ms2 (F0 m pc ls st0) rest (qQc D N0 Post a) (qA N0)) (hS : va_S (qA N0) s.heap H locs)
    (kr : ∀ (v : Option Value) (h' : qH) (H1 : Heap) (locs1 : List Loc), Post v h' → qP D N0 h' H1 → va_S (qA N0) s.heap H1 locs1 → W p l e (qR fr lo mc ms) s m args below meth c H1 locs1 (cells + mc2) (slots + ms2) Q (F0 m (pc + 3) ls (v.toList ++ rest))) :
    W p l e (qR fr lo mc ms) s m args below meth c H locs cells slots Q (F0 m pc ls st0) := by
  intro T hT X
  obtain ⟨v, st₀, t, T', L, h0, X', hL, e1, e2, ⟨v', h', hv, hp, hP', hF⟩, st⟩ := hr T hT X
  cases hv
  have hS' : va_S (qA N0) s.heap T'.heap (locs ++ L) := by
    refine ⟨Nat.le_trans hS.1 (by rw [e1, ← h0]; exact hF.1), fun q h1 h2 => ?_, fun q hq => (List.mem_append.mp hq).elim (hS.2.2 q) (hL q)⟩
    rw [e1, hF.2 q (by rw [h0]; exact Nat.lt_of_lt_of_le h1 hS.1) h2, h0]
    exact hS.2.1 q h1 h2
  obtain ⟨t2, a1, b1⟩ := kr v h' T'.heap (locs ++ L) hp (by rw [e1]; exact hP') hS' T' rfl X'
  exact ⟨t2, st t2 a1, b1⟩
theorem q_callI (C : qX p l s m args meth c own cc nL ret nm D cy N0 tb) {b : Nat} (hM : qC l D cy N0 y bytes maxL none fr2 lo2 mc2 ms2 (.ref b :: As) h Post (fun _ _ => False)) (hY : qY y bytes maxL none As.length) (w1 : Cond.methodLink own index y ∈ qG) (w2 : Cond.instanceMethod y ∈ qG) (hy : y.name = "<init>") (hP : qP D N0 h H) (hS : va_S (qA N0) s.heap H locs)
    (hR : fr2 + 1 ≤ fr ∧ 8 + (maxL + 11) + lo2 ≤ lo) (hsz : ls.size = nL) (hst : st0 = As.reverse ++ .ref b :: rest) (hW : (rest.map fun v => v.category).sum ≤ 8) (hf : cells + mc2 ≤ mc ∧ slots + ms2 ≤ ms) (hdg : decode cc pc = .ok (.invokespecial index, 3))
    (kr : ∀ (v : Option Value) (h' : qH) (H1 : Heap) (locs1 : List Loc), Post v h' → qP D N0 h' H1 → va_S (qA N0) s.heap H1 locs1 → W p l e (qR fr lo mc ms) s m args below meth c H1 locs1 (cells + mc2) (slots + ms2) Q (F0 m (pc + 3) ls (v.toList ++ rest))) :
    W p l e (qR fr lo mc ms) s m args below meth c H locs cells slots Q (F0 m pc ls st0) := by
  obtain ⟨hx, hb, -, hml, hown, hts, -, -, -, hE, hl⟩ := C
  obtain ⟨y1, y2, y3, y4, y5⟩ := hY
  have hp : PreS s H (qPc D cy N0 (.ref b :: As) h) (.ref b :: As) := ⟨q_blind, fun U hU hWm => ⟨rfl, hE.moved hWm hS hU, by rw [hU]; exact hP⟩⟩
  exact q_runM (va_runI (b := b) (As := As) (rest := rest) ⟨hx, hb, hml, hown, hts⟩ (q_met hM hl) ⟨callB_of As.length hts (q_goodc y2) rfl rfl rfl (hts _ y1) (hts _ w1) ⟨y3, y4, y5⟩ hR, hy, hts _ w2⟩ hp rfl rfl hsz hst (by show 2 * 0 + _ ≤ 8; omega) hdg hf) hS kr
theorem q_callIN (C : qX p l s m args meth c own cc nL ret nm D cy N0 tb) {b : Nat} {host : String} (hM : qC l D cy N0 y bytes maxL none fr2 lo2 mc2 ms2 (.ref b :: As) h Post (fun _ _ => False)) (hY : qY y bytes maxL none As.length) (w1 : (own, index, y, host) ∈ qN) (w2 : Cond.instanceMethod y ∈ qG) (hy : y.name = "<init>") (hP : qP D N0 h H) (hS : va_S (qA N0) s.heap H locs)
    (hR : fr2 + 1 ≤ fr ∧ 8 + (maxL + 11) + lo2 ≤ lo) (hsz : ls.size = nL) (hst : st0 = As.reverse ++ .ref b :: rest) (hW : (rest.map fun v => v.category).sum ≤ 8) (hf : cells + mc2 ≤ mc ∧ slots + ms2 ≤ ms) (hdg : decode cc pc = .ok (.invokespecial index, 3))
    (kr : ∀ (v : Option Value) (h' : qH) (H1 : Heap) (locs1 : List Loc), Post v h' → qP D N0 h' H1 → va_S (qA N0) s.heap H1 locs1 → W p l e (qR fr lo mc ms) s m args below meth c H1 locs1 (cells + mc2) (slots + ms2) Q (F0 m (pc + 3) ls (v.toList ++ rest))) :
    W p l e (qR fr lo mc ms) s m args below meth c H locs cells slots Q (F0 m pc ls st0) := by
  obtain ⟨hx, hb, -, hml, hown, hts, -, -, -, hE, hl⟩ := C
  obtain ⟨y1, y2, y3, y4, y5⟩ := hY
  have hp : PreS s H (qPc D cy N0 (.ref b :: As) h) (.ref b :: As) := ⟨q_blind, fun U hU hWm => ⟨rfl, hE.moved hWm hS hU, by rw [hU]; exact hP⟩⟩
  exact q_runM (va_runIN (b := b) (As := As) (rest := rest) ⟨hx, hb, hml, hown, hts⟩ (q_met hM hl) ⟨va_cnB As.length hts (q_goodc y2) rfl rfl rfl (hE.2.2.2.2.2.1.2.1 _ w1) (hts _ y1) ⟨y3, y4, y5⟩ hR, hy, hts _ w2⟩ hp rfl rfl hsz hst (by show 2 * 0 + _ ≤ 8; omega) hdg hf) hS kr
theorem q_callVN (C : qX p l s m args meth c own cc nL ret nm D cy N0 tb) {b ci : Nat} {fs : List Value} {Cn host : String} {T : u_T} {N : Nat} (hM : qC l D cy N0 y bytes maxL rt fr2 lo2 mc2 ms2 (.ref b :: As) h Post (fun _ _ => False)) (hY : qY y bytes maxL rt As.length) (w1 : (own, index, y, host) ∈ qN) (w2 : Cond.instanceMethod y ∈ qG) (hc : vwCl[ci]? = some (Cn, T, N)) (w3 : Cond.selects Cn y y ∈ qG) (hP : qP D N0 h H) (hS : va_S (qA N0) s.heap H locs) (hb0 : h b = some (.inr (ci, fs)))
    (hR : fr2 + 1 ≤ fr ∧ 8 + (maxL + 11) + lo2 ≤ lo) (hsz : ls.size = nL) (hst : st0 = As.reverse ++ .ref b :: rest) (hW : (rest.map fun v => v.category).sum ≤ 8) (hf : cells + mc2 ≤ mc ∧ slots + ms2 ≤ ms) (hdg : decode cc pc = .ok (.invokevirtual index, 3))
    (kr : ∀ (v : Option Value) (h' : qH) (H1 : Heap) (locs1 : List Loc), Post v h' → qP D N0 h' H1 → va_S (qA N0) s.heap H1 locs1 → W p l e (qR fr lo mc ms) s m args below meth c H1 locs1 (cells + mc2) (slots + ms2) Q (F0 m (pc + 3) ls (v.toList ++ rest))) :
    W p l e (qR fr lo mc ms) s m args below meth c H locs cells slots Q (F0 m pc ls st0) := by
  obtain ⟨hx, hb, -, hml, hown, hts, -, -, -, hE, hl⟩ := C
  obtain ⟨y1, y2, y3, y4, y5⟩ := hY
  have hp : PreV s H Cn b (qPc D cy N0 (.ref b :: As) h) As := ⟨q_blind, va_recv hE.1 (hP.one hb0 (hP.obj hb0)) hc (q0 := 0) rfl, fun U hU hWm => ⟨rfl, hE.moved hWm hS hU, by rw [hU]; exact hP⟩⟩
  exact q_runM (va_runVN (b := b) (As := As) (rest := rest) ⟨hx, hb, hml, hown, hts⟩ (q_met hM hl) ⟨va_cnB As.length hts (q_goodc y2) rfl rfl rfl (hE.2.2.2.2.2.1.2.1 _ w1) (hts _ y1) ⟨y3, y4, y5⟩ hR, hts _ w2, hts _ w3⟩ hp rfl rfl hsz hst (by show 2 * 0 + _ ≤ 8; omega) hdg hf) hS kr
theorem q_callSN (C : qX p l s m args meth c own cc nL ret nm D cy N0 tb) {host : String} (hM : qC l D cy N0 y bytes maxL rt fr2 lo2 mc2 ms2 As h Post (fun _ _ => False)) (hY : qY y bytes maxL rt As.length) (w1 : (own, index, y, host) ∈ qN) (w2 : Cond.static y ∈ qG) (hP : qP D N0 h H) (hS : va_S (qA N0) s.heap H locs)
    (hR : fr2 + 1 ≤ fr ∧ 8 + (maxL + 11) + lo2 ≤ lo) (hsz : ls.size = nL) (hst : st0 = As.reverse ++ rest) (hW : (rest.map fun v => v.category).sum ≤ 8) (hf : cells + mc2 ≤ mc ∧ slots + ms2 ≤ ms) (hdg : decode cc pc = .ok (.invokestatic index, 3))
    (kr : ∀ (v : Option Value) (h' : qH) (H1 : Heap) (locs1 : List Loc), Post v h' → qP D N0 h' H1 → va_S (qA N0) s.heap H1 locs1 → W p l e (qR fr lo mc ms) s m args below meth c H1 locs1 (cells + mc2) (slots + ms2) Q (F0 m (pc + 3) ls (v.toList ++ rest))) :
    W p l e (qR fr lo mc ms) s m args below meth c H locs cells slots Q (F0 m pc ls st0) := by
  obtain ⟨hx, hb, -, hml, hown, hts, -, -, -, hE, hl⟩ := C
  obtain ⟨y1, y2, y3, y4, y5⟩ := hY
  have hp : PreS s H (qPc D cy N0 As h) As := ⟨q_blind, fun U hU hWm => ⟨rfl, hE.moved hWm hS hU, by rw [hU]; exact hP⟩⟩
  exact q_runM (va_runSN (As := As) (rest := rest) ⟨hx, hb, hml, hown, hts⟩ (q_met hM hl) ⟨va_cnB As.length hts (q_goodc y2) rfl rfl rfl (hE.2.2.2.2.2.1.2.1 _ w1) (hts _ y1) ⟨y3, y4, y5⟩ hR, hts _ w2, trivial⟩ hp rfl rfl hsz hst (by show 2 * 0 + _ ≤ 8; omega) hdg hf) hS kr
/-- Object.<init> -/
theorem q_obj (C : qX p l s m args meth c own cc nL ret nm D cy N0 tb) (w1 : Cond.methodLink own index Lib.objectInit ∈ qG) (w2 : Cond.instanceMethod Lib.objectInit ∈ qG) (w3 : Cond.code Lib.objectInit object_method_1_code 1 none ∈ qG) (hsz : ls.size = nL) {a : Nat} (hdg : decode cc pc = .ok (.invokespecial index, 3)) (hR : 1 ≤ fr ∧ (rest.map fun v => v.category).sum + 12 ≤ lo)
    (kk : W p l e (qR fr lo mc ms) s m args below meth c H locs cells slots Q (F0 m (pc + 3) ls rest)) : W p l e (qR fr lo mc ms) s m args below meth c H locs cells slots Q (F0 m pc ls (.ref a :: rest)) := by
  obtain ⟨hx, hb, -, hml, hown, hts, -, -, -, hE, hl⟩ := C
  exact W.objInit hx hb hown (hts _ w1) (hts _ w2) (hts _ w3) rfl (hsz.trans hml.symm) rfl hdg hR.1 (by show 2 * 0 + _ + 12 ≤ lo; have := hR.2; omega) kk
/-- the words of a throw of E by the class RX6 -/
def qThr (E : String) (ik ic : Nat) : Prop := Bundle.fit E = true ∧ Cond.classLink RX6 ik E ∈ qG ∧ Cond.initialized E ∈ qG ∧ (∀ w ∈ (vx_atS RX6 ic E ["java/lang/RuntimeException", "java/lang/Exception"]).filter goodWord, w ∈ qG) ∧ (∀ w ∈ (vx_atS RX6 ic E ["java/lang/RuntimeException", "java/lang/Exception"]).filter (fun w => !goodWord w), w ∈ Cond.castable E E :: qDec.map Cond.declares) ∧ E ∈ qCast ∧ (∀ w ∈ Cond.classLink RX6 ik E :: Cond.initialized E :: vx_atS RX6 ic E ["java/lang/RuntimeException", "java/lang/Exception"], vx_ot w = true)
theorem q_throw {E text : String} {ik is ic : Nat} (C : qX p l s m args meth c RX6 cc nL ret nm D cy N0 []) (hT : qThr E ik ic) (hs : (is, text) ∈ qStr) (hP : qP D N0 h H) (hS : va_S (qA N0) s.heap H locs) (hsz : ls.size = nL)
    (d0 : decode cc pc = .ok (.new ik, 3)) (d3 : decode cc (pc + 3) = .ok (.dup, 1)) (d4 : decode cc (pc + 4) = .ok (.ldc_w is, 3)) (d7 : decode cc (pc + 7) = .ok (.invokespecial ic, 3)) (d10 : decode cc (pc + 10) = .ok (.athrow, 1))
    (hR : 6 ≤ fr ∧ (rest.map fun v => v.category).sum + 82 ≤ lo) (hc : cells + 1 ≤ mc ∧ slots + 6 ≤ ms) (hx : Exc E h) :
    W p l e (qR fr lo mc ms) s m args below meth c H locs cells slots (vx_MQ below (qQc D N0 Post) (qXc D N0 Exc) args s mc ms (qA N0)) (F0 m pc ls rest) := by
  obtain ⟨hex, hb, -, hml, hown, hts, hlk, htb, -, hE, hl⟩ := C
  obtain ⟨t1, t2, t3, t4, t5, t6, t7⟩ := hT
  obtain ⟨sa, hstr⟩ := hE.2.2.2.2.1 _ hs
  have hat : ∀ w ∈ vx_atS RX6 ic E ["java/lang/RuntimeException", "java/lang/Exception"], w.before args s = true :=
    vx_hat (fun w hw => hts w (t4 w hw)) t5 (vx_c (va_Nw.use rfl (hE.2.2.2.2.2.1.2.2.2.1 _ t6)) (fun w hw => by
      obtain ⟨q, hq, rfl⟩ := List.mem_map.mp hw
      exact va_Nw.use rfl (hE.2.2.2.2.2.1.2.2.2.2.1 _ hq)))
  exact vx_throwSW hex hb hl (sa := sa) (names := ["java/lang/RuntimeException", "java/lang/Exception"]) (A := qA N0) hown t1 (by decide +kernel) (hts _ t2) (hts _ t3) hstr hat t7 hE.2.2.1 hE.2.2.2.1 hS (hsz.trans hml.symm) d0 d3 d4 d7 d10 (fun x hx => by rw [htb] at hx; cases hx) (by show 2 + 3 < fr; omega)
    (by show _ + (13 * 3 + 43) ≤ lo; omega) hc.1 hc.2 hlk (fun t _ hz hk => ⟨h, hx, hP.kept hk, Nat.le_trans hS.1 hz, fun q h1 h2 => (hk q (Nat.lt_of_lt_of_le h1 hS.1)).trans (hS.2.1 q h1 h2)⟩) hS.2.2 hc.1 hc.2
end QROWS3
