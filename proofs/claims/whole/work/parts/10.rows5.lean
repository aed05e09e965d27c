section QROWS6
variable {p : Program} {l : Launch} {e : Env} {fr lo mc ms : Nat} {s : State} {m : MethodId} {args : Array Value} {below : List Frame} {meth : Method} {c : Code} {H : Heap} {locs : List Loc} {cells slots : Nat} {Q : State → Prop}
variable {own nm : String} {cc : ByteArray} {nL : Nat} {ret : Option FieldType} {D : va_G} {cy : Nat → ClassId} {N0 : Nat} {tb : List ExceptionTableEntry} {h : qH} {pc index : Nat} {ls : Array Slot} {rest : List Value}
theorem q_newqA (C : qX p l s m args meth c own cc nL ret nm D cy N0 tb) {t : FieldType} {t0 : Nat} (w : Cond.classLink own index (FieldType.array t).toString ∈ qG) (hO : t ∈ [FieldType.int, FieldType.long]) (ht : (qT cy)[t0]? = some (cy t0, .array t)) (hra : ∀ U : State, va_RA U (cy t0) (.array t) → U.vm.findClass ("[" ++ (FieldType.array t).toString) = some (cy t0)) (hP : qP D N0 h H) (hS : va_S (qA N0) s.heap H locs) {n : Int32} {N : Nat} (hn : ¬ n < 0) (hN : n.toNatClampNeg = N) (hbytes : N * 4 ≤ 536870912) (hcells : cells + 1 ≤ mc) (hslots : slots + N ≤ ms) (hdg : decode cc pc = .ok (.anewarray index, 3))
    (kk : ∀ (q : Nat) (H1 : Heap), h q = none → qP D N0 (qs h q (.inl (cy t0, N, .inr (.inr (.inr (.inr (fun _ => none))))))) H1 → va_S (qA N0) s.heap H1 locs → W p l e (qR fr lo mc ms) s m args below meth c H1 locs (cells + 1) (slots + N) Q (F0 m (pc + 3) ls (.ref q :: rest))) : W p l e (qR fr lo mc ms) s m args below meth c H locs cells slots Q (F0 m pc ls (.int n :: rest)) := by
  obtain ⟨hx, hb, -, -, hown, hts, -, -, -, hE, -⟩ := C
  subst hN
  refine W.anewA hx hb hown (hts _ w) (hE.2.2.2.2.2.1.2.2.2.2.2.1 _ hO) rfl hdg rfl hn hbytes hcells hslots fun cA kA comp f1 f2 f3 f4 => ?_
  generalize hH1 : H.push ({ cls := cA, slots := Array.replicate n.toNatClampNeg .null, vm := .none } : Cell) = H1
  have e1 : H1[H.size]? = some (arrV cA n.toNatClampNeg (fun _ => .null)) := by rw [← hH1, Array.getElem?_push_size, ← arrV_new]
  have z1 : H1.size = H.size + 1 := by rw [← hH1, Array.size_push]
  have o1 : ∀ q : Nat, q < H.size → H1[q]? = H[q]? := fun q hq => by rw [← hH1, Array.getElem?_push, if_neg (Nat.ne_of_lt hq)]
  have hcA : cA = cy t0 := Option.some.inj (f1.symm.trans (hra s (hE.1.2 t0 _ ht).2))
  subst hcA
  have hN0 : N0 ≤ H.size := Nat.le_trans hE.2.1 hS.1
  exact kk H.size H1 (hP.fresh (Nat.le_refl _)) (hP.push rfl hN0 (show H1[H.size]? = some (vp_cell _ _) from by rw [e1]; rfl) o1) ⟨Nat.le_trans hS.1 (by omega), fun x h1 h2 => (o1 x (Nat.lt_of_lt_of_le h1 hS.1)).trans (hS.2.1 x h1 h2), hS.2.2⟩
/-- new int[N][K]: the outer row q, the inner ones behind it -/
def qgrid (cy : Nat → ClassId) (h : qH) (q N K : Nat) : qH := fun b => if b = q then some (.inl (cy 6, N, .inr (.inr (.inr (.inr (fun i => if i < N then some (q + 1 + i) else none)))))) else if q < b ∧ b ≤ q + N then some (.inl (cy 0, K, .inl (fun _ => 0))) else h b
theorem q_outer (c : ClassId) (N h0 : Nat) : ∀ i : Nat, Jvm.Free.Multi.outerC c N h0 i = arrV c N (fun j => va_rf (if j < i then some (h0 + 1 + j) else none))
  | 0 => by
    show ({ cls := c, slots := Array.replicate N .null, vm := .none } : Cell) = _
    rw [arrV_new]
    refine congrArg (arrV c N) (funext fun j => ?_)
    simp [va_rf]
  | i + 1 => by
    show (Jvm.Free.Multi.outerC c N h0 i).setSlot i (.ref (h0 + 1 + i)) = _
    rw [q_outer c N h0 i, arrV_store]
    refine congrArg (arrV c N) (funext fun j => ?_)
    by_cases e : j = i
    · subst e
      simp [updV, va_rf]
    · by_cases h : j < i
      · simp [updV, e, h, Nat.lt_succ_of_lt h]
      · simp [updV, e, h, show ¬ j < i + 1 by omega]
theorem q_mna (C : qX p l s m args meth c own cc nL ret nm D cy N0 tb) (w : Cond.classLink own index "[[I" ∈ qG) (w2 : Cond.arrayClass .int ∈ qG) (hP : qP D N0 h H) (hS : va_S (qA N0) s.heap H locs) {n k : Int32} {N K : Nat} (hn : ¬ n < 0) (hk : ¬ k < 0) (hN : n.toNatClampNeg = N) (hK : k.toNatClampNeg = K) (hb1 : N * 4 ≤ 536870912) (hb2 : K * 4 ≤ 536870912) (hcells : cells + (1 + N) ≤ mc) (hslots : slots + (N + N * K) ≤ ms) (hdg : decode cc pc = .ok (.multianewarray index 2, 4))
    (kk : ∀ (q : Nat) (H1 : Heap), (∀ b, q ≤ b → h b = none) → qP D N0 (qgrid cy h q N K) H1 → va_S (qA N0) s.heap H1 locs → W p l e (qR fr lo mc ms) s m args below meth c H1 locs (cells + 1 + N) (slots + N + N * K) Q (F0 m (pc + 4) ls (.ref q :: rest))) : W p l e (qR fr lo mc ms) s m args below meth c H locs cells slots Q (F0 m pc ls (.int k :: .int n :: rest)) := by
  obtain ⟨hx, hb, -, -, hown, hts, -, -, -, hE, -⟩ := C
  subst hN
  subst hK
  intro T hT Xs
  obtain ⟨vm₁, cA, comp, -, fA, fC, hO, -, X', step⟩ := Stand.multianewarray2F Xs hx (ty := .int) hown (hts _ w) (hE.2.2.2.2.2.1.2.2.2.2.2.1 _ (by simp)) (hts _ w2) (g := F0 m pc ls (.int k :: .int n :: rest)) rfl (by rw [hb]; exact hdg) rfl hn hk hb1 hb2 (by omega) rfl rfl hcells hslots
  have e6 : cA = cy 6 := Option.some.inj (fA.symm.trans (hE.1.2 6 _ rfl).2)
  have e0 : comp = cy 0 := Option.some.inj (fC.symm.trans (hE.1.2 0 _ rfl).2)
  subst e6
  subst e0
  generalize hF : Jvm.Free.Multi.fill (T.setVm vm₁) (cy 6) (cy 0) n.toNatClampNeg k.toNatClampNeg (defaultValue .int) n.toNatClampNeg = F at X' step
  have hTh : (T.setVm vm₁).heap = H := hT
  obtain ⟨f1, f2, -, -⟩ := Jvm.Free.Multi.fill_facts (T.setVm vm₁) (cy 6) (cy 0) n.toNatClampNeg k.toNatClampNeg (defaultValue .int) n.toNatClampNeg
  rw [hF, hTh] at f1 f2
  have hold : ∀ x : Nat, x < H.size → F.heap[x]? = H[x]? := fun x hx => by
    have := Jvm.Free.Multi.fill_old (T.setVm vm₁) (cy 6) (cy 0) n.toNatClampNeg k.toNatClampNeg (defaultValue .int) (a := x) (by rw [hTh]; exact hx) n.toNatClampNeg
    rw [hF, hTh] at this
    exact this
  have hrow : ∀ j : Nat, j < n.toNatClampNeg → F.heap[H.size + 1 + j]? = some (vp_cell (cy 0) (k.toNatClampNeg, .inl (fun _ => 0))) := fun j hj => by
    have := Jvm.Free.Multi.fill_inner (T.setVm vm₁) (cy 6) (cy 0) n.toNatClampNeg k.toNatClampNeg (defaultValue .int) n.toNatClampNeg j hj
    rw [hF, hTh] at this
    rw [this, vp_cell_i, ← arrV_new]
    rfl
  have hN0 : N0 ≤ H.size := Nat.le_trans hE.2.1 hS.1
  have hP1 : qP D N0 (qgrid cy h H.size n.toNatClampNeg k.toNatClampNeg) F.heap := fun b o hbo => by
    unfold qgrid at hbo
    split at hbo
    · rename_i e9
      subst e9
      cases hbo
      refine Or.inl ⟨hN0, ?_⟩
      show F.heap[H.size]? = some (vp_cell _ _)
      rw [f2, vp_cell_q, q_outer]
    · split at hbo
      · rename_i e8 e9
        cases hbo
        refine Or.inl ⟨by omega, ?_⟩
        have := hrow (b - (H.size + 1)) (by omega)
        rw [show H.size + 1 + (b - (H.size + 1)) = b by omega] at this
        exact this
      · exact (hP b o hbo).imp (fun z => ⟨z.1, z.2.kept (hold b (hP.lt hbo))⟩) (fun z => z.kept (hold b (hP.lt hbo)))
  have hS1 : va_S (qA N0) s.heap F.heap locs := ⟨Nat.le_trans hS.1 (by omega), fun x h1 h2 => (hold x (Nat.lt_of_lt_of_le h1 hS.1)).trans (hS.2.1 x h1 h2), hS.2.2⟩
  obtain ⟨t, a1, b1⟩ := kk H.size F.heap (fun b hb => hP.fresh hb) hP1 hS1 F rfl X'
  refine ⟨t, step t ?_, b1⟩
  rw [show T.heap.size = H.size by rw [hT]]
  exact a1
end QROWS6
