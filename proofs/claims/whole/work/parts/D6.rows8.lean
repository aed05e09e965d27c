/-! a row of numbers laid into an array of rows -/
section QROWS10
variable {p : Program} {l : Launch} {e : Env} {fr lo mc ms : Nat} {s : State} {m : MethodId} {args : Array Value} {below : List Frame} {meth : Method} {c : Code} {H : Heap} {locs : List Loc} {cells slots : Nat} {Q : State → Prop}
variable {own nm : String} {cc : ByteArray} {nL : Nat} {ret : Option FieldType} {D : va_G} {cy : Nat → ClassId} {N0 : Nat} {tb : List ExceptionTableEntry} {h : qH} {pc : Nat} {ls : Array Slot} {rest : List Value}
theorem q_aastA (C : qX p l s m args meth c own cc nL ret nm D cy N0 tb) (hP : qP D N0 h H) (hS : va_S (qA N0) s.heap H locs) {a n v j N : Nat} {f : Nat → Option Nat} {g : Nat → Int64} (hf : h a = some (.inl (cy 7, n, .inr (.inr (.inr (.inr f)))))) (hv : h v = some (.inl (cy 1, N, .inr (.inl g)))) (hvN : N0 ≤ v) (hj : j < n) (hn : n < 2 ^ 31) (hdg : decode cc pc = .ok (.aastore, 1))
    (kk : ∀ (H1 : Heap) (locs1 : List Loc), qP D N0 (qs h a (.inl (cy 7, n, .inr (.inr (.inr (.inr (va_up f j (some v)))))))) H1 → va_S (qA N0) s.heap H1 locs1 → W p l e (qR fr lo mc ms) s m args below meth c H1 locs1 cells slots Q (F0 m (pc + 1) ls rest)) : W p l e (qR fr lo mc ms) s m args below meth c H locs cells slots Q (F0 m pc ls (.ref v :: .int (nI j) :: .ref a :: rest)) := by
  obtain ⟨hx, hb, -, -, hown, hts, -, -, -, hE, -⟩ := C
  have hin : vp_in (nI j) n := nI_in hj hn
  have hcl : (nI j).toNatClampNeg = j := nI_clamp (by omega)
  have hN := hP.arr hf hin
  have hat := hP.at hf hN
  have hvt := hP.at hv hvN
  have h0 : ¬ nI j < 0 := fun q => hin (Or.inl q)
  obtain ⟨comp, c9, k9, h1, h2, h3, h4, h5⟩ := arrayOverA_spec (hE.2.2.2.2.2.1.2.2.2.2.2.1 .long (by simp))
  have e7 : c9 = cy 7 := Option.some.inj (h5.symm.trans (hE.1.2 7 _ rfl).2)
  have e1 : comp = cy 1 := Option.some.inj (h1.symm.trans (hE.1.2 1 _ rfl).2)
  subst e7
  subst e1
  obtain ⟨-, k1, hk1, comp1, -⟩ := (hE.1.2 1 _ rfl).1 0 (fun _ => .null)
  have has : s.vm.assignable (cy 1) (cy 1) = true := by
    unfold Vm.assignable Vm.assignableAux
    rw [beq_self_eq_true, Bool.true_or]
  refine W.aast hx hb hat (fun q h => by cases h) (fun h => by cases h) h3 h4 rfl hk1 ⟨h0, by show _ < (arrV _ _ _).slots.size; rw [arrV_size, hcl]; exact hj⟩ hvt (fun q h => by cases h) hk1 has rfl rfl hdg fun H1 e z oq => ?_
  refine kk H1 _ (hP.set hN ?_ oq) (hS.put z oq hN)
  show H1[a]? = some (vp_cell _ _)
  rw [e, vp_cell_q, vp_cell_q, arrV_store, hcl]
  congr 2
  funext q
  by_cases hq : q = j
  · subst hq; simp [updV, va_up, va_rf]
  · simp [updV, va_up, hq]
theorem q_newaJN (C : qX p l s m args meth c own cc nL ret nm D cy N0 tb) (w : Cond.arrayClass .long ∈ qG) (hP : qP D N0 h H) (hS : va_S (qA N0) s.heap H locs) {n : Int32} {N : Nat} (hn : ¬ n < 0) (hN : n.toNatClampNeg = N) (hbytes : N * 8 ≤ 536870912) (hcells : cells + 1 ≤ mc) (hslots : slots + N ≤ ms) (hdg : decode cc pc = .ok (.newarray .long, 2))
    (kk : ∀ (q : Nat) (H1 : Heap), N0 ≤ q → h q = none → qP D N0 (qs h q (.inl (cy 1, N, .inr (.inl (fun _ => 0))))) H1 → va_S (qA N0) s.heap H1 locs → W p l e (qR fr lo mc ms) s m args below meth c H1 locs (cells + 1) (slots + N) Q (F0 m (pc + 2) ls (.ref q :: rest))) : W p l e (qR fr lo mc ms) s m args below meth c H locs cells slots Q (F0 m pc ls (.int n :: rest)) := by
  obtain ⟨hx, hb, -, -, hown, hts, -, -, -, hE, -⟩ := C
  refine va_newaK (atype := .long) hx hb (hts _ w) rfl hdg rfl hn hN hbytes hcells hslots rfl fun H1 cA e1 z1 o1 hA hf => ?_
  have hcA : cA = cy 1 := Option.some.inj (hf.symm.trans (hE.1.2 1 _ rfl).2)
  subst hcA
  have hN0 : N0 ≤ H.size := Nat.le_trans hE.2.1 hS.1
  exact kk H.size H1 hN0 (hP.fresh (Nat.le_refl _)) (hP.push rfl hN0 (show H1[H.size]? = some (vp_cell _ _) from by rw [e1]; rfl) o1) ⟨Nat.le_trans hS.1 (by omega), fun x h1 h2 => (o1 x (Nat.lt_of_lt_of_le h1 hS.1)).trans (hS.2.1 x h1 h2), hS.2.2⟩
end QROWS10
