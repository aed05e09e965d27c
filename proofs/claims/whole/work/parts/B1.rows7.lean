section QROWS9
variable {p : Program} {l : Launch} {e : Env} {fr lo mc ms : Nat} {s : State} {m : MethodId} {args : Array Value} {below : List Frame} {meth : Method} {c : Code} {H : Heap} {locs : List Loc} {cells slots : Nat} {Q : State → Prop}
variable {own nm : String} {cc : ByteArray} {nL : Nat} {ret : Option FieldType} {D : va_G} {cy : Nat → ClassId} {N0 : Nat} {tb : List ExceptionTableEntry} {h : qH} {pc : Nat} {ls : Array Slot} {rest : List Value}
/-- a row out of an array of rows -/
theorem q_aaldA (C : qX p l s m args meth c own cc nL ret nm D cy N0 tb) (hP : qP D N0 h H) {a n t0 j b : Nat} {f : Nat → Option Nat} (hf : h a = some (.inl (cy t0, n, .inr (.inr (.inr (.inr f)))))) {t : FieldType} (ht : (qT cy)[t0]? = some (cy t0, .array t)) (hj : j < n) (hn : n < 2 ^ 31) (hb0 : f j = some b) (hdg : decode cc pc = .ok (.aaload, 1))
    (kk : W p l e (qR fr lo mc ms) s m args below meth c H locs cells slots Q (F0 m (pc + 1) ls (.ref b :: rest))) : W p l e (qR fr lo mc ms) s m args below meth c H locs cells slots Q (F0 m pc ls (.int (nI j) :: .ref a :: rest)) := by
  obtain ⟨hx, hb, -, -, hown, hts, -, -, -, hE, -⟩ := C
  have hlt : (nI j).toNatClampNeg < n := by rw [nI_clamp (by omega)]; exact hj
  refine W.aald (v := va_rf (f (nI j).toNatClampNeg)) (ty := .array t) hx hb (hP.at hf (hP.arr hf (nI_in hj hn))) ((hE.1.2 t0 _ ht).1 n (fun j => va_rf (f j))) rfl (fun q => by cases q) (by show ¬ (nI j < 0 ∨ (arrV _ _ _).slots.size ≤ _); rw [arrV_size]; exact nI_in hj hn) (by show (arrV _ _ _).slots[_]? = _; rw [arrV_read _ _ hlt]) rfl rfl hdg ?_
  rw [nI_clamp (by omega), hb0]
  exact kk
end QROWS9
