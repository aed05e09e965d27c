section QROWS4
variable {p : Program} {l : Launch} {e : Env} {R : Room} {s : State} {m : MethodId} {args : Array Value} {below : List Frame} {meth : Method} {c : Code} {H : Heap} {locs : List Loc} {cells slots : Nat} {Q : State → Prop}
variable {cc : ByteArray} {pc : Nat} {ls : Array Slot} {rest : List Value}
theorem q_aload_n (hexec : p.tables.exec = Jvm.exec) (hb : c.code = cc) {k : Fin 4} {i : Nat} {r : Option Nat} (hdg : decode cc pc = .ok (.aload_n k, 1)) (hi : (k : Nat) = i) (hl : ls[i]? = some (.val (va_rf r)))
    (kk : W p l e R s m args below meth c H locs cells slots Q (F0 m (pc + 1) ls (va_rf r :: rest))) : W p l e R s m args below meth c H locs cells slots Q (F0 m pc ls rest) := by
  cases r with
  | none => exact lv_aload_nN hexec hb hdg hi hl kk
  | some a => exact lv_aload_n hexec hb hdg hi hl kk
theorem q_aload (hexec : p.tables.exec = Jvm.exec) (hb : c.code = cc) {i : Nat} {r : Option Nat} (hdg : decode cc pc = .ok (.aload i, 2)) (hl : ls[i]? = some (.val (va_rf r)))
    (kk : W p l e R s m args below meth c H locs cells slots Q (F0 m (pc + 2) ls (va_rf r :: rest))) : W p l e R s m args below meth c H locs cells slots Q (F0 m pc ls rest) := by
  cases r with
  | none => exact lv_aloadN hexec hb hdg hl kk
  | some a => exact lv_aload hexec hb hdg hl kk
theorem q_astore_n (hexec : p.tables.exec = Jvm.exec) (hb : c.code = cc) {k : Fin 4} {i nL : Nat} {r : Option Nat} {lv lv' : List (Nat × Value)} (hdg : decode cc pc = .ok (.astore_n k, 1)) (hi : (k : Nat) = i) (h : lv_has ls nL lv) (hn : i < nL) (hl : (i, va_rf r) :: lv.filter (fun q => !(q.1 == i) && !(q.1 + 1 == i && q.2.category == 2)) = lv')
    (kk : ∀ ls' : Array Slot, lv_has ls' nL lv' → W p l e R s m args below meth c H locs cells slots Q (F0 m (pc + 1) ls' rest)) : W p l e R s m args below meth c H locs cells slots Q (F0 m pc ls (va_rf r :: rest)) := by
  cases r with
  | none => exact lv_astore_nN hexec hb hdg hi h hn hl kk
  | some a => exact lv_astore_n hexec hb hdg hi h hn hl kk
theorem q_astore (hexec : p.tables.exec = Jvm.exec) (hb : c.code = cc) {i nL : Nat} {r : Option Nat} {lv lv' : List (Nat × Value)} (hdg : decode cc pc = .ok (.astore i, 2)) (h : lv_has ls nL lv) (hn : i < nL) (hl : (i, va_rf r) :: lv.filter (fun q => !(q.1 == i) && !(q.1 + 1 == i && q.2.category == 2)) = lv')
    (kk : ∀ ls' : Array Slot, lv_has ls' nL lv' → W p l e R s m args below meth c H locs cells slots Q (F0 m (pc + 2) ls' rest)) : W p l e R s m args below meth c H locs cells slots Q (F0 m pc ls (va_rf r :: rest)) := by
  cases r with
  | none => exact lv_astoreN hexec hb hdg h hn hl kk
  | some a => exact lv_astore hexec hb hdg h hn hl kk
theorem q_ifnull (hexec : p.tables.exec = Jvm.exec) (hb : c.code = cc) {r : Option Nat} {off : Int} {tgt : Nat} (hdg : decode cc pc = .ok (.ifnull off, 3)) (ht : (pc : Int) + off = (tgt : Int)) (kn : r = none → W p l e R s m args below meth c H locs cells slots Q (F0 m tgt ls rest)) (ks : ∀ a, r = some a → W p l e R s m args below meth c H locs cells slots Q (F0 m (pc + 3) ls rest)) : W p l e R s m args below meth c H locs cells slots Q (F0 m pc ls (va_rf r :: rest)) := by
  cases r with
  | none => exact lv_ifnullN hexec hb hdg ht (kn rfl)
  | some a => exact lv_ifnull hexec hb hdg (ks a rfl)
theorem q_ifnonnull (hexec : p.tables.exec = Jvm.exec) (hb : c.code = cc) {r : Option Nat} {off : Int} {tgt : Nat} (hdg : decode cc pc = .ok (.ifnonnull off, 3)) (ht : (pc : Int) + off = (tgt : Int)) (kn : r = none → W p l e R s m args below meth c H locs cells slots Q (F0 m (pc + 3) ls rest)) (ks : ∀ a, r = some a → W p l e R s m args below meth c H locs cells slots Q (F0 m tgt ls rest)) : W p l e R s m args below meth c H locs cells slots Q (F0 m pc ls (va_rf r :: rest)) := by
  cases r with
  | none => exact lv_ifnonnullN hexec hb hdg (kn rfl)
  | some a => exact lv_ifnonnull hexec hb hdg ht (ks a rfl)
theorem q_dupr (hexec : p.tables.exec = Jvm.exec) (hb : c.code = cc) {r : Option Nat} (hdg : decode cc pc = .ok (.dup, 1)) (kk : W p l e R s m args below meth c H locs cells slots Q (F0 m (pc + 1) ls (va_rf r :: va_rf r :: rest))) : W p l e R s m args below meth c H locs cells slots Q (F0 m pc ls (va_rf r :: rest)) :=
  lv_dup hexec hb hdg (by cases r <;> rfl) kk
end QROWS4
theorem q_catrf (r : Option Nat) : (va_rf r).category = 1 := by cases r <;> rfl
theorem q_cati (x : Int32) : (Value.int x).category = 1 := rfl
theorem q_catl (x : Int64) : (Value.long x).category = 2 := rfl
theorem q_cata (a : Nat) : (Value.ref a).category = 1 := rfl
theorem q_catn : Value.null.category = 1 := rfl
theorem qle_none {h h1 : qH} {a : Nat} (b : qle h h1) (e : h1 a = none) : h a = none := by
  cases q : h a with
  | none => rfl
  | some o => rw [b a o q] at e; cases e
/-- r is null and t is 0, or r's object of class ci has t in field k -/
def qFi (h : qH) (ci k : Nat) (r : Option Nat) (t : Int32) : Prop := (r = none ∧ t = 0) ∨ ∃ (a : Nat) (fs : List Value), r = some a ∧ h a = some (.inr (ci, fs)) ∧ fs[k]? = some (.int t)
theorem qFi.le {h h' : qH} {ci k : Nat} {r : Option Nat} {t : Int32} (g : qFi h ci k r t) (hl : qle h h') : qFi h' ci k r t := by
  rcases g with g | ⟨a, fs, e, h1, h2⟩
  · exact Or.inl g
  · exact Or.inr ⟨a, fs, e, hl _ _ h1, h2⟩
theorem qFi.setl {h : qH} {ci k : Nat} {r : Option Nat} {t : Int32} (g : qFi h ci k r t) {b : Nat} {x x' : ClassId × vp_A} (hb : h b = some (.inl x)) : qFi (qs h b (.inl x')) ci k r t := by
  rcases g with g | ⟨a, fs, e, h1, h2⟩
  · exact Or.inl g
  · exact Or.inr ⟨a, fs, e, by rw [qs_ne (fun q => by subst q; rw [hb] at h1; cases h1)]; exact h1, h2⟩
theorem qFi.seto {h : qH} {ci k : Nat} {r : Option Nat} {t : Int32} (g : qFi h ci k r t) {b ci2 : Nat} {fs2 : List Value} {o : va_E} (hb : h b = some (.inr (ci2, fs2))) (hc : ci2 ≠ ci) : qFi (qs h b o) ci k r t := by
  rcases g with g | ⟨a, fs, e, h1, h2⟩
  · exact Or.inl g
  · exact Or.inr ⟨a, fs, e, by rw [qs_ne (fun q => by subst q; rw [hb] at h1; cases h1; exact hc rfl)]; exact h1, h2⟩
theorem qFi.nil {h : qH} {ci k : Nat} : qFi h ci k none 0 := Or.inl ⟨rfl, rfl⟩
section QROWS5
variable {p : Program} {l : Launch} {e : Env} {fr lo mc ms : Nat} {s : State} {m : MethodId} {args : Array Value} {below : List Frame} {meth : Method} {c : Code} {H : Heap} {locs : List Loc} {cells slots : Nat} {Q : State → Prop}
variable {own nm : String} {cc : ByteArray} {nL : Nat} {ret : Option FieldType} {D : va_G} {cy : Nat → ClassId} {N0 : Nat} {tb : List ExceptionTableEntry} {h : qH} {pc : Nat} {ls : Array Slot} {rest : List Value}
theorem q_laldN (C : qX p l s m args meth c own cc nL ret nm D cy N0 tb) (hP : qP D N0 h H) {a n j : Nat} {f : Nat → Int64} (hf : h a = some (.inl (cy 1, n, .inr (.inl f)))) (hj : j < n) (hn : n < 2 ^ 31) (hdg : decode cc pc = .ok (.laload, 1))
    (kk : W p l e (qR fr lo mc ms) s m args below meth c H locs cells slots Q (F0 m (pc + 1) ls (.long (f j) :: rest))) : W p l e (qR fr lo mc ms) s m args below meth c H locs cells slots Q (F0 m pc ls (.int (nI j) :: .ref a :: rest)) :=
  q_lald C hP hf (vp_in_nI hj hn) hdg (by rw [nI_clamp (Nat.lt_trans hj hn)]; exact kk)
theorem q_ialdN (C : qX p l s m args meth c own cc nL ret nm D cy N0 tb) (hP : qP D N0 h H) {a n j : Nat} {f : Nat → Int32} (hf : h a = some (.inl (cy 0, n, .inl f))) (hj : j < n) (hn : n < 2 ^ 31) (hdg : decode cc pc = .ok (.iaload, 1))
    (kk : W p l e (qR fr lo mc ms) s m args below meth c H locs cells slots Q (F0 m (pc + 1) ls (.int (f j) :: rest))) : W p l e (qR fr lo mc ms) s m args below meth c H locs cells slots Q (F0 m pc ls (.int (nI j) :: .ref a :: rest)) :=
  q_iald C hP hf (vp_in_nI hj hn) hdg (by rw [nI_clamp (Nat.lt_trans hj hn)]; exact kk)
theorem q_aaldN (C : qX p l s m args meth c own cc nL ret nm D cy N0 tb) (hP : qP D N0 h H) {a n t0 j : Nat} {f : Nat → Option Nat} (hf : h a = some (.inl (cy t0, n, .inr (.inr (.inr (.inr f)))))) {Cn : String} (ht : (qT cy)[t0]? = some (cy t0, .object Cn)) (hj : j < n) (hn : n < 2 ^ 31) (hdg : decode cc pc = .ok (.aaload, 1))
    (kk : W p l e (qR fr lo mc ms) s m args below meth c H locs cells slots Q (F0 m (pc + 1) ls (va_rf (f j) :: rest))) : W p l e (qR fr lo mc ms) s m args below meth c H locs cells slots Q (F0 m pc ls (.int (nI j) :: .ref a :: rest)) :=
  q_aald C hP hf ht (vp_in_nI hj hn) hdg (by rw [nI_clamp (Nat.lt_trans hj hn)]; exact kk)
theorem q_lastN (C : qX p l s m args meth c own cc nL ret nm D cy N0 tb) (hP : qP D N0 h H) (hS : va_S (qA N0) s.heap H locs) {a n j : Nat} {f : Nat → Int64} (hf : h a = some (.inl (cy 1, n, .inr (.inl f)))) {x : Int64} (hj : j < n) (hn : n < 2 ^ 31) (hdg : decode cc pc = .ok (.lastore, 1))
    (kk : ∀ (H1 : Heap) (locs1 : List Loc), qP D N0 (qs h a (.inl (cy 1, n, .inr (.inl (vp_updL f j x))))) H1 → va_S (qA N0) s.heap H1 locs1 → W p l e (qR fr lo mc ms) s m args below meth c H1 locs1 cells slots Q (F0 m (pc + 1) ls rest)) : W p l e (qR fr lo mc ms) s m args below meth c H locs cells slots Q (F0 m pc ls (.long x :: .int (nI j) :: .ref a :: rest)) :=
  q_last C hP hS hf (vp_in_nI hj hn) hdg (by rw [nI_clamp (Nat.lt_trans hj hn)]; exact kk)
theorem q_iastN (C : qX p l s m args meth c own cc nL ret nm D cy N0 tb) (hP : qP D N0 h H) (hS : va_S (qA N0) s.heap H locs) {a n j : Nat} {f : Nat → Int32} (hf : h a = some (.inl (cy 0, n, .inl f))) {x : Int32} (hj : j < n) (hn : n < 2 ^ 31) (hdg : decode cc pc = .ok (.iastore, 1))
    (kk : ∀ (H1 : Heap) (locs1 : List Loc), qP D N0 (qs h a (.inl (cy 0, n, .inl (upd f j x)))) H1 → va_S (qA N0) s.heap H1 locs1 → W p l e (qR fr lo mc ms) s m args below meth c H1 locs1 cells slots Q (F0 m (pc + 1) ls rest)) : W p l e (qR fr lo mc ms) s m args below meth c H locs cells slots Q (F0 m pc ls (.int x :: .int (nI j) :: .ref a :: rest)) :=
  q_iast C hP hS hf (vp_in_nI hj hn) hdg (by rw [nI_clamp (Nat.lt_trans hj hn)]; exact kk)
theorem q_aastN (C : qX p l s m args meth c own cc nL ret nm D cy N0 tb) {t0 ci : Nat} {rc : vw_C} (ht : (qT cy)[t0]? = some (cy t0, .object rc.1)) (hc : vwCl[ci]? = some rc) (hP : qP D N0 h H) (hS : va_S (qA N0) s.heap H locs) {a n v j : Nat} {f : Nat → Option Nat} {vs : List Value} (hf : h a = some (.inl (cy t0, n, .inr (.inr (.inr (.inr f)))))) (hv : h v = some (.inr (ci, vs))) (hj : j < n) (hn : n < 2 ^ 31) (hdg : decode cc pc = .ok (.aastore, 1))
    (kk : ∀ (H1 : Heap) (locs1 : List Loc), qP D N0 (qs h a (.inl (cy t0, n, .inr (.inr (.inr (.inr (va_up f j (some v)))))))) H1 → va_S (qA N0) s.heap H1 locs1 → W p l e (qR fr lo mc ms) s m args below meth c H1 locs1 cells slots Q (F0 m (pc + 1) ls rest)) : W p l e (qR fr lo mc ms) s m args below meth c H locs cells slots Q (F0 m pc ls (.ref v :: .int (nI j) :: .ref a :: rest)) :=
  q_aast C ht hc hP hS hf hv (vp_in_nI hj hn) hdg (by rw [nI_clamp (Nat.lt_trans hj hn)]; exact kk)
end QROWS5
/-- a slot's number -/
def qSl (x : Int32) : Prop := ¬ x < 0 ∧ x ≤ 23
theorem qSl.of {x : Int32} (h : qSl x) : ∃ i : Nat, i < 24 ∧ x = nI i := by
  obtain ⟨j, hj, e⟩ := nI_of2 (M := 23) (n := 23) (by decide) h.1 h.2
  exact ⟨j, by omega, e⟩
theorem qSl.nI {i : Nat} (h : i < 24) : qSl (nI i) := ⟨nI_pos (by omega), (nI_leI (b := 23) (by omega) (by omega)).mpr (by omega)⟩
theorem qs_re {h : qH} {a b : Nat} {o o' p : va_E} (hb : b ≠ a) (e : qs h a o b = some p) : qs h a o' b = some p := by
  rw [qs_ne hb] at e ⊢; exact e
