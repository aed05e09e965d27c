/-! my own layer: an abstract heap (address to thing), held by the machine's heap; contracts over it -/
abbrev qH : Type := Nat → Option va_E
def qs (h : qH) (a : Nat) (o : va_E) : qH := fun b => if b = a then some o else h b
theorem qs_self {h : qH} {a : Nat} {o : va_E} : qs h a o a = some o := if_pos rfl
theorem qs_ne {h : qH} {a b : Nat} {o : va_E} (hb : b ≠ a) : qs h a o b = h b := if_neg hb
theorem qs_qs {h : qH} {a : Nat} {o o' : va_E} : qs (qs h a o) a o' = qs h a o' := by
  funext b
  by_cases e : b = a
  · subst e; rw [qs_self, qs_self]
  · rw [qs_ne e, qs_ne e, qs_ne e]
/-- what was there is there still -/
def qle (h h' : qH) : Prop := ∀ a o, h a = some o → h' a = some o
theorem qle_rf {h : qH} : qle h h := fun _ _ e => e
theorem qle_tr {h h1 h2 : qH} (a : qle h h1) (b : qle h1 h2) : qle h h2 := fun x o e => b x o (a x o e)
theorem qle_new {h : qH} {a : Nat} {o : va_E} (e : h a = none) : qle h (qs h a o) := fun x p hx => by
  rw [qs_ne (fun q => by subst q; rw [e] at hx; cases hx)]; exact hx
/-- a thing made since h, and set -/
theorem qle_set {h h1 : qH} {a : Nat} {o : va_E} (e : h a = none) (b : qle h h1) : qle h (qs h1 a o) := fun x p hx => by
  rw [qs_ne (fun q => by subst q; rw [e] at hx; cases hx)]; exact b x p hx
theorem qne_of {h : qH} {a b : Nat} {o : va_E} (e : h a = none) (hb : h b = some o) : b ≠ a := fun q => by subst q; rw [e] at hb; cases hb
/-- an empty array that was there before: of its cell only this is known -/
def qEm (D : va_G) (N0 : Nat) (a : Nat) (o : va_E) (H : Heap) : Prop := a < N0 ∧ (∃ (c : ClassId) (f : (Nat → Int32) ⊕ (Nat → Int64) ⊕ (Nat → UInt32) ⊕ (Nat → UInt64) ⊕ (Nat → Option Nat)), o = .inl (c, 0, f)) ∧ ∃ ce : Cell, H[a]? = some ce ∧ ce.cls = D.1 98 ∧ ce.slots.size = 0 ∧ ce.vm ≠ .unknown ∧ ∀ k, ce.vm ≠ .statics k
/-- the machine's heap holds h; what may be written was made in this run (an empty array needn't be) -/
def qP (D : va_G) (N0 : Nat) (h : qH) (H : Heap) : Prop := ∀ (a : Nat) (o : va_E), h a = some o → (N0 ≤ a ∧ va_at D vwCl (a, o) H) ∨ qEm D N0 a o H
theorem qP.obj {D : va_G} {N0 : Nat} {h : qH} {H : Heap} (hP : qP D N0 h H) {a : Nat} {x : Nat × List Value} (e : h a = some (.inr x)) : N0 ≤ a := by
  rcases hP a _ e with ⟨q, -⟩ | ⟨-, ⟨c, f, q⟩, -⟩
  · exact q
  · cases q
theorem qP.arr {D : va_G} {N0 : Nat} {h : qH} {H : Heap} (hP : qP D N0 h H) {a n : Nat} {c : ClassId} {f : (Nat → Int32) ⊕ (Nat → Int64) ⊕ (Nat → UInt32) ⊕ (Nat → UInt64) ⊕ (Nat → Option Nat)} (e : h a = some (.inl (c, n, f))) {i : Int32} (hin : vp_in i n) : N0 ≤ a := by
  rcases hP a _ e with ⟨q, -⟩ | ⟨-, ⟨c, f, q⟩, -⟩
  · exact q
  · cases q; exact absurd (Or.inr (Nat.zero_le _)) hin
theorem qP.arr0 {D : va_G} {N0 : Nat} {h : qH} {H : Heap} (hP : qP D N0 h H) {a : Nat} {c : ClassId} {x : vp_A} (e : h a = some (.inl (c, x))) (hn : x.1 ≠ 0) : N0 ≤ a := by
  rcases hP a _ e with ⟨q, -⟩ | ⟨-, ⟨c, f, q⟩, -⟩
  · exact q
  · cases q; exact absurd rfl hn
theorem qP.at {D : va_G} {N0 : Nat} {h : qH} {H : Heap} (hP : qP D N0 h H) {a : Nat} {o : va_E} (e : h a = some o) (hN : N0 ≤ a) : va_at D vwCl (a, o) H := (hP a o e).elim And.right (fun q => absurd hN (Nat.not_le.mpr q.1))
theorem qEm.kept {D : va_G} {N0 a : Nat} {o : va_E} {H H' : Heap} (q : qEm D N0 a o H) (k : H'[a]? = H[a]?) : qEm D N0 a o H' := by
  obtain ⟨q1, q2, ce, q3, q4⟩ := q
  exact ⟨q1, q2, ce, k.trans q3, q4⟩
def qA (N0 : Nat) : Nat → Prop := fun q => N0 ≤ q
theorem qP.lt {D : va_G} {N0 : Nat} {h : qH} {H : Heap} (hP : qP D N0 h H) {a : Nat} {o : va_E} (e : h a = some o) : a < H.size := (hP a o e).elim (fun q => q.2.lt) (fun ⟨_, _, ce, q, _⟩ => (Array.getElem?_eq_some_iff.mp q).1)
theorem qP.one {D : va_G} {N0 : Nat} {h : qH} {H : Heap} (hP : qP D N0 h H) {a : Nat} {o : va_E} (e : h a = some o) (hN : N0 ≤ a) : va_P D vwCl [(a, o)] H := fun k q hq => by
  have hz : k < 1 := (List.getElem?_eq_some_iff.mp hq).1
  rw [show k = 0 by omega] at hq
  cases hq
  exact hP.at e hN
theorem qP.fresh {D : va_G} {N0 : Nat} {h : qH} {H : Heap} (hP : qP D N0 h H) {a : Nat} (ha : H.size ≤ a) : h a = none := by
  cases e : h a with
  | none => rfl
  | some o => exact absurd (hP.lt e) (Nat.not_lt.mpr ha)
/-- one cell has changed -/
theorem qP.set {D : va_G} {N0 : Nat} {h : qH} {H H' : Heap} (hP : qP D N0 h H) {a : Nat} {o : va_E} (hN : N0 ≤ a) (e : va_at D vwCl (a, o) H') (k : ∀ q, q ≠ a → H'[q]? = H[q]?) : qP D N0 (qs h a o) H' := fun b p hb => by
  by_cases q : b = a
  · subst q; rw [qs_self] at hb; cases hb; exact Or.inl ⟨hN, e⟩
  · rw [qs_ne q] at hb
    exact (hP b p hb).imp (fun z => ⟨z.1, z.2.kept (k b q)⟩) (fun z => z.kept (k b q))
/-- a cell has come -/
theorem qP.push {D : va_G} {N0 : Nat} {h : qH} {H H' : Heap} (hP : qP D N0 h H) {a : Nat} {o : va_E} (ha : H.size = a) (hN : N0 ≤ a) (e : va_at D vwCl (a, o) H') (k : ∀ q, q < a → H'[q]? = H[q]?) : qP D N0 (qs h a o) H' := fun b p hb => by
  by_cases q : b = a
  · subst q; rw [qs_self] at hb; cases hb; exact Or.inl ⟨hN, e⟩
  · rw [qs_ne q] at hb
    have kb := k b (by have := hP.lt hb; omega)
    exact (hP b p hb).imp (fun z => ⟨z.1, z.2.kept kb⟩) (fun z => z.kept kb)
theorem qP.kept {D : va_G} {N0 : Nat} {h : qH} {H H' : Heap} (hP : qP D N0 h H) (k : ∀ q, q < H.size → H'[q]? = H[q]?) : qP D N0 h H' := fun b p hb => (hP b p hb).imp (fun z => ⟨z.1, z.2.kept (k b (hP.lt hb))⟩) (fun z => z.kept (k b (hP.lt hb)))
/-- the arrays' classes -/
def qT (cy : Nat → ClassId) : List (ClassId × FieldType) := [(cy 0, .int), (cy 1, .long), (cy 2, .object RX1), (cy 3, .object RX2), (cy 4, .object RX3), (cy 5, .object RX7), (cy 6, .array .int), (cy 7, .array .long)]
/-- the texts -/
def qStr : List (Nat × String) := [(375, "a number is out of range"), (400, "the slot holds none of this kind"), (391, "more elements than a collection may have"), (394, "more keys of one hash than there may be"), (383, "there is none"), (398, "more moves than there may be"), (484, "division by 0"), (396, "deeper than a stream may be"), (321, "the builder is open"), (402, "the builder is not open"), (475, "only elements of a sequence have places")]
/-- words that stay, but each by a law of its own -/
def qF : List (Nat × String × String × String) := [(343, RX1, "row", "[J"), (315, RX1, "isOpen", "Z"), (334, RX1, "kind", "I"), (386, RX1, "length", "I"), (350, RX1, "root", "LPersistentTrove$Node;"), (470, RX1, "edit", "I"), (429, RX3, "values", "[J"), (499, RX5, "code", "I"), (502, RX5, "c", "J"), (514, RX5, "number", "I"), (493, RX5, "source", "LPersistentTrove$Stream;"), (517, RX5, "behind", "LPersistentTrove$Stream;"), (512, RX5, "row", "LPersistentTrove$Branch;"), (487, RX5, "isDone", "Z"), (490, RX5, "rest", "LPersistentTrove$Stream;")]
def qN : List (String × Nat × MethodName × String) := [(RX6, 38, yX1_init, RX6), (RX6, 508, yX5_finish, RX6), (RX6, 425, yX3_placeOf, RX6), (RX6, 326, yX1_start, RX6), (RX6, 342, yX1_amount, RX6), (RX6, 353, yX1_finished, RX6), (RX8, 18, yX7_init, RX8), (RX6, 93, yX4_merged, RX6), (RX6, 105, yX0_linked, RX6), (RX6, 144, yX0_withValueAt, RX6), (RX6, 173, yX0_withoutFirst, RX6), (RX6, 176, yX0_firstOf, RX6), (RX6, 197, yX0_withKey, RX6), (RX6, 221, yX0_above, RX6), (RX6, 225, yX0_below, RX6), (RX6, 447, yX0_commonKeys, RX6), (RX6, 451, yX0_united, RX6), (RX6, 242, yX3_pourKeys, RX6), (RX6, 313, yX3_pourValues, RX6), (RX6, 254, yX3_shapeOf, RX6), (RX6, 258, yX3_alike, RX6), (RX6, 458, yX4_pour, RX6), (RX6, 277, yX0_pourValues, RX6), (RX6, 285, yX0_ofRow, RX6), (RX1, 40, yX0_pourValues, RX6), (RX1, 55, yX0_ofRow, RX6), (RX2, 58, yX0_isSound, RX6), (RX2, 68, yX0_isSorted, RX6), (RX2, 72, yX3_isSound, RX6), (RX2, 75, yX4_isSound, RX6)]
def qO : List String := [RX1, RX2, RX3, RX7]
def qCast : List String := ["java/lang/IllegalArgumentException", "java/lang/IllegalStateException", "java/lang/IndexOutOfBoundsException", "java/util/NoSuchElementException", "java/lang/ArithmeticException", "java/lang/UnsupportedOperationException"]
def qDec : List MethodName := [⟨"java/lang/RuntimeException", "<init>", "(Ljava/lang/String;)V"⟩, ⟨"java/lang/Exception", "<init>", "(Ljava/lang/String;)V"⟩, ⟨"java/lang/Throwable", "<init>", "(Ljava/lang/String;)V"⟩]
def qClo : List (String × String) := [("[J", "java/lang/Cloneable"), ("[LPersistentTrove$Node;", "java/lang/Cloneable")]
/-- arrays of arrays -/
def qAOA (t : FieldType) (U : State) : Prop := (Cond.arrayOver (.array t)).before #[] U = true
theorem qAOA.moved {t : FieldType} {u U : State} (hvm : u.vm.Alike U.vm) (h : qAOA t u) : qAOA t U := by
  obtain ⟨comp, c, k, h1, h2, h3, h4, h5⟩ := arrayOverA_spec h
  obtain ⟨k', hk', he⟩ := hvm.2.2 _ _ h3
  have hi : (U.vm.classes.findIdx? fun (x : Class) => match x.kind with | .array component _ => component == comp | _ => false) = some c := by
    rw [Vm.Alike.findIdx?_eq hvm _ (fun k => rfl)]
    exact h2
  have hkind : k'.kind = .array comp (.array t) := by rw [he]; exact h4
  have f1 : U.vm.findClass (FieldType.array t).toString = some comp := by rw [hvm.findClass]; exact h1
  have f2 : U.vm.findClass ("[" ++ (FieldType.array t).toString) = some c := by rw [hvm.findClass]; exact h5
  unfold qAOA Cond.before Cond.holds
  simp only [Cond.value]
  rw [f1, Option.bind_some]
  refine (congrArg (fun o : Option Nat => (o.bind (fun c => (U.vm.classes[c]?).map fun (k : Class) => match k.kind with | .array _ ty => decide (ty = FieldType.array t) && decide (U.vm.findClass ("[" ++ (FieldType.array t).toString) = some c) | _ => false) == some true)) hi).trans ?_
  simp [hk', hkind, f2]
def qW (U : State) : Prop := (∀ q ∈ qF, va_Nw (.fieldLinkNest RX6 q.1 q.2.1 q.2.2.1 q.2.2.2 RX6) U) ∧ (∀ q ∈ qN, va_Nw (.methodLinkNest q.1 q.2.1 q.2.2.1 q.2.2.2) U) ∧ (∀ q ∈ qO, va_AO q U) ∧ (∀ q ∈ qCast, va_Nw (.castable q q) U) ∧ (∀ q ∈ qDec, va_Nw (.declares q) U) ∧ (∀ t ∈ [FieldType.int, FieldType.long], qAOA t U) ∧ (∀ q ∈ qClo, va_Nw (.castable q.1 q.2) U) ∧ (∀ a ∈ qCast, ∀ b ∈ qCast, a ≠ b → va_Nc a b U)
theorem qcast_moved {a b : String} {s U : State} (hvm : s.vm.Alike U.vm) (h : va_Nw (.castable a b) s) : va_Nw (.castable a b) U := by
  obtain ⟨c, d, h1, h2, h3⟩ := Cond.castable_spec h
  have e1 : U.vm.findClass a = some c := by rw [hvm.findClass]; exact h1
  have e2 : U.vm.findClass b = some d := by rw [hvm.findClass]; exact h2
  have e3 : U.vm.assignable c d = true := by rw [hvm.assignable]; exact h3
  show (Cond.castable a b).before #[] U = true
  simp [Cond.before, Cond.holds, Cond.value, e1, e2, e3]
theorem qW.moved {s U : State} (hW : s.WarmedH U.vm) (h : qW s) : qW U := by
  obtain ⟨h1, h2, h3, h4, h5, h6, h7, h8⟩ := h
  exact ⟨fun q hq => va_Nw.warmF hW (h1 q hq), fun q hq => va_Nw.warmM hW (h2 q hq), fun q hq => va_AO.moved hW.alike (h3 q hq), fun q hq => qcast_moved hW.alike (h4 q hq), fun q hq => va_Nw.warmD hW (h5 q hq), fun q hq => (h6 q hq).moved hW.alike, fun q hq => qcast_moved hW.alike (h7 q hq), fun a ha b hb n => va_Nc.moved hW.alike (h8 a ha b hb n)⟩
/-- the surroundings of every call: the tables, the texts, the throwables' statics, the empty row of numbers -/
def qE (D : va_G) (cy : Nat → ClassId) (N0 : Nat) (U : State) : Prop :=
  va_K D vwCl (qT cy) U ∧ N0 ≤ U.heap.size ∧ vx_Zq Bundle.tN "UNASSIGNED_STACK" Bundle.steD (qA N0) U U.heap ∧ vx_Zq Bundle.tN "SUPPRESSED_SENTINEL" Bundle.listD (qA N0) U U.heap ∧ (∀ q ∈ qStr, ∃ sa, vk_R RX6 q.1 q.2 sa U) ∧ qW U ∧ va_Z RX3 "NO_NUMBERS" "[J" (.ref (cy 99)) (qA N0) U U.heap ∧ ∃ (k : Class) (comp : ClassId), U.vm.classes[D.1 98]? = some k ∧ k.kind = .array comp .long
theorem qE8.moved {u U : State} {c : ClassId} (hvm : u.vm.Alike U.vm) (h : ∃ (k : Class) (comp : ClassId), u.vm.classes[c]? = some k ∧ k.kind = .array comp .long) : ∃ (k : Class) (comp : ClassId), U.vm.classes[c]? = some k ∧ k.kind = .array comp .long := by
  obtain ⟨k, comp, h1, h2⟩ := h
  obtain ⟨k', hk', he⟩ := hvm.2.2 _ _ h1
  exact ⟨k', comp, hk', by rw [he]; exact h2⟩
theorem qE.moved {D : va_G} {cy : Nat → ClassId} {N0 : Nat} {s U : State} {H : Heap} {locs : List Loc} (h : qE D cy N0 s) (hW : s.WarmedH U.vm) (hS : va_S (qA N0) s.heap H locs) (hU : U.heap = H) : qE D cy N0 U := by
  obtain ⟨h1, h2, h3, h4, h5, h6, h7, h8⟩ := h
  refine ⟨va_K.moved hW.alike h1, ?_, ?_, ?_, fun q hq => ?_, h6.moved hW, ?_, qE8.moved hW.alike h8⟩
  · rw [hU]; exact Nat.le_trans h2 hS.1
  · rw [hU]; exact (h3.moved hW.alike).kept (fun a ha hn => hS.2.1 a ha hn)
  · rw [hU]; exact (h4.moved hW.alike).kept (fun a ha hn => hS.2.1 a ha hn)
  · obtain ⟨sa, hs⟩ := h5 q hq
    exact ⟨sa, hs.warm hW⟩
  · rw [hU]; exact (va_Z.moved hW.alike h7).kept (fun a ha hn => hS.2.1 a ha hn)
theorem qE.calling {D : va_G} {cy : Nat → ClassId} {N0 : Nat} {U : State} {g : JFrame} {mk : MethodId} {a : Array Value} (h : qE D cy N0 U) : qE D cy N0 (U.calling g mk a) := by
  obtain ⟨h1, h2, h3, h4, h5, h6, h7, h8⟩ := h
  have hvm : U.vm.Alike (U.calling g mk a).vm := Vm.Alike.refl U.vm
  refine ⟨va_K.moved (u := U) (U := U.calling g mk a) hvm h1, h2, h3.moved hvm, h4.moved hvm, fun q hq => ?_, ?_, va_Z.moved (U := U.calling g mk a) hvm h7, h8⟩
  · obtain ⟨sa, hs⟩ := h5 q hq
    exact ⟨sa, vk_R.same rfl hs⟩
  · obtain ⟨a1, a2, a3, a4, a5, a6, a7, a8⟩ := h6
    exact ⟨fun q hq => va_tabs (A := #[]) (u := U) rfl rfl (a1 q hq), fun q hq => va_tabs (A := #[]) (u := U) rfl rfl (a2 q hq), fun q hq => va_AO.moved hvm (a3 q hq), fun q hq => qcast_moved hvm (a4 q hq), fun q hq => va_tabs (A := #[]) (u := U) rfl rfl (a5 q hq), fun q hq => (a6 q hq).moved hvm, fun q hq => qcast_moved hvm (a7 q hq), fun a ha b hb n => va_Nc.moved hvm (a8 a ha b hb n)⟩
def qPc (D : va_G) (cy : Nat → ClassId) (N0 : Nat) (av : List Value) (h : qH) : Array Value → State → Prop := fun a U => a = av.toArray ∧ qE D cy N0 U ∧ qP D N0 h U.heap
def qQc (D : va_G) (N0 : Nat) (Post : Option Value → qH → Prop) : Array Value → State → Outcome → State → Prop := fun _ st o t => ∃ (v : Option Value) (h' : qH), o = .returned v ∧ Post v h' ∧ qP D N0 h' t.heap ∧ va_F (qA N0) st t
def qXc (D : va_G) (N0 : Nat) (Exc : String → qH → Prop) : String → State → State → Prop := fun E st t => ∃ h' : qH, Exc E h' ∧ qP D N0 h' t.heap ∧ va_F (qA N0) st t
abbrev qR (fr lo mc ms : Nat) : Room := { frames := fr, cells := mc, slots := ms, locals := lo }
/-- A CONTRACT: on the values av, over the heap h, the method returns v and leaves h' with Post v h', or throws an E and leaves h' with Exc E h'; at most mc cells of ms slots come -/
def qC (l : Launch) (D : va_G) (cy : Nat → ClassId) (N0 : Nat) (y : MethodName) (cc : ByteArray) (nL : Nat) (ret : Option FieldType) (fr lo mc ms : Nat) (av : List Value) (h : qH) (Post : Option Value → qH → Prop) (Exc : String → qH → Prop) : Prop :=
  l.stackTraces = false → vx_Met l y (.code y cc nL ret :: qG) (qR fr lo mc ms) (qPc D cy N0 av h) (qQc D N0 Post) (qXc D N0 Exc) mc ms (qA N0)
/-- what a walk stands on -/
def qX (p : Program) (l : Launch) (s : State) (m : MethodId) (args : Array Value) (meth : Method) (c : Code) (own : String) (cc : ByteArray) (nL : Nat) (ret : Option FieldType) (nm : String) (D : va_G) (cy : Nat → ClassId) (N0 : Nat) (tb : List ExceptionTableEntry) : Prop :=
  p.tables.exec = Jvm.exec ∧ c.code = cc ∧ meth.sig.returnType = ret ∧ c.maxLocals = nL ∧ s.vm.findClass own = some m.cls ∧ (∀ w ∈ qG, w.before args s = true) ∧ meth.locks = false ∧ c.exceptionTable.toList = tb ∧ meth.name = nm ∧ qE D cy N0 s ∧ l.stackTraces = false
theorem q_ofW {l : Launch} {D : va_G} {cy : Nat → ClassId} {N0 : Nat} {y : MethodName} {cc : ByteArray} {nL : Nat} {ret : Option FieldType} {fr lo mc ms : Nat} {av : List Value} {h : qH} {Post : Option Value → qH → Prop} {Exc : String → qH → Prop}
    (hy : plainName y.cls = true) (hn : (lg_sl av).length ≤ nL)
    (body : ∀ (p : Program) (e : Env) (s : State) (m : MethodId) (below : List Frame) (meth : Method) (c : Code) (ls : Array Slot), qX p l s m av.toArray meth c y.cls cc nL ret y.name D cy N0 [] → qP D N0 h s.heap → lv_has ls nL (lv_args 0 av) →
      W p l e (qR fr lo mc ms) s m av.toArray below meth c s.heap [] 0 0 (vx_MQ below (qQc D N0 Post) (qXc D N0 Exc) av.toArray s mc ms (qA N0)) (F0 m 0 ls [])) : qC l D cy N0 y cc nL ret fr lo mc ms av h Post Exc := by
  intro hst
  refine vx_ofW hy rfl ?_
  intro p e s m args below meth c s₁ B hml ht hv
  obtain ⟨rfl, hE, hP⟩ := hv
  have hts := atoms_spec (ws := .code y cc nL ret :: qG) B.pre
  have hown : s.vm.findClass y.cls = some m.cls := findClass_of_methodNamed B.named
  rw [lg_entry_eq]
  exact body p e s m below meth c _ ⟨B.exec, B.bytes, B.returns, hml, hown, fun w hw => hts w (List.mem_cons_of_mem _ hw), B.notSynchronized, List.eq_nil_iff_forall_not_mem.mpr (fun x hx => (ht x hx).elim), (name_of_methodNamed B.named B.method).1, hE, hst⟩ hP (lv_entry av hn)
