/-! rows: copies of arrays, clones, the empty row of numbers -/
theorem gn142 : Cond.sameMethod "java/lang/Throwable" "java/lang/Throwable" "fillInStackTrace" "()Ljava/lang/Throwable;" ∈ qG := qg_m1 142 rfl rfl
theorem gn153 : Cond.native ⟨"java/lang/Throwable", "fillInStackTrace", "(I)Ljava/lang/Throwable;"⟩ ∈ qG := qg_m1 153 rfl rfl
theorem gn395 : Cond.sameMethod "[LPersistentTrove$Node;" "java/lang/Object" "clone" "()Ljava/lang/Object;" ∈ qG := qg_m2 155 rfl rfl
theorem gn396 : Cond.native ⟨"java/lang/Object", "clone", "()Ljava/lang/Object;"⟩ ∈ qG := qg_m2 156 rfl rfl
theorem gn402 : Cond.sameMethod "[J" "java/lang/Object" "clone" "()Ljava/lang/Object;" ∈ qG := qg_m2 162 rfl rfl
theorem gn426 : Cond.native ⟨"java/lang/System", "arraycopy", "(Ljava/lang/Object;ILjava/lang/Object;II)V"⟩ ∈ qG := qg_m2 186 rfl rfl
theorem gn1485 : Cond.sameMethod "java/lang/Throwable" "java/lang/Throwable" "fillInStackTrace" "(I)Ljava/lang/Throwable;" ∈ qG := qg_m7 45 rfl rfl
/-- an array's function matters within its length alone -/
theorem qP.re {D : va_G} {N0 : Nat} {h : qH} {H : Heap} (hP : qP D N0 h H) {a : Nat} {c : ClassId} {x y : vp_A} (e : h a = some (.inl (c, x))) (hx : vp_cell c x = vp_cell c y) (hn : y.1 = x.1) : qP D N0 (qs h a (.inl (c, y))) H := fun b p hb => by
  by_cases q : b = a
  · subst q
    rw [qs_self] at hb
    cases hb
    rcases hP b _ e with ⟨z, g⟩ | ⟨z1, ⟨c', f, z⟩, z2⟩
    · refine Or.inl ⟨z, ?_⟩
      show H[b]? = some (vp_cell c y)
      rw [← hx]
      exact g
    · cases z
      exact Or.inr ⟨z1, ⟨c, y.2, by rw [← show y.1 = 0 from hn]⟩, z2⟩
  · rw [qs_ne q] at hb
    exact hP b p hb
theorem arrV_same {c : ClassId} {n : Nat} {f g : Nat → Value} (e : ∀ j, j < n → f j = g j) : arrV c n f = arrV c n g := by
  unfold arrV
  congr 1
  exact congrArg Array.ofFn (funext fun j => e j.val j.isLt)
section QROWS8
variable {p : Program} {l : Launch} {e : Env} {fr lo mc ms : Nat} {s : State} {m : MethodId} {args : Array Value} {below : List Frame} {meth : Method} {c : Code} {H : Heap} {locs : List Loc} {cells slots : Nat} {Q : State → Prop}
variable {own nm : String} {cc : ByteArray} {nL : Nat} {ret : Option FieldType} {D : va_G} {cy : Nat → ClassId} {N0 : Nat} {tb : List ExceptionTableEntry} {h : qH} {pc : Nat} {ls : Array Slot} {rest : List Value}
theorem q_gets (C : qX p l s m args meth c RX3 cc nL ret nm D cy N0 tb) (hS : va_S (qA N0) s.heap H locs) (hdg : decode cc pc = .ok (.getstatic 9, 3))
    (kk : W p l e (qR fr lo mc ms) s m args below meth c H locs cells slots Q (F0 m (pc + 3) ls (.ref (cy 99) :: rest))) : W p l e (qR fr lo mc ms) s m args below meth c H locs cells slots Q (F0 m pc ls rest) := by
  obtain ⟨hx, hb, -, -, hown, hts, -, -, -, hE, -⟩ := C
  exact va_gets hx hb hE.2.2.2.2.2.2.1 hS hown (hts _ g359) (fun x h => h) hdg kk
theorem q_copyl (C : qX p l s m args meth c RX3 cc nL ret nm D cy N0 tb) (hP : qP D N0 h H) (hS : va_S (qA N0) s.heap H locs) {a0 a n0 n1 sp dp n : Nat} {f g : Nat → Int64} (h0 : h a0 = some (.inl (cy 1, n0, .inr (.inl f)))) (h1 : h a = some (.inl (cy 1, n1, .inr (.inl g)))) (hN : N0 ≤ a) (b1 : sp + n ≤ n0) (b2 : dp + n ≤ n1) (b3 : n0 < 2 ^ 31) (b4 : n1 < 2 ^ 31)
    (hl1 : ls.size = nL) (hfr : 1 ≤ fr) (hlo : (rest.map fun v => v.category).sum + (nativeFrameWords "java/lang/System" "arraycopy" 5 + 11) ≤ lo) (hdg : decode cc pc = .ok (.invokestatic 135, 3))
    (kk : ∀ (H1 : Heap) (locs1 : List Loc), qP D N0 (qs h a (.inl (cy 1, n1, .inr (.inl (va_cpy f g sp dp n))))) H1 → va_S (qA N0) s.heap H1 locs1 → W p l e (qR fr lo mc ms) s m args below meth c H1 locs1 cells slots Q (F0 m (pc + 3) ls rest)) : W p l e (qR fr lo mc ms) s m args below meth c H locs cells slots Q (F0 m pc ls (.int (nI n) :: .int (nI dp) :: .ref a :: .int (nI sp) :: .ref a0 :: rest)) := by
  obtain ⟨hx, hb, -, hml, hown, hts, -, -, -, hE, -⟩ := C
  intro T hT X
  obtain ⟨ce0, hc0, hsl, hns, hnu, k0, cm0, hk0, hkk0⟩ : ∃ ce0 : Cell, H[a0]? = some ce0 ∧ ce0.slots = (vp_cell (cy 1) (n0, .inr (.inl f))).slots ∧ (∀ k, ce0.vm ≠ .statics k) ∧ ce0.vm ≠ .unknown ∧ ∃ (k : Class) (comp : ClassId), s.vm.classes[ce0.cls]? = some k ∧ k.kind = .array comp .long := by
    rcases hP a0 _ h0 with ⟨-, q⟩ | ⟨-, ⟨c9, f9, q9⟩, ce, e1, e2, e3, e4, e5⟩
    · obtain ⟨-, k0, hk0, cm0, hkk0⟩ := (hE.1.2 1 _ rfl).1 n0 (fun j => .long (f j))
      exact ⟨vp_cell (cy 1) (n0, .inr (.inl f)), q, rfl, (fun _ h => by cases h), (fun h => by cases h), k0, cm0, hk0, hkk0⟩
    · cases q9
      obtain ⟨k9, comp9, z1, z2⟩ := hE.2.2.2.2.2.2.2
      exact ⟨ce, e1, (Array.eq_empty_of_size_eq_zero e3).trans (Array.eq_empty_of_size_eq_zero (arrV_size (cy 1) 0 (fun j => Value.long (f j)))).symm, e5, e4, k9, comp9, by rw [e2]; exact z1, z2⟩
  have hc1 : H[a]? = some (vp_cell (cy 1) (n1, .inr (.inl g))) := hP.at h1 hN
  obtain ⟨-, k1, hk1, cm1, hkk1⟩ := (hE.1.2 1 _ rfl).1 n1 (fun j => .long (g j))
  have hprim : refKind FieldType.long = false := rfl
  have c1 : (nI sp).toNatClampNeg = sp := nI_clamp (by omega)
  have c2 : (nI dp).toNatClampNeg = dp := nI_clamp (by omega)
  have c3 : (nI n).toNatClampNeg = n := nI_clamp (by omega)
  obtain ⟨vm', X', step⟩ := X.arraycopy hx hown (hts _ g424) (hts _ gn426) (hts _ g425) (hts _ g17) (src := a0) (dst := a) (cs := ce0) (cd := vp_cell (cy 1) (n1, .inr (.inl g))) (srcPos := nI sp) (destPos := nI dp) (n := nI n) (by rw [hT]; exact hc0) (by rw [hT]; exact hc1)
    hns (fun _ h => by cases h) hnu (fun h => by cases h) hk0 hk1 hkk0 hkk1 (by simp [hprim]) (nI_pos (by omega)) (nI_pos (by omega)) (nI_pos (by omega))
    (by rw [nI_toInt (by omega), nI_toInt (by omega), hsl]; show ¬ _ > ((arrV (cy 1) n0 (fun j => .long (f j))).slots.size : Int); rw [arrV_size]; omega)
    (by rw [nI_toInt (by omega), nI_toInt (by omega)]; show ¬ _ > ((arrV (cy 1) n1 (fun j => .long (g j))).slots.size : Int); rw [arrV_size]; omega)
    (fun vm₁ _ i hi => by
      have e9 : ce0.slots.getD ((nI sp).toNatClampNeg + i) .null = .long (f (sp + i)) := by
        rw [hsl]
        show (arrV (cy 1) n0 (fun j => .long (f j))).slots.getD _ _ = _
        rw [c3] at hi
        rw [c1, Array.getD_eq_getD_getElem?, arrV_read _ _ (by omega)]
        rfl
      refine ⟨?_, ?_⟩
      · rw [e9]; rfl
      · rw [e9]; exact trivial)
    (g := F0 m pc ls (.int (nI n) :: .int (nI dp) :: .ref a :: .int (nI sp) :: .ref a0 :: rest)) rfl (by rw [hml]; exact hl1) (rest := rest) rfl (by rw [hb]; exact hdg) hfr (by show 2 * 0 + _ + _ ≤ lo; omega)
  have e1 : copied ce0 (vp_cell (cy 1) (n1, .inr (.inl g))) (nI sp) (nI dp) (nI n) = vp_cell (cy 1) (n1, .inr (.inl (va_cpy f g sp dp n))) := by
    have := va_copied (fun z => Value.long z) (cy 1) (cy 1) (n1 := n1) (dp := dp) f g b1
    have hst : ce0.stretch sp n = (vp_cell (cy 1) (n0, .inr (.inl f))).stretch sp n := by
      unfold Cell.stretch
      rw [hsl]
    unfold copied
    rw [c1, c2, c3, hst]
    exact this
  rw [e1] at X' step
  have hl : a < H.size := (Array.getElem?_eq_some_iff.mp hc1).1
  have hheap : ((T.setVm vm').setCell a (vp_cell (cy 1) (n1, .inr (.inl (va_cpy f g sp dp n))))).heap = H.setIfInBounds a (vp_cell (cy 1) (n1, .inr (.inl (va_cpy f g sp dp n)))) := by rw [← hT]; rfl
  have oq : ∀ q : Nat, q ≠ a → (H.setIfInBounds a (vp_cell (cy 1) (n1, .inr (.inl (va_cpy f g sp dp n)))))[q]? = H[q]? := fun q hq => by simp [Array.getElem?_setIfInBounds, Ne.symm hq]
  obtain ⟨t, a1, b9⟩ := kk _ _ (hP.set hN (show (H.setIfInBounds a _)[a]? = some _ by simp [Array.getElem?_setIfInBounds, hl]) oq) ⟨by simp; exact hS.1, fun q g1 g2 => by
      rw [oq q (fun e => g2 (by rw [e]; exact hN))]
      exact hS.2.1 q g1 g2, fun q hq => by
      rcases List.mem_append.mp hq with h | h
      · exact hS.2.2 q h
      · obtain ⟨z, -, hz⟩ := List.mem_map.mp h
        rw [← hz]
        exact hN⟩ _ hheap X'
  exact ⟨t, step t a1, b9⟩
theorem q_castA (C : qX p l s m args meth c own cc nL ret nm D cy N0 tb) (hP : qP D N0 h H) {a index : Nat} {cA : ClassId} {x : vp_A} {nq : String} (hf : h a = some (.inl (cA, x))) (hx0 : x.1 ≠ 0) (w1 : Cond.classLink own index nq ∈ qG) (hnm : s.vm.findClass nq = some cA) (hdg : decode cc pc = .ok (.checkcast index, 3))
    (k : W p l e (qR fr lo mc ms) s m args below meth c H locs cells slots Q (F0 m (pc + 3) ls (.ref a :: rest))) : W p l e (qR fr lo mc ms) s m args below meth c H locs cells slots Q (F0 m pc ls (.ref a :: rest)) := by
  obtain ⟨hx, hb, -, hml, hown, hts, -, -, -, hE, -⟩ := C
  exact va_castA hx hb hown (hts _ w1) (hP.one hf (hP.arr0 hf hx0)) 0 rfl hnm hdg k
theorem q_clone (C : qX p l s m args meth c own cc nL ret nm D cy N0 tb) (hP : qP D N0 h H) (hS : va_S (qA N0) s.heap H locs) {a index t0 : Nat} {x : vp_A} {ad : String} {ty : FieldType} (hf : h a = some (.inl (cy t0, x))) (hx0 : x.1 ≠ 0) (ht : (qT cy)[t0]? = some (cy t0, ty)) (hnm : s.vm.findClass ad = some (cy t0)) (hfit : ∀ (i : Nat) (v : Value), (vp_cell (cy t0) x).slots[i]? = some v → fits ty v = true)
    (w1 : Cond.methodLink own index ⟨ad, "clone", "()Ljava/lang/Object;"⟩ ∈ qG) (w2 : Cond.sameMethod ad "java/lang/Object" "clone" "()Ljava/lang/Object;" ∈ qG) (w3 : Cond.selects ad ⟨ad, "clone", "()Ljava/lang/Object;"⟩ ⟨"java/lang/Object", "clone", "()Ljava/lang/Object;"⟩ ∈ qG) (hcl : (ad, "java/lang/Cloneable") ∈ qClo)
    (hl1 : ls.size = nL) (hfr : 1 ≤ fr) (hlo : (rest.map fun v => v.category).sum + 14 ≤ lo) (hcells : cells + 1 ≤ mc) (hslots : slots + x.1 ≤ ms) (hdg : decode cc pc = .ok (.invokevirtual index, 3))
    (kk : ∀ (q : Nat) (H1 : Heap), h q = none → qP D N0 (qs h q (.inl (cy t0, x))) H1 → va_S (qA N0) s.heap H1 locs → W p l e (qR fr lo mc ms) s m args below meth c H1 locs (cells + 1) (slots + x.1) Q (F0 m (pc + 3) ls (.ref q :: rest))) : W p l e (qR fr lo mc ms) s m args below meth c H locs cells slots Q (F0 m pc ls (.ref a :: rest)) := by
  obtain ⟨hx, hb, -, hml, hown, hts, -, -, -, hE, -⟩ := C
  have hsz : (vp_cell (cy t0) x).slots.size = x.1 := by
    obtain ⟨n, f | f | f | f | f⟩ := x <;> exact arrV_size _ _ _
  have hvm0 : (vp_cell (cy t0) x).vm = .none := by
    obtain ⟨n, f | f | f | f | f⟩ := x <;> rfl
  have hcl0 : (vp_cell (cy t0) x).cls = cy t0 := by
    obtain ⟨n, f | f | f | f | f⟩ := x <;> rfl
  have hcellE : ({ cls := (vp_cell (cy t0) x).cls, slots := (vp_cell (cy t0) x).slots } : Cell) = vp_cell (cy t0) x := by
    obtain ⟨n, f | f | f | f | f⟩ := x <;> rfl
  have hcl9 : va_Nw (.castable ad "java/lang/Cloneable") s := hE.2.2.2.2.2.1.2.2.2.2.2.2.1 _ hcl
  obtain ⟨c0, t0', f1, f2, f3⟩ := Cond.castable_spec (va_Nw.use (A := args) rfl hcl9)
  cases hnm.symm.trans f1
  intro T hT X
  have hcellT : T.heap[a]? = some (vp_cell (cy t0) x) := by rw [hT]; exact hP.at hf (hP.arr0 hf hx0)
  obtain ⟨-, kA, hkA, comp, hkind⟩ := State.isArrayOf_alike X.warmed.alike ((hE.1.2 t0 _ ht).1 0 (fun _ => .null))
  obtain ⟨-, kS, hkS, compS, hkindS⟩ := (hE.1.2 t0 _ ht).1 0 (fun _ => .null)
  obtain ⟨vm', X', st⟩ := X.cloneArray hx hown (hts _ w1) (hts _ w2) (hts _ gn396) (hts _ g397) (hts _ w3) (a := a) (cell := vp_cell (cy t0) x) hcellT (fun k h => by rw [hvm0] at h; cases h) (by rw [hvm0]; exact fun h => by cases h) (by rw [hcl0]; exact hnm) f2 (by rw [hcl0]; exact f3)
    (fun i v hv => by
      rw [hcl0]
      have hk' : T.vm.classes[cy t0]? = some kA := hkA
      simpa [State.fitsSlot, State.slotType?, hk', hkind] using hfit i v hv)
    (g := F0 m pc ls (.ref a :: rest)) rfl (by rw [hml]; exact hl1) rfl (by rw [hb]; exact hdg) hfr (by show 2 * 0 + _ + 14 ≤ lo; omega) hcells (by rw [hsz]; exact hslots) (hloader := by rw [hcl0]; exact Vm.clonesLoader_of_array hkS hkindS)
  rw [hcellE, hsz] at X'
  generalize hH1 : H.push (vp_cell (cy t0) x) = H1
  have e1 : H1[H.size]? = some (vp_cell (cy t0) x) := by rw [← hH1, Array.getElem?_push_size]
  have o1 : ∀ q : Nat, q < H.size → H1[q]? = H[q]? := fun q hq => by rw [← hH1, Array.getElem?_push, if_neg (Nat.ne_of_lt hq)]
  have z1 : H1.size = H.size + 1 := by rw [← hH1, Array.size_push]
  have hN0 : N0 ≤ H.size := Nat.le_trans hE.2.1 hS.1
  obtain ⟨t, b1, b2⟩ := kk H.size H1 (hP.fresh (Nat.le_refl _)) (hP.push rfl hN0 (show H1[H.size]? = some (vp_cell _ _) from e1) o1) ⟨Nat.le_trans hS.1 (by omega), fun y h1 h2 => (o1 y (Nat.lt_of_lt_of_le h1 hS.1)).trans (hS.2.1 y h1 h2), hS.2.2⟩
    ((T.setVm vm').pushCell (vp_cell (cy t0) x)) (by rw [← hH1, ← hT]; rfl) X'
  refine ⟨t, st t ?_, b2⟩
  rw [hcellE, hT]
  exact b1
/-- the classes of arrays of numbers and of nodes, by their names -/
theorem q_fcJ (C : qX p l s m args meth c own cc nL ret nm D cy N0 tb) : s.vm.findClass "[J" = some (cy 1) := by
  obtain ⟨hx, hb, -, hml, hown, hts, -, -, -, hE, -⟩ := C
  exact (hE.1.2 1 _ rfl).2
theorem q_fcN (C : qX p l s m args meth c own cc nL ret nm D cy N0 tb) : s.vm.findClass "[LPersistentTrove$Node;" = some (cy 4) := by
  obtain ⟨hx, hb, -, hml, hown, hts, -, -, -, hE, -⟩ := C
  obtain ⟨kA, comp, -, -, -, h9⟩ := (hE.1.2 4 _ rfl).2
  exact h9
end QROWS8
