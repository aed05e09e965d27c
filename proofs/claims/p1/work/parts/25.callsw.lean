def qYW (y : MethodName) (bytes : ByteArray) (maxL : Nat) (rt : Option FieldType) (hh : List (Nat × Nat × Nat × Nat)) (n : Nat) : Prop := Cond.initialized y.cls ∈ qG ∧ Cond.codeWith y bytes maxL rt hh ∈ qG ∧ y.cls ≠ "java/lang/invoke/MethodHandle" ∧ y.cls ≠ "java/lang/invoke/VarHandle" ∧ (parseMethodDescriptor y.desc).map (fun d => d.parameters.length) = some n
section QSW
variable {p : Program} {l : Launch} {e : Env} {fr lo mc ms : Nat} {s : State} {m : MethodId} {args : Array Value} {below : List Frame} {meth : Method} {c : Code} {H : Heap} {locs : List Loc} {cells slots : Nat} {Q : State → Prop}
variable {own nm : String} {cc : ByteArray} {nL : Nat} {ret : Option FieldType} {D : va_G} {cy : Nat → ClassId} {N0 : Nat} {tb : List ExceptionTableEntry} {h : qH} {pc : Nat} {ls : Array Slot} {rest : List Value}
variable {y : MethodName} {bytes : ByteArray} {maxL fr2 lo2 mc2 ms2 index : Nat} {rt : Option FieldType} {hh : List (Nat × Nat × Nat × Nat)} {As : List Value} {Post : Option Value → qH → Prop} {st0 : List Value}
theorem q_callSW (C : qX p l s m args meth c own cc nL ret nm D cy N0 tb) (hM : qCW l D cy N0 y bytes maxL rt hh fr2 lo2 mc2 ms2 As h Post) (hY : qYW y bytes maxL rt hh As.length) (w1 : Cond.methodLink own index y ∈ qG) (w2 : Cond.static y ∈ qG) (hP : qP D N0 h H) (hS : va_S (qA N0) s.heap H locs)
    (hR : fr2 + 1 ≤ fr ∧ 8 + (maxL + 11) + lo2 ≤ lo) (hsz : ls.size = nL) (hst : st0 = As.reverse ++ rest) (hW : (rest.map fun v => v.category).sum ≤ 8) (hf : cells + mc2 ≤ mc ∧ slots + ms2 ≤ ms) (hdg : decode cc pc = .ok (.invokestatic index, 3))
    (kr : ∀ (v : Option Value) (h' : qH) (H1 : Heap) (locs1 : List Loc), Post v h' → qP D N0 h' H1 → va_S (qA N0) s.heap H1 locs1 → W p l e (qR fr lo mc ms) s m args below meth c H1 locs1 (cells + mc2) (slots + ms2) Q (F0 m (pc + 3) ls (v.toList ++ rest))) :
    W p l e (qR fr lo mc ms) s m args below meth c H locs cells slots Q (F0 m pc ls st0) := by
  obtain ⟨hx, hb, -, hml, hown, hts, -, -, -, hE, hl⟩ := C
  obtain ⟨y1, y2, y3, y4, y5⟩ := hY
  have hT : GoodIn qG (va_wsS own index y (.codeWith y bytes maxL rt hh :: qG)) := by
    intro w hw
    rcases List.mem_append.mp hw with hw | hw
    · simp only [List.mem_cons, List.not_mem_nil, or_false] at hw
      rcases hw with rfl | rfl | rfl
      · exact q_good _ w1
      · exact q_good _ w2
      · exact q_good _ y1
    · rcases List.mem_cons.mp hw with rfl | hw
      · exact q_good _ y2
      · exact q_good _ hw
  have hp : PreS s H (qPc D cy N0 As h) As := ⟨q_blind, fun U hU hWm => ⟨rfl, hE.moved hWm hS hU, by rw [hU]; exact hP⟩⟩
  exact q_run (h := h) (vx_runSX (As := As) (rest := rest) ⟨hx, hb, hml, hown, hts⟩ (hM hl) (vx_cwSW As.length hts hT rfl rfl rfl ⟨y3, y4, y5⟩ hR) hp rfl rfl hsz hst (by show 2 * 0 + _ ≤ 8; omega) hdg hf) hS kr (fun q ce E h' H1 locs1 hx => hx.elim)
end QSW

theorem kwL_make : qYW yL_make cL_make 4 (some .int) [(0, 6, 9, 13)] 3 := ⟨g0, g98, by decide +kernel, by decide +kernel, by decide +kernel⟩
theorem kwL_copy : qYW yL_copy cL_copy 4 (some .int) [(0, 6, 9, 13), (0, 6, 12, 18)] 3 := ⟨g0, g237, by decide +kernel, by decide +kernel, by decide +kernel⟩
theorem kwL_size : qYW yL_size cL_size 4 (some .int) [(0, 9, 12, 13), (0, 9, 15, 18)] 3 := ⟨g0, g265, by decide +kernel, by decide +kernel, by decide +kernel⟩
theorem kwL_kind : qYW yL_kind cL_kind 4 (some .int) [(0, 9, 12, 13)] 3 := ⟨g0, g272, by decide +kernel, by decide +kernel, by decide +kernel⟩
theorem kwL_add : qYW yL_add cL_add 7 (some .int) [(0, 12, 15, 13), (0, 12, 19, 18), (0, 12, 23, 31)] 5 := ⟨g0, g279, by decide +kernel, by decide +kernel, by decide +kernel⟩
theorem kwL_push : qYW yL_push cL_push 6 (some .int) [(0, 7, 10, 13), (0, 7, 14, 18), (0, 7, 18, 31)] 4 := ⟨g0, g521, by decide +kernel, by decide +kernel, by decide +kernel⟩
theorem kwL_set : qYW yL_set cL_set 8 (some .int) [(0, 13, 16, 13), (0, 13, 20, 18), (0, 13, 24, 41)] 6 := ⟨g0, g585, by decide +kernel, by decide +kernel, by decide +kernel⟩
theorem kwL_at : qYW yL_at cL_at 5 (some .int) [(0, 9, 12, 13), (0, 9, 16, 18), (0, 9, 20, 41), (0, 9, 24, 47), (0, 9, 28, 31)] 4 := ⟨g0, g623, by decide +kernel, by decide +kernel, by decide +kernel⟩
theorem kwL_drop : qYW yL_drop cL_drop 7 (some .int) [(0, 14, 17, 13), (0, 14, 21, 18), (0, 14, 25, 41)] 6 := ⟨g0, g719, by decide +kernel, by decide +kernel, by decide +kernel⟩
theorem kwL_pop : qYW yL_pop cL_pop 5 (some .int) [(0, 9, 12, 13), (0, 9, 16, 18), (0, 9, 20, 41), (0, 9, 24, 47), (0, 9, 28, 31)] 4 := ⟨g0, g734, by decide +kernel, by decide +kernel, by decide +kernel⟩
theorem kwL_front : qYW yL_front cL_front 4 (some .int) [(0, 8, 11, 13), (0, 8, 14, 18), (0, 8, 17, 41)] 3 := ⟨g0, g744, by decide +kernel, by decide +kernel, by decide +kernel⟩
theorem kwL_put : qYW yL_put cL_put 9 (some .int) [(0, 14, 17, 13), (0, 14, 21, 18), (0, 14, 25, 31)] 6 := ⟨g0, g751, by decide +kernel, by decide +kernel, by decide +kernel⟩
theorem kwL_find : qYW yL_find cL_find 6 (some .int) [(0, 10, 13, 13), (0, 10, 17, 18), (0, 10, 21, 41)] 4 := ⟨g0, g765, by decide +kernel, by decide +kernel, by decide +kernel⟩
theorem kwL_out : qYW yL_out cL_out 7 (some .int) [(0, 12, 15, 13), (0, 12, 19, 18)] 5 := ⟨g0, g778, by decide +kernel, by decide +kernel, by decide +kernel⟩
theorem kwL_near : qYW yL_near cL_near 7 (some .int) [(0, 12, 15, 13), (0, 12, 19, 18), (0, 12, 23, 41)] 5 := ⟨g0, g816, by decide +kernel, by decide +kernel, by decide +kernel⟩
theorem kwL_range : qYW yL_range cL_range 9 (some .int) [(0, 14, 17, 13), (0, 14, 21, 18), (0, 14, 25, 31)] 6 := ⟨g0, g826, by decide +kernel, by decide +kernel, by decide +kernel⟩
theorem kwL_join : qYW yL_join cL_join 6 (some .int) [(0, 12, 15, 13), (0, 12, 19, 18), (0, 12, 23, 31)] 5 := ⟨g0, g835, by decide +kernel, by decide +kernel, by decide +kernel⟩
theorem kwL_meet : qYW yL_meet cL_meet 7 (some .int) [(0, 14, 17, 13), (0, 14, 21, 18), (0, 14, 25, 31)] 6 := ⟨g0, g880, by decide +kernel, by decide +kernel, by decide +kernel⟩
theorem kwL_shape : qYW yL_shape cL_shape 4 (some .int) [(0, 9, 12, 13), (0, 9, 15, 18)] 3 := ⟨g0, g891, by decide +kernel, by decide +kernel, by decide +kernel⟩
theorem kwL_same : qYW yL_same cL_same 5 (some .int) [(0, 17, 20, 13), (0, 17, 24, 18), (0, 17, 28, 31)] 4 := ⟨g0, g902, by decide +kernel, by decide +kernel, by decide +kernel⟩
theorem kwL_map : qYW yL_map cL_map 7 (some .int) [(0, 9, 12, 13), (0, 9, 16, 18), (0, 9, 20, 47), (0, 9, 24, 31)] 5 := ⟨g0, g934, by decide +kernel, by decide +kernel, by decide +kernel⟩
theorem kwL_filter : qYW yL_filter cL_filter 7 (some .int) [(0, 9, 12, 13), (0, 9, 16, 18), (0, 9, 20, 47), (0, 9, 24, 31)] 5 := ⟨g0, g949, by decide +kernel, by decide +kernel, by decide +kernel⟩
theorem kwL_iterate : qYW yL_iterate cL_iterate 8 (some .int) [(0, 10, 13, 13)] 5 := ⟨g0, g968, by decide +kernel, by decide +kernel, by decide +kernel⟩
theorem kwL_take : qYW yL_take cL_take 5 (some .int) [(0, 7, 10, 13), (0, 7, 14, 18), (0, 7, 18, 31)] 4 := ⟨g0, g975, by decide +kernel, by decide +kernel, by decide +kernel⟩
theorem kwL_list : qYW yL_list cL_list 6 (some .int) [(0, 12, 15, 13), (0, 12, 19, 18), (0, 12, 23, 47), (0, 12, 27, 31)] 5 := ⟨g0, g982, by decide +kernel, by decide +kernel, by decide +kernel⟩
theorem kwL_turn : qYW yL_turn cL_turn 4 (some .int) [(0, 6, 9, 13), (0, 6, 12, 18), (0, 6, 15, 31)] 3 := ⟨g0, g989, by decide +kernel, by decide +kernel, by decide +kernel⟩
theorem kwL_open : qYW yL_open cL_open 4 (some .int) [(0, 6, 9, 13), (0, 6, 12, 18)] 3 := ⟨g0, g996, by decide +kernel, by decide +kernel, by decide +kernel⟩
theorem kwL_build : qYW yL_build cL_build 9 (some .int) [(0, 14, 17, 13), (0, 14, 21, 18), (0, 14, 25, 119), (0, 14, 29, 41), (0, 14, 33, 31)] 6 := ⟨g0, g1009, by decide +kernel, by decide +kernel, by decide +kernel⟩
theorem kwL_look : qYW yL_look cL_look 6 (some .int) [(0, 10, 13, 13), (0, 10, 17, 18), (0, 10, 21, 41)] 4 := ⟨g0, g1054, by decide +kernel, by decide +kernel, by decide +kernel⟩
theorem kwL_freeze : qYW yL_freeze cL_freeze 5 (some .int) [(0, 10, 13, 13), (0, 10, 17, 18)] 4 := ⟨g0, g1061, by decide +kernel, by decide +kernel, by decide +kernel⟩
theorem kwL_count : qYW yL_count cL_count 4 (some .int) [(0, 9, 12, 13)] 3 := ⟨g0, g1075, by decide +kernel, by decide +kernel, by decide +kernel⟩