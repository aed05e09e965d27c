/-- a contract of a method with a table of handlers, that lets nothing out -/
def qCW (l : Launch) (D : va_G) (cy : Nat → ClassId) (N0 : Nat) (y : MethodName) (cc : ByteArray) (nL : Nat) (ret : Option FieldType) (hh : List (Nat × Nat × Nat × Nat)) (fr lo mc ms : Nat) (av : List Value) (h : qH) (Post : Option Value → qH → Prop) : Prop :=
  l.stackTraces = false → vx_Met l y (.codeWith y cc nL ret hh :: qG) (qR fr lo mc ms) (qPc D cy N0 av h) (qQc D N0 Post) (qXc D N0 (fun _ _ => False)) mc ms (qA N0)
theorem q_ofWH {l : Launch} {D : va_G} {cy : Nat → ClassId} {N0 : Nat} {y : MethodName} {cc : ByteArray} {nL : Nat} {ret : Option FieldType} {hh : List (Nat × Nat × Nat × Nat)} {fr lo mc ms : Nat} {av : List Value} {h : qH} {Post : Option Value → qH → Prop}
    (hy : plainName y.cls = true) (hn : (lg_sl av).length ≤ nL)
    (body : ∀ (p : Program) (e : Env) (s : State) (m : MethodId) (below : List Frame) (meth : Method) (c : Code) (ls : Array Slot), qX p l s m av.toArray meth c y.cls cc nL ret y.name D cy N0 (tableOf hh) → qP D N0 h s.heap → lv_has ls nL (lv_args 0 av) →
      W p l e (qR fr lo mc ms) s m av.toArray below meth c s.heap [] 0 0 (vx_MQ below (qQc D N0 Post) (qXc D N0 (fun _ _ => False)) av.toArray s mc ms (qA N0)) (F0 m 0 ls [])) : qCW l D cy N0 y cc nL ret hh fr lo mc ms av h Post := by
  intro hst
  refine vx_ofWH hy rfl ?_
  intro p e s m args below meth c s₁ B hml hv
  obtain ⟨rfl, hE, hP⟩ := hv
  have hts := atoms_spec (ws := .codeWith y cc nL ret hh :: qG) B.pre
  have hown : s.vm.findClass y.cls = some m.cls := findClass_of_methodNamed B.named
  rw [lg_entry_eq]
  exact body p e s m below meth c _ ⟨B.exec, B.bytes, B.returns, hml, hown, fun w hw => hts w (List.mem_cons_of_mem _ hw), B.notSynchronized, vx_table (x := y) B (hts _ List.mem_cons_self), (name_of_methodNamed B.named B.method).1, hE, hst⟩ hP (lv_entry av hn)
section QCATCH
variable {p : Program} {l : Launch} {e : Env} {fr lo mc ms : Nat} {s : State} {m : MethodId} {args : Array Value} {below : List Frame} {meth : Method} {c : Code} {H : Heap} {locs : List Loc} {cells slots : Nat} {Q : State → Prop}
variable {own nm : String} {cc : ByteArray} {nL : Nat} {ret : Option FieldType} {D : va_G} {cy : Nat → ClassId} {N0 : Nat} {pc : Nat} {ls : Array Slot} {rest : List Value}
theorem q_catch {hh : List (Nat × Nat × Nat × Nat)} {E : String} {q : Addr} {ce : Cell} (C : qX p l s m args meth c own cc nL ret nm D cy N0 (tableOf hh)) (pre suf : List (Nat × Nat × Nat × Nat)) (x : Nat × Nat × Nat × Nat) (hsplit : hh = pre ++ x :: suf) (hin : x.1 ≤ pc ∧ pc < x.2.1) (h0 : x.2.2.2 ≠ 0) (w : Cond.classLink own x.2.2.2 E ∈ qG) (hE : E ∈ qCast)
    (hpre : ∀ z ∈ pre, z.2.2.2 ≠ 0 ∧ ∃ nm : String, nm ∈ qCast ∧ E ≠ nm ∧ Cond.classLink own z.2.2.2 nm ∈ qG) (hce : H[q]? = some ce) (hcv : ce.vm = .none) (hcl : s.vm.findClass E = some ce.cls)
    (kk : W p l e (qR fr lo mc ms) s m args below meth c H locs cells slots Q (F0 m x.2.2.1 ls [.ref q])) : vx_W p l e (qR fr lo mc ms) s m args below meth c H locs cells slots Q (F0 m pc ls rest) q := by
  obtain ⟨-, -, -, -, hown, hts, -, htb, -, hE0, -⟩ := C
  refine vx_catch (name := E) hown (tableOf pre) ⟨x.1, x.2.1, x.2.2.1, x.2.2.2⟩ (tableOf suf) (by rw [htb, hsplit]; simp [tableOf]) (fun z hz => ?_) (by simp [covers, hin.1, hin.2]) h0 (hts _ w) (va_Nw.use rfl (hE0.2.2.2.2.2.1.2.2.2.1 _ hE)) hce hcv hcl kk
  obtain ⟨z', hz', rfl⟩ := List.mem_map.mp hz
  obtain ⟨a1, nm2, a2, a3, a4⟩ := hpre z' hz'
  exact Or.inr ⟨a1, nm2, hts _ a4, hE0.2.2.2.2.2.1.2.2.2.2.2.2.2 _ hE _ a2 a3⟩
end QCATCH

theorem dL_copy_0 : decode cL_copy 0 = .ok (.aload_n 0, 1) := by decide +kernel
theorem dL_copy_1 : decode cL_copy 1 = .ok (.iload_n 1, 1) := by decide +kernel
theorem dL_copy_2 : decode cL_copy 2 = .ok (.iload_n 2, 1) := by decide +kernel
theorem dL_copy_3 : decode cL_copy 3 = .ok (.invokevirtual 15, 3) := by decide +kernel
theorem dL_copy_9 : decode cL_copy 9 = .ok (.astore_n 3, 1) := by decide +kernel
theorem dL_copy_10 : decode cL_copy 10 = .ok (.iconst 1, 1) := by decide +kernel
theorem dL_copy_11 : decode cL_copy 11 = .ok (.ireturn, 1) := by decide +kernel
theorem dL_copy_12 : decode cL_copy 12 = .ok (.astore_n 3, 1) := by decide +kernel
theorem dL_copy_13 : decode cL_copy 13 = .ok (.iconst 2, 1) := by decide +kernel
theorem dL_copy_14 : decode cL_copy 14 = .ok (.ireturn, 1) := by decide +kernel
theorem dL_size_0 : decode cL_size 0 = .ok (.aload_n 2, 1) := by decide +kernel
theorem dL_size_1 : decode cL_size 1 = .ok (.iconst 0, 1) := by decide +kernel
theorem dL_size_2 : decode cL_size 2 = .ok (.aload_n 0, 1) := by decide +kernel
theorem dL_size_3 : decode cL_size 3 = .ok (.iload_n 1, 1) := by decide +kernel
theorem dL_size_4 : decode cL_size 4 = .ok (.invokevirtual 20, 3) := by decide +kernel
theorem dL_size_12 : decode cL_size 12 = .ok (.astore_n 3, 1) := by decide +kernel
theorem dL_size_13 : decode cL_size 13 = .ok (.iconst 1, 1) := by decide +kernel
theorem dL_size_14 : decode cL_size 14 = .ok (.ireturn, 1) := by decide +kernel
theorem dL_size_15 : decode cL_size 15 = .ok (.astore_n 3, 1) := by decide +kernel
theorem dL_size_16 : decode cL_size 16 = .ok (.iconst 2, 1) := by decide +kernel
theorem dL_size_17 : decode cL_size 17 = .ok (.ireturn, 1) := by decide +kernel
theorem dL_add_0 : decode cL_add 0 = .ok (.aload 5, 2) := by decide +kernel
theorem dL_add_2 : decode cL_add 2 = .ok (.iconst 0, 1) := by decide +kernel
theorem dL_add_3 : decode cL_add 3 = .ok (.aload_n 0, 1) := by decide +kernel
theorem dL_add_4 : decode cL_add 4 = .ok (.iload_n 1, 1) := by decide +kernel
theorem dL_add_5 : decode cL_add 5 = .ok (.iload_n 2, 1) := by decide +kernel
theorem dL_add_6 : decode cL_add 6 = .ok (.lload_n 3, 1) := by decide +kernel
theorem dL_add_7 : decode cL_add 7 = .ok (.invokevirtual 27, 3) := by decide +kernel
theorem dL_add_15 : decode cL_add 15 = .ok (.astore 6, 2) := by decide +kernel
theorem dL_add_17 : decode cL_add 17 = .ok (.iconst 1, 1) := by decide +kernel
theorem dL_add_18 : decode cL_add 18 = .ok (.ireturn, 1) := by decide +kernel
theorem dL_add_19 : decode cL_add 19 = .ok (.astore 6, 2) := by decide +kernel
theorem dL_add_21 : decode cL_add 21 = .ok (.iconst 2, 1) := by decide +kernel
theorem dL_add_22 : decode cL_add 22 = .ok (.ireturn, 1) := by decide +kernel
theorem dL_push_0 : decode cL_push 0 = .ok (.aload_n 0, 1) := by decide +kernel
theorem dL_push_1 : decode cL_push 1 = .ok (.iload_n 1, 1) := by decide +kernel
theorem dL_push_2 : decode cL_push 2 = .ok (.iload_n 2, 1) := by decide +kernel
theorem dL_push_3 : decode cL_push 3 = .ok (.lload_n 3, 1) := by decide +kernel
theorem dL_push_4 : decode cL_push 4 = .ok (.invokevirtual 33, 3) := by decide +kernel
theorem dL_push_10 : decode cL_push 10 = .ok (.astore 5, 2) := by decide +kernel
theorem dL_push_12 : decode cL_push 12 = .ok (.iconst 1, 1) := by decide +kernel
theorem dL_push_13 : decode cL_push 13 = .ok (.ireturn, 1) := by decide +kernel
theorem dL_push_14 : decode cL_push 14 = .ok (.astore 5, 2) := by decide +kernel
theorem dL_push_16 : decode cL_push 16 = .ok (.iconst 2, 1) := by decide +kernel
theorem dL_push_17 : decode cL_push 17 = .ok (.ireturn, 1) := by decide +kernel
theorem dL_set_0 : decode cL_set 0 = .ok (.aload 6, 2) := by decide +kernel
theorem dL_set_2 : decode cL_set 2 = .ok (.iconst 0, 1) := by decide +kernel
theorem dL_set_3 : decode cL_set 3 = .ok (.aload_n 0, 1) := by decide +kernel
theorem dL_set_4 : decode cL_set 4 = .ok (.iload_n 1, 1) := by decide +kernel
theorem dL_set_5 : decode cL_set 5 = .ok (.iload_n 2, 1) := by decide +kernel
theorem dL_set_6 : decode cL_set 6 = .ok (.iload_n 3, 1) := by decide +kernel
theorem dL_set_7 : decode cL_set 7 = .ok (.lload 4, 2) := by decide +kernel
theorem dL_set_9 : decode cL_set 9 = .ok (.invokevirtual 37, 3) := by decide +kernel
theorem dL_set_16 : decode cL_set 16 = .ok (.astore 7, 2) := by decide +kernel
theorem dL_set_18 : decode cL_set 18 = .ok (.iconst 1, 1) := by decide +kernel
theorem dL_set_19 : decode cL_set 19 = .ok (.ireturn, 1) := by decide +kernel
theorem dL_set_20 : decode cL_set 20 = .ok (.astore 7, 2) := by decide +kernel
theorem dL_set_22 : decode cL_set 22 = .ok (.iconst 2, 1) := by decide +kernel
theorem dL_set_23 : decode cL_set 23 = .ok (.ireturn, 1) := by decide +kernel
theorem dL_at_0 : decode cL_at 0 = .ok (.aload_n 3, 1) := by decide +kernel
theorem dL_at_1 : decode cL_at 1 = .ok (.iconst 0, 1) := by decide +kernel
theorem dL_at_2 : decode cL_at 2 = .ok (.aload_n 0, 1) := by decide +kernel
theorem dL_at_3 : decode cL_at 3 = .ok (.iload_n 1, 1) := by decide +kernel
theorem dL_at_4 : decode cL_at 4 = .ok (.iload_n 2, 1) := by decide +kernel
theorem dL_at_5 : decode cL_at 5 = .ok (.invokevirtual 43, 3) := by decide +kernel
theorem dL_at_12 : decode cL_at 12 = .ok (.astore 4, 2) := by decide +kernel
theorem dL_at_14 : decode cL_at 14 = .ok (.iconst 1, 1) := by decide +kernel
theorem dL_at_15 : decode cL_at 15 = .ok (.ireturn, 1) := by decide +kernel
theorem dL_at_16 : decode cL_at 16 = .ok (.astore 4, 2) := by decide +kernel
theorem dL_at_18 : decode cL_at 18 = .ok (.iconst 2, 1) := by decide +kernel
theorem dL_at_19 : decode cL_at 19 = .ok (.ireturn, 1) := by decide +kernel
theorem dL_drop_0 : decode cL_drop 0 = .ok (.aload 5, 2) := by decide +kernel
theorem dL_drop_2 : decode cL_drop 2 = .ok (.iconst 0, 1) := by decide +kernel
theorem dL_drop_3 : decode cL_drop 3 = .ok (.aload_n 0, 1) := by decide +kernel
theorem dL_drop_4 : decode cL_drop 4 = .ok (.iload_n 1, 1) := by decide +kernel
theorem dL_drop_5 : decode cL_drop 5 = .ok (.iload_n 2, 1) := by decide +kernel
theorem dL_drop_6 : decode cL_drop 6 = .ok (.iload_n 3, 1) := by decide +kernel
theorem dL_drop_7 : decode cL_drop 7 = .ok (.iload 4, 2) := by decide +kernel
theorem dL_drop_9 : decode cL_drop 9 = .ok (.invokevirtual 49, 3) := by decide +kernel
theorem dL_drop_17 : decode cL_drop 17 = .ok (.astore 6, 2) := by decide +kernel
theorem dL_drop_19 : decode cL_drop 19 = .ok (.iconst 1, 1) := by decide +kernel
theorem dL_drop_20 : decode cL_drop 20 = .ok (.ireturn, 1) := by decide +kernel
theorem dL_drop_21 : decode cL_drop 21 = .ok (.astore 6, 2) := by decide +kernel
theorem dL_drop_23 : decode cL_drop 23 = .ok (.iconst 2, 1) := by decide +kernel
theorem dL_drop_24 : decode cL_drop 24 = .ok (.ireturn, 1) := by decide +kernel
theorem dL_pop_0 : decode cL_pop 0 = .ok (.aload_n 3, 1) := by decide +kernel
theorem dL_pop_1 : decode cL_pop 1 = .ok (.iconst 0, 1) := by decide +kernel
theorem dL_pop_2 : decode cL_pop 2 = .ok (.aload_n 0, 1) := by decide +kernel
theorem dL_pop_3 : decode cL_pop 3 = .ok (.iload_n 1, 1) := by decide +kernel
theorem dL_pop_4 : decode cL_pop 4 = .ok (.iload_n 2, 1) := by decide +kernel
theorem dL_pop_5 : decode cL_pop 5 = .ok (.invokevirtual 53, 3) := by decide +kernel
theorem dL_pop_12 : decode cL_pop 12 = .ok (.astore 4, 2) := by decide +kernel
theorem dL_pop_14 : decode cL_pop 14 = .ok (.iconst 1, 1) := by decide +kernel
theorem dL_pop_15 : decode cL_pop 15 = .ok (.ireturn, 1) := by decide +kernel
theorem dL_pop_16 : decode cL_pop 16 = .ok (.astore 4, 2) := by decide +kernel
theorem dL_pop_18 : decode cL_pop 18 = .ok (.iconst 2, 1) := by decide +kernel
theorem dL_pop_19 : decode cL_pop 19 = .ok (.ireturn, 1) := by decide +kernel
theorem dL_front_0 : decode cL_front 0 = .ok (.aload_n 2, 1) := by decide +kernel
theorem dL_front_1 : decode cL_front 1 = .ok (.iconst 0, 1) := by decide +kernel
theorem dL_front_2 : decode cL_front 2 = .ok (.aload_n 0, 1) := by decide +kernel
theorem dL_front_3 : decode cL_front 3 = .ok (.iload_n 1, 1) := by decide +kernel
theorem dL_front_4 : decode cL_front 4 = .ok (.invokevirtual 56, 3) := by decide +kernel
theorem dL_front_11 : decode cL_front 11 = .ok (.astore_n 3, 1) := by decide +kernel
theorem dL_front_12 : decode cL_front 12 = .ok (.iconst 1, 1) := by decide +kernel
theorem dL_front_13 : decode cL_front 13 = .ok (.ireturn, 1) := by decide +kernel
theorem dL_front_14 : decode cL_front 14 = .ok (.astore_n 3, 1) := by decide +kernel
theorem dL_front_15 : decode cL_front 15 = .ok (.iconst 2, 1) := by decide +kernel
theorem dL_front_16 : decode cL_front 16 = .ok (.ireturn, 1) := by decide +kernel
theorem dL_put_0 : decode cL_put 0 = .ok (.aload 7, 2) := by decide +kernel
theorem dL_put_2 : decode cL_put 2 = .ok (.iconst 0, 1) := by decide +kernel
theorem dL_put_3 : decode cL_put 3 = .ok (.aload_n 0, 1) := by decide +kernel
theorem dL_put_4 : decode cL_put 4 = .ok (.iload_n 1, 1) := by decide +kernel
theorem dL_put_5 : decode cL_put 5 = .ok (.iload_n 2, 1) := by decide +kernel
theorem dL_put_6 : decode cL_put 6 = .ok (.lload_n 3, 1) := by decide +kernel
theorem dL_put_7 : decode cL_put 7 = .ok (.lload 5, 2) := by decide +kernel
theorem dL_put_9 : decode cL_put 9 = .ok (.invokevirtual 60, 3) := by decide +kernel
theorem dL_put_17 : decode cL_put 17 = .ok (.astore 8, 2) := by decide +kernel
theorem dL_put_19 : decode cL_put 19 = .ok (.iconst 1, 1) := by decide +kernel
theorem dL_put_20 : decode cL_put 20 = .ok (.ireturn, 1) := by decide +kernel
theorem dL_put_21 : decode cL_put 21 = .ok (.astore 8, 2) := by decide +kernel
theorem dL_put_23 : decode cL_put 23 = .ok (.iconst 2, 1) := by decide +kernel
theorem dL_put_24 : decode cL_put 24 = .ok (.ireturn, 1) := by decide +kernel
theorem dL_find_0 : decode cL_find 0 = .ok (.aload 4, 2) := by decide +kernel
theorem dL_find_2 : decode cL_find 2 = .ok (.iconst 0, 1) := by decide +kernel
theorem dL_find_3 : decode cL_find 3 = .ok (.aload_n 0, 1) := by decide +kernel
theorem dL_find_4 : decode cL_find 4 = .ok (.iload_n 1, 1) := by decide +kernel
theorem dL_find_5 : decode cL_find 5 = .ok (.lload_n 2, 1) := by decide +kernel
theorem dL_find_6 : decode cL_find 6 = .ok (.invokevirtual 64, 3) := by decide +kernel
theorem dL_find_13 : decode cL_find 13 = .ok (.astore 5, 2) := by decide +kernel
theorem dL_find_15 : decode cL_find 15 = .ok (.iconst 1, 1) := by decide +kernel
theorem dL_find_16 : decode cL_find 16 = .ok (.ireturn, 1) := by decide +kernel
theorem dL_find_17 : decode cL_find 17 = .ok (.astore 5, 2) := by decide +kernel
theorem dL_find_19 : decode cL_find 19 = .ok (.iconst 2, 1) := by decide +kernel
theorem dL_find_20 : decode cL_find 20 = .ok (.ireturn, 1) := by decide +kernel
theorem dL_out_0 : decode cL_out 0 = .ok (.aload 5, 2) := by decide +kernel
theorem dL_out_2 : decode cL_out 2 = .ok (.iconst 0, 1) := by decide +kernel
theorem dL_out_3 : decode cL_out 3 = .ok (.aload_n 0, 1) := by decide +kernel
theorem dL_out_4 : decode cL_out 4 = .ok (.iload_n 1, 1) := by decide +kernel
theorem dL_out_5 : decode cL_out 5 = .ok (.iload_n 2, 1) := by decide +kernel
theorem dL_out_6 : decode cL_out 6 = .ok (.lload_n 3, 1) := by decide +kernel
theorem dL_out_7 : decode cL_out 7 = .ok (.invokevirtual 68, 3) := by decide +kernel
theorem dL_out_15 : decode cL_out 15 = .ok (.astore 6, 2) := by decide +kernel
theorem dL_out_17 : decode cL_out 17 = .ok (.iconst 1, 1) := by decide +kernel
theorem dL_out_18 : decode cL_out 18 = .ok (.ireturn, 1) := by decide +kernel
theorem dL_out_19 : decode cL_out 19 = .ok (.astore 6, 2) := by decide +kernel
theorem dL_out_21 : decode cL_out 21 = .ok (.iconst 2, 1) := by decide +kernel
theorem dL_out_22 : decode cL_out 22 = .ok (.ireturn, 1) := by decide +kernel
theorem dL_near_0 : decode cL_near 0 = .ok (.aload 5, 2) := by decide +kernel
theorem dL_near_2 : decode cL_near 2 = .ok (.iconst 0, 1) := by decide +kernel
theorem dL_near_3 : decode cL_near 3 = .ok (.aload_n 0, 1) := by decide +kernel
theorem dL_near_4 : decode cL_near 4 = .ok (.iload_n 1, 1) := by decide +kernel
theorem dL_near_5 : decode cL_near 5 = .ok (.lload_n 2, 1) := by decide +kernel
theorem dL_near_6 : decode cL_near 6 = .ok (.iload 4, 2) := by decide +kernel
theorem dL_near_8 : decode cL_near 8 = .ok (.invokevirtual 71, 3) := by decide +kernel
theorem dL_near_15 : decode cL_near 15 = .ok (.astore 6, 2) := by decide +kernel
theorem dL_near_17 : decode cL_near 17 = .ok (.iconst 1, 1) := by decide +kernel
theorem dL_near_18 : decode cL_near 18 = .ok (.ireturn, 1) := by decide +kernel
theorem dL_near_19 : decode cL_near 19 = .ok (.astore 6, 2) := by decide +kernel
theorem dL_near_21 : decode cL_near 21 = .ok (.iconst 2, 1) := by decide +kernel
theorem dL_near_22 : decode cL_near 22 = .ok (.ireturn, 1) := by decide +kernel
theorem dL_range_0 : decode cL_range 0 = .ok (.aload 7, 2) := by decide +kernel
theorem dL_range_2 : decode cL_range 2 = .ok (.iconst 0, 1) := by decide +kernel
theorem dL_range_3 : decode cL_range 3 = .ok (.aload_n 0, 1) := by decide +kernel
theorem dL_range_4 : decode cL_range 4 = .ok (.iload_n 1, 1) := by decide +kernel
theorem dL_range_5 : decode cL_range 5 = .ok (.iload_n 2, 1) := by decide +kernel
theorem dL_range_6 : decode cL_range 6 = .ok (.lload_n 3, 1) := by decide +kernel
theorem dL_range_7 : decode cL_range 7 = .ok (.lload 5, 2) := by decide +kernel
theorem dL_range_9 : decode cL_range 9 = .ok (.invokevirtual 75, 3) := by decide +kernel
theorem dL_range_17 : decode cL_range 17 = .ok (.astore 8, 2) := by decide +kernel
theorem dL_range_19 : decode cL_range 19 = .ok (.iconst 1, 1) := by decide +kernel
theorem dL_range_20 : decode cL_range 20 = .ok (.ireturn, 1) := by decide +kernel
theorem dL_range_21 : decode cL_range 21 = .ok (.astore 8, 2) := by decide +kernel
theorem dL_range_23 : decode cL_range 23 = .ok (.iconst 2, 1) := by decide +kernel
theorem dL_range_24 : decode cL_range 24 = .ok (.ireturn, 1) := by decide +kernel
theorem dL_join_0 : decode cL_join 0 = .ok (.aload 4, 2) := by decide +kernel
theorem dL_join_2 : decode cL_join 2 = .ok (.iconst 0, 1) := by decide +kernel
theorem dL_join_3 : decode cL_join 3 = .ok (.aload_n 0, 1) := by decide +kernel
theorem dL_join_4 : decode cL_join 4 = .ok (.iload_n 1, 1) := by decide +kernel
theorem dL_join_5 : decode cL_join 5 = .ok (.iload_n 2, 1) := by decide +kernel
theorem dL_join_6 : decode cL_join 6 = .ok (.iload_n 3, 1) := by decide +kernel
theorem dL_join_7 : decode cL_join 7 = .ok (.invokevirtual 78, 3) := by decide +kernel
theorem dL_join_15 : decode cL_join 15 = .ok (.astore 5, 2) := by decide +kernel
theorem dL_join_17 : decode cL_join 17 = .ok (.iconst 1, 1) := by decide +kernel
theorem dL_join_18 : decode cL_join 18 = .ok (.ireturn, 1) := by decide +kernel
theorem dL_join_19 : decode cL_join 19 = .ok (.astore 5, 2) := by decide +kernel
theorem dL_join_21 : decode cL_join 21 = .ok (.iconst 2, 1) := by decide +kernel
theorem dL_join_22 : decode cL_join 22 = .ok (.ireturn, 1) := by decide +kernel
theorem dL_meet_0 : decode cL_meet 0 = .ok (.aload 5, 2) := by decide +kernel
theorem dL_meet_2 : decode cL_meet 2 = .ok (.iconst 0, 1) := by decide +kernel
theorem dL_meet_3 : decode cL_meet 3 = .ok (.aload_n 0, 1) := by decide +kernel
theorem dL_meet_4 : decode cL_meet 4 = .ok (.iload_n 1, 1) := by decide +kernel
theorem dL_meet_5 : decode cL_meet 5 = .ok (.iload_n 2, 1) := by decide +kernel
theorem dL_meet_6 : decode cL_meet 6 = .ok (.iload_n 3, 1) := by decide +kernel
theorem dL_meet_7 : decode cL_meet 7 = .ok (.iload 4, 2) := by decide +kernel
theorem dL_meet_9 : decode cL_meet 9 = .ok (.invokevirtual 82, 3) := by decide +kernel
theorem dL_meet_17 : decode cL_meet 17 = .ok (.astore 6, 2) := by decide +kernel
theorem dL_meet_19 : decode cL_meet 19 = .ok (.iconst 1, 1) := by decide +kernel
theorem dL_meet_20 : decode cL_meet 20 = .ok (.ireturn, 1) := by decide +kernel
theorem dL_meet_21 : decode cL_meet 21 = .ok (.astore 6, 2) := by decide +kernel
theorem dL_meet_23 : decode cL_meet 23 = .ok (.iconst 2, 1) := by decide +kernel
theorem dL_meet_24 : decode cL_meet 24 = .ok (.ireturn, 1) := by decide +kernel
theorem dL_shape_0 : decode cL_shape 0 = .ok (.aload_n 2, 1) := by decide +kernel
theorem dL_shape_1 : decode cL_shape 1 = .ok (.iconst 0, 1) := by decide +kernel
theorem dL_shape_2 : decode cL_shape 2 = .ok (.aload_n 0, 1) := by decide +kernel
theorem dL_shape_3 : decode cL_shape 3 = .ok (.iload_n 1, 1) := by decide +kernel
theorem dL_shape_4 : decode cL_shape 4 = .ok (.invokevirtual 85, 3) := by decide +kernel
theorem dL_shape_12 : decode cL_shape 12 = .ok (.astore_n 3, 1) := by decide +kernel
theorem dL_shape_13 : decode cL_shape 13 = .ok (.iconst 1, 1) := by decide +kernel
theorem dL_shape_14 : decode cL_shape 14 = .ok (.ireturn, 1) := by decide +kernel
theorem dL_shape_15 : decode cL_shape 15 = .ok (.astore_n 3, 1) := by decide +kernel
theorem dL_shape_16 : decode cL_shape 16 = .ok (.iconst 2, 1) := by decide +kernel
theorem dL_shape_17 : decode cL_shape 17 = .ok (.ireturn, 1) := by decide +kernel
theorem dL_same_0 : decode cL_same 0 = .ok (.aload_n 3, 1) := by decide +kernel
theorem dL_same_1 : decode cL_same 1 = .ok (.iconst 0, 1) := by decide +kernel
theorem dL_same_2 : decode cL_same 2 = .ok (.aload_n 0, 1) := by decide +kernel
theorem dL_same_3 : decode cL_same 3 = .ok (.iload_n 1, 1) := by decide +kernel
theorem dL_same_4 : decode cL_same 4 = .ok (.iload_n 2, 1) := by decide +kernel
theorem dL_same_5 : decode cL_same 5 = .ok (.invokevirtual 88, 3) := by decide +kernel
theorem dL_same_20 : decode cL_same 20 = .ok (.astore 4, 2) := by decide +kernel
theorem dL_same_22 : decode cL_same 22 = .ok (.iconst 1, 1) := by decide +kernel
theorem dL_same_23 : decode cL_same 23 = .ok (.ireturn, 1) := by decide +kernel
theorem dL_same_24 : decode cL_same 24 = .ok (.astore 4, 2) := by decide +kernel
theorem dL_same_26 : decode cL_same 26 = .ok (.iconst 2, 1) := by decide +kernel
theorem dL_same_27 : decode cL_same 27 = .ok (.ireturn, 1) := by decide +kernel
theorem dL_map_0 : decode cL_map 0 = .ok (.aload_n 0, 1) := by decide +kernel
theorem dL_map_1 : decode cL_map 1 = .ok (.iload_n 1, 1) := by decide +kernel
theorem dL_map_2 : decode cL_map 2 = .ok (.iload_n 2, 1) := by decide +kernel
theorem dL_map_3 : decode cL_map 3 = .ok (.iload_n 3, 1) := by decide +kernel
theorem dL_map_4 : decode cL_map 4 = .ok (.lload 4, 2) := by decide +kernel
theorem dL_map_6 : decode cL_map 6 = .ok (.invokevirtual 92, 3) := by decide +kernel
theorem dL_map_12 : decode cL_map 12 = .ok (.astore 6, 2) := by decide +kernel
theorem dL_map_14 : decode cL_map 14 = .ok (.iconst 1, 1) := by decide +kernel
theorem dL_map_15 : decode cL_map 15 = .ok (.ireturn, 1) := by decide +kernel
theorem dL_map_16 : decode cL_map 16 = .ok (.astore 6, 2) := by decide +kernel
theorem dL_map_18 : decode cL_map 18 = .ok (.iconst 2, 1) := by decide +kernel
theorem dL_map_19 : decode cL_map 19 = .ok (.ireturn, 1) := by decide +kernel
theorem dL_filter_0 : decode cL_filter 0 = .ok (.aload_n 0, 1) := by decide +kernel
theorem dL_filter_1 : decode cL_filter 1 = .ok (.iload_n 1, 1) := by decide +kernel
theorem dL_filter_2 : decode cL_filter 2 = .ok (.iload_n 2, 1) := by decide +kernel
theorem dL_filter_3 : decode cL_filter 3 = .ok (.iload_n 3, 1) := by decide +kernel
theorem dL_filter_4 : decode cL_filter 4 = .ok (.lload 4, 2) := by decide +kernel
theorem dL_filter_6 : decode cL_filter 6 = .ok (.invokevirtual 96, 3) := by decide +kernel
theorem dL_filter_12 : decode cL_filter 12 = .ok (.astore 6, 2) := by decide +kernel
theorem dL_filter_14 : decode cL_filter 14 = .ok (.iconst 1, 1) := by decide +kernel
theorem dL_filter_15 : decode cL_filter 15 = .ok (.ireturn, 1) := by decide +kernel
theorem dL_filter_16 : decode cL_filter 16 = .ok (.astore 6, 2) := by decide +kernel
theorem dL_filter_18 : decode cL_filter 18 = .ok (.iconst 2, 1) := by decide +kernel
theorem dL_filter_19 : decode cL_filter 19 = .ok (.ireturn, 1) := by decide +kernel
theorem dL_take_0 : decode cL_take 0 = .ok (.aload_n 0, 1) := by decide +kernel
theorem dL_take_1 : decode cL_take 1 = .ok (.iload_n 1, 1) := by decide +kernel
theorem dL_take_2 : decode cL_take 2 = .ok (.iload_n 2, 1) := by decide +kernel
theorem dL_take_3 : decode cL_take 3 = .ok (.iload_n 3, 1) := by decide +kernel
theorem dL_take_4 : decode cL_take 4 = .ok (.invokevirtual 103, 3) := by decide +kernel
theorem dL_take_10 : decode cL_take 10 = .ok (.astore 4, 2) := by decide +kernel
theorem dL_take_12 : decode cL_take 12 = .ok (.iconst 1, 1) := by decide +kernel
theorem dL_take_13 : decode cL_take 13 = .ok (.ireturn, 1) := by decide +kernel
theorem dL_take_14 : decode cL_take 14 = .ok (.astore 4, 2) := by decide +kernel
theorem dL_take_16 : decode cL_take 16 = .ok (.iconst 2, 1) := by decide +kernel
theorem dL_take_17 : decode cL_take 17 = .ok (.ireturn, 1) := by decide +kernel
theorem dL_list_0 : decode cL_list 0 = .ok (.aload 4, 2) := by decide +kernel
theorem dL_list_2 : decode cL_list 2 = .ok (.iconst 0, 1) := by decide +kernel
theorem dL_list_3 : decode cL_list 3 = .ok (.aload_n 0, 1) := by decide +kernel
theorem dL_list_4 : decode cL_list 4 = .ok (.iload_n 1, 1) := by decide +kernel
theorem dL_list_5 : decode cL_list 5 = .ok (.iload_n 2, 1) := by decide +kernel
theorem dL_list_6 : decode cL_list 6 = .ok (.iload_n 3, 1) := by decide +kernel
theorem dL_list_7 : decode cL_list 7 = .ok (.invokevirtual 107, 3) := by decide +kernel
theorem dL_list_15 : decode cL_list 15 = .ok (.astore 5, 2) := by decide +kernel
theorem dL_list_17 : decode cL_list 17 = .ok (.iconst 1, 1) := by decide +kernel
theorem dL_list_18 : decode cL_list 18 = .ok (.ireturn, 1) := by decide +kernel
theorem dL_list_19 : decode cL_list 19 = .ok (.astore 5, 2) := by decide +kernel
theorem dL_list_21 : decode cL_list 21 = .ok (.iconst 2, 1) := by decide +kernel
theorem dL_list_22 : decode cL_list 22 = .ok (.ireturn, 1) := by decide +kernel
theorem dL_turn_0 : decode cL_turn 0 = .ok (.aload_n 0, 1) := by decide +kernel
theorem dL_turn_1 : decode cL_turn 1 = .ok (.iload_n 1, 1) := by decide +kernel
theorem dL_turn_2 : decode cL_turn 2 = .ok (.iload_n 2, 1) := by decide +kernel
theorem dL_turn_3 : decode cL_turn 3 = .ok (.invokevirtual 110, 3) := by decide +kernel
theorem dL_turn_9 : decode cL_turn 9 = .ok (.astore_n 3, 1) := by decide +kernel
theorem dL_turn_10 : decode cL_turn 10 = .ok (.iconst 1, 1) := by decide +kernel
theorem dL_turn_11 : decode cL_turn 11 = .ok (.ireturn, 1) := by decide +kernel
theorem dL_turn_12 : decode cL_turn 12 = .ok (.astore_n 3, 1) := by decide +kernel
theorem dL_turn_13 : decode cL_turn 13 = .ok (.iconst 2, 1) := by decide +kernel
theorem dL_turn_14 : decode cL_turn 14 = .ok (.ireturn, 1) := by decide +kernel
theorem dL_open_0 : decode cL_open 0 = .ok (.aload_n 0, 1) := by decide +kernel
theorem dL_open_1 : decode cL_open 1 = .ok (.iload_n 1, 1) := by decide +kernel
theorem dL_open_2 : decode cL_open 2 = .ok (.iload_n 2, 1) := by decide +kernel
theorem dL_open_3 : decode cL_open 3 = .ok (.invokevirtual 113, 3) := by decide +kernel
theorem dL_open_9 : decode cL_open 9 = .ok (.astore_n 3, 1) := by decide +kernel
theorem dL_open_10 : decode cL_open 10 = .ok (.iconst 1, 1) := by decide +kernel
theorem dL_open_11 : decode cL_open 11 = .ok (.ireturn, 1) := by decide +kernel
theorem dL_open_12 : decode cL_open 12 = .ok (.astore_n 3, 1) := by decide +kernel
theorem dL_open_13 : decode cL_open 13 = .ok (.iconst 2, 1) := by decide +kernel
theorem dL_open_14 : decode cL_open 14 = .ok (.ireturn, 1) := by decide +kernel
theorem dL_build_0 : decode cL_build 0 = .ok (.aload 7, 2) := by decide +kernel
theorem dL_build_2 : decode cL_build 2 = .ok (.iconst 0, 1) := by decide +kernel
theorem dL_build_3 : decode cL_build 3 = .ok (.aload_n 0, 1) := by decide +kernel
theorem dL_build_4 : decode cL_build 4 = .ok (.iload_n 1, 1) := by decide +kernel
theorem dL_build_5 : decode cL_build 5 = .ok (.iload_n 2, 1) := by decide +kernel
theorem dL_build_6 : decode cL_build 6 = .ok (.lload_n 3, 1) := by decide +kernel
theorem dL_build_7 : decode cL_build 7 = .ok (.lload 5, 2) := by decide +kernel
theorem dL_build_9 : decode cL_build 9 = .ok (.invokevirtual 116, 3) := by decide +kernel
theorem dL_build_17 : decode cL_build 17 = .ok (.astore 8, 2) := by decide +kernel
theorem dL_build_19 : decode cL_build 19 = .ok (.iconst 1, 1) := by decide +kernel
theorem dL_build_20 : decode cL_build 20 = .ok (.ireturn, 1) := by decide +kernel
theorem dL_build_21 : decode cL_build 21 = .ok (.astore 8, 2) := by decide +kernel
theorem dL_build_23 : decode cL_build 23 = .ok (.iconst 2, 1) := by decide +kernel
theorem dL_build_24 : decode cL_build 24 = .ok (.ireturn, 1) := by decide +kernel
theorem dL_look_0 : decode cL_look 0 = .ok (.aload 4, 2) := by decide +kernel
theorem dL_look_2 : decode cL_look 2 = .ok (.iconst 0, 1) := by decide +kernel
theorem dL_look_3 : decode cL_look 3 = .ok (.aload_n 0, 1) := by decide +kernel
theorem dL_look_4 : decode cL_look 4 = .ok (.iload_n 1, 1) := by decide +kernel
theorem dL_look_5 : decode cL_look 5 = .ok (.lload_n 2, 1) := by decide +kernel
theorem dL_look_6 : decode cL_look 6 = .ok (.invokevirtual 121, 3) := by decide +kernel
theorem dL_look_13 : decode cL_look 13 = .ok (.astore 5, 2) := by decide +kernel
theorem dL_look_15 : decode cL_look 15 = .ok (.iconst 1, 1) := by decide +kernel
theorem dL_look_16 : decode cL_look 16 = .ok (.ireturn, 1) := by decide +kernel
theorem dL_look_17 : decode cL_look 17 = .ok (.astore 5, 2) := by decide +kernel
theorem dL_look_19 : decode cL_look 19 = .ok (.iconst 2, 1) := by decide +kernel
theorem dL_look_20 : decode cL_look 20 = .ok (.ireturn, 1) := by decide +kernel
theorem dL_freeze_0 : decode cL_freeze 0 = .ok (.aload_n 3, 1) := by decide +kernel
theorem dL_freeze_1 : decode cL_freeze 1 = .ok (.iconst 0, 1) := by decide +kernel
theorem dL_freeze_2 : decode cL_freeze 2 = .ok (.aload_n 0, 1) := by decide +kernel
theorem dL_freeze_3 : decode cL_freeze 3 = .ok (.iload_n 1, 1) := by decide +kernel
theorem dL_freeze_4 : decode cL_freeze 4 = .ok (.iload_n 2, 1) := by decide +kernel
theorem dL_freeze_5 : decode cL_freeze 5 = .ok (.invokevirtual 124, 3) := by decide +kernel
theorem dL_freeze_13 : decode cL_freeze 13 = .ok (.astore 4, 2) := by decide +kernel
theorem dL_freeze_15 : decode cL_freeze 15 = .ok (.iconst 1, 1) := by decide +kernel
theorem dL_freeze_16 : decode cL_freeze 16 = .ok (.ireturn, 1) := by decide +kernel
theorem dL_freeze_17 : decode cL_freeze 17 = .ok (.astore 4, 2) := by decide +kernel
theorem dL_freeze_19 : decode cL_freeze 19 = .ok (.iconst 2, 1) := by decide +kernel
theorem dL_freeze_20 : decode cL_freeze 20 = .ok (.ireturn, 1) := by decide +kernel