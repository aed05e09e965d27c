theorem qdel_in {h : qH} {s a : Nat} {o : va_E} (e : qdel h s a = some o) : a ≠ s ∧ h a = some o := by
  unfold qdel at e
  split at e
  · cases e
  · exact ⟨by assumption, e⟩
theorem qdel_1 {h : qH} {s q : Nat} {o o' : va_E} (e : h q = none) : qle (qdel h s) (qs (qs h q o) s o') := fun a p ha => by
  obtain ⟨n, h1⟩ := qdel_in ha
  exact (qs_ne n).trans (qle_new e _ _ h1)
theorem qdel_2 {h : qH} {s t q : Nat} {o1 o o' : va_E} (e : h t = none) (e2 : (qs h t o1) q = none) : qle (qdel h s) (qs (qs (qs h t o1) q o) s o') := fun a p ha => by
  obtain ⟨n, h1⟩ := qdel_in ha
  exact (qs_ne n).trans (qle_new e2 _ _ (qle_new e _ _ h1))

theorem dL_make_0 : decode cL_make 0 = .ok (.aload_n 0, 1) := by decide +kernel
theorem dL_make_1 : decode cL_make 1 = .ok (.iload_n 1, 1) := by decide +kernel
theorem dL_make_2 : decode cL_make 2 = .ok (.iload_n 2, 1) := by decide +kernel
theorem dL_make_3 : decode cL_make 3 = .ok (.invokevirtual 7, 3) := by decide +kernel
theorem dL_make_6 : decode cL_make 6 = .ok (.goto 6, 3) := by decide +kernel
theorem dL_make_9 : decode cL_make 9 = .ok (.astore_n 3, 1) := by decide +kernel
theorem dL_make_10 : decode cL_make 10 = .ok (.iconst 1, 1) := by decide +kernel
theorem dL_make_11 : decode cL_make 11 = .ok (.ireturn, 1) := by decide +kernel
theorem dL_make_12 : decode cL_make 12 = .ok (.iconst 0, 1) := by decide +kernel
theorem dL_make_13 : decode cL_make 13 = .ok (.ireturn, 1) := by decide +kernel
theorem dL_iterate_0 : decode cL_iterate 0 = .ok (.aload_n 0, 1) := by decide +kernel
theorem dL_iterate_1 : decode cL_iterate 1 = .ok (.iload_n 1, 1) := by decide +kernel
theorem dL_iterate_2 : decode cL_iterate 2 = .ok (.lload_n 2, 1) := by decide +kernel
theorem dL_iterate_3 : decode cL_iterate 3 = .ok (.iload 4, 2) := by decide +kernel
theorem dL_iterate_5 : decode cL_iterate 5 = .ok (.lload 5, 2) := by decide +kernel
theorem dL_iterate_7 : decode cL_iterate 7 = .ok (.invokevirtual 99, 3) := by decide +kernel
theorem dL_iterate_10 : decode cL_iterate 10 = .ok (.goto 7, 3) := by decide +kernel
theorem dL_iterate_13 : decode cL_iterate 13 = .ok (.astore 7, 2) := by decide +kernel
theorem dL_iterate_15 : decode cL_iterate 15 = .ok (.iconst 1, 1) := by decide +kernel
theorem dL_iterate_16 : decode cL_iterate 16 = .ok (.ireturn, 1) := by decide +kernel
theorem dL_iterate_17 : decode cL_iterate 17 = .ok (.iconst 0, 1) := by decide +kernel
theorem dL_iterate_18 : decode cL_iterate 18 = .ok (.ireturn, 1) := by decide +kernel
theorem q_zero {p : Program} {l : Launch} {e : Env} {R : Room} {s : State} {m : MethodId} {args : Array Value} {below : List Frame} {meth : Method} {c : Code} {H : Heap} {locs : List Loc} {cells slots : Nat} {Q : State → Prop} {pc : Nat} {ls : Array Slot} {v : Value} {rest : List Value}
    (k : W p l e R s m args below meth c H locs cells slots Q (F0 m pc ls (v :: .int (nI 0) :: rest))) : W p l e R s m args below meth c H locs cells slots Q (F0 m pc ls (v :: .int 0 :: rest)) := by
  rw [← nI_0]; exact k

theorem dL_kind_0 : decode cL_kind 0 = .ok (.aload_n 2, 1) := by decide +kernel
theorem dL_kind_1 : decode cL_kind 1 = .ok (.iconst 0, 1) := by decide +kernel
theorem dL_kind_2 : decode cL_kind 2 = .ok (.aload_n 0, 1) := by decide +kernel
theorem dL_kind_3 : decode cL_kind 3 = .ok (.iload_n 1, 1) := by decide +kernel
theorem dL_kind_4 : decode cL_kind 4 = .ok (.invokevirtual 24, 3) := by decide +kernel
theorem dL_kind_7 : decode cL_kind 7 = .ok (.i2l, 1) := by decide +kernel
theorem dL_kind_8 : decode cL_kind 8 = .ok (.lastore, 1) := by decide +kernel
theorem dL_kind_9 : decode cL_kind 9 = .ok (.goto 6, 3) := by decide +kernel
theorem dL_kind_12 : decode cL_kind 12 = .ok (.astore_n 3, 1) := by decide +kernel
theorem dL_kind_13 : decode cL_kind 13 = .ok (.iconst 1, 1) := by decide +kernel
theorem dL_kind_14 : decode cL_kind 14 = .ok (.ireturn, 1) := by decide +kernel
theorem dL_kind_15 : decode cL_kind 15 = .ok (.iconst 0, 1) := by decide +kernel
theorem dL_kind_16 : decode cL_kind 16 = .ok (.ireturn, 1) := by decide +kernel
theorem dL_count_0 : decode cL_count 0 = .ok (.aload_n 2, 1) := by decide +kernel
theorem dL_count_1 : decode cL_count 1 = .ok (.iconst 0, 1) := by decide +kernel
theorem dL_count_2 : decode cL_count 2 = .ok (.aload_n 0, 1) := by decide +kernel
theorem dL_count_3 : decode cL_count 3 = .ok (.iload_n 1, 1) := by decide +kernel
theorem dL_count_4 : decode cL_count 4 = .ok (.invokevirtual 128, 3) := by decide +kernel
theorem dL_count_7 : decode cL_count 7 = .ok (.i2l, 1) := by decide +kernel
theorem dL_count_8 : decode cL_count 8 = .ok (.lastore, 1) := by decide +kernel
theorem dL_count_9 : decode cL_count 9 = .ok (.goto 6, 3) := by decide +kernel
theorem dL_count_12 : decode cL_count 12 = .ok (.astore_n 3, 1) := by decide +kernel
theorem dL_count_13 : decode cL_count 13 = .ok (.iconst 1, 1) := by decide +kernel
theorem dL_count_14 : decode cL_count 14 = .ok (.ireturn, 1) := by decide +kernel
theorem dL_count_15 : decode cL_count 15 = .ok (.iconst 0, 1) := by decide +kernel
theorem dL_count_16 : decode cL_count 16 = .ok (.ireturn, 1) := by decide +kernel