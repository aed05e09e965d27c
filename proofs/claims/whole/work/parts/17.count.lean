theorem dX6_openBuilders_0 : decode cX6_openBuilders 0 = .ok (.iconst 0, 1) := by decide +kernel
theorem dX6_openBuilders_1 : decode cX6_openBuilders 1 = .ok (.istore_n 1, 1) := by decide +kernel
theorem dX6_openBuilders_2 : decode cX6_openBuilders 2 = .ok (.aload_n 0, 1) := by decide +kernel
theorem dX6_openBuilders_3 : decode cX6_openBuilders 3 = .ok (.getfield 17, 3) := by decide +kernel
theorem dX6_openBuilders_6 : decode cX6_openBuilders 6 = .ok (.astore_n 2, 1) := by decide +kernel
theorem dX6_openBuilders_7 : decode cX6_openBuilders 7 = .ok (.aload_n 2, 1) := by decide +kernel
theorem dX6_openBuilders_8 : decode cX6_openBuilders 8 = .ok (.arraylength, 1) := by decide +kernel
theorem dX6_openBuilders_9 : decode cX6_openBuilders 9 = .ok (.istore_n 3, 1) := by decide +kernel
theorem dX6_openBuilders_10 : decode cX6_openBuilders 10 = .ok (.iconst 0, 1) := by decide +kernel
theorem dX6_openBuilders_11 : decode cX6_openBuilders 11 = .ok (.istore 4, 2) := by decide +kernel
theorem dX6_openBuilders_13 : decode cX6_openBuilders 13 = .ok (.iload 4, 2) := by decide +kernel
theorem dX6_openBuilders_15 : decode cX6_openBuilders 15 = .ok (.iload_n 3, 1) := by decide +kernel
theorem dX6_openBuilders_16 : decode cX6_openBuilders 16 = .ok (.if_icmp .ge 26, 3) := by decide +kernel
theorem dX6_openBuilders_19 : decode cX6_openBuilders 19 = .ok (.aload_n 2, 1) := by decide +kernel
theorem dX6_openBuilders_20 : decode cX6_openBuilders 20 = .ok (.iload 4, 2) := by decide +kernel
theorem dX6_openBuilders_22 : decode cX6_openBuilders 22 = .ok (.aaload, 1) := by decide +kernel
theorem dX6_openBuilders_23 : decode cX6_openBuilders 23 = .ok (.astore 5, 2) := by decide +kernel
theorem dX6_openBuilders_25 : decode cX6_openBuilders 25 = .ok (.aload 5, 2) := by decide +kernel
theorem dX6_openBuilders_27 : decode cX6_openBuilders 27 = .ok (.getfield 315, 3) := by decide +kernel
theorem dX6_openBuilders_30 : decode cX6_openBuilders 30 = .ok (.ifCond .eq 6, 3) := by decide +kernel
theorem dX6_openBuilders_36 : decode cX6_openBuilders 36 = .ok (.iinc 4 1, 3) := by decide +kernel
theorem dX6_openBuilders_39 : decode cX6_openBuilders 39 = .ok (.goto (-26), 3) := by decide +kernel
theorem dX6_openBuilders_42 : decode cX6_openBuilders 42 = .ok (.iload_n 1, 1) := by decide +kernel
theorem dX6_openBuilders_43 : decode cX6_openBuilders 43 = .ok (.ireturn, 1) := by decide +kernel
theorem dX6_unsoundSlots_0 : decode cX6_unsoundSlots 0 = .ok (.iconst 0, 1) := by decide +kernel
theorem dX6_unsoundSlots_1 : decode cX6_unsoundSlots 1 = .ok (.istore_n 1, 1) := by decide +kernel
theorem dX6_unsoundSlots_2 : decode cX6_unsoundSlots 2 = .ok (.aload_n 0, 1) := by decide +kernel
theorem dX6_unsoundSlots_3 : decode cX6_unsoundSlots 3 = .ok (.getfield 11, 3) := by decide +kernel
theorem dX6_unsoundSlots_6 : decode cX6_unsoundSlots 6 = .ok (.astore_n 2, 1) := by decide +kernel
theorem dX6_unsoundSlots_7 : decode cX6_unsoundSlots 7 = .ok (.aload_n 2, 1) := by decide +kernel
theorem dX6_unsoundSlots_8 : decode cX6_unsoundSlots 8 = .ok (.arraylength, 1) := by decide +kernel
theorem dX6_unsoundSlots_9 : decode cX6_unsoundSlots 9 = .ok (.istore_n 3, 1) := by decide +kernel
theorem dX6_unsoundSlots_10 : decode cX6_unsoundSlots 10 = .ok (.iconst 0, 1) := by decide +kernel
theorem dX6_unsoundSlots_11 : decode cX6_unsoundSlots 11 = .ok (.istore 4, 2) := by decide +kernel
theorem dX6_unsoundSlots_13 : decode cX6_unsoundSlots 13 = .ok (.iload 4, 2) := by decide +kernel
theorem dX6_unsoundSlots_15 : decode cX6_unsoundSlots 15 = .ok (.iload_n 3, 1) := by decide +kernel
theorem dX6_unsoundSlots_16 : decode cX6_unsoundSlots 16 = .ok (.if_icmp .ge 35, 3) := by decide +kernel
theorem dX6_unsoundSlots_19 : decode cX6_unsoundSlots 19 = .ok (.aload_n 2, 1) := by decide +kernel
theorem dX6_unsoundSlots_20 : decode cX6_unsoundSlots 20 = .ok (.iload 4, 2) := by decide +kernel
theorem dX6_unsoundSlots_22 : decode cX6_unsoundSlots 22 = .ok (.aaload, 1) := by decide +kernel
theorem dX6_unsoundSlots_23 : decode cX6_unsoundSlots 23 = .ok (.astore 5, 2) := by decide +kernel
theorem dX6_unsoundSlots_25 : decode cX6_unsoundSlots 25 = .ok (.aload 5, 2) := by decide +kernel
theorem dX6_unsoundSlots_27 : decode cX6_unsoundSlots 27 = .ok (.ifnull 18, 3) := by decide +kernel
theorem dX6_unsoundSlots_45 : decode cX6_unsoundSlots 45 = .ok (.iinc 4 1, 3) := by decide +kernel
theorem dX6_unsoundSlots_48 : decode cX6_unsoundSlots 48 = .ok (.goto (-35), 3) := by decide +kernel
theorem dX6_unsoundSlots_51 : decode cX6_unsoundSlots 51 = .ok (.iload_n 1, 1) := by decide +kernel
theorem dX6_unsoundSlots_52 : decode cX6_unsoundSlots 52 = .ok (.ireturn, 1) := by decide +kernel
theorem dX6_count_0 : decode cX6_count 0 = .ok (.iload_n 1, 1) := by decide +kernel
theorem dX6_count_1 : decode cX6_count 1 = .ok (.iconst 3, 1) := by decide +kernel
theorem dX6_count_2 : decode cX6_count 2 = .ok (.invokestatic 43, 3) := by decide +kernel
theorem dX6_count_5 : decode cX6_count 5 = .ok (.iload_n 1, 1) := by decide +kernel
theorem dX6_count_6 : decode cX6_count 6 = .ok (.tableswitch 41 0 2 #[26, 31, 36], 26) := by decide +kernel
theorem dX6_count_32 : decode cX6_count 32 = .ok (.aload_n 0, 1) := by decide +kernel
theorem dX6_count_33 : decode cX6_count 33 = .ok (.getfield 357, 3) := by decide +kernel
theorem dX6_count_36 : decode cX6_count 36 = .ok (.ireturn, 1) := by decide +kernel
theorem dX6_count_37 : decode cX6_count 37 = .ok (.aload_n 0, 1) := by decide +kernel
theorem dX6_count_38 : decode cX6_count 38 = .ok (.getfield 360, 3) := by decide +kernel
theorem dX6_count_41 : decode cX6_count 41 = .ok (.ireturn, 1) := by decide +kernel
theorem dX6_count_42 : decode cX6_count 42 = .ok (.aload_n 0, 1) := by decide +kernel
theorem dX6_count_43 : decode cX6_count 43 = .ok (.invokevirtual 363, 3) := by decide +kernel
theorem dX6_count_46 : decode cX6_count 46 = .ok (.ireturn, 1) := by decide +kernel
theorem dX6_count_47 : decode cX6_count 47 = .ok (.aload_n 0, 1) := by decide +kernel
theorem dX6_count_48 : decode cX6_count 48 = .ok (.invokevirtual 366, 3) := by decide +kernel
theorem dX6_count_51 : decode cX6_count 51 = .ok (.ireturn, 1) := by decide +kernel