theorem DL_cell_c0 : decode cL_cell 0 = .ok (.iload_n 1, 1) ∧ decode cL_cell 1 = .ok (.aload_n 0, 1) ∧ decode cL_cell 2 = .ok (.arraylength, 1) ∧ decode cL_cell 3 = .ok (.if_icmp .ge 9, 3) ∧ decode cL_cell 6 = .ok (.aload_n 0, 1) ∧ decode cL_cell 7 = .ok (.iload_n 1, 1) ∧ decode cL_cell 8 = .ok (.iaload, 1) ∧ decode cL_cell 9 = .ok (.goto 14, 3) ∧ decode cL_cell 12 = .ok (.ldc 7, 2) ∧ decode cL_cell 14 = .ok (.iload_n 1, 1) ∧ decode cL_cell 15 = .ok (.sipush 257, 3) ∧ decode cL_cell 18 = .ok (.iadd, 1) ∧ decode cL_cell 19 = .ok (.imul, 1) ∧ decode cL_cell 20 = .ok (.ldc 8, 2) ∧ decode cL_cell 22 = .ok (.iadd, 1) ∧ decode cL_cell 23 = .ok (.ldc 9, 2) := by decide +kernel
theorem dL_cell_0 : Dc cL_cell 0 (.iload_n 1) 1 1 := ⟨DL_cell_c0.1, rfl⟩
theorem dL_cell_1 : Dc cL_cell 1 (.aload_n 0) 1 2 := ⟨DL_cell_c0.2.1, rfl⟩
theorem dL_cell_2 : Dc cL_cell 2 (.arraylength) 1 3 := ⟨DL_cell_c0.2.2.1, rfl⟩
theorem dL_cell_3 : Db cL_cell 3 (fun o => .if_icmp .ge o) 6 12 := ⟨9, DL_cell_c0.2.2.2.1, rfl, rfl⟩
theorem dL_cell_6 : Dc cL_cell 6 (.aload_n 0) 1 7 := ⟨DL_cell_c0.2.2.2.2.1, rfl⟩
theorem dL_cell_7 : Dc cL_cell 7 (.iload_n 1) 1 8 := ⟨DL_cell_c0.2.2.2.2.2.1, rfl⟩
theorem dL_cell_8 : Dc cL_cell 8 (.iaload) 1 9 := ⟨DL_cell_c0.2.2.2.2.2.2.1, rfl⟩
theorem dL_cell_9 : Db cL_cell 9 .goto 12 23 := ⟨14, DL_cell_c0.2.2.2.2.2.2.2.1, rfl, rfl⟩
theorem dL_cell_12 : Dc cL_cell 12 (.ldc 7) 2 14 := ⟨DL_cell_c0.2.2.2.2.2.2.2.2.1, rfl⟩
theorem dL_cell_14 : Dc cL_cell 14 (.iload_n 1) 1 15 := ⟨DL_cell_c0.2.2.2.2.2.2.2.2.2.1, rfl⟩
theorem dL_cell_15 : Dc cL_cell 15 (.sipush 257) 3 18 := ⟨DL_cell_c0.2.2.2.2.2.2.2.2.2.2.1, rfl⟩
theorem dL_cell_18 : Dc cL_cell 18 (.iadd) 1 19 := ⟨DL_cell_c0.2.2.2.2.2.2.2.2.2.2.2.1, rfl⟩
theorem dL_cell_19 : Dc cL_cell 19 (.imul) 1 20 := ⟨DL_cell_c0.2.2.2.2.2.2.2.2.2.2.2.2.1, rfl⟩
theorem dL_cell_20 : Dc cL_cell 20 (.ldc 8) 2 22 := ⟨DL_cell_c0.2.2.2.2.2.2.2.2.2.2.2.2.2.1, rfl⟩
theorem dL_cell_22 : Dc cL_cell 22 (.iadd) 1 23 := ⟨DL_cell_c0.2.2.2.2.2.2.2.2.2.2.2.2.2.2.1, rfl⟩
theorem dL_cell_23 : Dc cL_cell 23 (.ldc 9) 2 25 := ⟨DL_cell_c0.2.2.2.2.2.2.2.2.2.2.2.2.2.2.2, rfl⟩
theorem DL_cell_c1 : decode cL_cell 25 = .ok (.iand, 1) ∧ decode cL_cell 26 = .ok (.ireturn, 1) := by decide +kernel
theorem dL_cell_25 : Dc cL_cell 25 (.iand) 1 26 := ⟨DL_cell_c1.1, rfl⟩
theorem dL_cell_26 : Dc cL_cell 26 (.ireturn) 1 27 := ⟨DL_cell_c1.2, rfl⟩
theorem DL_greatest_c0 : decode cL_greatest 0 = .ok (.iload_n 0, 1) ∧ decode cL_greatest 1 = .ok (.ifCond .eq 13, 3) ∧ decode cL_greatest 4 = .ok (.iload_n 0, 1) ∧ decode cL_greatest 5 = .ok (.iconst 3, 1) ∧ decode cL_greatest 6 = .ok (.if_icmp .eq 8, 3) ∧ decode cL_greatest 9 = .ok (.iload_n 0, 1) ∧ decode cL_greatest 10 = .ok (.iconst 4, 1) ∧ decode cL_greatest 11 = .ok (.if_icmp .ne 8, 3) ∧ decode cL_greatest 14 = .ok (.bipush 29, 2) ∧ decode cL_greatest 16 = .ok (.goto 5, 3) ∧ decode cL_greatest 19 = .ok (.bipush 99, 2) ∧ decode cL_greatest 21 = .ok (.ireturn, 1) := by decide +kernel
theorem dL_greatest_0 : Dc cL_greatest 0 (.iload_n 0) 1 1 := ⟨DL_greatest_c0.1, rfl⟩
theorem dL_greatest_1 : Db cL_greatest 1 (fun o => .ifCond .eq o) 4 14 := ⟨13, DL_greatest_c0.2.1, rfl, rfl⟩
theorem dL_greatest_4 : Dc cL_greatest 4 (.iload_n 0) 1 5 := ⟨DL_greatest_c0.2.2.1, rfl⟩
theorem dL_greatest_5 : Dc cL_greatest 5 (.iconst 3) 1 6 := ⟨DL_greatest_c0.2.2.2.1, rfl⟩
theorem dL_greatest_6 : Db cL_greatest 6 (fun o => .if_icmp .eq o) 9 14 := ⟨8, DL_greatest_c0.2.2.2.2.1, rfl, rfl⟩
theorem dL_greatest_9 : Dc cL_greatest 9 (.iload_n 0) 1 10 := ⟨DL_greatest_c0.2.2.2.2.2.1, rfl⟩
theorem dL_greatest_10 : Dc cL_greatest 10 (.iconst 4) 1 11 := ⟨DL_greatest_c0.2.2.2.2.2.2.1, rfl⟩
theorem dL_greatest_11 : Db cL_greatest 11 (fun o => .if_icmp .ne o) 14 19 := ⟨8, DL_greatest_c0.2.2.2.2.2.2.2.1, rfl, rfl⟩
theorem dL_greatest_14 : Dc cL_greatest 14 (.bipush 29) 2 16 := ⟨DL_greatest_c0.2.2.2.2.2.2.2.2.1, rfl⟩
theorem dL_greatest_16 : Db cL_greatest 16 .goto 19 21 := ⟨5, DL_greatest_c0.2.2.2.2.2.2.2.2.2.1, rfl, rfl⟩
theorem dL_greatest_19 : Dc cL_greatest 19 (.bipush 99) 2 21 := ⟨DL_greatest_c0.2.2.2.2.2.2.2.2.2.2.1, rfl⟩
theorem dL_greatest_21 : Dc cL_greatest 21 (.ireturn) 1 22 := ⟨DL_greatest_c0.2.2.2.2.2.2.2.2.2.2.2, rfl⟩
theorem DL_seen_c0 : decode cL_seen 0 = .ok (.ldc2_w 10, 3) ∧ decode cL_seen 3 = .ok (.lstore_n 1, 1) ∧ decode cL_seen 4 = .ok (.iconst 0, 1) ∧ decode cL_seen 5 = .ok (.istore_n 3, 1) ∧ decode cL_seen 6 = .ok (.iload_n 3, 1) ∧ decode cL_seen 7 = .ok (.bipush 30, 2) ∧ decode cL_seen 9 = .ok (.if_icmp .ge 22, 3) ∧ decode cL_seen 12 = .ok (.ldc2_w 12, 3) ∧ decode cL_seen 15 = .ok (.lload_n 1, 1) ∧ decode cL_seen 16 = .ok (.lmul, 1) ∧ decode cL_seen 17 = .ok (.aload_n 0, 1) ∧ decode cL_seen 18 = .ok (.iload_n 3, 1) ∧ decode cL_seen 19 = .ok (.invokevirtual 14, 3) ∧ decode cL_seen 22 = .ok (.i2l, 1) ∧ decode cL_seen 23 = .ok (.ladd, 1) ∧ decode cL_seen 24 = .ok (.lstore_n 1, 1) := by decide +kernel
theorem dL_seen_0 : Dc cL_seen 0 (.ldc2_w 10) 3 3 := ⟨DL_seen_c0.1, rfl⟩
theorem dL_seen_3 : Dc cL_seen 3 (.lstore_n 1) 1 4 := ⟨DL_seen_c0.2.1, rfl⟩
theorem dL_seen_4 : Dc cL_seen 4 (.iconst 0) 1 5 := ⟨DL_seen_c0.2.2.1, rfl⟩
theorem dL_seen_5 : Dc cL_seen 5 (.istore_n 3) 1 6 := ⟨DL_seen_c0.2.2.2.1, rfl⟩
theorem dL_seen_6 : Dc cL_seen 6 (.iload_n 3) 1 7 := ⟨DL_seen_c0.2.2.2.2.1, rfl⟩
theorem dL_seen_7 : Dc cL_seen 7 (.bipush 30) 2 9 := ⟨DL_seen_c0.2.2.2.2.2.1, rfl⟩
theorem dL_seen_9 : Db cL_seen 9 (fun o => .if_icmp .ge o) 12 31 := ⟨22, DL_seen_c0.2.2.2.2.2.2.1, rfl, rfl⟩
theorem dL_seen_12 : Dc cL_seen 12 (.ldc2_w 12) 3 15 := ⟨DL_seen_c0.2.2.2.2.2.2.2.1, rfl⟩
theorem dL_seen_15 : Dc cL_seen 15 (.lload_n 1) 1 16 := ⟨DL_seen_c0.2.2.2.2.2.2.2.2.1, rfl⟩
theorem dL_seen_16 : Dc cL_seen 16 (.lmul) 1 17 := ⟨DL_seen_c0.2.2.2.2.2.2.2.2.2.1, rfl⟩
theorem dL_seen_17 : Dc cL_seen 17 (.aload_n 0) 1 18 := ⟨DL_seen_c0.2.2.2.2.2.2.2.2.2.2.1, rfl⟩
theorem dL_seen_18 : Dc cL_seen 18 (.iload_n 3) 1 19 := ⟨DL_seen_c0.2.2.2.2.2.2.2.2.2.2.2.1, rfl⟩
theorem dL_seen_19 : Dc cL_seen 19 (.invokevirtual 14) 3 22 := ⟨DL_seen_c0.2.2.2.2.2.2.2.2.2.2.2.2.1, rfl⟩
theorem dL_seen_22 : Dc cL_seen 22 (.i2l) 1 23 := ⟨DL_seen_c0.2.2.2.2.2.2.2.2.2.2.2.2.2.1, rfl⟩
theorem dL_seen_23 : Dc cL_seen 23 (.ladd) 1 24 := ⟨DL_seen_c0.2.2.2.2.2.2.2.2.2.2.2.2.2.2.1, rfl⟩
theorem dL_seen_24 : Dc cL_seen 24 (.lstore_n 1) 1 25 := ⟨DL_seen_c0.2.2.2.2.2.2.2.2.2.2.2.2.2.2.2, rfl⟩
theorem DL_seen_c1 : decode cL_seen 25 = .ok (.iinc 3 1, 3) ∧ decode cL_seen 28 = .ok (.goto (-22), 3) ∧ decode cL_seen 31 = .ok (.iconst 0, 1) ∧ decode cL_seen 32 = .ok (.istore_n 3, 1) ∧ decode cL_seen 33 = .ok (.iload_n 3, 1) ∧ decode cL_seen 34 = .ok (.bipush 10, 2) ∧ decode cL_seen 36 = .ok (.if_icmp .ge 22, 3) ∧ decode cL_seen 39 = .ok (.ldc2_w 12, 3) ∧ decode cL_seen 42 = .ok (.lload_n 1, 1) ∧ decode cL_seen 43 = .ok (.lmul, 1) ∧ decode cL_seen 44 = .ok (.aload_n 0, 1) ∧ decode cL_seen 45 = .ok (.iload_n 3, 1) ∧ decode cL_seen 46 = .ok (.invokevirtual 20, 3) ∧ decode cL_seen 49 = .ok (.i2l, 1) ∧ decode cL_seen 50 = .ok (.ladd, 1) ∧ decode cL_seen 51 = .ok (.lstore_n 1, 1) := by decide +kernel
theorem dL_seen_25 : Dc cL_seen 25 (.iinc 3 1) 3 28 := ⟨DL_seen_c1.1, rfl⟩
theorem dL_seen_28 : Db cL_seen 28 .goto 31 6 := ⟨-22, DL_seen_c1.2.1, rfl, rfl⟩
theorem dL_seen_31 : Dc cL_seen 31 (.iconst 0) 1 32 := ⟨DL_seen_c1.2.2.1, rfl⟩
theorem dL_seen_32 : Dc cL_seen 32 (.istore_n 3) 1 33 := ⟨DL_seen_c1.2.2.2.1, rfl⟩
theorem dL_seen_33 : Dc cL_seen 33 (.iload_n 3) 1 34 := ⟨DL_seen_c1.2.2.2.2.1, rfl⟩
theorem dL_seen_34 : Dc cL_seen 34 (.bipush 10) 2 36 := ⟨DL_seen_c1.2.2.2.2.2.1, rfl⟩
theorem dL_seen_36 : Db cL_seen 36 (fun o => .if_icmp .ge o) 39 58 := ⟨22, DL_seen_c1.2.2.2.2.2.2.1, rfl, rfl⟩
theorem dL_seen_39 : Dc cL_seen 39 (.ldc2_w 12) 3 42 := ⟨DL_seen_c1.2.2.2.2.2.2.2.1, rfl⟩
theorem dL_seen_42 : Dc cL_seen 42 (.lload_n 1) 1 43 := ⟨DL_seen_c1.2.2.2.2.2.2.2.2.1, rfl⟩
theorem dL_seen_43 : Dc cL_seen 43 (.lmul) 1 44 := ⟨DL_seen_c1.2.2.2.2.2.2.2.2.2.1, rfl⟩
theorem dL_seen_44 : Dc cL_seen 44 (.aload_n 0) 1 45 := ⟨DL_seen_c1.2.2.2.2.2.2.2.2.2.2.1, rfl⟩
theorem dL_seen_45 : Dc cL_seen 45 (.iload_n 3) 1 46 := ⟨DL_seen_c1.2.2.2.2.2.2.2.2.2.2.2.1, rfl⟩
theorem dL_seen_46 : Dc cL_seen 46 (.invokevirtual 20) 3 49 := ⟨DL_seen_c1.2.2.2.2.2.2.2.2.2.2.2.2.1, rfl⟩
theorem dL_seen_49 : Dc cL_seen 49 (.i2l) 1 50 := ⟨DL_seen_c1.2.2.2.2.2.2.2.2.2.2.2.2.2.1, rfl⟩
theorem dL_seen_50 : Dc cL_seen 50 (.ladd) 1 51 := ⟨DL_seen_c1.2.2.2.2.2.2.2.2.2.2.2.2.2.2.1, rfl⟩
theorem dL_seen_51 : Dc cL_seen 51 (.lstore_n 1) 1 52 := ⟨DL_seen_c1.2.2.2.2.2.2.2.2.2.2.2.2.2.2.2, rfl⟩
theorem DL_seen_c2 : decode cL_seen 52 = .ok (.iinc 3 1, 3) ∧ decode cL_seen 55 = .ok (.goto (-22), 3) ∧ decode cL_seen 58 = .ok (.iconst 0, 1) ∧ decode cL_seen 59 = .ok (.istore_n 3, 1) ∧ decode cL_seen 60 = .ok (.iload_n 3, 1) ∧ decode cL_seen 61 = .ok (.bipush 7, 2) ∧ decode cL_seen 63 = .ok (.if_icmp .ge 55, 3) ∧ decode cL_seen 66 = .ok (.iconst 0, 1) ∧ decode cL_seen 67 = .ok (.istore 4, 2) ∧ decode cL_seen 69 = .ok (.iload 4, 2) ∧ decode cL_seen 71 = .ok (.bipush 12, 2) ∧ decode cL_seen 73 = .ok (.if_icmp .ge 39, 3) ∧ decode cL_seen 76 = .ok (.ldc2_w 12, 3) ∧ decode cL_seen 79 = .ok (.ldc2_w 12, 3) ∧ decode cL_seen 82 = .ok (.lload_n 1, 1) ∧ decode cL_seen 83 = .ok (.lmul, 1) := by decide +kernel
theorem dL_seen_52 : Dc cL_seen 52 (.iinc 3 1) 3 55 := ⟨DL_seen_c2.1, rfl⟩
theorem dL_seen_55 : Db cL_seen 55 .goto 58 33 := ⟨-22, DL_seen_c2.2.1, rfl, rfl⟩
theorem dL_seen_58 : Dc cL_seen 58 (.iconst 0) 1 59 := ⟨DL_seen_c2.2.2.1, rfl⟩
theorem dL_seen_59 : Dc cL_seen 59 (.istore_n 3) 1 60 := ⟨DL_seen_c2.2.2.2.1, rfl⟩
theorem dL_seen_60 : Dc cL_seen 60 (.iload_n 3) 1 61 := ⟨DL_seen_c2.2.2.2.2.1, rfl⟩
theorem dL_seen_61 : Dc cL_seen 61 (.bipush 7) 2 63 := ⟨DL_seen_c2.2.2.2.2.2.1, rfl⟩
theorem dL_seen_63 : Db cL_seen 63 (fun o => .if_icmp .ge o) 66 118 := ⟨55, DL_seen_c2.2.2.2.2.2.2.1, rfl, rfl⟩
theorem dL_seen_66 : Dc cL_seen 66 (.iconst 0) 1 67 := ⟨DL_seen_c2.2.2.2.2.2.2.2.1, rfl⟩
theorem dL_seen_67 : Dc cL_seen 67 (.istore 4) 2 69 := ⟨DL_seen_c2.2.2.2.2.2.2.2.2.1, rfl⟩
theorem dL_seen_69 : Dc cL_seen 69 (.iload 4) 2 71 := ⟨DL_seen_c2.2.2.2.2.2.2.2.2.2.1, rfl⟩
theorem dL_seen_71 : Dc cL_seen 71 (.bipush 12) 2 73 := ⟨DL_seen_c2.2.2.2.2.2.2.2.2.2.2.1, rfl⟩
theorem dL_seen_73 : Db cL_seen 73 (fun o => .if_icmp .ge o) 76 112 := ⟨39, DL_seen_c2.2.2.2.2.2.2.2.2.2.2.2.1, rfl, rfl⟩
theorem dL_seen_76 : Dc cL_seen 76 (.ldc2_w 12) 3 79 := ⟨DL_seen_c2.2.2.2.2.2.2.2.2.2.2.2.2.1, rfl⟩
theorem dL_seen_79 : Dc cL_seen 79 (.ldc2_w 12) 3 82 := ⟨DL_seen_c2.2.2.2.2.2.2.2.2.2.2.2.2.2.1, rfl⟩
theorem dL_seen_82 : Dc cL_seen 82 (.lload_n 1) 1 83 := ⟨DL_seen_c2.2.2.2.2.2.2.2.2.2.2.2.2.2.2.1, rfl⟩
theorem dL_seen_83 : Dc cL_seen 83 (.lmul) 1 84 := ⟨DL_seen_c2.2.2.2.2.2.2.2.2.2.2.2.2.2.2.2, rfl⟩
theorem DL_seen_c3 : decode cL_seen 84 = .ok (.aload_n 0, 1) ∧ decode cL_seen 85 = .ok (.iload_n 3, 1) ∧ decode cL_seen 86 = .ok (.iload 4, 2) ∧ decode cL_seen 88 = .ok (.iconst 0, 1) ∧ decode cL_seen 89 = .ok (.invokevirtual 23, 3) ∧ decode cL_seen 92 = .ok (.i2l, 1) ∧ decode cL_seen 93 = .ok (.ladd, 1) ∧ decode cL_seen 94 = .ok (.lmul, 1) ∧ decode cL_seen 95 = .ok (.aload_n 0, 1) ∧ decode cL_seen 96 = .ok (.iload_n 3, 1) ∧ decode cL_seen 97 = .ok (.iload 4, 2) ∧ decode cL_seen 99 = .ok (.iconst 1, 1) ∧ decode cL_seen 100 = .ok (.invokevirtual 23, 3) ∧ decode cL_seen 103 = .ok (.i2l, 1) ∧ decode cL_seen 104 = .ok (.ladd, 1) ∧ decode cL_seen 105 = .ok (.lstore_n 1, 1) := by decide +kernel
theorem dL_seen_84 : Dc cL_seen 84 (.aload_n 0) 1 85 := ⟨DL_seen_c3.1, rfl⟩
theorem dL_seen_85 : Dc cL_seen 85 (.iload_n 3) 1 86 := ⟨DL_seen_c3.2.1, rfl⟩
theorem dL_seen_86 : Dc cL_seen 86 (.iload 4) 2 88 := ⟨DL_seen_c3.2.2.1, rfl⟩
theorem dL_seen_88 : Dc cL_seen 88 (.iconst 0) 1 89 := ⟨DL_seen_c3.2.2.2.1, rfl⟩
theorem dL_seen_89 : Dc cL_seen 89 (.invokevirtual 23) 3 92 := ⟨DL_seen_c3.2.2.2.2.1, rfl⟩
theorem dL_seen_92 : Dc cL_seen 92 (.i2l) 1 93 := ⟨DL_seen_c3.2.2.2.2.2.1, rfl⟩
theorem dL_seen_93 : Dc cL_seen 93 (.ladd) 1 94 := ⟨DL_seen_c3.2.2.2.2.2.2.1, rfl⟩
theorem dL_seen_94 : Dc cL_seen 94 (.lmul) 1 95 := ⟨DL_seen_c3.2.2.2.2.2.2.2.1, rfl⟩
theorem dL_seen_95 : Dc cL_seen 95 (.aload_n 0) 1 96 := ⟨DL_seen_c3.2.2.2.2.2.2.2.2.1, rfl⟩
theorem dL_seen_96 : Dc cL_seen 96 (.iload_n 3) 1 97 := ⟨DL_seen_c3.2.2.2.2.2.2.2.2.2.1, rfl⟩
theorem dL_seen_97 : Dc cL_seen 97 (.iload 4) 2 99 := ⟨DL_seen_c3.2.2.2.2.2.2.2.2.2.2.1, rfl⟩
theorem dL_seen_99 : Dc cL_seen 99 (.iconst 1) 1 100 := ⟨DL_seen_c3.2.2.2.2.2.2.2.2.2.2.2.1, rfl⟩
theorem dL_seen_100 : Dc cL_seen 100 (.invokevirtual 23) 3 103 := ⟨DL_seen_c3.2.2.2.2.2.2.2.2.2.2.2.2.1, rfl⟩
theorem dL_seen_103 : Dc cL_seen 103 (.i2l) 1 104 := ⟨DL_seen_c3.2.2.2.2.2.2.2.2.2.2.2.2.2.1, rfl⟩
theorem dL_seen_104 : Dc cL_seen 104 (.ladd) 1 105 := ⟨DL_seen_c3.2.2.2.2.2.2.2.2.2.2.2.2.2.2.1, rfl⟩
theorem dL_seen_105 : Dc cL_seen 105 (.lstore_n 1) 1 106 := ⟨DL_seen_c3.2.2.2.2.2.2.2.2.2.2.2.2.2.2.2, rfl⟩
theorem DL_seen_c4 : decode cL_seen 106 = .ok (.iinc 4 1, 3) ∧ decode cL_seen 109 = .ok (.goto (-40), 3) ∧ decode cL_seen 112 = .ok (.iinc 3 1, 3) ∧ decode cL_seen 115 = .ok (.goto (-55), 3) ∧ decode cL_seen 118 = .ok (.iconst 0, 1) ∧ decode cL_seen 119 = .ok (.istore_n 3, 1) ∧ decode cL_seen 120 = .ok (.iload_n 3, 1) ∧ decode cL_seen 121 = .ok (.bipush 6, 2) ∧ decode cL_seen 123 = .ok (.if_icmp .ge 87, 3) ∧ decode cL_seen 126 = .ok (.ldc2_w 12, 3) ∧ decode cL_seen 129 = .ok (.lload_n 1, 1) ∧ decode cL_seen 130 = .ok (.lmul, 1) ∧ decode cL_seen 131 = .ok (.aload_n 0, 1) ∧ decode cL_seen 132 = .ok (.iload_n 3, 1) ∧ decode cL_seen 133 = .ok (.iconst 2, 1) ∧ decode cL_seen 134 = .ok (.invokevirtual 27, 3) := by decide +kernel
theorem dL_seen_106 : Dc cL_seen 106 (.iinc 4 1) 3 109 := ⟨DL_seen_c4.1, rfl⟩
theorem dL_seen_109 : Db cL_seen 109 .goto 112 69 := ⟨-40, DL_seen_c4.2.1, rfl, rfl⟩
theorem dL_seen_112 : Dc cL_seen 112 (.iinc 3 1) 3 115 := ⟨DL_seen_c4.2.2.1, rfl⟩
theorem dL_seen_115 : Db cL_seen 115 .goto 118 60 := ⟨-55, DL_seen_c4.2.2.2.1, rfl, rfl⟩
theorem dL_seen_118 : Dc cL_seen 118 (.iconst 0) 1 119 := ⟨DL_seen_c4.2.2.2.2.1, rfl⟩
theorem dL_seen_119 : Dc cL_seen 119 (.istore_n 3) 1 120 := ⟨DL_seen_c4.2.2.2.2.2.1, rfl⟩
theorem dL_seen_120 : Dc cL_seen 120 (.iload_n 3) 1 121 := ⟨DL_seen_c4.2.2.2.2.2.2.1, rfl⟩
theorem dL_seen_121 : Dc cL_seen 121 (.bipush 6) 2 123 := ⟨DL_seen_c4.2.2.2.2.2.2.2.1, rfl⟩
theorem dL_seen_123 : Db cL_seen 123 (fun o => .if_icmp .ge o) 126 210 := ⟨87, DL_seen_c4.2.2.2.2.2.2.2.2.1, rfl, rfl⟩
theorem dL_seen_126 : Dc cL_seen 126 (.ldc2_w 12) 3 129 := ⟨DL_seen_c4.2.2.2.2.2.2.2.2.2.1, rfl⟩
theorem dL_seen_129 : Dc cL_seen 129 (.lload_n 1) 1 130 := ⟨DL_seen_c4.2.2.2.2.2.2.2.2.2.2.1, rfl⟩
theorem dL_seen_130 : Dc cL_seen 130 (.lmul) 1 131 := ⟨DL_seen_c4.2.2.2.2.2.2.2.2.2.2.2.1, rfl⟩
theorem dL_seen_131 : Dc cL_seen 131 (.aload_n 0) 1 132 := ⟨DL_seen_c4.2.2.2.2.2.2.2.2.2.2.2.2.1, rfl⟩
theorem dL_seen_132 : Dc cL_seen 132 (.iload_n 3) 1 133 := ⟨DL_seen_c4.2.2.2.2.2.2.2.2.2.2.2.2.2.1, rfl⟩
theorem dL_seen_133 : Dc cL_seen 133 (.iconst 2) 1 134 := ⟨DL_seen_c4.2.2.2.2.2.2.2.2.2.2.2.2.2.2.1, rfl⟩
theorem dL_seen_134 : Dc cL_seen 134 (.invokevirtual 27) 3 137 := ⟨DL_seen_c4.2.2.2.2.2.2.2.2.2.2.2.2.2.2.2, rfl⟩
theorem DL_seen_c5 : decode cL_seen 137 = .ok (.i2l, 1) ∧ decode cL_seen 138 = .ok (.ladd, 1) ∧ decode cL_seen 139 = .ok (.lstore_n 1, 1) ∧ decode cL_seen 140 = .ok (.iconst 0, 1) ∧ decode cL_seen 141 = .ok (.istore 4, 2) ∧ decode cL_seen 143 = .ok (.iload 4, 2) ∧ decode cL_seen 145 = .ok (.aload_n 0, 1) ∧ decode cL_seen 146 = .ok (.iload_n 3, 1) ∧ decode cL_seen 147 = .ok (.iconst 1, 1) ∧ decode cL_seen 148 = .ok (.invokevirtual 27, 3) ∧ decode cL_seen 151 = .ok (.if_icmp .ge 53, 3) ∧ decode cL_seen 154 = .ok (.ldc2_w 12, 3) ∧ decode cL_seen 157 = .ok (.ldc2_w 12, 3) ∧ decode cL_seen 160 = .ok (.ldc2_w 12, 3) ∧ decode cL_seen 163 = .ok (.lload_n 1, 1) ∧ decode cL_seen 164 = .ok (.lmul, 1) := by decide +kernel
theorem dL_seen_137 : Dc cL_seen 137 (.i2l) 1 138 := ⟨DL_seen_c5.1, rfl⟩
theorem dL_seen_138 : Dc cL_seen 138 (.ladd) 1 139 := ⟨DL_seen_c5.2.1, rfl⟩
theorem dL_seen_139 : Dc cL_seen 139 (.lstore_n 1) 1 140 := ⟨DL_seen_c5.2.2.1, rfl⟩
theorem dL_seen_140 : Dc cL_seen 140 (.iconst 0) 1 141 := ⟨DL_seen_c5.2.2.2.1, rfl⟩
theorem dL_seen_141 : Dc cL_seen 141 (.istore 4) 2 143 := ⟨DL_seen_c5.2.2.2.2.1, rfl⟩
theorem dL_seen_143 : Dc cL_seen 143 (.iload 4) 2 145 := ⟨DL_seen_c5.2.2.2.2.2.1, rfl⟩
theorem dL_seen_145 : Dc cL_seen 145 (.aload_n 0) 1 146 := ⟨DL_seen_c5.2.2.2.2.2.2.1, rfl⟩
theorem dL_seen_146 : Dc cL_seen 146 (.iload_n 3) 1 147 := ⟨DL_seen_c5.2.2.2.2.2.2.2.1, rfl⟩
theorem dL_seen_147 : Dc cL_seen 147 (.iconst 1) 1 148 := ⟨DL_seen_c5.2.2.2.2.2.2.2.2.1, rfl⟩
theorem dL_seen_148 : Dc cL_seen 148 (.invokevirtual 27) 3 151 := ⟨DL_seen_c5.2.2.2.2.2.2.2.2.2.1, rfl⟩
theorem dL_seen_151 : Db cL_seen 151 (fun o => .if_icmp .ge o) 154 204 := ⟨53, DL_seen_c5.2.2.2.2.2.2.2.2.2.2.1, rfl, rfl⟩
theorem dL_seen_154 : Dc cL_seen 154 (.ldc2_w 12) 3 157 := ⟨DL_seen_c5.2.2.2.2.2.2.2.2.2.2.2.1, rfl⟩
theorem dL_seen_157 : Dc cL_seen 157 (.ldc2_w 12) 3 160 := ⟨DL_seen_c5.2.2.2.2.2.2.2.2.2.2.2.2.1, rfl⟩
theorem dL_seen_160 : Dc cL_seen 160 (.ldc2_w 12) 3 163 := ⟨DL_seen_c5.2.2.2.2.2.2.2.2.2.2.2.2.2.1, rfl⟩
theorem dL_seen_163 : Dc cL_seen 163 (.lload_n 1) 1 164 := ⟨DL_seen_c5.2.2.2.2.2.2.2.2.2.2.2.2.2.2.1, rfl⟩
theorem dL_seen_164 : Dc cL_seen 164 (.lmul) 1 165 := ⟨DL_seen_c5.2.2.2.2.2.2.2.2.2.2.2.2.2.2.2, rfl⟩
theorem DL_seen_c6 : decode cL_seen 165 = .ok (.aload_n 0, 1) ∧ decode cL_seen 166 = .ok (.iload_n 3, 1) ∧ decode cL_seen 167 = .ok (.iload 4, 2) ∧ decode cL_seen 169 = .ok (.iconst 0, 1) ∧ decode cL_seen 170 = .ok (.invokevirtual 31, 3) ∧ decode cL_seen 173 = .ok (.i2l, 1) ∧ decode cL_seen 174 = .ok (.ladd, 1) ∧ decode cL_seen 175 = .ok (.lmul, 1) ∧ decode cL_seen 176 = .ok (.aload_n 0, 1) ∧ decode cL_seen 177 = .ok (.iload_n 3, 1) ∧ decode cL_seen 178 = .ok (.iload 4, 2) ∧ decode cL_seen 180 = .ok (.iconst 1, 1) ∧ decode cL_seen 181 = .ok (.invokevirtual 31, 3) ∧ decode cL_seen 184 = .ok (.i2l, 1) ∧ decode cL_seen 185 = .ok (.ladd, 1) ∧ decode cL_seen 186 = .ok (.lmul, 1) := by decide +kernel
theorem dL_seen_165 : Dc cL_seen 165 (.aload_n 0) 1 166 := ⟨DL_seen_c6.1, rfl⟩
theorem dL_seen_166 : Dc cL_seen 166 (.iload_n 3) 1 167 := ⟨DL_seen_c6.2.1, rfl⟩
theorem dL_seen_167 : Dc cL_seen 167 (.iload 4) 2 169 := ⟨DL_seen_c6.2.2.1, rfl⟩
theorem dL_seen_169 : Dc cL_seen 169 (.iconst 0) 1 170 := ⟨DL_seen_c6.2.2.2.1, rfl⟩
theorem dL_seen_170 : Dc cL_seen 170 (.invokevirtual 31) 3 173 := ⟨DL_seen_c6.2.2.2.2.1, rfl⟩
theorem dL_seen_173 : Dc cL_seen 173 (.i2l) 1 174 := ⟨DL_seen_c6.2.2.2.2.2.1, rfl⟩
theorem dL_seen_174 : Dc cL_seen 174 (.ladd) 1 175 := ⟨DL_seen_c6.2.2.2.2.2.2.1, rfl⟩
theorem dL_seen_175 : Dc cL_seen 175 (.lmul) 1 176 := ⟨DL_seen_c6.2.2.2.2.2.2.2.1, rfl⟩
theorem dL_seen_176 : Dc cL_seen 176 (.aload_n 0) 1 177 := ⟨DL_seen_c6.2.2.2.2.2.2.2.2.1, rfl⟩
theorem dL_seen_177 : Dc cL_seen 177 (.iload_n 3) 1 178 := ⟨DL_seen_c6.2.2.2.2.2.2.2.2.2.1, rfl⟩
theorem dL_seen_178 : Dc cL_seen 178 (.iload 4) 2 180 := ⟨DL_seen_c6.2.2.2.2.2.2.2.2.2.2.1, rfl⟩
theorem dL_seen_180 : Dc cL_seen 180 (.iconst 1) 1 181 := ⟨DL_seen_c6.2.2.2.2.2.2.2.2.2.2.2.1, rfl⟩
theorem dL_seen_181 : Dc cL_seen 181 (.invokevirtual 31) 3 184 := ⟨DL_seen_c6.2.2.2.2.2.2.2.2.2.2.2.2.1, rfl⟩
theorem dL_seen_184 : Dc cL_seen 184 (.i2l) 1 185 := ⟨DL_seen_c6.2.2.2.2.2.2.2.2.2.2.2.2.2.1, rfl⟩
theorem dL_seen_185 : Dc cL_seen 185 (.ladd) 1 186 := ⟨DL_seen_c6.2.2.2.2.2.2.2.2.2.2.2.2.2.2.1, rfl⟩
theorem dL_seen_186 : Dc cL_seen 186 (.lmul) 1 187 := ⟨DL_seen_c6.2.2.2.2.2.2.2.2.2.2.2.2.2.2.2, rfl⟩
theorem DL_seen_c7 : decode cL_seen 187 = .ok (.aload_n 0, 1) ∧ decode cL_seen 188 = .ok (.iload_n 3, 1) ∧ decode cL_seen 189 = .ok (.iload 4, 2) ∧ decode cL_seen 191 = .ok (.iconst 2, 1) ∧ decode cL_seen 192 = .ok (.invokevirtual 31, 3) ∧ decode cL_seen 195 = .ok (.i2l, 1) ∧ decode cL_seen 196 = .ok (.ladd, 1) ∧ decode cL_seen 197 = .ok (.lstore_n 1, 1) ∧ decode cL_seen 198 = .ok (.iinc 4 1, 3) ∧ decode cL_seen 201 = .ok (.goto (-58), 3) ∧ decode cL_seen 204 = .ok (.iinc 3 1, 3) ∧ decode cL_seen 207 = .ok (.goto (-87), 3) ∧ decode cL_seen 210 = .ok (.lload_n 1, 1) ∧ decode cL_seen 211 = .ok (.lreturn, 1) := by decide +kernel
theorem dL_seen_187 : Dc cL_seen 187 (.aload_n 0) 1 188 := ⟨DL_seen_c7.1, rfl⟩
theorem dL_seen_188 : Dc cL_seen 188 (.iload_n 3) 1 189 := ⟨DL_seen_c7.2.1, rfl⟩
theorem dL_seen_189 : Dc cL_seen 189 (.iload 4) 2 191 := ⟨DL_seen_c7.2.2.1, rfl⟩
theorem dL_seen_191 : Dc cL_seen 191 (.iconst 2) 1 192 := ⟨DL_seen_c7.2.2.2.1, rfl⟩
theorem dL_seen_192 : Dc cL_seen 192 (.invokevirtual 31) 3 195 := ⟨DL_seen_c7.2.2.2.2.1, rfl⟩
theorem dL_seen_195 : Dc cL_seen 195 (.i2l) 1 196 := ⟨DL_seen_c7.2.2.2.2.2.1, rfl⟩
theorem dL_seen_196 : Dc cL_seen 196 (.ladd) 1 197 := ⟨DL_seen_c7.2.2.2.2.2.2.1, rfl⟩
theorem dL_seen_197 : Dc cL_seen 197 (.lstore_n 1) 1 198 := ⟨DL_seen_c7.2.2.2.2.2.2.2.1, rfl⟩
theorem dL_seen_198 : Dc cL_seen 198 (.iinc 4 1) 3 201 := ⟨DL_seen_c7.2.2.2.2.2.2.2.2.1, rfl⟩
theorem dL_seen_201 : Db cL_seen 201 .goto 204 143 := ⟨-58, DL_seen_c7.2.2.2.2.2.2.2.2.2.1, rfl, rfl⟩
theorem dL_seen_204 : Dc cL_seen 204 (.iinc 3 1) 3 207 := ⟨DL_seen_c7.2.2.2.2.2.2.2.2.2.2.1, rfl⟩
theorem dL_seen_207 : Db cL_seen 207 .goto 210 120 := ⟨-87, DL_seen_c7.2.2.2.2.2.2.2.2.2.2.2.1, rfl, rfl⟩
theorem dL_seen_210 : Dc cL_seen 210 (.lload_n 1) 1 211 := ⟨DL_seen_c7.2.2.2.2.2.2.2.2.2.2.2.2.1, rfl⟩
theorem dL_seen_211 : Dc cL_seen 211 (.lreturn) 1 212 := ⟨DL_seen_c7.2.2.2.2.2.2.2.2.2.2.2.2.2, rfl⟩
theorem DL_areTries_c0 : decode cL_areTries 0 = .ok (.aload_n 0, 1) ∧ decode cL_areTries 1 = .ok (.iconst 2, 1) ∧ decode cL_areTries 2 = .ok (.invokevirtual 20, 3) ∧ decode cL_areTries 5 = .ok (.istore_n 1, 1) ∧ decode cL_areTries 6 = .ok (.aload_n 0, 1) ∧ decode cL_areTries 7 = .ok (.iconst 3, 1) ∧ decode cL_areTries 8 = .ok (.invokevirtual 20, 3) ∧ decode cL_areTries 11 = .ok (.bipush (-5), 2) ∧ decode cL_areTries 13 = .ok (.if_icmp .eq 7, 3) ∧ decode cL_areTries 16 = .ok (.iconst 1, 1) ∧ decode cL_areTries 17 = .ok (.goto 4, 3) ∧ decode cL_areTries 20 = .ok (.iconst 0, 1) ∧ decode cL_areTries 21 = .ok (.istore_n 2, 1) ∧ decode cL_areTries 22 = .ok (.iload_n 1, 1) ∧ decode cL_areTries 23 = .ok (.ifCond .lt 77, 3) ∧ decode cL_areTries 26 = .ok (.iload_n 1, 1) := by decide +kernel
theorem dL_areTries_0 : Dc cL_areTries 0 (.aload_n 0) 1 1 := ⟨DL_areTries_c0.1, rfl⟩
theorem dL_areTries_1 : Dc cL_areTries 1 (.iconst 2) 1 2 := ⟨DL_areTries_c0.2.1, rfl⟩
theorem dL_areTries_2 : Dc cL_areTries 2 (.invokevirtual 20) 3 5 := ⟨DL_areTries_c0.2.2.1, rfl⟩
theorem dL_areTries_5 : Dc cL_areTries 5 (.istore_n 1) 1 6 := ⟨DL_areTries_c0.2.2.2.1, rfl⟩
theorem dL_areTries_6 : Dc cL_areTries 6 (.aload_n 0) 1 7 := ⟨DL_areTries_c0.2.2.2.2.1, rfl⟩
theorem dL_areTries_7 : Dc cL_areTries 7 (.iconst 3) 1 8 := ⟨DL_areTries_c0.2.2.2.2.2.1, rfl⟩
theorem dL_areTries_8 : Dc cL_areTries 8 (.invokevirtual 20) 3 11 := ⟨DL_areTries_c0.2.2.2.2.2.2.1, rfl⟩
theorem dL_areTries_11 : Dc cL_areTries 11 (.bipush (-5)) 2 13 := ⟨DL_areTries_c0.2.2.2.2.2.2.2.1, rfl⟩
theorem dL_areTries_13 : Db cL_areTries 13 (fun o => .if_icmp .eq o) 16 20 := ⟨7, DL_areTries_c0.2.2.2.2.2.2.2.2.1, rfl, rfl⟩
theorem dL_areTries_16 : Dc cL_areTries 16 (.iconst 1) 1 17 := ⟨DL_areTries_c0.2.2.2.2.2.2.2.2.2.1, rfl⟩
theorem dL_areTries_17 : Db cL_areTries 17 .goto 20 21 := ⟨4, DL_areTries_c0.2.2.2.2.2.2.2.2.2.2.1, rfl, rfl⟩
theorem dL_areTries_20 : Dc cL_areTries 20 (.iconst 0) 1 21 := ⟨DL_areTries_c0.2.2.2.2.2.2.2.2.2.2.2.1, rfl⟩
theorem dL_areTries_21 : Dc cL_areTries 21 (.istore_n 2) 1 22 := ⟨DL_areTries_c0.2.2.2.2.2.2.2.2.2.2.2.2.1, rfl⟩
theorem dL_areTries_22 : Dc cL_areTries 22 (.iload_n 1) 1 23 := ⟨DL_areTries_c0.2.2.2.2.2.2.2.2.2.2.2.2.2.1, rfl⟩
theorem dL_areTries_23 : Db cL_areTries 23 (fun o => .ifCond .lt o) 26 100 := ⟨77, DL_areTries_c0.2.2.2.2.2.2.2.2.2.2.2.2.2.2.1, rfl, rfl⟩
theorem dL_areTries_26 : Dc cL_areTries 26 (.iload_n 1) 1 27 := ⟨DL_areTries_c0.2.2.2.2.2.2.2.2.2.2.2.2.2.2.2, rfl⟩
theorem DL_areTries_c1 : decode cL_areTries 27 = .ok (.bipush 6, 2) ∧ decode cL_areTries 29 = .ok (.if_icmp .gt 71, 3) ∧ decode cL_areTries 32 = .ok (.aload_n 0, 1) ∧ decode cL_areTries 33 = .ok (.bipush 9, 2) ∧ decode cL_areTries 35 = .ok (.invokevirtual 20, 3) ∧ decode cL_areTries 38 = .ok (.iload_n 1, 1) ∧ decode cL_areTries 39 = .ok (.if_icmp .gt 61, 3) ∧ decode cL_areTries 42 = .ok (.iload_n 1, 1) ∧ decode cL_areTries 43 = .ok (.ifCond .ne 7, 3) ∧ decode cL_areTries 46 = .ok (.iconst 1, 1) ∧ decode cL_areTries 47 = .ok (.goto 4, 3) ∧ decode cL_areTries 50 = .ok (.iconst 0, 1) ∧ decode cL_areTries 51 = .ok (.aload_n 0, 1) ∧ decode cL_areTries 52 = .ok (.bipush 9, 2) ∧ decode cL_areTries 54 = .ok (.invokevirtual 20, 3) ∧ decode cL_areTries 57 = .ok (.ifCond .ne 7, 3) := by decide +kernel
theorem dL_areTries_27 : Dc cL_areTries 27 (.bipush 6) 2 29 := ⟨DL_areTries_c1.1, rfl⟩
theorem dL_areTries_29 : Db cL_areTries 29 (fun o => .if_icmp .gt o) 32 100 := ⟨71, DL_areTries_c1.2.1, rfl, rfl⟩
theorem dL_areTries_32 : Dc cL_areTries 32 (.aload_n 0) 1 33 := ⟨DL_areTries_c1.2.2.1, rfl⟩
theorem dL_areTries_33 : Dc cL_areTries 33 (.bipush 9) 2 35 := ⟨DL_areTries_c1.2.2.2.1, rfl⟩
theorem dL_areTries_35 : Dc cL_areTries 35 (.invokevirtual 20) 3 38 := ⟨DL_areTries_c1.2.2.2.2.1, rfl⟩
theorem dL_areTries_38 : Dc cL_areTries 38 (.iload_n 1) 1 39 := ⟨DL_areTries_c1.2.2.2.2.2.1, rfl⟩
theorem dL_areTries_39 : Db cL_areTries 39 (fun o => .if_icmp .gt o) 42 100 := ⟨61, DL_areTries_c1.2.2.2.2.2.2.1, rfl, rfl⟩
theorem dL_areTries_42 : Dc cL_areTries 42 (.iload_n 1) 1 43 := ⟨DL_areTries_c1.2.2.2.2.2.2.2.1, rfl⟩
theorem dL_areTries_43 : Db cL_areTries 43 (fun o => .ifCond .ne o) 46 50 := ⟨7, DL_areTries_c1.2.2.2.2.2.2.2.2.1, rfl, rfl⟩
theorem dL_areTries_46 : Dc cL_areTries 46 (.iconst 1) 1 47 := ⟨DL_areTries_c1.2.2.2.2.2.2.2.2.2.1, rfl⟩
theorem dL_areTries_47 : Db cL_areTries 47 .goto 50 51 := ⟨4, DL_areTries_c1.2.2.2.2.2.2.2.2.2.2.1, rfl, rfl⟩
theorem dL_areTries_50 : Dc cL_areTries 50 (.iconst 0) 1 51 := ⟨DL_areTries_c1.2.2.2.2.2.2.2.2.2.2.2.1, rfl⟩
theorem dL_areTries_51 : Dc cL_areTries 51 (.aload_n 0) 1 52 := ⟨DL_areTries_c1.2.2.2.2.2.2.2.2.2.2.2.2.1, rfl⟩
theorem dL_areTries_52 : Dc cL_areTries 52 (.bipush 9) 2 54 := ⟨DL_areTries_c1.2.2.2.2.2.2.2.2.2.2.2.2.2.1, rfl⟩
theorem dL_areTries_54 : Dc cL_areTries 54 (.invokevirtual 20) 3 57 := ⟨DL_areTries_c1.2.2.2.2.2.2.2.2.2.2.2.2.2.2.1, rfl⟩
theorem dL_areTries_57 : Db cL_areTries 57 (fun o => .ifCond .ne o) 60 64 := ⟨7, DL_areTries_c1.2.2.2.2.2.2.2.2.2.2.2.2.2.2.2, rfl, rfl⟩
theorem DL_areTries_c2 : decode cL_areTries 60 = .ok (.iconst 1, 1) ∧ decode cL_areTries 61 = .ok (.goto 4, 3) ∧ decode cL_areTries 64 = .ok (.iconst 0, 1) ∧ decode cL_areTries 65 = .ok (.if_icmp .ne 35, 3) ∧ decode cL_areTries 68 = .ok (.iload_n 2, 1) ∧ decode cL_areTries 69 = .ok (.ifCond .eq 27, 3) ∧ decode cL_areTries 72 = .ok (.aload_n 0, 1) ∧ decode cL_areTries 73 = .ok (.iconst 3, 1) ∧ decode cL_areTries 74 = .ok (.invokevirtual 20, 3) ∧ decode cL_areTries 77 = .ok (.ifCond .lt 23, 3) ∧ decode cL_areTries 80 = .ok (.aload_n 0, 1) ∧ decode cL_areTries 81 = .ok (.iconst 3, 1) ∧ decode cL_areTries 82 = .ok (.invokevirtual 20, 3) ∧ decode cL_areTries 85 = .ok (.bipush 12, 2) ∧ decode cL_areTries 87 = .ok (.if_icmp .gt 13, 3) ∧ decode cL_areTries 90 = .ok (.iload_n 1, 1) := by decide +kernel
theorem dL_areTries_60 : Dc cL_areTries 60 (.iconst 1) 1 61 := ⟨DL_areTries_c2.1, rfl⟩
theorem dL_areTries_61 : Db cL_areTries 61 .goto 64 65 := ⟨4, DL_areTries_c2.2.1, rfl, rfl⟩
theorem dL_areTries_64 : Dc cL_areTries 64 (.iconst 0) 1 65 := ⟨DL_areTries_c2.2.2.1, rfl⟩
theorem dL_areTries_65 : Db cL_areTries 65 (fun o => .if_icmp .ne o) 68 100 := ⟨35, DL_areTries_c2.2.2.2.1, rfl, rfl⟩
theorem dL_areTries_68 : Dc cL_areTries 68 (.iload_n 2) 1 69 := ⟨DL_areTries_c2.2.2.2.2.1, rfl⟩
theorem dL_areTries_69 : Db cL_areTries 69 (fun o => .ifCond .eq o) 72 96 := ⟨27, DL_areTries_c2.2.2.2.2.2.1, rfl, rfl⟩
theorem dL_areTries_72 : Dc cL_areTries 72 (.aload_n 0) 1 73 := ⟨DL_areTries_c2.2.2.2.2.2.2.1, rfl⟩
theorem dL_areTries_73 : Dc cL_areTries 73 (.iconst 3) 1 74 := ⟨DL_areTries_c2.2.2.2.2.2.2.2.1, rfl⟩
theorem dL_areTries_74 : Dc cL_areTries 74 (.invokevirtual 20) 3 77 := ⟨DL_areTries_c2.2.2.2.2.2.2.2.2.1, rfl⟩
theorem dL_areTries_77 : Db cL_areTries 77 (fun o => .ifCond .lt o) 80 100 := ⟨23, DL_areTries_c2.2.2.2.2.2.2.2.2.2.1, rfl, rfl⟩
theorem dL_areTries_80 : Dc cL_areTries 80 (.aload_n 0) 1 81 := ⟨DL_areTries_c2.2.2.2.2.2.2.2.2.2.2.1, rfl⟩
theorem dL_areTries_81 : Dc cL_areTries 81 (.iconst 3) 1 82 := ⟨DL_areTries_c2.2.2.2.2.2.2.2.2.2.2.2.1, rfl⟩
theorem dL_areTries_82 : Dc cL_areTries 82 (.invokevirtual 20) 3 85 := ⟨DL_areTries_c2.2.2.2.2.2.2.2.2.2.2.2.2.1, rfl⟩
theorem dL_areTries_85 : Dc cL_areTries 85 (.bipush 12) 2 87 := ⟨DL_areTries_c2.2.2.2.2.2.2.2.2.2.2.2.2.2.1, rfl⟩
theorem dL_areTries_87 : Db cL_areTries 87 (fun o => .if_icmp .gt o) 90 100 := ⟨13, DL_areTries_c2.2.2.2.2.2.2.2.2.2.2.2.2.2.2.1, rfl, rfl⟩
theorem dL_areTries_90 : Dc cL_areTries 90 (.iload_n 1) 1 91 := ⟨DL_areTries_c2.2.2.2.2.2.2.2.2.2.2.2.2.2.2.2, rfl⟩
theorem DL_areTries_c3 : decode cL_areTries 91 = .ok (.bipush 6, 2) ∧ decode cL_areTries 93 = .ok (.if_icmp .ge 7, 3) ∧ decode cL_areTries 96 = .ok (.iconst 1, 1) ∧ decode cL_areTries 97 = .ok (.goto 4, 3) ∧ decode cL_areTries 100 = .ok (.iconst 0, 1) ∧ decode cL_areTries 101 = .ok (.istore_n 3, 1) ∧ decode cL_areTries 102 = .ok (.iconst 0, 1) ∧ decode cL_areTries 103 = .ok (.istore 4, 2) ∧ decode cL_areTries 105 = .ok (.iload 4, 2) ∧ decode cL_areTries 107 = .ok (.iload_n 1, 1) ∧ decode cL_areTries 108 = .ok (.if_icmp .ge 266, 3) ∧ decode cL_areTries 111 = .ok (.iload_n 3, 1) ∧ decode cL_areTries 112 = .ok (.ifCond .eq 262, 3) ∧ decode cL_areTries 115 = .ok (.aload_n 0, 1) ∧ decode cL_areTries 116 = .ok (.iload 4, 2) ∧ decode cL_areTries 118 = .ok (.iconst 0, 1) := by decide +kernel
theorem dL_areTries_91 : Dc cL_areTries 91 (.bipush 6) 2 93 := ⟨DL_areTries_c3.1, rfl⟩
theorem dL_areTries_93 : Db cL_areTries 93 (fun o => .if_icmp .ge o) 96 100 := ⟨7, DL_areTries_c3.2.1, rfl, rfl⟩
theorem dL_areTries_96 : Dc cL_areTries 96 (.iconst 1) 1 97 := ⟨DL_areTries_c3.2.2.1, rfl⟩
theorem dL_areTries_97 : Db cL_areTries 97 .goto 100 101 := ⟨4, DL_areTries_c3.2.2.2.1, rfl, rfl⟩
theorem dL_areTries_100 : Dc cL_areTries 100 (.iconst 0) 1 101 := ⟨DL_areTries_c3.2.2.2.2.1, rfl⟩
theorem dL_areTries_101 : Dc cL_areTries 101 (.istore_n 3) 1 102 := ⟨DL_areTries_c3.2.2.2.2.2.1, rfl⟩
theorem dL_areTries_102 : Dc cL_areTries 102 (.iconst 0) 1 103 := ⟨DL_areTries_c3.2.2.2.2.2.2.1, rfl⟩
theorem dL_areTries_103 : Dc cL_areTries 103 (.istore 4) 2 105 := ⟨DL_areTries_c3.2.2.2.2.2.2.2.1, rfl⟩
theorem dL_areTries_105 : Dc cL_areTries 105 (.iload 4) 2 107 := ⟨DL_areTries_c3.2.2.2.2.2.2.2.2.1, rfl⟩
theorem dL_areTries_107 : Dc cL_areTries 107 (.iload_n 1) 1 108 := ⟨DL_areTries_c3.2.2.2.2.2.2.2.2.2.1, rfl⟩
theorem dL_areTries_108 : Db cL_areTries 108 (fun o => .if_icmp .ge o) 111 374 := ⟨266, DL_areTries_c3.2.2.2.2.2.2.2.2.2.2.1, rfl, rfl⟩
theorem dL_areTries_111 : Dc cL_areTries 111 (.iload_n 3) 1 112 := ⟨DL_areTries_c3.2.2.2.2.2.2.2.2.2.2.2.1, rfl⟩
theorem dL_areTries_112 : Db cL_areTries 112 (fun o => .ifCond .eq o) 115 374 := ⟨262, DL_areTries_c3.2.2.2.2.2.2.2.2.2.2.2.2.1, rfl, rfl⟩
theorem dL_areTries_115 : Dc cL_areTries 115 (.aload_n 0) 1 116 := ⟨DL_areTries_c3.2.2.2.2.2.2.2.2.2.2.2.2.2.1, rfl⟩
theorem dL_areTries_116 : Dc cL_areTries 116 (.iload 4) 2 118 := ⟨DL_areTries_c3.2.2.2.2.2.2.2.2.2.2.2.2.2.2.1, rfl⟩
theorem dL_areTries_118 : Dc cL_areTries 118 (.iconst 0) 1 119 := ⟨DL_areTries_c3.2.2.2.2.2.2.2.2.2.2.2.2.2.2.2, rfl⟩
theorem DL_areTries_c4 : decode cL_areTries 119 = .ok (.invokevirtual 27, 3) ∧ decode cL_areTries 122 = .ok (.istore 5, 2) ∧ decode cL_areTries 124 = .ok (.iload 5, 2) ∧ decode cL_areTries 126 = .ok (.ifCond .le 55, 3) ∧ decode cL_areTries 129 = .ok (.iload 5, 2) ∧ decode cL_areTries 131 = .ok (.bipush 13, 2) ∧ decode cL_areTries 133 = .ok (.if_icmp .ge 48, 3) ∧ decode cL_areTries 136 = .ok (.aload_n 0, 1) ∧ decode cL_areTries 137 = .ok (.iload 4, 2) ∧ decode cL_areTries 139 = .ok (.iload 5, 2) ∧ decode cL_areTries 141 = .ok (.iconst 0, 1) ∧ decode cL_areTries 142 = .ok (.invokevirtual 23, 3) ∧ decode cL_areTries 145 = .ok (.iconst (-1), 1) ∧ decode cL_areTries 146 = .ok (.if_icmp .ne 35, 3) ∧ decode cL_areTries 149 = .ok (.aload_n 0, 1) ∧ decode cL_areTries 150 = .ok (.iload 4, 2) := by decide +kernel
theorem dL_areTries_119 : Dc cL_areTries 119 (.invokevirtual 27) 3 122 := ⟨DL_areTries_c4.1, rfl⟩
theorem dL_areTries_122 : Dc cL_areTries 122 (.istore 5) 2 124 := ⟨DL_areTries_c4.2.1, rfl⟩
theorem dL_areTries_124 : Dc cL_areTries 124 (.iload 5) 2 126 := ⟨DL_areTries_c4.2.2.1, rfl⟩
theorem dL_areTries_126 : Db cL_areTries 126 (fun o => .ifCond .le o) 129 181 := ⟨55, DL_areTries_c4.2.2.2.1, rfl, rfl⟩
theorem dL_areTries_129 : Dc cL_areTries 129 (.iload 5) 2 131 := ⟨DL_areTries_c4.2.2.2.2.1, rfl⟩
theorem dL_areTries_131 : Dc cL_areTries 131 (.bipush 13) 2 133 := ⟨DL_areTries_c4.2.2.2.2.2.1, rfl⟩
theorem dL_areTries_133 : Db cL_areTries 133 (fun o => .if_icmp .ge o) 136 181 := ⟨48, DL_areTries_c4.2.2.2.2.2.2.1, rfl, rfl⟩
theorem dL_areTries_136 : Dc cL_areTries 136 (.aload_n 0) 1 137 := ⟨DL_areTries_c4.2.2.2.2.2.2.2.1, rfl⟩
theorem dL_areTries_137 : Dc cL_areTries 137 (.iload 4) 2 139 := ⟨DL_areTries_c4.2.2.2.2.2.2.2.2.1, rfl⟩
theorem dL_areTries_139 : Dc cL_areTries 139 (.iload 5) 2 141 := ⟨DL_areTries_c4.2.2.2.2.2.2.2.2.2.1, rfl⟩
theorem dL_areTries_141 : Dc cL_areTries 141 (.iconst 0) 1 142 := ⟨DL_areTries_c4.2.2.2.2.2.2.2.2.2.2.1, rfl⟩
theorem dL_areTries_142 : Dc cL_areTries 142 (.invokevirtual 23) 3 145 := ⟨DL_areTries_c4.2.2.2.2.2.2.2.2.2.2.2.1, rfl⟩
theorem dL_areTries_145 : Dc cL_areTries 145 (.iconst (-1)) 1 146 := ⟨DL_areTries_c4.2.2.2.2.2.2.2.2.2.2.2.2.1, rfl⟩
theorem dL_areTries_146 : Db cL_areTries 146 (fun o => .if_icmp .ne o) 149 181 := ⟨35, DL_areTries_c4.2.2.2.2.2.2.2.2.2.2.2.2.2.1, rfl, rfl⟩
theorem dL_areTries_149 : Dc cL_areTries 149 (.aload_n 0) 1 150 := ⟨DL_areTries_c4.2.2.2.2.2.2.2.2.2.2.2.2.2.2.1, rfl⟩
theorem dL_areTries_150 : Dc cL_areTries 150 (.iload 4) 2 152 := ⟨DL_areTries_c4.2.2.2.2.2.2.2.2.2.2.2.2.2.2.2, rfl⟩
theorem DL_areTries_c5 : decode cL_areTries 152 = .ok (.iload 4, 2) ∧ decode cL_areTries 154 = .ok (.iconst 0, 1) ∧ decode cL_areTries 155 = .ok (.invokevirtual 36, 3) ∧ decode cL_areTries 158 = .ok (.iload 5, 2) ∧ decode cL_areTries 160 = .ok (.if_icmp .ne 21, 3) ∧ decode cL_areTries 163 = .ok (.aload_n 0, 1) ∧ decode cL_areTries 164 = .ok (.iload 4, 2) ∧ decode cL_areTries 166 = .ok (.iload 4, 2) ∧ decode cL_areTries 168 = .ok (.iconst 1, 1) ∧ decode cL_areTries 169 = .ok (.invokevirtual 36, 3) ∧ decode cL_areTries 172 = .ok (.iload 5, 2) ∧ decode cL_areTries 174 = .ok (.if_icmp .ne 7, 3) ∧ decode cL_areTries 177 = .ok (.iconst 1, 1) ∧ decode cL_areTries 178 = .ok (.goto 4, 3) ∧ decode cL_areTries 181 = .ok (.iconst 0, 1) ∧ decode cL_areTries 182 = .ok (.istore_n 3, 1) := by decide +kernel
theorem dL_areTries_152 : Dc cL_areTries 152 (.iload 4) 2 154 := ⟨DL_areTries_c5.1, rfl⟩
theorem dL_areTries_154 : Dc cL_areTries 154 (.iconst 0) 1 155 := ⟨DL_areTries_c5.2.1, rfl⟩
theorem dL_areTries_155 : Dc cL_areTries 155 (.invokevirtual 36) 3 158 := ⟨DL_areTries_c5.2.2.1, rfl⟩
theorem dL_areTries_158 : Dc cL_areTries 158 (.iload 5) 2 160 := ⟨DL_areTries_c5.2.2.2.1, rfl⟩
theorem dL_areTries_160 : Db cL_areTries 160 (fun o => .if_icmp .ne o) 163 181 := ⟨21, DL_areTries_c5.2.2.2.2.1, rfl, rfl⟩
theorem dL_areTries_163 : Dc cL_areTries 163 (.aload_n 0) 1 164 := ⟨DL_areTries_c5.2.2.2.2.2.1, rfl⟩
theorem dL_areTries_164 : Dc cL_areTries 164 (.iload 4) 2 166 := ⟨DL_areTries_c5.2.2.2.2.2.2.1, rfl⟩
theorem dL_areTries_166 : Dc cL_areTries 166 (.iload 4) 2 168 := ⟨DL_areTries_c5.2.2.2.2.2.2.2.1, rfl⟩
theorem dL_areTries_168 : Dc cL_areTries 168 (.iconst 1) 1 169 := ⟨DL_areTries_c5.2.2.2.2.2.2.2.2.1, rfl⟩
theorem dL_areTries_169 : Dc cL_areTries 169 (.invokevirtual 36) 3 172 := ⟨DL_areTries_c5.2.2.2.2.2.2.2.2.2.1, rfl⟩
theorem dL_areTries_172 : Dc cL_areTries 172 (.iload 5) 2 174 := ⟨DL_areTries_c5.2.2.2.2.2.2.2.2.2.2.1, rfl⟩
theorem dL_areTries_174 : Db cL_areTries 174 (fun o => .if_icmp .ne o) 177 181 := ⟨7, DL_areTries_c5.2.2.2.2.2.2.2.2.2.2.2.1, rfl, rfl⟩
theorem dL_areTries_177 : Dc cL_areTries 177 (.iconst 1) 1 178 := ⟨DL_areTries_c5.2.2.2.2.2.2.2.2.2.2.2.2.1, rfl⟩
theorem dL_areTries_178 : Db cL_areTries 178 .goto 181 182 := ⟨4, DL_areTries_c5.2.2.2.2.2.2.2.2.2.2.2.2.2.1, rfl, rfl⟩
theorem dL_areTries_181 : Dc cL_areTries 181 (.iconst 0) 1 182 := ⟨DL_areTries_c5.2.2.2.2.2.2.2.2.2.2.2.2.2.2.1, rfl⟩
theorem dL_areTries_182 : Dc cL_areTries 182 (.istore_n 3) 1 183 := ⟨DL_areTries_c5.2.2.2.2.2.2.2.2.2.2.2.2.2.2.2, rfl⟩
theorem DL_areTries_c6 : decode cL_areTries 183 = .ok (.iconst 0, 1) ∧ decode cL_areTries 184 = .ok (.istore 6, 2) ∧ decode cL_areTries 186 = .ok (.iload 6, 2) ∧ decode cL_areTries 188 = .ok (.iload 5, 2) ∧ decode cL_areTries 190 = .ok (.if_icmp .ge 71, 3) ∧ decode cL_areTries 193 = .ok (.iload_n 3, 1) ∧ decode cL_areTries 194 = .ok (.ifCond .eq 67, 3) ∧ decode cL_areTries 197 = .ok (.aload_n 0, 1) ∧ decode cL_areTries 198 = .ok (.iload 4, 2) ∧ decode cL_areTries 200 = .ok (.iload 6, 2) ∧ decode cL_areTries 202 = .ok (.iconst 0, 1) ∧ decode cL_areTries 203 = .ok (.invokevirtual 23, 3) ∧ decode cL_areTries 206 = .ok (.istore 7, 2) ∧ decode cL_areTries 208 = .ok (.iload 7, 2) ∧ decode cL_areTries 210 = .ok (.ifCond .lt 43, 3) ∧ decode cL_areTries 213 = .ok (.iload 7, 2) := by decide +kernel
theorem dL_areTries_183 : Dc cL_areTries 183 (.iconst 0) 1 184 := ⟨DL_areTries_c6.1, rfl⟩
theorem dL_areTries_184 : Dc cL_areTries 184 (.istore 6) 2 186 := ⟨DL_areTries_c6.2.1, rfl⟩
theorem dL_areTries_186 : Dc cL_areTries 186 (.iload 6) 2 188 := ⟨DL_areTries_c6.2.2.1, rfl⟩
theorem dL_areTries_188 : Dc cL_areTries 188 (.iload 5) 2 190 := ⟨DL_areTries_c6.2.2.2.1, rfl⟩
theorem dL_areTries_190 : Db cL_areTries 190 (fun o => .if_icmp .ge o) 193 261 := ⟨71, DL_areTries_c6.2.2.2.2.1, rfl, rfl⟩
theorem dL_areTries_193 : Dc cL_areTries 193 (.iload_n 3) 1 194 := ⟨DL_areTries_c6.2.2.2.2.2.1, rfl⟩
theorem dL_areTries_194 : Db cL_areTries 194 (fun o => .ifCond .eq o) 197 261 := ⟨67, DL_areTries_c6.2.2.2.2.2.2.1, rfl, rfl⟩
theorem dL_areTries_197 : Dc cL_areTries 197 (.aload_n 0) 1 198 := ⟨DL_areTries_c6.2.2.2.2.2.2.2.1, rfl⟩
theorem dL_areTries_198 : Dc cL_areTries 198 (.iload 4) 2 200 := ⟨DL_areTries_c6.2.2.2.2.2.2.2.2.1, rfl⟩
theorem dL_areTries_200 : Dc cL_areTries 200 (.iload 6) 2 202 := ⟨DL_areTries_c6.2.2.2.2.2.2.2.2.2.1, rfl⟩
theorem dL_areTries_202 : Dc cL_areTries 202 (.iconst 0) 1 203 := ⟨DL_areTries_c6.2.2.2.2.2.2.2.2.2.2.1, rfl⟩
theorem dL_areTries_203 : Dc cL_areTries 203 (.invokevirtual 23) 3 206 := ⟨DL_areTries_c6.2.2.2.2.2.2.2.2.2.2.2.1, rfl⟩
theorem dL_areTries_206 : Dc cL_areTries 206 (.istore 7) 2 208 := ⟨DL_areTries_c6.2.2.2.2.2.2.2.2.2.2.2.2.1, rfl⟩
theorem dL_areTries_208 : Dc cL_areTries 208 (.iload 7) 2 210 := ⟨DL_areTries_c6.2.2.2.2.2.2.2.2.2.2.2.2.2.1, rfl⟩
theorem dL_areTries_210 : Db cL_areTries 210 (fun o => .ifCond .lt o) 213 253 := ⟨43, DL_areTries_c6.2.2.2.2.2.2.2.2.2.2.2.2.2.2.1, rfl, rfl⟩
theorem dL_areTries_213 : Dc cL_areTries 213 (.iload 7) 2 215 := ⟨DL_areTries_c6.2.2.2.2.2.2.2.2.2.2.2.2.2.2.2, rfl⟩
theorem DL_areTries_c7 : decode cL_areTries 215 = .ok (.bipush 6, 2) ∧ decode cL_areTries 217 = .ok (.if_icmp .ge 36, 3) ∧ decode cL_areTries 220 = .ok (.aload_n 0, 1) ∧ decode cL_areTries 221 = .ok (.iload 4, 2) ∧ decode cL_areTries 223 = .ok (.iload 6, 2) ∧ decode cL_areTries 225 = .ok (.iconst 1, 1) ∧ decode cL_areTries 226 = .ok (.invokevirtual 23, 3) ∧ decode cL_areTries 229 = .ok (.ifCond .lt 24, 3) ∧ decode cL_areTries 232 = .ok (.aload_n 0, 1) ∧ decode cL_areTries 233 = .ok (.iload 4, 2) ∧ decode cL_areTries 235 = .ok (.iload 6, 2) ∧ decode cL_areTries 237 = .ok (.iconst 1, 1) ∧ decode cL_areTries 238 = .ok (.invokevirtual 23, 3) ∧ decode cL_areTries 241 = .ok (.iload 7, 2) ∧ decode cL_areTries 243 = .ok (.invokestatic 39, 3) ∧ decode cL_areTries 246 = .ok (.if_icmp .gt 7, 3) := by decide +kernel
theorem dL_areTries_215 : Dc cL_areTries 215 (.bipush 6) 2 217 := ⟨DL_areTries_c7.1, rfl⟩
theorem dL_areTries_217 : Db cL_areTries 217 (fun o => .if_icmp .ge o) 220 253 := ⟨36, DL_areTries_c7.2.1, rfl, rfl⟩
theorem dL_areTries_220 : Dc cL_areTries 220 (.aload_n 0) 1 221 := ⟨DL_areTries_c7.2.2.1, rfl⟩
theorem dL_areTries_221 : Dc cL_areTries 221 (.iload 4) 2 223 := ⟨DL_areTries_c7.2.2.2.1, rfl⟩
theorem dL_areTries_223 : Dc cL_areTries 223 (.iload 6) 2 225 := ⟨DL_areTries_c7.2.2.2.2.1, rfl⟩
theorem dL_areTries_225 : Dc cL_areTries 225 (.iconst 1) 1 226 := ⟨DL_areTries_c7.2.2.2.2.2.1, rfl⟩
theorem dL_areTries_226 : Dc cL_areTries 226 (.invokevirtual 23) 3 229 := ⟨DL_areTries_c7.2.2.2.2.2.2.1, rfl⟩
theorem dL_areTries_229 : Db cL_areTries 229 (fun o => .ifCond .lt o) 232 253 := ⟨24, DL_areTries_c7.2.2.2.2.2.2.2.1, rfl, rfl⟩
theorem dL_areTries_232 : Dc cL_areTries 232 (.aload_n 0) 1 233 := ⟨DL_areTries_c7.2.2.2.2.2.2.2.2.1, rfl⟩
theorem dL_areTries_233 : Dc cL_areTries 233 (.iload 4) 2 235 := ⟨DL_areTries_c7.2.2.2.2.2.2.2.2.2.1, rfl⟩
theorem dL_areTries_235 : Dc cL_areTries 235 (.iload 6) 2 237 := ⟨DL_areTries_c7.2.2.2.2.2.2.2.2.2.2.1, rfl⟩
theorem dL_areTries_237 : Dc cL_areTries 237 (.iconst 1) 1 238 := ⟨DL_areTries_c7.2.2.2.2.2.2.2.2.2.2.2.1, rfl⟩
theorem dL_areTries_238 : Dc cL_areTries 238 (.invokevirtual 23) 3 241 := ⟨DL_areTries_c7.2.2.2.2.2.2.2.2.2.2.2.2.1, rfl⟩
theorem dL_areTries_241 : Dc cL_areTries 241 (.iload 7) 2 243 := ⟨DL_areTries_c7.2.2.2.2.2.2.2.2.2.2.2.2.2.1, rfl⟩
theorem dL_areTries_243 : Dc cL_areTries 243 (.invokestatic 39) 3 246 := ⟨DL_areTries_c7.2.2.2.2.2.2.2.2.2.2.2.2.2.2.1, rfl⟩
theorem dL_areTries_246 : Db cL_areTries 246 (fun o => .if_icmp .gt o) 249 253 := ⟨7, DL_areTries_c7.2.2.2.2.2.2.2.2.2.2.2.2.2.2.2, rfl, rfl⟩
theorem DL_areTries_c8 : decode cL_areTries 249 = .ok (.iconst 1, 1) ∧ decode cL_areTries 250 = .ok (.goto 4, 3) ∧ decode cL_areTries 253 = .ok (.iconst 0, 1) ∧ decode cL_areTries 254 = .ok (.istore_n 3, 1) ∧ decode cL_areTries 255 = .ok (.iinc 6 1, 3) ∧ decode cL_areTries 258 = .ok (.goto (-72), 3) ∧ decode cL_areTries 261 = .ok (.iconst 0, 1) ∧ decode cL_areTries 262 = .ok (.istore 6, 2) ∧ decode cL_areTries 264 = .ok (.iload 6, 2) ∧ decode cL_areTries 266 = .ok (.iload 4, 2) ∧ decode cL_areTries 268 = .ok (.if_icmp .ge 100, 3) ∧ decode cL_areTries 271 = .ok (.iload_n 3, 1) ∧ decode cL_areTries 272 = .ok (.ifCond .eq 96, 3) ∧ decode cL_areTries 275 = .ok (.aload_n 0, 1) ∧ decode cL_areTries 276 = .ok (.iload 4, 2) ∧ decode cL_areTries 278 = .ok (.iload 6, 2) := by decide +kernel
theorem dL_areTries_249 : Dc cL_areTries 249 (.iconst 1) 1 250 := ⟨DL_areTries_c8.1, rfl⟩
theorem dL_areTries_250 : Db cL_areTries 250 .goto 253 254 := ⟨4, DL_areTries_c8.2.1, rfl, rfl⟩
theorem dL_areTries_253 : Dc cL_areTries 253 (.iconst 0) 1 254 := ⟨DL_areTries_c8.2.2.1, rfl⟩
theorem dL_areTries_254 : Dc cL_areTries 254 (.istore_n 3) 1 255 := ⟨DL_areTries_c8.2.2.2.1, rfl⟩
theorem dL_areTries_255 : Dc cL_areTries 255 (.iinc 6 1) 3 258 := ⟨DL_areTries_c8.2.2.2.2.1, rfl⟩
theorem dL_areTries_258 : Db cL_areTries 258 .goto 261 186 := ⟨-72, DL_areTries_c8.2.2.2.2.2.1, rfl, rfl⟩
theorem dL_areTries_261 : Dc cL_areTries 261 (.iconst 0) 1 262 := ⟨DL_areTries_c8.2.2.2.2.2.2.1, rfl⟩
theorem dL_areTries_262 : Dc cL_areTries 262 (.istore 6) 2 264 := ⟨DL_areTries_c8.2.2.2.2.2.2.2.1, rfl⟩
theorem dL_areTries_264 : Dc cL_areTries 264 (.iload 6) 2 266 := ⟨DL_areTries_c8.2.2.2.2.2.2.2.2.1, rfl⟩
theorem dL_areTries_266 : Dc cL_areTries 266 (.iload 4) 2 268 := ⟨DL_areTries_c8.2.2.2.2.2.2.2.2.2.1, rfl⟩
theorem dL_areTries_268 : Db cL_areTries 268 (fun o => .if_icmp .ge o) 271 368 := ⟨100, DL_areTries_c8.2.2.2.2.2.2.2.2.2.2.1, rfl, rfl⟩
theorem dL_areTries_271 : Dc cL_areTries 271 (.iload_n 3) 1 272 := ⟨DL_areTries_c8.2.2.2.2.2.2.2.2.2.2.2.1, rfl⟩
theorem dL_areTries_272 : Db cL_areTries 272 (fun o => .ifCond .eq o) 275 368 := ⟨96, DL_areTries_c8.2.2.2.2.2.2.2.2.2.2.2.2.1, rfl, rfl⟩
theorem dL_areTries_275 : Dc cL_areTries 275 (.aload_n 0) 1 276 := ⟨DL_areTries_c8.2.2.2.2.2.2.2.2.2.2.2.2.2.1, rfl⟩
theorem dL_areTries_276 : Dc cL_areTries 276 (.iload 4) 2 278 := ⟨DL_areTries_c8.2.2.2.2.2.2.2.2.2.2.2.2.2.2.1, rfl⟩
theorem dL_areTries_278 : Dc cL_areTries 278 (.iload 6) 2 280 := ⟨DL_areTries_c8.2.2.2.2.2.2.2.2.2.2.2.2.2.2.2, rfl⟩
theorem DL_areTries_c9 : decode cL_areTries 280 = .ok (.iconst 0, 1) ∧ decode cL_areTries 281 = .ok (.invokevirtual 36, 3) ∧ decode cL_areTries 284 = .ok (.istore 7, 2) ∧ decode cL_areTries 286 = .ok (.aload_n 0, 1) ∧ decode cL_areTries 287 = .ok (.iload 4, 2) ∧ decode cL_areTries 289 = .ok (.iload 6, 2) ∧ decode cL_areTries 291 = .ok (.iconst 1, 1) ∧ decode cL_areTries 292 = .ok (.invokevirtual 36, 3) ∧ decode cL_areTries 295 = .ok (.istore 8, 2) ∧ decode cL_areTries 297 = .ok (.iload 7, 2) ∧ decode cL_areTries 299 = .ok (.aload_n 0, 1) ∧ decode cL_areTries 300 = .ok (.iload 6, 2) ∧ decode cL_areTries 302 = .ok (.iload 4, 2) ∧ decode cL_areTries 304 = .ok (.iconst 0, 1) ∧ decode cL_areTries 305 = .ok (.invokevirtual 36, 3) ∧ decode cL_areTries 308 = .ok (.if_icmp .ne 52, 3) := by decide +kernel
theorem dL_areTries_280 : Dc cL_areTries 280 (.iconst 0) 1 281 := ⟨DL_areTries_c9.1, rfl⟩
theorem dL_areTries_281 : Dc cL_areTries 281 (.invokevirtual 36) 3 284 := ⟨DL_areTries_c9.2.1, rfl⟩
theorem dL_areTries_284 : Dc cL_areTries 284 (.istore 7) 2 286 := ⟨DL_areTries_c9.2.2.1, rfl⟩
theorem dL_areTries_286 : Dc cL_areTries 286 (.aload_n 0) 1 287 := ⟨DL_areTries_c9.2.2.2.1, rfl⟩
theorem dL_areTries_287 : Dc cL_areTries 287 (.iload 4) 2 289 := ⟨DL_areTries_c9.2.2.2.2.1, rfl⟩
theorem dL_areTries_289 : Dc cL_areTries 289 (.iload 6) 2 291 := ⟨DL_areTries_c9.2.2.2.2.2.1, rfl⟩
theorem dL_areTries_291 : Dc cL_areTries 291 (.iconst 1) 1 292 := ⟨DL_areTries_c9.2.2.2.2.2.2.1, rfl⟩
theorem dL_areTries_292 : Dc cL_areTries 292 (.invokevirtual 36) 3 295 := ⟨DL_areTries_c9.2.2.2.2.2.2.2.1, rfl⟩
theorem dL_areTries_295 : Dc cL_areTries 295 (.istore 8) 2 297 := ⟨DL_areTries_c9.2.2.2.2.2.2.2.2.1, rfl⟩
theorem dL_areTries_297 : Dc cL_areTries 297 (.iload 7) 2 299 := ⟨DL_areTries_c9.2.2.2.2.2.2.2.2.2.1, rfl⟩
theorem dL_areTries_299 : Dc cL_areTries 299 (.aload_n 0) 1 300 := ⟨DL_areTries_c9.2.2.2.2.2.2.2.2.2.2.1, rfl⟩
theorem dL_areTries_300 : Dc cL_areTries 300 (.iload 6) 2 302 := ⟨DL_areTries_c9.2.2.2.2.2.2.2.2.2.2.2.1, rfl⟩
theorem dL_areTries_302 : Dc cL_areTries 302 (.iload 4) 2 304 := ⟨DL_areTries_c9.2.2.2.2.2.2.2.2.2.2.2.2.1, rfl⟩
theorem dL_areTries_304 : Dc cL_areTries 304 (.iconst 0) 1 305 := ⟨DL_areTries_c9.2.2.2.2.2.2.2.2.2.2.2.2.2.1, rfl⟩
theorem dL_areTries_305 : Dc cL_areTries 305 (.invokevirtual 36) 3 308 := ⟨DL_areTries_c9.2.2.2.2.2.2.2.2.2.2.2.2.2.2.1, rfl⟩
theorem dL_areTries_308 : Db cL_areTries 308 (fun o => .if_icmp .ne o) 311 360 := ⟨52, DL_areTries_c9.2.2.2.2.2.2.2.2.2.2.2.2.2.2.2, rfl, rfl⟩
theorem DL_areTries_c10 : decode cL_areTries 311 = .ok (.iload 8, 2) ∧ decode cL_areTries 313 = .ok (.aload_n 0, 1) ∧ decode cL_areTries 314 = .ok (.iload 6, 2) ∧ decode cL_areTries 316 = .ok (.iload 4, 2) ∧ decode cL_areTries 318 = .ok (.iconst 1, 1) ∧ decode cL_areTries 319 = .ok (.invokevirtual 36, 3) ∧ decode cL_areTries 322 = .ok (.if_icmp .ne 38, 3) ∧ decode cL_areTries 325 = .ok (.iload 8, 2) ∧ decode cL_areTries 327 = .ok (.ifCond .lt 33, 3) ∧ decode cL_areTries 330 = .ok (.iload 8, 2) ∧ decode cL_areTries 332 = .ok (.iload 7, 2) ∧ decode cL_areTries 334 = .ok (.if_icmp .gt 26, 3) ∧ decode cL_areTries 337 = .ok (.iload 7, 2) ∧ decode cL_areTries 339 = .ok (.iload 5, 2) ∧ decode cL_areTries 341 = .ok (.if_icmp .gt 19, 3) ∧ decode cL_areTries 344 = .ok (.iload 7, 2) := by decide +kernel
theorem dL_areTries_311 : Dc cL_areTries 311 (.iload 8) 2 313 := ⟨DL_areTries_c10.1, rfl⟩
theorem dL_areTries_313 : Dc cL_areTries 313 (.aload_n 0) 1 314 := ⟨DL_areTries_c10.2.1, rfl⟩
theorem dL_areTries_314 : Dc cL_areTries 314 (.iload 6) 2 316 := ⟨DL_areTries_c10.2.2.1, rfl⟩
theorem dL_areTries_316 : Dc cL_areTries 316 (.iload 4) 2 318 := ⟨DL_areTries_c10.2.2.2.1, rfl⟩
theorem dL_areTries_318 : Dc cL_areTries 318 (.iconst 1) 1 319 := ⟨DL_areTries_c10.2.2.2.2.1, rfl⟩
theorem dL_areTries_319 : Dc cL_areTries 319 (.invokevirtual 36) 3 322 := ⟨DL_areTries_c10.2.2.2.2.2.1, rfl⟩
theorem dL_areTries_322 : Db cL_areTries 322 (fun o => .if_icmp .ne o) 325 360 := ⟨38, DL_areTries_c10.2.2.2.2.2.2.1, rfl, rfl⟩
theorem dL_areTries_325 : Dc cL_areTries 325 (.iload 8) 2 327 := ⟨DL_areTries_c10.2.2.2.2.2.2.2.1, rfl⟩
theorem dL_areTries_327 : Db cL_areTries 327 (fun o => .ifCond .lt o) 330 360 := ⟨33, DL_areTries_c10.2.2.2.2.2.2.2.2.1, rfl, rfl⟩
theorem dL_areTries_330 : Dc cL_areTries 330 (.iload 8) 2 332 := ⟨DL_areTries_c10.2.2.2.2.2.2.2.2.2.1, rfl⟩
theorem dL_areTries_332 : Dc cL_areTries 332 (.iload 7) 2 334 := ⟨DL_areTries_c10.2.2.2.2.2.2.2.2.2.2.1, rfl⟩
theorem dL_areTries_334 : Db cL_areTries 334 (fun o => .if_icmp .gt o) 337 360 := ⟨26, DL_areTries_c10.2.2.2.2.2.2.2.2.2.2.2.1, rfl, rfl⟩
theorem dL_areTries_337 : Dc cL_areTries 337 (.iload 7) 2 339 := ⟨DL_areTries_c10.2.2.2.2.2.2.2.2.2.2.2.2.1, rfl⟩
theorem dL_areTries_339 : Dc cL_areTries 339 (.iload 5) 2 341 := ⟨DL_areTries_c10.2.2.2.2.2.2.2.2.2.2.2.2.2.1, rfl⟩
theorem dL_areTries_341 : Db cL_areTries 341 (fun o => .if_icmp .gt o) 344 360 := ⟨19, DL_areTries_c10.2.2.2.2.2.2.2.2.2.2.2.2.2.2.1, rfl, rfl⟩
theorem dL_areTries_344 : Dc cL_areTries 344 (.iload 7) 2 346 := ⟨DL_areTries_c10.2.2.2.2.2.2.2.2.2.2.2.2.2.2.2, rfl⟩
theorem DL_areTries_c11 : decode cL_areTries 346 = .ok (.aload_n 0, 1) ∧ decode cL_areTries 347 = .ok (.iload 6, 2) ∧ decode cL_areTries 349 = .ok (.iconst 0, 1) ∧ decode cL_areTries 350 = .ok (.invokevirtual 27, 3) ∧ decode cL_areTries 353 = .ok (.if_icmp .gt 7, 3) ∧ decode cL_areTries 356 = .ok (.iconst 1, 1) ∧ decode cL_areTries 357 = .ok (.goto 4, 3) ∧ decode cL_areTries 360 = .ok (.iconst 0, 1) ∧ decode cL_areTries 361 = .ok (.istore_n 3, 1) ∧ decode cL_areTries 362 = .ok (.iinc 6 1, 3) ∧ decode cL_areTries 365 = .ok (.goto (-101), 3) ∧ decode cL_areTries 368 = .ok (.iinc 4 1, 3) ∧ decode cL_areTries 371 = .ok (.goto (-266), 3) ∧ decode cL_areTries 374 = .ok (.aload_n 0, 1) ∧ decode cL_areTries 375 = .ok (.iconst 0, 1) ∧ decode cL_areTries 376 = .ok (.invokevirtual 42, 3) := by decide +kernel
theorem dL_areTries_346 : Dc cL_areTries 346 (.aload_n 0) 1 347 := ⟨DL_areTries_c11.1, rfl⟩
theorem dL_areTries_347 : Dc cL_areTries 347 (.iload 6) 2 349 := ⟨DL_areTries_c11.2.1, rfl⟩
theorem dL_areTries_349 : Dc cL_areTries 349 (.iconst 0) 1 350 := ⟨DL_areTries_c11.2.2.1, rfl⟩
theorem dL_areTries_350 : Dc cL_areTries 350 (.invokevirtual 27) 3 353 := ⟨DL_areTries_c11.2.2.2.1, rfl⟩
theorem dL_areTries_353 : Db cL_areTries 353 (fun o => .if_icmp .gt o) 356 360 := ⟨7, DL_areTries_c11.2.2.2.2.1, rfl, rfl⟩
theorem dL_areTries_356 : Dc cL_areTries 356 (.iconst 1) 1 357 := ⟨DL_areTries_c11.2.2.2.2.2.1, rfl⟩
theorem dL_areTries_357 : Db cL_areTries 357 .goto 360 361 := ⟨4, DL_areTries_c11.2.2.2.2.2.2.1, rfl, rfl⟩
theorem dL_areTries_360 : Dc cL_areTries 360 (.iconst 0) 1 361 := ⟨DL_areTries_c11.2.2.2.2.2.2.2.1, rfl⟩
theorem dL_areTries_361 : Dc cL_areTries 361 (.istore_n 3) 1 362 := ⟨DL_areTries_c11.2.2.2.2.2.2.2.2.1, rfl⟩
theorem dL_areTries_362 : Dc cL_areTries 362 (.iinc 6 1) 3 365 := ⟨DL_areTries_c11.2.2.2.2.2.2.2.2.2.1, rfl⟩
theorem dL_areTries_365 : Db cL_areTries 365 .goto 368 264 := ⟨-101, DL_areTries_c11.2.2.2.2.2.2.2.2.2.2.1, rfl, rfl⟩
theorem dL_areTries_368 : Dc cL_areTries 368 (.iinc 4 1) 3 371 := ⟨DL_areTries_c11.2.2.2.2.2.2.2.2.2.2.2.1, rfl⟩
theorem dL_areTries_371 : Db cL_areTries 371 .goto 374 105 := ⟨-266, DL_areTries_c11.2.2.2.2.2.2.2.2.2.2.2.2.1, rfl, rfl⟩
theorem dL_areTries_374 : Dc cL_areTries 374 (.aload_n 0) 1 375 := ⟨DL_areTries_c11.2.2.2.2.2.2.2.2.2.2.2.2.2.1, rfl⟩
theorem dL_areTries_375 : Dc cL_areTries 375 (.iconst 0) 1 376 := ⟨DL_areTries_c11.2.2.2.2.2.2.2.2.2.2.2.2.2.2.1, rfl⟩
theorem dL_areTries_376 : Dc cL_areTries 376 (.invokevirtual 42) 3 379 := ⟨DL_areTries_c11.2.2.2.2.2.2.2.2.2.2.2.2.2.2.2, rfl⟩
theorem DL_areTries_c12 : decode cL_areTries 379 = .ok (.istore 4, 2) ∧ decode cL_areTries 381 = .ok (.aload_n 0, 1) ∧ decode cL_areTries 382 = .ok (.iconst 1, 1) ∧ decode cL_areTries 383 = .ok (.invokevirtual 42, 3) ∧ decode cL_areTries 386 = .ok (.istore 5, 2) ∧ decode cL_areTries 388 = .ok (.iload_n 3, 1) ∧ decode cL_areTries 389 = .ok (.ifCond .eq 152, 3) ∧ decode cL_areTries 392 = .ok (.iload 4, 2) ∧ decode cL_areTries 394 = .ok (.bipush (-5), 2) ∧ decode cL_areTries 396 = .ok (.if_icmp .ne 7, 3) ∧ decode cL_areTries 399 = .ok (.iconst 1, 1) ∧ decode cL_areTries 400 = .ok (.goto 4, 3) ∧ decode cL_areTries 403 = .ok (.iconst 0, 1) ∧ decode cL_areTries 404 = .ok (.aload_n 0, 1) ∧ decode cL_areTries 405 = .ok (.bipush 9, 2) ∧ decode cL_areTries 407 = .ok (.invokevirtual 20, 3) := by decide +kernel
theorem dL_areTries_379 : Dc cL_areTries 379 (.istore 4) 2 381 := ⟨DL_areTries_c12.1, rfl⟩
theorem dL_areTries_381 : Dc cL_areTries 381 (.aload_n 0) 1 382 := ⟨DL_areTries_c12.2.1, rfl⟩
theorem dL_areTries_382 : Dc cL_areTries 382 (.iconst 1) 1 383 := ⟨DL_areTries_c12.2.2.1, rfl⟩
theorem dL_areTries_383 : Dc cL_areTries 383 (.invokevirtual 42) 3 386 := ⟨DL_areTries_c12.2.2.2.1, rfl⟩
theorem dL_areTries_386 : Dc cL_areTries 386 (.istore 5) 2 388 := ⟨DL_areTries_c12.2.2.2.2.1, rfl⟩
theorem dL_areTries_388 : Dc cL_areTries 388 (.iload_n 3) 1 389 := ⟨DL_areTries_c12.2.2.2.2.2.1, rfl⟩
theorem dL_areTries_389 : Db cL_areTries 389 (fun o => .ifCond .eq o) 392 541 := ⟨152, DL_areTries_c12.2.2.2.2.2.2.1, rfl, rfl⟩
theorem dL_areTries_392 : Dc cL_areTries 392 (.iload 4) 2 394 := ⟨DL_areTries_c12.2.2.2.2.2.2.2.1, rfl⟩
theorem dL_areTries_394 : Dc cL_areTries 394 (.bipush (-5)) 2 396 := ⟨DL_areTries_c12.2.2.2.2.2.2.2.2.1, rfl⟩
theorem dL_areTries_396 : Db cL_areTries 396 (fun o => .if_icmp .ne o) 399 403 := ⟨7, DL_areTries_c12.2.2.2.2.2.2.2.2.2.1, rfl, rfl⟩
theorem dL_areTries_399 : Dc cL_areTries 399 (.iconst 1) 1 400 := ⟨DL_areTries_c12.2.2.2.2.2.2.2.2.2.2.1, rfl⟩
theorem dL_areTries_400 : Db cL_areTries 400 .goto 403 404 := ⟨4, DL_areTries_c12.2.2.2.2.2.2.2.2.2.2.2.1, rfl, rfl⟩
theorem dL_areTries_403 : Dc cL_areTries 403 (.iconst 0) 1 404 := ⟨DL_areTries_c12.2.2.2.2.2.2.2.2.2.2.2.2.1, rfl⟩
theorem dL_areTries_404 : Dc cL_areTries 404 (.aload_n 0) 1 405 := ⟨DL_areTries_c12.2.2.2.2.2.2.2.2.2.2.2.2.2.1, rfl⟩
theorem dL_areTries_405 : Dc cL_areTries 405 (.bipush 9) 2 407 := ⟨DL_areTries_c12.2.2.2.2.2.2.2.2.2.2.2.2.2.2.1, rfl⟩
theorem dL_areTries_407 : Dc cL_areTries 407 (.invokevirtual 20) 3 410 := ⟨DL_areTries_c12.2.2.2.2.2.2.2.2.2.2.2.2.2.2.2, rfl⟩
theorem DL_areTries_c13 : decode cL_areTries 410 = .ok (.iload_n 1, 1) ∧ decode cL_areTries 411 = .ok (.if_icmp .ne 7, 3) ∧ decode cL_areTries 414 = .ok (.iconst 1, 1) ∧ decode cL_areTries 415 = .ok (.goto 4, 3) ∧ decode cL_areTries 418 = .ok (.iconst 0, 1) ∧ decode cL_areTries 419 = .ok (.if_icmp .ne 122, 3) ∧ decode cL_areTries 422 = .ok (.iload 4, 2) ∧ decode cL_areTries 424 = .ok (.bipush (-5), 2) ∧ decode cL_areTries 426 = .ok (.if_icmp .ne 13, 3) ∧ decode cL_areTries 429 = .ok (.iload 5, 2) ∧ decode cL_areTries 431 = .ok (.bipush (-5), 2) ∧ decode cL_areTries 433 = .ok (.if_icmp .ne 108, 3) ∧ decode cL_areTries 436 = .ok (.goto 101, 3) ∧ decode cL_areTries 439 = .ok (.iload 4, 2) ∧ decode cL_areTries 441 = .ok (.bipush 10, 2) ∧ decode cL_areTries 443 = .ok (.idiv, 1) := by decide +kernel
theorem dL_areTries_410 : Dc cL_areTries 410 (.iload_n 1) 1 411 := ⟨DL_areTries_c13.1, rfl⟩
theorem dL_areTries_411 : Db cL_areTries 411 (fun o => .if_icmp .ne o) 414 418 := ⟨7, DL_areTries_c13.2.1, rfl, rfl⟩
theorem dL_areTries_414 : Dc cL_areTries 414 (.iconst 1) 1 415 := ⟨DL_areTries_c13.2.2.1, rfl⟩
theorem dL_areTries_415 : Db cL_areTries 415 .goto 418 419 := ⟨4, DL_areTries_c13.2.2.2.1, rfl, rfl⟩
theorem dL_areTries_418 : Dc cL_areTries 418 (.iconst 0) 1 419 := ⟨DL_areTries_c13.2.2.2.2.1, rfl⟩
theorem dL_areTries_419 : Db cL_areTries 419 (fun o => .if_icmp .ne o) 422 541 := ⟨122, DL_areTries_c13.2.2.2.2.2.1, rfl, rfl⟩
theorem dL_areTries_422 : Dc cL_areTries 422 (.iload 4) 2 424 := ⟨DL_areTries_c13.2.2.2.2.2.2.1, rfl⟩
theorem dL_areTries_424 : Dc cL_areTries 424 (.bipush (-5)) 2 426 := ⟨DL_areTries_c13.2.2.2.2.2.2.2.1, rfl⟩
theorem dL_areTries_426 : Db cL_areTries 426 (fun o => .if_icmp .ne o) 429 439 := ⟨13, DL_areTries_c13.2.2.2.2.2.2.2.2.1, rfl, rfl⟩
theorem dL_areTries_429 : Dc cL_areTries 429 (.iload 5) 2 431 := ⟨DL_areTries_c13.2.2.2.2.2.2.2.2.2.1, rfl⟩
theorem dL_areTries_431 : Dc cL_areTries 431 (.bipush (-5)) 2 433 := ⟨DL_areTries_c13.2.2.2.2.2.2.2.2.2.2.1, rfl⟩
theorem dL_areTries_433 : Db cL_areTries 433 (fun o => .if_icmp .ne o) 436 541 := ⟨108, DL_areTries_c13.2.2.2.2.2.2.2.2.2.2.2.1, rfl, rfl⟩
theorem dL_areTries_436 : Db cL_areTries 436 .goto 439 537 := ⟨101, DL_areTries_c13.2.2.2.2.2.2.2.2.2.2.2.2.1, rfl, rfl⟩
theorem dL_areTries_439 : Dc cL_areTries 439 (.iload 4) 2 441 := ⟨DL_areTries_c13.2.2.2.2.2.2.2.2.2.2.2.2.2.1, rfl⟩
theorem dL_areTries_441 : Dc cL_areTries 441 (.bipush 10) 2 443 := ⟨DL_areTries_c13.2.2.2.2.2.2.2.2.2.2.2.2.2.2.1, rfl⟩
theorem dL_areTries_443 : Dc cL_areTries 443 (.idiv) 1 444 := ⟨DL_areTries_c13.2.2.2.2.2.2.2.2.2.2.2.2.2.2.2, rfl⟩
theorem DL_areTries_c14 : decode cL_areTries 444 = .ok (.iload 4, 2) ∧ decode cL_areTries 446 = .ok (.bipush 10, 2) ∧ decode cL_areTries 448 = .ok (.irem, 1) ∧ decode cL_areTries 449 = .ok (.if_icmp .ge 92, 3) ∧ decode cL_areTries 452 = .ok (.iload 4, 2) ∧ decode cL_areTries 454 = .ok (.bipush 10, 2) ∧ decode cL_areTries 456 = .ok (.irem, 1) ∧ decode cL_areTries 457 = .ok (.iload_n 1, 1) ∧ decode cL_areTries 458 = .ok (.if_icmp .ge 83, 3) ∧ decode cL_areTries 461 = .ok (.aload_n 0, 1) ∧ decode cL_areTries 462 = .ok (.iload 4, 2) ∧ decode cL_areTries 464 = .ok (.bipush 10, 2) ∧ decode cL_areTries 466 = .ok (.idiv, 1) ∧ decode cL_areTries 467 = .ok (.iconst 0, 1) ∧ decode cL_areTries 468 = .ok (.invokevirtual 27, 3) ∧ decode cL_areTries 471 = .ok (.aload_n 0, 1) := by decide +kernel
theorem dL_areTries_444 : Dc cL_areTries 444 (.iload 4) 2 446 := ⟨DL_areTries_c14.1, rfl⟩
theorem dL_areTries_446 : Dc cL_areTries 446 (.bipush 10) 2 448 := ⟨DL_areTries_c14.2.1, rfl⟩
theorem dL_areTries_448 : Dc cL_areTries 448 (.irem) 1 449 := ⟨DL_areTries_c14.2.2.1, rfl⟩
theorem dL_areTries_449 : Db cL_areTries 449 (fun o => .if_icmp .ge o) 452 541 := ⟨92, DL_areTries_c14.2.2.2.1, rfl, rfl⟩
theorem dL_areTries_452 : Dc cL_areTries 452 (.iload 4) 2 454 := ⟨DL_areTries_c14.2.2.2.2.1, rfl⟩
theorem dL_areTries_454 : Dc cL_areTries 454 (.bipush 10) 2 456 := ⟨DL_areTries_c14.2.2.2.2.2.1, rfl⟩
theorem dL_areTries_456 : Dc cL_areTries 456 (.irem) 1 457 := ⟨DL_areTries_c14.2.2.2.2.2.2.1, rfl⟩
theorem dL_areTries_457 : Dc cL_areTries 457 (.iload_n 1) 1 458 := ⟨DL_areTries_c14.2.2.2.2.2.2.2.1, rfl⟩
theorem dL_areTries_458 : Db cL_areTries 458 (fun o => .if_icmp .ge o) 461 541 := ⟨83, DL_areTries_c14.2.2.2.2.2.2.2.2.1, rfl, rfl⟩
theorem dL_areTries_461 : Dc cL_areTries 461 (.aload_n 0) 1 462 := ⟨DL_areTries_c14.2.2.2.2.2.2.2.2.2.1, rfl⟩
theorem dL_areTries_462 : Dc cL_areTries 462 (.iload 4) 2 464 := ⟨DL_areTries_c14.2.2.2.2.2.2.2.2.2.2.1, rfl⟩
theorem dL_areTries_464 : Dc cL_areTries 464 (.bipush 10) 2 466 := ⟨DL_areTries_c14.2.2.2.2.2.2.2.2.2.2.2.1, rfl⟩
theorem dL_areTries_466 : Dc cL_areTries 466 (.idiv) 1 467 := ⟨DL_areTries_c14.2.2.2.2.2.2.2.2.2.2.2.2.1, rfl⟩
theorem dL_areTries_467 : Dc cL_areTries 467 (.iconst 0) 1 468 := ⟨DL_areTries_c14.2.2.2.2.2.2.2.2.2.2.2.2.2.1, rfl⟩
theorem dL_areTries_468 : Dc cL_areTries 468 (.invokevirtual 27) 3 471 := ⟨DL_areTries_c14.2.2.2.2.2.2.2.2.2.2.2.2.2.2.1, rfl⟩
theorem dL_areTries_471 : Dc cL_areTries 471 (.aload_n 0) 1 472 := ⟨DL_areTries_c14.2.2.2.2.2.2.2.2.2.2.2.2.2.2.2, rfl⟩
theorem DL_areTries_c15 : decode cL_areTries 472 = .ok (.iload 4, 2) ∧ decode cL_areTries 474 = .ok (.bipush 10, 2) ∧ decode cL_areTries 476 = .ok (.irem, 1) ∧ decode cL_areTries 477 = .ok (.iconst 0, 1) ∧ decode cL_areTries 478 = .ok (.invokevirtual 27, 3) ∧ decode cL_areTries 481 = .ok (.if_icmp .ne 60, 3) ∧ decode cL_areTries 484 = .ok (.aload_n 0, 1) ∧ decode cL_areTries 485 = .ok (.iload 4, 2) ∧ decode cL_areTries 487 = .ok (.bipush 10, 2) ∧ decode cL_areTries 489 = .ok (.idiv, 1) ∧ decode cL_areTries 490 = .ok (.iload 4, 2) ∧ decode cL_areTries 492 = .ok (.bipush 10, 2) ∧ decode cL_areTries 494 = .ok (.irem, 1) ∧ decode cL_areTries 495 = .ok (.iconst 0, 1) ∧ decode cL_areTries 496 = .ok (.invokevirtual 36, 3) ∧ decode cL_areTries 499 = .ok (.aload_n 0, 1) := by decide +kernel
theorem dL_areTries_472 : Dc cL_areTries 472 (.iload 4) 2 474 := ⟨DL_areTries_c15.1, rfl⟩
theorem dL_areTries_474 : Dc cL_areTries 474 (.bipush 10) 2 476 := ⟨DL_areTries_c15.2.1, rfl⟩
theorem dL_areTries_476 : Dc cL_areTries 476 (.irem) 1 477 := ⟨DL_areTries_c15.2.2.1, rfl⟩
theorem dL_areTries_477 : Dc cL_areTries 477 (.iconst 0) 1 478 := ⟨DL_areTries_c15.2.2.2.1, rfl⟩
theorem dL_areTries_478 : Dc cL_areTries 478 (.invokevirtual 27) 3 481 := ⟨DL_areTries_c15.2.2.2.2.1, rfl⟩
theorem dL_areTries_481 : Db cL_areTries 481 (fun o => .if_icmp .ne o) 484 541 := ⟨60, DL_areTries_c15.2.2.2.2.2.1, rfl, rfl⟩
theorem dL_areTries_484 : Dc cL_areTries 484 (.aload_n 0) 1 485 := ⟨DL_areTries_c15.2.2.2.2.2.2.1, rfl⟩
theorem dL_areTries_485 : Dc cL_areTries 485 (.iload 4) 2 487 := ⟨DL_areTries_c15.2.2.2.2.2.2.2.1, rfl⟩
theorem dL_areTries_487 : Dc cL_areTries 487 (.bipush 10) 2 489 := ⟨DL_areTries_c15.2.2.2.2.2.2.2.2.1, rfl⟩
theorem dL_areTries_489 : Dc cL_areTries 489 (.idiv) 1 490 := ⟨DL_areTries_c15.2.2.2.2.2.2.2.2.2.1, rfl⟩
theorem dL_areTries_490 : Dc cL_areTries 490 (.iload 4) 2 492 := ⟨DL_areTries_c15.2.2.2.2.2.2.2.2.2.2.1, rfl⟩
theorem dL_areTries_492 : Dc cL_areTries 492 (.bipush 10) 2 494 := ⟨DL_areTries_c15.2.2.2.2.2.2.2.2.2.2.2.1, rfl⟩
theorem dL_areTries_494 : Dc cL_areTries 494 (.irem) 1 495 := ⟨DL_areTries_c15.2.2.2.2.2.2.2.2.2.2.2.2.1, rfl⟩
theorem dL_areTries_495 : Dc cL_areTries 495 (.iconst 0) 1 496 := ⟨DL_areTries_c15.2.2.2.2.2.2.2.2.2.2.2.2.2.1, rfl⟩
theorem dL_areTries_496 : Dc cL_areTries 496 (.invokevirtual 36) 3 499 := ⟨DL_areTries_c15.2.2.2.2.2.2.2.2.2.2.2.2.2.2.1, rfl⟩
theorem dL_areTries_499 : Dc cL_areTries 499 (.aload_n 0) 1 500 := ⟨DL_areTries_c15.2.2.2.2.2.2.2.2.2.2.2.2.2.2.2, rfl⟩
theorem DL_areTries_c16 : decode cL_areTries 500 = .ok (.iload 4, 2) ∧ decode cL_areTries 502 = .ok (.bipush 10, 2) ∧ decode cL_areTries 504 = .ok (.idiv, 1) ∧ decode cL_areTries 505 = .ok (.iconst 0, 1) ∧ decode cL_areTries 506 = .ok (.invokevirtual 27, 3) ∧ decode cL_areTries 509 = .ok (.if_icmp .ne 32, 3) ∧ decode cL_areTries 512 = .ok (.iload 5, 2) ∧ decode cL_areTries 514 = .ok (.ifCond .lt 27, 3) ∧ decode cL_areTries 517 = .ok (.iload 5, 2) ∧ decode cL_areTries 519 = .ok (.aload_n 0, 1) ∧ decode cL_areTries 520 = .ok (.iload 4, 2) ∧ decode cL_areTries 522 = .ok (.bipush 10, 2) ∧ decode cL_areTries 524 = .ok (.idiv, 1) ∧ decode cL_areTries 525 = .ok (.iload 4, 2) ∧ decode cL_areTries 527 = .ok (.bipush 10, 2) ∧ decode cL_areTries 529 = .ok (.irem, 1) := by decide +kernel
theorem dL_areTries_500 : Dc cL_areTries 500 (.iload 4) 2 502 := ⟨DL_areTries_c16.1, rfl⟩
theorem dL_areTries_502 : Dc cL_areTries 502 (.bipush 10) 2 504 := ⟨DL_areTries_c16.2.1, rfl⟩
theorem dL_areTries_504 : Dc cL_areTries 504 (.idiv) 1 505 := ⟨DL_areTries_c16.2.2.1, rfl⟩
theorem dL_areTries_505 : Dc cL_areTries 505 (.iconst 0) 1 506 := ⟨DL_areTries_c16.2.2.2.1, rfl⟩
theorem dL_areTries_506 : Dc cL_areTries 506 (.invokevirtual 27) 3 509 := ⟨DL_areTries_c16.2.2.2.2.1, rfl⟩
theorem dL_areTries_509 : Db cL_areTries 509 (fun o => .if_icmp .ne o) 512 541 := ⟨32, DL_areTries_c16.2.2.2.2.2.1, rfl, rfl⟩
theorem dL_areTries_512 : Dc cL_areTries 512 (.iload 5) 2 514 := ⟨DL_areTries_c16.2.2.2.2.2.2.1, rfl⟩
theorem dL_areTries_514 : Db cL_areTries 514 (fun o => .ifCond .lt o) 517 541 := ⟨27, DL_areTries_c16.2.2.2.2.2.2.2.1, rfl, rfl⟩
theorem dL_areTries_517 : Dc cL_areTries 517 (.iload 5) 2 519 := ⟨DL_areTries_c16.2.2.2.2.2.2.2.2.1, rfl⟩
theorem dL_areTries_519 : Dc cL_areTries 519 (.aload_n 0) 1 520 := ⟨DL_areTries_c16.2.2.2.2.2.2.2.2.2.1, rfl⟩
theorem dL_areTries_520 : Dc cL_areTries 520 (.iload 4) 2 522 := ⟨DL_areTries_c16.2.2.2.2.2.2.2.2.2.2.1, rfl⟩
theorem dL_areTries_522 : Dc cL_areTries 522 (.bipush 10) 2 524 := ⟨DL_areTries_c16.2.2.2.2.2.2.2.2.2.2.2.1, rfl⟩
theorem dL_areTries_524 : Dc cL_areTries 524 (.idiv) 1 525 := ⟨DL_areTries_c16.2.2.2.2.2.2.2.2.2.2.2.2.1, rfl⟩
theorem dL_areTries_525 : Dc cL_areTries 525 (.iload 4) 2 527 := ⟨DL_areTries_c16.2.2.2.2.2.2.2.2.2.2.2.2.2.1, rfl⟩
theorem dL_areTries_527 : Dc cL_areTries 527 (.bipush 10) 2 529 := ⟨DL_areTries_c16.2.2.2.2.2.2.2.2.2.2.2.2.2.2.1, rfl⟩
theorem dL_areTries_529 : Dc cL_areTries 529 (.irem) 1 530 := ⟨DL_areTries_c16.2.2.2.2.2.2.2.2.2.2.2.2.2.2.2, rfl⟩
theorem DL_areTries_c17 : decode cL_areTries 530 = .ok (.iconst 1, 1) ∧ decode cL_areTries 531 = .ok (.invokevirtual 36, 3) ∧ decode cL_areTries 534 = .ok (.if_icmp .gt 7, 3) ∧ decode cL_areTries 537 = .ok (.iconst 1, 1) ∧ decode cL_areTries 538 = .ok (.goto 4, 3) ∧ decode cL_areTries 541 = .ok (.iconst 0, 1) ∧ decode cL_areTries 542 = .ok (.ireturn, 1) := by decide +kernel
theorem dL_areTries_530 : Dc cL_areTries 530 (.iconst 1) 1 531 := ⟨DL_areTries_c17.1, rfl⟩
theorem dL_areTries_531 : Dc cL_areTries 531 (.invokevirtual 36) 3 534 := ⟨DL_areTries_c17.2.1, rfl⟩
theorem dL_areTries_534 : Db cL_areTries 534 (fun o => .if_icmp .gt o) 537 541 := ⟨7, DL_areTries_c17.2.2.1, rfl, rfl⟩
theorem dL_areTries_537 : Dc cL_areTries 537 (.iconst 1) 1 538 := ⟨DL_areTries_c17.2.2.2.1, rfl⟩
theorem dL_areTries_538 : Db cL_areTries 538 .goto 541 542 := ⟨4, DL_areTries_c17.2.2.2.2.1, rfl, rfl⟩
theorem dL_areTries_541 : Dc cL_areTries 541 (.iconst 0) 1 542 := ⟨DL_areTries_c17.2.2.2.2.2.1, rfl⟩
theorem dL_areTries_542 : Dc cL_areTries 542 (.ireturn) 1 543 := ⟨DL_areTries_c17.2.2.2.2.2.2, rfl⟩
theorem DL_areLoops_c0 : decode cL_areLoops 0 = .ok (.aload_n 0, 1) ∧ decode cL_areLoops 1 = .ok (.iconst 4, 1) ∧ decode cL_areLoops 2 = .ok (.invokevirtual 20, 3) ∧ decode cL_areLoops 5 = .ok (.istore_n 1, 1) ∧ decode cL_areLoops 6 = .ok (.iload_n 1, 1) ∧ decode cL_areLoops 7 = .ok (.ifCond .lt 13, 3) ∧ decode cL_areLoops 10 = .ok (.iload_n 1, 1) ∧ decode cL_areLoops 11 = .ok (.bipush 6, 2) ∧ decode cL_areLoops 13 = .ok (.if_icmp .gt 7, 3) ∧ decode cL_areLoops 16 = .ok (.iconst 1, 1) ∧ decode cL_areLoops 17 = .ok (.goto 4, 3) ∧ decode cL_areLoops 20 = .ok (.iconst 0, 1) ∧ decode cL_areLoops 21 = .ok (.istore_n 2, 1) ∧ decode cL_areLoops 22 = .ok (.iconst 0, 1) ∧ decode cL_areLoops 23 = .ok (.istore_n 3, 1) ∧ decode cL_areLoops 24 = .ok (.iload_n 3, 1) := by decide +kernel
theorem dL_areLoops_0 : Dc cL_areLoops 0 (.aload_n 0) 1 1 := ⟨DL_areLoops_c0.1, rfl⟩
theorem dL_areLoops_1 : Dc cL_areLoops 1 (.iconst 4) 1 2 := ⟨DL_areLoops_c0.2.1, rfl⟩
theorem dL_areLoops_2 : Dc cL_areLoops 2 (.invokevirtual 20) 3 5 := ⟨DL_areLoops_c0.2.2.1, rfl⟩
theorem dL_areLoops_5 : Dc cL_areLoops 5 (.istore_n 1) 1 6 := ⟨DL_areLoops_c0.2.2.2.1, rfl⟩
theorem dL_areLoops_6 : Dc cL_areLoops 6 (.iload_n 1) 1 7 := ⟨DL_areLoops_c0.2.2.2.2.1, rfl⟩
theorem dL_areLoops_7 : Db cL_areLoops 7 (fun o => .ifCond .lt o) 10 20 := ⟨13, DL_areLoops_c0.2.2.2.2.2.1, rfl, rfl⟩
theorem dL_areLoops_10 : Dc cL_areLoops 10 (.iload_n 1) 1 11 := ⟨DL_areLoops_c0.2.2.2.2.2.2.1, rfl⟩
theorem dL_areLoops_11 : Dc cL_areLoops 11 (.bipush 6) 2 13 := ⟨DL_areLoops_c0.2.2.2.2.2.2.2.1, rfl⟩
theorem dL_areLoops_13 : Db cL_areLoops 13 (fun o => .if_icmp .gt o) 16 20 := ⟨7, DL_areLoops_c0.2.2.2.2.2.2.2.2.1, rfl, rfl⟩
theorem dL_areLoops_16 : Dc cL_areLoops 16 (.iconst 1) 1 17 := ⟨DL_areLoops_c0.2.2.2.2.2.2.2.2.2.1, rfl⟩
theorem dL_areLoops_17 : Db cL_areLoops 17 .goto 20 21 := ⟨4, DL_areLoops_c0.2.2.2.2.2.2.2.2.2.2.1, rfl, rfl⟩
theorem dL_areLoops_20 : Dc cL_areLoops 20 (.iconst 0) 1 21 := ⟨DL_areLoops_c0.2.2.2.2.2.2.2.2.2.2.2.1, rfl⟩
theorem dL_areLoops_21 : Dc cL_areLoops 21 (.istore_n 2) 1 22 := ⟨DL_areLoops_c0.2.2.2.2.2.2.2.2.2.2.2.2.1, rfl⟩
theorem dL_areLoops_22 : Dc cL_areLoops 22 (.iconst 0) 1 23 := ⟨DL_areLoops_c0.2.2.2.2.2.2.2.2.2.2.2.2.2.1, rfl⟩
theorem dL_areLoops_23 : Dc cL_areLoops 23 (.istore_n 3) 1 24 := ⟨DL_areLoops_c0.2.2.2.2.2.2.2.2.2.2.2.2.2.2.1, rfl⟩
theorem dL_areLoops_24 : Dc cL_areLoops 24 (.iload_n 3) 1 25 := ⟨DL_areLoops_c0.2.2.2.2.2.2.2.2.2.2.2.2.2.2.2, rfl⟩
theorem DL_areLoops_c1 : decode cL_areLoops 25 = .ok (.iload_n 1, 1) ∧ decode cL_areLoops 26 = .ok (.if_icmp .ge 491, 3) ∧ decode cL_areLoops 29 = .ok (.iload_n 2, 1) ∧ decode cL_areLoops 30 = .ok (.ifCond .eq 487, 3) ∧ decode cL_areLoops 33 = .ok (.aload_n 0, 1) ∧ decode cL_areLoops 34 = .ok (.iload_n 3, 1) ∧ decode cL_areLoops 35 = .ok (.iconst 1, 1) ∧ decode cL_areLoops 36 = .ok (.invokevirtual 27, 3) ∧ decode cL_areLoops 39 = .ok (.istore 4, 2) ∧ decode cL_areLoops 41 = .ok (.aload_n 0, 1) ∧ decode cL_areLoops 42 = .ok (.iload_n 3, 1) ∧ decode cL_areLoops 43 = .ok (.iconst 2, 1) ∧ decode cL_areLoops 44 = .ok (.invokevirtual 27, 3) ∧ decode cL_areLoops 47 = .ok (.istore 5, 2) ∧ decode cL_areLoops 49 = .ok (.aload_n 0, 1) ∧ decode cL_areLoops 50 = .ok (.iload_n 3, 1) := by decide +kernel
theorem dL_areLoops_25 : Dc cL_areLoops 25 (.iload_n 1) 1 26 := ⟨DL_areLoops_c1.1, rfl⟩
theorem dL_areLoops_26 : Db cL_areLoops 26 (fun o => .if_icmp .ge o) 29 517 := ⟨491, DL_areLoops_c1.2.1, rfl, rfl⟩
theorem dL_areLoops_29 : Dc cL_areLoops 29 (.iload_n 2) 1 30 := ⟨DL_areLoops_c1.2.2.1, rfl⟩
theorem dL_areLoops_30 : Db cL_areLoops 30 (fun o => .ifCond .eq o) 33 517 := ⟨487, DL_areLoops_c1.2.2.2.1, rfl, rfl⟩
theorem dL_areLoops_33 : Dc cL_areLoops 33 (.aload_n 0) 1 34 := ⟨DL_areLoops_c1.2.2.2.2.1, rfl⟩
theorem dL_areLoops_34 : Dc cL_areLoops 34 (.iload_n 3) 1 35 := ⟨DL_areLoops_c1.2.2.2.2.2.1, rfl⟩
theorem dL_areLoops_35 : Dc cL_areLoops 35 (.iconst 1) 1 36 := ⟨DL_areLoops_c1.2.2.2.2.2.2.1, rfl⟩
theorem dL_areLoops_36 : Dc cL_areLoops 36 (.invokevirtual 27) 3 39 := ⟨DL_areLoops_c1.2.2.2.2.2.2.2.1, rfl⟩
theorem dL_areLoops_39 : Dc cL_areLoops 39 (.istore 4) 2 41 := ⟨DL_areLoops_c1.2.2.2.2.2.2.2.2.1, rfl⟩
theorem dL_areLoops_41 : Dc cL_areLoops 41 (.aload_n 0) 1 42 := ⟨DL_areLoops_c1.2.2.2.2.2.2.2.2.2.1, rfl⟩
theorem dL_areLoops_42 : Dc cL_areLoops 42 (.iload_n 3) 1 43 := ⟨DL_areLoops_c1.2.2.2.2.2.2.2.2.2.2.1, rfl⟩
theorem dL_areLoops_43 : Dc cL_areLoops 43 (.iconst 2) 1 44 := ⟨DL_areLoops_c1.2.2.2.2.2.2.2.2.2.2.2.1, rfl⟩
theorem dL_areLoops_44 : Dc cL_areLoops 44 (.invokevirtual 27) 3 47 := ⟨DL_areLoops_c1.2.2.2.2.2.2.2.2.2.2.2.2.1, rfl⟩
theorem dL_areLoops_47 : Dc cL_areLoops 47 (.istore 5) 2 49 := ⟨DL_areLoops_c1.2.2.2.2.2.2.2.2.2.2.2.2.2.1, rfl⟩
theorem dL_areLoops_49 : Dc cL_areLoops 49 (.aload_n 0) 1 50 := ⟨DL_areLoops_c1.2.2.2.2.2.2.2.2.2.2.2.2.2.2.1, rfl⟩
theorem dL_areLoops_50 : Dc cL_areLoops 50 (.iload_n 3) 1 51 := ⟨DL_areLoops_c1.2.2.2.2.2.2.2.2.2.2.2.2.2.2.2, rfl⟩
theorem DL_areLoops_c2 : decode cL_areLoops 51 = .ok (.invokevirtual 45, 3) ∧ decode cL_areLoops 54 = .ok (.istore 6, 2) ∧ decode cL_areLoops 56 = .ok (.iconst 1, 1) ∧ decode cL_areLoops 57 = .ok (.istore 7, 2) ∧ decode cL_areLoops 59 = .ok (.iload 4, 2) ∧ decode cL_areLoops 61 = .ok (.ifCond .le 38, 3) ∧ decode cL_areLoops 64 = .ok (.iload 4, 2) ∧ decode cL_areLoops 66 = .ok (.bipush 13, 2) ∧ decode cL_areLoops 68 = .ok (.if_icmp .ge 31, 3) ∧ decode cL_areLoops 71 = .ok (.iload 5, 2) ∧ decode cL_areLoops 73 = .ok (.ifCond .le 26, 3) ∧ decode cL_areLoops 76 = .ok (.iload 5, 2) ∧ decode cL_areLoops 78 = .ok (.bipush 100, 2) ∧ decode cL_areLoops 80 = .ok (.if_icmp .ge 19, 3) ∧ decode cL_areLoops 83 = .ok (.aload_n 0, 1) ∧ decode cL_areLoops 84 = .ok (.iload_n 3, 1) := by decide +kernel
theorem dL_areLoops_51 : Dc cL_areLoops 51 (.invokevirtual 45) 3 54 := ⟨DL_areLoops_c2.1, rfl⟩
theorem dL_areLoops_54 : Dc cL_areLoops 54 (.istore 6) 2 56 := ⟨DL_areLoops_c2.2.1, rfl⟩
theorem dL_areLoops_56 : Dc cL_areLoops 56 (.iconst 1) 1 57 := ⟨DL_areLoops_c2.2.2.1, rfl⟩
theorem dL_areLoops_57 : Dc cL_areLoops 57 (.istore 7) 2 59 := ⟨DL_areLoops_c2.2.2.2.1, rfl⟩
theorem dL_areLoops_59 : Dc cL_areLoops 59 (.iload 4) 2 61 := ⟨DL_areLoops_c2.2.2.2.2.1, rfl⟩
theorem dL_areLoops_61 : Db cL_areLoops 61 (fun o => .ifCond .le o) 64 99 := ⟨38, DL_areLoops_c2.2.2.2.2.2.1, rfl, rfl⟩
theorem dL_areLoops_64 : Dc cL_areLoops 64 (.iload 4) 2 66 := ⟨DL_areLoops_c2.2.2.2.2.2.2.1, rfl⟩
theorem dL_areLoops_66 : Dc cL_areLoops 66 (.bipush 13) 2 68 := ⟨DL_areLoops_c2.2.2.2.2.2.2.2.1, rfl⟩
theorem dL_areLoops_68 : Db cL_areLoops 68 (fun o => .if_icmp .ge o) 71 99 := ⟨31, DL_areLoops_c2.2.2.2.2.2.2.2.2.1, rfl, rfl⟩
theorem dL_areLoops_71 : Dc cL_areLoops 71 (.iload 5) 2 73 := ⟨DL_areLoops_c2.2.2.2.2.2.2.2.2.2.1, rfl⟩
theorem dL_areLoops_73 : Db cL_areLoops 73 (fun o => .ifCond .le o) 76 99 := ⟨26, DL_areLoops_c2.2.2.2.2.2.2.2.2.2.2.1, rfl, rfl⟩
theorem dL_areLoops_76 : Dc cL_areLoops 76 (.iload 5) 2 78 := ⟨DL_areLoops_c2.2.2.2.2.2.2.2.2.2.2.2.1, rfl⟩
theorem dL_areLoops_78 : Dc cL_areLoops 78 (.bipush 100) 2 80 := ⟨DL_areLoops_c2.2.2.2.2.2.2.2.2.2.2.2.2.1, rfl⟩
theorem dL_areLoops_80 : Db cL_areLoops 80 (fun o => .if_icmp .ge o) 83 99 := ⟨19, DL_areLoops_c2.2.2.2.2.2.2.2.2.2.2.2.2.2.1, rfl, rfl⟩
theorem dL_areLoops_83 : Dc cL_areLoops 83 (.aload_n 0) 1 84 := ⟨DL_areLoops_c2.2.2.2.2.2.2.2.2.2.2.2.2.2.2.1, rfl⟩
theorem dL_areLoops_84 : Dc cL_areLoops 84 (.iload_n 3) 1 85 := ⟨DL_areLoops_c2.2.2.2.2.2.2.2.2.2.2.2.2.2.2.2, rfl⟩
theorem DL_areLoops_c3 : decode cL_areLoops 85 = .ok (.iload 4, 2) ∧ decode cL_areLoops 87 = .ok (.iconst 0, 1) ∧ decode cL_areLoops 88 = .ok (.invokevirtual 31, 3) ∧ decode cL_areLoops 91 = .ok (.iconst (-1), 1) ∧ decode cL_areLoops 92 = .ok (.if_icmp .ne 7, 3) ∧ decode cL_areLoops 95 = .ok (.iconst 1, 1) ∧ decode cL_areLoops 96 = .ok (.goto 4, 3) ∧ decode cL_areLoops 99 = .ok (.iconst 0, 1) ∧ decode cL_areLoops 100 = .ok (.istore_n 2, 1) ∧ decode cL_areLoops 101 = .ok (.iconst 0, 1) ∧ decode cL_areLoops 102 = .ok (.istore 8, 2) ∧ decode cL_areLoops 104 = .ok (.iload 8, 2) ∧ decode cL_areLoops 106 = .ok (.iload 4, 2) ∧ decode cL_areLoops 108 = .ok (.if_icmp .ge 160, 3) ∧ decode cL_areLoops 111 = .ok (.iload_n 2, 1) ∧ decode cL_areLoops 112 = .ok (.ifCond .eq 156, 3) := by decide +kernel
theorem dL_areLoops_85 : Dc cL_areLoops 85 (.iload 4) 2 87 := ⟨DL_areLoops_c3.1, rfl⟩
theorem dL_areLoops_87 : Dc cL_areLoops 87 (.iconst 0) 1 88 := ⟨DL_areLoops_c3.2.1, rfl⟩
theorem dL_areLoops_88 : Dc cL_areLoops 88 (.invokevirtual 31) 3 91 := ⟨DL_areLoops_c3.2.2.1, rfl⟩
theorem dL_areLoops_91 : Dc cL_areLoops 91 (.iconst (-1)) 1 92 := ⟨DL_areLoops_c3.2.2.2.1, rfl⟩
theorem dL_areLoops_92 : Db cL_areLoops 92 (fun o => .if_icmp .ne o) 95 99 := ⟨7, DL_areLoops_c3.2.2.2.2.1, rfl, rfl⟩
theorem dL_areLoops_95 : Dc cL_areLoops 95 (.iconst 1) 1 96 := ⟨DL_areLoops_c3.2.2.2.2.2.1, rfl⟩
theorem dL_areLoops_96 : Db cL_areLoops 96 .goto 99 100 := ⟨4, DL_areLoops_c3.2.2.2.2.2.2.1, rfl, rfl⟩
theorem dL_areLoops_99 : Dc cL_areLoops 99 (.iconst 0) 1 100 := ⟨DL_areLoops_c3.2.2.2.2.2.2.2.1, rfl⟩
theorem dL_areLoops_100 : Dc cL_areLoops 100 (.istore_n 2) 1 101 := ⟨DL_areLoops_c3.2.2.2.2.2.2.2.2.1, rfl⟩
theorem dL_areLoops_101 : Dc cL_areLoops 101 (.iconst 0) 1 102 := ⟨DL_areLoops_c3.2.2.2.2.2.2.2.2.2.1, rfl⟩
theorem dL_areLoops_102 : Dc cL_areLoops 102 (.istore 8) 2 104 := ⟨DL_areLoops_c3.2.2.2.2.2.2.2.2.2.2.1, rfl⟩
theorem dL_areLoops_104 : Dc cL_areLoops 104 (.iload 8) 2 106 := ⟨DL_areLoops_c3.2.2.2.2.2.2.2.2.2.2.2.1, rfl⟩
theorem dL_areLoops_106 : Dc cL_areLoops 106 (.iload 4) 2 108 := ⟨DL_areLoops_c3.2.2.2.2.2.2.2.2.2.2.2.2.1, rfl⟩
theorem dL_areLoops_108 : Db cL_areLoops 108 (fun o => .if_icmp .ge o) 111 268 := ⟨160, DL_areLoops_c3.2.2.2.2.2.2.2.2.2.2.2.2.2.1, rfl, rfl⟩
theorem dL_areLoops_111 : Dc cL_areLoops 111 (.iload_n 2) 1 112 := ⟨DL_areLoops_c3.2.2.2.2.2.2.2.2.2.2.2.2.2.2.1, rfl⟩
theorem dL_areLoops_112 : Db cL_areLoops 112 (fun o => .ifCond .eq o) 115 268 := ⟨156, DL_areLoops_c3.2.2.2.2.2.2.2.2.2.2.2.2.2.2.2, rfl, rfl⟩
theorem DL_areLoops_c4 : decode cL_areLoops 115 = .ok (.aload_n 0, 1) ∧ decode cL_areLoops 116 = .ok (.iload_n 3, 1) ∧ decode cL_areLoops 117 = .ok (.iload 8, 2) ∧ decode cL_areLoops 119 = .ok (.iconst 0, 1) ∧ decode cL_areLoops 120 = .ok (.invokevirtual 31, 3) ∧ decode cL_areLoops 123 = .ok (.istore 9, 2) ∧ decode cL_areLoops 125 = .ok (.aload_n 0, 1) ∧ decode cL_areLoops 126 = .ok (.iload_n 3, 1) ∧ decode cL_areLoops 127 = .ok (.iload 8, 2) ∧ decode cL_areLoops 129 = .ok (.iconst 1, 1) ∧ decode cL_areLoops 130 = .ok (.invokevirtual 31, 3) ∧ decode cL_areLoops 133 = .ok (.istore 10, 2) ∧ decode cL_areLoops 135 = .ok (.aload_n 0, 1) ∧ decode cL_areLoops 136 = .ok (.iload_n 3, 1) ∧ decode cL_areLoops 137 = .ok (.iload 8, 2) ∧ decode cL_areLoops 139 = .ok (.iconst 2, 1) := by decide +kernel
theorem dL_areLoops_115 : Dc cL_areLoops 115 (.aload_n 0) 1 116 := ⟨DL_areLoops_c4.1, rfl⟩
theorem dL_areLoops_116 : Dc cL_areLoops 116 (.iload_n 3) 1 117 := ⟨DL_areLoops_c4.2.1, rfl⟩
theorem dL_areLoops_117 : Dc cL_areLoops 117 (.iload 8) 2 119 := ⟨DL_areLoops_c4.2.2.1, rfl⟩
theorem dL_areLoops_119 : Dc cL_areLoops 119 (.iconst 0) 1 120 := ⟨DL_areLoops_c4.2.2.2.1, rfl⟩
theorem dL_areLoops_120 : Dc cL_areLoops 120 (.invokevirtual 31) 3 123 := ⟨DL_areLoops_c4.2.2.2.2.1, rfl⟩
theorem dL_areLoops_123 : Dc cL_areLoops 123 (.istore 9) 2 125 := ⟨DL_areLoops_c4.2.2.2.2.2.1, rfl⟩
theorem dL_areLoops_125 : Dc cL_areLoops 125 (.aload_n 0) 1 126 := ⟨DL_areLoops_c4.2.2.2.2.2.2.1, rfl⟩
theorem dL_areLoops_126 : Dc cL_areLoops 126 (.iload_n 3) 1 127 := ⟨DL_areLoops_c4.2.2.2.2.2.2.2.1, rfl⟩
theorem dL_areLoops_127 : Dc cL_areLoops 127 (.iload 8) 2 129 := ⟨DL_areLoops_c4.2.2.2.2.2.2.2.2.1, rfl⟩
theorem dL_areLoops_129 : Dc cL_areLoops 129 (.iconst 1) 1 130 := ⟨DL_areLoops_c4.2.2.2.2.2.2.2.2.2.1, rfl⟩
theorem dL_areLoops_130 : Dc cL_areLoops 130 (.invokevirtual 31) 3 133 := ⟨DL_areLoops_c4.2.2.2.2.2.2.2.2.2.2.1, rfl⟩
theorem dL_areLoops_133 : Dc cL_areLoops 133 (.istore 10) 2 135 := ⟨DL_areLoops_c4.2.2.2.2.2.2.2.2.2.2.2.1, rfl⟩
theorem dL_areLoops_135 : Dc cL_areLoops 135 (.aload_n 0) 1 136 := ⟨DL_areLoops_c4.2.2.2.2.2.2.2.2.2.2.2.2.1, rfl⟩
theorem dL_areLoops_136 : Dc cL_areLoops 136 (.iload_n 3) 1 137 := ⟨DL_areLoops_c4.2.2.2.2.2.2.2.2.2.2.2.2.2.1, rfl⟩
theorem dL_areLoops_137 : Dc cL_areLoops 137 (.iload 8) 2 139 := ⟨DL_areLoops_c4.2.2.2.2.2.2.2.2.2.2.2.2.2.2.1, rfl⟩
theorem dL_areLoops_139 : Dc cL_areLoops 139 (.iconst 2) 1 140 := ⟨DL_areLoops_c4.2.2.2.2.2.2.2.2.2.2.2.2.2.2.2, rfl⟩
theorem DL_areLoops_c5 : decode cL_areLoops 140 = .ok (.invokevirtual 31, 3) ∧ decode cL_areLoops 143 = .ok (.sipush 1000, 3) ∧ decode cL_areLoops 146 = .ok (.isub, 1) ∧ decode cL_areLoops 147 = .ok (.istore 11, 2) ∧ decode cL_areLoops 149 = .ok (.aload_n 0, 1) ∧ decode cL_areLoops 150 = .ok (.iload_n 3, 1) ∧ decode cL_areLoops 151 = .ok (.iload 8, 2) ∧ decode cL_areLoops 153 = .ok (.iconst 3, 1) ∧ decode cL_areLoops 154 = .ok (.invokevirtual 31, 3) ∧ decode cL_areLoops 157 = .ok (.sipush 10000, 3) ∧ decode cL_areLoops 160 = .ok (.isub, 1) ∧ decode cL_areLoops 161 = .ok (.istore 12, 2) ∧ decode cL_areLoops 163 = .ok (.iload 7, 2) ∧ decode cL_areLoops 165 = .ok (.ifCond .eq 22, 3) ∧ decode cL_areLoops 168 = .ok (.iload 12, 2) ∧ decode cL_areLoops 170 = .ok (.ifCond .lt 17, 3) := by decide +kernel
theorem dL_areLoops_140 : Dc cL_areLoops 140 (.invokevirtual 31) 3 143 := ⟨DL_areLoops_c5.1, rfl⟩
theorem dL_areLoops_143 : Dc cL_areLoops 143 (.sipush 1000) 3 146 := ⟨DL_areLoops_c5.2.1, rfl⟩
theorem dL_areLoops_146 : Dc cL_areLoops 146 (.isub) 1 147 := ⟨DL_areLoops_c5.2.2.1, rfl⟩
theorem dL_areLoops_147 : Dc cL_areLoops 147 (.istore 11) 2 149 := ⟨DL_areLoops_c5.2.2.2.1, rfl⟩
theorem dL_areLoops_149 : Dc cL_areLoops 149 (.aload_n 0) 1 150 := ⟨DL_areLoops_c5.2.2.2.2.1, rfl⟩
theorem dL_areLoops_150 : Dc cL_areLoops 150 (.iload_n 3) 1 151 := ⟨DL_areLoops_c5.2.2.2.2.2.1, rfl⟩
theorem dL_areLoops_151 : Dc cL_areLoops 151 (.iload 8) 2 153 := ⟨DL_areLoops_c5.2.2.2.2.2.2.1, rfl⟩
theorem dL_areLoops_153 : Dc cL_areLoops 153 (.iconst 3) 1 154 := ⟨DL_areLoops_c5.2.2.2.2.2.2.2.1, rfl⟩
theorem dL_areLoops_154 : Dc cL_areLoops 154 (.invokevirtual 31) 3 157 := ⟨DL_areLoops_c5.2.2.2.2.2.2.2.2.1, rfl⟩
theorem dL_areLoops_157 : Dc cL_areLoops 157 (.sipush 10000) 3 160 := ⟨DL_areLoops_c5.2.2.2.2.2.2.2.2.2.1, rfl⟩
theorem dL_areLoops_160 : Dc cL_areLoops 160 (.isub) 1 161 := ⟨DL_areLoops_c5.2.2.2.2.2.2.2.2.2.2.1, rfl⟩
theorem dL_areLoops_161 : Dc cL_areLoops 161 (.istore 12) 2 163 := ⟨DL_areLoops_c5.2.2.2.2.2.2.2.2.2.2.2.1, rfl⟩
theorem dL_areLoops_163 : Dc cL_areLoops 163 (.iload 7) 2 165 := ⟨DL_areLoops_c5.2.2.2.2.2.2.2.2.2.2.2.2.1, rfl⟩
theorem dL_areLoops_165 : Db cL_areLoops 165 (fun o => .ifCond .eq o) 168 187 := ⟨22, DL_areLoops_c5.2.2.2.2.2.2.2.2.2.2.2.2.2.1, rfl, rfl⟩
theorem dL_areLoops_168 : Dc cL_areLoops 168 (.iload 12) 2 170 := ⟨DL_areLoops_c5.2.2.2.2.2.2.2.2.2.2.2.2.2.2.1, rfl⟩
theorem dL_areLoops_170 : Db cL_areLoops 170 (fun o => .ifCond .lt o) 173 187 := ⟨17, DL_areLoops_c5.2.2.2.2.2.2.2.2.2.2.2.2.2.2.2, rfl, rfl⟩
theorem DL_areLoops_c6 : decode cL_areLoops 173 = .ok (.iload 12, 2) ∧ decode cL_areLoops 175 = .ok (.iload 9, 2) ∧ decode cL_areLoops 177 = .ok (.invokestatic 39, 3) ∧ decode cL_areLoops 180 = .ok (.if_icmp .gt 7, 3) ∧ decode cL_areLoops 183 = .ok (.iconst 1, 1) ∧ decode cL_areLoops 184 = .ok (.goto 4, 3) ∧ decode cL_areLoops 187 = .ok (.iconst 0, 1) ∧ decode cL_areLoops 188 = .ok (.istore 7, 2) ∧ decode cL_areLoops 190 = .ok (.iload 9, 2) ∧ decode cL_areLoops 192 = .ok (.ifCond .lt 68, 3) ∧ decode cL_areLoops 195 = .ok (.iload 9, 2) ∧ decode cL_areLoops 197 = .ok (.bipush 6, 2) ∧ decode cL_areLoops 199 = .ok (.if_icmp .ge 61, 3) ∧ decode cL_areLoops 202 = .ok (.iload 10, 2) ∧ decode cL_areLoops 204 = .ok (.ifCond .lt 56, 3) ∧ decode cL_areLoops 207 = .ok (.iload 10, 2) := by decide +kernel
theorem dL_areLoops_173 : Dc cL_areLoops 173 (.iload 12) 2 175 := ⟨DL_areLoops_c6.1, rfl⟩
theorem dL_areLoops_175 : Dc cL_areLoops 175 (.iload 9) 2 177 := ⟨DL_areLoops_c6.2.1, rfl⟩
theorem dL_areLoops_177 : Dc cL_areLoops 177 (.invokestatic 39) 3 180 := ⟨DL_areLoops_c6.2.2.1, rfl⟩
theorem dL_areLoops_180 : Db cL_areLoops 180 (fun o => .if_icmp .gt o) 183 187 := ⟨7, DL_areLoops_c6.2.2.2.1, rfl, rfl⟩
theorem dL_areLoops_183 : Dc cL_areLoops 183 (.iconst 1) 1 184 := ⟨DL_areLoops_c6.2.2.2.2.1, rfl⟩
theorem dL_areLoops_184 : Db cL_areLoops 184 .goto 187 188 := ⟨4, DL_areLoops_c6.2.2.2.2.2.1, rfl, rfl⟩
theorem dL_areLoops_187 : Dc cL_areLoops 187 (.iconst 0) 1 188 := ⟨DL_areLoops_c6.2.2.2.2.2.2.1, rfl⟩
theorem dL_areLoops_188 : Dc cL_areLoops 188 (.istore 7) 2 190 := ⟨DL_areLoops_c6.2.2.2.2.2.2.2.1, rfl⟩
theorem dL_areLoops_190 : Dc cL_areLoops 190 (.iload 9) 2 192 := ⟨DL_areLoops_c6.2.2.2.2.2.2.2.2.1, rfl⟩
theorem dL_areLoops_192 : Db cL_areLoops 192 (fun o => .ifCond .lt o) 195 260 := ⟨68, DL_areLoops_c6.2.2.2.2.2.2.2.2.2.1, rfl, rfl⟩
theorem dL_areLoops_195 : Dc cL_areLoops 195 (.iload 9) 2 197 := ⟨DL_areLoops_c6.2.2.2.2.2.2.2.2.2.2.1, rfl⟩
theorem dL_areLoops_197 : Dc cL_areLoops 197 (.bipush 6) 2 199 := ⟨DL_areLoops_c6.2.2.2.2.2.2.2.2.2.2.2.1, rfl⟩
theorem dL_areLoops_199 : Db cL_areLoops 199 (fun o => .if_icmp .ge o) 202 260 := ⟨61, DL_areLoops_c6.2.2.2.2.2.2.2.2.2.2.2.2.1, rfl, rfl⟩
theorem dL_areLoops_202 : Dc cL_areLoops 202 (.iload 10) 2 204 := ⟨DL_areLoops_c6.2.2.2.2.2.2.2.2.2.2.2.2.2.1, rfl⟩
theorem dL_areLoops_204 : Db cL_areLoops 204 (fun o => .ifCond .lt o) 207 260 := ⟨56, DL_areLoops_c6.2.2.2.2.2.2.2.2.2.2.2.2.2.2.1, rfl, rfl⟩
theorem dL_areLoops_207 : Dc cL_areLoops 207 (.iload 10) 2 209 := ⟨DL_areLoops_c6.2.2.2.2.2.2.2.2.2.2.2.2.2.2.2, rfl⟩
theorem DL_areLoops_c7 : decode cL_areLoops 209 = .ok (.iload 9, 2) ∧ decode cL_areLoops 211 = .ok (.invokestatic 39, 3) ∧ decode cL_areLoops 214 = .ok (.if_icmp .gt 46, 3) ∧ decode cL_areLoops 217 = .ok (.iload 11, 2) ∧ decode cL_areLoops 219 = .ok (.bipush (-100), 2) ∧ decode cL_areLoops 221 = .ok (.if_icmp .le 39, 3) ∧ decode cL_areLoops 224 = .ok (.iload 11, 2) ∧ decode cL_areLoops 226 = .ok (.bipush 100, 2) ∧ decode cL_areLoops 228 = .ok (.if_icmp .ge 32, 3) ∧ decode cL_areLoops 231 = .ok (.iload 12, 2) ∧ decode cL_areLoops 233 = .ok (.iload 10, 2) ∧ decode cL_areLoops 235 = .ok (.iload 5, 2) ∧ decode cL_areLoops 237 = .ok (.iconst 1, 1) ∧ decode cL_areLoops 238 = .ok (.isub, 1) ∧ decode cL_areLoops 239 = .ok (.iload 11, 2) ∧ decode cL_areLoops 241 = .ok (.imul, 1) := by decide +kernel
theorem dL_areLoops_209 : Dc cL_areLoops 209 (.iload 9) 2 211 := ⟨DL_areLoops_c7.1, rfl⟩
theorem dL_areLoops_211 : Dc cL_areLoops 211 (.invokestatic 39) 3 214 := ⟨DL_areLoops_c7.2.1, rfl⟩
theorem dL_areLoops_214 : Db cL_areLoops 214 (fun o => .if_icmp .gt o) 217 260 := ⟨46, DL_areLoops_c7.2.2.1, rfl, rfl⟩
theorem dL_areLoops_217 : Dc cL_areLoops 217 (.iload 11) 2 219 := ⟨DL_areLoops_c7.2.2.2.1, rfl⟩
theorem dL_areLoops_219 : Dc cL_areLoops 219 (.bipush (-100)) 2 221 := ⟨DL_areLoops_c7.2.2.2.2.1, rfl⟩
theorem dL_areLoops_221 : Db cL_areLoops 221 (fun o => .if_icmp .le o) 224 260 := ⟨39, DL_areLoops_c7.2.2.2.2.2.1, rfl, rfl⟩
theorem dL_areLoops_224 : Dc cL_areLoops 224 (.iload 11) 2 226 := ⟨DL_areLoops_c7.2.2.2.2.2.2.1, rfl⟩
theorem dL_areLoops_226 : Dc cL_areLoops 226 (.bipush 100) 2 228 := ⟨DL_areLoops_c7.2.2.2.2.2.2.2.1, rfl⟩
theorem dL_areLoops_228 : Db cL_areLoops 228 (fun o => .if_icmp .ge o) 231 260 := ⟨32, DL_areLoops_c7.2.2.2.2.2.2.2.2.1, rfl, rfl⟩
theorem dL_areLoops_231 : Dc cL_areLoops 231 (.iload 12) 2 233 := ⟨DL_areLoops_c7.2.2.2.2.2.2.2.2.2.1, rfl⟩
theorem dL_areLoops_233 : Dc cL_areLoops 233 (.iload 10) 2 235 := ⟨DL_areLoops_c7.2.2.2.2.2.2.2.2.2.2.1, rfl⟩
theorem dL_areLoops_235 : Dc cL_areLoops 235 (.iload 5) 2 237 := ⟨DL_areLoops_c7.2.2.2.2.2.2.2.2.2.2.2.1, rfl⟩
theorem dL_areLoops_237 : Dc cL_areLoops 237 (.iconst 1) 1 238 := ⟨DL_areLoops_c7.2.2.2.2.2.2.2.2.2.2.2.2.1, rfl⟩
theorem dL_areLoops_238 : Dc cL_areLoops 238 (.isub) 1 239 := ⟨DL_areLoops_c7.2.2.2.2.2.2.2.2.2.2.2.2.2.1, rfl⟩
theorem dL_areLoops_239 : Dc cL_areLoops 239 (.iload 11) 2 241 := ⟨DL_areLoops_c7.2.2.2.2.2.2.2.2.2.2.2.2.2.2.1, rfl⟩
theorem dL_areLoops_241 : Dc cL_areLoops 241 (.imul) 1 242 := ⟨DL_areLoops_c7.2.2.2.2.2.2.2.2.2.2.2.2.2.2.2, rfl⟩
theorem DL_areLoops_c8 : decode cL_areLoops 242 = .ok (.iadd, 1) ∧ decode cL_areLoops 243 = .ok (.if_icmp .ne 17, 3) ∧ decode cL_areLoops 246 = .ok (.iload 11, 2) ∧ decode cL_areLoops 248 = .ok (.ifCond .eq 8, 3) ∧ decode cL_areLoops 251 = .ok (.iload 6, 2) ∧ decode cL_areLoops 253 = .ok (.ifCond .le 7, 3) ∧ decode cL_areLoops 256 = .ok (.iconst 1, 1) ∧ decode cL_areLoops 257 = .ok (.goto 4, 3) ∧ decode cL_areLoops 260 = .ok (.iconst 0, 1) ∧ decode cL_areLoops 261 = .ok (.istore_n 2, 1) ∧ decode cL_areLoops 262 = .ok (.iinc 8 1, 3) ∧ decode cL_areLoops 265 = .ok (.goto (-161), 3) ∧ decode cL_areLoops 268 = .ok (.iload_n 2, 1) ∧ decode cL_areLoops 269 = .ok (.ifCond .eq 31, 3) ∧ decode cL_areLoops 272 = .ok (.iload 6, 2) ∧ decode cL_areLoops 274 = .ok (.bipush (-5), 2) := by decide +kernel
theorem dL_areLoops_242 : Dc cL_areLoops 242 (.iadd) 1 243 := ⟨DL_areLoops_c8.1, rfl⟩
theorem dL_areLoops_243 : Db cL_areLoops 243 (fun o => .if_icmp .ne o) 246 260 := ⟨17, DL_areLoops_c8.2.1, rfl, rfl⟩
theorem dL_areLoops_246 : Dc cL_areLoops 246 (.iload 11) 2 248 := ⟨DL_areLoops_c8.2.2.1, rfl⟩
theorem dL_areLoops_248 : Db cL_areLoops 248 (fun o => .ifCond .eq o) 251 256 := ⟨8, DL_areLoops_c8.2.2.2.1, rfl, rfl⟩
theorem dL_areLoops_251 : Dc cL_areLoops 251 (.iload 6) 2 253 := ⟨DL_areLoops_c8.2.2.2.2.1, rfl⟩
theorem dL_areLoops_253 : Db cL_areLoops 253 (fun o => .ifCond .le o) 256 260 := ⟨7, DL_areLoops_c8.2.2.2.2.2.1, rfl, rfl⟩
theorem dL_areLoops_256 : Dc cL_areLoops 256 (.iconst 1) 1 257 := ⟨DL_areLoops_c8.2.2.2.2.2.2.1, rfl⟩
theorem dL_areLoops_257 : Db cL_areLoops 257 .goto 260 261 := ⟨4, DL_areLoops_c8.2.2.2.2.2.2.2.1, rfl, rfl⟩
theorem dL_areLoops_260 : Dc cL_areLoops 260 (.iconst 0) 1 261 := ⟨DL_areLoops_c8.2.2.2.2.2.2.2.2.1, rfl⟩
theorem dL_areLoops_261 : Dc cL_areLoops 261 (.istore_n 2) 1 262 := ⟨DL_areLoops_c8.2.2.2.2.2.2.2.2.2.1, rfl⟩
theorem dL_areLoops_262 : Dc cL_areLoops 262 (.iinc 8 1) 3 265 := ⟨DL_areLoops_c8.2.2.2.2.2.2.2.2.2.2.1, rfl⟩
theorem dL_areLoops_265 : Db cL_areLoops 265 .goto 268 104 := ⟨-161, DL_areLoops_c8.2.2.2.2.2.2.2.2.2.2.2.1, rfl, rfl⟩
theorem dL_areLoops_268 : Dc cL_areLoops 268 (.iload_n 2) 1 269 := ⟨DL_areLoops_c8.2.2.2.2.2.2.2.2.2.2.2.2.1, rfl⟩
theorem dL_areLoops_269 : Db cL_areLoops 269 (fun o => .ifCond .eq o) 272 300 := ⟨31, DL_areLoops_c8.2.2.2.2.2.2.2.2.2.2.2.2.2.1, rfl, rfl⟩
theorem dL_areLoops_272 : Dc cL_areLoops 272 (.iload 6) 2 274 := ⟨DL_areLoops_c8.2.2.2.2.2.2.2.2.2.2.2.2.2.2.1, rfl⟩
theorem dL_areLoops_274 : Dc cL_areLoops 274 (.bipush (-5)) 2 276 := ⟨DL_areLoops_c8.2.2.2.2.2.2.2.2.2.2.2.2.2.2.2, rfl⟩
theorem DL_areLoops_c9 : decode cL_areLoops 276 = .ok (.if_icmp .eq 10, 3) ∧ decode cL_areLoops 279 = .ok (.iload 6, 2) ∧ decode cL_areLoops 281 = .ok (.iload 5, 2) ∧ decode cL_areLoops 283 = .ok (.if_icmp .lt 7, 3) ∧ decode cL_areLoops 286 = .ok (.iconst 1, 1) ∧ decode cL_areLoops 287 = .ok (.goto 4, 3) ∧ decode cL_areLoops 290 = .ok (.iconst 0, 1) ∧ decode cL_areLoops 291 = .ok (.iload 7, 2) ∧ decode cL_areLoops 293 = .ok (.if_icmp .ne 7, 3) ∧ decode cL_areLoops 296 = .ok (.iconst 1, 1) ∧ decode cL_areLoops 297 = .ok (.goto 4, 3) ∧ decode cL_areLoops 300 = .ok (.iconst 0, 1) ∧ decode cL_areLoops 301 = .ok (.istore_n 2, 1) ∧ decode cL_areLoops 302 = .ok (.iload_n 2, 1) ∧ decode cL_areLoops 303 = .ok (.ifCond .eq 14, 3) ∧ decode cL_areLoops 306 = .ok (.aload_n 0, 1) := by decide +kernel
theorem dL_areLoops_276 : Db cL_areLoops 276 (fun o => .if_icmp .eq o) 279 286 := ⟨10, DL_areLoops_c9.1, rfl, rfl⟩
theorem dL_areLoops_279 : Dc cL_areLoops 279 (.iload 6) 2 281 := ⟨DL_areLoops_c9.2.1, rfl⟩
theorem dL_areLoops_281 : Dc cL_areLoops 281 (.iload 5) 2 283 := ⟨DL_areLoops_c9.2.2.1, rfl⟩
theorem dL_areLoops_283 : Db cL_areLoops 283 (fun o => .if_icmp .lt o) 286 290 := ⟨7, DL_areLoops_c9.2.2.2.1, rfl, rfl⟩
theorem dL_areLoops_286 : Dc cL_areLoops 286 (.iconst 1) 1 287 := ⟨DL_areLoops_c9.2.2.2.2.1, rfl⟩
theorem dL_areLoops_287 : Db cL_areLoops 287 .goto 290 291 := ⟨4, DL_areLoops_c9.2.2.2.2.2.1, rfl, rfl⟩
theorem dL_areLoops_290 : Dc cL_areLoops 290 (.iconst 0) 1 291 := ⟨DL_areLoops_c9.2.2.2.2.2.2.1, rfl⟩
theorem dL_areLoops_291 : Dc cL_areLoops 291 (.iload 7) 2 293 := ⟨DL_areLoops_c9.2.2.2.2.2.2.2.1, rfl⟩
theorem dL_areLoops_293 : Db cL_areLoops 293 (fun o => .if_icmp .ne o) 296 300 := ⟨7, DL_areLoops_c9.2.2.2.2.2.2.2.2.1, rfl, rfl⟩
theorem dL_areLoops_296 : Dc cL_areLoops 296 (.iconst 1) 1 297 := ⟨DL_areLoops_c9.2.2.2.2.2.2.2.2.2.1, rfl⟩
theorem dL_areLoops_297 : Db cL_areLoops 297 .goto 300 301 := ⟨4, DL_areLoops_c9.2.2.2.2.2.2.2.2.2.2.1, rfl, rfl⟩
theorem dL_areLoops_300 : Dc cL_areLoops 300 (.iconst 0) 1 301 := ⟨DL_areLoops_c9.2.2.2.2.2.2.2.2.2.2.2.1, rfl⟩
theorem dL_areLoops_301 : Dc cL_areLoops 301 (.istore_n 2) 1 302 := ⟨DL_areLoops_c9.2.2.2.2.2.2.2.2.2.2.2.2.1, rfl⟩
theorem dL_areLoops_302 : Dc cL_areLoops 302 (.iload_n 2) 1 303 := ⟨DL_areLoops_c9.2.2.2.2.2.2.2.2.2.2.2.2.2.1, rfl⟩
theorem dL_areLoops_303 : Db cL_areLoops 303 (fun o => .ifCond .eq o) 306 317 := ⟨14, DL_areLoops_c9.2.2.2.2.2.2.2.2.2.2.2.2.2.2.1, rfl, rfl⟩
theorem dL_areLoops_306 : Dc cL_areLoops 306 (.aload_n 0) 1 307 := ⟨DL_areLoops_c9.2.2.2.2.2.2.2.2.2.2.2.2.2.2.2, rfl⟩
theorem DL_areLoops_c10 : decode cL_areLoops 307 = .ok (.iload_n 3, 1) ∧ decode cL_areLoops 308 = .ok (.iload 5, 2) ∧ decode cL_areLoops 310 = .ok (.iconst 0, 1) ∧ decode cL_areLoops 311 = .ok (.invokevirtual 48, 3) ∧ decode cL_areLoops 314 = .ok (.goto 4, 3) ∧ decode cL_areLoops 317 = .ok (.iconst 0, 1) ∧ decode cL_areLoops 318 = .ok (.istore 8, 2) ∧ decode cL_areLoops 320 = .ok (.iload_n 2, 1) ∧ decode cL_areLoops 321 = .ok (.ifCond .eq 14, 3) ∧ decode cL_areLoops 324 = .ok (.aload_n 0, 1) ∧ decode cL_areLoops 325 = .ok (.iload_n 3, 1) ∧ decode cL_areLoops 326 = .ok (.iload 5, 2) ∧ decode cL_areLoops 328 = .ok (.iconst 1, 1) ∧ decode cL_areLoops 329 = .ok (.invokevirtual 48, 3) ∧ decode cL_areLoops 332 = .ok (.goto 4, 3) ∧ decode cL_areLoops 335 = .ok (.iconst 0, 1) := by decide +kernel
theorem dL_areLoops_307 : Dc cL_areLoops 307 (.iload_n 3) 1 308 := ⟨DL_areLoops_c10.1, rfl⟩
theorem dL_areLoops_308 : Dc cL_areLoops 308 (.iload 5) 2 310 := ⟨DL_areLoops_c10.2.1, rfl⟩
theorem dL_areLoops_310 : Dc cL_areLoops 310 (.iconst 0) 1 311 := ⟨DL_areLoops_c10.2.2.1, rfl⟩
theorem dL_areLoops_311 : Dc cL_areLoops 311 (.invokevirtual 48) 3 314 := ⟨DL_areLoops_c10.2.2.2.1, rfl⟩
theorem dL_areLoops_314 : Db cL_areLoops 314 .goto 317 318 := ⟨4, DL_areLoops_c10.2.2.2.2.1, rfl, rfl⟩
theorem dL_areLoops_317 : Dc cL_areLoops 317 (.iconst 0) 1 318 := ⟨DL_areLoops_c10.2.2.2.2.2.1, rfl⟩
theorem dL_areLoops_318 : Dc cL_areLoops 318 (.istore 8) 2 320 := ⟨DL_areLoops_c10.2.2.2.2.2.2.1, rfl⟩
theorem dL_areLoops_320 : Dc cL_areLoops 320 (.iload_n 2) 1 321 := ⟨DL_areLoops_c10.2.2.2.2.2.2.2.1, rfl⟩
theorem dL_areLoops_321 : Db cL_areLoops 321 (fun o => .ifCond .eq o) 324 335 := ⟨14, DL_areLoops_c10.2.2.2.2.2.2.2.2.1, rfl, rfl⟩
theorem dL_areLoops_324 : Dc cL_areLoops 324 (.aload_n 0) 1 325 := ⟨DL_areLoops_c10.2.2.2.2.2.2.2.2.2.1, rfl⟩
theorem dL_areLoops_325 : Dc cL_areLoops 325 (.iload_n 3) 1 326 := ⟨DL_areLoops_c10.2.2.2.2.2.2.2.2.2.2.1, rfl⟩
theorem dL_areLoops_326 : Dc cL_areLoops 326 (.iload 5) 2 328 := ⟨DL_areLoops_c10.2.2.2.2.2.2.2.2.2.2.2.1, rfl⟩
theorem dL_areLoops_328 : Dc cL_areLoops 328 (.iconst 1) 1 329 := ⟨DL_areLoops_c10.2.2.2.2.2.2.2.2.2.2.2.2.1, rfl⟩
theorem dL_areLoops_329 : Dc cL_areLoops 329 (.invokevirtual 48) 3 332 := ⟨DL_areLoops_c10.2.2.2.2.2.2.2.2.2.2.2.2.2.1, rfl⟩
theorem dL_areLoops_332 : Db cL_areLoops 332 .goto 335 336 := ⟨4, DL_areLoops_c10.2.2.2.2.2.2.2.2.2.2.2.2.2.2.1, rfl, rfl⟩
theorem dL_areLoops_335 : Dc cL_areLoops 335 (.iconst 0) 1 336 := ⟨DL_areLoops_c10.2.2.2.2.2.2.2.2.2.2.2.2.2.2.2, rfl⟩
theorem DL_areLoops_c11 : decode cL_areLoops 336 = .ok (.istore 9, 2) ∧ decode cL_areLoops 338 = .ok (.iload_n 2, 1) ∧ decode cL_areLoops 339 = .ok (.ifCond .eq 91, 3) ∧ decode cL_areLoops 342 = .ok (.iload 8, 2) ∧ decode cL_areLoops 344 = .ok (.ifCond .lt 86, 3) ∧ decode cL_areLoops 347 = .ok (.iload 8, 2) ∧ decode cL_areLoops 349 = .ok (.iload 4, 2) ∧ decode cL_areLoops 351 = .ok (.iload 5, 2) ∧ decode cL_areLoops 353 = .ok (.imul, 1) ∧ decode cL_areLoops 354 = .ok (.if_icmp .gt 76, 3) ∧ decode cL_areLoops 357 = .ok (.iload 9, 2) ∧ decode cL_areLoops 359 = .ok (.ifCond .lt 71, 3) ∧ decode cL_areLoops 362 = .ok (.iload 9, 2) ∧ decode cL_areLoops 364 = .ok (.iconst 3, 1) ∧ decode cL_areLoops 365 = .ok (.if_icmp .ge 65, 3) ∧ decode cL_areLoops 368 = .ok (.iload 9, 2) := by decide +kernel
theorem dL_areLoops_336 : Dc cL_areLoops 336 (.istore 9) 2 338 := ⟨DL_areLoops_c11.1, rfl⟩
theorem dL_areLoops_338 : Dc cL_areLoops 338 (.iload_n 2) 1 339 := ⟨DL_areLoops_c11.2.1, rfl⟩
theorem dL_areLoops_339 : Db cL_areLoops 339 (fun o => .ifCond .eq o) 342 430 := ⟨91, DL_areLoops_c11.2.2.1, rfl, rfl⟩
theorem dL_areLoops_342 : Dc cL_areLoops 342 (.iload 8) 2 344 := ⟨DL_areLoops_c11.2.2.2.1, rfl⟩
theorem dL_areLoops_344 : Db cL_areLoops 344 (fun o => .ifCond .lt o) 347 430 := ⟨86, DL_areLoops_c11.2.2.2.2.1, rfl, rfl⟩
theorem dL_areLoops_347 : Dc cL_areLoops 347 (.iload 8) 2 349 := ⟨DL_areLoops_c11.2.2.2.2.2.1, rfl⟩
theorem dL_areLoops_349 : Dc cL_areLoops 349 (.iload 4) 2 351 := ⟨DL_areLoops_c11.2.2.2.2.2.2.1, rfl⟩
theorem dL_areLoops_351 : Dc cL_areLoops 351 (.iload 5) 2 353 := ⟨DL_areLoops_c11.2.2.2.2.2.2.2.1, rfl⟩
theorem dL_areLoops_353 : Dc cL_areLoops 353 (.imul) 1 354 := ⟨DL_areLoops_c11.2.2.2.2.2.2.2.2.1, rfl⟩
theorem dL_areLoops_354 : Db cL_areLoops 354 (fun o => .if_icmp .gt o) 357 430 := ⟨76, DL_areLoops_c11.2.2.2.2.2.2.2.2.2.1, rfl, rfl⟩
theorem dL_areLoops_357 : Dc cL_areLoops 357 (.iload 9) 2 359 := ⟨DL_areLoops_c11.2.2.2.2.2.2.2.2.2.2.1, rfl⟩
theorem dL_areLoops_359 : Db cL_areLoops 359 (fun o => .ifCond .lt o) 362 430 := ⟨71, DL_areLoops_c11.2.2.2.2.2.2.2.2.2.2.2.1, rfl, rfl⟩
theorem dL_areLoops_362 : Dc cL_areLoops 362 (.iload 9) 2 364 := ⟨DL_areLoops_c11.2.2.2.2.2.2.2.2.2.2.2.2.1, rfl⟩
theorem dL_areLoops_364 : Dc cL_areLoops 364 (.iconst 3) 1 365 := ⟨DL_areLoops_c11.2.2.2.2.2.2.2.2.2.2.2.2.2.1, rfl⟩
theorem dL_areLoops_365 : Db cL_areLoops 365 (fun o => .if_icmp .ge o) 368 430 := ⟨65, DL_areLoops_c11.2.2.2.2.2.2.2.2.2.2.2.2.2.2.1, rfl, rfl⟩
theorem dL_areLoops_368 : Dc cL_areLoops 368 (.iload 9) 2 370 := ⟨DL_areLoops_c11.2.2.2.2.2.2.2.2.2.2.2.2.2.2.2, rfl⟩
theorem DL_areLoops_c12 : decode cL_areLoops 370 = .ok (.ifCond .ne 7, 3) ∧ decode cL_areLoops 373 = .ok (.iconst 1, 1) ∧ decode cL_areLoops 374 = .ok (.goto 4, 3) ∧ decode cL_areLoops 377 = .ok (.iconst 0, 1) ∧ decode cL_areLoops 378 = .ok (.iload 8, 2) ∧ decode cL_areLoops 380 = .ok (.iload 4, 2) ∧ decode cL_areLoops 382 = .ok (.iload 5, 2) ∧ decode cL_areLoops 384 = .ok (.imul, 1) ∧ decode cL_areLoops 385 = .ok (.if_icmp .ne 13, 3) ∧ decode cL_areLoops 388 = .ok (.iload 9, 2) ∧ decode cL_areLoops 390 = .ok (.iconst 2, 1) ∧ decode cL_areLoops 391 = .ok (.if_icmp .eq 7, 3) ∧ decode cL_areLoops 394 = .ok (.iconst 1, 1) ∧ decode cL_areLoops 395 = .ok (.goto 4, 3) ∧ decode cL_areLoops 398 = .ok (.iconst 0, 1) ∧ decode cL_areLoops 399 = .ok (.if_icmp .ne 31, 3) := by decide +kernel
theorem dL_areLoops_370 : Db cL_areLoops 370 (fun o => .ifCond .ne o) 373 377 := ⟨7, DL_areLoops_c12.1, rfl, rfl⟩
theorem dL_areLoops_373 : Dc cL_areLoops 373 (.iconst 1) 1 374 := ⟨DL_areLoops_c12.2.1, rfl⟩
theorem dL_areLoops_374 : Db cL_areLoops 374 .goto 377 378 := ⟨4, DL_areLoops_c12.2.2.1, rfl, rfl⟩
theorem dL_areLoops_377 : Dc cL_areLoops 377 (.iconst 0) 1 378 := ⟨DL_areLoops_c12.2.2.2.1, rfl⟩
theorem dL_areLoops_378 : Dc cL_areLoops 378 (.iload 8) 2 380 := ⟨DL_areLoops_c12.2.2.2.2.1, rfl⟩
theorem dL_areLoops_380 : Dc cL_areLoops 380 (.iload 4) 2 382 := ⟨DL_areLoops_c12.2.2.2.2.2.1, rfl⟩
theorem dL_areLoops_382 : Dc cL_areLoops 382 (.iload 5) 2 384 := ⟨DL_areLoops_c12.2.2.2.2.2.2.1, rfl⟩
theorem dL_areLoops_384 : Dc cL_areLoops 384 (.imul) 1 385 := ⟨DL_areLoops_c12.2.2.2.2.2.2.2.1, rfl⟩
theorem dL_areLoops_385 : Db cL_areLoops 385 (fun o => .if_icmp .ne o) 388 398 := ⟨13, DL_areLoops_c12.2.2.2.2.2.2.2.2.1, rfl, rfl⟩
theorem dL_areLoops_388 : Dc cL_areLoops 388 (.iload 9) 2 390 := ⟨DL_areLoops_c12.2.2.2.2.2.2.2.2.2.1, rfl⟩
theorem dL_areLoops_390 : Dc cL_areLoops 390 (.iconst 2) 1 391 := ⟨DL_areLoops_c12.2.2.2.2.2.2.2.2.2.2.1, rfl⟩
theorem dL_areLoops_391 : Db cL_areLoops 391 (fun o => .if_icmp .eq o) 394 398 := ⟨7, DL_areLoops_c12.2.2.2.2.2.2.2.2.2.2.2.1, rfl, rfl⟩
theorem dL_areLoops_394 : Dc cL_areLoops 394 (.iconst 1) 1 395 := ⟨DL_areLoops_c12.2.2.2.2.2.2.2.2.2.2.2.2.1, rfl⟩
theorem dL_areLoops_395 : Db cL_areLoops 395 .goto 398 399 := ⟨4, DL_areLoops_c12.2.2.2.2.2.2.2.2.2.2.2.2.2.1, rfl, rfl⟩
theorem dL_areLoops_398 : Dc cL_areLoops 398 (.iconst 0) 1 399 := ⟨DL_areLoops_c12.2.2.2.2.2.2.2.2.2.2.2.2.2.2.1, rfl⟩
theorem dL_areLoops_399 : Db cL_areLoops 399 (fun o => .if_icmp .ne o) 402 430 := ⟨31, DL_areLoops_c12.2.2.2.2.2.2.2.2.2.2.2.2.2.2.2, rfl, rfl⟩
theorem DL_areLoops_c13 : decode cL_areLoops 402 = .ok (.aload_n 0, 1) ∧ decode cL_areLoops 403 = .ok (.iload_n 3, 1) ∧ decode cL_areLoops 404 = .ok (.iload 5, 2) ∧ decode cL_areLoops 406 = .ok (.iconst 4, 1) ∧ decode cL_areLoops 407 = .ok (.invokevirtual 48, 3) ∧ decode cL_areLoops 410 = .ok (.iload 8, 2) ∧ decode cL_areLoops 412 = .ok (.if_icmp .gt 18, 3) ∧ decode cL_areLoops 415 = .ok (.iload 9, 2) ∧ decode cL_areLoops 417 = .ok (.iconst 1, 1) ∧ decode cL_areLoops 418 = .ok (.if_icmp .ne 8, 3) ∧ decode cL_areLoops 421 = .ok (.iload 7, 2) ∧ decode cL_areLoops 423 = .ok (.ifCond .ne 7, 3) ∧ decode cL_areLoops 426 = .ok (.iconst 1, 1) ∧ decode cL_areLoops 427 = .ok (.goto 4, 3) ∧ decode cL_areLoops 430 = .ok (.iconst 0, 1) ∧ decode cL_areLoops 431 = .ok (.istore_n 2, 1) := by decide +kernel
theorem dL_areLoops_402 : Dc cL_areLoops 402 (.aload_n 0) 1 403 := ⟨DL_areLoops_c13.1, rfl⟩
theorem dL_areLoops_403 : Dc cL_areLoops 403 (.iload_n 3) 1 404 := ⟨DL_areLoops_c13.2.1, rfl⟩
theorem dL_areLoops_404 : Dc cL_areLoops 404 (.iload 5) 2 406 := ⟨DL_areLoops_c13.2.2.1, rfl⟩
theorem dL_areLoops_406 : Dc cL_areLoops 406 (.iconst 4) 1 407 := ⟨DL_areLoops_c13.2.2.2.1, rfl⟩
theorem dL_areLoops_407 : Dc cL_areLoops 407 (.invokevirtual 48) 3 410 := ⟨DL_areLoops_c13.2.2.2.2.1, rfl⟩
theorem dL_areLoops_410 : Dc cL_areLoops 410 (.iload 8) 2 412 := ⟨DL_areLoops_c13.2.2.2.2.2.1, rfl⟩
theorem dL_areLoops_412 : Db cL_areLoops 412 (fun o => .if_icmp .gt o) 415 430 := ⟨18, DL_areLoops_c13.2.2.2.2.2.2.1, rfl, rfl⟩
theorem dL_areLoops_415 : Dc cL_areLoops 415 (.iload 9) 2 417 := ⟨DL_areLoops_c13.2.2.2.2.2.2.2.1, rfl⟩
theorem dL_areLoops_417 : Dc cL_areLoops 417 (.iconst 1) 1 418 := ⟨DL_areLoops_c13.2.2.2.2.2.2.2.2.1, rfl⟩
theorem dL_areLoops_418 : Db cL_areLoops 418 (fun o => .if_icmp .ne o) 421 426 := ⟨8, DL_areLoops_c13.2.2.2.2.2.2.2.2.2.1, rfl, rfl⟩
theorem dL_areLoops_421 : Dc cL_areLoops 421 (.iload 7) 2 423 := ⟨DL_areLoops_c13.2.2.2.2.2.2.2.2.2.2.1, rfl⟩
theorem dL_areLoops_423 : Db cL_areLoops 423 (fun o => .ifCond .ne o) 426 430 := ⟨7, DL_areLoops_c13.2.2.2.2.2.2.2.2.2.2.2.1, rfl, rfl⟩
theorem dL_areLoops_426 : Dc cL_areLoops 426 (.iconst 1) 1 427 := ⟨DL_areLoops_c13.2.2.2.2.2.2.2.2.2.2.2.2.1, rfl⟩
theorem dL_areLoops_427 : Db cL_areLoops 427 .goto 430 431 := ⟨4, DL_areLoops_c13.2.2.2.2.2.2.2.2.2.2.2.2.2.1, rfl, rfl⟩
theorem dL_areLoops_430 : Dc cL_areLoops 430 (.iconst 0) 1 431 := ⟨DL_areLoops_c13.2.2.2.2.2.2.2.2.2.2.2.2.2.2.1, rfl⟩
theorem dL_areLoops_431 : Dc cL_areLoops 431 (.istore_n 2) 1 432 := ⟨DL_areLoops_c13.2.2.2.2.2.2.2.2.2.2.2.2.2.2.2, rfl⟩
theorem DL_areLoops_c14 : decode cL_areLoops 432 = .ok (.iconst 0, 1) ∧ decode cL_areLoops 433 = .ok (.istore 10, 2) ∧ decode cL_areLoops 435 = .ok (.iload 10, 2) ∧ decode cL_areLoops 437 = .ok (.aload_n 0, 1) ∧ decode cL_areLoops 438 = .ok (.iconst 2, 1) ∧ decode cL_areLoops 439 = .ok (.invokevirtual 20, 3) ∧ decode cL_areLoops 442 = .ok (.if_icmp .ge 69, 3) ∧ decode cL_areLoops 445 = .ok (.iload_n 2, 1) ∧ decode cL_areLoops 446 = .ok (.ifCond .eq 65, 3) ∧ decode cL_areLoops 449 = .ok (.aload_n 0, 1) ∧ decode cL_areLoops 450 = .ok (.iload_n 3, 1) ∧ decode cL_areLoops 451 = .ok (.iload 10, 2) ∧ decode cL_areLoops 453 = .ok (.invokevirtual 51, 3) ∧ decode cL_areLoops 456 = .ok (.istore 11, 2) ∧ decode cL_areLoops 458 = .ok (.iload 11, 2) ∧ decode cL_areLoops 460 = .ok (.bipush (-5), 2) := by decide +kernel
theorem dL_areLoops_432 : Dc cL_areLoops 432 (.iconst 0) 1 433 := ⟨DL_areLoops_c14.1, rfl⟩
theorem dL_areLoops_433 : Dc cL_areLoops 433 (.istore 10) 2 435 := ⟨DL_areLoops_c14.2.1, rfl⟩
theorem dL_areLoops_435 : Dc cL_areLoops 435 (.iload 10) 2 437 := ⟨DL_areLoops_c14.2.2.1, rfl⟩
theorem dL_areLoops_437 : Dc cL_areLoops 437 (.aload_n 0) 1 438 := ⟨DL_areLoops_c14.2.2.2.1, rfl⟩
theorem dL_areLoops_438 : Dc cL_areLoops 438 (.iconst 2) 1 439 := ⟨DL_areLoops_c14.2.2.2.2.1, rfl⟩
theorem dL_areLoops_439 : Dc cL_areLoops 439 (.invokevirtual 20) 3 442 := ⟨DL_areLoops_c14.2.2.2.2.2.1, rfl⟩
theorem dL_areLoops_442 : Db cL_areLoops 442 (fun o => .if_icmp .ge o) 445 511 := ⟨69, DL_areLoops_c14.2.2.2.2.2.2.1, rfl, rfl⟩
theorem dL_areLoops_445 : Dc cL_areLoops 445 (.iload_n 2) 1 446 := ⟨DL_areLoops_c14.2.2.2.2.2.2.2.1, rfl⟩
theorem dL_areLoops_446 : Db cL_areLoops 446 (fun o => .ifCond .eq o) 449 511 := ⟨65, DL_areLoops_c14.2.2.2.2.2.2.2.2.1, rfl, rfl⟩
theorem dL_areLoops_449 : Dc cL_areLoops 449 (.aload_n 0) 1 450 := ⟨DL_areLoops_c14.2.2.2.2.2.2.2.2.2.1, rfl⟩
theorem dL_areLoops_450 : Dc cL_areLoops 450 (.iload_n 3) 1 451 := ⟨DL_areLoops_c14.2.2.2.2.2.2.2.2.2.2.1, rfl⟩
theorem dL_areLoops_451 : Dc cL_areLoops 451 (.iload 10) 2 453 := ⟨DL_areLoops_c14.2.2.2.2.2.2.2.2.2.2.2.1, rfl⟩
theorem dL_areLoops_453 : Dc cL_areLoops 453 (.invokevirtual 51) 3 456 := ⟨DL_areLoops_c14.2.2.2.2.2.2.2.2.2.2.2.2.1, rfl⟩
theorem dL_areLoops_456 : Dc cL_areLoops 456 (.istore 11) 2 458 := ⟨DL_areLoops_c14.2.2.2.2.2.2.2.2.2.2.2.2.2.1, rfl⟩
theorem dL_areLoops_458 : Dc cL_areLoops 458 (.iload 11) 2 460 := ⟨DL_areLoops_c14.2.2.2.2.2.2.2.2.2.2.2.2.2.2.1, rfl⟩
theorem dL_areLoops_460 : Dc cL_areLoops 460 (.bipush (-5)) 2 462 := ⟨DL_areLoops_c14.2.2.2.2.2.2.2.2.2.2.2.2.2.2.2, rfl⟩
theorem DL_areLoops_c15 : decode cL_areLoops 462 = .ok (.if_icmp .eq 37, 3) ∧ decode cL_areLoops 465 = .ok (.iload 11, 2) ∧ decode cL_areLoops 467 = .ok (.ifCond .le 36, 3) ∧ decode cL_areLoops 470 = .ok (.iload 11, 2) ∧ decode cL_areLoops 472 = .ok (.iload 4, 2) ∧ decode cL_areLoops 474 = .ok (.imul, 1) ∧ decode cL_areLoops 475 = .ok (.aload_n 0, 1) ∧ decode cL_areLoops 476 = .ok (.iload 10, 2) ∧ decode cL_areLoops 478 = .ok (.iconst 0, 1) ∧ decode cL_areLoops 479 = .ok (.invokevirtual 27, 3) ∧ decode cL_areLoops 482 = .ok (.if_icmp .ne 21, 3) ∧ decode cL_areLoops 485 = .ok (.iload 6, 2) ∧ decode cL_areLoops 487 = .ok (.bipush (-5), 2) ∧ decode cL_areLoops 489 = .ok (.if_icmp .eq 10, 3) ∧ decode cL_areLoops 492 = .ok (.iload 11, 2) ∧ decode cL_areLoops 494 = .ok (.iload 6, 2) := by decide +kernel
theorem dL_areLoops_462 : Db cL_areLoops 462 (fun o => .if_icmp .eq o) 465 499 := ⟨37, DL_areLoops_c15.1, rfl, rfl⟩
theorem dL_areLoops_465 : Dc cL_areLoops 465 (.iload 11) 2 467 := ⟨DL_areLoops_c15.2.1, rfl⟩
theorem dL_areLoops_467 : Db cL_areLoops 467 (fun o => .ifCond .le o) 470 503 := ⟨36, DL_areLoops_c15.2.2.1, rfl, rfl⟩
theorem dL_areLoops_470 : Dc cL_areLoops 470 (.iload 11) 2 472 := ⟨DL_areLoops_c15.2.2.2.1, rfl⟩
theorem dL_areLoops_472 : Dc cL_areLoops 472 (.iload 4) 2 474 := ⟨DL_areLoops_c15.2.2.2.2.1, rfl⟩
theorem dL_areLoops_474 : Dc cL_areLoops 474 (.imul) 1 475 := ⟨DL_areLoops_c15.2.2.2.2.2.1, rfl⟩
theorem dL_areLoops_475 : Dc cL_areLoops 475 (.aload_n 0) 1 476 := ⟨DL_areLoops_c15.2.2.2.2.2.2.1, rfl⟩
theorem dL_areLoops_476 : Dc cL_areLoops 476 (.iload 10) 2 478 := ⟨DL_areLoops_c15.2.2.2.2.2.2.2.1, rfl⟩
theorem dL_areLoops_478 : Dc cL_areLoops 478 (.iconst 0) 1 479 := ⟨DL_areLoops_c15.2.2.2.2.2.2.2.2.1, rfl⟩
theorem dL_areLoops_479 : Dc cL_areLoops 479 (.invokevirtual 27) 3 482 := ⟨DL_areLoops_c15.2.2.2.2.2.2.2.2.2.1, rfl⟩
theorem dL_areLoops_482 : Db cL_areLoops 482 (fun o => .if_icmp .ne o) 485 503 := ⟨21, DL_areLoops_c15.2.2.2.2.2.2.2.2.2.2.1, rfl, rfl⟩
theorem dL_areLoops_485 : Dc cL_areLoops 485 (.iload 6) 2 487 := ⟨DL_areLoops_c15.2.2.2.2.2.2.2.2.2.2.2.1, rfl⟩
theorem dL_areLoops_487 : Dc cL_areLoops 487 (.bipush (-5)) 2 489 := ⟨DL_areLoops_c15.2.2.2.2.2.2.2.2.2.2.2.2.1, rfl⟩
theorem dL_areLoops_489 : Db cL_areLoops 489 (fun o => .if_icmp .eq o) 492 499 := ⟨10, DL_areLoops_c15.2.2.2.2.2.2.2.2.2.2.2.2.2.1, rfl, rfl⟩
theorem dL_areLoops_492 : Dc cL_areLoops 492 (.iload 11) 2 494 := ⟨DL_areLoops_c15.2.2.2.2.2.2.2.2.2.2.2.2.2.2.1, rfl⟩
theorem dL_areLoops_494 : Dc cL_areLoops 494 (.iload 6) 2 496 := ⟨DL_areLoops_c15.2.2.2.2.2.2.2.2.2.2.2.2.2.2.2, rfl⟩
theorem DL_areLoops_c16 : decode cL_areLoops 496 = .ok (.if_icmp .gt 7, 3) ∧ decode cL_areLoops 499 = .ok (.iconst 1, 1) ∧ decode cL_areLoops 500 = .ok (.goto 4, 3) ∧ decode cL_areLoops 503 = .ok (.iconst 0, 1) ∧ decode cL_areLoops 504 = .ok (.istore_n 2, 1) ∧ decode cL_areLoops 505 = .ok (.iinc 10 1, 3) ∧ decode cL_areLoops 508 = .ok (.goto (-73), 3) ∧ decode cL_areLoops 511 = .ok (.iinc 3 1, 3) ∧ decode cL_areLoops 514 = .ok (.goto (-490), 3) ∧ decode cL_areLoops 517 = .ok (.iload_n 2, 1) ∧ decode cL_areLoops 518 = .ok (.ireturn, 1) := by decide +kernel
theorem dL_areLoops_496 : Db cL_areLoops 496 (fun o => .if_icmp .gt o) 499 503 := ⟨7, DL_areLoops_c16.1, rfl, rfl⟩
theorem dL_areLoops_499 : Dc cL_areLoops 499 (.iconst 1) 1 500 := ⟨DL_areLoops_c16.2.1, rfl⟩
theorem dL_areLoops_500 : Db cL_areLoops 500 .goto 503 504 := ⟨4, DL_areLoops_c16.2.2.1, rfl, rfl⟩
theorem dL_areLoops_503 : Dc cL_areLoops 503 (.iconst 0) 1 504 := ⟨DL_areLoops_c16.2.2.2.1, rfl⟩
theorem dL_areLoops_504 : Dc cL_areLoops 504 (.istore_n 2) 1 505 := ⟨DL_areLoops_c16.2.2.2.2.1, rfl⟩
theorem dL_areLoops_505 : Dc cL_areLoops 505 (.iinc 10 1) 3 508 := ⟨DL_areLoops_c16.2.2.2.2.2.1, rfl⟩
theorem dL_areLoops_508 : Db cL_areLoops 508 .goto 511 435 := ⟨-73, DL_areLoops_c16.2.2.2.2.2.2.1, rfl, rfl⟩
theorem dL_areLoops_511 : Dc cL_areLoops 511 (.iinc 3 1) 3 514 := ⟨DL_areLoops_c16.2.2.2.2.2.2.2.1, rfl⟩
theorem dL_areLoops_514 : Db cL_areLoops 514 .goto 517 24 := ⟨-490, DL_areLoops_c16.2.2.2.2.2.2.2.2.1, rfl, rfl⟩
theorem dL_areLoops_517 : Dc cL_areLoops 517 (.iload_n 2) 1 518 := ⟨DL_areLoops_c16.2.2.2.2.2.2.2.2.2.1, rfl⟩
theorem dL_areLoops_518 : Dc cL_areLoops 518 (.ireturn) 1 519 := ⟨DL_areLoops_c16.2.2.2.2.2.2.2.2.2.2, rfl⟩
theorem DL_refusesAny_c0 : decode cL_refusesAny 0 = .ok (.iload_n 1, 1) ∧ decode cL_refusesAny 1 = .ok (.iconst 2, 1) ∧ decode cL_refusesAny 2 = .ok (.irem, 1) ∧ decode cL_refusesAny 3 = .ok (.ifCond .ne 12, 3) ∧ decode cL_refusesAny 6 = .ok (.iconst (-1), 1) ∧ decode cL_refusesAny 7 = .ok (.iload_n 1, 1) ∧ decode cL_refusesAny 8 = .ok (.bipush 99, 2) ∧ decode cL_refusesAny 10 = .ok (.irem, 1) ∧ decode cL_refusesAny 11 = .ok (.isub, 1) ∧ decode cL_refusesAny 12 = .ok (.goto 10, 3) ∧ decode cL_refusesAny 15 = .ok (.bipush 6, 2) ∧ decode cL_refusesAny 17 = .ok (.iload_n 1, 1) ∧ decode cL_refusesAny 18 = .ok (.bipush 99, 2) ∧ decode cL_refusesAny 20 = .ok (.irem, 1) ∧ decode cL_refusesAny 21 = .ok (.iadd, 1) ∧ decode cL_refusesAny 22 = .ok (.istore_n 2, 1) := by decide +kernel
theorem dL_refusesAny_0 : Dc cL_refusesAny 0 (.iload_n 1) 1 1 := ⟨DL_refusesAny_c0.1, rfl⟩
theorem dL_refusesAny_1 : Dc cL_refusesAny 1 (.iconst 2) 1 2 := ⟨DL_refusesAny_c0.2.1, rfl⟩
theorem dL_refusesAny_2 : Dc cL_refusesAny 2 (.irem) 1 3 := ⟨DL_refusesAny_c0.2.2.1, rfl⟩
theorem dL_refusesAny_3 : Db cL_refusesAny 3 (fun o => .ifCond .ne o) 6 15 := ⟨12, DL_refusesAny_c0.2.2.2.1, rfl, rfl⟩
theorem dL_refusesAny_6 : Dc cL_refusesAny 6 (.iconst (-1)) 1 7 := ⟨DL_refusesAny_c0.2.2.2.2.1, rfl⟩
theorem dL_refusesAny_7 : Dc cL_refusesAny 7 (.iload_n 1) 1 8 := ⟨DL_refusesAny_c0.2.2.2.2.2.1, rfl⟩
theorem dL_refusesAny_8 : Dc cL_refusesAny 8 (.bipush 99) 2 10 := ⟨DL_refusesAny_c0.2.2.2.2.2.2.1, rfl⟩
theorem dL_refusesAny_10 : Dc cL_refusesAny 10 (.irem) 1 11 := ⟨DL_refusesAny_c0.2.2.2.2.2.2.2.1, rfl⟩
theorem dL_refusesAny_11 : Dc cL_refusesAny 11 (.isub) 1 12 := ⟨DL_refusesAny_c0.2.2.2.2.2.2.2.2.1, rfl⟩
theorem dL_refusesAny_12 : Db cL_refusesAny 12 .goto 15 22 := ⟨10, DL_refusesAny_c0.2.2.2.2.2.2.2.2.2.1, rfl, rfl⟩
theorem dL_refusesAny_15 : Dc cL_refusesAny 15 (.bipush 6) 2 17 := ⟨DL_refusesAny_c0.2.2.2.2.2.2.2.2.2.2.1, rfl⟩
theorem dL_refusesAny_17 : Dc cL_refusesAny 17 (.iload_n 1) 1 18 := ⟨DL_refusesAny_c0.2.2.2.2.2.2.2.2.2.2.2.1, rfl⟩
theorem dL_refusesAny_18 : Dc cL_refusesAny 18 (.bipush 99) 2 20 := ⟨DL_refusesAny_c0.2.2.2.2.2.2.2.2.2.2.2.2.1, rfl⟩
theorem dL_refusesAny_20 : Dc cL_refusesAny 20 (.irem) 1 21 := ⟨DL_refusesAny_c0.2.2.2.2.2.2.2.2.2.2.2.2.2.1, rfl⟩
theorem dL_refusesAny_21 : Dc cL_refusesAny 21 (.iadd) 1 22 := ⟨DL_refusesAny_c0.2.2.2.2.2.2.2.2.2.2.2.2.2.2.1, rfl⟩
theorem dL_refusesAny_22 : Dc cL_refusesAny 22 (.istore_n 2) 1 23 := ⟨DL_refusesAny_c0.2.2.2.2.2.2.2.2.2.2.2.2.2.2.2, rfl⟩
theorem DL_refusesAny_c1 : decode cL_refusesAny 23 = .ok (.iload_n 1, 1) ∧ decode cL_refusesAny 24 = .ok (.iconst 2, 1) ∧ decode cL_refusesAny 25 = .ok (.irem, 1) ∧ decode cL_refusesAny 26 = .ok (.ifCond .ne 12, 3) ∧ decode cL_refusesAny 29 = .ok (.iconst (-1), 1) ∧ decode cL_refusesAny 30 = .ok (.iload_n 1, 1) ∧ decode cL_refusesAny 31 = .ok (.bipush 99, 2) ∧ decode cL_refusesAny 33 = .ok (.irem, 1) ∧ decode cL_refusesAny 34 = .ok (.isub, 1) ∧ decode cL_refusesAny 35 = .ok (.goto 10, 3) ∧ decode cL_refusesAny 38 = .ok (.bipush 30, 2) ∧ decode cL_refusesAny 40 = .ok (.iload_n 1, 1) ∧ decode cL_refusesAny 41 = .ok (.bipush 99, 2) ∧ decode cL_refusesAny 43 = .ok (.irem, 1) ∧ decode cL_refusesAny 44 = .ok (.iadd, 1) ∧ decode cL_refusesAny 45 = .ok (.istore_n 3, 1) := by decide +kernel
theorem dL_refusesAny_23 : Dc cL_refusesAny 23 (.iload_n 1) 1 24 := ⟨DL_refusesAny_c1.1, rfl⟩
theorem dL_refusesAny_24 : Dc cL_refusesAny 24 (.iconst 2) 1 25 := ⟨DL_refusesAny_c1.2.1, rfl⟩
theorem dL_refusesAny_25 : Dc cL_refusesAny 25 (.irem) 1 26 := ⟨DL_refusesAny_c1.2.2.1, rfl⟩
theorem dL_refusesAny_26 : Db cL_refusesAny 26 (fun o => .ifCond .ne o) 29 38 := ⟨12, DL_refusesAny_c1.2.2.2.1, rfl, rfl⟩
theorem dL_refusesAny_29 : Dc cL_refusesAny 29 (.iconst (-1)) 1 30 := ⟨DL_refusesAny_c1.2.2.2.2.1, rfl⟩
theorem dL_refusesAny_30 : Dc cL_refusesAny 30 (.iload_n 1) 1 31 := ⟨DL_refusesAny_c1.2.2.2.2.2.1, rfl⟩
theorem dL_refusesAny_31 : Dc cL_refusesAny 31 (.bipush 99) 2 33 := ⟨DL_refusesAny_c1.2.2.2.2.2.2.1, rfl⟩
theorem dL_refusesAny_33 : Dc cL_refusesAny 33 (.irem) 1 34 := ⟨DL_refusesAny_c1.2.2.2.2.2.2.2.1, rfl⟩
theorem dL_refusesAny_34 : Dc cL_refusesAny 34 (.isub) 1 35 := ⟨DL_refusesAny_c1.2.2.2.2.2.2.2.2.1, rfl⟩
theorem dL_refusesAny_35 : Db cL_refusesAny 35 .goto 38 45 := ⟨10, DL_refusesAny_c1.2.2.2.2.2.2.2.2.2.1, rfl, rfl⟩
theorem dL_refusesAny_38 : Dc cL_refusesAny 38 (.bipush 30) 2 40 := ⟨DL_refusesAny_c1.2.2.2.2.2.2.2.2.2.2.1, rfl⟩
theorem dL_refusesAny_40 : Dc cL_refusesAny 40 (.iload_n 1) 1 41 := ⟨DL_refusesAny_c1.2.2.2.2.2.2.2.2.2.2.2.1, rfl⟩
theorem dL_refusesAny_41 : Dc cL_refusesAny 41 (.bipush 99) 2 43 := ⟨DL_refusesAny_c1.2.2.2.2.2.2.2.2.2.2.2.2.1, rfl⟩
theorem dL_refusesAny_43 : Dc cL_refusesAny 43 (.irem) 1 44 := ⟨DL_refusesAny_c1.2.2.2.2.2.2.2.2.2.2.2.2.2.1, rfl⟩
theorem dL_refusesAny_44 : Dc cL_refusesAny 44 (.iadd) 1 45 := ⟨DL_refusesAny_c1.2.2.2.2.2.2.2.2.2.2.2.2.2.2.1, rfl⟩
theorem dL_refusesAny_45 : Dc cL_refusesAny 45 (.istore_n 3) 1 46 := ⟨DL_refusesAny_c1.2.2.2.2.2.2.2.2.2.2.2.2.2.2.2, rfl⟩
theorem DL_refusesAny_c2 : decode cL_refusesAny 46 = .ok (.aload_n 0, 1) ∧ decode cL_refusesAny 47 = .ok (.iconst 3, 1) ∧ decode cL_refusesAny 48 = .ok (.invokevirtual 20, 3) ∧ decode cL_refusesAny 51 = .ok (.bipush (-5), 2) ∧ decode cL_refusesAny 53 = .ok (.if_icmp .eq 7, 3) ∧ decode cL_refusesAny 56 = .ok (.iconst 1, 1) ∧ decode cL_refusesAny 57 = .ok (.goto 4, 3) ∧ decode cL_refusesAny 60 = .ok (.iconst 0, 1) ∧ decode cL_refusesAny 61 = .ok (.istore 4, 2) ∧ decode cL_refusesAny 63 = .ok (.aload_n 0, 1) ∧ decode cL_refusesAny 64 = .ok (.iload_n 2, 1) ∧ decode cL_refusesAny 65 = .ok (.bipush 100, 2) ∧ decode cL_refusesAny 67 = .ok (.invokevirtual 54, 3) ∧ decode cL_refusesAny 70 = .ok (.iconst (-1), 1) ∧ decode cL_refusesAny 71 = .ok (.if_icmp .ne 257, 3) ∧ decode cL_refusesAny 74 = .ok (.aload_n 0, 1) := by decide +kernel
theorem dL_refusesAny_46 : Dc cL_refusesAny 46 (.aload_n 0) 1 47 := ⟨DL_refusesAny_c2.1, rfl⟩
theorem dL_refusesAny_47 : Dc cL_refusesAny 47 (.iconst 3) 1 48 := ⟨DL_refusesAny_c2.2.1, rfl⟩
theorem dL_refusesAny_48 : Dc cL_refusesAny 48 (.invokevirtual 20) 3 51 := ⟨DL_refusesAny_c2.2.2.1, rfl⟩
theorem dL_refusesAny_51 : Dc cL_refusesAny 51 (.bipush (-5)) 2 53 := ⟨DL_refusesAny_c2.2.2.2.1, rfl⟩
theorem dL_refusesAny_53 : Db cL_refusesAny 53 (fun o => .if_icmp .eq o) 56 60 := ⟨7, DL_refusesAny_c2.2.2.2.2.1, rfl, rfl⟩
theorem dL_refusesAny_56 : Dc cL_refusesAny 56 (.iconst 1) 1 57 := ⟨DL_refusesAny_c2.2.2.2.2.2.1, rfl⟩
theorem dL_refusesAny_57 : Db cL_refusesAny 57 .goto 60 61 := ⟨4, DL_refusesAny_c2.2.2.2.2.2.2.1, rfl, rfl⟩
theorem dL_refusesAny_60 : Dc cL_refusesAny 60 (.iconst 0) 1 61 := ⟨DL_refusesAny_c2.2.2.2.2.2.2.2.1, rfl⟩
theorem dL_refusesAny_61 : Dc cL_refusesAny 61 (.istore 4) 2 63 := ⟨DL_refusesAny_c2.2.2.2.2.2.2.2.2.1, rfl⟩
theorem dL_refusesAny_63 : Dc cL_refusesAny 63 (.aload_n 0) 1 64 := ⟨DL_refusesAny_c2.2.2.2.2.2.2.2.2.2.1, rfl⟩
theorem dL_refusesAny_64 : Dc cL_refusesAny 64 (.iload_n 2) 1 65 := ⟨DL_refusesAny_c2.2.2.2.2.2.2.2.2.2.2.1, rfl⟩
theorem dL_refusesAny_65 : Dc cL_refusesAny 65 (.bipush 100) 2 67 := ⟨DL_refusesAny_c2.2.2.2.2.2.2.2.2.2.2.2.1, rfl⟩
theorem dL_refusesAny_67 : Dc cL_refusesAny 67 (.invokevirtual 54) 3 70 := ⟨DL_refusesAny_c2.2.2.2.2.2.2.2.2.2.2.2.2.1, rfl⟩
theorem dL_refusesAny_70 : Dc cL_refusesAny 70 (.iconst (-1)) 1 71 := ⟨DL_refusesAny_c2.2.2.2.2.2.2.2.2.2.2.2.2.2.1, rfl⟩
theorem dL_refusesAny_71 : Db cL_refusesAny 71 (fun o => .if_icmp .ne o) 74 328 := ⟨257, DL_refusesAny_c2.2.2.2.2.2.2.2.2.2.2.2.2.2.2.1, rfl, rfl⟩
theorem dL_refusesAny_74 : Dc cL_refusesAny 74 (.aload_n 0) 1 75 := ⟨DL_refusesAny_c2.2.2.2.2.2.2.2.2.2.2.2.2.2.2.2, rfl⟩
theorem DL_refusesAny_c3 : decode cL_refusesAny 75 = .ok (.iconst 0, 1) ∧ decode cL_refusesAny 76 = .ok (.iload_n 3, 1) ∧ decode cL_refusesAny 77 = .ok (.invokevirtual 54, 3) ∧ decode cL_refusesAny 80 = .ok (.bipush (-2), 2) ∧ decode cL_refusesAny 82 = .ok (.if_icmp .ne 246, 3) ∧ decode cL_refusesAny 85 = .ok (.aload_n 0, 1) ∧ decode cL_refusesAny 86 = .ok (.iconst 1, 1) ∧ decode cL_refusesAny 87 = .ok (.iload_n 1, 1) ∧ decode cL_refusesAny 88 = .ok (.iconst 2, 1) ∧ decode cL_refusesAny 89 = .ok (.irem, 1) ∧ decode cL_refusesAny 90 = .ok (.ifCond .ne 7, 3) ∧ decode cL_refusesAny 93 = .ok (.iconst (-1), 1) ∧ decode cL_refusesAny 94 = .ok (.goto 5, 3) ∧ decode cL_refusesAny 97 = .ok (.bipush 100, 2) ∧ decode cL_refusesAny 99 = .ok (.invokevirtual 54, 3) ∧ decode cL_refusesAny 102 = .ok (.bipush (-2), 2) := by decide +kernel
theorem dL_refusesAny_75 : Dc cL_refusesAny 75 (.iconst 0) 1 76 := ⟨DL_refusesAny_c3.1, rfl⟩
theorem dL_refusesAny_76 : Dc cL_refusesAny 76 (.iload_n 3) 1 77 := ⟨DL_refusesAny_c3.2.1, rfl⟩
theorem dL_refusesAny_77 : Dc cL_refusesAny 77 (.invokevirtual 54) 3 80 := ⟨DL_refusesAny_c3.2.2.1, rfl⟩
theorem dL_refusesAny_80 : Dc cL_refusesAny 80 (.bipush (-2)) 2 82 := ⟨DL_refusesAny_c3.2.2.2.1, rfl⟩
theorem dL_refusesAny_82 : Db cL_refusesAny 82 (fun o => .if_icmp .ne o) 85 328 := ⟨246, DL_refusesAny_c3.2.2.2.2.1, rfl, rfl⟩
theorem dL_refusesAny_85 : Dc cL_refusesAny 85 (.aload_n 0) 1 86 := ⟨DL_refusesAny_c3.2.2.2.2.2.1, rfl⟩
theorem dL_refusesAny_86 : Dc cL_refusesAny 86 (.iconst 1) 1 87 := ⟨DL_refusesAny_c3.2.2.2.2.2.2.1, rfl⟩
theorem dL_refusesAny_87 : Dc cL_refusesAny 87 (.iload_n 1) 1 88 := ⟨DL_refusesAny_c3.2.2.2.2.2.2.2.1, rfl⟩
theorem dL_refusesAny_88 : Dc cL_refusesAny 88 (.iconst 2) 1 89 := ⟨DL_refusesAny_c3.2.2.2.2.2.2.2.2.1, rfl⟩
theorem dL_refusesAny_89 : Dc cL_refusesAny 89 (.irem) 1 90 := ⟨DL_refusesAny_c3.2.2.2.2.2.2.2.2.2.1, rfl⟩
theorem dL_refusesAny_90 : Db cL_refusesAny 90 (fun o => .ifCond .ne o) 93 97 := ⟨7, DL_refusesAny_c3.2.2.2.2.2.2.2.2.2.2.1, rfl, rfl⟩
theorem dL_refusesAny_93 : Dc cL_refusesAny 93 (.iconst (-1)) 1 94 := ⟨DL_refusesAny_c3.2.2.2.2.2.2.2.2.2.2.2.1, rfl⟩
theorem dL_refusesAny_94 : Db cL_refusesAny 94 .goto 97 99 := ⟨5, DL_refusesAny_c3.2.2.2.2.2.2.2.2.2.2.2.2.1, rfl, rfl⟩
theorem dL_refusesAny_97 : Dc cL_refusesAny 97 (.bipush 100) 2 99 := ⟨DL_refusesAny_c3.2.2.2.2.2.2.2.2.2.2.2.2.2.1, rfl⟩
theorem dL_refusesAny_99 : Dc cL_refusesAny 99 (.invokevirtual 54) 3 102 := ⟨DL_refusesAny_c3.2.2.2.2.2.2.2.2.2.2.2.2.2.2.1, rfl⟩
theorem dL_refusesAny_102 : Dc cL_refusesAny 102 (.bipush (-2)) 2 104 := ⟨DL_refusesAny_c3.2.2.2.2.2.2.2.2.2.2.2.2.2.2.2, rfl⟩
theorem DL_refusesAny_c4 : decode cL_refusesAny 104 = .ok (.if_icmp .ne 224, 3) ∧ decode cL_refusesAny 107 = .ok (.aload_n 0, 1) ∧ decode cL_refusesAny 108 = .ok (.iconst 4, 1) ∧ decode cL_refusesAny 109 = .ok (.bipush 30, 2) ∧ decode cL_refusesAny 111 = .ok (.invokevirtual 54, 3) ∧ decode cL_refusesAny 114 = .ok (.bipush (-2), 2) ∧ decode cL_refusesAny 116 = .ok (.if_icmp .ne 212, 3) ∧ decode cL_refusesAny 119 = .ok (.iload 4, 2) ∧ decode cL_refusesAny 121 = .ok (.ifCond .eq 15, 3) ∧ decode cL_refusesAny 124 = .ok (.aload_n 0, 1) ∧ decode cL_refusesAny 125 = .ok (.invokevirtual 57, 3) ∧ decode cL_refusesAny 128 = .ok (.bipush (-4), 2) ∧ decode cL_refusesAny 130 = .ok (.if_icmp .ne 198, 3) ∧ decode cL_refusesAny 133 = .ok (.goto 31, 3) ∧ decode cL_refusesAny 136 = .ok (.aload_n 0, 1) ∧ decode cL_refusesAny 137 = .ok (.invokevirtual 61, 3) := by decide +kernel
theorem dL_refusesAny_104 : Db cL_refusesAny 104 (fun o => .if_icmp .ne o) 107 328 := ⟨224, DL_refusesAny_c4.1, rfl, rfl⟩
theorem dL_refusesAny_107 : Dc cL_refusesAny 107 (.aload_n 0) 1 108 := ⟨DL_refusesAny_c4.2.1, rfl⟩
theorem dL_refusesAny_108 : Dc cL_refusesAny 108 (.iconst 4) 1 109 := ⟨DL_refusesAny_c4.2.2.1, rfl⟩
theorem dL_refusesAny_109 : Dc cL_refusesAny 109 (.bipush 30) 2 111 := ⟨DL_refusesAny_c4.2.2.2.1, rfl⟩
theorem dL_refusesAny_111 : Dc cL_refusesAny 111 (.invokevirtual 54) 3 114 := ⟨DL_refusesAny_c4.2.2.2.2.1, rfl⟩
theorem dL_refusesAny_114 : Dc cL_refusesAny 114 (.bipush (-2)) 2 116 := ⟨DL_refusesAny_c4.2.2.2.2.2.1, rfl⟩
theorem dL_refusesAny_116 : Db cL_refusesAny 116 (fun o => .if_icmp .ne o) 119 328 := ⟨212, DL_refusesAny_c4.2.2.2.2.2.2.1, rfl, rfl⟩
theorem dL_refusesAny_119 : Dc cL_refusesAny 119 (.iload 4) 2 121 := ⟨DL_refusesAny_c4.2.2.2.2.2.2.2.1, rfl⟩
theorem dL_refusesAny_121 : Db cL_refusesAny 121 (fun o => .ifCond .eq o) 124 136 := ⟨15, DL_refusesAny_c4.2.2.2.2.2.2.2.2.1, rfl, rfl⟩
theorem dL_refusesAny_124 : Dc cL_refusesAny 124 (.aload_n 0) 1 125 := ⟨DL_refusesAny_c4.2.2.2.2.2.2.2.2.2.1, rfl⟩
theorem dL_refusesAny_125 : Dc cL_refusesAny 125 (.invokevirtual 57) 3 128 := ⟨DL_refusesAny_c4.2.2.2.2.2.2.2.2.2.2.1, rfl⟩
theorem dL_refusesAny_128 : Dc cL_refusesAny 128 (.bipush (-4)) 2 130 := ⟨DL_refusesAny_c4.2.2.2.2.2.2.2.2.2.2.2.1, rfl⟩
theorem dL_refusesAny_130 : Db cL_refusesAny 130 (fun o => .if_icmp .ne o) 133 328 := ⟨198, DL_refusesAny_c4.2.2.2.2.2.2.2.2.2.2.2.2.1, rfl, rfl⟩
theorem dL_refusesAny_133 : Db cL_refusesAny 133 .goto 136 164 := ⟨31, DL_refusesAny_c4.2.2.2.2.2.2.2.2.2.2.2.2.2.1, rfl, rfl⟩
theorem dL_refusesAny_136 : Dc cL_refusesAny 136 (.aload_n 0) 1 137 := ⟨DL_refusesAny_c4.2.2.2.2.2.2.2.2.2.2.2.2.2.2.1, rfl⟩
theorem dL_refusesAny_137 : Dc cL_refusesAny 137 (.invokevirtual 61) 3 140 := ⟨DL_refusesAny_c4.2.2.2.2.2.2.2.2.2.2.2.2.2.2.2, rfl⟩
theorem DL_refusesAny_c5 : decode cL_refusesAny 140 = .ok (.bipush (-4), 2) ∧ decode cL_refusesAny 142 = .ok (.if_icmp .ne 186, 3) ∧ decode cL_refusesAny 145 = .ok (.aload_n 0, 1) ∧ decode cL_refusesAny 146 = .ok (.iconst 2, 1) ∧ decode cL_refusesAny 147 = .ok (.invokevirtual 20, 3) ∧ decode cL_refusesAny 150 = .ok (.bipush 6, 2) ∧ decode cL_refusesAny 152 = .ok (.if_icmp .lt 12, 3) ∧ decode cL_refusesAny 155 = .ok (.aload_n 0, 1) ∧ decode cL_refusesAny 156 = .ok (.invokevirtual 57, 3) ∧ decode cL_refusesAny 159 = .ok (.bipush (-3), 2) ∧ decode cL_refusesAny 161 = .ok (.if_icmp .ne 167, 3) ∧ decode cL_refusesAny 164 = .ok (.aload_n 0, 1) ∧ decode cL_refusesAny 165 = .ok (.iload_n 2, 1) ∧ decode cL_refusesAny 166 = .ok (.invokevirtual 64, 3) ∧ decode cL_refusesAny 169 = .ok (.iconst (-1), 1) ∧ decode cL_refusesAny 170 = .ok (.if_icmp .ne 158, 3) := by decide +kernel
theorem dL_refusesAny_140 : Dc cL_refusesAny 140 (.bipush (-4)) 2 142 := ⟨DL_refusesAny_c5.1, rfl⟩
theorem dL_refusesAny_142 : Db cL_refusesAny 142 (fun o => .if_icmp .ne o) 145 328 := ⟨186, DL_refusesAny_c5.2.1, rfl, rfl⟩
theorem dL_refusesAny_145 : Dc cL_refusesAny 145 (.aload_n 0) 1 146 := ⟨DL_refusesAny_c5.2.2.1, rfl⟩
theorem dL_refusesAny_146 : Dc cL_refusesAny 146 (.iconst 2) 1 147 := ⟨DL_refusesAny_c5.2.2.2.1, rfl⟩
theorem dL_refusesAny_147 : Dc cL_refusesAny 147 (.invokevirtual 20) 3 150 := ⟨DL_refusesAny_c5.2.2.2.2.1, rfl⟩
theorem dL_refusesAny_150 : Dc cL_refusesAny 150 (.bipush 6) 2 152 := ⟨DL_refusesAny_c5.2.2.2.2.2.1, rfl⟩
theorem dL_refusesAny_152 : Db cL_refusesAny 152 (fun o => .if_icmp .lt o) 155 164 := ⟨12, DL_refusesAny_c5.2.2.2.2.2.2.1, rfl, rfl⟩
theorem dL_refusesAny_155 : Dc cL_refusesAny 155 (.aload_n 0) 1 156 := ⟨DL_refusesAny_c5.2.2.2.2.2.2.2.1, rfl⟩
theorem dL_refusesAny_156 : Dc cL_refusesAny 156 (.invokevirtual 57) 3 159 := ⟨DL_refusesAny_c5.2.2.2.2.2.2.2.2.1, rfl⟩
theorem dL_refusesAny_159 : Dc cL_refusesAny 159 (.bipush (-3)) 2 161 := ⟨DL_refusesAny_c5.2.2.2.2.2.2.2.2.2.1, rfl⟩
theorem dL_refusesAny_161 : Db cL_refusesAny 161 (fun o => .if_icmp .ne o) 164 328 := ⟨167, DL_refusesAny_c5.2.2.2.2.2.2.2.2.2.2.1, rfl, rfl⟩
theorem dL_refusesAny_164 : Dc cL_refusesAny 164 (.aload_n 0) 1 165 := ⟨DL_refusesAny_c5.2.2.2.2.2.2.2.2.2.2.2.1, rfl⟩
theorem dL_refusesAny_165 : Dc cL_refusesAny 165 (.iload_n 2) 1 166 := ⟨DL_refusesAny_c5.2.2.2.2.2.2.2.2.2.2.2.2.1, rfl⟩
theorem dL_refusesAny_166 : Dc cL_refusesAny 166 (.invokevirtual 64) 3 169 := ⟨DL_refusesAny_c5.2.2.2.2.2.2.2.2.2.2.2.2.2.1, rfl⟩
theorem dL_refusesAny_169 : Dc cL_refusesAny 169 (.iconst (-1)) 1 170 := ⟨DL_refusesAny_c5.2.2.2.2.2.2.2.2.2.2.2.2.2.2.1, rfl⟩
theorem dL_refusesAny_170 : Db cL_refusesAny 170 (fun o => .if_icmp .ne o) 173 328 := ⟨158, DL_refusesAny_c5.2.2.2.2.2.2.2.2.2.2.2.2.2.2.2, rfl, rfl⟩
theorem DL_refusesAny_c6 : decode cL_refusesAny 173 = .ok (.aload_n 0, 1) ∧ decode cL_refusesAny 174 = .ok (.aload_n 0, 1) ∧ decode cL_refusesAny 175 = .ok (.iconst 2, 1) ∧ decode cL_refusesAny 176 = .ok (.invokevirtual 20, 3) ∧ decode cL_refusesAny 179 = .ok (.invokevirtual 64, 3) ∧ decode cL_refusesAny 182 = .ok (.iconst (-1), 1) ∧ decode cL_refusesAny 183 = .ok (.if_icmp .ne 145, 3) ∧ decode cL_refusesAny 186 = .ok (.aload_n 0, 1) ∧ decode cL_refusesAny 187 = .ok (.iload_n 2, 1) ∧ decode cL_refusesAny 188 = .ok (.iconst 0, 1) ∧ decode cL_refusesAny 189 = .ok (.invokevirtual 67, 3) ∧ decode cL_refusesAny 192 = .ok (.iconst (-1), 1) ∧ decode cL_refusesAny 193 = .ok (.if_icmp .ne 135, 3) ∧ decode cL_refusesAny 196 = .ok (.aload_n 0, 1) ∧ decode cL_refusesAny 197 = .ok (.iconst 2, 1) ∧ decode cL_refusesAny 198 = .ok (.invokevirtual 20, 3) := by decide +kernel
theorem dL_refusesAny_173 : Dc cL_refusesAny 173 (.aload_n 0) 1 174 := ⟨DL_refusesAny_c6.1, rfl⟩
theorem dL_refusesAny_174 : Dc cL_refusesAny 174 (.aload_n 0) 1 175 := ⟨DL_refusesAny_c6.2.1, rfl⟩
theorem dL_refusesAny_175 : Dc cL_refusesAny 175 (.iconst 2) 1 176 := ⟨DL_refusesAny_c6.2.2.1, rfl⟩
theorem dL_refusesAny_176 : Dc cL_refusesAny 176 (.invokevirtual 20) 3 179 := ⟨DL_refusesAny_c6.2.2.2.1, rfl⟩
theorem dL_refusesAny_179 : Dc cL_refusesAny 179 (.invokevirtual 64) 3 182 := ⟨DL_refusesAny_c6.2.2.2.2.1, rfl⟩
theorem dL_refusesAny_182 : Dc cL_refusesAny 182 (.iconst (-1)) 1 183 := ⟨DL_refusesAny_c6.2.2.2.2.2.1, rfl⟩
theorem dL_refusesAny_183 : Db cL_refusesAny 183 (fun o => .if_icmp .ne o) 186 328 := ⟨145, DL_refusesAny_c6.2.2.2.2.2.2.1, rfl, rfl⟩
theorem dL_refusesAny_186 : Dc cL_refusesAny 186 (.aload_n 0) 1 187 := ⟨DL_refusesAny_c6.2.2.2.2.2.2.2.1, rfl⟩
theorem dL_refusesAny_187 : Dc cL_refusesAny 187 (.iload_n 2) 1 188 := ⟨DL_refusesAny_c6.2.2.2.2.2.2.2.2.1, rfl⟩
theorem dL_refusesAny_188 : Dc cL_refusesAny 188 (.iconst 0) 1 189 := ⟨DL_refusesAny_c6.2.2.2.2.2.2.2.2.2.1, rfl⟩
theorem dL_refusesAny_189 : Dc cL_refusesAny 189 (.invokevirtual 67) 3 192 := ⟨DL_refusesAny_c6.2.2.2.2.2.2.2.2.2.2.1, rfl⟩
theorem dL_refusesAny_192 : Dc cL_refusesAny 192 (.iconst (-1)) 1 193 := ⟨DL_refusesAny_c6.2.2.2.2.2.2.2.2.2.2.2.1, rfl⟩
theorem dL_refusesAny_193 : Db cL_refusesAny 193 (fun o => .if_icmp .ne o) 196 328 := ⟨135, DL_refusesAny_c6.2.2.2.2.2.2.2.2.2.2.2.2.1, rfl, rfl⟩
theorem dL_refusesAny_196 : Dc cL_refusesAny 196 (.aload_n 0) 1 197 := ⟨DL_refusesAny_c6.2.2.2.2.2.2.2.2.2.2.2.2.2.1, rfl⟩
theorem dL_refusesAny_197 : Dc cL_refusesAny 197 (.iconst 2) 1 198 := ⟨DL_refusesAny_c6.2.2.2.2.2.2.2.2.2.2.2.2.2.2.1, rfl⟩
theorem dL_refusesAny_198 : Dc cL_refusesAny 198 (.invokevirtual 20) 3 201 := ⟨DL_refusesAny_c6.2.2.2.2.2.2.2.2.2.2.2.2.2.2.2, rfl⟩
theorem DL_refusesAny_c7 : decode cL_refusesAny 201 = .ok (.ifCond .eq 24, 3) ∧ decode cL_refusesAny 204 = .ok (.aload_n 0, 1) ∧ decode cL_refusesAny 205 = .ok (.iconst 0, 1) ∧ decode cL_refusesAny 206 = .ok (.iload_n 2, 1) ∧ decode cL_refusesAny 207 = .ok (.invokevirtual 67, 3) ∧ decode cL_refusesAny 210 = .ok (.iconst (-1), 1) ∧ decode cL_refusesAny 211 = .ok (.if_icmp .ne 117, 3) ∧ decode cL_refusesAny 214 = .ok (.aload_n 0, 1) ∧ decode cL_refusesAny 215 = .ok (.iconst 0, 1) ∧ decode cL_refusesAny 216 = .ok (.iconst 0, 1) ∧ decode cL_refusesAny 217 = .ok (.invokevirtual 67, 3) ∧ decode cL_refusesAny 220 = .ok (.bipush (-4), 2) ∧ decode cL_refusesAny 222 = .ok (.if_icmp .ne 106, 3) ∧ decode cL_refusesAny 225 = .ok (.aload_n 0, 1) ∧ decode cL_refusesAny 226 = .ok (.iload_n 2, 1) ∧ decode cL_refusesAny 227 = .ok (.invokevirtual 70, 3) := by decide +kernel
theorem dL_refusesAny_201 : Db cL_refusesAny 201 (fun o => .ifCond .eq o) 204 225 := ⟨24, DL_refusesAny_c7.1, rfl, rfl⟩
theorem dL_refusesAny_204 : Dc cL_refusesAny 204 (.aload_n 0) 1 205 := ⟨DL_refusesAny_c7.2.1, rfl⟩
theorem dL_refusesAny_205 : Dc cL_refusesAny 205 (.iconst 0) 1 206 := ⟨DL_refusesAny_c7.2.2.1, rfl⟩
theorem dL_refusesAny_206 : Dc cL_refusesAny 206 (.iload_n 2) 1 207 := ⟨DL_refusesAny_c7.2.2.2.1, rfl⟩
theorem dL_refusesAny_207 : Dc cL_refusesAny 207 (.invokevirtual 67) 3 210 := ⟨DL_refusesAny_c7.2.2.2.2.1, rfl⟩
theorem dL_refusesAny_210 : Dc cL_refusesAny 210 (.iconst (-1)) 1 211 := ⟨DL_refusesAny_c7.2.2.2.2.2.1, rfl⟩
theorem dL_refusesAny_211 : Db cL_refusesAny 211 (fun o => .if_icmp .ne o) 214 328 := ⟨117, DL_refusesAny_c7.2.2.2.2.2.2.1, rfl, rfl⟩
theorem dL_refusesAny_214 : Dc cL_refusesAny 214 (.aload_n 0) 1 215 := ⟨DL_refusesAny_c7.2.2.2.2.2.2.2.1, rfl⟩
theorem dL_refusesAny_215 : Dc cL_refusesAny 215 (.iconst 0) 1 216 := ⟨DL_refusesAny_c7.2.2.2.2.2.2.2.2.1, rfl⟩
theorem dL_refusesAny_216 : Dc cL_refusesAny 216 (.iconst 0) 1 217 := ⟨DL_refusesAny_c7.2.2.2.2.2.2.2.2.2.1, rfl⟩
theorem dL_refusesAny_217 : Dc cL_refusesAny 217 (.invokevirtual 67) 3 220 := ⟨DL_refusesAny_c7.2.2.2.2.2.2.2.2.2.2.1, rfl⟩
theorem dL_refusesAny_220 : Dc cL_refusesAny 220 (.bipush (-4)) 2 222 := ⟨DL_refusesAny_c7.2.2.2.2.2.2.2.2.2.2.2.1, rfl⟩
theorem dL_refusesAny_222 : Db cL_refusesAny 222 (fun o => .if_icmp .ne o) 225 328 := ⟨106, DL_refusesAny_c7.2.2.2.2.2.2.2.2.2.2.2.2.1, rfl, rfl⟩
theorem dL_refusesAny_225 : Dc cL_refusesAny 225 (.aload_n 0) 1 226 := ⟨DL_refusesAny_c7.2.2.2.2.2.2.2.2.2.2.2.2.2.1, rfl⟩
theorem dL_refusesAny_226 : Dc cL_refusesAny 226 (.iload_n 2) 1 227 := ⟨DL_refusesAny_c7.2.2.2.2.2.2.2.2.2.2.2.2.2.2.1, rfl⟩
theorem dL_refusesAny_227 : Dc cL_refusesAny 227 (.invokevirtual 70) 3 230 := ⟨DL_refusesAny_c7.2.2.2.2.2.2.2.2.2.2.2.2.2.2.2, rfl⟩
theorem DL_refusesAny_c8 : decode cL_refusesAny 230 = .ok (.iconst (-1), 1) ∧ decode cL_refusesAny 231 = .ok (.if_icmp .ne 97, 3) ∧ decode cL_refusesAny 234 = .ok (.aload_n 0, 1) ∧ decode cL_refusesAny 235 = .ok (.iload_n 2, 1) ∧ decode cL_refusesAny 236 = .ok (.bipush 100, 2) ∧ decode cL_refusesAny 238 = .ok (.invokevirtual 73, 3) ∧ decode cL_refusesAny 241 = .ok (.iconst (-1), 1) ∧ decode cL_refusesAny 242 = .ok (.if_icmp .ne 86, 3) ∧ decode cL_refusesAny 245 = .ok (.aload_n 0, 1) ∧ decode cL_refusesAny 246 = .ok (.iload_n 2, 1) ∧ decode cL_refusesAny 247 = .ok (.invokevirtual 76, 3) ∧ decode cL_refusesAny 250 = .ok (.iconst (-1), 1) ∧ decode cL_refusesAny 251 = .ok (.if_icmp .ne 77, 3) ∧ decode cL_refusesAny 254 = .ok (.aload_n 0, 1) ∧ decode cL_refusesAny 255 = .ok (.iload_n 2, 1) ∧ decode cL_refusesAny 256 = .ok (.invokevirtual 79, 3) := by decide +kernel
theorem dL_refusesAny_230 : Dc cL_refusesAny 230 (.iconst (-1)) 1 231 := ⟨DL_refusesAny_c8.1, rfl⟩
theorem dL_refusesAny_231 : Db cL_refusesAny 231 (fun o => .if_icmp .ne o) 234 328 := ⟨97, DL_refusesAny_c8.2.1, rfl, rfl⟩
theorem dL_refusesAny_234 : Dc cL_refusesAny 234 (.aload_n 0) 1 235 := ⟨DL_refusesAny_c8.2.2.1, rfl⟩
theorem dL_refusesAny_235 : Dc cL_refusesAny 235 (.iload_n 2) 1 236 := ⟨DL_refusesAny_c8.2.2.2.1, rfl⟩
theorem dL_refusesAny_236 : Dc cL_refusesAny 236 (.bipush 100) 2 238 := ⟨DL_refusesAny_c8.2.2.2.2.1, rfl⟩
theorem dL_refusesAny_238 : Dc cL_refusesAny 238 (.invokevirtual 73) 3 241 := ⟨DL_refusesAny_c8.2.2.2.2.2.1, rfl⟩
theorem dL_refusesAny_241 : Dc cL_refusesAny 241 (.iconst (-1)) 1 242 := ⟨DL_refusesAny_c8.2.2.2.2.2.2.1, rfl⟩
theorem dL_refusesAny_242 : Db cL_refusesAny 242 (fun o => .if_icmp .ne o) 245 328 := ⟨86, DL_refusesAny_c8.2.2.2.2.2.2.2.1, rfl, rfl⟩
theorem dL_refusesAny_245 : Dc cL_refusesAny 245 (.aload_n 0) 1 246 := ⟨DL_refusesAny_c8.2.2.2.2.2.2.2.2.1, rfl⟩
theorem dL_refusesAny_246 : Dc cL_refusesAny 246 (.iload_n 2) 1 247 := ⟨DL_refusesAny_c8.2.2.2.2.2.2.2.2.2.1, rfl⟩
theorem dL_refusesAny_247 : Dc cL_refusesAny 247 (.invokevirtual 76) 3 250 := ⟨DL_refusesAny_c8.2.2.2.2.2.2.2.2.2.2.1, rfl⟩
theorem dL_refusesAny_250 : Dc cL_refusesAny 250 (.iconst (-1)) 1 251 := ⟨DL_refusesAny_c8.2.2.2.2.2.2.2.2.2.2.2.1, rfl⟩
theorem dL_refusesAny_251 : Db cL_refusesAny 251 (fun o => .if_icmp .ne o) 254 328 := ⟨77, DL_refusesAny_c8.2.2.2.2.2.2.2.2.2.2.2.2.1, rfl, rfl⟩
theorem dL_refusesAny_254 : Dc cL_refusesAny 254 (.aload_n 0) 1 255 := ⟨DL_refusesAny_c8.2.2.2.2.2.2.2.2.2.2.2.2.2.1, rfl⟩
theorem dL_refusesAny_255 : Dc cL_refusesAny 255 (.iload_n 2) 1 256 := ⟨DL_refusesAny_c8.2.2.2.2.2.2.2.2.2.2.2.2.2.2.1, rfl⟩
theorem dL_refusesAny_256 : Dc cL_refusesAny 256 (.invokevirtual 79) 3 259 := ⟨DL_refusesAny_c8.2.2.2.2.2.2.2.2.2.2.2.2.2.2.2, rfl⟩
theorem DL_refusesAny_c9 : decode cL_refusesAny 259 = .ok (.iconst (-1), 1) ∧ decode cL_refusesAny 260 = .ok (.if_icmp .ne 68, 3) ∧ decode cL_refusesAny 263 = .ok (.aload_n 0, 1) ∧ decode cL_refusesAny 264 = .ok (.iconst 4, 1) ∧ decode cL_refusesAny 265 = .ok (.invokevirtual 20, 3) ∧ decode cL_refusesAny 268 = .ok (.ifCond .eq 56, 3) ∧ decode cL_refusesAny 271 = .ok (.aload_n 0, 1) ∧ decode cL_refusesAny 272 = .ok (.iconst 0, 1) ∧ decode cL_refusesAny 273 = .ok (.iload_n 1, 1) ∧ decode cL_refusesAny 274 = .ok (.iconst 2, 1) ∧ decode cL_refusesAny 275 = .ok (.irem, 1) ∧ decode cL_refusesAny 276 = .ok (.ifCond .ne 7, 3) ∧ decode cL_refusesAny 279 = .ok (.iconst 0, 1) ∧ decode cL_refusesAny 280 = .ok (.goto 5, 3) ∧ decode cL_refusesAny 283 = .ok (.bipush 100, 2) ∧ decode cL_refusesAny 285 = .ok (.invokevirtual 73, 3) := by decide +kernel
theorem dL_refusesAny_259 : Dc cL_refusesAny 259 (.iconst (-1)) 1 260 := ⟨DL_refusesAny_c9.1, rfl⟩
theorem dL_refusesAny_260 : Db cL_refusesAny 260 (fun o => .if_icmp .ne o) 263 328 := ⟨68, DL_refusesAny_c9.2.1, rfl, rfl⟩
theorem dL_refusesAny_263 : Dc cL_refusesAny 263 (.aload_n 0) 1 264 := ⟨DL_refusesAny_c9.2.2.1, rfl⟩
theorem dL_refusesAny_264 : Dc cL_refusesAny 264 (.iconst 4) 1 265 := ⟨DL_refusesAny_c9.2.2.2.1, rfl⟩
theorem dL_refusesAny_265 : Dc cL_refusesAny 265 (.invokevirtual 20) 3 268 := ⟨DL_refusesAny_c9.2.2.2.2.1, rfl⟩
theorem dL_refusesAny_268 : Db cL_refusesAny 268 (fun o => .ifCond .eq o) 271 324 := ⟨56, DL_refusesAny_c9.2.2.2.2.2.1, rfl, rfl⟩
theorem dL_refusesAny_271 : Dc cL_refusesAny 271 (.aload_n 0) 1 272 := ⟨DL_refusesAny_c9.2.2.2.2.2.2.1, rfl⟩
theorem dL_refusesAny_272 : Dc cL_refusesAny 272 (.iconst 0) 1 273 := ⟨DL_refusesAny_c9.2.2.2.2.2.2.2.1, rfl⟩
theorem dL_refusesAny_273 : Dc cL_refusesAny 273 (.iload_n 1) 1 274 := ⟨DL_refusesAny_c9.2.2.2.2.2.2.2.2.1, rfl⟩
theorem dL_refusesAny_274 : Dc cL_refusesAny 274 (.iconst 2) 1 275 := ⟨DL_refusesAny_c9.2.2.2.2.2.2.2.2.2.1, rfl⟩
theorem dL_refusesAny_275 : Dc cL_refusesAny 275 (.irem) 1 276 := ⟨DL_refusesAny_c9.2.2.2.2.2.2.2.2.2.2.1, rfl⟩
theorem dL_refusesAny_276 : Db cL_refusesAny 276 (fun o => .ifCond .ne o) 279 283 := ⟨7, DL_refusesAny_c9.2.2.2.2.2.2.2.2.2.2.2.1, rfl, rfl⟩
theorem dL_refusesAny_279 : Dc cL_refusesAny 279 (.iconst 0) 1 280 := ⟨DL_refusesAny_c9.2.2.2.2.2.2.2.2.2.2.2.2.1, rfl⟩
theorem dL_refusesAny_280 : Db cL_refusesAny 280 .goto 283 285 := ⟨5, DL_refusesAny_c9.2.2.2.2.2.2.2.2.2.2.2.2.2.1, rfl, rfl⟩
theorem dL_refusesAny_283 : Dc cL_refusesAny 283 (.bipush 100) 2 285 := ⟨DL_refusesAny_c9.2.2.2.2.2.2.2.2.2.2.2.2.2.2.1, rfl⟩
theorem dL_refusesAny_285 : Dc cL_refusesAny 285 (.invokevirtual 73) 3 288 := ⟨DL_refusesAny_c9.2.2.2.2.2.2.2.2.2.2.2.2.2.2.2, rfl⟩
theorem DL_refusesAny_c10 : decode cL_refusesAny 288 = .ok (.bipush (-2), 2) ∧ decode cL_refusesAny 290 = .ok (.if_icmp .ne 38, 3) ∧ decode cL_refusesAny 293 = .ok (.aload_n 0, 1) ∧ decode cL_refusesAny 294 = .ok (.iconst 0, 1) ∧ decode cL_refusesAny 295 = .ok (.aload_n 0, 1) ∧ decode cL_refusesAny 296 = .ok (.iconst 0, 1) ∧ decode cL_refusesAny 297 = .ok (.iconst 2, 1) ∧ decode cL_refusesAny 298 = .ok (.invokevirtual 27, 3) ∧ decode cL_refusesAny 301 = .ok (.invokevirtual 73, 3) ∧ decode cL_refusesAny 304 = .ok (.bipush (-5), 2) ∧ decode cL_refusesAny 306 = .ok (.if_icmp .ne 22, 3) ∧ decode cL_refusesAny 309 = .ok (.iload 4, 2) ∧ decode cL_refusesAny 311 = .ok (.ifCond .eq 13, 3) ∧ decode cL_refusesAny 314 = .ok (.aload_n 0, 1) ∧ decode cL_refusesAny 315 = .ok (.iconst 0, 1) ∧ decode cL_refusesAny 316 = .ok (.invokevirtual 79, 3) := by decide +kernel
theorem dL_refusesAny_288 : Dc cL_refusesAny 288 (.bipush (-2)) 2 290 := ⟨DL_refusesAny_c10.1, rfl⟩
theorem dL_refusesAny_290 : Db cL_refusesAny 290 (fun o => .if_icmp .ne o) 293 328 := ⟨38, DL_refusesAny_c10.2.1, rfl, rfl⟩
theorem dL_refusesAny_293 : Dc cL_refusesAny 293 (.aload_n 0) 1 294 := ⟨DL_refusesAny_c10.2.2.1, rfl⟩
theorem dL_refusesAny_294 : Dc cL_refusesAny 294 (.iconst 0) 1 295 := ⟨DL_refusesAny_c10.2.2.2.1, rfl⟩
theorem dL_refusesAny_295 : Dc cL_refusesAny 295 (.aload_n 0) 1 296 := ⟨DL_refusesAny_c10.2.2.2.2.1, rfl⟩
theorem dL_refusesAny_296 : Dc cL_refusesAny 296 (.iconst 0) 1 297 := ⟨DL_refusesAny_c10.2.2.2.2.2.1, rfl⟩
theorem dL_refusesAny_297 : Dc cL_refusesAny 297 (.iconst 2) 1 298 := ⟨DL_refusesAny_c10.2.2.2.2.2.2.1, rfl⟩
theorem dL_refusesAny_298 : Dc cL_refusesAny 298 (.invokevirtual 27) 3 301 := ⟨DL_refusesAny_c10.2.2.2.2.2.2.2.1, rfl⟩
theorem dL_refusesAny_301 : Dc cL_refusesAny 301 (.invokevirtual 73) 3 304 := ⟨DL_refusesAny_c10.2.2.2.2.2.2.2.2.1, rfl⟩
theorem dL_refusesAny_304 : Dc cL_refusesAny 304 (.bipush (-5)) 2 306 := ⟨DL_refusesAny_c10.2.2.2.2.2.2.2.2.2.1, rfl⟩
theorem dL_refusesAny_306 : Db cL_refusesAny 306 (fun o => .if_icmp .ne o) 309 328 := ⟨22, DL_refusesAny_c10.2.2.2.2.2.2.2.2.2.2.1, rfl, rfl⟩
theorem dL_refusesAny_309 : Dc cL_refusesAny 309 (.iload 4) 2 311 := ⟨DL_refusesAny_c10.2.2.2.2.2.2.2.2.2.2.2.1, rfl⟩
theorem dL_refusesAny_311 : Db cL_refusesAny 311 (fun o => .ifCond .eq o) 314 324 := ⟨13, DL_refusesAny_c10.2.2.2.2.2.2.2.2.2.2.2.2.1, rfl, rfl⟩
theorem dL_refusesAny_314 : Dc cL_refusesAny 314 (.aload_n 0) 1 315 := ⟨DL_refusesAny_c10.2.2.2.2.2.2.2.2.2.2.2.2.2.1, rfl⟩
theorem dL_refusesAny_315 : Dc cL_refusesAny 315 (.iconst 0) 1 316 := ⟨DL_refusesAny_c10.2.2.2.2.2.2.2.2.2.2.2.2.2.2.1, rfl⟩
theorem dL_refusesAny_316 : Dc cL_refusesAny 316 (.invokevirtual 79) 3 319 := ⟨DL_refusesAny_c10.2.2.2.2.2.2.2.2.2.2.2.2.2.2.2, rfl⟩
theorem DL_refusesAny_c11 : decode cL_refusesAny 319 = .ok (.bipush (-4), 2) ∧ decode cL_refusesAny 321 = .ok (.if_icmp .ne 7, 3) ∧ decode cL_refusesAny 324 = .ok (.iconst 1, 1) ∧ decode cL_refusesAny 325 = .ok (.goto 4, 3) ∧ decode cL_refusesAny 328 = .ok (.iconst 0, 1) ∧ decode cL_refusesAny 329 = .ok (.istore 5, 2) ∧ decode cL_refusesAny 331 = .ok (.iload 5, 2) ∧ decode cL_refusesAny 333 = .ok (.ifCond .eq 249, 3) ∧ decode cL_refusesAny 336 = .ok (.aload_n 0, 1) ∧ decode cL_refusesAny 337 = .ok (.iload_n 3, 1) ∧ decode cL_refusesAny 338 = .ok (.invokevirtual 14, 3) ∧ decode cL_refusesAny 341 = .ok (.iconst (-1), 1) ∧ decode cL_refusesAny 342 = .ok (.if_icmp .ne 240, 3) ∧ decode cL_refusesAny 345 = .ok (.aload_n 0, 1) ∧ decode cL_refusesAny 346 = .ok (.iload_n 2, 1) ∧ decode cL_refusesAny 347 = .ok (.iload_n 1, 1) := by decide +kernel
theorem dL_refusesAny_319 : Dc cL_refusesAny 319 (.bipush (-4)) 2 321 := ⟨DL_refusesAny_c11.1, rfl⟩
theorem dL_refusesAny_321 : Db cL_refusesAny 321 (fun o => .if_icmp .ne o) 324 328 := ⟨7, DL_refusesAny_c11.2.1, rfl, rfl⟩
theorem dL_refusesAny_324 : Dc cL_refusesAny 324 (.iconst 1) 1 325 := ⟨DL_refusesAny_c11.2.2.1, rfl⟩
theorem dL_refusesAny_325 : Db cL_refusesAny 325 .goto 328 329 := ⟨4, DL_refusesAny_c11.2.2.2.1, rfl, rfl⟩
theorem dL_refusesAny_328 : Dc cL_refusesAny 328 (.iconst 0) 1 329 := ⟨DL_refusesAny_c11.2.2.2.2.1, rfl⟩
theorem dL_refusesAny_329 : Dc cL_refusesAny 329 (.istore 5) 2 331 := ⟨DL_refusesAny_c11.2.2.2.2.2.1, rfl⟩
theorem dL_refusesAny_331 : Dc cL_refusesAny 331 (.iload 5) 2 333 := ⟨DL_refusesAny_c11.2.2.2.2.2.2.1, rfl⟩
theorem dL_refusesAny_333 : Db cL_refusesAny 333 (fun o => .ifCond .eq o) 336 582 := ⟨249, DL_refusesAny_c11.2.2.2.2.2.2.2.1, rfl, rfl⟩
theorem dL_refusesAny_336 : Dc cL_refusesAny 336 (.aload_n 0) 1 337 := ⟨DL_refusesAny_c11.2.2.2.2.2.2.2.2.1, rfl⟩
theorem dL_refusesAny_337 : Dc cL_refusesAny 337 (.iload_n 3) 1 338 := ⟨DL_refusesAny_c11.2.2.2.2.2.2.2.2.2.1, rfl⟩
theorem dL_refusesAny_338 : Dc cL_refusesAny 338 (.invokevirtual 14) 3 341 := ⟨DL_refusesAny_c11.2.2.2.2.2.2.2.2.2.2.1, rfl⟩
theorem dL_refusesAny_341 : Dc cL_refusesAny 341 (.iconst (-1)) 1 342 := ⟨DL_refusesAny_c11.2.2.2.2.2.2.2.2.2.2.2.1, rfl⟩
theorem dL_refusesAny_342 : Db cL_refusesAny 342 (fun o => .if_icmp .ne o) 345 582 := ⟨240, DL_refusesAny_c11.2.2.2.2.2.2.2.2.2.2.2.2.1, rfl, rfl⟩
theorem dL_refusesAny_345 : Dc cL_refusesAny 345 (.aload_n 0) 1 346 := ⟨DL_refusesAny_c11.2.2.2.2.2.2.2.2.2.2.2.2.2.1, rfl⟩
theorem dL_refusesAny_346 : Dc cL_refusesAny 346 (.iload_n 2) 1 347 := ⟨DL_refusesAny_c11.2.2.2.2.2.2.2.2.2.2.2.2.2.2.1, rfl⟩
theorem dL_refusesAny_347 : Dc cL_refusesAny 347 (.iload_n 1) 1 348 := ⟨DL_refusesAny_c11.2.2.2.2.2.2.2.2.2.2.2.2.2.2.2, rfl⟩
theorem DL_refusesAny_c12 : decode cL_refusesAny 348 = .ok (.iconst 2, 1) ∧ decode cL_refusesAny 349 = .ok (.irem, 1) ∧ decode cL_refusesAny 350 = .ok (.iadd, 1) ∧ decode cL_refusesAny 351 = .ok (.iconst 0, 1) ∧ decode cL_refusesAny 352 = .ok (.bipush 9, 2) ∧ decode cL_refusesAny 354 = .ok (.invokevirtual 23, 3) ∧ decode cL_refusesAny 357 = .ok (.iconst (-1), 1) ∧ decode cL_refusesAny 358 = .ok (.if_icmp .ne 224, 3) ∧ decode cL_refusesAny 361 = .ok (.aload_n 0, 1) ∧ decode cL_refusesAny 362 = .ok (.iload_n 2, 1) ∧ decode cL_refusesAny 363 = .ok (.iconst 0, 1) ∧ decode cL_refusesAny 364 = .ok (.bipush 9, 2) ∧ decode cL_refusesAny 366 = .ok (.invokevirtual 31, 3) ∧ decode cL_refusesAny 369 = .ok (.iconst (-1), 1) ∧ decode cL_refusesAny 370 = .ok (.if_icmp .ne 212, 3) ∧ decode cL_refusesAny 373 = .ok (.aload_n 0, 1) := by decide +kernel
theorem dL_refusesAny_348 : Dc cL_refusesAny 348 (.iconst 2) 1 349 := ⟨DL_refusesAny_c12.1, rfl⟩
theorem dL_refusesAny_349 : Dc cL_refusesAny 349 (.irem) 1 350 := ⟨DL_refusesAny_c12.2.1, rfl⟩
theorem dL_refusesAny_350 : Dc cL_refusesAny 350 (.iadd) 1 351 := ⟨DL_refusesAny_c12.2.2.1, rfl⟩
theorem dL_refusesAny_351 : Dc cL_refusesAny 351 (.iconst 0) 1 352 := ⟨DL_refusesAny_c12.2.2.2.1, rfl⟩
theorem dL_refusesAny_352 : Dc cL_refusesAny 352 (.bipush 9) 2 354 := ⟨DL_refusesAny_c12.2.2.2.2.1, rfl⟩
theorem dL_refusesAny_354 : Dc cL_refusesAny 354 (.invokevirtual 23) 3 357 := ⟨DL_refusesAny_c12.2.2.2.2.2.1, rfl⟩
theorem dL_refusesAny_357 : Dc cL_refusesAny 357 (.iconst (-1)) 1 358 := ⟨DL_refusesAny_c12.2.2.2.2.2.2.1, rfl⟩
theorem dL_refusesAny_358 : Db cL_refusesAny 358 (fun o => .if_icmp .ne o) 361 582 := ⟨224, DL_refusesAny_c12.2.2.2.2.2.2.2.1, rfl, rfl⟩
theorem dL_refusesAny_361 : Dc cL_refusesAny 361 (.aload_n 0) 1 362 := ⟨DL_refusesAny_c12.2.2.2.2.2.2.2.2.1, rfl⟩
theorem dL_refusesAny_362 : Dc cL_refusesAny 362 (.iload_n 2) 1 363 := ⟨DL_refusesAny_c12.2.2.2.2.2.2.2.2.2.1, rfl⟩
theorem dL_refusesAny_363 : Dc cL_refusesAny 363 (.iconst 0) 1 364 := ⟨DL_refusesAny_c12.2.2.2.2.2.2.2.2.2.2.1, rfl⟩
theorem dL_refusesAny_364 : Dc cL_refusesAny 364 (.bipush 9) 2 366 := ⟨DL_refusesAny_c12.2.2.2.2.2.2.2.2.2.2.2.1, rfl⟩
theorem dL_refusesAny_366 : Dc cL_refusesAny 366 (.invokevirtual 31) 3 369 := ⟨DL_refusesAny_c12.2.2.2.2.2.2.2.2.2.2.2.2.1, rfl⟩
theorem dL_refusesAny_369 : Dc cL_refusesAny 369 (.iconst (-1)) 1 370 := ⟨DL_refusesAny_c12.2.2.2.2.2.2.2.2.2.2.2.2.2.1, rfl⟩
theorem dL_refusesAny_370 : Db cL_refusesAny 370 (fun o => .if_icmp .ne o) 373 582 := ⟨212, DL_refusesAny_c12.2.2.2.2.2.2.2.2.2.2.2.2.2.2.1, rfl, rfl⟩
theorem dL_refusesAny_373 : Dc cL_refusesAny 373 (.aload_n 0) 1 374 := ⟨DL_refusesAny_c12.2.2.2.2.2.2.2.2.2.2.2.2.2.2.2, rfl⟩
theorem DL_refusesAny_c13 : decode cL_refusesAny 374 = .ok (.iload_n 2, 1) ∧ decode cL_refusesAny 375 = .ok (.iconst 3, 1) ∧ decode cL_refusesAny 376 = .ok (.invokevirtual 27, 3) ∧ decode cL_refusesAny 379 = .ok (.bipush (-2), 2) ∧ decode cL_refusesAny 381 = .ok (.if_icmp .ne 201, 3) ∧ decode cL_refusesAny 384 = .ok (.aload_n 0, 1) ∧ decode cL_refusesAny 385 = .ok (.iload_n 2, 1) ∧ decode cL_refusesAny 386 = .ok (.iload_n 1, 1) ∧ decode cL_refusesAny 387 = .ok (.iconst 3, 1) ∧ decode cL_refusesAny 388 = .ok (.irem, 1) ∧ decode cL_refusesAny 389 = .ok (.invokevirtual 27, 3) ∧ decode cL_refusesAny 392 = .ok (.iconst (-1), 1) ∧ decode cL_refusesAny 393 = .ok (.if_icmp .ne 189, 3) ∧ decode cL_refusesAny 396 = .ok (.aload_n 0, 1) ∧ decode cL_refusesAny 397 = .ok (.iload_n 1, 1) ∧ decode cL_refusesAny 398 = .ok (.iconst 2, 1) := by decide +kernel
theorem dL_refusesAny_374 : Dc cL_refusesAny 374 (.iload_n 2) 1 375 := ⟨DL_refusesAny_c13.1, rfl⟩
theorem dL_refusesAny_375 : Dc cL_refusesAny 375 (.iconst 3) 1 376 := ⟨DL_refusesAny_c13.2.1, rfl⟩
theorem dL_refusesAny_376 : Dc cL_refusesAny 376 (.invokevirtual 27) 3 379 := ⟨DL_refusesAny_c13.2.2.1, rfl⟩
theorem dL_refusesAny_379 : Dc cL_refusesAny 379 (.bipush (-2)) 2 381 := ⟨DL_refusesAny_c13.2.2.2.1, rfl⟩
theorem dL_refusesAny_381 : Db cL_refusesAny 381 (fun o => .if_icmp .ne o) 384 582 := ⟨201, DL_refusesAny_c13.2.2.2.2.1, rfl, rfl⟩
theorem dL_refusesAny_384 : Dc cL_refusesAny 384 (.aload_n 0) 1 385 := ⟨DL_refusesAny_c13.2.2.2.2.2.1, rfl⟩
theorem dL_refusesAny_385 : Dc cL_refusesAny 385 (.iload_n 2) 1 386 := ⟨DL_refusesAny_c13.2.2.2.2.2.2.1, rfl⟩
theorem dL_refusesAny_386 : Dc cL_refusesAny 386 (.iload_n 1) 1 387 := ⟨DL_refusesAny_c13.2.2.2.2.2.2.2.1, rfl⟩
theorem dL_refusesAny_387 : Dc cL_refusesAny 387 (.iconst 3) 1 388 := ⟨DL_refusesAny_c13.2.2.2.2.2.2.2.2.1, rfl⟩
theorem dL_refusesAny_388 : Dc cL_refusesAny 388 (.irem) 1 389 := ⟨DL_refusesAny_c13.2.2.2.2.2.2.2.2.2.1, rfl⟩
theorem dL_refusesAny_389 : Dc cL_refusesAny 389 (.invokevirtual 27) 3 392 := ⟨DL_refusesAny_c13.2.2.2.2.2.2.2.2.2.2.1, rfl⟩
theorem dL_refusesAny_392 : Dc cL_refusesAny 392 (.iconst (-1)) 1 393 := ⟨DL_refusesAny_c13.2.2.2.2.2.2.2.2.2.2.2.1, rfl⟩
theorem dL_refusesAny_393 : Db cL_refusesAny 393 (fun o => .if_icmp .ne o) 396 582 := ⟨189, DL_refusesAny_c13.2.2.2.2.2.2.2.2.2.2.2.2.1, rfl, rfl⟩
theorem dL_refusesAny_396 : Dc cL_refusesAny 396 (.aload_n 0) 1 397 := ⟨DL_refusesAny_c13.2.2.2.2.2.2.2.2.2.2.2.2.2.1, rfl⟩
theorem dL_refusesAny_397 : Dc cL_refusesAny 397 (.iload_n 1) 1 398 := ⟨DL_refusesAny_c13.2.2.2.2.2.2.2.2.2.2.2.2.2.2.1, rfl⟩
theorem dL_refusesAny_398 : Dc cL_refusesAny 398 (.iconst 2) 1 399 := ⟨DL_refusesAny_c13.2.2.2.2.2.2.2.2.2.2.2.2.2.2.2, rfl⟩
theorem DL_refusesAny_c14 : decode cL_refusesAny 399 = .ok (.irem, 1) ∧ decode cL_refusesAny 400 = .ok (.ifCond .ne 7, 3) ∧ decode cL_refusesAny 403 = .ok (.iconst (-1), 1) ∧ decode cL_refusesAny 404 = .ok (.goto 5, 3) ∧ decode cL_refusesAny 407 = .ok (.bipush 12, 2) ∧ decode cL_refusesAny 409 = .ok (.invokevirtual 20, 3) ∧ decode cL_refusesAny 412 = .ok (.bipush (-2), 2) ∧ decode cL_refusesAny 414 = .ok (.if_icmp .ne 168, 3) ∧ decode cL_refusesAny 417 = .ok (.aload_n 0, 1) ∧ decode cL_refusesAny 418 = .ok (.iload_n 2, 1) ∧ decode cL_refusesAny 419 = .ok (.iconst 0, 1) ∧ decode cL_refusesAny 420 = .ok (.bipush 9, 2) ∧ decode cL_refusesAny 422 = .ok (.invokevirtual 36, 3) ∧ decode cL_refusesAny 425 = .ok (.iconst (-1), 1) ∧ decode cL_refusesAny 426 = .ok (.if_icmp .ne 156, 3) ∧ decode cL_refusesAny 429 = .ok (.aload_n 0, 1) := by decide +kernel
theorem dL_refusesAny_399 : Dc cL_refusesAny 399 (.irem) 1 400 := ⟨DL_refusesAny_c14.1, rfl⟩
theorem dL_refusesAny_400 : Db cL_refusesAny 400 (fun o => .ifCond .ne o) 403 407 := ⟨7, DL_refusesAny_c14.2.1, rfl, rfl⟩
theorem dL_refusesAny_403 : Dc cL_refusesAny 403 (.iconst (-1)) 1 404 := ⟨DL_refusesAny_c14.2.2.1, rfl⟩
theorem dL_refusesAny_404 : Db cL_refusesAny 404 .goto 407 409 := ⟨5, DL_refusesAny_c14.2.2.2.1, rfl, rfl⟩
theorem dL_refusesAny_407 : Dc cL_refusesAny 407 (.bipush 12) 2 409 := ⟨DL_refusesAny_c14.2.2.2.2.1, rfl⟩
theorem dL_refusesAny_409 : Dc cL_refusesAny 409 (.invokevirtual 20) 3 412 := ⟨DL_refusesAny_c14.2.2.2.2.2.1, rfl⟩
theorem dL_refusesAny_412 : Dc cL_refusesAny 412 (.bipush (-2)) 2 414 := ⟨DL_refusesAny_c14.2.2.2.2.2.2.1, rfl⟩
theorem dL_refusesAny_414 : Db cL_refusesAny 414 (fun o => .if_icmp .ne o) 417 582 := ⟨168, DL_refusesAny_c14.2.2.2.2.2.2.2.1, rfl, rfl⟩
theorem dL_refusesAny_417 : Dc cL_refusesAny 417 (.aload_n 0) 1 418 := ⟨DL_refusesAny_c14.2.2.2.2.2.2.2.2.1, rfl⟩
theorem dL_refusesAny_418 : Dc cL_refusesAny 418 (.iload_n 2) 1 419 := ⟨DL_refusesAny_c14.2.2.2.2.2.2.2.2.2.1, rfl⟩
theorem dL_refusesAny_419 : Dc cL_refusesAny 419 (.iconst 0) 1 420 := ⟨DL_refusesAny_c14.2.2.2.2.2.2.2.2.2.2.1, rfl⟩
theorem dL_refusesAny_420 : Dc cL_refusesAny 420 (.bipush 9) 2 422 := ⟨DL_refusesAny_c14.2.2.2.2.2.2.2.2.2.2.2.1, rfl⟩
theorem dL_refusesAny_422 : Dc cL_refusesAny 422 (.invokevirtual 36) 3 425 := ⟨DL_refusesAny_c14.2.2.2.2.2.2.2.2.2.2.2.2.1, rfl⟩
theorem dL_refusesAny_425 : Dc cL_refusesAny 425 (.iconst (-1)) 1 426 := ⟨DL_refusesAny_c14.2.2.2.2.2.2.2.2.2.2.2.2.2.1, rfl⟩
theorem dL_refusesAny_426 : Db cL_refusesAny 426 (fun o => .if_icmp .ne o) 429 582 := ⟨156, DL_refusesAny_c14.2.2.2.2.2.2.2.2.2.2.2.2.2.2.1, rfl, rfl⟩
theorem dL_refusesAny_429 : Dc cL_refusesAny 429 (.aload_n 0) 1 430 := ⟨DL_refusesAny_c14.2.2.2.2.2.2.2.2.2.2.2.2.2.2.2, rfl⟩
theorem DL_refusesAny_c15 : decode cL_refusesAny 430 = .ok (.iconst 2, 1) ∧ decode cL_refusesAny 431 = .ok (.invokevirtual 20, 3) ∧ decode cL_refusesAny 434 = .ok (.ifCond .eq 72, 3) ∧ decode cL_refusesAny 437 = .ok (.aload_n 0, 1) ∧ decode cL_refusesAny 438 = .ok (.iconst 0, 1) ∧ decode cL_refusesAny 439 = .ok (.iload_n 2, 1) ∧ decode cL_refusesAny 440 = .ok (.bipush 9, 2) ∧ decode cL_refusesAny 442 = .ok (.invokevirtual 36, 3) ∧ decode cL_refusesAny 445 = .ok (.iconst (-1), 1) ∧ decode cL_refusesAny 446 = .ok (.if_icmp .ne 136, 3) ∧ decode cL_refusesAny 449 = .ok (.aload_n 0, 1) ∧ decode cL_refusesAny 450 = .ok (.iconst 0, 1) ∧ decode cL_refusesAny 451 = .ok (.iconst 0, 1) ∧ decode cL_refusesAny 452 = .ok (.iload_n 1, 1) ∧ decode cL_refusesAny 453 = .ok (.iconst 2, 1) ∧ decode cL_refusesAny 454 = .ok (.irem, 1) := by decide +kernel
theorem dL_refusesAny_430 : Dc cL_refusesAny 430 (.iconst 2) 1 431 := ⟨DL_refusesAny_c15.1, rfl⟩
theorem dL_refusesAny_431 : Dc cL_refusesAny 431 (.invokevirtual 20) 3 434 := ⟨DL_refusesAny_c15.2.1, rfl⟩
theorem dL_refusesAny_434 : Db cL_refusesAny 434 (fun o => .ifCond .eq o) 437 506 := ⟨72, DL_refusesAny_c15.2.2.1, rfl, rfl⟩
theorem dL_refusesAny_437 : Dc cL_refusesAny 437 (.aload_n 0) 1 438 := ⟨DL_refusesAny_c15.2.2.2.1, rfl⟩
theorem dL_refusesAny_438 : Dc cL_refusesAny 438 (.iconst 0) 1 439 := ⟨DL_refusesAny_c15.2.2.2.2.1, rfl⟩
theorem dL_refusesAny_439 : Dc cL_refusesAny 439 (.iload_n 2) 1 440 := ⟨DL_refusesAny_c15.2.2.2.2.2.1, rfl⟩
theorem dL_refusesAny_440 : Dc cL_refusesAny 440 (.bipush 9) 2 442 := ⟨DL_refusesAny_c15.2.2.2.2.2.2.1, rfl⟩
theorem dL_refusesAny_442 : Dc cL_refusesAny 442 (.invokevirtual 36) 3 445 := ⟨DL_refusesAny_c15.2.2.2.2.2.2.2.1, rfl⟩
theorem dL_refusesAny_445 : Dc cL_refusesAny 445 (.iconst (-1)) 1 446 := ⟨DL_refusesAny_c15.2.2.2.2.2.2.2.2.1, rfl⟩
theorem dL_refusesAny_446 : Db cL_refusesAny 446 (fun o => .if_icmp .ne o) 449 582 := ⟨136, DL_refusesAny_c15.2.2.2.2.2.2.2.2.2.1, rfl, rfl⟩
theorem dL_refusesAny_449 : Dc cL_refusesAny 449 (.aload_n 0) 1 450 := ⟨DL_refusesAny_c15.2.2.2.2.2.2.2.2.2.2.1, rfl⟩
theorem dL_refusesAny_450 : Dc cL_refusesAny 450 (.iconst 0) 1 451 := ⟨DL_refusesAny_c15.2.2.2.2.2.2.2.2.2.2.2.1, rfl⟩
theorem dL_refusesAny_451 : Dc cL_refusesAny 451 (.iconst 0) 1 452 := ⟨DL_refusesAny_c15.2.2.2.2.2.2.2.2.2.2.2.2.1, rfl⟩
theorem dL_refusesAny_452 : Dc cL_refusesAny 452 (.iload_n 1) 1 453 := ⟨DL_refusesAny_c15.2.2.2.2.2.2.2.2.2.2.2.2.2.1, rfl⟩
theorem dL_refusesAny_453 : Dc cL_refusesAny 453 (.iconst 2) 1 454 := ⟨DL_refusesAny_c15.2.2.2.2.2.2.2.2.2.2.2.2.2.2.1, rfl⟩
theorem dL_refusesAny_454 : Dc cL_refusesAny 454 (.irem) 1 455 := ⟨DL_refusesAny_c15.2.2.2.2.2.2.2.2.2.2.2.2.2.2.2, rfl⟩
theorem DL_refusesAny_c16 : decode cL_refusesAny 455 = .ok (.ifCond .ne 7, 3) ∧ decode cL_refusesAny 458 = .ok (.iconst (-1), 1) ∧ decode cL_refusesAny 459 = .ok (.goto 4, 3) ∧ decode cL_refusesAny 462 = .ok (.iconst 2, 1) ∧ decode cL_refusesAny 463 = .ok (.invokevirtual 36, 3) ∧ decode cL_refusesAny 466 = .ok (.bipush (-2), 2) ∧ decode cL_refusesAny 468 = .ok (.if_icmp .ne 114, 3) ∧ decode cL_refusesAny 471 = .ok (.aload_n 0, 1) ∧ decode cL_refusesAny 472 = .ok (.iconst 0, 1) ∧ decode cL_refusesAny 473 = .ok (.iconst 0, 1) ∧ decode cL_refusesAny 474 = .ok (.iload_n 1, 1) ∧ decode cL_refusesAny 475 = .ok (.iconst 2, 1) ∧ decode cL_refusesAny 476 = .ok (.irem, 1) ∧ decode cL_refusesAny 477 = .ok (.ifCond .ne 7, 3) ∧ decode cL_refusesAny 480 = .ok (.iconst (-1), 1) ∧ decode cL_refusesAny 481 = .ok (.goto 4, 3) := by decide +kernel
theorem dL_refusesAny_455 : Db cL_refusesAny 455 (fun o => .ifCond .ne o) 458 462 := ⟨7, DL_refusesAny_c16.1, rfl, rfl⟩
theorem dL_refusesAny_458 : Dc cL_refusesAny 458 (.iconst (-1)) 1 459 := ⟨DL_refusesAny_c16.2.1, rfl⟩
theorem dL_refusesAny_459 : Db cL_refusesAny 459 .goto 462 463 := ⟨4, DL_refusesAny_c16.2.2.1, rfl, rfl⟩
theorem dL_refusesAny_462 : Dc cL_refusesAny 462 (.iconst 2) 1 463 := ⟨DL_refusesAny_c16.2.2.2.1, rfl⟩
theorem dL_refusesAny_463 : Dc cL_refusesAny 463 (.invokevirtual 36) 3 466 := ⟨DL_refusesAny_c16.2.2.2.2.1, rfl⟩
theorem dL_refusesAny_466 : Dc cL_refusesAny 466 (.bipush (-2)) 2 468 := ⟨DL_refusesAny_c16.2.2.2.2.2.1, rfl⟩
theorem dL_refusesAny_468 : Db cL_refusesAny 468 (fun o => .if_icmp .ne o) 471 582 := ⟨114, DL_refusesAny_c16.2.2.2.2.2.2.1, rfl, rfl⟩
theorem dL_refusesAny_471 : Dc cL_refusesAny 471 (.aload_n 0) 1 472 := ⟨DL_refusesAny_c16.2.2.2.2.2.2.2.1, rfl⟩
theorem dL_refusesAny_472 : Dc cL_refusesAny 472 (.iconst 0) 1 473 := ⟨DL_refusesAny_c16.2.2.2.2.2.2.2.2.1, rfl⟩
theorem dL_refusesAny_473 : Dc cL_refusesAny 473 (.iconst 0) 1 474 := ⟨DL_refusesAny_c16.2.2.2.2.2.2.2.2.2.1, rfl⟩
theorem dL_refusesAny_474 : Dc cL_refusesAny 474 (.iload_n 1) 1 475 := ⟨DL_refusesAny_c16.2.2.2.2.2.2.2.2.2.2.1, rfl⟩
theorem dL_refusesAny_475 : Dc cL_refusesAny 475 (.iconst 2) 1 476 := ⟨DL_refusesAny_c16.2.2.2.2.2.2.2.2.2.2.2.1, rfl⟩
theorem dL_refusesAny_476 : Dc cL_refusesAny 476 (.irem) 1 477 := ⟨DL_refusesAny_c16.2.2.2.2.2.2.2.2.2.2.2.2.1, rfl⟩
theorem dL_refusesAny_477 : Db cL_refusesAny 477 (fun o => .ifCond .ne o) 480 484 := ⟨7, DL_refusesAny_c16.2.2.2.2.2.2.2.2.2.2.2.2.2.1, rfl, rfl⟩
theorem dL_refusesAny_480 : Dc cL_refusesAny 480 (.iconst (-1)) 1 481 := ⟨DL_refusesAny_c16.2.2.2.2.2.2.2.2.2.2.2.2.2.2.1, rfl⟩
theorem dL_refusesAny_481 : Db cL_refusesAny 481 .goto 484 485 := ⟨4, DL_refusesAny_c16.2.2.2.2.2.2.2.2.2.2.2.2.2.2.2, rfl, rfl⟩
theorem DL_refusesAny_c17 : decode cL_refusesAny 484 = .ok (.iconst 2, 1) ∧ decode cL_refusesAny 485 = .ok (.invokevirtual 23, 3) ∧ decode cL_refusesAny 488 = .ok (.bipush (-2), 2) ∧ decode cL_refusesAny 490 = .ok (.if_icmp .ne 92, 3) ∧ decode cL_refusesAny 493 = .ok (.aload_n 0, 1) ∧ decode cL_refusesAny 494 = .ok (.iconst 0, 1) ∧ decode cL_refusesAny 495 = .ok (.bipush 12, 2) ∧ decode cL_refusesAny 497 = .ok (.bipush 9, 2) ∧ decode cL_refusesAny 499 = .ok (.invokevirtual 23, 3) ∧ decode cL_refusesAny 502 = .ok (.iconst (-1), 1) ∧ decode cL_refusesAny 503 = .ok (.if_icmp .ne 79, 3) ∧ decode cL_refusesAny 506 = .ok (.aload_n 0, 1) ∧ decode cL_refusesAny 507 = .ok (.iload_n 1, 1) ∧ decode cL_refusesAny 508 = .ok (.iconst 2, 1) ∧ decode cL_refusesAny 509 = .ok (.irem, 1) ∧ decode cL_refusesAny 510 = .ok (.ifCond .ne 7, 3) := by decide +kernel
theorem dL_refusesAny_484 : Dc cL_refusesAny 484 (.iconst 2) 1 485 := ⟨DL_refusesAny_c17.1, rfl⟩
theorem dL_refusesAny_485 : Dc cL_refusesAny 485 (.invokevirtual 23) 3 488 := ⟨DL_refusesAny_c17.2.1, rfl⟩
theorem dL_refusesAny_488 : Dc cL_refusesAny 488 (.bipush (-2)) 2 490 := ⟨DL_refusesAny_c17.2.2.1, rfl⟩
theorem dL_refusesAny_490 : Db cL_refusesAny 490 (fun o => .if_icmp .ne o) 493 582 := ⟨92, DL_refusesAny_c17.2.2.2.1, rfl, rfl⟩
theorem dL_refusesAny_493 : Dc cL_refusesAny 493 (.aload_n 0) 1 494 := ⟨DL_refusesAny_c17.2.2.2.2.1, rfl⟩
theorem dL_refusesAny_494 : Dc cL_refusesAny 494 (.iconst 0) 1 495 := ⟨DL_refusesAny_c17.2.2.2.2.2.1, rfl⟩
theorem dL_refusesAny_495 : Dc cL_refusesAny 495 (.bipush 12) 2 497 := ⟨DL_refusesAny_c17.2.2.2.2.2.2.1, rfl⟩
theorem dL_refusesAny_497 : Dc cL_refusesAny 497 (.bipush 9) 2 499 := ⟨DL_refusesAny_c17.2.2.2.2.2.2.2.1, rfl⟩
theorem dL_refusesAny_499 : Dc cL_refusesAny 499 (.invokevirtual 23) 3 502 := ⟨DL_refusesAny_c17.2.2.2.2.2.2.2.2.1, rfl⟩
theorem dL_refusesAny_502 : Dc cL_refusesAny 502 (.iconst (-1)) 1 503 := ⟨DL_refusesAny_c17.2.2.2.2.2.2.2.2.2.1, rfl⟩
theorem dL_refusesAny_503 : Db cL_refusesAny 503 (fun o => .if_icmp .ne o) 506 582 := ⟨79, DL_refusesAny_c17.2.2.2.2.2.2.2.2.2.2.1, rfl, rfl⟩
theorem dL_refusesAny_506 : Dc cL_refusesAny 506 (.aload_n 0) 1 507 := ⟨DL_refusesAny_c17.2.2.2.2.2.2.2.2.2.2.2.1, rfl⟩
theorem dL_refusesAny_507 : Dc cL_refusesAny 507 (.iload_n 1) 1 508 := ⟨DL_refusesAny_c17.2.2.2.2.2.2.2.2.2.2.2.2.1, rfl⟩
theorem dL_refusesAny_508 : Dc cL_refusesAny 508 (.iconst 2) 1 509 := ⟨DL_refusesAny_c17.2.2.2.2.2.2.2.2.2.2.2.2.2.1, rfl⟩
theorem dL_refusesAny_509 : Dc cL_refusesAny 509 (.irem) 1 510 := ⟨DL_refusesAny_c17.2.2.2.2.2.2.2.2.2.2.2.2.2.2.1, rfl⟩
theorem dL_refusesAny_510 : Db cL_refusesAny 510 (fun o => .ifCond .ne o) 513 517 := ⟨7, DL_refusesAny_c17.2.2.2.2.2.2.2.2.2.2.2.2.2.2.2, rfl, rfl⟩
theorem DL_refusesAny_c18 : decode cL_refusesAny 513 = .ok (.iconst (-1), 1) ∧ decode cL_refusesAny 514 = .ok (.goto 4, 3) ∧ decode cL_refusesAny 517 = .ok (.iconst 2, 1) ∧ decode cL_refusesAny 518 = .ok (.invokevirtual 42, 3) ∧ decode cL_refusesAny 521 = .ok (.bipush (-2), 2) ∧ decode cL_refusesAny 523 = .ok (.if_icmp .ne 59, 3) ∧ decode cL_refusesAny 526 = .ok (.aload_n 0, 1) ∧ decode cL_refusesAny 527 = .ok (.iload_n 2, 1) ∧ decode cL_refusesAny 528 = .ok (.iconst 0, 1) ∧ decode cL_refusesAny 529 = .ok (.invokevirtual 51, 3) ∧ decode cL_refusesAny 532 = .ok (.iconst (-1), 1) ∧ decode cL_refusesAny 533 = .ok (.if_icmp .ne 49, 3) ∧ decode cL_refusesAny 536 = .ok (.aload_n 0, 1) ∧ decode cL_refusesAny 537 = .ok (.iconst 0, 1) ∧ decode cL_refusesAny 538 = .ok (.iload_n 2, 1) ∧ decode cL_refusesAny 539 = .ok (.invokevirtual 51, 3) := by decide +kernel
theorem dL_refusesAny_513 : Dc cL_refusesAny 513 (.iconst (-1)) 1 514 := ⟨DL_refusesAny_c18.1, rfl⟩
theorem dL_refusesAny_514 : Db cL_refusesAny 514 .goto 517 518 := ⟨4, DL_refusesAny_c18.2.1, rfl, rfl⟩
theorem dL_refusesAny_517 : Dc cL_refusesAny 517 (.iconst 2) 1 518 := ⟨DL_refusesAny_c18.2.2.1, rfl⟩
theorem dL_refusesAny_518 : Dc cL_refusesAny 518 (.invokevirtual 42) 3 521 := ⟨DL_refusesAny_c18.2.2.2.1, rfl⟩
theorem dL_refusesAny_521 : Dc cL_refusesAny 521 (.bipush (-2)) 2 523 := ⟨DL_refusesAny_c18.2.2.2.2.1, rfl⟩
theorem dL_refusesAny_523 : Db cL_refusesAny 523 (fun o => .if_icmp .ne o) 526 582 := ⟨59, DL_refusesAny_c18.2.2.2.2.2.1, rfl, rfl⟩
theorem dL_refusesAny_526 : Dc cL_refusesAny 526 (.aload_n 0) 1 527 := ⟨DL_refusesAny_c18.2.2.2.2.2.2.1, rfl⟩
theorem dL_refusesAny_527 : Dc cL_refusesAny 527 (.iload_n 2) 1 528 := ⟨DL_refusesAny_c18.2.2.2.2.2.2.2.1, rfl⟩
theorem dL_refusesAny_528 : Dc cL_refusesAny 528 (.iconst 0) 1 529 := ⟨DL_refusesAny_c18.2.2.2.2.2.2.2.2.1, rfl⟩
theorem dL_refusesAny_529 : Dc cL_refusesAny 529 (.invokevirtual 51) 3 532 := ⟨DL_refusesAny_c18.2.2.2.2.2.2.2.2.2.1, rfl⟩
theorem dL_refusesAny_532 : Dc cL_refusesAny 532 (.iconst (-1)) 1 533 := ⟨DL_refusesAny_c18.2.2.2.2.2.2.2.2.2.2.1, rfl⟩
theorem dL_refusesAny_533 : Db cL_refusesAny 533 (fun o => .if_icmp .ne o) 536 582 := ⟨49, DL_refusesAny_c18.2.2.2.2.2.2.2.2.2.2.2.1, rfl, rfl⟩
theorem dL_refusesAny_536 : Dc cL_refusesAny 536 (.aload_n 0) 1 537 := ⟨DL_refusesAny_c18.2.2.2.2.2.2.2.2.2.2.2.2.1, rfl⟩
theorem dL_refusesAny_537 : Dc cL_refusesAny 537 (.iconst 0) 1 538 := ⟨DL_refusesAny_c18.2.2.2.2.2.2.2.2.2.2.2.2.2.1, rfl⟩
theorem dL_refusesAny_538 : Dc cL_refusesAny 538 (.iload_n 2) 1 539 := ⟨DL_refusesAny_c18.2.2.2.2.2.2.2.2.2.2.2.2.2.2.1, rfl⟩
theorem dL_refusesAny_539 : Dc cL_refusesAny 539 (.invokevirtual 51) 3 542 := ⟨DL_refusesAny_c18.2.2.2.2.2.2.2.2.2.2.2.2.2.2.2, rfl⟩
theorem DL_refusesAny_c19 : decode cL_refusesAny 542 = .ok (.iconst (-1), 1) ∧ decode cL_refusesAny 543 = .ok (.if_icmp .ne 39, 3) ∧ decode cL_refusesAny 546 = .ok (.aload_n 0, 1) ∧ decode cL_refusesAny 547 = .ok (.iload_n 2, 1) ∧ decode cL_refusesAny 548 = .ok (.invokevirtual 45, 3) ∧ decode cL_refusesAny 551 = .ok (.iconst (-1), 1) ∧ decode cL_refusesAny 552 = .ok (.if_icmp .ne 30, 3) ∧ decode cL_refusesAny 555 = .ok (.aload_n 0, 1) ∧ decode cL_refusesAny 556 = .ok (.iload_n 2, 1) ∧ decode cL_refusesAny 557 = .ok (.iconst 0, 1) ∧ decode cL_refusesAny 558 = .ok (.bipush 9, 2) ∧ decode cL_refusesAny 560 = .ok (.invokevirtual 48, 3) ∧ decode cL_refusesAny 563 = .ok (.iconst (-1), 1) ∧ decode cL_refusesAny 564 = .ok (.if_icmp .ne 18, 3) ∧ decode cL_refusesAny 567 = .ok (.aload_n 0, 1) ∧ decode cL_refusesAny 568 = .ok (.iload_n 2, 1) := by decide +kernel
theorem dL_refusesAny_542 : Dc cL_refusesAny 542 (.iconst (-1)) 1 543 := ⟨DL_refusesAny_c19.1, rfl⟩
theorem dL_refusesAny_543 : Db cL_refusesAny 543 (fun o => .if_icmp .ne o) 546 582 := ⟨39, DL_refusesAny_c19.2.1, rfl, rfl⟩
theorem dL_refusesAny_546 : Dc cL_refusesAny 546 (.aload_n 0) 1 547 := ⟨DL_refusesAny_c19.2.2.1, rfl⟩
theorem dL_refusesAny_547 : Dc cL_refusesAny 547 (.iload_n 2) 1 548 := ⟨DL_refusesAny_c19.2.2.2.1, rfl⟩
theorem dL_refusesAny_548 : Dc cL_refusesAny 548 (.invokevirtual 45) 3 551 := ⟨DL_refusesAny_c19.2.2.2.2.1, rfl⟩
theorem dL_refusesAny_551 : Dc cL_refusesAny 551 (.iconst (-1)) 1 552 := ⟨DL_refusesAny_c19.2.2.2.2.2.1, rfl⟩
theorem dL_refusesAny_552 : Db cL_refusesAny 552 (fun o => .if_icmp .ne o) 555 582 := ⟨30, DL_refusesAny_c19.2.2.2.2.2.2.1, rfl, rfl⟩
theorem dL_refusesAny_555 : Dc cL_refusesAny 555 (.aload_n 0) 1 556 := ⟨DL_refusesAny_c19.2.2.2.2.2.2.2.1, rfl⟩
theorem dL_refusesAny_556 : Dc cL_refusesAny 556 (.iload_n 2) 1 557 := ⟨DL_refusesAny_c19.2.2.2.2.2.2.2.2.1, rfl⟩
theorem dL_refusesAny_557 : Dc cL_refusesAny 557 (.iconst 0) 1 558 := ⟨DL_refusesAny_c19.2.2.2.2.2.2.2.2.2.1, rfl⟩
theorem dL_refusesAny_558 : Dc cL_refusesAny 558 (.bipush 9) 2 560 := ⟨DL_refusesAny_c19.2.2.2.2.2.2.2.2.2.2.1, rfl⟩
theorem dL_refusesAny_560 : Dc cL_refusesAny 560 (.invokevirtual 48) 3 563 := ⟨DL_refusesAny_c19.2.2.2.2.2.2.2.2.2.2.2.1, rfl⟩
theorem dL_refusesAny_563 : Dc cL_refusesAny 563 (.iconst (-1)) 1 564 := ⟨DL_refusesAny_c19.2.2.2.2.2.2.2.2.2.2.2.2.1, rfl⟩
theorem dL_refusesAny_564 : Db cL_refusesAny 564 (fun o => .if_icmp .ne o) 567 582 := ⟨18, DL_refusesAny_c19.2.2.2.2.2.2.2.2.2.2.2.2.2.1, rfl, rfl⟩
theorem dL_refusesAny_567 : Dc cL_refusesAny 567 (.aload_n 0) 1 568 := ⟨DL_refusesAny_c19.2.2.2.2.2.2.2.2.2.2.2.2.2.2.1, rfl⟩
theorem dL_refusesAny_568 : Dc cL_refusesAny 568 (.iload_n 2) 1 569 := ⟨DL_refusesAny_c19.2.2.2.2.2.2.2.2.2.2.2.2.2.2.2, rfl⟩
theorem DL_refusesAny_c20 : decode cL_refusesAny 569 = .ok (.iconst 0, 1) ∧ decode cL_refusesAny 570 = .ok (.iconst 0, 1) ∧ decode cL_refusesAny 571 = .ok (.invokevirtual 82, 3) ∧ decode cL_refusesAny 574 = .ok (.iconst (-1), 1) ∧ decode cL_refusesAny 575 = .ok (.if_icmp .ne 7, 3) ∧ decode cL_refusesAny 578 = .ok (.iconst 1, 1) ∧ decode cL_refusesAny 579 = .ok (.goto 4, 3) ∧ decode cL_refusesAny 582 = .ok (.iconst 0, 1) ∧ decode cL_refusesAny 583 = .ok (.istore 5, 2) ∧ decode cL_refusesAny 585 = .ok (.iload 5, 2) ∧ decode cL_refusesAny 587 = .ok (.ifCond .eq 117, 3) ∧ decode cL_refusesAny 590 = .ok (.aload_n 0, 1) ∧ decode cL_refusesAny 591 = .ok (.iconst 4, 1) ∧ decode cL_refusesAny 592 = .ok (.invokevirtual 20, 3) ∧ decode cL_refusesAny 595 = .ok (.ifCond .eq 105, 3) ∧ decode cL_refusesAny 598 = .ok (.aload_n 0, 1) := by decide +kernel
theorem dL_refusesAny_569 : Dc cL_refusesAny 569 (.iconst 0) 1 570 := ⟨DL_refusesAny_c20.1, rfl⟩
theorem dL_refusesAny_570 : Dc cL_refusesAny 570 (.iconst 0) 1 571 := ⟨DL_refusesAny_c20.2.1, rfl⟩
theorem dL_refusesAny_571 : Dc cL_refusesAny 571 (.invokevirtual 82) 3 574 := ⟨DL_refusesAny_c20.2.2.1, rfl⟩
theorem dL_refusesAny_574 : Dc cL_refusesAny 574 (.iconst (-1)) 1 575 := ⟨DL_refusesAny_c20.2.2.2.1, rfl⟩
theorem dL_refusesAny_575 : Db cL_refusesAny 575 (fun o => .if_icmp .ne o) 578 582 := ⟨7, DL_refusesAny_c20.2.2.2.2.1, rfl, rfl⟩
theorem dL_refusesAny_578 : Dc cL_refusesAny 578 (.iconst 1) 1 579 := ⟨DL_refusesAny_c20.2.2.2.2.2.1, rfl⟩
theorem dL_refusesAny_579 : Db cL_refusesAny 579 .goto 582 583 := ⟨4, DL_refusesAny_c20.2.2.2.2.2.2.1, rfl, rfl⟩
theorem dL_refusesAny_582 : Dc cL_refusesAny 582 (.iconst 0) 1 583 := ⟨DL_refusesAny_c20.2.2.2.2.2.2.2.1, rfl⟩
theorem dL_refusesAny_583 : Dc cL_refusesAny 583 (.istore 5) 2 585 := ⟨DL_refusesAny_c20.2.2.2.2.2.2.2.2.1, rfl⟩
theorem dL_refusesAny_585 : Dc cL_refusesAny 585 (.iload 5) 2 587 := ⟨DL_refusesAny_c20.2.2.2.2.2.2.2.2.2.1, rfl⟩
theorem dL_refusesAny_587 : Db cL_refusesAny 587 (fun o => .ifCond .eq o) 590 704 := ⟨117, DL_refusesAny_c20.2.2.2.2.2.2.2.2.2.2.1, rfl, rfl⟩
theorem dL_refusesAny_590 : Dc cL_refusesAny 590 (.aload_n 0) 1 591 := ⟨DL_refusesAny_c20.2.2.2.2.2.2.2.2.2.2.2.1, rfl⟩
theorem dL_refusesAny_591 : Dc cL_refusesAny 591 (.iconst 4) 1 592 := ⟨DL_refusesAny_c20.2.2.2.2.2.2.2.2.2.2.2.2.1, rfl⟩
theorem dL_refusesAny_592 : Dc cL_refusesAny 592 (.invokevirtual 20) 3 595 := ⟨DL_refusesAny_c20.2.2.2.2.2.2.2.2.2.2.2.2.2.1, rfl⟩
theorem dL_refusesAny_595 : Db cL_refusesAny 595 (fun o => .ifCond .eq o) 598 700 := ⟨105, DL_refusesAny_c20.2.2.2.2.2.2.2.2.2.2.2.2.2.2.1, rfl, rfl⟩
theorem dL_refusesAny_598 : Dc cL_refusesAny 598 (.aload_n 0) 1 599 := ⟨DL_refusesAny_c20.2.2.2.2.2.2.2.2.2.2.2.2.2.2.2, rfl⟩
theorem DL_refusesAny_c21 : decode cL_refusesAny 599 = .ok (.iconst 0, 1) ∧ decode cL_refusesAny 600 = .ok (.iload_n 1, 1) ∧ decode cL_refusesAny 601 = .ok (.iconst 2, 1) ∧ decode cL_refusesAny 602 = .ok (.irem, 1) ∧ decode cL_refusesAny 603 = .ok (.ifCond .ne 7, 3) ∧ decode cL_refusesAny 606 = .ok (.iconst 0, 1) ∧ decode cL_refusesAny 607 = .ok (.goto 5, 3) ∧ decode cL_refusesAny 610 = .ok (.bipush 100, 2) ∧ decode cL_refusesAny 612 = .ok (.iconst 0, 1) ∧ decode cL_refusesAny 613 = .ok (.invokevirtual 48, 3) ∧ decode cL_refusesAny 616 = .ok (.bipush (-2), 2) ∧ decode cL_refusesAny 618 = .ok (.if_icmp .ne 86, 3) ∧ decode cL_refusesAny 621 = .ok (.aload_n 0, 1) ∧ decode cL_refusesAny 622 = .ok (.iconst 0, 1) ∧ decode cL_refusesAny 623 = .ok (.iconst 1, 1) ∧ decode cL_refusesAny 624 = .ok (.iload_n 1, 1) := by decide +kernel
theorem dL_refusesAny_599 : Dc cL_refusesAny 599 (.iconst 0) 1 600 := ⟨DL_refusesAny_c21.1, rfl⟩
theorem dL_refusesAny_600 : Dc cL_refusesAny 600 (.iload_n 1) 1 601 := ⟨DL_refusesAny_c21.2.1, rfl⟩
theorem dL_refusesAny_601 : Dc cL_refusesAny 601 (.iconst 2) 1 602 := ⟨DL_refusesAny_c21.2.2.1, rfl⟩
theorem dL_refusesAny_602 : Dc cL_refusesAny 602 (.irem) 1 603 := ⟨DL_refusesAny_c21.2.2.2.1, rfl⟩
theorem dL_refusesAny_603 : Db cL_refusesAny 603 (fun o => .ifCond .ne o) 606 610 := ⟨7, DL_refusesAny_c21.2.2.2.2.1, rfl, rfl⟩
theorem dL_refusesAny_606 : Dc cL_refusesAny 606 (.iconst 0) 1 607 := ⟨DL_refusesAny_c21.2.2.2.2.2.1, rfl⟩
theorem dL_refusesAny_607 : Db cL_refusesAny 607 .goto 610 612 := ⟨5, DL_refusesAny_c21.2.2.2.2.2.2.1, rfl, rfl⟩
theorem dL_refusesAny_610 : Dc cL_refusesAny 610 (.bipush 100) 2 612 := ⟨DL_refusesAny_c21.2.2.2.2.2.2.2.1, rfl⟩
theorem dL_refusesAny_612 : Dc cL_refusesAny 612 (.iconst 0) 1 613 := ⟨DL_refusesAny_c21.2.2.2.2.2.2.2.2.1, rfl⟩
theorem dL_refusesAny_613 : Dc cL_refusesAny 613 (.invokevirtual 48) 3 616 := ⟨DL_refusesAny_c21.2.2.2.2.2.2.2.2.2.1, rfl⟩
theorem dL_refusesAny_616 : Dc cL_refusesAny 616 (.bipush (-2)) 2 618 := ⟨DL_refusesAny_c21.2.2.2.2.2.2.2.2.2.2.1, rfl⟩
theorem dL_refusesAny_618 : Db cL_refusesAny 618 (fun o => .if_icmp .ne o) 621 704 := ⟨86, DL_refusesAny_c21.2.2.2.2.2.2.2.2.2.2.2.1, rfl, rfl⟩
theorem dL_refusesAny_621 : Dc cL_refusesAny 621 (.aload_n 0) 1 622 := ⟨DL_refusesAny_c21.2.2.2.2.2.2.2.2.2.2.2.2.1, rfl⟩
theorem dL_refusesAny_622 : Dc cL_refusesAny 622 (.iconst 0) 1 623 := ⟨DL_refusesAny_c21.2.2.2.2.2.2.2.2.2.2.2.2.2.1, rfl⟩
theorem dL_refusesAny_623 : Dc cL_refusesAny 623 (.iconst 1) 1 624 := ⟨DL_refusesAny_c21.2.2.2.2.2.2.2.2.2.2.2.2.2.2.1, rfl⟩
theorem dL_refusesAny_624 : Dc cL_refusesAny 624 (.iload_n 1) 1 625 := ⟨DL_refusesAny_c21.2.2.2.2.2.2.2.2.2.2.2.2.2.2.2, rfl⟩
theorem DL_refusesAny_c22 : decode cL_refusesAny 625 = .ok (.iconst 2, 1) ∧ decode cL_refusesAny 626 = .ok (.irem, 1) ∧ decode cL_refusesAny 627 = .ok (.ifCond .ne 7, 3) ∧ decode cL_refusesAny 630 = .ok (.iconst (-1), 1) ∧ decode cL_refusesAny 631 = .ok (.goto 4, 3) ∧ decode cL_refusesAny 634 = .ok (.iconst 5, 1) ∧ decode cL_refusesAny 635 = .ok (.invokevirtual 48, 3) ∧ decode cL_refusesAny 638 = .ok (.bipush (-2), 2) ∧ decode cL_refusesAny 640 = .ok (.if_icmp .ne 64, 3) ∧ decode cL_refusesAny 643 = .ok (.aload_n 0, 1) ∧ decode cL_refusesAny 644 = .ok (.iconst 0, 1) ∧ decode cL_refusesAny 645 = .ok (.iload_n 3, 1) ∧ decode cL_refusesAny 646 = .ok (.bipush 100, 2) ∧ decode cL_refusesAny 648 = .ok (.invokevirtual 82, 3) ∧ decode cL_refusesAny 651 = .ok (.iconst (-1), 1) ∧ decode cL_refusesAny 652 = .ok (.if_icmp .ne 52, 3) := by decide +kernel
theorem dL_refusesAny_625 : Dc cL_refusesAny 625 (.iconst 2) 1 626 := ⟨DL_refusesAny_c22.1, rfl⟩
theorem dL_refusesAny_626 : Dc cL_refusesAny 626 (.irem) 1 627 := ⟨DL_refusesAny_c22.2.1, rfl⟩
theorem dL_refusesAny_627 : Db cL_refusesAny 627 (fun o => .ifCond .ne o) 630 634 := ⟨7, DL_refusesAny_c22.2.2.1, rfl, rfl⟩
theorem dL_refusesAny_630 : Dc cL_refusesAny 630 (.iconst (-1)) 1 631 := ⟨DL_refusesAny_c22.2.2.2.1, rfl⟩
theorem dL_refusesAny_631 : Db cL_refusesAny 631 .goto 634 635 := ⟨4, DL_refusesAny_c22.2.2.2.2.1, rfl, rfl⟩
theorem dL_refusesAny_634 : Dc cL_refusesAny 634 (.iconst 5) 1 635 := ⟨DL_refusesAny_c22.2.2.2.2.2.1, rfl⟩
theorem dL_refusesAny_635 : Dc cL_refusesAny 635 (.invokevirtual 48) 3 638 := ⟨DL_refusesAny_c22.2.2.2.2.2.2.1, rfl⟩
theorem dL_refusesAny_638 : Dc cL_refusesAny 638 (.bipush (-2)) 2 640 := ⟨DL_refusesAny_c22.2.2.2.2.2.2.2.1, rfl⟩
theorem dL_refusesAny_640 : Db cL_refusesAny 640 (fun o => .if_icmp .ne o) 643 704 := ⟨64, DL_refusesAny_c22.2.2.2.2.2.2.2.2.1, rfl, rfl⟩
theorem dL_refusesAny_643 : Dc cL_refusesAny 643 (.aload_n 0) 1 644 := ⟨DL_refusesAny_c22.2.2.2.2.2.2.2.2.2.1, rfl⟩
theorem dL_refusesAny_644 : Dc cL_refusesAny 644 (.iconst 0) 1 645 := ⟨DL_refusesAny_c22.2.2.2.2.2.2.2.2.2.2.1, rfl⟩
theorem dL_refusesAny_645 : Dc cL_refusesAny 645 (.iload_n 3) 1 646 := ⟨DL_refusesAny_c22.2.2.2.2.2.2.2.2.2.2.2.1, rfl⟩
theorem dL_refusesAny_646 : Dc cL_refusesAny 646 (.bipush 100) 2 648 := ⟨DL_refusesAny_c22.2.2.2.2.2.2.2.2.2.2.2.2.1, rfl⟩
theorem dL_refusesAny_648 : Dc cL_refusesAny 648 (.invokevirtual 82) 3 651 := ⟨DL_refusesAny_c22.2.2.2.2.2.2.2.2.2.2.2.2.2.1, rfl⟩
theorem dL_refusesAny_651 : Dc cL_refusesAny 651 (.iconst (-1)) 1 652 := ⟨DL_refusesAny_c22.2.2.2.2.2.2.2.2.2.2.2.2.2.2.1, rfl⟩
theorem dL_refusesAny_652 : Db cL_refusesAny 652 (fun o => .if_icmp .ne o) 655 704 := ⟨52, DL_refusesAny_c22.2.2.2.2.2.2.2.2.2.2.2.2.2.2.2, rfl, rfl⟩
theorem DL_refusesAny_c23 : decode cL_refusesAny 655 = .ok (.aload_n 0, 1) ∧ decode cL_refusesAny 656 = .ok (.iconst 0, 1) ∧ decode cL_refusesAny 657 = .ok (.iconst 0, 1) ∧ decode cL_refusesAny 658 = .ok (.iload_n 1, 1) ∧ decode cL_refusesAny 659 = .ok (.iconst 2, 1) ∧ decode cL_refusesAny 660 = .ok (.irem, 1) ∧ decode cL_refusesAny 661 = .ok (.ifCond .ne 7, 3) ∧ decode cL_refusesAny 664 = .ok (.iconst (-1), 1) ∧ decode cL_refusesAny 665 = .ok (.goto 5, 3) ∧ decode cL_refusesAny 668 = .ok (.bipush 100, 2) ∧ decode cL_refusesAny 670 = .ok (.invokevirtual 82, 3) ∧ decode cL_refusesAny 673 = .ok (.bipush (-2), 2) ∧ decode cL_refusesAny 675 = .ok (.if_icmp .ne 29, 3) ∧ decode cL_refusesAny 678 = .ok (.aload_n 0, 1) ∧ decode cL_refusesAny 679 = .ok (.iconst 0, 1) ∧ decode cL_refusesAny 680 = .ok (.iconst 0, 1) := by decide +kernel
theorem dL_refusesAny_655 : Dc cL_refusesAny 655 (.aload_n 0) 1 656 := ⟨DL_refusesAny_c23.1, rfl⟩
theorem dL_refusesAny_656 : Dc cL_refusesAny 656 (.iconst 0) 1 657 := ⟨DL_refusesAny_c23.2.1, rfl⟩
theorem dL_refusesAny_657 : Dc cL_refusesAny 657 (.iconst 0) 1 658 := ⟨DL_refusesAny_c23.2.2.1, rfl⟩
theorem dL_refusesAny_658 : Dc cL_refusesAny 658 (.iload_n 1) 1 659 := ⟨DL_refusesAny_c23.2.2.2.1, rfl⟩
theorem dL_refusesAny_659 : Dc cL_refusesAny 659 (.iconst 2) 1 660 := ⟨DL_refusesAny_c23.2.2.2.2.1, rfl⟩
theorem dL_refusesAny_660 : Dc cL_refusesAny 660 (.irem) 1 661 := ⟨DL_refusesAny_c23.2.2.2.2.2.1, rfl⟩
theorem dL_refusesAny_661 : Db cL_refusesAny 661 (fun o => .ifCond .ne o) 664 668 := ⟨7, DL_refusesAny_c23.2.2.2.2.2.2.1, rfl, rfl⟩
theorem dL_refusesAny_664 : Dc cL_refusesAny 664 (.iconst (-1)) 1 665 := ⟨DL_refusesAny_c23.2.2.2.2.2.2.2.1, rfl⟩
theorem dL_refusesAny_665 : Db cL_refusesAny 665 .goto 668 670 := ⟨5, DL_refusesAny_c23.2.2.2.2.2.2.2.2.1, rfl, rfl⟩
theorem dL_refusesAny_668 : Dc cL_refusesAny 668 (.bipush 100) 2 670 := ⟨DL_refusesAny_c23.2.2.2.2.2.2.2.2.2.1, rfl⟩
theorem dL_refusesAny_670 : Dc cL_refusesAny 670 (.invokevirtual 82) 3 673 := ⟨DL_refusesAny_c23.2.2.2.2.2.2.2.2.2.2.1, rfl⟩
theorem dL_refusesAny_673 : Dc cL_refusesAny 673 (.bipush (-2)) 2 675 := ⟨DL_refusesAny_c23.2.2.2.2.2.2.2.2.2.2.2.1, rfl⟩
theorem dL_refusesAny_675 : Db cL_refusesAny 675 (fun o => .if_icmp .ne o) 678 704 := ⟨29, DL_refusesAny_c23.2.2.2.2.2.2.2.2.2.2.2.2.1, rfl, rfl⟩
theorem dL_refusesAny_678 : Dc cL_refusesAny 678 (.aload_n 0) 1 679 := ⟨DL_refusesAny_c23.2.2.2.2.2.2.2.2.2.2.2.2.2.1, rfl⟩
theorem dL_refusesAny_679 : Dc cL_refusesAny 679 (.iconst 0) 1 680 := ⟨DL_refusesAny_c23.2.2.2.2.2.2.2.2.2.2.2.2.2.2.1, rfl⟩
theorem dL_refusesAny_680 : Dc cL_refusesAny 680 (.iconst 0) 1 681 := ⟨DL_refusesAny_c23.2.2.2.2.2.2.2.2.2.2.2.2.2.2.2, rfl⟩
theorem DL_refusesAny_c24 : decode cL_refusesAny 681 = .ok (.iload_n 1, 1) ∧ decode cL_refusesAny 682 = .ok (.iconst 2, 1) ∧ decode cL_refusesAny 683 = .ok (.irem, 1) ∧ decode cL_refusesAny 684 = .ok (.ifCond .ne 7, 3) ∧ decode cL_refusesAny 687 = .ok (.iconst (-1), 1) ∧ decode cL_refusesAny 688 = .ok (.goto 4, 3) ∧ decode cL_refusesAny 691 = .ok (.iconst 4, 1) ∧ decode cL_refusesAny 692 = .ok (.invokevirtual 31, 3) ∧ decode cL_refusesAny 695 = .ok (.bipush (-2), 2) ∧ decode cL_refusesAny 697 = .ok (.if_icmp .ne 7, 3) ∧ decode cL_refusesAny 700 = .ok (.iconst 1, 1) ∧ decode cL_refusesAny 701 = .ok (.goto 4, 3) ∧ decode cL_refusesAny 704 = .ok (.iconst 0, 1) ∧ decode cL_refusesAny 705 = .ok (.istore 5, 2) ∧ decode cL_refusesAny 707 = .ok (.iload 5, 2) ∧ decode cL_refusesAny 709 = .ok (.ifCond .eq 23, 3) := by decide +kernel
theorem dL_refusesAny_681 : Dc cL_refusesAny 681 (.iload_n 1) 1 682 := ⟨DL_refusesAny_c24.1, rfl⟩
theorem dL_refusesAny_682 : Dc cL_refusesAny 682 (.iconst 2) 1 683 := ⟨DL_refusesAny_c24.2.1, rfl⟩
theorem dL_refusesAny_683 : Dc cL_refusesAny 683 (.irem) 1 684 := ⟨DL_refusesAny_c24.2.2.1, rfl⟩
theorem dL_refusesAny_684 : Db cL_refusesAny 684 (fun o => .ifCond .ne o) 687 691 := ⟨7, DL_refusesAny_c24.2.2.2.1, rfl, rfl⟩
theorem dL_refusesAny_687 : Dc cL_refusesAny 687 (.iconst (-1)) 1 688 := ⟨DL_refusesAny_c24.2.2.2.2.1, rfl⟩
theorem dL_refusesAny_688 : Db cL_refusesAny 688 .goto 691 692 := ⟨4, DL_refusesAny_c24.2.2.2.2.2.1, rfl, rfl⟩
theorem dL_refusesAny_691 : Dc cL_refusesAny 691 (.iconst 4) 1 692 := ⟨DL_refusesAny_c24.2.2.2.2.2.2.1, rfl⟩
theorem dL_refusesAny_692 : Dc cL_refusesAny 692 (.invokevirtual 31) 3 695 := ⟨DL_refusesAny_c24.2.2.2.2.2.2.2.1, rfl⟩
theorem dL_refusesAny_695 : Dc cL_refusesAny 695 (.bipush (-2)) 2 697 := ⟨DL_refusesAny_c24.2.2.2.2.2.2.2.2.1, rfl⟩
theorem dL_refusesAny_697 : Db cL_refusesAny 697 (fun o => .if_icmp .ne o) 700 704 := ⟨7, DL_refusesAny_c24.2.2.2.2.2.2.2.2.2.1, rfl, rfl⟩
theorem dL_refusesAny_700 : Dc cL_refusesAny 700 (.iconst 1) 1 701 := ⟨DL_refusesAny_c24.2.2.2.2.2.2.2.2.2.2.1, rfl⟩
theorem dL_refusesAny_701 : Db cL_refusesAny 701 .goto 704 705 := ⟨4, DL_refusesAny_c24.2.2.2.2.2.2.2.2.2.2.2.1, rfl, rfl⟩
theorem dL_refusesAny_704 : Dc cL_refusesAny 704 (.iconst 0) 1 705 := ⟨DL_refusesAny_c24.2.2.2.2.2.2.2.2.2.2.2.2.1, rfl⟩
theorem dL_refusesAny_705 : Dc cL_refusesAny 705 (.istore 5) 2 707 := ⟨DL_refusesAny_c24.2.2.2.2.2.2.2.2.2.2.2.2.2.1, rfl⟩
theorem dL_refusesAny_707 : Dc cL_refusesAny 707 (.iload 5) 2 709 := ⟨DL_refusesAny_c24.2.2.2.2.2.2.2.2.2.2.2.2.2.2.1, rfl⟩
theorem dL_refusesAny_709 : Db cL_refusesAny 709 (fun o => .ifCond .eq o) 712 732 := ⟨23, DL_refusesAny_c24.2.2.2.2.2.2.2.2.2.2.2.2.2.2.2, rfl, rfl⟩
theorem DL_refusesAny_c25 : decode cL_refusesAny 712 = .ok (.aload_n 0, 1) ∧ decode cL_refusesAny 713 = .ok (.invokevirtual 85, 3) ∧ decode cL_refusesAny 716 = .ok (.ifCond .ne 16, 3) ∧ decode cL_refusesAny 719 = .ok (.aload_n 0, 1) ∧ decode cL_refusesAny 720 = .ok (.invokevirtual 88, 3) ∧ decode cL_refusesAny 723 = .ok (.bipush (-100), 2) ∧ decode cL_refusesAny 725 = .ok (.if_icmp .ne 7, 3) ∧ decode cL_refusesAny 728 = .ok (.iconst 1, 1) ∧ decode cL_refusesAny 729 = .ok (.goto 4, 3) ∧ decode cL_refusesAny 732 = .ok (.iconst 0, 1) ∧ decode cL_refusesAny 733 = .ok (.ireturn, 1) := by decide +kernel
theorem dL_refusesAny_712 : Dc cL_refusesAny 712 (.aload_n 0) 1 713 := ⟨DL_refusesAny_c25.1, rfl⟩
theorem dL_refusesAny_713 : Dc cL_refusesAny 713 (.invokevirtual 85) 3 716 := ⟨DL_refusesAny_c25.2.1, rfl⟩
theorem dL_refusesAny_716 : Db cL_refusesAny 716 (fun o => .ifCond .ne o) 719 732 := ⟨16, DL_refusesAny_c25.2.2.1, rfl, rfl⟩
theorem dL_refusesAny_719 : Dc cL_refusesAny 719 (.aload_n 0) 1 720 := ⟨DL_refusesAny_c25.2.2.2.1, rfl⟩
theorem dL_refusesAny_720 : Dc cL_refusesAny 720 (.invokevirtual 88) 3 723 := ⟨DL_refusesAny_c25.2.2.2.2.1, rfl⟩
theorem dL_refusesAny_723 : Dc cL_refusesAny 723 (.bipush (-100)) 2 725 := ⟨DL_refusesAny_c25.2.2.2.2.2.1, rfl⟩
theorem dL_refusesAny_725 : Db cL_refusesAny 725 (fun o => .if_icmp .ne o) 728 732 := ⟨7, DL_refusesAny_c25.2.2.2.2.2.2.1, rfl, rfl⟩
theorem dL_refusesAny_728 : Dc cL_refusesAny 728 (.iconst 1) 1 729 := ⟨DL_refusesAny_c25.2.2.2.2.2.2.2.1, rfl⟩
theorem dL_refusesAny_729 : Db cL_refusesAny 729 .goto 732 733 := ⟨4, DL_refusesAny_c25.2.2.2.2.2.2.2.2.1, rfl, rfl⟩
theorem dL_refusesAny_732 : Dc cL_refusesAny 732 (.iconst 0) 1 733 := ⟨DL_refusesAny_c25.2.2.2.2.2.2.2.2.2.1, rfl⟩
theorem dL_refusesAny_733 : Dc cL_refusesAny 733 (.ireturn) 1 734 := ⟨DL_refusesAny_c25.2.2.2.2.2.2.2.2.2.2, rfl⟩
theorem DL_refuses_c0 : decode cL_refuses 0 = .ok (.aload_n 0, 1) ∧ decode cL_refuses 1 = .ok (.invokestatic 91, 3) ∧ decode cL_refuses 4 = .ok (.lstore_n 2, 1) ∧ decode cL_refuses 5 = .ok (.aload_n 0, 1) ∧ decode cL_refuses 6 = .ok (.bipush 10, 2) ∧ decode cL_refuses 8 = .ok (.invokevirtual 20, 3) ∧ decode cL_refuses 11 = .ok (.istore 4, 2) ∧ decode cL_refuses 13 = .ok (.aload_n 0, 1) ∧ decode cL_refuses 14 = .ok (.iload_n 1, 1) ∧ decode cL_refuses 15 = .ok (.invokestatic 95, 3) ∧ decode cL_refuses 18 = .ok (.ifCond .eq 27, 3) ∧ decode cL_refuses 21 = .ok (.aload_n 0, 1) ∧ decode cL_refuses 22 = .ok (.invokestatic 91, 3) ∧ decode cL_refuses 25 = .ok (.lload_n 2, 1) ∧ decode cL_refuses 26 = .ok (.lcmp, 1) ∧ decode cL_refuses 27 = .ok (.ifCond .ne 18, 3) := by decide +kernel
theorem dL_refuses_0 : Dc cL_refuses 0 (.aload_n 0) 1 1 := ⟨DL_refuses_c0.1, rfl⟩
theorem dL_refuses_1 : Dc cL_refuses 1 (.invokestatic 91) 3 4 := ⟨DL_refuses_c0.2.1, rfl⟩
theorem dL_refuses_4 : Dc cL_refuses 4 (.lstore_n 2) 1 5 := ⟨DL_refuses_c0.2.2.1, rfl⟩
theorem dL_refuses_5 : Dc cL_refuses 5 (.aload_n 0) 1 6 := ⟨DL_refuses_c0.2.2.2.1, rfl⟩
theorem dL_refuses_6 : Dc cL_refuses 6 (.bipush 10) 2 8 := ⟨DL_refuses_c0.2.2.2.2.1, rfl⟩
theorem dL_refuses_8 : Dc cL_refuses 8 (.invokevirtual 20) 3 11 := ⟨DL_refuses_c0.2.2.2.2.2.1, rfl⟩
theorem dL_refuses_11 : Dc cL_refuses 11 (.istore 4) 2 13 := ⟨DL_refuses_c0.2.2.2.2.2.2.1, rfl⟩
theorem dL_refuses_13 : Dc cL_refuses 13 (.aload_n 0) 1 14 := ⟨DL_refuses_c0.2.2.2.2.2.2.2.1, rfl⟩
theorem dL_refuses_14 : Dc cL_refuses 14 (.iload_n 1) 1 15 := ⟨DL_refuses_c0.2.2.2.2.2.2.2.2.1, rfl⟩
theorem dL_refuses_15 : Dc cL_refuses 15 (.invokestatic 95) 3 18 := ⟨DL_refuses_c0.2.2.2.2.2.2.2.2.2.1, rfl⟩
theorem dL_refuses_18 : Db cL_refuses 18 (fun o => .ifCond .eq o) 21 45 := ⟨27, DL_refuses_c0.2.2.2.2.2.2.2.2.2.2.1, rfl, rfl⟩
theorem dL_refuses_21 : Dc cL_refuses 21 (.aload_n 0) 1 22 := ⟨DL_refuses_c0.2.2.2.2.2.2.2.2.2.2.2.1, rfl⟩
theorem dL_refuses_22 : Dc cL_refuses 22 (.invokestatic 91) 3 25 := ⟨DL_refuses_c0.2.2.2.2.2.2.2.2.2.2.2.2.1, rfl⟩
theorem dL_refuses_25 : Dc cL_refuses 25 (.lload_n 2) 1 26 := ⟨DL_refuses_c0.2.2.2.2.2.2.2.2.2.2.2.2.2.1, rfl⟩
theorem dL_refuses_26 : Dc cL_refuses 26 (.lcmp) 1 27 := ⟨DL_refuses_c0.2.2.2.2.2.2.2.2.2.2.2.2.2.2.1, rfl⟩
theorem dL_refuses_27 : Db cL_refuses 27 (fun o => .ifCond .ne o) 30 45 := ⟨18, DL_refuses_c0.2.2.2.2.2.2.2.2.2.2.2.2.2.2.2, rfl, rfl⟩
theorem DL_refuses_c1 : decode cL_refuses 30 = .ok (.aload_n 0, 1) ∧ decode cL_refuses 31 = .ok (.bipush 10, 2) ∧ decode cL_refuses 33 = .ok (.invokevirtual 20, 3) ∧ decode cL_refuses 36 = .ok (.iload 4, 2) ∧ decode cL_refuses 38 = .ok (.if_icmp .ne 7, 3) ∧ decode cL_refuses 41 = .ok (.iconst 1, 1) ∧ decode cL_refuses 42 = .ok (.goto 4, 3) ∧ decode cL_refuses 45 = .ok (.iconst 0, 1) ∧ decode cL_refuses 46 = .ok (.ireturn, 1) := by decide +kernel
theorem dL_refuses_30 : Dc cL_refuses 30 (.aload_n 0) 1 31 := ⟨DL_refuses_c1.1, rfl⟩
theorem dL_refuses_31 : Dc cL_refuses 31 (.bipush 10) 2 33 := ⟨DL_refuses_c1.2.1, rfl⟩
theorem dL_refuses_33 : Dc cL_refuses 33 (.invokevirtual 20) 3 36 := ⟨DL_refuses_c1.2.2.1, rfl⟩
theorem dL_refuses_36 : Dc cL_refuses 36 (.iload 4) 2 38 := ⟨DL_refuses_c1.2.2.2.1, rfl⟩
theorem dL_refuses_38 : Db cL_refuses 38 (fun o => .if_icmp .ne o) 41 45 := ⟨7, DL_refuses_c1.2.2.2.2.1, rfl, rfl⟩
theorem dL_refuses_41 : Dc cL_refuses 41 (.iconst 1) 1 42 := ⟨DL_refuses_c1.2.2.2.2.2.1, rfl⟩
theorem dL_refuses_42 : Db cL_refuses 42 .goto 45 46 := ⟨4, DL_refuses_c1.2.2.2.2.2.2.1, rfl, rfl⟩
theorem dL_refuses_45 : Dc cL_refuses 45 (.iconst 0) 1 46 := ⟨DL_refuses_c1.2.2.2.2.2.2.2.1, rfl⟩
theorem dL_refuses_46 : Dc cL_refuses 46 (.ireturn) 1 47 := ⟨DL_refuses_c1.2.2.2.2.2.2.2.2, rfl⟩
theorem DL_step_c0 : decode cL_step 0 = .ok (.aload_n 0, 1) ∧ decode cL_step 1 = .ok (.iconst 0, 1) ∧ decode cL_step 2 = .ok (.invokevirtual 20, 3) ∧ decode cL_step 5 = .ok (.istore_n 3, 1) ∧ decode cL_step 6 = .ok (.aload_n 0, 1) ∧ decode cL_step 7 = .ok (.iload_n 3, 1) ∧ decode cL_step 8 = .ok (.invokevirtual 14, 3) ∧ decode cL_step 11 = .ok (.istore 4, 2) ∧ decode cL_step 13 = .ok (.iload_n 2, 1) ∧ decode cL_step 14 = .ok (.bipush 30, 2) ∧ decode cL_step 16 = .ok (.if_icmp .ge 11, 3) ∧ decode cL_step 19 = .ok (.aload_n 0, 1) ∧ decode cL_step 20 = .ok (.iload_n 2, 1) ∧ decode cL_step 21 = .ok (.invokevirtual 14, 3) ∧ decode cL_step 24 = .ok (.goto 4, 3) ∧ decode cL_step 27 = .ok (.iconst 0, 1) := by decide +kernel
theorem dL_step_0 : Dc cL_step 0 (.aload_n 0) 1 1 := ⟨DL_step_c0.1, rfl⟩
theorem dL_step_1 : Dc cL_step 1 (.iconst 0) 1 2 := ⟨DL_step_c0.2.1, rfl⟩
theorem dL_step_2 : Dc cL_step 2 (.invokevirtual 20) 3 5 := ⟨DL_step_c0.2.2.1, rfl⟩
theorem dL_step_5 : Dc cL_step 5 (.istore_n 3) 1 6 := ⟨DL_step_c0.2.2.2.1, rfl⟩
theorem dL_step_6 : Dc cL_step 6 (.aload_n 0) 1 7 := ⟨DL_step_c0.2.2.2.2.1, rfl⟩
theorem dL_step_7 : Dc cL_step 7 (.iload_n 3) 1 8 := ⟨DL_step_c0.2.2.2.2.2.1, rfl⟩
theorem dL_step_8 : Dc cL_step 8 (.invokevirtual 14) 3 11 := ⟨DL_step_c0.2.2.2.2.2.2.1, rfl⟩
theorem dL_step_11 : Dc cL_step 11 (.istore 4) 2 13 := ⟨DL_step_c0.2.2.2.2.2.2.2.1, rfl⟩
theorem dL_step_13 : Dc cL_step 13 (.iload_n 2) 1 14 := ⟨DL_step_c0.2.2.2.2.2.2.2.2.1, rfl⟩
theorem dL_step_14 : Dc cL_step 14 (.bipush 30) 2 16 := ⟨DL_step_c0.2.2.2.2.2.2.2.2.2.1, rfl⟩
theorem dL_step_16 : Db cL_step 16 (fun o => .if_icmp .ge o) 19 27 := ⟨11, DL_step_c0.2.2.2.2.2.2.2.2.2.2.1, rfl, rfl⟩
theorem dL_step_19 : Dc cL_step 19 (.aload_n 0) 1 20 := ⟨DL_step_c0.2.2.2.2.2.2.2.2.2.2.2.1, rfl⟩
theorem dL_step_20 : Dc cL_step 20 (.iload_n 2) 1 21 := ⟨DL_step_c0.2.2.2.2.2.2.2.2.2.2.2.2.1, rfl⟩
theorem dL_step_21 : Dc cL_step 21 (.invokevirtual 14) 3 24 := ⟨DL_step_c0.2.2.2.2.2.2.2.2.2.2.2.2.2.1, rfl⟩
theorem dL_step_24 : Db cL_step 24 .goto 27 28 := ⟨4, DL_step_c0.2.2.2.2.2.2.2.2.2.2.2.2.2.2.1, rfl, rfl⟩
theorem dL_step_27 : Dc cL_step 27 (.iconst 0) 1 28 := ⟨DL_step_c0.2.2.2.2.2.2.2.2.2.2.2.2.2.2.2, rfl⟩
theorem DL_step_c1 : decode cL_step 28 = .ok (.istore 5, 2) ∧ decode cL_step 30 = .ok (.aload_n 0, 1) ∧ decode cL_step 31 = .ok (.iconst 3, 1) ∧ decode cL_step 32 = .ok (.invokevirtual 20, 3) ∧ decode cL_step 35 = .ok (.istore 6, 2) ∧ decode cL_step 37 = .ok (.aload_n 0, 1) ∧ decode cL_step 38 = .ok (.iconst 5, 1) ∧ decode cL_step 39 = .ok (.invokevirtual 20, 3) ∧ decode cL_step 42 = .ok (.istore 7, 2) ∧ decode cL_step 44 = .ok (.aload_n 0, 1) ∧ decode cL_step 45 = .ok (.bipush 6, 2) ∧ decode cL_step 47 = .ok (.invokevirtual 20, 3) ∧ decode cL_step 50 = .ok (.istore 8, 2) ∧ decode cL_step 52 = .ok (.aload_n 0, 1) ∧ decode cL_step 53 = .ok (.iload_n 1, 1) ∧ decode cL_step 54 = .ok (.iload_n 2, 1) := by decide +kernel
theorem dL_step_28 : Dc cL_step 28 (.istore 5) 2 30 := ⟨DL_step_c1.1, rfl⟩
theorem dL_step_30 : Dc cL_step 30 (.aload_n 0) 1 31 := ⟨DL_step_c1.2.1, rfl⟩
theorem dL_step_31 : Dc cL_step 31 (.iconst 3) 1 32 := ⟨DL_step_c1.2.2.1, rfl⟩
theorem dL_step_32 : Dc cL_step 32 (.invokevirtual 20) 3 35 := ⟨DL_step_c1.2.2.2.1, rfl⟩
theorem dL_step_35 : Dc cL_step 35 (.istore 6) 2 37 := ⟨DL_step_c1.2.2.2.2.1, rfl⟩
theorem dL_step_37 : Dc cL_step 37 (.aload_n 0) 1 38 := ⟨DL_step_c1.2.2.2.2.2.1, rfl⟩
theorem dL_step_38 : Dc cL_step 38 (.iconst 5) 1 39 := ⟨DL_step_c1.2.2.2.2.2.2.1, rfl⟩
theorem dL_step_39 : Dc cL_step 39 (.invokevirtual 20) 3 42 := ⟨DL_step_c1.2.2.2.2.2.2.2.1, rfl⟩
theorem dL_step_42 : Dc cL_step 42 (.istore 7) 2 44 := ⟨DL_step_c1.2.2.2.2.2.2.2.2.1, rfl⟩
theorem dL_step_44 : Dc cL_step 44 (.aload_n 0) 1 45 := ⟨DL_step_c1.2.2.2.2.2.2.2.2.2.1, rfl⟩
theorem dL_step_45 : Dc cL_step 45 (.bipush 6) 2 47 := ⟨DL_step_c1.2.2.2.2.2.2.2.2.2.2.1, rfl⟩
theorem dL_step_47 : Dc cL_step 47 (.invokevirtual 20) 3 50 := ⟨DL_step_c1.2.2.2.2.2.2.2.2.2.2.2.1, rfl⟩
theorem dL_step_50 : Dc cL_step 50 (.istore 8) 2 52 := ⟨DL_step_c1.2.2.2.2.2.2.2.2.2.2.2.2.1, rfl⟩
theorem dL_step_52 : Dc cL_step 52 (.aload_n 0) 1 53 := ⟨DL_step_c1.2.2.2.2.2.2.2.2.2.2.2.2.2.1, rfl⟩
theorem dL_step_53 : Dc cL_step 53 (.iload_n 1) 1 54 := ⟨DL_step_c1.2.2.2.2.2.2.2.2.2.2.2.2.2.2.1, rfl⟩
theorem dL_step_54 : Dc cL_step 54 (.iload_n 2) 1 55 := ⟨DL_step_c1.2.2.2.2.2.2.2.2.2.2.2.2.2.2.2, rfl⟩
theorem DL_step_c2 : decode cL_step 55 = .ok (.invokevirtual 54, 3) ∧ decode cL_step 58 = .ok (.istore 9, 2) ∧ decode cL_step 60 = .ok (.iload 6, 2) ∧ decode cL_step 62 = .ok (.bipush 12, 2) ∧ decode cL_step 64 = .ok (.if_icmp .ne 18, 3) ∧ decode cL_step 67 = .ok (.iload 9, 2) ∧ decode cL_step 69 = .ok (.bipush (-3), 2) ∧ decode cL_step 71 = .ok (.if_icmp .ne 8, 3) ∧ decode cL_step 74 = .ok (.iload 9, 2) ∧ decode cL_step 76 = .ok (.goto 5, 3) ∧ decode cL_step 79 = .ok (.bipush (-9), 2) ∧ decode cL_step 81 = .ok (.ireturn, 1) ∧ decode cL_step 82 = .ok (.iload_n 1, 1) ∧ decode cL_step 83 = .ok (.iconst 5, 1) ∧ decode cL_step 84 = .ok (.if_icmp .ne 13, 3) ∧ decode cL_step 87 = .ok (.iload 4, 2) := by decide +kernel
theorem dL_step_55 : Dc cL_step 55 (.invokevirtual 54) 3 58 := ⟨DL_step_c2.1, rfl⟩
theorem dL_step_58 : Dc cL_step 58 (.istore 9) 2 60 := ⟨DL_step_c2.2.1, rfl⟩
theorem dL_step_60 : Dc cL_step 60 (.iload 6) 2 62 := ⟨DL_step_c2.2.2.1, rfl⟩
theorem dL_step_62 : Dc cL_step 62 (.bipush 12) 2 64 := ⟨DL_step_c2.2.2.2.1, rfl⟩
theorem dL_step_64 : Db cL_step 64 (fun o => .if_icmp .ne o) 67 82 := ⟨18, DL_step_c2.2.2.2.2.1, rfl, rfl⟩
theorem dL_step_67 : Dc cL_step 67 (.iload 9) 2 69 := ⟨DL_step_c2.2.2.2.2.2.1, rfl⟩
theorem dL_step_69 : Dc cL_step 69 (.bipush (-3)) 2 71 := ⟨DL_step_c2.2.2.2.2.2.2.1, rfl⟩
theorem dL_step_71 : Db cL_step 71 (fun o => .if_icmp .ne o) 74 79 := ⟨8, DL_step_c2.2.2.2.2.2.2.2.1, rfl, rfl⟩
theorem dL_step_74 : Dc cL_step 74 (.iload 9) 2 76 := ⟨DL_step_c2.2.2.2.2.2.2.2.2.1, rfl⟩
theorem dL_step_76 : Db cL_step 76 .goto 79 81 := ⟨5, DL_step_c2.2.2.2.2.2.2.2.2.2.1, rfl, rfl⟩
theorem dL_step_79 : Dc cL_step 79 (.bipush (-9)) 2 81 := ⟨DL_step_c2.2.2.2.2.2.2.2.2.2.2.1, rfl⟩
theorem dL_step_81 : Dc cL_step 81 (.ireturn) 1 82 := ⟨DL_step_c2.2.2.2.2.2.2.2.2.2.2.2.1, rfl⟩
theorem dL_step_82 : Dc cL_step 82 (.iload_n 1) 1 83 := ⟨DL_step_c2.2.2.2.2.2.2.2.2.2.2.2.2.1, rfl⟩
theorem dL_step_83 : Dc cL_step 83 (.iconst 5) 1 84 := ⟨DL_step_c2.2.2.2.2.2.2.2.2.2.2.2.2.2.1, rfl⟩
theorem dL_step_84 : Db cL_step 84 (fun o => .if_icmp .ne o) 87 97 := ⟨13, DL_step_c2.2.2.2.2.2.2.2.2.2.2.2.2.2.2.1, rfl, rfl⟩
theorem dL_step_87 : Dc cL_step 87 (.iload 4) 2 89 := ⟨DL_step_c2.2.2.2.2.2.2.2.2.2.2.2.2.2.2.2, rfl⟩
theorem DL_step_c3 : decode cL_step 89 = .ok (.iload_n 2, 1) ∧ decode cL_step 90 = .ok (.if_icmp .le 7, 3) ∧ decode cL_step 93 = .ok (.iconst 1, 1) ∧ decode cL_step 94 = .ok (.goto 4, 3) ∧ decode cL_step 97 = .ok (.iconst 0, 1) ∧ decode cL_step 98 = .ok (.istore 10, 2) ∧ decode cL_step 100 = .ok (.iload_n 1, 1) ∧ decode cL_step 101 = .ok (.ifCond .ne 8, 3) ∧ decode cL_step 104 = .ok (.iload 5, 2) ∧ decode cL_step 106 = .ok (.goto 39, 3) ∧ decode cL_step 109 = .ok (.iload_n 1, 1) ∧ decode cL_step 110 = .ok (.iconst 1, 1) ∧ decode cL_step 111 = .ok (.if_icmp .ne 7, 3) ∧ decode cL_step 114 = .ok (.iload_n 2, 1) ∧ decode cL_step 115 = .ok (.goto 30, 3) ∧ decode cL_step 118 = .ok (.iload_n 1, 1) := by decide +kernel
theorem dL_step_89 : Dc cL_step 89 (.iload_n 2) 1 90 := ⟨DL_step_c3.1, rfl⟩
theorem dL_step_90 : Db cL_step 90 (fun o => .if_icmp .le o) 93 97 := ⟨7, DL_step_c3.2.1, rfl, rfl⟩
theorem dL_step_93 : Dc cL_step 93 (.iconst 1) 1 94 := ⟨DL_step_c3.2.2.1, rfl⟩
theorem dL_step_94 : Db cL_step 94 .goto 97 98 := ⟨4, DL_step_c3.2.2.2.1, rfl, rfl⟩
theorem dL_step_97 : Dc cL_step 97 (.iconst 0) 1 98 := ⟨DL_step_c3.2.2.2.2.1, rfl⟩
theorem dL_step_98 : Dc cL_step 98 (.istore 10) 2 100 := ⟨DL_step_c3.2.2.2.2.2.1, rfl⟩
theorem dL_step_100 : Dc cL_step 100 (.iload_n 1) 1 101 := ⟨DL_step_c3.2.2.2.2.2.2.1, rfl⟩
theorem dL_step_101 : Db cL_step 101 (fun o => .ifCond .ne o) 104 109 := ⟨8, DL_step_c3.2.2.2.2.2.2.2.1, rfl, rfl⟩
theorem dL_step_104 : Dc cL_step 104 (.iload 5) 2 106 := ⟨DL_step_c3.2.2.2.2.2.2.2.2.1, rfl⟩
theorem dL_step_106 : Db cL_step 106 .goto 109 145 := ⟨39, DL_step_c3.2.2.2.2.2.2.2.2.2.1, rfl, rfl⟩
theorem dL_step_109 : Dc cL_step 109 (.iload_n 1) 1 110 := ⟨DL_step_c3.2.2.2.2.2.2.2.2.2.2.1, rfl⟩
theorem dL_step_110 : Dc cL_step 110 (.iconst 1) 1 111 := ⟨DL_step_c3.2.2.2.2.2.2.2.2.2.2.2.1, rfl⟩
theorem dL_step_111 : Db cL_step 111 (fun o => .if_icmp .ne o) 114 118 := ⟨7, DL_step_c3.2.2.2.2.2.2.2.2.2.2.2.2.1, rfl, rfl⟩
theorem dL_step_114 : Dc cL_step 114 (.iload_n 2) 1 115 := ⟨DL_step_c3.2.2.2.2.2.2.2.2.2.2.2.2.2.1, rfl⟩
theorem dL_step_115 : Db cL_step 115 .goto 118 145 := ⟨30, DL_step_c3.2.2.2.2.2.2.2.2.2.2.2.2.2.2.1, rfl, rfl⟩
theorem dL_step_118 : Dc cL_step 118 (.iload_n 1) 1 119 := ⟨DL_step_c3.2.2.2.2.2.2.2.2.2.2.2.2.2.2.2, rfl⟩
theorem DL_step_c4 : decode cL_step 119 = .ok (.iconst 2, 1) ∧ decode cL_step 120 = .ok (.if_icmp .ne 13, 3) ∧ decode cL_step 123 = .ok (.iload 4, 2) ∧ decode cL_step 125 = .ok (.iload_n 2, 1) ∧ decode cL_step 126 = .ok (.iadd, 1) ∧ decode cL_step 127 = .ok (.bipush 100, 2) ∧ decode cL_step 129 = .ok (.irem, 1) ∧ decode cL_step 130 = .ok (.goto 15, 3) ∧ decode cL_step 133 = .ok (.iload_n 1, 1) ∧ decode cL_step 134 = .ok (.iconst 5, 1) ∧ decode cL_step 135 = .ok (.if_icmp .ne 8, 3) ∧ decode cL_step 138 = .ok (.iload 4, 2) ∧ decode cL_step 140 = .ok (.goto 5, 3) ∧ decode cL_step 143 = .ok (.iload 5, 2) ∧ decode cL_step 145 = .ok (.istore 11, 2) ∧ decode cL_step 147 = .ok (.iload 9, 2) := by decide +kernel
theorem dL_step_119 : Dc cL_step 119 (.iconst 2) 1 120 := ⟨DL_step_c4.1, rfl⟩
theorem dL_step_120 : Db cL_step 120 (fun o => .if_icmp .ne o) 123 133 := ⟨13, DL_step_c4.2.1, rfl, rfl⟩
theorem dL_step_123 : Dc cL_step 123 (.iload 4) 2 125 := ⟨DL_step_c4.2.2.1, rfl⟩
theorem dL_step_125 : Dc cL_step 125 (.iload_n 2) 1 126 := ⟨DL_step_c4.2.2.2.1, rfl⟩
theorem dL_step_126 : Dc cL_step 126 (.iadd) 1 127 := ⟨DL_step_c4.2.2.2.2.1, rfl⟩
theorem dL_step_127 : Dc cL_step 127 (.bipush 100) 2 129 := ⟨DL_step_c4.2.2.2.2.2.1, rfl⟩
theorem dL_step_129 : Dc cL_step 129 (.irem) 1 130 := ⟨DL_step_c4.2.2.2.2.2.2.1, rfl⟩
theorem dL_step_130 : Db cL_step 130 .goto 133 145 := ⟨15, DL_step_c4.2.2.2.2.2.2.2.1, rfl, rfl⟩
theorem dL_step_133 : Dc cL_step 133 (.iload_n 1) 1 134 := ⟨DL_step_c4.2.2.2.2.2.2.2.2.1, rfl⟩
theorem dL_step_134 : Dc cL_step 134 (.iconst 5) 1 135 := ⟨DL_step_c4.2.2.2.2.2.2.2.2.2.1, rfl⟩
theorem dL_step_135 : Db cL_step 135 (fun o => .if_icmp .ne o) 138 143 := ⟨8, DL_step_c4.2.2.2.2.2.2.2.2.2.2.1, rfl, rfl⟩
theorem dL_step_138 : Dc cL_step 138 (.iload 4) 2 140 := ⟨DL_step_c4.2.2.2.2.2.2.2.2.2.2.2.1, rfl⟩
theorem dL_step_140 : Db cL_step 140 .goto 143 145 := ⟨5, DL_step_c4.2.2.2.2.2.2.2.2.2.2.2.2.1, rfl, rfl⟩
theorem dL_step_143 : Dc cL_step 143 (.iload 5) 2 145 := ⟨DL_step_c4.2.2.2.2.2.2.2.2.2.2.2.2.2.1, rfl⟩
theorem dL_step_145 : Dc cL_step 145 (.istore 11) 2 147 := ⟨DL_step_c4.2.2.2.2.2.2.2.2.2.2.2.2.2.2.1, rfl⟩
theorem dL_step_147 : Dc cL_step 147 (.iload 9) 2 149 := ⟨DL_step_c4.2.2.2.2.2.2.2.2.2.2.2.2.2.2.2, rfl⟩
theorem DL_step_c5 : decode cL_step 149 = .ok (.iload 10, 2) ∧ decode cL_step 151 = .ok (.ifCond .eq 8, 3) ∧ decode cL_step 154 = .ok (.bipush 100, 2) ∧ decode cL_step 156 = .ok (.goto 5, 3) ∧ decode cL_step 159 = .ok (.iload 11, 2) ∧ decode cL_step 161 = .ok (.if_icmp .ne 107, 3) ∧ decode cL_step 164 = .ok (.aload_n 0, 1) ∧ decode cL_step 165 = .ok (.iconst 0, 1) ∧ decode cL_step 166 = .ok (.invokevirtual 20, 3) ∧ decode cL_step 169 = .ok (.iload_n 1, 1) ∧ decode cL_step 170 = .ok (.ifCond .ne 7, 3) ∧ decode cL_step 173 = .ok (.iload_n 2, 1) ∧ decode cL_step 174 = .ok (.goto 4, 3) ∧ decode cL_step 177 = .ok (.iload_n 3, 1) ∧ decode cL_step 178 = .ok (.if_icmp .ne 90, 3) ∧ decode cL_step 181 = .ok (.aload_n 0, 1) := by decide +kernel
theorem dL_step_149 : Dc cL_step 149 (.iload 10) 2 151 := ⟨DL_step_c5.1, rfl⟩
theorem dL_step_151 : Db cL_step 151 (fun o => .ifCond .eq o) 154 159 := ⟨8, DL_step_c5.2.1, rfl, rfl⟩
theorem dL_step_154 : Dc cL_step 154 (.bipush 100) 2 156 := ⟨DL_step_c5.2.2.1, rfl⟩
theorem dL_step_156 : Db cL_step 156 .goto 159 161 := ⟨5, DL_step_c5.2.2.2.1, rfl, rfl⟩
theorem dL_step_159 : Dc cL_step 159 (.iload 11) 2 161 := ⟨DL_step_c5.2.2.2.2.1, rfl⟩
theorem dL_step_161 : Db cL_step 161 (fun o => .if_icmp .ne o) 164 268 := ⟨107, DL_step_c5.2.2.2.2.2.1, rfl, rfl⟩
theorem dL_step_164 : Dc cL_step 164 (.aload_n 0) 1 165 := ⟨DL_step_c5.2.2.2.2.2.2.1, rfl⟩
theorem dL_step_165 : Dc cL_step 165 (.iconst 0) 1 166 := ⟨DL_step_c5.2.2.2.2.2.2.2.1, rfl⟩
theorem dL_step_166 : Dc cL_step 166 (.invokevirtual 20) 3 169 := ⟨DL_step_c5.2.2.2.2.2.2.2.2.1, rfl⟩
theorem dL_step_169 : Dc cL_step 169 (.iload_n 1) 1 170 := ⟨DL_step_c5.2.2.2.2.2.2.2.2.2.1, rfl⟩
theorem dL_step_170 : Db cL_step 170 (fun o => .ifCond .ne o) 173 177 := ⟨7, DL_step_c5.2.2.2.2.2.2.2.2.2.2.1, rfl, rfl⟩
theorem dL_step_173 : Dc cL_step 173 (.iload_n 2) 1 174 := ⟨DL_step_c5.2.2.2.2.2.2.2.2.2.2.2.1, rfl⟩
theorem dL_step_174 : Db cL_step 174 .goto 177 178 := ⟨4, DL_step_c5.2.2.2.2.2.2.2.2.2.2.2.2.1, rfl, rfl⟩
theorem dL_step_177 : Dc cL_step 177 (.iload_n 3) 1 178 := ⟨DL_step_c5.2.2.2.2.2.2.2.2.2.2.2.2.2.1, rfl⟩
theorem dL_step_178 : Db cL_step 178 (fun o => .if_icmp .ne o) 181 268 := ⟨90, DL_step_c5.2.2.2.2.2.2.2.2.2.2.2.2.2.2.1, rfl, rfl⟩
theorem dL_step_181 : Dc cL_step 181 (.aload_n 0) 1 182 := ⟨DL_step_c5.2.2.2.2.2.2.2.2.2.2.2.2.2.2.2, rfl⟩
theorem DL_step_c6 : decode cL_step 182 = .ok (.aload_n 0, 1) ∧ decode cL_step 183 = .ok (.iconst 0, 1) ∧ decode cL_step 184 = .ok (.invokevirtual 20, 3) ∧ decode cL_step 187 = .ok (.invokevirtual 14, 3) ∧ decode cL_step 190 = .ok (.iload 11, 2) ∧ decode cL_step 192 = .ok (.if_icmp .ne 76, 3) ∧ decode cL_step 195 = .ok (.iload_n 1, 1) ∧ decode cL_step 196 = .ok (.iconst 4, 1) ∧ decode cL_step 197 = .ok (.if_icmp .ne 18, 3) ∧ decode cL_step 200 = .ok (.aload_n 0, 1) ∧ decode cL_step 201 = .ok (.iload_n 2, 1) ∧ decode cL_step 202 = .ok (.invokevirtual 14, 3) ∧ decode cL_step 205 = .ok (.iload 4, 2) ∧ decode cL_step 207 = .ok (.if_icmp .eq 8, 3) ∧ decode cL_step 210 = .ok (.iload_n 2, 1) ∧ decode cL_step 211 = .ok (.iload_n 3, 1) := by decide +kernel
theorem dL_step_182 : Dc cL_step 182 (.aload_n 0) 1 183 := ⟨DL_step_c6.1, rfl⟩
theorem dL_step_183 : Dc cL_step 183 (.iconst 0) 1 184 := ⟨DL_step_c6.2.1, rfl⟩
theorem dL_step_184 : Dc cL_step 184 (.invokevirtual 20) 3 187 := ⟨DL_step_c6.2.2.1, rfl⟩
theorem dL_step_187 : Dc cL_step 187 (.invokevirtual 14) 3 190 := ⟨DL_step_c6.2.2.2.1, rfl⟩
theorem dL_step_190 : Dc cL_step 190 (.iload 11) 2 192 := ⟨DL_step_c6.2.2.2.2.1, rfl⟩
theorem dL_step_192 : Db cL_step 192 (fun o => .if_icmp .ne o) 195 268 := ⟨76, DL_step_c6.2.2.2.2.2.1, rfl, rfl⟩
theorem dL_step_195 : Dc cL_step 195 (.iload_n 1) 1 196 := ⟨DL_step_c6.2.2.2.2.2.2.1, rfl⟩
theorem dL_step_196 : Dc cL_step 196 (.iconst 4) 1 197 := ⟨DL_step_c6.2.2.2.2.2.2.2.1, rfl⟩
theorem dL_step_197 : Db cL_step 197 (fun o => .if_icmp .ne o) 200 215 := ⟨18, DL_step_c6.2.2.2.2.2.2.2.2.1, rfl, rfl⟩
theorem dL_step_200 : Dc cL_step 200 (.aload_n 0) 1 201 := ⟨DL_step_c6.2.2.2.2.2.2.2.2.2.1, rfl⟩
theorem dL_step_201 : Dc cL_step 201 (.iload_n 2) 1 202 := ⟨DL_step_c6.2.2.2.2.2.2.2.2.2.2.1, rfl⟩
theorem dL_step_202 : Dc cL_step 202 (.invokevirtual 14) 3 205 := ⟨DL_step_c6.2.2.2.2.2.2.2.2.2.2.2.1, rfl⟩
theorem dL_step_205 : Dc cL_step 205 (.iload 4) 2 207 := ⟨DL_step_c6.2.2.2.2.2.2.2.2.2.2.2.2.1, rfl⟩
theorem dL_step_207 : Db cL_step 207 (fun o => .if_icmp .eq o) 210 215 := ⟨8, DL_step_c6.2.2.2.2.2.2.2.2.2.2.2.2.2.1, rfl, rfl⟩
theorem dL_step_210 : Dc cL_step 210 (.iload_n 2) 1 211 := ⟨DL_step_c6.2.2.2.2.2.2.2.2.2.2.2.2.2.2.1, rfl⟩
theorem dL_step_211 : Dc cL_step 211 (.iload_n 3) 1 212 := ⟨DL_step_c6.2.2.2.2.2.2.2.2.2.2.2.2.2.2.2, rfl⟩
theorem DL_step_c7 : decode cL_step 212 = .ok (.if_icmp .ne 56, 3) ∧ decode cL_step 215 = .ok (.iload_n 1, 1) ∧ decode cL_step 216 = .ok (.iconst 3, 1) ∧ decode cL_step 217 = .ok (.if_icmp .ne 13, 3) ∧ decode cL_step 220 = .ok (.aload_n 0, 1) ∧ decode cL_step 221 = .ok (.iload_n 2, 1) ∧ decode cL_step 222 = .ok (.invokevirtual 14, 3) ∧ decode cL_step 225 = .ok (.iload 5, 2) ∧ decode cL_step 227 = .ok (.if_icmp .ne 41, 3) ∧ decode cL_step 230 = .ok (.aload_n 0, 1) ∧ decode cL_step 231 = .ok (.iconst 5, 1) ∧ decode cL_step 232 = .ok (.invokevirtual 20, 3) ∧ decode cL_step 235 = .ok (.iload 7, 2) ∧ decode cL_step 237 = .ok (.iconst 1, 1) ∧ decode cL_step 238 = .ok (.iadd, 1) ∧ decode cL_step 239 = .ok (.if_icmp .ne 29, 3) := by decide +kernel
theorem dL_step_212 : Db cL_step 212 (fun o => .if_icmp .ne o) 215 268 := ⟨56, DL_step_c7.1, rfl, rfl⟩
theorem dL_step_215 : Dc cL_step 215 (.iload_n 1) 1 216 := ⟨DL_step_c7.2.1, rfl⟩
theorem dL_step_216 : Dc cL_step 216 (.iconst 3) 1 217 := ⟨DL_step_c7.2.2.1, rfl⟩
theorem dL_step_217 : Db cL_step 217 (fun o => .if_icmp .ne o) 220 230 := ⟨13, DL_step_c7.2.2.2.1, rfl, rfl⟩
theorem dL_step_220 : Dc cL_step 220 (.aload_n 0) 1 221 := ⟨DL_step_c7.2.2.2.2.1, rfl⟩
theorem dL_step_221 : Dc cL_step 221 (.iload_n 2) 1 222 := ⟨DL_step_c7.2.2.2.2.2.1, rfl⟩
theorem dL_step_222 : Dc cL_step 222 (.invokevirtual 14) 3 225 := ⟨DL_step_c7.2.2.2.2.2.2.1, rfl⟩
theorem dL_step_225 : Dc cL_step 225 (.iload 5) 2 227 := ⟨DL_step_c7.2.2.2.2.2.2.2.1, rfl⟩
theorem dL_step_227 : Db cL_step 227 (fun o => .if_icmp .ne o) 230 268 := ⟨41, DL_step_c7.2.2.2.2.2.2.2.2.1, rfl, rfl⟩
theorem dL_step_230 : Dc cL_step 230 (.aload_n 0) 1 231 := ⟨DL_step_c7.2.2.2.2.2.2.2.2.2.1, rfl⟩
theorem dL_step_231 : Dc cL_step 231 (.iconst 5) 1 232 := ⟨DL_step_c7.2.2.2.2.2.2.2.2.2.2.1, rfl⟩
theorem dL_step_232 : Dc cL_step 232 (.invokevirtual 20) 3 235 := ⟨DL_step_c7.2.2.2.2.2.2.2.2.2.2.2.1, rfl⟩
theorem dL_step_235 : Dc cL_step 235 (.iload 7) 2 237 := ⟨DL_step_c7.2.2.2.2.2.2.2.2.2.2.2.2.1, rfl⟩
theorem dL_step_237 : Dc cL_step 237 (.iconst 1) 1 238 := ⟨DL_step_c7.2.2.2.2.2.2.2.2.2.2.2.2.2.1, rfl⟩
theorem dL_step_238 : Dc cL_step 238 (.iadd) 1 239 := ⟨DL_step_c7.2.2.2.2.2.2.2.2.2.2.2.2.2.2.1, rfl⟩
theorem dL_step_239 : Db cL_step 239 (fun o => .if_icmp .ne o) 242 268 := ⟨29, DL_step_c7.2.2.2.2.2.2.2.2.2.2.2.2.2.2.2, rfl, rfl⟩
theorem DL_step_c8 : decode cL_step 242 = .ok (.aload_n 0, 1) ∧ decode cL_step 243 = .ok (.bipush 6, 2) ∧ decode cL_step 245 = .ok (.invokevirtual 20, 3) ∧ decode cL_step 248 = .ok (.iload 8, 2) ∧ decode cL_step 250 = .ok (.iload 10, 2) ∧ decode cL_step 252 = .ok (.ifCond .eq 7, 3) ∧ decode cL_step 255 = .ok (.iconst 1, 1) ∧ decode cL_step 256 = .ok (.goto 4, 3) ∧ decode cL_step 259 = .ok (.iconst 0, 1) ∧ decode cL_step 260 = .ok (.iadd, 1) ∧ decode cL_step 261 = .ok (.if_icmp .ne 7, 3) ∧ decode cL_step 264 = .ok (.iconst 1, 1) ∧ decode cL_step 265 = .ok (.goto 4, 3) ∧ decode cL_step 268 = .ok (.iconst 0, 1) ∧ decode cL_step 269 = .ok (.istore 12, 2) ∧ decode cL_step 271 = .ok (.iload 12, 2) := by decide +kernel
theorem dL_step_242 : Dc cL_step 242 (.aload_n 0) 1 243 := ⟨DL_step_c8.1, rfl⟩
theorem dL_step_243 : Dc cL_step 243 (.bipush 6) 2 245 := ⟨DL_step_c8.2.1, rfl⟩
theorem dL_step_245 : Dc cL_step 245 (.invokevirtual 20) 3 248 := ⟨DL_step_c8.2.2.1, rfl⟩
theorem dL_step_248 : Dc cL_step 248 (.iload 8) 2 250 := ⟨DL_step_c8.2.2.2.1, rfl⟩
theorem dL_step_250 : Dc cL_step 250 (.iload 10) 2 252 := ⟨DL_step_c8.2.2.2.2.1, rfl⟩
theorem dL_step_252 : Db cL_step 252 (fun o => .ifCond .eq o) 255 259 := ⟨7, DL_step_c8.2.2.2.2.2.1, rfl, rfl⟩
theorem dL_step_255 : Dc cL_step 255 (.iconst 1) 1 256 := ⟨DL_step_c8.2.2.2.2.2.2.1, rfl⟩
theorem dL_step_256 : Db cL_step 256 .goto 259 260 := ⟨4, DL_step_c8.2.2.2.2.2.2.2.1, rfl, rfl⟩
theorem dL_step_259 : Dc cL_step 259 (.iconst 0) 1 260 := ⟨DL_step_c8.2.2.2.2.2.2.2.2.1, rfl⟩
theorem dL_step_260 : Dc cL_step 260 (.iadd) 1 261 := ⟨DL_step_c8.2.2.2.2.2.2.2.2.2.1, rfl⟩
theorem dL_step_261 : Db cL_step 261 (fun o => .if_icmp .ne o) 264 268 := ⟨7, DL_step_c8.2.2.2.2.2.2.2.2.2.2.1, rfl, rfl⟩
theorem dL_step_264 : Dc cL_step 264 (.iconst 1) 1 265 := ⟨DL_step_c8.2.2.2.2.2.2.2.2.2.2.2.1, rfl⟩
theorem dL_step_265 : Db cL_step 265 .goto 268 269 := ⟨4, DL_step_c8.2.2.2.2.2.2.2.2.2.2.2.2.1, rfl, rfl⟩
theorem dL_step_268 : Dc cL_step 268 (.iconst 0) 1 269 := ⟨DL_step_c8.2.2.2.2.2.2.2.2.2.2.2.2.2.1, rfl⟩
theorem dL_step_269 : Dc cL_step 269 (.istore 12) 2 271 := ⟨DL_step_c8.2.2.2.2.2.2.2.2.2.2.2.2.2.2.1, rfl⟩
theorem dL_step_271 : Dc cL_step 271 (.iload 12) 2 273 := ⟨DL_step_c8.2.2.2.2.2.2.2.2.2.2.2.2.2.2.2, rfl⟩
theorem DL_step_c9 : decode cL_step 273 = .ok (.ifCond .eq 72, 3) ∧ decode cL_step 276 = .ok (.iload 6, 2) ∧ decode cL_step 278 = .ok (.bipush (-5), 2) ∧ decode cL_step 280 = .ok (.if_icmp .ne 16, 3) ∧ decode cL_step 283 = .ok (.aload_n 0, 1) ∧ decode cL_step 284 = .ok (.iconst 3, 1) ∧ decode cL_step 285 = .ok (.invokevirtual 20, 3) ∧ decode cL_step 288 = .ok (.bipush (-5), 2) ∧ decode cL_step 290 = .ok (.if_icmp .ne 55, 3) ∧ decode cL_step 293 = .ok (.goto 47, 3) ∧ decode cL_step 296 = .ok (.aload_n 0, 1) ∧ decode cL_step 297 = .ok (.iconst 3, 1) ∧ decode cL_step 298 = .ok (.invokevirtual 20, 3) ∧ decode cL_step 301 = .ok (.iload 6, 2) ∧ decode cL_step 303 = .ok (.iconst 1, 1) ∧ decode cL_step 304 = .ok (.iadd, 1) := by decide +kernel
theorem dL_step_273 : Db cL_step 273 (fun o => .ifCond .eq o) 276 345 := ⟨72, DL_step_c9.1, rfl, rfl⟩
theorem dL_step_276 : Dc cL_step 276 (.iload 6) 2 278 := ⟨DL_step_c9.2.1, rfl⟩
theorem dL_step_278 : Dc cL_step 278 (.bipush (-5)) 2 280 := ⟨DL_step_c9.2.2.1, rfl⟩
theorem dL_step_280 : Db cL_step 280 (fun o => .if_icmp .ne o) 283 296 := ⟨16, DL_step_c9.2.2.2.1, rfl, rfl⟩
theorem dL_step_283 : Dc cL_step 283 (.aload_n 0) 1 284 := ⟨DL_step_c9.2.2.2.2.1, rfl⟩
theorem dL_step_284 : Dc cL_step 284 (.iconst 3) 1 285 := ⟨DL_step_c9.2.2.2.2.2.1, rfl⟩
theorem dL_step_285 : Dc cL_step 285 (.invokevirtual 20) 3 288 := ⟨DL_step_c9.2.2.2.2.2.2.1, rfl⟩
theorem dL_step_288 : Dc cL_step 288 (.bipush (-5)) 2 290 := ⟨DL_step_c9.2.2.2.2.2.2.2.1, rfl⟩
theorem dL_step_290 : Db cL_step 290 (fun o => .if_icmp .ne o) 293 345 := ⟨55, DL_step_c9.2.2.2.2.2.2.2.2.1, rfl, rfl⟩
theorem dL_step_293 : Db cL_step 293 .goto 296 340 := ⟨47, DL_step_c9.2.2.2.2.2.2.2.2.2.1, rfl, rfl⟩
theorem dL_step_296 : Dc cL_step 296 (.aload_n 0) 1 297 := ⟨DL_step_c9.2.2.2.2.2.2.2.2.2.2.1, rfl⟩
theorem dL_step_297 : Dc cL_step 297 (.iconst 3) 1 298 := ⟨DL_step_c9.2.2.2.2.2.2.2.2.2.2.2.1, rfl⟩
theorem dL_step_298 : Dc cL_step 298 (.invokevirtual 20) 3 301 := ⟨DL_step_c9.2.2.2.2.2.2.2.2.2.2.2.2.1, rfl⟩
theorem dL_step_301 : Dc cL_step 301 (.iload 6) 2 303 := ⟨DL_step_c9.2.2.2.2.2.2.2.2.2.2.2.2.2.1, rfl⟩
theorem dL_step_303 : Dc cL_step 303 (.iconst 1) 1 304 := ⟨DL_step_c9.2.2.2.2.2.2.2.2.2.2.2.2.2.2.1, rfl⟩
theorem dL_step_304 : Dc cL_step 304 (.iadd) 1 305 := ⟨DL_step_c9.2.2.2.2.2.2.2.2.2.2.2.2.2.2.2, rfl⟩
theorem DL_step_c10 : decode cL_step 305 = .ok (.if_icmp .ne 40, 3) ∧ decode cL_step 308 = .ok (.aload_n 0, 1) ∧ decode cL_step 309 = .ok (.aload_n 0, 1) ∧ decode cL_step 310 = .ok (.iconst 2, 1) ∧ decode cL_step 311 = .ok (.invokevirtual 20, 3) ∧ decode cL_step 314 = .ok (.iload 6, 2) ∧ decode cL_step 316 = .ok (.iconst 0, 1) ∧ decode cL_step 317 = .ok (.invokevirtual 23, 3) ∧ decode cL_step 320 = .ok (.iload_n 1, 1) ∧ decode cL_step 321 = .ok (.if_icmp .ne 24, 3) ∧ decode cL_step 324 = .ok (.aload_n 0, 1) ∧ decode cL_step 325 = .ok (.aload_n 0, 1) ∧ decode cL_step 326 = .ok (.iconst 2, 1) ∧ decode cL_step 327 = .ok (.invokevirtual 20, 3) ∧ decode cL_step 330 = .ok (.iload 6, 2) ∧ decode cL_step 332 = .ok (.iconst 1, 1) := by decide +kernel
theorem dL_step_305 : Db cL_step 305 (fun o => .if_icmp .ne o) 308 345 := ⟨40, DL_step_c10.1, rfl, rfl⟩
theorem dL_step_308 : Dc cL_step 308 (.aload_n 0) 1 309 := ⟨DL_step_c10.2.1, rfl⟩
theorem dL_step_309 : Dc cL_step 309 (.aload_n 0) 1 310 := ⟨DL_step_c10.2.2.1, rfl⟩
theorem dL_step_310 : Dc cL_step 310 (.iconst 2) 1 311 := ⟨DL_step_c10.2.2.2.1, rfl⟩
theorem dL_step_311 : Dc cL_step 311 (.invokevirtual 20) 3 314 := ⟨DL_step_c10.2.2.2.2.1, rfl⟩
theorem dL_step_314 : Dc cL_step 314 (.iload 6) 2 316 := ⟨DL_step_c10.2.2.2.2.2.1, rfl⟩
theorem dL_step_316 : Dc cL_step 316 (.iconst 0) 1 317 := ⟨DL_step_c10.2.2.2.2.2.2.1, rfl⟩
theorem dL_step_317 : Dc cL_step 317 (.invokevirtual 23) 3 320 := ⟨DL_step_c10.2.2.2.2.2.2.2.1, rfl⟩
theorem dL_step_320 : Dc cL_step 320 (.iload_n 1) 1 321 := ⟨DL_step_c10.2.2.2.2.2.2.2.2.1, rfl⟩
theorem dL_step_321 : Db cL_step 321 (fun o => .if_icmp .ne o) 324 345 := ⟨24, DL_step_c10.2.2.2.2.2.2.2.2.2.1, rfl, rfl⟩
theorem dL_step_324 : Dc cL_step 324 (.aload_n 0) 1 325 := ⟨DL_step_c10.2.2.2.2.2.2.2.2.2.2.1, rfl⟩
theorem dL_step_325 : Dc cL_step 325 (.aload_n 0) 1 326 := ⟨DL_step_c10.2.2.2.2.2.2.2.2.2.2.2.1, rfl⟩
theorem dL_step_326 : Dc cL_step 326 (.iconst 2) 1 327 := ⟨DL_step_c10.2.2.2.2.2.2.2.2.2.2.2.2.1, rfl⟩
theorem dL_step_327 : Dc cL_step 327 (.invokevirtual 20) 3 330 := ⟨DL_step_c10.2.2.2.2.2.2.2.2.2.2.2.2.2.1, rfl⟩
theorem dL_step_330 : Dc cL_step 330 (.iload 6) 2 332 := ⟨DL_step_c10.2.2.2.2.2.2.2.2.2.2.2.2.2.2.1, rfl⟩
theorem dL_step_332 : Dc cL_step 332 (.iconst 1) 1 333 := ⟨DL_step_c10.2.2.2.2.2.2.2.2.2.2.2.2.2.2.2, rfl⟩
theorem DL_step_c11 : decode cL_step 333 = .ok (.invokevirtual 23, 3) ∧ decode cL_step 336 = .ok (.iload_n 2, 1) ∧ decode cL_step 337 = .ok (.if_icmp .ne 8, 3) ∧ decode cL_step 340 = .ok (.iload 9, 2) ∧ decode cL_step 342 = .ok (.goto 5, 3) ∧ decode cL_step 345 = .ok (.bipush (-9), 2) ∧ decode cL_step 347 = .ok (.ireturn, 1) := by decide +kernel
theorem dL_step_333 : Dc cL_step 333 (.invokevirtual 23) 3 336 := ⟨DL_step_c11.1, rfl⟩
theorem dL_step_336 : Dc cL_step 336 (.iload_n 2) 1 337 := ⟨DL_step_c11.2.1, rfl⟩
theorem dL_step_337 : Db cL_step 337 (fun o => .if_icmp .ne o) 340 345 := ⟨8, DL_step_c11.2.2.1, rfl, rfl⟩
theorem dL_step_340 : Dc cL_step 340 (.iload 9) 2 342 := ⟨DL_step_c11.2.2.2.1, rfl⟩
theorem dL_step_342 : Db cL_step 342 .goto 345 347 := ⟨5, DL_step_c11.2.2.2.2.1, rfl, rfl⟩
theorem dL_step_345 : Dc cL_step 345 (.bipush (-9)) 2 347 := ⟨DL_step_c11.2.2.2.2.2.1, rfl⟩
theorem dL_step_347 : Dc cL_step 347 (.ireturn) 1 348 := ⟨DL_step_c11.2.2.2.2.2.2, rfl⟩
theorem DL_loops_c0 : decode cL_loops 0 = .ok (.aload_n 0, 1) ∧ decode cL_loops 1 = .ok (.iconst 2, 1) ∧ decode cL_loops 2 = .ok (.invokevirtual 20, 3) ∧ decode cL_loops 5 = .ok (.istore_n 3, 1) ∧ decode cL_loops 6 = .ok (.aload_n 0, 1) ∧ decode cL_loops 7 = .ok (.iconst 4, 1) ∧ decode cL_loops 8 = .ok (.invokevirtual 20, 3) ∧ decode cL_loops 11 = .ok (.istore 4, 2) ∧ decode cL_loops 13 = .ok (.iload_n 3, 1) ∧ decode cL_loops 14 = .ok (.ifCond .ne 7, 3) ∧ decode cL_loops 17 = .ok (.iconst 0, 1) ∧ decode cL_loops 18 = .ok (.goto 6, 3) ∧ decode cL_loops 21 = .ok (.iload_n 2, 1) ∧ decode cL_loops 22 = .ok (.iload_n 3, 1) ∧ decode cL_loops 23 = .ok (.irem, 1) ∧ decode cL_loops 24 = .ok (.istore 5, 2) := by decide +kernel
theorem dL_loops_0 : Dc cL_loops 0 (.aload_n 0) 1 1 := ⟨DL_loops_c0.1, rfl⟩
theorem dL_loops_1 : Dc cL_loops 1 (.iconst 2) 1 2 := ⟨DL_loops_c0.2.1, rfl⟩
theorem dL_loops_2 : Dc cL_loops 2 (.invokevirtual 20) 3 5 := ⟨DL_loops_c0.2.2.1, rfl⟩
theorem dL_loops_5 : Dc cL_loops 5 (.istore_n 3) 1 6 := ⟨DL_loops_c0.2.2.2.1, rfl⟩
theorem dL_loops_6 : Dc cL_loops 6 (.aload_n 0) 1 7 := ⟨DL_loops_c0.2.2.2.2.1, rfl⟩
theorem dL_loops_7 : Dc cL_loops 7 (.iconst 4) 1 8 := ⟨DL_loops_c0.2.2.2.2.2.1, rfl⟩
theorem dL_loops_8 : Dc cL_loops 8 (.invokevirtual 20) 3 11 := ⟨DL_loops_c0.2.2.2.2.2.2.1, rfl⟩
theorem dL_loops_11 : Dc cL_loops 11 (.istore 4) 2 13 := ⟨DL_loops_c0.2.2.2.2.2.2.2.1, rfl⟩
theorem dL_loops_13 : Dc cL_loops 13 (.iload_n 3) 1 14 := ⟨DL_loops_c0.2.2.2.2.2.2.2.2.1, rfl⟩
theorem dL_loops_14 : Db cL_loops 14 (fun o => .ifCond .ne o) 17 21 := ⟨7, DL_loops_c0.2.2.2.2.2.2.2.2.2.1, rfl, rfl⟩
theorem dL_loops_17 : Dc cL_loops 17 (.iconst 0) 1 18 := ⟨DL_loops_c0.2.2.2.2.2.2.2.2.2.2.1, rfl⟩
theorem dL_loops_18 : Db cL_loops 18 .goto 21 24 := ⟨6, DL_loops_c0.2.2.2.2.2.2.2.2.2.2.2.1, rfl, rfl⟩
theorem dL_loops_21 : Dc cL_loops 21 (.iload_n 2) 1 22 := ⟨DL_loops_c0.2.2.2.2.2.2.2.2.2.2.2.2.1, rfl⟩
theorem dL_loops_22 : Dc cL_loops 22 (.iload_n 3) 1 23 := ⟨DL_loops_c0.2.2.2.2.2.2.2.2.2.2.2.2.2.1, rfl⟩
theorem dL_loops_23 : Dc cL_loops 23 (.irem) 1 24 := ⟨DL_loops_c0.2.2.2.2.2.2.2.2.2.2.2.2.2.2.1, rfl⟩
theorem dL_loops_24 : Dc cL_loops 24 (.istore 5) 2 26 := ⟨DL_loops_c0.2.2.2.2.2.2.2.2.2.2.2.2.2.2.2, rfl⟩
theorem DL_loops_c1 : decode cL_loops 26 = .ok (.iload_n 3, 1) ∧ decode cL_loops 27 = .ok (.ifCond .ne 7, 3) ∧ decode cL_loops 30 = .ok (.iconst 0, 1) ∧ decode cL_loops 31 = .ok (.goto 9, 3) ∧ decode cL_loops 34 = .ok (.iload_n 2, 1) ∧ decode cL_loops 35 = .ok (.bipush 6, 2) ∧ decode cL_loops 37 = .ok (.idiv, 1) ∧ decode cL_loops 38 = .ok (.iload_n 3, 1) ∧ decode cL_loops 39 = .ok (.irem, 1) ∧ decode cL_loops 40 = .ok (.istore 6, 2) ∧ decode cL_loops 42 = .ok (.iload_n 1, 1) ∧ decode cL_loops 43 = .ok (.ifCond .ne 169, 3) ∧ decode cL_loops 46 = .ok (.iload_n 3, 1) ∧ decode cL_loops 47 = .ok (.ifCond .le 50, 3) ∧ decode cL_loops 50 = .ok (.iload 5, 2) ∧ decode cL_loops 52 = .ok (.iload 6, 2) := by decide +kernel
theorem dL_loops_26 : Dc cL_loops 26 (.iload_n 3) 1 27 := ⟨DL_loops_c1.1, rfl⟩
theorem dL_loops_27 : Db cL_loops 27 (fun o => .ifCond .ne o) 30 34 := ⟨7, DL_loops_c1.2.1, rfl, rfl⟩
theorem dL_loops_30 : Dc cL_loops 30 (.iconst 0) 1 31 := ⟨DL_loops_c1.2.2.1, rfl⟩
theorem dL_loops_31 : Db cL_loops 31 .goto 34 40 := ⟨9, DL_loops_c1.2.2.2.1, rfl, rfl⟩
theorem dL_loops_34 : Dc cL_loops 34 (.iload_n 2) 1 35 := ⟨DL_loops_c1.2.2.2.2.1, rfl⟩
theorem dL_loops_35 : Dc cL_loops 35 (.bipush 6) 2 37 := ⟨DL_loops_c1.2.2.2.2.2.1, rfl⟩
theorem dL_loops_37 : Dc cL_loops 37 (.idiv) 1 38 := ⟨DL_loops_c1.2.2.2.2.2.2.1, rfl⟩
theorem dL_loops_38 : Dc cL_loops 38 (.iload_n 3) 1 39 := ⟨DL_loops_c1.2.2.2.2.2.2.2.1, rfl⟩
theorem dL_loops_39 : Dc cL_loops 39 (.irem) 1 40 := ⟨DL_loops_c1.2.2.2.2.2.2.2.2.1, rfl⟩
theorem dL_loops_40 : Dc cL_loops 40 (.istore 6) 2 42 := ⟨DL_loops_c1.2.2.2.2.2.2.2.2.2.1, rfl⟩
theorem dL_loops_42 : Dc cL_loops 42 (.iload_n 1) 1 43 := ⟨DL_loops_c1.2.2.2.2.2.2.2.2.2.2.1, rfl⟩
theorem dL_loops_43 : Db cL_loops 43 (fun o => .ifCond .ne o) 46 212 := ⟨169, DL_loops_c1.2.2.2.2.2.2.2.2.2.2.2.1, rfl, rfl⟩
theorem dL_loops_46 : Dc cL_loops 46 (.iload_n 3) 1 47 := ⟨DL_loops_c1.2.2.2.2.2.2.2.2.2.2.2.2.1, rfl⟩
theorem dL_loops_47 : Db cL_loops 47 (fun o => .ifCond .le o) 50 97 := ⟨50, DL_loops_c1.2.2.2.2.2.2.2.2.2.2.2.2.2.1, rfl, rfl⟩
theorem dL_loops_50 : Dc cL_loops 50 (.iload 5) 2 52 := ⟨DL_loops_c1.2.2.2.2.2.2.2.2.2.2.2.2.2.2.1, rfl⟩
theorem dL_loops_52 : Dc cL_loops 52 (.iload 6) 2 54 := ⟨DL_loops_c1.2.2.2.2.2.2.2.2.2.2.2.2.2.2.2, rfl⟩
theorem DL_loops_c2 : decode cL_loops 54 = .ok (.if_icmp .eq 43, 3) ∧ decode cL_loops 57 = .ok (.aload_n 0, 1) ∧ decode cL_loops 58 = .ok (.iload 5, 2) ∧ decode cL_loops 60 = .ok (.iconst 0, 1) ∧ decode cL_loops 61 = .ok (.invokevirtual 27, 3) ∧ decode cL_loops 64 = .ok (.aload_n 0, 1) ∧ decode cL_loops 65 = .ok (.iload 6, 2) ∧ decode cL_loops 67 = .ok (.iconst 0, 1) ∧ decode cL_loops 68 = .ok (.invokevirtual 27, 3) ∧ decode cL_loops 71 = .ok (.if_icmp .ne 26, 3) ∧ decode cL_loops 74 = .ok (.aload_n 0, 1) ∧ decode cL_loops 75 = .ok (.iload 5, 2) ∧ decode cL_loops 77 = .ok (.iload 6, 2) ∧ decode cL_loops 79 = .ok (.iconst 0, 1) ∧ decode cL_loops 80 = .ok (.invokevirtual 36, 3) ∧ decode cL_loops 83 = .ok (.aload_n 0, 1) := by decide +kernel
theorem dL_loops_54 : Db cL_loops 54 (fun o => .if_icmp .eq o) 57 97 := ⟨43, DL_loops_c2.1, rfl, rfl⟩
theorem dL_loops_57 : Dc cL_loops 57 (.aload_n 0) 1 58 := ⟨DL_loops_c2.2.1, rfl⟩
theorem dL_loops_58 : Dc cL_loops 58 (.iload 5) 2 60 := ⟨DL_loops_c2.2.2.1, rfl⟩
theorem dL_loops_60 : Dc cL_loops 60 (.iconst 0) 1 61 := ⟨DL_loops_c2.2.2.2.1, rfl⟩
theorem dL_loops_61 : Dc cL_loops 61 (.invokevirtual 27) 3 64 := ⟨DL_loops_c2.2.2.2.2.1, rfl⟩
theorem dL_loops_64 : Dc cL_loops 64 (.aload_n 0) 1 65 := ⟨DL_loops_c2.2.2.2.2.2.1, rfl⟩
theorem dL_loops_65 : Dc cL_loops 65 (.iload 6) 2 67 := ⟨DL_loops_c2.2.2.2.2.2.2.1, rfl⟩
theorem dL_loops_67 : Dc cL_loops 67 (.iconst 0) 1 68 := ⟨DL_loops_c2.2.2.2.2.2.2.2.1, rfl⟩
theorem dL_loops_68 : Dc cL_loops 68 (.invokevirtual 27) 3 71 := ⟨DL_loops_c2.2.2.2.2.2.2.2.2.1, rfl⟩
theorem dL_loops_71 : Db cL_loops 71 (fun o => .if_icmp .ne o) 74 97 := ⟨26, DL_loops_c2.2.2.2.2.2.2.2.2.2.1, rfl, rfl⟩
theorem dL_loops_74 : Dc cL_loops 74 (.aload_n 0) 1 75 := ⟨DL_loops_c2.2.2.2.2.2.2.2.2.2.2.1, rfl⟩
theorem dL_loops_75 : Dc cL_loops 75 (.iload 5) 2 77 := ⟨DL_loops_c2.2.2.2.2.2.2.2.2.2.2.2.1, rfl⟩
theorem dL_loops_77 : Dc cL_loops 77 (.iload 6) 2 79 := ⟨DL_loops_c2.2.2.2.2.2.2.2.2.2.2.2.2.1, rfl⟩
theorem dL_loops_79 : Dc cL_loops 79 (.iconst 0) 1 80 := ⟨DL_loops_c2.2.2.2.2.2.2.2.2.2.2.2.2.2.1, rfl⟩
theorem dL_loops_80 : Dc cL_loops 80 (.invokevirtual 36) 3 83 := ⟨DL_loops_c2.2.2.2.2.2.2.2.2.2.2.2.2.2.2.1, rfl⟩
theorem dL_loops_83 : Dc cL_loops 83 (.aload_n 0) 1 84 := ⟨DL_loops_c2.2.2.2.2.2.2.2.2.2.2.2.2.2.2.2, rfl⟩
theorem DL_loops_c3 : decode cL_loops 84 = .ok (.iload 5, 2) ∧ decode cL_loops 86 = .ok (.iconst 0, 1) ∧ decode cL_loops 87 = .ok (.invokevirtual 27, 3) ∧ decode cL_loops 90 = .ok (.if_icmp .ne 7, 3) ∧ decode cL_loops 93 = .ok (.iconst 1, 1) ∧ decode cL_loops 94 = .ok (.goto 4, 3) ∧ decode cL_loops 97 = .ok (.iconst 0, 1) ∧ decode cL_loops 98 = .ok (.istore 7, 2) ∧ decode cL_loops 100 = .ok (.aload_n 0, 1) ∧ decode cL_loops 101 = .ok (.iload 5, 2) ∧ decode cL_loops 103 = .ok (.iload 6, 2) ∧ decode cL_loops 105 = .ok (.invokevirtual 67, 3) ∧ decode cL_loops 108 = .ok (.istore 8, 2) ∧ decode cL_loops 110 = .ok (.iload 8, 2) ∧ decode cL_loops 112 = .ok (.iload_n 3, 1) ∧ decode cL_loops 113 = .ok (.ifCond .ne 7, 3) := by decide +kernel
theorem dL_loops_84 : Dc cL_loops 84 (.iload 5) 2 86 := ⟨DL_loops_c3.1, rfl⟩
theorem dL_loops_86 : Dc cL_loops 86 (.iconst 0) 1 87 := ⟨DL_loops_c3.2.1, rfl⟩
theorem dL_loops_87 : Dc cL_loops 87 (.invokevirtual 27) 3 90 := ⟨DL_loops_c3.2.2.1, rfl⟩
theorem dL_loops_90 : Db cL_loops 90 (fun o => .if_icmp .ne o) 93 97 := ⟨7, DL_loops_c3.2.2.2.1, rfl, rfl⟩
theorem dL_loops_93 : Dc cL_loops 93 (.iconst 1) 1 94 := ⟨DL_loops_c3.2.2.2.2.1, rfl⟩
theorem dL_loops_94 : Db cL_loops 94 .goto 97 98 := ⟨4, DL_loops_c3.2.2.2.2.2.1, rfl, rfl⟩
theorem dL_loops_97 : Dc cL_loops 97 (.iconst 0) 1 98 := ⟨DL_loops_c3.2.2.2.2.2.2.1, rfl⟩
theorem dL_loops_98 : Dc cL_loops 98 (.istore 7) 2 100 := ⟨DL_loops_c3.2.2.2.2.2.2.2.1, rfl⟩
theorem dL_loops_100 : Dc cL_loops 100 (.aload_n 0) 1 101 := ⟨DL_loops_c3.2.2.2.2.2.2.2.2.1, rfl⟩
theorem dL_loops_101 : Dc cL_loops 101 (.iload 5) 2 103 := ⟨DL_loops_c3.2.2.2.2.2.2.2.2.2.1, rfl⟩
theorem dL_loops_103 : Dc cL_loops 103 (.iload 6) 2 105 := ⟨DL_loops_c3.2.2.2.2.2.2.2.2.2.2.1, rfl⟩
theorem dL_loops_105 : Dc cL_loops 105 (.invokevirtual 67) 3 108 := ⟨DL_loops_c3.2.2.2.2.2.2.2.2.2.2.2.1, rfl⟩
theorem dL_loops_108 : Dc cL_loops 108 (.istore 8) 2 110 := ⟨DL_loops_c3.2.2.2.2.2.2.2.2.2.2.2.2.1, rfl⟩
theorem dL_loops_110 : Dc cL_loops 110 (.iload 8) 2 112 := ⟨DL_loops_c3.2.2.2.2.2.2.2.2.2.2.2.2.2.1, rfl⟩
theorem dL_loops_112 : Dc cL_loops 112 (.iload_n 3) 1 113 := ⟨DL_loops_c3.2.2.2.2.2.2.2.2.2.2.2.2.2.2.1, rfl⟩
theorem dL_loops_113 : Db cL_loops 113 (fun o => .ifCond .ne o) 116 120 := ⟨7, DL_loops_c3.2.2.2.2.2.2.2.2.2.2.2.2.2.2.2, rfl, rfl⟩
theorem DL_loops_c4 : decode cL_loops 116 = .ok (.iconst (-1), 1) ∧ decode cL_loops 117 = .ok (.goto 27, 3) ∧ decode cL_loops 120 = .ok (.iload 7, 2) ∧ decode cL_loops 122 = .ok (.ifCond .ne 8, 3) ∧ decode cL_loops 125 = .ok (.bipush (-4), 2) ∧ decode cL_loops 127 = .ok (.goto 17, 3) ∧ decode cL_loops 130 = .ok (.iload 4, 2) ∧ decode cL_loops 132 = .ok (.bipush 6, 2) ∧ decode cL_loops 134 = .ok (.if_icmp .ne 8, 3) ∧ decode cL_loops 137 = .ok (.bipush (-3), 2) ∧ decode cL_loops 139 = .ok (.goto 5, 3) ∧ decode cL_loops 142 = .ok (.iload 4, 2) ∧ decode cL_loops 144 = .ok (.if_icmp .ne 65, 3) ∧ decode cL_loops 147 = .ok (.iload 8, 2) ∧ decode cL_loops 149 = .ok (.ifCond .lt 55, 3) ∧ decode cL_loops 152 = .ok (.aload_n 0, 1) := by decide +kernel
theorem dL_loops_116 : Dc cL_loops 116 (.iconst (-1)) 1 117 := ⟨DL_loops_c4.1, rfl⟩
theorem dL_loops_117 : Db cL_loops 117 .goto 120 144 := ⟨27, DL_loops_c4.2.1, rfl, rfl⟩
theorem dL_loops_120 : Dc cL_loops 120 (.iload 7) 2 122 := ⟨DL_loops_c4.2.2.1, rfl⟩
theorem dL_loops_122 : Db cL_loops 122 (fun o => .ifCond .ne o) 125 130 := ⟨8, DL_loops_c4.2.2.2.1, rfl, rfl⟩
theorem dL_loops_125 : Dc cL_loops 125 (.bipush (-4)) 2 127 := ⟨DL_loops_c4.2.2.2.2.1, rfl⟩
theorem dL_loops_127 : Db cL_loops 127 .goto 130 144 := ⟨17, DL_loops_c4.2.2.2.2.2.1, rfl, rfl⟩
theorem dL_loops_130 : Dc cL_loops 130 (.iload 4) 2 132 := ⟨DL_loops_c4.2.2.2.2.2.2.1, rfl⟩
theorem dL_loops_132 : Dc cL_loops 132 (.bipush 6) 2 134 := ⟨DL_loops_c4.2.2.2.2.2.2.2.1, rfl⟩
theorem dL_loops_134 : Db cL_loops 134 (fun o => .if_icmp .ne o) 137 142 := ⟨8, DL_loops_c4.2.2.2.2.2.2.2.2.1, rfl, rfl⟩
theorem dL_loops_137 : Dc cL_loops 137 (.bipush (-3)) 2 139 := ⟨DL_loops_c4.2.2.2.2.2.2.2.2.2.1, rfl⟩
theorem dL_loops_139 : Db cL_loops 139 .goto 142 144 := ⟨5, DL_loops_c4.2.2.2.2.2.2.2.2.2.2.1, rfl, rfl⟩
theorem dL_loops_142 : Dc cL_loops 142 (.iload 4) 2 144 := ⟨DL_loops_c4.2.2.2.2.2.2.2.2.2.2.2.1, rfl⟩
theorem dL_loops_144 : Db cL_loops 144 (fun o => .if_icmp .ne o) 147 209 := ⟨65, DL_loops_c4.2.2.2.2.2.2.2.2.2.2.2.2.1, rfl, rfl⟩
theorem dL_loops_147 : Dc cL_loops 147 (.iload 8) 2 149 := ⟨DL_loops_c4.2.2.2.2.2.2.2.2.2.2.2.2.2.1, rfl⟩
theorem dL_loops_149 : Db cL_loops 149 (fun o => .ifCond .lt o) 152 204 := ⟨55, DL_loops_c4.2.2.2.2.2.2.2.2.2.2.2.2.2.2.1, rfl, rfl⟩
theorem dL_loops_152 : Dc cL_loops 152 (.aload_n 0) 1 153 := ⟨DL_loops_c4.2.2.2.2.2.2.2.2.2.2.2.2.2.2.2, rfl⟩
theorem DL_loops_c5 : decode cL_loops 153 = .ok (.iconst 4, 1) ∧ decode cL_loops 154 = .ok (.invokevirtual 20, 3) ∧ decode cL_loops 157 = .ok (.iload 4, 2) ∧ decode cL_loops 159 = .ok (.iconst 1, 1) ∧ decode cL_loops 160 = .ok (.iadd, 1) ∧ decode cL_loops 161 = .ok (.if_icmp .ne 48, 3) ∧ decode cL_loops 164 = .ok (.aload_n 0, 1) ∧ decode cL_loops 165 = .ok (.iload 8, 2) ∧ decode cL_loops 167 = .ok (.iconst 1, 1) ∧ decode cL_loops 168 = .ok (.invokevirtual 27, 3) ∧ decode cL_loops 171 = .ok (.aload_n 0, 1) ∧ decode cL_loops 172 = .ok (.iload 5, 2) ∧ decode cL_loops 174 = .ok (.iconst 0, 1) ∧ decode cL_loops 175 = .ok (.invokevirtual 27, 3) ∧ decode cL_loops 178 = .ok (.if_icmp .ne 31, 3) ∧ decode cL_loops 181 = .ok (.aload_n 0, 1) := by decide +kernel
theorem dL_loops_153 : Dc cL_loops 153 (.iconst 4) 1 154 := ⟨DL_loops_c5.1, rfl⟩
theorem dL_loops_154 : Dc cL_loops 154 (.invokevirtual 20) 3 157 := ⟨DL_loops_c5.2.1, rfl⟩
theorem dL_loops_157 : Dc cL_loops 157 (.iload 4) 2 159 := ⟨DL_loops_c5.2.2.1, rfl⟩
theorem dL_loops_159 : Dc cL_loops 159 (.iconst 1) 1 160 := ⟨DL_loops_c5.2.2.2.1, rfl⟩
theorem dL_loops_160 : Dc cL_loops 160 (.iadd) 1 161 := ⟨DL_loops_c5.2.2.2.2.1, rfl⟩
theorem dL_loops_161 : Db cL_loops 161 (fun o => .if_icmp .ne o) 164 209 := ⟨48, DL_loops_c5.2.2.2.2.2.1, rfl, rfl⟩
theorem dL_loops_164 : Dc cL_loops 164 (.aload_n 0) 1 165 := ⟨DL_loops_c5.2.2.2.2.2.2.1, rfl⟩
theorem dL_loops_165 : Dc cL_loops 165 (.iload 8) 2 167 := ⟨DL_loops_c5.2.2.2.2.2.2.2.1, rfl⟩
theorem dL_loops_167 : Dc cL_loops 167 (.iconst 1) 1 168 := ⟨DL_loops_c5.2.2.2.2.2.2.2.2.1, rfl⟩
theorem dL_loops_168 : Dc cL_loops 168 (.invokevirtual 27) 3 171 := ⟨DL_loops_c5.2.2.2.2.2.2.2.2.2.1, rfl⟩
theorem dL_loops_171 : Dc cL_loops 171 (.aload_n 0) 1 172 := ⟨DL_loops_c5.2.2.2.2.2.2.2.2.2.2.1, rfl⟩
theorem dL_loops_172 : Dc cL_loops 172 (.iload 5) 2 174 := ⟨DL_loops_c5.2.2.2.2.2.2.2.2.2.2.2.1, rfl⟩
theorem dL_loops_174 : Dc cL_loops 174 (.iconst 0) 1 175 := ⟨DL_loops_c5.2.2.2.2.2.2.2.2.2.2.2.2.1, rfl⟩
theorem dL_loops_175 : Dc cL_loops 175 (.invokevirtual 27) 3 178 := ⟨DL_loops_c5.2.2.2.2.2.2.2.2.2.2.2.2.2.1, rfl⟩
theorem dL_loops_178 : Db cL_loops 178 (fun o => .if_icmp .ne o) 181 209 := ⟨31, DL_loops_c5.2.2.2.2.2.2.2.2.2.2.2.2.2.2.1, rfl, rfl⟩
theorem dL_loops_181 : Dc cL_loops 181 (.aload_n 0) 1 182 := ⟨DL_loops_c5.2.2.2.2.2.2.2.2.2.2.2.2.2.2.2, rfl⟩
theorem DL_loops_c6 : decode cL_loops 182 = .ok (.iload 8, 2) ∧ decode cL_loops 184 = .ok (.iconst 2, 1) ∧ decode cL_loops 185 = .ok (.invokevirtual 27, 3) ∧ decode cL_loops 188 = .ok (.iconst 2, 1) ∧ decode cL_loops 189 = .ok (.if_icmp .ne 20, 3) ∧ decode cL_loops 192 = .ok (.aload_n 0, 1) ∧ decode cL_loops 193 = .ok (.iload 8, 2) ∧ decode cL_loops 195 = .ok (.iload 5, 2) ∧ decode cL_loops 197 = .ok (.invokevirtual 51, 3) ∧ decode cL_loops 200 = .ok (.iconst 1, 1) ∧ decode cL_loops 201 = .ok (.if_icmp .ne 8, 3) ∧ decode cL_loops 204 = .ok (.iload 8, 2) ∧ decode cL_loops 206 = .ok (.goto 5, 3) ∧ decode cL_loops 209 = .ok (.bipush (-9), 2) ∧ decode cL_loops 211 = .ok (.ireturn, 1) ∧ decode cL_loops 212 = .ok (.iload_n 1, 1) := by decide +kernel
theorem dL_loops_182 : Dc cL_loops 182 (.iload 8) 2 184 := ⟨DL_loops_c6.1, rfl⟩
theorem dL_loops_184 : Dc cL_loops 184 (.iconst 2) 1 185 := ⟨DL_loops_c6.2.1, rfl⟩
theorem dL_loops_185 : Dc cL_loops 185 (.invokevirtual 27) 3 188 := ⟨DL_loops_c6.2.2.1, rfl⟩
theorem dL_loops_188 : Dc cL_loops 188 (.iconst 2) 1 189 := ⟨DL_loops_c6.2.2.2.1, rfl⟩
theorem dL_loops_189 : Db cL_loops 189 (fun o => .if_icmp .ne o) 192 209 := ⟨20, DL_loops_c6.2.2.2.2.1, rfl, rfl⟩
theorem dL_loops_192 : Dc cL_loops 192 (.aload_n 0) 1 193 := ⟨DL_loops_c6.2.2.2.2.2.1, rfl⟩
theorem dL_loops_193 : Dc cL_loops 193 (.iload 8) 2 195 := ⟨DL_loops_c6.2.2.2.2.2.2.1, rfl⟩
theorem dL_loops_195 : Dc cL_loops 195 (.iload 5) 2 197 := ⟨DL_loops_c6.2.2.2.2.2.2.2.1, rfl⟩
theorem dL_loops_197 : Dc cL_loops 197 (.invokevirtual 51) 3 200 := ⟨DL_loops_c6.2.2.2.2.2.2.2.2.1, rfl⟩
theorem dL_loops_200 : Dc cL_loops 200 (.iconst 1) 1 201 := ⟨DL_loops_c6.2.2.2.2.2.2.2.2.2.1, rfl⟩
theorem dL_loops_201 : Db cL_loops 201 (fun o => .if_icmp .ne o) 204 209 := ⟨8, DL_loops_c6.2.2.2.2.2.2.2.2.2.2.1, rfl, rfl⟩
theorem dL_loops_204 : Dc cL_loops 204 (.iload 8) 2 206 := ⟨DL_loops_c6.2.2.2.2.2.2.2.2.2.2.2.1, rfl⟩
theorem dL_loops_206 : Db cL_loops 206 .goto 209 211 := ⟨5, DL_loops_c6.2.2.2.2.2.2.2.2.2.2.2.2.1, rfl, rfl⟩
theorem dL_loops_209 : Dc cL_loops 209 (.bipush (-9)) 2 211 := ⟨DL_loops_c6.2.2.2.2.2.2.2.2.2.2.2.2.2.1, rfl⟩
theorem dL_loops_211 : Dc cL_loops 211 (.ireturn) 1 212 := ⟨DL_loops_c6.2.2.2.2.2.2.2.2.2.2.2.2.2.2.1, rfl⟩
theorem dL_loops_212 : Dc cL_loops 212 (.iload_n 1) 1 213 := ⟨DL_loops_c6.2.2.2.2.2.2.2.2.2.2.2.2.2.2.2, rfl⟩
theorem DL_loops_c7 : decode cL_loops 213 = .ok (.iconst 1, 1) ∧ decode cL_loops 214 = .ok (.if_icmp .ne 129, 3) ∧ decode cL_loops 217 = .ok (.aload_n 0, 1) ∧ decode cL_loops 218 = .ok (.iload 5, 2) ∧ decode cL_loops 220 = .ok (.invokevirtual 70, 3) ∧ decode cL_loops 223 = .ok (.istore 7, 2) ∧ decode cL_loops 225 = .ok (.iload_n 3, 1) ∧ decode cL_loops 226 = .ok (.ifCond .ne 12, 3) ∧ decode cL_loops 229 = .ok (.iload 7, 2) ∧ decode cL_loops 231 = .ok (.iconst (-1), 1) ∧ decode cL_loops 232 = .ok (.if_icmp .ne 108, 3) ∧ decode cL_loops 235 = .ok (.goto 29, 3) ∧ decode cL_loops 238 = .ok (.iload 7, 2) ∧ decode cL_loops 240 = .ok (.bipush (-4), 2) ∧ decode cL_loops 242 = .ok (.if_icmp .eq 22, 3) ∧ decode cL_loops 245 = .ok (.iload 7, 2) := by decide +kernel
theorem dL_loops_213 : Dc cL_loops 213 (.iconst 1) 1 214 := ⟨DL_loops_c7.1, rfl⟩
theorem dL_loops_214 : Db cL_loops 214 (fun o => .if_icmp .ne o) 217 343 := ⟨129, DL_loops_c7.2.1, rfl, rfl⟩
theorem dL_loops_217 : Dc cL_loops 217 (.aload_n 0) 1 218 := ⟨DL_loops_c7.2.2.1, rfl⟩
theorem dL_loops_218 : Dc cL_loops 218 (.iload 5) 2 220 := ⟨DL_loops_c7.2.2.2.1, rfl⟩
theorem dL_loops_220 : Dc cL_loops 220 (.invokevirtual 70) 3 223 := ⟨DL_loops_c7.2.2.2.2.1, rfl⟩
theorem dL_loops_223 : Dc cL_loops 223 (.istore 7) 2 225 := ⟨DL_loops_c7.2.2.2.2.2.1, rfl⟩
theorem dL_loops_225 : Dc cL_loops 225 (.iload_n 3) 1 226 := ⟨DL_loops_c7.2.2.2.2.2.2.1, rfl⟩
theorem dL_loops_226 : Db cL_loops 226 (fun o => .ifCond .ne o) 229 238 := ⟨12, DL_loops_c7.2.2.2.2.2.2.2.1, rfl, rfl⟩
theorem dL_loops_229 : Dc cL_loops 229 (.iload 7) 2 231 := ⟨DL_loops_c7.2.2.2.2.2.2.2.2.1, rfl⟩
theorem dL_loops_231 : Dc cL_loops 231 (.iconst (-1)) 1 232 := ⟨DL_loops_c7.2.2.2.2.2.2.2.2.2.1, rfl⟩
theorem dL_loops_232 : Db cL_loops 232 (fun o => .if_icmp .ne o) 235 340 := ⟨108, DL_loops_c7.2.2.2.2.2.2.2.2.2.2.1, rfl, rfl⟩
theorem dL_loops_235 : Db cL_loops 235 .goto 238 264 := ⟨29, DL_loops_c7.2.2.2.2.2.2.2.2.2.2.2.1, rfl, rfl⟩
theorem dL_loops_238 : Dc cL_loops 238 (.iload 7) 2 240 := ⟨DL_loops_c7.2.2.2.2.2.2.2.2.2.2.2.2.1, rfl⟩
theorem dL_loops_240 : Dc cL_loops 240 (.bipush (-4)) 2 242 := ⟨DL_loops_c7.2.2.2.2.2.2.2.2.2.2.2.2.2.1, rfl⟩
theorem dL_loops_242 : Db cL_loops 242 (fun o => .if_icmp .eq o) 245 264 := ⟨22, DL_loops_c7.2.2.2.2.2.2.2.2.2.2.2.2.2.2.1, rfl, rfl⟩
theorem dL_loops_245 : Dc cL_loops 245 (.iload 7) 2 247 := ⟨DL_loops_c7.2.2.2.2.2.2.2.2.2.2.2.2.2.2.2, rfl⟩
theorem DL_loops_c8 : decode cL_loops 247 = .ok (.iload 4, 2) ∧ decode cL_loops 249 = .ok (.bipush 6, 2) ∧ decode cL_loops 251 = .ok (.if_icmp .ne 8, 3) ∧ decode cL_loops 254 = .ok (.bipush (-3), 2) ∧ decode cL_loops 256 = .ok (.goto 5, 3) ∧ decode cL_loops 259 = .ok (.iload 4, 2) ∧ decode cL_loops 261 = .ok (.if_icmp .ne 79, 3) ∧ decode cL_loops 264 = .ok (.iload 7, 2) ∧ decode cL_loops 266 = .ok (.ifCond .lt 69, 3) ∧ decode cL_loops 269 = .ok (.aload_n 0, 1) ∧ decode cL_loops 270 = .ok (.iconst 4, 1) ∧ decode cL_loops 271 = .ok (.invokevirtual 20, 3) ∧ decode cL_loops 274 = .ok (.iload 4, 2) ∧ decode cL_loops 276 = .ok (.iconst 1, 1) ∧ decode cL_loops 277 = .ok (.iadd, 1) ∧ decode cL_loops 278 = .ok (.if_icmp .ne 62, 3) := by decide +kernel
theorem dL_loops_247 : Dc cL_loops 247 (.iload 4) 2 249 := ⟨DL_loops_c8.1, rfl⟩
theorem dL_loops_249 : Dc cL_loops 249 (.bipush 6) 2 251 := ⟨DL_loops_c8.2.1, rfl⟩
theorem dL_loops_251 : Db cL_loops 251 (fun o => .if_icmp .ne o) 254 259 := ⟨8, DL_loops_c8.2.2.1, rfl, rfl⟩
theorem dL_loops_254 : Dc cL_loops 254 (.bipush (-3)) 2 256 := ⟨DL_loops_c8.2.2.2.1, rfl⟩
theorem dL_loops_256 : Db cL_loops 256 .goto 259 261 := ⟨5, DL_loops_c8.2.2.2.2.1, rfl, rfl⟩
theorem dL_loops_259 : Dc cL_loops 259 (.iload 4) 2 261 := ⟨DL_loops_c8.2.2.2.2.2.1, rfl⟩
theorem dL_loops_261 : Db cL_loops 261 (fun o => .if_icmp .ne o) 264 340 := ⟨79, DL_loops_c8.2.2.2.2.2.2.1, rfl, rfl⟩
theorem dL_loops_264 : Dc cL_loops 264 (.iload 7) 2 266 := ⟨DL_loops_c8.2.2.2.2.2.2.2.1, rfl⟩
theorem dL_loops_266 : Db cL_loops 266 (fun o => .ifCond .lt o) 269 335 := ⟨69, DL_loops_c8.2.2.2.2.2.2.2.2.1, rfl, rfl⟩
theorem dL_loops_269 : Dc cL_loops 269 (.aload_n 0) 1 270 := ⟨DL_loops_c8.2.2.2.2.2.2.2.2.2.1, rfl⟩
theorem dL_loops_270 : Dc cL_loops 270 (.iconst 4) 1 271 := ⟨DL_loops_c8.2.2.2.2.2.2.2.2.2.2.1, rfl⟩
theorem dL_loops_271 : Dc cL_loops 271 (.invokevirtual 20) 3 274 := ⟨DL_loops_c8.2.2.2.2.2.2.2.2.2.2.2.1, rfl⟩
theorem dL_loops_274 : Dc cL_loops 274 (.iload 4) 2 276 := ⟨DL_loops_c8.2.2.2.2.2.2.2.2.2.2.2.2.1, rfl⟩
theorem dL_loops_276 : Dc cL_loops 276 (.iconst 1) 1 277 := ⟨DL_loops_c8.2.2.2.2.2.2.2.2.2.2.2.2.2.1, rfl⟩
theorem dL_loops_277 : Dc cL_loops 277 (.iadd) 1 278 := ⟨DL_loops_c8.2.2.2.2.2.2.2.2.2.2.2.2.2.2.1, rfl⟩
theorem dL_loops_278 : Db cL_loops 278 (fun o => .if_icmp .ne o) 281 340 := ⟨62, DL_loops_c8.2.2.2.2.2.2.2.2.2.2.2.2.2.2.2, rfl, rfl⟩
theorem DL_loops_c9 : decode cL_loops 281 = .ok (.aload_n 0, 1) ∧ decode cL_loops 282 = .ok (.iload 7, 2) ∧ decode cL_loops 284 = .ok (.iconst 2, 1) ∧ decode cL_loops 285 = .ok (.invokevirtual 27, 3) ∧ decode cL_loops 288 = .ok (.iconst 1, 1) ∧ decode cL_loops 289 = .ok (.if_icmp .le 51, 3) ∧ decode cL_loops 292 = .ok (.aload_n 0, 1) ∧ decode cL_loops 293 = .ok (.iload 7, 2) ∧ decode cL_loops 295 = .ok (.iload 5, 2) ∧ decode cL_loops 297 = .ok (.invokevirtual 51, 3) ∧ decode cL_loops 300 = .ok (.aload_n 0, 1) ∧ decode cL_loops 301 = .ok (.iload 7, 2) ∧ decode cL_loops 303 = .ok (.iconst 2, 1) ∧ decode cL_loops 304 = .ok (.invokevirtual 27, 3) ∧ decode cL_loops 307 = .ok (.if_icmp .ne 33, 3) ∧ decode cL_loops 310 = .ok (.aload_n 0, 1) := by decide +kernel
theorem dL_loops_281 : Dc cL_loops 281 (.aload_n 0) 1 282 := ⟨DL_loops_c9.1, rfl⟩
theorem dL_loops_282 : Dc cL_loops 282 (.iload 7) 2 284 := ⟨DL_loops_c9.2.1, rfl⟩
theorem dL_loops_284 : Dc cL_loops 284 (.iconst 2) 1 285 := ⟨DL_loops_c9.2.2.1, rfl⟩
theorem dL_loops_285 : Dc cL_loops 285 (.invokevirtual 27) 3 288 := ⟨DL_loops_c9.2.2.2.1, rfl⟩
theorem dL_loops_288 : Dc cL_loops 288 (.iconst 1) 1 289 := ⟨DL_loops_c9.2.2.2.2.1, rfl⟩
theorem dL_loops_289 : Db cL_loops 289 (fun o => .if_icmp .le o) 292 340 := ⟨51, DL_loops_c9.2.2.2.2.2.1, rfl, rfl⟩
theorem dL_loops_292 : Dc cL_loops 292 (.aload_n 0) 1 293 := ⟨DL_loops_c9.2.2.2.2.2.2.1, rfl⟩
theorem dL_loops_293 : Dc cL_loops 293 (.iload 7) 2 295 := ⟨DL_loops_c9.2.2.2.2.2.2.2.1, rfl⟩
theorem dL_loops_295 : Dc cL_loops 295 (.iload 5) 2 297 := ⟨DL_loops_c9.2.2.2.2.2.2.2.2.1, rfl⟩
theorem dL_loops_297 : Dc cL_loops 297 (.invokevirtual 51) 3 300 := ⟨DL_loops_c9.2.2.2.2.2.2.2.2.2.1, rfl⟩
theorem dL_loops_300 : Dc cL_loops 300 (.aload_n 0) 1 301 := ⟨DL_loops_c9.2.2.2.2.2.2.2.2.2.2.1, rfl⟩
theorem dL_loops_301 : Dc cL_loops 301 (.iload 7) 2 303 := ⟨DL_loops_c9.2.2.2.2.2.2.2.2.2.2.2.1, rfl⟩
theorem dL_loops_303 : Dc cL_loops 303 (.iconst 2) 1 304 := ⟨DL_loops_c9.2.2.2.2.2.2.2.2.2.2.2.2.1, rfl⟩
theorem dL_loops_304 : Dc cL_loops 304 (.invokevirtual 27) 3 307 := ⟨DL_loops_c9.2.2.2.2.2.2.2.2.2.2.2.2.2.1, rfl⟩
theorem dL_loops_307 : Db cL_loops 307 (fun o => .if_icmp .ne o) 310 340 := ⟨33, DL_loops_c9.2.2.2.2.2.2.2.2.2.2.2.2.2.2.1, rfl, rfl⟩
theorem dL_loops_310 : Dc cL_loops 310 (.aload_n 0) 1 311 := ⟨DL_loops_c9.2.2.2.2.2.2.2.2.2.2.2.2.2.2.2, rfl⟩
theorem DL_loops_c10 : decode cL_loops 311 = .ok (.iload 7, 2) ∧ decode cL_loops 313 = .ok (.iconst 1, 1) ∧ decode cL_loops 314 = .ok (.invokevirtual 27, 3) ∧ decode cL_loops 317 = .ok (.aload_n 0, 1) ∧ decode cL_loops 318 = .ok (.iload 7, 2) ∧ decode cL_loops 320 = .ok (.iconst 2, 1) ∧ decode cL_loops 321 = .ok (.invokevirtual 27, 3) ∧ decode cL_loops 324 = .ok (.imul, 1) ∧ decode cL_loops 325 = .ok (.aload_n 0, 1) ∧ decode cL_loops 326 = .ok (.iload 5, 2) ∧ decode cL_loops 328 = .ok (.iconst 0, 1) ∧ decode cL_loops 329 = .ok (.invokevirtual 27, 3) ∧ decode cL_loops 332 = .ok (.if_icmp .ne 8, 3) ∧ decode cL_loops 335 = .ok (.iload 7, 2) ∧ decode cL_loops 337 = .ok (.goto 5, 3) ∧ decode cL_loops 340 = .ok (.bipush (-9), 2) := by decide +kernel
theorem dL_loops_311 : Dc cL_loops 311 (.iload 7) 2 313 := ⟨DL_loops_c10.1, rfl⟩
theorem dL_loops_313 : Dc cL_loops 313 (.iconst 1) 1 314 := ⟨DL_loops_c10.2.1, rfl⟩
theorem dL_loops_314 : Dc cL_loops 314 (.invokevirtual 27) 3 317 := ⟨DL_loops_c10.2.2.1, rfl⟩
theorem dL_loops_317 : Dc cL_loops 317 (.aload_n 0) 1 318 := ⟨DL_loops_c10.2.2.2.1, rfl⟩
theorem dL_loops_318 : Dc cL_loops 318 (.iload 7) 2 320 := ⟨DL_loops_c10.2.2.2.2.1, rfl⟩
theorem dL_loops_320 : Dc cL_loops 320 (.iconst 2) 1 321 := ⟨DL_loops_c10.2.2.2.2.2.1, rfl⟩
theorem dL_loops_321 : Dc cL_loops 321 (.invokevirtual 27) 3 324 := ⟨DL_loops_c10.2.2.2.2.2.2.1, rfl⟩
theorem dL_loops_324 : Dc cL_loops 324 (.imul) 1 325 := ⟨DL_loops_c10.2.2.2.2.2.2.2.1, rfl⟩
theorem dL_loops_325 : Dc cL_loops 325 (.aload_n 0) 1 326 := ⟨DL_loops_c10.2.2.2.2.2.2.2.2.1, rfl⟩
theorem dL_loops_326 : Dc cL_loops 326 (.iload 5) 2 328 := ⟨DL_loops_c10.2.2.2.2.2.2.2.2.2.1, rfl⟩
theorem dL_loops_328 : Dc cL_loops 328 (.iconst 0) 1 329 := ⟨DL_loops_c10.2.2.2.2.2.2.2.2.2.2.1, rfl⟩
theorem dL_loops_329 : Dc cL_loops 329 (.invokevirtual 27) 3 332 := ⟨DL_loops_c10.2.2.2.2.2.2.2.2.2.2.2.1, rfl⟩
theorem dL_loops_332 : Db cL_loops 332 (fun o => .if_icmp .ne o) 335 340 := ⟨8, DL_loops_c10.2.2.2.2.2.2.2.2.2.2.2.2.1, rfl, rfl⟩
theorem dL_loops_335 : Dc cL_loops 335 (.iload 7) 2 337 := ⟨DL_loops_c10.2.2.2.2.2.2.2.2.2.2.2.2.2.1, rfl⟩
theorem dL_loops_337 : Db cL_loops 337 .goto 340 342 := ⟨5, DL_loops_c10.2.2.2.2.2.2.2.2.2.2.2.2.2.2.1, rfl, rfl⟩
theorem dL_loops_340 : Dc cL_loops 340 (.bipush (-9)) 2 342 := ⟨DL_loops_c10.2.2.2.2.2.2.2.2.2.2.2.2.2.2.2, rfl⟩
theorem DL_loops_c11 : decode cL_loops 342 = .ok (.ireturn, 1) ∧ decode cL_loops 343 = .ok (.iload_n 2, 1) ∧ decode cL_loops 344 = .ok (.bipush 6, 2) ∧ decode cL_loops 346 = .ok (.irem, 1) ∧ decode cL_loops 347 = .ok (.istore 7, 2) ∧ decode cL_loops 349 = .ok (.iload_n 1, 1) ∧ decode cL_loops 350 = .ok (.iconst 2, 1) ∧ decode cL_loops 351 = .ok (.if_icmp .ne 86, 3) ∧ decode cL_loops 354 = .ok (.aload_n 0, 1) ∧ decode cL_loops 355 = .ok (.iload 7, 2) ∧ decode cL_loops 357 = .ok (.iconst 2, 1) ∧ decode cL_loops 358 = .ok (.invokevirtual 27, 3) ∧ decode cL_loops 361 = .ok (.istore 8, 2) ∧ decode cL_loops 363 = .ok (.iconst 1, 1) ∧ decode cL_loops 364 = .ok (.iload_n 2, 1) ∧ decode cL_loops 365 = .ok (.bipush 6, 2) := by decide +kernel
theorem dL_loops_342 : Dc cL_loops 342 (.ireturn) 1 343 := ⟨DL_loops_c11.1, rfl⟩
theorem dL_loops_343 : Dc cL_loops 343 (.iload_n 2) 1 344 := ⟨DL_loops_c11.2.1, rfl⟩
theorem dL_loops_344 : Dc cL_loops 344 (.bipush 6) 2 346 := ⟨DL_loops_c11.2.2.1, rfl⟩
theorem dL_loops_346 : Dc cL_loops 346 (.irem) 1 347 := ⟨DL_loops_c11.2.2.2.1, rfl⟩
theorem dL_loops_347 : Dc cL_loops 347 (.istore 7) 2 349 := ⟨DL_loops_c11.2.2.2.2.1, rfl⟩
theorem dL_loops_349 : Dc cL_loops 349 (.iload_n 1) 1 350 := ⟨DL_loops_c11.2.2.2.2.2.1, rfl⟩
theorem dL_loops_350 : Dc cL_loops 350 (.iconst 2) 1 351 := ⟨DL_loops_c11.2.2.2.2.2.2.1, rfl⟩
theorem dL_loops_351 : Db cL_loops 351 (fun o => .if_icmp .ne o) 354 437 := ⟨86, DL_loops_c11.2.2.2.2.2.2.2.1, rfl, rfl⟩
theorem dL_loops_354 : Dc cL_loops 354 (.aload_n 0) 1 355 := ⟨DL_loops_c11.2.2.2.2.2.2.2.2.1, rfl⟩
theorem dL_loops_355 : Dc cL_loops 355 (.iload 7) 2 357 := ⟨DL_loops_c11.2.2.2.2.2.2.2.2.2.1, rfl⟩
theorem dL_loops_357 : Dc cL_loops 357 (.iconst 2) 1 358 := ⟨DL_loops_c11.2.2.2.2.2.2.2.2.2.2.1, rfl⟩
theorem dL_loops_358 : Dc cL_loops 358 (.invokevirtual 27) 3 361 := ⟨DL_loops_c11.2.2.2.2.2.2.2.2.2.2.2.1, rfl⟩
theorem dL_loops_361 : Dc cL_loops 361 (.istore 8) 2 363 := ⟨DL_loops_c11.2.2.2.2.2.2.2.2.2.2.2.2.1, rfl⟩
theorem dL_loops_363 : Dc cL_loops 363 (.iconst 1) 1 364 := ⟨DL_loops_c11.2.2.2.2.2.2.2.2.2.2.2.2.2.1, rfl⟩
theorem dL_loops_364 : Dc cL_loops 364 (.iload_n 2) 1 365 := ⟨DL_loops_c11.2.2.2.2.2.2.2.2.2.2.2.2.2.2.1, rfl⟩
theorem dL_loops_365 : Dc cL_loops 365 (.bipush 6) 2 367 := ⟨DL_loops_c11.2.2.2.2.2.2.2.2.2.2.2.2.2.2.2, rfl⟩
theorem DL_loops_c12 : decode cL_loops 367 = .ok (.idiv, 1) ∧ decode cL_loops 368 = .ok (.bipush 99, 2) ∧ decode cL_loops 370 = .ok (.irem, 1) ∧ decode cL_loops 371 = .ok (.iadd, 1) ∧ decode cL_loops 372 = .ok (.istore 9, 2) ∧ decode cL_loops 374 = .ok (.aload_n 0, 1) ∧ decode cL_loops 375 = .ok (.iload 7, 2) ∧ decode cL_loops 377 = .ok (.iload 9, 2) ∧ decode cL_loops 379 = .ok (.invokevirtual 73, 3) ∧ decode cL_loops 382 = .ok (.istore 10, 2) ∧ decode cL_loops 384 = .ok (.iload 10, 2) ∧ decode cL_loops 386 = .ok (.iload 8, 2) ∧ decode cL_loops 388 = .ok (.ifCond .ge 7, 3) ∧ decode cL_loops 391 = .ok (.iconst (-1), 1) ∧ decode cL_loops 392 = .ok (.goto 17, 3) ∧ decode cL_loops 395 = .ok (.iload 8, 2) := by decide +kernel
theorem dL_loops_367 : Dc cL_loops 367 (.idiv) 1 368 := ⟨DL_loops_c12.1, rfl⟩
theorem dL_loops_368 : Dc cL_loops 368 (.bipush 99) 2 370 := ⟨DL_loops_c12.2.1, rfl⟩
theorem dL_loops_370 : Dc cL_loops 370 (.irem) 1 371 := ⟨DL_loops_c12.2.2.1, rfl⟩
theorem dL_loops_371 : Dc cL_loops 371 (.iadd) 1 372 := ⟨DL_loops_c12.2.2.2.1, rfl⟩
theorem dL_loops_372 : Dc cL_loops 372 (.istore 9) 2 374 := ⟨DL_loops_c12.2.2.2.2.1, rfl⟩
theorem dL_loops_374 : Dc cL_loops 374 (.aload_n 0) 1 375 := ⟨DL_loops_c12.2.2.2.2.2.1, rfl⟩
theorem dL_loops_375 : Dc cL_loops 375 (.iload 7) 2 377 := ⟨DL_loops_c12.2.2.2.2.2.2.1, rfl⟩
theorem dL_loops_377 : Dc cL_loops 377 (.iload 9) 2 379 := ⟨DL_loops_c12.2.2.2.2.2.2.2.1, rfl⟩
theorem dL_loops_379 : Dc cL_loops 379 (.invokevirtual 73) 3 382 := ⟨DL_loops_c12.2.2.2.2.2.2.2.2.1, rfl⟩
theorem dL_loops_382 : Dc cL_loops 382 (.istore 10) 2 384 := ⟨DL_loops_c12.2.2.2.2.2.2.2.2.2.1, rfl⟩
theorem dL_loops_384 : Dc cL_loops 384 (.iload 10) 2 386 := ⟨DL_loops_c12.2.2.2.2.2.2.2.2.2.2.1, rfl⟩
theorem dL_loops_386 : Dc cL_loops 386 (.iload 8) 2 388 := ⟨DL_loops_c12.2.2.2.2.2.2.2.2.2.2.2.1, rfl⟩
theorem dL_loops_388 : Db cL_loops 388 (fun o => .ifCond .ge o) 391 395 := ⟨7, DL_loops_c12.2.2.2.2.2.2.2.2.2.2.2.2.1, rfl, rfl⟩
theorem dL_loops_391 : Dc cL_loops 391 (.iconst (-1)) 1 392 := ⟨DL_loops_c12.2.2.2.2.2.2.2.2.2.2.2.2.2.1, rfl⟩
theorem dL_loops_392 : Db cL_loops 392 .goto 395 409 := ⟨17, DL_loops_c12.2.2.2.2.2.2.2.2.2.2.2.2.2.2.1, rfl, rfl⟩
theorem dL_loops_395 : Dc cL_loops 395 (.iload 8) 2 397 := ⟨DL_loops_c12.2.2.2.2.2.2.2.2.2.2.2.2.2.2.2, rfl⟩
theorem DL_loops_c13 : decode cL_loops 397 = .ok (.iload 9, 2) ∧ decode cL_loops 399 = .ok (.if_icmp .ne 8, 3) ∧ decode cL_loops 402 = .ok (.bipush (-5), 2) ∧ decode cL_loops 404 = .ok (.goto 5, 3) ∧ decode cL_loops 407 = .ok (.iload 8, 2) ∧ decode cL_loops 409 = .ok (.if_icmp .ne 25, 3) ∧ decode cL_loops 412 = .ok (.iload 8, 2) ∧ decode cL_loops 414 = .ok (.ifCond .lt 15, 3) ∧ decode cL_loops 417 = .ok (.aload_n 0, 1) ∧ decode cL_loops 418 = .ok (.iload 7, 2) ∧ decode cL_loops 420 = .ok (.iconst 2, 1) ∧ decode cL_loops 421 = .ok (.invokevirtual 27, 3) ∧ decode cL_loops 424 = .ok (.iload 9, 2) ∧ decode cL_loops 426 = .ok (.if_icmp .ne 8, 3) ∧ decode cL_loops 429 = .ok (.iload 10, 2) ∧ decode cL_loops 431 = .ok (.goto 5, 3) := by decide +kernel
theorem dL_loops_397 : Dc cL_loops 397 (.iload 9) 2 399 := ⟨DL_loops_c13.1, rfl⟩
theorem dL_loops_399 : Db cL_loops 399 (fun o => .if_icmp .ne o) 402 407 := ⟨8, DL_loops_c13.2.1, rfl, rfl⟩
theorem dL_loops_402 : Dc cL_loops 402 (.bipush (-5)) 2 404 := ⟨DL_loops_c13.2.2.1, rfl⟩
theorem dL_loops_404 : Db cL_loops 404 .goto 407 409 := ⟨5, DL_loops_c13.2.2.2.1, rfl, rfl⟩
theorem dL_loops_407 : Dc cL_loops 407 (.iload 8) 2 409 := ⟨DL_loops_c13.2.2.2.2.1, rfl⟩
theorem dL_loops_409 : Db cL_loops 409 (fun o => .if_icmp .ne o) 412 434 := ⟨25, DL_loops_c13.2.2.2.2.2.1, rfl, rfl⟩
theorem dL_loops_412 : Dc cL_loops 412 (.iload 8) 2 414 := ⟨DL_loops_c13.2.2.2.2.2.2.1, rfl⟩
theorem dL_loops_414 : Db cL_loops 414 (fun o => .ifCond .lt o) 417 429 := ⟨15, DL_loops_c13.2.2.2.2.2.2.2.1, rfl, rfl⟩
theorem dL_loops_417 : Dc cL_loops 417 (.aload_n 0) 1 418 := ⟨DL_loops_c13.2.2.2.2.2.2.2.2.1, rfl⟩
theorem dL_loops_418 : Dc cL_loops 418 (.iload 7) 2 420 := ⟨DL_loops_c13.2.2.2.2.2.2.2.2.2.1, rfl⟩
theorem dL_loops_420 : Dc cL_loops 420 (.iconst 2) 1 421 := ⟨DL_loops_c13.2.2.2.2.2.2.2.2.2.2.1, rfl⟩
theorem dL_loops_421 : Dc cL_loops 421 (.invokevirtual 27) 3 424 := ⟨DL_loops_c13.2.2.2.2.2.2.2.2.2.2.2.1, rfl⟩
theorem dL_loops_424 : Dc cL_loops 424 (.iload 9) 2 426 := ⟨DL_loops_c13.2.2.2.2.2.2.2.2.2.2.2.2.1, rfl⟩
theorem dL_loops_426 : Db cL_loops 426 (fun o => .if_icmp .ne o) 429 434 := ⟨8, DL_loops_c13.2.2.2.2.2.2.2.2.2.2.2.2.2.1, rfl, rfl⟩
theorem dL_loops_429 : Dc cL_loops 429 (.iload 10) 2 431 := ⟨DL_loops_c13.2.2.2.2.2.2.2.2.2.2.2.2.2.2.1, rfl⟩
theorem dL_loops_431 : Db cL_loops 431 .goto 434 436 := ⟨5, DL_loops_c13.2.2.2.2.2.2.2.2.2.2.2.2.2.2.2, rfl, rfl⟩
theorem DL_loops_c14 : decode cL_loops 434 = .ok (.bipush (-9), 2) ∧ decode cL_loops 436 = .ok (.ireturn, 1) ∧ decode cL_loops 437 = .ok (.iload_n 1, 1) ∧ decode cL_loops 438 = .ok (.iconst 3, 1) ∧ decode cL_loops 439 = .ok (.if_icmp .ne 67, 3) ∧ decode cL_loops 442 = .ok (.aload_n 0, 1) ∧ decode cL_loops 443 = .ok (.iload 7, 2) ∧ decode cL_loops 445 = .ok (.iconst 1, 1) ∧ decode cL_loops 446 = .ok (.iadd, 1) ∧ decode cL_loops 447 = .ok (.iconst 2, 1) ∧ decode cL_loops 448 = .ok (.invokevirtual 27, 3) ∧ decode cL_loops 451 = .ok (.istore 8, 2) ∧ decode cL_loops 453 = .ok (.aload_n 0, 1) ∧ decode cL_loops 454 = .ok (.iload 7, 2) ∧ decode cL_loops 456 = .ok (.invokevirtual 76, 3) ∧ decode cL_loops 459 = .ok (.istore 9, 2) := by decide +kernel
theorem dL_loops_434 : Dc cL_loops 434 (.bipush (-9)) 2 436 := ⟨DL_loops_c14.1, rfl⟩
theorem dL_loops_436 : Dc cL_loops 436 (.ireturn) 1 437 := ⟨DL_loops_c14.2.1, rfl⟩
theorem dL_loops_437 : Dc cL_loops 437 (.iload_n 1) 1 438 := ⟨DL_loops_c14.2.2.1, rfl⟩
theorem dL_loops_438 : Dc cL_loops 438 (.iconst 3) 1 439 := ⟨DL_loops_c14.2.2.2.1, rfl⟩
theorem dL_loops_439 : Db cL_loops 439 (fun o => .if_icmp .ne o) 442 506 := ⟨67, DL_loops_c14.2.2.2.2.1, rfl, rfl⟩
theorem dL_loops_442 : Dc cL_loops 442 (.aload_n 0) 1 443 := ⟨DL_loops_c14.2.2.2.2.2.1, rfl⟩
theorem dL_loops_443 : Dc cL_loops 443 (.iload 7) 2 445 := ⟨DL_loops_c14.2.2.2.2.2.2.1, rfl⟩
theorem dL_loops_445 : Dc cL_loops 445 (.iconst 1) 1 446 := ⟨DL_loops_c14.2.2.2.2.2.2.2.1, rfl⟩
theorem dL_loops_446 : Dc cL_loops 446 (.iadd) 1 447 := ⟨DL_loops_c14.2.2.2.2.2.2.2.2.1, rfl⟩
theorem dL_loops_447 : Dc cL_loops 447 (.iconst 2) 1 448 := ⟨DL_loops_c14.2.2.2.2.2.2.2.2.2.1, rfl⟩
theorem dL_loops_448 : Dc cL_loops 448 (.invokevirtual 27) 3 451 := ⟨DL_loops_c14.2.2.2.2.2.2.2.2.2.2.1, rfl⟩
theorem dL_loops_451 : Dc cL_loops 451 (.istore 8) 2 453 := ⟨DL_loops_c14.2.2.2.2.2.2.2.2.2.2.2.1, rfl⟩
theorem dL_loops_453 : Dc cL_loops 453 (.aload_n 0) 1 454 := ⟨DL_loops_c14.2.2.2.2.2.2.2.2.2.2.2.2.1, rfl⟩
theorem dL_loops_454 : Dc cL_loops 454 (.iload 7) 2 456 := ⟨DL_loops_c14.2.2.2.2.2.2.2.2.2.2.2.2.2.1, rfl⟩
theorem dL_loops_456 : Dc cL_loops 456 (.invokevirtual 76) 3 459 := ⟨DL_loops_c14.2.2.2.2.2.2.2.2.2.2.2.2.2.2.1, rfl⟩
theorem dL_loops_459 : Dc cL_loops 459 (.istore 9) 2 461 := ⟨DL_loops_c14.2.2.2.2.2.2.2.2.2.2.2.2.2.2.2, rfl⟩
theorem DL_loops_c15 : decode cL_loops 461 = .ok (.iload 9, 2) ∧ decode cL_loops 463 = .ok (.iload 7, 2) ∧ decode cL_loops 465 = .ok (.iload 4, 2) ∧ decode cL_loops 467 = .ok (.if_icmp .lt 7, 3) ∧ decode cL_loops 470 = .ok (.iconst (-1), 1) ∧ decode cL_loops 471 = .ok (.goto 7, 3) ∧ decode cL_loops 474 = .ok (.iload 4, 2) ∧ decode cL_loops 476 = .ok (.iconst 1, 1) ∧ decode cL_loops 477 = .ok (.isub, 1) ∧ decode cL_loops 478 = .ok (.if_icmp .ne 25, 3) ∧ decode cL_loops 481 = .ok (.iload 9, 2) ∧ decode cL_loops 483 = .ok (.ifCond .lt 15, 3) ∧ decode cL_loops 486 = .ok (.aload_n 0, 1) ∧ decode cL_loops 487 = .ok (.iload 7, 2) ∧ decode cL_loops 489 = .ok (.iconst 2, 1) ∧ decode cL_loops 490 = .ok (.invokevirtual 27, 3) := by decide +kernel
theorem dL_loops_461 : Dc cL_loops 461 (.iload 9) 2 463 := ⟨DL_loops_c15.1, rfl⟩
theorem dL_loops_463 : Dc cL_loops 463 (.iload 7) 2 465 := ⟨DL_loops_c15.2.1, rfl⟩
theorem dL_loops_465 : Dc cL_loops 465 (.iload 4) 2 467 := ⟨DL_loops_c15.2.2.1, rfl⟩
theorem dL_loops_467 : Db cL_loops 467 (fun o => .if_icmp .lt o) 470 474 := ⟨7, DL_loops_c15.2.2.2.1, rfl, rfl⟩
theorem dL_loops_470 : Dc cL_loops 470 (.iconst (-1)) 1 471 := ⟨DL_loops_c15.2.2.2.2.1, rfl⟩
theorem dL_loops_471 : Db cL_loops 471 .goto 474 478 := ⟨7, DL_loops_c15.2.2.2.2.2.1, rfl, rfl⟩
theorem dL_loops_474 : Dc cL_loops 474 (.iload 4) 2 476 := ⟨DL_loops_c15.2.2.2.2.2.2.1, rfl⟩
theorem dL_loops_476 : Dc cL_loops 476 (.iconst 1) 1 477 := ⟨DL_loops_c15.2.2.2.2.2.2.2.1, rfl⟩
theorem dL_loops_477 : Dc cL_loops 477 (.isub) 1 478 := ⟨DL_loops_c15.2.2.2.2.2.2.2.2.1, rfl⟩
theorem dL_loops_478 : Db cL_loops 478 (fun o => .if_icmp .ne o) 481 503 := ⟨25, DL_loops_c15.2.2.2.2.2.2.2.2.2.1, rfl, rfl⟩
theorem dL_loops_481 : Dc cL_loops 481 (.iload 9) 2 483 := ⟨DL_loops_c15.2.2.2.2.2.2.2.2.2.2.1, rfl⟩
theorem dL_loops_483 : Db cL_loops 483 (fun o => .ifCond .lt o) 486 498 := ⟨15, DL_loops_c15.2.2.2.2.2.2.2.2.2.2.2.1, rfl, rfl⟩
theorem dL_loops_486 : Dc cL_loops 486 (.aload_n 0) 1 487 := ⟨DL_loops_c15.2.2.2.2.2.2.2.2.2.2.2.2.1, rfl⟩
theorem dL_loops_487 : Dc cL_loops 487 (.iload 7) 2 489 := ⟨DL_loops_c15.2.2.2.2.2.2.2.2.2.2.2.2.2.1, rfl⟩
theorem dL_loops_489 : Dc cL_loops 489 (.iconst 2) 1 490 := ⟨DL_loops_c15.2.2.2.2.2.2.2.2.2.2.2.2.2.2.1, rfl⟩
theorem dL_loops_490 : Dc cL_loops 490 (.invokevirtual 27) 3 493 := ⟨DL_loops_c15.2.2.2.2.2.2.2.2.2.2.2.2.2.2.2, rfl⟩
theorem DL_loops_c16 : decode cL_loops 493 = .ok (.iload 8, 2) ∧ decode cL_loops 495 = .ok (.if_icmp .ne 8, 3) ∧ decode cL_loops 498 = .ok (.iload 9, 2) ∧ decode cL_loops 500 = .ok (.goto 5, 3) ∧ decode cL_loops 503 = .ok (.bipush (-9), 2) ∧ decode cL_loops 505 = .ok (.ireturn, 1) ∧ decode cL_loops 506 = .ok (.aload_n 0, 1) ∧ decode cL_loops 507 = .ok (.iload 7, 2) ∧ decode cL_loops 509 = .ok (.iconst 2, 1) ∧ decode cL_loops 510 = .ok (.invokevirtual 27, 3) ∧ decode cL_loops 513 = .ok (.istore 8, 2) ∧ decode cL_loops 515 = .ok (.iload 8, 2) ∧ decode cL_loops 517 = .ok (.ifCond .ge 7, 3) ∧ decode cL_loops 520 = .ok (.iconst 0, 1) ∧ decode cL_loops 521 = .ok (.goto 12, 3) ∧ decode cL_loops 524 = .ok (.aload_n 0, 1) := by decide +kernel
theorem dL_loops_493 : Dc cL_loops 493 (.iload 8) 2 495 := ⟨DL_loops_c16.1, rfl⟩
theorem dL_loops_495 : Db cL_loops 495 (fun o => .if_icmp .ne o) 498 503 := ⟨8, DL_loops_c16.2.1, rfl, rfl⟩
theorem dL_loops_498 : Dc cL_loops 498 (.iload 9) 2 500 := ⟨DL_loops_c16.2.2.1, rfl⟩
theorem dL_loops_500 : Db cL_loops 500 .goto 503 505 := ⟨5, DL_loops_c16.2.2.2.1, rfl, rfl⟩
theorem dL_loops_503 : Dc cL_loops 503 (.bipush (-9)) 2 505 := ⟨DL_loops_c16.2.2.2.2.1, rfl⟩
theorem dL_loops_505 : Dc cL_loops 505 (.ireturn) 1 506 := ⟨DL_loops_c16.2.2.2.2.2.1, rfl⟩
theorem dL_loops_506 : Dc cL_loops 506 (.aload_n 0) 1 507 := ⟨DL_loops_c16.2.2.2.2.2.2.1, rfl⟩
theorem dL_loops_507 : Dc cL_loops 507 (.iload 7) 2 509 := ⟨DL_loops_c16.2.2.2.2.2.2.2.1, rfl⟩
theorem dL_loops_509 : Dc cL_loops 509 (.iconst 2) 1 510 := ⟨DL_loops_c16.2.2.2.2.2.2.2.2.1, rfl⟩
theorem dL_loops_510 : Dc cL_loops 510 (.invokevirtual 27) 3 513 := ⟨DL_loops_c16.2.2.2.2.2.2.2.2.2.1, rfl⟩
theorem dL_loops_513 : Dc cL_loops 513 (.istore 8) 2 515 := ⟨DL_loops_c16.2.2.2.2.2.2.2.2.2.2.1, rfl⟩
theorem dL_loops_515 : Dc cL_loops 515 (.iload 8) 2 517 := ⟨DL_loops_c16.2.2.2.2.2.2.2.2.2.2.2.1, rfl⟩
theorem dL_loops_517 : Db cL_loops 517 (fun o => .ifCond .ge o) 520 524 := ⟨7, DL_loops_c16.2.2.2.2.2.2.2.2.2.2.2.2.1, rfl, rfl⟩
theorem dL_loops_520 : Dc cL_loops 520 (.iconst 0) 1 521 := ⟨DL_loops_c16.2.2.2.2.2.2.2.2.2.2.2.2.2.1, rfl⟩
theorem dL_loops_521 : Db cL_loops 521 .goto 524 533 := ⟨12, DL_loops_c16.2.2.2.2.2.2.2.2.2.2.2.2.2.2.1, rfl, rfl⟩
theorem dL_loops_524 : Dc cL_loops 524 (.aload_n 0) 1 525 := ⟨DL_loops_c16.2.2.2.2.2.2.2.2.2.2.2.2.2.2.2, rfl⟩
theorem DL_loops_c17 : decode cL_loops 525 = .ok (.iload 7, 2) ∧ decode cL_loops 527 = .ok (.iload 8, 2) ∧ decode cL_loops 529 = .ok (.iconst 0, 1) ∧ decode cL_loops 530 = .ok (.invokevirtual 48, 3) ∧ decode cL_loops 533 = .ok (.istore 9, 2) ∧ decode cL_loops 535 = .ok (.iload 8, 2) ∧ decode cL_loops 537 = .ok (.ifCond .ge 7, 3) ∧ decode cL_loops 540 = .ok (.iconst 0, 1) ∧ decode cL_loops 541 = .ok (.goto 12, 3) ∧ decode cL_loops 544 = .ok (.aload_n 0, 1) ∧ decode cL_loops 545 = .ok (.iload 7, 2) ∧ decode cL_loops 547 = .ok (.iload 8, 2) ∧ decode cL_loops 549 = .ok (.iconst 1, 1) ∧ decode cL_loops 550 = .ok (.invokevirtual 48, 3) ∧ decode cL_loops 553 = .ok (.istore 10, 2) ∧ decode cL_loops 555 = .ok (.iload 8, 2) := by decide +kernel
theorem dL_loops_525 : Dc cL_loops 525 (.iload 7) 2 527 := ⟨DL_loops_c17.1, rfl⟩
theorem dL_loops_527 : Dc cL_loops 527 (.iload 8) 2 529 := ⟨DL_loops_c17.2.1, rfl⟩
theorem dL_loops_529 : Dc cL_loops 529 (.iconst 0) 1 530 := ⟨DL_loops_c17.2.2.1, rfl⟩
theorem dL_loops_530 : Dc cL_loops 530 (.invokevirtual 48) 3 533 := ⟨DL_loops_c17.2.2.2.1, rfl⟩
theorem dL_loops_533 : Dc cL_loops 533 (.istore 9) 2 535 := ⟨DL_loops_c17.2.2.2.2.1, rfl⟩
theorem dL_loops_535 : Dc cL_loops 535 (.iload 8) 2 537 := ⟨DL_loops_c17.2.2.2.2.2.1, rfl⟩
theorem dL_loops_537 : Db cL_loops 537 (fun o => .ifCond .ge o) 540 544 := ⟨7, DL_loops_c17.2.2.2.2.2.2.1, rfl, rfl⟩
theorem dL_loops_540 : Dc cL_loops 540 (.iconst 0) 1 541 := ⟨DL_loops_c17.2.2.2.2.2.2.2.1, rfl⟩
theorem dL_loops_541 : Db cL_loops 541 .goto 544 553 := ⟨12, DL_loops_c17.2.2.2.2.2.2.2.2.1, rfl, rfl⟩
theorem dL_loops_544 : Dc cL_loops 544 (.aload_n 0) 1 545 := ⟨DL_loops_c17.2.2.2.2.2.2.2.2.2.1, rfl⟩
theorem dL_loops_545 : Dc cL_loops 545 (.iload 7) 2 547 := ⟨DL_loops_c17.2.2.2.2.2.2.2.2.2.2.1, rfl⟩
theorem dL_loops_547 : Dc cL_loops 547 (.iload 8) 2 549 := ⟨DL_loops_c17.2.2.2.2.2.2.2.2.2.2.2.1, rfl⟩
theorem dL_loops_549 : Dc cL_loops 549 (.iconst 1) 1 550 := ⟨DL_loops_c17.2.2.2.2.2.2.2.2.2.2.2.2.1, rfl⟩
theorem dL_loops_550 : Dc cL_loops 550 (.invokevirtual 48) 3 553 := ⟨DL_loops_c17.2.2.2.2.2.2.2.2.2.2.2.2.2.1, rfl⟩
theorem dL_loops_553 : Dc cL_loops 553 (.istore 10) 2 555 := ⟨DL_loops_c17.2.2.2.2.2.2.2.2.2.2.2.2.2.2.1, rfl⟩
theorem dL_loops_555 : Dc cL_loops 555 (.iload 8) 2 557 := ⟨DL_loops_c17.2.2.2.2.2.2.2.2.2.2.2.2.2.2.2, rfl⟩
theorem DL_loops_c18 : decode cL_loops 557 = .ok (.ifCond .ge 7, 3) ∧ decode cL_loops 560 = .ok (.iconst 0, 1) ∧ decode cL_loops 561 = .ok (.goto 12, 3) ∧ decode cL_loops 564 = .ok (.aload_n 0, 1) ∧ decode cL_loops 565 = .ok (.iload 7, 2) ∧ decode cL_loops 567 = .ok (.iload 8, 2) ∧ decode cL_loops 569 = .ok (.iconst 2, 1) ∧ decode cL_loops 570 = .ok (.invokevirtual 48, 3) ∧ decode cL_loops 573 = .ok (.istore 11, 2) ∧ decode cL_loops 575 = .ok (.iload 8, 2) ∧ decode cL_loops 577 = .ok (.ifCond .ge 7, 3) ∧ decode cL_loops 580 = .ok (.iconst 0, 1) ∧ decode cL_loops 581 = .ok (.goto 12, 3) ∧ decode cL_loops 584 = .ok (.aload_n 0, 1) ∧ decode cL_loops 585 = .ok (.iload 7, 2) ∧ decode cL_loops 587 = .ok (.iload 8, 2) := by decide +kernel
theorem dL_loops_557 : Db cL_loops 557 (fun o => .ifCond .ge o) 560 564 := ⟨7, DL_loops_c18.1, rfl, rfl⟩
theorem dL_loops_560 : Dc cL_loops 560 (.iconst 0) 1 561 := ⟨DL_loops_c18.2.1, rfl⟩
theorem dL_loops_561 : Db cL_loops 561 .goto 564 573 := ⟨12, DL_loops_c18.2.2.1, rfl, rfl⟩
theorem dL_loops_564 : Dc cL_loops 564 (.aload_n 0) 1 565 := ⟨DL_loops_c18.2.2.2.1, rfl⟩
theorem dL_loops_565 : Dc cL_loops 565 (.iload 7) 2 567 := ⟨DL_loops_c18.2.2.2.2.1, rfl⟩
theorem dL_loops_567 : Dc cL_loops 567 (.iload 8) 2 569 := ⟨DL_loops_c18.2.2.2.2.2.1, rfl⟩
theorem dL_loops_569 : Dc cL_loops 569 (.iconst 2) 1 570 := ⟨DL_loops_c18.2.2.2.2.2.2.1, rfl⟩
theorem dL_loops_570 : Dc cL_loops 570 (.invokevirtual 48) 3 573 := ⟨DL_loops_c18.2.2.2.2.2.2.2.1, rfl⟩
theorem dL_loops_573 : Dc cL_loops 573 (.istore 11) 2 575 := ⟨DL_loops_c18.2.2.2.2.2.2.2.2.1, rfl⟩
theorem dL_loops_575 : Dc cL_loops 575 (.iload 8) 2 577 := ⟨DL_loops_c18.2.2.2.2.2.2.2.2.2.1, rfl⟩
theorem dL_loops_577 : Db cL_loops 577 (fun o => .ifCond .ge o) 580 584 := ⟨7, DL_loops_c18.2.2.2.2.2.2.2.2.2.2.1, rfl, rfl⟩
theorem dL_loops_580 : Dc cL_loops 580 (.iconst 0) 1 581 := ⟨DL_loops_c18.2.2.2.2.2.2.2.2.2.2.2.1, rfl⟩
theorem dL_loops_581 : Db cL_loops 581 .goto 584 593 := ⟨12, DL_loops_c18.2.2.2.2.2.2.2.2.2.2.2.2.1, rfl, rfl⟩
theorem dL_loops_584 : Dc cL_loops 584 (.aload_n 0) 1 585 := ⟨DL_loops_c18.2.2.2.2.2.2.2.2.2.2.2.2.2.1, rfl⟩
theorem dL_loops_585 : Dc cL_loops 585 (.iload 7) 2 587 := ⟨DL_loops_c18.2.2.2.2.2.2.2.2.2.2.2.2.2.2.1, rfl⟩
theorem dL_loops_587 : Dc cL_loops 587 (.iload 8) 2 589 := ⟨DL_loops_c18.2.2.2.2.2.2.2.2.2.2.2.2.2.2.2, rfl⟩
theorem DL_loops_c19 : decode cL_loops 589 = .ok (.iconst 3, 1) ∧ decode cL_loops 590 = .ok (.invokevirtual 48, 3) ∧ decode cL_loops 593 = .ok (.istore 12, 2) ∧ decode cL_loops 595 = .ok (.aload_n 0, 1) ∧ decode cL_loops 596 = .ok (.iconst 5, 1) ∧ decode cL_loops 597 = .ok (.invokevirtual 20, 3) ∧ decode cL_loops 600 = .ok (.istore 13, 2) ∧ decode cL_loops 602 = .ok (.aload_n 0, 1) ∧ decode cL_loops 603 = .ok (.bipush 7, 2) ∧ decode cL_loops 605 = .ok (.invokevirtual 20, 3) ∧ decode cL_loops 608 = .ok (.istore 14, 2) ∧ decode cL_loops 610 = .ok (.aload_n 0, 1) ∧ decode cL_loops 611 = .ok (.iload 7, 2) ∧ decode cL_loops 613 = .ok (.invokevirtual 79, 3) ∧ decode cL_loops 616 = .ok (.istore 15, 2) ∧ decode cL_loops 618 = .ok (.iload 8, 2) := by decide +kernel
theorem dL_loops_589 : Dc cL_loops 589 (.iconst 3) 1 590 := ⟨DL_loops_c19.1, rfl⟩
theorem dL_loops_590 : Dc cL_loops 590 (.invokevirtual 48) 3 593 := ⟨DL_loops_c19.2.1, rfl⟩
theorem dL_loops_593 : Dc cL_loops 593 (.istore 12) 2 595 := ⟨DL_loops_c19.2.2.1, rfl⟩
theorem dL_loops_595 : Dc cL_loops 595 (.aload_n 0) 1 596 := ⟨DL_loops_c19.2.2.2.1, rfl⟩
theorem dL_loops_596 : Dc cL_loops 596 (.iconst 5) 1 597 := ⟨DL_loops_c19.2.2.2.2.1, rfl⟩
theorem dL_loops_597 : Dc cL_loops 597 (.invokevirtual 20) 3 600 := ⟨DL_loops_c19.2.2.2.2.2.1, rfl⟩
theorem dL_loops_600 : Dc cL_loops 600 (.istore 13) 2 602 := ⟨DL_loops_c19.2.2.2.2.2.2.1, rfl⟩
theorem dL_loops_602 : Dc cL_loops 602 (.aload_n 0) 1 603 := ⟨DL_loops_c19.2.2.2.2.2.2.2.1, rfl⟩
theorem dL_loops_603 : Dc cL_loops 603 (.bipush 7) 2 605 := ⟨DL_loops_c19.2.2.2.2.2.2.2.2.1, rfl⟩
theorem dL_loops_605 : Dc cL_loops 605 (.invokevirtual 20) 3 608 := ⟨DL_loops_c19.2.2.2.2.2.2.2.2.2.1, rfl⟩
theorem dL_loops_608 : Dc cL_loops 608 (.istore 14) 2 610 := ⟨DL_loops_c19.2.2.2.2.2.2.2.2.2.2.1, rfl⟩
theorem dL_loops_610 : Dc cL_loops 610 (.aload_n 0) 1 611 := ⟨DL_loops_c19.2.2.2.2.2.2.2.2.2.2.2.1, rfl⟩
theorem dL_loops_611 : Dc cL_loops 611 (.iload 7) 2 613 := ⟨DL_loops_c19.2.2.2.2.2.2.2.2.2.2.2.2.1, rfl⟩
theorem dL_loops_613 : Dc cL_loops 613 (.invokevirtual 79) 3 616 := ⟨DL_loops_c19.2.2.2.2.2.2.2.2.2.2.2.2.2.1, rfl⟩
theorem dL_loops_616 : Dc cL_loops 616 (.istore 15) 2 618 := ⟨DL_loops_c19.2.2.2.2.2.2.2.2.2.2.2.2.2.2.1, rfl⟩
theorem dL_loops_618 : Dc cL_loops 618 (.iload 8) 2 620 := ⟨DL_loops_c19.2.2.2.2.2.2.2.2.2.2.2.2.2.2.2, rfl⟩
theorem DL_loops_c20 : decode cL_loops 620 = .ok (.ifCond .lt 13, 3) ∧ decode cL_loops 623 = .ok (.aload_n 0, 1) ∧ decode cL_loops 624 = .ok (.iconst 3, 1) ∧ decode cL_loops 625 = .ok (.invokevirtual 20, 3) ∧ decode cL_loops 628 = .ok (.bipush (-5), 2) ∧ decode cL_loops 630 = .ok (.if_icmp .eq 27, 3) ∧ decode cL_loops 633 = .ok (.iload 15, 2) ∧ decode cL_loops 635 = .ok (.iload 8, 2) ∧ decode cL_loops 637 = .ok (.ifCond .ge 7, 3) ∧ decode cL_loops 640 = .ok (.iconst (-1), 1) ∧ decode cL_loops 641 = .ok (.goto 5, 3) ∧ decode cL_loops 644 = .ok (.bipush (-4), 2) ∧ decode cL_loops 646 = .ok (.if_icmp .ne 8, 3) ∧ decode cL_loops 649 = .ok (.iload 15, 2) ∧ decode cL_loops 651 = .ok (.goto 5, 3) ∧ decode cL_loops 654 = .ok (.bipush (-9), 2) := by decide +kernel
theorem dL_loops_620 : Db cL_loops 620 (fun o => .ifCond .lt o) 623 633 := ⟨13, DL_loops_c20.1, rfl, rfl⟩
theorem dL_loops_623 : Dc cL_loops 623 (.aload_n 0) 1 624 := ⟨DL_loops_c20.2.1, rfl⟩
theorem dL_loops_624 : Dc cL_loops 624 (.iconst 3) 1 625 := ⟨DL_loops_c20.2.2.1, rfl⟩
theorem dL_loops_625 : Dc cL_loops 625 (.invokevirtual 20) 3 628 := ⟨DL_loops_c20.2.2.2.1, rfl⟩
theorem dL_loops_628 : Dc cL_loops 628 (.bipush (-5)) 2 630 := ⟨DL_loops_c20.2.2.2.2.1, rfl⟩
theorem dL_loops_630 : Db cL_loops 630 (fun o => .if_icmp .eq o) 633 657 := ⟨27, DL_loops_c20.2.2.2.2.2.1, rfl, rfl⟩
theorem dL_loops_633 : Dc cL_loops 633 (.iload 15) 2 635 := ⟨DL_loops_c20.2.2.2.2.2.2.1, rfl⟩
theorem dL_loops_635 : Dc cL_loops 635 (.iload 8) 2 637 := ⟨DL_loops_c20.2.2.2.2.2.2.2.1, rfl⟩
theorem dL_loops_637 : Db cL_loops 637 (fun o => .ifCond .ge o) 640 644 := ⟨7, DL_loops_c20.2.2.2.2.2.2.2.2.1, rfl, rfl⟩
theorem dL_loops_640 : Dc cL_loops 640 (.iconst (-1)) 1 641 := ⟨DL_loops_c20.2.2.2.2.2.2.2.2.2.1, rfl⟩
theorem dL_loops_641 : Db cL_loops 641 .goto 644 646 := ⟨5, DL_loops_c20.2.2.2.2.2.2.2.2.2.2.1, rfl, rfl⟩
theorem dL_loops_644 : Dc cL_loops 644 (.bipush (-4)) 2 646 := ⟨DL_loops_c20.2.2.2.2.2.2.2.2.2.2.2.1, rfl⟩
theorem dL_loops_646 : Db cL_loops 646 (fun o => .if_icmp .ne o) 649 654 := ⟨8, DL_loops_c20.2.2.2.2.2.2.2.2.2.2.2.2.1, rfl, rfl⟩
theorem dL_loops_649 : Dc cL_loops 649 (.iload 15) 2 651 := ⟨DL_loops_c20.2.2.2.2.2.2.2.2.2.2.2.2.2.1, rfl⟩
theorem dL_loops_651 : Db cL_loops 651 .goto 654 656 := ⟨5, DL_loops_c20.2.2.2.2.2.2.2.2.2.2.2.2.2.2.1, rfl, rfl⟩
theorem dL_loops_654 : Dc cL_loops 654 (.bipush (-9)) 2 656 := ⟨DL_loops_c20.2.2.2.2.2.2.2.2.2.2.2.2.2.2.2, rfl⟩
theorem DL_loops_c21 : decode cL_loops 656 = .ok (.ireturn, 1) ∧ decode cL_loops 657 = .ok (.iload 15, 2) ∧ decode cL_loops 659 = .ok (.iload 9, 2) ∧ decode cL_loops 661 = .ok (.if_icmp .ne 65, 3) ∧ decode cL_loops 664 = .ok (.aload_n 0, 1) ∧ decode cL_loops 665 = .ok (.bipush 8, 2) ∧ decode cL_loops 667 = .ok (.invokevirtual 20, 3) ∧ decode cL_loops 670 = .ok (.iload 10, 2) ∧ decode cL_loops 672 = .ok (.if_icmp .ne 54, 3) ∧ decode cL_loops 675 = .ok (.aload_n 0, 1) ∧ decode cL_loops 676 = .ok (.iconst 1, 1) ∧ decode cL_loops 677 = .ok (.invokevirtual 20, 3) ∧ decode cL_loops 680 = .ok (.iload 11, 2) ∧ decode cL_loops 682 = .ok (.if_icmp .ne 44, 3) ∧ decode cL_loops 685 = .ok (.aload_n 0, 1) ∧ decode cL_loops 686 = .ok (.iconst 0, 1) := by decide +kernel
theorem dL_loops_656 : Dc cL_loops 656 (.ireturn) 1 657 := ⟨DL_loops_c21.1, rfl⟩
theorem dL_loops_657 : Dc cL_loops 657 (.iload 15) 2 659 := ⟨DL_loops_c21.2.1, rfl⟩
theorem dL_loops_659 : Dc cL_loops 659 (.iload 9) 2 661 := ⟨DL_loops_c21.2.2.1, rfl⟩
theorem dL_loops_661 : Db cL_loops 661 (fun o => .if_icmp .ne o) 664 726 := ⟨65, DL_loops_c21.2.2.2.1, rfl, rfl⟩
theorem dL_loops_664 : Dc cL_loops 664 (.aload_n 0) 1 665 := ⟨DL_loops_c21.2.2.2.2.1, rfl⟩
theorem dL_loops_665 : Dc cL_loops 665 (.bipush 8) 2 667 := ⟨DL_loops_c21.2.2.2.2.2.1, rfl⟩
theorem dL_loops_667 : Dc cL_loops 667 (.invokevirtual 20) 3 670 := ⟨DL_loops_c21.2.2.2.2.2.2.1, rfl⟩
theorem dL_loops_670 : Dc cL_loops 670 (.iload 10) 2 672 := ⟨DL_loops_c21.2.2.2.2.2.2.2.1, rfl⟩
theorem dL_loops_672 : Db cL_loops 672 (fun o => .if_icmp .ne o) 675 726 := ⟨54, DL_loops_c21.2.2.2.2.2.2.2.2.1, rfl, rfl⟩
theorem dL_loops_675 : Dc cL_loops 675 (.aload_n 0) 1 676 := ⟨DL_loops_c21.2.2.2.2.2.2.2.2.2.1, rfl⟩
theorem dL_loops_676 : Dc cL_loops 676 (.iconst 1) 1 677 := ⟨DL_loops_c21.2.2.2.2.2.2.2.2.2.2.1, rfl⟩
theorem dL_loops_677 : Dc cL_loops 677 (.invokevirtual 20) 3 680 := ⟨DL_loops_c21.2.2.2.2.2.2.2.2.2.2.2.1, rfl⟩
theorem dL_loops_680 : Dc cL_loops 680 (.iload 11) 2 682 := ⟨DL_loops_c21.2.2.2.2.2.2.2.2.2.2.2.2.1, rfl⟩
theorem dL_loops_682 : Db cL_loops 682 (fun o => .if_icmp .ne o) 685 726 := ⟨44, DL_loops_c21.2.2.2.2.2.2.2.2.2.2.2.2.2.1, rfl, rfl⟩
theorem dL_loops_685 : Dc cL_loops 685 (.aload_n 0) 1 686 := ⟨DL_loops_c21.2.2.2.2.2.2.2.2.2.2.2.2.2.2.1, rfl⟩
theorem dL_loops_686 : Dc cL_loops 686 (.iconst 0) 1 687 := ⟨DL_loops_c21.2.2.2.2.2.2.2.2.2.2.2.2.2.2.2, rfl⟩
theorem DL_loops_c22 : decode cL_loops 687 = .ok (.invokevirtual 20, 3) ∧ decode cL_loops 690 = .ok (.iload 12, 2) ∧ decode cL_loops 692 = .ok (.if_icmp .ne 34, 3) ∧ decode cL_loops 695 = .ok (.aload_n 0, 1) ∧ decode cL_loops 696 = .ok (.iconst 5, 1) ∧ decode cL_loops 697 = .ok (.invokevirtual 20, 3) ∧ decode cL_loops 700 = .ok (.iload 13, 2) ∧ decode cL_loops 702 = .ok (.iload 9, 2) ∧ decode cL_loops 704 = .ok (.iadd, 1) ∧ decode cL_loops 705 = .ok (.if_icmp .ne 21, 3) ∧ decode cL_loops 708 = .ok (.aload_n 0, 1) ∧ decode cL_loops 709 = .ok (.bipush 7, 2) ∧ decode cL_loops 711 = .ok (.invokevirtual 20, 3) ∧ decode cL_loops 714 = .ok (.iload 14, 2) ∧ decode cL_loops 716 = .ok (.iconst 1, 1) ∧ decode cL_loops 717 = .ok (.iadd, 1) := by decide +kernel
theorem dL_loops_687 : Dc cL_loops 687 (.invokevirtual 20) 3 690 := ⟨DL_loops_c22.1, rfl⟩
theorem dL_loops_690 : Dc cL_loops 690 (.iload 12) 2 692 := ⟨DL_loops_c22.2.1, rfl⟩
theorem dL_loops_692 : Db cL_loops 692 (fun o => .if_icmp .ne o) 695 726 := ⟨34, DL_loops_c22.2.2.1, rfl, rfl⟩
theorem dL_loops_695 : Dc cL_loops 695 (.aload_n 0) 1 696 := ⟨DL_loops_c22.2.2.2.1, rfl⟩
theorem dL_loops_696 : Dc cL_loops 696 (.iconst 5) 1 697 := ⟨DL_loops_c22.2.2.2.2.1, rfl⟩
theorem dL_loops_697 : Dc cL_loops 697 (.invokevirtual 20) 3 700 := ⟨DL_loops_c22.2.2.2.2.2.1, rfl⟩
theorem dL_loops_700 : Dc cL_loops 700 (.iload 13) 2 702 := ⟨DL_loops_c22.2.2.2.2.2.2.1, rfl⟩
theorem dL_loops_702 : Dc cL_loops 702 (.iload 9) 2 704 := ⟨DL_loops_c22.2.2.2.2.2.2.2.1, rfl⟩
theorem dL_loops_704 : Dc cL_loops 704 (.iadd) 1 705 := ⟨DL_loops_c22.2.2.2.2.2.2.2.2.1, rfl⟩
theorem dL_loops_705 : Db cL_loops 705 (fun o => .if_icmp .ne o) 708 726 := ⟨21, DL_loops_c22.2.2.2.2.2.2.2.2.2.1, rfl, rfl⟩
theorem dL_loops_708 : Dc cL_loops 708 (.aload_n 0) 1 709 := ⟨DL_loops_c22.2.2.2.2.2.2.2.2.2.2.1, rfl⟩
theorem dL_loops_709 : Dc cL_loops 709 (.bipush 7) 2 711 := ⟨DL_loops_c22.2.2.2.2.2.2.2.2.2.2.2.1, rfl⟩
theorem dL_loops_711 : Dc cL_loops 711 (.invokevirtual 20) 3 714 := ⟨DL_loops_c22.2.2.2.2.2.2.2.2.2.2.2.2.1, rfl⟩
theorem dL_loops_714 : Dc cL_loops 714 (.iload 14) 2 716 := ⟨DL_loops_c22.2.2.2.2.2.2.2.2.2.2.2.2.2.1, rfl⟩
theorem dL_loops_716 : Dc cL_loops 716 (.iconst 1) 1 717 := ⟨DL_loops_c22.2.2.2.2.2.2.2.2.2.2.2.2.2.2.1, rfl⟩
theorem dL_loops_717 : Dc cL_loops 717 (.iadd) 1 718 := ⟨DL_loops_c22.2.2.2.2.2.2.2.2.2.2.2.2.2.2.2, rfl⟩
theorem DL_loops_c23 : decode cL_loops 718 = .ok (.if_icmp .ne 8, 3) ∧ decode cL_loops 721 = .ok (.iload 15, 2) ∧ decode cL_loops 723 = .ok (.goto 5, 3) ∧ decode cL_loops 726 = .ok (.bipush (-9), 2) ∧ decode cL_loops 728 = .ok (.ireturn, 1) := by decide +kernel
theorem dL_loops_718 : Db cL_loops 718 (fun o => .if_icmp .ne o) 721 726 := ⟨8, DL_loops_c23.1, rfl, rfl⟩
theorem dL_loops_721 : Dc cL_loops 721 (.iload 15) 2 723 := ⟨DL_loops_c23.2.1, rfl⟩
theorem dL_loops_723 : Db cL_loops 723 .goto 726 728 := ⟨5, DL_loops_c23.2.2.1, rfl, rfl⟩
theorem dL_loops_726 : Dc cL_loops 726 (.bipush (-9)) 2 728 := ⟨DL_loops_c23.2.2.2.1, rfl⟩
theorem dL_loops_728 : Dc cL_loops 728 (.ireturn) 1 729 := ⟨DL_loops_c23.2.2.2.2, rfl⟩
theorem DL_act_c0 : decode cL_act 0 = .ok (.iload_n 1, 1) ∧ decode cL_act 1 = .ok (.bipush 16, 2) ∧ decode cL_act 3 = .ok (.irem, 1) ∧ decode cL_act 4 = .ok (.istore_n 2, 1) ∧ decode cL_act 5 = .ok (.iload_n 1, 1) ∧ decode cL_act 6 = .ok (.bipush 16, 2) ∧ decode cL_act 8 = .ok (.idiv, 1) ∧ decode cL_act 9 = .ok (.istore_n 3, 1) ∧ decode cL_act 10 = .ok (.aload_n 0, 1) ∧ decode cL_act 11 = .ok (.iconst 2, 1) ∧ decode cL_act 12 = .ok (.invokevirtual 20, 3) ∧ decode cL_act 15 = .ok (.istore 4, 2) ∧ decode cL_act 17 = .ok (.aload_n 0, 1) ∧ decode cL_act 18 = .ok (.iconst 3, 1) ∧ decode cL_act 19 = .ok (.invokevirtual 20, 3) ∧ decode cL_act 22 = .ok (.istore 5, 2) := by decide +kernel
theorem dL_act_0 : Dc cL_act 0 (.iload_n 1) 1 1 := ⟨DL_act_c0.1, rfl⟩
theorem dL_act_1 : Dc cL_act 1 (.bipush 16) 2 3 := ⟨DL_act_c0.2.1, rfl⟩
theorem dL_act_3 : Dc cL_act 3 (.irem) 1 4 := ⟨DL_act_c0.2.2.1, rfl⟩
theorem dL_act_4 : Dc cL_act 4 (.istore_n 2) 1 5 := ⟨DL_act_c0.2.2.2.1, rfl⟩
theorem dL_act_5 : Dc cL_act 5 (.iload_n 1) 1 6 := ⟨DL_act_c0.2.2.2.2.1, rfl⟩
theorem dL_act_6 : Dc cL_act 6 (.bipush 16) 2 8 := ⟨DL_act_c0.2.2.2.2.2.1, rfl⟩
theorem dL_act_8 : Dc cL_act 8 (.idiv) 1 9 := ⟨DL_act_c0.2.2.2.2.2.2.1, rfl⟩
theorem dL_act_9 : Dc cL_act 9 (.istore_n 3) 1 10 := ⟨DL_act_c0.2.2.2.2.2.2.2.1, rfl⟩
theorem dL_act_10 : Dc cL_act 10 (.aload_n 0) 1 11 := ⟨DL_act_c0.2.2.2.2.2.2.2.2.1, rfl⟩
theorem dL_act_11 : Dc cL_act 11 (.iconst 2) 1 12 := ⟨DL_act_c0.2.2.2.2.2.2.2.2.2.1, rfl⟩
theorem dL_act_12 : Dc cL_act 12 (.invokevirtual 20) 3 15 := ⟨DL_act_c0.2.2.2.2.2.2.2.2.2.2.1, rfl⟩
theorem dL_act_15 : Dc cL_act 15 (.istore 4) 2 17 := ⟨DL_act_c0.2.2.2.2.2.2.2.2.2.2.2.1, rfl⟩
theorem dL_act_17 : Dc cL_act 17 (.aload_n 0) 1 18 := ⟨DL_act_c0.2.2.2.2.2.2.2.2.2.2.2.2.1, rfl⟩
theorem dL_act_18 : Dc cL_act 18 (.iconst 3) 1 19 := ⟨DL_act_c0.2.2.2.2.2.2.2.2.2.2.2.2.2.1, rfl⟩
theorem dL_act_19 : Dc cL_act 19 (.invokevirtual 20) 3 22 := ⟨DL_act_c0.2.2.2.2.2.2.2.2.2.2.2.2.2.2.1, rfl⟩
theorem dL_act_22 : Dc cL_act 22 (.istore 5) 2 24 := ⟨DL_act_c0.2.2.2.2.2.2.2.2.2.2.2.2.2.2.2, rfl⟩
theorem DL_act_c1 : decode cL_act 24 = .ok (.iload_n 2, 1) ∧ decode cL_act 25 = .ok (.bipush 6, 2) ∧ decode cL_act 27 = .ok (.if_icmp .ge 77, 3) ∧ decode cL_act 30 = .ok (.iload_n 3, 1) ∧ decode cL_act 31 = .ok (.bipush 6, 2) ∧ decode cL_act 33 = .ok (.irem, 1) ∧ decode cL_act 34 = .ok (.istore 6, 2) ∧ decode cL_act 36 = .ok (.aload_n 0, 1) ∧ decode cL_act 37 = .ok (.iload 6, 2) ∧ decode cL_act 39 = .ok (.iload 6, 2) ∧ decode cL_act 41 = .ok (.iconst 5, 1) ∧ decode cL_act 42 = .ok (.if_icmp .ne 13, 3) ∧ decode cL_act 45 = .ok (.iload_n 3, 1) ∧ decode cL_act 46 = .ok (.bipush 6, 2) ∧ decode cL_act 48 = .ok (.idiv, 1) ∧ decode cL_act 49 = .ok (.bipush 100, 2) := by decide +kernel
theorem dL_act_24 : Dc cL_act 24 (.iload_n 2) 1 25 := ⟨DL_act_c1.1, rfl⟩
theorem dL_act_25 : Dc cL_act 25 (.bipush 6) 2 27 := ⟨DL_act_c1.2.1, rfl⟩
theorem dL_act_27 : Db cL_act 27 (fun o => .if_icmp .ge o) 30 104 := ⟨77, DL_act_c1.2.2.1, rfl, rfl⟩
theorem dL_act_30 : Dc cL_act 30 (.iload_n 3) 1 31 := ⟨DL_act_c1.2.2.2.1, rfl⟩
theorem dL_act_31 : Dc cL_act 31 (.bipush 6) 2 33 := ⟨DL_act_c1.2.2.2.2.1, rfl⟩
theorem dL_act_33 : Dc cL_act 33 (.irem) 1 34 := ⟨DL_act_c1.2.2.2.2.2.1, rfl⟩
theorem dL_act_34 : Dc cL_act 34 (.istore 6) 2 36 := ⟨DL_act_c1.2.2.2.2.2.2.1, rfl⟩
theorem dL_act_36 : Dc cL_act 36 (.aload_n 0) 1 37 := ⟨DL_act_c1.2.2.2.2.2.2.2.1, rfl⟩
theorem dL_act_37 : Dc cL_act 37 (.iload 6) 2 39 := ⟨DL_act_c1.2.2.2.2.2.2.2.2.1, rfl⟩
theorem dL_act_39 : Dc cL_act 39 (.iload 6) 2 41 := ⟨DL_act_c1.2.2.2.2.2.2.2.2.2.1, rfl⟩
theorem dL_act_41 : Dc cL_act 41 (.iconst 5) 1 42 := ⟨DL_act_c1.2.2.2.2.2.2.2.2.2.2.1, rfl⟩
theorem dL_act_42 : Db cL_act 42 (fun o => .if_icmp .ne o) 45 55 := ⟨13, DL_act_c1.2.2.2.2.2.2.2.2.2.2.2.1, rfl, rfl⟩
theorem dL_act_45 : Dc cL_act 45 (.iload_n 3) 1 46 := ⟨DL_act_c1.2.2.2.2.2.2.2.2.2.2.2.2.1, rfl⟩
theorem dL_act_46 : Dc cL_act 46 (.bipush 6) 2 48 := ⟨DL_act_c1.2.2.2.2.2.2.2.2.2.2.2.2.2.1, rfl⟩
theorem dL_act_48 : Dc cL_act 48 (.idiv) 1 49 := ⟨DL_act_c1.2.2.2.2.2.2.2.2.2.2.2.2.2.2.1, rfl⟩
theorem dL_act_49 : Dc cL_act 49 (.bipush 100) 2 51 := ⟨DL_act_c1.2.2.2.2.2.2.2.2.2.2.2.2.2.2.2, rfl⟩
theorem DL_act_c2 : decode cL_act 51 = .ok (.irem, 1) ∧ decode cL_act 52 = .ok (.goto 48, 3) ∧ decode cL_act 55 = .ok (.iload 6, 2) ∧ decode cL_act 57 = .ok (.invokestatic 39, 3) ∧ decode cL_act 60 = .ok (.bipush 29, 2) ∧ decode cL_act 62 = .ok (.if_icmp .ne 13, 3) ∧ decode cL_act 65 = .ok (.iload_n 3, 1) ∧ decode cL_act 66 = .ok (.bipush 6, 2) ∧ decode cL_act 68 = .ok (.idiv, 1) ∧ decode cL_act 69 = .ok (.bipush 10, 2) ∧ decode cL_act 71 = .ok (.irem, 1) ∧ decode cL_act 72 = .ok (.goto 28, 3) ∧ decode cL_act 75 = .ok (.iload_n 3, 1) ∧ decode cL_act 76 = .ok (.bipush 6, 2) ∧ decode cL_act 78 = .ok (.idiv, 1) ∧ decode cL_act 79 = .ok (.iconst 3, 1) := by decide +kernel
theorem dL_act_51 : Dc cL_act 51 (.irem) 1 52 := ⟨DL_act_c2.1, rfl⟩
theorem dL_act_52 : Db cL_act 52 .goto 55 100 := ⟨48, DL_act_c2.2.1, rfl, rfl⟩
theorem dL_act_55 : Dc cL_act 55 (.iload 6) 2 57 := ⟨DL_act_c2.2.2.1, rfl⟩
theorem dL_act_57 : Dc cL_act 57 (.invokestatic 39) 3 60 := ⟨DL_act_c2.2.2.2.1, rfl⟩
theorem dL_act_60 : Dc cL_act 60 (.bipush 29) 2 62 := ⟨DL_act_c2.2.2.2.2.1, rfl⟩
theorem dL_act_62 : Db cL_act 62 (fun o => .if_icmp .ne o) 65 75 := ⟨13, DL_act_c2.2.2.2.2.2.1, rfl, rfl⟩
theorem dL_act_65 : Dc cL_act 65 (.iload_n 3) 1 66 := ⟨DL_act_c2.2.2.2.2.2.2.1, rfl⟩
theorem dL_act_66 : Dc cL_act 66 (.bipush 6) 2 68 := ⟨DL_act_c2.2.2.2.2.2.2.2.1, rfl⟩
theorem dL_act_68 : Dc cL_act 68 (.idiv) 1 69 := ⟨DL_act_c2.2.2.2.2.2.2.2.2.1, rfl⟩
theorem dL_act_69 : Dc cL_act 69 (.bipush 10) 2 71 := ⟨DL_act_c2.2.2.2.2.2.2.2.2.2.1, rfl⟩
theorem dL_act_71 : Dc cL_act 71 (.irem) 1 72 := ⟨DL_act_c2.2.2.2.2.2.2.2.2.2.2.1, rfl⟩
theorem dL_act_72 : Db cL_act 72 .goto 75 100 := ⟨28, DL_act_c2.2.2.2.2.2.2.2.2.2.2.2.1, rfl, rfl⟩
theorem dL_act_75 : Dc cL_act 75 (.iload_n 3) 1 76 := ⟨DL_act_c2.2.2.2.2.2.2.2.2.2.2.2.2.1, rfl⟩
theorem dL_act_76 : Dc cL_act 76 (.bipush 6) 2 78 := ⟨DL_act_c2.2.2.2.2.2.2.2.2.2.2.2.2.2.1, rfl⟩
theorem dL_act_78 : Dc cL_act 78 (.idiv) 1 79 := ⟨DL_act_c2.2.2.2.2.2.2.2.2.2.2.2.2.2.2.1, rfl⟩
theorem dL_act_79 : Dc cL_act 79 (.iconst 3) 1 80 := ⟨DL_act_c2.2.2.2.2.2.2.2.2.2.2.2.2.2.2.2, rfl⟩
theorem DL_act_c3 : decode cL_act 80 = .ok (.irem, 1) ∧ decode cL_act 81 = .ok (.ifCond .ne 13, 3) ∧ decode cL_act 84 = .ok (.iload_n 3, 1) ∧ decode cL_act 85 = .ok (.bipush 18, 2) ∧ decode cL_act 87 = .ok (.idiv, 1) ∧ decode cL_act 88 = .ok (.bipush 100, 2) ∧ decode cL_act 90 = .ok (.irem, 1) ∧ decode cL_act 91 = .ok (.goto 9, 3) ∧ decode cL_act 94 = .ok (.iload_n 3, 1) ∧ decode cL_act 95 = .ok (.bipush 18, 2) ∧ decode cL_act 97 = .ok (.idiv, 1) ∧ decode cL_act 98 = .ok (.iconst 4, 1) ∧ decode cL_act 99 = .ok (.irem, 1) ∧ decode cL_act 100 = .ok (.invokestatic 99, 3) ∧ decode cL_act 103 = .ok (.ireturn, 1) ∧ decode cL_act 104 = .ok (.iload_n 2, 1) := by decide +kernel
theorem dL_act_80 : Dc cL_act 80 (.irem) 1 81 := ⟨DL_act_c3.1, rfl⟩
theorem dL_act_81 : Db cL_act 81 (fun o => .ifCond .ne o) 84 94 := ⟨13, DL_act_c3.2.1, rfl, rfl⟩
theorem dL_act_84 : Dc cL_act 84 (.iload_n 3) 1 85 := ⟨DL_act_c3.2.2.1, rfl⟩
theorem dL_act_85 : Dc cL_act 85 (.bipush 18) 2 87 := ⟨DL_act_c3.2.2.2.1, rfl⟩
theorem dL_act_87 : Dc cL_act 87 (.idiv) 1 88 := ⟨DL_act_c3.2.2.2.2.1, rfl⟩
theorem dL_act_88 : Dc cL_act 88 (.bipush 100) 2 90 := ⟨DL_act_c3.2.2.2.2.2.1, rfl⟩
theorem dL_act_90 : Dc cL_act 90 (.irem) 1 91 := ⟨DL_act_c3.2.2.2.2.2.2.1, rfl⟩
theorem dL_act_91 : Db cL_act 91 .goto 94 100 := ⟨9, DL_act_c3.2.2.2.2.2.2.2.1, rfl, rfl⟩
theorem dL_act_94 : Dc cL_act 94 (.iload_n 3) 1 95 := ⟨DL_act_c3.2.2.2.2.2.2.2.2.1, rfl⟩
theorem dL_act_95 : Dc cL_act 95 (.bipush 18) 2 97 := ⟨DL_act_c3.2.2.2.2.2.2.2.2.2.1, rfl⟩
theorem dL_act_97 : Dc cL_act 97 (.idiv) 1 98 := ⟨DL_act_c3.2.2.2.2.2.2.2.2.2.2.1, rfl⟩
theorem dL_act_98 : Dc cL_act 98 (.iconst 4) 1 99 := ⟨DL_act_c3.2.2.2.2.2.2.2.2.2.2.2.1, rfl⟩
theorem dL_act_99 : Dc cL_act 99 (.irem) 1 100 := ⟨DL_act_c3.2.2.2.2.2.2.2.2.2.2.2.2.1, rfl⟩
theorem dL_act_100 : Dc cL_act 100 (.invokestatic 99) 3 103 := ⟨DL_act_c3.2.2.2.2.2.2.2.2.2.2.2.2.2.1, rfl⟩
theorem dL_act_103 : Dc cL_act 103 (.ireturn) 1 104 := ⟨DL_act_c3.2.2.2.2.2.2.2.2.2.2.2.2.2.2.1, rfl⟩
theorem dL_act_104 : Dc cL_act 104 (.iload_n 2) 1 105 := ⟨DL_act_c3.2.2.2.2.2.2.2.2.2.2.2.2.2.2.2, rfl⟩
theorem DL_act_c4 : decode cL_act 105 = .ok (.bipush 8, 2) ∧ decode cL_act 107 = .ok (.if_icmp .ge 61, 3) ∧ decode cL_act 110 = .ok (.aload_n 0, 1) ∧ decode cL_act 111 = .ok (.invokevirtual 57, 3) ∧ decode cL_act 114 = .ok (.istore 6, 2) ∧ decode cL_act 116 = .ok (.iload 6, 2) ∧ decode cL_act 118 = .ok (.iload 5, 2) ∧ decode cL_act 120 = .ok (.bipush (-5), 2) ∧ decode cL_act 122 = .ok (.if_icmp .eq 8, 3) ∧ decode cL_act 125 = .ok (.bipush (-4), 2) ∧ decode cL_act 127 = .ok (.goto 17, 3) ∧ decode cL_act 130 = .ok (.iload 4, 2) ∧ decode cL_act 132 = .ok (.bipush 6, 2) ∧ decode cL_act 134 = .ok (.if_icmp .ne 8, 3) ∧ decode cL_act 137 = .ok (.bipush (-3), 2) ∧ decode cL_act 139 = .ok (.goto 5, 3) := by decide +kernel
theorem dL_act_105 : Dc cL_act 105 (.bipush 8) 2 107 := ⟨DL_act_c4.1, rfl⟩
theorem dL_act_107 : Db cL_act 107 (fun o => .if_icmp .ge o) 110 168 := ⟨61, DL_act_c4.2.1, rfl, rfl⟩
theorem dL_act_110 : Dc cL_act 110 (.aload_n 0) 1 111 := ⟨DL_act_c4.2.2.1, rfl⟩
theorem dL_act_111 : Dc cL_act 111 (.invokevirtual 57) 3 114 := ⟨DL_act_c4.2.2.2.1, rfl⟩
theorem dL_act_114 : Dc cL_act 114 (.istore 6) 2 116 := ⟨DL_act_c4.2.2.2.2.1, rfl⟩
theorem dL_act_116 : Dc cL_act 116 (.iload 6) 2 118 := ⟨DL_act_c4.2.2.2.2.2.1, rfl⟩
theorem dL_act_118 : Dc cL_act 118 (.iload 5) 2 120 := ⟨DL_act_c4.2.2.2.2.2.2.1, rfl⟩
theorem dL_act_120 : Dc cL_act 120 (.bipush (-5)) 2 122 := ⟨DL_act_c4.2.2.2.2.2.2.2.1, rfl⟩
theorem dL_act_122 : Db cL_act 122 (fun o => .if_icmp .eq o) 125 130 := ⟨8, DL_act_c4.2.2.2.2.2.2.2.2.1, rfl, rfl⟩
theorem dL_act_125 : Dc cL_act 125 (.bipush (-4)) 2 127 := ⟨DL_act_c4.2.2.2.2.2.2.2.2.2.1, rfl⟩
theorem dL_act_127 : Db cL_act 127 .goto 130 144 := ⟨17, DL_act_c4.2.2.2.2.2.2.2.2.2.2.1, rfl, rfl⟩
theorem dL_act_130 : Dc cL_act 130 (.iload 4) 2 132 := ⟨DL_act_c4.2.2.2.2.2.2.2.2.2.2.2.1, rfl⟩
theorem dL_act_132 : Dc cL_act 132 (.bipush 6) 2 134 := ⟨DL_act_c4.2.2.2.2.2.2.2.2.2.2.2.2.1, rfl⟩
theorem dL_act_134 : Db cL_act 134 (fun o => .if_icmp .ne o) 137 142 := ⟨8, DL_act_c4.2.2.2.2.2.2.2.2.2.2.2.2.2.1, rfl, rfl⟩
theorem dL_act_137 : Dc cL_act 137 (.bipush (-3)) 2 139 := ⟨DL_act_c4.2.2.2.2.2.2.2.2.2.2.2.2.2.2.1, rfl⟩
theorem dL_act_139 : Db cL_act 139 .goto 142 144 := ⟨5, DL_act_c4.2.2.2.2.2.2.2.2.2.2.2.2.2.2.2, rfl, rfl⟩
theorem DL_act_c5 : decode cL_act 142 = .ok (.iload 4, 2) ∧ decode cL_act 144 = .ok (.if_icmp .ne 21, 3) ∧ decode cL_act 147 = .ok (.iload 6, 2) ∧ decode cL_act 149 = .ok (.ifCond .lt 11, 3) ∧ decode cL_act 152 = .ok (.aload_n 0, 1) ∧ decode cL_act 153 = .ok (.iconst 3, 1) ∧ decode cL_act 154 = .ok (.invokevirtual 20, 3) ∧ decode cL_act 157 = .ok (.ifCond .ne 8, 3) ∧ decode cL_act 160 = .ok (.iload 6, 2) ∧ decode cL_act 162 = .ok (.goto 5, 3) ∧ decode cL_act 165 = .ok (.bipush (-9), 2) ∧ decode cL_act 167 = .ok (.ireturn, 1) ∧ decode cL_act 168 = .ok (.iload_n 2, 1) ∧ decode cL_act 169 = .ok (.bipush 10, 2) ∧ decode cL_act 171 = .ok (.if_icmp .ge 77, 3) ∧ decode cL_act 174 = .ok (.aload_n 0, 1) := by decide +kernel
theorem dL_act_142 : Dc cL_act 142 (.iload 4) 2 144 := ⟨DL_act_c5.1, rfl⟩
theorem dL_act_144 : Db cL_act 144 (fun o => .if_icmp .ne o) 147 165 := ⟨21, DL_act_c5.2.1, rfl, rfl⟩
theorem dL_act_147 : Dc cL_act 147 (.iload 6) 2 149 := ⟨DL_act_c5.2.2.1, rfl⟩
theorem dL_act_149 : Db cL_act 149 (fun o => .ifCond .lt o) 152 160 := ⟨11, DL_act_c5.2.2.2.1, rfl, rfl⟩
theorem dL_act_152 : Dc cL_act 152 (.aload_n 0) 1 153 := ⟨DL_act_c5.2.2.2.2.1, rfl⟩
theorem dL_act_153 : Dc cL_act 153 (.iconst 3) 1 154 := ⟨DL_act_c5.2.2.2.2.2.1, rfl⟩
theorem dL_act_154 : Dc cL_act 154 (.invokevirtual 20) 3 157 := ⟨DL_act_c5.2.2.2.2.2.2.1, rfl⟩
theorem dL_act_157 : Db cL_act 157 (fun o => .ifCond .ne o) 160 165 := ⟨8, DL_act_c5.2.2.2.2.2.2.2.1, rfl, rfl⟩
theorem dL_act_160 : Dc cL_act 160 (.iload 6) 2 162 := ⟨DL_act_c5.2.2.2.2.2.2.2.2.1, rfl⟩
theorem dL_act_162 : Db cL_act 162 .goto 165 167 := ⟨5, DL_act_c5.2.2.2.2.2.2.2.2.2.1, rfl, rfl⟩
theorem dL_act_165 : Dc cL_act 165 (.bipush (-9)) 2 167 := ⟨DL_act_c5.2.2.2.2.2.2.2.2.2.2.1, rfl⟩
theorem dL_act_167 : Dc cL_act 167 (.ireturn) 1 168 := ⟨DL_act_c5.2.2.2.2.2.2.2.2.2.2.2.1, rfl⟩
theorem dL_act_168 : Dc cL_act 168 (.iload_n 2) 1 169 := ⟨DL_act_c5.2.2.2.2.2.2.2.2.2.2.2.2.1, rfl⟩
theorem dL_act_169 : Dc cL_act 169 (.bipush 10) 2 171 := ⟨DL_act_c5.2.2.2.2.2.2.2.2.2.2.2.2.2.1, rfl⟩
theorem dL_act_171 : Db cL_act 171 (fun o => .if_icmp .ge o) 174 248 := ⟨77, DL_act_c5.2.2.2.2.2.2.2.2.2.2.2.2.2.2.1, rfl, rfl⟩
theorem dL_act_174 : Dc cL_act 174 (.aload_n 0) 1 175 := ⟨DL_act_c5.2.2.2.2.2.2.2.2.2.2.2.2.2.2.2, rfl⟩
theorem DL_act_c6 : decode cL_act 175 = .ok (.invokevirtual 61, 3) ∧ decode cL_act 178 = .ok (.istore 6, 2) ∧ decode cL_act 180 = .ok (.iload 6, 2) ∧ decode cL_act 182 = .ok (.iload 5, 2) ∧ decode cL_act 184 = .ok (.bipush (-5), 2) ∧ decode cL_act 186 = .ok (.if_icmp .ne 8, 3) ∧ decode cL_act 189 = .ok (.bipush (-4), 2) ∧ decode cL_act 191 = .ok (.goto 15, 3) ∧ decode cL_act 194 = .ok (.iload 5, 2) ∧ decode cL_act 196 = .ok (.ifCond .ne 8, 3) ∧ decode cL_act 199 = .ok (.bipush 100, 2) ∧ decode cL_act 201 = .ok (.goto 5, 3) ∧ decode cL_act 204 = .ok (.iload 4, 2) ∧ decode cL_act 206 = .ok (.if_icmp .ne 39, 3) ∧ decode cL_act 209 = .ok (.aload_n 0, 1) ∧ decode cL_act 210 = .ok (.iconst 3, 1) := by decide +kernel
theorem dL_act_175 : Dc cL_act 175 (.invokevirtual 61) 3 178 := ⟨DL_act_c6.1, rfl⟩
theorem dL_act_178 : Dc cL_act 178 (.istore 6) 2 180 := ⟨DL_act_c6.2.1, rfl⟩
theorem dL_act_180 : Dc cL_act 180 (.iload 6) 2 182 := ⟨DL_act_c6.2.2.1, rfl⟩
theorem dL_act_182 : Dc cL_act 182 (.iload 5) 2 184 := ⟨DL_act_c6.2.2.2.1, rfl⟩
theorem dL_act_184 : Dc cL_act 184 (.bipush (-5)) 2 186 := ⟨DL_act_c6.2.2.2.2.1, rfl⟩
theorem dL_act_186 : Db cL_act 186 (fun o => .if_icmp .ne o) 189 194 := ⟨8, DL_act_c6.2.2.2.2.2.1, rfl, rfl⟩
theorem dL_act_189 : Dc cL_act 189 (.bipush (-4)) 2 191 := ⟨DL_act_c6.2.2.2.2.2.2.1, rfl⟩
theorem dL_act_191 : Db cL_act 191 .goto 194 206 := ⟨15, DL_act_c6.2.2.2.2.2.2.2.1, rfl, rfl⟩
theorem dL_act_194 : Dc cL_act 194 (.iload 5) 2 196 := ⟨DL_act_c6.2.2.2.2.2.2.2.2.1, rfl⟩
theorem dL_act_196 : Db cL_act 196 (fun o => .ifCond .ne o) 199 204 := ⟨8, DL_act_c6.2.2.2.2.2.2.2.2.2.1, rfl, rfl⟩
theorem dL_act_199 : Dc cL_act 199 (.bipush 100) 2 201 := ⟨DL_act_c6.2.2.2.2.2.2.2.2.2.2.1, rfl⟩
theorem dL_act_201 : Db cL_act 201 .goto 204 206 := ⟨5, DL_act_c6.2.2.2.2.2.2.2.2.2.2.2.1, rfl, rfl⟩
theorem dL_act_204 : Dc cL_act 204 (.iload 4) 2 206 := ⟨DL_act_c6.2.2.2.2.2.2.2.2.2.2.2.2.1, rfl⟩
theorem dL_act_206 : Db cL_act 206 (fun o => .if_icmp .ne o) 209 245 := ⟨39, DL_act_c6.2.2.2.2.2.2.2.2.2.2.2.2.2.1, rfl, rfl⟩
theorem dL_act_209 : Dc cL_act 209 (.aload_n 0) 1 210 := ⟨DL_act_c6.2.2.2.2.2.2.2.2.2.2.2.2.2.2.1, rfl⟩
theorem dL_act_210 : Dc cL_act 210 (.iconst 3) 1 211 := ⟨DL_act_c6.2.2.2.2.2.2.2.2.2.2.2.2.2.2.2, rfl⟩
theorem DL_act_c7 : decode cL_act 211 = .ok (.invokevirtual 20, 3) ∧ decode cL_act 214 = .ok (.bipush (-5), 2) ∧ decode cL_act 216 = .ok (.if_icmp .ne 29, 3) ∧ decode cL_act 219 = .ok (.aload_n 0, 1) ∧ decode cL_act 220 = .ok (.iconst 2, 1) ∧ decode cL_act 221 = .ok (.invokevirtual 20, 3) ∧ decode cL_act 224 = .ok (.iload 4, 2) ∧ decode cL_act 226 = .ok (.iload 5, 2) ∧ decode cL_act 228 = .ok (.ifCond .le 7, 3) ∧ decode cL_act 231 = .ok (.iconst 1, 1) ∧ decode cL_act 232 = .ok (.goto 4, 3) ∧ decode cL_act 235 = .ok (.iconst 0, 1) ∧ decode cL_act 236 = .ok (.iadd, 1) ∧ decode cL_act 237 = .ok (.if_icmp .ne 8, 3) ∧ decode cL_act 240 = .ok (.iload 6, 2) ∧ decode cL_act 242 = .ok (.goto 5, 3) := by decide +kernel
theorem dL_act_211 : Dc cL_act 211 (.invokevirtual 20) 3 214 := ⟨DL_act_c7.1, rfl⟩
theorem dL_act_214 : Dc cL_act 214 (.bipush (-5)) 2 216 := ⟨DL_act_c7.2.1, rfl⟩
theorem dL_act_216 : Db cL_act 216 (fun o => .if_icmp .ne o) 219 245 := ⟨29, DL_act_c7.2.2.1, rfl, rfl⟩
theorem dL_act_219 : Dc cL_act 219 (.aload_n 0) 1 220 := ⟨DL_act_c7.2.2.2.1, rfl⟩
theorem dL_act_220 : Dc cL_act 220 (.iconst 2) 1 221 := ⟨DL_act_c7.2.2.2.2.1, rfl⟩
theorem dL_act_221 : Dc cL_act 221 (.invokevirtual 20) 3 224 := ⟨DL_act_c7.2.2.2.2.2.1, rfl⟩
theorem dL_act_224 : Dc cL_act 224 (.iload 4) 2 226 := ⟨DL_act_c7.2.2.2.2.2.2.1, rfl⟩
theorem dL_act_226 : Dc cL_act 226 (.iload 5) 2 228 := ⟨DL_act_c7.2.2.2.2.2.2.2.1, rfl⟩
theorem dL_act_228 : Db cL_act 228 (fun o => .ifCond .le o) 231 235 := ⟨7, DL_act_c7.2.2.2.2.2.2.2.2.1, rfl, rfl⟩
theorem dL_act_231 : Dc cL_act 231 (.iconst 1) 1 232 := ⟨DL_act_c7.2.2.2.2.2.2.2.2.2.1, rfl⟩
theorem dL_act_232 : Db cL_act 232 .goto 235 236 := ⟨4, DL_act_c7.2.2.2.2.2.2.2.2.2.2.1, rfl, rfl⟩
theorem dL_act_235 : Dc cL_act 235 (.iconst 0) 1 236 := ⟨DL_act_c7.2.2.2.2.2.2.2.2.2.2.2.1, rfl⟩
theorem dL_act_236 : Dc cL_act 236 (.iadd) 1 237 := ⟨DL_act_c7.2.2.2.2.2.2.2.2.2.2.2.2.1, rfl⟩
theorem dL_act_237 : Db cL_act 237 (fun o => .if_icmp .ne o) 240 245 := ⟨8, DL_act_c7.2.2.2.2.2.2.2.2.2.2.2.2.2.1, rfl, rfl⟩
theorem dL_act_240 : Dc cL_act 240 (.iload 6) 2 242 := ⟨DL_act_c7.2.2.2.2.2.2.2.2.2.2.2.2.2.2.1, rfl⟩
theorem dL_act_242 : Db cL_act 242 .goto 245 247 := ⟨5, DL_act_c7.2.2.2.2.2.2.2.2.2.2.2.2.2.2.2, rfl, rfl⟩
theorem DL_act_c8 : decode cL_act 245 = .ok (.bipush (-9), 2) ∧ decode cL_act 247 = .ok (.ireturn, 1) ∧ decode cL_act 248 = .ok (.iload_n 2, 1) ∧ decode cL_act 249 = .ok (.bipush 10, 2) ∧ decode cL_act 251 = .ok (.if_icmp .ne 83, 3) ∧ decode cL_act 254 = .ok (.iload_n 3, 1) ∧ decode cL_act 255 = .ok (.bipush 7, 2) ∧ decode cL_act 257 = .ok (.irem, 1) ∧ decode cL_act 258 = .ok (.istore 6, 2) ∧ decode cL_act 260 = .ok (.aload_n 0, 1) ∧ decode cL_act 261 = .ok (.iload 6, 2) ∧ decode cL_act 263 = .ok (.iconst 1, 1) ∧ decode cL_act 264 = .ok (.iadd, 1) ∧ decode cL_act 265 = .ok (.iconst 0, 1) ∧ decode cL_act 266 = .ok (.invokevirtual 27, 3) ∧ decode cL_act 269 = .ok (.istore 7, 2) := by decide +kernel
theorem dL_act_245 : Dc cL_act 245 (.bipush (-9)) 2 247 := ⟨DL_act_c8.1, rfl⟩
theorem dL_act_247 : Dc cL_act 247 (.ireturn) 1 248 := ⟨DL_act_c8.2.1, rfl⟩
theorem dL_act_248 : Dc cL_act 248 (.iload_n 2) 1 249 := ⟨DL_act_c8.2.2.1, rfl⟩
theorem dL_act_249 : Dc cL_act 249 (.bipush 10) 2 251 := ⟨DL_act_c8.2.2.2.1, rfl⟩
theorem dL_act_251 : Db cL_act 251 (fun o => .if_icmp .ne o) 254 334 := ⟨83, DL_act_c8.2.2.2.2.1, rfl, rfl⟩
theorem dL_act_254 : Dc cL_act 254 (.iload_n 3) 1 255 := ⟨DL_act_c8.2.2.2.2.2.1, rfl⟩
theorem dL_act_255 : Dc cL_act 255 (.bipush 7) 2 257 := ⟨DL_act_c8.2.2.2.2.2.2.1, rfl⟩
theorem dL_act_257 : Dc cL_act 257 (.irem) 1 258 := ⟨DL_act_c8.2.2.2.2.2.2.2.1, rfl⟩
theorem dL_act_258 : Dc cL_act 258 (.istore 6) 2 260 := ⟨DL_act_c8.2.2.2.2.2.2.2.2.1, rfl⟩
theorem dL_act_260 : Dc cL_act 260 (.aload_n 0) 1 261 := ⟨DL_act_c8.2.2.2.2.2.2.2.2.2.1, rfl⟩
theorem dL_act_261 : Dc cL_act 261 (.iload 6) 2 263 := ⟨DL_act_c8.2.2.2.2.2.2.2.2.2.2.1, rfl⟩
theorem dL_act_263 : Dc cL_act 263 (.iconst 1) 1 264 := ⟨DL_act_c8.2.2.2.2.2.2.2.2.2.2.2.1, rfl⟩
theorem dL_act_264 : Dc cL_act 264 (.iadd) 1 265 := ⟨DL_act_c8.2.2.2.2.2.2.2.2.2.2.2.2.1, rfl⟩
theorem dL_act_265 : Dc cL_act 265 (.iconst 0) 1 266 := ⟨DL_act_c8.2.2.2.2.2.2.2.2.2.2.2.2.2.1, rfl⟩
theorem dL_act_266 : Dc cL_act 266 (.invokevirtual 27) 3 269 := ⟨DL_act_c8.2.2.2.2.2.2.2.2.2.2.2.2.2.2.1, rfl⟩
theorem dL_act_269 : Dc cL_act 269 (.istore 7) 2 271 := ⟨DL_act_c8.2.2.2.2.2.2.2.2.2.2.2.2.2.2.2, rfl⟩
theorem DL_act_c9 : decode cL_act 271 = .ok (.aload_n 0, 1) ∧ decode cL_act 272 = .ok (.iload 6, 2) ∧ decode cL_act 274 = .ok (.invokevirtual 64, 3) ∧ decode cL_act 277 = .ok (.istore 8, 2) ∧ decode cL_act 279 = .ok (.iload 8, 2) ∧ decode cL_act 281 = .ok (.iload 6, 2) ∧ decode cL_act 283 = .ok (.iload 4, 2) ∧ decode cL_act 285 = .ok (.if_icmp .lt 7, 3) ∧ decode cL_act 288 = .ok (.iconst (-1), 1) ∧ decode cL_act 289 = .ok (.goto 7, 3) ∧ decode cL_act 292 = .ok (.iload 4, 2) ∧ decode cL_act 294 = .ok (.iconst 1, 1) ∧ decode cL_act 295 = .ok (.isub, 1) ∧ decode cL_act 296 = .ok (.if_icmp .ne 35, 3) ∧ decode cL_act 299 = .ok (.iload 8, 2) ∧ decode cL_act 301 = .ok (.ifCond .lt 25, 3) := by decide +kernel
theorem dL_act_271 : Dc cL_act 271 (.aload_n 0) 1 272 := ⟨DL_act_c9.1, rfl⟩
theorem dL_act_272 : Dc cL_act 272 (.iload 6) 2 274 := ⟨DL_act_c9.2.1, rfl⟩
theorem dL_act_274 : Dc cL_act 274 (.invokevirtual 64) 3 277 := ⟨DL_act_c9.2.2.1, rfl⟩
theorem dL_act_277 : Dc cL_act 277 (.istore 8) 2 279 := ⟨DL_act_c9.2.2.2.1, rfl⟩
theorem dL_act_279 : Dc cL_act 279 (.iload 8) 2 281 := ⟨DL_act_c9.2.2.2.2.1, rfl⟩
theorem dL_act_281 : Dc cL_act 281 (.iload 6) 2 283 := ⟨DL_act_c9.2.2.2.2.2.1, rfl⟩
theorem dL_act_283 : Dc cL_act 283 (.iload 4) 2 285 := ⟨DL_act_c9.2.2.2.2.2.2.1, rfl⟩
theorem dL_act_285 : Db cL_act 285 (fun o => .if_icmp .lt o) 288 292 := ⟨7, DL_act_c9.2.2.2.2.2.2.2.1, rfl, rfl⟩
theorem dL_act_288 : Dc cL_act 288 (.iconst (-1)) 1 289 := ⟨DL_act_c9.2.2.2.2.2.2.2.2.1, rfl⟩
theorem dL_act_289 : Db cL_act 289 .goto 292 296 := ⟨7, DL_act_c9.2.2.2.2.2.2.2.2.2.1, rfl, rfl⟩
theorem dL_act_292 : Dc cL_act 292 (.iload 4) 2 294 := ⟨DL_act_c9.2.2.2.2.2.2.2.2.2.2.1, rfl⟩
theorem dL_act_294 : Dc cL_act 294 (.iconst 1) 1 295 := ⟨DL_act_c9.2.2.2.2.2.2.2.2.2.2.2.1, rfl⟩
theorem dL_act_295 : Dc cL_act 295 (.isub) 1 296 := ⟨DL_act_c9.2.2.2.2.2.2.2.2.2.2.2.2.1, rfl⟩
theorem dL_act_296 : Db cL_act 296 (fun o => .if_icmp .ne o) 299 331 := ⟨35, DL_act_c9.2.2.2.2.2.2.2.2.2.2.2.2.2.1, rfl, rfl⟩
theorem dL_act_299 : Dc cL_act 299 (.iload 8) 2 301 := ⟨DL_act_c9.2.2.2.2.2.2.2.2.2.2.2.2.2.2.1, rfl⟩
theorem dL_act_301 : Db cL_act 301 (fun o => .ifCond .lt o) 304 326 := ⟨25, DL_act_c9.2.2.2.2.2.2.2.2.2.2.2.2.2.2.2, rfl, rfl⟩
theorem DL_act_c10 : decode cL_act 304 = .ok (.aload_n 0, 1) ∧ decode cL_act 305 = .ok (.iload 6, 2) ∧ decode cL_act 307 = .ok (.iconst 0, 1) ∧ decode cL_act 308 = .ok (.invokevirtual 27, 3) ∧ decode cL_act 311 = .ok (.iload 7, 2) ∧ decode cL_act 313 = .ok (.if_icmp .ne 18, 3) ∧ decode cL_act 316 = .ok (.aload_n 0, 1) ∧ decode cL_act 317 = .ok (.iconst 3, 1) ∧ decode cL_act 318 = .ok (.invokevirtual 20, 3) ∧ decode cL_act 321 = .ok (.iload 5, 2) ∧ decode cL_act 323 = .ok (.if_icmp .ne 8, 3) ∧ decode cL_act 326 = .ok (.iload 8, 2) ∧ decode cL_act 328 = .ok (.goto 5, 3) ∧ decode cL_act 331 = .ok (.bipush (-9), 2) ∧ decode cL_act 333 = .ok (.ireturn, 1) ∧ decode cL_act 334 = .ok (.aload_n 0, 1) := by decide +kernel
theorem dL_act_304 : Dc cL_act 304 (.aload_n 0) 1 305 := ⟨DL_act_c10.1, rfl⟩
theorem dL_act_305 : Dc cL_act 305 (.iload 6) 2 307 := ⟨DL_act_c10.2.1, rfl⟩
theorem dL_act_307 : Dc cL_act 307 (.iconst 0) 1 308 := ⟨DL_act_c10.2.2.1, rfl⟩
theorem dL_act_308 : Dc cL_act 308 (.invokevirtual 27) 3 311 := ⟨DL_act_c10.2.2.2.1, rfl⟩
theorem dL_act_311 : Dc cL_act 311 (.iload 7) 2 313 := ⟨DL_act_c10.2.2.2.2.1, rfl⟩
theorem dL_act_313 : Db cL_act 313 (fun o => .if_icmp .ne o) 316 331 := ⟨18, DL_act_c10.2.2.2.2.2.1, rfl, rfl⟩
theorem dL_act_316 : Dc cL_act 316 (.aload_n 0) 1 317 := ⟨DL_act_c10.2.2.2.2.2.2.1, rfl⟩
theorem dL_act_317 : Dc cL_act 317 (.iconst 3) 1 318 := ⟨DL_act_c10.2.2.2.2.2.2.2.1, rfl⟩
theorem dL_act_318 : Dc cL_act 318 (.invokevirtual 20) 3 321 := ⟨DL_act_c10.2.2.2.2.2.2.2.2.1, rfl⟩
theorem dL_act_321 : Dc cL_act 321 (.iload 5) 2 323 := ⟨DL_act_c10.2.2.2.2.2.2.2.2.2.1, rfl⟩
theorem dL_act_323 : Db cL_act 323 (fun o => .if_icmp .ne o) 326 331 := ⟨8, DL_act_c10.2.2.2.2.2.2.2.2.2.2.1, rfl, rfl⟩
theorem dL_act_326 : Dc cL_act 326 (.iload 8) 2 328 := ⟨DL_act_c10.2.2.2.2.2.2.2.2.2.2.2.1, rfl⟩
theorem dL_act_328 : Db cL_act 328 .goto 331 333 := ⟨5, DL_act_c10.2.2.2.2.2.2.2.2.2.2.2.2.1, rfl, rfl⟩
theorem dL_act_331 : Dc cL_act 331 (.bipush (-9)) 2 333 := ⟨DL_act_c10.2.2.2.2.2.2.2.2.2.2.2.2.2.1, rfl⟩
theorem dL_act_333 : Dc cL_act 333 (.ireturn) 1 334 := ⟨DL_act_c10.2.2.2.2.2.2.2.2.2.2.2.2.2.2.1, rfl⟩
theorem dL_act_334 : Dc cL_act 334 (.aload_n 0) 1 335 := ⟨DL_act_c10.2.2.2.2.2.2.2.2.2.2.2.2.2.2.2, rfl⟩
theorem DL_act_c11 : decode cL_act 335 = .ok (.iload_n 2, 1) ∧ decode cL_act 336 = .ok (.bipush 11, 2) ∧ decode cL_act 338 = .ok (.isub, 1) ∧ decode cL_act 339 = .ok (.iload_n 3, 1) ∧ decode cL_act 340 = .ok (.invokestatic 102, 3) ∧ decode cL_act 343 = .ok (.ireturn, 1) := by decide +kernel
theorem dL_act_335 : Dc cL_act 335 (.iload_n 2) 1 336 := ⟨DL_act_c11.1, rfl⟩
theorem dL_act_336 : Dc cL_act 336 (.bipush 11) 2 338 := ⟨DL_act_c11.2.1, rfl⟩
theorem dL_act_338 : Dc cL_act 338 (.isub) 1 339 := ⟨DL_act_c11.2.2.1, rfl⟩
theorem dL_act_339 : Dc cL_act 339 (.iload_n 3) 1 340 := ⟨DL_act_c11.2.2.2.1, rfl⟩
theorem dL_act_340 : Dc cL_act 340 (.invokestatic 102) 3 343 := ⟨DL_act_c11.2.2.2.2.1, rfl⟩
theorem dL_act_343 : Dc cL_act 343 (.ireturn) 1 344 := ⟨DL_act_c11.2.2.2.2.2, rfl⟩
theorem DL_law_c0 : decode cL_law 0 = .ok (.new 15, 3) ∧ decode cL_law 3 = .ok (.dup, 1) ∧ decode cL_law 4 = .ok (.invokespecial 105, 3) ∧ decode cL_law 7 = .ok (.astore_n 1, 1) ∧ decode cL_law 8 = .ok (.aload_n 1, 1) ∧ decode cL_law 9 = .ok (.invokevirtual 106, 3) ∧ decode cL_law 12 = .ok (.bipush (-5), 2) ∧ decode cL_law 14 = .ok (.if_icmp .ne 50, 3) ∧ decode cL_law 17 = .ok (.aload_n 1, 1) ∧ decode cL_law 18 = .ok (.invokevirtual 109, 3) ∧ decode cL_law 21 = .ok (.bipush (-5), 2) ∧ decode cL_law 23 = .ok (.if_icmp .ne 41, 3) ∧ decode cL_law 26 = .ok (.aload_n 1, 1) ∧ decode cL_law 27 = .ok (.bipush 8, 2) ∧ decode cL_law 29 = .ok (.invokevirtual 20, 3) ∧ decode cL_law 32 = .ok (.bipush (-5), 2) := by decide +kernel
theorem dL_law_0 : Dc cL_law 0 (.new 15) 3 3 := ⟨DL_law_c0.1, rfl⟩
theorem dL_law_3 : Dc cL_law 3 (.dup) 1 4 := ⟨DL_law_c0.2.1, rfl⟩
theorem dL_law_4 : Dc cL_law 4 (.invokespecial 105) 3 7 := ⟨DL_law_c0.2.2.1, rfl⟩
theorem dL_law_7 : Dc cL_law 7 (.astore_n 1) 1 8 := ⟨DL_law_c0.2.2.2.1, rfl⟩
theorem dL_law_8 : Dc cL_law 8 (.aload_n 1) 1 9 := ⟨DL_law_c0.2.2.2.2.1, rfl⟩
theorem dL_law_9 : Dc cL_law 9 (.invokevirtual 106) 3 12 := ⟨DL_law_c0.2.2.2.2.2.1, rfl⟩
theorem dL_law_12 : Dc cL_law 12 (.bipush (-5)) 2 14 := ⟨DL_law_c0.2.2.2.2.2.2.1, rfl⟩
theorem dL_law_14 : Db cL_law 14 (fun o => .if_icmp .ne o) 17 64 := ⟨50, DL_law_c0.2.2.2.2.2.2.2.1, rfl, rfl⟩
theorem dL_law_17 : Dc cL_law 17 (.aload_n 1) 1 18 := ⟨DL_law_c0.2.2.2.2.2.2.2.2.1, rfl⟩
theorem dL_law_18 : Dc cL_law 18 (.invokevirtual 109) 3 21 := ⟨DL_law_c0.2.2.2.2.2.2.2.2.2.1, rfl⟩
theorem dL_law_21 : Dc cL_law 21 (.bipush (-5)) 2 23 := ⟨DL_law_c0.2.2.2.2.2.2.2.2.2.2.1, rfl⟩
theorem dL_law_23 : Db cL_law 23 (fun o => .if_icmp .ne o) 26 64 := ⟨41, DL_law_c0.2.2.2.2.2.2.2.2.2.2.2.1, rfl, rfl⟩
theorem dL_law_26 : Dc cL_law 26 (.aload_n 1) 1 27 := ⟨DL_law_c0.2.2.2.2.2.2.2.2.2.2.2.2.1, rfl⟩
theorem dL_law_27 : Dc cL_law 27 (.bipush 8) 2 29 := ⟨DL_law_c0.2.2.2.2.2.2.2.2.2.2.2.2.2.1, rfl⟩
theorem dL_law_29 : Dc cL_law 29 (.invokevirtual 20) 3 32 := ⟨DL_law_c0.2.2.2.2.2.2.2.2.2.2.2.2.2.2.1, rfl⟩
theorem dL_law_32 : Dc cL_law 32 (.bipush (-5)) 2 34 := ⟨DL_law_c0.2.2.2.2.2.2.2.2.2.2.2.2.2.2.2, rfl⟩
theorem DL_law_c1 : decode cL_law 34 = .ok (.if_icmp .ne 30, 3) ∧ decode cL_law 37 = .ok (.aload_n 1, 1) ∧ decode cL_law 38 = .ok (.iconst 0, 1) ∧ decode cL_law 39 = .ok (.invokestatic 112, 3) ∧ decode cL_law 42 = .ok (.ifCond .eq 22, 3) ∧ decode cL_law 45 = .ok (.aload_n 1, 1) ∧ decode cL_law 46 = .ok (.iconst 1, 1) ∧ decode cL_law 47 = .ok (.invokestatic 112, 3) ∧ decode cL_law 50 = .ok (.ifCond .eq 14, 3) ∧ decode cL_law 53 = .ok (.aload_n 1, 1) ∧ decode cL_law 54 = .ok (.invokevirtual 115, 3) ∧ decode cL_law 57 = .ok (.ifCond .ne 7, 3) ∧ decode cL_law 60 = .ok (.iconst 1, 1) ∧ decode cL_law 61 = .ok (.goto 4, 3) ∧ decode cL_law 64 = .ok (.iconst 0, 1) ∧ decode cL_law 65 = .ok (.istore_n 2, 1) := by decide +kernel
theorem dL_law_34 : Db cL_law 34 (fun o => .if_icmp .ne o) 37 64 := ⟨30, DL_law_c1.1, rfl, rfl⟩
theorem dL_law_37 : Dc cL_law 37 (.aload_n 1) 1 38 := ⟨DL_law_c1.2.1, rfl⟩
theorem dL_law_38 : Dc cL_law 38 (.iconst 0) 1 39 := ⟨DL_law_c1.2.2.1, rfl⟩
theorem dL_law_39 : Dc cL_law 39 (.invokestatic 112) 3 42 := ⟨DL_law_c1.2.2.2.1, rfl⟩
theorem dL_law_42 : Db cL_law 42 (fun o => .ifCond .eq o) 45 64 := ⟨22, DL_law_c1.2.2.2.2.1, rfl, rfl⟩
theorem dL_law_45 : Dc cL_law 45 (.aload_n 1) 1 46 := ⟨DL_law_c1.2.2.2.2.2.1, rfl⟩
theorem dL_law_46 : Dc cL_law 46 (.iconst 1) 1 47 := ⟨DL_law_c1.2.2.2.2.2.2.1, rfl⟩
theorem dL_law_47 : Dc cL_law 47 (.invokestatic 112) 3 50 := ⟨DL_law_c1.2.2.2.2.2.2.2.1, rfl⟩
theorem dL_law_50 : Db cL_law 50 (fun o => .ifCond .eq o) 53 64 := ⟨14, DL_law_c1.2.2.2.2.2.2.2.2.1, rfl, rfl⟩
theorem dL_law_53 : Dc cL_law 53 (.aload_n 1) 1 54 := ⟨DL_law_c1.2.2.2.2.2.2.2.2.2.1, rfl⟩
theorem dL_law_54 : Dc cL_law 54 (.invokevirtual 115) 3 57 := ⟨DL_law_c1.2.2.2.2.2.2.2.2.2.2.1, rfl⟩
theorem dL_law_57 : Db cL_law 57 (fun o => .ifCond .ne o) 60 64 := ⟨7, DL_law_c1.2.2.2.2.2.2.2.2.2.2.2.1, rfl, rfl⟩
theorem dL_law_60 : Dc cL_law 60 (.iconst 1) 1 61 := ⟨DL_law_c1.2.2.2.2.2.2.2.2.2.2.2.2.1, rfl⟩
theorem dL_law_61 : Db cL_law 61 .goto 64 65 := ⟨4, DL_law_c1.2.2.2.2.2.2.2.2.2.2.2.2.2.1, rfl, rfl⟩
theorem dL_law_64 : Dc cL_law 64 (.iconst 0) 1 65 := ⟨DL_law_c1.2.2.2.2.2.2.2.2.2.2.2.2.2.2.1, rfl⟩
theorem dL_law_65 : Dc cL_law 65 (.istore_n 2) 1 66 := ⟨DL_law_c1.2.2.2.2.2.2.2.2.2.2.2.2.2.2.2, rfl⟩
theorem DL_law_c2 : decode cL_law 66 = .ok (.aload_n 1, 1) ∧ decode cL_law 67 = .ok (.invokestatic 91, 3) ∧ decode cL_law 70 = .ok (.lstore_n 3, 1) ∧ decode cL_law 71 = .ok (.iconst 0, 1) ∧ decode cL_law 72 = .ok (.istore 5, 2) ∧ decode cL_law 74 = .ok (.iconst 0, 1) ∧ decode cL_law 75 = .ok (.istore 6, 2) ∧ decode cL_law 77 = .ok (.iload 6, 2) ∧ decode cL_law 79 = .ok (.bipush 70, 2) ∧ decode cL_law 81 = .ok (.if_icmp .ge 290, 3) ∧ decode cL_law 84 = .ok (.iload_n 2, 1) ∧ decode cL_law 85 = .ok (.ifCond .eq 286, 3) ∧ decode cL_law 88 = .ok (.aload_n 0, 1) ∧ decode cL_law 89 = .ok (.iload 6, 2) ∧ decode cL_law 91 = .ok (.invokestatic 118, 3) ∧ decode cL_law 94 = .ok (.istore 7, 2) := by decide +kernel
theorem dL_law_66 : Dc cL_law 66 (.aload_n 1) 1 67 := ⟨DL_law_c2.1, rfl⟩
theorem dL_law_67 : Dc cL_law 67 (.invokestatic 91) 3 70 := ⟨DL_law_c2.2.1, rfl⟩
theorem dL_law_70 : Dc cL_law 70 (.lstore_n 3) 1 71 := ⟨DL_law_c2.2.2.1, rfl⟩
theorem dL_law_71 : Dc cL_law 71 (.iconst 0) 1 72 := ⟨DL_law_c2.2.2.2.1, rfl⟩
theorem dL_law_72 : Dc cL_law 72 (.istore 5) 2 74 := ⟨DL_law_c2.2.2.2.2.1, rfl⟩
theorem dL_law_74 : Dc cL_law 74 (.iconst 0) 1 75 := ⟨DL_law_c2.2.2.2.2.2.1, rfl⟩
theorem dL_law_75 : Dc cL_law 75 (.istore 6) 2 77 := ⟨DL_law_c2.2.2.2.2.2.2.1, rfl⟩
theorem dL_law_77 : Dc cL_law 77 (.iload 6) 2 79 := ⟨DL_law_c2.2.2.2.2.2.2.2.1, rfl⟩
theorem dL_law_79 : Dc cL_law 79 (.bipush 70) 2 81 := ⟨DL_law_c2.2.2.2.2.2.2.2.2.1, rfl⟩
theorem dL_law_81 : Db cL_law 81 (fun o => .if_icmp .ge o) 84 371 := ⟨290, DL_law_c2.2.2.2.2.2.2.2.2.2.1, rfl, rfl⟩
theorem dL_law_84 : Dc cL_law 84 (.iload_n 2) 1 85 := ⟨DL_law_c2.2.2.2.2.2.2.2.2.2.2.1, rfl⟩
theorem dL_law_85 : Db cL_law 85 (fun o => .ifCond .eq o) 88 371 := ⟨286, DL_law_c2.2.2.2.2.2.2.2.2.2.2.2.1, rfl, rfl⟩
theorem dL_law_88 : Dc cL_law 88 (.aload_n 0) 1 89 := ⟨DL_law_c2.2.2.2.2.2.2.2.2.2.2.2.2.1, rfl⟩
theorem dL_law_89 : Dc cL_law 89 (.iload 6) 2 91 := ⟨DL_law_c2.2.2.2.2.2.2.2.2.2.2.2.2.2.1, rfl⟩
theorem dL_law_91 : Dc cL_law 91 (.invokestatic 118) 3 94 := ⟨DL_law_c2.2.2.2.2.2.2.2.2.2.2.2.2.2.2.1, rfl⟩
theorem dL_law_94 : Dc cL_law 94 (.istore 7) 2 96 := ⟨DL_law_c2.2.2.2.2.2.2.2.2.2.2.2.2.2.2.2, rfl⟩
theorem DL_law_c3 : decode cL_law 96 = .ok (.aload_n 1, 1) ∧ decode cL_law 97 = .ok (.invokestatic 91, 3) ∧ decode cL_law 100 = .ok (.lstore 8, 2) ∧ decode cL_law 102 = .ok (.aload_n 1, 1) ∧ decode cL_law 103 = .ok (.bipush 10, 2) ∧ decode cL_law 105 = .ok (.invokevirtual 20, 3) ∧ decode cL_law 108 = .ok (.istore 10, 2) ∧ decode cL_law 110 = .ok (.aload_n 1, 1) ∧ decode cL_law 111 = .ok (.iload 7, 2) ∧ decode cL_law 113 = .ok (.invokestatic 121, 3) ∧ decode cL_law 116 = .ok (.istore 11, 2) ∧ decode cL_law 118 = .ok (.aload_n 1, 1) ∧ decode cL_law 119 = .ok (.bipush 10, 2) ∧ decode cL_law 121 = .ok (.invokevirtual 20, 3) ∧ decode cL_law 124 = .ok (.istore 12, 2) ∧ decode cL_law 126 = .ok (.iload 11, 2) := by decide +kernel
theorem dL_law_96 : Dc cL_law 96 (.aload_n 1) 1 97 := ⟨DL_law_c3.1, rfl⟩
theorem dL_law_97 : Dc cL_law 97 (.invokestatic 91) 3 100 := ⟨DL_law_c3.2.1, rfl⟩
theorem dL_law_100 : Dc cL_law 100 (.lstore 8) 2 102 := ⟨DL_law_c3.2.2.1, rfl⟩
theorem dL_law_102 : Dc cL_law 102 (.aload_n 1) 1 103 := ⟨DL_law_c3.2.2.2.1, rfl⟩
theorem dL_law_103 : Dc cL_law 103 (.bipush 10) 2 105 := ⟨DL_law_c3.2.2.2.2.1, rfl⟩
theorem dL_law_105 : Dc cL_law 105 (.invokevirtual 20) 3 108 := ⟨DL_law_c3.2.2.2.2.2.1, rfl⟩
theorem dL_law_108 : Dc cL_law 108 (.istore 10) 2 110 := ⟨DL_law_c3.2.2.2.2.2.2.1, rfl⟩
theorem dL_law_110 : Dc cL_law 110 (.aload_n 1) 1 111 := ⟨DL_law_c3.2.2.2.2.2.2.2.1, rfl⟩
theorem dL_law_111 : Dc cL_law 111 (.iload 7) 2 113 := ⟨DL_law_c3.2.2.2.2.2.2.2.2.1, rfl⟩
theorem dL_law_113 : Dc cL_law 113 (.invokestatic 121) 3 116 := ⟨DL_law_c3.2.2.2.2.2.2.2.2.2.1, rfl⟩
theorem dL_law_116 : Dc cL_law 116 (.istore 11) 2 118 := ⟨DL_law_c3.2.2.2.2.2.2.2.2.2.2.1, rfl⟩
theorem dL_law_118 : Dc cL_law 118 (.aload_n 1) 1 119 := ⟨DL_law_c3.2.2.2.2.2.2.2.2.2.2.2.1, rfl⟩
theorem dL_law_119 : Dc cL_law 119 (.bipush 10) 2 121 := ⟨DL_law_c3.2.2.2.2.2.2.2.2.2.2.2.2.1, rfl⟩
theorem dL_law_121 : Dc cL_law 121 (.invokevirtual 20) 3 124 := ⟨DL_law_c3.2.2.2.2.2.2.2.2.2.2.2.2.2.1, rfl⟩
theorem dL_law_124 : Dc cL_law 124 (.istore 12) 2 126 := ⟨DL_law_c3.2.2.2.2.2.2.2.2.2.2.2.2.2.2.1, rfl⟩
theorem dL_law_126 : Dc cL_law 126 (.iload 11) 2 128 := ⟨DL_law_c3.2.2.2.2.2.2.2.2.2.2.2.2.2.2.2, rfl⟩
theorem DL_law_c4 : decode cL_law 128 = .ok (.bipush (-9), 2) ∧ decode cL_law 130 = .ok (.if_icmp .le 95, 3) ∧ decode cL_law 133 = .ok (.iload 11, 2) ∧ decode cL_law 135 = .ok (.ifCond .ge 23, 3) ∧ decode cL_law 138 = .ok (.iload 12, 2) ∧ decode cL_law 140 = .ok (.iload 10, 2) ∧ decode cL_law 142 = .ok (.if_icmp .ne 83, 3) ∧ decode cL_law 145 = .ok (.aload_n 1, 1) ∧ decode cL_law 146 = .ok (.invokestatic 91, 3) ∧ decode cL_law 149 = .ok (.lload 8, 2) ∧ decode cL_law 151 = .ok (.lcmp, 1) ∧ decode cL_law 152 = .ok (.ifCond .ne 73, 3) ∧ decode cL_law 155 = .ok (.goto 22, 3) ∧ decode cL_law 158 = .ok (.iload 12, 2) ∧ decode cL_law 160 = .ok (.iload 10, 2) ∧ decode cL_law 162 = .ok (.iconst 4, 1) := by decide +kernel
theorem dL_law_128 : Dc cL_law 128 (.bipush (-9)) 2 130 := ⟨DL_law_c4.1, rfl⟩
theorem dL_law_130 : Db cL_law 130 (fun o => .if_icmp .le o) 133 225 := ⟨95, DL_law_c4.2.1, rfl, rfl⟩
theorem dL_law_133 : Dc cL_law 133 (.iload 11) 2 135 := ⟨DL_law_c4.2.2.1, rfl⟩
theorem dL_law_135 : Db cL_law 135 (fun o => .ifCond .ge o) 138 158 := ⟨23, DL_law_c4.2.2.2.1, rfl, rfl⟩
theorem dL_law_138 : Dc cL_law 138 (.iload 12) 2 140 := ⟨DL_law_c4.2.2.2.2.1, rfl⟩
theorem dL_law_140 : Dc cL_law 140 (.iload 10) 2 142 := ⟨DL_law_c4.2.2.2.2.2.1, rfl⟩
theorem dL_law_142 : Db cL_law 142 (fun o => .if_icmp .ne o) 145 225 := ⟨83, DL_law_c4.2.2.2.2.2.2.1, rfl, rfl⟩
theorem dL_law_145 : Dc cL_law 145 (.aload_n 1) 1 146 := ⟨DL_law_c4.2.2.2.2.2.2.2.1, rfl⟩
theorem dL_law_146 : Dc cL_law 146 (.invokestatic 91) 3 149 := ⟨DL_law_c4.2.2.2.2.2.2.2.2.1, rfl⟩
theorem dL_law_149 : Dc cL_law 149 (.lload 8) 2 151 := ⟨DL_law_c4.2.2.2.2.2.2.2.2.2.1, rfl⟩
theorem dL_law_151 : Dc cL_law 151 (.lcmp) 1 152 := ⟨DL_law_c4.2.2.2.2.2.2.2.2.2.2.1, rfl⟩
theorem dL_law_152 : Db cL_law 152 (fun o => .ifCond .ne o) 155 225 := ⟨73, DL_law_c4.2.2.2.2.2.2.2.2.2.2.2.1, rfl, rfl⟩
theorem dL_law_155 : Db cL_law 155 .goto 158 177 := ⟨22, DL_law_c4.2.2.2.2.2.2.2.2.2.2.2.2.1, rfl, rfl⟩
theorem dL_law_158 : Dc cL_law 158 (.iload 12) 2 160 := ⟨DL_law_c4.2.2.2.2.2.2.2.2.2.2.2.2.2.1, rfl⟩
theorem dL_law_160 : Dc cL_law 160 (.iload 10) 2 162 := ⟨DL_law_c4.2.2.2.2.2.2.2.2.2.2.2.2.2.2.1, rfl⟩
theorem dL_law_162 : Dc cL_law 162 (.iconst 4) 1 163 := ⟨DL_law_c4.2.2.2.2.2.2.2.2.2.2.2.2.2.2.2, rfl⟩
theorem DL_law_c5 : decode cL_law 163 = .ok (.if_icmp .ge 10, 3) ∧ decode cL_law 166 = .ok (.iload 10, 2) ∧ decode cL_law 168 = .ok (.iconst 1, 1) ∧ decode cL_law 169 = .ok (.iadd, 1) ∧ decode cL_law 170 = .ok (.goto 4, 3) ∧ decode cL_law 173 = .ok (.iconst 4, 1) ∧ decode cL_law 174 = .ok (.if_icmp .ne 51, 3) ∧ decode cL_law 177 = .ok (.iload 6, 2) ∧ decode cL_law 179 = .ok (.iconst 3, 1) ∧ decode cL_law 180 = .ok (.irem, 1) ∧ decode cL_law 181 = .ok (.iconst 2, 1) ∧ decode cL_law 182 = .ok (.if_icmp .ne 17, 3) ∧ decode cL_law 185 = .ok (.aload_n 1, 1) ∧ decode cL_law 186 = .ok (.invokestatic 125, 3) ∧ decode cL_law 189 = .ok (.ifCond .eq 36, 3) ∧ decode cL_law 192 = .ok (.aload_n 1, 1) := by decide +kernel
theorem dL_law_163 : Db cL_law 163 (fun o => .if_icmp .ge o) 166 173 := ⟨10, DL_law_c5.1, rfl, rfl⟩
theorem dL_law_166 : Dc cL_law 166 (.iload 10) 2 168 := ⟨DL_law_c5.2.1, rfl⟩
theorem dL_law_168 : Dc cL_law 168 (.iconst 1) 1 169 := ⟨DL_law_c5.2.2.1, rfl⟩
theorem dL_law_169 : Dc cL_law 169 (.iadd) 1 170 := ⟨DL_law_c5.2.2.2.1, rfl⟩
theorem dL_law_170 : Db cL_law 170 .goto 173 174 := ⟨4, DL_law_c5.2.2.2.2.1, rfl, rfl⟩
theorem dL_law_173 : Dc cL_law 173 (.iconst 4) 1 174 := ⟨DL_law_c5.2.2.2.2.2.1, rfl⟩
theorem dL_law_174 : Db cL_law 174 (fun o => .if_icmp .ne o) 177 225 := ⟨51, DL_law_c5.2.2.2.2.2.2.1, rfl, rfl⟩
theorem dL_law_177 : Dc cL_law 177 (.iload 6) 2 179 := ⟨DL_law_c5.2.2.2.2.2.2.2.1, rfl⟩
theorem dL_law_179 : Dc cL_law 179 (.iconst 3) 1 180 := ⟨DL_law_c5.2.2.2.2.2.2.2.2.1, rfl⟩
theorem dL_law_180 : Dc cL_law 180 (.irem) 1 181 := ⟨DL_law_c5.2.2.2.2.2.2.2.2.2.1, rfl⟩
theorem dL_law_181 : Dc cL_law 181 (.iconst 2) 1 182 := ⟨DL_law_c5.2.2.2.2.2.2.2.2.2.2.1, rfl⟩
theorem dL_law_182 : Db cL_law 182 (fun o => .if_icmp .ne o) 185 199 := ⟨17, DL_law_c5.2.2.2.2.2.2.2.2.2.2.2.1, rfl, rfl⟩
theorem dL_law_185 : Dc cL_law 185 (.aload_n 1) 1 186 := ⟨DL_law_c5.2.2.2.2.2.2.2.2.2.2.2.2.1, rfl⟩
theorem dL_law_186 : Dc cL_law 186 (.invokestatic 125) 3 189 := ⟨DL_law_c5.2.2.2.2.2.2.2.2.2.2.2.2.2.1, rfl⟩
theorem dL_law_189 : Db cL_law 189 (fun o => .ifCond .eq o) 192 225 := ⟨36, DL_law_c5.2.2.2.2.2.2.2.2.2.2.2.2.2.2.1, rfl, rfl⟩
theorem dL_law_192 : Dc cL_law 192 (.aload_n 1) 1 193 := ⟨DL_law_c5.2.2.2.2.2.2.2.2.2.2.2.2.2.2.2, rfl⟩
theorem DL_law_c6 : decode cL_law 193 = .ok (.invokestatic 129, 3) ∧ decode cL_law 196 = .ok (.ifCond .eq 29, 3) ∧ decode cL_law 199 = .ok (.iload 6, 2) ∧ decode cL_law 201 = .ok (.bipush 8, 2) ∧ decode cL_law 203 = .ok (.irem, 1) ∧ decode cL_law 204 = .ok (.bipush 7, 2) ∧ decode cL_law 206 = .ok (.if_icmp .ne 15, 3) ∧ decode cL_law 209 = .ok (.aload_n 1, 1) ∧ decode cL_law 210 = .ok (.iload 7, 2) ∧ decode cL_law 212 = .ok (.bipush 7, 2) ∧ decode cL_law 214 = .ok (.idiv, 1) ∧ decode cL_law 215 = .ok (.invokestatic 112, 3) ∧ decode cL_law 218 = .ok (.ifCond .eq 7, 3) ∧ decode cL_law 221 = .ok (.iconst 1, 1) ∧ decode cL_law 222 = .ok (.goto 4, 3) ∧ decode cL_law 225 = .ok (.iconst 0, 1) := by decide +kernel
theorem dL_law_193 : Dc cL_law 193 (.invokestatic 129) 3 196 := ⟨DL_law_c6.1, rfl⟩
theorem dL_law_196 : Db cL_law 196 (fun o => .ifCond .eq o) 199 225 := ⟨29, DL_law_c6.2.1, rfl, rfl⟩
theorem dL_law_199 : Dc cL_law 199 (.iload 6) 2 201 := ⟨DL_law_c6.2.2.1, rfl⟩
theorem dL_law_201 : Dc cL_law 201 (.bipush 8) 2 203 := ⟨DL_law_c6.2.2.2.1, rfl⟩
theorem dL_law_203 : Dc cL_law 203 (.irem) 1 204 := ⟨DL_law_c6.2.2.2.2.1, rfl⟩
theorem dL_law_204 : Dc cL_law 204 (.bipush 7) 2 206 := ⟨DL_law_c6.2.2.2.2.2.1, rfl⟩
theorem dL_law_206 : Db cL_law 206 (fun o => .if_icmp .ne o) 209 221 := ⟨15, DL_law_c6.2.2.2.2.2.2.1, rfl, rfl⟩
theorem dL_law_209 : Dc cL_law 209 (.aload_n 1) 1 210 := ⟨DL_law_c6.2.2.2.2.2.2.2.1, rfl⟩
theorem dL_law_210 : Dc cL_law 210 (.iload 7) 2 212 := ⟨DL_law_c6.2.2.2.2.2.2.2.2.1, rfl⟩
theorem dL_law_212 : Dc cL_law 212 (.bipush 7) 2 214 := ⟨DL_law_c6.2.2.2.2.2.2.2.2.2.1, rfl⟩
theorem dL_law_214 : Dc cL_law 214 (.idiv) 1 215 := ⟨DL_law_c6.2.2.2.2.2.2.2.2.2.2.1, rfl⟩
theorem dL_law_215 : Dc cL_law 215 (.invokestatic 112) 3 218 := ⟨DL_law_c6.2.2.2.2.2.2.2.2.2.2.2.1, rfl⟩
theorem dL_law_218 : Db cL_law 218 (fun o => .ifCond .eq o) 221 225 := ⟨7, DL_law_c6.2.2.2.2.2.2.2.2.2.2.2.2.1, rfl, rfl⟩
theorem dL_law_221 : Dc cL_law 221 (.iconst 1) 1 222 := ⟨DL_law_c6.2.2.2.2.2.2.2.2.2.2.2.2.2.1, rfl⟩
theorem dL_law_222 : Db cL_law 222 .goto 225 226 := ⟨4, DL_law_c6.2.2.2.2.2.2.2.2.2.2.2.2.2.2.1, rfl, rfl⟩
theorem dL_law_225 : Dc cL_law 225 (.iconst 0) 1 226 := ⟨DL_law_c6.2.2.2.2.2.2.2.2.2.2.2.2.2.2.2, rfl⟩
theorem DL_law_c7 : decode cL_law 226 = .ok (.istore_n 2, 1) ∧ decode cL_law 227 = .ok (.iload_n 2, 1) ∧ decode cL_law 228 = .ok (.ifCond .eq 53, 3) ∧ decode cL_law 231 = .ok (.iload 11, 2) ∧ decode cL_law 233 = .ok (.ifCond .lt 48, 3) ∧ decode cL_law 236 = .ok (.iload 7, 2) ∧ decode cL_law 238 = .ok (.bipush 17, 2) ∧ decode cL_law 240 = .ok (.idiv, 1) ∧ decode cL_law 241 = .ok (.iconst 5, 1) ∧ decode cL_law 242 = .ok (.irem, 1) ∧ decode cL_law 243 = .ok (.ifCond .ne 38, 3) ∧ decode cL_law 246 = .ok (.aload_n 1, 1) ∧ decode cL_law 247 = .ok (.invokevirtual 106, 3) ∧ decode cL_law 250 = .ok (.iload 10, 2) ∧ decode cL_law 252 = .ok (.iconst 4, 1) ∧ decode cL_law 253 = .ok (.if_icmp .ge 8, 3) := by decide +kernel
theorem dL_law_226 : Dc cL_law 226 (.istore_n 2) 1 227 := ⟨DL_law_c7.1, rfl⟩
theorem dL_law_227 : Dc cL_law 227 (.iload_n 2) 1 228 := ⟨DL_law_c7.2.1, rfl⟩
theorem dL_law_228 : Db cL_law 228 (fun o => .ifCond .eq o) 231 281 := ⟨53, DL_law_c7.2.2.1, rfl, rfl⟩
theorem dL_law_231 : Dc cL_law 231 (.iload 11) 2 233 := ⟨DL_law_c7.2.2.2.1, rfl⟩
theorem dL_law_233 : Db cL_law 233 (fun o => .ifCond .lt o) 236 281 := ⟨48, DL_law_c7.2.2.2.2.1, rfl, rfl⟩
theorem dL_law_236 : Dc cL_law 236 (.iload 7) 2 238 := ⟨DL_law_c7.2.2.2.2.2.1, rfl⟩
theorem dL_law_238 : Dc cL_law 238 (.bipush 17) 2 240 := ⟨DL_law_c7.2.2.2.2.2.2.1, rfl⟩
theorem dL_law_240 : Dc cL_law 240 (.idiv) 1 241 := ⟨DL_law_c7.2.2.2.2.2.2.2.1, rfl⟩
theorem dL_law_241 : Dc cL_law 241 (.iconst 5) 1 242 := ⟨DL_law_c7.2.2.2.2.2.2.2.2.1, rfl⟩
theorem dL_law_242 : Dc cL_law 242 (.irem) 1 243 := ⟨DL_law_c7.2.2.2.2.2.2.2.2.2.1, rfl⟩
theorem dL_law_243 : Db cL_law 243 (fun o => .ifCond .ne o) 246 281 := ⟨38, DL_law_c7.2.2.2.2.2.2.2.2.2.2.1, rfl, rfl⟩
theorem dL_law_246 : Dc cL_law 246 (.aload_n 1) 1 247 := ⟨DL_law_c7.2.2.2.2.2.2.2.2.2.2.2.1, rfl⟩
theorem dL_law_247 : Dc cL_law 247 (.invokevirtual 106) 3 250 := ⟨DL_law_c7.2.2.2.2.2.2.2.2.2.2.2.2.1, rfl⟩
theorem dL_law_250 : Dc cL_law 250 (.iload 10) 2 252 := ⟨DL_law_c7.2.2.2.2.2.2.2.2.2.2.2.2.2.1, rfl⟩
theorem dL_law_252 : Dc cL_law 252 (.iconst 4) 1 253 := ⟨DL_law_c7.2.2.2.2.2.2.2.2.2.2.2.2.2.2.1, rfl⟩
theorem dL_law_253 : Db cL_law 253 (fun o => .if_icmp .ge o) 256 261 := ⟨8, DL_law_c7.2.2.2.2.2.2.2.2.2.2.2.2.2.2.2, rfl, rfl⟩
theorem DL_law_c8 : decode cL_law 256 = .ok (.iload 10, 2) ∧ decode cL_law 258 = .ok (.goto 4, 3) ∧ decode cL_law 261 = .ok (.iconst 3, 1) ∧ decode cL_law 262 = .ok (.if_icmp .ne 17, 3) ∧ decode cL_law 265 = .ok (.aload_n 1, 1) ∧ decode cL_law 266 = .ok (.invokestatic 91, 3) ∧ decode cL_law 269 = .ok (.lload 8, 2) ∧ decode cL_law 271 = .ok (.lcmp, 1) ∧ decode cL_law 272 = .ok (.ifCond .ne 7, 3) ∧ decode cL_law 275 = .ok (.iconst 1, 1) ∧ decode cL_law 276 = .ok (.goto 4, 3) ∧ decode cL_law 279 = .ok (.iconst 0, 1) ∧ decode cL_law 280 = .ok (.istore_n 2, 1) ∧ decode cL_law 281 = .ok (.iload_n 2, 1) ∧ decode cL_law 282 = .ok (.ifCond .eq 83, 3) ∧ decode cL_law 285 = .ok (.iload 6, 2) := by decide +kernel
theorem dL_law_256 : Dc cL_law 256 (.iload 10) 2 258 := ⟨DL_law_c8.1, rfl⟩
theorem dL_law_258 : Db cL_law 258 .goto 261 262 := ⟨4, DL_law_c8.2.1, rfl, rfl⟩
theorem dL_law_261 : Dc cL_law 261 (.iconst 3) 1 262 := ⟨DL_law_c8.2.2.1, rfl⟩
theorem dL_law_262 : Db cL_law 262 (fun o => .if_icmp .ne o) 265 279 := ⟨17, DL_law_c8.2.2.2.1, rfl, rfl⟩
theorem dL_law_265 : Dc cL_law 265 (.aload_n 1) 1 266 := ⟨DL_law_c8.2.2.2.2.1, rfl⟩
theorem dL_law_266 : Dc cL_law 266 (.invokestatic 91) 3 269 := ⟨DL_law_c8.2.2.2.2.2.1, rfl⟩
theorem dL_law_269 : Dc cL_law 269 (.lload 8) 2 271 := ⟨DL_law_c8.2.2.2.2.2.2.1, rfl⟩
theorem dL_law_271 : Dc cL_law 271 (.lcmp) 1 272 := ⟨DL_law_c8.2.2.2.2.2.2.2.1, rfl⟩
theorem dL_law_272 : Db cL_law 272 (fun o => .ifCond .ne o) 275 279 := ⟨7, DL_law_c8.2.2.2.2.2.2.2.2.1, rfl, rfl⟩
theorem dL_law_275 : Dc cL_law 275 (.iconst 1) 1 276 := ⟨DL_law_c8.2.2.2.2.2.2.2.2.2.1, rfl⟩
theorem dL_law_276 : Db cL_law 276 .goto 279 280 := ⟨4, DL_law_c8.2.2.2.2.2.2.2.2.2.2.1, rfl, rfl⟩
theorem dL_law_279 : Dc cL_law 279 (.iconst 0) 1 280 := ⟨DL_law_c8.2.2.2.2.2.2.2.2.2.2.2.1, rfl⟩
theorem dL_law_280 : Dc cL_law 280 (.istore_n 2) 1 281 := ⟨DL_law_c8.2.2.2.2.2.2.2.2.2.2.2.2.1, rfl⟩
theorem dL_law_281 : Dc cL_law 281 (.iload_n 2) 1 282 := ⟨DL_law_c8.2.2.2.2.2.2.2.2.2.2.2.2.2.1, rfl⟩
theorem dL_law_282 : Db cL_law 282 (fun o => .ifCond .eq o) 285 365 := ⟨83, DL_law_c8.2.2.2.2.2.2.2.2.2.2.2.2.2.2.1, rfl, rfl⟩
theorem dL_law_285 : Dc cL_law 285 (.iload 6) 2 287 := ⟨DL_law_c8.2.2.2.2.2.2.2.2.2.2.2.2.2.2.2, rfl⟩
theorem DL_law_c9 : decode cL_law 287 = .ok (.bipush 14, 2) ∧ decode cL_law 289 = .ok (.irem, 1) ∧ decode cL_law 290 = .ok (.bipush 13, 2) ∧ decode cL_law 292 = .ok (.if_icmp .ne 73, 3) ∧ decode cL_law 295 = .ok (.aload_n 1, 1) ∧ decode cL_law 296 = .ok (.invokestatic 91, 3) ∧ decode cL_law 299 = .ok (.lstore 13, 2) ∧ decode cL_law 301 = .ok (.aload_n 1, 1) ∧ decode cL_law 302 = .ok (.iconst 2, 1) ∧ decode cL_law 303 = .ok (.invokevirtual 20, 3) ∧ decode cL_law 306 = .ok (.istore 15, 2) ∧ decode cL_law 308 = .ok (.aload_n 1, 1) ∧ decode cL_law 309 = .ok (.invokevirtual 109, 3) ∧ decode cL_law 312 = .ok (.iload 5, 2) ∧ decode cL_law 314 = .ok (.if_icmp .ne 42, 3) ∧ decode cL_law 317 = .ok (.aload_n 1, 1) := by decide +kernel
theorem dL_law_287 : Dc cL_law 287 (.bipush 14) 2 289 := ⟨DL_law_c9.1, rfl⟩
theorem dL_law_289 : Dc cL_law 289 (.irem) 1 290 := ⟨DL_law_c9.2.1, rfl⟩
theorem dL_law_290 : Dc cL_law 290 (.bipush 13) 2 292 := ⟨DL_law_c9.2.2.1, rfl⟩
theorem dL_law_292 : Db cL_law 292 (fun o => .if_icmp .ne o) 295 365 := ⟨73, DL_law_c9.2.2.2.1, rfl, rfl⟩
theorem dL_law_295 : Dc cL_law 295 (.aload_n 1) 1 296 := ⟨DL_law_c9.2.2.2.2.1, rfl⟩
theorem dL_law_296 : Dc cL_law 296 (.invokestatic 91) 3 299 := ⟨DL_law_c9.2.2.2.2.2.1, rfl⟩
theorem dL_law_299 : Dc cL_law 299 (.lstore 13) 2 301 := ⟨DL_law_c9.2.2.2.2.2.2.1, rfl⟩
theorem dL_law_301 : Dc cL_law 301 (.aload_n 1) 1 302 := ⟨DL_law_c9.2.2.2.2.2.2.2.1, rfl⟩
theorem dL_law_302 : Dc cL_law 302 (.iconst 2) 1 303 := ⟨DL_law_c9.2.2.2.2.2.2.2.2.1, rfl⟩
theorem dL_law_303 : Dc cL_law 303 (.invokevirtual 20) 3 306 := ⟨DL_law_c9.2.2.2.2.2.2.2.2.2.1, rfl⟩
theorem dL_law_306 : Dc cL_law 306 (.istore 15) 2 308 := ⟨DL_law_c9.2.2.2.2.2.2.2.2.2.2.1, rfl⟩
theorem dL_law_308 : Dc cL_law 308 (.aload_n 1) 1 309 := ⟨DL_law_c9.2.2.2.2.2.2.2.2.2.2.2.1, rfl⟩
theorem dL_law_309 : Dc cL_law 309 (.invokevirtual 109) 3 312 := ⟨DL_law_c9.2.2.2.2.2.2.2.2.2.2.2.2.1, rfl⟩
theorem dL_law_312 : Dc cL_law 312 (.iload 5) 2 314 := ⟨DL_law_c9.2.2.2.2.2.2.2.2.2.2.2.2.2.1, rfl⟩
theorem dL_law_314 : Db cL_law 314 (fun o => .if_icmp .ne o) 317 356 := ⟨42, DL_law_c9.2.2.2.2.2.2.2.2.2.2.2.2.2.2.1, rfl, rfl⟩
theorem dL_law_317 : Dc cL_law 317 (.aload_n 1) 1 318 := ⟨DL_law_c9.2.2.2.2.2.2.2.2.2.2.2.2.2.2.2, rfl⟩
theorem DL_law_c10 : decode cL_law 318 = .ok (.invokestatic 91, 3) ∧ decode cL_law 321 = .ok (.lload_n 3, 1) ∧ decode cL_law 322 = .ok (.lcmp, 1) ∧ decode cL_law 323 = .ok (.ifCond .ne 33, 3) ∧ decode cL_law 326 = .ok (.aload_n 1, 1) ∧ decode cL_law 327 = .ok (.invokevirtual 106, 3) ∧ decode cL_law 330 = .ok (.ifCond .lt 26, 3) ∧ decode cL_law 333 = .ok (.aload_n 1, 1) ∧ decode cL_law 334 = .ok (.invokestatic 91, 3) ∧ decode cL_law 337 = .ok (.lload 13, 2) ∧ decode cL_law 339 = .ok (.lcmp, 1) ∧ decode cL_law 340 = .ok (.ifCond .ne 16, 3) ∧ decode cL_law 343 = .ok (.aload_n 1, 1) ∧ decode cL_law 344 = .ok (.invokevirtual 115, 3) ∧ decode cL_law 347 = .ok (.iload 15, 2) ∧ decode cL_law 349 = .ok (.if_icmp .ne 7, 3) := by decide +kernel
theorem dL_law_318 : Dc cL_law 318 (.invokestatic 91) 3 321 := ⟨DL_law_c10.1, rfl⟩
theorem dL_law_321 : Dc cL_law 321 (.lload_n 3) 1 322 := ⟨DL_law_c10.2.1, rfl⟩
theorem dL_law_322 : Dc cL_law 322 (.lcmp) 1 323 := ⟨DL_law_c10.2.2.1, rfl⟩
theorem dL_law_323 : Db cL_law 323 (fun o => .ifCond .ne o) 326 356 := ⟨33, DL_law_c10.2.2.2.1, rfl, rfl⟩
theorem dL_law_326 : Dc cL_law 326 (.aload_n 1) 1 327 := ⟨DL_law_c10.2.2.2.2.1, rfl⟩
theorem dL_law_327 : Dc cL_law 327 (.invokevirtual 106) 3 330 := ⟨DL_law_c10.2.2.2.2.2.1, rfl⟩
theorem dL_law_330 : Db cL_law 330 (fun o => .ifCond .lt o) 333 356 := ⟨26, DL_law_c10.2.2.2.2.2.2.1, rfl, rfl⟩
theorem dL_law_333 : Dc cL_law 333 (.aload_n 1) 1 334 := ⟨DL_law_c10.2.2.2.2.2.2.2.1, rfl⟩
theorem dL_law_334 : Dc cL_law 334 (.invokestatic 91) 3 337 := ⟨DL_law_c10.2.2.2.2.2.2.2.2.1, rfl⟩
theorem dL_law_337 : Dc cL_law 337 (.lload 13) 2 339 := ⟨DL_law_c10.2.2.2.2.2.2.2.2.2.1, rfl⟩
theorem dL_law_339 : Dc cL_law 339 (.lcmp) 1 340 := ⟨DL_law_c10.2.2.2.2.2.2.2.2.2.2.1, rfl⟩
theorem dL_law_340 : Db cL_law 340 (fun o => .ifCond .ne o) 343 356 := ⟨16, DL_law_c10.2.2.2.2.2.2.2.2.2.2.2.1, rfl, rfl⟩
theorem dL_law_343 : Dc cL_law 343 (.aload_n 1) 1 344 := ⟨DL_law_c10.2.2.2.2.2.2.2.2.2.2.2.2.1, rfl⟩
theorem dL_law_344 : Dc cL_law 344 (.invokevirtual 115) 3 347 := ⟨DL_law_c10.2.2.2.2.2.2.2.2.2.2.2.2.2.1, rfl⟩
theorem dL_law_347 : Dc cL_law 347 (.iload 15) 2 349 := ⟨DL_law_c10.2.2.2.2.2.2.2.2.2.2.2.2.2.2.1, rfl⟩
theorem dL_law_349 : Db cL_law 349 (fun o => .if_icmp .ne o) 352 356 := ⟨7, DL_law_c10.2.2.2.2.2.2.2.2.2.2.2.2.2.2.2, rfl, rfl⟩
theorem DL_law_c11 : decode cL_law 352 = .ok (.iconst 1, 1) ∧ decode cL_law 353 = .ok (.goto 4, 3) ∧ decode cL_law 356 = .ok (.iconst 0, 1) ∧ decode cL_law 357 = .ok (.istore_n 2, 1) ∧ decode cL_law 358 = .ok (.lload 13, 2) ∧ decode cL_law 360 = .ok (.lstore_n 3, 1) ∧ decode cL_law 361 = .ok (.iload 15, 2) ∧ decode cL_law 363 = .ok (.istore 5, 2) ∧ decode cL_law 365 = .ok (.iinc 6 1, 3) ∧ decode cL_law 368 = .ok (.goto (-291), 3) ∧ decode cL_law 371 = .ok (.iload_n 2, 1) ∧ decode cL_law 372 = .ok (.ireturn, 1) := by decide +kernel
theorem dL_law_352 : Dc cL_law 352 (.iconst 1) 1 353 := ⟨DL_law_c11.1, rfl⟩
theorem dL_law_353 : Db cL_law 353 .goto 356 357 := ⟨4, DL_law_c11.2.1, rfl, rfl⟩
theorem dL_law_356 : Dc cL_law 356 (.iconst 0) 1 357 := ⟨DL_law_c11.2.2.1, rfl⟩
theorem dL_law_357 : Dc cL_law 357 (.istore_n 2) 1 358 := ⟨DL_law_c11.2.2.2.1, rfl⟩
theorem dL_law_358 : Dc cL_law 358 (.lload 13) 2 360 := ⟨DL_law_c11.2.2.2.2.1, rfl⟩
theorem dL_law_360 : Dc cL_law 360 (.lstore_n 3) 1 361 := ⟨DL_law_c11.2.2.2.2.2.1, rfl⟩
theorem dL_law_361 : Dc cL_law 361 (.iload 15) 2 363 := ⟨DL_law_c11.2.2.2.2.2.2.1, rfl⟩
theorem dL_law_363 : Dc cL_law 363 (.istore 5) 2 365 := ⟨DL_law_c11.2.2.2.2.2.2.2.1, rfl⟩
theorem dL_law_365 : Dc cL_law 365 (.iinc 6 1) 3 368 := ⟨DL_law_c11.2.2.2.2.2.2.2.2.1, rfl⟩
theorem dL_law_368 : Db cL_law 368 .goto 371 77 := ⟨-291, DL_law_c11.2.2.2.2.2.2.2.2.2.1, rfl, rfl⟩
theorem dL_law_371 : Dc cL_law 371 (.iload_n 2) 1 372 := ⟨DL_law_c11.2.2.2.2.2.2.2.2.2.2.1, rfl⟩
theorem dL_law_372 : Dc cL_law 372 (.ireturn) 1 373 := ⟨DL_law_c11.2.2.2.2.2.2.2.2.2.2.2, rfl⟩
